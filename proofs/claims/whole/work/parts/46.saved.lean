/-! WHAT CAN BE SAVED FROM RAIN -/
theorem op_skip (gain : Nat → Nat → Nat) (R C k S : Nat) : vs_op gain R C k S ≤ vs_op gain R C (k + 1) S := by
  have z := vs_opQ_mono gain R C k S 0 C
  rw [Nat.zero_add, ← vs_op_s] at z
  exact z
theorem op_take {gain : Nat → Nat → Nat} {R C k S b : Nat} (hb : b < C) (h1 : S.testBit b = false) (h2 : ¬ gain (R - (k + 1)) b = 0) : gain (R - (k + 1)) b + vs_op gain R C k (bset S b) ≤ vs_op gain R C (k + 1) S := by
  have z := vs_opQ_mono gain R C k S (b + 1) (C - (b + 1))
  rw [show b + 1 + (C - (b + 1)) = C by omega, ← vs_op_s, vs_opQ_s, op_g, if_neg (fun q => q.elim (fun q => by rw [h1] at q; cases q) h2)] at z
  omega
theorem op_ex {gain : Nat → Nat → Nat} {R C k S : Nat} : vs_op gain R C (k + 1) S = vs_op gain R C k S ∨ ∃ b, b < C ∧ S.testBit b = false ∧ ¬ gain (R - (k + 1)) b = 0 ∧ gain (R - (k + 1)) b + vs_op gain R C k (bset S b) = vs_op gain R C (k + 1) S := by
  by_cases h : vs_op gain R C k S = vs_op gain R C (k + 1) S
  · exact Or.inl h.symm
  · obtain ⟨b, hb, q⟩ := op_hit_ex h
    unfold op_hit at q
    rw [Bool.and_eq_true, Bool.and_eq_true, decide_eq_true_iff, decide_eq_true_iff] at q
    exact Or.inr ⟨b, hb, by cases e : S.testBit b; rfl; rw [e] at q; exact absurd q.1 (by decide), q.2.1, q.2.2⟩
/-- the first k rows can be put on the columns S, one each or none -/
def rc_g (g : Nat → Nat → Nat) : Nat → Nat → Bool
  | 0, S => decide (S = 0)
  | k + 1, S => rc_g g k S || vs_any (fun b => S.testBit b && (decide (¬ g k b = 0) && rc_g g k (S - 2 ^ b))) 8
def rc_Q (g : Nat → Nat → Nat) (k S n : Nat) : Bool := rc_g g k S || vs_any (fun b => S.testBit b && (decide (¬ g k b = 0) && rc_g g k (S - 2 ^ b))) n
theorem rc_Q_s (g : Nat → Nat → Nat) (k S n : Nat) : rc_Q g k S (n + 1) = (rc_Q g k S n || (S.testBit n && (decide (¬ g k n = 0) && rc_g g k (S - 2 ^ n)))) := by
  unfold rc_Q; rw [vs_any_s, Bool.or_assoc]
theorem rc_Q_0 (g : Nat → Nat → Nat) (k S : Nat) : rc_Q g k S 0 = rc_g g k S := by unfold rc_Q; rw [vs_any_f (fun j hj => absurd hj (by omega)), Bool.or_false]
theorem rc_skip {g : Nat → Nat → Nat} {k : Nat} (h : ∀ b, b < 8 → g k b = 0) (S : Nat) : rc_g g (k + 1) S = rc_g g k S := by
  show (rc_g g k S || vs_any _ 8) = _
  rw [vs_any_f (fun b hb => by rw [h b hb]; simp), Bool.or_false]
theorem pc_set : ∀ S, S < 256 → ∀ b, b < 8 → S.testBit b = false → vs_pc (bset S b) = vs_pc S + 1 := by decide +kernel
theorem pc_clr : ∀ S, S < 256 → ∀ b, b < 8 → S.testBit b = true → vs_pc S = vs_pc (S - 2 ^ b) + 1 := by decide +kernel
theorem bset_is : ∀ S, S < 256 → ∀ b, b < 8 → (bset S b).testBit b = true := by decide +kernel
theorem vs_any_ex {p : Nat → Bool} {n : Nat} (h : vs_any p n = true) : ∃ b, b < n ∧ p b = true := by
  unfold vs_any at h
  obtain ⟨b, hb, q⟩ := List.any_eq_true.mp h
  exact ⟨b, List.mem_range.mp hb, q⟩
theorem rc_up {g : Nat → Nat → Nat} : ∀ k, k ≤ 8 → ∀ S, S < 256 → rc_g g k S = true → vs_pc S + vs_op g 8 8 (8 - k) S ≤ vs_op g 8 8 8 0
  | 0, _, S, _, h => by
    have e : S = 0 := of_decide_eq_true h
    subst e
    have z : vs_pc 0 = 0 := by decide +kernel
    rw [z]; show 0 + vs_op g 8 8 8 0 ≤ _; omega
  | k + 1, hk, S, hS, h => by
    have ih := rc_up (g := g) k (by omega)
    have e8 : 8 - k = 8 - (k + 1) + 1 := by omega
    have ek : 8 - (8 - (k + 1) + 1) = k := by omega
    have h : (rc_g g k S || vs_any (fun b => S.testBit b && (decide (¬ g k b = 0) && rc_g g k (S - 2 ^ b))) 8) = true := h
    rw [Bool.or_eq_true] at h
    rcases h with h | h
    · have := ih S hS h
      have := op_skip g 8 8 (8 - (k + 1)) S
      rw [← e8] at this; omega
    · obtain ⟨b, hb, q⟩ := vs_any_ex h
      rw [Bool.and_eq_true, Bool.and_eq_true, decide_eq_true_iff] at q
      obtain ⟨q1, q2, q3⟩ := q
      obtain ⟨c1, c2⟩ := bclr_set S hS b hb q1
      have := ih (S - 2 ^ b) (Nat.lt_of_le_of_lt (Nat.sub_le _ _) hS) q3
      have hp := pc_clr S hS b hb q1
      have ht := op_take (gain := g) (R := 8) (C := 8) (k := 8 - (k + 1)) (S := S - 2 ^ b) hb c2 (by rw [ek]; exact q2)
      rw [ek, c1, ← e8] at ht
      omega
theorem rc_at {g : Nat → Nat → Nat} (h1 : ∀ a b, g a b ≤ 1) : ∀ k, k ≤ 8 → ∃ S, S < 256 ∧ rc_g g k S = true ∧ vs_pc S + vs_op g 8 8 (8 - k) S = vs_op g 8 8 8 0
  | 0, _ => ⟨0, by omega, rfl, by have z : vs_pc 0 = 0 := (by decide +kernel); rw [z]; show 0 + vs_op g 8 8 8 0 = _; omega⟩
  | k + 1, hk => by
    obtain ⟨S, hS, r, e⟩ := rc_at h1 k (by omega)
    have e8 : 8 - k = 8 - (k + 1) + 1 := by omega
    have ek : 8 - (8 - (k + 1) + 1) = k := by omega
    rw [e8] at e
    rcases op_ex (gain := g) (R := 8) (C := 8) (k := 8 - (k + 1)) (S := S) with q | ⟨b, hb, q1, q2, q3⟩
    · exact ⟨S, hS, by show (rc_g g k S || _) = true; rw [r]; rfl, by rw [← q]; exact e⟩
    · rw [ek] at q2 q3
      refine ⟨bset S b, bset_256 S hS b hb, ?_, ?_⟩
      · show (rc_g g k (bset S b) || vs_any _ 8) = true
        rw [vs_any_t hb (by rw [bset_is S hS b hb, bset_clr S hS b hb q1, r, decide_eq_true q2]; rfl), Bool.or_true]
      · have := pc_set S hS b hb q1
        have := h1 k b
        omega
/-- the most of the first n sets that can be -/
def sv_mx (g : Nat → Nat → Nat) (n : Nat) : Nat := vf n (fun S s => if rc_g g 8 S = true then max s (vs_pc S) else s) 0
theorem sv_mx_s (g : Nat → Nat → Nat) (n : Nat) : sv_mx g (n + 1) = if rc_g g 8 n = true then max (sv_mx g n) (vs_pc n) else sv_mx g n := rfl
theorem sv_mx_le {g : Nat → Nat → Nat} {n : Nat} (hn : n ≤ 256) : sv_mx g n ≤ vs_op g 8 8 8 0 := by
  induction n with
  | zero => exact Nat.zero_le _
  | succ n ih =>
    have := ih (by omega)
    rw [sv_mx_s]
    split
    · rename_i q
      have := rc_up 8 (by omega) n (by omega) q
      omega
    · exact this
theorem sv_mx_ge {g : Nat → Nat → Nat} {S n : Nat} (hS : S < n) (h : rc_g g 8 S = true) : vs_pc S ≤ sv_mx g n := by
  induction n with
  | zero => omega
  | succ n ih =>
    rw [sv_mx_s]
    by_cases q : S = n
    · subst q; rw [if_pos h]; omega
    · have := ih (by omega)
      split <;> omega
theorem sv_mx_eq {g : Nat → Nat → Nat} (h1 : ∀ a b, g a b ≤ 1) : sv_mx g 256 = vs_op g 8 8 8 0 := by
  obtain ⟨S, hS, r, e⟩ := rc_at h1 8 (by omega)
  have a := sv_mx_ge hS r
  have b := sv_mx_le (g := g) (n := 256) (by omega)
  have z : vs_op g 8 8 (8 - 8) S = 0 := rfl
  omega
/-- a cell of the reference's row: -1 when it can't be -/
def sv_v (b : Bool) (S : Nat) : Int32 := if b = true then nI (vs_pc S) else -1
theorem sv_v_n {b : Bool} {S : Nat} (h : sv_v b S = -1) : b = false := by
  cases b
  · rfl
  · have z := vs_pcb S
    exact absurd (show nI (vs_pc S) = -1 from h) (nI_m1c (by omega))
theorem sv_v_y {b : Bool} {S : Nat} (h : ¬ sv_v b S = -1) : b = true := by
  cases b
  · exact absurd rfl h
  · rfl
theorem sv_gr {b : Bool} {S : Nat} : (if sv_v b S ≤ nI (vs_pc S) then nI (vs_pc S) else sv_v b S) = nI (vs_pc S) := by
  cases b
  · have z := vs_pcb S
    rw [if_pos]
    show (-1 : Int32) ≤ nI (vs_pc S)
    exact Int32.le_trans (by decide : (-1 : Int32) ≤ nI 0) (nI_le (by omega) (by omega))
  · show (if nI (vs_pc S) ≤ nI (vs_pc S) then nI (vs_pc S) else nI (vs_pc S)) = _
    split <;> rfl
theorem sv_mxN {g : Nat → Nat → Nat} {n : Nat} (hn : n < 256) : (if nI (sv_mx g n) ≤ sv_v (rc_g g 8 n) n then sv_v (rc_g g 8 n) n else nI (sv_mx g n)) = nI (sv_mx g (n + 1)) := by
  have a : sv_mx g n ≤ 72 := by
    have a1 : ∀ k, sv_mx g k ≤ 31 := fun k => by
      induction k with
      | zero => exact Nat.zero_le _
      | succ k ih => rw [sv_mx_s]; have := vs_pcb k; split <;> omega
    have := a1 n; omega
  have b := vs_pcb n
  rw [sv_mx_s]
  cases rc_g g 8 n
  · rw [if_neg (show ¬ false = true by decide)]
    show (if nI (sv_mx g n) ≤ -1 then -1 else nI (sv_mx g n)) = _
    rw [if_neg]
    intro z
    have z2 := Int32.le_trans (nI_le (show 0 ≤ sv_mx g n by omega) (by omega)) z
    exact absurd z2 (by decide)
  · rw [if_pos rfl]
    show (if nI (sv_mx g n) ≤ nI (vs_pc n) then nI (vs_pc n) else nI (sv_mx g n)) = _
    by_cases q : sv_mx g n ≤ vs_pc n
    · rw [if_pos (nI_le q (by omega)), Nat.max_eq_right q]
    · rw [if_neg (Int32.not_le.mpr (nI_lt (by omega) (by omega))), Nat.max_eq_left (by omega)]
/-- the meetings of h in wet quarters, and where they can go -/
def sv_to (D : lwD) (m : Nat → Int32) (H h : Nat) (w : Int32) (q : Nat) : Int32 := vs_freeK m h 8 &&& (w ^^^ -1) &&& m (43 + 3 * (m (195 + 8 * h + q)).toNatClampNeg + 1) &&& (vs_busyK m (m (195 + 8 * h + q)) H ^^^ -1)
def sv_g (D : lwD) (m : Nat → Int32) (H h : Nat) (w : Int32) (q b : Nat) : Nat := if bt (vs_mq D m h 8 &&& w) q = true ∧ bt (sv_to D m H h w q) b = true then 1 else 0
theorem sv_g_le (D : lwD) (m : Nat → Int32) (H h : Nat) (w : Int32) : ∀ a b, gcut (sv_g D m H h w) 8 8 a b ≤ 1 := gcut_le (fun a b _ _ => by unfold sv_g; split <;> omega) (by omega) (by omega)
def sp_saved (D : lwD) (m : Nat → Int32) (H : Nat) (v w : Int32) : Nat × Int32 := if vs_isN v H then (0, nI (vs_op (gcut (sv_g D m H v.toNatClampNeg w) 8 8) 8 8 8 0)) else (1, nI 0)
theorem sv_mv {D : lwD} {m : Nat → Int32} {h q : Nat} {w : Int32} (hq : q < 8) (e : bt (vs_mq D m h 8 &&& w) q = true) : vs_mt D m h q = true := by
  rw [b_and, vs_mq_b (by omega) 8 (by omega), Bool.and_eq_true, Bool.and_eq_true] at e; exact e.1.2
section AM46
variable {l : Launch} {E : mx_Env} {t : Nat} {S : mx_S} {I : mx_I} {P : mx_P} {J : mx_G} {m : Nat → Int32} {x mo H G n s la : Nat} {D : lwD}
theorem al_skip {I K : mx_I} {ma : Nat} {g : Nat → Nat → Nat} {C a : Nat} (h : al_inv I K ma g C a 0) (h0 : ∀ b, b < 8 → g a b = 0) : al_inv I K ma g C (a + 1) 0 := ⟨h.1, fun i j hi hj => by
  rw [h.2 i j hi hj]
  by_cases e : i = a
  · subst e
    rw [if_neg (by omega)]
    split
    · rw [h0 j hj]
    · rfl
  · congr 1
    by_cases q : (i < a ∨ i = a ∧ j < 0) ∧ j < C
    · rw [if_pos q, if_pos (by omega)]
    · rw [if_neg q, if_neg (by omega)]⟩
theorem c_Vh_saved (htr : l.stackTraces = false) (hV : vh_ok S P x) (hSt : st_ok S P (x + 23)) (hSr : st_rel I (x + 23) m) (hH : m 3 = nI H) (hH8 : H ≤ 8) (hMa : ma_ok S P (x + 9)) (hla : P (x + 23) 2 = some la) (hLw : la_is S P I la D) (hd : la + 6 ≤ x + 23 ∨ x + 23 + 15 ≤ la) (hl17 : x + 17 ≤ la) (hr : rk9 m) (hbr : br_ok m G) (hG8 : G ≤ 8) {v w : Int32} : mx_C l E M_Vh_saved 7 1 6 [.ref (x), .int (v), .int (w)] (t, S, I, P, J) (mx_pR (fun _ => "java/lang/IndexOutOfBoundsException") (sp_saved D m H v w) t S P J (fun K => mx_off (fun c => zs (x + 23) la c ∨ (x + 9 ≤ c ∧ c ≤ x + 11)) I K)) := by
  obtain ⟨hV0, hVp0, hVp1, hVp2, hVp3, hVp4, hVp5, hVp7, hVp8, hVp9, hVp10, hVp11, hVp12, hVs15, hVs16, hVs68⟩ := id hV
  obtain ⟨hC0, hC1, hC2, hC3, hC4, hC5, hC6, hD1, hD2, hD3, hD4, hPe, hLo⟩ := id hSt
  obtain ⟨hPr, u0, u1, u2, u3, u4, u5, u6, u7, u8⟩ := id hSr
  obtain ⟨hA0, hA1, hA2, hA3, hA4, hA5, hA6, hA7, hB1, hB2, hB3, hB4, hB5, hB6, hB7⟩ := id hPe
  obtain ⟨r0, r1, r2, r3, r4, r5, r6, r7, r8⟩ := id hPr
  have hSrI := hSr
  have hLwI := hLw
  have hMz := hMa.1
  refine mx_C_of (ls0 := [some (.ref (x)), some (.int (v)), some (.int (w)), none, none, none, none, none, none]) (by decide +kernel) rfl rfl (Nat.le_of_ble_eq_true rfl) rfl ?_
  refine mx_al0 d_Vh_saved_0 ?_
  refine mx_il1 d_Vh_saved_1 ?_
  refine mx_nV1 d_Vh_saved_2 (c_needHost htr hV hSt hSr hH hH8) ok_Vh_needHost ml_Vh_159 (by assumption) ⟨rfl, rfl⟩ rfl (by decide) (by decide) (by decide) (Nat.le_of_ble_eq_true rfl) (fun hb2 t9 ht => mx_pR_x ht 0 (by simp_all [sp_saved]) rfl mx_off.rf) (fun hb2 => ?_)
  obtain ⟨h, hhL, rfl⟩ := vs_isN_of (by omega) hb2
  have hhc : (nI h).toNatClampNeg = h := nI_clamp (by omega)
  have hhL8 : h < 8 := by omega
  refine mx_al0 d_Vh_saved_5 ?_
  refine mx_getR d_Vh_saved_6 fl_Vh_23 (by assumption) (by assumption) ?_
  refine mx_bip 8 d_Vh_saved_9 (by decide) ?_
  refine mx_bip 8 d_Vh_saved_11 (by decide) ?_
  refine mx_cV2v d_Vh_saved_13 (c_Ma_begin hMa (R := 8) (C := 8)) ok_Ma_begin ml_Vh_336 (by assumption) ⟨rfl, rfl⟩ (by decide) (Nat.le_of_ble_eq_true rfl) ?_
  have hfl : ∀ c, c ≠ x + 9 → c ≠ x + 9 + 1 → (vs_fill (mx_up (mx_up I (x + 9) 0 (nI (8))) (x + 9) 1 (nI (8))) (x + 9 + 1) 64 (nI (0))) c = I c := fun c h1 h2 => by funext j; simp [vs_fill, mx_up, h1, h2]
  have hSr1 : st_rel (vs_fill (mx_up (mx_up I (x + 9) 0 (nI (8))) (x + 9) 1 (nI (8))) (x + 9 + 1) 64 (nI (0))) (x + 23) m := hSr.congr (fun c h1 h2 => hfl c (by omega) (by omega))
  have hLw1 : la_is S P (vs_fill (mx_up (mx_up I (x + 9) 0 (nI (8))) (x + 9) 1 (nI (8))) (x + 9 + 1) 64 (nI (0))) la D := ⟨hLw.1, hLw.2.1.congr (fun c h1 h2 => hfl c (by omega) (by omega)), hLw.2.2⟩
  refine mx_al0 d_Vh_saved_16 ?_
  refine mx_getR d_Vh_saved_17 fl_Vh_51 (by assumption) (by assumption) ?_
  refine mx_il1 d_Vh_saved_20 ?_
  refine mx_cV1i d_Vh_saved_21 (c_St_freeOf hSt hSr1 (h := h) (by omega)) ok_St_freeOf ml_Vh_184 (by assumption) ⟨rfl, rfl⟩ (by decide) (Nat.le_of_ble_eq_true rfl) ?_
  refine mx_il2 d_Vh_saved_24 ?_
  refine mx_ic_m1 d_Vh_saved_25 ?_
  refine mx_ixor d_Vh_saved_26 ?_
  refine mx_iand d_Vh_saved_27 ?_
  refine mx_is3 d_Vh_saved_28 ?_
  refine mx_al0 d_Vh_saved_29 ?_
  refine mx_getR d_Vh_saved_30 fl_Vh_51 (by assumption) (by assumption) ?_
  refine mx_il1 d_Vh_saved_33 ?_
  refine mx_cV1iR d_Vh_saved_34 (c_St_meetingQuarters hSt hSr1 hla hLw1 hd hr hbr hG8 (h := h) (by omega)) ok_St_meetingQuarters ml_Vh_371 (by assumption) ⟨rfl, rfl⟩ (by decide) (Nat.le_of_ble_eq_true rfl) (fun K1 hK1 => ?_)
  refine mx_il2 d_Vh_saved_37 ?_
  refine mx_iand d_Vh_saved_38 ?_
  refine mx_is4 d_Vh_saved_39 ?_
  refine mx_in_0 d_Vh_saved_41 ?_
  have hK10 : ∀ i, i < 64 → K1 (x + 9 + 1) i = nI 0 := fun i hi => by rw [hK1 _ (by unfold zs; omega)]; simp [vs_fill, hi]
  refine mx_is5 d_Vh_saved_42 ?_
  refine mx_loopX (α := (mx_I)) (N := 8) (a0 := K1) (fun a z9 => al_inv K1 z9 (x + 9) (sv_g D m H h w) 8 a 0) (ls := fun a z9 => [some (.ref (x)), some (.int (nI (h))), some (.int (w)), some (.int (((vs_freeK m h 8) &&& (w ^^^ (-1))))), some (.int (((vs_mq D m h 8) &&& w))), some (.int (nI (a))), none, none, none]) (X := fun a z9 => (t, S, z9, P, J)) (al_inv0 hK10) (fun a ha z9 hinv ih => ?_) (fun z9 hinv => ?_)
  · skip
    obtain ⟨K, hz9⟩ : ∃ q, q = z9 := ⟨_, rfl⟩
    subst hz9
    try dsimp only at hinv ih ⊢
    have hKI : ∀ c, c ≠ x + 9 + 1 → ¬ zs (x + 23) la c → c ≠ x + 9 → K c = I c := fun c h1 h2 h3 => by rw [mx_offn hinv.1 h1, hK1 c h2]; funext j; simp [vs_fill, mx_up, h1, h3]
    have hSr : st_rel K (x + 23) m := hSrI.cg (fun c h1 h2 => hKI c (by omega) (by unfold zs; omega) (by omega))
    have hPr := hSr.1
    refine mx_il5 d_Vh_saved_44 ?_
    refine mx_bip 8 d_Vh_saved_46 (by decide) ?_
    refine mx_icN_ge 161 d_Vh_saved_48 (by decide) (by omega) (by omega) (fun c_48 => absurd c_48 (by omega)) (fun c_48 => ?_)
    refine mx_al0 d_Vh_saved_51 ?_
    refine mx_getR d_Vh_saved_52 fl_Vh_51 (by assumption) (by assumption) ?_
    refine mx_il1 d_Vh_saved_55 ?_
    refine mx_il5 d_Vh_saved_56 ?_
    refine mx_cV2i d_Vh_saved_58 (c_St_guestAt hSt hSr (h := h) (q := a) (by omega) (by omega)) ok_St_guestAt ml_Vh_229 (by assumption) ⟨rfl, rfl⟩ (by decide) (Nat.le_of_ble_eq_true rfl) ?_
    refine mx_is6 d_Vh_saved_61 ?_
    refine mx_il4 d_Vh_saved_63 ?_
    refine mx_il5 d_Vh_saved_65 ?_
    refine mx_cS2i d_Vh_saved_67 (c_has (j := a) (by omega)) ok_Vh_has ml_Vh_248 (by decide) (Nat.le_of_ble_eq_true rfl) ?_
    refine mx_ifB_eq 155 d_Vh_saved_70 (by decide) (fun c_70 => ?_) (fun c_70 => ?_)
    · skip
      rw [vs_has_bt (by omega)] at c_70
      refine mx_iN5 d_Vh_saved_155 ?_
      refine mx_goto 44 d_Vh_saved_158 (by decide) ?_
      refine mx_dn6 ?_
      exact ih K (by first | exact al_next hinv | exact absurd (sv_mv (by omega) c_70) (by rw [vs_mt_n c_76]; decide) | exact al_skip hinv (fun b _ => by unfold sv_g; rw [if_neg (fun z => by rw [c_70] at z; exact absurd z.1 (by decide))]))
    · skip
      rw [vs_has_bt (by omega)] at c_70
      refine mx_il6 d_Vh_saved_73 ?_
      refine mx_ic_m1 d_Vh_saved_75 ?_
      refine mx_icmp_ne 82 d_Vh_saved_76 (by decide) (fun c_76 => ?_) (fun c_76 => ?_)
      · skip
        obtain ⟨g, hgL, eg⟩ := (hbr h a (by omega) (by omega)).resolve_left c_76
        have hg8 : g < 8 := by omega
        have eto : (sv_to D m H h w a) = vs_freeK m h 8 &&& (w ^^^ -1) &&& m (43 + 3 * g + 1) &&& (vs_busyK m (nI g) H ^^^ -1) := by unfold sv_to; rw [eg, nI_clamp (by omega)]
        rw [eg]
        refine mx_il3 d_Vh_saved_82 ?_
        refine mx_al0 d_Vh_saved_83 ?_
        refine mx_getR d_Vh_saved_84 fl_Vh_51 (by assumption) (by assumption) ?_
        refine mx_getR d_Vh_saved_87 fl_Vh_162 (by assumption) (by assumption) ?_
        refine mx_getR d_Vh_saved_90 fl_Vh_205 (by assumption) (by assumption) ?_
        refine mx_il6 d_Vh_saved_93 ?_
        refine mx_cS2i d_Vh_saved_95 (c_get (k := g) (by assumption) (by omega) (by omega)) ok_Vh_get ml_Vh_171 (by decide) (Nat.le_of_ble_eq_true rfl) ?_
        refine mx_ti (y := (m (43 + 3 * g + 1))) (hPr.2.2.2.2.2.1 g (by omega)) ?_
        refine mx_iand d_Vh_saved_98 ?_
        refine mx_al0 d_Vh_saved_99 ?_
        refine mx_getR d_Vh_saved_100 fl_Vh_51 (by assumption) (by assumption) ?_
        refine mx_il6 d_Vh_saved_103 ?_
        refine mx_cV1i d_Vh_saved_105 (c_St_busyOf hSt hSr hH hH8) ok_St_busyOf ml_Vh_211 (by assumption) ⟨rfl, rfl⟩ (by decide) (Nat.le_of_ble_eq_true rfl) ?_
        refine mx_ic_m1 d_Vh_saved_108 ?_
        refine mx_ixor d_Vh_saved_109 ?_
        refine mx_iand d_Vh_saved_110 ?_
        refine mx_is7 d_Vh_saved_111 ?_
        refine mx_in_0 d_Vh_saved_113 ?_
        refine mx_is8 d_Vh_saved_114 ?_
        have ih44 := ih
        have hinv44 := hinv
        refine mx_loopX (α := (mx_I)) (N := 8) (a0 := K) (fun b z9 => al_inv K1 z9 (x + 9) (sv_g D m H h w) 8 a b) (ls := fun b z9 => [some (.ref (x)), some (.int (nI (h))), some (.int (w)), some (.int (((vs_freeK m h 8) &&& (w ^^^ (-1))))), some (.int (((vs_mq D m h 8) &&& w))), some (.int (nI (a))), some (.int (nI (g))), some (.int (((((vs_freeK m h 8) &&& (w ^^^ (-1))) &&& (m (43 + 3 * g + 1))) &&& ((vs_busyK m (nI g) H) ^^^ (-1))))), some (.int (nI (b)))]) (X := fun b z9 => (t, S, z9, P, J)) (hinv) (fun b hb z9 hinv ih => ?_) (fun z9 hinv => ?_)
        · skip
          obtain ⟨K, hz9⟩ : ∃ q, q = z9 := ⟨_, rfl⟩
          subst hz9
          try dsimp only at hinv ih ⊢
          have hKI : ∀ c, c ≠ x + 9 + 1 → ¬ zs (x + 23) la c → c ≠ x + 9 → K c = I c := fun c h1 h2 h3 => by rw [mx_offn hinv.1 h1, hK1 c h2]; funext j; simp [vs_fill, mx_up, h1, h3]
          have hSr : st_rel K (x + 23) m := hSrI.cg (fun c h1 h2 => hKI c (by omega) (by unfold zs; omega) (by omega))
          have hPr := hSr.1
          refine mx_il8 d_Vh_saved_116 ?_
          refine mx_bip 8 d_Vh_saved_118 (by decide) ?_
          refine mx_icN_ge 155 d_Vh_saved_120 (by decide) (by omega) (by omega) (fun c_120 => absurd c_120 (by omega)) (fun c_120 => ?_)
          refine mx_al0 d_Vh_saved_123 ?_
          refine mx_getR d_Vh_saved_124 fl_Vh_23 (by assumption) (by assumption) ?_
          refine mx_il5 d_Vh_saved_127 ?_
          refine mx_il8 d_Vh_saved_129 ?_
          refine mx_il7 d_Vh_saved_131 ?_
          refine mx_il8 d_Vh_saved_133 ?_
          refine mx_cS2i d_Vh_saved_135 (c_has (j := b) (by omega)) ok_Vh_has ml_Vh_248 (by decide) (Nat.le_of_ble_eq_true rfl) ?_
          refine mx_ifB_eq 145 d_Vh_saved_138 (by decide) (fun c_138 => ?_) (fun c_138 => ?_)
          · skip
            rw [vs_has_bt (by omega)] at c_138
            refine mx_in_0 d_Vh_saved_145 ?_
            refine mx_cV3v d_Vh_saved_146 (c_Ma_allow hMa (a := a) (b := b) (by omega) (by omega)) ok_Ma_allow ml_Vh_339 (by assumption) ⟨rfl, rfl⟩ (by decide) (Nat.le_of_ble_eq_true rfl) ?_
            refine mx_iN8 d_Vh_saved_149 ?_
            refine mx_goto 116 d_Vh_saved_152 (by decide) ?_
            exact ih (mx_up K (x + 9 + 1) (8 * (a) + b) (nI (0))) (al_step (by omega) (by omega) hinv (by unfold sv_g; rw [eto]; first | (rw [if_pos ⟨c_70, c_138⟩]; done) | (rw [if_neg (fun z => by rw [c_138] at z; exact absurd z.2 (by decide))]; done)))
          · skip
            rw [vs_has_bt (by omega)] at c_138
            refine mx_in_1 d_Vh_saved_141 ?_
            refine mx_goto 146 d_Vh_saved_142 (by decide) ?_
            refine mx_cV3v d_Vh_saved_146 (c_Ma_allow hMa (a := a) (b := b) (by omega) (by omega)) ok_Ma_allow ml_Vh_339 (by assumption) ⟨rfl, rfl⟩ (by decide) (Nat.le_of_ble_eq_true rfl) ?_
            refine mx_iN8 d_Vh_saved_149 ?_
            refine mx_goto 116 d_Vh_saved_152 (by decide) ?_
            exact ih (mx_up K (x + 9 + 1) (8 * (a) + b) (nI (1))) (al_step (by omega) (by omega) hinv (by unfold sv_g; rw [eto]; first | (rw [if_pos ⟨c_70, c_138⟩]; done) | (rw [if_neg (fun z => by rw [c_138] at z; exact absurd z.2 (by decide))]; done)))
        · skip
          obtain ⟨K, hz9⟩ : ∃ q, q = z9 := ⟨_, rfl⟩
          subst hz9
          try dsimp only at hinv ⊢
          have hKI : ∀ c, c ≠ x + 9 + 1 → ¬ zs (x + 23) la c → c ≠ x + 9 → K c = I c := fun c h1 h2 h3 => by rw [mx_offn hinv.1 h1, hK1 c h2]; funext j; simp [vs_fill, mx_up, h1, h3]
          have hSr : st_rel K (x + 23) m := hSrI.cg (fun c h1 h2 => hKI c (by omega) (by unfold zs; omega) (by omega))
          have hPr := hSr.1
          refine mx_il8 d_Vh_saved_116 ?_
          refine mx_bip 8 d_Vh_saved_118 (by decide) ?_
          refine mx_icN_ge 155 d_Vh_saved_120 (by decide) (by omega) (by omega) (fun c_120 => ?_) (fun c_120 => absurd c_120 (by omega))
          refine mx_iN5 d_Vh_saved_155 ?_
          refine mx_goto 44 d_Vh_saved_158 (by decide) ?_
          refine mx_dn6 ?_
          refine mx_dn7 ?_
          refine mx_dn8 ?_
          exact ih K (by first | exact al_next hinv | exact absurd (sv_mv (by omega) c_70) (by rw [vs_mt_n c_76]; decide) | exact al_skip hinv (fun b _ => by unfold sv_g; rw [if_neg (fun z => by rw [c_70] at z; exact absurd z.1 (by decide))]))
      · skip
        refine mx_goto 155 d_Vh_saved_79 (by decide) ?_
        refine mx_iN5 d_Vh_saved_155 ?_
        refine mx_goto 44 d_Vh_saved_158 (by decide) ?_
        refine mx_dn6 ?_
        exact ih K (by first | exact al_next hinv | exact absurd (sv_mv (by omega) c_70) (by rw [vs_mt_n c_76]; decide) | exact al_skip hinv (fun b _ => by unfold sv_g; rw [if_neg (fun z => by rw [c_70] at z; exact absurd z.1 (by decide))]))
  · skip
    obtain ⟨K, hz9⟩ : ∃ q, q = z9 := ⟨_, rfl⟩
    subst hz9
    try dsimp only at hinv ⊢
    have hMR : ma_rel K (x + 9) (gcut (sv_g D m H h w) 8 8) 8 8 := ⟨by rw [mx_offn hinv.1 (by omega), hK1 _ (by unfold zs; omega)]; simp [vs_fill, mx_up], by rw [mx_offn hinv.1 (by omega), hK1 _ (by unfold zs; omega)]; simp [vs_fill, mx_up], al_end hinv⟩
    refine mx_il5 d_Vh_saved_44 ?_
    refine mx_bip 8 d_Vh_saved_46 (by decide) ?_
    refine mx_icN_ge 161 d_Vh_saved_48 (by decide) (by omega) (by omega) (fun c_48 => ?_) (fun c_48 => absurd c_48 (by omega))
    refine mx_al0 d_Vh_saved_161 ?_
    refine mx_getR d_Vh_saved_162 fl_Vh_23 (by assumption) (by assumption) ?_
    refine mx_cV0vR d_Vh_saved_165 (c_Ma_solve hMa hMR (fun a b => Nat.le_trans (sv_g_le D m H h w a b) (by omega)) (by omega) (by omega)) ok_Ma_solve ml_Vh_342 (by assumption) ⟨rfl, rfl⟩ (by decide) (Nat.le_of_ble_eq_true rfl) (fun K2 hK2 => ?_)
    refine mx_al0 d_Vh_saved_168 ?_
    refine mx_getR d_Vh_saved_169 fl_Vh_23 (by assumption) (by assumption) ?_
    refine mx_cV0i d_Vh_saved_172 (c_Ma_total hMa hK2.2) ok_Ma_total ml_Vh_345 (by assumption) ⟨rfl, rfl⟩ (by decide) (Nat.le_of_ble_eq_true rfl) ?_
    exact mx_iret d_Vh_saved_175 rfl (mx_pR_i (by simp [sp_saved, *]) (fun c hc => by rw [hK2.1 c (fun z => hc (Or.inr (by have z : c = x + 9 + 2 := z; omega))), mx_offn hinv.1 (fun z => hc (Or.inr (by omega))), hK1 c (fun z => hc (Or.inl z))]; exact hfl c (fun z => hc (Or.inr (by omega))) (fun z => hc (Or.inr (by omega)))))
theorem sv_ini {K : mx_I} {i : Nat} {v : Int32} (h : ∀ j, j < i → K (mo + 10) j = sv_v (decide (j = 0)) j) (hv : v = sv_v (decide (i = 0)) i) : ∀ j, j < i + 1 → mx_up K (mo + 10) i v (mo + 10) j = sv_v (decide (j = 0)) j := fun j hj => by
  by_cases e : j = i
  · subst e; rw [← hv]; simp [mx_up]
  · rw [← h j (by omega)]; unfold mx_up; rw [if_neg (fun z => e z.2)]
theorem sv_0n {i : Nat} (h : ¬ i = 0) : (-1 : Int32) = sv_v (decide (i = 0)) i := by rw [decide_eq_false h]; rfl
theorem sv_00 {i : Nat} (h : i = 0) : nI 0 = sv_v (decide (i = 0)) i := by subst h; decide +kernel
theorem gcut_8 {g : Nat → Nat → Nat} {q b : Nat} (hq : q < 8) (hb : b < 8) : gcut g 8 8 q b = g q b := if_pos ⟨hq, hb⟩
theorem sv_gt {h q b : Nat} {w : Int32} (hq : q < 8) (hb : b < 8) (e : bt (vs_mq D m h 8 &&& w) q = true) : decide (¬ gcut (sv_g D m H h w) 8 8 q b = 0) = bt (sv_to D m H h w q) b := by
  rw [gcut_8 hq hb, sv_g, e]
  cases bt (sv_to D m H h w q) b
  · rw [if_neg (fun z => absurd z.2 (by decide))]; rfl
  · rw [if_pos ⟨rfl, rfl⟩]; rfl
theorem sv_g0 {h q : Nat} {w : Int32} (e : bt (vs_mq D m h 8 &&& w) q = false) (b : Nat) : gcut (sv_g D m H h w) 8 8 q b = 0 := by
  unfold gcut
  split
  · unfold sv_g; rw [if_neg (fun z => by rw [e] at z; exact absurd z.1 (by decide))]
  · rfl
def sv_at (K : mx_I) (mo : Nat) (g : Nat → Nat → Nat) (q : Nat) : Prop := ∀ S, S < 256 → K (mo + 10) S = sv_v (rc_g g q S) S
def sv_dn (K : mx_I) (mo : Nat) (g : Nat → Nat → Nat) (q i : Nat) : Prop := ∀ S, S < 256 → K (mo + 10) S = if 256 - i ≤ S then sv_v (rc_g g (q + 1) S) S else sv_v (rc_g g q S) S
def sv_in (K : mx_I) (mo : Nat) (g : Nat → Nat → Nat) (q s b : Nat) : Prop := ∀ S, S < 256 → K (mo + 10) S = if s < S then sv_v (rc_g g (q + 1) S) S else if S = s then sv_v (rc_Q g q S b) S else sv_v (rc_g g q S) S
theorem sv_d0 {K : mx_I} {g : Nat → Nat → Nat} {q : Nat} (h : sv_at K mo g q) : sv_dn K mo g q 0 := fun S hS => by rw [if_neg (by omega)]; exact h S hS
theorem sv_d9 {K : mx_I} {g : Nat → Nat → Nat} {q : Nat} (h : sv_dn K mo g q 256) : sv_at K mo g (q + 1) := fun S hS => by rw [h S hS, if_pos (by omega)]
theorem sv_i0 {K : mx_I} {g : Nat → Nat → Nat} {q i : Nat} (hi : i < 256) (h : sv_dn K mo g q i) : sv_in K mo g q (256 - (i + 1)) 0 := fun S hS => by
  rw [h S hS]
  by_cases e : 256 - i ≤ S
  · rw [if_pos e, if_pos (by omega)]
  · rw [if_neg e, if_neg (by omega)]
    split
    · rw [rc_Q_0]
    · rfl
theorem sv_i8 {K : mx_I} {g : Nat → Nat → Nat} {q i : Nat} (hi : i < 256) (h : sv_in K mo g q (256 - (i + 1)) 8) : sv_dn K mo g q (i + 1) := fun S hS => by
  rw [h S hS]
  by_cases e : 256 - (i + 1) < S
  · rw [if_pos e, if_pos (by omega)]
  · rw [if_neg e]
    by_cases e2 : S = 256 - (i + 1)
    · rw [if_pos e2, if_pos (by omega)]; rfl
    · rw [if_neg e2, if_neg (by omega)]
theorem sv_sk {K : mx_I} {g : Nat → Nat → Nat} {q s b : Nat} (h : sv_in K mo g q s b) (e : rc_Q g q s (b + 1) = rc_Q g q s b) : sv_in K mo g q s (b + 1) := fun S hS => by
  rw [h S hS]
  by_cases z : S = s
  · subst z; rw [e]
  · rw [if_neg z, if_neg z]
theorem sv_st {K : mx_I} {g : Nat → Nat → Nat} {q s b : Nat} (h : sv_in K mo g q s b) (e : rc_Q g q s (b + 1) = true) : sv_in (mx_up K (mo + 10) s (nI (vs_pc s))) mo g q s (b + 1) := fun S hS => by
  by_cases z : S = s
  · subst z; rw [if_neg (by omega), if_pos rfl, e]; simp [mx_up, sv_v]
  · rw [show mx_up K (mo + 10) s (nI (vs_pc s)) (mo + 10) S = K (mo + 10) S from if_neg (fun q => z q.2), h S hS, if_neg z, if_neg z]
theorem c_Mo_saved (hM : mo_ok S P mo) (hm : I (mo + 1) = m) (hH : m 3 = nI H) (hH8 : H ≤ 8) {dd : Nat} {TX : (Nat → Int32) → Prop} (hTX : TX m) (hask : ∀ (m : Nat → Int32) (I : mx_I) (h g q : Nat), TX m → I (mo + 1) = m → h < 8 → g < 8 → q < 8 → mx_C l E M_Mo_asks dd 0 0 [.ref (mo), .int (nI (h)), .int (nI (g)), .int (nI (q))] (t, S, I, P, J) (mx_sR none t S P J (fun K => ak_fin I K mo D m h g q))) (hdd : 2 ≤ dd) (hr : rk9 m) (hbr : br_ok m G) (hG8 : G ≤ 8) {v w : Int32} : mx_C l E M_Mo_saved (dd + 4) 0 0 [.ref (mo), .int (v), .int (w)] (t, S, I, P, J) (mx_sR (some (.int (sp_saved D m H v w).2)) t S P J (fun K => ez (mx_up I (mo) 0 (nI (sp_saved D m H v w).1)) K mo)) := by
  obtain ⟨hM0, hMp1, hMp2, hMp4, hMp5, hMp7, hMp14, hMp21, hMp22, hMp23, hMp24, hMp25, hMp26, hMp27, hMs1, hMs2, hMs3, hMs4, hMs5, hMs6, hMs7, hMs8, hMs9, hMs10, hMs11, hMs12, hMs13⟩ := id hM
  refine mx_C_of (ls0 := [some (.ref (mo)), some (.int (v)), some (.int (w)), none, none, none, none, none, none, none]) (by decide +kernel) rfl rfl (Nat.le_of_ble_eq_true rfl) rfl ?_
  refine mx_al0 d_Mo_saved_0 ?_
  refine mx_al0 d_Mo_saved_1 ?_
  refine mx_il1 d_Mo_saved_2 ?_
  refine mx_cV1i d_Mo_saved_3 (cm_isHost hM hm hH hH8) ok_Mo_isHost ml_Mo_310 (by assumption) ⟨rfl, rfl⟩ (by omega) (Nat.le_of_ble_eq_true rfl) ?_
  refine mx_ifB_ne 13 d_Mo_saved_6 (by decide) (fun c_6 => ?_) (fun c_6 => ?_)
  · skip
    obtain ⟨h, hhL, rfl⟩ := vs_isN_of (by omega) c_6
    have hhc : (nI h).toNatClampNeg = h := nI_clamp (by omega)
    have hhL8 : h < 8 := by omega
    refine mx_in_0 d_Mo_saved_13 ?_
    refine mx_putI d_Mo_saved_14 fl_Mo_54 (by assumption) ?_
    refine mx_al0 d_Mo_saved_17 ?_
    refine mx_getI d_Mo_saved_18 fl_Mo_54 (by assumption) ?_
    refine mx_ti (y := nI (0)) (vs_upx) ?_
    refine mx_if_le 26 d_Mo_saved_21 (by decide) (fun c_21 => ?_) (fun c_21 => absurd (by decide) c_21)
    refine mx_al0 d_Mo_saved_26 ?_
    refine mx_il1 d_Mo_saved_27 ?_
    refine mx_cV1iR d_Mo_saved_28 (c_Mo_meetsIn hM (vs_hm hm) hTX hask hdd hr hbr hG8 (h := h) (by omega)) ok_Mo_meetsIn ml_Mo_406 (by assumption) ⟨rfl, rfl⟩ (by omega) (Nat.le_of_ble_eq_true rfl) (fun K1 hK1 => ?_)
    refine mx_il2 d_Mo_saved_31 ?_
    refine mx_iand d_Mo_saved_32 ?_
    refine mx_is3 d_Mo_saved_33 ?_
    refine mx_al0 d_Mo_saved_34 ?_
    refine mx_il1 d_Mo_saved_35 ?_
    refine mx_cV1i d_Mo_saved_36 (cm_freeOf hM (hK1.row (vs_hm hm)) (h := h) (by omega)) ok_Mo_freeOf ml_Mo_313 (by assumption) ⟨rfl, rfl⟩ (by omega) (Nat.le_of_ble_eq_true rfl) ?_
    refine mx_il2 d_Mo_saved_39 ?_
    refine mx_ic_m1 d_Mo_saved_40 ?_
    refine mx_ixor d_Mo_saved_41 ?_
    refine mx_iand d_Mo_saved_42 ?_
    refine mx_is4 d_Mo_saved_43 ?_
    refine mx_in_0 d_Mo_saved_45 ?_
    refine mx_is5 d_Mo_saved_46 ?_
    refine mx_loopX (α := (mx_I)) (N := 256) (a0 := K1) (fun i z9 => ez (mx_up I (mo) 0 (nI (0))) z9 mo ∧ ∀ j, j < i → z9 (mo + 10) j = sv_v (decide (j = 0)) j) (ls := fun i z9 => [some (.ref (mo)), some (.int (nI (h))), some (.int (w)), some (.int (((vs_mq D m h 8) &&& w))), some (.int (((vs_freeK m h 8) &&& (w ^^^ (-1))))), some (.int (nI (i))), none, none, none, none]) (X := fun i z9 => (t, S, z9, P, J)) (⟨ez.rf.az hK1, fun j hj => absurd hj (by omega)⟩) (fun i hi z9 hinv ih => ?_) (fun z9 hinv => ?_)
    · skip
      obtain ⟨K, hz9⟩ : ∃ q, q = z9 := ⟨_, rfl⟩
      subst hz9
      try dsimp only at hinv ih ⊢
      refine mx_il5 d_Mo_saved_48 ?_
      refine mx_sip 256 d_Mo_saved_50 (by decide) ?_
      refine mx_icN_ge 79 d_Mo_saved_53 (by decide) (by omega) (by omega) (fun c_53 => absurd c_53 (by omega)) (fun c_53 => ?_)
      refine mx_al0 d_Mo_saved_56 ?_
      refine mx_getR d_Mo_saved_57 fl_Mo_41 (by assumption) (by assumption) ?_
      refine mx_il5 d_Mo_saved_60 ?_
      refine mx_il5 d_Mo_saved_62 ?_
      refine mx_if_ne 71 d_Mo_saved_64 (by decide) (fun c_64 => ?_) (fun c_64 => ?_)
      · skip
        refine mx_ic_m1 d_Mo_saved_71 ?_
        refine mx_iast d_Mo_saved_72 (by assumption) (nI_inb (by omega) (by omega)) ?_
        rw [nI_clamp (by omega)]
        refine mx_iN5 d_Mo_saved_73 ?_
        refine mx_goto 48 d_Mo_saved_76 (by decide) ?_
        exact ih (mx_up K (mo + 10) (i) ((-1))) (⟨hinv.1.up, sv_ini hinv.2 (by first | exact sv_0n (fun e => c_64 (by rw [e]; rfl)) | exact sv_00 (by have z9 := nI_z (by omega) c_64; omega))⟩)
      · skip
        refine mx_in_0 d_Mo_saved_67 ?_
        refine mx_goto 72 d_Mo_saved_68 (by decide) ?_
        refine mx_iast d_Mo_saved_72 (by assumption) (nI_inb (by omega) (by omega)) ?_
        rw [nI_clamp (by omega)]
        refine mx_iN5 d_Mo_saved_73 ?_
        refine mx_goto 48 d_Mo_saved_76 (by decide) ?_
        exact ih (mx_up K (mo + 10) (i) (nI (0))) (⟨hinv.1.up, sv_ini hinv.2 (by first | exact sv_0n (fun e => c_64 (by rw [e]; rfl)) | exact sv_00 (by have z9 := nI_z (by omega) c_64; omega))⟩)
    · skip
      obtain ⟨K, hz9⟩ : ∃ q, q = z9 := ⟨_, rfl⟩
      subst hz9
      try dsimp only at hinv ⊢
      refine mx_il5 d_Mo_saved_48 ?_
      refine mx_sip 256 d_Mo_saved_50 (by decide) ?_
      refine mx_icN_ge 79 d_Mo_saved_53 (by decide) (by omega) (by omega) (fun c_53 => ?_) (fun c_53 => absurd c_53 (by omega))
      refine mx_in_0 d_Mo_saved_79 ?_
      refine mx_is5 d_Mo_saved_80 ?_
      refine mx_loopX (α := (mx_I)) (N := 8) (a0 := K) (fun q z9 => ez (mx_up I (mo) 0 (nI (0))) z9 mo ∧ sv_at z9 mo (gcut (sv_g D m H h w) 8 8) q) (ls := fun q z9 => [some (.ref (mo)), some (.int (nI (h))), some (.int (w)), some (.int (((vs_mq D m h 8) &&& w))), some (.int (((vs_freeK m h 8) &&& (w ^^^ (-1))))), some (.int (nI (q))), none, none, none, none]) (X := fun q z9 => (t, S, z9, P, J)) (hinv) (fun q hq z9 hinv ih => ?_) (fun z9 hinv => ?_)
      · skip
        obtain ⟨K, hz9⟩ : ∃ q, q = z9 := ⟨_, rfl⟩
        subst hz9
        try dsimp only at hinv ih ⊢
        have hmK : K (mo + 1) = m := (hinv.1.1 _ (by omega) (by omega) (by omega)).trans (vs_hm hm)
        refine mx_il5 d_Mo_saved_82 ?_
        refine mx_bip 8 d_Mo_saved_84 (by decide) ?_
        refine mx_icN_ge 233 d_Mo_saved_86 (by decide) (by omega) (by omega) (fun c_86 => absurd c_86 (by omega)) (fun c_86 => ?_)
        refine mx_il3 d_Mo_saved_89 ?_
        refine mx_il5 d_Mo_saved_90 ?_
        refine mx_cS2i d_Mo_saved_92 (c_Mo_isOf (j := q) (by omega)) ok_Mo_isOf ml_Mo_74 (by omega) (Nat.le_of_ble_eq_true rfl) ?_
        refine mx_ifB_ne 101 d_Mo_saved_95 (by decide) (fun c_95 => ?_) (fun c_95 => ?_)
        · skip
          obtain ⟨g, hgL, eg⟩ := (hbr h q (by omega) (by omega)).resolve_left (fun z => by have z2 := sv_mv (by omega) c_95; rw [vs_mt_n z] at z2; cases z2)
          have hg8 : g < 8 := by omega
          have eto : (sv_to D m H h w q) = vs_freeK m h 8 &&& (w ^^^ -1) &&& m (43 + 3 * g + 1) &&& (vs_busyK m (nI g) H ^^^ -1) := by unfold sv_to; rw [eg, nI_clamp (by omega)]
          refine mx_al0 d_Mo_saved_101 ?_
          refine mx_il1 d_Mo_saved_102 ?_
          refine mx_il5 d_Mo_saved_103 ?_
          refine mx_cV2i d_Mo_saved_105 (cm_bookedIn hM hmK (h := h) (q := q) (by omega) (by omega)) ok_Mo_bookedIn ml_Mo_271 (by assumption) ⟨rfl, rfl⟩ (by omega) (Nat.le_of_ble_eq_true rfl) ?_
          refine mx_ti (y := nI (g)) (eg) ?_
          refine mx_is6 d_Mo_saved_108 ?_
          refine mx_il4 d_Mo_saved_110 ?_
          refine mx_al0 d_Mo_saved_112 ?_
          refine mx_il6 d_Mo_saved_113 ?_
          refine mx_in_1 d_Mo_saved_115 ?_
          refine mx_cV2i d_Mo_saved_116 (cm_ofGuest hM hmK (g := g) (k := 1) (by omega) (by omega)) ok_Mo_ofGuest ml_Mo_71 (by assumption) ⟨rfl, rfl⟩ (by omega) (Nat.le_of_ble_eq_true rfl) ?_
          refine mx_iand d_Mo_saved_119 ?_
          refine mx_al0 d_Mo_saved_120 ?_
          refine mx_il6 d_Mo_saved_121 ?_
          refine mx_cV1i d_Mo_saved_123 (cm_busyOf hM hmK hH hH8) ok_Mo_busyOf ml_Mo_325 (by assumption) ⟨rfl, rfl⟩ (by omega) (Nat.le_of_ble_eq_true rfl) ?_
          refine mx_ic_m1 d_Mo_saved_126 ?_
          refine mx_ixor d_Mo_saved_127 ?_
          refine mx_iand d_Mo_saved_128 ?_
          refine mx_ti (y := (sv_to D m H h w q)) (eto.symm) ?_
          refine mx_is7 d_Mo_saved_129 ?_
          refine mx_sip 255 d_Mo_saved_131 (by decide) ?_
          refine mx_is8 d_Mo_saved_134 ?_
          have ih82 := ih
          have hinv82 := hinv
          refine mx_loopX (α := (mx_I)) (N := 256) (a0 := K) (fun i z9 => ez (mx_up I (mo) 0 (nI (0))) z9 mo ∧ sv_dn z9 mo (gcut (sv_g D m H h w) 8 8) q i) (ls := fun i z9 => [some (.ref (mo)), some (.int (nI (h))), some (.int (w)), some (.int (((vs_mq D m h 8) &&& w))), some (.int (((vs_freeK m h 8) &&& (w ^^^ (-1))))), some (.int (nI (q))), some (.int (nI (g))), some (.int ((sv_to D m H h w q))), some (.int ((nI (256 - i) - nI 1))), none]) (X := fun i z9 => (t, S, z9, P, J)) (⟨hinv.1, sv_d0 hinv.2⟩) (fun i hi z9 hinv ih => ?_) (fun z9 hinv => ?_)
          · skip
            obtain ⟨K, hz9⟩ : ∃ q, q = z9 := ⟨_, rfl⟩
            subst hz9
            try dsimp only at hinv ih ⊢
            refine mx_lsc (congrArg (fun z9 => ([some (.ref (mo)), some (.int (nI (h))), some (.int (w)), some (.int (((vs_mq D m h 8) &&& w))), some (.int (((vs_freeK m h 8) &&& (w ^^^ (-1))))), some (.int (nI (q))), some (.int (nI (g))), some (.int ((sv_to D m H h w q))), some (.int (z9)), none] : List (Option Value))) (by rw [nI_sub (by omega), Nat.sub_sub])) ?_
            refine mx_il8 d_Mo_saved_136 ?_
            refine mx_if_lt 227 d_Mo_saved_138 (by decide) (fun c_138 => absurd c_138 (nI_pos (by omega))) (fun c_138 => ?_)
            refine mx_in_0 d_Mo_saved_141 ?_
            refine mx_is9 d_Mo_saved_142 ?_
            have ih136 := ih
            have hinv136 := hinv
            refine mx_loopX (α := (mx_I)) (N := 8) (a0 := K) (fun b z9 => ez (mx_up I (mo) 0 (nI (0))) z9 mo ∧ sv_in z9 mo (gcut (sv_g D m H h w) 8 8) q (256 - (i + 1)) b) (ls := fun b z9 => [some (.ref (mo)), some (.int (nI (h))), some (.int (w)), some (.int (((vs_mq D m h 8) &&& w))), some (.int (((vs_freeK m h 8) &&& (w ^^^ (-1))))), some (.int (nI (q))), some (.int (nI (g))), some (.int ((sv_to D m H h w q))), some (.int (nI (256 - (i + 1)))), some (.int (nI (b)))]) (X := fun b z9 => (t, S, z9, P, J)) (⟨hinv.1, sv_i0 (by omega) hinv.2⟩) (fun b hb z9 hinv ih => ?_) (fun z9 hinv => ?_)
            · skip
              obtain ⟨K, hz9⟩ : ∃ q, q = z9 := ⟨_, rfl⟩
              subst hz9
              try dsimp only at hinv ih ⊢
              refine mx_il9 d_Mo_saved_144 ?_
              refine mx_bip 8 d_Mo_saved_146 (by decide) ?_
              refine mx_icN_ge 221 d_Mo_saved_148 (by decide) (by omega) (by omega) (fun c_148 => absurd c_148 (by omega)) (fun c_148 => ?_)
              refine mx_il8 d_Mo_saved_151 ?_
              refine mx_il7 d_Mo_saved_153 ?_
              refine mx_iand d_Mo_saved_155 ?_
              refine mx_il9 d_Mo_saved_156 ?_
              refine mx_cS2i d_Mo_saved_158 (c_Mo_isOf (j := b) (by omega)) ok_Mo_isOf ml_Mo_74 (by omega) (Nat.le_of_ble_eq_true rfl) ?_
              refine mx_ifB_eq 215 d_Mo_saved_161 (by decide) (fun c_161 => ?_) (fun c_161 => ?_)
              · skip
                rw [b_and, vs_bt_nI _ _ (by omega)] at c_161
                have k1 : rc_Q (gcut (sv_g D m H h w) 8 8) q (256 - (i + 1)) (b + 1) = rc_Q (gcut (sv_g D m H h w) 8 8) q (256 - (i + 1)) b := by rw [rc_Q_s, sv_gt (by omega) (by omega) c_95, ← Bool.and_assoc, c_161, Bool.false_and, Bool.or_false]
                refine mx_iN9 d_Mo_saved_215 ?_
                refine mx_goto 144 d_Mo_saved_218 (by decide) ?_
                exact ih K (⟨hinv.1, sv_sk hinv.2 k1⟩)
              · skip
                rw [b_and, vs_bt_nI _ _ (by omega), Bool.and_eq_true] at c_161
                have htb := c_161.1
                have hlt : 256 - (i + 1) - 2 ^ b < 256 - (i + 1) := by have p2 : 0 < 2 ^ b := Nat.pow_pos (by omega); have p1 := Nat.ge_two_pow_of_testBit htb; omega
                have hsv1 : K (mo + 10) (256 - (i + 1)) = sv_v (rc_Q (gcut (sv_g D m H h w) 8 8) q (256 - (i + 1)) b) (256 - (i + 1)) := by rw [hinv.2 _ (by omega), if_neg (by omega), if_pos rfl]
                have hsv2 : K (mo + 10) (256 - (i + 1) - 2 ^ b) = sv_v (rc_g (gcut (sv_g D m H h w) 8 8) q (256 - (i + 1) - 2 ^ b)) (256 - (i + 1) - 2 ^ b) := by rw [hinv.2 _ (by omega), if_neg (by omega), if_neg (by omega)]
                refine mx_al0 d_Mo_saved_164 ?_
                refine mx_getR d_Mo_saved_165 fl_Mo_41 (by assumption) (by assumption) ?_
                refine mx_il8 d_Mo_saved_168 ?_
                refine mx_in_1 d_Mo_saved_170 ?_
                refine mx_il9 d_Mo_saved_171 ?_
                refine mx_ishl d_Mo_saved_173 ?_
                refine mx_ic_m1 d_Mo_saved_174 ?_
                refine mx_ixor d_Mo_saved_175 ?_
                refine mx_iand d_Mo_saved_176 ?_
                refine mx_ti (y := nI (256 - (i + 1) - 2 ^ b)) ((bclr_nI (256 - (i + 1)) (by omega) b (by omega) htb)) ?_
                refine mx_iald d_Mo_saved_177 (by assumption) (nI_inb (by omega) (by omega)) ?_
                refine mx_ti (y := K (mo + 10) (256 - (i + 1) - 2 ^ b)) (by rw [nI_clamp (by omega)]) ?_
                refine mx_ti (y := (sv_v (rc_g (gcut (sv_g D m H h w) 8 8) q (256 - (i + 1) - 2 ^ b)) (256 - (i + 1) - 2 ^ b))) (hsv2) ?_
                refine mx_ic_m1 d_Mo_saved_178 ?_
                refine mx_icmp_eq 215 d_Mo_saved_179 (by decide) (fun c_179 => ?_) (fun c_179 => ?_)
                · skip
                  have hrc := sv_v_n c_179
                  have k1 : rc_Q (gcut (sv_g D m H h w) 8 8) q (256 - (i + 1)) (b + 1) = rc_Q (gcut (sv_g D m H h w) 8 8) q (256 - (i + 1)) b := by rw [rc_Q_s, hrc, Bool.and_false, Bool.and_false, Bool.or_false]
                  refine mx_iN9 d_Mo_saved_215 ?_
                  refine mx_goto 144 d_Mo_saved_218 (by decide) ?_
                  exact ih K (⟨hinv.1, sv_sk hinv.2 k1⟩)
                · skip
                  have hrc := sv_v_y c_179
                  have k1 : rc_Q (gcut (sv_g D m H h w) 8 8) q (256 - (i + 1)) (b + 1) = true := by rw [rc_Q_s, hrc, sv_gt (by omega) (by omega) c_95, c_161.1, c_161.2]; simp
                  refine mx_al0 d_Mo_saved_182 ?_
                  refine mx_getR d_Mo_saved_183 fl_Mo_41 (by assumption) (by assumption) ?_
                  refine mx_il8 d_Mo_saved_186 ?_
                  refine mx_al0 d_Mo_saved_188 ?_
                  refine mx_getR d_Mo_saved_189 fl_Mo_41 (by assumption) (by assumption) ?_
                  refine mx_il8 d_Mo_saved_192 ?_
                  refine mx_iald d_Mo_saved_194 (by assumption) (nI_inb (by omega) (by omega)) ?_
                  refine mx_ti (y := K (mo + 10) (256 - (i + 1))) (by rw [nI_clamp (by omega)]) ?_
                  refine mx_ti (y := (sv_v (rc_Q (gcut (sv_g D m H h w) 8 8) q (256 - (i + 1)) b) (256 - (i + 1)))) (hsv1) ?_
                  refine mx_al0 d_Mo_saved_195 ?_
                  refine mx_getR d_Mo_saved_196 fl_Mo_41 (by assumption) (by assumption) ?_
                  refine mx_il8 d_Mo_saved_199 ?_
                  refine mx_in_1 d_Mo_saved_201 ?_
                  refine mx_il9 d_Mo_saved_202 ?_
                  refine mx_ishl d_Mo_saved_204 ?_
                  refine mx_ic_m1 d_Mo_saved_205 ?_
                  refine mx_ixor d_Mo_saved_206 ?_
                  refine mx_iand d_Mo_saved_207 ?_
                  refine mx_ti (y := nI (256 - (i + 1) - 2 ^ b)) ((bclr_nI (256 - (i + 1)) (by omega) b (by omega) htb)) ?_
                  refine mx_iald d_Mo_saved_208 (by assumption) (nI_inb (by omega) (by omega)) ?_
                  refine mx_ti (y := K (mo + 10) (256 - (i + 1) - 2 ^ b)) (by rw [nI_clamp (by omega)]) ?_
                  refine mx_ti (y := nI (vs_pc (256 - (i + 1) - 2 ^ b))) ((hsv2.trans (by rw [hrc]; rfl))) ?_
                  refine mx_in_1 d_Mo_saved_209 ?_
                  refine mx_iaddN d_Mo_saved_210 ?_
                  refine mx_ti (y := nI (vs_pc (256 - (i + 1)))) ((by rw [← pc_clr (256 - (i + 1)) (by omega) b (by omega) htb])) ?_
                  refine mx_cS2i d_Mo_saved_211 (c_Mo_greater) ok_Mo_greater ml_Mo_277 (by omega) (Nat.le_of_ble_eq_true rfl) ?_
                  refine mx_ti (y := nI (vs_pc (256 - (i + 1)))) (sv_gr) ?_
                  refine mx_iast d_Mo_saved_214 (by assumption) (nI_inb (by omega) (by omega)) ?_
                  rw [nI_clamp (by omega)]
                  refine mx_iN9 d_Mo_saved_215 ?_
                  refine mx_goto 144 d_Mo_saved_218 (by decide) ?_
                  exact ih (mx_up K (mo + 10) (256 - (i + 1)) (nI (vs_pc (256 - (i + 1))))) (⟨hinv.1.up, sv_st hinv.2 k1⟩)
            · skip
              obtain ⟨K, hz9⟩ : ∃ q, q = z9 := ⟨_, rfl⟩
              subst hz9
              try dsimp only at hinv ⊢
              refine mx_il9 d_Mo_saved_144 ?_
              refine mx_bip 8 d_Mo_saved_146 (by decide) ?_
              refine mx_icN_ge 221 d_Mo_saved_148 (by decide) (by omega) (by omega) (fun c_148 => ?_) (fun c_148 => absurd c_148 (by omega))
              refine mx_ii8 (v := -1) d_Mo_saved_221 (by decide) ?_
              refine mx_goto 136 d_Mo_saved_224 (by decide) ?_
              refine mx_dn9 ?_
              have e8 : (nI (256 - (i + 1)) + -1) = (nI (256 - (i + 1)) - nI 1) := by (rw [Int32.sub_eq_add_neg]; rfl)
              refine mx_lsc (congrArg (fun z9 => ([some (.ref (mo)), some (.int (nI (h))), some (.int (w)), some (.int (((vs_mq D m h 8) &&& w))), some (.int (((vs_freeK m h 8) &&& (w ^^^ (-1))))), some (.int (nI (q))), some (.int (nI (g))), some (.int ((sv_to D m H h w q))), some (.int (z9)), none] : List (Option Value))) e8) ?_
              exact ih K (⟨hinv.1, sv_i8 (by omega) hinv.2⟩)
          · skip
            obtain ⟨K, hz9⟩ : ∃ q, q = z9 := ⟨_, rfl⟩
            subst hz9
            try dsimp only at hinv ⊢
            refine mx_lsc (congrArg (fun z9 => ([some (.ref (mo)), some (.int (nI (h))), some (.int (w)), some (.int (((vs_mq D m h 8) &&& w))), some (.int (((vs_freeK m h 8) &&& (w ^^^ (-1))))), some (.int (nI (q))), some (.int (nI (g))), some (.int ((sv_to D m H h w q))), some (.int (z9)), none] : List (Option Value))) (by rw [Nat.sub_self])) ?_
            refine mx_il8 d_Mo_saved_136 ?_
            refine mx_if_lt 227 d_Mo_saved_138 (by decide) (fun c_138 => ?_) (fun c_138 => absurd (by decide) c_138)
            refine mx_iN5 d_Mo_saved_227 ?_
            refine mx_goto 82 d_Mo_saved_230 (by decide) ?_
            refine mx_dn6 ?_
            refine mx_dn7 ?_
            refine mx_dn8 ?_
            exact ih K (by first | exact ⟨hinv.1, sv_d9 hinv.2⟩ | exact ⟨hinv.1, fun S hS => by rw [rc_skip (fun b _ => sv_g0 c_95 b)]; exact hinv.2 S hS⟩)
        · skip
          refine mx_goto 227 d_Mo_saved_98 (by decide) ?_
          refine mx_iN5 d_Mo_saved_227 ?_
          refine mx_goto 82 d_Mo_saved_230 (by decide) ?_
          exact ih K (by first | exact ⟨hinv.1, sv_d9 hinv.2⟩ | exact ⟨hinv.1, fun S hS => by rw [rc_skip (fun b _ => sv_g0 c_95 b)]; exact hinv.2 S hS⟩)
      · skip
        obtain ⟨K, hz9⟩ : ∃ q, q = z9 := ⟨_, rfl⟩
        subst hz9
        try dsimp only at hinv ⊢
        refine mx_il5 d_Mo_saved_82 ?_
        refine mx_bip 8 d_Mo_saved_84 (by decide) ?_
        refine mx_icN_ge 233 d_Mo_saved_86 (by decide) (by omega) (by omega) (fun c_86 => ?_) (fun c_86 => absurd c_86 (by omega))
        refine mx_in_0 d_Mo_saved_233 ?_
        refine mx_is5 d_Mo_saved_234 ?_
        refine mx_in_0 d_Mo_saved_236 ?_
        refine mx_is6 d_Mo_saved_237 ?_
        refine mx_loop (N := 256) (ls := fun n => [some (.ref (mo)), some (.int (nI (h))), some (.int (w)), some (.int (((vs_mq D m h 8) &&& w))), some (.int (((vs_freeK m h 8) &&& (w ^^^ (-1))))), some (.int (nI (sv_mx (gcut (sv_g D m H h w) 8 8) n))), some (.int (nI (n))), none, none, none]) (X := fun n => (t, S, K, P, J)) (fun n hn ih => ?_) ?_
        · try dsimp only
          refine mx_il6 d_Mo_saved_239 ?_
          refine mx_sip 256 d_Mo_saved_241 (by decide) ?_
          refine mx_icN_ge 267 d_Mo_saved_244 (by decide) (by omega) (by omega) (fun c_244 => absurd c_244 (by omega)) (fun c_244 => ?_)
          refine mx_il5 d_Mo_saved_247 ?_
          refine mx_al0 d_Mo_saved_249 ?_
          refine mx_getR d_Mo_saved_250 fl_Mo_41 (by assumption) (by assumption) ?_
          refine mx_il6 d_Mo_saved_253 ?_
          refine mx_iald d_Mo_saved_255 (by assumption) (nI_inb (by omega) (by omega)) ?_
          refine mx_ti (y := K (mo + 10) (n)) (by rw [nI_clamp (by omega)]) ?_
          refine mx_ti (y := (sv_v (rc_g (gcut (sv_g D m H h w) 8 8) 8 n) n)) (hinv.2 n (by omega)) ?_
          refine mx_cS2i d_Mo_saved_256 (c_Mo_greater) ok_Mo_greater ml_Mo_277 (by omega) (Nat.le_of_ble_eq_true rfl) ?_
          refine mx_is5 d_Mo_saved_259 ?_
          refine mx_iN6 d_Mo_saved_261 ?_
          refine mx_goto 239 d_Mo_saved_264 (by decide) ?_
          have e5 : (if nI (sv_mx (gcut (sv_g D m H h w) 8 8) n) ≤ (sv_v (rc_g (gcut (sv_g D m H h w) 8 8) 8 n) n) then (sv_v (rc_g (gcut (sv_g D m H h w) 8 8) 8 n) n) else nI (sv_mx (gcut (sv_g D m H h w) 8 8) n)) = nI (sv_mx (gcut (sv_g D m H h w) 8 8) (n + 1)) := by exact sv_mxN (by omega)
          refine mx_lsc (congrArg (fun z9 => ([some (.ref (mo)), some (.int (nI (h))), some (.int (w)), some (.int (((vs_mq D m h 8) &&& w))), some (.int (((vs_freeK m h 8) &&& (w ^^^ (-1))))), some (.int (z9)), some (.int (nI (n + 1))), none, none, none] : List (Option Value))) e5) ?_
          exact ih
        · try dsimp only
          refine mx_il6 d_Mo_saved_239 ?_
          refine mx_sip 256 d_Mo_saved_241 (by decide) ?_
          refine mx_icN_ge 267 d_Mo_saved_244 (by decide) (by omega) (by omega) (fun c_244 => ?_) (fun c_244 => absurd c_244 (by omega))
          refine mx_il5 d_Mo_saved_267 ?_
          exact mx_iret d_Mo_saved_269 rfl (mx_sR_i (by rw [sv_mx_eq (sv_g_le D m H h w)]; simp [sp_saved, *]) (by rw [show (sp_saved D m H _ _).1 = 0 from by simp [sp_saved, *]]; exact hinv.1))
  · skip
    refine mx_in_1 d_Mo_saved_9 ?_
    refine mx_goto 14 d_Mo_saved_10 (by decide) ?_
    refine mx_putI d_Mo_saved_14 fl_Mo_54 (by assumption) ?_
    refine mx_al0 d_Mo_saved_17 ?_
    refine mx_getI d_Mo_saved_18 fl_Mo_54 (by assumption) ?_
    refine mx_ti (y := nI (1)) (vs_upx) ?_
    refine mx_if_le 26 d_Mo_saved_21 (by decide) (fun c_21 => absurd c_21 (by decide)) (fun c_21 => ?_)
    refine mx_in_0 d_Mo_saved_24 ?_
    exact mx_iret d_Mo_saved_25 rfl (mx_sR_i (by simp [sp_saved, *]) (by rw [show (sp_saved D m H _ _).1 = 1 from by simp [sp_saved, *]]; exact ez.rf))
end AM46
