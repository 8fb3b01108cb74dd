/-! THE TAPE'S BYTES; HAND -/
/-- the row at a holds the bytes T -/
def tp_rel (I : mx_I) (a : Nat) (T : Nat → Nat) : Prop := ∀ k, k < 400 → T k < 256 ∧ I a k = nI (T k)
theorem tp_rel.up {I : mx_I} {a b k : Nat} {v : Int32} {T : Nat → Nat} (h : tp_rel I a T) (hb : a ≠ b := by omega) : tp_rel (mx_up I b k v) a T := fun j hj => by rw [mx_up_ne hb]; exact h j hj
def vs_okS (G : Nat) (s : Int32) (t : Nat) : Bool := decide (t < G) && !(bt s t)
def vs_hs (T : Nat → Nat) (G n : Nat) : Int32 := vf n (fun i s => if vs_okS G s (T i) = true then s ||| (nI 1 <<< (nI (T i) &&& 31)) else s) (nI 0)
theorem vs_hs_s (T : Nat → Nat) (G n : Nat) : vs_hs T G (n + 1) = if vs_okS G (vs_hs T G n) (T n) = true then vs_hs T G n ||| (nI 1 <<< (nI (T n) &&& 31)) else vs_hs T G n := rfl
def vs_gd (T : Nat → Nat) (G n : Nat) : Bool := vf n (fun i b => b && vs_okS G (vs_hs T G i) (T i)) true
theorem vs_gd_s (T : Nat → Nat) (G n : Nat) : vs_gd T G (n + 1) = (vs_gd T G n && vs_okS G (vs_hs T G n) (T n)) := rfl
theorem vs_gd_f {T : Nat → Nat} {G i n : Nat} (h : vs_gd T G i = false) (hi : i ≤ n) : vs_gd T G n = false := by
  obtain ⟨d, rfl⟩ : ∃ d, n = i + d := ⟨n - i, by omega⟩
  induction d with
  | zero => exact h
  | succ d ih => rw [← Nat.add_assoc, vs_gd_s, ih (by omega)]; rfl
theorem vs_gd_lt {T : Nat → Nat} {G n : Nat} (h : vs_gd T G n = true) : ∀ i, i < n → T i < G := by
  induction n with
  | zero => intro i hi; omega
  | succ n ih =>
    rw [vs_gd_s, Bool.and_eq_true] at h
    intro i hi
    rcases Nat.lt_succ_iff_lt_or_eq.mp hi with h1 | rfl
    · exact ih h.1 i h1
    · have := h.2
      simp only [vs_okS, Bool.and_eq_true, decide_eq_true_eq] at this
      exact this.1
def vs_wrQ (m : Nat → Int32) (T : Nat → Nat) (h i k s : Nat) : Nat := vf k (fun j s => if m (67 + 8 * h + T i) < m (67 + 8 * h + T (i + 1 + j)) then s + 1 else s) s
def vs_wrP (m : Nat → Int32) (T : Nat → Nat) (h n k : Nat) : Nat := vf k (fun i s => vs_wrQ m T h i (n - (i + 1)) s) 0
def vs_wn (m : Nat → Int32) (T : Nat → Nat) (h n : Nat) : Nat := vs_wrP m T h n n
theorem vs_wrQ_s (m : Nat → Int32) (T : Nat → Nat) (h i k s : Nat) : vs_wrQ m T h i (k + 1) s = if m (67 + 8 * h + T i) < m (67 + 8 * h + T (i + 1 + k)) then vs_wrQ m T h i k s + 1 else vs_wrQ m T h i k s := rfl
theorem vs_wrQ_le (m : Nat → Int32) (T : Nat → Nat) (h i k s : Nat) : vs_wrQ m T h i k s ≤ s + k := by
  induction k with
  | zero => exact Nat.le_refl _
  | succ k ih =>
    rw [vs_wrQ_s]
    split <;> omega
theorem vs_wrP_le (m : Nat → Int32) (T : Nat → Nat) (h n k : Nat) : vs_wrP m T h n k ≤ k * n := by
  induction k with
  | zero => exact Nat.zero_le _
  | succ k ih =>
    have := vs_wrQ_le m T h k (n - (k + 1)) (vs_wrP m T h n k)
    show vs_wrQ m T h k (n - (k + 1)) (vs_wrP m T h n k) ≤ _
    rw [Nat.succ_mul]
    omega
theorem vs_wn_le (m : Nat → Int32) (T : Nat → Nat) (h : Nat) {n : Nat} (hn : n ≤ 400) : vs_wn m T h n ≤ 160000 := Nat.le_trans (vs_wrP_le m T h n n) (Nat.mul_le_mul hn hn)
def vs_hd (m : Nat → Int32) (T : Nat → Nat) (n k : Nat) : Int32 × Nat := vf k (fun h s => if s.1 = -1 ∨ vs_wn m T h n < s.2 then (nI h, vs_wn m T h n) else s) (-1, 0)
theorem vs_hd_s (m : Nat → Int32) (T : Nat → Nat) (n k : Nat) : vs_hd m T n (k + 1) = if (vs_hd m T n k).1 = -1 ∨ vs_wn m T k n < (vs_hd m T n k).2 then (nI k, vs_wn m T k n) else vs_hd m T n k := rfl
def vs_fd (m : Nat → Int32) (T : Nat → Nat) (n k : Nat) : Int32 := vf k (fun h s => if s = -1 ∨ vs_wn m T h n < vs_wn m T s.toNatClampNeg n then nI h else s) (-1)
theorem vs_fd_s (m : Nat → Int32) (T : Nat → Nat) (n k : Nat) : vs_fd m T n (k + 1) = if vs_fd m T n k = -1 ∨ vs_wn m T k n < vs_wn m T (vs_fd m T n k).toNatClampNeg n then nI k else vs_fd m T n k := rfl
theorem vs_fd_in (m : Nat → Int32) (T : Nat → Nat) (n k : Nat) (h : ¬ vs_fd m T n k = -1) : ∃ b, b < k ∧ vs_fd m T n k = nI b := by
  induction k with
  | zero => exact absurd rfl h
  | succ k ih =>
    rw [vs_fd_s] at h ⊢
    split at h
    · rename_i h1
      rw [if_pos h1]
      exact ⟨k, by omega, rfl⟩
    · rename_i h1
      rw [if_neg h1]
      obtain ⟨b, hb, e⟩ := ih h
      exact ⟨b, by omega, e⟩
theorem vs_hd_fd (m : Nat → Int32) (T : Nat → Nat) (n : Nat) {k : Nat} (hk : k ≤ 8) : vs_hd m T n k = (vs_fd m T n k, if vs_fd m T n k = -1 then 0 else vs_wn m T (vs_fd m T n k).toNatClampNeg n) := by
  induction k with
  | zero => rfl
  | succ k ih =>
    have ih := ih (by omega)
    rw [vs_hd_s, vs_fd_s, ih]
    have e1 : ¬ (nI k : Int32) = -1 := (by decide +kernel : ∀ k, k < 8 → ¬ nI k = -1) k (by omega)
    have e2 : (nI k).toNatClampNeg = k := nI_clamp (by omega)
    by_cases h : vs_fd m T n k = -1
    · rw [if_pos (Or.inl h), if_pos (Or.inl h), if_neg e1, e2]
    · dsimp only
      rw [if_neg h]
      by_cases h2 : vs_wn m T k n < vs_wn m T (vs_fd m T n k).toNatClampNeg n
      · rw [if_pos (Or.inr h2), if_pos (Or.inr h2), if_neg e1, e2]
      · rw [if_neg (fun z => z.elim h h2), if_neg (fun z => z.elim h h2), if_neg h]
theorem vs_hd_le (m : Nat → Int32) (T : Nat → Nat) {n k : Nat} (hn : n ≤ 400) (hk : k ≤ 8) : (vs_hd m T n k).2 ≤ 160000 := by
  rw [vs_hd_fd m T n hk]
  dsimp only
  split
  · omega
  · exact vs_wn_le m T _ hn
def vs_handV (m : Nat → Int32) (T : Nat → Nat) (n H : Nat) (b : Bool) : Int32 := if b then nI (vs_hd m T n H).2 else (vs_hd m T n H).1
def sp_hand (m : Nat → Int32) (T : Nat → Nat) (n H G : Nat) (b : Bool) : Nat × Int32 := if vs_gd T G n then (0, vs_handV m T n H b) else (1, nI 0)
section W31
variable {l : Launch} {E : mx_Env} {t : Nat} {S : mx_S} {I : mx_I} {P : mx_P} {J : mx_G} {m : Nat → Int32} {x mo H G n te : Nat} {T : Nat → Nat}
theorem c_Te_empty (hTe0 : S te = some (0, 8)) : mx_C l E M_Te_empty 0 0 0 [.ref (te)] (t, S, I, P, J) (mx_rv (t, S, mx_up I te 1 (nI 0), P, J)) := by
  refine mx_C_of (ls0 := [some (.ref (te))]) (by decide +kernel) rfl rfl (Nat.le_of_ble_eq_true rfl) rfl ?_
  refine mx_al0 d_Te_empty_0 ?_
  refine mx_in_0 d_Te_empty_1 ?_
  refine mx_putI d_Te_empty_2 fl_Te_15 (by assumption) ?_
  exact mx_vret d_Te_empty_5 rfl (mx_rv_of rfl)
theorem c_Vh_isList (hV : vh_ok S P x) (hSt : st_ok S P (x + 23)) (hSr : st_rel I (x + 23) m) (hG : m 4 = nI G) (hG8 : G ≤ 8) (hTe : te_ok S P (x + 250)) (hT : tp_rel I (x + 250 + 1) T) (hn : n ≤ 400) (hTl : I (x + 250) 1 = nI n)  : mx_C l E M_Vh_isList 1 0 0 [.ref (x)] (t, S, I, P, J) (mx_ri (bI (vs_gd T G n)) (t, S, I, P, J)) := by
  obtain ⟨hV0, hVp0, hVp1, hVp2, hVp3, hVp4, hVp5, hVp7, hVp8, hVp9, hVp10, hVp11, hVp12, hVs15, hVs16, hVs68⟩ := id hV
  obtain ⟨hC0, hC1, hC2, hC3, hC4, hC5, hC6, hD1, hD2, hD3, hD4, hPe, hLo⟩ := id hSt
  obtain ⟨hPr, u0, u1, u2, u3, u4, u5, u6, u7, u8⟩ := id hSr
  obtain ⟨hA0, hA1, hA2, hA3, hA4, hA5, hA6, hA7, hB1, hB2, hB3, hB4, hB5, hB6, hB7⟩ := id hPe
  obtain ⟨r0, r1, r2, r3, r4, r5, r6, r7, r8⟩ := id hPr
  obtain ⟨hTe0, hTe1, hTe2, hTe3, hTe4, hTe5, hTe6, hTe7, hTe8, hTe9, hTe10⟩ := id hTe
  refine mx_C_of (ls0 := [some (.ref (x)), none, none, none]) (by decide +kernel) rfl rfl (Nat.le_of_ble_eq_true rfl) rfl ?_
  refine mx_in_0 d_Vh_isList_0 ?_
  refine mx_is1 d_Vh_isList_1 ?_
  refine mx_in_0 d_Vh_isList_2 ?_
  refine mx_is2 d_Vh_isList_3 ?_
  refine mx_loopI (N := n) (fun i => vs_gd T G i = true) (ls := fun i => [some (.ref (x)), some (.int ((vs_hs T G i))), some (.int (nI (i))), none]) (X := fun i => (t, S, I, P, J)) (rfl) (fun i hi hinv ih => ?_) (fun hinv => ?_)
  · try dsimp only at hinv ih ⊢
    refine mx_il2 d_Vh_isList_4 ?_
    refine mx_al0 d_Vh_isList_5 ?_
    refine mx_getR d_Vh_isList_6 fl_Vh_71 (by assumption) (by assumption) ?_
    refine mx_getI d_Vh_isList_9 fl_Vh_101 (by assumption) ?_
    refine mx_ti (y := nI (n)) (hTl) ?_
    refine mx_icN_ge 63 d_Vh_isList_12 (by decide) (by omega) (by omega) (fun c_12 => absurd c_12 (by omega)) (fun c_12 => ?_)
    refine mx_al0 d_Vh_isList_15 ?_
    refine mx_getR d_Vh_isList_16 fl_Vh_71 (by assumption) (by assumption) ?_
    refine mx_getR d_Vh_isList_19 fl_Vh_482 (by assumption) (by assumption) ?_
    refine mx_il2 d_Vh_isList_22 ?_
    refine mx_cS2i d_Vh_isList_23 (c_get (k := i) (by assumption) (by omega) (by omega)) ok_Vh_get ml_Vh_171 (by decide) (Nat.le_of_ble_eq_true rfl) ?_
    have hTi := (hT i (by omega)).1
    refine mx_ti (y := nI (T (i))) ((hT (i) (by omega)).2) ?_
    refine mx_is3 d_Vh_isList_26 ?_
    refine mx_il3 d_Vh_isList_27 ?_
    refine mx_al0 d_Vh_isList_28 ?_
    refine mx_getR d_Vh_isList_29 fl_Vh_51 (by assumption) (by assumption) ?_
    refine mx_getR d_Vh_isList_32 fl_Vh_162 (by assumption) (by assumption) ?_
    refine mx_getI d_Vh_isList_35 fl_Vh_325 (by assumption) ?_
    refine mx_ti (y := nI (G)) (r1.trans hG) ?_
    refine mx_icN_ge 49 d_Vh_isList_38 (by decide) (by omega) (by omega) (fun c_38 => ?_) (fun c_38 => ?_)
    · skip
      have k0 : vs_okS G (vs_hs T G i) (T i) = false := by simp [vs_okS]; omega
      refine mx_in_0 d_Vh_isList_49 ?_
      exact mx_zret d_Vh_isList_50 rfl (by first | exact Or.inl rfl | exact Or.inr rfl) (mx_ri_of (by rw [vs_gd_f (i := i + 1) (by rw [vs_gd_s, hinv, k0]; rfl) (by omega)]; rfl))
    · skip
      refine mx_il1 d_Vh_isList_41 ?_
      refine mx_il3 d_Vh_isList_42 ?_
      refine mx_cS2i d_Vh_isList_43 (c_has (j := T (i)) (by omega)) ok_Vh_has ml_Vh_248 (by decide) (Nat.le_of_ble_eq_true rfl) ?_
      refine mx_ifB_eq 51 d_Vh_isList_46 (by decide) (fun c_46 => ?_) (fun c_46 => ?_)
      · skip
        rw [vs_has_bt (by omega)] at c_46
        have k0 : vs_okS G (vs_hs T G i) (T i) = true := by simp [vs_okS, c_46]; omega
        refine mx_il1 d_Vh_isList_51 ?_
        refine mx_in_1 d_Vh_isList_52 ?_
        refine mx_il3 d_Vh_isList_53 ?_
        refine mx_ishl d_Vh_isList_54 ?_
        refine mx_ior d_Vh_isList_55 ?_
        refine mx_is1 d_Vh_isList_56 ?_
        refine mx_iN2 d_Vh_isList_57 ?_
        refine mx_goto 4 d_Vh_isList_60 (by decide) ?_
        refine mx_dn3 ?_
        have e1 : ((vs_hs T G i) ||| (nI (1) <<< (nI (T (i)) &&& 31))) = (vs_hs T G (i + 1)) := by rw [vs_hs_s, if_pos k0]
        refine mx_lsc (congrArg (fun z9 => ([some (.ref (x)), some (.int (z9)), some (.int (nI (i + 1))), none] : List (Option Value))) e1) ?_
        exact ih (by rw [vs_gd_s, hinv, k0]; rfl)
      · skip
        rw [vs_has_bt (by omega)] at c_46
        have k0 : vs_okS G (vs_hs T G i) (T i) = false := by simp [vs_okS, c_46]
        refine mx_in_0 d_Vh_isList_49 ?_
        exact mx_zret d_Vh_isList_50 rfl (by first | exact Or.inl rfl | exact Or.inr rfl) (mx_ri_of (by rw [vs_gd_f (i := i + 1) (by rw [vs_gd_s, hinv, k0]; rfl) (by omega)]; rfl))
  · try dsimp only at hinv ⊢
    refine mx_il2 d_Vh_isList_4 ?_
    refine mx_al0 d_Vh_isList_5 ?_
    refine mx_getR d_Vh_isList_6 fl_Vh_71 (by assumption) (by assumption) ?_
    refine mx_getI d_Vh_isList_9 fl_Vh_101 (by assumption) ?_
    refine mx_ti (y := nI (n)) (hTl) ?_
    refine mx_icN_ge 63 d_Vh_isList_12 (by decide) (by omega) (by omega) (fun c_12 => ?_) (fun c_12 => absurd c_12 (by omega))
    refine mx_in_1 d_Vh_isList_63 ?_
    exact mx_zret d_Vh_isList_64 rfl (by first | exact Or.inl rfl | exact Or.inr rfl) (mx_ri_of (by rw [hinv]; rfl))
theorem c_Vh_wrong (hV : vh_ok S P x) (hSt : st_ok S P (x + 23)) (hSr : st_rel I (x + 23) m) (hTe : te_ok S P (x + 250)) (hT : tp_rel I (x + 250 + 1) T) (hn : n ≤ 400) (hG8 : ∀ i, i < n → T i < 8) {h : Nat} (hh : h < 8) : mx_C l E M_Vh_wrongWayRound 2 0 0 [.ref (x), .int (nI (h)), .int (nI (n))] (t, S, I, P, J) (mx_ri (nI (vs_wn m T h n)) (t, S, I, P, J)) := by
  obtain ⟨hV0, hVp0, hVp1, hVp2, hVp3, hVp4, hVp5, hVp7, hVp8, hVp9, hVp10, hVp11, hVp12, hVs15, hVs16, hVs68⟩ := id hV
  obtain ⟨hC0, hC1, hC2, hC3, hC4, hC5, hC6, hD1, hD2, hD3, hD4, hPe, hLo⟩ := id hSt
  obtain ⟨hPr, u0, u1, u2, u3, u4, u5, u6, u7, u8⟩ := id hSr
  obtain ⟨hA0, hA1, hA2, hA3, hA4, hA5, hA6, hA7, hB1, hB2, hB3, hB4, hB5, hB6, hB7⟩ := id hPe
  obtain ⟨r0, r1, r2, r3, r4, r5, r6, r7, r8⟩ := id hPr
  obtain ⟨hTe0, hTe1, hTe2, hTe3, hTe4, hTe5, hTe6, hTe7, hTe8, hTe9, hTe10⟩ := id hTe
  refine mx_C_of (ls0 := [some (.ref (x)), some (.int (nI (h))), some (.int (nI (n))), none, none, none, none]) (by decide +kernel) rfl rfl (Nat.le_of_ble_eq_true rfl) rfl ?_
  refine mx_in_0 d_Vh_wrongWayRound_0 ?_
  refine mx_is3 d_Vh_wrongWayRound_1 ?_
  refine mx_in_0 d_Vh_wrongWayRound_2 ?_
  refine mx_is4 d_Vh_wrongWayRound_3 ?_
  refine mx_loop (N := n) (ls := fun i => [some (.ref (x)), some (.int (nI (h))), some (.int (nI (n))), some (.int (nI (vs_wrP m T h n i))), some (.int (nI (i))), none, none]) (X := fun i => (t, S, I, P, J)) (fun i hi ih => ?_) ?_
  · try dsimp only
    refine mx_il4 d_Vh_wrongWayRound_5 ?_
    refine mx_il2 d_Vh_wrongWayRound_7 ?_
    refine mx_icN_ge 93 d_Vh_wrongWayRound_8 (by decide) (by omega) (by omega) (fun c_8 => absurd c_8 (by omega)) (fun c_8 => ?_)
    refine mx_al0 d_Vh_wrongWayRound_11 ?_
    refine mx_getR d_Vh_wrongWayRound_12 fl_Vh_51 (by assumption) (by assumption) ?_
    refine mx_getR d_Vh_wrongWayRound_15 fl_Vh_162 (by assumption) (by assumption) ?_
    refine mx_il1 d_Vh_wrongWayRound_18 ?_
    refine mx_al0 d_Vh_wrongWayRound_19 ?_
    refine mx_getR d_Vh_wrongWayRound_20 fl_Vh_71 (by assumption) (by assumption) ?_
    refine mx_getR d_Vh_wrongWayRound_23 fl_Vh_482 (by assumption) (by assumption) ?_
    refine mx_il4 d_Vh_wrongWayRound_26 ?_
    refine mx_cS2i d_Vh_wrongWayRound_28 (c_get (k := i) (by assumption) (by omega) (by omega)) ok_Vh_get ml_Vh_171 (by decide) (Nat.le_of_ble_eq_true rfl) ?_
    have hTi := hG8 i (by omega)
    refine mx_ti (y := nI (T (i))) ((hT (i) (by omega)).2) ?_
    refine mx_in_1 d_Vh_wrongWayRound_31 ?_
    refine mx_cV3i d_Vh_wrongWayRound_32 (c_Pe_rank1 hPe hPr (h := h) (g := T (i)) (by omega) (by omega)) ok_Pe_rankOf ml_Vh_222 (by assumption) ⟨rfl, rfl⟩ (by decide) (Nat.le_of_ble_eq_true rfl) ?_
    refine mx_is5 d_Vh_wrongWayRound_35 ?_
    refine mx_il4 d_Vh_wrongWayRound_37 ?_
    refine mx_in_1 d_Vh_wrongWayRound_39 ?_
    refine mx_iaddN d_Vh_wrongWayRound_40 ?_
    refine mx_is6 d_Vh_wrongWayRound_41 ?_
    have ih5 := ih
    refine mx_loop (N := n - (i + 1)) (ls := fun j => [some (.ref (x)), some (.int (nI (h))), some (.int (nI (n))), some (.int (nI (vs_wrQ m T h i j (vs_wrP m T h n i)))), some (.int (nI (i))), some (.int ((m (67 + 8 * (h) + T (i))))), some (.int (nI (i + 1 + j)))]) (X := fun j => (t, S, I, P, J)) (fun j hj ih => ?_) ?_
    · try dsimp only
      refine mx_il6 d_Vh_wrongWayRound_43 ?_
      refine mx_il2 d_Vh_wrongWayRound_45 ?_
      refine mx_icN_ge 87 d_Vh_wrongWayRound_46 (by decide) (by omega) (by omega) (fun c_46 => absurd c_46 (by omega)) (fun c_46 => ?_)
      refine mx_il5 d_Vh_wrongWayRound_49 ?_
      refine mx_al0 d_Vh_wrongWayRound_51 ?_
      refine mx_getR d_Vh_wrongWayRound_52 fl_Vh_51 (by assumption) (by assumption) ?_
      refine mx_getR d_Vh_wrongWayRound_55 fl_Vh_162 (by assumption) (by assumption) ?_
      refine mx_il1 d_Vh_wrongWayRound_58 ?_
      refine mx_al0 d_Vh_wrongWayRound_59 ?_
      refine mx_getR d_Vh_wrongWayRound_60 fl_Vh_71 (by assumption) (by assumption) ?_
      refine mx_getR d_Vh_wrongWayRound_63 fl_Vh_482 (by assumption) (by assumption) ?_
      refine mx_il6 d_Vh_wrongWayRound_66 ?_
      refine mx_cS2i d_Vh_wrongWayRound_68 (c_get (k := i + 1 + j) (by assumption) (by omega) (by omega)) ok_Vh_get ml_Vh_171 (by decide) (Nat.le_of_ble_eq_true rfl) ?_
      have hTj := hG8 (i + 1 + j) (by omega)
      refine mx_ti (y := nI (T (i + 1 + j))) ((hT (i + 1 + j) (by omega)).2) ?_
      refine mx_in_1 d_Vh_wrongWayRound_71 ?_
      refine mx_cV3i d_Vh_wrongWayRound_72 (c_Pe_rank1 hPe hPr (h := h) (g := T (i + 1 + j)) (by omega) (by omega)) ok_Pe_rankOf ml_Vh_222 (by assumption) ⟨rfl, rfl⟩ (by decide) (Nat.le_of_ble_eq_true rfl) ?_
      refine mx_icmp_ge 81 d_Vh_wrongWayRound_75 (by decide) (fun c_75 => ?_) (fun c_75 => ?_)
      · skip
        refine mx_iN6 d_Vh_wrongWayRound_81 ?_
        refine mx_goto 43 d_Vh_wrongWayRound_84 (by decide) ?_
        have e3 : nI (vs_wrQ m T h i j (vs_wrP m T h n i)) = nI (vs_wrQ m T h i (j + 1) (vs_wrP m T h n i)) := by (rw [vs_wrQ_s]; first | (rw [if_neg (Int32.not_lt.mpr c_75)]; done) | (rw [if_pos (Int32.not_le.mp c_75)]; done))
        refine mx_lsc (congrArg (fun z9 => ([some (.ref (x)), some (.int (nI (h))), some (.int (nI (n))), some (.int (z9)), some (.int (nI (i))), some (.int ((m (67 + 8 * (h) + T (i))))), some (.int (nI (i + 1 + j + 1)))] : List (Option Value))) e3) ?_
        have e6 : nI (i + 1 + j + 1) = nI (i + 1 + (j + 1)) := by rfl
        refine mx_lsc (congrArg (fun z9 => ([some (.ref (x)), some (.int (nI (h))), some (.int (nI (n))), some (.int (nI (vs_wrQ m T h i (j + 1) (vs_wrP m T h n i)))), some (.int (nI (i))), some (.int ((m (67 + 8 * (h) + T (i))))), some (.int (z9))] : List (Option Value))) e6) ?_
        exact ih
      · skip
        refine mx_iN3 d_Vh_wrongWayRound_78 ?_
        refine mx_iN6 d_Vh_wrongWayRound_81 ?_
        refine mx_goto 43 d_Vh_wrongWayRound_84 (by decide) ?_
        have e3 : nI (vs_wrQ m T h i j (vs_wrP m T h n i) + 1) = nI (vs_wrQ m T h i (j + 1) (vs_wrP m T h n i)) := by (rw [vs_wrQ_s]; first | (rw [if_neg (Int32.not_lt.mpr c_75)]; done) | (rw [if_pos (Int32.not_le.mp c_75)]; done))
        refine mx_lsc (congrArg (fun z9 => ([some (.ref (x)), some (.int (nI (h))), some (.int (nI (n))), some (.int (z9)), some (.int (nI (i))), some (.int ((m (67 + 8 * (h) + T (i))))), some (.int (nI (i + 1 + j + 1)))] : List (Option Value))) e3) ?_
        have e6 : nI (i + 1 + j + 1) = nI (i + 1 + (j + 1)) := by rfl
        refine mx_lsc (congrArg (fun z9 => ([some (.ref (x)), some (.int (nI (h))), some (.int (nI (n))), some (.int (nI (vs_wrQ m T h i (j + 1) (vs_wrP m T h n i)))), some (.int (nI (i))), some (.int ((m (67 + 8 * (h) + T (i))))), some (.int (z9))] : List (Option Value))) e6) ?_
        exact ih
    · try dsimp only
      refine mx_il6 d_Vh_wrongWayRound_43 ?_
      refine mx_il2 d_Vh_wrongWayRound_45 ?_
      refine mx_icN_ge 87 d_Vh_wrongWayRound_46 (by decide) (by omega) (by omega) (fun c_46 => ?_) (fun c_46 => absurd c_46 (by omega))
      refine mx_iN4 d_Vh_wrongWayRound_87 ?_
      refine mx_goto 5 d_Vh_wrongWayRound_90 (by decide) ?_
      refine mx_dn5 ?_
      refine mx_dn6 ?_
      have e3 : nI (vs_wrQ m T h i (n - (i + 1)) (vs_wrP m T h n i)) = nI (vs_wrP m T h n (i + 1)) := by rfl
      refine mx_lsc (congrArg (fun z9 => ([some (.ref (x)), some (.int (nI (h))), some (.int (nI (n))), some (.int (z9)), some (.int (nI (i + 1))), none, none] : List (Option Value))) e3) ?_
      exact ih
  · try dsimp only
    refine mx_il4 d_Vh_wrongWayRound_5 ?_
    refine mx_il2 d_Vh_wrongWayRound_7 ?_
    refine mx_icN_ge 93 d_Vh_wrongWayRound_8 (by decide) (by omega) (by omega) (fun c_8 => ?_) (fun c_8 => absurd c_8 (by omega))
    refine mx_il3 d_Vh_wrongWayRound_93 ?_
    exact mx_iret d_Vh_wrongWayRound_94 rfl (mx_ri_of rfl)
theorem c_Vh_hand (htr : l.stackTraces = false) (hV : vh_ok S P x) (hSt : st_ok S P (x + 23)) (hSr : st_rel I (x + 23) m) (hH : m 3 = nI H) (hH8 : H ≤ 8) (hG : m 4 = nI G) (hG8 : G ≤ 8) (hTe : te_ok S P (x + 250)) (hT : tp_rel I (x + 250 + 1) T) (hn : n ≤ 400) (hTl : I (x + 250) 1 = nI n) {b : Bool} : mx_C l E M_Vh_hand 7 1 6 [.ref (x), .int (bI (b))] (t, S, I, P, J) (mx_po (fun _ => "java/lang/IllegalArgumentException") (sp_hand m T n H G b) (t, S, (mx_up I (x + 250) 1 (nI (0))), P, J)) := by
  obtain ⟨hV0, hVp0, hVp1, hVp2, hVp3, hVp4, hVp5, hVp7, hVp8, hVp9, hVp10, hVp11, hVp12, hVs15, hVs16, hVs68⟩ := id hV
  obtain ⟨hC0, hC1, hC2, hC3, hC4, hC5, hC6, hD1, hD2, hD3, hD4, hPe, hLo⟩ := id hSt
  obtain ⟨hPr, u0, u1, u2, u3, u4, u5, u6, u7, u8⟩ := id hSr
  obtain ⟨hA0, hA1, hA2, hA3, hA4, hA5, hA6, hA7, hB1, hB2, hB3, hB4, hB5, hB6, hB7⟩ := id hPe
  obtain ⟨r0, r1, r2, r3, r4, r5, r6, r7, r8⟩ := id hPr
  obtain ⟨hTe0, hTe1, hTe2, hTe3, hTe4, hTe5, hTe6, hTe7, hTe8, hTe9, hTe10⟩ := id hTe
  refine mx_C_of (ls0 := [some (.ref (x)), some (.int (bI (b))), none, none, none, none, none, none]) (by decide +kernel) rfl rfl (Nat.le_of_ble_eq_true rfl) rfl ?_
  refine mx_al0 d_Vh_hand_0 ?_
  refine mx_cV0i d_Vh_hand_1 (c_Vh_isList hV hSt hSr hG hG8 hTe hT hn hTl) ok_Vh_isList ml_Vh_363 (by assumption) ⟨rfl, rfl⟩ (by decide) (Nat.le_of_ble_eq_true rfl) ?_
  refine mx_is2 d_Vh_hand_4 ?_
  refine mx_al0 d_Vh_hand_5 ?_
  refine mx_getR d_Vh_hand_6 fl_Vh_71 (by assumption) (by assumption) ?_
  refine mx_getI d_Vh_hand_9 fl_Vh_101 (by assumption) ?_
  refine mx_ti (y := nI (n)) (hTl) ?_
  refine mx_is3 d_Vh_hand_12 ?_
  refine mx_al0 d_Vh_hand_13 ?_
  refine mx_getR d_Vh_hand_14 fl_Vh_71 (by assumption) (by assumption) ?_
  refine mx_cV0v d_Vh_hand_17 (c_Te_empty (by assumption)) ok_Te_empty ml_Vh_112 (by assumption) ⟨rfl, rfl⟩ (by decide) (Nat.le_of_ble_eq_true rfl) ?_
  have hSr9 : st_rel (mx_up I (x + 250) 1 (nI (0))) (x + 23) m := hSr.congr (fun c h1 h2 => mx_up_ne (by omega))
  have hT9 : tp_rel (mx_up I (x + 250) 1 (nI (0))) (x + 250 + 1) T := hT.up
  refine mx_il2 d_Vh_hand_20 ?_
  refine mx_ifB_ne 35 d_Vh_hand_21 (by decide) (fun c_21 => ?_) (fun c_21 => ?_)
  · skip
    have hTG := vs_gd_lt c_21
    have hTG8 : ∀ i, i < n → T i < 8 := fun i hi => by have := hTG i hi; omega
    refine mx_ic_m1 d_Vh_hand_35 ?_
    refine mx_is4 d_Vh_hand_36 ?_
    refine mx_in_0 d_Vh_hand_38 ?_
    refine mx_is5 d_Vh_hand_39 ?_
    refine mx_in_0 d_Vh_hand_41 ?_
    refine mx_is6 d_Vh_hand_42 ?_
    refine mx_loop (N := H) (ls := fun h => [some (.ref (x)), some (.int (bI (b))), some (.int (bI (vs_gd T G n))), some (.int (nI (n))), some (.int ((vs_hd m T n h).1)), some (.int (nI ((vs_hd m T n h).2))), some (.int (nI (h))), none]) (X := fun h => (t, S, (mx_up I (x + 250) 1 (nI (0))), P, J)) (fun h hh ih => ?_) ?_
    · try dsimp only
      refine mx_il6 d_Vh_hand_44 ?_
      refine mx_al0 d_Vh_hand_46 ?_
      refine mx_getR d_Vh_hand_47 fl_Vh_51 (by assumption) (by assumption) ?_
      refine mx_getR d_Vh_hand_50 fl_Vh_162 (by assumption) (by assumption) ?_
      refine mx_getI d_Vh_hand_53 fl_Vh_290 (by assumption) ?_
      refine mx_ti (y := nI (H)) ((congrFun (mx_up_ne (by omega)) 0).trans (r0.trans hH)) ?_
      refine mx_icN_ge 95 d_Vh_hand_56 (by decide) (by omega) (by omega) (fun c_56 => absurd c_56 (by omega)) (fun c_56 => ?_)
      refine mx_al0 d_Vh_hand_59 ?_
      refine mx_il6 d_Vh_hand_60 ?_
      refine mx_il3 d_Vh_hand_62 ?_
      refine mx_cV2i d_Vh_hand_63 (c_Vh_wrong hV hSt hSr9 hTe hT9 hn hTG8 (h := h) (by omega)) ok_Vh_wrongWayRound ml_Vh_368 (by assumption) ⟨rfl, rfl⟩ (by decide) (Nat.le_of_ble_eq_true rfl) ?_
      have w1 := vs_wn_le m T h hn
      have w2 := vs_hd_le m T hn (k := h) (by omega)
      refine mx_is7 d_Vh_hand_66 ?_
      refine mx_il4 d_Vh_hand_68 ?_
      refine mx_ic_m1 d_Vh_hand_70 ?_
      refine mx_icmp_eq 81 d_Vh_hand_71 (by decide) (fun c_71 => ?_) (fun c_71 => ?_)
      · skip
        have k0 : vs_hd m T n (h + 1) = (nI h, vs_wn m T h n) := by rw [vs_hd_s, if_pos (Or.inl c_71)]
        refine mx_il6 d_Vh_hand_81 ?_
        refine mx_is4 d_Vh_hand_83 ?_
        refine mx_il7 d_Vh_hand_85 ?_
        refine mx_is5 d_Vh_hand_87 ?_
        refine mx_iN6 d_Vh_hand_89 ?_
        refine mx_goto 44 d_Vh_hand_92 (by decide) ?_
        refine mx_dn7 ?_
        have e4 : nI (h) = (vs_hd m T n (h + 1)).1 := by rw [k0]
        refine mx_lsc (congrArg (fun z9 => ([some (.ref (x)), some (.int (bI (b))), some (.int (bI (vs_gd T G n))), some (.int (nI (n))), some (.int (z9)), some (.int (nI (vs_wn m T (h) n))), some (.int (nI (h + 1))), none] : List (Option Value))) e4) ?_
        have e5 : nI (vs_wn m T (h) n) = nI ((vs_hd m T n (h + 1)).2) := by rw [k0]
        refine mx_lsc (congrArg (fun z9 => ([some (.ref (x)), some (.int (bI (b))), some (.int (bI (vs_gd T G n))), some (.int (nI (n))), some (.int ((vs_hd m T n (h + 1)).1)), some (.int (z9)), some (.int (nI (h + 1))), none] : List (Option Value))) e5) ?_
        exact ih
      · skip
        refine mx_il7 d_Vh_hand_74 ?_
        refine mx_il5 d_Vh_hand_76 ?_
        refine mx_icN_ge 89 d_Vh_hand_78 (by decide) (by omega) (by omega) (fun c_78 => ?_) (fun c_78 => ?_)
        · skip
          have k0 : vs_hd m T n (h + 1) = vs_hd m T n h := by rw [vs_hd_s, if_neg (fun h9 => h9.elim c_71 (by omega))]
          refine mx_iN6 d_Vh_hand_89 ?_
          refine mx_goto 44 d_Vh_hand_92 (by decide) ?_
          refine mx_dn7 ?_
          have e4 : (vs_hd m T n h).1 = (vs_hd m T n (h + 1)).1 := by rw [k0]
          refine mx_lsc (congrArg (fun z9 => ([some (.ref (x)), some (.int (bI (b))), some (.int (bI (vs_gd T G n))), some (.int (nI (n))), some (.int (z9)), some (.int (nI ((vs_hd m T n h).2))), some (.int (nI (h + 1))), none] : List (Option Value))) e4) ?_
          have e5 : nI ((vs_hd m T n h).2) = nI ((vs_hd m T n (h + 1)).2) := by rw [k0]
          refine mx_lsc (congrArg (fun z9 => ([some (.ref (x)), some (.int (bI (b))), some (.int (bI (vs_gd T G n))), some (.int (nI (n))), some (.int ((vs_hd m T n (h + 1)).1)), some (.int (z9)), some (.int (nI (h + 1))), none] : List (Option Value))) e5) ?_
          exact ih
        · skip
          have k0 : vs_hd m T n (h + 1) = (nI h, vs_wn m T h n) := by rw [vs_hd_s, if_pos (Or.inr (by omega))]
          refine mx_il6 d_Vh_hand_81 ?_
          refine mx_is4 d_Vh_hand_83 ?_
          refine mx_il7 d_Vh_hand_85 ?_
          refine mx_is5 d_Vh_hand_87 ?_
          refine mx_iN6 d_Vh_hand_89 ?_
          refine mx_goto 44 d_Vh_hand_92 (by decide) ?_
          refine mx_dn7 ?_
          have e4 : nI (h) = (vs_hd m T n (h + 1)).1 := by rw [k0]
          refine mx_lsc (congrArg (fun z9 => ([some (.ref (x)), some (.int (bI (b))), some (.int (bI (vs_gd T G n))), some (.int (nI (n))), some (.int (z9)), some (.int (nI (vs_wn m T (h) n))), some (.int (nI (h + 1))), none] : List (Option Value))) e4) ?_
          have e5 : nI (vs_wn m T (h) n) = nI ((vs_hd m T n (h + 1)).2) := by rw [k0]
          refine mx_lsc (congrArg (fun z9 => ([some (.ref (x)), some (.int (bI (b))), some (.int (bI (vs_gd T G n))), some (.int (nI (n))), some (.int ((vs_hd m T n (h + 1)).1)), some (.int (z9)), some (.int (nI (h + 1))), none] : List (Option Value))) e5) ?_
          exact ih
    · try dsimp only
      refine mx_il6 d_Vh_hand_44 ?_
      refine mx_al0 d_Vh_hand_46 ?_
      refine mx_getR d_Vh_hand_47 fl_Vh_51 (by assumption) (by assumption) ?_
      refine mx_getR d_Vh_hand_50 fl_Vh_162 (by assumption) (by assumption) ?_
      refine mx_getI d_Vh_hand_53 fl_Vh_290 (by assumption) ?_
      refine mx_ti (y := nI (H)) ((congrFun (mx_up_ne (by omega)) 0).trans (r0.trans hH)) ?_
      refine mx_icN_ge 95 d_Vh_hand_56 (by decide) (by omega) (by omega) (fun c_56 => ?_) (fun c_56 => absurd c_56 (by omega))
      refine mx_il1 d_Vh_hand_95 ?_
      refine mx_ifB_eq 104 d_Vh_hand_96 (by decide) (fun c_96 => ?_) (fun c_96 => ?_)
      · skip
        refine mx_il4 d_Vh_hand_104 ?_
        exact mx_iret d_Vh_hand_106 rfl (mx_po_i (by simp [sp_hand, c_21, vs_handV, c_96]))
      · skip
        refine mx_il5 d_Vh_hand_99 ?_
        refine mx_goto 106 d_Vh_hand_101 (by decide) ?_
        exact mx_iret d_Vh_hand_106 rfl (mx_po_i (by simp [sp_hand, c_21, vs_handV, c_96]))
  · skip
    exact mx_throwW (i := 40) htr rfl th_Vh_115_119 rfl rfl d_Vh_hand_24 d_Vh_hand_27 d_Vh_hand_28 d_Vh_hand_31 d_Vh_hand_34 (by decide) (by decide) (by decide) (Nat.le_of_ble_eq_true rfl) (fun t9 ht => mx_po_x ht 0 (by simp [sp_hand, c_21]) rfl)
theorem c_Mo_wrongBy (hM : mo_ok S P mo) (hm : I (mo + 1) = m) (hT : tp_rel I (mo + 5) T) (hn : n ≤ 400) (hG8 : ∀ i, i < n → T i < 8) {h : Nat} (hh : h < 8) : mx_C l E M_Mo_wrongBy 2 0 0 [.ref (mo), .int (nI (h)), .int (nI (n))] (t, S, I, P, J) (mx_ri (nI (vs_wn m T h n)) (t, S, I, P, J)) := by
  obtain ⟨hM0, hMp1, hMp2, hMp4, hMp5, hMp7, hMp14, hMp21, hMp22, hMp23, hMp24, hMp25, hMp26, hMp27, hMs1, hMs2, hMs3, hMs4, hMs5, hMs6, hMs7, hMs8, hMs9, hMs10, hMs11, hMs12, hMs13⟩ := id hM
  refine mx_C_of (ls0 := [some (.ref (mo)), some (.int (nI (h))), some (.int (nI (n))), none, none, none]) (by decide +kernel) rfl rfl (Nat.le_of_ble_eq_true rfl) rfl ?_
  refine mx_in_0 d_Mo_wrongBy_0 ?_
  refine mx_is3 d_Mo_wrongBy_1 ?_
  refine mx_in_0 d_Mo_wrongBy_2 ?_
  refine mx_is4 d_Mo_wrongBy_3 ?_
  refine mx_loop (N := n) (ls := fun i => [some (.ref (mo)), some (.int (nI (h))), some (.int (nI (n))), some (.int (nI (vs_wrP m T h n i))), some (.int (nI (i))), none]) (X := fun i => (t, S, I, P, J)) (fun i hi ih => ?_) ?_
  · try dsimp only
    refine mx_il4 d_Mo_wrongBy_5 ?_
    refine mx_il2 d_Mo_wrongBy_7 ?_
    refine mx_icN_ge 70 d_Mo_wrongBy_8 (by decide) (by omega) (by omega) (fun c_8 => absurd c_8 (by omega)) (fun c_8 => ?_)
    refine mx_il4 d_Mo_wrongBy_11 ?_
    refine mx_in_1 d_Mo_wrongBy_13 ?_
    refine mx_iaddN d_Mo_wrongBy_14 ?_
    refine mx_is5 d_Mo_wrongBy_15 ?_
    have ih5 := ih
    refine mx_loop (N := n - (i + 1)) (ls := fun j => [some (.ref (mo)), some (.int (nI (h))), some (.int (nI (n))), some (.int (nI (vs_wrQ m T h i j (vs_wrP m T h n i)))), some (.int (nI (i))), some (.int (nI (i + 1 + j)))]) (X := fun j => (t, S, I, P, J)) (fun j hj ih => ?_) ?_
    · try dsimp only
      refine mx_il5 d_Mo_wrongBy_17 ?_
      refine mx_il2 d_Mo_wrongBy_19 ?_
      refine mx_icN_ge 64 d_Mo_wrongBy_20 (by decide) (by omega) (by omega) (fun c_20 => absurd c_20 (by omega)) (fun c_20 => ?_)
      refine mx_il3 d_Mo_wrongBy_23 ?_
      refine mx_al0 d_Mo_wrongBy_24 ?_
      refine mx_il1 d_Mo_wrongBy_25 ?_
      refine mx_al0 d_Mo_wrongBy_26 ?_
      refine mx_getR d_Mo_wrongBy_27 fl_Mo_22 (by assumption) (by assumption) ?_
      refine mx_il4 d_Mo_wrongBy_30 ?_
      refine mx_iald d_Mo_wrongBy_32 (by assumption) (nI_inb (by omega) (by omega)) ?_
      refine mx_ti (y := I (mo + 5) (i)) (by rw [nI_clamp (by omega)]) ?_
      have hTi := hG8 i (by omega)
      refine mx_ti (y := nI (T (i))) ((hT (i) (by omega)).2) ?_
      refine mx_cV2i d_Mo_wrongBy_33 (cm_rankOf hM hm (h := h) (g := T (i)) (by omega) (by omega)) ok_Mo_rankOf ml_Mo_61 (by assumption) ⟨rfl, rfl⟩ (by decide) (Nat.le_of_ble_eq_true rfl) ?_
      refine mx_al0 d_Mo_wrongBy_36 ?_
      refine mx_il1 d_Mo_wrongBy_37 ?_
      refine mx_al0 d_Mo_wrongBy_38 ?_
      refine mx_getR d_Mo_wrongBy_39 fl_Mo_22 (by assumption) (by assumption) ?_
      refine mx_il5 d_Mo_wrongBy_42 ?_
      refine mx_iald d_Mo_wrongBy_44 (by assumption) (nI_inb (by omega) (by omega)) ?_
      refine mx_ti (y := I (mo + 5) (i + 1 + j)) (by rw [nI_clamp (by omega)]) ?_
      have hTj := hG8 (i + 1 + j) (by omega)
      refine mx_ti (y := nI (T (i + 1 + j))) ((hT (i + 1 + j) (by omega)).2) ?_
      refine mx_cV2i d_Mo_wrongBy_45 (cm_rankOf hM hm (h := h) (g := T (i + 1 + j)) (by omega) (by omega)) ok_Mo_rankOf ml_Mo_61 (by assumption) ⟨rfl, rfl⟩ (by decide) (Nat.le_of_ble_eq_true rfl) ?_
      refine mx_icmp_ge 55 d_Mo_wrongBy_48 (by decide) (fun c_48 => ?_) (fun c_48 => ?_)
      · skip
        refine mx_in_0 d_Mo_wrongBy_55 ?_
        refine mx_iaddN d_Mo_wrongBy_56 ?_
        refine mx_is3 d_Mo_wrongBy_57 ?_
        refine mx_iN5 d_Mo_wrongBy_58 ?_
        refine mx_goto 17 d_Mo_wrongBy_61 (by decide) ?_
        have e3 : nI (vs_wrQ m T h i j (vs_wrP m T h n i) + 0) = nI (vs_wrQ m T h i (j + 1) (vs_wrP m T h n i)) := by (rw [vs_wrQ_s]; first | (rw [if_neg (Int32.not_lt.mpr c_48)]; done) | (rw [if_neg (Int32.not_lt.mpr c_48)]; rfl) | (rw [if_pos (Int32.not_le.mp c_48)]; done))
        refine mx_lsc (congrArg (fun z9 => ([some (.ref (mo)), some (.int (nI (h))), some (.int (nI (n))), some (.int (z9)), some (.int (nI (i))), some (.int (nI (i + 1 + j + 1)))] : List (Option Value))) e3) ?_
        have e5 : nI (i + 1 + j + 1) = nI (i + 1 + (j + 1)) := by rfl
        refine mx_lsc (congrArg (fun z9 => ([some (.ref (mo)), some (.int (nI (h))), some (.int (nI (n))), some (.int (nI (vs_wrQ m T h i (j + 1) (vs_wrP m T h n i)))), some (.int (nI (i))), some (.int (z9))] : List (Option Value))) e5) ?_
        exact ih
      · skip
        refine mx_in_1 d_Mo_wrongBy_51 ?_
        refine mx_goto 56 d_Mo_wrongBy_52 (by decide) ?_
        refine mx_iaddN d_Mo_wrongBy_56 ?_
        refine mx_is3 d_Mo_wrongBy_57 ?_
        refine mx_iN5 d_Mo_wrongBy_58 ?_
        refine mx_goto 17 d_Mo_wrongBy_61 (by decide) ?_
        have e3 : nI (vs_wrQ m T h i j (vs_wrP m T h n i) + 1) = nI (vs_wrQ m T h i (j + 1) (vs_wrP m T h n i)) := by (rw [vs_wrQ_s]; first | (rw [if_neg (Int32.not_lt.mpr c_48)]; done) | (rw [if_neg (Int32.not_lt.mpr c_48)]; rfl) | (rw [if_pos (Int32.not_le.mp c_48)]; done))
        refine mx_lsc (congrArg (fun z9 => ([some (.ref (mo)), some (.int (nI (h))), some (.int (nI (n))), some (.int (z9)), some (.int (nI (i))), some (.int (nI (i + 1 + j + 1)))] : List (Option Value))) e3) ?_
        have e5 : nI (i + 1 + j + 1) = nI (i + 1 + (j + 1)) := by rfl
        refine mx_lsc (congrArg (fun z9 => ([some (.ref (mo)), some (.int (nI (h))), some (.int (nI (n))), some (.int (nI (vs_wrQ m T h i (j + 1) (vs_wrP m T h n i)))), some (.int (nI (i))), some (.int (z9))] : List (Option Value))) e5) ?_
        exact ih
    · try dsimp only
      refine mx_il5 d_Mo_wrongBy_17 ?_
      refine mx_il2 d_Mo_wrongBy_19 ?_
      refine mx_icN_ge 64 d_Mo_wrongBy_20 (by decide) (by omega) (by omega) (fun c_20 => ?_) (fun c_20 => absurd c_20 (by omega))
      refine mx_iN4 d_Mo_wrongBy_64 ?_
      refine mx_goto 5 d_Mo_wrongBy_67 (by decide) ?_
      refine mx_dn5 ?_
      have e3 : nI (vs_wrQ m T h i (n - (i + 1)) (vs_wrP m T h n i)) = nI (vs_wrP m T h n (i + 1)) := by rfl
      refine mx_lsc (congrArg (fun z9 => ([some (.ref (mo)), some (.int (nI (h))), some (.int (nI (n))), some (.int (z9)), some (.int (nI (i + 1))), none] : List (Option Value))) e3) ?_
      exact ih
  · try dsimp only
    refine mx_il4 d_Mo_wrongBy_5 ?_
    refine mx_il2 d_Mo_wrongBy_7 ?_
    refine mx_icN_ge 70 d_Mo_wrongBy_8 (by decide) (by omega) (by omega) (fun c_8 => ?_) (fun c_8 => absurd c_8 (by omega))
    refine mx_il3 d_Mo_wrongBy_70 ?_
    exact mx_iret d_Mo_wrongBy_71 rfl (mx_ri_of rfl)
theorem c_Mo_hand (hM : mo_ok S P mo) (hm : I (mo + 1) = m) (hH : m 3 = nI H) (hH8 : H ≤ 8) (hG : m 4 = nI G) (hG8 : G ≤ 8) (hT : tp_rel I (mo + 5) T) (hTl : I mo 8 = nI n) (hn : n ≤ 400) {b : Bool} : mx_C l E M_Mo_hand 3 0 0 [.ref (mo), .int (bI (b))] (t, S, I, P, J) (mx_ri (sp_hand m T n H G b).2 (t, S, mx_up (mx_up I mo 8 (nI 0)) mo 0 (nI (sp_hand m T n H G b).1), P, J)) := by
  obtain ⟨hM0, hMp1, hMp2, hMp4, hMp5, hMp7, hMp14, hMp21, hMp22, hMp23, hMp24, hMp25, hMp26, hMp27, hMs1, hMs2, hMs3, hMs4, hMs5, hMs6, hMs7, hMs8, hMs9, hMs10, hMs11, hMs12, hMs13⟩ := id hM
  refine mx_C_of (ls0 := [some (.ref (mo)), some (.int (bI (b))), none, none, none, none, none]) (by decide +kernel) rfl rfl (Nat.le_of_ble_eq_true rfl) rfl ?_
  refine mx_al0 d_Mo_hand_0 ?_
  refine mx_getI d_Mo_hand_1 fl_Mo_81 (by assumption) ?_
  refine mx_ti (y := nI (n)) (hTl) ?_
  refine mx_is2 d_Mo_hand_4 ?_
  refine mx_al0 d_Mo_hand_5 ?_
  refine mx_in_0 d_Mo_hand_6 ?_
  refine mx_putI d_Mo_hand_7 fl_Mo_81 (by assumption) ?_
  have hT9 : tp_rel (mx_up I (mo) 8 (nI (0))) (mo + 5) T := hT.up
  refine mx_in_0 d_Mo_hand_10 ?_
  refine mx_is3 d_Mo_hand_11 ?_
  refine mx_in_1 d_Mo_hand_12 ?_
  refine mx_is4 d_Mo_hand_13 ?_
  refine mx_in_0 d_Mo_hand_15 ?_
  refine mx_is5 d_Mo_hand_16 ?_
  refine mx_loop (N := n) (ls := fun i => [some (.ref (mo)), some (.int (bI (b))), some (.int (nI (n))), some (.int ((vs_hs T G i))), some (.int (bI (vs_gd T G i))), some (.int (nI (i))), none]) (X := fun i => (t, S, (mx_up I (mo) 8 (nI (0))), P, J)) (fun i hi ih => ?_) ?_
  · try dsimp only
    refine mx_il5 d_Mo_hand_18 ?_
    refine mx_il2 d_Mo_hand_20 ?_
    refine mx_icN_ge 89 d_Mo_hand_21 (by decide) (by omega) (by omega) (fun c_21 => absurd c_21 (by omega)) (fun c_21 => ?_)
    refine mx_il4 d_Mo_hand_24 ?_
    refine mx_ifB_eq 89 d_Mo_hand_26 (by decide) (fun c_26 => ?_) (fun c_26 => ?_)
    · skip
      refine mx_al0 d_Mo_hand_89 ?_
      refine mx_il4 d_Mo_hand_90 ?_
      refine mx_ifB_eq 99 d_Mo_hand_92 (by decide) (fun c_92 => ?_) (fun c_92 => absurd c_92 (by rw [c_26]; decide))
      refine mx_in_1 d_Mo_hand_99 ?_
      refine mx_putI d_Mo_hand_100 fl_Mo_54 (by assumption) ?_
      refine mx_al0 d_Mo_hand_103 ?_
      refine mx_getI d_Mo_hand_104 fl_Mo_54 (by assumption) ?_
      refine mx_ti (y := nI (1)) (vs_upx) ?_
      refine mx_if_le 112 d_Mo_hand_107 (by decide) (fun c_107 => absurd c_107 (by decide)) (fun c_107 => ?_)
      refine mx_in_0 d_Mo_hand_110 ?_
      exact mx_iret d_Mo_hand_111 rfl (mx_ri_of2 (by first | (have z9 := vs_gd_f c_26 (n := n) (by omega); simp [sp_hand, z9]; done) | simp [sp_hand, c_92]) (by first | (have z9 := vs_gd_f c_26 (n := n) (by omega); simp [sp_hand, z9]; done) | simp [sp_hand, c_92]))
    · skip
      refine mx_al0 d_Mo_hand_29 ?_
      refine mx_getR d_Mo_hand_30 fl_Mo_22 (by assumption) (by assumption) ?_
      refine mx_il5 d_Mo_hand_33 ?_
      refine mx_iald d_Mo_hand_35 (by assumption) (nI_inb (by omega) (by omega)) ?_
      refine mx_ti (y := (mx_up I (mo) 8 (nI (0))) (mo + 5) (i)) (by rw [nI_clamp (by omega)]) ?_
      have hTi := (hT9 i (by omega)).1
      refine mx_ti (y := nI (T (i))) ((hT9 (i) (by omega)).2) ?_
      refine mx_al0 d_Mo_hand_36 ?_
      refine mx_getR d_Mo_hand_37 fl_Mo_7 (by assumption) (by assumption) ?_
      refine mx_in_4 d_Mo_hand_40 ?_
      refine mx_iald d_Mo_hand_41 (by assumption) (nI_inb (by omega) (by omega)) ?_
      refine mx_ti (y := (mx_up I (mo) 8 (nI (0))) (mo + 1) (4)) (by rw [nI_clamp (by omega)]) ?_
      refine mx_ti (y := nI (G)) ((congrFun (vs_hm hm) 4).trans hG) ?_
      refine mx_icN_ge 63 d_Mo_hand_42 (by decide) (by omega) (by omega) (fun c_42 => ?_) (fun c_42 => ?_)
      · skip
        have k0 : vs_okS G (vs_hs T G i) (T i) = false := by simp [vs_okS]; omega
        refine mx_in_0 d_Mo_hand_63 ?_
        refine mx_is4 d_Mo_hand_64 ?_
        refine mx_il4 d_Mo_hand_66 ?_
        refine mx_if_eq 83 d_Mo_hand_68 (by decide) (fun c_68 => ?_) (fun c_68 => absurd (by decide) c_68)
        refine mx_iN5 d_Mo_hand_83 ?_
        refine mx_goto 18 d_Mo_hand_86 (by decide) ?_
        have e3 : (vs_hs T G i) = (vs_hs T G (i + 1)) := by first | (rw [vs_hs_s, if_pos k0]; done) | (rw [vs_hs_s, if_neg (by rw [k0]; decide)]; done)
        refine mx_lsc (congrArg (fun z9 => ([some (.ref (mo)), some (.int (bI (b))), some (.int (nI (n))), some (.int (z9)), some (.int (nI (0))), some (.int (nI (i + 1))), none] : List (Option Value))) e3) ?_
        have e4 : nI (0) = bI (vs_gd T G (i + 1)) := by rw [vs_gd_s, c_26, k0]; rfl
        refine mx_lsc (congrArg (fun z9 => ([some (.ref (mo)), some (.int (bI (b))), some (.int (nI (n))), some (.int ((vs_hs T G (i + 1)))), some (.int (z9)), some (.int (nI (i + 1))), none] : List (Option Value))) e4) ?_
        exact ih
      · skip
        refine mx_il3 d_Mo_hand_45 ?_
        refine mx_al0 d_Mo_hand_46 ?_
        refine mx_getR d_Mo_hand_47 fl_Mo_22 (by assumption) (by assumption) ?_
        refine mx_il5 d_Mo_hand_50 ?_
        refine mx_iald d_Mo_hand_52 (by assumption) (nI_inb (by omega) (by omega)) ?_
        refine mx_ti (y := (mx_up I (mo) 8 (nI (0))) (mo + 5) (i)) (by rw [nI_clamp (by omega)]) ?_
        refine mx_ti (y := nI (T (i))) ((hT9 (i) (by omega)).2) ?_
        refine mx_cS2i d_Mo_hand_53 (c_Mo_isOf (j := T (i)) (by omega)) ok_Mo_isOf ml_Mo_74 (by decide) (Nat.le_of_ble_eq_true rfl) ?_
        refine mx_ifB_ne 63 d_Mo_hand_56 (by decide) (fun c_56 => ?_) (fun c_56 => ?_)
        · skip
          have k0 : vs_okS G (vs_hs T G i) (T i) = false := by simp [vs_okS, c_56]
          refine mx_in_0 d_Mo_hand_63 ?_
          refine mx_is4 d_Mo_hand_64 ?_
          refine mx_il4 d_Mo_hand_66 ?_
          refine mx_if_eq 83 d_Mo_hand_68 (by decide) (fun c_68 => ?_) (fun c_68 => absurd (by decide) c_68)
          refine mx_iN5 d_Mo_hand_83 ?_
          refine mx_goto 18 d_Mo_hand_86 (by decide) ?_
          have e3 : (vs_hs T G i) = (vs_hs T G (i + 1)) := by first | (rw [vs_hs_s, if_pos k0]; done) | (rw [vs_hs_s, if_neg (by rw [k0]; decide)]; done)
          refine mx_lsc (congrArg (fun z9 => ([some (.ref (mo)), some (.int (bI (b))), some (.int (nI (n))), some (.int (z9)), some (.int (nI (0))), some (.int (nI (i + 1))), none] : List (Option Value))) e3) ?_
          have e4 : nI (0) = bI (vs_gd T G (i + 1)) := by rw [vs_gd_s, c_26, k0]; rfl
          refine mx_lsc (congrArg (fun z9 => ([some (.ref (mo)), some (.int (bI (b))), some (.int (nI (n))), some (.int ((vs_hs T G (i + 1)))), some (.int (z9)), some (.int (nI (i + 1))), none] : List (Option Value))) e4) ?_
          exact ih
        · skip
          have k0 : vs_okS G (vs_hs T G i) (T i) = true := by simp [vs_okS, c_56]; omega
          refine mx_in_1 d_Mo_hand_59 ?_
          refine mx_goto 64 d_Mo_hand_60 (by decide) ?_
          refine mx_is4 d_Mo_hand_64 ?_
          refine mx_il4 d_Mo_hand_66 ?_
          refine mx_if_eq 83 d_Mo_hand_68 (by decide) (fun c_68 => absurd c_68 (by decide)) (fun c_68 => ?_)
          refine mx_il3 d_Mo_hand_71 ?_
          refine mx_in_1 d_Mo_hand_72 ?_
          refine mx_al0 d_Mo_hand_73 ?_
          refine mx_getR d_Mo_hand_74 fl_Mo_22 (by assumption) (by assumption) ?_
          refine mx_il5 d_Mo_hand_77 ?_
          refine mx_iald d_Mo_hand_79 (by assumption) (nI_inb (by omega) (by omega)) ?_
          refine mx_ti (y := (mx_up I (mo) 8 (nI (0))) (mo + 5) (i)) (by rw [nI_clamp (by omega)]) ?_
          refine mx_ti (y := nI (T (i))) ((hT9 (i) (by omega)).2) ?_
          refine mx_ishl d_Mo_hand_80 ?_
          refine mx_ior d_Mo_hand_81 ?_
          refine mx_is3 d_Mo_hand_82 ?_
          refine mx_iN5 d_Mo_hand_83 ?_
          refine mx_goto 18 d_Mo_hand_86 (by decide) ?_
          have e3 : ((vs_hs T G i) ||| (nI (1) <<< (nI (T (i)) &&& 31))) = (vs_hs T G (i + 1)) := by first | (rw [vs_hs_s, if_pos k0]; done) | (rw [vs_hs_s, if_neg (by rw [k0]; decide)]; done)
          refine mx_lsc (congrArg (fun z9 => ([some (.ref (mo)), some (.int (bI (b))), some (.int (nI (n))), some (.int (z9)), some (.int (nI (1))), some (.int (nI (i + 1))), none] : List (Option Value))) e3) ?_
          have e4 : nI (1) = bI (vs_gd T G (i + 1)) := by rw [vs_gd_s, c_26, k0]; rfl
          refine mx_lsc (congrArg (fun z9 => ([some (.ref (mo)), some (.int (bI (b))), some (.int (nI (n))), some (.int ((vs_hs T G (i + 1)))), some (.int (z9)), some (.int (nI (i + 1))), none] : List (Option Value))) e4) ?_
          exact ih
  · try dsimp only
    refine mx_il5 d_Mo_hand_18 ?_
    refine mx_il2 d_Mo_hand_20 ?_
    refine mx_icN_ge 89 d_Mo_hand_21 (by decide) (by omega) (by omega) (fun c_21 => ?_) (fun c_21 => absurd c_21 (by omega))
    refine mx_al0 d_Mo_hand_89 ?_
    refine mx_il4 d_Mo_hand_90 ?_
    refine mx_ifB_eq 99 d_Mo_hand_92 (by decide) (fun c_92 => ?_) (fun c_92 => ?_)
    · skip
      refine mx_in_1 d_Mo_hand_99 ?_
      refine mx_putI d_Mo_hand_100 fl_Mo_54 (by assumption) ?_
      refine mx_al0 d_Mo_hand_103 ?_
      refine mx_getI d_Mo_hand_104 fl_Mo_54 (by assumption) ?_
      refine mx_ti (y := nI (1)) (vs_upx) ?_
      refine mx_if_le 112 d_Mo_hand_107 (by decide) (fun c_107 => absurd c_107 (by decide)) (fun c_107 => ?_)
      refine mx_in_0 d_Mo_hand_110 ?_
      exact mx_iret d_Mo_hand_111 rfl (mx_ri_of2 (by first | (have z9 := vs_gd_f c_26 (n := n) (by omega); simp [sp_hand, z9]; done) | simp [sp_hand, c_92]) (by first | (have z9 := vs_gd_f c_26 (n := n) (by omega); simp [sp_hand, z9]; done) | simp [sp_hand, c_92]))
    · skip
      refine mx_in_0 d_Mo_hand_95 ?_
      refine mx_goto 100 d_Mo_hand_96 (by decide) ?_
      refine mx_putI d_Mo_hand_100 fl_Mo_54 (by assumption) ?_
      refine mx_al0 d_Mo_hand_103 ?_
      refine mx_getI d_Mo_hand_104 fl_Mo_54 (by assumption) ?_
      refine mx_ti (y := nI (0)) (vs_upx) ?_
      refine mx_if_le 112 d_Mo_hand_107 (by decide) (fun c_107 => ?_) (fun c_107 => absurd (by decide) c_107)
      have hT8 : tp_rel (mx_up (mx_up I (mo) 8 (nI (0))) (mo) 0 (nI (0))) (mo + 5) T := hT9.up
      have hTG := vs_gd_lt c_92
      have hTG8 : ∀ i, i < n → T i < 8 := fun i hi => by have := hTG i hi; omega
      refine mx_ic_m1 d_Mo_hand_112 ?_
      refine mx_is5 d_Mo_hand_113 ?_
      refine mx_in_0 d_Mo_hand_115 ?_
      refine mx_is6 d_Mo_hand_116 ?_
      refine mx_loop (N := H) (ls := fun h => [some (.ref (mo)), some (.int (bI (b))), some (.int (nI (n))), some (.int ((vs_hs T G n))), some (.int (bI (vs_gd T G n))), some (.int ((vs_fd m T n h))), some (.int (nI (h)))]) (X := fun h => (t, S, (mx_up (mx_up I (mo) 8 (nI (0))) (mo) 0 (nI (0))), P, J)) (fun h hh ih => ?_) ?_
      · try dsimp only
        refine mx_il6 d_Mo_hand_118 ?_
        refine mx_al0 d_Mo_hand_120 ?_
        refine mx_getR d_Mo_hand_121 fl_Mo_7 (by assumption) (by assumption) ?_
        refine mx_in_3 d_Mo_hand_124 ?_
        refine mx_iald d_Mo_hand_125 (by assumption) (nI_inb (by omega) (by omega)) ?_
        refine mx_ti (y := (mx_up (mx_up I (mo) 8 (nI (0))) (mo) 0 (nI (0))) (mo + 1) (3)) (by rw [nI_clamp (by omega)]) ?_
        refine mx_ti (y := nI (H)) ((congrFun (vs_hm (vs_hm hm)) 3).trans hH) ?_
        refine mx_icN_ge 162 d_Mo_hand_126 (by decide) (by omega) (by omega) (fun c_126 => absurd c_126 (by omega)) (fun c_126 => ?_)
        refine mx_il5 d_Mo_hand_129 ?_
        refine mx_ic_m1 d_Mo_hand_131 ?_
        refine mx_icmp_eq 152 d_Mo_hand_132 (by decide) (fun c_132 => ?_) (fun c_132 => ?_)
        · skip
          have k0 : vs_fd m T n (h + 1) = nI h := by rw [vs_fd_s, if_pos (Or.inl c_132)]
          refine mx_il6 d_Mo_hand_152 ?_
          refine mx_is5 d_Mo_hand_154 ?_
          refine mx_iN6 d_Mo_hand_156 ?_
          refine mx_goto 118 d_Mo_hand_159 (by decide) ?_
          have e5 : nI (h) = (vs_fd m T n (h + 1)) := by rw [k0]
          refine mx_lsc (congrArg (fun z9 => ([some (.ref (mo)), some (.int (bI (b))), some (.int (nI (n))), some (.int ((vs_hs T G n))), some (.int (bI (vs_gd T G n))), some (.int (z9)), some (.int (nI (h + 1)))] : List (Option Value))) e5) ?_
          exact ih
        · skip
          obtain ⟨b9, hb9, eb⟩ := vs_fd_in m T n h c_132
          have ebc : (vs_fd m T n h).toNatClampNeg = b9 := by rw [eb]; exact nI_clamp (by omega)
          have w3 := vs_wn_le m T b9 hn
          refine mx_al0 d_Mo_hand_135 ?_
          refine mx_il6 d_Mo_hand_136 ?_
          refine mx_il2 d_Mo_hand_138 ?_
          refine mx_cV2i d_Mo_hand_139 (c_Mo_wrongBy hM (vs_hm (vs_hm hm)) hT8 hn hTG8 (h := h) (by omega)) ok_Mo_wrongBy ml_Mo_403 (by assumption) ⟨rfl, rfl⟩ (by decide) (Nat.le_of_ble_eq_true rfl) ?_
          have w1 := vs_wn_le m T h hn
          refine mx_al0 d_Mo_hand_142 ?_
          refine mx_il5 d_Mo_hand_143 ?_
          refine mx_ti (y := nI (b9)) (eb) ?_
          refine mx_il2 d_Mo_hand_145 ?_
          refine mx_cV2i d_Mo_hand_146 (c_Mo_wrongBy hM (vs_hm (vs_hm hm)) hT8 hn hTG8 (h := b9) (by omega)) ok_Mo_wrongBy ml_Mo_403 (by assumption) ⟨rfl, rfl⟩ (by decide) (Nat.le_of_ble_eq_true rfl) ?_
          refine mx_icN_ge 156 d_Mo_hand_149 (by decide) (by omega) (by omega) (fun c_149 => ?_) (fun c_149 => ?_)
          · skip
            have k0 : vs_fd m T n (h + 1) = vs_fd m T n h := by rw [vs_fd_s, if_neg (fun h9 => h9.elim c_132 (by rw [ebc]; omega))]
            refine mx_iN6 d_Mo_hand_156 ?_
            refine mx_goto 118 d_Mo_hand_159 (by decide) ?_
            have e5 : (vs_fd m T n h) = (vs_fd m T n (h + 1)) := by rw [k0]
            refine mx_lsc (congrArg (fun z9 => ([some (.ref (mo)), some (.int (bI (b))), some (.int (nI (n))), some (.int ((vs_hs T G n))), some (.int (bI (vs_gd T G n))), some (.int (z9)), some (.int (nI (h + 1)))] : List (Option Value))) e5) ?_
            exact ih
          · skip
            have k0 : vs_fd m T n (h + 1) = nI h := by rw [vs_fd_s, if_pos (Or.inr (by rw [ebc]; omega))]
            refine mx_il6 d_Mo_hand_152 ?_
            refine mx_is5 d_Mo_hand_154 ?_
            refine mx_iN6 d_Mo_hand_156 ?_
            refine mx_goto 118 d_Mo_hand_159 (by decide) ?_
            have e5 : nI (h) = (vs_fd m T n (h + 1)) := by rw [k0]
            refine mx_lsc (congrArg (fun z9 => ([some (.ref (mo)), some (.int (bI (b))), some (.int (nI (n))), some (.int ((vs_hs T G n))), some (.int (bI (vs_gd T G n))), some (.int (z9)), some (.int (nI (h + 1)))] : List (Option Value))) e5) ?_
            exact ih
      · try dsimp only
        refine mx_il6 d_Mo_hand_118 ?_
        refine mx_al0 d_Mo_hand_120 ?_
        refine mx_getR d_Mo_hand_121 fl_Mo_7 (by assumption) (by assumption) ?_
        refine mx_in_3 d_Mo_hand_124 ?_
        refine mx_iald d_Mo_hand_125 (by assumption) (nI_inb (by omega) (by omega)) ?_
        refine mx_ti (y := (mx_up (mx_up I (mo) 8 (nI (0))) (mo) 0 (nI (0))) (mo + 1) (3)) (by rw [nI_clamp (by omega)]) ?_
        refine mx_ti (y := nI (H)) ((congrFun (vs_hm (vs_hm hm)) 3).trans hH) ?_
        refine mx_icN_ge 162 d_Mo_hand_126 (by decide) (by omega) (by omega) (fun c_126 => ?_) (fun c_126 => absurd c_126 (by omega))
        refine mx_il1 d_Mo_hand_162 ?_
        refine mx_ifB_ne 171 d_Mo_hand_163 (by decide) (fun c_163 => ?_) (fun c_163 => ?_)
        · skip
          refine mx_il5 d_Mo_hand_171 ?_
          refine mx_ic_m1 d_Mo_hand_173 ?_
          refine mx_icmp_ne 181 d_Mo_hand_174 (by decide) (fun c_174 => ?_) (fun c_174 => ?_)
          · skip
            obtain ⟨b9, hb9, eb⟩ := vs_fd_in m T n H c_174
            have ebc : (vs_fd m T n H).toNatClampNeg = b9 := by rw [eb]; exact nI_clamp (by omega)
            have w3 := vs_wn_le m T b9 hn
            refine mx_al0 d_Mo_hand_181 ?_
            refine mx_il5 d_Mo_hand_182 ?_
            refine mx_ti (y := nI (b9)) (eb) ?_
            refine mx_il2 d_Mo_hand_184 ?_
            refine mx_cV2i d_Mo_hand_185 (c_Mo_wrongBy hM (vs_hm (vs_hm hm)) hT8 hn hTG8 (h := b9) (by omega)) ok_Mo_wrongBy ml_Mo_403 (by assumption) ⟨rfl, rfl⟩ (by decide) (Nat.le_of_ble_eq_true rfl) ?_
            exact mx_iret d_Mo_hand_188 rfl (mx_ri_of2 (by simp only [sp_hand, c_92, if_true, vs_handV, vs_hd_fd m T n hH8]; first | (rw [c_163]; rfl) | (rw [c_163, if_pos rfl, if_pos c_174]; done) | (rw [c_163, if_pos rfl, if_neg c_174, ebc])) (by simp [sp_hand, c_92]))
          · skip
            refine mx_in_0 d_Mo_hand_177 ?_
            refine mx_goto 188 d_Mo_hand_178 (by decide) ?_
            exact mx_iret d_Mo_hand_188 rfl (mx_ri_of2 (by simp only [sp_hand, c_92, if_true, vs_handV, vs_hd_fd m T n hH8]; first | (rw [c_163]; rfl) | (rw [c_163, if_pos rfl, if_pos c_174]; done) | (rw [c_163, if_pos rfl, if_neg c_174, ebc])) (by simp [sp_hand, c_92]))
        · skip
          refine mx_il5 d_Mo_hand_166 ?_
          refine mx_goto 188 d_Mo_hand_168 (by decide) ?_
          exact mx_iret d_Mo_hand_188 rfl (mx_ri_of2 (by simp only [sp_hand, c_92, if_true, vs_handV, vs_hd_fd m T n hH8]; first | (rw [c_163]; rfl) | (rw [c_163, if_pos rfl, if_pos c_174]; done) | (rw [c_163, if_pos rfl, if_neg c_174, ebc])) (by simp [sp_hand, c_92]))
end W31
