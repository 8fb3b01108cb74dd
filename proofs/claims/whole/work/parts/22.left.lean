/-! WHAT TAKING OVER LEAVES -/
section N22
variable {I : mx_I} {S : mx_S} {P : mx_P} {pe pf lo lf s r N z : Nat} {m : Nat → Int32}
theorem vs_cp_ne {a b L c : Nat} (h : c ≠ b) : vs_cp I a b L c = I c := by funext k; simp [vs_cp, h]
theorem vs_cp_at {a b L k : Nat} (h : k < L) : vs_cp I a b L b k = I a k := by simp [vs_cp, h]
theorem vs_up_k {a j k : Nat} {v : Int32} (h : k ≠ j) : mx_up I a j v a k = I a k := by simp [mx_up, h]
theorem vs_peT_o {c : Nat} (h : c < pe ∨ pe + 8 ≤ c) : vs_peT I pe pf c = I c := by
  have e : ∀ j, j < 8 → c ≠ pe + j := fun j hj => by omega
  have e0 : c ≠ pe := by omega
  unfold vs_peT
  simp only [vs_cp_ne (e 1 (by omega)), vs_cp_ne (e 2 (by omega)), vs_cp_ne (e 3 (by omega)), vs_cp_ne (e 4 (by omega)), vs_cp_ne (e 5 (by omega)), vs_cp_ne (e 6 (by omega)), vs_cp_ne (e 7 (by omega)), mx_up_ne e0]
theorem vs_peT_rel (hd : pe + 8 ≤ pf ∨ pf + 8 ≤ pe) (h : pe_rel I pf m) : pe_rel (vs_peT I pe pf) pe m := by
  obtain ⟨r0, r1, r2, r3, r4, r5, r6, r7, r8⟩ := h
  refine ⟨?_, ?_, fun h hh => ?_, fun h hh => ?_, fun h hh => ?_, fun h hh => ?_, fun h hh => ?_, fun h g hh hg => ?_, fun h g hh hg => ?_⟩
  · rw [← r0]; simp (disch := omega) only [vs_peT, vs_cp_ne, vs_cp_at, mx_up_ne, vs_upx, vs_up_k]
  · rw [← r1]; simp (disch := omega) only [vs_peT, vs_cp_ne, vs_cp_at, mx_up_ne, vs_upx, vs_up_k]
  · rw [← r2 h hh]; simp (disch := omega) only [vs_peT, vs_cp_ne, vs_cp_at, mx_up_ne, vs_upx, vs_up_k]
  · rw [← r3 h hh]; simp (disch := omega) only [vs_peT, vs_cp_ne, vs_cp_at, mx_up_ne, vs_upx, vs_up_k]
  · rw [← r4 h hh]; simp (disch := omega) only [vs_peT, vs_cp_ne, vs_cp_at, mx_up_ne, vs_upx, vs_up_k]
  · rw [← r5 h hh]; simp (disch := omega) only [vs_peT, vs_cp_ne, vs_cp_at, mx_up_ne, vs_upx, vs_up_k]
  · rw [← r6 h hh]; simp (disch := omega) only [vs_peT, vs_cp_ne, vs_cp_at, mx_up_ne, vs_upx, vs_up_k]
  · rw [← r7 h g hh hg]; simp (disch := omega) only [vs_peT, vs_cp_ne, vs_cp_at, mx_up_ne, vs_upx, vs_up_k]
  · rw [← r8 h g hh hg]; simp (disch := omega) only [vs_peT, vs_cp_ne, vs_cp_at, mx_up_ne, vs_upx, vs_up_k]
theorem vs_loT_o {c : Nat} (h : c < lo ∨ lo + 2 ≤ c) : vs_loT I lo lf c = I c := by
  have e0 : c ≠ lo := by omega
  have e1 : c ≠ lo + 1 := by omega
  unfold vs_loT
  simp only [vs_cp_ne e1, mx_up_ne e0]
theorem vs_loT_rel (hd : lo + 2 ≤ lf ∨ lf + 2 ≤ lo) (h : lo_rel I lf m N z) : lo_rel (vs_loT I lo lf) lo m N z := by
  obtain ⟨g0, g1, g2, g3, g4, g5⟩ := h
  have hz : ∀ j, (z + 60 - j) % 60 < 60 := fun j => Nat.mod_lt _ (by omega)
  refine ⟨?_, g1, g2, ?_, g4, fun j k hj hk => ?_⟩
  · rw [← g0]; simp (disch := omega) only [vs_loT, vs_cp_ne, vs_cp_at, mx_up_ne, vs_upx, vs_up_k]
  · rw [← g3]; simp (disch := omega) only [vs_loT, vs_cp_ne, vs_cp_at, mx_up_ne, vs_upx, vs_up_k]
  · have := hz j
    rw [← g5 j k hj hk]; simp (disch := omega) only [vs_loT, vs_cp_ne, vs_cp_at, mx_up_ne, vs_upx, vs_up_k]
/-- the places of a state -/
theorem vs_stT_o {c : Nat} (h : c < s ∨ s + 14 ≤ c) : vs_stT I s r c = I c := by
  have e : ∀ j, j < 14 → c ≠ s + j := fun j hj => by omega
  have e0 : c ≠ s := by omega
  unfold vs_stT
  simp only [vs_cp_ne (e 11 (by omega)), vs_cp_ne (e 12 (by omega)), vs_cp_ne (e 13 (by omega)), mx_up_ne e0]
  rw [vs_loT_o (by omega), vs_peT_o (by omega)]
theorem pe_rel.congr {I' : mx_I} (h : pe_rel I pe m) (e : ∀ c, pe ≤ c → c < pe + 8 → I' c = I c) : pe_rel I' pe m := by
  unfold pe_rel at h ⊢
  rw [e pe (by omega) (by omega), e (pe + 1) (by omega) (by omega), e (pe + 2) (by omega) (by omega), e (pe + 3) (by omega) (by omega), e (pe + 4) (by omega) (by omega), e (pe + 5) (by omega) (by omega), e (pe + 6) (by omega) (by omega), e (pe + 7) (by omega) (by omega)]
  exact h
theorem lo_rel.congr {I' : mx_I} (h : lo_rel I lo m N z) (e : ∀ c, lo ≤ c → c < lo + 2 → I' c = I c) : lo_rel I' lo m N z := by
  unfold lo_rel at h ⊢
  rw [e lo (by omega) (by omega), e (lo + 1) (by omega) (by omega)]
  exact h
theorem vs_stT_rel (hd : s + 15 ≤ r ∨ r + 15 ≤ s) (h : st_rel I r m) : st_rel (vs_stT I s r) s m := by
  obtain ⟨hp, u0, u1, u2, u3, u4, u5, u6, u7, u8⟩ := h
  have hA : ∀ k, (vs_loT (vs_peT I (s + 1) (r + 1)) (s + 9) (r + 9)) r k = I r k := fun k => by rw [vs_loT_o (by omega), vs_peT_o (by omega)]
  have hB : ∀ j k, 11 ≤ j → j < 15 → (vs_loT (vs_peT I (s + 1) (r + 1)) (s + 9) (r + 9)) (r + j) k = I (r + j) k := fun j k h1 h2 => by rw [vs_loT_o (by omega), vs_peT_o (by omega)]
  refine ⟨(vs_peT_rel (pe := s + 1) (by omega) hp).congr (fun c h1 h2 => ?_), ?_, ?_, ?_, ?_, ?_, ?_, fun h hh => ?_, fun h hh => ?_, fun h q hh hq => ?_⟩
  · have e : ∀ j, 8 < j → c ≠ s + j := fun j hj => by omega
    have e0 : c ≠ s := by omega
    unfold vs_stT
    simp only [vs_cp_ne (e 11 (by omega)), vs_cp_ne (e 12 (by omega)), vs_cp_ne (e 13 (by omega)), mx_up_ne e0]
    rw [vs_loT_o (by omega)]
  · rw [← u0, ← hA]; simp (disch := omega) only [vs_stT, vs_cp_ne, vs_cp_at, mx_up_ne, vs_upx, vs_up_k]
  · rw [← u1, ← hA]; simp (disch := omega) only [vs_stT, vs_cp_ne, vs_cp_at, mx_up_ne, vs_upx, vs_up_k]
  · rw [← u2, ← hA]; simp (disch := omega) only [vs_stT, vs_cp_ne, vs_cp_at, mx_up_ne, vs_upx, vs_up_k]
  · rw [← u3, ← hA]; simp (disch := omega) only [vs_stT, vs_cp_ne, vs_cp_at, mx_up_ne, vs_upx, vs_up_k]
  · rw [← u4, ← hA]; simp (disch := omega) only [vs_stT, vs_cp_ne, vs_cp_at, mx_up_ne, vs_upx, vs_up_k]
  · rw [← u5, ← hA]; simp (disch := omega) only [vs_stT, vs_cp_ne, vs_cp_at, mx_up_ne, vs_upx, vs_up_k]
  · rw [← u6 h hh, ← hB 11 h (by omega) (by omega)]; simp (disch := omega) only [vs_stT, vs_cp_ne, vs_cp_at, mx_up_ne, vs_upx, vs_up_k]
  · rw [← u7 h hh, ← hB 12 h (by omega) (by omega)]; simp (disch := omega) only [vs_stT, vs_cp_ne, vs_cp_at, mx_up_ne, vs_upx, vs_up_k]
  · rw [← u8 h q hh hq, ← hB 13 (8 * h + q) (by omega) (by omega)]; simp (disch := omega) only [vs_stT, vs_cp_ne, vs_cp_at, mx_up_ne, vs_upx, vs_up_k]
theorem vs_stT_log (hd : s + 15 ≤ r ∨ r + 15 ≤ s) (h : lo_rel I (r + 9) m N z) : lo_rel (vs_stT I s r) (s + 9) m N z := by
  have h1 : lo_rel (vs_peT I (s + 1) (r + 1)) (r + 9) m N z := h.congr (fun c h1 h2 => vs_peT_o (by omega))
  refine (vs_loT_rel (lo := s + 9) (by omega) h1).congr (fun c h1 h2 => ?_)
  have e : ∀ j, 10 < j → c ≠ s + j := fun j hj => by omega
  have e0 : c ≠ s := by omega
  unfold vs_stT
  simp only [vs_cp_ne (e 11 (by omega)), vs_cp_ne (e 12 (by omega)), vs_cp_ne (e 13 (by omega)), mx_up_ne e0]
end N22
