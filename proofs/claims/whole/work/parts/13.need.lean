/-! CALLS THAT MAY THROW: b says when they do not -/
def mx_pv (C : String) (b : Bool) (X1 : mx_H) : mx_R → mx_H → Prop := fun r X => (b = true ∧ r = .inl none ∧ X = X1) ∨ (b = false ∧ r = .inr C ∧ ∃ t, X1.1 ≤ t ∧ X = (t, X1.2))
/-- what an operation answers: with 0 the number, else the exception f tells -/
def mx_po (f : Nat → String) (v : Nat × Int32) (X1 : mx_H) : mx_R → mx_H → Prop := fun r X => (v.1 = 0 ∧ r = .inl (some (.int v.2)) ∧ X = X1) ∨ (v.1 ≠ 0 ∧ r = .inr (f v.1) ∧ ∃ t, X1.1 ≤ t ∧ X = (t, X1.2))
theorem mx_po_i {f : Nat → String} {v : Nat × Int32} {X : mx_H} {w : Int32} (h : v = (0, w)) : mx_po f v X (.inl (some (.int w))) X := by subst h; exact Or.inl ⟨rfl, rfl, rfl⟩
theorem mx_po_x {f : Nat → String} {v : Nat × Int32} {X : mx_H} {C : String} {t : Nat} (ht : X.1 ≤ t) (c : Nat) (h : v.1 = c + 1) (hC : f (c + 1) = C) : mx_po f v X (.inr C) (t, X.2) := Or.inr ⟨by omega, by rw [h, hC], t, ht, rfl⟩
theorem mx_pv_r {C : String} {b : Bool} {X : mx_H} (h : b = true) : mx_pv C b X (.inl none) X := Or.inl ⟨h, rfl, rfl⟩
theorem mx_pv_x {C : String} {b : Bool} {X : mx_H} {t : Nat} (h : b = false) (ht : X.1 ≤ t) : mx_pv C b X (.inr C) (t, X.2) := Or.inr ⟨h, rfl, t, ht, rfl⟩
theorem vs_tabI {x : Int32} {j : Nat} (h : x.toInt = (j : Int)) (hj : j < 1000) : x = nI j := by
  apply Int32.toInt_inj.mp; rw [h, nI_toInt (by omega)]
theorem vs_tabO {x : Int32} {n : Nat} (hn : n < 1000) (h : ∀ j, j ≤ n → ¬ x = nI j) : x.toInt < 0 ∨ (n : Int) < x.toInt := by
  by_cases h0 : x.toInt < 0
  · exact Or.inl h0
  · refine Or.inr (Int.not_le.mp (fun h1 => h x.toInt.toNat (by omega) (vs_tabI (by omega) (by omega))))
theorem vs_all0 {p : Nat → Prop} (h : p 0) : ∀ j, j ≤ 0 → p j := fun j hj => by
  have e : j = 0 := by omega
  rw [e]; exact h
theorem vs_allS {p : Nat → Prop} {n : Nat} (h : ∀ j, j ≤ n → p j) (h1 : p (n + 1)) : ∀ j, j ≤ n + 1 → p j := fun j hj => by
  by_cases e : j = n + 1
  · subst e; exact h1
  · exact h j (by omega)
section MXN
variable {l : Launch} {E : mx_Env} {M M' : mx_M} {d d' k n pc nx idx c f a : Nat} {ls : List (Option Value)} {st : List Value} {X X1 : mx_H} {Q : mx_R → mx_H → Prop} {C : String} {b : Bool}
theorem mx_nV0 {q : vw_C} (hd : mx_d M pc (.invokevirtual idx) 3 nx) (hc : mx_C l E M' d' 1 6 [.ref a] X (mx_pv C b X)) (hM : mx_okM M' 0) (hw : Cond.methodLink (mx_own M) idx (mx_y M') ∈ mx_W ∧ Cond.instanceMethod (mx_y M') ∈ mx_W ∧ Cond.selects (mx_y M').cls (mx_y M') (mx_y M') ∈ mx_W) (hs : X.2.1 a = some (0, c)) (hq : mx_cl[c]? = some q ∧ q.1 = (mx_y M').cls) (hh : mx_hh M = []) (hdd : d' + 1 ≤ d) (hk : 1 ≤ k) (hn : 6 ≤ n) (hcat : (st.map fun v => v.category).sum ≤ 8) (kx : b = false → ∀ t', X.1 ≤ t' → Q (.inr C) (t', X.2)) (kk : b = true → mx_E l E M d (k - 1) (n - 6) nx ls st X Q) : mx_E l E M d k n pc ls (.ref a :: st) X Q :=
  mx_callV (k2 := k - 1) (n2 := n - 6) hd hc hM hw hs hq rfl rfl hcat hdd (by omega) (by omega) (fun w X9 h => by rcases h with ⟨h0, h1, rfl⟩ | ⟨-, h1, -⟩ <;> cases h1; exact kk h0) (fun C9 X9 h => by rcases h with ⟨-, h1, -⟩ | ⟨h0, h1, t, ht, rfl⟩ <;> cases h1; exact mx_out hh (kx h0 t ht))
theorem mx_nV1 {v0 : Value} {q : vw_C} (hd : mx_d M pc (.invokevirtual idx) 3 nx) (hc : mx_C l E M' d' 1 6 [.ref a, v0] X (mx_pv C b X)) (hM : mx_okM M' 1) (hw : Cond.methodLink (mx_own M) idx (mx_y M') ∈ mx_W ∧ Cond.instanceMethod (mx_y M') ∈ mx_W ∧ Cond.selects (mx_y M').cls (mx_y M') (mx_y M') ∈ mx_W) (hs : X.2.1 a = some (0, c)) (hq : mx_cl[c]? = some q ∧ q.1 = (mx_y M').cls) (hh : mx_hh M = []) (hdd : d' + 1 ≤ d) (hk : 1 ≤ k) (hn : 6 ≤ n) (hcat : (st.map fun v => v.category).sum ≤ 8) (kx : b = false → ∀ t', X.1 ≤ t' → Q (.inr C) (t', X.2)) (kk : b = true → mx_E l E M d (k - 1) (n - 6) nx ls st X Q) : mx_E l E M d k n pc ls (v0 :: .ref a :: st) X Q :=
  mx_callV (k2 := k - 1) (n2 := n - 6) hd hc hM hw hs hq rfl rfl hcat hdd (by omega) (by omega) (fun w X9 h => by rcases h with ⟨h0, h1, rfl⟩ | ⟨-, h1, -⟩ <;> cases h1; exact kk h0) (fun C9 X9 h => by rcases h with ⟨-, h1, -⟩ | ⟨h0, h1, t, ht, rfl⟩ <;> cases h1; exact mx_out hh (kx h0 t ht))
theorem mx_nV2 {v0 v1 : Value} {q : vw_C} (hd : mx_d M pc (.invokevirtual idx) 3 nx) (hc : mx_C l E M' d' 1 6 [.ref a, v0, v1] X (mx_pv C b X)) (hM : mx_okM M' 2) (hw : Cond.methodLink (mx_own M) idx (mx_y M') ∈ mx_W ∧ Cond.instanceMethod (mx_y M') ∈ mx_W ∧ Cond.selects (mx_y M').cls (mx_y M') (mx_y M') ∈ mx_W) (hs : X.2.1 a = some (0, c)) (hq : mx_cl[c]? = some q ∧ q.1 = (mx_y M').cls) (hh : mx_hh M = []) (hdd : d' + 1 ≤ d) (hk : 1 ≤ k) (hn : 6 ≤ n) (hcat : (st.map fun v => v.category).sum ≤ 8) (kx : b = false → ∀ t', X.1 ≤ t' → Q (.inr C) (t', X.2)) (kk : b = true → mx_E l E M d (k - 1) (n - 6) nx ls st X Q) : mx_E l E M d k n pc ls (v1 :: v0 :: .ref a :: st) X Q :=
  mx_callV (k2 := k - 1) (n2 := n - 6) hd hc hM hw hs hq rfl rfl hcat hdd (by omega) (by omega) (fun w X9 h => by rcases h with ⟨h0, h1, rfl⟩ | ⟨-, h1, -⟩ <;> cases h1; exact kk h0) (fun C9 X9 h => by rcases h with ⟨-, h1, -⟩ | ⟨h0, h1, t, ht, rfl⟩ <;> cases h1; exact mx_out hh (kx h0 t ht))
theorem mx_nV3 {v0 v1 v2 : Value} {q : vw_C} (hd : mx_d M pc (.invokevirtual idx) 3 nx) (hc : mx_C l E M' d' 1 6 [.ref a, v0, v1, v2] X (mx_pv C b X)) (hM : mx_okM M' 3) (hw : Cond.methodLink (mx_own M) idx (mx_y M') ∈ mx_W ∧ Cond.instanceMethod (mx_y M') ∈ mx_W ∧ Cond.selects (mx_y M').cls (mx_y M') (mx_y M') ∈ mx_W) (hs : X.2.1 a = some (0, c)) (hq : mx_cl[c]? = some q ∧ q.1 = (mx_y M').cls) (hh : mx_hh M = []) (hdd : d' + 1 ≤ d) (hk : 1 ≤ k) (hn : 6 ≤ n) (hcat : (st.map fun v => v.category).sum ≤ 8) (kx : b = false → ∀ t', X.1 ≤ t' → Q (.inr C) (t', X.2)) (kk : b = true → mx_E l E M d (k - 1) (n - 6) nx ls st X Q) : mx_E l E M d k n pc ls (v2 :: v1 :: v0 :: .ref a :: st) X Q :=
  mx_callV (k2 := k - 1) (n2 := n - 6) hd hc hM hw hs hq rfl rfl hcat hdd (by omega) (by omega) (fun w X9 h => by rcases h with ⟨h0, h1, rfl⟩ | ⟨-, h1, -⟩ <;> cases h1; exact kk h0) (fun C9 X9 h => by rcases h with ⟨-, h1, -⟩ | ⟨h0, h1, t, ht, rfl⟩ <;> cases h1; exact mx_out hh (kx h0 t ht))
theorem mx_nV4 {v0 v1 v2 v3 : Value} {q : vw_C} (hd : mx_d M pc (.invokevirtual idx) 3 nx) (hc : mx_C l E M' d' 1 6 [.ref a, v0, v1, v2, v3] X (mx_pv C b X)) (hM : mx_okM M' 4) (hw : Cond.methodLink (mx_own M) idx (mx_y M') ∈ mx_W ∧ Cond.instanceMethod (mx_y M') ∈ mx_W ∧ Cond.selects (mx_y M').cls (mx_y M') (mx_y M') ∈ mx_W) (hs : X.2.1 a = some (0, c)) (hq : mx_cl[c]? = some q ∧ q.1 = (mx_y M').cls) (hh : mx_hh M = []) (hdd : d' + 1 ≤ d) (hk : 1 ≤ k) (hn : 6 ≤ n) (hcat : (st.map fun v => v.category).sum ≤ 8) (kx : b = false → ∀ t', X.1 ≤ t' → Q (.inr C) (t', X.2)) (kk : b = true → mx_E l E M d (k - 1) (n - 6) nx ls st X Q) : mx_E l E M d k n pc ls (v3 :: v2 :: v1 :: v0 :: .ref a :: st) X Q :=
  mx_callV (k2 := k - 1) (n2 := n - 6) hd hc hM hw hs hq rfl rfl hcat hdd (by omega) (by omega) (fun w X9 h => by rcases h with ⟨h0, h1, rfl⟩ | ⟨-, h1, -⟩ <;> cases h1; exact kk h0) (fun C9 X9 h => by rcases h with ⟨-, h1, -⟩ | ⟨h0, h1, t, ht, rfl⟩ <;> cases h1; exact mx_out hh (kx h0 t ht))
theorem mx_nS0 (hd : mx_d M pc (.invokestatic idx) 3 nx) (hc : mx_C l E M' d' 1 6 [] X (mx_pv C b X)) (hM : mx_okM M' 0) (hw : Cond.methodLink (mx_own M) idx (mx_y M') ∈ mx_W ∧ Cond.static (mx_y M') ∈ mx_W) (hh : mx_hh M = []) (hdd : d' + 1 ≤ d) (hk : 1 ≤ k) (hn : 6 ≤ n) (hcat : (st.map fun v => v.category).sum ≤ 8) (kx : b = false → ∀ t', X.1 ≤ t' → Q (.inr C) (t', X.2)) (kk : b = true → mx_E l E M d (k - 1) (n - 6) nx ls st X Q) : mx_E l E M d k n pc ls (st) X Q :=
  mx_callS (k2 := k - 1) (n2 := n - 6) hd hc hM hw rfl rfl hcat hdd (by omega) (by omega) (fun w X9 h => by rcases h with ⟨h0, h1, rfl⟩ | ⟨-, h1, -⟩ <;> cases h1; exact kk h0) (fun C9 X9 h => by rcases h with ⟨-, h1, -⟩ | ⟨h0, h1, t, ht, rfl⟩ <;> cases h1; exact mx_out hh (kx h0 t ht))
theorem mx_nS1 {v0 : Value} (hd : mx_d M pc (.invokestatic idx) 3 nx) (hc : mx_C l E M' d' 1 6 [v0] X (mx_pv C b X)) (hM : mx_okM M' 1) (hw : Cond.methodLink (mx_own M) idx (mx_y M') ∈ mx_W ∧ Cond.static (mx_y M') ∈ mx_W) (hh : mx_hh M = []) (hdd : d' + 1 ≤ d) (hk : 1 ≤ k) (hn : 6 ≤ n) (hcat : (st.map fun v => v.category).sum ≤ 8) (kx : b = false → ∀ t', X.1 ≤ t' → Q (.inr C) (t', X.2)) (kk : b = true → mx_E l E M d (k - 1) (n - 6) nx ls st X Q) : mx_E l E M d k n pc ls (v0 :: st) X Q :=
  mx_callS (k2 := k - 1) (n2 := n - 6) hd hc hM hw rfl rfl hcat hdd (by omega) (by omega) (fun w X9 h => by rcases h with ⟨h0, h1, rfl⟩ | ⟨-, h1, -⟩ <;> cases h1; exact kk h0) (fun C9 X9 h => by rcases h with ⟨-, h1, -⟩ | ⟨h0, h1, t, ht, rfl⟩ <;> cases h1; exact mx_out hh (kx h0 t ht))
theorem mx_nS2 {v0 v1 : Value} (hd : mx_d M pc (.invokestatic idx) 3 nx) (hc : mx_C l E M' d' 1 6 [v0, v1] X (mx_pv C b X)) (hM : mx_okM M' 2) (hw : Cond.methodLink (mx_own M) idx (mx_y M') ∈ mx_W ∧ Cond.static (mx_y M') ∈ mx_W) (hh : mx_hh M = []) (hdd : d' + 1 ≤ d) (hk : 1 ≤ k) (hn : 6 ≤ n) (hcat : (st.map fun v => v.category).sum ≤ 8) (kx : b = false → ∀ t', X.1 ≤ t' → Q (.inr C) (t', X.2)) (kk : b = true → mx_E l E M d (k - 1) (n - 6) nx ls st X Q) : mx_E l E M d k n pc ls (v1 :: v0 :: st) X Q :=
  mx_callS (k2 := k - 1) (n2 := n - 6) hd hc hM hw rfl rfl hcat hdd (by omega) (by omega) (fun w X9 h => by rcases h with ⟨h0, h1, rfl⟩ | ⟨-, h1, -⟩ <;> cases h1; exact kk h0) (fun C9 X9 h => by rcases h with ⟨-, h1, -⟩ | ⟨h0, h1, t, ht, rfl⟩ <;> cases h1; exact mx_out hh (kx h0 t ht))
theorem mx_nS3 {v0 v1 v2 : Value} (hd : mx_d M pc (.invokestatic idx) 3 nx) (hc : mx_C l E M' d' 1 6 [v0, v1, v2] X (mx_pv C b X)) (hM : mx_okM M' 3) (hw : Cond.methodLink (mx_own M) idx (mx_y M') ∈ mx_W ∧ Cond.static (mx_y M') ∈ mx_W) (hh : mx_hh M = []) (hdd : d' + 1 ≤ d) (hk : 1 ≤ k) (hn : 6 ≤ n) (hcat : (st.map fun v => v.category).sum ≤ 8) (kx : b = false → ∀ t', X.1 ≤ t' → Q (.inr C) (t', X.2)) (kk : b = true → mx_E l E M d (k - 1) (n - 6) nx ls st X Q) : mx_E l E M d k n pc ls (v2 :: v1 :: v0 :: st) X Q :=
  mx_callS (k2 := k - 1) (n2 := n - 6) hd hc hM hw rfl rfl hcat hdd (by omega) (by omega) (fun w X9 h => by rcases h with ⟨h0, h1, rfl⟩ | ⟨-, h1, -⟩ <;> cases h1; exact kk h0) (fun C9 X9 h => by rcases h with ⟨-, h1, -⟩ | ⟨h0, h1, t, ht, rfl⟩ <;> cases h1; exact mx_out hh (kx h0 t ht))
theorem mx_nS4 {v0 v1 v2 v3 : Value} (hd : mx_d M pc (.invokestatic idx) 3 nx) (hc : mx_C l E M' d' 1 6 [v0, v1, v2, v3] X (mx_pv C b X)) (hM : mx_okM M' 4) (hw : Cond.methodLink (mx_own M) idx (mx_y M') ∈ mx_W ∧ Cond.static (mx_y M') ∈ mx_W) (hh : mx_hh M = []) (hdd : d' + 1 ≤ d) (hk : 1 ≤ k) (hn : 6 ≤ n) (hcat : (st.map fun v => v.category).sum ≤ 8) (kx : b = false → ∀ t', X.1 ≤ t' → Q (.inr C) (t', X.2)) (kk : b = true → mx_E l E M d (k - 1) (n - 6) nx ls st X Q) : mx_E l E M d k n pc ls (v3 :: v2 :: v1 :: v0 :: st) X Q :=
  mx_callS (k2 := k - 1) (n2 := n - 6) hd hc hM hw rfl rfl hcat hdd (by omega) (by omega) (fun w X9 h => by rcases h with ⟨h0, h1, rfl⟩ | ⟨-, h1, -⟩ <;> cases h1; exact kk h0) (fun C9 X9 h => by rcases h with ⟨-, h1, -⟩ | ⟨h0, h1, t, ht, rfl⟩ <;> cases h1; exact mx_out hh (kx h0 t ht))
theorem mx_keep {k2 n2 : Nat} {pc' : Nat} (hk : k2 ≤ k) (hn : n2 ≤ n) (kk : mx_E l E M d k2 n2 pc' ls st X Q) : mx_E l E M d k n pc' ls st X Q := fun p e R s m args below meth c H locs cells slots mc ms A F h1 h2 => kk p e R s m args below meth c H locs cells slots mc ms A F (by omega) (by omega)
end MXN
/-! THE OBJECT AS A WHOLE -/
def te_ok (S : mx_S) (P : mx_P) (te : Nat) : Prop := S te = some (0, 8) ∧ P te 0 = some (te + 1) ∧ P te 3 = some (te + 2) ∧ P te 4 = some (te + 3) ∧ P te 5 = some (te + 4) ∧ P te 6 = some (te + 5) ∧ S (te + 1) = some (1, 400) ∧ S (te + 2) = some (1, 401) ∧ S (te + 3) = some (1, 401) ∧ S (te + 4) = some (1, 401) ∧ S (te + 5) = some (1, 401)
def pa_ok (S : mx_S) (P : mx_P) (pa : Nat) : Prop := S pa = some (0, 0) ∧ P pa 2 = some (pa + 1) ∧ P pa 3 = some (pa + 2) ∧ P pa 4 = some (pa + 3) ∧ P pa 5 = some (pa + 4) ∧ P pa 6 = some (pa + 5) ∧ P pa 7 = some (pa + 6) ∧ P pa 8 = some (pa + 7) ∧ S (pa + 1) = some (1, 64) ∧ S (pa + 2) = some (1, 64) ∧ S (pa + 3) = some (1, 8) ∧ S (pa + 4) = some (1, 8) ∧ S (pa + 5) = some (1, 8) ∧ S (pa + 6) = some (1, 8) ∧ S (pa + 7) = some (1, 8)
def ma_ok (S : mx_S) (P : mx_P) (ma : Nat) : Prop := S ma = some (0, 1) ∧ P ma 2 = some (ma + 1) ∧ P ma 3 = some (ma + 2) ∧ S (ma + 1) = some (1, 64) ∧ S (ma + 2) = some (1, 2304)
def ga_ok (S : mx_S) (P : mx_P) (ga : Nat) : Prop := S ga = some (0, 2) ∧ P ga 1 = some (ga + 1) ∧ P ga 2 = some (ga + 2) ∧ S (ga + 1) = some (1, 729) ∧ S (ga + 2) = some (1, 729)
def vh_ok (S : mx_S) (P : mx_P) (x : Nat) : Prop := S x = some (0, 11) ∧ P x 0 = some (x + 250) ∧ P x 1 = some (x + 256) ∧ P x 2 = some (x + 272) ∧ P x 3 = some (x + 23) ∧ P x 4 = some (x + 38) ∧ P x 5 = some (x + 53) ∧ P x 7 = some (x + 68) ∧ P x 8 = some (x + 1) ∧ P x 9 = some (x + 9) ∧ P x 10 = some (x + 12) ∧ P x 11 = some (x + 15) ∧ P x 12 = some (x + 16) ∧ S (x + 15) = some (1, 256) ∧ S (x + 16) = some (1, 8) ∧ S (x + 68) = some (0, 7)
section D13
variable {l : Launch} {E : mx_Env} {t : Nat} {S : mx_S} {I : mx_I} {P : mx_P} {J : mx_G} {m : Nat → Int32} {x mo H G : Nat}
theorem vs_isN_ge0 {x : Int32} {n : Nat} (h : x < 0) : vs_isN x n = false := by simp [vs_isN, Int32.not_le.mpr h]
theorem vs_isN_geN {x : Int32} {n : Nat} (h : nI n ≤ x) : vs_isN x n = false := by simp [vs_isN, Int32.not_lt.mpr h]
theorem vs_isN_in {x : Int32} {n : Nat} (h0 : 0 ≤ x) (h : x < nI n) : vs_isN x n = true := by simp [vs_isN, h0, h]
theorem vs_bT {p : Prop} {b : Bool} (h : b = true) (hp : b = false) : p := by rw [h] at hp; cases hp
theorem c_needHost (htr : l.stackTraces = false) (hV : vh_ok S P x) (hSt : st_ok S P (x + 23)) (hSr : st_rel I (x + 23) m) (hH : m 3 = nI H) (hH8 : H ≤ 8) {v : Int32} : mx_C l E M_Vh_needHost 6 1 6 [.ref (x), .int (v)] (t, S, I, P, J) (mx_pv "java/lang/IndexOutOfBoundsException" (vs_isN v H) (t, S, I, P, J)) := by
  obtain ⟨hV0, hVp0, hVp1, hVp2, hVp3, hVp4, hVp5, hVp7, hVp8, hVp9, hVp10, hVp11, hVp12, hVs15, hVs16, hVs68⟩ := id hV
  obtain ⟨hC0, hC1, hC2, hC3, hC4, hC5, hC6, hD1, hD2, hD3, hD4, hPe, hLo⟩ := id hSt
  obtain ⟨hPr, u0, u1, u2, u3, u4, u5, u6, u7, u8⟩ := id hSr
  obtain ⟨hA0, hA1, hA2, hA3, hA4, hA5, hA6, hA7, hB1, hB2, hB3, hB4, hB5, hB6, hB7⟩ := id hPe
  obtain ⟨r0, r1, r2, r3, r4, r5, r6, r7, r8⟩ := id hPr
  refine mx_C_of (ls0 := [some (.ref (x)), some (.int (v))]) (by decide +kernel) rfl rfl (Nat.le_of_ble_eq_true rfl) rfl ?_
  refine mx_il1 d_Vh_needHost_0 ?_
  refine mx_if_lt 18 d_Vh_needHost_1 (by decide) (fun c_1 => ?_) (fun c_1 => ?_)
  · skip
    exact mx_throwW (i := 29) htr rfl th_Vh_463_467 rfl rfl d_Vh_needHost_18 d_Vh_needHost_21 d_Vh_needHost_22 d_Vh_needHost_25 d_Vh_needHost_28 (by decide) (by decide) (by decide) (Nat.le_of_ble_eq_true rfl) (fun t9 ht => mx_pv_x (by first | exact vs_isN_ge0 (by assumption) | exact vs_isN_geN (Int32.not_lt.mp (by assumption)) | exact vs_isN_geN (by assumption)) ht)
  · skip
    refine mx_il1 d_Vh_needHost_4 ?_
    refine mx_al0 d_Vh_needHost_5 ?_
    refine mx_getR d_Vh_needHost_6 fl_Vh_51 (by assumption) (by assumption) ?_
    refine mx_getR d_Vh_needHost_9 fl_Vh_162 (by assumption) (by assumption) ?_
    refine mx_getI d_Vh_needHost_12 fl_Vh_290 (by assumption) ?_
    refine mx_ti (y := nI (H)) (r0.trans hH) ?_
    refine mx_icmp_lt 29 d_Vh_needHost_15 (by decide) (fun c_15 => ?_) (fun c_15 => ?_)
    · skip
      exact mx_vret d_Vh_needHost_29 rfl (mx_pv_r (vs_isN_in (Int32.not_lt.mp c_1) c_15))
    · skip
      exact mx_throwW (i := 29) htr rfl th_Vh_463_467 rfl rfl d_Vh_needHost_18 d_Vh_needHost_21 d_Vh_needHost_22 d_Vh_needHost_25 d_Vh_needHost_28 (by decide) (by decide) (by decide) (Nat.le_of_ble_eq_true rfl) (fun t9 ht => mx_pv_x (by first | exact vs_isN_ge0 (by assumption) | exact vs_isN_geN (Int32.not_lt.mp (by assumption)) | exact vs_isN_geN (by assumption)) ht)
theorem c_needGuest (htr : l.stackTraces = false) (hV : vh_ok S P x) (hSt : st_ok S P (x + 23)) (hSr : st_rel I (x + 23) m) (hG : m 4 = nI G) (hG8 : G ≤ 8) {v : Int32} : mx_C l E M_Vh_needGuest 6 1 6 [.ref (x), .int (v)] (t, S, I, P, J) (mx_pv "java/lang/IndexOutOfBoundsException" (vs_isN v G) (t, S, I, P, J)) := by
  obtain ⟨hV0, hVp0, hVp1, hVp2, hVp3, hVp4, hVp5, hVp7, hVp8, hVp9, hVp10, hVp11, hVp12, hVs15, hVs16, hVs68⟩ := id hV
  obtain ⟨hC0, hC1, hC2, hC3, hC4, hC5, hC6, hD1, hD2, hD3, hD4, hPe, hLo⟩ := id hSt
  obtain ⟨hPr, u0, u1, u2, u3, u4, u5, u6, u7, u8⟩ := id hSr
  obtain ⟨hA0, hA1, hA2, hA3, hA4, hA5, hA6, hA7, hB1, hB2, hB3, hB4, hB5, hB6, hB7⟩ := id hPe
  obtain ⟨r0, r1, r2, r3, r4, r5, r6, r7, r8⟩ := id hPr
  refine mx_C_of (ls0 := [some (.ref (x)), some (.int (v))]) (by decide +kernel) rfl rfl (Nat.le_of_ble_eq_true rfl) rfl ?_
  refine mx_il1 d_Vh_needGuest_0 ?_
  refine mx_if_lt 18 d_Vh_needGuest_1 (by decide) (fun c_1 => ?_) (fun c_1 => ?_)
  · skip
    exact mx_throwW (i := 31) htr rfl th_Vh_463_467 rfl rfl d_Vh_needGuest_18 d_Vh_needGuest_21 d_Vh_needGuest_22 d_Vh_needGuest_25 d_Vh_needGuest_28 (by decide) (by decide) (by decide) (Nat.le_of_ble_eq_true rfl) (fun t9 ht => mx_pv_x (by first | exact vs_isN_ge0 (by assumption) | exact vs_isN_geN (Int32.not_lt.mp (by assumption)) | exact vs_isN_geN (by assumption)) ht)
  · skip
    refine mx_il1 d_Vh_needGuest_4 ?_
    refine mx_al0 d_Vh_needGuest_5 ?_
    refine mx_getR d_Vh_needGuest_6 fl_Vh_51 (by assumption) (by assumption) ?_
    refine mx_getR d_Vh_needGuest_9 fl_Vh_162 (by assumption) (by assumption) ?_
    refine mx_getI d_Vh_needGuest_12 fl_Vh_325 (by assumption) ?_
    refine mx_ti (y := nI (G)) (r1.trans hG) ?_
    refine mx_icmp_lt 29 d_Vh_needGuest_15 (by decide) (fun c_15 => ?_) (fun c_15 => ?_)
    · skip
      exact mx_vret d_Vh_needGuest_29 rfl (mx_pv_r (vs_isN_in (Int32.not_lt.mp c_1) c_15))
    · skip
      exact mx_throwW (i := 31) htr rfl th_Vh_463_467 rfl rfl d_Vh_needGuest_18 d_Vh_needGuest_21 d_Vh_needGuest_22 d_Vh_needGuest_25 d_Vh_needGuest_28 (by decide) (by decide) (by decide) (Nat.le_of_ble_eq_true rfl) (fun t9 ht => mx_pv_x (by first | exact vs_isN_ge0 (by assumption) | exact vs_isN_geN (Int32.not_lt.mp (by assumption)) | exact vs_isN_geN (by assumption)) ht)
theorem c_needQuarter (htr : l.stackTraces = false) {v : Int32} : mx_C l E M_Vh_needQuarter 6 1 6 [.int (v)] (t, S, I, P, J) (mx_pv "java/lang/IndexOutOfBoundsException" (vs_isN v 8) (t, S, I, P, J)) := by
  refine mx_C_of (ls0 := [some (.int (v))]) (by decide +kernel) rfl rfl (Nat.le_of_ble_eq_true rfl) rfl ?_
  refine mx_il0 d_Vh_needQuarter_0 ?_
  refine mx_if_lt 10 d_Vh_needQuarter_1 (by decide) (fun c_1 => ?_) (fun c_1 => ?_)
  · skip
    exact mx_throwW (i := 33) htr rfl th_Vh_463_467 rfl rfl d_Vh_needQuarter_10 d_Vh_needQuarter_13 d_Vh_needQuarter_14 d_Vh_needQuarter_17 d_Vh_needQuarter_20 (by decide) (by decide) (by decide) (Nat.le_of_ble_eq_true rfl) (fun t9 ht => mx_pv_x (by first | exact vs_isN_ge0 (by assumption) | exact vs_isN_geN (Int32.not_lt.mp (by assumption)) | exact vs_isN_geN (by assumption)) ht)
  · skip
    refine mx_il0 d_Vh_needQuarter_4 ?_
    refine mx_bip 8 d_Vh_needQuarter_5 (by decide) ?_
    refine mx_icmp_lt 21 d_Vh_needQuarter_7 (by decide) (fun c_7 => ?_) (fun c_7 => ?_)
    · skip
      exact mx_vret d_Vh_needQuarter_21 rfl (mx_pv_r (vs_isN_in (Int32.not_lt.mp c_1) c_7))
    · skip
      exact mx_throwW (i := 33) htr rfl th_Vh_463_467 rfl rfl d_Vh_needQuarter_10 d_Vh_needQuarter_13 d_Vh_needQuarter_14 d_Vh_needQuarter_17 d_Vh_needQuarter_20 (by decide) (by decide) (by decide) (Nat.le_of_ble_eq_true rfl) (fun t9 ht => mx_pv_x (by first | exact vs_isN_ge0 (by assumption) | exact vs_isN_geN (Int32.not_lt.mp (by assumption)) | exact vs_isN_geN (by assumption)) ht)
theorem c_needTwo (htr : l.stackTraces = false) {v w : Int32} : mx_C l E M_Vh_needTwo 6 1 6 [.int (v), .int (w)] (t, S, I, P, J) (mx_pv "java/lang/IllegalArgumentException" (decide (¬ v = w)) (t, S, I, P, J)) := by
  refine mx_C_of (ls0 := [some (.int (v)), some (.int (w))]) (by decide +kernel) rfl rfl (Nat.le_of_ble_eq_true rfl) rfl ?_
  refine mx_il0 d_Vh_needTwo_0 ?_
  refine mx_il1 d_Vh_needTwo_1 ?_
  refine mx_icmp_ne 16 d_Vh_needTwo_2 (by decide) (fun c_2 => ?_) (fun c_2 => ?_)
  · skip
    exact mx_vret d_Vh_needTwo_16 rfl (mx_pv_r (by simp_all))
  · skip
    exact mx_throwW (i := 36) htr rfl th_Vh_115_119 rfl rfl d_Vh_needTwo_5 d_Vh_needTwo_8 d_Vh_needTwo_9 d_Vh_needTwo_12 d_Vh_needTwo_15 (by decide) (by decide) (by decide) (Nat.le_of_ble_eq_true rfl) (fun t9 ht => mx_pv_x (by simp_all) ht)
theorem c_needNumber (htr : l.stackTraces = false) {v a b : Int32} : mx_C l E M_Vh_needNumber 6 1 6 [.int (v), .int (a), .int (b)] (t, S, I, P, J) (mx_pv "java/lang/IllegalArgumentException" (decide (a ≤ v) && decide (v ≤ b)) (t, S, I, P, J)) := by
  refine mx_C_of (ls0 := [some (.int (v)), some (.int (a)), some (.int (b))]) (by decide +kernel) rfl rfl (Nat.le_of_ble_eq_true rfl) rfl ?_
  refine mx_il0 d_Vh_needNumber_0 ?_
  refine mx_il1 d_Vh_needNumber_1 ?_
  refine mx_icmp_lt 10 d_Vh_needNumber_2 (by decide) (fun c_2 => ?_) (fun c_2 => ?_)
  · skip
    exact mx_throwW (i := 37) htr rfl th_Vh_115_119 rfl rfl d_Vh_needNumber_10 d_Vh_needNumber_13 d_Vh_needNumber_14 d_Vh_needNumber_17 d_Vh_needNumber_20 (by decide) (by decide) (by decide) (Nat.le_of_ble_eq_true rfl) (fun t9 ht => mx_pv_x (by first | (simp [Int32.not_le.mpr c_2]; done) | simp [Int32.not_le.mp c_7] | simp [c_7]) ht)
  · skip
    refine mx_il0 d_Vh_needNumber_5 ?_
    refine mx_il2 d_Vh_needNumber_6 ?_
    refine mx_icmp_le 21 d_Vh_needNumber_7 (by decide) (fun c_7 => ?_) (fun c_7 => ?_)
    · skip
      exact mx_vret d_Vh_needNumber_21 rfl (mx_pv_r (by simp [Int32.not_lt.mp c_2, c_7]))
    · skip
      exact mx_throwW (i := 37) htr rfl th_Vh_115_119 rfl rfl d_Vh_needNumber_10 d_Vh_needNumber_13 d_Vh_needNumber_14 d_Vh_needNumber_17 d_Vh_needNumber_20 (by decide) (by decide) (by decide) (Nat.le_of_ble_eq_true rfl) (fun t9 ht => mx_pv_x (by first | (simp [Int32.not_le.mpr c_2]; done) | simp [Int32.not_le.mp c_7] | simp [c_7]) ht)
end D13
