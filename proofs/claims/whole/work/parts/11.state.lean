/-! ===== what a state of the wall is ===== -/
def ir (x : Int32) (N : Nat) : Prop := ∃ j : Nat, j < N ∧ x = nI j
noncomputable def pc_if (P : Prop) (a b : Int32) : Int32 := @ite _ P (Classical.propDecidable P) a b
theorem pc_t {P : Prop} {a b : Int32} (h : P) : pc_if P a b = a := @if_pos P (Classical.propDecidable P) h _ _ _
theorem pc_f {P : Prop} {a b : Int32} (h : ¬ P) : pc_if P a b = b := @if_neg P (Classical.propDecidable P) h _ _ _
theorem ir_of {x M : Int32} {N : Nat} (hM : M.toInt = N) (h0 : 0 ≤ x) (h1 : x ≤ M) : ir x (N + 1) := by
  obtain ⟨j, hj, hx⟩ := nI_of2 hM (Int32.not_lt.mpr h0) h1
  exact ⟨j, by omega, hx⟩
theorem ir_lt {x : Int32} {N : Nat} (hN : N < 2 ^ 31) (h0 : 0 ≤ x) (h1 : x < nI N) : ir x N := by
  obtain ⟨j, hj, hx⟩ := nI_of (Int32.not_lt.mpr h0)
  subst hx
  exact ⟨j, (nI_ltI hj hN).mp h1, rfl⟩
theorem ir_pos {x : Int32} {N : Nat} (hN : N < 2 ^ 31) (h : ir x N) : 0 ≤ x := by
  obtain ⟨j, hj, rfl⟩ := h
  exact nI_pos' (by omega)
theorem ir_up {x : Int32} {N : Nat} (hN : N < 2 ^ 31) (h : ir x N) : x < nI N := by
  obtain ⟨j, hj, rfl⟩ := h
  exact nI_lt hj hN
theorem ir_le {x M : Int32} {N : Nat} (hM : M.toInt = N) (hN : N < 2 ^ 31) (h : ir x (N + 1)) : x ≤ M := by
  obtain ⟨j, hj, rfl⟩ := h
  rw [Int32.le_iff_toInt_le, nI_toInt (by omega), hM]
  omega
theorem ir_nI {j N : Nat} (h : j < N) : ir (nI j) N := ⟨j, h, rfl⟩
def od_at (G : pw_G) (M : pw_M) (a aw ap ae : Nat) (i s pl : Int32) (w p d : Nat → Int32) : Prop :=
  M a = some (.inr (0, [.int i, .int s, .int pl, .ref aw, .ref ap, .ref ae])) ∧ M aw = some (.inl (G.2.2.1 0, 10, .inl w)) ∧ M ap = some (.inl (G.2.2.1 0, 10, .inl p)) ∧ M ae = some (.inl (G.2.2.1 0, 10, .inl d))
def cw (G : pw_G) (ad : Nat → Nat) (n oc : Nat) (td sd : Int32) (dk to er : Nat → Int32) (os pl : Nat → Int32) (oo : Nat → Option Nat) (wa pr de : Nat → Nat → Int32) (M : pw_M) : Prop :=
  M (ad 0) = some (.inr (1, [.ref (ad 1), .int (nI oc), .ref (ad 2), .ref (ad 3), .ref (ad 4), .ref (ad 5), .int td, .int sd])) ∧
  M (ad 1) = some (.inl (G.2.2.1 2, 20, .inr (.inr (.inr (.inr (fun i => if i < oc then some (ad (6 + 4 * i)) else none)))))) ∧
  M (ad 2) = some (.inl (G.2.2.1 2, n, .inr (.inr (.inr (.inr (fun i => (oo i).map (fun j => ad (6 + 4 * j)))))))) ∧
  M (ad 3) = some (.inl (G.2.2.1 1, n, .inl dk)) ∧ M (ad 4) = some (.inl (G.2.2.1 0, 10, .inl to)) ∧ M (ad 5) = some (.inl (G.2.2.1 0, 8, .inl er)) ∧
  (∀ i : Nat, i < oc → od_at G M (ad (6 + 4 * i)) (ad (7 + 4 * i)) (ad (8 + 4 * i)) (ad (9 + 4 * i)) (nI i) (os i) (pl i) (wa i) (pr i) (de i)) ∧
  (∀ x y : Nat, x < 6 + 4 * oc → y < 6 + 4 * oc → ad x = ad y → x = y) ∧ n ≤ 16 ∧ oc ≤ 20 ∧ ∀ i j : Nat, oo i = some j → j < oc
section CW
variable {G : pw_G} {ad : Nat → Nat} {n oc : Nat} {td sd : Int32} {dk to er : Nat → Int32} {os pl : Nat → Int32} {oo : Nat → Option Nat} {wa pr de : Nat → Nat → Int32} {M : pw_M}
theorem cw_o (h : cw G ad n oc td sd dk to er os pl oo wa pr de M) (i : Nat) (hi : i < oc) : od_at G M (ad (6 + 4 * i)) (ad (7 + 4 * i)) (ad (8 + 4 * i)) (ad (9 + 4 * i)) (nI i) (os i) (pl i) (wa i) (pr i) (de i) := h.2.2.2.2.2.2.1 i hi
theorem cw_i (h : cw G ad n oc td sd dk to er os pl oo wa pr de M) : ∀ x y : Nat, x < 6 + 4 * oc → y < 6 + 4 * oc → ad x = ad y → x = y := h.2.2.2.2.2.2.2.1
theorem cw_ne (h : cw G ad n oc td sd dk to er os pl oo wa pr de M) {x y : Nat} (hx : x < 6 + 4 * oc) (hy : y < 6 + 4 * oc) (hn : x ≠ y) : ad x ≠ ad y := fun e => hn (cw_i h x y hx hy e)
theorem cw_n (h : cw G ad n oc td sd dk to er os pl oo wa pr de M) : n ≤ 16 := h.2.2.2.2.2.2.2.2.1
theorem cw_oc (h : cw G ad n oc td sd dk to er os pl oo wa pr de M) : oc ≤ 20 := h.2.2.2.2.2.2.2.2.2.1
theorem cw_ooA (h : cw G ad n oc td sd dk to er os pl oo wa pr de M) : ∀ i j : Nat, oo i = some j → j < oc := h.2.2.2.2.2.2.2.2.2.2
theorem cw_oo (h : cw G ad n oc td sd dk to er os pl oo wa pr de M) : ∀ i j : Nat, i < n → oo i = some j → j < oc := fun i j _ => cw_ooA h i j
end CW
/-- what isn't the wall's stays -/
def fm (ad : Nat → Nat) (N : Nat) (M M9 : pw_M) : Prop := ∀ (q : Nat) (e : va_E), M q = some e → (∀ x, x < N → ad x ≠ q) → M9 q = some e
theorem fm_rf {ad : Nat → Nat} {N : Nat} {M : pw_M} : fm ad N M M := fun _ _ h _ => h
theorem fm_up {ad : Nat → Nat} {N : Nat} {M M9 : pw_M} (h : fm ad N M M9) {x : Nat} (hx : x < N) (e : va_E) : fm ad N M (pw_up M9 (ad x) e) := fun q e1 h1 h2 => pw_ke (h q e1 h1 h2) (fun hq => h2 x hx hq.symm)
