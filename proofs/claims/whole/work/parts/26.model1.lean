/-! ===== the model's state: the same words, its goods in rows of ten ===== -/
def fl (f : Nat → Nat → Int32) : Nat → Int32 := fun k => f (k / 10) (k % 10)
theorem fl_at (f : Nat → Nat → Int32) (j : Nat) {g : Nat} (hg : g < 10) : fl f (10 * j + g) = f j g := by
  unfold fl
  rw [show (10 * j + g) / 10 = j by omega, show (10 * j + g) % 10 = g by omega]
theorem fl_up (f : Nat → Nat → Int32) (j : Nat) {g : Nat} (hg : g < 10) (v : Int32) : upd (fl f) (10 * j + g) v = fl (va_up f j (upd (f j) g v)) := by
  funext k
  unfold fl
  by_cases hk : k = 10 * j + g
  · subst hk
    rw [show (10 * j + g) / 10 = j by omega, show (10 * j + g) % 10 = g by omega, va_up_self]
    exact (if_pos rfl).trans (if_pos rfl).symm
  · refine (if_neg hk).trans ?_
    show f (k / 10) (k % 10) = va_up f j (upd (f j) g v) (k / 10) (k % 10)
    by_cases h1 : k / 10 = j
    · rw [h1, va_up_self, pk_un (fun h2 => hk (by omega))]
    · rw [va_up_ne _ _ h1]
def mw (G : pw_G) (am : Nat → Nat) (n oc : Nat) (td th : Int32) (sL : Int64) (dk to er os pl : Nat → Int32) (wa pr la : Nat → Nat → Int32) (M : pw_M) : Prop :=
  M (am 0) = some (.inr (2, [.int (nI n), .ref (am 1), .ref (am 2), .int (nI oc), .int td, .int th, .long sL, .ref (am 3), .ref (am 4), .ref (am 5), .ref (am 6), .ref (am 7), .ref (am 8)])) ∧
  M (am 1) = some (.inl (G.2.2.1 1, 16, .inl (dk))) ∧
  M (am 2) = some (.inl (G.2.2.1 0, 10, .inl (to))) ∧
  M (am 3) = some (.inl (G.2.2.1 0, 20, .inl (os))) ∧
  M (am 4) = some (.inl (G.2.2.1 0, 20, .inl (pl))) ∧
  M (am 5) = some (.inl (G.2.2.1 0, 200, .inl (fl wa))) ∧
  M (am 6) = some (.inl (G.2.2.1 0, 200, .inl (fl pr))) ∧
  M (am 7) = some (.inl (G.2.2.1 0, 200, .inl (fl la))) ∧
  M (am 8) = some (.inl (G.2.2.1 0, 8, .inl (er))) ∧
  (∀ x y : Nat, x < 9 → y < 9 → am x = am y → x = y) ∧ n ≤ 16 ∧ oc ≤ 20
section MWU
variable {G : pw_G} {am : Nat → Nat} {n oc : Nat} {td th : Int32} {sL : Int64} {dk to er os pl : Nat → Int32} {wa pr la : Nat → Nat → Int32} {M : pw_M}
theorem mw_i (h : mw G am n oc td th sL dk to er os pl wa pr la M) : ∀ x y : Nat, x < 9 → y < 9 → am x = am y → x = y := h.2.2.2.2.2.2.2.2.2.1
theorem mw_n (h : mw G am n oc td th sL dk to er os pl wa pr la M) : n ≤ 16 := h.2.2.2.2.2.2.2.2.2.2.1
theorem mw_oc (h : mw G am n oc td th sL dk to er os pl wa pr la M) : oc ≤ 20 := h.2.2.2.2.2.2.2.2.2.2.2
theorem mw_ne (h : mw G am n oc td th sL dk to er os pl wa pr la M) {x y : Nat} (hx : x < 9) (hy : y < 9) (hn : x ≠ y) : am x ≠ am y := fun e => hn (mw_i h x y hx hy e)
theorem mw_dk (h : mw G am n oc td th sL dk to er os pl wa pr la M) (f : Nat → Int32) : mw G am n oc td th sL f to er os pl wa pr la (pw_up M (am 1) (.inl (G.2.2.1 1, 16, .inl f))) := by
  exact ⟨pw_ke h.1 (mw_ne h (x := 0) (y := 1) (by decide) (by decide) (by decide)), pw_us, pw_ke h.2.2.1 (mw_ne h (x := 2) (y := 1) (by decide) (by decide) (by decide)), pw_ke h.2.2.2.1 (mw_ne h (x := 3) (y := 1) (by decide) (by decide) (by decide)), pw_ke h.2.2.2.2.1 (mw_ne h (x := 4) (y := 1) (by decide) (by decide) (by decide)), pw_ke h.2.2.2.2.2.1 (mw_ne h (x := 5) (y := 1) (by decide) (by decide) (by decide)), pw_ke h.2.2.2.2.2.2.1 (mw_ne h (x := 6) (y := 1) (by decide) (by decide) (by decide)), pw_ke h.2.2.2.2.2.2.2.1 (mw_ne h (x := 7) (y := 1) (by decide) (by decide) (by decide)), pw_ke h.2.2.2.2.2.2.2.2.1 (mw_ne h (x := 8) (y := 1) (by decide) (by decide) (by decide)), mw_i h, mw_n h, mw_oc h⟩
theorem mw_to (h : mw G am n oc td th sL dk to er os pl wa pr la M) (f : Nat → Int32) : mw G am n oc td th sL dk f er os pl wa pr la (pw_up M (am 2) (.inl (G.2.2.1 0, 10, .inl f))) := by
  exact ⟨pw_ke h.1 (mw_ne h (x := 0) (y := 2) (by decide) (by decide) (by decide)), pw_ke h.2.1 (mw_ne h (x := 1) (y := 2) (by decide) (by decide) (by decide)), pw_us, pw_ke h.2.2.2.1 (mw_ne h (x := 3) (y := 2) (by decide) (by decide) (by decide)), pw_ke h.2.2.2.2.1 (mw_ne h (x := 4) (y := 2) (by decide) (by decide) (by decide)), pw_ke h.2.2.2.2.2.1 (mw_ne h (x := 5) (y := 2) (by decide) (by decide) (by decide)), pw_ke h.2.2.2.2.2.2.1 (mw_ne h (x := 6) (y := 2) (by decide) (by decide) (by decide)), pw_ke h.2.2.2.2.2.2.2.1 (mw_ne h (x := 7) (y := 2) (by decide) (by decide) (by decide)), pw_ke h.2.2.2.2.2.2.2.2.1 (mw_ne h (x := 8) (y := 2) (by decide) (by decide) (by decide)), mw_i h, mw_n h, mw_oc h⟩
theorem mw_os (h : mw G am n oc td th sL dk to er os pl wa pr la M) (f : Nat → Int32) : mw G am n oc td th sL dk to er f pl wa pr la (pw_up M (am 3) (.inl (G.2.2.1 0, 20, .inl f))) := by
  exact ⟨pw_ke h.1 (mw_ne h (x := 0) (y := 3) (by decide) (by decide) (by decide)), pw_ke h.2.1 (mw_ne h (x := 1) (y := 3) (by decide) (by decide) (by decide)), pw_ke h.2.2.1 (mw_ne h (x := 2) (y := 3) (by decide) (by decide) (by decide)), pw_us, pw_ke h.2.2.2.2.1 (mw_ne h (x := 4) (y := 3) (by decide) (by decide) (by decide)), pw_ke h.2.2.2.2.2.1 (mw_ne h (x := 5) (y := 3) (by decide) (by decide) (by decide)), pw_ke h.2.2.2.2.2.2.1 (mw_ne h (x := 6) (y := 3) (by decide) (by decide) (by decide)), pw_ke h.2.2.2.2.2.2.2.1 (mw_ne h (x := 7) (y := 3) (by decide) (by decide) (by decide)), pw_ke h.2.2.2.2.2.2.2.2.1 (mw_ne h (x := 8) (y := 3) (by decide) (by decide) (by decide)), mw_i h, mw_n h, mw_oc h⟩
theorem mw_pl (h : mw G am n oc td th sL dk to er os pl wa pr la M) (f : Nat → Int32) : mw G am n oc td th sL dk to er os f wa pr la (pw_up M (am 4) (.inl (G.2.2.1 0, 20, .inl f))) := by
  exact ⟨pw_ke h.1 (mw_ne h (x := 0) (y := 4) (by decide) (by decide) (by decide)), pw_ke h.2.1 (mw_ne h (x := 1) (y := 4) (by decide) (by decide) (by decide)), pw_ke h.2.2.1 (mw_ne h (x := 2) (y := 4) (by decide) (by decide) (by decide)), pw_ke h.2.2.2.1 (mw_ne h (x := 3) (y := 4) (by decide) (by decide) (by decide)), pw_us, pw_ke h.2.2.2.2.2.1 (mw_ne h (x := 5) (y := 4) (by decide) (by decide) (by decide)), pw_ke h.2.2.2.2.2.2.1 (mw_ne h (x := 6) (y := 4) (by decide) (by decide) (by decide)), pw_ke h.2.2.2.2.2.2.2.1 (mw_ne h (x := 7) (y := 4) (by decide) (by decide) (by decide)), pw_ke h.2.2.2.2.2.2.2.2.1 (mw_ne h (x := 8) (y := 4) (by decide) (by decide) (by decide)), mw_i h, mw_n h, mw_oc h⟩
theorem mw_wa (h : mw G am n oc td th sL dk to er os pl wa pr la M) (j g : Nat) (hg : g < 10) (v : Int32) : mw G am n oc td th sL dk to er os pl (va_up wa j (upd (wa j) g v)) pr la (pw_up M (am 5) (.inl (G.2.2.1 0, 200, .inl (upd (fl wa) (10 * j + g) v)))) := by
  rw [fl_up wa j hg v]
  exact ⟨pw_ke h.1 (mw_ne h (x := 0) (y := 5) (by decide) (by decide) (by decide)), pw_ke h.2.1 (mw_ne h (x := 1) (y := 5) (by decide) (by decide) (by decide)), pw_ke h.2.2.1 (mw_ne h (x := 2) (y := 5) (by decide) (by decide) (by decide)), pw_ke h.2.2.2.1 (mw_ne h (x := 3) (y := 5) (by decide) (by decide) (by decide)), pw_ke h.2.2.2.2.1 (mw_ne h (x := 4) (y := 5) (by decide) (by decide) (by decide)), pw_us, pw_ke h.2.2.2.2.2.2.1 (mw_ne h (x := 6) (y := 5) (by decide) (by decide) (by decide)), pw_ke h.2.2.2.2.2.2.2.1 (mw_ne h (x := 7) (y := 5) (by decide) (by decide) (by decide)), pw_ke h.2.2.2.2.2.2.2.2.1 (mw_ne h (x := 8) (y := 5) (by decide) (by decide) (by decide)), mw_i h, mw_n h, mw_oc h⟩
theorem mw_pr (h : mw G am n oc td th sL dk to er os pl wa pr la M) (j g : Nat) (hg : g < 10) (v : Int32) : mw G am n oc td th sL dk to er os pl wa (va_up pr j (upd (pr j) g v)) la (pw_up M (am 6) (.inl (G.2.2.1 0, 200, .inl (upd (fl pr) (10 * j + g) v)))) := by
  rw [fl_up pr j hg v]
  exact ⟨pw_ke h.1 (mw_ne h (x := 0) (y := 6) (by decide) (by decide) (by decide)), pw_ke h.2.1 (mw_ne h (x := 1) (y := 6) (by decide) (by decide) (by decide)), pw_ke h.2.2.1 (mw_ne h (x := 2) (y := 6) (by decide) (by decide) (by decide)), pw_ke h.2.2.2.1 (mw_ne h (x := 3) (y := 6) (by decide) (by decide) (by decide)), pw_ke h.2.2.2.2.1 (mw_ne h (x := 4) (y := 6) (by decide) (by decide) (by decide)), pw_ke h.2.2.2.2.2.1 (mw_ne h (x := 5) (y := 6) (by decide) (by decide) (by decide)), pw_us, pw_ke h.2.2.2.2.2.2.2.1 (mw_ne h (x := 7) (y := 6) (by decide) (by decide) (by decide)), pw_ke h.2.2.2.2.2.2.2.2.1 (mw_ne h (x := 8) (y := 6) (by decide) (by decide) (by decide)), mw_i h, mw_n h, mw_oc h⟩
theorem mw_la (h : mw G am n oc td th sL dk to er os pl wa pr la M) (j g : Nat) (hg : g < 10) (v : Int32) : mw G am n oc td th sL dk to er os pl wa pr (va_up la j (upd (la j) g v)) (pw_up M (am 7) (.inl (G.2.2.1 0, 200, .inl (upd (fl la) (10 * j + g) v)))) := by
  rw [fl_up la j hg v]
  exact ⟨pw_ke h.1 (mw_ne h (x := 0) (y := 7) (by decide) (by decide) (by decide)), pw_ke h.2.1 (mw_ne h (x := 1) (y := 7) (by decide) (by decide) (by decide)), pw_ke h.2.2.1 (mw_ne h (x := 2) (y := 7) (by decide) (by decide) (by decide)), pw_ke h.2.2.2.1 (mw_ne h (x := 3) (y := 7) (by decide) (by decide) (by decide)), pw_ke h.2.2.2.2.1 (mw_ne h (x := 4) (y := 7) (by decide) (by decide) (by decide)), pw_ke h.2.2.2.2.2.1 (mw_ne h (x := 5) (y := 7) (by decide) (by decide) (by decide)), pw_ke h.2.2.2.2.2.2.1 (mw_ne h (x := 6) (y := 7) (by decide) (by decide) (by decide)), pw_us, pw_ke h.2.2.2.2.2.2.2.2.1 (mw_ne h (x := 8) (y := 7) (by decide) (by decide) (by decide)), mw_i h, mw_n h, mw_oc h⟩
theorem mw_er (h : mw G am n oc td th sL dk to er os pl wa pr la M) (f : Nat → Int32) : mw G am n oc td th sL dk to f os pl wa pr la (pw_up M (am 8) (.inl (G.2.2.1 0, 8, .inl f))) := by
  exact ⟨pw_ke h.1 (mw_ne h (x := 0) (y := 8) (by decide) (by decide) (by decide)), pw_ke h.2.1 (mw_ne h (x := 1) (y := 8) (by decide) (by decide) (by decide)), pw_ke h.2.2.1 (mw_ne h (x := 2) (y := 8) (by decide) (by decide) (by decide)), pw_ke h.2.2.2.1 (mw_ne h (x := 3) (y := 8) (by decide) (by decide) (by decide)), pw_ke h.2.2.2.2.1 (mw_ne h (x := 4) (y := 8) (by decide) (by decide) (by decide)), pw_ke h.2.2.2.2.2.1 (mw_ne h (x := 5) (y := 8) (by decide) (by decide) (by decide)), pw_ke h.2.2.2.2.2.2.1 (mw_ne h (x := 6) (y := 8) (by decide) (by decide) (by decide)), pw_ke h.2.2.2.2.2.2.2.1 (mw_ne h (x := 7) (y := 8) (by decide) (by decide) (by decide)), pw_us, mw_i h, mw_n h, mw_oc h⟩
theorem mw_ob (h : mw G am n oc td th sL dk to er os pl wa pr la M) (oc9 : Nat) (ho : oc9 ≤ 20) (td9 th9 : Int32) (sL9 : Int64) : mw G am n oc9 td9 th9 sL9 dk to er os pl wa pr la (pw_up M (am 0) (.inr (2, [.int (nI n), .ref (am 1), .ref (am 2), .int (nI oc9), .int td9, .int th9, .long sL9, .ref (am 3), .ref (am 4), .ref (am 5), .ref (am 6), .ref (am 7), .ref (am 8)]))) := by
  exact ⟨pw_us, pw_ke h.2.1 (mw_ne h (x := 1) (y := 0) (by decide) (by decide) (by decide)), pw_ke h.2.2.1 (mw_ne h (x := 2) (y := 0) (by decide) (by decide) (by decide)), pw_ke h.2.2.2.1 (mw_ne h (x := 3) (y := 0) (by decide) (by decide) (by decide)), pw_ke h.2.2.2.2.1 (mw_ne h (x := 4) (y := 0) (by decide) (by decide) (by decide)), pw_ke h.2.2.2.2.2.1 (mw_ne h (x := 5) (y := 0) (by decide) (by decide) (by decide)), pw_ke h.2.2.2.2.2.2.1 (mw_ne h (x := 6) (y := 0) (by decide) (by decide) (by decide)), pw_ke h.2.2.2.2.2.2.2.1 (mw_ne h (x := 7) (y := 0) (by decide) (by decide) (by decide)), pw_ke h.2.2.2.2.2.2.2.2.1 (mw_ne h (x := 8) (y := 0) (by decide) (by decide) (by decide)), mw_i h, mw_n h, ho⟩
end MWU
theorem nI_m1 {j : Nat} (h : j < 2 ^ 31) : ¬ nI j = -1 := fun e => absurd (nI_pos' h) (by rw [e]; decide)
set_option maxHeartbeats 4000000 in
set_option maxRecDepth 100000 in
theorem mt_below (l : Launch) (hl : l.stackTraces = false) (G : pw_G) (M : pw_M) (x : Int32) (N : Nat) (hN : N < 2 ^ 31) : pw_Met l yX2_below cX2_below 2 (some .boolean) 6 0 0 G [.int x, .int (nI N)] M (fun v9 M9 => M = M9 ∧ (v9 = some (.int 1) ∧ ir x N ∨ v9 = some (.int 0) ∧ ¬ ir x N)) := by
  refine pw_of hl (by decide +kernel) (Nat.le_of_ble_eq_true rfl) [(0, .int x), (1, .int (nI N))] rfl ?_
  intro p9 e9 s9 m9 args9 below9 meth9 c9 hX hrt hmi
  refine pw_iload_n (pc := 0) hX dX2_below_0 0 rfl ?_
  refine pw_if_lt (pc := 1) hX 13 dX2_below_1 (by decide) (fun hc_1 => ?_) (fun hc_1 => ?_)
  · refine pw_iconst (pc := 13) (v := 0) hX dX2_below_13 (by decide) ?_
    exact pw_zret hX dX2_below_14 hrt rfl ⟨by decide, by decide⟩ ⟨rfl, Or.inr ⟨rfl, fun h => absurd (ir_pos hN h) (Int32.not_le.mpr hc_1)⟩⟩
  · refine pw_iload_n (pc := 4) hX dX2_below_4 0 rfl ?_
    refine pw_iload_n (pc := 5) hX dX2_below_5 1 rfl ?_
    refine pw_icmp_ge (pc := 6) hX 13 dX2_below_6 (by decide) (fun hc_2 => ?_) (fun hc_2 => ?_)
    · refine pw_iconst (pc := 13) (v := 0) hX dX2_below_13 (by decide) ?_
      exact pw_zret hX dX2_below_14 hrt rfl ⟨by decide, by decide⟩ ⟨rfl, Or.inr ⟨rfl, fun h => absurd (ir_up hN h) (Int32.not_lt.mpr hc_2)⟩⟩
    · refine pw_iconst (pc := 9) (v := 1) hX dX2_below_9 (by decide) ?_
      refine pw_goto (pc := 10) hX 14 dX2_below_10 (by decide) ?_
      exact pw_zret hX dX2_below_14 hrt rfl ⟨by decide, by decide⟩ ⟨rfl, Or.inl ⟨rfl, ir_lt hN (Int32.not_lt.mp hc_1) (Int32.not_le.mp hc_2)⟩⟩
set_option maxHeartbeats 4000000 in
set_option maxRecDepth 100000 in
theorem mt_hasLine (l : Launch) (hl : l.stackTraces = false) (G : pw_G) (M : pw_M) (am : Nat → Nat) (n oc : Nat) (td th : Int32) (sL : Int64) (dk to er os pl : Nat → Int32) (wa pr la : Nat → Nat → Int32) (hm : mw G am n oc td th sL dk to er os pl wa pr la M) (j g : Nat) (hj : j < oc) (hg : g < 10) : pw_Met l yX2_hasLine cX2_hasLine 3 (some .boolean) 6 0 0 G [.ref (am 0), .int (nI j), .int (nI g)] M (fun v9 M9 => v9 = some (.int (if 0 < wa j g then 1 else 0)) ∧ M = M9) := by
  refine pw_of hl (by decide +kernel) (Nat.le_of_ble_eq_true rfl) [(0, .ref (am 0)), (1, .int (nI j)), (2, .int (nI g))] rfl ?_
  intro p9 e9 s9 m9 args9 below9 meth9 c9 hX hrt hmi
  have hoc := mw_oc hm
  refine pw_aload_n (pc := 0) hX dX2_hasLine_0 0 rfl ?_
  refine pw_get (pc := 1) hX dX2_hasLine_1 hm.1 rfl inT_2 9 (by decide) fl_RX2_27 rfl ?_
  refine pw_bipush (pc := 4) (v := 10) hX dX2_hasLine_4 (by decide) ?_
  refine pw_iload_n (pc := 6) hX dX2_hasLine_6 1 rfl ?_
  refine pw_imul (pc := 7) (z := nI (10 * j)) hX dX2_hasLine_7 (pk_mul 10 _) ?_
  refine pw_iload_n (pc := 8) hX dX2_hasLine_8 2 rfl ?_
  refine pw_iadd (pc := 9) (z := nI (10 * j + g)) hX dX2_hasLine_9 (nI_add _ _) ?_
  refine pw_iald (pc := 10) (j := 10 * j + g) hX dX2_hasLine_10 hm.2.2.2.2.2.1 (by omega) (by decide) ?_
  refine pw_cg (vb := .int (wa j g)) (congrArg Value.int (fl_at wa j hg)) ?_
  refine pw_if_le (pc := 11) hX 18 dX2_hasLine_11 (by decide) (fun hc_1 => ?_) (fun hc_1 => ?_)
  · refine pw_iconst (pc := 18) (v := 0) hX dX2_hasLine_18 (by decide) ?_
    exact pw_zret hX dX2_hasLine_19 hrt rfl ⟨by decide, by decide⟩ ⟨by rw [if_neg (Int32.not_lt.mpr hc_1)], rfl⟩
  · refine pw_iconst (pc := 14) (v := 1) hX dX2_hasLine_14 (by decide) ?_
    refine pw_goto (pc := 15) hX 19 dX2_hasLine_15 (by decide) ?_
    exact pw_zret hX dX2_hasLine_19 hrt rfl ⟨by decide, by decide⟩ ⟨by rw [if_pos (Int32.not_le.mp hc_1)], rfl⟩
set_option maxHeartbeats 4000000 in
set_option maxRecDepth 100000 in
theorem mt_missing (l : Launch) (hl : l.stackTraces = false) (G : pw_G) (M : pw_M) (am : Nat → Nat) (n oc : Nat) (td th : Int32) (sL : Int64) (dk to er os pl : Nat → Int32) (wa pr la : Nat → Nat → Int32) (hm : mw G am n oc td th sL dk to er os pl wa pr la M) (j g : Nat) (hj : j < oc) (hg : g < 10) : pw_Met l yX2_missing cX2_missing 3 (some .int) 6 0 0 G [.ref (am 0), .int (nI j), .int (nI g)] M (fun v9 M9 => v9 = some (.int (wa j g - pr j g)) ∧ M = M9) := by
  refine pw_of hl (by decide +kernel) (Nat.le_of_ble_eq_true rfl) [(0, .ref (am 0)), (1, .int (nI j)), (2, .int (nI g))] rfl ?_
  intro p9 e9 s9 m9 args9 below9 meth9 c9 hX hrt hmi
  have hoc := mw_oc hm
  refine pw_aload_n (pc := 0) hX dX2_missing_0 0 rfl ?_
  refine pw_get (pc := 1) hX dX2_missing_1 hm.1 rfl inT_2 9 (by decide) fl_RX2_27 rfl ?_
  refine pw_bipush (pc := 4) (v := 10) hX dX2_missing_4 (by decide) ?_
  refine pw_iload_n (pc := 6) hX dX2_missing_6 1 rfl ?_
  refine pw_imul (pc := 7) (z := nI (10 * j)) hX dX2_missing_7 (pk_mul 10 _) ?_
  refine pw_iload_n (pc := 8) hX dX2_missing_8 2 rfl ?_
  refine pw_iadd (pc := 9) (z := nI (10 * j + g)) hX dX2_missing_9 (nI_add _ _) ?_
  refine pw_iald (pc := 10) (j := 10 * j + g) hX dX2_missing_10 hm.2.2.2.2.2.1 (by omega) (by decide) ?_
  refine pw_cg (vb := .int (wa j g)) (congrArg Value.int (fl_at wa j hg)) ?_
  refine pw_aload_n (pc := 11) hX dX2_missing_11 0 rfl ?_
  refine pw_get (pc := 12) hX dX2_missing_12 hm.1 rfl inT_2 10 (by decide) fl_RX2_30 rfl ?_
  refine pw_bipush (pc := 15) (v := 10) hX dX2_missing_15 (by decide) ?_
  refine pw_iload_n (pc := 17) hX dX2_missing_17 1 rfl ?_
  refine pw_imul (pc := 18) (z := nI (10 * j)) hX dX2_missing_18 (pk_mul 10 _) ?_
  refine pw_iload_n (pc := 19) hX dX2_missing_19 2 rfl ?_
  refine pw_iadd (pc := 20) (z := nI (10 * j + g)) hX dX2_missing_20 (nI_add _ _) ?_
  refine pw_iald (pc := 21) (j := 10 * j + g) hX dX2_missing_21 hm.2.2.2.2.2.2.1 (by omega) (by decide) ?_
  refine pw_cg (vb := .int (pr j g)) (congrArg Value.int (fl_at pr j hg)) ?_
  refine pw_isub (pc := 22) (z := (wa j g) - (pr j g)) hX dX2_missing_22 rfl ?_
  exact pw_iret hX dX2_missing_23 hrt ⟨by decide, by decide⟩ ⟨rfl, rfl⟩
set_option maxHeartbeats 4000000 in
set_option maxRecDepth 100000 in
theorem mt_givenUp (l : Launch) (hl : l.stackTraces = false) (G : pw_G) (M : pw_M) (am : Nat → Nat) (n oc : Nat) (td th : Int32) (sL : Int64) (dk to er os pl : Nat → Int32) (wa pr la : Nat → Nat → Int32) (hm : mw G am n oc td th sL dk to er os pl wa pr la M) (j g : Nat) (hj : j < oc) (hg : g < 10) : pw_Met l yX2_givenUp cX2_givenUp 3 (some .boolean) 6 0 0 G [.ref (am 0), .int (nI j), .int (nI g)] M (fun v9 M9 => M = M9 ∧ (v9 = some (.int 1) ∧ (¬ la j g = -1 ∧ la j g < td) ∨ v9 = some (.int 0) ∧ ¬ (¬ la j g = -1 ∧ la j g < td))) := by
  refine pw_of hl (by decide +kernel) (Nat.le_of_ble_eq_true rfl) [(0, .ref (am 0)), (1, .int (nI j)), (2, .int (nI g))] rfl ?_
  intro p9 e9 s9 m9 args9 below9 meth9 c9 hX hrt hmi
  have hoc := mw_oc hm
  refine pw_aload_n (pc := 0) hX dX2_givenUp_0 0 rfl ?_
  refine pw_get (pc := 1) hX dX2_givenUp_1 hm.1 rfl inT_2 11 (by decide) fl_RX2_33 rfl ?_
  refine pw_bipush (pc := 4) (v := 10) hX dX2_givenUp_4 (by decide) ?_
  refine pw_iload_n (pc := 6) hX dX2_givenUp_6 1 rfl ?_
  refine pw_imul (pc := 7) (z := nI (10 * j)) hX dX2_givenUp_7 (pk_mul 10 _) ?_
  refine pw_iload_n (pc := 8) hX dX2_givenUp_8 2 rfl ?_
  refine pw_iadd (pc := 9) (z := nI (10 * j + g)) hX dX2_givenUp_9 (nI_add _ _) ?_
  refine pw_iald (pc := 10) (j := 10 * j + g) hX dX2_givenUp_10 hm.2.2.2.2.2.2.2.1 (by omega) (by decide) ?_
  refine pw_cg (vb := .int (la j g)) (congrArg Value.int (fl_at la j hg)) ?_
  refine pw_iconst (pc := 11) (v := (-1)) hX dX2_givenUp_11 (by decide) ?_
  refine pw_icmp_eq (pc := 12) hX 37 dX2_givenUp_12 (by decide) (fun hc_1 => ?_) (fun hc_1 => ?_)
  · refine pw_iconst (pc := 37) (v := 0) hX dX2_givenUp_37 (by decide) ?_
    exact pw_zret hX dX2_givenUp_38 hrt rfl ⟨by decide, by decide⟩ ⟨rfl, Or.inr ⟨rfl, fun h => h.1 hc_1⟩⟩
  · refine pw_aload_n (pc := 15) hX dX2_givenUp_15 0 rfl ?_
    refine pw_get (pc := 16) hX dX2_givenUp_16 hm.1 rfl inT_2 4 (by decide) fl_RX2_73 rfl ?_
    refine pw_aload_n (pc := 19) hX dX2_givenUp_19 0 rfl ?_
    refine pw_get (pc := 20) hX dX2_givenUp_20 hm.1 rfl inT_2 11 (by decide) fl_RX2_33 rfl ?_
    refine pw_bipush (pc := 23) (v := 10) hX dX2_givenUp_23 (by decide) ?_
    refine pw_iload_n (pc := 25) hX dX2_givenUp_25 1 rfl ?_
    refine pw_imul (pc := 26) (z := nI (10 * j)) hX dX2_givenUp_26 (pk_mul 10 _) ?_
    refine pw_iload_n (pc := 27) hX dX2_givenUp_27 2 rfl ?_
    refine pw_iadd (pc := 28) (z := nI (10 * j + g)) hX dX2_givenUp_28 (nI_add _ _) ?_
    refine pw_iald (pc := 29) (j := 10 * j + g) hX dX2_givenUp_29 hm.2.2.2.2.2.2.2.1 (by omega) (by decide) ?_
    refine pw_cg (vb := .int (la j g)) (congrArg Value.int (fl_at la j hg)) ?_
    refine pw_icmp_le (pc := 30) hX 37 dX2_givenUp_30 (by decide) (fun hc_2 => ?_) (fun hc_2 => ?_)
    · refine pw_iconst (pc := 37) (v := 0) hX dX2_givenUp_37 (by decide) ?_
      exact pw_zret hX dX2_givenUp_38 hrt rfl ⟨by decide, by decide⟩ ⟨rfl, Or.inr ⟨rfl, fun h => absurd h.2 (Int32.not_lt.mpr hc_2)⟩⟩
    · refine pw_iconst (pc := 33) (v := 1) hX dX2_givenUp_33 (by decide) ?_
      refine pw_goto (pc := 34) hX 38 dX2_givenUp_34 (by decide) ?_
      exact pw_zret hX dX2_givenUp_38 hrt rfl ⟨by decide, by decide⟩ ⟨rfl, Or.inl ⟨rfl, hc_1, Int32.not_le.mp hc_2⟩⟩
set_option maxHeartbeats 4000000 in
set_option maxRecDepth 100000 in
theorem mt_linesOf (l : Launch) (hl : l.stackTraces = false) (G : pw_G) (M : pw_M) (am : Nat → Nat) (n oc : Nat) (td th : Int32) (sL : Int64) (dk to er os pl : Nat → Int32) (wa pr la : Nat → Nat → Int32) (hm : mw G am n oc td th sL dk to er os pl wa pr la M) (j : Nat) (hj : j < oc) : pw_Met l yX2_linesOf cX2_linesOf 4 (some .int) 5 0 0 G [.ref (am 0), .int (nI j)] M (fun v9 M9 => v9 = some (.int (nI (od_ct (od_has (wa j)) 10))) ∧ M = M9) := by
  refine pw_of hl (by decide +kernel) (Nat.le_of_ble_eq_true rfl) [(0, .ref (am 0)), (1, .int (nI j))] rfl ?_
  intro p9 e9 s9 m9 args9 below9 meth9 c9 hX hrt hmi
  generalize hQ9 : MQ below9 _ args9 s9 _ _ _ = Q9
  refine pw_iconst (pc := 0) (v := 0) hX dX2_linesOf_0 (by decide) ?_
  refine pw_istore_n (pc := 1) hX [(2, .int 0), (0, .ref (am 0)), (1, .int (nI j))] dX2_linesOf_1 (by decide) rfl ?_
  refine pw_iconst (pc := 2) (v := 0) hX dX2_linesOf_2 (by decide) ?_
  refine pw_istore_n (pc := 3) hX [(3, .int 0), (2, .int 0), (0, .ref (am 0)), (1, .int (nI j))] dX2_linesOf_3 (by decide) rfl ?_
  refine pw_lp (P := fun k_1 => pw_W p9 l e9 (pw_rm 5 0 0) s9 m9 args9 below9 meth9 c9 Q9 G 4 M 0 0 4 [(3, .int (nI (k_1))), (2, .int (nI (od_ct (od_has (wa j)) (k_1)))), (0, .ref (am 0)), (1, .int (nI j))] []) 10 ?_ ?_ 0 (Nat.zero_le _)
  · refine pw_iload_n (pc := 4) hX dX2_linesOf_4 0 rfl ?_
    refine pw_bipush (pc := 5) (v := 10) hX dX2_linesOf_5 (by decide) ?_
    refine pw_icmp_ge (pc := 7) hX 28 dX2_linesOf_7 (by decide) (fun hc_2 => ?_) (fun hc_2 => absurd (by decide) hc_2)
    refine pw_iload_n (pc := 28) hX dX2_linesOf_28 1 rfl ?_
    subst hQ9
    exact pw_iret hX dX2_linesOf_29 hrt ⟨by decide, by decide⟩ ⟨rfl, rfl⟩
  · intro k_1 hk_1 ih_k_1
    refine pw_iload_n (pc := 4) hX dX2_linesOf_4 0 rfl ?_
    refine pw_bipush (pc := 5) (v := 10) hX dX2_linesOf_5 (by decide) ?_
    refine pw_icmp_ge (pc := 7) hX 28 dX2_linesOf_7 (by decide) (fun hc_3 => absurd hc_3 (nI_ge (b := 10) hk_1 (by decide))) (fun hc_3 => ?_)
    refine pw_aload_n (pc := 10) hX dX2_linesOf_10 2 rfl ?_
    refine pw_iload_n (pc := 11) hX dX2_linesOf_11 3 rfl ?_
    refine pw_iload_n (pc := 12) hX dX2_linesOf_12 0 rfl ?_
    refine pw_callV (pc := 13) (st := []) hX (mt_hasLine l hl G M am n oc td th sL dk to er os pl wa pr la hm j k_1 hj hk_1) hm.1 rfl ok_X2_hasLine lk_RX2_46 dX2_linesOf_13 rfl ⟨⟨by decide, by decide⟩, Nat.le_of_ble_eq_true rfl, Nat.le_of_ble_eq_true rfl, Nat.le_of_ble_eq_true rfl⟩ rfl (fun v9 M9 hp9 => ?_)
    obtain ⟨rfl, rfl⟩ := hp9
    refine pw_if_eq (pc := 16) hX 22 dX2_linesOf_16 (by decide) (fun hc_4 => ?_) (fun hc_4 => ?_)
    · refine pw_iinc (pc := 22) (v := nI ((k_1) + 1)) (j := 0) hX [(3, .int (nI ((k_1) + 1))), (2, .int (nI (od_ct (od_has (wa j)) (k_1)))), (0, .ref (am 0)), (1, .int (nI j))] dX2_linesOf_22 rfl (nI_1 _) (by decide) rfl ?_
      refine pw_goto (pc := 25) hX 4 dX2_linesOf_25 (by decide) ?_
      rw [od_ct_f (b := od_has (wa j)) (k := k_1) (decide_eq_false (pw_ite0 hc_4))] at ih_k_1
      exact pw_lv [0, 1, 2, 3] _ rfl (ih_k_1)
    · refine pw_iinc (pc := 19) (v := nI ((od_ct (od_has (wa j)) (k_1)) + 1)) (j := 1) hX [(2, .int (nI ((od_ct (od_has (wa j)) (k_1)) + 1))), (3, .int (nI (k_1))), (0, .ref (am 0)), (1, .int (nI j))] dX2_linesOf_19 rfl (nI_1 _) (by decide) rfl ?_
      refine pw_iinc (pc := 22) (v := nI ((k_1) + 1)) (j := 1) hX [(3, .int (nI ((k_1) + 1))), (2, .int (nI ((od_ct (od_has (wa j)) (k_1)) + 1))), (0, .ref (am 0)), (1, .int (nI j))] dX2_linesOf_22 rfl (nI_1 _) (by decide) rfl ?_
      refine pw_goto (pc := 25) hX 4 dX2_linesOf_25 (by decide) ?_
      rw [od_ct_t (b := od_has (wa j)) (k := k_1) (decide_eq_true (pw_ite1 hc_4))] at ih_k_1
      exact pw_lv [0, 1, 2, 3] _ rfl (ih_k_1)
set_option maxHeartbeats 4000000 in
set_option maxRecDepth 100000 in
theorem mt_at (l : Launch) (hl : l.stackTraces = false) (G : pw_G) (M : pw_M) (am : Nat → Nat) (n oc : Nat) (td th : Int32) (sL : Int64) (dk to er os pl : Nat → Int32) (wa pr la : Nat → Nat → Int32) (hm : mw G am n oc td th sL dk to er os pl wa pr la M) (oo : Nat → Option Nat) (hO : ∀ c, c < n → ∀ j, oo c = some j ↔ j < oc ∧ pl j = nI c) (t : Nat) (ht : t < n) : pw_Met l yX2_at cX2_at 3 (some .int) 6 0 0 G [.ref (am 0), .int (nI t)] M (fun v9 M9 => M = M9 ∧ ((∃ j, oo t = some j ∧ j < oc ∧ v9 = some (.int (nI j))) ∨ oo t = none ∧ v9 = some (.int (-1)))) := by
  refine pw_of hl (by decide +kernel) (Nat.le_of_ble_eq_true rfl) [(0, .ref (am 0)), (1, .int (nI t))] rfl ?_
  intro p9 e9 s9 m9 args9 below9 meth9 c9 hX hrt hmi
  generalize hQ9 : MQ below9 _ args9 s9 _ _ _ = Q9
  refine pw_iconst (pc := 0) (v := 0) hX dX2_at_0 (by decide) ?_
  refine pw_istore_n (pc := 1) hX [(2, .int 0), (0, .ref (am 0)), (1, .int (nI t))] dX2_at_1 (by decide) rfl ?_
  refine pw_lp (P := fun k_1 => (∀ i, i < k_1 → ¬ pl i = nI t) → pw_W p9 l e9 (pw_rm 6 0 0) s9 m9 args9 below9 meth9 c9 Q9 G 3 M 0 0 2 [(2, .int (nI (k_1))), (0, .ref (am 0)), (1, .int (nI t))] []) oc ?_ ?_ 0 (Nat.zero_le _) (fun g hg => absurd hg (Nat.not_lt_zero g))
  · intro hy_k_1
    refine pw_iload_n (pc := 2) hX dX2_at_2 0 rfl ?_
    refine pw_aload_n (pc := 3) hX dX2_at_3 1 rfl ?_
    refine pw_get (pc := 4) hX dX2_at_4 hm.1 rfl inT_2 3 (by decide) fl_RX2_50 rfl ?_
    refine pw_icmp_ge (pc := 7) hX 28 dX2_at_7 (by decide) (fun hc_2 => ?_) (fun hc_2 => absurd (Int32.le_refl _) hc_2)
    refine pw_iconst (pc := 28) (v := (-1)) hX dX2_at_28 (by decide) ?_
    subst hQ9
    exact pw_iret hX dX2_at_29 hrt ⟨by decide, by decide⟩ ⟨rfl, Or.inr ⟨(op_two (oo t)).elim id (fun ⟨j, hj⟩ => absurd ((hO t ht j).mp hj).2 (hy_k_1 j ((hO t ht j).mp hj).1)), rfl⟩⟩
  · intro k_1 hk_1 ih_k_1
    intro hy_k_1
    refine pw_iload_n (pc := 2) hX dX2_at_2 0 rfl ?_
    refine pw_aload_n (pc := 3) hX dX2_at_3 1 rfl ?_
    refine pw_get (pc := 4) hX dX2_at_4 hm.1 rfl inT_2 3 (by decide) fl_RX2_50 rfl ?_
    refine pw_icmp_ge (pc := 7) hX 28 dX2_at_7 (by decide) (fun hc_3 => absurd hc_3 (nI_ge (b := oc) hk_1 (Nat.lt_of_le_of_lt (mw_oc hm) (by decide)))) (fun hc_3 => ?_)
    refine pw_aload_n (pc := 10) hX dX2_at_10 1 rfl ?_
    refine pw_get (pc := 11) hX dX2_at_11 hm.1 rfl inT_2 8 (by decide) fl_RX2_24 rfl ?_
    refine pw_iload_n (pc := 14) hX dX2_at_14 0 rfl ?_
    refine pw_iald (pc := 15) (j := k_1) hX dX2_at_15 hm.2.2.2.2.1 (Nat.lt_of_lt_of_le hk_1 (mw_oc hm)) (by decide) ?_
    refine pw_iload_n (pc := 16) hX dX2_at_16 2 rfl ?_
    refine pw_icmp_ne (pc := 17) hX 22 dX2_at_17 (by decide) (fun hc_4 => ?_) (fun hc_4 => ?_)
    · refine pw_iinc (pc := 22) (v := nI ((k_1) + 1)) (j := 0) hX [(2, .int (nI ((k_1) + 1))), (0, .ref (am 0)), (1, .int (nI t))] dX2_at_22 rfl (nI_1 _) (by decide) rfl ?_
      refine pw_goto (pc := 25) hX 2 dX2_at_25 (by decide) ?_
      exact pw_lv [0, 1, 2] _ rfl (ih_k_1 (lt_s hy_k_1 hc_4))
    · refine pw_iload_n (pc := 20) hX dX2_at_20 0 rfl ?_
      subst hQ9
      exact pw_iret hX dX2_at_21 hrt ⟨by decide, by decide⟩ ⟨rfl, Or.inl ⟨k_1, (hO t ht k_1).mpr ⟨hk_1, hc_4⟩, hk_1, rfl⟩⟩
set_option maxHeartbeats 4000000 in
set_option maxRecDepth 100000 in
theorem mt_thrown (l : Launch) (hl : l.stackTraces = false) (G : pw_G) (M : pw_M) (am : Nat → Nat) (n oc : Nat) (td th : Int32) (sL : Int64) (dk to er os pl : Nat → Int32) (wa pr la : Nat → Nat → Int32) (hm : mw G am n oc td th sL dk to er os pl wa pr la M) : pw_Met l yX2_thrown cX2_thrown 1 (some .int) 3 0 0 G [.ref (am 0)] M (fun v9 M9 => v9 = some (.int th) ∧ M = M9) := by
  refine pw_of hl (by decide +kernel) (Nat.le_of_ble_eq_true rfl) [(0, .ref (am 0))] rfl ?_
  intro p9 e9 s9 m9 args9 below9 meth9 c9 hX hrt hmi
  refine pw_aload_n (pc := 0) hX dX2_thrown_0 0 rfl ?_
  refine pw_get (pc := 1) hX dX2_thrown_1 hm.1 rfl inT_2 5 (by decide) fl_RX2_43 rfl ?_
  exact pw_iret hX dX2_thrown_4 hrt ⟨by decide, by decide⟩ ⟨rfl, rfl⟩
