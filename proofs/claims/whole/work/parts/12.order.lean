/-! ===== the order's methods ===== -/
def od_gu (td : Int32) (w p d : Nat → Int32) (g : Nat) : Int32 := if ¬ d g = -1 ∧ d g < td then w g - p g else 0
def od_ct (b : Nat → Bool) : Nat → Nat
  | 0 => 0
  | n + 1 => od_ct b n + (if b n = true then 1 else 0)
theorem od_ct_le (b : Nat → Bool) : ∀ n, od_ct b n ≤ n
  | 0 => Nat.le_refl 0
  | n + 1 => by
    have := od_ct_le b n
    unfold od_ct
    split <;> omega
def od_has (w : Nat → Int32) (g : Nat) : Bool := decide (0 < w g)
/-- a loop that counts up: at its end, and from each step the one before -/
theorem pw_lp {P : Nat → Prop} (N : Nat) (h0 : P N) (hs : ∀ i, i < N → P (i + 1) → P i) : ∀ i, i ≤ N → P i := by
  intro i hi
  obtain ⟨k, hk⟩ : ∃ k, k = N - i := ⟨_, rfl⟩
  induction k generalizing i with
  | zero => rw [show i = N by omega]; exact h0
  | succ k ih => exact hs i (by omega) (ih (i + 1) (by omega) (by omega))
theorem pw_ltN {a b : Nat} (ha : a < 2 ^ 31) (hb : b < 2 ^ 31) (h : ¬ nI b ≤ nI a) : a < b := Nat.not_le.mp (fun h9 => h (nI_le h9 ha))
theorem pw_leN {a b : Nat} (ha : a < 2 ^ 31) (hb : b < 2 ^ 31) (h : nI b ≤ nI a) : b ≤ a := (nI_leI hb ha).mp h
set_option maxHeartbeats 4000000 in
set_option maxRecDepth 100000 in
theorem ct_hasLine (l : Launch) (hl : l.stackTraces = false) (G : pw_G) (M : pw_M) (a aw ap ae : Nat) (i s pl : Int32) (w p d : Nat → Int32) (ho : od_at G M a aw ap ae i s pl w p d) (g : Nat) (hg : g < 10) : pw_Met l yX0_hasLine cX0_hasLine 2 (some .boolean) 6 0 0 G [.ref a, .int (nI g)] M (fun v9 M9 => v9 = some (.int (if 0 < w g then 1 else 0)) ∧ M = M9) := by
  refine pw_of hl (by decide +kernel) (Nat.le_of_ble_eq_true rfl) [(0, .ref a), (1, .int (nI g))] rfl ?_
  intro p9 e9 s9 m9 args9 below9 meth9 c9 hX hrt hmi
  refine pw_aload_n (pc := 0) hX dX0_hasLine_0 0 rfl ?_
  refine pw_get (pc := 1) hX dX0_hasLine_1 ho.1 rfl inT_0 3 (by decide) fl_RX0_18 rfl ?_
  refine pw_iload_n (pc := 4) hX dX0_hasLine_4 1 rfl ?_
  refine pw_iald (pc := 5) (j := g) hX dX0_hasLine_5 ho.2.1 hg (by decide) ?_
  refine pw_if_le (pc := 6) hX 13 dX0_hasLine_6 (by decide) (fun hc_1 => ?_) (fun hc_1 => ?_)
  · refine pw_iconst (pc := 13) (v := 0) hX dX0_hasLine_13 (by decide) ?_
    exact pw_zret hX dX0_hasLine_14 hrt rfl ⟨by decide, by decide⟩ ⟨by rw [if_neg (Int32.not_lt.mpr hc_1)], rfl⟩
  · refine pw_iconst (pc := 9) (v := 1) hX dX0_hasLine_9 (by decide) ?_
    refine pw_goto (pc := 10) hX 14 dX0_hasLine_10 (by decide) ?_
    exact pw_zret hX dX0_hasLine_14 hrt rfl ⟨by decide, by decide⟩ ⟨by rw [if_pos (Int32.not_le.mp hc_1)], rfl⟩
set_option maxHeartbeats 4000000 in
set_option maxRecDepth 100000 in
theorem ct_missing (l : Launch) (hl : l.stackTraces = false) (G : pw_G) (M : pw_M) (a aw ap ae : Nat) (i s pl : Int32) (w p d : Nat → Int32) (ho : od_at G M a aw ap ae i s pl w p d) (g : Nat) (hg : g < 10) : pw_Met l yX0_missing cX0_missing 2 (some .int) 6 0 0 G [.ref a, .int (nI g)] M (fun v9 M9 => v9 = some (.int (w g - p g)) ∧ M = M9) := by
  refine pw_of hl (by decide +kernel) (Nat.le_of_ble_eq_true rfl) [(0, .ref a), (1, .int (nI g))] rfl ?_
  intro p9 e9 s9 m9 args9 below9 meth9 c9 hX hrt hmi
  refine pw_aload_n (pc := 0) hX dX0_missing_0 0 rfl ?_
  refine pw_get (pc := 1) hX dX0_missing_1 ho.1 rfl inT_0 3 (by decide) fl_RX0_18 rfl ?_
  refine pw_iload_n (pc := 4) hX dX0_missing_4 1 rfl ?_
  refine pw_iald (pc := 5) (j := g) hX dX0_missing_5 ho.2.1 hg (by decide) ?_
  refine pw_aload_n (pc := 6) hX dX0_missing_6 0 rfl ?_
  refine pw_get (pc := 7) hX dX0_missing_7 ho.1 rfl inT_0 4 (by decide) fl_RX0_22 rfl ?_
  refine pw_iload_n (pc := 10) hX dX0_missing_10 1 rfl ?_
  refine pw_iald (pc := 11) (j := g) hX dX0_missing_11 ho.2.2.1 hg (by decide) ?_
  refine pw_isub (pc := 12) (z := (w g) - (p g)) hX dX0_missing_12 rfl ?_
  exact pw_iret hX dX0_missing_13 hrt ⟨by decide, by decide⟩ ⟨rfl, rfl⟩
set_option maxHeartbeats 4000000 in
set_option maxRecDepth 100000 in
theorem ct_givenUp (l : Launch) (hl : l.stackTraces = false) (G : pw_G) (M : pw_M) (a aw ap ae : Nat) (i s pl : Int32) (w p d : Nat → Int32) (ho : od_at G M a aw ap ae i s pl w p d) (g : Nat) (hg : g < 10) (td : Int32) : pw_Met l yX0_givenUp cX0_givenUp 3 (some .int) 5 0 0 G [.ref a, .int (nI g), .int td] M (fun v9 M9 => v9 = some (.int (od_gu td w p d g)) ∧ M = M9) := by
  refine pw_of hl (by decide +kernel) (Nat.le_of_ble_eq_true rfl) [(0, .ref a), (1, .int (nI g)), (2, .int td)] rfl ?_
  intro p9 e9 s9 m9 args9 below9 meth9 c9 hX hrt hmi
  refine pw_aload_n (pc := 0) hX dX0_givenUp_0 0 rfl ?_
  refine pw_get (pc := 1) hX dX0_givenUp_1 ho.1 rfl inT_0 5 (by decide) fl_RX0_25 rfl ?_
  refine pw_iload_n (pc := 4) hX dX0_givenUp_4 1 rfl ?_
  refine pw_iald (pc := 5) (j := g) hX dX0_givenUp_5 ho.2.2.2 hg (by decide) ?_
  refine pw_iconst (pc := 6) (v := (-1)) hX dX0_givenUp_6 (by decide) ?_
  refine pw_icmp_eq (pc := 7) hX 28 dX0_givenUp_7 (by decide) (fun hc_1 => ?_) (fun hc_1 => ?_)
  · refine pw_iconst (pc := 28) (v := 0) hX dX0_givenUp_28 (by decide) ?_
    exact pw_iret hX dX0_givenUp_29 hrt ⟨by decide, by decide⟩ ⟨by unfold od_gu; rw [if_neg (fun h => h.1 hc_1)], rfl⟩
  · refine pw_iload_n (pc := 10) hX dX0_givenUp_10 2 rfl ?_
    refine pw_aload_n (pc := 11) hX dX0_givenUp_11 0 rfl ?_
    refine pw_get (pc := 12) hX dX0_givenUp_12 ho.1 rfl inT_0 5 (by decide) fl_RX0_25 rfl ?_
    refine pw_iload_n (pc := 15) hX dX0_givenUp_15 1 rfl ?_
    refine pw_iald (pc := 16) (j := g) hX dX0_givenUp_16 ho.2.2.2 hg (by decide) ?_
    refine pw_icmp_le (pc := 17) hX 28 dX0_givenUp_17 (by decide) (fun hc_2 => ?_) (fun hc_2 => ?_)
    · refine pw_iconst (pc := 28) (v := 0) hX dX0_givenUp_28 (by decide) ?_
      exact pw_iret hX dX0_givenUp_29 hrt ⟨by decide, by decide⟩ ⟨by unfold od_gu; rw [if_neg (fun h => absurd h.2 (Int32.not_lt.mpr hc_2))], rfl⟩
    · refine pw_aload_n (pc := 20) hX dX0_givenUp_20 0 rfl ?_
      refine pw_iload_n (pc := 21) hX dX0_givenUp_21 1 rfl ?_
      refine pw_callV (pc := 22) (st := []) hX (ct_missing l hl G M a aw ap ae i s pl w p d ho g hg) ho.1 rfl ok_X0_missing lk_RX0_37 dX0_givenUp_22 rfl ⟨⟨by decide, by decide⟩, Nat.le_of_ble_eq_true rfl, Nat.le_of_ble_eq_true rfl, Nat.le_of_ble_eq_true rfl⟩ rfl (fun v9 M9 hp9 => ?_)
      obtain ⟨rfl, rfl⟩ := hp9
      refine pw_goto (pc := 25) hX 29 dX0_givenUp_25 (by decide) ?_
      exact pw_iret hX dX0_givenUp_29 hrt ⟨by decide, by decide⟩ ⟨by unfold od_gu; rw [if_pos ⟨hc_1, Int32.not_le.mp hc_2⟩], rfl⟩
theorem od_ct_t {b : Nat → Bool} {k : Nat} (h : b k = true) : od_ct b (k + 1) = od_ct b k + 1 := by
  show od_ct b k + (if b k = true then 1 else 0) = _
  rw [if_pos h]
theorem od_ct_f {b : Nat → Bool} {k : Nat} (h : b k = false) : od_ct b (k + 1) = od_ct b k := by
  show od_ct b k + (if b k = true then 1 else 0) = _
  rw [if_neg (by rw [h]; decide)]
  rfl
theorem pw_ite0 {q : Prop} {h : Decidable q} (hz : (if q then (1 : Int32) else 0) = 0) : ¬ q := fun h9 => by
  rw [if_pos h9] at hz
  exact absurd hz (by decide)
theorem pw_ite1 {q : Prop} {h : Decidable q} (hz : ¬ (if q then (1 : Int32) else 0) = 0) : q := Decidable.byContradiction fun h9 => hz (if_neg h9)
set_option maxHeartbeats 4000000 in
set_option maxRecDepth 100000 in
theorem ct_sum (l : Launch) (hl : l.stackTraces = false) (G : pw_G) (M : pw_M) (x n : Nat) (f : Nat → Int32) (hx : M x = some (.inl (G.2.2.1 0, n, .inl f))) (hn : n ≤ 1000) : pw_Met l yX1_sum cX1_sum 3 (some .int) 6 0 0 G [.ref x] M (fun v9 M9 => v9 = some (.int (bx_sum f n)) ∧ M = M9) := by
  refine pw_of hl (by decide +kernel) (Nat.le_of_ble_eq_true rfl) [(0, .ref x)] rfl ?_
  intro p9 e9 s9 m9 args9 below9 meth9 c9 hX hrt hmi
  generalize hQ9 : MQ below9 _ args9 s9 _ _ _ = Q9
  refine pw_iconst (pc := 0) (v := 0) hX dX1_sum_0 (by decide) ?_
  refine pw_istore_n (pc := 1) hX [(1, .int 0), (0, .ref x)] dX1_sum_1 (by decide) rfl ?_
  refine pw_iconst (pc := 2) (v := 0) hX dX1_sum_2 (by decide) ?_
  refine pw_istore_n (pc := 3) hX [(2, .int 0), (1, .int 0), (0, .ref x)] dX1_sum_3 (by decide) rfl ?_
  refine pw_lp (P := fun k_1 => pw_W p9 l e9 (pw_rm 6 0 0) s9 m9 args9 below9 meth9 c9 Q9 G 3 M 0 0 4 [(2, .int (nI (k_1))), (1, .int (bx_sum f (k_1))), (0, .ref x)] []) n ?_ ?_ 0 (Nat.zero_le _)
  · refine pw_iload_n (pc := 4) hX dX1_sum_4 0 rfl ?_
    refine pw_aload_n (pc := 5) hX dX1_sum_5 2 rfl ?_
    refine pw_alen0 (pc := 6) hX dX1_sum_6 hx rfl ?_
    refine pw_icmp_ge (pc := 7) hX 22 dX1_sum_7 (by decide) (fun hc_2 => ?_) (fun hc_2 => absurd (Int32.le_refl _) hc_2)
    refine pw_iload_n (pc := 22) hX dX1_sum_22 1 rfl ?_
    subst hQ9
    exact pw_iret hX dX1_sum_23 hrt ⟨by decide, by decide⟩ ⟨rfl, rfl⟩
  · intro k_1 hk_1 ih_k_1
    refine pw_iload_n (pc := 4) hX dX1_sum_4 0 rfl ?_
    refine pw_aload_n (pc := 5) hX dX1_sum_5 2 rfl ?_
    refine pw_alen0 (pc := 6) hX dX1_sum_6 hx rfl ?_
    refine pw_icmp_ge (pc := 7) hX 22 dX1_sum_7 (by decide) (fun hc_3 => absurd hc_3 (nI_ge (b := n) hk_1 (by omega))) (fun hc_3 => ?_)
    refine pw_iload_n (pc := 10) hX dX1_sum_10 1 rfl ?_
    refine pw_aload_n (pc := 11) hX dX1_sum_11 2 rfl ?_
    refine pw_iload_n (pc := 12) hX dX1_sum_12 0 rfl ?_
    refine pw_iald (pc := 13) (j := k_1) hX dX1_sum_13 hx hk_1 (by omega) ?_
    refine pw_iadd (pc := 14) (z := bx_sum f (k_1 + 1)) hX dX1_sum_14 rfl ?_
    refine pw_istore_n (pc := 15) hX [(1, .int (bx_sum f (k_1 + 1))), (2, .int (nI (k_1))), (0, .ref x)] dX1_sum_15 (by decide) rfl ?_
    refine pw_iinc (pc := 16) (v := nI ((k_1) + 1)) (j := 1) hX [(2, .int (nI ((k_1) + 1))), (1, .int (bx_sum f (k_1 + 1))), (0, .ref x)] dX1_sum_16 rfl (nI_1 _) (by decide) rfl ?_
    refine pw_goto (pc := 19) hX 4 dX1_sum_19 (by decide) ?_
    exact pw_lv [0, 1, 2] _ rfl (ih_k_1)
set_option maxHeartbeats 4000000 in
set_option maxRecDepth 100000 in
theorem ct_lineCount (l : Launch) (hl : l.stackTraces = false) (G : pw_G) (M : pw_M) (a aw ap ae : Nat) (i s pl : Int32) (w p d : Nat → Int32) (ho : od_at G M a aw ap ae i s pl w p d) : pw_Met l yX0_lineCount cX0_lineCount 3 (some .int) 5 0 0 G [.ref a] M (fun v9 M9 => v9 = some (.int (nI (od_ct (od_has w) 10))) ∧ M = M9) := by
  refine pw_of hl (by decide +kernel) (Nat.le_of_ble_eq_true rfl) [(0, .ref a)] rfl ?_
  intro p9 e9 s9 m9 args9 below9 meth9 c9 hX hrt hmi
  generalize hQ9 : MQ below9 _ args9 s9 _ _ _ = Q9
  refine pw_iconst (pc := 0) (v := 0) hX dX0_lineCount_0 (by decide) ?_
  refine pw_istore_n (pc := 1) hX [(1, .int 0), (0, .ref a)] dX0_lineCount_1 (by decide) rfl ?_
  refine pw_iconst (pc := 2) (v := 0) hX dX0_lineCount_2 (by decide) ?_
  refine pw_istore_n (pc := 3) hX [(2, .int 0), (1, .int 0), (0, .ref a)] dX0_lineCount_3 (by decide) rfl ?_
  refine pw_lp (P := fun k_1 => pw_W p9 l e9 (pw_rm 5 0 0) s9 m9 args9 below9 meth9 c9 Q9 G 3 M 0 0 4 [(2, .int (nI (k_1))), (1, .int (nI (od_ct (od_has w) (k_1)))), (0, .ref a)] []) 10 ?_ ?_ 0 (Nat.zero_le _)
  · refine pw_iload_n (pc := 4) hX dX0_lineCount_4 0 rfl ?_
    refine pw_bipush (pc := 5) (v := 10) hX dX0_lineCount_5 (by decide) ?_
    refine pw_icmp_ge (pc := 7) hX 27 dX0_lineCount_7 (by decide) (fun hc_2 => ?_) (fun hc_2 => absurd (by decide) hc_2)
    refine pw_iload_n (pc := 27) hX dX0_lineCount_27 1 rfl ?_
    subst hQ9
    exact pw_iret hX dX0_lineCount_28 hrt ⟨by decide, by decide⟩ ⟨rfl, rfl⟩
  · intro k_1 hk_1 ih_k_1
    refine pw_iload_n (pc := 4) hX dX0_lineCount_4 0 rfl ?_
    refine pw_bipush (pc := 5) (v := 10) hX dX0_lineCount_5 (by decide) ?_
    refine pw_icmp_ge (pc := 7) hX 27 dX0_lineCount_7 (by decide) (fun hc_3 => absurd hc_3 (nI_ge (b := 10) hk_1 (by decide))) (fun hc_3 => ?_)
    refine pw_aload_n (pc := 10) hX dX0_lineCount_10 2 rfl ?_
    refine pw_iload_n (pc := 11) hX dX0_lineCount_11 0 rfl ?_
    refine pw_callV (pc := 12) (st := []) hX (ct_hasLine l hl G M a aw ap ae i s pl w p d ho k_1 hk_1) ho.1 rfl ok_X0_hasLine lk_RX0_41 dX0_lineCount_12 rfl ⟨⟨by decide, by decide⟩, Nat.le_of_ble_eq_true rfl, Nat.le_of_ble_eq_true rfl, Nat.le_of_ble_eq_true rfl⟩ rfl (fun v9 M9 hp9 => ?_)
    obtain ⟨rfl, rfl⟩ := hp9
    refine pw_if_eq (pc := 15) hX 21 dX0_lineCount_15 (by decide) (fun hc_4 => ?_) (fun hc_4 => ?_)
    · refine pw_iinc (pc := 21) (v := nI ((k_1) + 1)) (j := 0) hX [(2, .int (nI ((k_1) + 1))), (1, .int (nI (od_ct (od_has w) (k_1)))), (0, .ref a)] dX0_lineCount_21 rfl (nI_1 _) (by decide) rfl ?_
      refine pw_goto (pc := 24) hX 4 dX0_lineCount_24 (by decide) ?_
      rw [od_ct_f (b := od_has w) (k := k_1) (decide_eq_false (pw_ite0 hc_4))] at ih_k_1
      exact pw_lv [0, 1, 2] _ rfl (ih_k_1)
    · refine pw_iinc (pc := 18) (v := nI ((od_ct (od_has w) (k_1)) + 1)) (j := 1) hX [(1, .int (nI ((od_ct (od_has w) (k_1)) + 1))), (2, .int (nI (k_1))), (0, .ref a)] dX0_lineCount_18 rfl (nI_1 _) (by decide) rfl ?_
      refine pw_iinc (pc := 21) (v := nI ((k_1) + 1)) (j := 1) hX [(2, .int (nI ((k_1) + 1))), (1, .int (nI ((od_ct (od_has w) (k_1)) + 1))), (0, .ref a)] dX0_lineCount_21 rfl (nI_1 _) (by decide) rfl ?_
      refine pw_goto (pc := 24) hX 4 dX0_lineCount_24 (by decide) ?_
      rw [od_ct_t (b := od_has w) (k := k_1) (decide_eq_true (pw_ite1 hc_4))] at ih_k_1
      exact pw_lv [0, 1, 2] _ rfl (ih_k_1)
set_option maxHeartbeats 4000000 in
set_option maxRecDepth 100000 in
theorem ct_allGivenUp (l : Launch) (hl : l.stackTraces = false) (G : pw_G) (M : pw_M) (a aw ap ae : Nat) (i s pl : Int32) (w p d : Nat → Int32) (ho : od_at G M a aw ap ae i s pl w p d) (td : Int32) : pw_Met l yX0_allGivenUp cX0_allGivenUp 4 (some .int) 4 0 0 G [.ref a, .int td] M (fun v9 M9 => v9 = some (.int (bx_sum (od_gu td w p d) 10)) ∧ M = M9) := by
  refine pw_of hl (by decide +kernel) (Nat.le_of_ble_eq_true rfl) [(0, .ref a), (1, .int td)] rfl ?_
  intro p9 e9 s9 m9 args9 below9 meth9 c9 hX hrt hmi
  generalize hQ9 : MQ below9 _ args9 s9 _ _ _ = Q9
  refine pw_iconst (pc := 0) (v := 0) hX dX0_allGivenUp_0 (by decide) ?_
  refine pw_istore_n (pc := 1) hX [(2, .int 0), (0, .ref a), (1, .int td)] dX0_allGivenUp_1 (by decide) rfl ?_
  refine pw_iconst (pc := 2) (v := 0) hX dX0_allGivenUp_2 (by decide) ?_
  refine pw_istore_n (pc := 3) hX [(3, .int 0), (2, .int 0), (0, .ref a), (1, .int td)] dX0_allGivenUp_3 (by decide) rfl ?_
  refine pw_lp (P := fun k_1 => pw_W p9 l e9 (pw_rm 4 0 0) s9 m9 args9 below9 meth9 c9 Q9 G 4 M 0 0 4 [(3, .int (nI (k_1))), (2, .int (bx_sum (od_gu td w p d) (k_1))), (0, .ref a), (1, .int td)] []) 10 ?_ ?_ 0 (Nat.zero_le _)
  · refine pw_iload_n (pc := 4) hX dX0_allGivenUp_4 0 rfl ?_
    refine pw_bipush (pc := 5) (v := 10) hX dX0_allGivenUp_5 (by decide) ?_
    refine pw_icmp_ge (pc := 7) hX 25 dX0_allGivenUp_7 (by decide) (fun hc_2 => ?_) (fun hc_2 => absurd (by decide) hc_2)
    refine pw_iload_n (pc := 25) hX dX0_allGivenUp_25 1 rfl ?_
    subst hQ9
    exact pw_iret hX dX0_allGivenUp_26 hrt ⟨by decide, by decide⟩ ⟨rfl, rfl⟩
  · intro k_1 hk_1 ih_k_1
    refine pw_iload_n (pc := 4) hX dX0_allGivenUp_4 0 rfl ?_
    refine pw_bipush (pc := 5) (v := 10) hX dX0_allGivenUp_5 (by decide) ?_
    refine pw_icmp_ge (pc := 7) hX 25 dX0_allGivenUp_7 (by decide) (fun hc_3 => absurd hc_3 (nI_ge (b := 10) hk_1 (by decide))) (fun hc_3 => ?_)
    refine pw_iload_n (pc := 10) hX dX0_allGivenUp_10 1 rfl ?_
    refine pw_aload_n (pc := 11) hX dX0_allGivenUp_11 2 rfl ?_
    refine pw_iload_n (pc := 12) hX dX0_allGivenUp_12 0 rfl ?_
    refine pw_iload_n (pc := 13) hX dX0_allGivenUp_13 3 rfl ?_
    refine pw_callV (pc := 14) (st := [.int (bx_sum (od_gu td w p d) (k_1))]) hX (ct_givenUp l hl G M a aw ap ae i s pl w p d ho k_1 hk_1 td) ho.1 rfl ok_X0_givenUp lk_RX0_45 dX0_allGivenUp_14 rfl ⟨⟨by decide, by decide⟩, Nat.le_of_ble_eq_true rfl, Nat.le_of_ble_eq_true rfl, Nat.le_of_ble_eq_true rfl⟩ rfl (fun v9 M9 hp9 => ?_)
    obtain ⟨rfl, rfl⟩ := hp9
    refine pw_iadd (pc := 17) (z := bx_sum (od_gu td w p d) (k_1 + 1)) hX dX0_allGivenUp_17 rfl ?_
    refine pw_istore_n (pc := 18) hX [(2, .int (bx_sum (od_gu td w p d) (k_1 + 1))), (3, .int (nI (k_1))), (0, .ref a), (1, .int td)] dX0_allGivenUp_18 (by decide) rfl ?_
    refine pw_iinc (pc := 19) (v := nI ((k_1) + 1)) (j := 1) hX [(3, .int (nI ((k_1) + 1))), (2, .int (bx_sum (od_gu td w p d) (k_1 + 1))), (0, .ref a), (1, .int td)] dX0_allGivenUp_19 rfl (nI_1 _) (by decide) rfl ?_
    refine pw_goto (pc := 22) hX 4 dX0_allGivenUp_22 (by decide) ?_
    exact pw_lv [0, 1, 2, 3] _ rfl (ih_k_1)
set_option maxHeartbeats 4000000 in
set_option maxRecDepth 100000 in
theorem ct_allWanted (l : Launch) (hl : l.stackTraces = false) (G : pw_G) (M : pw_M) (a aw ap ae : Nat) (i s pl : Int32) (w p d : Nat → Int32) (ho : od_at G M a aw ap ae i s pl w p d) : pw_Met l yX0_allWanted cX0_allWanted 1 (some .int) 5 0 0 G [.ref a] M (fun v9 M9 => v9 = some (.int (bx_sum w 10)) ∧ M = M9) := by
  refine pw_of hl (by decide +kernel) (Nat.le_of_ble_eq_true rfl) [(0, .ref a)] rfl ?_
  intro p9 e9 s9 m9 args9 below9 meth9 c9 hX hrt hmi
  refine pw_aload_n (pc := 0) hX dX0_allWanted_0 0 rfl ?_
  refine pw_get (pc := 1) hX dX0_allWanted_1 ho.1 rfl inT_0 3 (by decide) fl_RX0_18 rfl ?_
  refine pw_callSN (pc := 4) (st := []) hX (ct_sum l hl G M aw 10 w ho.2.1 (by decide)) ok_X1_sum hX.2.2.2.2.2.1.2.2.1 st_X1_sum dX0_allWanted_4 rfl ⟨⟨by decide, by decide⟩, Nat.le_of_ble_eq_true rfl, Nat.le_of_ble_eq_true rfl, Nat.le_of_ble_eq_true rfl⟩ rfl (fun v9 M9 hp9 => ?_)
  obtain ⟨rfl, rfl⟩ := hp9
  exact pw_iret hX dX0_allWanted_7 hrt ⟨by decide, by decide⟩ ⟨rfl, rfl⟩
set_option maxHeartbeats 4000000 in
set_option maxRecDepth 100000 in
theorem ct_allPresent (l : Launch) (hl : l.stackTraces = false) (G : pw_G) (M : pw_M) (a aw ap ae : Nat) (i s pl : Int32) (w p d : Nat → Int32) (ho : od_at G M a aw ap ae i s pl w p d) : pw_Met l yX0_allPresent cX0_allPresent 1 (some .int) 5 0 0 G [.ref a] M (fun v9 M9 => v9 = some (.int (bx_sum p 10)) ∧ M = M9) := by
  refine pw_of hl (by decide +kernel) (Nat.le_of_ble_eq_true rfl) [(0, .ref a)] rfl ?_
  intro p9 e9 s9 m9 args9 below9 meth9 c9 hX hrt hmi
  refine pw_aload_n (pc := 0) hX dX0_allPresent_0 0 rfl ?_
  refine pw_get (pc := 1) hX dX0_allPresent_1 ho.1 rfl inT_0 4 (by decide) fl_RX0_22 rfl ?_
  refine pw_callSN (pc := 4) (st := []) hX (ct_sum l hl G M ap 10 p ho.2.2.1 (by decide)) ok_X1_sum hX.2.2.2.2.2.1.2.2.1 st_X1_sum dX0_allPresent_4 rfl ⟨⟨by decide, by decide⟩, Nat.le_of_ble_eq_true rfl, Nat.le_of_ble_eq_true rfl, Nat.le_of_ble_eq_true rfl⟩ rfl (fun v9 M9 hp9 => ?_)
  obtain ⟨rfl, rfl⟩ := hp9
  exact pw_iret hX dX0_allPresent_7 hrt ⟨by decide, by decide⟩ ⟨rfl, rfl⟩
set_option maxHeartbeats 4000000 in
set_option maxRecDepth 100000 in
theorem ct_lacksNothing (l : Launch) (hl : l.stackTraces = false) (G : pw_G) (M : pw_M) (a aw ap ae : Nat) (i s pl : Int32) (w p d : Nat → Int32) (ho : od_at G M a aw ap ae i s pl w p d) (td : Int32) : pw_Met l yX0_lacksNothing cX0_lacksNothing 3 (some .boolean) 4 0 0 G [.ref a, .int td] M (fun v9 M9 => (∃ z : Int32, v9 = some (.int z) ∧ (z = 1 ∧ (∀ g, g < 10 → ¬ od_gu td w p d g < w g - p g) ∨ z = 0 ∧ ∃ g, g < 10 ∧ od_gu td w p d g < w g - p g)) ∧ M = M9) := by
  refine pw_of hl (by decide +kernel) (Nat.le_of_ble_eq_true rfl) [(0, .ref a), (1, .int td)] rfl ?_
  intro p9 e9 s9 m9 args9 below9 meth9 c9 hX hrt hmi
  generalize hQ9 : MQ below9 _ args9 s9 _ _ _ = Q9
  refine pw_iconst (pc := 0) (v := 0) hX dX0_lacksNothing_0 (by decide) ?_
  refine pw_istore_n (pc := 1) hX [(2, .int 0), (0, .ref a), (1, .int td)] dX0_lacksNothing_1 (by decide) rfl ?_
  refine pw_lp (P := fun k_1 => (∀ g, g < k_1 → ¬ od_gu td w p d g < w g - p g) → pw_W p9 l e9 (pw_rm 4 0 0) s9 m9 args9 below9 meth9 c9 Q9 G 3 M 0 0 2 [(2, .int (nI (k_1))), (0, .ref a), (1, .int td)] []) 10 ?_ ?_ 0 (Nat.zero_le _) (fun g hg => absurd hg (Nat.not_lt_zero g))
  · intro hy_k_1
    refine pw_iload_n (pc := 2) hX dX0_lacksNothing_2 0 rfl ?_
    refine pw_bipush (pc := 3) (v := 10) hX dX0_lacksNothing_3 (by decide) ?_
    refine pw_icmp_ge (pc := 5) hX 30 dX0_lacksNothing_5 (by decide) (fun hc_2 => ?_) (fun hc_2 => absurd (by decide) hc_2)
    refine pw_iconst (pc := 30) (v := 1) hX dX0_lacksNothing_30 (by decide) ?_
    subst hQ9
    exact pw_zret hX dX0_lacksNothing_31 hrt rfl ⟨by decide, by decide⟩ ⟨⟨_, rfl, Or.inl ⟨rfl, hy_k_1⟩⟩, rfl⟩
  · intro k_1 hk_1 ih_k_1
    intro hy_k_1
    refine pw_iload_n (pc := 2) hX dX0_lacksNothing_2 0 rfl ?_
    refine pw_bipush (pc := 3) (v := 10) hX dX0_lacksNothing_3 (by decide) ?_
    refine pw_icmp_ge (pc := 5) hX 30 dX0_lacksNothing_5 (by decide) (fun hc_3 => absurd hc_3 (nI_ge (b := 10) hk_1 (by decide))) (fun hc_3 => ?_)
    refine pw_aload_n (pc := 8) hX dX0_lacksNothing_8 1 rfl ?_
    refine pw_iload_n (pc := 9) hX dX0_lacksNothing_9 0 rfl ?_
    refine pw_callV (pc := 10) (st := []) hX (ct_missing l hl G M a aw ap ae i s pl w p d ho k_1 hk_1) ho.1 rfl ok_X0_missing lk_RX0_37 dX0_lacksNothing_10 rfl ⟨⟨by decide, by decide⟩, Nat.le_of_ble_eq_true rfl, Nat.le_of_ble_eq_true rfl, Nat.le_of_ble_eq_true rfl⟩ rfl (fun v9 M9 hp9 => ?_)
    obtain ⟨rfl, rfl⟩ := hp9
    refine pw_aload_n (pc := 13) hX dX0_lacksNothing_13 1 rfl ?_
    refine pw_iload_n (pc := 14) hX dX0_lacksNothing_14 0 rfl ?_
    refine pw_iload_n (pc := 15) hX dX0_lacksNothing_15 2 rfl ?_
    refine pw_callV (pc := 16) (st := [.int (w k_1 - p k_1)]) hX (ct_givenUp l hl G M a aw ap ae i s pl w p d ho k_1 hk_1 td) ho.1 rfl ok_X0_givenUp lk_RX0_45 dX0_lacksNothing_16 rfl ⟨⟨by decide, by decide⟩, Nat.le_of_ble_eq_true rfl, Nat.le_of_ble_eq_true rfl, Nat.le_of_ble_eq_true rfl⟩ rfl (fun v9 M9 hp9 => ?_)
    obtain ⟨rfl, rfl⟩ := hp9
    refine pw_icmp_le (pc := 19) hX 24 dX0_lacksNothing_19 (by decide) (fun hc_4 => ?_) (fun hc_4 => ?_)
    · refine pw_iinc (pc := 24) (v := nI ((k_1) + 1)) (j := 0) hX [(2, .int (nI ((k_1) + 1))), (0, .ref a), (1, .int td)] dX0_lacksNothing_24 rfl (nI_1 _) (by decide) rfl ?_
      refine pw_goto (pc := 27) hX 2 dX0_lacksNothing_27 (by decide) ?_
      exact pw_lv [0, 1, 2] _ rfl (ih_k_1 (lt_s hy_k_1 (Int32.not_lt.mpr hc_4)))
    · refine pw_iconst (pc := 22) (v := 0) hX dX0_lacksNothing_22 (by decide) ?_
      subst hQ9
      exact pw_zret hX dX0_lacksNothing_23 hrt rfl ⟨by decide, by decide⟩ ⟨⟨_, rfl, Or.inr ⟨rfl, k_1, hk_1, Int32.not_le.mp hc_4⟩⟩, rfl⟩
