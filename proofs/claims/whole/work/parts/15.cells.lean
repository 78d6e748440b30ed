set_option maxHeartbeats 4000000 in
set_option maxRecDepth 100000 in
theorem ct_lowest (l : Launch) (hl : l.stackTraces = false) (G : pw_G) (M : pw_M) (ad : Nat → Nat) (n oc : Nat) (td sd : Int32) (dk to er : Nat → Int32) (os pl : Nat → Int32) (oo : Nat → Option Nat) (wa pr de : Nat → Nat → Int32) (hc : cw G ad n oc td sd dk to er os pl oo wa pr de M) : pw_Met l yX1_lowestUsableCell cX1_lowestUsableCell 2 (some .int) 6 0 0 G [.ref (ad 0)] M (fun v9 M9 => M = M9 ∧ ((∃ i, i < n ∧ v9 = some (.int (nI i)) ∧ oo i = none ∧ dk i = 0 ∧ ∀ k, k < i → ¬ (oo k = none ∧ dk k = 0)) ∨ v9 = some (.int (-1)) ∧ ∀ i, i < n → ¬ (oo i = none ∧ dk i = 0))) := by
  refine pw_of hl (by decide +kernel) (Nat.le_of_ble_eq_true rfl) [(0, .ref (ad 0))] rfl ?_
  intro p9 e9 s9 m9 args9 below9 meth9 c9 hX hrt hmi
  generalize hQ9 : MQ below9 _ args9 s9 _ _ _ = Q9
  refine pw_iconst (pc := 0) (v := 0) hX dX1_lowestUsableCell_0 (by decide) ?_
  refine pw_istore_n (pc := 1) hX [(1, .int 0), (0, .ref (ad 0))] dX1_lowestUsableCell_1 (by decide) rfl ?_
  refine pw_lp (P := fun k_1 => (∀ i, i < k_1 → ¬ (oo i = none ∧ dk i = 0)) → pw_W p9 l e9 (pw_rm 6 0 0) s9 m9 args9 below9 meth9 c9 Q9 G 2 M 0 0 2 [(1, .int (nI (k_1))), (0, .ref (ad 0))] []) n ?_ ?_ 0 (Nat.zero_le _) (fun g hg => absurd hg (Nat.not_lt_zero g))
  · intro hy_k_1
    refine pw_iload_n (pc := 2) hX dX1_lowestUsableCell_2 0 rfl ?_
    refine pw_aload_n (pc := 3) hX dX1_lowestUsableCell_3 1 rfl ?_
    refine pw_get (pc := 4) hX dX1_lowestUsableCell_4 hc.1 rfl inT_1 2 (by decide) fl_RX1_41 rfl ?_
    refine pw_alen2 (pc := 7) hX dX1_lowestUsableCell_7 hc.2.2.1 rfl ?_
    refine pw_icmp_ge (pc := 8) hX 37 dX1_lowestUsableCell_8 (by decide) (fun hc_2 => ?_) (fun hc_2 => absurd (Int32.le_refl _) hc_2)
    refine pw_iconst (pc := 37) (v := (-1)) hX dX1_lowestUsableCell_37 (by decide) ?_
    subst hQ9
    exact pw_iret hX dX1_lowestUsableCell_38 hrt ⟨by decide, by decide⟩ ⟨rfl, Or.inr ⟨rfl, hy_k_1⟩⟩
  · intro k_1 hk_1 ih_k_1
    intro hy_k_1
    refine pw_iload_n (pc := 2) hX dX1_lowestUsableCell_2 0 rfl ?_
    refine pw_aload_n (pc := 3) hX dX1_lowestUsableCell_3 1 rfl ?_
    refine pw_get (pc := 4) hX dX1_lowestUsableCell_4 hc.1 rfl inT_1 2 (by decide) fl_RX1_41 rfl ?_
    refine pw_alen2 (pc := 7) hX dX1_lowestUsableCell_7 hc.2.2.1 rfl ?_
    refine pw_icmp_ge (pc := 8) hX 37 dX1_lowestUsableCell_8 (by decide) (fun hc_3 => absurd hc_3 (nI_ge (b := n) hk_1 (Nat.lt_of_le_of_lt (cw_n hc) (by decide)))) (fun hc_3 => ?_)
    refine pw_aload_n (pc := 11) hX dX1_lowestUsableCell_11 1 rfl ?_
    refine pw_get (pc := 12) hX dX1_lowestUsableCell_12 hc.1 rfl inT_1 2 (by decide) fl_RX1_41 rfl ?_
    refine pw_iload_n (pc := 15) hX dX1_lowestUsableCell_15 0 rfl ?_
    refine pw_aald (pc := 16) (j := k_1) hX dX1_lowestUsableCell_16 hc.2.2.1 hk_1 (Nat.lt_of_le_of_lt (cw_n hc) (by decide)) ?_
    rcases op_two (oo k_1) with ho_4 | ⟨j_5, ho_4⟩
    · refine pw_cg (vb := .null) (by show va_rf ((oo k_1).map _) = _; rw [ho_4]; rfl) ?_
      refine pw_ifnonnullN (pc := 17) hX dX1_lowestUsableCell_17  ?_
      refine pw_aload_n (pc := 20) hX dX1_lowestUsableCell_20 1 rfl ?_
      refine pw_get (pc := 21) hX dX1_lowestUsableCell_21 hc.1 rfl inT_1 3 (by decide) fl_RX1_44 rfl ?_
      refine pw_iload_n (pc := 24) hX dX1_lowestUsableCell_24 0 rfl ?_
      refine pw_zald (pc := 25) (j := k_1) hX dX1_lowestUsableCell_25 hc.2.2.2.1 hk_1 (Nat.lt_of_le_of_lt (cw_n hc) (by decide)) ?_
      refine pw_if_ne (pc := 26) hX 31 dX1_lowestUsableCell_26 (by decide) (fun hc_6 => ?_) (fun hc_6 => ?_)
      · refine pw_iinc (pc := 31) (v := nI ((k_1) + 1)) (j := 0) hX [(1, .int (nI ((k_1) + 1))), (0, .ref (ad 0))] dX1_lowestUsableCell_31 rfl (nI_1 _) (by decide) rfl ?_
        refine pw_goto (pc := 34) hX 2 dX1_lowestUsableCell_34 (by decide) ?_
        exact pw_lv [0, 1] _ rfl (ih_k_1 (lt_s hy_k_1 (fun h => hc_6 h.2)))
      · refine pw_iload_n (pc := 29) hX dX1_lowestUsableCell_29 0 rfl ?_
        subst hQ9
        exact pw_iret hX dX1_lowestUsableCell_30 hrt ⟨by decide, by decide⟩ ⟨rfl, Or.inl ⟨k_1, hk_1, rfl, ho_4, hc_6, hy_k_1⟩⟩
    · have hj_5 : j_5 < oc := cw_oo hc k_1 j_5 hk_1 ho_4
      refine pw_cg (vb := .ref (ad (6 + 4 * j_5))) (by show va_rf ((oo k_1).map _) = _; rw [ho_4]; rfl) ?_
      refine pw_ifnonnull (pc := 17) hX 31 dX1_lowestUsableCell_17 (by decide) ?_
      refine pw_iinc (pc := 31) (v := nI ((k_1) + 1)) (j := 0) hX [(1, .int (nI ((k_1) + 1))), (0, .ref (ad 0))] dX1_lowestUsableCell_31 rfl (nI_1 _) (by decide) rfl ?_
      refine pw_goto (pc := 34) hX 2 dX1_lowestUsableCell_34 (by decide) ?_
      exact pw_lv [0, 1] _ rfl (ih_k_1 (lt_s hy_k_1 (fun h => by rw [h.1] at ho_4; cases ho_4)))
set_option maxHeartbeats 4000000 in
set_option maxRecDepth 100000 in
theorem ct_completeCount (l : Launch) (hl : l.stackTraces = false) (G : pw_G) (M : pw_M) (ad : Nat → Nat) (n oc : Nat) (td sd : Int32) (dk to er : Nat → Int32) (os pl : Nat → Int32) (oo : Nat → Option Nat) (wa pr de : Nat → Nat → Int32) (hc : cw G ad n oc td sd dk to er os pl oo wa pr de M) : pw_Met l yX1_completeCount cX1_completeCount 4 (some .int) 6 0 0 G [.ref (ad 0)] M (fun v9 M9 => M = M9 ∧ v9 = some (.int (nI (od_ct (cc_b oo os) n)))) := by
  refine pw_of hl (by decide +kernel) (Nat.le_of_ble_eq_true rfl) [(0, .ref (ad 0))] rfl ?_
  intro p9 e9 s9 m9 args9 below9 meth9 c9 hX hrt hmi
  generalize hQ9 : MQ below9 _ args9 s9 _ _ _ = Q9
  refine pw_iconst (pc := 0) (v := 0) hX dX1_completeCount_0 (by decide) ?_
  refine pw_istore_n (pc := 1) hX [(1, .int 0), (0, .ref (ad 0))] dX1_completeCount_1 (by decide) rfl ?_
  refine pw_iconst (pc := 2) (v := 0) hX dX1_completeCount_2 (by decide) ?_
  refine pw_istore_n (pc := 3) hX [(2, .int 0), (1, .int 0), (0, .ref (ad 0))] dX1_completeCount_3 (by decide) rfl ?_
  refine pw_lp (P := fun k_1 => pw_W p9 l e9 (pw_rm 6 0 0) s9 m9 args9 below9 meth9 c9 Q9 G 4 M 0 0 4 [(2, .int (nI (k_1))), (1, .int (nI (od_ct (cc_b oo os) (k_1)))), (0, .ref (ad 0))] []) n ?_ ?_ 0 (Nat.zero_le _)
  · refine pw_iload_n (pc := 4) hX dX1_completeCount_4 0 rfl ?_
    refine pw_aload_n (pc := 5) hX dX1_completeCount_5 2 rfl ?_
    refine pw_get (pc := 6) hX dX1_completeCount_6 hc.1 rfl inT_1 2 (by decide) fl_RX1_41 rfl ?_
    refine pw_alen2 (pc := 9) hX dX1_completeCount_9 hc.2.2.1 rfl ?_
    refine pw_icmp_ge (pc := 10) hX 41 dX1_completeCount_10 (by decide) (fun hc_2 => ?_) (fun hc_2 => absurd (Int32.le_refl _) hc_2)
    refine pw_iload_n (pc := 41) hX dX1_completeCount_41 1 rfl ?_
    subst hQ9
    exact pw_iret hX dX1_completeCount_42 hrt ⟨by decide, by decide⟩ ⟨rfl, rfl⟩
  · intro k_1 hk_1 ih_k_1
    refine pw_iload_n (pc := 4) hX dX1_completeCount_4 0 rfl ?_
    refine pw_aload_n (pc := 5) hX dX1_completeCount_5 2 rfl ?_
    refine pw_get (pc := 6) hX dX1_completeCount_6 hc.1 rfl inT_1 2 (by decide) fl_RX1_41 rfl ?_
    refine pw_alen2 (pc := 9) hX dX1_completeCount_9 hc.2.2.1 rfl ?_
    refine pw_icmp_ge (pc := 10) hX 41 dX1_completeCount_10 (by decide) (fun hc_3 => absurd hc_3 (nI_ge (b := n) hk_1 (Nat.lt_of_le_of_lt (cw_n hc) (by decide)))) (fun hc_3 => ?_)
    refine pw_aload_n (pc := 13) hX dX1_completeCount_13 2 rfl ?_
    refine pw_get (pc := 14) hX dX1_completeCount_14 hc.1 rfl inT_1 2 (by decide) fl_RX1_41 rfl ?_
    refine pw_iload_n (pc := 17) hX dX1_completeCount_17 0 rfl ?_
    refine pw_aald (pc := 18) (j := k_1) hX dX1_completeCount_18 hc.2.2.1 hk_1 (Nat.lt_of_le_of_lt (cw_n hc) (by decide)) ?_
    rcases op_two (oo k_1) with ho_4 | ⟨j_5, ho_4⟩
    · refine pw_cg (vb := .null) (by show va_rf ((oo k_1).map _) = _; rw [ho_4]; rfl) ?_
      refine pw_astore_nN (pc := 19) hX [(3, .null), (2, .int (nI (k_1))), (1, .int (nI (od_ct (cc_b oo os) (k_1)))), (0, .ref (ad 0))] dX1_completeCount_19 (by decide) rfl ?_
      refine pw_aload_nN (pc := 20) hX dX1_completeCount_20 0 rfl ?_
      refine pw_ifnullN (pc := 21) hX 35 dX1_completeCount_21 (by decide) ?_
      refine pw_iinc (pc := 35) (v := nI ((k_1) + 1)) (j := 1) hX [(2, .int (nI ((k_1) + 1))), (3, .null), (1, .int (nI (od_ct (cc_b oo os) (k_1)))), (0, .ref (ad 0))] dX1_completeCount_35 rfl (nI_1 _) (by decide) rfl ?_
      refine pw_goto (pc := 38) hX 4 dX1_completeCount_38 (by decide) ?_
      rw [od_ct_f (b := cc_b oo os) (k := k_1) (cc_bn ho_4)] at ih_k_1
      exact pw_lv [0, 2, 3] _ rfl (ih_k_1)
    · have hj_5 : j_5 < oc := cw_oo hc k_1 j_5 hk_1 ho_4
      refine pw_cg (vb := .ref (ad (6 + 4 * j_5))) (by show va_rf ((oo k_1).map _) = _; rw [ho_4]; rfl) ?_
      refine pw_astore_n (pc := 19) hX [(3, .ref (ad (6 + 4 * j_5))), (2, .int (nI (k_1))), (1, .int (nI (od_ct (cc_b oo os) (k_1)))), (0, .ref (ad 0))] dX1_completeCount_19 (by decide) rfl ?_
      refine pw_aload_n (pc := 20) hX dX1_completeCount_20 0 rfl ?_
      refine pw_ifnull (pc := 21) hX dX1_completeCount_21  ?_
      refine pw_aload_n (pc := 24) hX dX1_completeCount_24 0 rfl ?_
      refine pw_get (pc := 25) hX dX1_completeCount_25 (cw_o hc j_5 hj_5).1 rfl inT_0 1 (by decide) fl_RX1_69 rfl ?_
      refine pw_iconst (pc := 28) (v := 2) hX dX1_completeCount_28 (by decide) ?_
      refine pw_icmp_ne (pc := 29) hX 35 dX1_completeCount_29 (by decide) (fun hc_6 => ?_) (fun hc_6 => ?_)
      · refine pw_iinc (pc := 35) (v := nI ((k_1) + 1)) (j := 1) hX [(2, .int (nI ((k_1) + 1))), (3, .ref (ad (6 + 4 * j_5))), (1, .int (nI (od_ct (cc_b oo os) (k_1)))), (0, .ref (ad 0))] dX1_completeCount_35 rfl (nI_1 _) (by decide) rfl ?_
        refine pw_goto (pc := 38) hX 4 dX1_completeCount_38 (by decide) ?_
        rw [od_ct_f (b := cc_b oo os) (k := k_1) ((cc_bs ho_4).trans (decide_eq_false hc_6))] at ih_k_1
        exact pw_lv [0, 2, 3] _ rfl (ih_k_1)
      · refine pw_iinc (pc := 32) (v := nI ((od_ct (cc_b oo os) (k_1)) + 1)) (j := 2) hX [(1, .int (nI ((od_ct (cc_b oo os) (k_1)) + 1))), (3, .ref (ad (6 + 4 * j_5))), (2, .int (nI (k_1))), (0, .ref (ad 0))] dX1_completeCount_32 rfl (nI_1 _) (by decide) rfl ?_
        refine pw_iinc (pc := 35) (v := nI ((k_1) + 1)) (j := 2) hX [(2, .int (nI ((k_1) + 1))), (1, .int (nI ((od_ct (cc_b oo os) (k_1)) + 1))), (3, .ref (ad (6 + 4 * j_5))), (0, .ref (ad 0))] dX1_completeCount_35 rfl (nI_1 _) (by decide) rfl ?_
        refine pw_goto (pc := 38) hX 4 dX1_completeCount_38 (by decide) ?_
        rw [od_ct_t (b := cc_b oo os) (k := k_1) ((cc_bs ho_4).trans (decide_eq_true hc_6))] at ih_k_1
        exact pw_lv [0, 1, 3] _ rfl (ih_k_1)
set_option maxHeartbeats 4000000 in
set_option maxRecDepth 100000 in
theorem ct_completeByCell (l : Launch) (hl : l.stackTraces = false) (G : pw_G) (M : pw_M) (ad : Nat → Nat) (n oc : Nat) (td sd : Int32) (dk to er : Nat → Int32) (os pl : Nat → Int32) (oo : Nat → Option Nat) (wa pr de : Nat → Nat → Int32) (hc : cw G ad n oc td sd dk to er os pl oo wa pr de M) (x : Nat) (hx : x < 2 ^ 31) : pw_Met l yX1_completeByCell cX1_completeByCell 5 (some .int) 6 0 0 G [.ref (ad 0), .int (nI x)] M (fun v9 M9 => M = M9 ∧ ((∃ i j, i < n ∧ oo i = some j ∧ os j = 2 ∧ od_ct (cc_b oo os) i = x ∧ v9 = some (.int (nI j))) ∨ v9 = some (.int (-1)) ∧ ∀ i, i < n → cc_b oo os i = true → ¬ od_ct (cc_b oo os) i = x)) := by
  refine pw_of hl (by decide +kernel) (Nat.le_of_ble_eq_true rfl) [(0, .ref (ad 0)), (1, .int (nI x))] rfl ?_
  intro p9 e9 s9 m9 args9 below9 meth9 c9 hX hrt hmi
  generalize hQ9 : MQ below9 _ args9 s9 _ _ _ = Q9
  refine pw_iconst (pc := 0) (v := 0) hX dX1_completeByCell_0 (by decide) ?_
  refine pw_istore_n (pc := 1) hX [(2, .int 0), (0, .ref (ad 0)), (1, .int (nI x))] dX1_completeByCell_1 (by decide) rfl ?_
  refine pw_iconst (pc := 2) (v := 0) hX dX1_completeByCell_2 (by decide) ?_
  refine pw_istore_n (pc := 3) hX [(3, .int 0), (2, .int 0), (0, .ref (ad 0)), (1, .int (nI x))] dX1_completeByCell_3 (by decide) rfl ?_
  refine pw_lp (P := fun k_1 => (∀ i, i < k_1 → cc_b oo os i = true → ¬ od_ct (cc_b oo os) i = x) → pw_W p9 l e9 (pw_rm 6 0 0) s9 m9 args9 below9 meth9 c9 Q9 G 5 M 0 0 4 [(3, .int (nI (k_1))), (2, .int (nI (od_ct (cc_b oo os) (k_1)))), (0, .ref (ad 0)), (1, .int (nI x))] []) n ?_ ?_ 0 (Nat.zero_le _) (fun g hg => absurd hg (Nat.not_lt_zero g))
  · intro hy_k_1
    refine pw_iload_n (pc := 4) hX dX1_completeByCell_4 0 rfl ?_
    refine pw_aload_n (pc := 5) hX dX1_completeByCell_5 2 rfl ?_
    refine pw_get (pc := 6) hX dX1_completeByCell_6 hc.1 rfl inT_1 2 (by decide) fl_RX1_41 rfl ?_
    refine pw_alen2 (pc := 9) hX dX1_completeByCell_9 hc.2.2.1 rfl ?_
    refine pw_icmp_ge (pc := 10) hX 55 dX1_completeByCell_10 (by decide) (fun hc_2 => ?_) (fun hc_2 => absurd (Int32.le_refl _) hc_2)
    refine pw_iconst (pc := 55) (v := (-1)) hX dX1_completeByCell_55 (by decide) ?_
    subst hQ9
    exact pw_iret hX dX1_completeByCell_56 hrt ⟨by decide, by decide⟩ ⟨rfl, Or.inr ⟨rfl, hy_k_1⟩⟩
  · intro k_1 hk_1 ih_k_1
    intro hy_k_1
    refine pw_iload_n (pc := 4) hX dX1_completeByCell_4 0 rfl ?_
    refine pw_aload_n (pc := 5) hX dX1_completeByCell_5 2 rfl ?_
    refine pw_get (pc := 6) hX dX1_completeByCell_6 hc.1 rfl inT_1 2 (by decide) fl_RX1_41 rfl ?_
    refine pw_alen2 (pc := 9) hX dX1_completeByCell_9 hc.2.2.1 rfl ?_
    refine pw_icmp_ge (pc := 10) hX 55 dX1_completeByCell_10 (by decide) (fun hc_3 => absurd hc_3 (nI_ge (b := n) hk_1 (Nat.lt_of_le_of_lt (cw_n hc) (by decide)))) (fun hc_3 => ?_)
    refine pw_aload_n (pc := 13) hX dX1_completeByCell_13 2 rfl ?_
    refine pw_get (pc := 14) hX dX1_completeByCell_14 hc.1 rfl inT_1 2 (by decide) fl_RX1_41 rfl ?_
    refine pw_iload_n (pc := 17) hX dX1_completeByCell_17 0 rfl ?_
    refine pw_aald (pc := 18) (j := k_1) hX dX1_completeByCell_18 hc.2.2.1 hk_1 (Nat.lt_of_le_of_lt (cw_n hc) (by decide)) ?_
    rcases op_two (oo k_1) with ho_4 | ⟨j_5, ho_4⟩
    · refine pw_cg (vb := .null) (by show va_rf ((oo k_1).map _) = _; rw [ho_4]; rfl) ?_
      refine pw_astoreN (pc := 19) hX [(4, .null), (3, .int (nI (k_1))), (2, .int (nI (od_ct (cc_b oo os) (k_1)))), (0, .ref (ad 0)), (1, .int (nI x))] dX1_completeByCell_19 (by decide) rfl ?_
      refine pw_aloadN (pc := 21) hX dX1_completeByCell_21 0 rfl ?_
      refine pw_ifnullN (pc := 23) hX 49 dX1_completeByCell_23 (by decide) ?_
      refine pw_iinc (pc := 49) (v := nI ((k_1) + 1)) (j := 1) hX [(3, .int (nI ((k_1) + 1))), (4, .null), (2, .int (nI (od_ct (cc_b oo os) (k_1)))), (0, .ref (ad 0)), (1, .int (nI x))] dX1_completeByCell_49 rfl (nI_1 _) (by decide) rfl ?_
      refine pw_goto (pc := 52) hX 4 dX1_completeByCell_52 (by decide) ?_
      rw [od_ct_f (b := cc_b oo os) (k := k_1) (cc_bn ho_4)] at ih_k_1
      exact pw_lv [0, 2, 3, 4] _ rfl (ih_k_1 (lt_s hy_k_1 (fun h => by rw [cc_bn ho_4] at h; cases h)))
    · have hj_5 : j_5 < oc := cw_oo hc k_1 j_5 hk_1 ho_4
      refine pw_cg (vb := .ref (ad (6 + 4 * j_5))) (by show va_rf ((oo k_1).map _) = _; rw [ho_4]; rfl) ?_
      refine pw_astore (pc := 19) hX [(4, .ref (ad (6 + 4 * j_5))), (3, .int (nI (k_1))), (2, .int (nI (od_ct (cc_b oo os) (k_1)))), (0, .ref (ad 0)), (1, .int (nI x))] dX1_completeByCell_19 (by decide) rfl ?_
      refine pw_aload (pc := 21) hX dX1_completeByCell_21 0 rfl ?_
      refine pw_ifnull (pc := 23) hX dX1_completeByCell_23  ?_
      refine pw_aload (pc := 26) hX dX1_completeByCell_26 0 rfl ?_
      refine pw_get (pc := 28) hX dX1_completeByCell_28 (cw_o hc j_5 hj_5).1 rfl inT_0 1 (by decide) fl_RX1_69 rfl ?_
      refine pw_iconst (pc := 31) (v := 2) hX dX1_completeByCell_31 (by decide) ?_
      refine pw_icmp_ne (pc := 32) hX 49 dX1_completeByCell_32 (by decide) (fun hc_6 => ?_) (fun hc_6 => ?_)
      · refine pw_iinc (pc := 49) (v := nI ((k_1) + 1)) (j := 1) hX [(3, .int (nI ((k_1) + 1))), (4, .ref (ad (6 + 4 * j_5))), (2, .int (nI (od_ct (cc_b oo os) (k_1)))), (0, .ref (ad 0)), (1, .int (nI x))] dX1_completeByCell_49 rfl (nI_1 _) (by decide) rfl ?_
        refine pw_goto (pc := 52) hX 4 dX1_completeByCell_52 (by decide) ?_
        rw [od_ct_f (b := cc_b oo os) (k := k_1) ((cc_bs ho_4).trans (decide_eq_false hc_6))] at ih_k_1
        exact pw_lv [0, 2, 3, 4] _ rfl (ih_k_1 (lt_s hy_k_1 (fun h => absurd (of_decide_eq_true ((cc_bs ho_4).symm.trans h)) hc_6)))
      · refine pw_iload_n (pc := 35) hX dX1_completeByCell_35 2 rfl ?_
        refine pw_iload_n (pc := 36) hX dX1_completeByCell_36 4 rfl ?_
        refine pw_icmp_ne (pc := 37) hX 46 dX1_completeByCell_37 (by decide) (fun hc_7 => ?_) (fun hc_7 => ?_)
        · refine pw_iinc (pc := 46) (v := nI ((od_ct (cc_b oo os) (k_1)) + 1)) (j := 2) hX [(2, .int (nI ((od_ct (cc_b oo os) (k_1)) + 1))), (4, .ref (ad (6 + 4 * j_5))), (3, .int (nI (k_1))), (0, .ref (ad 0)), (1, .int (nI x))] dX1_completeByCell_46 rfl (nI_1 _) (by decide) rfl ?_
          refine pw_iinc (pc := 49) (v := nI ((k_1) + 1)) (j := 2) hX [(3, .int (nI ((k_1) + 1))), (2, .int (nI ((od_ct (cc_b oo os) (k_1)) + 1))), (4, .ref (ad (6 + 4 * j_5))), (0, .ref (ad 0)), (1, .int (nI x))] dX1_completeByCell_49 rfl (nI_1 _) (by decide) rfl ?_
          refine pw_goto (pc := 52) hX 4 dX1_completeByCell_52 (by decide) ?_
          rw [od_ct_t (b := cc_b oo os) (k := k_1) ((cc_bs ho_4).trans (decide_eq_true hc_6))] at ih_k_1
          exact pw_lv [0, 1, 3, 4] _ rfl (ih_k_1 (lt_s hy_k_1 (fun _ h => hc_7 (by rw [h]))))
        · refine pw_aload (pc := 40) hX dX1_completeByCell_40 0 rfl ?_
          refine pw_get (pc := 42) hX dX1_completeByCell_42 (cw_o hc j_5 hj_5).1 rfl inT_0 0 (by decide) fl_RX1_183 rfl ?_
          subst hQ9
          exact pw_iret hX dX1_completeByCell_45 hrt ⟨by decide, by decide⟩ ⟨rfl, Or.inl ⟨k_1, j_5, hk_1, ho_4, hc_6, (nI_eq (Nat.lt_of_le_of_lt (od_ct_le _ _) (Nat.lt_trans hk_1 (Nat.lt_of_le_of_lt (cw_n hc) (by decide)))) hx).mp hc_7, rfl⟩⟩
set_option maxHeartbeats 4000000 in
set_option maxRecDepth 100000 in
theorem ct_freeCells (l : Launch) (hl : l.stackTraces = false) (G : pw_G) (M : pw_M) (ad : Nat → Nat) (n oc : Nat) (td sd : Int32) (dk to er : Nat → Int32) (os pl : Nat → Int32) (oo : Nat → Option Nat) (wa pr de : Nat → Nat → Int32) (hc : cw G ad n oc td sd dk to er os pl oo wa pr de M) : pw_Met l yX1_freeCells cX1_freeCells 3 (some .int) 6 0 0 G [.ref (ad 0)] M (fun v9 M9 => M = M9 ∧ v9 = some (.int (nI (od_ct (cc_f oo) n)))) := by
  refine pw_of hl (by decide +kernel) (Nat.le_of_ble_eq_true rfl) [(0, .ref (ad 0))] rfl ?_
  intro p9 e9 s9 m9 args9 below9 meth9 c9 hX hrt hmi
  generalize hQ9 : MQ below9 _ args9 s9 _ _ _ = Q9
  refine pw_iconst (pc := 0) (v := 0) hX dX1_freeCells_0 (by decide) ?_
  refine pw_istore_n (pc := 1) hX [(1, .int 0), (0, .ref (ad 0))] dX1_freeCells_1 (by decide) rfl ?_
  refine pw_iconst (pc := 2) (v := 0) hX dX1_freeCells_2 (by decide) ?_
  refine pw_istore_n (pc := 3) hX [(2, .int 0), (1, .int 0), (0, .ref (ad 0))] dX1_freeCells_3 (by decide) rfl ?_
  refine pw_lp (P := fun k_1 => pw_W p9 l e9 (pw_rm 6 0 0) s9 m9 args9 below9 meth9 c9 Q9 G 3 M 0 0 4 [(2, .int (nI (k_1))), (1, .int (nI (od_ct (cc_f oo) (k_1)))), (0, .ref (ad 0))] []) n ?_ ?_ 0 (Nat.zero_le _)
  · refine pw_iload_n (pc := 4) hX dX1_freeCells_4 0 rfl ?_
    refine pw_aload_n (pc := 5) hX dX1_freeCells_5 2 rfl ?_
    refine pw_get (pc := 6) hX dX1_freeCells_6 hc.1 rfl inT_1 2 (by decide) fl_RX1_41 rfl ?_
    refine pw_alen2 (pc := 9) hX dX1_freeCells_9 hc.2.2.1 rfl ?_
    refine pw_icmp_ge (pc := 10) hX 31 dX1_freeCells_10 (by decide) (fun hc_2 => ?_) (fun hc_2 => absurd (Int32.le_refl _) hc_2)
    refine pw_iload_n (pc := 31) hX dX1_freeCells_31 1 rfl ?_
    subst hQ9
    exact pw_iret hX dX1_freeCells_32 hrt ⟨by decide, by decide⟩ ⟨rfl, rfl⟩
  · intro k_1 hk_1 ih_k_1
    refine pw_iload_n (pc := 4) hX dX1_freeCells_4 0 rfl ?_
    refine pw_aload_n (pc := 5) hX dX1_freeCells_5 2 rfl ?_
    refine pw_get (pc := 6) hX dX1_freeCells_6 hc.1 rfl inT_1 2 (by decide) fl_RX1_41 rfl ?_
    refine pw_alen2 (pc := 9) hX dX1_freeCells_9 hc.2.2.1 rfl ?_
    refine pw_icmp_ge (pc := 10) hX 31 dX1_freeCells_10 (by decide) (fun hc_3 => absurd hc_3 (nI_ge (b := n) hk_1 (Nat.lt_of_le_of_lt (cw_n hc) (by decide)))) (fun hc_3 => ?_)
    refine pw_aload_n (pc := 13) hX dX1_freeCells_13 2 rfl ?_
    refine pw_get (pc := 14) hX dX1_freeCells_14 hc.1 rfl inT_1 2 (by decide) fl_RX1_41 rfl ?_
    refine pw_iload_n (pc := 17) hX dX1_freeCells_17 0 rfl ?_
    refine pw_aald (pc := 18) (j := k_1) hX dX1_freeCells_18 hc.2.2.1 hk_1 (Nat.lt_of_le_of_lt (cw_n hc) (by decide)) ?_
    rcases op_two (oo k_1) with ho_4 | ⟨j_5, ho_4⟩
    · refine pw_cg (vb := .null) (by show va_rf ((oo k_1).map _) = _; rw [ho_4]; rfl) ?_
      refine pw_ifnonnullN (pc := 19) hX dX1_freeCells_19  ?_
      refine pw_iinc (pc := 22) (v := nI ((od_ct (cc_f oo) (k_1)) + 1)) (j := 1) hX [(1, .int (nI ((od_ct (cc_f oo) (k_1)) + 1))), (2, .int (nI (k_1))), (0, .ref (ad 0))] dX1_freeCells_22 rfl (nI_1 _) (by decide) rfl ?_
      refine pw_iinc (pc := 25) (v := nI ((k_1) + 1)) (j := 1) hX [(2, .int (nI ((k_1) + 1))), (1, .int (nI ((od_ct (cc_f oo) (k_1)) + 1))), (0, .ref (ad 0))] dX1_freeCells_25 rfl (nI_1 _) (by decide) rfl ?_
      refine pw_goto (pc := 28) hX 4 dX1_freeCells_28 (by decide) ?_
      rw [od_ct_t (b := cc_f oo) (k := k_1) (by unfold cc_f; rw [ho_4]; rfl)] at ih_k_1
      exact pw_lv [0, 1, 2] _ rfl (ih_k_1)
    · have hj_5 : j_5 < oc := cw_oo hc k_1 j_5 hk_1 ho_4
      refine pw_cg (vb := .ref (ad (6 + 4 * j_5))) (by show va_rf ((oo k_1).map _) = _; rw [ho_4]; rfl) ?_
      refine pw_ifnonnull (pc := 19) hX 25 dX1_freeCells_19 (by decide) ?_
      refine pw_iinc (pc := 25) (v := nI ((k_1) + 1)) (j := 0) hX [(2, .int (nI ((k_1) + 1))), (1, .int (nI (od_ct (cc_f oo) (k_1)))), (0, .ref (ad 0))] dX1_freeCells_25 rfl (nI_1 _) (by decide) rfl ?_
      refine pw_goto (pc := 28) hX 4 dX1_freeCells_28 (by decide) ?_
      rw [od_ct_f (b := cc_f oo) (k := k_1) (by unfold cc_f; rw [ho_4]; rfl)] at ih_k_1
      exact pw_lv [0, 1, 2] _ rfl (ih_k_1)
set_option maxHeartbeats 4000000 in
set_option maxRecDepth 100000 in
theorem ct_piecesInCells (l : Launch) (hl : l.stackTraces = false) (G : pw_G) (M : pw_M) (ad : Nat → Nat) (n oc : Nat) (td sd : Int32) (dk to er : Nat → Int32) (os pl : Nat → Int32) (oo : Nat → Option Nat) (wa pr de : Nat → Nat → Int32) (hc : cw G ad n oc td sd dk to er os pl oo wa pr de M) : pw_Met l yX1_piecesInCells cX1_piecesInCells 4 (some .int) 4 0 0 G [.ref (ad 0)] M (fun v9 M9 => M = M9 ∧ v9 = some (.int (bx_sum (cc_s oo pr) n))) := by
  refine pw_of hl (by decide +kernel) (Nat.le_of_ble_eq_true rfl) [(0, .ref (ad 0))] rfl ?_
  intro p9 e9 s9 m9 args9 below9 meth9 c9 hX hrt hmi
  generalize hQ9 : MQ below9 _ args9 s9 _ _ _ = Q9
  refine pw_iconst (pc := 0) (v := 0) hX dX1_piecesInCells_0 (by decide) ?_
  refine pw_istore_n (pc := 1) hX [(1, .int 0), (0, .ref (ad 0))] dX1_piecesInCells_1 (by decide) rfl ?_
  refine pw_iconst (pc := 2) (v := 0) hX dX1_piecesInCells_2 (by decide) ?_
  refine pw_istore_n (pc := 3) hX [(2, .int 0), (1, .int 0), (0, .ref (ad 0))] dX1_piecesInCells_3 (by decide) rfl ?_
  refine pw_lp (P := fun k_1 => pw_W p9 l e9 (pw_rm 4 0 0) s9 m9 args9 below9 meth9 c9 Q9 G 4 M 0 0 4 [(2, .int (nI (k_1))), (1, .int (bx_sum (cc_s oo pr) (k_1))), (0, .ref (ad 0))] []) n ?_ ?_ 0 (Nat.zero_le _)
  · refine pw_iload_n (pc := 4) hX dX1_piecesInCells_4 0 rfl ?_
    refine pw_aload_n (pc := 5) hX dX1_piecesInCells_5 2 rfl ?_
    refine pw_get (pc := 6) hX dX1_piecesInCells_6 hc.1 rfl inT_1 2 (by decide) fl_RX1_41 rfl ?_
    refine pw_alen2 (pc := 9) hX dX1_piecesInCells_9 hc.2.2.1 rfl ?_
    refine pw_icmp_ge (pc := 10) hX 37 dX1_piecesInCells_10 (by decide) (fun hc_2 => ?_) (fun hc_2 => absurd (Int32.le_refl _) hc_2)
    refine pw_iload_n (pc := 37) hX dX1_piecesInCells_37 1 rfl ?_
    subst hQ9
    exact pw_iret hX dX1_piecesInCells_38 hrt ⟨by decide, by decide⟩ ⟨rfl, rfl⟩
  · intro k_1 hk_1 ih_k_1
    refine pw_iload_n (pc := 4) hX dX1_piecesInCells_4 0 rfl ?_
    refine pw_aload_n (pc := 5) hX dX1_piecesInCells_5 2 rfl ?_
    refine pw_get (pc := 6) hX dX1_piecesInCells_6 hc.1 rfl inT_1 2 (by decide) fl_RX1_41 rfl ?_
    refine pw_alen2 (pc := 9) hX dX1_piecesInCells_9 hc.2.2.1 rfl ?_
    refine pw_icmp_ge (pc := 10) hX 37 dX1_piecesInCells_10 (by decide) (fun hc_3 => absurd hc_3 (nI_ge (b := n) hk_1 (Nat.lt_of_le_of_lt (cw_n hc) (by decide)))) (fun hc_3 => ?_)
    refine pw_aload_n (pc := 13) hX dX1_piecesInCells_13 2 rfl ?_
    refine pw_get (pc := 14) hX dX1_piecesInCells_14 hc.1 rfl inT_1 2 (by decide) fl_RX1_41 rfl ?_
    refine pw_iload_n (pc := 17) hX dX1_piecesInCells_17 0 rfl ?_
    refine pw_aald (pc := 18) (j := k_1) hX dX1_piecesInCells_18 hc.2.2.1 hk_1 (Nat.lt_of_le_of_lt (cw_n hc) (by decide)) ?_
    rcases op_two (oo k_1) with ho_4 | ⟨j_5, ho_4⟩
    · refine pw_cg (vb := .null) (by show va_rf ((oo k_1).map _) = _; rw [ho_4]; rfl) ?_
      refine pw_astore_nN (pc := 19) hX [(3, .null), (2, .int (nI (k_1))), (1, .int (bx_sum (cc_s oo pr) (k_1))), (0, .ref (ad 0))] dX1_piecesInCells_19 (by decide) rfl ?_
      refine pw_aload_nN (pc := 20) hX dX1_piecesInCells_20 0 rfl ?_
      refine pw_ifnullN (pc := 21) hX 31 dX1_piecesInCells_21 (by decide) ?_
      refine pw_iinc (pc := 31) (v := nI ((k_1) + 1)) (j := 1) hX [(2, .int (nI ((k_1) + 1))), (3, .null), (1, .int (bx_sum (cc_s oo pr) (k_1))), (0, .ref (ad 0))] dX1_piecesInCells_31 rfl (nI_1 _) (by decide) rfl ?_
      refine pw_goto (pc := 34) hX 4 dX1_piecesInCells_34 (by decide) ?_
      rw [show bx_sum (cc_s oo pr) (k_1 + 1) = bx_sum (cc_s oo pr) k_1 from by show _ + cc_s oo pr k_1 = _; rw [cc_sn ho_4, Int32.add_zero]] at ih_k_1
      exact pw_lv [0, 2, 3] _ rfl (ih_k_1)
    · have hj_5 : j_5 < oc := cw_oo hc k_1 j_5 hk_1 ho_4
      refine pw_cg (vb := .ref (ad (6 + 4 * j_5))) (by show va_rf ((oo k_1).map _) = _; rw [ho_4]; rfl) ?_
      refine pw_astore_n (pc := 19) hX [(3, .ref (ad (6 + 4 * j_5))), (2, .int (nI (k_1))), (1, .int (bx_sum (cc_s oo pr) (k_1))), (0, .ref (ad 0))] dX1_piecesInCells_19 (by decide) rfl ?_
      refine pw_aload_n (pc := 20) hX dX1_piecesInCells_20 0 rfl ?_
      refine pw_ifnull (pc := 21) hX dX1_piecesInCells_21  ?_
      refine pw_iload_n (pc := 24) hX dX1_piecesInCells_24 2 rfl ?_
      refine pw_aload_n (pc := 25) hX dX1_piecesInCells_25 0 rfl ?_
      refine pw_callV (pc := 26) (st := [.int (bx_sum (cc_s oo pr) (k_1))]) hX (ct_allPresent l hl G M (ad (6 + 4 * j_5)) (ad (7 + 4 * j_5)) (ad (8 + 4 * j_5)) (ad (9 + 4 * j_5)) (nI j_5) (os j_5) (pl j_5) (wa j_5) (pr j_5) (de j_5) (cw_o hc j_5 hj_5)) (cw_o hc j_5 hj_5).1 rfl ok_X0_allPresent lk_RX1_141 dX1_piecesInCells_26 rfl ⟨⟨by decide, by decide⟩, Nat.le_of_ble_eq_true rfl, Nat.le_of_ble_eq_true rfl, Nat.le_of_ble_eq_true rfl⟩ rfl (fun v9 M9 hp9 => ?_)
      obtain ⟨rfl, rfl⟩ := hp9
      refine pw_iadd (pc := 29) (z := bx_sum (cc_s oo pr) (k_1 + 1)) hX dX1_piecesInCells_29 (by show _ = _ + cc_s oo pr _; rw [cc_ss ho_4]) ?_
      refine pw_istore_n (pc := 30) hX [(1, .int (bx_sum (cc_s oo pr) (k_1 + 1))), (3, .ref (ad (6 + 4 * j_5))), (2, .int (nI (k_1))), (0, .ref (ad 0))] dX1_piecesInCells_30 (by decide) rfl ?_
      refine pw_iinc (pc := 31) (v := nI ((k_1) + 1)) (j := 2) hX [(2, .int (nI ((k_1) + 1))), (1, .int (bx_sum (cc_s oo pr) (k_1 + 1))), (3, .ref (ad (6 + 4 * j_5))), (0, .ref (ad 0))] dX1_piecesInCells_31 rfl (nI_1 _) (by decide) rfl ?_
      refine pw_goto (pc := 34) hX 4 dX1_piecesInCells_34 (by decide) ?_
      exact pw_lv [0, 1, 3] _ rfl (ih_k_1)
