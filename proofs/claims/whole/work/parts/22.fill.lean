theorem ct_find (b : Nat → Bool) : ∀ (n x : Nat), x < od_ct b n → ∃ i, i < n ∧ b i = true ∧ od_ct b i = x
  | 0, x, h => absurd h (Nat.not_lt_zero x)
  | n + 1, x, h => by
    by_cases hx : x < od_ct b n
    · obtain ⟨i, h1, h2, h3⟩ := ct_find b n x hx
      exact ⟨i, Nat.lt_succ_of_lt h1, h2, h3⟩
    · cases hb : b n with
      | false => rw [od_ct_f hb] at h; exact absurd h hx
      | true => rw [od_ct_t hb] at h; exact ⟨n, Nat.lt_succ_self n, hb, by omega⟩
theorem fi_s {f : Nat → Int32} {v : Int32} {k : Nat} (h : ∀ i, i < k → f i = v) : ∀ i, i < k + 1 → upd f k v i = v := by
  intro i hi
  by_cases hik : i = k
  · subst hik; exact if_pos rfl
  · exact (if_neg hik).trans (h i (by omega))
set_option maxHeartbeats 4000000 in
set_option maxRecDepth 100000 in
theorem cp_sample (l : Launch) (hl : l.stackTraces = false) (G : pw_G) (M : pw_M) (ad : Nat → Nat) (n oc : Nat) (td : Int32) (sn : Nat) (hsn : sn < 2 ^ 31) (dk to er : Nat → Int32) (os pl : Nat → Int32) (oo : Nat → Option Nat) (wa pr de : Nat → Nat → Int32) (hc : cw G ad n oc td (nI sn) dk to er os pl oo wa pr de M) : pw_Met l yX1_sample cX1_sample 2 (some .int) 3 0 0 G [.ref (ad 0)] M (fun v9 M9 => (od_ct (cc_b oo os) n = 0 ∧ v9 = some (.int (-1)) ∧ M = M9 ∨ 0 < od_ct (cc_b oo os) n ∧ cw G ad n oc td (nI (sd_n sn)) dk to er os pl oo wa pr de M9 ∧ ∃ i j, i < n ∧ oo i = some j ∧ os j = 2 ∧ od_ct (cc_b oo os) i = sd_n sn / 65536 % od_ct (cc_b oo os) n ∧ v9 = some (.int (nI j))) ∧ fm ad (6 + 4 * oc) M M9) := by
  refine pw_of hl (by decide +kernel) (Nat.le_of_ble_eq_true rfl) [(0, .ref (ad 0))] rfl ?_
  intro p9 e9 s9 m9 args9 below9 meth9 c9 hX hrt hmi
  refine pw_aload_n (pc := 0) hX dX1_sample_0 0 rfl ?_
  refine pw_callV (pc := 1) (st := []) hX (ct_completeCount l hl G M ad n oc td (nI sn) dk to er os pl oo wa pr de hc) hc.1 rfl ok_X1_completeCount lk_RX1_127 dX1_sample_1 rfl ⟨⟨by decide, by decide⟩, Nat.le_of_ble_eq_true rfl, Nat.le_of_ble_eq_true rfl, Nat.le_of_ble_eq_true rfl⟩ rfl (fun v9 M9 hp9 => ?_)
  obtain ⟨rfl, rfl⟩ := hp9
  refine pw_istore_n (pc := 4) hX [(1, .int (nI (od_ct (cc_b oo os) n))), (0, .ref (ad 0))] dX1_sample_4 (by decide) rfl ?_
  refine pw_iload_n (pc := 5) hX dX1_sample_5 0 rfl ?_
  refine pw_if_ne (pc := 6) hX 11 dX1_sample_6 (by decide) (fun hc_1 => ?_) (fun hc_1 => ?_)
  · have hct : 0 < od_ct (cc_b oo os) n := Nat.pos_of_ne_zero (fun h => hc_1 (by rw [h]; rfl))
    refine pw_aload_n (pc := 11) hX dX1_sample_11 1 rfl ?_
    refine pw_aload_n (pc := 12) hX dX1_sample_12 1 rfl ?_
    refine pw_get (pc := 13) hX dX1_sample_13 hc.1 rfl inT_1 7 (by decide) fl_RX1_29 rfl ?_
    refine pw_i2l (pc := 16) (v := lN sn) hX dX1_sample_16 (nI_l hsn) ?_
    refine pw_ldc2 (pc := 17) (v := 1103515245) hX dX1_sample_17 cl_RX1_130 ?_
    refine pw_lmul (pc := 20) (z := lN (sn * 1103515245)) hX dX1_sample_20 (lN_mul sn 1103515245) ?_
    refine pw_ldc2 (pc := 21) (v := 12345) hX dX1_sample_21 cl_RX1_132 ?_
    refine pw_ladd (pc := 24) (z := lN (sn * 1103515245 + 12345)) hX dX1_sample_24 (lN_add _ 12345) ?_
    refine pw_ldc2 (pc := 25) (v := 2147483648) hX dX1_sample_25 cl_RX1_134 ?_
    refine pw_lrem (pc := 28) (z := lN (sd_n sn)) hX dX1_sample_28 (by decide) (pk_lRem (a := sn * 1103515245 + 12345) (b := 2147483648) (by omega) (by decide) (by decide)) ?_
    refine pw_l2i (pc := 29) (v := nI (sd_n sn)) hX dX1_sample_29 (lN_i _) ?_
    refine pw_put (pc := 30) (v := .int (nI (sd_n sn))) hX dX1_sample_30 hc.1 rfl inT_1 tyX1 tyX1_ok nmX1 7 (by decide) fl_RX1_29 rfl (tyX1_ok 7 (by decide)) rfl rfl (Nat.le_of_ble_eq_true rfl) [.ref (ad 1), .int (nI oc), .ref (ad 2), .ref (ad 3), .ref (ad 4), .ref (ad 5), .int td, .int (nI (sd_n sn))] rfl ?_
    have hm_2 := pw_ke (a := ad 0) (e := .inr (1, [.ref (ad 1), .int (nI oc), .ref (ad 2), .ref (ad 3), .ref (ad 4), .ref (ad 5), .int td, .int (nI (sd_n sn))])) hc.2.1 (cw_ne hc (x := 1) (y := 0) (by omega) (by omega) (by omega))
    have hm_3 := pw_ke (a := ad 0) (e := .inr (1, [.ref (ad 1), .int (nI oc), .ref (ad 2), .ref (ad 3), .ref (ad 4), .ref (ad 5), .int td, .int (nI (sd_n sn))])) hc.2.2.1 (cw_ne hc (x := 2) (y := 0) (by omega) (by omega) (by omega))
    have hm_4 := pw_ke (a := ad 0) (e := .inr (1, [.ref (ad 1), .int (nI oc), .ref (ad 2), .ref (ad 3), .ref (ad 4), .ref (ad 5), .int td, .int (nI (sd_n sn))])) hc.2.2.2.1 (cw_ne hc (x := 3) (y := 0) (by omega) (by omega) (by omega))
    have hm_5 := pw_ke (a := ad 0) (e := .inr (1, [.ref (ad 1), .int (nI oc), .ref (ad 2), .ref (ad 3), .ref (ad 4), .ref (ad 5), .int td, .int (nI (sd_n sn))])) hc.2.2.2.2.1 (cw_ne hc (x := 4) (y := 0) (by omega) (by omega) (by omega))
    have hm_6 := pw_ke (a := ad 0) (e := .inr (1, [.ref (ad 1), .int (nI oc), .ref (ad 2), .ref (ad 3), .ref (ad 4), .ref (ad 5), .int td, .int (nI (sd_n sn))])) hc.2.2.2.2.2.1 (cw_ne hc (x := 5) (y := 0) (by omega) (by omega) (by omega))
    have hm_7 : pw_up M (ad 0) (.inr (1, [.ref (ad 1), .int (nI oc), .ref (ad 2), .ref (ad 3), .ref (ad 4), .ref (ad 5), .int td, .int (nI (sd_n sn))])) (ad 0) = some (.inr (1, [.ref (ad 1), .int (nI oc), .ref (ad 2), .ref (ad 3), .ref (ad 4), .ref (ad 5), .int td, .int (nI (sd_n sn))])) := pw_us
    refine pw_aload_n (pc := 33) hX dX1_sample_33 1 rfl ?_
    refine pw_aload_n (pc := 34) hX dX1_sample_34 1 rfl ?_
    refine pw_get (pc := 35) hX dX1_sample_35 hm_7 rfl inT_1 7 (by decide) fl_RX1_29 rfl ?_
    refine pw_ldc (pc := 38) (v := 65536) hX dX1_sample_38 ck_RX1_136 ?_
    refine pw_idiv (pc := 40) (z := nI (sd_n sn / 65536)) hX dX1_sample_40 (by decide) (pk_div (d := 65536) (sd_lt sn) (by decide) (by decide)) ?_
    refine pw_iload_n (pc := 41) hX dX1_sample_41 0 rfl ?_
    refine pw_irem (pc := 42) (z := nI (sd_n sn / 65536 % od_ct (cc_b oo os) n)) hX dX1_sample_42 (fun h => absurd hct (by rw [(nI_eq (b := 0) (Nat.lt_of_le_of_lt (od_ct_le _ _) (Nat.lt_of_le_of_lt (cw_n hc) (by decide))) (by decide)).mp h]; decide)) (pk_rem (Nat.lt_of_le_of_lt (Nat.div_le_self _ _) (sd_lt sn)) hct (Nat.lt_of_le_of_lt (od_ct_le _ _) (Nat.lt_of_le_of_lt (cw_n hc) (by decide)))) ?_
    refine pw_callV (pc := 43) (st := []) hX (ct_completeByCell l hl G (pw_up M (ad 0) (.inr (1, [.ref (ad 1), .int (nI oc), .ref (ad 2), .ref (ad 3), .ref (ad 4), .ref (ad 5), .int td, .int (nI (sd_n sn))]))) ad n oc td (nI (sd_n sn)) dk to er os pl oo wa pr de (cw_sd hc (nI (sd_n sn))) (sd_n sn / 65536 % od_ct (cc_b oo os) n) (Nat.lt_of_le_of_lt (Nat.mod_le _ _) (Nat.lt_of_le_of_lt (Nat.div_le_self _ _) (sd_lt sn)))) hm_7 rfl ok_X1_completeByCell lk_RX1_137 dX1_sample_43 rfl ⟨⟨by decide, by decide⟩, Nat.le_of_ble_eq_true rfl, Nat.le_of_ble_eq_true rfl, Nat.le_of_ble_eq_true rfl⟩ rfl (fun v9 M9 hp9 => ?_)
    obtain ⟨rfl, ⟨i, j, hi, hoi, hj2, hsi, rfl⟩ | ⟨rfl, hno⟩⟩ := hp9
    rotate_left
    · obtain ⟨i, h1, h2, h3⟩ := ct_find (cc_b oo os) n (sd_n sn / 65536 % od_ct (cc_b oo os) n) (Nat.mod_lt _ hct)
      exact absurd h3 (hno i h1 h2)
    exact pw_iret hX dX1_sample_46 hrt ⟨by decide, by decide⟩ ⟨Or.inr ⟨hct, (cw_sd hc _), i, j, hi, hoi, hj2, hsi, rfl⟩, (fm_up fm_rf (x := 0) (by omega) _)⟩
  · refine pw_iconst (pc := 9) (v := (-1)) hX dX1_sample_9 (by decide) ?_
    exact pw_iret hX dX1_sample_10 hrt ⟨by decide, by decide⟩ ⟨Or.inl ⟨(nI_eq (b := 0) (Nat.lt_of_le_of_lt (od_ct_le _ _) (Nat.lt_of_le_of_lt (cw_n hc) (by decide))) (by decide)).mp hc_1, rfl, rfl⟩, fm_rf⟩
set_option maxHeartbeats 4000000 in
set_option maxRecDepth 100000 in
theorem ct_fill (l : Launch) (hl : l.stackTraces = false) (G : pw_G) (M : pw_M) (x n : Nat) (f : Nat → Int32) (hx : M x = some (.inl (G.2.2.1 0, n, .inl f))) (hn : n ≤ 1000) (v : Int32) : pw_Met l yJ7_fill_53178 cJ7_fill_53178 4 none 6 0 0 G [.ref x, .int v] M (fun v9 M9 => v9 = none ∧ ∃ f9 : Nat → Int32, (∀ i, i < n → f9 i = v) ∧ M9 x = some (.inl (G.2.2.1 0, n, .inl f9)) ∧ ∀ q, q ≠ x → M9 q = M q) := by
  refine pw_of hl (by decide +kernel) (Nat.le_of_ble_eq_true rfl) [(0, .ref x), (1, .int v)] rfl ?_
  intro p9 e9 s9 m9 args9 below9 meth9 c9 hX hrt hmi
  generalize hQ9 : MQ below9 _ args9 s9 _ _ _ = Q9
  refine pw_iconst (pc := 0) (v := 0) hX dJ7_fill_53178_0 (by decide) ?_
  refine pw_istore_n (pc := 1) hX [(2, .int 0), (0, .ref x), (1, .int v)] dJ7_fill_53178_1 (by decide) rfl ?_
  refine pw_aload_n (pc := 2) hX dJ7_fill_53178_2 1 rfl ?_
  refine pw_alen0 (pc := 3) hX dJ7_fill_53178_3 hx rfl ?_
  refine pw_istore_n (pc := 4) hX [(3, .int (nI n)), (2, .int 0), (0, .ref x), (1, .int v)] dJ7_fill_53178_4 (by decide) rfl ?_
  refine pw_lp (P := fun k_1 => ∀ (Mk : pw_M) (fk : Nat → Int32), Mk x = some (.inl (G.2.2.1 0, n, .inl fk)) → (∀ i, i < k_1 → fk i = v) → (∀ q, q ≠ x → Mk q = M q) → pw_W p9 l e9 (pw_rm 6 0 0) s9 m9 args9 below9 meth9 c9 Q9 G 4 Mk 0 0 5 [(3, .int (nI n)), (2, .int (nI (k_1))), (0, .ref x), (1, .int v)] []) n ?_ ?_ 0 (Nat.zero_le _) M f hx (fun i hi => absurd hi (Nat.not_lt_zero i)) (fun _ _ => rfl)
  · intro Mk fk hMk hfk hok
    refine pw_iload_n (pc := 5) hX dJ7_fill_53178_5 1 rfl ?_
    refine pw_iload_n (pc := 6) hX dJ7_fill_53178_6 0 rfl ?_
    refine pw_icmp_ge (pc := 7) hX 20 dJ7_fill_53178_7 (by decide) (fun hc_2 => ?_) (fun hc_2 => absurd (Int32.le_refl _) hc_2)
    subst hQ9
    exact pw_vret hX dJ7_fill_53178_20 hrt ⟨by decide, by decide⟩ ⟨rfl, fk, hfk, hMk, hok⟩
  · intro k_1 hk_1 ih_k_1
    intro Mk fk hMk hfk hok
    refine pw_iload_n (pc := 5) hX dJ7_fill_53178_5 1 rfl ?_
    refine pw_iload_n (pc := 6) hX dJ7_fill_53178_6 0 rfl ?_
    refine pw_icmp_ge (pc := 7) hX 20 dJ7_fill_53178_7 (by decide) (fun hc_3 => absurd hc_3 (nI_ge (b := n) hk_1 (by omega))) (fun hc_3 => ?_)
    refine pw_aload_n (pc := 10) hX dJ7_fill_53178_10 2 rfl ?_
    refine pw_iload_n (pc := 11) hX dJ7_fill_53178_11 1 rfl ?_
    refine pw_iload_n (pc := 12) hX dJ7_fill_53178_12 3 rfl ?_
    refine pw_iast (pc := 13) (j := k_1) hX dJ7_fill_53178_13 hMk hk_1 (by omega) ?_
    have hm_4 : pw_up Mk x (.inl (G.2.2.1 0, n, .inl (upd fk k_1 v))) x = some (.inl (G.2.2.1 0, n, .inl (upd fk k_1 v))) := pw_us
    refine pw_iinc (pc := 14) (v := nI ((k_1) + 1)) (j := 1) hX [(2, .int (nI ((k_1) + 1))), (3, .int (nI n)), (0, .ref x), (1, .int v)] dJ7_fill_53178_14 rfl (nI_1 _) (by decide) rfl ?_
    refine pw_goto (pc := 17) hX 5 dJ7_fill_53178_17 (by decide) ?_
    exact pw_lv [1, 0, 2, 3] _ rfl (ih_k_1 _ (upd fk k_1 v) hm_4 (fi_s hfk) (fun q hq => (pw_un hq).trans (hok q hq)))
