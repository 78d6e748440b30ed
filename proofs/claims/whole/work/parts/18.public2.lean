theorem sc_2 {x w p s t : Int32} (h : ¬ x = 0) : sc_r x w p s t = -2 := pc_t h
theorem sc_3 {x w p s t : Int32} (h : x = 0) (h2 : ¬ 0 < w) : sc_r x w p s t = -3 := by unfold sc_r; rw [pc_f (fun z => z h), pc_t h2]
theorem sc_4 {x w p s t : Int32} (h : x = 0) (h2 : 0 < w) (h3 : w - p = 0 ∨ s = 2) : sc_r x w p s t = -4 := by unfold sc_r; rw [pc_f (fun z => z h), pc_f (fun z => z h2), pc_t h3]
theorem sc_5 {x w p s t : Int32} (h : x = 0) (h2 : 0 < w) (h3 : ¬ w - p = 0) (h4 : ¬ s = 2) (h5 : t = 0) : sc_r x w p s t = -5 := by unfold sc_r; rw [pc_f (fun z => z h), pc_f (fun z => z h2), pc_f (fun z => z.elim h3 h4), pc_t h5]
theorem sc_1 {x w p s t : Int32} (h : x = 0) (h2 : 0 < w) (h3 : ¬ w - p = 0) (h4 : ¬ s = 2) (h5 : ¬ t = 0) : sc_r x w p s t = 1 := by unfold sc_r; rw [pc_f (fun z => z h), pc_f (fun z => z h2), pc_f (fun z => z.elim h3 h4), pc_f h5]
theorem ct_pos {k : Nat} (h : ¬ nI k ≤ 0) : 0 < k := Nat.pos_of_ne_zero (fun e => h (by rw [e]; decide))
theorem ct_non {b : Nat → Bool} (h : nI (od_ct b 10) ≤ 0) : ¬ 0 < od_ct b 10 := fun h9 => nI_nle h9 (Nat.lt_of_le_of_lt (od_ct_le b 10) (by decide)) h
theorem up_id {α : Type} (f : Nat → α) (k : Nat) : va_up f k (f k) = f := by
  funext j
  by_cases h : j = k
  · subst h; exact va_up_self _ _ _
  · exact va_up_ne _ _ h
theorem nar_1 : vp_nar .boolean 1 = 1 := by decide +kernel
theorem nar_0 : vp_nar .boolean 0 = 0 := by decide +kernel
theorem le_max (x : Int32) : x ≤ 2147483647 := by
  rw [Int32.le_iff_toInt_le]
  have := Int32.toInt_lt x
  have h : (2147483647 : Int32).toInt = 2147483647 := by decide
  omega
theorem sw_out {x : Int32} {N : Nat} (hN : N < 2 ^ 31 - 1) (h : ¬ ir x (N + 1)) : x.toInt < 0 ∨ (N : Int) < x.toInt := by
  by_cases h0 : x.toInt < 0
  · exact Or.inl h0
  · by_cases h1 : (N : Int) < x.toInt
    · exact Or.inr h1
    · exfalso
      apply h
      obtain ⟨j, hj, hx⟩ := nI_of (x := x) (fun h9 => h0 (by rw [Int32.lt_iff_toInt_lt] at h9; exact h9))
      subst hx
      rw [nI_toInt hj] at h1
      exact ⟨j, by omega, rfl⟩
noncomputable def td_r (td : Int32) (os pl : Nat → Int32) (wa pr de : Nat → Nat → Int32) (j : Nat) (x : Int32) : Int32 := pc_if (x = 0) (os j) (pc_if (x = 1) (pl j) (pc_if (x = 2) (nI (od_ct (od_has (wa j)) 10)) (pc_if (x = 3) (bx_sum (pr j) 10) (pc_if (x = 4) (bx_sum (wa j) 10) (bx_sum (od_gu td (wa j) (pr j) (de j)) 10)))))
noncomputable def pi_r (wa pr de : Nat → Nat → Int32) (j g : Nat) (x : Int32) : Int32 := pc_if (x = 0) (wa j g) (pc_if (x = 1) (pr j g) (de j g))
noncomputable def co_r (n oc : Nat) (td : Int32) (to : Nat → Int32) (oo : Nat → Option Nat) (pr : Nat → Nat → Int32) (x : Int32) : Int32 := pc_if (x = 0) (nI n) (pc_if (x = 1) (nI oc) (pc_if (x = 2) (nI (od_ct (cc_f oo) n)) (pc_if (x = 3) (bx_sum (cc_s oo pr) n) (pc_if (x = 4) (bx_sum to 10) (pc_if (x = 5) td (-1))))))
def sd_n (s : Nat) : Nat := (s * 1103515245 + 12345) % 2147483648
theorem sd_lt (s : Nat) : sd_n s < 2 ^ 31 := Nat.mod_lt _ (by decide)
set_option maxHeartbeats 4000000 in
set_option maxRecDepth 100000 in
theorem ct_putN (l : Launch) (hl : l.stackTraces = false) (G : pw_G) (M : pw_M) (ad : Nat → Nat) (n oc : Nat) (td sd : Int32) (dk to er : Nat → Int32) (os pl : Nat → Int32) (oo : Nat → Option Nat) (wa pr de : Nat → Nat → Int32) (hc : cw G ad n oc td sd dk to er os pl oo wa pr de M) (x : Int32) (g : Nat) : pw_Met l yX1_put cX1_put 4 (some .int) 5 0 0 G [.ref (ad 0), .null, .int x, .int (nI g)] M (fun v9 M9 => M = M9 ∧ v9 = some (.int (-1))) := by
  refine pw_of hl (by decide +kernel) (Nat.le_of_ble_eq_true rfl) [(0, .ref (ad 0)), (1, .null), (2, .int x), (3, .int (nI g))] rfl ?_
  intro p9 e9 s9 m9 args9 below9 meth9 c9 hX hrt hmi
  refine pw_aload_nN (pc := 0) hX dX1_put_0 1 rfl ?_
  refine pw_ifnonnullN (pc := 1) hX dX1_put_1  ?_
  refine pw_iconst (pc := 4) (v := (-1)) hX dX1_put_4 (by decide) ?_
  exact pw_iret hX dX1_put_5 hrt ⟨by decide, by decide⟩ ⟨rfl, rfl⟩
set_option maxHeartbeats 4000000 in
set_option maxRecDepth 100000 in
theorem ct_putS (l : Launch) (hl : l.stackTraces = false) (G : pw_G) (M : pw_M) (ad : Nat → Nat) (n oc : Nat) (td sd : Int32) (dk to er : Nat → Int32) (os pl : Nat → Int32) (oo : Nat → Option Nat) (wa pr de : Nat → Nat → Int32) (hc : cw G ad n oc td sd dk to er os pl oo wa pr de M) (j : Nat) (hj : j < oc) (x : Int32) (g : Nat) (hg : g < 10) : pw_Met l yX1_put cX1_put 4 (some .int) 5 0 0 G [.ref (ad 0), .ref (ad (6 + 4 * j)), .int x, .int (nI g)] M (fun v9 M9 => ∃ r : Int32, v9 = some (.int r) ∧ r = sc_r x (wa j g) (pr j g) (os j) (to g) ∧ (r = 1 ∧ cw G ad n oc td sd dk (upd to g (to g - 1)) er os pl oo wa (va_up pr j (upd (pr j) g (pr j g + 1))) de M9 ∧ fm ad (6 + 4 * oc) M M9 ∨ r < 0 ∧ M = M9)) := by
  refine pw_of hl (by decide +kernel) (Nat.le_of_ble_eq_true rfl) [(0, .ref (ad 0)), (1, .ref (ad (6 + 4 * j))), (2, .int x), (3, .int (nI g))] rfl ?_
  intro p9 e9 s9 m9 args9 below9 meth9 c9 hX hrt hmi
  refine pw_aload_n (pc := 0) hX dX1_put_0 1 rfl ?_
  refine pw_ifnonnull (pc := 1) hX 6 dX1_put_1 (by decide) ?_
  refine pw_iload_n (pc := 6) hX dX1_put_6 2 rfl ?_
  refine pw_if_eq (pc := 7) hX 13 dX1_put_7 (by decide) (fun hc_1 => ?_) (fun hc_1 => ?_)
  · refine pw_aload_n (pc := 13) hX dX1_put_13 1 rfl ?_
    refine pw_iload_n (pc := 14) hX dX1_put_14 3 rfl ?_
    refine pw_callV (pc := 15) (st := []) hX (ct_hasLine l hl G M (ad (6 + 4 * j)) (ad (7 + 4 * j)) (ad (8 + 4 * j)) (ad (9 + 4 * j)) (nI j) (os j) (pl j) (wa j) (pr j) (de j) (cw_o hc j hj) g hg) (cw_o hc j hj).1 rfl ok_X0_hasLine lk_RX1_72 dX1_put_15 rfl ⟨⟨by decide, by decide⟩, Nat.le_of_ble_eq_true rfl, Nat.le_of_ble_eq_true rfl, Nat.le_of_ble_eq_true rfl⟩ rfl (fun v9 M9 hp9 => ?_)
    obtain ⟨rfl, rfl⟩ := hp9
    refine pw_if_ne (pc := 18) hX 24 dX1_put_18 (by decide) (fun hc_2 => ?_) (fun hc_2 => ?_)
    · refine pw_aload_n (pc := 24) hX dX1_put_24 1 rfl ?_
      refine pw_iload_n (pc := 25) hX dX1_put_25 3 rfl ?_
      refine pw_callV (pc := 26) (st := []) hX (ct_missing l hl G M (ad (6 + 4 * j)) (ad (7 + 4 * j)) (ad (8 + 4 * j)) (ad (9 + 4 * j)) (nI j) (os j) (pl j) (wa j) (pr j) (de j) (cw_o hc j hj) g hg) (cw_o hc j hj).1 rfl ok_X0_missing lk_RX1_115 dX1_put_26 rfl ⟨⟨by decide, by decide⟩, Nat.le_of_ble_eq_true rfl, Nat.le_of_ble_eq_true rfl, Nat.le_of_ble_eq_true rfl⟩ rfl (fun v9 M9 hp9 => ?_)
      obtain ⟨rfl, rfl⟩ := hp9
      refine pw_if_eq (pc := 29) hX 40 dX1_put_29 (by decide) (fun hc_3 => ?_) (fun hc_3 => ?_)
      · refine pw_bipush (pc := 40) (v := (-4)) hX dX1_put_40 (by decide) ?_
        exact pw_iret hX dX1_put_42 hrt ⟨by decide, by decide⟩ ⟨_, rfl, (sc_4 hc_1 (pw_ite1 hc_2) (Or.inl hc_3)).symm, Or.inr ⟨by decide, rfl⟩⟩
      · refine pw_aload_n (pc := 32) hX dX1_put_32 1 rfl ?_
        refine pw_get (pc := 33) hX dX1_put_33 (cw_o hc j hj).1 rfl inT_0 1 (by decide) fl_RX1_69 rfl ?_
        refine pw_iconst (pc := 36) (v := 2) hX dX1_put_36 (by decide) ?_
        refine pw_icmp_ne (pc := 37) hX 43 dX1_put_37 (by decide) (fun hc_4 => ?_) (fun hc_4 => ?_)
        · refine pw_aload_n (pc := 43) hX dX1_put_43 0 rfl ?_
          refine pw_get (pc := 44) hX dX1_put_44 hc.1 rfl inT_1 4 (by decide) fl_RX1_19 rfl ?_
          refine pw_iload_n (pc := 47) hX dX1_put_47 3 rfl ?_
          refine pw_iald (pc := 48) (j := g) hX dX1_put_48 hc.2.2.2.2.1 hg (by decide) ?_
          refine pw_if_ne (pc := 49) hX 55 dX1_put_49 (by decide) (fun hc_5 => ?_) (fun hc_5 => ?_)
          · refine pw_aload_n (pc := 55) hX dX1_put_55 0 rfl ?_
            refine pw_get (pc := 56) hX dX1_put_56 hc.1 rfl inT_1 4 (by decide) fl_RX1_19 rfl ?_
            refine pw_iload_n (pc := 59) hX dX1_put_59 3 rfl ?_
            refine pw_dup2 (pc := 60) hX dX1_put_60 rfl rfl ?_
            refine pw_iald (pc := 61) (j := g) hX dX1_put_61 hc.2.2.2.2.1 hg (by decide) ?_
            refine pw_iconst (pc := 62) (v := 1) hX dX1_put_62 (by decide) ?_
            refine pw_isub (pc := 63) (z := (to g) - 1) hX dX1_put_63 rfl ?_
            refine pw_iast (pc := 64) (j := g) hX dX1_put_64 hc.2.2.2.2.1 hg (by decide) ?_
            have hm_6 := pw_ke (a := ad 4) (e := .inl (G.2.2.1 0, 10, .inl (upd to g ((to g) - 1)))) hc.1 (cw_ne hc (x := 0) (y := 4) (by omega) (by omega) (by omega))
            have hm_7 := pw_ke (a := ad 4) (e := .inl (G.2.2.1 0, 10, .inl (upd to g ((to g) - 1)))) hc.2.1 (cw_ne hc (x := 1) (y := 4) (by omega) (by omega) (by omega))
            have hm_8 := pw_ke (a := ad 4) (e := .inl (G.2.2.1 0, 10, .inl (upd to g ((to g) - 1)))) hc.2.2.1 (cw_ne hc (x := 2) (y := 4) (by omega) (by omega) (by omega))
            have hm_9 := pw_ke (a := ad 4) (e := .inl (G.2.2.1 0, 10, .inl (upd to g ((to g) - 1)))) hc.2.2.2.1 (cw_ne hc (x := 3) (y := 4) (by omega) (by omega) (by omega))
            have hm_10 := pw_ke (a := ad 4) (e := .inl (G.2.2.1 0, 10, .inl (upd to g ((to g) - 1)))) hc.2.2.2.2.2.1 (cw_ne hc (x := 5) (y := 4) (by omega) (by omega) (by omega))
            have hm_11 := pw_ke (a := ad 4) (e := .inl (G.2.2.1 0, 10, .inl (upd to g ((to g) - 1)))) (cw_o hc j hj).1 (cw_ne hc (x := 6 + 4 * j) (y := 4) (by omega) (by omega) (by omega))
            have hm_12 := pw_ke (a := ad 4) (e := .inl (G.2.2.1 0, 10, .inl (upd to g ((to g) - 1)))) (cw_o hc j hj).2.1 (cw_ne hc (x := 7 + 4 * j) (y := 4) (by omega) (by omega) (by omega))
            have hm_13 := pw_ke (a := ad 4) (e := .inl (G.2.2.1 0, 10, .inl (upd to g ((to g) - 1)))) (cw_o hc j hj).2.2.1 (cw_ne hc (x := 8 + 4 * j) (y := 4) (by omega) (by omega) (by omega))
            have hm_14 := pw_ke (a := ad 4) (e := .inl (G.2.2.1 0, 10, .inl (upd to g ((to g) - 1)))) (cw_o hc j hj).2.2.2 (cw_ne hc (x := 9 + 4 * j) (y := 4) (by omega) (by omega) (by omega))
            have hm_15 : pw_up M (ad 4) (.inl (G.2.2.1 0, 10, .inl (upd to g ((to g) - 1)))) (ad 4) = some (.inl (G.2.2.1 0, 10, .inl (upd to g ((to g) - 1)))) := pw_us
            refine pw_aload_n (pc := 65) hX dX1_put_65 1 rfl ?_
            refine pw_get (pc := 66) hX dX1_put_66 hm_11 rfl inT_0 4 (by decide) fl_RX1_103 rfl ?_
            refine pw_iload_n (pc := 69) hX dX1_put_69 3 rfl ?_
            refine pw_dup2 (pc := 70) hX dX1_put_70 rfl rfl ?_
            refine pw_iald (pc := 71) (j := g) hX dX1_put_71 hm_13 hg (by decide) ?_
            refine pw_iconst (pc := 72) (v := 1) hX dX1_put_72 (by decide) ?_
            refine pw_iadd (pc := 73) (z := ((pr j) g) + 1) hX dX1_put_73 rfl ?_
            refine pw_iast (pc := 74) (j := g) hX dX1_put_74 hm_13 hg (by decide) ?_
            have hm_16 := pw_ke (a := ad (8 + 4 * j)) (e := .inl (G.2.2.1 0, 10, .inl (upd (pr j) g (((pr j) g) + 1)))) hm_6 (cw_ne hc (x := 0) (y := 8 + 4 * j) (by omega) (by omega) (by omega))
            have hm_17 := pw_ke (a := ad (8 + 4 * j)) (e := .inl (G.2.2.1 0, 10, .inl (upd (pr j) g (((pr j) g) + 1)))) hm_7 (cw_ne hc (x := 1) (y := 8 + 4 * j) (by omega) (by omega) (by omega))
            have hm_18 := pw_ke (a := ad (8 + 4 * j)) (e := .inl (G.2.2.1 0, 10, .inl (upd (pr j) g (((pr j) g) + 1)))) hm_8 (cw_ne hc (x := 2) (y := 8 + 4 * j) (by omega) (by omega) (by omega))
            have hm_19 := pw_ke (a := ad (8 + 4 * j)) (e := .inl (G.2.2.1 0, 10, .inl (upd (pr j) g (((pr j) g) + 1)))) hm_9 (cw_ne hc (x := 3) (y := 8 + 4 * j) (by omega) (by omega) (by omega))
            have hm_20 := pw_ke (a := ad (8 + 4 * j)) (e := .inl (G.2.2.1 0, 10, .inl (upd (pr j) g (((pr j) g) + 1)))) hm_15 (cw_ne hc (x := 4) (y := 8 + 4 * j) (by omega) (by omega) (by omega))
            have hm_21 := pw_ke (a := ad (8 + 4 * j)) (e := .inl (G.2.2.1 0, 10, .inl (upd (pr j) g (((pr j) g) + 1)))) hm_10 (cw_ne hc (x := 5) (y := 8 + 4 * j) (by omega) (by omega) (by omega))
            have hm_22 := pw_ke (a := ad (8 + 4 * j)) (e := .inl (G.2.2.1 0, 10, .inl (upd (pr j) g (((pr j) g) + 1)))) hm_11 (cw_ne hc (x := 6 + 4 * j) (y := 8 + 4 * j) (by omega) (by omega) (by omega))
            have hm_23 := pw_ke (a := ad (8 + 4 * j)) (e := .inl (G.2.2.1 0, 10, .inl (upd (pr j) g (((pr j) g) + 1)))) hm_12 (cw_ne hc (x := 7 + 4 * j) (y := 8 + 4 * j) (by omega) (by omega) (by omega))
            have hm_24 := pw_ke (a := ad (8 + 4 * j)) (e := .inl (G.2.2.1 0, 10, .inl (upd (pr j) g (((pr j) g) + 1)))) hm_14 (cw_ne hc (x := 9 + 4 * j) (y := 8 + 4 * j) (by omega) (by omega) (by omega))
            have hm_25 : pw_up (pw_up M (ad 4) (.inl (G.2.2.1 0, 10, .inl (upd to g ((to g) - 1))))) (ad (8 + 4 * j)) (.inl (G.2.2.1 0, 10, .inl (upd (pr j) g (((pr j) g) + 1)))) (ad (8 + 4 * j)) = some (.inl (G.2.2.1 0, 10, .inl (upd (pr j) g (((pr j) g) + 1)))) := pw_us
            refine pw_iconst (pc := 75) (v := 1) hX dX1_put_75 (by decide) ?_
            exact pw_iret hX dX1_put_76 hrt ⟨by decide, by decide⟩ ⟨_, rfl, (sc_1 hc_1 (pw_ite1 hc_2) hc_3 hc_4 hc_5).symm, Or.inl ⟨rfl, (cw_pr (cw_to hc _) j hj _), (fm_up (fm_up fm_rf (x := 4) (by omega) _) (x := 8 + 4 * j) (by omega) _)⟩⟩
          · refine pw_bipush (pc := 52) (v := (-5)) hX dX1_put_52 (by decide) ?_
            exact pw_iret hX dX1_put_54 hrt ⟨by decide, by decide⟩ ⟨_, rfl, (sc_5 hc_1 (pw_ite1 hc_2) hc_3 hc_4 hc_5).symm, Or.inr ⟨by decide, rfl⟩⟩
        · refine pw_bipush (pc := 40) (v := (-4)) hX dX1_put_40 (by decide) ?_
          exact pw_iret hX dX1_put_42 hrt ⟨by decide, by decide⟩ ⟨_, rfl, (sc_4 hc_1 (pw_ite1 hc_2) (Or.inr hc_4)).symm, Or.inr ⟨by decide, rfl⟩⟩
    · refine pw_bipush (pc := 21) (v := (-3)) hX dX1_put_21 (by decide) ?_
      exact pw_iret hX dX1_put_23 hrt ⟨by decide, by decide⟩ ⟨_, rfl, (sc_3 hc_1 (pw_ite0 hc_2)).symm, Or.inr ⟨by decide, rfl⟩⟩
  · refine pw_bipush (pc := 10) (v := (-2)) hX dX1_put_10 (by decide) ?_
    exact pw_iret hX dX1_put_12 hrt ⟨by decide, by decide⟩ ⟨_, rfl, (sc_2 hc_1).symm, Or.inr ⟨by decide, rfl⟩⟩
set_option maxHeartbeats 4000000 in
set_option maxRecDepth 100000 in
theorem cp_cell (l : Launch) (hl : l.stackTraces = false) (G : pw_G) (M : pw_M) (ad : Nat → Nat) (n oc : Nat) (td sd : Int32) (dk to er : Nat → Int32) (os pl : Nat → Int32) (oo : Nat → Option Nat) (wa pr de : Nat → Nat → Int32) (hc : cw G ad n oc td sd dk to er os pl oo wa pr de M) (p0 : Int32) : pw_XMet l yX1_cell cX1_cell 4 (some .int) 3 2 12 G [.ref (ad 0), .int p0] M (fun v9 M9 => cd_cell oc os wa p0 = 0 ∧ ((∃ i, i < n ∧ v9 = some (.int (nI i)) ∧ oo i = none ∧ dk i = 0 ∧ (∀ k, k < i → ¬ (oo k = none ∧ dk k = 0)) ∧ cw G ad n oc td sd dk to er (va_up os (ix p0) 1) (va_up pl (ix p0) (nI i)) (va_up oo i (some (ix p0))) wa pr de M9) ∨ v9 = some (.int (-1)) ∧ (∀ i, i < n → ¬ (oo i = none ∧ dk i = 0)) ∧ M = M9) ∧ fm ad (6 + 4 * oc) M M9) (fun E9 M9 => M = M9 ∧ (E9 = "java/util/NoSuchElementException" ∧ cd_cell oc os wa p0 = 1 ∨ E9 = "java/lang/IllegalStateException" ∧ cd_cell oc os wa p0 = 2)) := by
  refine pw_ofx hl (by decide +kernel) (Nat.le_of_ble_eq_true rfl) [(0, .ref (ad 0)), (1, .int p0)] rfl ?_
  intro p9 e9 s9 m9 args9 below9 meth9 c9 hX hrt hex
  refine pw_aload_n (pc := 0) hX dX1_cell_0 0 rfl ?_
  refine pw_iload_n (pc := 1) hX dX1_cell_1 1 rfl ?_
  refine pw_callVx (pc := 2) (st := []) hX (ct_existing l hl G M ad n oc td sd dk to er os pl oo wa pr de hc p0) hc.1 rfl ok_X1_existing lk_RX1_65 dX1_cell_2 rfl ⟨⟨by decide, by decide⟩, Nat.le_of_ble_eq_true rfl, Nat.le_of_ble_eq_true rfl, Nat.le_of_ble_eq_true rfl⟩ rfl (fun E9 M9 hx9 => ?_) (fun v9 M9 hp9 => ?_)
  · obtain ⟨rfl, rfl, hno⟩ := hx9
    exact pw_out hX hex ⟨Nat.le_of_ble_eq_true rfl, Nat.le_of_ble_eq_true rfl⟩ (⟨rfl, Or.inl (⟨rfl, pc_t hno⟩)⟩)
  obtain ⟨rfl, j, hj, rfl, rfl⟩ := hp9
  have hjB : j < 2 ^ 31 := Nat.lt_of_lt_of_le hj (Nat.le_trans (cw_oc hc) (by decide))
  refine pw_astore_n (pc := 5) hX [(2, .ref (ad (6 + 4 * j))), (0, .ref (ad 0)), (1, .int (nI j))] dX1_cell_5 (by decide) rfl ?_
  refine pw_aload_n (pc := 6) hX dX1_cell_6 0 rfl ?_
  refine pw_get (pc := 7) hX dX1_cell_7 (cw_o hc j hj).1 rfl inT_0 1 (by decide) fl_RX1_69 rfl ?_
  refine pw_if_ne (pc := 10) hX 24 dX1_cell_10 (by decide) (fun hc_1 => ?_) (fun hc_1 => ?_)
  · refine pw_iconst (pc := 24) (v := 0) hX dX1_cell_24 (by decide) ?_
    refine pw_callSx (pc := 25) (st := []) hX (ct_requireState l hl G M 0) ok_X1_requireState lk_RX1_76 dX1_cell_25 rfl ⟨⟨by decide, by decide⟩, Nat.le_of_ble_eq_true rfl, Nat.le_of_ble_eq_true rfl, Nat.le_of_ble_eq_true rfl⟩ rfl (fun E9 M9 hx9 => ?_) (fun v9 M9 hp9 => absurd rfl hp9.2.2)
    obtain ⟨rfl, rfl, -⟩ := hx9
    exact pw_out hX hex ⟨Nat.le_of_ble_eq_true rfl, Nat.le_of_ble_eq_true rfl⟩ ⟨rfl, Or.inr (⟨rfl, pc2_2 (fun h => h (ir_nI hj)) (fun h => by rw [ix_nI hjB] at h; exact hc_1 h.1)⟩)⟩
  · refine pw_aload_n (pc := 13) hX dX1_cell_13 0 rfl ?_
    refine pw_callV (pc := 14) (st := []) hX (ct_lineCount l hl G M (ad (6 + 4 * j)) (ad (7 + 4 * j)) (ad (8 + 4 * j)) (ad (9 + 4 * j)) (nI j) (os j) (pl j) (wa j) (pr j) (de j) (cw_o hc j hj)) (cw_o hc j hj).1 rfl ok_X0_lineCount lk_RX1_83 dX1_cell_14 rfl ⟨⟨by decide, by decide⟩, Nat.le_of_ble_eq_true rfl, Nat.le_of_ble_eq_true rfl, Nat.le_of_ble_eq_true rfl⟩ rfl (fun v9 M9 hp9 => ?_)
    obtain ⟨rfl, rfl⟩ := hp9
    refine pw_if_le (pc := 17) hX 24 dX1_cell_17 (by decide) (fun hc_2 => ?_) (fun hc_2 => ?_)
    · refine pw_iconst (pc := 24) (v := 0) hX dX1_cell_24 (by decide) ?_
      refine pw_callSx (pc := 25) (st := []) hX (ct_requireState l hl G M 0) ok_X1_requireState lk_RX1_76 dX1_cell_25 rfl ⟨⟨by decide, by decide⟩, Nat.le_of_ble_eq_true rfl, Nat.le_of_ble_eq_true rfl, Nat.le_of_ble_eq_true rfl⟩ rfl (fun E9 M9 hx9 => ?_) (fun v9 M9 hp9 => absurd rfl hp9.2.2)
      obtain ⟨rfl, rfl, -⟩ := hx9
      exact pw_out hX hex ⟨Nat.le_of_ble_eq_true rfl, Nat.le_of_ble_eq_true rfl⟩ ⟨rfl, Or.inr (⟨rfl, pc2_2 (fun h => h (ir_nI hj)) (fun h => by rw [ix_nI hjB] at h; exact ct_non hc_2 h.2)⟩)⟩
    · refine pw_iconst (pc := 20) (v := 1) hX dX1_cell_20 (by decide) ?_
      refine pw_goto (pc := 21) hX 25 dX1_cell_21 (by decide) ?_
      refine pw_callSx (pc := 25) (st := []) hX (ct_requireState l hl G M 1) ok_X1_requireState lk_RX1_76 dX1_cell_25 rfl ⟨⟨by decide, by decide⟩, Nat.le_of_ble_eq_true rfl, Nat.le_of_ble_eq_true rfl, Nat.le_of_ble_eq_true rfl⟩ rfl (fun E9 M9 hx9 => ?_) (fun v9 M9 hp9 => ?_)
      · obtain ⟨rfl, rfl, hz⟩ := hx9
        exact absurd hz (by decide)
      obtain ⟨rfl, rfl, -⟩ := hp9
      refine pw_aload_n (pc := 28) hX dX1_cell_28 1 rfl ?_
      refine pw_callV (pc := 29) (st := []) hX (ct_lowest l hl G M ad n oc td sd dk to er os pl oo wa pr de hc) hc.1 rfl ok_X1_lowestUsableCell lk_RX1_87 dX1_cell_29 rfl ⟨⟨by decide, by decide⟩, Nat.le_of_ble_eq_true rfl, Nat.le_of_ble_eq_true rfl, Nat.le_of_ble_eq_true rfl⟩ rfl (fun v9 M9 hp9 => ?_)
      obtain ⟨rfl, ⟨i, hi, rfl, hoi, hdi, hfi⟩ | ⟨rfl, hnone⟩⟩ := hp9
      · refine pw_istore_n (pc := 32) hX [(3, .int (nI i)), (2, .ref (ad (6 + 4 * j))), (0, .ref (ad 0)), (1, .int (nI j))] dX1_cell_32 (by decide) rfl ?_
        refine pw_iload_n (pc := 33) hX dX1_cell_33 0 rfl ?_
        refine pw_if_lt (pc := 34) hX 63 dX1_cell_34 (by decide) (fun hc_3 => absurd hc_3 (nI_pos (Nat.lt_trans hi (Nat.lt_of_le_of_lt (cw_n hc) (by decide))))) (fun hc_3 => ?_)
        refine pw_iload_n (pc := 37) hX dX1_cell_37 0 rfl ?_
        refine pw_aload_n (pc := 38) hX dX1_cell_38 2 rfl ?_
        refine pw_get (pc := 39) hX dX1_cell_39 hc.1 rfl inT_1 2 (by decide) fl_RX1_41 rfl ?_
        refine pw_alen2 (pc := 42) hX dX1_cell_42 hc.2.2.1 rfl ?_
        refine pw_icmp_ge (pc := 43) hX 63 dX1_cell_43 (by decide) (fun hc_4 => absurd hc_4 (nI_ge hi (Nat.lt_of_le_of_lt (cw_n hc) (by decide)))) (fun hc_4 => ?_)
        refine pw_aload_n (pc := 46) hX dX1_cell_46 2 rfl ?_
        refine pw_get (pc := 47) hX dX1_cell_47 hc.1 rfl inT_1 2 (by decide) fl_RX1_41 rfl ?_
        refine pw_iload_n (pc := 50) hX dX1_cell_50 0 rfl ?_
        refine pw_aload_n (pc := 51) hX dX1_cell_51 1 rfl ?_
        refine pw_aast (pc := 52) (j := i) hX dX1_cell_52 hc.2.2.1 (cw_o hc j hj).1 rfl rfl hi (Nat.lt_of_le_of_lt (cw_n hc) (by decide)) ?_
        have hm_5 := pw_ke (a := ad 2) (e := .inl (G.2.2.1 2, n, .inr (.inr (.inr (.inr (va_up (fun i => (oo i).map (fun j => ad (6 + 4 * j))) i (some (ad (6 + 4 * j))))))))) hc.1 (cw_ne hc (x := 0) (y := 2) (by omega) (by omega) (by omega))
        have hm_6 := pw_ke (a := ad 2) (e := .inl (G.2.2.1 2, n, .inr (.inr (.inr (.inr (va_up (fun i => (oo i).map (fun j => ad (6 + 4 * j))) i (some (ad (6 + 4 * j))))))))) hc.2.1 (cw_ne hc (x := 1) (y := 2) (by omega) (by omega) (by omega))
        have hm_7 := pw_ke (a := ad 2) (e := .inl (G.2.2.1 2, n, .inr (.inr (.inr (.inr (va_up (fun i => (oo i).map (fun j => ad (6 + 4 * j))) i (some (ad (6 + 4 * j))))))))) hc.2.2.2.1 (cw_ne hc (x := 3) (y := 2) (by omega) (by omega) (by omega))
        have hm_8 := pw_ke (a := ad 2) (e := .inl (G.2.2.1 2, n, .inr (.inr (.inr (.inr (va_up (fun i => (oo i).map (fun j => ad (6 + 4 * j))) i (some (ad (6 + 4 * j))))))))) hc.2.2.2.2.1 (cw_ne hc (x := 4) (y := 2) (by omega) (by omega) (by omega))
        have hm_9 := pw_ke (a := ad 2) (e := .inl (G.2.2.1 2, n, .inr (.inr (.inr (.inr (va_up (fun i => (oo i).map (fun j => ad (6 + 4 * j))) i (some (ad (6 + 4 * j))))))))) hc.2.2.2.2.2.1 (cw_ne hc (x := 5) (y := 2) (by omega) (by omega) (by omega))
        have hm_10 := pw_ke (a := ad 2) (e := .inl (G.2.2.1 2, n, .inr (.inr (.inr (.inr (va_up (fun i => (oo i).map (fun j => ad (6 + 4 * j))) i (some (ad (6 + 4 * j))))))))) (cw_o hc j hj).1 (cw_ne hc (x := 6 + 4 * j) (y := 2) (by omega) (by omega) (by omega))
        have hm_11 := pw_ke (a := ad 2) (e := .inl (G.2.2.1 2, n, .inr (.inr (.inr (.inr (va_up (fun i => (oo i).map (fun j => ad (6 + 4 * j))) i (some (ad (6 + 4 * j))))))))) (cw_o hc j hj).2.1 (cw_ne hc (x := 7 + 4 * j) (y := 2) (by omega) (by omega) (by omega))
        have hm_12 := pw_ke (a := ad 2) (e := .inl (G.2.2.1 2, n, .inr (.inr (.inr (.inr (va_up (fun i => (oo i).map (fun j => ad (6 + 4 * j))) i (some (ad (6 + 4 * j))))))))) (cw_o hc j hj).2.2.1 (cw_ne hc (x := 8 + 4 * j) (y := 2) (by omega) (by omega) (by omega))
        have hm_13 := pw_ke (a := ad 2) (e := .inl (G.2.2.1 2, n, .inr (.inr (.inr (.inr (va_up (fun i => (oo i).map (fun j => ad (6 + 4 * j))) i (some (ad (6 + 4 * j))))))))) (cw_o hc j hj).2.2.2 (cw_ne hc (x := 9 + 4 * j) (y := 2) (by omega) (by omega) (by omega))
        have hm_14 : pw_up M (ad 2) (.inl (G.2.2.1 2, n, .inr (.inr (.inr (.inr (va_up (fun i => (oo i).map (fun j => ad (6 + 4 * j))) i (some (ad (6 + 4 * j))))))))) (ad 2) = some (.inl (G.2.2.1 2, n, .inr (.inr (.inr (.inr (va_up (fun i => (oo i).map (fun j => ad (6 + 4 * j))) i (some (ad (6 + 4 * j))))))))) := pw_us
        refine pw_aload_n (pc := 53) hX dX1_cell_53 1 rfl ?_
        refine pw_iload_n (pc := 54) hX dX1_cell_54 0 rfl ?_
        refine pw_put (pc := 55) (v := .int (nI i)) hX dX1_cell_55 hm_10 rfl inT_0 tyX0 tyX0_ok nmX0 2 (by decide) fl_RX1_90 rfl (tyX0_ok 2 (by decide)) rfl rfl (Nat.le_of_ble_eq_true rfl) [.int (nI j), .int (os j), .int (nI i), .ref (ad (7 + 4 * j)), .ref (ad (8 + 4 * j)), .ref (ad (9 + 4 * j))] rfl ?_
        have hm_15 := pw_ke (a := ad (6 + 4 * j)) (e := .inr (0, [.int (nI j), .int (os j), .int (nI i), .ref (ad (7 + 4 * j)), .ref (ad (8 + 4 * j)), .ref (ad (9 + 4 * j))])) hm_5 (cw_ne hc (x := 0) (y := 6 + 4 * j) (by omega) (by omega) (by omega))
        have hm_16 := pw_ke (a := ad (6 + 4 * j)) (e := .inr (0, [.int (nI j), .int (os j), .int (nI i), .ref (ad (7 + 4 * j)), .ref (ad (8 + 4 * j)), .ref (ad (9 + 4 * j))])) hm_6 (cw_ne hc (x := 1) (y := 6 + 4 * j) (by omega) (by omega) (by omega))
        have hm_17 := pw_ke (a := ad (6 + 4 * j)) (e := .inr (0, [.int (nI j), .int (os j), .int (nI i), .ref (ad (7 + 4 * j)), .ref (ad (8 + 4 * j)), .ref (ad (9 + 4 * j))])) hm_14 (cw_ne hc (x := 2) (y := 6 + 4 * j) (by omega) (by omega) (by omega))
        have hm_18 := pw_ke (a := ad (6 + 4 * j)) (e := .inr (0, [.int (nI j), .int (os j), .int (nI i), .ref (ad (7 + 4 * j)), .ref (ad (8 + 4 * j)), .ref (ad (9 + 4 * j))])) hm_7 (cw_ne hc (x := 3) (y := 6 + 4 * j) (by omega) (by omega) (by omega))
        have hm_19 := pw_ke (a := ad (6 + 4 * j)) (e := .inr (0, [.int (nI j), .int (os j), .int (nI i), .ref (ad (7 + 4 * j)), .ref (ad (8 + 4 * j)), .ref (ad (9 + 4 * j))])) hm_8 (cw_ne hc (x := 4) (y := 6 + 4 * j) (by omega) (by omega) (by omega))
        have hm_20 := pw_ke (a := ad (6 + 4 * j)) (e := .inr (0, [.int (nI j), .int (os j), .int (nI i), .ref (ad (7 + 4 * j)), .ref (ad (8 + 4 * j)), .ref (ad (9 + 4 * j))])) hm_9 (cw_ne hc (x := 5) (y := 6 + 4 * j) (by omega) (by omega) (by omega))
        have hm_21 := pw_ke (a := ad (6 + 4 * j)) (e := .inr (0, [.int (nI j), .int (os j), .int (nI i), .ref (ad (7 + 4 * j)), .ref (ad (8 + 4 * j)), .ref (ad (9 + 4 * j))])) hm_11 (cw_ne hc (x := 7 + 4 * j) (y := 6 + 4 * j) (by omega) (by omega) (by omega))
        have hm_22 := pw_ke (a := ad (6 + 4 * j)) (e := .inr (0, [.int (nI j), .int (os j), .int (nI i), .ref (ad (7 + 4 * j)), .ref (ad (8 + 4 * j)), .ref (ad (9 + 4 * j))])) hm_12 (cw_ne hc (x := 8 + 4 * j) (y := 6 + 4 * j) (by omega) (by omega) (by omega))
        have hm_23 := pw_ke (a := ad (6 + 4 * j)) (e := .inr (0, [.int (nI j), .int (os j), .int (nI i), .ref (ad (7 + 4 * j)), .ref (ad (8 + 4 * j)), .ref (ad (9 + 4 * j))])) hm_13 (cw_ne hc (x := 9 + 4 * j) (y := 6 + 4 * j) (by omega) (by omega) (by omega))
        have hm_24 : pw_up (pw_up M (ad 2) (.inl (G.2.2.1 2, n, .inr (.inr (.inr (.inr (va_up (fun i => (oo i).map (fun j => ad (6 + 4 * j))) i (some (ad (6 + 4 * j)))))))))) (ad (6 + 4 * j)) (.inr (0, [.int (nI j), .int (os j), .int (nI i), .ref (ad (7 + 4 * j)), .ref (ad (8 + 4 * j)), .ref (ad (9 + 4 * j))])) (ad (6 + 4 * j)) = some (.inr (0, [.int (nI j), .int (os j), .int (nI i), .ref (ad (7 + 4 * j)), .ref (ad (8 + 4 * j)), .ref (ad (9 + 4 * j))])) := pw_us
        refine pw_aload_n (pc := 58) hX dX1_cell_58 1 rfl ?_
        refine pw_iconst (pc := 59) (v := 1) hX dX1_cell_59 (by decide) ?_
        refine pw_put (pc := 60) (v := .int 1) hX dX1_cell_60 hm_24 rfl inT_0 tyX0 tyX0_ok nmX0 1 (by decide) fl_RX1_69 rfl (tyX0_ok 1 (by decide)) rfl rfl (Nat.le_of_ble_eq_true rfl) [.int (nI j), .int 1, .int (nI i), .ref (ad (7 + 4 * j)), .ref (ad (8 + 4 * j)), .ref (ad (9 + 4 * j))] rfl ?_
        have hm_25 := pw_ke (a := ad (6 + 4 * j)) (e := .inr (0, [.int (nI j), .int 1, .int (nI i), .ref (ad (7 + 4 * j)), .ref (ad (8 + 4 * j)), .ref (ad (9 + 4 * j))])) hm_15 (cw_ne hc (x := 0) (y := 6 + 4 * j) (by omega) (by omega) (by omega))
        have hm_26 := pw_ke (a := ad (6 + 4 * j)) (e := .inr (0, [.int (nI j), .int 1, .int (nI i), .ref (ad (7 + 4 * j)), .ref (ad (8 + 4 * j)), .ref (ad (9 + 4 * j))])) hm_16 (cw_ne hc (x := 1) (y := 6 + 4 * j) (by omega) (by omega) (by omega))
        have hm_27 := pw_ke (a := ad (6 + 4 * j)) (e := .inr (0, [.int (nI j), .int 1, .int (nI i), .ref (ad (7 + 4 * j)), .ref (ad (8 + 4 * j)), .ref (ad (9 + 4 * j))])) hm_17 (cw_ne hc (x := 2) (y := 6 + 4 * j) (by omega) (by omega) (by omega))
        have hm_28 := pw_ke (a := ad (6 + 4 * j)) (e := .inr (0, [.int (nI j), .int 1, .int (nI i), .ref (ad (7 + 4 * j)), .ref (ad (8 + 4 * j)), .ref (ad (9 + 4 * j))])) hm_18 (cw_ne hc (x := 3) (y := 6 + 4 * j) (by omega) (by omega) (by omega))
        have hm_29 := pw_ke (a := ad (6 + 4 * j)) (e := .inr (0, [.int (nI j), .int 1, .int (nI i), .ref (ad (7 + 4 * j)), .ref (ad (8 + 4 * j)), .ref (ad (9 + 4 * j))])) hm_19 (cw_ne hc (x := 4) (y := 6 + 4 * j) (by omega) (by omega) (by omega))
        have hm_30 := pw_ke (a := ad (6 + 4 * j)) (e := .inr (0, [.int (nI j), .int 1, .int (nI i), .ref (ad (7 + 4 * j)), .ref (ad (8 + 4 * j)), .ref (ad (9 + 4 * j))])) hm_20 (cw_ne hc (x := 5) (y := 6 + 4 * j) (by omega) (by omega) (by omega))
        have hm_31 := pw_ke (a := ad (6 + 4 * j)) (e := .inr (0, [.int (nI j), .int 1, .int (nI i), .ref (ad (7 + 4 * j)), .ref (ad (8 + 4 * j)), .ref (ad (9 + 4 * j))])) hm_21 (cw_ne hc (x := 7 + 4 * j) (y := 6 + 4 * j) (by omega) (by omega) (by omega))
        have hm_32 := pw_ke (a := ad (6 + 4 * j)) (e := .inr (0, [.int (nI j), .int 1, .int (nI i), .ref (ad (7 + 4 * j)), .ref (ad (8 + 4 * j)), .ref (ad (9 + 4 * j))])) hm_22 (cw_ne hc (x := 8 + 4 * j) (y := 6 + 4 * j) (by omega) (by omega) (by omega))
        have hm_33 := pw_ke (a := ad (6 + 4 * j)) (e := .inr (0, [.int (nI j), .int 1, .int (nI i), .ref (ad (7 + 4 * j)), .ref (ad (8 + 4 * j)), .ref (ad (9 + 4 * j))])) hm_23 (cw_ne hc (x := 9 + 4 * j) (y := 6 + 4 * j) (by omega) (by omega) (by omega))
        have hm_34 : pw_up (pw_up (pw_up M (ad 2) (.inl (G.2.2.1 2, n, .inr (.inr (.inr (.inr (va_up (fun i => (oo i).map (fun j => ad (6 + 4 * j))) i (some (ad (6 + 4 * j)))))))))) (ad (6 + 4 * j)) (.inr (0, [.int (nI j), .int (os j), .int (nI i), .ref (ad (7 + 4 * j)), .ref (ad (8 + 4 * j)), .ref (ad (9 + 4 * j))]))) (ad (6 + 4 * j)) (.inr (0, [.int (nI j), .int 1, .int (nI i), .ref (ad (7 + 4 * j)), .ref (ad (8 + 4 * j)), .ref (ad (9 + 4 * j))])) (ad (6 + 4 * j)) = some (.inr (0, [.int (nI j), .int 1, .int (nI i), .ref (ad (7 + 4 * j)), .ref (ad (8 + 4 * j)), .ref (ad (9 + 4 * j))])) := pw_us
        refine pw_iload_n (pc := 63) hX dX1_cell_63 0 rfl ?_
        exact pw_iretx hX dX1_cell_64 hrt ⟨by decide, by decide⟩ (by rw [ix_nI hjB]; exact ⟨pc2_0 (fun h => h (ir_nI hj)) (fun h => h (by rw [ix_nI hjB]; exact ⟨hc_1, ct_pos hc_2⟩)), Or.inl ⟨i, hi, rfl, hoi, hdi, hfi, by have h9 := (cw_os (cw_os (cw_ooS hc i j hj) j hj (os j) (nI i)) j hj 1 (nI i)); rw [bx_uu, bx_uu] at h9; exact h9⟩, (fm_up (fm_up (fm_up fm_rf (x := 2) (by omega) _) (x := 6 + 4 * j) (by omega) _) (x := 6 + 4 * j) (by omega) _)⟩)
      · refine pw_istore_n (pc := 32) hX [(3, .int ((-1))), (2, .ref (ad (6 + 4 * j))), (0, .ref (ad 0)), (1, .int (nI j))] dX1_cell_32 (by decide) rfl ?_
        refine pw_iload_n (pc := 33) hX dX1_cell_33 0 rfl ?_
        refine pw_if_lt (pc := 34) hX 63 dX1_cell_34 (by decide) (fun _ => ?_) (fun h => absurd h (by decide))
        refine pw_iload_n (pc := 63) hX dX1_cell_63 0 rfl ?_
        exact pw_iretx hX dX1_cell_64 hrt ⟨by decide, by decide⟩ ⟨pc2_0 (fun h => h (ir_nI hj)) (fun h => h (by rw [ix_nI hjB]; exact ⟨hc_1, ct_pos hc_2⟩)), Or.inr ⟨rfl, hnone, rfl⟩, fm_rf⟩
set_option maxHeartbeats 4000000 in
set_option maxRecDepth 100000 in
theorem cp_light (l : Launch) (hl : l.stackTraces = false) (G : pw_G) (M : pw_M) (ad : Nat → Nat) (n oc : Nat) (td sd : Int32) (dk to er : Nat → Int32) (os pl : Nat → Int32) (oo : Nat → Option Nat) (wa pr de : Nat → Nat → Int32) (hc : cw G ad n oc td sd dk to er os pl oo wa pr de M) (p0 p1 : Int32) : pw_XMet l yX1_light cX1_light 4 (some .boolean) 3 1 6 G [.ref (ad 0), .int p0, .int p1] M (fun v9 M9 => cd_light n p0 = 0 ∧ v9 = some (.int (if dk (ix p0) = 0 then 1 else 0)) ∧ cw G ad n oc td sd (upd dk (ix p0) (if p1 = 0 then 1 else 0)) to er os pl oo wa pr de M9 ∧ fm ad (6 + 4 * oc) M M9) (fun E9 M9 => M = M9 ∧ (E9 = "java/lang/ArrayIndexOutOfBoundsException" ∧ cd_light n p0 = 1)) := by
  refine pw_ofx hl (by decide +kernel) (Nat.le_of_ble_eq_true rfl) [(0, .ref (ad 0)), (1, .int p0), (2, .int p1)] rfl ?_
  intro p9 e9 s9 m9 args9 below9 meth9 c9 hX hrt hex
  refine pw_aload_n (pc := 0) hX dX1_light_0 0 rfl ?_
  refine pw_iload_n (pc := 1) hX dX1_light_1 1 rfl ?_
  refine pw_callVx (pc := 2) (st := []) hX (ct_requireCell l hl G M ad n oc td sd dk to er os pl oo wa pr de hc p0) hc.1 rfl ok_X1_requireCell lk_RX1_93 dX1_light_2 rfl ⟨⟨by decide, by decide⟩, Nat.le_of_ble_eq_true rfl, Nat.le_of_ble_eq_true rfl, Nat.le_of_ble_eq_true rfl⟩ rfl (fun E9 M9 hx9 => ?_) (fun v9 M9 hp9 => ?_)
  · obtain ⟨rfl, rfl, hno⟩ := hx9
    exact pw_out hX hex ⟨Nat.le_of_ble_eq_true rfl, Nat.le_of_ble_eq_true rfl⟩ (⟨rfl, rfl, pc1_1 hno⟩)
  obtain ⟨rfl, rfl, t, ht, rfl⟩ := hp9
  have htB : t < 2 ^ 31 := Nat.lt_trans ht (Nat.lt_of_le_of_lt (cw_n hc) (by decide))
  refine pw_aload_n (pc := 5) hX dX1_light_5 0 rfl ?_
  refine pw_get (pc := 6) hX dX1_light_6 hc.1 rfl inT_1 3 (by decide) fl_RX1_44 rfl ?_
  refine pw_iload_n (pc := 9) hX dX1_light_9 1 rfl ?_
  refine pw_zald (pc := 10) (j := t) hX dX1_light_10 hc.2.2.2.1 ht (Nat.lt_of_le_of_lt (cw_n hc) (by decide)) ?_
  refine pw_if_ne (pc := 11) hX 18 dX1_light_11 (by decide) (fun hc_1 => ?_) (fun hc_1 => ?_)
  · refine pw_iconst (pc := 18) (v := 0) hX dX1_light_18 (by decide) ?_
    refine pw_istore_n (pc := 19) hX [(3, .int 0), (0, .ref (ad 0)), (1, .int (nI t)), (2, .int p1)] dX1_light_19 (by decide) rfl ?_
    refine pw_aload_n (pc := 20) hX dX1_light_20 1 rfl ?_
    refine pw_get (pc := 21) hX dX1_light_21 hc.1 rfl inT_1 3 (by decide) fl_RX1_44 rfl ?_
    refine pw_iload_n (pc := 24) hX dX1_light_24 2 rfl ?_
    refine pw_iload_n (pc := 25) hX dX1_light_25 3 rfl ?_
    refine pw_if_ne (pc := 26) hX 33 dX1_light_26 (by decide) (fun hc_2 => ?_) (fun hc_2 => ?_)
    · refine pw_iconst (pc := 33) (v := 0) hX dX1_light_33 (by decide) ?_
      refine pw_zast (pc := 34) (j := t) hX dX1_light_34 hc.2.2.2.1 ht (Nat.lt_of_le_of_lt (cw_n hc) (by decide)) ?_
      have hm_3 := pw_ke (a := ad 3) (e := .inl (G.2.2.1 1, n, .inl (upd dk t (vp_nar .boolean 0)))) hc.1 (cw_ne hc (x := 0) (y := 3) (by omega) (by omega) (by omega))
      have hm_4 := pw_ke (a := ad 3) (e := .inl (G.2.2.1 1, n, .inl (upd dk t (vp_nar .boolean 0)))) hc.2.1 (cw_ne hc (x := 1) (y := 3) (by omega) (by omega) (by omega))
      have hm_5 := pw_ke (a := ad 3) (e := .inl (G.2.2.1 1, n, .inl (upd dk t (vp_nar .boolean 0)))) hc.2.2.1 (cw_ne hc (x := 2) (y := 3) (by omega) (by omega) (by omega))
      have hm_6 := pw_ke (a := ad 3) (e := .inl (G.2.2.1 1, n, .inl (upd dk t (vp_nar .boolean 0)))) hc.2.2.2.2.1 (cw_ne hc (x := 4) (y := 3) (by omega) (by omega) (by omega))
      have hm_7 := pw_ke (a := ad 3) (e := .inl (G.2.2.1 1, n, .inl (upd dk t (vp_nar .boolean 0)))) hc.2.2.2.2.2.1 (cw_ne hc (x := 5) (y := 3) (by omega) (by omega) (by omega))
      have hm_8 : pw_up M (ad 3) (.inl (G.2.2.1 1, n, .inl (upd dk t (vp_nar .boolean 0)))) (ad 3) = some (.inl (G.2.2.1 1, n, .inl (upd dk t (vp_nar .boolean 0)))) := pw_us
      refine pw_iload_n (pc := 35) hX dX1_light_35 0 rfl ?_
      exact pw_zretx hX dX1_light_36 hrt rfl ⟨by decide, by decide⟩ (by rw [ix_nI htB]; exact ⟨pc1_0 (fun h => h (ir_nI ht)), by rw [if_neg hc_1], by rw [show (if p1 = 0 then (1 : Int32) else 0) = vp_nar .boolean 0 from by rw [if_neg hc_2]; exact nar_0.symm]; exact (cw_dk hc _), (fm_up fm_rf (x := 3) (by omega) _)⟩)
    · refine pw_iconst (pc := 29) (v := 1) hX dX1_light_29 (by decide) ?_
      refine pw_goto (pc := 30) hX 34 dX1_light_30 (by decide) ?_
      refine pw_zast (pc := 34) (j := t) hX dX1_light_34 hc.2.2.2.1 ht (Nat.lt_of_le_of_lt (cw_n hc) (by decide)) ?_
      have hm_9 := pw_ke (a := ad 3) (e := .inl (G.2.2.1 1, n, .inl (upd dk t (vp_nar .boolean 1)))) hc.1 (cw_ne hc (x := 0) (y := 3) (by omega) (by omega) (by omega))
      have hm_10 := pw_ke (a := ad 3) (e := .inl (G.2.2.1 1, n, .inl (upd dk t (vp_nar .boolean 1)))) hc.2.1 (cw_ne hc (x := 1) (y := 3) (by omega) (by omega) (by omega))
      have hm_11 := pw_ke (a := ad 3) (e := .inl (G.2.2.1 1, n, .inl (upd dk t (vp_nar .boolean 1)))) hc.2.2.1 (cw_ne hc (x := 2) (y := 3) (by omega) (by omega) (by omega))
      have hm_12 := pw_ke (a := ad 3) (e := .inl (G.2.2.1 1, n, .inl (upd dk t (vp_nar .boolean 1)))) hc.2.2.2.2.1 (cw_ne hc (x := 4) (y := 3) (by omega) (by omega) (by omega))
      have hm_13 := pw_ke (a := ad 3) (e := .inl (G.2.2.1 1, n, .inl (upd dk t (vp_nar .boolean 1)))) hc.2.2.2.2.2.1 (cw_ne hc (x := 5) (y := 3) (by omega) (by omega) (by omega))
      have hm_14 : pw_up M (ad 3) (.inl (G.2.2.1 1, n, .inl (upd dk t (vp_nar .boolean 1)))) (ad 3) = some (.inl (G.2.2.1 1, n, .inl (upd dk t (vp_nar .boolean 1)))) := pw_us
      refine pw_iload_n (pc := 35) hX dX1_light_35 0 rfl ?_
      exact pw_zretx hX dX1_light_36 hrt rfl ⟨by decide, by decide⟩ (by rw [ix_nI htB]; exact ⟨pc1_0 (fun h => h (ir_nI ht)), by rw [if_neg hc_1], by rw [show (if p1 = 0 then (1 : Int32) else 0) = vp_nar .boolean 1 from by rw [if_pos hc_2]; exact nar_1.symm]; exact (cw_dk hc _), (fm_up fm_rf (x := 3) (by omega) _)⟩)
  · refine pw_iconst (pc := 14) (v := 1) hX dX1_light_14 (by decide) ?_
    refine pw_goto (pc := 15) hX 19 dX1_light_15 (by decide) ?_
    refine pw_istore_n (pc := 19) hX [(3, .int 1), (0, .ref (ad 0)), (1, .int (nI t)), (2, .int p1)] dX1_light_19 (by decide) rfl ?_
    refine pw_aload_n (pc := 20) hX dX1_light_20 1 rfl ?_
    refine pw_get (pc := 21) hX dX1_light_21 hc.1 rfl inT_1 3 (by decide) fl_RX1_44 rfl ?_
    refine pw_iload_n (pc := 24) hX dX1_light_24 2 rfl ?_
    refine pw_iload_n (pc := 25) hX dX1_light_25 3 rfl ?_
    refine pw_if_ne (pc := 26) hX 33 dX1_light_26 (by decide) (fun hc_15 => ?_) (fun hc_15 => ?_)
    · refine pw_iconst (pc := 33) (v := 0) hX dX1_light_33 (by decide) ?_
      refine pw_zast (pc := 34) (j := t) hX dX1_light_34 hc.2.2.2.1 ht (Nat.lt_of_le_of_lt (cw_n hc) (by decide)) ?_
      have hm_16 := pw_ke (a := ad 3) (e := .inl (G.2.2.1 1, n, .inl (upd dk t (vp_nar .boolean 0)))) hc.1 (cw_ne hc (x := 0) (y := 3) (by omega) (by omega) (by omega))
      have hm_17 := pw_ke (a := ad 3) (e := .inl (G.2.2.1 1, n, .inl (upd dk t (vp_nar .boolean 0)))) hc.2.1 (cw_ne hc (x := 1) (y := 3) (by omega) (by omega) (by omega))
      have hm_18 := pw_ke (a := ad 3) (e := .inl (G.2.2.1 1, n, .inl (upd dk t (vp_nar .boolean 0)))) hc.2.2.1 (cw_ne hc (x := 2) (y := 3) (by omega) (by omega) (by omega))
      have hm_19 := pw_ke (a := ad 3) (e := .inl (G.2.2.1 1, n, .inl (upd dk t (vp_nar .boolean 0)))) hc.2.2.2.2.1 (cw_ne hc (x := 4) (y := 3) (by omega) (by omega) (by omega))
      have hm_20 := pw_ke (a := ad 3) (e := .inl (G.2.2.1 1, n, .inl (upd dk t (vp_nar .boolean 0)))) hc.2.2.2.2.2.1 (cw_ne hc (x := 5) (y := 3) (by omega) (by omega) (by omega))
      have hm_21 : pw_up M (ad 3) (.inl (G.2.2.1 1, n, .inl (upd dk t (vp_nar .boolean 0)))) (ad 3) = some (.inl (G.2.2.1 1, n, .inl (upd dk t (vp_nar .boolean 0)))) := pw_us
      refine pw_iload_n (pc := 35) hX dX1_light_35 0 rfl ?_
      exact pw_zretx hX dX1_light_36 hrt rfl ⟨by decide, by decide⟩ (by rw [ix_nI htB]; exact ⟨pc1_0 (fun h => h (ir_nI ht)), by rw [if_pos hc_1], by rw [show (if p1 = 0 then (1 : Int32) else 0) = vp_nar .boolean 0 from by rw [if_neg hc_15]; exact nar_0.symm]; exact (cw_dk hc _), (fm_up fm_rf (x := 3) (by omega) _)⟩)
    · refine pw_iconst (pc := 29) (v := 1) hX dX1_light_29 (by decide) ?_
      refine pw_goto (pc := 30) hX 34 dX1_light_30 (by decide) ?_
      refine pw_zast (pc := 34) (j := t) hX dX1_light_34 hc.2.2.2.1 ht (Nat.lt_of_le_of_lt (cw_n hc) (by decide)) ?_
      have hm_22 := pw_ke (a := ad 3) (e := .inl (G.2.2.1 1, n, .inl (upd dk t (vp_nar .boolean 1)))) hc.1 (cw_ne hc (x := 0) (y := 3) (by omega) (by omega) (by omega))
      have hm_23 := pw_ke (a := ad 3) (e := .inl (G.2.2.1 1, n, .inl (upd dk t (vp_nar .boolean 1)))) hc.2.1 (cw_ne hc (x := 1) (y := 3) (by omega) (by omega) (by omega))
      have hm_24 := pw_ke (a := ad 3) (e := .inl (G.2.2.1 1, n, .inl (upd dk t (vp_nar .boolean 1)))) hc.2.2.1 (cw_ne hc (x := 2) (y := 3) (by omega) (by omega) (by omega))
      have hm_25 := pw_ke (a := ad 3) (e := .inl (G.2.2.1 1, n, .inl (upd dk t (vp_nar .boolean 1)))) hc.2.2.2.2.1 (cw_ne hc (x := 4) (y := 3) (by omega) (by omega) (by omega))
      have hm_26 := pw_ke (a := ad 3) (e := .inl (G.2.2.1 1, n, .inl (upd dk t (vp_nar .boolean 1)))) hc.2.2.2.2.2.1 (cw_ne hc (x := 5) (y := 3) (by omega) (by omega) (by omega))
      have hm_27 : pw_up M (ad 3) (.inl (G.2.2.1 1, n, .inl (upd dk t (vp_nar .boolean 1)))) (ad 3) = some (.inl (G.2.2.1 1, n, .inl (upd dk t (vp_nar .boolean 1)))) := pw_us
      refine pw_iload_n (pc := 35) hX dX1_light_35 0 rfl ?_
      exact pw_zretx hX dX1_light_36 hrt rfl ⟨by decide, by decide⟩ (by rw [ix_nI htB]; exact ⟨pc1_0 (fun h => h (ir_nI ht)), by rw [if_pos hc_1], by rw [show (if p1 = 0 then (1 : Int32) else 0) = vp_nar .boolean 1 from by rw [if_pos hc_15]; exact nar_1.symm]; exact (cw_dk hc _), (fm_up fm_rf (x := 3) (by omega) _)⟩)
set_option maxHeartbeats 4000000 in
set_option maxRecDepth 100000 in
theorem cp_scan (l : Launch) (hl : l.stackTraces = false) (G : pw_G) (M : pw_M) (ad : Nat → Nat) (n oc : Nat) (td sd : Int32) (dk to er : Nat → Int32) (os pl : Nat → Int32) (oo : Nat → Option Nat) (wa pr de : Nat → Nat → Int32) (hc : cw G ad n oc td sd dk to er os pl oo wa pr de M) (p0 p1 p2 : Int32) : pw_XMet l yX1_scan cX1_scan 5 (some .int) 3 3 18 G [.ref (ad 0), .int p0, .int p1, .int p2] M (fun v9 M9 => cd_scan n p0 p1 p2 = 0 ∧ (oo (ix p0) = none ∧ v9 = some (.int (-1)) ∧ cw G ad n oc td sd dk to (upd er (ix p2) (er (ix p2) + 1)) os pl oo wa pr de M9 ∨ ∃ j r, oo (ix p0) = some j ∧ j < oc ∧ v9 = some (.int r) ∧ r = sc_r (dk (ix p0)) (wa j (ix p1)) (pr j (ix p1)) (os j) (to (ix p1)) ∧ (r = 1 ∧ cw G ad n oc td sd dk (upd to (ix p1) (to (ix p1) - 1)) er os pl oo wa (va_up pr j (upd (pr j) (ix p1) (pr j (ix p1) + 1))) de M9 ∨ r < 0 ∧ cw G ad n oc td sd dk to (upd er (ix p2) (er (ix p2) + 1)) os pl oo wa pr de M9)) ∧ fm ad (6 + 4 * oc) M M9) (fun E9 M9 => M = M9 ∧ (E9 = "java/lang/ArrayIndexOutOfBoundsException" ∧ cd_scan n p0 p1 p2 = 1 ∨ E9 = "java/lang/IllegalArgumentException" ∧ cd_scan n p0 p1 p2 = 2)) := by
  refine pw_ofx hl (by decide +kernel) (Nat.le_of_ble_eq_true rfl) [(0, .ref (ad 0)), (1, .int p0), (2, .int p1), (3, .int p2)] rfl ?_
  intro p9 e9 s9 m9 args9 below9 meth9 c9 hX hrt hex
  refine pw_aload_n (pc := 0) hX dX1_scan_0 0 rfl ?_
  refine pw_iload_n (pc := 1) hX dX1_scan_1 1 rfl ?_
  refine pw_callVx (pc := 2) (st := []) hX (ct_requireCell l hl G M ad n oc td sd dk to er os pl oo wa pr de hc p0) hc.1 rfl ok_X1_requireCell lk_RX1_93 dX1_scan_2 rfl ⟨⟨by decide, by decide⟩, Nat.le_of_ble_eq_true rfl, Nat.le_of_ble_eq_true rfl, Nat.le_of_ble_eq_true rfl⟩ rfl (fun E9 M9 hx9 => ?_) (fun v9 M9 hp9 => ?_)
  · obtain ⟨rfl, rfl, hno⟩ := hx9
    exact pw_out hX hex ⟨Nat.le_of_ble_eq_true rfl, Nat.le_of_ble_eq_true rfl⟩ (⟨rfl, Or.inl (⟨rfl, pc_t hno⟩)⟩)
  obtain ⟨rfl, rfl, t, ht, rfl⟩ := hp9
  have htB : t < 2 ^ 31 := Nat.lt_trans ht (Nat.lt_of_le_of_lt (cw_n hc) (by decide))
  refine pw_iload_n (pc := 5) hX dX1_scan_5 2 rfl ?_
  refine pw_callSx (pc := 6) (st := []) hX (ct_requireGood l hl G M p1) ok_X1_requireGood lk_RX1_48 dX1_scan_6 rfl ⟨⟨by decide, by decide⟩, Nat.le_of_ble_eq_true rfl, Nat.le_of_ble_eq_true rfl, Nat.le_of_ble_eq_true rfl⟩ rfl (fun E9 M9 hx9 => ?_) (fun v9 M9 hp9 => ?_)
  · obtain ⟨rfl, rfl, hno⟩ := hx9
    exact pw_out hX hex ⟨Nat.le_of_ble_eq_true rfl, Nat.le_of_ble_eq_true rfl⟩ (⟨rfl, Or.inr (⟨rfl, pc2_2 (fun h => h (ir_nI ht)) (fun h => hno h.1)⟩)⟩)
  obtain ⟨rfl, rfl, g, hg, rfl⟩ := hp9
  have hgB : g < 2 ^ 31 := Nat.lt_of_lt_of_le hg (by decide)
  refine pw_iload_n (pc := 9) hX dX1_scan_9 3 rfl ?_
  refine pw_callSx (pc := 10) (st := []) hX (ct_requirePerson l hl G M p2) ok_X1_requirePerson lk_RX1_96 dX1_scan_10 rfl ⟨⟨by decide, by decide⟩, Nat.le_of_ble_eq_true rfl, Nat.le_of_ble_eq_true rfl, Nat.le_of_ble_eq_true rfl⟩ rfl (fun E9 M9 hx9 => ?_) (fun v9 M9 hp9 => ?_)
  · obtain ⟨rfl, rfl, hno⟩ := hx9
    exact pw_out hX hex ⟨Nat.le_of_ble_eq_true rfl, Nat.le_of_ble_eq_true rfl⟩ (⟨rfl, Or.inr (⟨rfl, pc2_2 (fun h => h (ir_nI ht)) (fun h => hno h.2)⟩)⟩)
  obtain ⟨rfl, rfl, q, hq, rfl⟩ := hp9
  have hqB : q < 2 ^ 31 := Nat.lt_of_lt_of_le hq (by decide)
  refine pw_aload_n (pc := 13) hX dX1_scan_13 0 rfl ?_
  refine pw_aload_n (pc := 14) hX dX1_scan_14 0 rfl ?_
  refine pw_get (pc := 15) hX dX1_scan_15 hc.1 rfl inT_1 2 (by decide) fl_RX1_41 rfl ?_
  refine pw_iload_n (pc := 18) hX dX1_scan_18 1 rfl ?_
  refine pw_aald (pc := 19) (j := t) hX dX1_scan_19 hc.2.2.1 ht (Nat.lt_of_le_of_lt (cw_n hc) (by decide)) ?_
  rcases op_two (oo t) with ho_1 | ⟨j_2, ho_1⟩
  · refine pw_cg (vb := .null) (by show va_rf ((oo t).map _) = _; rw [ho_1]; rfl) ?_
    refine pw_aload_n (pc := 20) hX dX1_scan_20 0 rfl ?_
    refine pw_get (pc := 21) hX dX1_scan_21 hc.1 rfl inT_1 3 (by decide) fl_RX1_44 rfl ?_
    refine pw_iload_n (pc := 24) hX dX1_scan_24 1 rfl ?_
    refine pw_zald (pc := 25) (j := t) hX dX1_scan_25 hc.2.2.2.1 ht (Nat.lt_of_le_of_lt (cw_n hc) (by decide)) ?_
    refine pw_iload_n (pc := 26) hX dX1_scan_26 2 rfl ?_
    refine pw_callV (pc := 27) (st := []) hX (ct_putN l hl G M ad n oc td sd dk to er os pl oo wa pr de hc (dk t) g) hc.1 rfl ok_X1_put lk_RX1_99 dX1_scan_27 rfl ⟨⟨by decide, by decide⟩, Nat.le_of_ble_eq_true rfl, Nat.le_of_ble_eq_true rfl, Nat.le_of_ble_eq_true rfl⟩ rfl (fun v9 M9 hp9 => ?_)
    obtain ⟨rfl, rfl⟩ := hp9
    refine pw_istore (pc := 30) hX [(4, .int ((-1))), (0, .ref (ad 0)), (1, .int (nI t)), (2, .int (nI g)), (3, .int (nI q))] dX1_scan_30 (by decide) rfl ?_
    refine pw_iload (pc := 32) hX dX1_scan_32 0 rfl ?_
    refine pw_if_ge (pc := 34) hX 47 dX1_scan_34 (by decide) (fun h => absurd h (by decide)) (fun _ => ?_)
    refine pw_aload_n (pc := 37) hX dX1_scan_37 1 rfl ?_
    refine pw_get (pc := 38) hX dX1_scan_38 hc.1 rfl inT_1 5 (by decide) fl_RX1_23 rfl ?_
    refine pw_iload_n (pc := 41) hX dX1_scan_41 4 rfl ?_
    refine pw_dup2 (pc := 42) hX dX1_scan_42 rfl rfl ?_
    refine pw_iald (pc := 43) (j := q) hX dX1_scan_43 hc.2.2.2.2.2.1 hq (by decide) ?_
    refine pw_iconst (pc := 44) (v := 1) hX dX1_scan_44 (by decide) ?_
    refine pw_iadd (pc := 45) (z := (er q) + 1) hX dX1_scan_45 rfl ?_
    refine pw_iast (pc := 46) (j := q) hX dX1_scan_46 hc.2.2.2.2.2.1 hq (by decide) ?_
    have hm_4 := pw_ke (a := ad 5) (e := .inl (G.2.2.1 0, 8, .inl (upd er q ((er q) + 1)))) hc.1 (cw_ne hc (x := 0) (y := 5) (by omega) (by omega) (by omega))
    have hm_5 := pw_ke (a := ad 5) (e := .inl (G.2.2.1 0, 8, .inl (upd er q ((er q) + 1)))) hc.2.1 (cw_ne hc (x := 1) (y := 5) (by omega) (by omega) (by omega))
    have hm_6 := pw_ke (a := ad 5) (e := .inl (G.2.2.1 0, 8, .inl (upd er q ((er q) + 1)))) hc.2.2.1 (cw_ne hc (x := 2) (y := 5) (by omega) (by omega) (by omega))
    have hm_7 := pw_ke (a := ad 5) (e := .inl (G.2.2.1 0, 8, .inl (upd er q ((er q) + 1)))) hc.2.2.2.1 (cw_ne hc (x := 3) (y := 5) (by omega) (by omega) (by omega))
    have hm_8 := pw_ke (a := ad 5) (e := .inl (G.2.2.1 0, 8, .inl (upd er q ((er q) + 1)))) hc.2.2.2.2.1 (cw_ne hc (x := 4) (y := 5) (by omega) (by omega) (by omega))
    have hm_9 : pw_up M (ad 5) (.inl (G.2.2.1 0, 8, .inl (upd er q ((er q) + 1)))) (ad 5) = some (.inl (G.2.2.1 0, 8, .inl (upd er q ((er q) + 1)))) := pw_us
    refine pw_iload (pc := 47) hX dX1_scan_47 0 rfl ?_
    exact pw_iretx hX dX1_scan_49 hrt ⟨by decide, by decide⟩ (by rw [ix_nI htB, ix_nI hgB, ix_nI hqB]; exact ⟨pc2_0 (fun h => h (ir_nI ht)) (fun h => h ⟨ir_nI hg, ir_nI hq⟩), Or.inl ⟨ho_1, rfl, (cw_er hc _)⟩, (fm_up fm_rf (x := 5) (by omega) _)⟩)
  · have hj_2 : j_2 < oc := cw_oo hc t j_2 ht ho_1
    refine pw_cg (vb := .ref (ad (6 + 4 * j_2))) (by show va_rf ((oo t).map _) = _; rw [ho_1]; rfl) ?_
    refine pw_aload_n (pc := 20) hX dX1_scan_20 0 rfl ?_
    refine pw_get (pc := 21) hX dX1_scan_21 hc.1 rfl inT_1 3 (by decide) fl_RX1_44 rfl ?_
    refine pw_iload_n (pc := 24) hX dX1_scan_24 1 rfl ?_
    refine pw_zald (pc := 25) (j := t) hX dX1_scan_25 hc.2.2.2.1 ht (Nat.lt_of_le_of_lt (cw_n hc) (by decide)) ?_
    refine pw_iload_n (pc := 26) hX dX1_scan_26 2 rfl ?_
    refine pw_callV (pc := 27) (st := []) hX (ct_putS l hl G M ad n oc td sd dk to er os pl oo wa pr de hc j_2 hj_2 (dk t) g hg) hc.1 rfl ok_X1_put lk_RX1_99 dX1_scan_27 rfl ⟨⟨by decide, by decide⟩, Nat.le_of_ble_eq_true rfl, Nat.le_of_ble_eq_true rfl, Nat.le_of_ble_eq_true rfl⟩ rfl (fun v9 M9 hp9 => ?_)
    obtain ⟨r, rfl, hr, ⟨rfl, hcw, hfm⟩ | ⟨hlt, rfl⟩⟩ := hp9
    · refine pw_istore (pc := 30) hX [(4, .int 1), (0, .ref (ad 0)), (1, .int (nI t)), (2, .int (nI g)), (3, .int (nI q))] dX1_scan_30 (by decide) rfl ?_
      refine pw_iload (pc := 32) hX dX1_scan_32 0 rfl ?_
      refine pw_if_ge (pc := 34) hX 47 dX1_scan_34 (by decide) (fun _ => ?_) (fun h => absurd h (by decide))
      refine pw_iload (pc := 47) hX dX1_scan_47 0 rfl ?_
      exact pw_iretx hX dX1_scan_49 hrt ⟨by decide, by decide⟩ (by rw [ix_nI htB, ix_nI hgB, ix_nI hqB]; exact ⟨pc2_0 (fun h => h (ir_nI ht)) (fun h => h ⟨ir_nI hg, ir_nI hq⟩), Or.inr ⟨j_2, _, ho_1, hj_2, rfl, hr, Or.inl ⟨rfl, hcw⟩⟩, hfm⟩)
    · refine pw_istore (pc := 30) hX [(4, .int r), (0, .ref (ad 0)), (1, .int (nI t)), (2, .int (nI g)), (3, .int (nI q))] dX1_scan_30 (by decide) rfl ?_
      refine pw_iload (pc := 32) hX dX1_scan_32 0 rfl ?_
      refine pw_if_ge (pc := 34) hX 47 dX1_scan_34 (by decide) (fun hc_11 => absurd hc_11 (Int32.not_le.mpr hlt)) (fun hc_11 => ?_)
      refine pw_aload_n (pc := 37) hX dX1_scan_37 1 rfl ?_
      refine pw_get (pc := 38) hX dX1_scan_38 hc.1 rfl inT_1 5 (by decide) fl_RX1_23 rfl ?_
      refine pw_iload_n (pc := 41) hX dX1_scan_41 4 rfl ?_
      refine pw_dup2 (pc := 42) hX dX1_scan_42 rfl rfl ?_
      refine pw_iald (pc := 43) (j := q) hX dX1_scan_43 hc.2.2.2.2.2.1 hq (by decide) ?_
      refine pw_iconst (pc := 44) (v := 1) hX dX1_scan_44 (by decide) ?_
      refine pw_iadd (pc := 45) (z := (er q) + 1) hX dX1_scan_45 rfl ?_
      refine pw_iast (pc := 46) (j := q) hX dX1_scan_46 hc.2.2.2.2.2.1 hq (by decide) ?_
      have hm_12 := pw_ke (a := ad 5) (e := .inl (G.2.2.1 0, 8, .inl (upd er q ((er q) + 1)))) hc.1 (cw_ne hc (x := 0) (y := 5) (by omega) (by omega) (by omega))
      have hm_13 := pw_ke (a := ad 5) (e := .inl (G.2.2.1 0, 8, .inl (upd er q ((er q) + 1)))) hc.2.1 (cw_ne hc (x := 1) (y := 5) (by omega) (by omega) (by omega))
      have hm_14 := pw_ke (a := ad 5) (e := .inl (G.2.2.1 0, 8, .inl (upd er q ((er q) + 1)))) hc.2.2.1 (cw_ne hc (x := 2) (y := 5) (by omega) (by omega) (by omega))
      have hm_15 := pw_ke (a := ad 5) (e := .inl (G.2.2.1 0, 8, .inl (upd er q ((er q) + 1)))) hc.2.2.2.1 (cw_ne hc (x := 3) (y := 5) (by omega) (by omega) (by omega))
      have hm_16 := pw_ke (a := ad 5) (e := .inl (G.2.2.1 0, 8, .inl (upd er q ((er q) + 1)))) hc.2.2.2.2.1 (cw_ne hc (x := 4) (y := 5) (by omega) (by omega) (by omega))
      have hm_17 := pw_ke (a := ad 5) (e := .inl (G.2.2.1 0, 8, .inl (upd er q ((er q) + 1)))) (cw_o hc j_2 hj_2).1 (cw_ne hc (x := 6 + 4 * j_2) (y := 5) (by omega) (by omega) (by omega))
      have hm_18 := pw_ke (a := ad 5) (e := .inl (G.2.2.1 0, 8, .inl (upd er q ((er q) + 1)))) (cw_o hc j_2 hj_2).2.1 (cw_ne hc (x := 7 + 4 * j_2) (y := 5) (by omega) (by omega) (by omega))
      have hm_19 := pw_ke (a := ad 5) (e := .inl (G.2.2.1 0, 8, .inl (upd er q ((er q) + 1)))) (cw_o hc j_2 hj_2).2.2.1 (cw_ne hc (x := 8 + 4 * j_2) (y := 5) (by omega) (by omega) (by omega))
      have hm_20 := pw_ke (a := ad 5) (e := .inl (G.2.2.1 0, 8, .inl (upd er q ((er q) + 1)))) (cw_o hc j_2 hj_2).2.2.2 (cw_ne hc (x := 9 + 4 * j_2) (y := 5) (by omega) (by omega) (by omega))
      have hm_21 : pw_up M (ad 5) (.inl (G.2.2.1 0, 8, .inl (upd er q ((er q) + 1)))) (ad 5) = some (.inl (G.2.2.1 0, 8, .inl (upd er q ((er q) + 1)))) := pw_us
      refine pw_iload (pc := 47) hX dX1_scan_47 0 rfl ?_
      exact pw_iretx hX dX1_scan_49 hrt ⟨by decide, by decide⟩ (by rw [ix_nI htB, ix_nI hgB, ix_nI hqB]; exact ⟨pc2_0 (fun h => h (ir_nI ht)) (fun h => h ⟨ir_nI hg, ir_nI hq⟩), Or.inr ⟨j_2, _, ho_1, hj_2, rfl, hr, Or.inr ⟨hlt, (cw_er hc _)⟩⟩, (fm_up fm_rf (x := 5) (by omega) _)⟩)
set_option maxHeartbeats 4000000 in
set_option maxRecDepth 100000 in
theorem cp_undo (l : Launch) (hl : l.stackTraces = false) (G : pw_G) (M : pw_M) (ad : Nat → Nat) (n oc : Nat) (td sd : Int32) (dk to er : Nat → Int32) (os pl : Nat → Int32) (oo : Nat → Option Nat) (wa pr de : Nat → Nat → Int32) (hc : cw G ad n oc td sd dk to er os pl oo wa pr de M) (p0 p1 : Int32) : pw_XMet l yX1_undo cX1_undo 4 (some .int) 3 3 18 G [.ref (ad 0), .int p0, .int p1] M (fun v9 M9 => cd_undo n oo os pr p0 p1 = 0 ∧ ∃ j, oo (ix p0) = some j ∧ j < oc ∧ v9 = some (.int (pr j (ix p1) - 1)) ∧ cw G ad n oc td sd dk (upd to (ix p1) (to (ix p1) + 1)) er os pl oo wa (va_up pr j (upd (pr j) (ix p1) (pr j (ix p1) - 1))) de M9 ∧ fm ad (6 + 4 * oc) M M9) (fun E9 M9 => M = M9 ∧ (E9 = "java/lang/ArrayIndexOutOfBoundsException" ∧ cd_undo n oo os pr p0 p1 = 1 ∨ E9 = "java/lang/IllegalArgumentException" ∧ cd_undo n oo os pr p0 p1 = 2 ∨ E9 = "java/lang/IllegalStateException" ∧ cd_undo n oo os pr p0 p1 = 3)) := by
  refine pw_ofx hl (by decide +kernel) (Nat.le_of_ble_eq_true rfl) [(0, .ref (ad 0)), (1, .int p0), (2, .int p1)] rfl ?_
  intro p9 e9 s9 m9 args9 below9 meth9 c9 hX hrt hex
  refine pw_aload_n (pc := 0) hX dX1_undo_0 0 rfl ?_
  refine pw_iload_n (pc := 1) hX dX1_undo_1 1 rfl ?_
  refine pw_callVx (pc := 2) (st := []) hX (ct_requireCell l hl G M ad n oc td sd dk to er os pl oo wa pr de hc p0) hc.1 rfl ok_X1_requireCell lk_RX1_93 dX1_undo_2 rfl ⟨⟨by decide, by decide⟩, Nat.le_of_ble_eq_true rfl, Nat.le_of_ble_eq_true rfl, Nat.le_of_ble_eq_true rfl⟩ rfl (fun E9 M9 hx9 => ?_) (fun v9 M9 hp9 => ?_)
  · obtain ⟨rfl, rfl, hno⟩ := hx9
    exact pw_out hX hex ⟨Nat.le_of_ble_eq_true rfl, Nat.le_of_ble_eq_true rfl⟩ (⟨rfl, Or.inl (⟨rfl, pc_t hno⟩)⟩)
  obtain ⟨rfl, rfl, t, ht, rfl⟩ := hp9
  have htB : t < 2 ^ 31 := Nat.lt_trans ht (Nat.lt_of_le_of_lt (cw_n hc) (by decide))
  refine pw_iload_n (pc := 5) hX dX1_undo_5 2 rfl ?_
  refine pw_callSx (pc := 6) (st := []) hX (ct_requireGood l hl G M p1) ok_X1_requireGood lk_RX1_48 dX1_undo_6 rfl ⟨⟨by decide, by decide⟩, Nat.le_of_ble_eq_true rfl, Nat.le_of_ble_eq_true rfl, Nat.le_of_ble_eq_true rfl⟩ rfl (fun E9 M9 hx9 => ?_) (fun v9 M9 hp9 => ?_)
  · obtain ⟨rfl, rfl, hno⟩ := hx9
    exact pw_out hX hex ⟨Nat.le_of_ble_eq_true rfl, Nat.le_of_ble_eq_true rfl⟩ (⟨rfl, Or.inr (Or.inl (⟨rfl, pc3_2 (fun h => h (ir_nI ht)) hno⟩))⟩)
  obtain ⟨rfl, rfl, g, hg, rfl⟩ := hp9
  have hgB : g < 2 ^ 31 := Nat.lt_of_lt_of_le hg (by decide)
  refine pw_aload_n (pc := 9) hX dX1_undo_9 0 rfl ?_
  refine pw_get (pc := 10) hX dX1_undo_10 hc.1 rfl inT_1 2 (by decide) fl_RX1_41 rfl ?_
  refine pw_iload_n (pc := 13) hX dX1_undo_13 1 rfl ?_
  refine pw_aald (pc := 14) (j := t) hX dX1_undo_14 hc.2.2.1 ht (Nat.lt_of_le_of_lt (cw_n hc) (by decide)) ?_
  rcases op_two (oo t) with ho_1 | ⟨j_2, ho_1⟩
  · refine pw_cg (vb := .null) (by show va_rf ((oo t).map _) = _; rw [ho_1]; rfl) ?_
    refine pw_astore_nN (pc := 15) hX [(3, .null), (0, .ref (ad 0)), (1, .int (nI t)), (2, .int (nI g))] dX1_undo_15 (by decide) rfl ?_
    refine pw_aload_nN (pc := 16) hX dX1_undo_16 0 rfl ?_
    refine pw_ifnullN (pc := 17) hX 37 dX1_undo_17 (by decide) ?_
    exact pw_throw (pc := 37) (names := ["java/lang/RuntimeException", "java/lang/Exception"]) (text := "nothing to undo") hX hex dX1_undo_37 dX1_undo_40 dX1_undo_41 dX1_undo_43 dX1_undo_46 rfl ⟨by decide +kernel, by decide +kernel⟩ th_RX1_106 (by decide +kernel) ta_RX1_110 tg_RX1_110 ⟨by decide, Nat.le_of_ble_eq_true rfl, Nat.le_of_ble_eq_true rfl, Nat.le_of_ble_eq_true rfl⟩ ⟨Nat.le_of_ble_eq_true rfl, Nat.le_of_ble_eq_true rfl⟩ ⟨rfl, Or.inr (Or.inr (⟨rfl, pc3_3 (fun h => h (ir_nI ht)) (fun h => h (ir_nI hg)) (by rw [ix_nI htB]; intro j hj; rw [ho_1] at hj; cases hj)⟩))⟩
  · have hj_2 : j_2 < oc := cw_oo hc t j_2 ht ho_1
    refine pw_cg (vb := .ref (ad (6 + 4 * j_2))) (by show va_rf ((oo t).map _) = _; rw [ho_1]; rfl) ?_
    refine pw_astore_n (pc := 15) hX [(3, .ref (ad (6 + 4 * j_2))), (0, .ref (ad 0)), (1, .int (nI t)), (2, .int (nI g))] dX1_undo_15 (by decide) rfl ?_
    refine pw_aload_n (pc := 16) hX dX1_undo_16 0 rfl ?_
    refine pw_ifnull (pc := 17) hX dX1_undo_17  ?_
    refine pw_aload_n (pc := 20) hX dX1_undo_20 0 rfl ?_
    refine pw_get (pc := 21) hX dX1_undo_21 (cw_o hc j_2 hj_2).1 rfl inT_0 1 (by decide) fl_RX1_69 rfl ?_
    refine pw_iconst (pc := 24) (v := 2) hX dX1_undo_24 (by decide) ?_
    refine pw_icmp_eq (pc := 25) hX 37 dX1_undo_25 (by decide) (fun hc_3 => ?_) (fun hc_3 => ?_)
    · exact pw_throw (pc := 37) (names := ["java/lang/RuntimeException", "java/lang/Exception"]) (text := "nothing to undo") hX hex dX1_undo_37 dX1_undo_40 dX1_undo_41 dX1_undo_43 dX1_undo_46 rfl ⟨by decide +kernel, by decide +kernel⟩ th_RX1_106 (by decide +kernel) ta_RX1_110 tg_RX1_110 ⟨by decide, Nat.le_of_ble_eq_true rfl, Nat.le_of_ble_eq_true rfl, Nat.le_of_ble_eq_true rfl⟩ ⟨Nat.le_of_ble_eq_true rfl, Nat.le_of_ble_eq_true rfl⟩ ⟨rfl, Or.inr (Or.inr (⟨rfl, pc3_3 (fun h => h (ir_nI ht)) (fun h => h (ir_nI hg)) (by rw [ix_nI htB]; intro j hj; rw [ho_1] at hj; cases hj; exact Or.inl hc_3)⟩))⟩
    · refine pw_aload_n (pc := 28) hX dX1_undo_28 0 rfl ?_
      refine pw_get (pc := 29) hX dX1_undo_29 (cw_o hc j_2 hj_2).1 rfl inT_0 4 (by decide) fl_RX1_103 rfl ?_
      refine pw_iload_n (pc := 32) hX dX1_undo_32 3 rfl ?_
      refine pw_iald (pc := 33) (j := g) hX dX1_undo_33 (cw_o hc j_2 hj_2).2.2.1 hg (by decide) ?_
      refine pw_if_ne (pc := 34) hX 47 dX1_undo_34 (by decide) (fun hc_4 => ?_) (fun hc_4 => ?_)
      · refine pw_aload_n (pc := 47) hX dX1_undo_47 0 rfl ?_
        refine pw_get (pc := 48) hX dX1_undo_48 (cw_o hc j_2 hj_2).1 rfl inT_0 4 (by decide) fl_RX1_103 rfl ?_
        refine pw_iload_n (pc := 51) hX dX1_undo_51 3 rfl ?_
        refine pw_dup2 (pc := 52) hX dX1_undo_52 rfl rfl ?_
        refine pw_iald (pc := 53) (j := g) hX dX1_undo_53 (cw_o hc j_2 hj_2).2.2.1 hg (by decide) ?_
        refine pw_iconst (pc := 54) (v := 1) hX dX1_undo_54 (by decide) ?_
        refine pw_isub (pc := 55) (z := ((pr j_2) g) - 1) hX dX1_undo_55 rfl ?_
        refine pw_iast (pc := 56) (j := g) hX dX1_undo_56 (cw_o hc j_2 hj_2).2.2.1 hg (by decide) ?_
        have hm_5 := pw_ke (a := ad (8 + 4 * j_2)) (e := .inl (G.2.2.1 0, 10, .inl (upd (pr j_2) g (((pr j_2) g) - 1)))) hc.1 (cw_ne hc (x := 0) (y := 8 + 4 * j_2) (by omega) (by omega) (by omega))
        have hm_6 := pw_ke (a := ad (8 + 4 * j_2)) (e := .inl (G.2.2.1 0, 10, .inl (upd (pr j_2) g (((pr j_2) g) - 1)))) hc.2.1 (cw_ne hc (x := 1) (y := 8 + 4 * j_2) (by omega) (by omega) (by omega))
        have hm_7 := pw_ke (a := ad (8 + 4 * j_2)) (e := .inl (G.2.2.1 0, 10, .inl (upd (pr j_2) g (((pr j_2) g) - 1)))) hc.2.2.1 (cw_ne hc (x := 2) (y := 8 + 4 * j_2) (by omega) (by omega) (by omega))
        have hm_8 := pw_ke (a := ad (8 + 4 * j_2)) (e := .inl (G.2.2.1 0, 10, .inl (upd (pr j_2) g (((pr j_2) g) - 1)))) hc.2.2.2.1 (cw_ne hc (x := 3) (y := 8 + 4 * j_2) (by omega) (by omega) (by omega))
        have hm_9 := pw_ke (a := ad (8 + 4 * j_2)) (e := .inl (G.2.2.1 0, 10, .inl (upd (pr j_2) g (((pr j_2) g) - 1)))) hc.2.2.2.2.1 (cw_ne hc (x := 4) (y := 8 + 4 * j_2) (by omega) (by omega) (by omega))
        have hm_10 := pw_ke (a := ad (8 + 4 * j_2)) (e := .inl (G.2.2.1 0, 10, .inl (upd (pr j_2) g (((pr j_2) g) - 1)))) hc.2.2.2.2.2.1 (cw_ne hc (x := 5) (y := 8 + 4 * j_2) (by omega) (by omega) (by omega))
        have hm_11 := pw_ke (a := ad (8 + 4 * j_2)) (e := .inl (G.2.2.1 0, 10, .inl (upd (pr j_2) g (((pr j_2) g) - 1)))) (cw_o hc j_2 hj_2).1 (cw_ne hc (x := 6 + 4 * j_2) (y := 8 + 4 * j_2) (by omega) (by omega) (by omega))
        have hm_12 := pw_ke (a := ad (8 + 4 * j_2)) (e := .inl (G.2.2.1 0, 10, .inl (upd (pr j_2) g (((pr j_2) g) - 1)))) (cw_o hc j_2 hj_2).2.1 (cw_ne hc (x := 7 + 4 * j_2) (y := 8 + 4 * j_2) (by omega) (by omega) (by omega))
        have hm_13 := pw_ke (a := ad (8 + 4 * j_2)) (e := .inl (G.2.2.1 0, 10, .inl (upd (pr j_2) g (((pr j_2) g) - 1)))) (cw_o hc j_2 hj_2).2.2.2 (cw_ne hc (x := 9 + 4 * j_2) (y := 8 + 4 * j_2) (by omega) (by omega) (by omega))
        have hm_14 : pw_up M (ad (8 + 4 * j_2)) (.inl (G.2.2.1 0, 10, .inl (upd (pr j_2) g (((pr j_2) g) - 1)))) (ad (8 + 4 * j_2)) = some (.inl (G.2.2.1 0, 10, .inl (upd (pr j_2) g (((pr j_2) g) - 1)))) := pw_us
        refine pw_aload_n (pc := 57) hX dX1_undo_57 1 rfl ?_
        refine pw_get (pc := 58) hX dX1_undo_58 hm_5 rfl inT_1 4 (by decide) fl_RX1_19 rfl ?_
        refine pw_iload_n (pc := 61) hX dX1_undo_61 3 rfl ?_
        refine pw_dup2 (pc := 62) hX dX1_undo_62 rfl rfl ?_
        refine pw_iald (pc := 63) (j := g) hX dX1_undo_63 hm_9 hg (by decide) ?_
        refine pw_iconst (pc := 64) (v := 1) hX dX1_undo_64 (by decide) ?_
        refine pw_iadd (pc := 65) (z := (to g) + 1) hX dX1_undo_65 rfl ?_
        refine pw_iast (pc := 66) (j := g) hX dX1_undo_66 hm_9 hg (by decide) ?_
        have hm_15 := pw_ke (a := ad 4) (e := .inl (G.2.2.1 0, 10, .inl (upd to g ((to g) + 1)))) hm_5 (cw_ne hc (x := 0) (y := 4) (by omega) (by omega) (by omega))
        have hm_16 := pw_ke (a := ad 4) (e := .inl (G.2.2.1 0, 10, .inl (upd to g ((to g) + 1)))) hm_6 (cw_ne hc (x := 1) (y := 4) (by omega) (by omega) (by omega))
        have hm_17 := pw_ke (a := ad 4) (e := .inl (G.2.2.1 0, 10, .inl (upd to g ((to g) + 1)))) hm_7 (cw_ne hc (x := 2) (y := 4) (by omega) (by omega) (by omega))
        have hm_18 := pw_ke (a := ad 4) (e := .inl (G.2.2.1 0, 10, .inl (upd to g ((to g) + 1)))) hm_8 (cw_ne hc (x := 3) (y := 4) (by omega) (by omega) (by omega))
        have hm_19 := pw_ke (a := ad 4) (e := .inl (G.2.2.1 0, 10, .inl (upd to g ((to g) + 1)))) hm_10 (cw_ne hc (x := 5) (y := 4) (by omega) (by omega) (by omega))
        have hm_20 := pw_ke (a := ad 4) (e := .inl (G.2.2.1 0, 10, .inl (upd to g ((to g) + 1)))) hm_11 (cw_ne hc (x := 6 + 4 * j_2) (y := 4) (by omega) (by omega) (by omega))
        have hm_21 := pw_ke (a := ad 4) (e := .inl (G.2.2.1 0, 10, .inl (upd to g ((to g) + 1)))) hm_12 (cw_ne hc (x := 7 + 4 * j_2) (y := 4) (by omega) (by omega) (by omega))
        have hm_22 := pw_ke (a := ad 4) (e := .inl (G.2.2.1 0, 10, .inl (upd to g ((to g) + 1)))) hm_14 (cw_ne hc (x := 8 + 4 * j_2) (y := 4) (by omega) (by omega) (by omega))
        have hm_23 := pw_ke (a := ad 4) (e := .inl (G.2.2.1 0, 10, .inl (upd to g ((to g) + 1)))) hm_13 (cw_ne hc (x := 9 + 4 * j_2) (y := 4) (by omega) (by omega) (by omega))
        have hm_24 : pw_up (pw_up M (ad (8 + 4 * j_2)) (.inl (G.2.2.1 0, 10, .inl (upd (pr j_2) g (((pr j_2) g) - 1))))) (ad 4) (.inl (G.2.2.1 0, 10, .inl (upd to g ((to g) + 1)))) (ad 4) = some (.inl (G.2.2.1 0, 10, .inl (upd to g ((to g) + 1)))) := pw_us
        refine pw_aload_n (pc := 67) hX dX1_undo_67 0 rfl ?_
        refine pw_get (pc := 68) hX dX1_undo_68 hm_20 rfl inT_0 4 (by decide) fl_RX1_103 rfl ?_
        refine pw_iload_n (pc := 71) hX dX1_undo_71 3 rfl ?_
        refine pw_iald (pc := 72) (j := g) hX dX1_undo_72 hm_22 hg (by decide) ?_
        exact pw_iretx hX dX1_undo_73 hrt ⟨by decide, by decide⟩ (by rw [ix_nI htB, ix_nI hgB]; exact ⟨pc3_0 (fun h => h (ir_nI ht)) (fun h => h (ir_nI hg)) (by rw [ix_nI htB, ix_nI hgB]; intro h; exact (h j_2 ho_1).elim hc_3 hc_4), j_2, ho_1, hj_2, congrArg some (congrArg Value.int (pw_ld _ _ _)), (cw_to (cw_pr hc j_2 hj_2 _) _), (fm_up (fm_up fm_rf (x := 8 + 4 * j_2) (by omega) _) (x := 4) (by omega) _)⟩)
      · exact pw_throw (pc := 37) (names := ["java/lang/RuntimeException", "java/lang/Exception"]) (text := "nothing to undo") hX hex dX1_undo_37 dX1_undo_40 dX1_undo_41 dX1_undo_43 dX1_undo_46 rfl ⟨by decide +kernel, by decide +kernel⟩ th_RX1_106 (by decide +kernel) ta_RX1_110 tg_RX1_110 ⟨by decide, Nat.le_of_ble_eq_true rfl, Nat.le_of_ble_eq_true rfl, Nat.le_of_ble_eq_true rfl⟩ ⟨Nat.le_of_ble_eq_true rfl, Nat.le_of_ble_eq_true rfl⟩ ⟨rfl, Or.inr (Or.inr (⟨rfl, pc3_3 (fun h => h (ir_nI ht)) (fun h => h (ir_nI hg)) (by rw [ix_nI htB, ix_nI hgB]; intro j hj; rw [ho_1] at hj; cases hj; exact Or.inr hc_4)⟩))⟩
