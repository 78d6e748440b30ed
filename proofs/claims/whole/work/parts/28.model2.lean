set_option maxHeartbeats 4000000 in
set_option maxRecDepth 100000 in
theorem mp_tote (l : Launch) (hl : l.stackTraces = false) (G : pw_G) (M : pw_M) (am : Nat → Nat) (n oc : Nat) (td th : Int32) (sL : Int64) (dk to er os pl : Nat → Int32) (wa pr la : Nat → Nat → Int32) (hm : mw G am n oc td th sL dk to er os pl wa pr la M) (p0 p1 : Int32) : pw_Met l yX2_tote cX2_tote 3 (some .int) 3 0 0 G [.ref (am 0), .int p0, .int p1] M (fun v9 M9 => (cd_tote p0 p1 = 0 ∧ v9 = some (.int (to (ix p0) + p1)) ∧ mw G am n oc td 0 sL dk (upd to (ix p0) (to (ix p0) + p1)) er os pl wa pr la M9 ∨ ¬ cd_tote p0 p1 = 0 ∧ (∃ z, v9 = some (.int z)) ∧ mw G am n oc td (cd_tote p0 p1) sL dk to er os pl wa pr la M9) ∧ fm am 9 M M9) := by
  refine pw_of hl (by decide +kernel) (Nat.le_of_ble_eq_true rfl) [(0, .ref (am 0)), (1, .int p0), (2, .int p1)] rfl ?_
  intro p9 e9 s9 m9 args9 below9 meth9 c9 hX hrt hmi
  refine pw_aload_n (pc := 0) hX dX2_tote_0 0 rfl ?_
  refine pw_iload_n (pc := 1) hX dX2_tote_1 1 rfl ?_
  refine pw_bipush (pc := 2) (v := 10) hX dX2_tote_2 (by decide) ?_
  refine pw_callS (pc := 4) (st := [.ref (am 0)]) hX (mt_below l hl G M p0 10 (by decide)) ok_X2_below lk_RX2_53 dX2_tote_4 rfl ⟨⟨by decide, by decide⟩, Nat.le_of_ble_eq_true rfl, Nat.le_of_ble_eq_true rfl, Nat.le_of_ble_eq_true rfl⟩ rfl (fun v9 M9 hp9 => ?_)
  obtain ⟨rfl, ⟨rfl, g, hg, rfl⟩ | ⟨rfl, hno_p0⟩⟩ := hp9
  · have hgB : g < 2 ^ 31 := Nat.lt_of_lt_of_le hg (by decide)
    refine pw_if_eq (pc := 7) hX 25 dX2_tote_7 (by decide) (fun h => absurd h (by decide)) (fun _ => ?_)
    refine pw_iload_n (pc := 10) hX dX2_tote_10 2 rfl ?_
    refine pw_iconst (pc := 11) (v := 1) hX dX2_tote_11 (by decide) ?_
    refine pw_icmp_lt (pc := 12) hX 25 dX2_tote_12 (by decide) (fun hc_2 => ?_) (fun hc_2 => ?_)
    · refine pw_iconst (pc := 25) (v := 1) hX dX2_tote_25 (by decide) ?_
      refine pw_put (pc := 26) (v := .int 1) hX dX2_tote_26 hm.1 rfl inT_2 tyX2 tyX2_ok nmX2 5 (by decide) fl_RX2_43 rfl (tyX2_ok 5 (by decide)) rfl rfl (Nat.le_of_ble_eq_true rfl) [.int (nI n), .ref (am 1), .ref (am 2), .int (nI oc), .int td, .int 1, .long sL, .ref (am 3), .ref (am 4), .ref (am 5), .ref (am 6), .ref (am 7), .ref (am 8)] rfl ?_
      have hm_3 := pw_ke (a := am 0) (e := .inr (2, [.int (nI n), .ref (am 1), .ref (am 2), .int (nI oc), .int td, .int 1, .long sL, .ref (am 3), .ref (am 4), .ref (am 5), .ref (am 6), .ref (am 7), .ref (am 8)])) hm.2.1 (mw_ne hm (x := 1) (y := 0) (by decide) (by decide) (by decide))
      have hm_4 := pw_ke (a := am 0) (e := .inr (2, [.int (nI n), .ref (am 1), .ref (am 2), .int (nI oc), .int td, .int 1, .long sL, .ref (am 3), .ref (am 4), .ref (am 5), .ref (am 6), .ref (am 7), .ref (am 8)])) hm.2.2.1 (mw_ne hm (x := 2) (y := 0) (by decide) (by decide) (by decide))
      have hm_5 := pw_ke (a := am 0) (e := .inr (2, [.int (nI n), .ref (am 1), .ref (am 2), .int (nI oc), .int td, .int 1, .long sL, .ref (am 3), .ref (am 4), .ref (am 5), .ref (am 6), .ref (am 7), .ref (am 8)])) hm.2.2.2.1 (mw_ne hm (x := 3) (y := 0) (by decide) (by decide) (by decide))
      have hm_6 := pw_ke (a := am 0) (e := .inr (2, [.int (nI n), .ref (am 1), .ref (am 2), .int (nI oc), .int td, .int 1, .long sL, .ref (am 3), .ref (am 4), .ref (am 5), .ref (am 6), .ref (am 7), .ref (am 8)])) hm.2.2.2.2.1 (mw_ne hm (x := 4) (y := 0) (by decide) (by decide) (by decide))
      have hm_7 := pw_ke (a := am 0) (e := .inr (2, [.int (nI n), .ref (am 1), .ref (am 2), .int (nI oc), .int td, .int 1, .long sL, .ref (am 3), .ref (am 4), .ref (am 5), .ref (am 6), .ref (am 7), .ref (am 8)])) hm.2.2.2.2.2.1 (mw_ne hm (x := 5) (y := 0) (by decide) (by decide) (by decide))
      have hm_8 := pw_ke (a := am 0) (e := .inr (2, [.int (nI n), .ref (am 1), .ref (am 2), .int (nI oc), .int td, .int 1, .long sL, .ref (am 3), .ref (am 4), .ref (am 5), .ref (am 6), .ref (am 7), .ref (am 8)])) hm.2.2.2.2.2.2.1 (mw_ne hm (x := 6) (y := 0) (by decide) (by decide) (by decide))
      have hm_9 := pw_ke (a := am 0) (e := .inr (2, [.int (nI n), .ref (am 1), .ref (am 2), .int (nI oc), .int td, .int 1, .long sL, .ref (am 3), .ref (am 4), .ref (am 5), .ref (am 6), .ref (am 7), .ref (am 8)])) hm.2.2.2.2.2.2.2.1 (mw_ne hm (x := 7) (y := 0) (by decide) (by decide) (by decide))
      have hm_10 := pw_ke (a := am 0) (e := .inr (2, [.int (nI n), .ref (am 1), .ref (am 2), .int (nI oc), .int td, .int 1, .long sL, .ref (am 3), .ref (am 4), .ref (am 5), .ref (am 6), .ref (am 7), .ref (am 8)])) hm.2.2.2.2.2.2.2.2.1 (mw_ne hm (x := 8) (y := 0) (by decide) (by decide) (by decide))
      have hm_11 : pw_up M (am 0) (.inr (2, [.int (nI n), .ref (am 1), .ref (am 2), .int (nI oc), .int td, .int 1, .long sL, .ref (am 3), .ref (am 4), .ref (am 5), .ref (am 6), .ref (am 7), .ref (am 8)])) (am 0) = some (.inr (2, [.int (nI n), .ref (am 1), .ref (am 2), .int (nI oc), .int td, .int 1, .long sL, .ref (am 3), .ref (am 4), .ref (am 5), .ref (am 6), .ref (am 7), .ref (am 8)])) := pw_us
      refine pw_aload_n (pc := 29) hX dX2_tote_29 0 rfl ?_
      refine pw_get (pc := 30) hX dX2_tote_30 hm_11 rfl inT_2 5 (by decide) fl_RX2_43 rfl ?_
      refine pw_if_eq (pc := 33) hX 38 dX2_tote_33 (by decide) (fun h => absurd h (by decide)) (fun _ => ?_)
      refine pw_iconst (pc := 36) (v := 0) hX dX2_tote_36 (by decide) ?_
      exact pw_iret hX dX2_tote_37 hrt ⟨by decide, by decide⟩ ⟨Or.inr ⟨by rw [show cd_tote (nI g) p1 = 1 from pc1_1 (fun h => absurd h.2.1 (Int32.not_le.mpr hc_2))]; decide, ⟨_, rfl⟩, by rw [show cd_tote (nI g) p1 = 1 from pc1_1 (fun h => absurd h.2.1 (Int32.not_le.mpr hc_2))]; exact (mw_ob hm (oc) (mw_oc hm) td 1 sL)⟩, (fm_up fm_rf (x := 0) (by decide) _)⟩
    · refine pw_iload_n (pc := 15) hX dX2_tote_15 2 rfl ?_
      refine pw_bipush (pc := 16) (v := 100) hX dX2_tote_16 (by decide) ?_
      refine pw_icmp_gt (pc := 18) hX 25 dX2_tote_18 (by decide) (fun hc_13 => ?_) (fun hc_13 => ?_)
      · refine pw_iconst (pc := 25) (v := 1) hX dX2_tote_25 (by decide) ?_
        refine pw_put (pc := 26) (v := .int 1) hX dX2_tote_26 hm.1 rfl inT_2 tyX2 tyX2_ok nmX2 5 (by decide) fl_RX2_43 rfl (tyX2_ok 5 (by decide)) rfl rfl (Nat.le_of_ble_eq_true rfl) [.int (nI n), .ref (am 1), .ref (am 2), .int (nI oc), .int td, .int 1, .long sL, .ref (am 3), .ref (am 4), .ref (am 5), .ref (am 6), .ref (am 7), .ref (am 8)] rfl ?_
        have hm_14 := pw_ke (a := am 0) (e := .inr (2, [.int (nI n), .ref (am 1), .ref (am 2), .int (nI oc), .int td, .int 1, .long sL, .ref (am 3), .ref (am 4), .ref (am 5), .ref (am 6), .ref (am 7), .ref (am 8)])) hm.2.1 (mw_ne hm (x := 1) (y := 0) (by decide) (by decide) (by decide))
        have hm_15 := pw_ke (a := am 0) (e := .inr (2, [.int (nI n), .ref (am 1), .ref (am 2), .int (nI oc), .int td, .int 1, .long sL, .ref (am 3), .ref (am 4), .ref (am 5), .ref (am 6), .ref (am 7), .ref (am 8)])) hm.2.2.1 (mw_ne hm (x := 2) (y := 0) (by decide) (by decide) (by decide))
        have hm_16 := pw_ke (a := am 0) (e := .inr (2, [.int (nI n), .ref (am 1), .ref (am 2), .int (nI oc), .int td, .int 1, .long sL, .ref (am 3), .ref (am 4), .ref (am 5), .ref (am 6), .ref (am 7), .ref (am 8)])) hm.2.2.2.1 (mw_ne hm (x := 3) (y := 0) (by decide) (by decide) (by decide))
        have hm_17 := pw_ke (a := am 0) (e := .inr (2, [.int (nI n), .ref (am 1), .ref (am 2), .int (nI oc), .int td, .int 1, .long sL, .ref (am 3), .ref (am 4), .ref (am 5), .ref (am 6), .ref (am 7), .ref (am 8)])) hm.2.2.2.2.1 (mw_ne hm (x := 4) (y := 0) (by decide) (by decide) (by decide))
        have hm_18 := pw_ke (a := am 0) (e := .inr (2, [.int (nI n), .ref (am 1), .ref (am 2), .int (nI oc), .int td, .int 1, .long sL, .ref (am 3), .ref (am 4), .ref (am 5), .ref (am 6), .ref (am 7), .ref (am 8)])) hm.2.2.2.2.2.1 (mw_ne hm (x := 5) (y := 0) (by decide) (by decide) (by decide))
        have hm_19 := pw_ke (a := am 0) (e := .inr (2, [.int (nI n), .ref (am 1), .ref (am 2), .int (nI oc), .int td, .int 1, .long sL, .ref (am 3), .ref (am 4), .ref (am 5), .ref (am 6), .ref (am 7), .ref (am 8)])) hm.2.2.2.2.2.2.1 (mw_ne hm (x := 6) (y := 0) (by decide) (by decide) (by decide))
        have hm_20 := pw_ke (a := am 0) (e := .inr (2, [.int (nI n), .ref (am 1), .ref (am 2), .int (nI oc), .int td, .int 1, .long sL, .ref (am 3), .ref (am 4), .ref (am 5), .ref (am 6), .ref (am 7), .ref (am 8)])) hm.2.2.2.2.2.2.2.1 (mw_ne hm (x := 7) (y := 0) (by decide) (by decide) (by decide))
        have hm_21 := pw_ke (a := am 0) (e := .inr (2, [.int (nI n), .ref (am 1), .ref (am 2), .int (nI oc), .int td, .int 1, .long sL, .ref (am 3), .ref (am 4), .ref (am 5), .ref (am 6), .ref (am 7), .ref (am 8)])) hm.2.2.2.2.2.2.2.2.1 (mw_ne hm (x := 8) (y := 0) (by decide) (by decide) (by decide))
        have hm_22 : pw_up M (am 0) (.inr (2, [.int (nI n), .ref (am 1), .ref (am 2), .int (nI oc), .int td, .int 1, .long sL, .ref (am 3), .ref (am 4), .ref (am 5), .ref (am 6), .ref (am 7), .ref (am 8)])) (am 0) = some (.inr (2, [.int (nI n), .ref (am 1), .ref (am 2), .int (nI oc), .int td, .int 1, .long sL, .ref (am 3), .ref (am 4), .ref (am 5), .ref (am 6), .ref (am 7), .ref (am 8)])) := pw_us
        refine pw_aload_n (pc := 29) hX dX2_tote_29 0 rfl ?_
        refine pw_get (pc := 30) hX dX2_tote_30 hm_22 rfl inT_2 5 (by decide) fl_RX2_43 rfl ?_
        refine pw_if_eq (pc := 33) hX 38 dX2_tote_33 (by decide) (fun h => absurd h (by decide)) (fun _ => ?_)
        refine pw_iconst (pc := 36) (v := 0) hX dX2_tote_36 (by decide) ?_
        exact pw_iret hX dX2_tote_37 hrt ⟨by decide, by decide⟩ ⟨Or.inr ⟨by rw [show cd_tote (nI g) p1 = 1 from pc1_1 (fun h => absurd h.2.2 (Int32.not_le.mpr hc_13))]; decide, ⟨_, rfl⟩, by rw [show cd_tote (nI g) p1 = 1 from pc1_1 (fun h => absurd h.2.2 (Int32.not_le.mpr hc_13))]; exact (mw_ob hm (oc) (mw_oc hm) td 1 sL)⟩, (fm_up fm_rf (x := 0) (by decide) _)⟩
      · refine pw_iconst (pc := 21) (v := 0) hX dX2_tote_21 (by decide) ?_
        refine pw_goto (pc := 22) hX 26 dX2_tote_22 (by decide) ?_
        refine pw_put (pc := 26) (v := .int 0) hX dX2_tote_26 hm.1 rfl inT_2 tyX2 tyX2_ok nmX2 5 (by decide) fl_RX2_43 rfl (tyX2_ok 5 (by decide)) rfl rfl (Nat.le_of_ble_eq_true rfl) [.int (nI n), .ref (am 1), .ref (am 2), .int (nI oc), .int td, .int 0, .long sL, .ref (am 3), .ref (am 4), .ref (am 5), .ref (am 6), .ref (am 7), .ref (am 8)] rfl ?_
        have hm_24 := pw_ke (a := am 0) (e := .inr (2, [.int (nI n), .ref (am 1), .ref (am 2), .int (nI oc), .int td, .int 0, .long sL, .ref (am 3), .ref (am 4), .ref (am 5), .ref (am 6), .ref (am 7), .ref (am 8)])) hm.2.1 (mw_ne hm (x := 1) (y := 0) (by decide) (by decide) (by decide))
        have hm_25 := pw_ke (a := am 0) (e := .inr (2, [.int (nI n), .ref (am 1), .ref (am 2), .int (nI oc), .int td, .int 0, .long sL, .ref (am 3), .ref (am 4), .ref (am 5), .ref (am 6), .ref (am 7), .ref (am 8)])) hm.2.2.1 (mw_ne hm (x := 2) (y := 0) (by decide) (by decide) (by decide))
        have hm_26 := pw_ke (a := am 0) (e := .inr (2, [.int (nI n), .ref (am 1), .ref (am 2), .int (nI oc), .int td, .int 0, .long sL, .ref (am 3), .ref (am 4), .ref (am 5), .ref (am 6), .ref (am 7), .ref (am 8)])) hm.2.2.2.1 (mw_ne hm (x := 3) (y := 0) (by decide) (by decide) (by decide))
        have hm_27 := pw_ke (a := am 0) (e := .inr (2, [.int (nI n), .ref (am 1), .ref (am 2), .int (nI oc), .int td, .int 0, .long sL, .ref (am 3), .ref (am 4), .ref (am 5), .ref (am 6), .ref (am 7), .ref (am 8)])) hm.2.2.2.2.1 (mw_ne hm (x := 4) (y := 0) (by decide) (by decide) (by decide))
        have hm_28 := pw_ke (a := am 0) (e := .inr (2, [.int (nI n), .ref (am 1), .ref (am 2), .int (nI oc), .int td, .int 0, .long sL, .ref (am 3), .ref (am 4), .ref (am 5), .ref (am 6), .ref (am 7), .ref (am 8)])) hm.2.2.2.2.2.1 (mw_ne hm (x := 5) (y := 0) (by decide) (by decide) (by decide))
        have hm_29 := pw_ke (a := am 0) (e := .inr (2, [.int (nI n), .ref (am 1), .ref (am 2), .int (nI oc), .int td, .int 0, .long sL, .ref (am 3), .ref (am 4), .ref (am 5), .ref (am 6), .ref (am 7), .ref (am 8)])) hm.2.2.2.2.2.2.1 (mw_ne hm (x := 6) (y := 0) (by decide) (by decide) (by decide))
        have hm_30 := pw_ke (a := am 0) (e := .inr (2, [.int (nI n), .ref (am 1), .ref (am 2), .int (nI oc), .int td, .int 0, .long sL, .ref (am 3), .ref (am 4), .ref (am 5), .ref (am 6), .ref (am 7), .ref (am 8)])) hm.2.2.2.2.2.2.2.1 (mw_ne hm (x := 7) (y := 0) (by decide) (by decide) (by decide))
        have hm_31 := pw_ke (a := am 0) (e := .inr (2, [.int (nI n), .ref (am 1), .ref (am 2), .int (nI oc), .int td, .int 0, .long sL, .ref (am 3), .ref (am 4), .ref (am 5), .ref (am 6), .ref (am 7), .ref (am 8)])) hm.2.2.2.2.2.2.2.2.1 (mw_ne hm (x := 8) (y := 0) (by decide) (by decide) (by decide))
        have hm_32 : pw_up M (am 0) (.inr (2, [.int (nI n), .ref (am 1), .ref (am 2), .int (nI oc), .int td, .int 0, .long sL, .ref (am 3), .ref (am 4), .ref (am 5), .ref (am 6), .ref (am 7), .ref (am 8)])) (am 0) = some (.inr (2, [.int (nI n), .ref (am 1), .ref (am 2), .int (nI oc), .int td, .int 0, .long sL, .ref (am 3), .ref (am 4), .ref (am 5), .ref (am 6), .ref (am 7), .ref (am 8)])) := pw_us
        refine pw_aload_n (pc := 29) hX dX2_tote_29 0 rfl ?_
        refine pw_get (pc := 30) hX dX2_tote_30 hm_32 rfl inT_2 5 (by decide) fl_RX2_43 rfl ?_
        refine pw_if_eq (pc := 33) hX 38 dX2_tote_33 (by decide) (fun _ => ?_) (fun h => absurd h (by decide))
        refine pw_aload_n (pc := 38) hX dX2_tote_38 0 rfl ?_
        refine pw_get (pc := 39) hX dX2_tote_39 hm_32 rfl inT_2 2 (by decide) fl_RX2_13 rfl ?_
        refine pw_iload_n (pc := 42) hX dX2_tote_42 1 rfl ?_
        refine pw_dup2 (pc := 43) hX dX2_tote_43 rfl rfl ?_
        refine pw_iald (pc := 44) (j := g) hX dX2_tote_44 hm_25 hg (by decide) ?_
        refine pw_iload_n (pc := 45) hX dX2_tote_45 2 rfl ?_
        refine pw_iadd (pc := 46) (z := (to g) + p1) hX dX2_tote_46 rfl ?_
        refine pw_iast (pc := 47) (j := g) hX dX2_tote_47 hm_25 hg (by decide) ?_
        have hm_34 := pw_ke (a := am 2) (e := .inl (G.2.2.1 0, 10, .inl (upd to g ((to g) + p1)))) hm_32 (mw_ne hm (x := 0) (y := 2) (by decide) (by decide) (by decide))
        have hm_35 := pw_ke (a := am 2) (e := .inl (G.2.2.1 0, 10, .inl (upd to g ((to g) + p1)))) hm_24 (mw_ne hm (x := 1) (y := 2) (by decide) (by decide) (by decide))
        have hm_36 := pw_ke (a := am 2) (e := .inl (G.2.2.1 0, 10, .inl (upd to g ((to g) + p1)))) hm_26 (mw_ne hm (x := 3) (y := 2) (by decide) (by decide) (by decide))
        have hm_37 := pw_ke (a := am 2) (e := .inl (G.2.2.1 0, 10, .inl (upd to g ((to g) + p1)))) hm_27 (mw_ne hm (x := 4) (y := 2) (by decide) (by decide) (by decide))
        have hm_38 := pw_ke (a := am 2) (e := .inl (G.2.2.1 0, 10, .inl (upd to g ((to g) + p1)))) hm_28 (mw_ne hm (x := 5) (y := 2) (by decide) (by decide) (by decide))
        have hm_39 := pw_ke (a := am 2) (e := .inl (G.2.2.1 0, 10, .inl (upd to g ((to g) + p1)))) hm_29 (mw_ne hm (x := 6) (y := 2) (by decide) (by decide) (by decide))
        have hm_40 := pw_ke (a := am 2) (e := .inl (G.2.2.1 0, 10, .inl (upd to g ((to g) + p1)))) hm_30 (mw_ne hm (x := 7) (y := 2) (by decide) (by decide) (by decide))
        have hm_41 := pw_ke (a := am 2) (e := .inl (G.2.2.1 0, 10, .inl (upd to g ((to g) + p1)))) hm_31 (mw_ne hm (x := 8) (y := 2) (by decide) (by decide) (by decide))
        have hm_42 : pw_up (pw_up M (am 0) (.inr (2, [.int (nI n), .ref (am 1), .ref (am 2), .int (nI oc), .int td, .int 0, .long sL, .ref (am 3), .ref (am 4), .ref (am 5), .ref (am 6), .ref (am 7), .ref (am 8)]))) (am 2) (.inl (G.2.2.1 0, 10, .inl (upd to g ((to g) + p1)))) (am 2) = some (.inl (G.2.2.1 0, 10, .inl (upd to g ((to g) + p1)))) := pw_us
        refine pw_aload_n (pc := 48) hX dX2_tote_48 0 rfl ?_
        refine pw_get (pc := 49) hX dX2_tote_49 hm_34 rfl inT_2 2 (by decide) fl_RX2_13 rfl ?_
        refine pw_iload_n (pc := 52) hX dX2_tote_52 1 rfl ?_
        refine pw_iald (pc := 53) (j := g) hX dX2_tote_53 hm_42 hg (by decide) ?_
        exact pw_iret hX dX2_tote_54 hrt ⟨by decide, by decide⟩ (by rw [ix_nI hgB]; exact ⟨Or.inl ⟨pc1_0 (fun h => h ⟨ir_nI hg, Int32.not_lt.mp hc_2, Int32.not_lt.mp hc_13⟩), congrArg some (congrArg Value.int (pw_ld _ _ _)), (mw_to (mw_ob hm (oc) (mw_oc hm) td 0 sL) _)⟩, (fm_up (fm_up fm_rf (x := 0) (by decide) _) (x := 2) (by decide) _)⟩)
  · refine pw_if_eq (pc := 7) hX 25 dX2_tote_7 (by decide) (fun _ => ?_) (fun h => absurd h (by decide))
    refine pw_iconst (pc := 25) (v := 1) hX dX2_tote_25 (by decide) ?_
    refine pw_put (pc := 26) (v := .int 1) hX dX2_tote_26 hm.1 rfl inT_2 tyX2 tyX2_ok nmX2 5 (by decide) fl_RX2_43 rfl (tyX2_ok 5 (by decide)) rfl rfl (Nat.le_of_ble_eq_true rfl) [.int (nI n), .ref (am 1), .ref (am 2), .int (nI oc), .int td, .int 1, .long sL, .ref (am 3), .ref (am 4), .ref (am 5), .ref (am 6), .ref (am 7), .ref (am 8)] rfl ?_
    have hm_44 := pw_ke (a := am 0) (e := .inr (2, [.int (nI n), .ref (am 1), .ref (am 2), .int (nI oc), .int td, .int 1, .long sL, .ref (am 3), .ref (am 4), .ref (am 5), .ref (am 6), .ref (am 7), .ref (am 8)])) hm.2.1 (mw_ne hm (x := 1) (y := 0) (by decide) (by decide) (by decide))
    have hm_45 := pw_ke (a := am 0) (e := .inr (2, [.int (nI n), .ref (am 1), .ref (am 2), .int (nI oc), .int td, .int 1, .long sL, .ref (am 3), .ref (am 4), .ref (am 5), .ref (am 6), .ref (am 7), .ref (am 8)])) hm.2.2.1 (mw_ne hm (x := 2) (y := 0) (by decide) (by decide) (by decide))
    have hm_46 := pw_ke (a := am 0) (e := .inr (2, [.int (nI n), .ref (am 1), .ref (am 2), .int (nI oc), .int td, .int 1, .long sL, .ref (am 3), .ref (am 4), .ref (am 5), .ref (am 6), .ref (am 7), .ref (am 8)])) hm.2.2.2.1 (mw_ne hm (x := 3) (y := 0) (by decide) (by decide) (by decide))
    have hm_47 := pw_ke (a := am 0) (e := .inr (2, [.int (nI n), .ref (am 1), .ref (am 2), .int (nI oc), .int td, .int 1, .long sL, .ref (am 3), .ref (am 4), .ref (am 5), .ref (am 6), .ref (am 7), .ref (am 8)])) hm.2.2.2.2.1 (mw_ne hm (x := 4) (y := 0) (by decide) (by decide) (by decide))
    have hm_48 := pw_ke (a := am 0) (e := .inr (2, [.int (nI n), .ref (am 1), .ref (am 2), .int (nI oc), .int td, .int 1, .long sL, .ref (am 3), .ref (am 4), .ref (am 5), .ref (am 6), .ref (am 7), .ref (am 8)])) hm.2.2.2.2.2.1 (mw_ne hm (x := 5) (y := 0) (by decide) (by decide) (by decide))
    have hm_49 := pw_ke (a := am 0) (e := .inr (2, [.int (nI n), .ref (am 1), .ref (am 2), .int (nI oc), .int td, .int 1, .long sL, .ref (am 3), .ref (am 4), .ref (am 5), .ref (am 6), .ref (am 7), .ref (am 8)])) hm.2.2.2.2.2.2.1 (mw_ne hm (x := 6) (y := 0) (by decide) (by decide) (by decide))
    have hm_50 := pw_ke (a := am 0) (e := .inr (2, [.int (nI n), .ref (am 1), .ref (am 2), .int (nI oc), .int td, .int 1, .long sL, .ref (am 3), .ref (am 4), .ref (am 5), .ref (am 6), .ref (am 7), .ref (am 8)])) hm.2.2.2.2.2.2.2.1 (mw_ne hm (x := 7) (y := 0) (by decide) (by decide) (by decide))
    have hm_51 := pw_ke (a := am 0) (e := .inr (2, [.int (nI n), .ref (am 1), .ref (am 2), .int (nI oc), .int td, .int 1, .long sL, .ref (am 3), .ref (am 4), .ref (am 5), .ref (am 6), .ref (am 7), .ref (am 8)])) hm.2.2.2.2.2.2.2.2.1 (mw_ne hm (x := 8) (y := 0) (by decide) (by decide) (by decide))
    have hm_52 : pw_up M (am 0) (.inr (2, [.int (nI n), .ref (am 1), .ref (am 2), .int (nI oc), .int td, .int 1, .long sL, .ref (am 3), .ref (am 4), .ref (am 5), .ref (am 6), .ref (am 7), .ref (am 8)])) (am 0) = some (.inr (2, [.int (nI n), .ref (am 1), .ref (am 2), .int (nI oc), .int td, .int 1, .long sL, .ref (am 3), .ref (am 4), .ref (am 5), .ref (am 6), .ref (am 7), .ref (am 8)])) := pw_us
    refine pw_aload_n (pc := 29) hX dX2_tote_29 0 rfl ?_
    refine pw_get (pc := 30) hX dX2_tote_30 hm_52 rfl inT_2 5 (by decide) fl_RX2_43 rfl ?_
    refine pw_if_eq (pc := 33) hX 38 dX2_tote_33 (by decide) (fun h => absurd h (by decide)) (fun _ => ?_)
    refine pw_iconst (pc := 36) (v := 0) hX dX2_tote_36 (by decide) ?_
    exact pw_iret hX dX2_tote_37 hrt ⟨by decide, by decide⟩ ⟨Or.inr ⟨by rw [show cd_tote p0 p1 = 1 from pc1_1 (fun h => hno_p0 h.1)]; decide, ⟨_, rfl⟩, by rw [show cd_tote p0 p1 = 1 from pc1_1 (fun h => hno_p0 h.1)]; exact (mw_ob hm (oc) (mw_oc hm) td 1 sL)⟩, (fm_up fm_rf (x := 0) (by decide) _)⟩
set_option maxHeartbeats 4000000 in
set_option maxRecDepth 100000 in
theorem mp_order (l : Launch) (hl : l.stackTraces = false) (G : pw_G) (M : pw_M) (am : Nat → Nat) (n oc : Nat) (td th : Int32) (sL : Int64) (dk to er os pl : Nat → Int32) (wa pr la : Nat → Nat → Int32) (hm : mw G am n oc td th sL dk to er os pl wa pr la M) : pw_Met l yX2_order cX2_order 1 (some .int) 3 0 0 G [.ref (am 0)] M (fun v9 M9 => (cd_order oc = 0 ∧ v9 = some (.int (nI oc)) ∧ mw G am n (oc + 1) td 0 sL dk to er (upd os oc 0) (upd pl oc (-1)) wa pr la M9 ∨ ¬ cd_order oc = 0 ∧ (∃ z, v9 = some (.int z)) ∧ mw G am n oc td (cd_order oc) sL dk to er os pl wa pr la M9) ∧ fm am 9 M M9) := by
  refine pw_of hl (by decide +kernel) (Nat.le_of_ble_eq_true rfl) [(0, .ref (am 0))] rfl ?_
  intro p9 e9 s9 m9 args9 below9 meth9 c9 hX hrt hmi
  refine pw_aload_n (pc := 0) hX dX2_order_0 0 rfl ?_
  refine pw_aload_n (pc := 1) hX dX2_order_1 0 rfl ?_
  refine pw_get (pc := 2) hX dX2_order_2 hm.1 rfl inT_2 3 (by decide) fl_RX2_50 rfl ?_
  refine pw_bipush (pc := 5) (v := 20) hX dX2_order_5 (by decide) ?_
  refine pw_icmp_ne (pc := 7) hX 14 dX2_order_7 (by decide) (fun hc_1 => ?_) (fun hc_1 => ?_)
  · have hlt : oc < 20 := Nat.lt_of_le_of_ne (mw_oc hm) (fun h => hc_1 (by rw [h]; rfl))
    refine pw_iconst (pc := 14) (v := 0) hX dX2_order_14 (by decide) ?_
    refine pw_put (pc := 15) (v := .int 0) hX dX2_order_15 hm.1 rfl inT_2 tyX2 tyX2_ok nmX2 5 (by decide) fl_RX2_43 rfl (tyX2_ok 5 (by decide)) rfl rfl (Nat.le_of_ble_eq_true rfl) [.int (nI n), .ref (am 1), .ref (am 2), .int (nI oc), .int td, .int 0, .long sL, .ref (am 3), .ref (am 4), .ref (am 5), .ref (am 6), .ref (am 7), .ref (am 8)] rfl ?_
    have hm_2 := pw_ke (a := am 0) (e := .inr (2, [.int (nI n), .ref (am 1), .ref (am 2), .int (nI oc), .int td, .int 0, .long sL, .ref (am 3), .ref (am 4), .ref (am 5), .ref (am 6), .ref (am 7), .ref (am 8)])) hm.2.1 (mw_ne hm (x := 1) (y := 0) (by decide) (by decide) (by decide))
    have hm_3 := pw_ke (a := am 0) (e := .inr (2, [.int (nI n), .ref (am 1), .ref (am 2), .int (nI oc), .int td, .int 0, .long sL, .ref (am 3), .ref (am 4), .ref (am 5), .ref (am 6), .ref (am 7), .ref (am 8)])) hm.2.2.1 (mw_ne hm (x := 2) (y := 0) (by decide) (by decide) (by decide))
    have hm_4 := pw_ke (a := am 0) (e := .inr (2, [.int (nI n), .ref (am 1), .ref (am 2), .int (nI oc), .int td, .int 0, .long sL, .ref (am 3), .ref (am 4), .ref (am 5), .ref (am 6), .ref (am 7), .ref (am 8)])) hm.2.2.2.1 (mw_ne hm (x := 3) (y := 0) (by decide) (by decide) (by decide))
    have hm_5 := pw_ke (a := am 0) (e := .inr (2, [.int (nI n), .ref (am 1), .ref (am 2), .int (nI oc), .int td, .int 0, .long sL, .ref (am 3), .ref (am 4), .ref (am 5), .ref (am 6), .ref (am 7), .ref (am 8)])) hm.2.2.2.2.1 (mw_ne hm (x := 4) (y := 0) (by decide) (by decide) (by decide))
    have hm_6 := pw_ke (a := am 0) (e := .inr (2, [.int (nI n), .ref (am 1), .ref (am 2), .int (nI oc), .int td, .int 0, .long sL, .ref (am 3), .ref (am 4), .ref (am 5), .ref (am 6), .ref (am 7), .ref (am 8)])) hm.2.2.2.2.2.1 (mw_ne hm (x := 5) (y := 0) (by decide) (by decide) (by decide))
    have hm_7 := pw_ke (a := am 0) (e := .inr (2, [.int (nI n), .ref (am 1), .ref (am 2), .int (nI oc), .int td, .int 0, .long sL, .ref (am 3), .ref (am 4), .ref (am 5), .ref (am 6), .ref (am 7), .ref (am 8)])) hm.2.2.2.2.2.2.1 (mw_ne hm (x := 6) (y := 0) (by decide) (by decide) (by decide))
    have hm_8 := pw_ke (a := am 0) (e := .inr (2, [.int (nI n), .ref (am 1), .ref (am 2), .int (nI oc), .int td, .int 0, .long sL, .ref (am 3), .ref (am 4), .ref (am 5), .ref (am 6), .ref (am 7), .ref (am 8)])) hm.2.2.2.2.2.2.2.1 (mw_ne hm (x := 7) (y := 0) (by decide) (by decide) (by decide))
    have hm_9 := pw_ke (a := am 0) (e := .inr (2, [.int (nI n), .ref (am 1), .ref (am 2), .int (nI oc), .int td, .int 0, .long sL, .ref (am 3), .ref (am 4), .ref (am 5), .ref (am 6), .ref (am 7), .ref (am 8)])) hm.2.2.2.2.2.2.2.2.1 (mw_ne hm (x := 8) (y := 0) (by decide) (by decide) (by decide))
    have hm_10 : pw_up M (am 0) (.inr (2, [.int (nI n), .ref (am 1), .ref (am 2), .int (nI oc), .int td, .int 0, .long sL, .ref (am 3), .ref (am 4), .ref (am 5), .ref (am 6), .ref (am 7), .ref (am 8)])) (am 0) = some (.inr (2, [.int (nI n), .ref (am 1), .ref (am 2), .int (nI oc), .int td, .int 0, .long sL, .ref (am 3), .ref (am 4), .ref (am 5), .ref (am 6), .ref (am 7), .ref (am 8)])) := pw_us
    refine pw_aload_n (pc := 18) hX dX2_order_18 0 rfl ?_
    refine pw_get (pc := 19) hX dX2_order_19 hm_10 rfl inT_2 5 (by decide) fl_RX2_43 rfl ?_
    refine pw_if_eq (pc := 22) hX 27 dX2_order_22 (by decide) (fun _ => ?_) (fun h => absurd h (by decide))
    refine pw_aload_n (pc := 27) hX dX2_order_27 0 rfl ?_
    refine pw_get (pc := 28) hX dX2_order_28 hm_10 rfl inT_2 7 (by decide) fl_RX2_21 rfl ?_
    refine pw_aload_n (pc := 31) hX dX2_order_31 0 rfl ?_
    refine pw_get (pc := 32) hX dX2_order_32 hm_10 rfl inT_2 3 (by decide) fl_RX2_50 rfl ?_
    refine pw_iconst (pc := 35) (v := 0) hX dX2_order_35 (by decide) ?_
    refine pw_iast (pc := 36) (j := oc) hX dX2_order_36 hm_4 hlt (by decide) ?_
    have hm_12 := pw_ke (a := am 3) (e := .inl (G.2.2.1 0, 20, .inl (upd os oc 0))) hm_10 (mw_ne hm (x := 0) (y := 3) (by decide) (by decide) (by decide))
    have hm_13 := pw_ke (a := am 3) (e := .inl (G.2.2.1 0, 20, .inl (upd os oc 0))) hm_2 (mw_ne hm (x := 1) (y := 3) (by decide) (by decide) (by decide))
    have hm_14 := pw_ke (a := am 3) (e := .inl (G.2.2.1 0, 20, .inl (upd os oc 0))) hm_3 (mw_ne hm (x := 2) (y := 3) (by decide) (by decide) (by decide))
    have hm_15 := pw_ke (a := am 3) (e := .inl (G.2.2.1 0, 20, .inl (upd os oc 0))) hm_5 (mw_ne hm (x := 4) (y := 3) (by decide) (by decide) (by decide))
    have hm_16 := pw_ke (a := am 3) (e := .inl (G.2.2.1 0, 20, .inl (upd os oc 0))) hm_6 (mw_ne hm (x := 5) (y := 3) (by decide) (by decide) (by decide))
    have hm_17 := pw_ke (a := am 3) (e := .inl (G.2.2.1 0, 20, .inl (upd os oc 0))) hm_7 (mw_ne hm (x := 6) (y := 3) (by decide) (by decide) (by decide))
    have hm_18 := pw_ke (a := am 3) (e := .inl (G.2.2.1 0, 20, .inl (upd os oc 0))) hm_8 (mw_ne hm (x := 7) (y := 3) (by decide) (by decide) (by decide))
    have hm_19 := pw_ke (a := am 3) (e := .inl (G.2.2.1 0, 20, .inl (upd os oc 0))) hm_9 (mw_ne hm (x := 8) (y := 3) (by decide) (by decide) (by decide))
    have hm_20 : pw_up (pw_up M (am 0) (.inr (2, [.int (nI n), .ref (am 1), .ref (am 2), .int (nI oc), .int td, .int 0, .long sL, .ref (am 3), .ref (am 4), .ref (am 5), .ref (am 6), .ref (am 7), .ref (am 8)]))) (am 3) (.inl (G.2.2.1 0, 20, .inl (upd os oc 0))) (am 3) = some (.inl (G.2.2.1 0, 20, .inl (upd os oc 0))) := pw_us
    refine pw_aload_n (pc := 37) hX dX2_order_37 0 rfl ?_
    refine pw_get (pc := 38) hX dX2_order_38 hm_12 rfl inT_2 8 (by decide) fl_RX2_24 rfl ?_
    refine pw_aload_n (pc := 41) hX dX2_order_41 0 rfl ?_
    refine pw_get (pc := 42) hX dX2_order_42 hm_12 rfl inT_2 3 (by decide) fl_RX2_50 rfl ?_
    refine pw_iconst (pc := 45) (v := (-1)) hX dX2_order_45 (by decide) ?_
    refine pw_iast (pc := 46) (j := oc) hX dX2_order_46 hm_15 hlt (by decide) ?_
    have hm_21 := pw_ke (a := am 4) (e := .inl (G.2.2.1 0, 20, .inl (upd pl oc ((-1))))) hm_12 (mw_ne hm (x := 0) (y := 4) (by decide) (by decide) (by decide))
    have hm_22 := pw_ke (a := am 4) (e := .inl (G.2.2.1 0, 20, .inl (upd pl oc ((-1))))) hm_13 (mw_ne hm (x := 1) (y := 4) (by decide) (by decide) (by decide))
    have hm_23 := pw_ke (a := am 4) (e := .inl (G.2.2.1 0, 20, .inl (upd pl oc ((-1))))) hm_14 (mw_ne hm (x := 2) (y := 4) (by decide) (by decide) (by decide))
    have hm_24 := pw_ke (a := am 4) (e := .inl (G.2.2.1 0, 20, .inl (upd pl oc ((-1))))) hm_20 (mw_ne hm (x := 3) (y := 4) (by decide) (by decide) (by decide))
    have hm_25 := pw_ke (a := am 4) (e := .inl (G.2.2.1 0, 20, .inl (upd pl oc ((-1))))) hm_16 (mw_ne hm (x := 5) (y := 4) (by decide) (by decide) (by decide))
    have hm_26 := pw_ke (a := am 4) (e := .inl (G.2.2.1 0, 20, .inl (upd pl oc ((-1))))) hm_17 (mw_ne hm (x := 6) (y := 4) (by decide) (by decide) (by decide))
    have hm_27 := pw_ke (a := am 4) (e := .inl (G.2.2.1 0, 20, .inl (upd pl oc ((-1))))) hm_18 (mw_ne hm (x := 7) (y := 4) (by decide) (by decide) (by decide))
    have hm_28 := pw_ke (a := am 4) (e := .inl (G.2.2.1 0, 20, .inl (upd pl oc ((-1))))) hm_19 (mw_ne hm (x := 8) (y := 4) (by decide) (by decide) (by decide))
    have hm_29 : pw_up (pw_up (pw_up M (am 0) (.inr (2, [.int (nI n), .ref (am 1), .ref (am 2), .int (nI oc), .int td, .int 0, .long sL, .ref (am 3), .ref (am 4), .ref (am 5), .ref (am 6), .ref (am 7), .ref (am 8)]))) (am 3) (.inl (G.2.2.1 0, 20, .inl (upd os oc 0)))) (am 4) (.inl (G.2.2.1 0, 20, .inl (upd pl oc ((-1))))) (am 4) = some (.inl (G.2.2.1 0, 20, .inl (upd pl oc ((-1))))) := pw_us
    refine pw_aload_n (pc := 47) hX dX2_order_47 0 rfl ?_
    refine pw_dup (pc := 48) hX dX2_order_48 rfl ?_
    refine pw_get (pc := 49) hX dX2_order_49 hm_21 rfl inT_2 3 (by decide) fl_RX2_50 rfl ?_
    refine pw_iconst (pc := 52) (v := 1) hX dX2_order_52 (by decide) ?_
    refine pw_iadd (pc := 53) (z := nI (oc + 1)) hX dX2_order_53 (nI_1 _) ?_
    refine pw_put (pc := 54) (v := .int (nI (oc + 1))) hX dX2_order_54 hm_21 rfl inT_2 tyX2 tyX2_ok nmX2 3 (by decide) fl_RX2_50 rfl (tyX2_ok 3 (by decide)) rfl rfl (Nat.le_of_ble_eq_true rfl) [.int (nI n), .ref (am 1), .ref (am 2), .int (nI (oc + 1)), .int td, .int 0, .long sL, .ref (am 3), .ref (am 4), .ref (am 5), .ref (am 6), .ref (am 7), .ref (am 8)] rfl ?_
    have hm_30 := pw_ke (a := am 0) (e := .inr (2, [.int (nI n), .ref (am 1), .ref (am 2), .int (nI (oc + 1)), .int td, .int 0, .long sL, .ref (am 3), .ref (am 4), .ref (am 5), .ref (am 6), .ref (am 7), .ref (am 8)])) hm_22 (mw_ne hm (x := 1) (y := 0) (by decide) (by decide) (by decide))
    have hm_31 := pw_ke (a := am 0) (e := .inr (2, [.int (nI n), .ref (am 1), .ref (am 2), .int (nI (oc + 1)), .int td, .int 0, .long sL, .ref (am 3), .ref (am 4), .ref (am 5), .ref (am 6), .ref (am 7), .ref (am 8)])) hm_23 (mw_ne hm (x := 2) (y := 0) (by decide) (by decide) (by decide))
    have hm_32 := pw_ke (a := am 0) (e := .inr (2, [.int (nI n), .ref (am 1), .ref (am 2), .int (nI (oc + 1)), .int td, .int 0, .long sL, .ref (am 3), .ref (am 4), .ref (am 5), .ref (am 6), .ref (am 7), .ref (am 8)])) hm_24 (mw_ne hm (x := 3) (y := 0) (by decide) (by decide) (by decide))
    have hm_33 := pw_ke (a := am 0) (e := .inr (2, [.int (nI n), .ref (am 1), .ref (am 2), .int (nI (oc + 1)), .int td, .int 0, .long sL, .ref (am 3), .ref (am 4), .ref (am 5), .ref (am 6), .ref (am 7), .ref (am 8)])) hm_29 (mw_ne hm (x := 4) (y := 0) (by decide) (by decide) (by decide))
    have hm_34 := pw_ke (a := am 0) (e := .inr (2, [.int (nI n), .ref (am 1), .ref (am 2), .int (nI (oc + 1)), .int td, .int 0, .long sL, .ref (am 3), .ref (am 4), .ref (am 5), .ref (am 6), .ref (am 7), .ref (am 8)])) hm_25 (mw_ne hm (x := 5) (y := 0) (by decide) (by decide) (by decide))
    have hm_35 := pw_ke (a := am 0) (e := .inr (2, [.int (nI n), .ref (am 1), .ref (am 2), .int (nI (oc + 1)), .int td, .int 0, .long sL, .ref (am 3), .ref (am 4), .ref (am 5), .ref (am 6), .ref (am 7), .ref (am 8)])) hm_26 (mw_ne hm (x := 6) (y := 0) (by decide) (by decide) (by decide))
    have hm_36 := pw_ke (a := am 0) (e := .inr (2, [.int (nI n), .ref (am 1), .ref (am 2), .int (nI (oc + 1)), .int td, .int 0, .long sL, .ref (am 3), .ref (am 4), .ref (am 5), .ref (am 6), .ref (am 7), .ref (am 8)])) hm_27 (mw_ne hm (x := 7) (y := 0) (by decide) (by decide) (by decide))
    have hm_37 := pw_ke (a := am 0) (e := .inr (2, [.int (nI n), .ref (am 1), .ref (am 2), .int (nI (oc + 1)), .int td, .int 0, .long sL, .ref (am 3), .ref (am 4), .ref (am 5), .ref (am 6), .ref (am 7), .ref (am 8)])) hm_28 (mw_ne hm (x := 8) (y := 0) (by decide) (by decide) (by decide))
    have hm_38 : pw_up (pw_up (pw_up (pw_up M (am 0) (.inr (2, [.int (nI n), .ref (am 1), .ref (am 2), .int (nI oc), .int td, .int 0, .long sL, .ref (am 3), .ref (am 4), .ref (am 5), .ref (am 6), .ref (am 7), .ref (am 8)]))) (am 3) (.inl (G.2.2.1 0, 20, .inl (upd os oc 0)))) (am 4) (.inl (G.2.2.1 0, 20, .inl (upd pl oc ((-1)))))) (am 0) (.inr (2, [.int (nI n), .ref (am 1), .ref (am 2), .int (nI (oc + 1)), .int td, .int 0, .long sL, .ref (am 3), .ref (am 4), .ref (am 5), .ref (am 6), .ref (am 7), .ref (am 8)])) (am 0) = some (.inr (2, [.int (nI n), .ref (am 1), .ref (am 2), .int (nI (oc + 1)), .int td, .int 0, .long sL, .ref (am 3), .ref (am 4), .ref (am 5), .ref (am 6), .ref (am 7), .ref (am 8)])) := pw_us
    refine pw_aload_n (pc := 57) hX dX2_order_57 0 rfl ?_
    refine pw_get (pc := 58) hX dX2_order_58 hm_38 rfl inT_2 3 (by decide) fl_RX2_50 rfl ?_
    refine pw_iconst (pc := 61) (v := 1) hX dX2_order_61 (by decide) ?_
    refine pw_isub (pc := 62) (z := (nI (oc + 1)) - 1) hX dX2_order_62 rfl ?_
    exact pw_iret hX dX2_order_63 hrt ⟨by decide, by decide⟩ ⟨Or.inl ⟨pc1_0 (fun h => hc_1 (by rw [h]; rfl)), congrArg some (congrArg Value.int (show nI (oc + 1) - 1 = nI oc from nI_pred oc)), (mw_ob (mw_pl (mw_os (mw_ob hm (oc) (mw_oc hm) td 0 sL) _) _) (oc + 1) (by omega) td 0 sL)⟩, (fm_up (fm_up (fm_up (fm_up fm_rf (x := 0) (by decide) _) (x := 3) (by decide) _) (x := 4) (by decide) _) (x := 0) (by decide) _)⟩
  · refine pw_iconst (pc := 10) (v := 1) hX dX2_order_10 (by decide) ?_
    refine pw_goto (pc := 11) hX 15 dX2_order_11 (by decide) ?_
    refine pw_put (pc := 15) (v := .int 1) hX dX2_order_15 hm.1 rfl inT_2 tyX2 tyX2_ok nmX2 5 (by decide) fl_RX2_43 rfl (tyX2_ok 5 (by decide)) rfl rfl (Nat.le_of_ble_eq_true rfl) [.int (nI n), .ref (am 1), .ref (am 2), .int (nI oc), .int td, .int 1, .long sL, .ref (am 3), .ref (am 4), .ref (am 5), .ref (am 6), .ref (am 7), .ref (am 8)] rfl ?_
    have hm_39 := pw_ke (a := am 0) (e := .inr (2, [.int (nI n), .ref (am 1), .ref (am 2), .int (nI oc), .int td, .int 1, .long sL, .ref (am 3), .ref (am 4), .ref (am 5), .ref (am 6), .ref (am 7), .ref (am 8)])) hm.2.1 (mw_ne hm (x := 1) (y := 0) (by decide) (by decide) (by decide))
    have hm_40 := pw_ke (a := am 0) (e := .inr (2, [.int (nI n), .ref (am 1), .ref (am 2), .int (nI oc), .int td, .int 1, .long sL, .ref (am 3), .ref (am 4), .ref (am 5), .ref (am 6), .ref (am 7), .ref (am 8)])) hm.2.2.1 (mw_ne hm (x := 2) (y := 0) (by decide) (by decide) (by decide))
    have hm_41 := pw_ke (a := am 0) (e := .inr (2, [.int (nI n), .ref (am 1), .ref (am 2), .int (nI oc), .int td, .int 1, .long sL, .ref (am 3), .ref (am 4), .ref (am 5), .ref (am 6), .ref (am 7), .ref (am 8)])) hm.2.2.2.1 (mw_ne hm (x := 3) (y := 0) (by decide) (by decide) (by decide))
    have hm_42 := pw_ke (a := am 0) (e := .inr (2, [.int (nI n), .ref (am 1), .ref (am 2), .int (nI oc), .int td, .int 1, .long sL, .ref (am 3), .ref (am 4), .ref (am 5), .ref (am 6), .ref (am 7), .ref (am 8)])) hm.2.2.2.2.1 (mw_ne hm (x := 4) (y := 0) (by decide) (by decide) (by decide))
    have hm_43 := pw_ke (a := am 0) (e := .inr (2, [.int (nI n), .ref (am 1), .ref (am 2), .int (nI oc), .int td, .int 1, .long sL, .ref (am 3), .ref (am 4), .ref (am 5), .ref (am 6), .ref (am 7), .ref (am 8)])) hm.2.2.2.2.2.1 (mw_ne hm (x := 5) (y := 0) (by decide) (by decide) (by decide))
    have hm_44 := pw_ke (a := am 0) (e := .inr (2, [.int (nI n), .ref (am 1), .ref (am 2), .int (nI oc), .int td, .int 1, .long sL, .ref (am 3), .ref (am 4), .ref (am 5), .ref (am 6), .ref (am 7), .ref (am 8)])) hm.2.2.2.2.2.2.1 (mw_ne hm (x := 6) (y := 0) (by decide) (by decide) (by decide))
    have hm_45 := pw_ke (a := am 0) (e := .inr (2, [.int (nI n), .ref (am 1), .ref (am 2), .int (nI oc), .int td, .int 1, .long sL, .ref (am 3), .ref (am 4), .ref (am 5), .ref (am 6), .ref (am 7), .ref (am 8)])) hm.2.2.2.2.2.2.2.1 (mw_ne hm (x := 7) (y := 0) (by decide) (by decide) (by decide))
    have hm_46 := pw_ke (a := am 0) (e := .inr (2, [.int (nI n), .ref (am 1), .ref (am 2), .int (nI oc), .int td, .int 1, .long sL, .ref (am 3), .ref (am 4), .ref (am 5), .ref (am 6), .ref (am 7), .ref (am 8)])) hm.2.2.2.2.2.2.2.2.1 (mw_ne hm (x := 8) (y := 0) (by decide) (by decide) (by decide))
    have hm_47 : pw_up M (am 0) (.inr (2, [.int (nI n), .ref (am 1), .ref (am 2), .int (nI oc), .int td, .int 1, .long sL, .ref (am 3), .ref (am 4), .ref (am 5), .ref (am 6), .ref (am 7), .ref (am 8)])) (am 0) = some (.inr (2, [.int (nI n), .ref (am 1), .ref (am 2), .int (nI oc), .int td, .int 1, .long sL, .ref (am 3), .ref (am 4), .ref (am 5), .ref (am 6), .ref (am 7), .ref (am 8)])) := pw_us
    refine pw_aload_n (pc := 18) hX dX2_order_18 0 rfl ?_
    refine pw_get (pc := 19) hX dX2_order_19 hm_47 rfl inT_2 5 (by decide) fl_RX2_43 rfl ?_
    refine pw_if_eq (pc := 22) hX 27 dX2_order_22 (by decide) (fun h => absurd h (by decide)) (fun _ => ?_)
    refine pw_iconst (pc := 25) (v := 0) hX dX2_order_25 (by decide) ?_
    exact pw_iret hX dX2_order_26 hrt ⟨by decide, by decide⟩ ⟨Or.inr ⟨by rw [show cd_order oc = 1 from pc1_1 ((nI_eq (b := 20) (Nat.lt_of_le_of_lt (mw_oc hm) (by decide)) (by decide)).mp hc_1)]; decide, ⟨_, rfl⟩, by rw [show cd_order oc = 1 from pc1_1 ((nI_eq (b := 20) (Nat.lt_of_le_of_lt (mw_oc hm) (by decide)) (by decide)).mp hc_1)]; exact (mw_ob hm (oc) (mw_oc hm) td 1 sL)⟩, (fm_up fm_rf (x := 0) (by decide) _)⟩
set_option maxHeartbeats 4000000 in
set_option maxRecDepth 100000 in
theorem mp_line (l : Launch) (hl : l.stackTraces = false) (G : pw_G) (M : pw_M) (am : Nat → Nat) (n oc : Nat) (td th : Int32) (sL : Int64) (dk to er os pl : Nat → Int32) (wa pr la : Nat → Nat → Int32) (hm : mw G am n oc td th sL dk to er os pl wa pr la M) (p0 p1 p2 : Int32) : pw_Met l yX2_line cX2_line 5 none 3 0 0 G [.ref (am 0), .int p0, .int p1, .int p2] M (fun v9 M9 => (cd_line oc os wa p0 p1 p2 = 0 ∧ v9 = none ∧ mw G am n oc td 0 sL dk to er os pl (va_up wa (ix p0) (upd (wa (ix p0)) (ix p1) p2)) (va_up pr (ix p0) (upd (pr (ix p0)) (ix p1) 0)) (va_up la (ix p0) (upd (la (ix p0)) (ix p1) (-1))) M9 ∨ ¬ cd_line oc os wa p0 p1 p2 = 0 ∧ v9 = none ∧ mw G am n oc td (cd_line oc os wa p0 p1 p2) sL dk to er os pl wa pr la M9) ∧ fm am 9 M M9) := by
  refine pw_of hl (by decide +kernel) (Nat.le_of_ble_eq_true rfl) [(0, .ref (am 0)), (1, .int p0), (2, .int p1), (3, .int p2)] rfl ?_
  intro p9 e9 s9 m9 args9 below9 meth9 c9 hX hrt hmi
  have hoc := mw_oc hm
  refine pw_iload_n (pc := 0) hX dX2_line_0 2 rfl ?_
  refine pw_bipush (pc := 1) (v := 10) hX dX2_line_1 (by decide) ?_
  refine pw_callS (pc := 3) (st := []) hX (mt_below l hl G M p1 10 (by decide)) ok_X2_below lk_RX2_53 dX2_line_3 rfl ⟨⟨by decide, by decide⟩, Nat.le_of_ble_eq_true rfl, Nat.le_of_ble_eq_true rfl, Nat.le_of_ble_eq_true rfl⟩ rfl (fun v9 M9 hp9 => ?_)
  obtain ⟨rfl, ⟨rfl, g, hg, rfl⟩ | ⟨rfl, hno_p1⟩⟩ := hp9
  · have hgB : g < 2 ^ 31 := Nat.lt_of_lt_of_le hg (by decide)
    refine pw_if_eq (pc := 6) hX 24 dX2_line_6 (by decide) (fun h => absurd h (by decide)) (fun _ => ?_)
    refine pw_iload_n (pc := 9) hX dX2_line_9 3 rfl ?_
    refine pw_iconst (pc := 10) (v := 1) hX dX2_line_10 (by decide) ?_
    refine pw_icmp_lt (pc := 11) hX 24 dX2_line_11 (by decide) (fun hc_2 => ?_) (fun hc_2 => ?_)
    · refine pw_iconst (pc := 24) (v := 0) hX dX2_line_24 (by decide) ?_
      refine pw_istore (pc := 25) hX [(4, .int 0), (0, .ref (am 0)), (1, .int p0), (2, .int (nI g)), (3, .int p2)] dX2_line_25 (by decide) rfl ?_
      refine pw_aload_n (pc := 27) hX dX2_line_27 1 rfl ?_
      refine pw_iload_n (pc := 28) hX dX2_line_28 2 rfl ?_
      refine pw_aload_n (pc := 29) hX dX2_line_29 1 rfl ?_
      refine pw_get (pc := 30) hX dX2_line_30 hm.1 rfl inT_2 3 (by decide) fl_RX2_50 rfl ?_
      refine pw_callS (pc := 33) (st := [.ref (am 0)]) hX (mt_below l hl G M p0 oc (Nat.lt_of_le_of_lt (mw_oc hm) (by decide))) ok_X2_below lk_RX2_53 dX2_line_33 rfl ⟨⟨by decide, by decide⟩, Nat.le_of_ble_eq_true rfl, Nat.le_of_ble_eq_true rfl, Nat.le_of_ble_eq_true rfl⟩ rfl (fun v9 M9 hp9 => ?_)
      obtain ⟨rfl, ⟨rfl, j, hj, rfl⟩ | ⟨rfl, hno_p0⟩⟩ := hp9
      · have hjB : j < 2 ^ 31 := Nat.lt_of_lt_of_le hj (Nat.le_trans (mw_oc hm) (by decide))
        refine pw_if_ne (pc := 36) hX 43 dX2_line_36 (by decide) (fun _ => ?_) (fun h => absurd h (by decide))
        refine pw_iload (pc := 43) hX dX2_line_43 0 rfl ?_
        refine pw_if_ne (pc := 45) hX 52 dX2_line_45 (by decide) (fun h => absurd h (by decide)) (fun _ => ?_)
        refine pw_iconst (pc := 48) (v := 2) hX dX2_line_48 (by decide) ?_
        refine pw_goto (pc := 49) hX 75 dX2_line_49 (by decide) ?_
        refine pw_put (pc := 75) (v := .int 2) hX dX2_line_75 hm.1 rfl inT_2 tyX2 tyX2_ok nmX2 5 (by decide) fl_RX2_43 rfl (tyX2_ok 5 (by decide)) rfl rfl (Nat.le_of_ble_eq_true rfl) [.int (nI n), .ref (am 1), .ref (am 2), .int (nI oc), .int td, .int 2, .long sL, .ref (am 3), .ref (am 4), .ref (am 5), .ref (am 6), .ref (am 7), .ref (am 8)] rfl ?_
        have hm_5 := pw_ke (a := am 0) (e := .inr (2, [.int (nI n), .ref (am 1), .ref (am 2), .int (nI oc), .int td, .int 2, .long sL, .ref (am 3), .ref (am 4), .ref (am 5), .ref (am 6), .ref (am 7), .ref (am 8)])) hm.2.1 (mw_ne hm (x := 1) (y := 0) (by decide) (by decide) (by decide))
        have hm_6 := pw_ke (a := am 0) (e := .inr (2, [.int (nI n), .ref (am 1), .ref (am 2), .int (nI oc), .int td, .int 2, .long sL, .ref (am 3), .ref (am 4), .ref (am 5), .ref (am 6), .ref (am 7), .ref (am 8)])) hm.2.2.1 (mw_ne hm (x := 2) (y := 0) (by decide) (by decide) (by decide))
        have hm_7 := pw_ke (a := am 0) (e := .inr (2, [.int (nI n), .ref (am 1), .ref (am 2), .int (nI oc), .int td, .int 2, .long sL, .ref (am 3), .ref (am 4), .ref (am 5), .ref (am 6), .ref (am 7), .ref (am 8)])) hm.2.2.2.1 (mw_ne hm (x := 3) (y := 0) (by decide) (by decide) (by decide))
        have hm_8 := pw_ke (a := am 0) (e := .inr (2, [.int (nI n), .ref (am 1), .ref (am 2), .int (nI oc), .int td, .int 2, .long sL, .ref (am 3), .ref (am 4), .ref (am 5), .ref (am 6), .ref (am 7), .ref (am 8)])) hm.2.2.2.2.1 (mw_ne hm (x := 4) (y := 0) (by decide) (by decide) (by decide))
        have hm_9 := pw_ke (a := am 0) (e := .inr (2, [.int (nI n), .ref (am 1), .ref (am 2), .int (nI oc), .int td, .int 2, .long sL, .ref (am 3), .ref (am 4), .ref (am 5), .ref (am 6), .ref (am 7), .ref (am 8)])) hm.2.2.2.2.2.1 (mw_ne hm (x := 5) (y := 0) (by decide) (by decide) (by decide))
        have hm_10 := pw_ke (a := am 0) (e := .inr (2, [.int (nI n), .ref (am 1), .ref (am 2), .int (nI oc), .int td, .int 2, .long sL, .ref (am 3), .ref (am 4), .ref (am 5), .ref (am 6), .ref (am 7), .ref (am 8)])) hm.2.2.2.2.2.2.1 (mw_ne hm (x := 6) (y := 0) (by decide) (by decide) (by decide))
        have hm_11 := pw_ke (a := am 0) (e := .inr (2, [.int (nI n), .ref (am 1), .ref (am 2), .int (nI oc), .int td, .int 2, .long sL, .ref (am 3), .ref (am 4), .ref (am 5), .ref (am 6), .ref (am 7), .ref (am 8)])) hm.2.2.2.2.2.2.2.1 (mw_ne hm (x := 7) (y := 0) (by decide) (by decide) (by decide))
        have hm_12 := pw_ke (a := am 0) (e := .inr (2, [.int (nI n), .ref (am 1), .ref (am 2), .int (nI oc), .int td, .int 2, .long sL, .ref (am 3), .ref (am 4), .ref (am 5), .ref (am 6), .ref (am 7), .ref (am 8)])) hm.2.2.2.2.2.2.2.2.1 (mw_ne hm (x := 8) (y := 0) (by decide) (by decide) (by decide))
        have hm_13 : pw_up M (am 0) (.inr (2, [.int (nI n), .ref (am 1), .ref (am 2), .int (nI oc), .int td, .int 2, .long sL, .ref (am 3), .ref (am 4), .ref (am 5), .ref (am 6), .ref (am 7), .ref (am 8)])) (am 0) = some (.inr (2, [.int (nI n), .ref (am 1), .ref (am 2), .int (nI oc), .int td, .int 2, .long sL, .ref (am 3), .ref (am 4), .ref (am 5), .ref (am 6), .ref (am 7), .ref (am 8)])) := pw_us
        refine pw_aload_n (pc := 78) hX dX2_line_78 1 rfl ?_
        refine pw_get (pc := 79) hX dX2_line_79 hm_13 rfl inT_2 5 (by decide) fl_RX2_43 rfl ?_
        refine pw_if_eq (pc := 82) hX 86 dX2_line_82 (by decide) (fun h => absurd h (by decide)) (fun _ => ?_)
        exact pw_vret hX dX2_line_85 hrt ⟨by decide, by decide⟩ ⟨Or.inr ⟨by rw [show cd_line oc os wa (nI j) (nI g) p2 = 2 from pc3_2 (fun h => h (ir_nI hj)) (fun h => absurd h.2.1 (Int32.not_le.mpr hc_2))]; decide, rfl, by rw [show cd_line oc os wa (nI j) (nI g) p2 = 2 from pc3_2 (fun h => h (ir_nI hj)) (fun h => absurd h.2.1 (Int32.not_le.mpr hc_2))]; exact (mw_ob hm (oc) (mw_oc hm) td 2 sL)⟩, (fm_up fm_rf (x := 0) (by decide) _)⟩
      · refine pw_if_ne (pc := 36) hX 43 dX2_line_36 (by decide) (fun h => absurd h (by decide)) (fun _ => ?_)
        refine pw_iconst (pc := 39) (v := 1) hX dX2_line_39 (by decide) ?_
        refine pw_goto (pc := 40) hX 75 dX2_line_40 (by decide) ?_
        refine pw_put (pc := 75) (v := .int 1) hX dX2_line_75 hm.1 rfl inT_2 tyX2 tyX2_ok nmX2 5 (by decide) fl_RX2_43 rfl (tyX2_ok 5 (by decide)) rfl rfl (Nat.le_of_ble_eq_true rfl) [.int (nI n), .ref (am 1), .ref (am 2), .int (nI oc), .int td, .int 1, .long sL, .ref (am 3), .ref (am 4), .ref (am 5), .ref (am 6), .ref (am 7), .ref (am 8)] rfl ?_
        have hm_16 := pw_ke (a := am 0) (e := .inr (2, [.int (nI n), .ref (am 1), .ref (am 2), .int (nI oc), .int td, .int 1, .long sL, .ref (am 3), .ref (am 4), .ref (am 5), .ref (am 6), .ref (am 7), .ref (am 8)])) hm.2.1 (mw_ne hm (x := 1) (y := 0) (by decide) (by decide) (by decide))
        have hm_17 := pw_ke (a := am 0) (e := .inr (2, [.int (nI n), .ref (am 1), .ref (am 2), .int (nI oc), .int td, .int 1, .long sL, .ref (am 3), .ref (am 4), .ref (am 5), .ref (am 6), .ref (am 7), .ref (am 8)])) hm.2.2.1 (mw_ne hm (x := 2) (y := 0) (by decide) (by decide) (by decide))
        have hm_18 := pw_ke (a := am 0) (e := .inr (2, [.int (nI n), .ref (am 1), .ref (am 2), .int (nI oc), .int td, .int 1, .long sL, .ref (am 3), .ref (am 4), .ref (am 5), .ref (am 6), .ref (am 7), .ref (am 8)])) hm.2.2.2.1 (mw_ne hm (x := 3) (y := 0) (by decide) (by decide) (by decide))
        have hm_19 := pw_ke (a := am 0) (e := .inr (2, [.int (nI n), .ref (am 1), .ref (am 2), .int (nI oc), .int td, .int 1, .long sL, .ref (am 3), .ref (am 4), .ref (am 5), .ref (am 6), .ref (am 7), .ref (am 8)])) hm.2.2.2.2.1 (mw_ne hm (x := 4) (y := 0) (by decide) (by decide) (by decide))
        have hm_20 := pw_ke (a := am 0) (e := .inr (2, [.int (nI n), .ref (am 1), .ref (am 2), .int (nI oc), .int td, .int 1, .long sL, .ref (am 3), .ref (am 4), .ref (am 5), .ref (am 6), .ref (am 7), .ref (am 8)])) hm.2.2.2.2.2.1 (mw_ne hm (x := 5) (y := 0) (by decide) (by decide) (by decide))
        have hm_21 := pw_ke (a := am 0) (e := .inr (2, [.int (nI n), .ref (am 1), .ref (am 2), .int (nI oc), .int td, .int 1, .long sL, .ref (am 3), .ref (am 4), .ref (am 5), .ref (am 6), .ref (am 7), .ref (am 8)])) hm.2.2.2.2.2.2.1 (mw_ne hm (x := 6) (y := 0) (by decide) (by decide) (by decide))
        have hm_22 := pw_ke (a := am 0) (e := .inr (2, [.int (nI n), .ref (am 1), .ref (am 2), .int (nI oc), .int td, .int 1, .long sL, .ref (am 3), .ref (am 4), .ref (am 5), .ref (am 6), .ref (am 7), .ref (am 8)])) hm.2.2.2.2.2.2.2.1 (mw_ne hm (x := 7) (y := 0) (by decide) (by decide) (by decide))
        have hm_23 := pw_ke (a := am 0) (e := .inr (2, [.int (nI n), .ref (am 1), .ref (am 2), .int (nI oc), .int td, .int 1, .long sL, .ref (am 3), .ref (am 4), .ref (am 5), .ref (am 6), .ref (am 7), .ref (am 8)])) hm.2.2.2.2.2.2.2.2.1 (mw_ne hm (x := 8) (y := 0) (by decide) (by decide) (by decide))
        have hm_24 : pw_up M (am 0) (.inr (2, [.int (nI n), .ref (am 1), .ref (am 2), .int (nI oc), .int td, .int 1, .long sL, .ref (am 3), .ref (am 4), .ref (am 5), .ref (am 6), .ref (am 7), .ref (am 8)])) (am 0) = some (.inr (2, [.int (nI n), .ref (am 1), .ref (am 2), .int (nI oc), .int td, .int 1, .long sL, .ref (am 3), .ref (am 4), .ref (am 5), .ref (am 6), .ref (am 7), .ref (am 8)])) := pw_us
        refine pw_aload_n (pc := 78) hX dX2_line_78 1 rfl ?_
        refine pw_get (pc := 79) hX dX2_line_79 hm_24 rfl inT_2 5 (by decide) fl_RX2_43 rfl ?_
        refine pw_if_eq (pc := 82) hX 86 dX2_line_82 (by decide) (fun h => absurd h (by decide)) (fun _ => ?_)
        exact pw_vret hX dX2_line_85 hrt ⟨by decide, by decide⟩ ⟨Or.inr ⟨by rw [show cd_line oc os wa p0 (nI g) p2 = 1 from pc_t hno_p0]; decide, rfl, by rw [show cd_line oc os wa p0 (nI g) p2 = 1 from pc_t hno_p0]; exact (mw_ob hm (oc) (mw_oc hm) td 1 sL)⟩, (fm_up fm_rf (x := 0) (by decide) _)⟩
    · refine pw_iload_n (pc := 14) hX dX2_line_14 3 rfl ?_
      refine pw_bipush (pc := 15) (v := 9) hX dX2_line_15 (by decide) ?_
      refine pw_icmp_gt (pc := 17) hX 24 dX2_line_17 (by decide) (fun hc_26 => ?_) (fun hc_26 => ?_)
      · refine pw_iconst (pc := 24) (v := 0) hX dX2_line_24 (by decide) ?_
        refine pw_istore (pc := 25) hX [(4, .int 0), (0, .ref (am 0)), (1, .int p0), (2, .int (nI g)), (3, .int p2)] dX2_line_25 (by decide) rfl ?_
        refine pw_aload_n (pc := 27) hX dX2_line_27 1 rfl ?_
        refine pw_iload_n (pc := 28) hX dX2_line_28 2 rfl ?_
        refine pw_aload_n (pc := 29) hX dX2_line_29 1 rfl ?_
        refine pw_get (pc := 30) hX dX2_line_30 hm.1 rfl inT_2 3 (by decide) fl_RX2_50 rfl ?_
        refine pw_callS (pc := 33) (st := [.ref (am 0)]) hX (mt_below l hl G M p0 oc (Nat.lt_of_le_of_lt (mw_oc hm) (by decide))) ok_X2_below lk_RX2_53 dX2_line_33 rfl ⟨⟨by decide, by decide⟩, Nat.le_of_ble_eq_true rfl, Nat.le_of_ble_eq_true rfl, Nat.le_of_ble_eq_true rfl⟩ rfl (fun v9 M9 hp9 => ?_)
        obtain ⟨rfl, ⟨rfl, j, hj, rfl⟩ | ⟨rfl, hno_p0⟩⟩ := hp9
        · have hjB : j < 2 ^ 31 := Nat.lt_of_lt_of_le hj (Nat.le_trans (mw_oc hm) (by decide))
          refine pw_if_ne (pc := 36) hX 43 dX2_line_36 (by decide) (fun _ => ?_) (fun h => absurd h (by decide))
          refine pw_iload (pc := 43) hX dX2_line_43 0 rfl ?_
          refine pw_if_ne (pc := 45) hX 52 dX2_line_45 (by decide) (fun h => absurd h (by decide)) (fun _ => ?_)
          refine pw_iconst (pc := 48) (v := 2) hX dX2_line_48 (by decide) ?_
          refine pw_goto (pc := 49) hX 75 dX2_line_49 (by decide) ?_
          refine pw_put (pc := 75) (v := .int 2) hX dX2_line_75 hm.1 rfl inT_2 tyX2 tyX2_ok nmX2 5 (by decide) fl_RX2_43 rfl (tyX2_ok 5 (by decide)) rfl rfl (Nat.le_of_ble_eq_true rfl) [.int (nI n), .ref (am 1), .ref (am 2), .int (nI oc), .int td, .int 2, .long sL, .ref (am 3), .ref (am 4), .ref (am 5), .ref (am 6), .ref (am 7), .ref (am 8)] rfl ?_
          have hm_29 := pw_ke (a := am 0) (e := .inr (2, [.int (nI n), .ref (am 1), .ref (am 2), .int (nI oc), .int td, .int 2, .long sL, .ref (am 3), .ref (am 4), .ref (am 5), .ref (am 6), .ref (am 7), .ref (am 8)])) hm.2.1 (mw_ne hm (x := 1) (y := 0) (by decide) (by decide) (by decide))
          have hm_30 := pw_ke (a := am 0) (e := .inr (2, [.int (nI n), .ref (am 1), .ref (am 2), .int (nI oc), .int td, .int 2, .long sL, .ref (am 3), .ref (am 4), .ref (am 5), .ref (am 6), .ref (am 7), .ref (am 8)])) hm.2.2.1 (mw_ne hm (x := 2) (y := 0) (by decide) (by decide) (by decide))
          have hm_31 := pw_ke (a := am 0) (e := .inr (2, [.int (nI n), .ref (am 1), .ref (am 2), .int (nI oc), .int td, .int 2, .long sL, .ref (am 3), .ref (am 4), .ref (am 5), .ref (am 6), .ref (am 7), .ref (am 8)])) hm.2.2.2.1 (mw_ne hm (x := 3) (y := 0) (by decide) (by decide) (by decide))
          have hm_32 := pw_ke (a := am 0) (e := .inr (2, [.int (nI n), .ref (am 1), .ref (am 2), .int (nI oc), .int td, .int 2, .long sL, .ref (am 3), .ref (am 4), .ref (am 5), .ref (am 6), .ref (am 7), .ref (am 8)])) hm.2.2.2.2.1 (mw_ne hm (x := 4) (y := 0) (by decide) (by decide) (by decide))
          have hm_33 := pw_ke (a := am 0) (e := .inr (2, [.int (nI n), .ref (am 1), .ref (am 2), .int (nI oc), .int td, .int 2, .long sL, .ref (am 3), .ref (am 4), .ref (am 5), .ref (am 6), .ref (am 7), .ref (am 8)])) hm.2.2.2.2.2.1 (mw_ne hm (x := 5) (y := 0) (by decide) (by decide) (by decide))
          have hm_34 := pw_ke (a := am 0) (e := .inr (2, [.int (nI n), .ref (am 1), .ref (am 2), .int (nI oc), .int td, .int 2, .long sL, .ref (am 3), .ref (am 4), .ref (am 5), .ref (am 6), .ref (am 7), .ref (am 8)])) hm.2.2.2.2.2.2.1 (mw_ne hm (x := 6) (y := 0) (by decide) (by decide) (by decide))
          have hm_35 := pw_ke (a := am 0) (e := .inr (2, [.int (nI n), .ref (am 1), .ref (am 2), .int (nI oc), .int td, .int 2, .long sL, .ref (am 3), .ref (am 4), .ref (am 5), .ref (am 6), .ref (am 7), .ref (am 8)])) hm.2.2.2.2.2.2.2.1 (mw_ne hm (x := 7) (y := 0) (by decide) (by decide) (by decide))
          have hm_36 := pw_ke (a := am 0) (e := .inr (2, [.int (nI n), .ref (am 1), .ref (am 2), .int (nI oc), .int td, .int 2, .long sL, .ref (am 3), .ref (am 4), .ref (am 5), .ref (am 6), .ref (am 7), .ref (am 8)])) hm.2.2.2.2.2.2.2.2.1 (mw_ne hm (x := 8) (y := 0) (by decide) (by decide) (by decide))
          have hm_37 : pw_up M (am 0) (.inr (2, [.int (nI n), .ref (am 1), .ref (am 2), .int (nI oc), .int td, .int 2, .long sL, .ref (am 3), .ref (am 4), .ref (am 5), .ref (am 6), .ref (am 7), .ref (am 8)])) (am 0) = some (.inr (2, [.int (nI n), .ref (am 1), .ref (am 2), .int (nI oc), .int td, .int 2, .long sL, .ref (am 3), .ref (am 4), .ref (am 5), .ref (am 6), .ref (am 7), .ref (am 8)])) := pw_us
          refine pw_aload_n (pc := 78) hX dX2_line_78 1 rfl ?_
          refine pw_get (pc := 79) hX dX2_line_79 hm_37 rfl inT_2 5 (by decide) fl_RX2_43 rfl ?_
          refine pw_if_eq (pc := 82) hX 86 dX2_line_82 (by decide) (fun h => absurd h (by decide)) (fun _ => ?_)
          exact pw_vret hX dX2_line_85 hrt ⟨by decide, by decide⟩ ⟨Or.inr ⟨by rw [show cd_line oc os wa (nI j) (nI g) p2 = 2 from pc3_2 (fun h => h (ir_nI hj)) (fun h => absurd h.2.2 (Int32.not_le.mpr hc_26))]; decide, rfl, by rw [show cd_line oc os wa (nI j) (nI g) p2 = 2 from pc3_2 (fun h => h (ir_nI hj)) (fun h => absurd h.2.2 (Int32.not_le.mpr hc_26))]; exact (mw_ob hm (oc) (mw_oc hm) td 2 sL)⟩, (fm_up fm_rf (x := 0) (by decide) _)⟩
        · refine pw_if_ne (pc := 36) hX 43 dX2_line_36 (by decide) (fun h => absurd h (by decide)) (fun _ => ?_)
          refine pw_iconst (pc := 39) (v := 1) hX dX2_line_39 (by decide) ?_
          refine pw_goto (pc := 40) hX 75 dX2_line_40 (by decide) ?_
          refine pw_put (pc := 75) (v := .int 1) hX dX2_line_75 hm.1 rfl inT_2 tyX2 tyX2_ok nmX2 5 (by decide) fl_RX2_43 rfl (tyX2_ok 5 (by decide)) rfl rfl (Nat.le_of_ble_eq_true rfl) [.int (nI n), .ref (am 1), .ref (am 2), .int (nI oc), .int td, .int 1, .long sL, .ref (am 3), .ref (am 4), .ref (am 5), .ref (am 6), .ref (am 7), .ref (am 8)] rfl ?_
          have hm_40 := pw_ke (a := am 0) (e := .inr (2, [.int (nI n), .ref (am 1), .ref (am 2), .int (nI oc), .int td, .int 1, .long sL, .ref (am 3), .ref (am 4), .ref (am 5), .ref (am 6), .ref (am 7), .ref (am 8)])) hm.2.1 (mw_ne hm (x := 1) (y := 0) (by decide) (by decide) (by decide))
          have hm_41 := pw_ke (a := am 0) (e := .inr (2, [.int (nI n), .ref (am 1), .ref (am 2), .int (nI oc), .int td, .int 1, .long sL, .ref (am 3), .ref (am 4), .ref (am 5), .ref (am 6), .ref (am 7), .ref (am 8)])) hm.2.2.1 (mw_ne hm (x := 2) (y := 0) (by decide) (by decide) (by decide))
          have hm_42 := pw_ke (a := am 0) (e := .inr (2, [.int (nI n), .ref (am 1), .ref (am 2), .int (nI oc), .int td, .int 1, .long sL, .ref (am 3), .ref (am 4), .ref (am 5), .ref (am 6), .ref (am 7), .ref (am 8)])) hm.2.2.2.1 (mw_ne hm (x := 3) (y := 0) (by decide) (by decide) (by decide))
          have hm_43 := pw_ke (a := am 0) (e := .inr (2, [.int (nI n), .ref (am 1), .ref (am 2), .int (nI oc), .int td, .int 1, .long sL, .ref (am 3), .ref (am 4), .ref (am 5), .ref (am 6), .ref (am 7), .ref (am 8)])) hm.2.2.2.2.1 (mw_ne hm (x := 4) (y := 0) (by decide) (by decide) (by decide))
          have hm_44 := pw_ke (a := am 0) (e := .inr (2, [.int (nI n), .ref (am 1), .ref (am 2), .int (nI oc), .int td, .int 1, .long sL, .ref (am 3), .ref (am 4), .ref (am 5), .ref (am 6), .ref (am 7), .ref (am 8)])) hm.2.2.2.2.2.1 (mw_ne hm (x := 5) (y := 0) (by decide) (by decide) (by decide))
          have hm_45 := pw_ke (a := am 0) (e := .inr (2, [.int (nI n), .ref (am 1), .ref (am 2), .int (nI oc), .int td, .int 1, .long sL, .ref (am 3), .ref (am 4), .ref (am 5), .ref (am 6), .ref (am 7), .ref (am 8)])) hm.2.2.2.2.2.2.1 (mw_ne hm (x := 6) (y := 0) (by decide) (by decide) (by decide))
          have hm_46 := pw_ke (a := am 0) (e := .inr (2, [.int (nI n), .ref (am 1), .ref (am 2), .int (nI oc), .int td, .int 1, .long sL, .ref (am 3), .ref (am 4), .ref (am 5), .ref (am 6), .ref (am 7), .ref (am 8)])) hm.2.2.2.2.2.2.2.1 (mw_ne hm (x := 7) (y := 0) (by decide) (by decide) (by decide))
          have hm_47 := pw_ke (a := am 0) (e := .inr (2, [.int (nI n), .ref (am 1), .ref (am 2), .int (nI oc), .int td, .int 1, .long sL, .ref (am 3), .ref (am 4), .ref (am 5), .ref (am 6), .ref (am 7), .ref (am 8)])) hm.2.2.2.2.2.2.2.2.1 (mw_ne hm (x := 8) (y := 0) (by decide) (by decide) (by decide))
          have hm_48 : pw_up M (am 0) (.inr (2, [.int (nI n), .ref (am 1), .ref (am 2), .int (nI oc), .int td, .int 1, .long sL, .ref (am 3), .ref (am 4), .ref (am 5), .ref (am 6), .ref (am 7), .ref (am 8)])) (am 0) = some (.inr (2, [.int (nI n), .ref (am 1), .ref (am 2), .int (nI oc), .int td, .int 1, .long sL, .ref (am 3), .ref (am 4), .ref (am 5), .ref (am 6), .ref (am 7), .ref (am 8)])) := pw_us
          refine pw_aload_n (pc := 78) hX dX2_line_78 1 rfl ?_
          refine pw_get (pc := 79) hX dX2_line_79 hm_48 rfl inT_2 5 (by decide) fl_RX2_43 rfl ?_
          refine pw_if_eq (pc := 82) hX 86 dX2_line_82 (by decide) (fun h => absurd h (by decide)) (fun _ => ?_)
          exact pw_vret hX dX2_line_85 hrt ⟨by decide, by decide⟩ ⟨Or.inr ⟨by rw [show cd_line oc os wa p0 (nI g) p2 = 1 from pc_t hno_p0]; decide, rfl, by rw [show cd_line oc os wa p0 (nI g) p2 = 1 from pc_t hno_p0]; exact (mw_ob hm (oc) (mw_oc hm) td 1 sL)⟩, (fm_up fm_rf (x := 0) (by decide) _)⟩
      · refine pw_iconst (pc := 20) (v := 1) hX dX2_line_20 (by decide) ?_
        refine pw_goto (pc := 21) hX 25 dX2_line_21 (by decide) ?_
        refine pw_istore (pc := 25) hX [(4, .int 1), (0, .ref (am 0)), (1, .int p0), (2, .int (nI g)), (3, .int p2)] dX2_line_25 (by decide) rfl ?_
        refine pw_aload_n (pc := 27) hX dX2_line_27 1 rfl ?_
        refine pw_iload_n (pc := 28) hX dX2_line_28 2 rfl ?_
        refine pw_aload_n (pc := 29) hX dX2_line_29 1 rfl ?_
        refine pw_get (pc := 30) hX dX2_line_30 hm.1 rfl inT_2 3 (by decide) fl_RX2_50 rfl ?_
        refine pw_callS (pc := 33) (st := [.ref (am 0)]) hX (mt_below l hl G M p0 oc (Nat.lt_of_le_of_lt (mw_oc hm) (by decide))) ok_X2_below lk_RX2_53 dX2_line_33 rfl ⟨⟨by decide, by decide⟩, Nat.le_of_ble_eq_true rfl, Nat.le_of_ble_eq_true rfl, Nat.le_of_ble_eq_true rfl⟩ rfl (fun v9 M9 hp9 => ?_)
        obtain ⟨rfl, ⟨rfl, j, hj, rfl⟩ | ⟨rfl, hno_p0⟩⟩ := hp9
        · have hjB : j < 2 ^ 31 := Nat.lt_of_lt_of_le hj (Nat.le_trans (mw_oc hm) (by decide))
          refine pw_if_ne (pc := 36) hX 43 dX2_line_36 (by decide) (fun _ => ?_) (fun h => absurd h (by decide))
          refine pw_iload (pc := 43) hX dX2_line_43 0 rfl ?_
          refine pw_if_ne (pc := 45) hX 52 dX2_line_45 (by decide) (fun _ => ?_) (fun h => absurd h (by decide))
          refine pw_aload_n (pc := 52) hX dX2_line_52 1 rfl ?_
          refine pw_get (pc := 53) hX dX2_line_53 hm.1 rfl inT_2 7 (by decide) fl_RX2_21 rfl ?_
          refine pw_iload_n (pc := 56) hX dX2_line_56 2 rfl ?_
          refine pw_iald (pc := 57) (j := j) hX dX2_line_57 hm.2.2.2.1 (by omega) (by decide) ?_
          refine pw_if_ne (pc := 58) hX 70 dX2_line_58 (by decide) (fun hc_52 => ?_) (fun hc_52 => ?_)
          · refine pw_iconst (pc := 70) (v := 3) hX dX2_line_70 (by decide) ?_
            refine pw_goto (pc := 71) hX 75 dX2_line_71 (by decide) ?_
            refine pw_put (pc := 75) (v := .int 3) hX dX2_line_75 hm.1 rfl inT_2 tyX2 tyX2_ok nmX2 5 (by decide) fl_RX2_43 rfl (tyX2_ok 5 (by decide)) rfl rfl (Nat.le_of_ble_eq_true rfl) [.int (nI n), .ref (am 1), .ref (am 2), .int (nI oc), .int td, .int 3, .long sL, .ref (am 3), .ref (am 4), .ref (am 5), .ref (am 6), .ref (am 7), .ref (am 8)] rfl ?_
            have hm_53 := pw_ke (a := am 0) (e := .inr (2, [.int (nI n), .ref (am 1), .ref (am 2), .int (nI oc), .int td, .int 3, .long sL, .ref (am 3), .ref (am 4), .ref (am 5), .ref (am 6), .ref (am 7), .ref (am 8)])) hm.2.1 (mw_ne hm (x := 1) (y := 0) (by decide) (by decide) (by decide))
            have hm_54 := pw_ke (a := am 0) (e := .inr (2, [.int (nI n), .ref (am 1), .ref (am 2), .int (nI oc), .int td, .int 3, .long sL, .ref (am 3), .ref (am 4), .ref (am 5), .ref (am 6), .ref (am 7), .ref (am 8)])) hm.2.2.1 (mw_ne hm (x := 2) (y := 0) (by decide) (by decide) (by decide))
            have hm_55 := pw_ke (a := am 0) (e := .inr (2, [.int (nI n), .ref (am 1), .ref (am 2), .int (nI oc), .int td, .int 3, .long sL, .ref (am 3), .ref (am 4), .ref (am 5), .ref (am 6), .ref (am 7), .ref (am 8)])) hm.2.2.2.1 (mw_ne hm (x := 3) (y := 0) (by decide) (by decide) (by decide))
            have hm_56 := pw_ke (a := am 0) (e := .inr (2, [.int (nI n), .ref (am 1), .ref (am 2), .int (nI oc), .int td, .int 3, .long sL, .ref (am 3), .ref (am 4), .ref (am 5), .ref (am 6), .ref (am 7), .ref (am 8)])) hm.2.2.2.2.1 (mw_ne hm (x := 4) (y := 0) (by decide) (by decide) (by decide))
            have hm_57 := pw_ke (a := am 0) (e := .inr (2, [.int (nI n), .ref (am 1), .ref (am 2), .int (nI oc), .int td, .int 3, .long sL, .ref (am 3), .ref (am 4), .ref (am 5), .ref (am 6), .ref (am 7), .ref (am 8)])) hm.2.2.2.2.2.1 (mw_ne hm (x := 5) (y := 0) (by decide) (by decide) (by decide))
            have hm_58 := pw_ke (a := am 0) (e := .inr (2, [.int (nI n), .ref (am 1), .ref (am 2), .int (nI oc), .int td, .int 3, .long sL, .ref (am 3), .ref (am 4), .ref (am 5), .ref (am 6), .ref (am 7), .ref (am 8)])) hm.2.2.2.2.2.2.1 (mw_ne hm (x := 6) (y := 0) (by decide) (by decide) (by decide))
            have hm_59 := pw_ke (a := am 0) (e := .inr (2, [.int (nI n), .ref (am 1), .ref (am 2), .int (nI oc), .int td, .int 3, .long sL, .ref (am 3), .ref (am 4), .ref (am 5), .ref (am 6), .ref (am 7), .ref (am 8)])) hm.2.2.2.2.2.2.2.1 (mw_ne hm (x := 7) (y := 0) (by decide) (by decide) (by decide))
            have hm_60 := pw_ke (a := am 0) (e := .inr (2, [.int (nI n), .ref (am 1), .ref (am 2), .int (nI oc), .int td, .int 3, .long sL, .ref (am 3), .ref (am 4), .ref (am 5), .ref (am 6), .ref (am 7), .ref (am 8)])) hm.2.2.2.2.2.2.2.2.1 (mw_ne hm (x := 8) (y := 0) (by decide) (by decide) (by decide))
            have hm_61 : pw_up M (am 0) (.inr (2, [.int (nI n), .ref (am 1), .ref (am 2), .int (nI oc), .int td, .int 3, .long sL, .ref (am 3), .ref (am 4), .ref (am 5), .ref (am 6), .ref (am 7), .ref (am 8)])) (am 0) = some (.inr (2, [.int (nI n), .ref (am 1), .ref (am 2), .int (nI oc), .int td, .int 3, .long sL, .ref (am 3), .ref (am 4), .ref (am 5), .ref (am 6), .ref (am 7), .ref (am 8)])) := pw_us
            refine pw_aload_n (pc := 78) hX dX2_line_78 1 rfl ?_
            refine pw_get (pc := 79) hX dX2_line_79 hm_61 rfl inT_2 5 (by decide) fl_RX2_43 rfl ?_
            refine pw_if_eq (pc := 82) hX 86 dX2_line_82 (by decide) (fun h => absurd h (by decide)) (fun _ => ?_)
            exact pw_vret hX dX2_line_85 hrt ⟨by decide, by decide⟩ ⟨Or.inr ⟨by rw [show cd_line oc os wa (nI j) (nI g) p2 = 3 from pc3_3 (fun h => h (ir_nI hj)) (fun h => h ⟨ir_nI hg, Int32.not_lt.mp hc_2, Int32.not_lt.mp hc_26⟩) (by rw [ix_nI hjB]; exact fun h => hc_52 h.1)]; decide, rfl, by rw [show cd_line oc os wa (nI j) (nI g) p2 = 3 from pc3_3 (fun h => h (ir_nI hj)) (fun h => h ⟨ir_nI hg, Int32.not_lt.mp hc_2, Int32.not_lt.mp hc_26⟩) (by rw [ix_nI hjB]; exact fun h => hc_52 h.1)]; exact (mw_ob hm (oc) (mw_oc hm) td 3 sL)⟩, (fm_up fm_rf (x := 0) (by decide) _)⟩
          · refine pw_aload_n (pc := 61) hX dX2_line_61 1 rfl ?_
            refine pw_iload_n (pc := 62) hX dX2_line_62 2 rfl ?_
            refine pw_iload_n (pc := 63) hX dX2_line_63 3 rfl ?_
            refine pw_callV (pc := 64) (st := [.ref (am 0)]) hX (mt_hasLine l hl G M am n oc td th sL dk to er os pl wa pr la hm j g hj hg) hm.1 rfl ok_X2_hasLine lk_RX2_46 dX2_line_64 rfl ⟨⟨by decide, by decide⟩, Nat.le_of_ble_eq_true rfl, Nat.le_of_ble_eq_true rfl, Nat.le_of_ble_eq_true rfl⟩ rfl (fun v9 M9 hp9 => ?_)
            obtain ⟨rfl, rfl⟩ := hp9
            refine pw_if_eq (pc := 67) hX 74 dX2_line_67 (by decide) (fun hc_63 => ?_) (fun hc_63 => ?_)
            · refine pw_iconst (pc := 74) (v := 0) hX dX2_line_74 (by decide) ?_
              refine pw_put (pc := 75) (v := .int 0) hX dX2_line_75 hm.1 rfl inT_2 tyX2 tyX2_ok nmX2 5 (by decide) fl_RX2_43 rfl (tyX2_ok 5 (by decide)) rfl rfl (Nat.le_of_ble_eq_true rfl) [.int (nI n), .ref (am 1), .ref (am 2), .int (nI oc), .int td, .int 0, .long sL, .ref (am 3), .ref (am 4), .ref (am 5), .ref (am 6), .ref (am 7), .ref (am 8)] rfl ?_
              have hm_64 := pw_ke (a := am 0) (e := .inr (2, [.int (nI n), .ref (am 1), .ref (am 2), .int (nI oc), .int td, .int 0, .long sL, .ref (am 3), .ref (am 4), .ref (am 5), .ref (am 6), .ref (am 7), .ref (am 8)])) hm.2.1 (mw_ne hm (x := 1) (y := 0) (by decide) (by decide) (by decide))
              have hm_65 := pw_ke (a := am 0) (e := .inr (2, [.int (nI n), .ref (am 1), .ref (am 2), .int (nI oc), .int td, .int 0, .long sL, .ref (am 3), .ref (am 4), .ref (am 5), .ref (am 6), .ref (am 7), .ref (am 8)])) hm.2.2.1 (mw_ne hm (x := 2) (y := 0) (by decide) (by decide) (by decide))
              have hm_66 := pw_ke (a := am 0) (e := .inr (2, [.int (nI n), .ref (am 1), .ref (am 2), .int (nI oc), .int td, .int 0, .long sL, .ref (am 3), .ref (am 4), .ref (am 5), .ref (am 6), .ref (am 7), .ref (am 8)])) hm.2.2.2.1 (mw_ne hm (x := 3) (y := 0) (by decide) (by decide) (by decide))
              have hm_67 := pw_ke (a := am 0) (e := .inr (2, [.int (nI n), .ref (am 1), .ref (am 2), .int (nI oc), .int td, .int 0, .long sL, .ref (am 3), .ref (am 4), .ref (am 5), .ref (am 6), .ref (am 7), .ref (am 8)])) hm.2.2.2.2.1 (mw_ne hm (x := 4) (y := 0) (by decide) (by decide) (by decide))
              have hm_68 := pw_ke (a := am 0) (e := .inr (2, [.int (nI n), .ref (am 1), .ref (am 2), .int (nI oc), .int td, .int 0, .long sL, .ref (am 3), .ref (am 4), .ref (am 5), .ref (am 6), .ref (am 7), .ref (am 8)])) hm.2.2.2.2.2.1 (mw_ne hm (x := 5) (y := 0) (by decide) (by decide) (by decide))
              have hm_69 := pw_ke (a := am 0) (e := .inr (2, [.int (nI n), .ref (am 1), .ref (am 2), .int (nI oc), .int td, .int 0, .long sL, .ref (am 3), .ref (am 4), .ref (am 5), .ref (am 6), .ref (am 7), .ref (am 8)])) hm.2.2.2.2.2.2.1 (mw_ne hm (x := 6) (y := 0) (by decide) (by decide) (by decide))
              have hm_70 := pw_ke (a := am 0) (e := .inr (2, [.int (nI n), .ref (am 1), .ref (am 2), .int (nI oc), .int td, .int 0, .long sL, .ref (am 3), .ref (am 4), .ref (am 5), .ref (am 6), .ref (am 7), .ref (am 8)])) hm.2.2.2.2.2.2.2.1 (mw_ne hm (x := 7) (y := 0) (by decide) (by decide) (by decide))
              have hm_71 := pw_ke (a := am 0) (e := .inr (2, [.int (nI n), .ref (am 1), .ref (am 2), .int (nI oc), .int td, .int 0, .long sL, .ref (am 3), .ref (am 4), .ref (am 5), .ref (am 6), .ref (am 7), .ref (am 8)])) hm.2.2.2.2.2.2.2.2.1 (mw_ne hm (x := 8) (y := 0) (by decide) (by decide) (by decide))
              have hm_72 : pw_up M (am 0) (.inr (2, [.int (nI n), .ref (am 1), .ref (am 2), .int (nI oc), .int td, .int 0, .long sL, .ref (am 3), .ref (am 4), .ref (am 5), .ref (am 6), .ref (am 7), .ref (am 8)])) (am 0) = some (.inr (2, [.int (nI n), .ref (am 1), .ref (am 2), .int (nI oc), .int td, .int 0, .long sL, .ref (am 3), .ref (am 4), .ref (am 5), .ref (am 6), .ref (am 7), .ref (am 8)])) := pw_us
              refine pw_aload_n (pc := 78) hX dX2_line_78 1 rfl ?_
              refine pw_get (pc := 79) hX dX2_line_79 hm_72 rfl inT_2 5 (by decide) fl_RX2_43 rfl ?_
              refine pw_if_eq (pc := 82) hX 86 dX2_line_82 (by decide) (fun _ => ?_) (fun h => absurd h (by decide))
              refine pw_aload_n (pc := 86) hX dX2_line_86 1 rfl ?_
              refine pw_get (pc := 87) hX dX2_line_87 hm_72 rfl inT_2 9 (by decide) fl_RX2_27 rfl ?_
              refine pw_bipush (pc := 90) (v := 10) hX dX2_line_90 (by decide) ?_
              refine pw_iload_n (pc := 92) hX dX2_line_92 2 rfl ?_
              refine pw_imul (pc := 93) (z := nI (10 * j)) hX dX2_line_93 (pk_mul 10 _) ?_
              refine pw_iload_n (pc := 94) hX dX2_line_94 3 rfl ?_
              refine pw_iadd (pc := 95) (z := nI (10 * j + g)) hX dX2_line_95 (nI_add _ _) ?_
              refine pw_iload_n (pc := 96) hX dX2_line_96 4 rfl ?_
              refine pw_iast (pc := 97) (j := 10 * j + g) hX dX2_line_97 hm_68 (by omega) (by decide) ?_
              have hm_74 := pw_ke (a := am 5) (e := .inl (G.2.2.1 0, 200, .inl (upd (fl wa) (10 * j + g) p2))) hm_72 (mw_ne hm (x := 0) (y := 5) (by decide) (by decide) (by decide))
              have hm_75 := pw_ke (a := am 5) (e := .inl (G.2.2.1 0, 200, .inl (upd (fl wa) (10 * j + g) p2))) hm_64 (mw_ne hm (x := 1) (y := 5) (by decide) (by decide) (by decide))
              have hm_76 := pw_ke (a := am 5) (e := .inl (G.2.2.1 0, 200, .inl (upd (fl wa) (10 * j + g) p2))) hm_65 (mw_ne hm (x := 2) (y := 5) (by decide) (by decide) (by decide))
              have hm_77 := pw_ke (a := am 5) (e := .inl (G.2.2.1 0, 200, .inl (upd (fl wa) (10 * j + g) p2))) hm_66 (mw_ne hm (x := 3) (y := 5) (by decide) (by decide) (by decide))
              have hm_78 := pw_ke (a := am 5) (e := .inl (G.2.2.1 0, 200, .inl (upd (fl wa) (10 * j + g) p2))) hm_67 (mw_ne hm (x := 4) (y := 5) (by decide) (by decide) (by decide))
              have hm_79 := pw_ke (a := am 5) (e := .inl (G.2.2.1 0, 200, .inl (upd (fl wa) (10 * j + g) p2))) hm_69 (mw_ne hm (x := 6) (y := 5) (by decide) (by decide) (by decide))
              have hm_80 := pw_ke (a := am 5) (e := .inl (G.2.2.1 0, 200, .inl (upd (fl wa) (10 * j + g) p2))) hm_70 (mw_ne hm (x := 7) (y := 5) (by decide) (by decide) (by decide))
              have hm_81 := pw_ke (a := am 5) (e := .inl (G.2.2.1 0, 200, .inl (upd (fl wa) (10 * j + g) p2))) hm_71 (mw_ne hm (x := 8) (y := 5) (by decide) (by decide) (by decide))
              have hm_82 : pw_up (pw_up M (am 0) (.inr (2, [.int (nI n), .ref (am 1), .ref (am 2), .int (nI oc), .int td, .int 0, .long sL, .ref (am 3), .ref (am 4), .ref (am 5), .ref (am 6), .ref (am 7), .ref (am 8)]))) (am 5) (.inl (G.2.2.1 0, 200, .inl (upd (fl wa) (10 * j + g) p2))) (am 5) = some (.inl (G.2.2.1 0, 200, .inl (upd (fl wa) (10 * j + g) p2))) := pw_us
              refine pw_aload_n (pc := 98) hX dX2_line_98 1 rfl ?_
              refine pw_get (pc := 99) hX dX2_line_99 hm_74 rfl inT_2 10 (by decide) fl_RX2_30 rfl ?_
              refine pw_bipush (pc := 102) (v := 10) hX dX2_line_102 (by decide) ?_
              refine pw_iload_n (pc := 104) hX dX2_line_104 2 rfl ?_
              refine pw_imul (pc := 105) (z := nI (10 * j)) hX dX2_line_105 (pk_mul 10 _) ?_
              refine pw_iload_n (pc := 106) hX dX2_line_106 3 rfl ?_
              refine pw_iadd (pc := 107) (z := nI (10 * j + g)) hX dX2_line_107 (nI_add _ _) ?_
              refine pw_iconst (pc := 108) (v := 0) hX dX2_line_108 (by decide) ?_
              refine pw_iast (pc := 109) (j := 10 * j + g) hX dX2_line_109 hm_79 (by omega) (by decide) ?_
              have hm_83 := pw_ke (a := am 6) (e := .inl (G.2.2.1 0, 200, .inl (upd (fl pr) (10 * j + g) 0))) hm_74 (mw_ne hm (x := 0) (y := 6) (by decide) (by decide) (by decide))
              have hm_84 := pw_ke (a := am 6) (e := .inl (G.2.2.1 0, 200, .inl (upd (fl pr) (10 * j + g) 0))) hm_75 (mw_ne hm (x := 1) (y := 6) (by decide) (by decide) (by decide))
              have hm_85 := pw_ke (a := am 6) (e := .inl (G.2.2.1 0, 200, .inl (upd (fl pr) (10 * j + g) 0))) hm_76 (mw_ne hm (x := 2) (y := 6) (by decide) (by decide) (by decide))
              have hm_86 := pw_ke (a := am 6) (e := .inl (G.2.2.1 0, 200, .inl (upd (fl pr) (10 * j + g) 0))) hm_77 (mw_ne hm (x := 3) (y := 6) (by decide) (by decide) (by decide))
              have hm_87 := pw_ke (a := am 6) (e := .inl (G.2.2.1 0, 200, .inl (upd (fl pr) (10 * j + g) 0))) hm_78 (mw_ne hm (x := 4) (y := 6) (by decide) (by decide) (by decide))
              have hm_88 := pw_ke (a := am 6) (e := .inl (G.2.2.1 0, 200, .inl (upd (fl pr) (10 * j + g) 0))) hm_82 (mw_ne hm (x := 5) (y := 6) (by decide) (by decide) (by decide))
              have hm_89 := pw_ke (a := am 6) (e := .inl (G.2.2.1 0, 200, .inl (upd (fl pr) (10 * j + g) 0))) hm_80 (mw_ne hm (x := 7) (y := 6) (by decide) (by decide) (by decide))
              have hm_90 := pw_ke (a := am 6) (e := .inl (G.2.2.1 0, 200, .inl (upd (fl pr) (10 * j + g) 0))) hm_81 (mw_ne hm (x := 8) (y := 6) (by decide) (by decide) (by decide))
              have hm_91 : pw_up (pw_up (pw_up M (am 0) (.inr (2, [.int (nI n), .ref (am 1), .ref (am 2), .int (nI oc), .int td, .int 0, .long sL, .ref (am 3), .ref (am 4), .ref (am 5), .ref (am 6), .ref (am 7), .ref (am 8)]))) (am 5) (.inl (G.2.2.1 0, 200, .inl (upd (fl wa) (10 * j + g) p2)))) (am 6) (.inl (G.2.2.1 0, 200, .inl (upd (fl pr) (10 * j + g) 0))) (am 6) = some (.inl (G.2.2.1 0, 200, .inl (upd (fl pr) (10 * j + g) 0))) := pw_us
              refine pw_aload_n (pc := 110) hX dX2_line_110 1 rfl ?_
              refine pw_get (pc := 111) hX dX2_line_111 hm_83 rfl inT_2 11 (by decide) fl_RX2_33 rfl ?_
              refine pw_bipush (pc := 114) (v := 10) hX dX2_line_114 (by decide) ?_
              refine pw_iload_n (pc := 116) hX dX2_line_116 2 rfl ?_
              refine pw_imul (pc := 117) (z := nI (10 * j)) hX dX2_line_117 (pk_mul 10 _) ?_
              refine pw_iload_n (pc := 118) hX dX2_line_118 3 rfl ?_
              refine pw_iadd (pc := 119) (z := nI (10 * j + g)) hX dX2_line_119 (nI_add _ _) ?_
              refine pw_iconst (pc := 120) (v := (-1)) hX dX2_line_120 (by decide) ?_
              refine pw_iast (pc := 121) (j := 10 * j + g) hX dX2_line_121 hm_89 (by omega) (by decide) ?_
              have hm_92 := pw_ke (a := am 7) (e := .inl (G.2.2.1 0, 200, .inl (upd (fl la) (10 * j + g) ((-1))))) hm_83 (mw_ne hm (x := 0) (y := 7) (by decide) (by decide) (by decide))
              have hm_93 := pw_ke (a := am 7) (e := .inl (G.2.2.1 0, 200, .inl (upd (fl la) (10 * j + g) ((-1))))) hm_84 (mw_ne hm (x := 1) (y := 7) (by decide) (by decide) (by decide))
              have hm_94 := pw_ke (a := am 7) (e := .inl (G.2.2.1 0, 200, .inl (upd (fl la) (10 * j + g) ((-1))))) hm_85 (mw_ne hm (x := 2) (y := 7) (by decide) (by decide) (by decide))
              have hm_95 := pw_ke (a := am 7) (e := .inl (G.2.2.1 0, 200, .inl (upd (fl la) (10 * j + g) ((-1))))) hm_86 (mw_ne hm (x := 3) (y := 7) (by decide) (by decide) (by decide))
              have hm_96 := pw_ke (a := am 7) (e := .inl (G.2.2.1 0, 200, .inl (upd (fl la) (10 * j + g) ((-1))))) hm_87 (mw_ne hm (x := 4) (y := 7) (by decide) (by decide) (by decide))
              have hm_97 := pw_ke (a := am 7) (e := .inl (G.2.2.1 0, 200, .inl (upd (fl la) (10 * j + g) ((-1))))) hm_88 (mw_ne hm (x := 5) (y := 7) (by decide) (by decide) (by decide))
              have hm_98 := pw_ke (a := am 7) (e := .inl (G.2.2.1 0, 200, .inl (upd (fl la) (10 * j + g) ((-1))))) hm_91 (mw_ne hm (x := 6) (y := 7) (by decide) (by decide) (by decide))
              have hm_99 := pw_ke (a := am 7) (e := .inl (G.2.2.1 0, 200, .inl (upd (fl la) (10 * j + g) ((-1))))) hm_90 (mw_ne hm (x := 8) (y := 7) (by decide) (by decide) (by decide))
              have hm_100 : pw_up (pw_up (pw_up (pw_up M (am 0) (.inr (2, [.int (nI n), .ref (am 1), .ref (am 2), .int (nI oc), .int td, .int 0, .long sL, .ref (am 3), .ref (am 4), .ref (am 5), .ref (am 6), .ref (am 7), .ref (am 8)]))) (am 5) (.inl (G.2.2.1 0, 200, .inl (upd (fl wa) (10 * j + g) p2)))) (am 6) (.inl (G.2.2.1 0, 200, .inl (upd (fl pr) (10 * j + g) 0)))) (am 7) (.inl (G.2.2.1 0, 200, .inl (upd (fl la) (10 * j + g) ((-1))))) (am 7) = some (.inl (G.2.2.1 0, 200, .inl (upd (fl la) (10 * j + g) ((-1))))) := pw_us
              exact pw_vret hX dX2_line_122 hrt ⟨by decide, by decide⟩ (by rw [ix_nI hjB, ix_nI hgB]; exact ⟨Or.inl ⟨pc3_0 (fun h => h (ir_nI hj)) (fun h => h ⟨ir_nI hg, Int32.not_lt.mp hc_2, Int32.not_lt.mp hc_26⟩) (fun h => h (by rw [ix_nI hjB, ix_nI hgB]; exact ⟨hc_52, pw_ite0 hc_63⟩)), rfl, (mw_la (mw_pr (mw_wa (mw_ob hm (oc) (mw_oc hm) td 0 sL) j g hg _) j g hg _) j g hg _)⟩, (fm_up (fm_up (fm_up (fm_up fm_rf (x := 0) (by decide) _) (x := 5) (by decide) _) (x := 6) (by decide) _) (x := 7) (by decide) _)⟩)
            · refine pw_iconst (pc := 70) (v := 3) hX dX2_line_70 (by decide) ?_
              refine pw_goto (pc := 71) hX 75 dX2_line_71 (by decide) ?_
              refine pw_put (pc := 75) (v := .int 3) hX dX2_line_75 hm.1 rfl inT_2 tyX2 tyX2_ok nmX2 5 (by decide) fl_RX2_43 rfl (tyX2_ok 5 (by decide)) rfl rfl (Nat.le_of_ble_eq_true rfl) [.int (nI n), .ref (am 1), .ref (am 2), .int (nI oc), .int td, .int 3, .long sL, .ref (am 3), .ref (am 4), .ref (am 5), .ref (am 6), .ref (am 7), .ref (am 8)] rfl ?_
              have hm_101 := pw_ke (a := am 0) (e := .inr (2, [.int (nI n), .ref (am 1), .ref (am 2), .int (nI oc), .int td, .int 3, .long sL, .ref (am 3), .ref (am 4), .ref (am 5), .ref (am 6), .ref (am 7), .ref (am 8)])) hm.2.1 (mw_ne hm (x := 1) (y := 0) (by decide) (by decide) (by decide))
              have hm_102 := pw_ke (a := am 0) (e := .inr (2, [.int (nI n), .ref (am 1), .ref (am 2), .int (nI oc), .int td, .int 3, .long sL, .ref (am 3), .ref (am 4), .ref (am 5), .ref (am 6), .ref (am 7), .ref (am 8)])) hm.2.2.1 (mw_ne hm (x := 2) (y := 0) (by decide) (by decide) (by decide))
              have hm_103 := pw_ke (a := am 0) (e := .inr (2, [.int (nI n), .ref (am 1), .ref (am 2), .int (nI oc), .int td, .int 3, .long sL, .ref (am 3), .ref (am 4), .ref (am 5), .ref (am 6), .ref (am 7), .ref (am 8)])) hm.2.2.2.1 (mw_ne hm (x := 3) (y := 0) (by decide) (by decide) (by decide))
              have hm_104 := pw_ke (a := am 0) (e := .inr (2, [.int (nI n), .ref (am 1), .ref (am 2), .int (nI oc), .int td, .int 3, .long sL, .ref (am 3), .ref (am 4), .ref (am 5), .ref (am 6), .ref (am 7), .ref (am 8)])) hm.2.2.2.2.1 (mw_ne hm (x := 4) (y := 0) (by decide) (by decide) (by decide))
              have hm_105 := pw_ke (a := am 0) (e := .inr (2, [.int (nI n), .ref (am 1), .ref (am 2), .int (nI oc), .int td, .int 3, .long sL, .ref (am 3), .ref (am 4), .ref (am 5), .ref (am 6), .ref (am 7), .ref (am 8)])) hm.2.2.2.2.2.1 (mw_ne hm (x := 5) (y := 0) (by decide) (by decide) (by decide))
              have hm_106 := pw_ke (a := am 0) (e := .inr (2, [.int (nI n), .ref (am 1), .ref (am 2), .int (nI oc), .int td, .int 3, .long sL, .ref (am 3), .ref (am 4), .ref (am 5), .ref (am 6), .ref (am 7), .ref (am 8)])) hm.2.2.2.2.2.2.1 (mw_ne hm (x := 6) (y := 0) (by decide) (by decide) (by decide))
              have hm_107 := pw_ke (a := am 0) (e := .inr (2, [.int (nI n), .ref (am 1), .ref (am 2), .int (nI oc), .int td, .int 3, .long sL, .ref (am 3), .ref (am 4), .ref (am 5), .ref (am 6), .ref (am 7), .ref (am 8)])) hm.2.2.2.2.2.2.2.1 (mw_ne hm (x := 7) (y := 0) (by decide) (by decide) (by decide))
              have hm_108 := pw_ke (a := am 0) (e := .inr (2, [.int (nI n), .ref (am 1), .ref (am 2), .int (nI oc), .int td, .int 3, .long sL, .ref (am 3), .ref (am 4), .ref (am 5), .ref (am 6), .ref (am 7), .ref (am 8)])) hm.2.2.2.2.2.2.2.2.1 (mw_ne hm (x := 8) (y := 0) (by decide) (by decide) (by decide))
              have hm_109 : pw_up M (am 0) (.inr (2, [.int (nI n), .ref (am 1), .ref (am 2), .int (nI oc), .int td, .int 3, .long sL, .ref (am 3), .ref (am 4), .ref (am 5), .ref (am 6), .ref (am 7), .ref (am 8)])) (am 0) = some (.inr (2, [.int (nI n), .ref (am 1), .ref (am 2), .int (nI oc), .int td, .int 3, .long sL, .ref (am 3), .ref (am 4), .ref (am 5), .ref (am 6), .ref (am 7), .ref (am 8)])) := pw_us
              refine pw_aload_n (pc := 78) hX dX2_line_78 1 rfl ?_
              refine pw_get (pc := 79) hX dX2_line_79 hm_109 rfl inT_2 5 (by decide) fl_RX2_43 rfl ?_
              refine pw_if_eq (pc := 82) hX 86 dX2_line_82 (by decide) (fun h => absurd h (by decide)) (fun _ => ?_)
              exact pw_vret hX dX2_line_85 hrt ⟨by decide, by decide⟩ ⟨Or.inr ⟨by rw [show cd_line oc os wa (nI j) (nI g) p2 = 3 from pc3_3 (fun h => h (ir_nI hj)) (fun h => h ⟨ir_nI hg, Int32.not_lt.mp hc_2, Int32.not_lt.mp hc_26⟩) (by rw [ix_nI hjB, ix_nI hgB]; exact fun h => h.2 (pw_ite1 hc_63))]; decide, rfl, by rw [show cd_line oc os wa (nI j) (nI g) p2 = 3 from pc3_3 (fun h => h (ir_nI hj)) (fun h => h ⟨ir_nI hg, Int32.not_lt.mp hc_2, Int32.not_lt.mp hc_26⟩) (by rw [ix_nI hjB, ix_nI hgB]; exact fun h => h.2 (pw_ite1 hc_63))]; exact (mw_ob hm (oc) (mw_oc hm) td 3 sL)⟩, (fm_up fm_rf (x := 0) (by decide) _)⟩
        · refine pw_if_ne (pc := 36) hX 43 dX2_line_36 (by decide) (fun h => absurd h (by decide)) (fun _ => ?_)
          refine pw_iconst (pc := 39) (v := 1) hX dX2_line_39 (by decide) ?_
          refine pw_goto (pc := 40) hX 75 dX2_line_40 (by decide) ?_
          refine pw_put (pc := 75) (v := .int 1) hX dX2_line_75 hm.1 rfl inT_2 tyX2 tyX2_ok nmX2 5 (by decide) fl_RX2_43 rfl (tyX2_ok 5 (by decide)) rfl rfl (Nat.le_of_ble_eq_true rfl) [.int (nI n), .ref (am 1), .ref (am 2), .int (nI oc), .int td, .int 1, .long sL, .ref (am 3), .ref (am 4), .ref (am 5), .ref (am 6), .ref (am 7), .ref (am 8)] rfl ?_
          have hm_112 := pw_ke (a := am 0) (e := .inr (2, [.int (nI n), .ref (am 1), .ref (am 2), .int (nI oc), .int td, .int 1, .long sL, .ref (am 3), .ref (am 4), .ref (am 5), .ref (am 6), .ref (am 7), .ref (am 8)])) hm.2.1 (mw_ne hm (x := 1) (y := 0) (by decide) (by decide) (by decide))
          have hm_113 := pw_ke (a := am 0) (e := .inr (2, [.int (nI n), .ref (am 1), .ref (am 2), .int (nI oc), .int td, .int 1, .long sL, .ref (am 3), .ref (am 4), .ref (am 5), .ref (am 6), .ref (am 7), .ref (am 8)])) hm.2.2.1 (mw_ne hm (x := 2) (y := 0) (by decide) (by decide) (by decide))
          have hm_114 := pw_ke (a := am 0) (e := .inr (2, [.int (nI n), .ref (am 1), .ref (am 2), .int (nI oc), .int td, .int 1, .long sL, .ref (am 3), .ref (am 4), .ref (am 5), .ref (am 6), .ref (am 7), .ref (am 8)])) hm.2.2.2.1 (mw_ne hm (x := 3) (y := 0) (by decide) (by decide) (by decide))
          have hm_115 := pw_ke (a := am 0) (e := .inr (2, [.int (nI n), .ref (am 1), .ref (am 2), .int (nI oc), .int td, .int 1, .long sL, .ref (am 3), .ref (am 4), .ref (am 5), .ref (am 6), .ref (am 7), .ref (am 8)])) hm.2.2.2.2.1 (mw_ne hm (x := 4) (y := 0) (by decide) (by decide) (by decide))
          have hm_116 := pw_ke (a := am 0) (e := .inr (2, [.int (nI n), .ref (am 1), .ref (am 2), .int (nI oc), .int td, .int 1, .long sL, .ref (am 3), .ref (am 4), .ref (am 5), .ref (am 6), .ref (am 7), .ref (am 8)])) hm.2.2.2.2.2.1 (mw_ne hm (x := 5) (y := 0) (by decide) (by decide) (by decide))
          have hm_117 := pw_ke (a := am 0) (e := .inr (2, [.int (nI n), .ref (am 1), .ref (am 2), .int (nI oc), .int td, .int 1, .long sL, .ref (am 3), .ref (am 4), .ref (am 5), .ref (am 6), .ref (am 7), .ref (am 8)])) hm.2.2.2.2.2.2.1 (mw_ne hm (x := 6) (y := 0) (by decide) (by decide) (by decide))
          have hm_118 := pw_ke (a := am 0) (e := .inr (2, [.int (nI n), .ref (am 1), .ref (am 2), .int (nI oc), .int td, .int 1, .long sL, .ref (am 3), .ref (am 4), .ref (am 5), .ref (am 6), .ref (am 7), .ref (am 8)])) hm.2.2.2.2.2.2.2.1 (mw_ne hm (x := 7) (y := 0) (by decide) (by decide) (by decide))
          have hm_119 := pw_ke (a := am 0) (e := .inr (2, [.int (nI n), .ref (am 1), .ref (am 2), .int (nI oc), .int td, .int 1, .long sL, .ref (am 3), .ref (am 4), .ref (am 5), .ref (am 6), .ref (am 7), .ref (am 8)])) hm.2.2.2.2.2.2.2.2.1 (mw_ne hm (x := 8) (y := 0) (by decide) (by decide) (by decide))
          have hm_120 : pw_up M (am 0) (.inr (2, [.int (nI n), .ref (am 1), .ref (am 2), .int (nI oc), .int td, .int 1, .long sL, .ref (am 3), .ref (am 4), .ref (am 5), .ref (am 6), .ref (am 7), .ref (am 8)])) (am 0) = some (.inr (2, [.int (nI n), .ref (am 1), .ref (am 2), .int (nI oc), .int td, .int 1, .long sL, .ref (am 3), .ref (am 4), .ref (am 5), .ref (am 6), .ref (am 7), .ref (am 8)])) := pw_us
          refine pw_aload_n (pc := 78) hX dX2_line_78 1 rfl ?_
          refine pw_get (pc := 79) hX dX2_line_79 hm_120 rfl inT_2 5 (by decide) fl_RX2_43 rfl ?_
          refine pw_if_eq (pc := 82) hX 86 dX2_line_82 (by decide) (fun h => absurd h (by decide)) (fun _ => ?_)
          exact pw_vret hX dX2_line_85 hrt ⟨by decide, by decide⟩ ⟨Or.inr ⟨by rw [show cd_line oc os wa p0 (nI g) p2 = 1 from pc_t hno_p0]; decide, rfl, by rw [show cd_line oc os wa p0 (nI g) p2 = 1 from pc_t hno_p0]; exact (mw_ob hm (oc) (mw_oc hm) td 1 sL)⟩, (fm_up fm_rf (x := 0) (by decide) _)⟩
  · refine pw_if_eq (pc := 6) hX 24 dX2_line_6 (by decide) (fun _ => ?_) (fun h => absurd h (by decide))
    refine pw_iconst (pc := 24) (v := 0) hX dX2_line_24 (by decide) ?_
    refine pw_istore (pc := 25) hX [(4, .int 0), (0, .ref (am 0)), (1, .int p0), (2, .int p1), (3, .int p2)] dX2_line_25 (by decide) rfl ?_
    refine pw_aload_n (pc := 27) hX dX2_line_27 1 rfl ?_
    refine pw_iload_n (pc := 28) hX dX2_line_28 2 rfl ?_
    refine pw_aload_n (pc := 29) hX dX2_line_29 1 rfl ?_
    refine pw_get (pc := 30) hX dX2_line_30 hm.1 rfl inT_2 3 (by decide) fl_RX2_50 rfl ?_
    refine pw_callS (pc := 33) (st := [.ref (am 0)]) hX (mt_below l hl G M p0 oc (Nat.lt_of_le_of_lt (mw_oc hm) (by decide))) ok_X2_below lk_RX2_53 dX2_line_33 rfl ⟨⟨by decide, by decide⟩, Nat.le_of_ble_eq_true rfl, Nat.le_of_ble_eq_true rfl, Nat.le_of_ble_eq_true rfl⟩ rfl (fun v9 M9 hp9 => ?_)
    obtain ⟨rfl, ⟨rfl, j, hj, rfl⟩ | ⟨rfl, hno_p0⟩⟩ := hp9
    · have hjB : j < 2 ^ 31 := Nat.lt_of_lt_of_le hj (Nat.le_trans (mw_oc hm) (by decide))
      refine pw_if_ne (pc := 36) hX 43 dX2_line_36 (by decide) (fun _ => ?_) (fun h => absurd h (by decide))
      refine pw_iload (pc := 43) hX dX2_line_43 0 rfl ?_
      refine pw_if_ne (pc := 45) hX 52 dX2_line_45 (by decide) (fun h => absurd h (by decide)) (fun _ => ?_)
      refine pw_iconst (pc := 48) (v := 2) hX dX2_line_48 (by decide) ?_
      refine pw_goto (pc := 49) hX 75 dX2_line_49 (by decide) ?_
      refine pw_put (pc := 75) (v := .int 2) hX dX2_line_75 hm.1 rfl inT_2 tyX2 tyX2_ok nmX2 5 (by decide) fl_RX2_43 rfl (tyX2_ok 5 (by decide)) rfl rfl (Nat.le_of_ble_eq_true rfl) [.int (nI n), .ref (am 1), .ref (am 2), .int (nI oc), .int td, .int 2, .long sL, .ref (am 3), .ref (am 4), .ref (am 5), .ref (am 6), .ref (am 7), .ref (am 8)] rfl ?_
      have hm_125 := pw_ke (a := am 0) (e := .inr (2, [.int (nI n), .ref (am 1), .ref (am 2), .int (nI oc), .int td, .int 2, .long sL, .ref (am 3), .ref (am 4), .ref (am 5), .ref (am 6), .ref (am 7), .ref (am 8)])) hm.2.1 (mw_ne hm (x := 1) (y := 0) (by decide) (by decide) (by decide))
      have hm_126 := pw_ke (a := am 0) (e := .inr (2, [.int (nI n), .ref (am 1), .ref (am 2), .int (nI oc), .int td, .int 2, .long sL, .ref (am 3), .ref (am 4), .ref (am 5), .ref (am 6), .ref (am 7), .ref (am 8)])) hm.2.2.1 (mw_ne hm (x := 2) (y := 0) (by decide) (by decide) (by decide))
      have hm_127 := pw_ke (a := am 0) (e := .inr (2, [.int (nI n), .ref (am 1), .ref (am 2), .int (nI oc), .int td, .int 2, .long sL, .ref (am 3), .ref (am 4), .ref (am 5), .ref (am 6), .ref (am 7), .ref (am 8)])) hm.2.2.2.1 (mw_ne hm (x := 3) (y := 0) (by decide) (by decide) (by decide))
      have hm_128 := pw_ke (a := am 0) (e := .inr (2, [.int (nI n), .ref (am 1), .ref (am 2), .int (nI oc), .int td, .int 2, .long sL, .ref (am 3), .ref (am 4), .ref (am 5), .ref (am 6), .ref (am 7), .ref (am 8)])) hm.2.2.2.2.1 (mw_ne hm (x := 4) (y := 0) (by decide) (by decide) (by decide))
      have hm_129 := pw_ke (a := am 0) (e := .inr (2, [.int (nI n), .ref (am 1), .ref (am 2), .int (nI oc), .int td, .int 2, .long sL, .ref (am 3), .ref (am 4), .ref (am 5), .ref (am 6), .ref (am 7), .ref (am 8)])) hm.2.2.2.2.2.1 (mw_ne hm (x := 5) (y := 0) (by decide) (by decide) (by decide))
      have hm_130 := pw_ke (a := am 0) (e := .inr (2, [.int (nI n), .ref (am 1), .ref (am 2), .int (nI oc), .int td, .int 2, .long sL, .ref (am 3), .ref (am 4), .ref (am 5), .ref (am 6), .ref (am 7), .ref (am 8)])) hm.2.2.2.2.2.2.1 (mw_ne hm (x := 6) (y := 0) (by decide) (by decide) (by decide))
      have hm_131 := pw_ke (a := am 0) (e := .inr (2, [.int (nI n), .ref (am 1), .ref (am 2), .int (nI oc), .int td, .int 2, .long sL, .ref (am 3), .ref (am 4), .ref (am 5), .ref (am 6), .ref (am 7), .ref (am 8)])) hm.2.2.2.2.2.2.2.1 (mw_ne hm (x := 7) (y := 0) (by decide) (by decide) (by decide))
      have hm_132 := pw_ke (a := am 0) (e := .inr (2, [.int (nI n), .ref (am 1), .ref (am 2), .int (nI oc), .int td, .int 2, .long sL, .ref (am 3), .ref (am 4), .ref (am 5), .ref (am 6), .ref (am 7), .ref (am 8)])) hm.2.2.2.2.2.2.2.2.1 (mw_ne hm (x := 8) (y := 0) (by decide) (by decide) (by decide))
      have hm_133 : pw_up M (am 0) (.inr (2, [.int (nI n), .ref (am 1), .ref (am 2), .int (nI oc), .int td, .int 2, .long sL, .ref (am 3), .ref (am 4), .ref (am 5), .ref (am 6), .ref (am 7), .ref (am 8)])) (am 0) = some (.inr (2, [.int (nI n), .ref (am 1), .ref (am 2), .int (nI oc), .int td, .int 2, .long sL, .ref (am 3), .ref (am 4), .ref (am 5), .ref (am 6), .ref (am 7), .ref (am 8)])) := pw_us
      refine pw_aload_n (pc := 78) hX dX2_line_78 1 rfl ?_
      refine pw_get (pc := 79) hX dX2_line_79 hm_133 rfl inT_2 5 (by decide) fl_RX2_43 rfl ?_
      refine pw_if_eq (pc := 82) hX 86 dX2_line_82 (by decide) (fun h => absurd h (by decide)) (fun _ => ?_)
      exact pw_vret hX dX2_line_85 hrt ⟨by decide, by decide⟩ ⟨Or.inr ⟨by rw [show cd_line oc os wa (nI j) p1 p2 = 2 from pc3_2 (fun h => h (ir_nI hj)) (fun h => hno_p1 h.1)]; decide, rfl, by rw [show cd_line oc os wa (nI j) p1 p2 = 2 from pc3_2 (fun h => h (ir_nI hj)) (fun h => hno_p1 h.1)]; exact (mw_ob hm (oc) (mw_oc hm) td 2 sL)⟩, (fm_up fm_rf (x := 0) (by decide) _)⟩
    · refine pw_if_ne (pc := 36) hX 43 dX2_line_36 (by decide) (fun h => absurd h (by decide)) (fun _ => ?_)
      refine pw_iconst (pc := 39) (v := 1) hX dX2_line_39 (by decide) ?_
      refine pw_goto (pc := 40) hX 75 dX2_line_40 (by decide) ?_
      refine pw_put (pc := 75) (v := .int 1) hX dX2_line_75 hm.1 rfl inT_2 tyX2 tyX2_ok nmX2 5 (by decide) fl_RX2_43 rfl (tyX2_ok 5 (by decide)) rfl rfl (Nat.le_of_ble_eq_true rfl) [.int (nI n), .ref (am 1), .ref (am 2), .int (nI oc), .int td, .int 1, .long sL, .ref (am 3), .ref (am 4), .ref (am 5), .ref (am 6), .ref (am 7), .ref (am 8)] rfl ?_
      have hm_136 := pw_ke (a := am 0) (e := .inr (2, [.int (nI n), .ref (am 1), .ref (am 2), .int (nI oc), .int td, .int 1, .long sL, .ref (am 3), .ref (am 4), .ref (am 5), .ref (am 6), .ref (am 7), .ref (am 8)])) hm.2.1 (mw_ne hm (x := 1) (y := 0) (by decide) (by decide) (by decide))
      have hm_137 := pw_ke (a := am 0) (e := .inr (2, [.int (nI n), .ref (am 1), .ref (am 2), .int (nI oc), .int td, .int 1, .long sL, .ref (am 3), .ref (am 4), .ref (am 5), .ref (am 6), .ref (am 7), .ref (am 8)])) hm.2.2.1 (mw_ne hm (x := 2) (y := 0) (by decide) (by decide) (by decide))
      have hm_138 := pw_ke (a := am 0) (e := .inr (2, [.int (nI n), .ref (am 1), .ref (am 2), .int (nI oc), .int td, .int 1, .long sL, .ref (am 3), .ref (am 4), .ref (am 5), .ref (am 6), .ref (am 7), .ref (am 8)])) hm.2.2.2.1 (mw_ne hm (x := 3) (y := 0) (by decide) (by decide) (by decide))
      have hm_139 := pw_ke (a := am 0) (e := .inr (2, [.int (nI n), .ref (am 1), .ref (am 2), .int (nI oc), .int td, .int 1, .long sL, .ref (am 3), .ref (am 4), .ref (am 5), .ref (am 6), .ref (am 7), .ref (am 8)])) hm.2.2.2.2.1 (mw_ne hm (x := 4) (y := 0) (by decide) (by decide) (by decide))
      have hm_140 := pw_ke (a := am 0) (e := .inr (2, [.int (nI n), .ref (am 1), .ref (am 2), .int (nI oc), .int td, .int 1, .long sL, .ref (am 3), .ref (am 4), .ref (am 5), .ref (am 6), .ref (am 7), .ref (am 8)])) hm.2.2.2.2.2.1 (mw_ne hm (x := 5) (y := 0) (by decide) (by decide) (by decide))
      have hm_141 := pw_ke (a := am 0) (e := .inr (2, [.int (nI n), .ref (am 1), .ref (am 2), .int (nI oc), .int td, .int 1, .long sL, .ref (am 3), .ref (am 4), .ref (am 5), .ref (am 6), .ref (am 7), .ref (am 8)])) hm.2.2.2.2.2.2.1 (mw_ne hm (x := 6) (y := 0) (by decide) (by decide) (by decide))
      have hm_142 := pw_ke (a := am 0) (e := .inr (2, [.int (nI n), .ref (am 1), .ref (am 2), .int (nI oc), .int td, .int 1, .long sL, .ref (am 3), .ref (am 4), .ref (am 5), .ref (am 6), .ref (am 7), .ref (am 8)])) hm.2.2.2.2.2.2.2.1 (mw_ne hm (x := 7) (y := 0) (by decide) (by decide) (by decide))
      have hm_143 := pw_ke (a := am 0) (e := .inr (2, [.int (nI n), .ref (am 1), .ref (am 2), .int (nI oc), .int td, .int 1, .long sL, .ref (am 3), .ref (am 4), .ref (am 5), .ref (am 6), .ref (am 7), .ref (am 8)])) hm.2.2.2.2.2.2.2.2.1 (mw_ne hm (x := 8) (y := 0) (by decide) (by decide) (by decide))
      have hm_144 : pw_up M (am 0) (.inr (2, [.int (nI n), .ref (am 1), .ref (am 2), .int (nI oc), .int td, .int 1, .long sL, .ref (am 3), .ref (am 4), .ref (am 5), .ref (am 6), .ref (am 7), .ref (am 8)])) (am 0) = some (.inr (2, [.int (nI n), .ref (am 1), .ref (am 2), .int (nI oc), .int td, .int 1, .long sL, .ref (am 3), .ref (am 4), .ref (am 5), .ref (am 6), .ref (am 7), .ref (am 8)])) := pw_us
      refine pw_aload_n (pc := 78) hX dX2_line_78 1 rfl ?_
      refine pw_get (pc := 79) hX dX2_line_79 hm_144 rfl inT_2 5 (by decide) fl_RX2_43 rfl ?_
      refine pw_if_eq (pc := 82) hX 86 dX2_line_82 (by decide) (fun h => absurd h (by decide)) (fun _ => ?_)
      exact pw_vret hX dX2_line_85 hrt ⟨by decide, by decide⟩ ⟨Or.inr ⟨by rw [show cd_line oc os wa p0 p1 p2 = 1 from pc_t hno_p0]; decide, rfl, by rw [show cd_line oc os wa p0 p1 p2 = 1 from pc_t hno_p0]; exact (mw_ob hm (oc) (mw_oc hm) td 1 sL)⟩, (fm_up fm_rf (x := 0) (by decide) _)⟩
