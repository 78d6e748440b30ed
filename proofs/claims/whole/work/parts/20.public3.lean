set_option maxHeartbeats 4000000 in
set_option maxRecDepth 100000 in
theorem cp_miss (l : Launch) (hl : l.stackTraces = false) (G : pw_G) (M : pw_M) (ad : Nat → Nat) (n oc : Nat) (td sd : Int32) (dk to er : Nat → Int32) (os pl : Nat → Int32) (oo : Nat → Option Nat) (wa pr de : Nat → Nat → Int32) (hc : cw G ad n oc td sd dk to er os pl oo wa pr de M) (p0 p1 p2 : Int32) : pw_XMet l yX1_miss cX1_miss 5 (some .int) 3 5 30 G [.ref (ad 0), .int p0, .int p1, .int p2] M (fun v9 M9 => cd_miss oc os wa pr p0 p1 p2 = 0 ∧ v9 = some (.int (wa (ix p0) (ix p1) - pr (ix p0) (ix p1))) ∧ cw G ad n oc td sd dk to er os pl oo wa pr (va_up de (ix p0) (upd (de (ix p0)) (ix p1) p2)) M9 ∧ fm ad (6 + 4 * oc) M M9) (fun E9 M9 => M = M9 ∧ (E9 = "java/util/NoSuchElementException" ∧ cd_miss oc os wa pr p0 p1 p2 = 1 ∨ E9 = "java/lang/IllegalArgumentException" ∧ cd_miss oc os wa pr p0 p1 p2 = 2 ∨ E9 = "java/lang/IllegalStateException" ∧ cd_miss oc os wa pr p0 p1 p2 = 3)) := by
  refine pw_ofx hl (by decide +kernel) (Nat.le_of_ble_eq_true rfl) [(0, .ref (ad 0)), (1, .int p0), (2, .int p1), (3, .int p2)] rfl ?_
  intro p9 e9 s9 m9 args9 below9 meth9 c9 hX hrt hex
  refine pw_aload_n (pc := 0) hX dX1_miss_0 0 rfl ?_
  refine pw_iload_n (pc := 1) hX dX1_miss_1 1 rfl ?_
  refine pw_callVx (pc := 2) (st := []) hX (ct_existing l hl G M ad n oc td sd dk to er os pl oo wa pr de hc p0) hc.1 rfl ok_X1_existing lk_RX1_65 dX1_miss_2 rfl ⟨⟨by decide, by decide⟩, Nat.le_of_ble_eq_true rfl, Nat.le_of_ble_eq_true rfl, Nat.le_of_ble_eq_true rfl⟩ rfl (fun E9 M9 hx9 => ?_) (fun v9 M9 hp9 => ?_)
  · obtain ⟨rfl, rfl, hno⟩ := hx9
    exact pw_out hX hex ⟨Nat.le_of_ble_eq_true rfl, Nat.le_of_ble_eq_true rfl⟩ (⟨rfl, Or.inl (⟨rfl, pc_t hno⟩)⟩)
  obtain ⟨rfl, j, hj, rfl, rfl⟩ := hp9
  have hjB : j < 2 ^ 31 := Nat.lt_of_lt_of_le hj (Nat.le_trans (cw_oc hc) (by decide))
  refine pw_astore (pc := 5) hX [(4, .ref (ad (6 + 4 * j))), (0, .ref (ad 0)), (1, .int (nI j)), (2, .int p1), (3, .int p2)] dX1_miss_5 (by decide) rfl ?_
  refine pw_aload (pc := 7) hX dX1_miss_7 0 rfl ?_
  refine pw_iload_n (pc := 9) hX dX1_miss_9 3 rfl ?_
  refine pw_callSx (pc := 10) (st := []) hX (ct_requireLine l hl G M (ad (6 + 4 * j)) (ad (7 + 4 * j)) (ad (8 + 4 * j)) (ad (9 + 4 * j)) (nI j) (os j) (pl j) (wa j) (pr j) (de j) (cw_o hc j hj) p1) ok_X1_requireLine lk_RX1_111 dX1_miss_10 rfl ⟨⟨by decide, by decide⟩, Nat.le_of_ble_eq_true rfl, Nat.le_of_ble_eq_true rfl, Nat.le_of_ble_eq_true rfl⟩ rfl (fun E9 M9 hx9 => ?_) (fun v9 M9 hp9 => ?_)
  · obtain ⟨rfl, ⟨rfl, hno⟩ | ⟨rfl, g, hg, rfl, hno⟩⟩ := hx9
    · exact pw_out hX hex ⟨Nat.le_of_ble_eq_true rfl, Nat.le_of_ble_eq_true rfl⟩ (⟨rfl, Or.inr (Or.inl (⟨rfl, pc3_2 (fun h => h (ir_nI hj)) hno⟩))⟩)
    · have hgB : g < 2 ^ 31 := Nat.lt_of_lt_of_le hg (by decide)
      exact pw_out hX hex ⟨Nat.le_of_ble_eq_true rfl, Nat.le_of_ble_eq_true rfl⟩ (⟨rfl, Or.inl (⟨rfl, pc5_3 (fun h => h (ir_nI hj)) (fun h => h (ir_nI hg)) (by rw [ix_nI hjB, ix_nI hgB]; exact hno)⟩)⟩)
  obtain ⟨rfl, rfl, g, hg, rfl, hwg⟩ := hp9
  have hgB : g < 2 ^ 31 := Nat.lt_of_lt_of_le hg (by decide)
  refine pw_iload_n (pc := 13) hX dX1_miss_13 4 rfl ?_
  refine pw_iconst (pc := 14) (v := 0) hX dX1_miss_14 (by decide) ?_
  refine pw_sipush (pc := 15) (v := 10000) hX dX1_miss_15 (by decide) ?_
  refine pw_callSx (pc := 18) (st := []) hX (ct_requireRange l hl G M p2 0 10000) ok_X1_requireRange lk_RX1_52 dX1_miss_18 rfl ⟨⟨by decide, by decide⟩, Nat.le_of_ble_eq_true rfl, Nat.le_of_ble_eq_true rfl, Nat.le_of_ble_eq_true rfl⟩ rfl (fun E9 M9 hx9 => ?_) (fun v9 M9 hp9 => ?_)
  · obtain ⟨rfl, rfl, hno⟩ := hx9
    exact pw_out hX hex ⟨Nat.le_of_ble_eq_true rfl, Nat.le_of_ble_eq_true rfl⟩ (⟨rfl, Or.inr (Or.inl (⟨rfl, pc5_4 (fun h => h (ir_nI hj)) (fun h => h (ir_nI hg)) (by rw [ix_nI hjB, ix_nI hgB]; exact fun h => h hwg) hno⟩))⟩)
  obtain ⟨rfl, rfl, hlo, hhi⟩ := hp9
  refine pw_aload (pc := 21) hX dX1_miss_21 0 rfl ?_
  refine pw_get (pc := 23) hX dX1_miss_23 (cw_o hc j hj).1 rfl inT_0 1 (by decide) fl_RX1_69 rfl ?_
  refine pw_iconst (pc := 26) (v := 1) hX dX1_miss_26 (by decide) ?_
  refine pw_icmp_ne (pc := 27) hX 43 dX1_miss_27 (by decide) (fun hc_1 => ?_) (fun hc_1 => ?_)
  · refine pw_iconst (pc := 43) (v := 0) hX dX1_miss_43 (by decide) ?_
    refine pw_callSx (pc := 44) (st := []) hX (ct_requireState l hl G M 0) ok_X1_requireState lk_RX1_76 dX1_miss_44 rfl ⟨⟨by decide, by decide⟩, Nat.le_of_ble_eq_true rfl, Nat.le_of_ble_eq_true rfl, Nat.le_of_ble_eq_true rfl⟩ rfl (fun E9 M9 hx9 => ?_) (fun v9 M9 hp9 => absurd rfl hp9.2.2)
    obtain ⟨rfl, rfl, -⟩ := hx9
    exact pw_out hX hex ⟨Nat.le_of_ble_eq_true rfl, Nat.le_of_ble_eq_true rfl⟩ ⟨rfl, Or.inr (Or.inr (⟨rfl, pc5_5 (fun h => h (ir_nI hj)) (fun h => h (ir_nI hg)) (by rw [ix_nI hjB, ix_nI hgB]; exact fun h => h hwg) (fun h => h ⟨hlo, hhi⟩) (by rw [ix_nI hjB, ix_nI hgB]; intro h; exact hc_1 h.1)⟩))⟩
  · refine pw_aload (pc := 30) hX dX1_miss_30 0 rfl ?_
    refine pw_iload_n (pc := 32) hX dX1_miss_32 3 rfl ?_
    refine pw_callV (pc := 33) (st := []) hX (ct_missing l hl G M (ad (6 + 4 * j)) (ad (7 + 4 * j)) (ad (8 + 4 * j)) (ad (9 + 4 * j)) (nI j) (os j) (pl j) (wa j) (pr j) (de j) (cw_o hc j hj) g hg) (cw_o hc j hj).1 rfl ok_X0_missing lk_RX1_115 dX1_miss_33 rfl ⟨⟨by decide, by decide⟩, Nat.le_of_ble_eq_true rfl, Nat.le_of_ble_eq_true rfl, Nat.le_of_ble_eq_true rfl⟩ rfl (fun v9 M9 hp9 => ?_)
    obtain ⟨rfl, rfl⟩ := hp9
    refine pw_if_le (pc := 36) hX 43 dX1_miss_36 (by decide) (fun hc_2 => ?_) (fun hc_2 => ?_)
    · refine pw_iconst (pc := 43) (v := 0) hX dX1_miss_43 (by decide) ?_
      refine pw_callSx (pc := 44) (st := []) hX (ct_requireState l hl G M 0) ok_X1_requireState lk_RX1_76 dX1_miss_44 rfl ⟨⟨by decide, by decide⟩, Nat.le_of_ble_eq_true rfl, Nat.le_of_ble_eq_true rfl, Nat.le_of_ble_eq_true rfl⟩ rfl (fun E9 M9 hx9 => ?_) (fun v9 M9 hp9 => absurd rfl hp9.2.2)
      obtain ⟨rfl, rfl, -⟩ := hx9
      exact pw_out hX hex ⟨Nat.le_of_ble_eq_true rfl, Nat.le_of_ble_eq_true rfl⟩ ⟨rfl, Or.inr (Or.inr (⟨rfl, pc5_5 (fun h => h (ir_nI hj)) (fun h => h (ir_nI hg)) (by rw [ix_nI hjB, ix_nI hgB]; exact fun h => h hwg) (fun h => h ⟨hlo, hhi⟩) (by rw [ix_nI hjB, ix_nI hgB]; intro h; exact absurd h.2 (Int32.not_lt.mpr hc_2))⟩))⟩
    · refine pw_iconst (pc := 39) (v := 1) hX dX1_miss_39 (by decide) ?_
      refine pw_goto (pc := 40) hX 44 dX1_miss_40 (by decide) ?_
      refine pw_callSx (pc := 44) (st := []) hX (ct_requireState l hl G M 1) ok_X1_requireState lk_RX1_76 dX1_miss_44 rfl ⟨⟨by decide, by decide⟩, Nat.le_of_ble_eq_true rfl, Nat.le_of_ble_eq_true rfl, Nat.le_of_ble_eq_true rfl⟩ rfl (fun E9 M9 hx9 => ?_) (fun v9 M9 hp9 => ?_)
      · obtain ⟨rfl, rfl, hz⟩ := hx9
        exact absurd hz (by decide)
      obtain ⟨rfl, rfl, -⟩ := hp9
      refine pw_aload (pc := 47) hX dX1_miss_47 0 rfl ?_
      refine pw_get (pc := 49) hX dX1_miss_49 (cw_o hc j hj).1 rfl inT_0 5 (by decide) fl_RX1_119 rfl ?_
      refine pw_iload_n (pc := 52) hX dX1_miss_52 3 rfl ?_
      refine pw_iload_n (pc := 53) hX dX1_miss_53 4 rfl ?_
      refine pw_iast (pc := 54) (j := g) hX dX1_miss_54 (cw_o hc j hj).2.2.2 hg (by decide) ?_
      have hm_3 := pw_ke (a := ad (9 + 4 * j)) (e := .inl (G.2.2.1 0, 10, .inl (upd (de j) g p2))) hc.1 (cw_ne hc (x := 0) (y := 9 + 4 * j) (by omega) (by omega) (by omega))
      have hm_4 := pw_ke (a := ad (9 + 4 * j)) (e := .inl (G.2.2.1 0, 10, .inl (upd (de j) g p2))) hc.2.1 (cw_ne hc (x := 1) (y := 9 + 4 * j) (by omega) (by omega) (by omega))
      have hm_5 := pw_ke (a := ad (9 + 4 * j)) (e := .inl (G.2.2.1 0, 10, .inl (upd (de j) g p2))) hc.2.2.1 (cw_ne hc (x := 2) (y := 9 + 4 * j) (by omega) (by omega) (by omega))
      have hm_6 := pw_ke (a := ad (9 + 4 * j)) (e := .inl (G.2.2.1 0, 10, .inl (upd (de j) g p2))) hc.2.2.2.1 (cw_ne hc (x := 3) (y := 9 + 4 * j) (by omega) (by omega) (by omega))
      have hm_7 := pw_ke (a := ad (9 + 4 * j)) (e := .inl (G.2.2.1 0, 10, .inl (upd (de j) g p2))) hc.2.2.2.2.1 (cw_ne hc (x := 4) (y := 9 + 4 * j) (by omega) (by omega) (by omega))
      have hm_8 := pw_ke (a := ad (9 + 4 * j)) (e := .inl (G.2.2.1 0, 10, .inl (upd (de j) g p2))) hc.2.2.2.2.2.1 (cw_ne hc (x := 5) (y := 9 + 4 * j) (by omega) (by omega) (by omega))
      have hm_9 := pw_ke (a := ad (9 + 4 * j)) (e := .inl (G.2.2.1 0, 10, .inl (upd (de j) g p2))) (cw_o hc j hj).1 (cw_ne hc (x := 6 + 4 * j) (y := 9 + 4 * j) (by omega) (by omega) (by omega))
      have hm_10 := pw_ke (a := ad (9 + 4 * j)) (e := .inl (G.2.2.1 0, 10, .inl (upd (de j) g p2))) (cw_o hc j hj).2.1 (cw_ne hc (x := 7 + 4 * j) (y := 9 + 4 * j) (by omega) (by omega) (by omega))
      have hm_11 := pw_ke (a := ad (9 + 4 * j)) (e := .inl (G.2.2.1 0, 10, .inl (upd (de j) g p2))) (cw_o hc j hj).2.2.1 (cw_ne hc (x := 8 + 4 * j) (y := 9 + 4 * j) (by omega) (by omega) (by omega))
      have hm_12 : pw_up M (ad (9 + 4 * j)) (.inl (G.2.2.1 0, 10, .inl (upd (de j) g p2))) (ad (9 + 4 * j)) = some (.inl (G.2.2.1 0, 10, .inl (upd (de j) g p2))) := pw_us
      refine pw_aload (pc := 55) hX dX1_miss_55 0 rfl ?_
      refine pw_iload_n (pc := 57) hX dX1_miss_57 3 rfl ?_
      refine pw_callV (pc := 58) (st := []) hX (ct_missing l hl G (pw_up M (ad (9 + 4 * j)) (.inl (G.2.2.1 0, 10, .inl (upd (de j) g p2)))) (ad (6 + 4 * j)) (ad (7 + 4 * j)) (ad (8 + 4 * j)) (ad (9 + 4 * j)) (nI j) (os j) (pl j) (wa j) (pr j) (va_up de j (upd (de j) g p2) j) (cw_o (cw_de hc j hj (upd (de j) g p2)) j hj) g hg) hm_9 rfl ok_X0_missing lk_RX1_115 dX1_miss_58 rfl ⟨⟨by decide, by decide⟩, Nat.le_of_ble_eq_true rfl, Nat.le_of_ble_eq_true rfl, Nat.le_of_ble_eq_true rfl⟩ rfl (fun v9 M9 hp9 => ?_)
      obtain ⟨rfl, rfl⟩ := hp9
      exact pw_iretx hX dX1_miss_61 hrt ⟨by decide, by decide⟩ (by rw [ix_nI hjB, ix_nI hgB]; exact ⟨pc5_0 (fun h => h (ir_nI hj)) (fun h => h (ir_nI hg)) (by rw [ix_nI hjB, ix_nI hgB]; exact fun h => h hwg) (fun h => h ⟨hlo, hhi⟩) (by rw [ix_nI hjB, ix_nI hgB]; exact fun h => h ⟨hc_1, Int32.not_le.mp hc_2⟩), rfl, (cw_de hc j hj _), (fm_up fm_rf (x := 9 + 4 * j) (by omega) _)⟩)
set_option maxHeartbeats 4000000 in
set_option maxRecDepth 100000 in
theorem cp_day (l : Launch) (hl : l.stackTraces = false) (G : pw_G) (M : pw_M) (ad : Nat → Nat) (n oc : Nat) (td sd : Int32) (dk to er : Nat → Int32) (os pl : Nat → Int32) (oo : Nat → Option Nat) (wa pr de : Nat → Nat → Int32) (hc : cw G ad n oc td sd dk to er os pl oo wa pr de M) (p0 : Int32) : pw_XMet l yX1_day cX1_day 2 none 3 2 12 G [.ref (ad 0), .int p0] M (fun v9 M9 => cd_day td p0 = 0 ∧ v9 = none ∧ cw G ad n oc p0 sd dk to er os pl oo wa pr de M9 ∧ fm ad (6 + 4 * oc) M M9) (fun E9 M9 => M = M9 ∧ (E9 = "java/lang/IllegalArgumentException" ∧ cd_day td p0 = 1 ∨ E9 = "java/lang/IllegalStateException" ∧ cd_day td p0 = 2)) := by
  refine pw_ofx hl (by decide +kernel) (Nat.le_of_ble_eq_true rfl) [(0, .ref (ad 0)), (1, .int p0)] rfl ?_
  intro p9 e9 s9 m9 args9 below9 meth9 c9 hX hrt hex
  refine pw_iload_n (pc := 0) hX dX1_day_0 1 rfl ?_
  refine pw_iconst (pc := 1) (v := 0) hX dX1_day_1 (by decide) ?_
  refine pw_sipush (pc := 2) (v := 10000) hX dX1_day_2 (by decide) ?_
  refine pw_callSx (pc := 5) (st := []) hX (ct_requireRange l hl G M p0 0 10000) ok_X1_requireRange lk_RX1_52 dX1_day_5 rfl ⟨⟨by decide, by decide⟩, Nat.le_of_ble_eq_true rfl, Nat.le_of_ble_eq_true rfl, Nat.le_of_ble_eq_true rfl⟩ rfl (fun E9 M9 hx9 => ?_) (fun v9 M9 hp9 => ?_)
  · obtain ⟨rfl, rfl, hno⟩ := hx9
    exact pw_out hX hex ⟨Nat.le_of_ble_eq_true rfl, Nat.le_of_ble_eq_true rfl⟩ (⟨rfl, Or.inl (⟨rfl, pc_t hno⟩)⟩)
  obtain ⟨rfl, rfl, hlo, hhi⟩ := hp9
  refine pw_iload_n (pc := 8) hX dX1_day_8 1 rfl ?_
  refine pw_aload_n (pc := 9) hX dX1_day_9 0 rfl ?_
  refine pw_get (pc := 10) hX dX1_day_10 hc.1 rfl inT_1 6 (by decide) fl_RX1_26 rfl ?_
  refine pw_icmp_lt (pc := 13) hX 20 dX1_day_13 (by decide) (fun hc_1 => ?_) (fun hc_1 => ?_)
  · refine pw_iconst (pc := 20) (v := 0) hX dX1_day_20 (by decide) ?_
    refine pw_callSx (pc := 21) (st := []) hX (ct_requireState l hl G M 0) ok_X1_requireState lk_RX1_76 dX1_day_21 rfl ⟨⟨by decide, by decide⟩, Nat.le_of_ble_eq_true rfl, Nat.le_of_ble_eq_true rfl, Nat.le_of_ble_eq_true rfl⟩ rfl (fun E9 M9 hx9 => ?_) (fun v9 M9 hp9 => absurd rfl hp9.2.2)
    obtain ⟨rfl, rfl, -⟩ := hx9
    exact pw_out hX hex ⟨Nat.le_of_ble_eq_true rfl, Nat.le_of_ble_eq_true rfl⟩ ⟨rfl, Or.inr (⟨rfl, pc2_2 (fun h => h ⟨hlo, hhi⟩) hc_1⟩)⟩
  · refine pw_iconst (pc := 16) (v := 1) hX dX1_day_16 (by decide) ?_
    refine pw_goto (pc := 17) hX 21 dX1_day_17 (by decide) ?_
    refine pw_callSx (pc := 21) (st := []) hX (ct_requireState l hl G M 1) ok_X1_requireState lk_RX1_76 dX1_day_21 rfl ⟨⟨by decide, by decide⟩, Nat.le_of_ble_eq_true rfl, Nat.le_of_ble_eq_true rfl, Nat.le_of_ble_eq_true rfl⟩ rfl (fun E9 M9 hx9 => ?_) (fun v9 M9 hp9 => ?_)
    · obtain ⟨rfl, rfl, hz⟩ := hx9
      exact absurd hz (by decide)
    obtain ⟨rfl, rfl, -⟩ := hp9
    refine pw_aload_n (pc := 24) hX dX1_day_24 0 rfl ?_
    refine pw_iload_n (pc := 25) hX dX1_day_25 1 rfl ?_
    refine pw_put (pc := 26) (v := .int p0) hX dX1_day_26 hc.1 rfl inT_1 tyX1 tyX1_ok nmX1 6 (by decide) fl_RX1_26 rfl (tyX1_ok 6 (by decide)) rfl rfl (Nat.le_of_ble_eq_true rfl) [.ref (ad 1), .int (nI oc), .ref (ad 2), .ref (ad 3), .ref (ad 4), .ref (ad 5), .int p0, .int sd] rfl ?_
    have hm_2 := pw_ke (a := ad 0) (e := .inr (1, [.ref (ad 1), .int (nI oc), .ref (ad 2), .ref (ad 3), .ref (ad 4), .ref (ad 5), .int p0, .int sd])) hc.2.1 (cw_ne hc (x := 1) (y := 0) (by omega) (by omega) (by omega))
    have hm_3 := pw_ke (a := ad 0) (e := .inr (1, [.ref (ad 1), .int (nI oc), .ref (ad 2), .ref (ad 3), .ref (ad 4), .ref (ad 5), .int p0, .int sd])) hc.2.2.1 (cw_ne hc (x := 2) (y := 0) (by omega) (by omega) (by omega))
    have hm_4 := pw_ke (a := ad 0) (e := .inr (1, [.ref (ad 1), .int (nI oc), .ref (ad 2), .ref (ad 3), .ref (ad 4), .ref (ad 5), .int p0, .int sd])) hc.2.2.2.1 (cw_ne hc (x := 3) (y := 0) (by omega) (by omega) (by omega))
    have hm_5 := pw_ke (a := ad 0) (e := .inr (1, [.ref (ad 1), .int (nI oc), .ref (ad 2), .ref (ad 3), .ref (ad 4), .ref (ad 5), .int p0, .int sd])) hc.2.2.2.2.1 (cw_ne hc (x := 4) (y := 0) (by omega) (by omega) (by omega))
    have hm_6 := pw_ke (a := ad 0) (e := .inr (1, [.ref (ad 1), .int (nI oc), .ref (ad 2), .ref (ad 3), .ref (ad 4), .ref (ad 5), .int p0, .int sd])) hc.2.2.2.2.2.1 (cw_ne hc (x := 5) (y := 0) (by omega) (by omega) (by omega))
    have hm_7 : pw_up M (ad 0) (.inr (1, [.ref (ad 1), .int (nI oc), .ref (ad 2), .ref (ad 3), .ref (ad 4), .ref (ad 5), .int p0, .int sd])) (ad 0) = some (.inr (1, [.ref (ad 1), .int (nI oc), .ref (ad 2), .ref (ad 3), .ref (ad 4), .ref (ad 5), .int p0, .int sd])) := pw_us
    exact pw_vretx hX dX1_day_29 hrt ⟨by decide, by decide⟩ ⟨pc2_0 (fun h => h ⟨hlo, hhi⟩) hc_1, rfl, (cw_td hc _), (fm_up fm_rf (x := 0) (by omega) _)⟩
set_option maxHeartbeats 4000000 in
set_option maxRecDepth 100000 in
theorem cp_change (l : Launch) (hl : l.stackTraces = false) (G : pw_G) (M : pw_M) (ad : Nat → Nat) (n oc : Nat) (td sd : Int32) (dk to er : Nat → Int32) (os pl : Nat → Int32) (oo : Nat → Option Nat) (wa pr de : Nat → Nat → Int32) (hc : cw G ad n oc td sd dk to er os pl oo wa pr de M) (p0 p1 p2 : Int32) : pw_XMet l yX1_change cX1_change 6 (some .boolean) 3 5 30 G [.ref (ad 0), .int p0, .int p1, .int p2] M (fun v9 M9 => cd_change oc os wa p0 p1 p2 = 0 ∧ (v9 = some (.int 0) ∧ p2 < pr (ix p0) (ix p1) ∧ M = M9 ∨ v9 = some (.int 1) ∧ pr (ix p0) (ix p1) ≤ p2 ∧ cw G ad n oc td sd dk to er os pl oo (va_up wa (ix p0) (upd (wa (ix p0)) (ix p1) p2)) pr de M9) ∧ fm ad (6 + 4 * oc) M M9) (fun E9 M9 => M = M9 ∧ (E9 = "java/util/NoSuchElementException" ∧ cd_change oc os wa p0 p1 p2 = 1 ∨ E9 = "java/lang/IllegalArgumentException" ∧ cd_change oc os wa p0 p1 p2 = 2 ∨ E9 = "java/lang/IllegalStateException" ∧ cd_change oc os wa p0 p1 p2 = 3)) := by
  refine pw_ofx hl (by decide +kernel) (Nat.le_of_ble_eq_true rfl) [(0, .ref (ad 0)), (1, .int p0), (2, .int p1), (3, .int p2)] rfl ?_
  intro p9 e9 s9 m9 args9 below9 meth9 c9 hX hrt hex
  refine pw_aload_n (pc := 0) hX dX1_change_0 0 rfl ?_
  refine pw_iload_n (pc := 1) hX dX1_change_1 1 rfl ?_
  refine pw_callVx (pc := 2) (st := []) hX (ct_existing l hl G M ad n oc td sd dk to er os pl oo wa pr de hc p0) hc.1 rfl ok_X1_existing lk_RX1_65 dX1_change_2 rfl ⟨⟨by decide, by decide⟩, Nat.le_of_ble_eq_true rfl, Nat.le_of_ble_eq_true rfl, Nat.le_of_ble_eq_true rfl⟩ rfl (fun E9 M9 hx9 => ?_) (fun v9 M9 hp9 => ?_)
  · obtain ⟨rfl, rfl, hno⟩ := hx9
    exact pw_out hX hex ⟨Nat.le_of_ble_eq_true rfl, Nat.le_of_ble_eq_true rfl⟩ (⟨rfl, Or.inl (⟨rfl, pc_t hno⟩)⟩)
  obtain ⟨rfl, j, hj, rfl, rfl⟩ := hp9
  have hjB : j < 2 ^ 31 := Nat.lt_of_lt_of_le hj (Nat.le_trans (cw_oc hc) (by decide))
  refine pw_astore (pc := 5) hX [(4, .ref (ad (6 + 4 * j))), (0, .ref (ad 0)), (1, .int (nI j)), (2, .int p1), (3, .int p2)] dX1_change_5 (by decide) rfl ?_
  refine pw_aload (pc := 7) hX dX1_change_7 0 rfl ?_
  refine pw_iload_n (pc := 9) hX dX1_change_9 3 rfl ?_
  refine pw_callSx (pc := 10) (st := []) hX (ct_requireLine l hl G M (ad (6 + 4 * j)) (ad (7 + 4 * j)) (ad (8 + 4 * j)) (ad (9 + 4 * j)) (nI j) (os j) (pl j) (wa j) (pr j) (de j) (cw_o hc j hj) p1) ok_X1_requireLine lk_RX1_111 dX1_change_10 rfl ⟨⟨by decide, by decide⟩, Nat.le_of_ble_eq_true rfl, Nat.le_of_ble_eq_true rfl, Nat.le_of_ble_eq_true rfl⟩ rfl (fun E9 M9 hx9 => ?_) (fun v9 M9 hp9 => ?_)
  · obtain ⟨rfl, ⟨rfl, hno⟩ | ⟨rfl, g, hg, rfl, hno⟩⟩ := hx9
    · exact pw_out hX hex ⟨Nat.le_of_ble_eq_true rfl, Nat.le_of_ble_eq_true rfl⟩ (⟨rfl, Or.inr (Or.inl (⟨rfl, pc3_2 (fun h => h (ir_nI hj)) hno⟩))⟩)
    · have hgB : g < 2 ^ 31 := Nat.lt_of_lt_of_le hg (by decide)
      exact pw_out hX hex ⟨Nat.le_of_ble_eq_true rfl, Nat.le_of_ble_eq_true rfl⟩ (⟨rfl, Or.inl (⟨rfl, pc5_3 (fun h => h (ir_nI hj)) (fun h => h (ir_nI hg)) (by rw [ix_nI hjB, ix_nI hgB]; exact hno)⟩)⟩)
  obtain ⟨rfl, rfl, g, hg, rfl, hwg⟩ := hp9
  have hgB : g < 2 ^ 31 := Nat.lt_of_lt_of_le hg (by decide)
  refine pw_iload_n (pc := 13) hX dX1_change_13 4 rfl ?_
  refine pw_iconst (pc := 14) (v := 0) hX dX1_change_14 (by decide) ?_
  refine pw_bipush (pc := 15) (v := 9) hX dX1_change_15 (by decide) ?_
  refine pw_callSx (pc := 17) (st := []) hX (ct_requireRange l hl G M p2 0 9) ok_X1_requireRange lk_RX1_52 dX1_change_17 rfl ⟨⟨by decide, by decide⟩, Nat.le_of_ble_eq_true rfl, Nat.le_of_ble_eq_true rfl, Nat.le_of_ble_eq_true rfl⟩ rfl (fun E9 M9 hx9 => ?_) (fun v9 M9 hp9 => ?_)
  · obtain ⟨rfl, rfl, hno⟩ := hx9
    exact pw_out hX hex ⟨Nat.le_of_ble_eq_true rfl, Nat.le_of_ble_eq_true rfl⟩ (⟨rfl, Or.inr (Or.inl (⟨rfl, pc5_4 (fun h => h (ir_nI hj)) (fun h => h (ir_nI hg)) (by rw [ix_nI hjB, ix_nI hgB]; exact fun h => h hwg) hno⟩))⟩)
  obtain ⟨rfl, rfl, hlo, hhi⟩ := hp9
  refine pw_iload_n (pc := 20) hX dX1_change_20 4 rfl ?_
  refine pw_if_ne (pc := 21) hX 46 dX1_change_21 (by decide) (fun hc_1 => ?_) (fun hc_1 => ?_)
  · refine pw_iconst (pc := 46) (v := 0) hX dX1_change_46 (by decide) ?_
    refine pw_istore (pc := 47) hX [(5, .int 0), (4, .ref (ad (6 + 4 * j))), (0, .ref (ad 0)), (1, .int (nI j)), (2, .int (nI g)), (3, .int p2)] dX1_change_47 (by decide) rfl ?_
    refine pw_aload (pc := 49) hX dX1_change_49 1 rfl ?_
    refine pw_get (pc := 51) hX dX1_change_51 (cw_o hc j hj).1 rfl inT_0 1 (by decide) fl_RX1_69 rfl ?_
    refine pw_if_eq (pc := 54) hX 66 dX1_change_54 (by decide) (fun hc_2 => ?_) (fun hc_2 => ?_)
    · refine pw_iload (pc := 66) hX dX1_change_66 0 rfl ?_
      refine pw_if_ne (pc := 68) hX 75 dX1_change_68 (by decide) (fun h => absurd h (by decide)) (fun _ => ?_)
      refine pw_iconst (pc := 71) (v := 1) hX dX1_change_71 (by decide) ?_
      refine pw_goto (pc := 72) hX 76 dX1_change_72 (by decide) ?_
      refine pw_callSx (pc := 76) (st := []) hX (ct_requireState l hl G M 1) ok_X1_requireState lk_RX1_76 dX1_change_76 rfl ⟨⟨by decide, by decide⟩, Nat.le_of_ble_eq_true rfl, Nat.le_of_ble_eq_true rfl, Nat.le_of_ble_eq_true rfl⟩ rfl (fun E9 M9 hx9 => ?_) (fun v9 M9 hp9 => ?_)
      · obtain ⟨rfl, rfl, hz⟩ := hx9
        exact absurd hz (by decide)
      obtain ⟨rfl, rfl, -⟩ := hp9
      refine pw_aload (pc := 79) hX dX1_change_79 1 rfl ?_
      refine pw_get (pc := 81) hX dX1_change_81 (cw_o hc j hj).1 rfl inT_0 4 (by decide) fl_RX1_103 rfl ?_
      refine pw_iload_n (pc := 84) hX dX1_change_84 4 rfl ?_
      refine pw_iald (pc := 85) (j := g) hX dX1_change_85 (cw_o hc j hj).2.2.1 hg (by decide) ?_
      refine pw_iload_n (pc := 86) hX dX1_change_86 5 rfl ?_
      refine pw_icmp_le (pc := 87) hX 92 dX1_change_87 (by decide) (fun hc_4 => ?_) (fun hc_4 => ?_)
      · refine pw_aload (pc := 92) hX dX1_change_92 1 rfl ?_
        refine pw_get (pc := 94) hX dX1_change_94 (cw_o hc j hj).1 rfl inT_0 3 (by decide) fl_RX1_80 rfl ?_
        refine pw_iload_n (pc := 97) hX dX1_change_97 4 rfl ?_
        refine pw_iload_n (pc := 98) hX dX1_change_98 5 rfl ?_
        refine pw_iast (pc := 99) (j := g) hX dX1_change_99 (cw_o hc j hj).2.1 hg (by decide) ?_
        have hm_5 := pw_ke (a := ad (7 + 4 * j)) (e := .inl (G.2.2.1 0, 10, .inl (upd (wa j) g p2))) hc.1 (cw_ne hc (x := 0) (y := 7 + 4 * j) (by omega) (by omega) (by omega))
        have hm_6 := pw_ke (a := ad (7 + 4 * j)) (e := .inl (G.2.2.1 0, 10, .inl (upd (wa j) g p2))) hc.2.1 (cw_ne hc (x := 1) (y := 7 + 4 * j) (by omega) (by omega) (by omega))
        have hm_7 := pw_ke (a := ad (7 + 4 * j)) (e := .inl (G.2.2.1 0, 10, .inl (upd (wa j) g p2))) hc.2.2.1 (cw_ne hc (x := 2) (y := 7 + 4 * j) (by omega) (by omega) (by omega))
        have hm_8 := pw_ke (a := ad (7 + 4 * j)) (e := .inl (G.2.2.1 0, 10, .inl (upd (wa j) g p2))) hc.2.2.2.1 (cw_ne hc (x := 3) (y := 7 + 4 * j) (by omega) (by omega) (by omega))
        have hm_9 := pw_ke (a := ad (7 + 4 * j)) (e := .inl (G.2.2.1 0, 10, .inl (upd (wa j) g p2))) hc.2.2.2.2.1 (cw_ne hc (x := 4) (y := 7 + 4 * j) (by omega) (by omega) (by omega))
        have hm_10 := pw_ke (a := ad (7 + 4 * j)) (e := .inl (G.2.2.1 0, 10, .inl (upd (wa j) g p2))) hc.2.2.2.2.2.1 (cw_ne hc (x := 5) (y := 7 + 4 * j) (by omega) (by omega) (by omega))
        have hm_11 := pw_ke (a := ad (7 + 4 * j)) (e := .inl (G.2.2.1 0, 10, .inl (upd (wa j) g p2))) (cw_o hc j hj).1 (cw_ne hc (x := 6 + 4 * j) (y := 7 + 4 * j) (by omega) (by omega) (by omega))
        have hm_12 := pw_ke (a := ad (7 + 4 * j)) (e := .inl (G.2.2.1 0, 10, .inl (upd (wa j) g p2))) (cw_o hc j hj).2.2.1 (cw_ne hc (x := 8 + 4 * j) (y := 7 + 4 * j) (by omega) (by omega) (by omega))
        have hm_13 := pw_ke (a := ad (7 + 4 * j)) (e := .inl (G.2.2.1 0, 10, .inl (upd (wa j) g p2))) (cw_o hc j hj).2.2.2 (cw_ne hc (x := 9 + 4 * j) (y := 7 + 4 * j) (by omega) (by omega) (by omega))
        have hm_14 : pw_up M (ad (7 + 4 * j)) (.inl (G.2.2.1 0, 10, .inl (upd (wa j) g p2))) (ad (7 + 4 * j)) = some (.inl (G.2.2.1 0, 10, .inl (upd (wa j) g p2))) := pw_us
        refine pw_iconst (pc := 100) (v := 1) hX dX1_change_100 (by decide) ?_
        exact pw_zretx hX dX1_change_101 hrt rfl ⟨by decide, by decide⟩ (by rw [ix_nI hjB, ix_nI hgB]; exact ⟨pc5_0 (fun h => h (ir_nI hj)) (fun h => h (ir_nI hg)) (by rw [ix_nI hjB, ix_nI hgB]; exact fun h => h hwg) (fun h => h ⟨hlo, hhi⟩) (by rw [ix_nI hjB]; exact fun h => h ⟨Or.inl hc_2, (fun h => hc_1 h.1)⟩), Or.inr ⟨rfl, hc_4, (cw_wa hc j hj _)⟩, (fm_up fm_rf (x := 7 + 4 * j) (by omega) _)⟩)
      · refine pw_iconst (pc := 90) (v := 0) hX dX1_change_90 (by decide) ?_
        exact pw_zretx hX dX1_change_91 hrt rfl ⟨by decide, by decide⟩ (by rw [ix_nI hjB, ix_nI hgB]; exact ⟨pc5_0 (fun h => h (ir_nI hj)) (fun h => h (ir_nI hg)) (by rw [ix_nI hjB, ix_nI hgB]; exact fun h => h hwg) (fun h => h ⟨hlo, hhi⟩) (by rw [ix_nI hjB]; exact fun h => h ⟨Or.inl hc_2, (fun h => hc_1 h.1)⟩), Or.inl ⟨rfl, Int32.not_le.mp hc_4, rfl⟩, fm_rf⟩)
    · refine pw_aload (pc := 57) hX dX1_change_57 1 rfl ?_
      refine pw_get (pc := 59) hX dX1_change_59 (cw_o hc j hj).1 rfl inT_0 1 (by decide) fl_RX1_69 rfl ?_
      refine pw_iconst (pc := 62) (v := 1) hX dX1_change_62 (by decide) ?_
      refine pw_icmp_ne (pc := 63) hX 75 dX1_change_63 (by decide) (fun hc_15 => ?_) (fun hc_15 => ?_)
      · refine pw_iconst (pc := 75) (v := 0) hX dX1_change_75 (by decide) ?_
        refine pw_callSx (pc := 76) (st := []) hX (ct_requireState l hl G M 0) ok_X1_requireState lk_RX1_76 dX1_change_76 rfl ⟨⟨by decide, by decide⟩, Nat.le_of_ble_eq_true rfl, Nat.le_of_ble_eq_true rfl, Nat.le_of_ble_eq_true rfl⟩ rfl (fun E9 M9 hx9 => ?_) (fun v9 M9 hp9 => absurd rfl hp9.2.2)
        obtain ⟨rfl, rfl, -⟩ := hx9
        exact pw_out hX hex ⟨Nat.le_of_ble_eq_true rfl, Nat.le_of_ble_eq_true rfl⟩ ⟨rfl, Or.inr (Or.inr (⟨rfl, pc5_5 (fun h => h (ir_nI hj)) (fun h => h (ir_nI hg)) (by rw [ix_nI hjB, ix_nI hgB]; exact fun h => h hwg) (fun h => h ⟨hlo, hhi⟩) (by rw [ix_nI hjB]; intro h; exact h.1.elim hc_2 hc_15)⟩))⟩
      · refine pw_iload (pc := 66) hX dX1_change_66 0 rfl ?_
        refine pw_if_ne (pc := 68) hX 75 dX1_change_68 (by decide) (fun h => absurd h (by decide)) (fun _ => ?_)
        refine pw_iconst (pc := 71) (v := 1) hX dX1_change_71 (by decide) ?_
        refine pw_goto (pc := 72) hX 76 dX1_change_72 (by decide) ?_
        refine pw_callSx (pc := 76) (st := []) hX (ct_requireState l hl G M 1) ok_X1_requireState lk_RX1_76 dX1_change_76 rfl ⟨⟨by decide, by decide⟩, Nat.le_of_ble_eq_true rfl, Nat.le_of_ble_eq_true rfl, Nat.le_of_ble_eq_true rfl⟩ rfl (fun E9 M9 hx9 => ?_) (fun v9 M9 hp9 => ?_)
        · obtain ⟨rfl, rfl, hz⟩ := hx9
          exact absurd hz (by decide)
        obtain ⟨rfl, rfl, -⟩ := hp9
        refine pw_aload (pc := 79) hX dX1_change_79 1 rfl ?_
        refine pw_get (pc := 81) hX dX1_change_81 (cw_o hc j hj).1 rfl inT_0 4 (by decide) fl_RX1_103 rfl ?_
        refine pw_iload_n (pc := 84) hX dX1_change_84 4 rfl ?_
        refine pw_iald (pc := 85) (j := g) hX dX1_change_85 (cw_o hc j hj).2.2.1 hg (by decide) ?_
        refine pw_iload_n (pc := 86) hX dX1_change_86 5 rfl ?_
        refine pw_icmp_le (pc := 87) hX 92 dX1_change_87 (by decide) (fun hc_17 => ?_) (fun hc_17 => ?_)
        · refine pw_aload (pc := 92) hX dX1_change_92 1 rfl ?_
          refine pw_get (pc := 94) hX dX1_change_94 (cw_o hc j hj).1 rfl inT_0 3 (by decide) fl_RX1_80 rfl ?_
          refine pw_iload_n (pc := 97) hX dX1_change_97 4 rfl ?_
          refine pw_iload_n (pc := 98) hX dX1_change_98 5 rfl ?_
          refine pw_iast (pc := 99) (j := g) hX dX1_change_99 (cw_o hc j hj).2.1 hg (by decide) ?_
          have hm_18 := pw_ke (a := ad (7 + 4 * j)) (e := .inl (G.2.2.1 0, 10, .inl (upd (wa j) g p2))) hc.1 (cw_ne hc (x := 0) (y := 7 + 4 * j) (by omega) (by omega) (by omega))
          have hm_19 := pw_ke (a := ad (7 + 4 * j)) (e := .inl (G.2.2.1 0, 10, .inl (upd (wa j) g p2))) hc.2.1 (cw_ne hc (x := 1) (y := 7 + 4 * j) (by omega) (by omega) (by omega))
          have hm_20 := pw_ke (a := ad (7 + 4 * j)) (e := .inl (G.2.2.1 0, 10, .inl (upd (wa j) g p2))) hc.2.2.1 (cw_ne hc (x := 2) (y := 7 + 4 * j) (by omega) (by omega) (by omega))
          have hm_21 := pw_ke (a := ad (7 + 4 * j)) (e := .inl (G.2.2.1 0, 10, .inl (upd (wa j) g p2))) hc.2.2.2.1 (cw_ne hc (x := 3) (y := 7 + 4 * j) (by omega) (by omega) (by omega))
          have hm_22 := pw_ke (a := ad (7 + 4 * j)) (e := .inl (G.2.2.1 0, 10, .inl (upd (wa j) g p2))) hc.2.2.2.2.1 (cw_ne hc (x := 4) (y := 7 + 4 * j) (by omega) (by omega) (by omega))
          have hm_23 := pw_ke (a := ad (7 + 4 * j)) (e := .inl (G.2.2.1 0, 10, .inl (upd (wa j) g p2))) hc.2.2.2.2.2.1 (cw_ne hc (x := 5) (y := 7 + 4 * j) (by omega) (by omega) (by omega))
          have hm_24 := pw_ke (a := ad (7 + 4 * j)) (e := .inl (G.2.2.1 0, 10, .inl (upd (wa j) g p2))) (cw_o hc j hj).1 (cw_ne hc (x := 6 + 4 * j) (y := 7 + 4 * j) (by omega) (by omega) (by omega))
          have hm_25 := pw_ke (a := ad (7 + 4 * j)) (e := .inl (G.2.2.1 0, 10, .inl (upd (wa j) g p2))) (cw_o hc j hj).2.2.1 (cw_ne hc (x := 8 + 4 * j) (y := 7 + 4 * j) (by omega) (by omega) (by omega))
          have hm_26 := pw_ke (a := ad (7 + 4 * j)) (e := .inl (G.2.2.1 0, 10, .inl (upd (wa j) g p2))) (cw_o hc j hj).2.2.2 (cw_ne hc (x := 9 + 4 * j) (y := 7 + 4 * j) (by omega) (by omega) (by omega))
          have hm_27 : pw_up M (ad (7 + 4 * j)) (.inl (G.2.2.1 0, 10, .inl (upd (wa j) g p2))) (ad (7 + 4 * j)) = some (.inl (G.2.2.1 0, 10, .inl (upd (wa j) g p2))) := pw_us
          refine pw_iconst (pc := 100) (v := 1) hX dX1_change_100 (by decide) ?_
          exact pw_zretx hX dX1_change_101 hrt rfl ⟨by decide, by decide⟩ (by rw [ix_nI hjB, ix_nI hgB]; exact ⟨pc5_0 (fun h => h (ir_nI hj)) (fun h => h (ir_nI hg)) (by rw [ix_nI hjB, ix_nI hgB]; exact fun h => h hwg) (fun h => h ⟨hlo, hhi⟩) (by rw [ix_nI hjB]; exact fun h => h ⟨Or.inr hc_15, (fun h => hc_1 h.1)⟩), Or.inr ⟨rfl, hc_17, (cw_wa hc j hj _)⟩, (fm_up fm_rf (x := 7 + 4 * j) (by omega) _)⟩)
        · refine pw_iconst (pc := 90) (v := 0) hX dX1_change_90 (by decide) ?_
          exact pw_zretx hX dX1_change_91 hrt rfl ⟨by decide, by decide⟩ (by rw [ix_nI hjB, ix_nI hgB]; exact ⟨pc5_0 (fun h => h (ir_nI hj)) (fun h => h (ir_nI hg)) (by rw [ix_nI hjB, ix_nI hgB]; exact fun h => h hwg) (fun h => h ⟨hlo, hhi⟩) (by rw [ix_nI hjB]; exact fun h => h ⟨Or.inr hc_15, (fun h => hc_1 h.1)⟩), Or.inl ⟨rfl, Int32.not_le.mp hc_17, rfl⟩, fm_rf⟩)
  · refine pw_aload (pc := 24) hX dX1_change_24 0 rfl ?_
    refine pw_get (pc := 26) hX dX1_change_26 (cw_o hc j hj).1 rfl inT_0 1 (by decide) fl_RX1_69 rfl ?_
    refine pw_iconst (pc := 29) (v := 1) hX dX1_change_29 (by decide) ?_
    refine pw_icmp_ne (pc := 30) hX 46 dX1_change_30 (by decide) (fun hc_28 => ?_) (fun hc_28 => ?_)
    · refine pw_iconst (pc := 46) (v := 0) hX dX1_change_46 (by decide) ?_
      refine pw_istore (pc := 47) hX [(5, .int 0), (4, .ref (ad (6 + 4 * j))), (0, .ref (ad 0)), (1, .int (nI j)), (2, .int (nI g)), (3, .int p2)] dX1_change_47 (by decide) rfl ?_
      refine pw_aload (pc := 49) hX dX1_change_49 1 rfl ?_
      refine pw_get (pc := 51) hX dX1_change_51 (cw_o hc j hj).1 rfl inT_0 1 (by decide) fl_RX1_69 rfl ?_
      refine pw_if_eq (pc := 54) hX 66 dX1_change_54 (by decide) (fun hc_29 => ?_) (fun hc_29 => ?_)
      · refine pw_iload (pc := 66) hX dX1_change_66 0 rfl ?_
        refine pw_if_ne (pc := 68) hX 75 dX1_change_68 (by decide) (fun h => absurd h (by decide)) (fun _ => ?_)
        refine pw_iconst (pc := 71) (v := 1) hX dX1_change_71 (by decide) ?_
        refine pw_goto (pc := 72) hX 76 dX1_change_72 (by decide) ?_
        refine pw_callSx (pc := 76) (st := []) hX (ct_requireState l hl G M 1) ok_X1_requireState lk_RX1_76 dX1_change_76 rfl ⟨⟨by decide, by decide⟩, Nat.le_of_ble_eq_true rfl, Nat.le_of_ble_eq_true rfl, Nat.le_of_ble_eq_true rfl⟩ rfl (fun E9 M9 hx9 => ?_) (fun v9 M9 hp9 => ?_)
        · obtain ⟨rfl, rfl, hz⟩ := hx9
          exact absurd hz (by decide)
        obtain ⟨rfl, rfl, -⟩ := hp9
        refine pw_aload (pc := 79) hX dX1_change_79 1 rfl ?_
        refine pw_get (pc := 81) hX dX1_change_81 (cw_o hc j hj).1 rfl inT_0 4 (by decide) fl_RX1_103 rfl ?_
        refine pw_iload_n (pc := 84) hX dX1_change_84 4 rfl ?_
        refine pw_iald (pc := 85) (j := g) hX dX1_change_85 (cw_o hc j hj).2.2.1 hg (by decide) ?_
        refine pw_iload_n (pc := 86) hX dX1_change_86 5 rfl ?_
        refine pw_icmp_le (pc := 87) hX 92 dX1_change_87 (by decide) (fun hc_31 => ?_) (fun hc_31 => ?_)
        · refine pw_aload (pc := 92) hX dX1_change_92 1 rfl ?_
          refine pw_get (pc := 94) hX dX1_change_94 (cw_o hc j hj).1 rfl inT_0 3 (by decide) fl_RX1_80 rfl ?_
          refine pw_iload_n (pc := 97) hX dX1_change_97 4 rfl ?_
          refine pw_iload_n (pc := 98) hX dX1_change_98 5 rfl ?_
          refine pw_iast (pc := 99) (j := g) hX dX1_change_99 (cw_o hc j hj).2.1 hg (by decide) ?_
          have hm_32 := pw_ke (a := ad (7 + 4 * j)) (e := .inl (G.2.2.1 0, 10, .inl (upd (wa j) g p2))) hc.1 (cw_ne hc (x := 0) (y := 7 + 4 * j) (by omega) (by omega) (by omega))
          have hm_33 := pw_ke (a := ad (7 + 4 * j)) (e := .inl (G.2.2.1 0, 10, .inl (upd (wa j) g p2))) hc.2.1 (cw_ne hc (x := 1) (y := 7 + 4 * j) (by omega) (by omega) (by omega))
          have hm_34 := pw_ke (a := ad (7 + 4 * j)) (e := .inl (G.2.2.1 0, 10, .inl (upd (wa j) g p2))) hc.2.2.1 (cw_ne hc (x := 2) (y := 7 + 4 * j) (by omega) (by omega) (by omega))
          have hm_35 := pw_ke (a := ad (7 + 4 * j)) (e := .inl (G.2.2.1 0, 10, .inl (upd (wa j) g p2))) hc.2.2.2.1 (cw_ne hc (x := 3) (y := 7 + 4 * j) (by omega) (by omega) (by omega))
          have hm_36 := pw_ke (a := ad (7 + 4 * j)) (e := .inl (G.2.2.1 0, 10, .inl (upd (wa j) g p2))) hc.2.2.2.2.1 (cw_ne hc (x := 4) (y := 7 + 4 * j) (by omega) (by omega) (by omega))
          have hm_37 := pw_ke (a := ad (7 + 4 * j)) (e := .inl (G.2.2.1 0, 10, .inl (upd (wa j) g p2))) hc.2.2.2.2.2.1 (cw_ne hc (x := 5) (y := 7 + 4 * j) (by omega) (by omega) (by omega))
          have hm_38 := pw_ke (a := ad (7 + 4 * j)) (e := .inl (G.2.2.1 0, 10, .inl (upd (wa j) g p2))) (cw_o hc j hj).1 (cw_ne hc (x := 6 + 4 * j) (y := 7 + 4 * j) (by omega) (by omega) (by omega))
          have hm_39 := pw_ke (a := ad (7 + 4 * j)) (e := .inl (G.2.2.1 0, 10, .inl (upd (wa j) g p2))) (cw_o hc j hj).2.2.1 (cw_ne hc (x := 8 + 4 * j) (y := 7 + 4 * j) (by omega) (by omega) (by omega))
          have hm_40 := pw_ke (a := ad (7 + 4 * j)) (e := .inl (G.2.2.1 0, 10, .inl (upd (wa j) g p2))) (cw_o hc j hj).2.2.2 (cw_ne hc (x := 9 + 4 * j) (y := 7 + 4 * j) (by omega) (by omega) (by omega))
          have hm_41 : pw_up M (ad (7 + 4 * j)) (.inl (G.2.2.1 0, 10, .inl (upd (wa j) g p2))) (ad (7 + 4 * j)) = some (.inl (G.2.2.1 0, 10, .inl (upd (wa j) g p2))) := pw_us
          refine pw_iconst (pc := 100) (v := 1) hX dX1_change_100 (by decide) ?_
          exact pw_zretx hX dX1_change_101 hrt rfl ⟨by decide, by decide⟩ (by rw [ix_nI hjB, ix_nI hgB]; exact ⟨pc5_0 (fun h => h (ir_nI hj)) (fun h => h (ir_nI hg)) (by rw [ix_nI hjB, ix_nI hgB]; exact fun h => h hwg) (fun h => h ⟨hlo, hhi⟩) (by rw [ix_nI hjB]; exact fun h => h ⟨Or.inl hc_29, (fun h => hc_28 h.2.1)⟩), Or.inr ⟨rfl, hc_31, (cw_wa hc j hj _)⟩, (fm_up fm_rf (x := 7 + 4 * j) (by omega) _)⟩)
        · refine pw_iconst (pc := 90) (v := 0) hX dX1_change_90 (by decide) ?_
          exact pw_zretx hX dX1_change_91 hrt rfl ⟨by decide, by decide⟩ (by rw [ix_nI hjB, ix_nI hgB]; exact ⟨pc5_0 (fun h => h (ir_nI hj)) (fun h => h (ir_nI hg)) (by rw [ix_nI hjB, ix_nI hgB]; exact fun h => h hwg) (fun h => h ⟨hlo, hhi⟩) (by rw [ix_nI hjB]; exact fun h => h ⟨Or.inl hc_29, (fun h => hc_28 h.2.1)⟩), Or.inl ⟨rfl, Int32.not_le.mp hc_31, rfl⟩, fm_rf⟩)
      · refine pw_aload (pc := 57) hX dX1_change_57 1 rfl ?_
        refine pw_get (pc := 59) hX dX1_change_59 (cw_o hc j hj).1 rfl inT_0 1 (by decide) fl_RX1_69 rfl ?_
        refine pw_iconst (pc := 62) (v := 1) hX dX1_change_62 (by decide) ?_
        refine pw_icmp_ne (pc := 63) hX 75 dX1_change_63 (by decide) (fun hc_42 => ?_) (fun hc_42 => ?_)
        · refine pw_iconst (pc := 75) (v := 0) hX dX1_change_75 (by decide) ?_
          refine pw_callSx (pc := 76) (st := []) hX (ct_requireState l hl G M 0) ok_X1_requireState lk_RX1_76 dX1_change_76 rfl ⟨⟨by decide, by decide⟩, Nat.le_of_ble_eq_true rfl, Nat.le_of_ble_eq_true rfl, Nat.le_of_ble_eq_true rfl⟩ rfl (fun E9 M9 hx9 => ?_) (fun v9 M9 hp9 => absurd rfl hp9.2.2)
          obtain ⟨rfl, rfl, -⟩ := hx9
          exact pw_out hX hex ⟨Nat.le_of_ble_eq_true rfl, Nat.le_of_ble_eq_true rfl⟩ ⟨rfl, Or.inr (Or.inr (⟨rfl, pc5_5 (fun h => h (ir_nI hj)) (fun h => h (ir_nI hg)) (by rw [ix_nI hjB, ix_nI hgB]; exact fun h => h hwg) (fun h => h ⟨hlo, hhi⟩) (by rw [ix_nI hjB]; intro h; exact h.1.elim hc_29 hc_42)⟩))⟩
        · refine pw_iload (pc := 66) hX dX1_change_66 0 rfl ?_
          refine pw_if_ne (pc := 68) hX 75 dX1_change_68 (by decide) (fun h => absurd h (by decide)) (fun _ => ?_)
          refine pw_iconst (pc := 71) (v := 1) hX dX1_change_71 (by decide) ?_
          refine pw_goto (pc := 72) hX 76 dX1_change_72 (by decide) ?_
          refine pw_callSx (pc := 76) (st := []) hX (ct_requireState l hl G M 1) ok_X1_requireState lk_RX1_76 dX1_change_76 rfl ⟨⟨by decide, by decide⟩, Nat.le_of_ble_eq_true rfl, Nat.le_of_ble_eq_true rfl, Nat.le_of_ble_eq_true rfl⟩ rfl (fun E9 M9 hx9 => ?_) (fun v9 M9 hp9 => ?_)
          · obtain ⟨rfl, rfl, hz⟩ := hx9
            exact absurd hz (by decide)
          obtain ⟨rfl, rfl, -⟩ := hp9
          refine pw_aload (pc := 79) hX dX1_change_79 1 rfl ?_
          refine pw_get (pc := 81) hX dX1_change_81 (cw_o hc j hj).1 rfl inT_0 4 (by decide) fl_RX1_103 rfl ?_
          refine pw_iload_n (pc := 84) hX dX1_change_84 4 rfl ?_
          refine pw_iald (pc := 85) (j := g) hX dX1_change_85 (cw_o hc j hj).2.2.1 hg (by decide) ?_
          refine pw_iload_n (pc := 86) hX dX1_change_86 5 rfl ?_
          refine pw_icmp_le (pc := 87) hX 92 dX1_change_87 (by decide) (fun hc_44 => ?_) (fun hc_44 => ?_)
          · refine pw_aload (pc := 92) hX dX1_change_92 1 rfl ?_
            refine pw_get (pc := 94) hX dX1_change_94 (cw_o hc j hj).1 rfl inT_0 3 (by decide) fl_RX1_80 rfl ?_
            refine pw_iload_n (pc := 97) hX dX1_change_97 4 rfl ?_
            refine pw_iload_n (pc := 98) hX dX1_change_98 5 rfl ?_
            refine pw_iast (pc := 99) (j := g) hX dX1_change_99 (cw_o hc j hj).2.1 hg (by decide) ?_
            have hm_45 := pw_ke (a := ad (7 + 4 * j)) (e := .inl (G.2.2.1 0, 10, .inl (upd (wa j) g p2))) hc.1 (cw_ne hc (x := 0) (y := 7 + 4 * j) (by omega) (by omega) (by omega))
            have hm_46 := pw_ke (a := ad (7 + 4 * j)) (e := .inl (G.2.2.1 0, 10, .inl (upd (wa j) g p2))) hc.2.1 (cw_ne hc (x := 1) (y := 7 + 4 * j) (by omega) (by omega) (by omega))
            have hm_47 := pw_ke (a := ad (7 + 4 * j)) (e := .inl (G.2.2.1 0, 10, .inl (upd (wa j) g p2))) hc.2.2.1 (cw_ne hc (x := 2) (y := 7 + 4 * j) (by omega) (by omega) (by omega))
            have hm_48 := pw_ke (a := ad (7 + 4 * j)) (e := .inl (G.2.2.1 0, 10, .inl (upd (wa j) g p2))) hc.2.2.2.1 (cw_ne hc (x := 3) (y := 7 + 4 * j) (by omega) (by omega) (by omega))
            have hm_49 := pw_ke (a := ad (7 + 4 * j)) (e := .inl (G.2.2.1 0, 10, .inl (upd (wa j) g p2))) hc.2.2.2.2.1 (cw_ne hc (x := 4) (y := 7 + 4 * j) (by omega) (by omega) (by omega))
            have hm_50 := pw_ke (a := ad (7 + 4 * j)) (e := .inl (G.2.2.1 0, 10, .inl (upd (wa j) g p2))) hc.2.2.2.2.2.1 (cw_ne hc (x := 5) (y := 7 + 4 * j) (by omega) (by omega) (by omega))
            have hm_51 := pw_ke (a := ad (7 + 4 * j)) (e := .inl (G.2.2.1 0, 10, .inl (upd (wa j) g p2))) (cw_o hc j hj).1 (cw_ne hc (x := 6 + 4 * j) (y := 7 + 4 * j) (by omega) (by omega) (by omega))
            have hm_52 := pw_ke (a := ad (7 + 4 * j)) (e := .inl (G.2.2.1 0, 10, .inl (upd (wa j) g p2))) (cw_o hc j hj).2.2.1 (cw_ne hc (x := 8 + 4 * j) (y := 7 + 4 * j) (by omega) (by omega) (by omega))
            have hm_53 := pw_ke (a := ad (7 + 4 * j)) (e := .inl (G.2.2.1 0, 10, .inl (upd (wa j) g p2))) (cw_o hc j hj).2.2.2 (cw_ne hc (x := 9 + 4 * j) (y := 7 + 4 * j) (by omega) (by omega) (by omega))
            have hm_54 : pw_up M (ad (7 + 4 * j)) (.inl (G.2.2.1 0, 10, .inl (upd (wa j) g p2))) (ad (7 + 4 * j)) = some (.inl (G.2.2.1 0, 10, .inl (upd (wa j) g p2))) := pw_us
            refine pw_iconst (pc := 100) (v := 1) hX dX1_change_100 (by decide) ?_
            exact pw_zretx hX dX1_change_101 hrt rfl ⟨by decide, by decide⟩ (by rw [ix_nI hjB, ix_nI hgB]; exact ⟨pc5_0 (fun h => h (ir_nI hj)) (fun h => h (ir_nI hg)) (by rw [ix_nI hjB, ix_nI hgB]; exact fun h => h hwg) (fun h => h ⟨hlo, hhi⟩) (by rw [ix_nI hjB]; exact fun h => h ⟨Or.inr hc_42, (fun h => hc_28 h.2.1)⟩), Or.inr ⟨rfl, hc_44, (cw_wa hc j hj _)⟩, (fm_up fm_rf (x := 7 + 4 * j) (by omega) _)⟩)
          · refine pw_iconst (pc := 90) (v := 0) hX dX1_change_90 (by decide) ?_
            exact pw_zretx hX dX1_change_91 hrt rfl ⟨by decide, by decide⟩ (by rw [ix_nI hjB, ix_nI hgB]; exact ⟨pc5_0 (fun h => h (ir_nI hj)) (fun h => h (ir_nI hg)) (by rw [ix_nI hjB, ix_nI hgB]; exact fun h => h hwg) (fun h => h ⟨hlo, hhi⟩) (by rw [ix_nI hjB]; exact fun h => h ⟨Or.inr hc_42, (fun h => hc_28 h.2.1)⟩), Or.inl ⟨rfl, Int32.not_le.mp hc_44, rfl⟩, fm_rf⟩)
    · refine pw_aload (pc := 33) hX dX1_change_33 0 rfl ?_
      refine pw_callV (pc := 35) (st := []) hX (ct_lineCount l hl G M (ad (6 + 4 * j)) (ad (7 + 4 * j)) (ad (8 + 4 * j)) (ad (9 + 4 * j)) (nI j) (os j) (pl j) (wa j) (pr j) (de j) (cw_o hc j hj)) (cw_o hc j hj).1 rfl ok_X0_lineCount lk_RX1_83 dX1_change_35 rfl ⟨⟨by decide, by decide⟩, Nat.le_of_ble_eq_true rfl, Nat.le_of_ble_eq_true rfl, Nat.le_of_ble_eq_true rfl⟩ rfl (fun v9 M9 hp9 => ?_)
      obtain ⟨rfl, rfl⟩ := hp9
      refine pw_iconst (pc := 38) (v := 1) hX dX1_change_38 (by decide) ?_
      refine pw_icmp_ne (pc := 39) hX 46 dX1_change_39 (by decide) (fun hc_55 => ?_) (fun hc_55 => ?_)
      · refine pw_iconst (pc := 46) (v := 0) hX dX1_change_46 (by decide) ?_
        refine pw_istore (pc := 47) hX [(5, .int 0), (4, .ref (ad (6 + 4 * j))), (0, .ref (ad 0)), (1, .int (nI j)), (2, .int (nI g)), (3, .int p2)] dX1_change_47 (by decide) rfl ?_
        refine pw_aload (pc := 49) hX dX1_change_49 1 rfl ?_
        refine pw_get (pc := 51) hX dX1_change_51 (cw_o hc j hj).1 rfl inT_0 1 (by decide) fl_RX1_69 rfl ?_
        refine pw_if_eq (pc := 54) hX 66 dX1_change_54 (by decide) (fun hc_56 => ?_) (fun hc_56 => ?_)
        · refine pw_iload (pc := 66) hX dX1_change_66 0 rfl ?_
          refine pw_if_ne (pc := 68) hX 75 dX1_change_68 (by decide) (fun h => absurd h (by decide)) (fun _ => ?_)
          refine pw_iconst (pc := 71) (v := 1) hX dX1_change_71 (by decide) ?_
          refine pw_goto (pc := 72) hX 76 dX1_change_72 (by decide) ?_
          refine pw_callSx (pc := 76) (st := []) hX (ct_requireState l hl G M 1) ok_X1_requireState lk_RX1_76 dX1_change_76 rfl ⟨⟨by decide, by decide⟩, Nat.le_of_ble_eq_true rfl, Nat.le_of_ble_eq_true rfl, Nat.le_of_ble_eq_true rfl⟩ rfl (fun E9 M9 hx9 => ?_) (fun v9 M9 hp9 => ?_)
          · obtain ⟨rfl, rfl, hz⟩ := hx9
            exact absurd hz (by decide)
          obtain ⟨rfl, rfl, -⟩ := hp9
          refine pw_aload (pc := 79) hX dX1_change_79 1 rfl ?_
          refine pw_get (pc := 81) hX dX1_change_81 (cw_o hc j hj).1 rfl inT_0 4 (by decide) fl_RX1_103 rfl ?_
          refine pw_iload_n (pc := 84) hX dX1_change_84 4 rfl ?_
          refine pw_iald (pc := 85) (j := g) hX dX1_change_85 (cw_o hc j hj).2.2.1 hg (by decide) ?_
          refine pw_iload_n (pc := 86) hX dX1_change_86 5 rfl ?_
          refine pw_icmp_le (pc := 87) hX 92 dX1_change_87 (by decide) (fun hc_58 => ?_) (fun hc_58 => ?_)
          · refine pw_aload (pc := 92) hX dX1_change_92 1 rfl ?_
            refine pw_get (pc := 94) hX dX1_change_94 (cw_o hc j hj).1 rfl inT_0 3 (by decide) fl_RX1_80 rfl ?_
            refine pw_iload_n (pc := 97) hX dX1_change_97 4 rfl ?_
            refine pw_iload_n (pc := 98) hX dX1_change_98 5 rfl ?_
            refine pw_iast (pc := 99) (j := g) hX dX1_change_99 (cw_o hc j hj).2.1 hg (by decide) ?_
            have hm_59 := pw_ke (a := ad (7 + 4 * j)) (e := .inl (G.2.2.1 0, 10, .inl (upd (wa j) g p2))) hc.1 (cw_ne hc (x := 0) (y := 7 + 4 * j) (by omega) (by omega) (by omega))
            have hm_60 := pw_ke (a := ad (7 + 4 * j)) (e := .inl (G.2.2.1 0, 10, .inl (upd (wa j) g p2))) hc.2.1 (cw_ne hc (x := 1) (y := 7 + 4 * j) (by omega) (by omega) (by omega))
            have hm_61 := pw_ke (a := ad (7 + 4 * j)) (e := .inl (G.2.2.1 0, 10, .inl (upd (wa j) g p2))) hc.2.2.1 (cw_ne hc (x := 2) (y := 7 + 4 * j) (by omega) (by omega) (by omega))
            have hm_62 := pw_ke (a := ad (7 + 4 * j)) (e := .inl (G.2.2.1 0, 10, .inl (upd (wa j) g p2))) hc.2.2.2.1 (cw_ne hc (x := 3) (y := 7 + 4 * j) (by omega) (by omega) (by omega))
            have hm_63 := pw_ke (a := ad (7 + 4 * j)) (e := .inl (G.2.2.1 0, 10, .inl (upd (wa j) g p2))) hc.2.2.2.2.1 (cw_ne hc (x := 4) (y := 7 + 4 * j) (by omega) (by omega) (by omega))
            have hm_64 := pw_ke (a := ad (7 + 4 * j)) (e := .inl (G.2.2.1 0, 10, .inl (upd (wa j) g p2))) hc.2.2.2.2.2.1 (cw_ne hc (x := 5) (y := 7 + 4 * j) (by omega) (by omega) (by omega))
            have hm_65 := pw_ke (a := ad (7 + 4 * j)) (e := .inl (G.2.2.1 0, 10, .inl (upd (wa j) g p2))) (cw_o hc j hj).1 (cw_ne hc (x := 6 + 4 * j) (y := 7 + 4 * j) (by omega) (by omega) (by omega))
            have hm_66 := pw_ke (a := ad (7 + 4 * j)) (e := .inl (G.2.2.1 0, 10, .inl (upd (wa j) g p2))) (cw_o hc j hj).2.2.1 (cw_ne hc (x := 8 + 4 * j) (y := 7 + 4 * j) (by omega) (by omega) (by omega))
            have hm_67 := pw_ke (a := ad (7 + 4 * j)) (e := .inl (G.2.2.1 0, 10, .inl (upd (wa j) g p2))) (cw_o hc j hj).2.2.2 (cw_ne hc (x := 9 + 4 * j) (y := 7 + 4 * j) (by omega) (by omega) (by omega))
            have hm_68 : pw_up M (ad (7 + 4 * j)) (.inl (G.2.2.1 0, 10, .inl (upd (wa j) g p2))) (ad (7 + 4 * j)) = some (.inl (G.2.2.1 0, 10, .inl (upd (wa j) g p2))) := pw_us
            refine pw_iconst (pc := 100) (v := 1) hX dX1_change_100 (by decide) ?_
            exact pw_zretx hX dX1_change_101 hrt rfl ⟨by decide, by decide⟩ (by rw [ix_nI hjB, ix_nI hgB]; exact ⟨pc5_0 (fun h => h (ir_nI hj)) (fun h => h (ir_nI hg)) (by rw [ix_nI hjB, ix_nI hgB]; exact fun h => h hwg) (fun h => h ⟨hlo, hhi⟩) (by rw [ix_nI hjB]; exact fun h => h ⟨Or.inl hc_56, (fun h => hc_55 (by rw [h.2.2]; rfl))⟩), Or.inr ⟨rfl, hc_58, (cw_wa hc j hj _)⟩, (fm_up fm_rf (x := 7 + 4 * j) (by omega) _)⟩)
          · refine pw_iconst (pc := 90) (v := 0) hX dX1_change_90 (by decide) ?_
            exact pw_zretx hX dX1_change_91 hrt rfl ⟨by decide, by decide⟩ (by rw [ix_nI hjB, ix_nI hgB]; exact ⟨pc5_0 (fun h => h (ir_nI hj)) (fun h => h (ir_nI hg)) (by rw [ix_nI hjB, ix_nI hgB]; exact fun h => h hwg) (fun h => h ⟨hlo, hhi⟩) (by rw [ix_nI hjB]; exact fun h => h ⟨Or.inl hc_56, (fun h => hc_55 (by rw [h.2.2]; rfl))⟩), Or.inl ⟨rfl, Int32.not_le.mp hc_58, rfl⟩, fm_rf⟩)
        · refine pw_aload (pc := 57) hX dX1_change_57 1 rfl ?_
          refine pw_get (pc := 59) hX dX1_change_59 (cw_o hc j hj).1 rfl inT_0 1 (by decide) fl_RX1_69 rfl ?_
          refine pw_iconst (pc := 62) (v := 1) hX dX1_change_62 (by decide) ?_
          refine pw_icmp_ne (pc := 63) hX 75 dX1_change_63 (by decide) (fun hc_69 => ?_) (fun hc_69 => ?_)
          · refine pw_iconst (pc := 75) (v := 0) hX dX1_change_75 (by decide) ?_
            refine pw_callSx (pc := 76) (st := []) hX (ct_requireState l hl G M 0) ok_X1_requireState lk_RX1_76 dX1_change_76 rfl ⟨⟨by decide, by decide⟩, Nat.le_of_ble_eq_true rfl, Nat.le_of_ble_eq_true rfl, Nat.le_of_ble_eq_true rfl⟩ rfl (fun E9 M9 hx9 => ?_) (fun v9 M9 hp9 => absurd rfl hp9.2.2)
            obtain ⟨rfl, rfl, -⟩ := hx9
            exact pw_out hX hex ⟨Nat.le_of_ble_eq_true rfl, Nat.le_of_ble_eq_true rfl⟩ ⟨rfl, Or.inr (Or.inr (⟨rfl, pc5_5 (fun h => h (ir_nI hj)) (fun h => h (ir_nI hg)) (by rw [ix_nI hjB, ix_nI hgB]; exact fun h => h hwg) (fun h => h ⟨hlo, hhi⟩) (by rw [ix_nI hjB]; intro h; exact h.1.elim hc_56 hc_69)⟩))⟩
          · refine pw_iload (pc := 66) hX dX1_change_66 0 rfl ?_
            refine pw_if_ne (pc := 68) hX 75 dX1_change_68 (by decide) (fun h => absurd h (by decide)) (fun _ => ?_)
            refine pw_iconst (pc := 71) (v := 1) hX dX1_change_71 (by decide) ?_
            refine pw_goto (pc := 72) hX 76 dX1_change_72 (by decide) ?_
            refine pw_callSx (pc := 76) (st := []) hX (ct_requireState l hl G M 1) ok_X1_requireState lk_RX1_76 dX1_change_76 rfl ⟨⟨by decide, by decide⟩, Nat.le_of_ble_eq_true rfl, Nat.le_of_ble_eq_true rfl, Nat.le_of_ble_eq_true rfl⟩ rfl (fun E9 M9 hx9 => ?_) (fun v9 M9 hp9 => ?_)
            · obtain ⟨rfl, rfl, hz⟩ := hx9
              exact absurd hz (by decide)
            obtain ⟨rfl, rfl, -⟩ := hp9
            refine pw_aload (pc := 79) hX dX1_change_79 1 rfl ?_
            refine pw_get (pc := 81) hX dX1_change_81 (cw_o hc j hj).1 rfl inT_0 4 (by decide) fl_RX1_103 rfl ?_
            refine pw_iload_n (pc := 84) hX dX1_change_84 4 rfl ?_
            refine pw_iald (pc := 85) (j := g) hX dX1_change_85 (cw_o hc j hj).2.2.1 hg (by decide) ?_
            refine pw_iload_n (pc := 86) hX dX1_change_86 5 rfl ?_
            refine pw_icmp_le (pc := 87) hX 92 dX1_change_87 (by decide) (fun hc_71 => ?_) (fun hc_71 => ?_)
            · refine pw_aload (pc := 92) hX dX1_change_92 1 rfl ?_
              refine pw_get (pc := 94) hX dX1_change_94 (cw_o hc j hj).1 rfl inT_0 3 (by decide) fl_RX1_80 rfl ?_
              refine pw_iload_n (pc := 97) hX dX1_change_97 4 rfl ?_
              refine pw_iload_n (pc := 98) hX dX1_change_98 5 rfl ?_
              refine pw_iast (pc := 99) (j := g) hX dX1_change_99 (cw_o hc j hj).2.1 hg (by decide) ?_
              have hm_72 := pw_ke (a := ad (7 + 4 * j)) (e := .inl (G.2.2.1 0, 10, .inl (upd (wa j) g p2))) hc.1 (cw_ne hc (x := 0) (y := 7 + 4 * j) (by omega) (by omega) (by omega))
              have hm_73 := pw_ke (a := ad (7 + 4 * j)) (e := .inl (G.2.2.1 0, 10, .inl (upd (wa j) g p2))) hc.2.1 (cw_ne hc (x := 1) (y := 7 + 4 * j) (by omega) (by omega) (by omega))
              have hm_74 := pw_ke (a := ad (7 + 4 * j)) (e := .inl (G.2.2.1 0, 10, .inl (upd (wa j) g p2))) hc.2.2.1 (cw_ne hc (x := 2) (y := 7 + 4 * j) (by omega) (by omega) (by omega))
              have hm_75 := pw_ke (a := ad (7 + 4 * j)) (e := .inl (G.2.2.1 0, 10, .inl (upd (wa j) g p2))) hc.2.2.2.1 (cw_ne hc (x := 3) (y := 7 + 4 * j) (by omega) (by omega) (by omega))
              have hm_76 := pw_ke (a := ad (7 + 4 * j)) (e := .inl (G.2.2.1 0, 10, .inl (upd (wa j) g p2))) hc.2.2.2.2.1 (cw_ne hc (x := 4) (y := 7 + 4 * j) (by omega) (by omega) (by omega))
              have hm_77 := pw_ke (a := ad (7 + 4 * j)) (e := .inl (G.2.2.1 0, 10, .inl (upd (wa j) g p2))) hc.2.2.2.2.2.1 (cw_ne hc (x := 5) (y := 7 + 4 * j) (by omega) (by omega) (by omega))
              have hm_78 := pw_ke (a := ad (7 + 4 * j)) (e := .inl (G.2.2.1 0, 10, .inl (upd (wa j) g p2))) (cw_o hc j hj).1 (cw_ne hc (x := 6 + 4 * j) (y := 7 + 4 * j) (by omega) (by omega) (by omega))
              have hm_79 := pw_ke (a := ad (7 + 4 * j)) (e := .inl (G.2.2.1 0, 10, .inl (upd (wa j) g p2))) (cw_o hc j hj).2.2.1 (cw_ne hc (x := 8 + 4 * j) (y := 7 + 4 * j) (by omega) (by omega) (by omega))
              have hm_80 := pw_ke (a := ad (7 + 4 * j)) (e := .inl (G.2.2.1 0, 10, .inl (upd (wa j) g p2))) (cw_o hc j hj).2.2.2 (cw_ne hc (x := 9 + 4 * j) (y := 7 + 4 * j) (by omega) (by omega) (by omega))
              have hm_81 : pw_up M (ad (7 + 4 * j)) (.inl (G.2.2.1 0, 10, .inl (upd (wa j) g p2))) (ad (7 + 4 * j)) = some (.inl (G.2.2.1 0, 10, .inl (upd (wa j) g p2))) := pw_us
              refine pw_iconst (pc := 100) (v := 1) hX dX1_change_100 (by decide) ?_
              exact pw_zretx hX dX1_change_101 hrt rfl ⟨by decide, by decide⟩ (by rw [ix_nI hjB, ix_nI hgB]; exact ⟨pc5_0 (fun h => h (ir_nI hj)) (fun h => h (ir_nI hg)) (by rw [ix_nI hjB, ix_nI hgB]; exact fun h => h hwg) (fun h => h ⟨hlo, hhi⟩) (by rw [ix_nI hjB]; exact fun h => h ⟨Or.inr hc_69, (fun h => hc_55 (by rw [h.2.2]; rfl))⟩), Or.inr ⟨rfl, hc_71, (cw_wa hc j hj _)⟩, (fm_up fm_rf (x := 7 + 4 * j) (by omega) _)⟩)
            · refine pw_iconst (pc := 90) (v := 0) hX dX1_change_90 (by decide) ?_
              exact pw_zretx hX dX1_change_91 hrt rfl ⟨by decide, by decide⟩ (by rw [ix_nI hjB, ix_nI hgB]; exact ⟨pc5_0 (fun h => h (ir_nI hj)) (fun h => h (ir_nI hg)) (by rw [ix_nI hjB, ix_nI hgB]; exact fun h => h hwg) (fun h => h ⟨hlo, hhi⟩) (by rw [ix_nI hjB]; exact fun h => h ⟨Or.inr hc_69, (fun h => hc_55 (by rw [h.2.2]; rfl))⟩), Or.inl ⟨rfl, Int32.not_le.mp hc_71, rfl⟩, fm_rf⟩)
      · refine pw_iconst (pc := 42) (v := 1) hX dX1_change_42 (by decide) ?_
        refine pw_goto (pc := 43) hX 47 dX1_change_43 (by decide) ?_
        refine pw_istore (pc := 47) hX [(5, .int 1), (4, .ref (ad (6 + 4 * j))), (0, .ref (ad 0)), (1, .int (nI j)), (2, .int (nI g)), (3, .int p2)] dX1_change_47 (by decide) rfl ?_
        refine pw_aload (pc := 49) hX dX1_change_49 1 rfl ?_
        refine pw_get (pc := 51) hX dX1_change_51 (cw_o hc j hj).1 rfl inT_0 1 (by decide) fl_RX1_69 rfl ?_
        refine pw_if_eq (pc := 54) hX 66 dX1_change_54 (by decide) (fun hc_82 => ?_) (fun hc_82 => ?_)
        · refine pw_iload (pc := 66) hX dX1_change_66 0 rfl ?_
          refine pw_if_ne (pc := 68) hX 75 dX1_change_68 (by decide) (fun _ => ?_) (fun h => absurd h (by decide))
          refine pw_iconst (pc := 75) (v := 0) hX dX1_change_75 (by decide) ?_
          refine pw_callSx (pc := 76) (st := []) hX (ct_requireState l hl G M 0) ok_X1_requireState lk_RX1_76 dX1_change_76 rfl ⟨⟨by decide, by decide⟩, Nat.le_of_ble_eq_true rfl, Nat.le_of_ble_eq_true rfl, Nat.le_of_ble_eq_true rfl⟩ rfl (fun E9 M9 hx9 => ?_) (fun v9 M9 hp9 => absurd rfl hp9.2.2)
          obtain ⟨rfl, rfl, -⟩ := hx9
          exact pw_out hX hex ⟨Nat.le_of_ble_eq_true rfl, Nat.le_of_ble_eq_true rfl⟩ ⟨rfl, Or.inr (Or.inr (⟨rfl, pc5_5 (fun h => h (ir_nI hj)) (fun h => h (ir_nI hg)) (by rw [ix_nI hjB, ix_nI hgB]; exact fun h => h hwg) (fun h => h ⟨hlo, hhi⟩) (by rw [ix_nI hjB]; intro h; exact h.2 ⟨hc_1, hc_28, (nI_eq (b := 1) (Nat.lt_of_le_of_lt (od_ct_le _ 10) (by decide)) (by decide)).mp hc_55⟩)⟩))⟩
        · refine pw_aload (pc := 57) hX dX1_change_57 1 rfl ?_
          refine pw_get (pc := 59) hX dX1_change_59 (cw_o hc j hj).1 rfl inT_0 1 (by decide) fl_RX1_69 rfl ?_
          refine pw_iconst (pc := 62) (v := 1) hX dX1_change_62 (by decide) ?_
          refine pw_icmp_ne (pc := 63) hX 75 dX1_change_63 (by decide) (fun hc_84 => ?_) (fun hc_84 => ?_)
          · refine pw_iconst (pc := 75) (v := 0) hX dX1_change_75 (by decide) ?_
            refine pw_callSx (pc := 76) (st := []) hX (ct_requireState l hl G M 0) ok_X1_requireState lk_RX1_76 dX1_change_76 rfl ⟨⟨by decide, by decide⟩, Nat.le_of_ble_eq_true rfl, Nat.le_of_ble_eq_true rfl, Nat.le_of_ble_eq_true rfl⟩ rfl (fun E9 M9 hx9 => ?_) (fun v9 M9 hp9 => absurd rfl hp9.2.2)
            obtain ⟨rfl, rfl, -⟩ := hx9
            exact pw_out hX hex ⟨Nat.le_of_ble_eq_true rfl, Nat.le_of_ble_eq_true rfl⟩ ⟨rfl, Or.inr (Or.inr (⟨rfl, pc5_5 (fun h => h (ir_nI hj)) (fun h => h (ir_nI hg)) (by rw [ix_nI hjB, ix_nI hgB]; exact fun h => h hwg) (fun h => h ⟨hlo, hhi⟩) (by rw [ix_nI hjB]; intro h; exact h.1.elim hc_82 hc_84)⟩))⟩
          · refine pw_iload (pc := 66) hX dX1_change_66 0 rfl ?_
            refine pw_if_ne (pc := 68) hX 75 dX1_change_68 (by decide) (fun _ => ?_) (fun h => absurd h (by decide))
            refine pw_iconst (pc := 75) (v := 0) hX dX1_change_75 (by decide) ?_
            refine pw_callSx (pc := 76) (st := []) hX (ct_requireState l hl G M 0) ok_X1_requireState lk_RX1_76 dX1_change_76 rfl ⟨⟨by decide, by decide⟩, Nat.le_of_ble_eq_true rfl, Nat.le_of_ble_eq_true rfl, Nat.le_of_ble_eq_true rfl⟩ rfl (fun E9 M9 hx9 => ?_) (fun v9 M9 hp9 => absurd rfl hp9.2.2)
            obtain ⟨rfl, rfl, -⟩ := hx9
            exact pw_out hX hex ⟨Nat.le_of_ble_eq_true rfl, Nat.le_of_ble_eq_true rfl⟩ ⟨rfl, Or.inr (Or.inr (⟨rfl, pc5_5 (fun h => h (ir_nI hj)) (fun h => h (ir_nI hg)) (by rw [ix_nI hjB, ix_nI hgB]; exact fun h => h hwg) (fun h => h ⟨hlo, hhi⟩) (by rw [ix_nI hjB]; intro h; exact h.2 ⟨hc_1, hc_28, (nI_eq (b := 1) (Nat.lt_of_le_of_lt (od_ct_le _ 10) (by decide)) (by decide)).mp hc_55⟩)⟩))⟩
set_option maxHeartbeats 4000000 in
set_option maxRecDepth 100000 in
theorem cp_complete (l : Launch) (hl : l.stackTraces = false) (G : pw_G) (M : pw_M) (ad : Nat → Nat) (n oc : Nat) (td sd : Int32) (dk to er : Nat → Int32) (os pl : Nat → Int32) (oo : Nat → Option Nat) (wa pr de : Nat → Nat → Int32) (hc : cw G ad n oc td sd dk to er os pl oo wa pr de M) (p0 : Int32) : pw_XMet l yX1_complete cX1_complete 3 (some .boolean) 3 2 12 G [.ref (ad 0), .int p0] M (fun v9 M9 => cd_complete oc os p0 = 0 ∧ (v9 = some (.int 1) ∧ (∀ g, g < 10 → ¬ od_gu td (wa (ix p0)) (pr (ix p0)) (de (ix p0)) g < wa (ix p0) g - pr (ix p0) g) ∧ cw G ad n oc td sd dk to er (va_up os (ix p0) 2) pl oo wa pr de M9 ∨ v9 = some (.int 0) ∧ (∃ g, g < 10 ∧ od_gu td (wa (ix p0)) (pr (ix p0)) (de (ix p0)) g < wa (ix p0) g - pr (ix p0) g) ∧ M = M9) ∧ fm ad (6 + 4 * oc) M M9) (fun E9 M9 => M = M9 ∧ (E9 = "java/util/NoSuchElementException" ∧ cd_complete oc os p0 = 1 ∨ E9 = "java/lang/IllegalStateException" ∧ cd_complete oc os p0 = 2)) := by
  refine pw_ofx hl (by decide +kernel) (Nat.le_of_ble_eq_true rfl) [(0, .ref (ad 0)), (1, .int p0)] rfl ?_
  intro p9 e9 s9 m9 args9 below9 meth9 c9 hX hrt hex
  refine pw_aload_n (pc := 0) hX dX1_complete_0 0 rfl ?_
  refine pw_iload_n (pc := 1) hX dX1_complete_1 1 rfl ?_
  refine pw_callVx (pc := 2) (st := []) hX (ct_existing l hl G M ad n oc td sd dk to er os pl oo wa pr de hc p0) hc.1 rfl ok_X1_existing lk_RX1_65 dX1_complete_2 rfl ⟨⟨by decide, by decide⟩, Nat.le_of_ble_eq_true rfl, Nat.le_of_ble_eq_true rfl, Nat.le_of_ble_eq_true rfl⟩ rfl (fun E9 M9 hx9 => ?_) (fun v9 M9 hp9 => ?_)
  · obtain ⟨rfl, rfl, hno⟩ := hx9
    exact pw_out hX hex ⟨Nat.le_of_ble_eq_true rfl, Nat.le_of_ble_eq_true rfl⟩ (⟨rfl, Or.inl (⟨rfl, pc_t hno⟩)⟩)
  obtain ⟨rfl, j, hj, rfl, rfl⟩ := hp9
  have hjB : j < 2 ^ 31 := Nat.lt_of_lt_of_le hj (Nat.le_trans (cw_oc hc) (by decide))
  refine pw_astore_n (pc := 5) hX [(2, .ref (ad (6 + 4 * j))), (0, .ref (ad 0)), (1, .int (nI j))] dX1_complete_5 (by decide) rfl ?_
  refine pw_aload_n (pc := 6) hX dX1_complete_6 0 rfl ?_
  refine pw_get (pc := 7) hX dX1_complete_7 (cw_o hc j hj).1 rfl inT_0 1 (by decide) fl_RX1_69 rfl ?_
  refine pw_iconst (pc := 10) (v := 1) hX dX1_complete_10 (by decide) ?_
  refine pw_icmp_ne (pc := 11) hX 18 dX1_complete_11 (by decide) (fun hc_1 => ?_) (fun hc_1 => ?_)
  · refine pw_iconst (pc := 18) (v := 0) hX dX1_complete_18 (by decide) ?_
    refine pw_callSx (pc := 19) (st := []) hX (ct_requireState l hl G M 0) ok_X1_requireState lk_RX1_76 dX1_complete_19 rfl ⟨⟨by decide, by decide⟩, Nat.le_of_ble_eq_true rfl, Nat.le_of_ble_eq_true rfl, Nat.le_of_ble_eq_true rfl⟩ rfl (fun E9 M9 hx9 => ?_) (fun v9 M9 hp9 => absurd rfl hp9.2.2)
    obtain ⟨rfl, rfl, -⟩ := hx9
    exact pw_out hX hex ⟨Nat.le_of_ble_eq_true rfl, Nat.le_of_ble_eq_true rfl⟩ ⟨rfl, Or.inr (⟨rfl, pc2_2 (fun h => h (ir_nI hj)) (by rw [ix_nI hjB]; exact hc_1)⟩)⟩
  · refine pw_iconst (pc := 14) (v := 1) hX dX1_complete_14 (by decide) ?_
    refine pw_goto (pc := 15) hX 19 dX1_complete_15 (by decide) ?_
    refine pw_callSx (pc := 19) (st := []) hX (ct_requireState l hl G M 1) ok_X1_requireState lk_RX1_76 dX1_complete_19 rfl ⟨⟨by decide, by decide⟩, Nat.le_of_ble_eq_true rfl, Nat.le_of_ble_eq_true rfl, Nat.le_of_ble_eq_true rfl⟩ rfl (fun E9 M9 hx9 => ?_) (fun v9 M9 hp9 => ?_)
    · obtain ⟨rfl, rfl, hz⟩ := hx9
      exact absurd hz (by decide)
    obtain ⟨rfl, rfl, -⟩ := hp9
    refine pw_aload_n (pc := 22) hX dX1_complete_22 0 rfl ?_
    refine pw_aload_n (pc := 23) hX dX1_complete_23 1 rfl ?_
    refine pw_get (pc := 24) hX dX1_complete_24 hc.1 rfl inT_1 6 (by decide) fl_RX1_26 rfl ?_
    refine pw_callV (pc := 27) (st := []) hX (ct_lacksNothing l hl G M (ad (6 + 4 * j)) (ad (7 + 4 * j)) (ad (8 + 4 * j)) (ad (9 + 4 * j)) (nI j) (os j) (pl j) (wa j) (pr j) (de j) (cw_o hc j hj) td) (cw_o hc j hj).1 rfl ok_X0_lacksNothing lk_RX1_122 dX1_complete_27 rfl ⟨⟨by decide, by decide⟩, Nat.le_of_ble_eq_true rfl, Nat.le_of_ble_eq_true rfl, Nat.le_of_ble_eq_true rfl⟩ rfl (fun v9 M9 hp9 => ?_)
    obtain ⟨⟨z, rfl, ⟨rfl, hall⟩ | ⟨rfl, g, hg, hlt⟩⟩, rfl⟩ := hp9
    · refine pw_if_ne (pc := 30) hX 35 dX1_complete_30 (by decide) (fun _ => ?_) (fun h => absurd h (by decide))
      refine pw_aload_n (pc := 35) hX dX1_complete_35 0 rfl ?_
      refine pw_iconst (pc := 36) (v := 2) hX dX1_complete_36 (by decide) ?_
      refine pw_put (pc := 37) (v := .int 2) hX dX1_complete_37 (cw_o hc j hj).1 rfl inT_0 tyX0 tyX0_ok nmX0 1 (by decide) fl_RX1_69 rfl (tyX0_ok 1 (by decide)) rfl rfl (Nat.le_of_ble_eq_true rfl) [.int (nI j), .int 2, .int (pl j), .ref (ad (7 + 4 * j)), .ref (ad (8 + 4 * j)), .ref (ad (9 + 4 * j))] rfl ?_
      have hm_3 := pw_ke (a := ad (6 + 4 * j)) (e := .inr (0, [.int (nI j), .int 2, .int (pl j), .ref (ad (7 + 4 * j)), .ref (ad (8 + 4 * j)), .ref (ad (9 + 4 * j))])) hc.1 (cw_ne hc (x := 0) (y := 6 + 4 * j) (by omega) (by omega) (by omega))
      have hm_4 := pw_ke (a := ad (6 + 4 * j)) (e := .inr (0, [.int (nI j), .int 2, .int (pl j), .ref (ad (7 + 4 * j)), .ref (ad (8 + 4 * j)), .ref (ad (9 + 4 * j))])) hc.2.1 (cw_ne hc (x := 1) (y := 6 + 4 * j) (by omega) (by omega) (by omega))
      have hm_5 := pw_ke (a := ad (6 + 4 * j)) (e := .inr (0, [.int (nI j), .int 2, .int (pl j), .ref (ad (7 + 4 * j)), .ref (ad (8 + 4 * j)), .ref (ad (9 + 4 * j))])) hc.2.2.1 (cw_ne hc (x := 2) (y := 6 + 4 * j) (by omega) (by omega) (by omega))
      have hm_6 := pw_ke (a := ad (6 + 4 * j)) (e := .inr (0, [.int (nI j), .int 2, .int (pl j), .ref (ad (7 + 4 * j)), .ref (ad (8 + 4 * j)), .ref (ad (9 + 4 * j))])) hc.2.2.2.1 (cw_ne hc (x := 3) (y := 6 + 4 * j) (by omega) (by omega) (by omega))
      have hm_7 := pw_ke (a := ad (6 + 4 * j)) (e := .inr (0, [.int (nI j), .int 2, .int (pl j), .ref (ad (7 + 4 * j)), .ref (ad (8 + 4 * j)), .ref (ad (9 + 4 * j))])) hc.2.2.2.2.1 (cw_ne hc (x := 4) (y := 6 + 4 * j) (by omega) (by omega) (by omega))
      have hm_8 := pw_ke (a := ad (6 + 4 * j)) (e := .inr (0, [.int (nI j), .int 2, .int (pl j), .ref (ad (7 + 4 * j)), .ref (ad (8 + 4 * j)), .ref (ad (9 + 4 * j))])) hc.2.2.2.2.2.1 (cw_ne hc (x := 5) (y := 6 + 4 * j) (by omega) (by omega) (by omega))
      have hm_9 := pw_ke (a := ad (6 + 4 * j)) (e := .inr (0, [.int (nI j), .int 2, .int (pl j), .ref (ad (7 + 4 * j)), .ref (ad (8 + 4 * j)), .ref (ad (9 + 4 * j))])) (cw_o hc j hj).2.1 (cw_ne hc (x := 7 + 4 * j) (y := 6 + 4 * j) (by omega) (by omega) (by omega))
      have hm_10 := pw_ke (a := ad (6 + 4 * j)) (e := .inr (0, [.int (nI j), .int 2, .int (pl j), .ref (ad (7 + 4 * j)), .ref (ad (8 + 4 * j)), .ref (ad (9 + 4 * j))])) (cw_o hc j hj).2.2.1 (cw_ne hc (x := 8 + 4 * j) (y := 6 + 4 * j) (by omega) (by omega) (by omega))
      have hm_11 := pw_ke (a := ad (6 + 4 * j)) (e := .inr (0, [.int (nI j), .int 2, .int (pl j), .ref (ad (7 + 4 * j)), .ref (ad (8 + 4 * j)), .ref (ad (9 + 4 * j))])) (cw_o hc j hj).2.2.2 (cw_ne hc (x := 9 + 4 * j) (y := 6 + 4 * j) (by omega) (by omega) (by omega))
      have hm_12 : pw_up M (ad (6 + 4 * j)) (.inr (0, [.int (nI j), .int 2, .int (pl j), .ref (ad (7 + 4 * j)), .ref (ad (8 + 4 * j)), .ref (ad (9 + 4 * j))])) (ad (6 + 4 * j)) = some (.inr (0, [.int (nI j), .int 2, .int (pl j), .ref (ad (7 + 4 * j)), .ref (ad (8 + 4 * j)), .ref (ad (9 + 4 * j))])) := pw_us
      refine pw_iconst (pc := 40) (v := 1) hX dX1_complete_40 (by decide) ?_
      exact pw_zretx hX dX1_complete_41 hrt rfl ⟨by decide, by decide⟩ (by rw [ix_nI hjB]; exact ⟨pc2_0 (fun h => h (ir_nI hj)) (by rw [ix_nI hjB]; exact fun h => h hc_1), Or.inl ⟨rfl, hall, by have h9 := (cw_os hc j hj 2 (pl j)); rw [up_id] at h9; exact h9⟩, (fm_up fm_rf (x := 6 + 4 * j) (by omega) _)⟩)
    · refine pw_if_ne (pc := 30) hX 35 dX1_complete_30 (by decide) (fun h => absurd h (by decide)) (fun _ => ?_)
      refine pw_iconst (pc := 33) (v := 0) hX dX1_complete_33 (by decide) ?_
      exact pw_zretx hX dX1_complete_34 hrt rfl ⟨by decide, by decide⟩ (by rw [ix_nI hjB]; exact ⟨pc2_0 (fun h => h (ir_nI hj)) (by rw [ix_nI hjB]; exact fun h => h hc_1), Or.inr ⟨rfl, ⟨g, hg, hlt⟩, rfl⟩, fm_rf⟩)
set_option maxHeartbeats 4000000 in
set_option maxRecDepth 100000 in
theorem cp_release (l : Launch) (hl : l.stackTraces = false) (G : pw_G) (M : pw_M) (ad : Nat → Nat) (n oc : Nat) (td sd : Int32) (dk to er : Nat → Int32) (os pl : Nat → Int32) (oo : Nat → Option Nat) (wa pr de : Nat → Nat → Int32) (hc : cw G ad n oc td sd dk to er os pl oo wa pr de M) (p0 : Int32) : pw_XMet l yX1_release cX1_release 3 (some .boolean) 3 2 12 G [.ref (ad 0), .int p0] M (fun v9 M9 => cd_release n oo p0 = 0 ∧ (∃ j, oo (ix p0) = some j ∧ j < oc ∧ (v9 = some (.int 0) ∧ ¬ os j = 2 ∧ M = M9 ∨ v9 = some (.int 1) ∧ os j = 2 ∧ cw G ad n oc td sd dk to er (va_up os j 3) (va_up pl j (-1)) (va_up oo (ix p0) none) wa pr de M9)) ∧ fm ad (6 + 4 * oc) M M9) (fun E9 M9 => M = M9 ∧ (E9 = "java/lang/ArrayIndexOutOfBoundsException" ∧ cd_release n oo p0 = 1 ∨ E9 = "java/lang/IllegalStateException" ∧ cd_release n oo p0 = 2)) := by
  refine pw_ofx hl (by decide +kernel) (Nat.le_of_ble_eq_true rfl) [(0, .ref (ad 0)), (1, .int p0)] rfl ?_
  intro p9 e9 s9 m9 args9 below9 meth9 c9 hX hrt hex
  refine pw_aload_n (pc := 0) hX dX1_release_0 0 rfl ?_
  refine pw_iload_n (pc := 1) hX dX1_release_1 1 rfl ?_
  refine pw_callVx (pc := 2) (st := []) hX (ct_requireCell l hl G M ad n oc td sd dk to er os pl oo wa pr de hc p0) hc.1 rfl ok_X1_requireCell lk_RX1_93 dX1_release_2 rfl ⟨⟨by decide, by decide⟩, Nat.le_of_ble_eq_true rfl, Nat.le_of_ble_eq_true rfl, Nat.le_of_ble_eq_true rfl⟩ rfl (fun E9 M9 hx9 => ?_) (fun v9 M9 hp9 => ?_)
  · obtain ⟨rfl, rfl, hno⟩ := hx9
    exact pw_out hX hex ⟨Nat.le_of_ble_eq_true rfl, Nat.le_of_ble_eq_true rfl⟩ (⟨rfl, Or.inl (⟨rfl, pc_t hno⟩)⟩)
  obtain ⟨rfl, rfl, t, ht, rfl⟩ := hp9
  have htB : t < 2 ^ 31 := Nat.lt_trans ht (Nat.lt_of_le_of_lt (cw_n hc) (by decide))
  refine pw_aload_n (pc := 5) hX dX1_release_5 0 rfl ?_
  refine pw_get (pc := 6) hX dX1_release_6 hc.1 rfl inT_1 2 (by decide) fl_RX1_41 rfl ?_
  refine pw_iload_n (pc := 9) hX dX1_release_9 1 rfl ?_
  refine pw_aald (pc := 10) (j := t) hX dX1_release_10 hc.2.2.1 ht (Nat.lt_of_le_of_lt (cw_n hc) (by decide)) ?_
  rcases op_two (oo t) with ho_1 | ⟨j_2, ho_1⟩
  · refine pw_cg (vb := .null) (by show va_rf ((oo t).map _) = _; rw [ho_1]; rfl) ?_
    refine pw_astore_nN (pc := 11) hX [(2, .null), (0, .ref (ad 0)), (1, .int (nI t))] dX1_release_11 (by decide) rfl ?_
    refine pw_aload_nN (pc := 12) hX dX1_release_12 0 rfl ?_
    refine pw_ifnonnullN (pc := 13) hX dX1_release_13  ?_
    exact pw_throw (pc := 16) (names := ["java/lang/RuntimeException", "java/lang/Exception"]) (text := "the cell is free") hX hex dX1_release_16 dX1_release_19 dX1_release_20 dX1_release_22 dX1_release_25 rfl ⟨by decide +kernel, by decide +kernel⟩ th_RX1_106 (by decide +kernel) ta_RX1_110 tg_RX1_110 ⟨by decide, Nat.le_of_ble_eq_true rfl, Nat.le_of_ble_eq_true rfl, Nat.le_of_ble_eq_true rfl⟩ ⟨Nat.le_of_ble_eq_true rfl, Nat.le_of_ble_eq_true rfl⟩ ⟨rfl, Or.inr (⟨rfl, pc2_2 (fun h => h (ir_nI ht)) (by rw [ix_nI htB]; exact ho_1)⟩)⟩
  · have hj_2 : j_2 < oc := cw_oo hc t j_2 ht ho_1
    refine pw_cg (vb := .ref (ad (6 + 4 * j_2))) (by show va_rf ((oo t).map _) = _; rw [ho_1]; rfl) ?_
    refine pw_astore_n (pc := 11) hX [(2, .ref (ad (6 + 4 * j_2))), (0, .ref (ad 0)), (1, .int (nI t))] dX1_release_11 (by decide) rfl ?_
    refine pw_aload_n (pc := 12) hX dX1_release_12 0 rfl ?_
    refine pw_ifnonnull (pc := 13) hX 26 dX1_release_13 (by decide) ?_
    refine pw_aload_n (pc := 26) hX dX1_release_26 0 rfl ?_
    refine pw_get (pc := 27) hX dX1_release_27 (cw_o hc j_2 hj_2).1 rfl inT_0 1 (by decide) fl_RX1_69 rfl ?_
    refine pw_iconst (pc := 30) (v := 2) hX dX1_release_30 (by decide) ?_
    refine pw_icmp_eq (pc := 31) hX 36 dX1_release_31 (by decide) (fun hc_3 => ?_) (fun hc_3 => ?_)
    · refine pw_aload_n (pc := 36) hX dX1_release_36 0 rfl ?_
      refine pw_iconst (pc := 37) (v := 3) hX dX1_release_37 (by decide) ?_
      refine pw_put (pc := 38) (v := .int 3) hX dX1_release_38 (cw_o hc j_2 hj_2).1 rfl inT_0 tyX0 tyX0_ok nmX0 1 (by decide) fl_RX1_69 rfl (tyX0_ok 1 (by decide)) rfl rfl (Nat.le_of_ble_eq_true rfl) [.int (nI j_2), .int 3, .int (pl j_2), .ref (ad (7 + 4 * j_2)), .ref (ad (8 + 4 * j_2)), .ref (ad (9 + 4 * j_2))] rfl ?_
      have hm_4 := pw_ke (a := ad (6 + 4 * j_2)) (e := .inr (0, [.int (nI j_2), .int 3, .int (pl j_2), .ref (ad (7 + 4 * j_2)), .ref (ad (8 + 4 * j_2)), .ref (ad (9 + 4 * j_2))])) hc.1 (cw_ne hc (x := 0) (y := 6 + 4 * j_2) (by omega) (by omega) (by omega))
      have hm_5 := pw_ke (a := ad (6 + 4 * j_2)) (e := .inr (0, [.int (nI j_2), .int 3, .int (pl j_2), .ref (ad (7 + 4 * j_2)), .ref (ad (8 + 4 * j_2)), .ref (ad (9 + 4 * j_2))])) hc.2.1 (cw_ne hc (x := 1) (y := 6 + 4 * j_2) (by omega) (by omega) (by omega))
      have hm_6 := pw_ke (a := ad (6 + 4 * j_2)) (e := .inr (0, [.int (nI j_2), .int 3, .int (pl j_2), .ref (ad (7 + 4 * j_2)), .ref (ad (8 + 4 * j_2)), .ref (ad (9 + 4 * j_2))])) hc.2.2.1 (cw_ne hc (x := 2) (y := 6 + 4 * j_2) (by omega) (by omega) (by omega))
      have hm_7 := pw_ke (a := ad (6 + 4 * j_2)) (e := .inr (0, [.int (nI j_2), .int 3, .int (pl j_2), .ref (ad (7 + 4 * j_2)), .ref (ad (8 + 4 * j_2)), .ref (ad (9 + 4 * j_2))])) hc.2.2.2.1 (cw_ne hc (x := 3) (y := 6 + 4 * j_2) (by omega) (by omega) (by omega))
      have hm_8 := pw_ke (a := ad (6 + 4 * j_2)) (e := .inr (0, [.int (nI j_2), .int 3, .int (pl j_2), .ref (ad (7 + 4 * j_2)), .ref (ad (8 + 4 * j_2)), .ref (ad (9 + 4 * j_2))])) hc.2.2.2.2.1 (cw_ne hc (x := 4) (y := 6 + 4 * j_2) (by omega) (by omega) (by omega))
      have hm_9 := pw_ke (a := ad (6 + 4 * j_2)) (e := .inr (0, [.int (nI j_2), .int 3, .int (pl j_2), .ref (ad (7 + 4 * j_2)), .ref (ad (8 + 4 * j_2)), .ref (ad (9 + 4 * j_2))])) hc.2.2.2.2.2.1 (cw_ne hc (x := 5) (y := 6 + 4 * j_2) (by omega) (by omega) (by omega))
      have hm_10 := pw_ke (a := ad (6 + 4 * j_2)) (e := .inr (0, [.int (nI j_2), .int 3, .int (pl j_2), .ref (ad (7 + 4 * j_2)), .ref (ad (8 + 4 * j_2)), .ref (ad (9 + 4 * j_2))])) (cw_o hc j_2 hj_2).2.1 (cw_ne hc (x := 7 + 4 * j_2) (y := 6 + 4 * j_2) (by omega) (by omega) (by omega))
      have hm_11 := pw_ke (a := ad (6 + 4 * j_2)) (e := .inr (0, [.int (nI j_2), .int 3, .int (pl j_2), .ref (ad (7 + 4 * j_2)), .ref (ad (8 + 4 * j_2)), .ref (ad (9 + 4 * j_2))])) (cw_o hc j_2 hj_2).2.2.1 (cw_ne hc (x := 8 + 4 * j_2) (y := 6 + 4 * j_2) (by omega) (by omega) (by omega))
      have hm_12 := pw_ke (a := ad (6 + 4 * j_2)) (e := .inr (0, [.int (nI j_2), .int 3, .int (pl j_2), .ref (ad (7 + 4 * j_2)), .ref (ad (8 + 4 * j_2)), .ref (ad (9 + 4 * j_2))])) (cw_o hc j_2 hj_2).2.2.2 (cw_ne hc (x := 9 + 4 * j_2) (y := 6 + 4 * j_2) (by omega) (by omega) (by omega))
      have hm_13 : pw_up M (ad (6 + 4 * j_2)) (.inr (0, [.int (nI j_2), .int 3, .int (pl j_2), .ref (ad (7 + 4 * j_2)), .ref (ad (8 + 4 * j_2)), .ref (ad (9 + 4 * j_2))])) (ad (6 + 4 * j_2)) = some (.inr (0, [.int (nI j_2), .int 3, .int (pl j_2), .ref (ad (7 + 4 * j_2)), .ref (ad (8 + 4 * j_2)), .ref (ad (9 + 4 * j_2))])) := pw_us
      refine pw_aload_n (pc := 41) hX dX1_release_41 0 rfl ?_
      refine pw_iconst (pc := 42) (v := (-1)) hX dX1_release_42 (by decide) ?_
      refine pw_put (pc := 43) (v := .int ((-1))) hX dX1_release_43 hm_13 rfl inT_0 tyX0 tyX0_ok nmX0 2 (by decide) fl_RX1_90 rfl (tyX0_ok 2 (by decide)) rfl rfl (Nat.le_of_ble_eq_true rfl) [.int (nI j_2), .int 3, .int ((-1)), .ref (ad (7 + 4 * j_2)), .ref (ad (8 + 4 * j_2)), .ref (ad (9 + 4 * j_2))] rfl ?_
      have hm_14 := pw_ke (a := ad (6 + 4 * j_2)) (e := .inr (0, [.int (nI j_2), .int 3, .int ((-1)), .ref (ad (7 + 4 * j_2)), .ref (ad (8 + 4 * j_2)), .ref (ad (9 + 4 * j_2))])) hm_4 (cw_ne hc (x := 0) (y := 6 + 4 * j_2) (by omega) (by omega) (by omega))
      have hm_15 := pw_ke (a := ad (6 + 4 * j_2)) (e := .inr (0, [.int (nI j_2), .int 3, .int ((-1)), .ref (ad (7 + 4 * j_2)), .ref (ad (8 + 4 * j_2)), .ref (ad (9 + 4 * j_2))])) hm_5 (cw_ne hc (x := 1) (y := 6 + 4 * j_2) (by omega) (by omega) (by omega))
      have hm_16 := pw_ke (a := ad (6 + 4 * j_2)) (e := .inr (0, [.int (nI j_2), .int 3, .int ((-1)), .ref (ad (7 + 4 * j_2)), .ref (ad (8 + 4 * j_2)), .ref (ad (9 + 4 * j_2))])) hm_6 (cw_ne hc (x := 2) (y := 6 + 4 * j_2) (by omega) (by omega) (by omega))
      have hm_17 := pw_ke (a := ad (6 + 4 * j_2)) (e := .inr (0, [.int (nI j_2), .int 3, .int ((-1)), .ref (ad (7 + 4 * j_2)), .ref (ad (8 + 4 * j_2)), .ref (ad (9 + 4 * j_2))])) hm_7 (cw_ne hc (x := 3) (y := 6 + 4 * j_2) (by omega) (by omega) (by omega))
      have hm_18 := pw_ke (a := ad (6 + 4 * j_2)) (e := .inr (0, [.int (nI j_2), .int 3, .int ((-1)), .ref (ad (7 + 4 * j_2)), .ref (ad (8 + 4 * j_2)), .ref (ad (9 + 4 * j_2))])) hm_8 (cw_ne hc (x := 4) (y := 6 + 4 * j_2) (by omega) (by omega) (by omega))
      have hm_19 := pw_ke (a := ad (6 + 4 * j_2)) (e := .inr (0, [.int (nI j_2), .int 3, .int ((-1)), .ref (ad (7 + 4 * j_2)), .ref (ad (8 + 4 * j_2)), .ref (ad (9 + 4 * j_2))])) hm_9 (cw_ne hc (x := 5) (y := 6 + 4 * j_2) (by omega) (by omega) (by omega))
      have hm_20 := pw_ke (a := ad (6 + 4 * j_2)) (e := .inr (0, [.int (nI j_2), .int 3, .int ((-1)), .ref (ad (7 + 4 * j_2)), .ref (ad (8 + 4 * j_2)), .ref (ad (9 + 4 * j_2))])) hm_10 (cw_ne hc (x := 7 + 4 * j_2) (y := 6 + 4 * j_2) (by omega) (by omega) (by omega))
      have hm_21 := pw_ke (a := ad (6 + 4 * j_2)) (e := .inr (0, [.int (nI j_2), .int 3, .int ((-1)), .ref (ad (7 + 4 * j_2)), .ref (ad (8 + 4 * j_2)), .ref (ad (9 + 4 * j_2))])) hm_11 (cw_ne hc (x := 8 + 4 * j_2) (y := 6 + 4 * j_2) (by omega) (by omega) (by omega))
      have hm_22 := pw_ke (a := ad (6 + 4 * j_2)) (e := .inr (0, [.int (nI j_2), .int 3, .int ((-1)), .ref (ad (7 + 4 * j_2)), .ref (ad (8 + 4 * j_2)), .ref (ad (9 + 4 * j_2))])) hm_12 (cw_ne hc (x := 9 + 4 * j_2) (y := 6 + 4 * j_2) (by omega) (by omega) (by omega))
      have hm_23 : pw_up (pw_up M (ad (6 + 4 * j_2)) (.inr (0, [.int (nI j_2), .int 3, .int (pl j_2), .ref (ad (7 + 4 * j_2)), .ref (ad (8 + 4 * j_2)), .ref (ad (9 + 4 * j_2))]))) (ad (6 + 4 * j_2)) (.inr (0, [.int (nI j_2), .int 3, .int ((-1)), .ref (ad (7 + 4 * j_2)), .ref (ad (8 + 4 * j_2)), .ref (ad (9 + 4 * j_2))])) (ad (6 + 4 * j_2)) = some (.inr (0, [.int (nI j_2), .int 3, .int ((-1)), .ref (ad (7 + 4 * j_2)), .ref (ad (8 + 4 * j_2)), .ref (ad (9 + 4 * j_2))])) := pw_us
      refine pw_aload_n (pc := 46) hX dX1_release_46 1 rfl ?_
      refine pw_get (pc := 47) hX dX1_release_47 hm_14 rfl inT_1 2 (by decide) fl_RX1_41 rfl ?_
      refine pw_iload_n (pc := 50) hX dX1_release_50 2 rfl ?_
      refine pw_null (pc := 51) hX dX1_release_51  ?_
      refine pw_aastN (pc := 52) (j := t) hX dX1_release_52 hm_16 ht (Nat.lt_of_le_of_lt (cw_n hc) (by decide)) ?_
      have hm_24 := pw_ke (a := ad 2) (e := .inl (G.2.2.1 2, n, .inr (.inr (.inr (.inr (va_up (fun i => (oo i).map (fun j => ad (6 + 4 * j))) t none)))))) hm_14 (cw_ne hc (x := 0) (y := 2) (by omega) (by omega) (by omega))
      have hm_25 := pw_ke (a := ad 2) (e := .inl (G.2.2.1 2, n, .inr (.inr (.inr (.inr (va_up (fun i => (oo i).map (fun j => ad (6 + 4 * j))) t none)))))) hm_15 (cw_ne hc (x := 1) (y := 2) (by omega) (by omega) (by omega))
      have hm_26 := pw_ke (a := ad 2) (e := .inl (G.2.2.1 2, n, .inr (.inr (.inr (.inr (va_up (fun i => (oo i).map (fun j => ad (6 + 4 * j))) t none)))))) hm_17 (cw_ne hc (x := 3) (y := 2) (by omega) (by omega) (by omega))
      have hm_27 := pw_ke (a := ad 2) (e := .inl (G.2.2.1 2, n, .inr (.inr (.inr (.inr (va_up (fun i => (oo i).map (fun j => ad (6 + 4 * j))) t none)))))) hm_18 (cw_ne hc (x := 4) (y := 2) (by omega) (by omega) (by omega))
      have hm_28 := pw_ke (a := ad 2) (e := .inl (G.2.2.1 2, n, .inr (.inr (.inr (.inr (va_up (fun i => (oo i).map (fun j => ad (6 + 4 * j))) t none)))))) hm_19 (cw_ne hc (x := 5) (y := 2) (by omega) (by omega) (by omega))
      have hm_29 := pw_ke (a := ad 2) (e := .inl (G.2.2.1 2, n, .inr (.inr (.inr (.inr (va_up (fun i => (oo i).map (fun j => ad (6 + 4 * j))) t none)))))) hm_23 (cw_ne hc (x := 6 + 4 * j_2) (y := 2) (by omega) (by omega) (by omega))
      have hm_30 := pw_ke (a := ad 2) (e := .inl (G.2.2.1 2, n, .inr (.inr (.inr (.inr (va_up (fun i => (oo i).map (fun j => ad (6 + 4 * j))) t none)))))) hm_20 (cw_ne hc (x := 7 + 4 * j_2) (y := 2) (by omega) (by omega) (by omega))
      have hm_31 := pw_ke (a := ad 2) (e := .inl (G.2.2.1 2, n, .inr (.inr (.inr (.inr (va_up (fun i => (oo i).map (fun j => ad (6 + 4 * j))) t none)))))) hm_21 (cw_ne hc (x := 8 + 4 * j_2) (y := 2) (by omega) (by omega) (by omega))
      have hm_32 := pw_ke (a := ad 2) (e := .inl (G.2.2.1 2, n, .inr (.inr (.inr (.inr (va_up (fun i => (oo i).map (fun j => ad (6 + 4 * j))) t none)))))) hm_22 (cw_ne hc (x := 9 + 4 * j_2) (y := 2) (by omega) (by omega) (by omega))
      have hm_33 : pw_up (pw_up (pw_up M (ad (6 + 4 * j_2)) (.inr (0, [.int (nI j_2), .int 3, .int (pl j_2), .ref (ad (7 + 4 * j_2)), .ref (ad (8 + 4 * j_2)), .ref (ad (9 + 4 * j_2))]))) (ad (6 + 4 * j_2)) (.inr (0, [.int (nI j_2), .int 3, .int ((-1)), .ref (ad (7 + 4 * j_2)), .ref (ad (8 + 4 * j_2)), .ref (ad (9 + 4 * j_2))]))) (ad 2) (.inl (G.2.2.1 2, n, .inr (.inr (.inr (.inr (va_up (fun i => (oo i).map (fun j => ad (6 + 4 * j))) t none)))))) (ad 2) = some (.inl (G.2.2.1 2, n, .inr (.inr (.inr (.inr (va_up (fun i => (oo i).map (fun j => ad (6 + 4 * j))) t none)))))) := pw_us
      refine pw_iconst (pc := 53) (v := 1) hX dX1_release_53 (by decide) ?_
      exact pw_zretx hX dX1_release_54 hrt rfl ⟨by decide, by decide⟩ (by rw [ix_nI htB]; exact ⟨pc2_0 (fun h => h (ir_nI ht)) (by rw [ix_nI htB, ho_1]; exact fun h => nomatch h), ⟨j_2, ho_1, hj_2, Or.inr ⟨rfl, hc_3, by have h9 := (cw_ooN (cw_os (cw_os hc j_2 hj_2 3 (pl j_2)) j_2 hj_2 3 ((-1))) t); rw [bx_uu, bx_uu] at h9; exact h9⟩⟩, (fm_up (fm_up (fm_up fm_rf (x := 6 + 4 * j_2) (by omega) _) (x := 6 + 4 * j_2) (by omega) _) (x := 2) (by omega) _)⟩)
    · refine pw_iconst (pc := 34) (v := 0) hX dX1_release_34 (by decide) ?_
      exact pw_zretx hX dX1_release_35 hrt rfl ⟨by decide, by decide⟩ (by rw [ix_nI htB]; exact ⟨pc2_0 (fun h => h (ir_nI ht)) (by rw [ix_nI htB, ho_1]; exact fun h => nomatch h), ⟨j_2, ho_1, hj_2, Or.inl ⟨rfl, hc_3, rfl⟩⟩, fm_rf⟩)
set_option maxHeartbeats 4000000 in
set_option maxRecDepth 100000 in
theorem cp_seed (l : Launch) (hl : l.stackTraces = false) (G : pw_G) (M : pw_M) (ad : Nat → Nat) (n oc : Nat) (td sd : Int32) (dk to er : Nat → Int32) (os pl : Nat → Int32) (oo : Nat → Option Nat) (wa pr de : Nat → Nat → Int32) (hc : cw G ad n oc td sd dk to er os pl oo wa pr de M) (p0 : Int32) : pw_XMet l yX1_seed cX1_seed 2 none 3 1 6 G [.ref (ad 0), .int p0] M (fun v9 M9 => cd_seed p0 = 0 ∧ v9 = none ∧ cw G ad n oc td p0 dk to er os pl oo wa pr de M9 ∧ fm ad (6 + 4 * oc) M M9) (fun E9 M9 => M = M9 ∧ (E9 = "java/lang/IllegalArgumentException" ∧ cd_seed p0 = 1)) := by
  refine pw_ofx hl (by decide +kernel) (Nat.le_of_ble_eq_true rfl) [(0, .ref (ad 0)), (1, .int p0)] rfl ?_
  intro p9 e9 s9 m9 args9 below9 meth9 c9 hX hrt hex
  refine pw_iload_n (pc := 0) hX dX1_seed_0 1 rfl ?_
  refine pw_iconst (pc := 1) (v := 0) hX dX1_seed_1 (by decide) ?_
  refine pw_ldc (pc := 2) (v := 2147483647) hX dX1_seed_2 ck_RX1_140 ?_
  refine pw_callSx (pc := 4) (st := []) hX (ct_requireRange l hl G M p0 0 2147483647) ok_X1_requireRange lk_RX1_52 dX1_seed_4 rfl ⟨⟨by decide, by decide⟩, Nat.le_of_ble_eq_true rfl, Nat.le_of_ble_eq_true rfl, Nat.le_of_ble_eq_true rfl⟩ rfl (fun E9 M9 hx9 => ?_) (fun v9 M9 hp9 => ?_)
  · obtain ⟨rfl, rfl, hno⟩ := hx9
    exact pw_out hX hex ⟨Nat.le_of_ble_eq_true rfl, Nat.le_of_ble_eq_true rfl⟩ (⟨rfl, rfl, pc1_1 (fun h => hno ⟨h, le_max _⟩)⟩)
  obtain ⟨rfl, rfl, hlo, hhi⟩ := hp9
  refine pw_aload_n (pc := 7) hX dX1_seed_7 0 rfl ?_
  refine pw_iload_n (pc := 8) hX dX1_seed_8 1 rfl ?_
  refine pw_put (pc := 9) (v := .int p0) hX dX1_seed_9 hc.1 rfl inT_1 tyX1 tyX1_ok nmX1 7 (by decide) fl_RX1_29 rfl (tyX1_ok 7 (by decide)) rfl rfl (Nat.le_of_ble_eq_true rfl) [.ref (ad 1), .int (nI oc), .ref (ad 2), .ref (ad 3), .ref (ad 4), .ref (ad 5), .int td, .int p0] rfl ?_
  have hm_1 := pw_ke (a := ad 0) (e := .inr (1, [.ref (ad 1), .int (nI oc), .ref (ad 2), .ref (ad 3), .ref (ad 4), .ref (ad 5), .int td, .int p0])) hc.2.1 (cw_ne hc (x := 1) (y := 0) (by omega) (by omega) (by omega))
  have hm_2 := pw_ke (a := ad 0) (e := .inr (1, [.ref (ad 1), .int (nI oc), .ref (ad 2), .ref (ad 3), .ref (ad 4), .ref (ad 5), .int td, .int p0])) hc.2.2.1 (cw_ne hc (x := 2) (y := 0) (by omega) (by omega) (by omega))
  have hm_3 := pw_ke (a := ad 0) (e := .inr (1, [.ref (ad 1), .int (nI oc), .ref (ad 2), .ref (ad 3), .ref (ad 4), .ref (ad 5), .int td, .int p0])) hc.2.2.2.1 (cw_ne hc (x := 3) (y := 0) (by omega) (by omega) (by omega))
  have hm_4 := pw_ke (a := ad 0) (e := .inr (1, [.ref (ad 1), .int (nI oc), .ref (ad 2), .ref (ad 3), .ref (ad 4), .ref (ad 5), .int td, .int p0])) hc.2.2.2.2.1 (cw_ne hc (x := 4) (y := 0) (by omega) (by omega) (by omega))
  have hm_5 := pw_ke (a := ad 0) (e := .inr (1, [.ref (ad 1), .int (nI oc), .ref (ad 2), .ref (ad 3), .ref (ad 4), .ref (ad 5), .int td, .int p0])) hc.2.2.2.2.2.1 (cw_ne hc (x := 5) (y := 0) (by omega) (by omega) (by omega))
  have hm_6 : pw_up M (ad 0) (.inr (1, [.ref (ad 1), .int (nI oc), .ref (ad 2), .ref (ad 3), .ref (ad 4), .ref (ad 5), .int td, .int p0])) (ad 0) = some (.inr (1, [.ref (ad 1), .int (nI oc), .ref (ad 2), .ref (ad 3), .ref (ad 4), .ref (ad 5), .int td, .int p0])) := pw_us
  exact pw_vretx hX dX1_seed_12 hrt ⟨by decide, by decide⟩ ⟨pc1_0 (fun h => h hlo), rfl, (cw_sd hc _), (fm_up fm_rf (x := 0) (by omega) _)⟩
set_option maxHeartbeats 4000000 in
set_option maxRecDepth 100000 in
theorem cp_errors (l : Launch) (hl : l.stackTraces = false) (G : pw_G) (M : pw_M) (ad : Nat → Nat) (n oc : Nat) (td sd : Int32) (dk to er : Nat → Int32) (os pl : Nat → Int32) (oo : Nat → Option Nat) (wa pr de : Nat → Nat → Int32) (hc : cw G ad n oc td sd dk to er os pl oo wa pr de M) (p0 : Int32) : pw_XMet l yX1_errors cX1_errors 2 (some .int) 3 1 6 G [.ref (ad 0), .int p0] M (fun v9 M9 => cd_errors p0 = 0 ∧ v9 = some (.int (er (ix p0))) ∧ M = M9) (fun E9 M9 => M = M9 ∧ (E9 = "java/lang/IllegalArgumentException" ∧ cd_errors p0 = 1)) := by
  refine pw_ofx hl (by decide +kernel) (Nat.le_of_ble_eq_true rfl) [(0, .ref (ad 0)), (1, .int p0)] rfl ?_
  intro p9 e9 s9 m9 args9 below9 meth9 c9 hX hrt hex
  refine pw_iload_n (pc := 0) hX dX1_errors_0 1 rfl ?_
  refine pw_callSx (pc := 1) (st := []) hX (ct_requirePerson l hl G M p0) ok_X1_requirePerson lk_RX1_96 dX1_errors_1 rfl ⟨⟨by decide, by decide⟩, Nat.le_of_ble_eq_true rfl, Nat.le_of_ble_eq_true rfl, Nat.le_of_ble_eq_true rfl⟩ rfl (fun E9 M9 hx9 => ?_) (fun v9 M9 hp9 => ?_)
  · obtain ⟨rfl, rfl, hno⟩ := hx9
    exact pw_out hX hex ⟨Nat.le_of_ble_eq_true rfl, Nat.le_of_ble_eq_true rfl⟩ (⟨rfl, rfl, pc1_1 hno⟩)
  obtain ⟨rfl, rfl, q, hq, rfl⟩ := hp9
  have hqB : q < 2 ^ 31 := Nat.lt_of_lt_of_le hq (by decide)
  refine pw_aload_n (pc := 4) hX dX1_errors_4 0 rfl ?_
  refine pw_get (pc := 5) hX dX1_errors_5 hc.1 rfl inT_1 5 (by decide) fl_RX1_23 rfl ?_
  refine pw_iload_n (pc := 8) hX dX1_errors_8 1 rfl ?_
  refine pw_iald (pc := 9) (j := q) hX dX1_errors_9 hc.2.2.2.2.2.1 hq (by decide) ?_
  exact pw_iretx hX dX1_errors_10 hrt ⟨by decide, by decide⟩ (by rw [ix_nI hqB]; exact ⟨pc1_0 (fun h => h (ir_nI hq)), rfl, rfl⟩)
set_option maxHeartbeats 4000000 in
set_option maxRecDepth 100000 in
theorem cp_told (l : Launch) (hl : l.stackTraces = false) (G : pw_G) (M : pw_M) (ad : Nat → Nat) (n oc : Nat) (td sd : Int32) (dk to er : Nat → Int32) (os pl : Nat → Int32) (oo : Nat → Option Nat) (wa pr de : Nat → Nat → Int32) (hc : cw G ad n oc td sd dk to er os pl oo wa pr de M) (p0 p1 : Int32) : pw_XMet l yX1_told cX1_told 4 (some .int) 3 2 12 G [.ref (ad 0), .int p0, .int p1] M (fun v9 M9 => cd_told oc p0 p1 = 0 ∧ v9 = some (.int (td_r td os pl wa pr de (ix p0) p1)) ∧ M = M9) (fun E9 M9 => M = M9 ∧ (E9 = "java/util/NoSuchElementException" ∧ cd_told oc p0 p1 = 1 ∨ E9 = "java/lang/IllegalArgumentException" ∧ cd_told oc p0 p1 = 2)) := by
  refine pw_ofx hl (by decide +kernel) (Nat.le_of_ble_eq_true rfl) [(0, .ref (ad 0)), (1, .int p0), (2, .int p1)] rfl ?_
  intro p9 e9 s9 m9 args9 below9 meth9 c9 hX hrt hex
  refine pw_aload_n (pc := 0) hX dX1_told_0 0 rfl ?_
  refine pw_iload_n (pc := 1) hX dX1_told_1 1 rfl ?_
  refine pw_callVx (pc := 2) (st := []) hX (ct_existing l hl G M ad n oc td sd dk to er os pl oo wa pr de hc p0) hc.1 rfl ok_X1_existing lk_RX1_65 dX1_told_2 rfl ⟨⟨by decide, by decide⟩, Nat.le_of_ble_eq_true rfl, Nat.le_of_ble_eq_true rfl, Nat.le_of_ble_eq_true rfl⟩ rfl (fun E9 M9 hx9 => ?_) (fun v9 M9 hp9 => ?_)
  · obtain ⟨rfl, rfl, hno⟩ := hx9
    exact pw_out hX hex ⟨Nat.le_of_ble_eq_true rfl, Nat.le_of_ble_eq_true rfl⟩ (⟨rfl, Or.inl (⟨rfl, pc_t hno⟩)⟩)
  obtain ⟨rfl, j, hj, rfl, rfl⟩ := hp9
  have hjB : j < 2 ^ 31 := Nat.lt_of_lt_of_le hj (Nat.le_trans (cw_oc hc) (by decide))
  refine pw_astore_n (pc := 5) hX [(3, .ref (ad (6 + 4 * j))), (0, .ref (ad 0)), (1, .int (nI j)), (2, .int p1)] dX1_told_5 (by decide) rfl ?_
  refine pw_iload_n (pc := 6) hX dX1_told_6 3 rfl ?_
  by_cases hsw : ir p1 6
  · obtain ⟨k, hk, rfl⟩ := hsw
    rcases (show k = 0 ∨ k = 1 ∨ k = 2 ∨ k = 3 ∨ k = 4 ∨ k = 5 by omega) with rfl | rfl | rfl | rfl | rfl | rfl
    · refine pw_swIn (pc := 7) hX 44 dX1_told_7 (by decide) (by decide) (off := 37) (by decide) (by decide) ?_
      refine pw_aload_n (pc := 44) hX dX1_told_44 0 rfl ?_
      refine pw_get (pc := 45) hX dX1_told_45 (cw_o hc j hj).1 rfl inT_0 1 (by decide) fl_RX1_69 rfl ?_
      exact pw_iretx hX dX1_told_48 hrt ⟨by decide, by decide⟩ (by rw [ix_nI hjB]; exact ⟨pc2_0 (fun h => h (ir_nI hj)) (fun h => h (ir_nI (by decide))), by unfold td_r; rw [pc_t (by decide)], rfl⟩)
    · refine pw_swIn (pc := 7) hX 49 dX1_told_7 (by decide) (by decide) (off := 42) (by decide) (by decide) ?_
      refine pw_aload_n (pc := 49) hX dX1_told_49 0 rfl ?_
      refine pw_get (pc := 50) hX dX1_told_50 (cw_o hc j hj).1 rfl inT_0 2 (by decide) fl_RX1_90 rfl ?_
      exact pw_iretx hX dX1_told_53 hrt ⟨by decide, by decide⟩ (by rw [ix_nI hjB]; exact ⟨pc2_0 (fun h => h (ir_nI hj)) (fun h => h (ir_nI (by decide))), by unfold td_r; rw [pc_f (by decide), pc_t (by decide)], rfl⟩)
    · refine pw_swIn (pc := 7) hX 54 dX1_told_7 (by decide) (by decide) (off := 47) (by decide) (by decide) ?_
      refine pw_aload_n (pc := 54) hX dX1_told_54 0 rfl ?_
      refine pw_callV (pc := 55) (st := []) hX (ct_lineCount l hl G M (ad (6 + 4 * j)) (ad (7 + 4 * j)) (ad (8 + 4 * j)) (ad (9 + 4 * j)) (nI j) (os j) (pl j) (wa j) (pr j) (de j) (cw_o hc j hj)) (cw_o hc j hj).1 rfl ok_X0_lineCount lk_RX1_83 dX1_told_55 rfl ⟨⟨by decide, by decide⟩, Nat.le_of_ble_eq_true rfl, Nat.le_of_ble_eq_true rfl, Nat.le_of_ble_eq_true rfl⟩ rfl (fun v9 M9 hp9 => ?_)
      obtain ⟨rfl, rfl⟩ := hp9
      exact pw_iretx hX dX1_told_58 hrt ⟨by decide, by decide⟩ (by rw [ix_nI hjB]; exact ⟨pc2_0 (fun h => h (ir_nI hj)) (fun h => h (ir_nI (by decide))), by unfold td_r; rw [pc_f (by decide), pc_f (by decide), pc_t (by decide)], rfl⟩)
    · refine pw_swIn (pc := 7) hX 59 dX1_told_7 (by decide) (by decide) (off := 52) (by decide) (by decide) ?_
      refine pw_aload_n (pc := 59) hX dX1_told_59 0 rfl ?_
      refine pw_callV (pc := 60) (st := []) hX (ct_allPresent l hl G M (ad (6 + 4 * j)) (ad (7 + 4 * j)) (ad (8 + 4 * j)) (ad (9 + 4 * j)) (nI j) (os j) (pl j) (wa j) (pr j) (de j) (cw_o hc j hj)) (cw_o hc j hj).1 rfl ok_X0_allPresent lk_RX1_141 dX1_told_60 rfl ⟨⟨by decide, by decide⟩, Nat.le_of_ble_eq_true rfl, Nat.le_of_ble_eq_true rfl, Nat.le_of_ble_eq_true rfl⟩ rfl (fun v9 M9 hp9 => ?_)
      obtain ⟨rfl, rfl⟩ := hp9
      exact pw_iretx hX dX1_told_63 hrt ⟨by decide, by decide⟩ (by rw [ix_nI hjB]; exact ⟨pc2_0 (fun h => h (ir_nI hj)) (fun h => h (ir_nI (by decide))), by unfold td_r; rw [pc_f (by decide), pc_f (by decide), pc_f (by decide), pc_t (by decide)], rfl⟩)
    · refine pw_swIn (pc := 7) hX 64 dX1_told_7 (by decide) (by decide) (off := 57) (by decide) (by decide) ?_
      refine pw_aload_n (pc := 64) hX dX1_told_64 0 rfl ?_
      refine pw_callV (pc := 65) (st := []) hX (ct_allWanted l hl G M (ad (6 + 4 * j)) (ad (7 + 4 * j)) (ad (8 + 4 * j)) (ad (9 + 4 * j)) (nI j) (os j) (pl j) (wa j) (pr j) (de j) (cw_o hc j hj)) (cw_o hc j hj).1 rfl ok_X0_allWanted lk_RX1_144 dX1_told_65 rfl ⟨⟨by decide, by decide⟩, Nat.le_of_ble_eq_true rfl, Nat.le_of_ble_eq_true rfl, Nat.le_of_ble_eq_true rfl⟩ rfl (fun v9 M9 hp9 => ?_)
      obtain ⟨rfl, rfl⟩ := hp9
      exact pw_iretx hX dX1_told_68 hrt ⟨by decide, by decide⟩ (by rw [ix_nI hjB]; exact ⟨pc2_0 (fun h => h (ir_nI hj)) (fun h => h (ir_nI (by decide))), by unfold td_r; rw [pc_f (by decide), pc_f (by decide), pc_f (by decide), pc_f (by decide), pc_t (by decide)], rfl⟩)
    · refine pw_swIn (pc := 7) hX 69 dX1_told_7 (by decide) (by decide) (off := 62) (by decide) (by decide) ?_
      refine pw_aload_n (pc := 69) hX dX1_told_69 0 rfl ?_
      refine pw_aload_n (pc := 70) hX dX1_told_70 1 rfl ?_
      refine pw_get (pc := 71) hX dX1_told_71 hc.1 rfl inT_1 6 (by decide) fl_RX1_26 rfl ?_
      refine pw_callV (pc := 74) (st := []) hX (ct_allGivenUp l hl G M (ad (6 + 4 * j)) (ad (7 + 4 * j)) (ad (8 + 4 * j)) (ad (9 + 4 * j)) (nI j) (os j) (pl j) (wa j) (pr j) (de j) (cw_o hc j hj) td) (cw_o hc j hj).1 rfl ok_X0_allGivenUp lk_RX1_147 dX1_told_74 rfl ⟨⟨by decide, by decide⟩, Nat.le_of_ble_eq_true rfl, Nat.le_of_ble_eq_true rfl, Nat.le_of_ble_eq_true rfl⟩ rfl (fun v9 M9 hp9 => ?_)
      obtain ⟨rfl, rfl⟩ := hp9
      exact pw_iretx hX dX1_told_77 hrt ⟨by decide, by decide⟩ (by rw [ix_nI hjB]; exact ⟨pc2_0 (fun h => h (ir_nI hj)) (fun h => h (ir_nI (by decide))), by unfold td_r; rw [pc_f (by decide), pc_f (by decide), pc_f (by decide), pc_f (by decide), pc_f (by decide)], rfl⟩)
  · refine pw_swOut (pc := 7) hX 78 dX1_told_7 (sw_out (N := 5) (by decide) hsw) (by decide) ?_
    exact pw_throw (pc := 78) (names := ["java/lang/RuntimeException", "java/lang/Exception"]) (text := "nothing of that kind is told of an order") hX hex dX1_told_78 dX1_told_81 dX1_told_82 dX1_told_84 dX1_told_87 rfl ⟨by decide +kernel, by decide +kernel⟩ th_RX1_150 (by decide +kernel) ta_RX1_154 tg_RX1_154 ⟨by decide, Nat.le_of_ble_eq_true rfl, Nat.le_of_ble_eq_true rfl, Nat.le_of_ble_eq_true rfl⟩ ⟨Nat.le_of_ble_eq_true rfl, Nat.le_of_ble_eq_true rfl⟩ ⟨rfl, Or.inr (⟨rfl, pc2_2 (fun h => h (ir_nI hj)) hsw⟩)⟩
set_option maxHeartbeats 4000000 in
set_option maxRecDepth 100000 in
theorem cp_piece (l : Launch) (hl : l.stackTraces = false) (G : pw_G) (M : pw_M) (ad : Nat → Nat) (n oc : Nat) (td sd : Int32) (dk to er : Nat → Int32) (os pl : Nat → Int32) (oo : Nat → Option Nat) (wa pr de : Nat → Nat → Int32) (hc : cw G ad n oc td sd dk to er os pl oo wa pr de M) (p0 p1 p2 : Int32) : pw_XMet l yX1_piece cX1_piece 5 (some .int) 3 4 24 G [.ref (ad 0), .int p0, .int p1, .int p2] M (fun v9 M9 => cd_piece oc wa p0 p1 p2 = 0 ∧ v9 = some (.int (pi_r wa pr de (ix p0) (ix p1) p2)) ∧ M = M9) (fun E9 M9 => M = M9 ∧ (E9 = "java/util/NoSuchElementException" ∧ cd_piece oc wa p0 p1 p2 = 1 ∨ E9 = "java/lang/IllegalArgumentException" ∧ cd_piece oc wa p0 p1 p2 = 2)) := by
  refine pw_ofx hl (by decide +kernel) (Nat.le_of_ble_eq_true rfl) [(0, .ref (ad 0)), (1, .int p0), (2, .int p1), (3, .int p2)] rfl ?_
  intro p9 e9 s9 m9 args9 below9 meth9 c9 hX hrt hex
  refine pw_aload_n (pc := 0) hX dX1_piece_0 0 rfl ?_
  refine pw_iload_n (pc := 1) hX dX1_piece_1 1 rfl ?_
  refine pw_callVx (pc := 2) (st := []) hX (ct_existing l hl G M ad n oc td sd dk to er os pl oo wa pr de hc p0) hc.1 rfl ok_X1_existing lk_RX1_65 dX1_piece_2 rfl ⟨⟨by decide, by decide⟩, Nat.le_of_ble_eq_true rfl, Nat.le_of_ble_eq_true rfl, Nat.le_of_ble_eq_true rfl⟩ rfl (fun E9 M9 hx9 => ?_) (fun v9 M9 hp9 => ?_)
  · obtain ⟨rfl, rfl, hno⟩ := hx9
    exact pw_out hX hex ⟨Nat.le_of_ble_eq_true rfl, Nat.le_of_ble_eq_true rfl⟩ (⟨rfl, Or.inl (⟨rfl, pc_t hno⟩)⟩)
  obtain ⟨rfl, j, hj, rfl, rfl⟩ := hp9
  have hjB : j < 2 ^ 31 := Nat.lt_of_lt_of_le hj (Nat.le_trans (cw_oc hc) (by decide))
  refine pw_astore (pc := 5) hX [(4, .ref (ad (6 + 4 * j))), (0, .ref (ad 0)), (1, .int (nI j)), (2, .int p1), (3, .int p2)] dX1_piece_5 (by decide) rfl ?_
  refine pw_aload (pc := 7) hX dX1_piece_7 0 rfl ?_
  refine pw_iload_n (pc := 9) hX dX1_piece_9 3 rfl ?_
  refine pw_callSx (pc := 10) (st := []) hX (ct_requireLine l hl G M (ad (6 + 4 * j)) (ad (7 + 4 * j)) (ad (8 + 4 * j)) (ad (9 + 4 * j)) (nI j) (os j) (pl j) (wa j) (pr j) (de j) (cw_o hc j hj) p1) ok_X1_requireLine lk_RX1_111 dX1_piece_10 rfl ⟨⟨by decide, by decide⟩, Nat.le_of_ble_eq_true rfl, Nat.le_of_ble_eq_true rfl, Nat.le_of_ble_eq_true rfl⟩ rfl (fun E9 M9 hx9 => ?_) (fun v9 M9 hp9 => ?_)
  · obtain ⟨rfl, ⟨rfl, hno⟩ | ⟨rfl, g, hg, rfl, hno⟩⟩ := hx9
    · exact pw_out hX hex ⟨Nat.le_of_ble_eq_true rfl, Nat.le_of_ble_eq_true rfl⟩ (⟨rfl, Or.inr (⟨rfl, pc3_2 (fun h => h (ir_nI hj)) hno⟩)⟩)
    · have hgB : g < 2 ^ 31 := Nat.lt_of_lt_of_le hg (by decide)
      exact pw_out hX hex ⟨Nat.le_of_ble_eq_true rfl, Nat.le_of_ble_eq_true rfl⟩ (⟨rfl, Or.inl (⟨rfl, pc5_3 (fun h => h (ir_nI hj)) (fun h => h (ir_nI hg)) (by rw [ix_nI hjB, ix_nI hgB]; exact hno)⟩)⟩)
  obtain ⟨rfl, rfl, g, hg, rfl, hwg⟩ := hp9
  have hgB : g < 2 ^ 31 := Nat.lt_of_lt_of_le hg (by decide)
  refine pw_iload_n (pc := 13) hX dX1_piece_13 4 rfl ?_
  by_cases hsw : ir p2 3
  · obtain ⟨k, hk, rfl⟩ := hsw
    rcases (show k = 0 ∨ k = 1 ∨ k = 2 by omega) with rfl | rfl | rfl
    · refine pw_swIn (pc := 14) hX 40 dX1_piece_14 (by decide) (by decide) (off := 26) (by decide) (by decide) ?_
      refine pw_aload (pc := 40) hX dX1_piece_40 0 rfl ?_
      refine pw_get (pc := 42) hX dX1_piece_42 (cw_o hc j hj).1 rfl inT_0 3 (by decide) fl_RX1_80 rfl ?_
      refine pw_iload_n (pc := 45) hX dX1_piece_45 3 rfl ?_
      refine pw_iald (pc := 46) (j := g) hX dX1_piece_46 (cw_o hc j hj).2.1 hg (by decide) ?_
      exact pw_iretx hX dX1_piece_47 hrt ⟨by decide, by decide⟩ (by rw [ix_nI hjB, ix_nI hgB]; exact ⟨by unfold cd_piece; rw [pc_f (fun h => h (ir_nI hj)), pc_f (fun h => h (ir_nI hg)), pc_f (by rw [ix_nI hjB, ix_nI hgB]; exact fun h => h hwg), pc_f (fun h => h (ir_nI (by decide)))], by unfold pi_r; rw [pc_t (by decide)], rfl⟩)
    · refine pw_swIn (pc := 14) hX 48 dX1_piece_14 (by decide) (by decide) (off := 34) (by decide) (by decide) ?_
      refine pw_aload (pc := 48) hX dX1_piece_48 0 rfl ?_
      refine pw_get (pc := 50) hX dX1_piece_50 (cw_o hc j hj).1 rfl inT_0 4 (by decide) fl_RX1_103 rfl ?_
      refine pw_iload_n (pc := 53) hX dX1_piece_53 3 rfl ?_
      refine pw_iald (pc := 54) (j := g) hX dX1_piece_54 (cw_o hc j hj).2.2.1 hg (by decide) ?_
      exact pw_iretx hX dX1_piece_55 hrt ⟨by decide, by decide⟩ (by rw [ix_nI hjB, ix_nI hgB]; exact ⟨by unfold cd_piece; rw [pc_f (fun h => h (ir_nI hj)), pc_f (fun h => h (ir_nI hg)), pc_f (by rw [ix_nI hjB, ix_nI hgB]; exact fun h => h hwg), pc_f (fun h => h (ir_nI (by decide)))], by unfold pi_r; rw [pc_f (by decide), pc_t (by decide)], rfl⟩)
    · refine pw_swIn (pc := 14) hX 56 dX1_piece_14 (by decide) (by decide) (off := 42) (by decide) (by decide) ?_
      refine pw_aload (pc := 56) hX dX1_piece_56 0 rfl ?_
      refine pw_get (pc := 58) hX dX1_piece_58 (cw_o hc j hj).1 rfl inT_0 5 (by decide) fl_RX1_119 rfl ?_
      refine pw_iload_n (pc := 61) hX dX1_piece_61 3 rfl ?_
      refine pw_iald (pc := 62) (j := g) hX dX1_piece_62 (cw_o hc j hj).2.2.2 hg (by decide) ?_
      exact pw_iretx hX dX1_piece_63 hrt ⟨by decide, by decide⟩ (by rw [ix_nI hjB, ix_nI hgB]; exact ⟨by unfold cd_piece; rw [pc_f (fun h => h (ir_nI hj)), pc_f (fun h => h (ir_nI hg)), pc_f (by rw [ix_nI hjB, ix_nI hgB]; exact fun h => h hwg), pc_f (fun h => h (ir_nI (by decide)))], by unfold pi_r; rw [pc_f (by decide), pc_f (by decide)], rfl⟩)
  · refine pw_swOut (pc := 14) hX 64 dX1_piece_14 (sw_out (N := 2) (by decide) hsw) (by decide) ?_
    exact pw_throw (pc := 64) (names := ["java/lang/RuntimeException", "java/lang/Exception"]) (text := "nothing of that kind is told of a line") hX hex dX1_piece_64 dX1_piece_67 dX1_piece_68 dX1_piece_70 dX1_piece_73 rfl ⟨by decide +kernel, by decide +kernel⟩ th_RX1_150 (by decide +kernel) ta_RX1_154 tg_RX1_154 ⟨by decide, Nat.le_of_ble_eq_true rfl, Nat.le_of_ble_eq_true rfl, Nat.le_of_ble_eq_true rfl⟩ ⟨Nat.le_of_ble_eq_true rfl, Nat.le_of_ble_eq_true rfl⟩ ⟨rfl, Or.inr (⟨rfl, pc5_4 (fun h => h (ir_nI hj)) (fun h => h (ir_nI hg)) (by rw [ix_nI hjB, ix_nI hgB]; exact fun h => h hwg) hsw⟩)⟩
set_option maxHeartbeats 4000000 in
set_option maxRecDepth 100000 in
theorem cp_count (l : Launch) (hl : l.stackTraces = false) (G : pw_G) (M : pw_M) (ad : Nat → Nat) (n oc : Nat) (td sd : Int32) (dk to er : Nat → Int32) (os pl : Nat → Int32) (oo : Nat → Option Nat) (wa pr de : Nat → Nat → Int32) (hc : cw G ad n oc td sd dk to er os pl oo wa pr de M) (p0 : Int32) : pw_Met l yX1_count cX1_count 2 (some .int) 3 0 0 G [.ref (ad 0), .int p0] M (fun v9 M9 => v9 = some (.int (co_r n oc td to oo pr p0)) ∧ M = M9) := by
  refine pw_of hl (by decide +kernel) (Nat.le_of_ble_eq_true rfl) [(0, .ref (ad 0)), (1, .int p0)] rfl ?_
  intro p9 e9 s9 m9 args9 below9 meth9 c9 hX hrt hmi
  refine pw_iload_n (pc := 0) hX dX1_count_0 1 rfl ?_
  by_cases hsw : ir p0 6
  · obtain ⟨k, hk, rfl⟩ := hsw
    rcases (show k = 0 ∨ k = 1 ∨ k = 2 ∨ k = 3 ∨ k = 4 ∨ k = 5 by omega) with rfl | rfl | rfl | rfl | rfl | rfl
    · refine pw_swIn (pc := 1) hX 40 dX1_count_1 (by decide) (by decide) (off := 39) (by decide) (by decide) ?_
      refine pw_aload_n (pc := 40) hX dX1_count_40 0 rfl ?_
      refine pw_get (pc := 41) hX dX1_count_41 hc.1 rfl inT_1 2 (by decide) fl_RX1_41 rfl ?_
      refine pw_alen2 (pc := 44) hX dX1_count_44 hc.2.2.1 rfl ?_
      exact pw_iret hX dX1_count_45 hrt ⟨by decide, by decide⟩ ⟨by unfold co_r; rw [pc_t (by decide)], rfl⟩
    · refine pw_swIn (pc := 1) hX 46 dX1_count_1 (by decide) (by decide) (off := 45) (by decide) (by decide) ?_
      refine pw_aload_n (pc := 46) hX dX1_count_46 0 rfl ?_
      refine pw_get (pc := 47) hX dX1_count_47 hc.1 rfl inT_1 1 (by decide) fl_RX1_15 rfl ?_
      exact pw_iret hX dX1_count_50 hrt ⟨by decide, by decide⟩ ⟨by unfold co_r; rw [pc_f (by decide), pc_t (by decide)], rfl⟩
    · refine pw_swIn (pc := 1) hX 51 dX1_count_1 (by decide) (by decide) (off := 50) (by decide) (by decide) ?_
      refine pw_aload_n (pc := 51) hX dX1_count_51 0 rfl ?_
      refine pw_callV (pc := 52) (st := []) hX (ct_freeCells l hl G M ad n oc td sd dk to er os pl oo wa pr de hc) hc.1 rfl ok_X1_freeCells lk_RX1_157 dX1_count_52 rfl ⟨⟨by decide, by decide⟩, Nat.le_of_ble_eq_true rfl, Nat.le_of_ble_eq_true rfl, Nat.le_of_ble_eq_true rfl⟩ rfl (fun v9 M9 hp9 => ?_)
      obtain ⟨rfl, rfl⟩ := hp9
      exact pw_iret hX dX1_count_55 hrt ⟨by decide, by decide⟩ ⟨by unfold co_r; rw [pc_f (by decide), pc_f (by decide), pc_t (by decide)], rfl⟩
    · refine pw_swIn (pc := 1) hX 56 dX1_count_1 (by decide) (by decide) (off := 55) (by decide) (by decide) ?_
      refine pw_aload_n (pc := 56) hX dX1_count_56 0 rfl ?_
      refine pw_callV (pc := 57) (st := []) hX (ct_piecesInCells l hl G M ad n oc td sd dk to er os pl oo wa pr de hc) hc.1 rfl ok_X1_piecesInCells lk_RX1_160 dX1_count_57 rfl ⟨⟨by decide, by decide⟩, Nat.le_of_ble_eq_true rfl, Nat.le_of_ble_eq_true rfl, Nat.le_of_ble_eq_true rfl⟩ rfl (fun v9 M9 hp9 => ?_)
      obtain ⟨rfl, rfl⟩ := hp9
      exact pw_iret hX dX1_count_60 hrt ⟨by decide, by decide⟩ ⟨by unfold co_r; rw [pc_f (by decide), pc_f (by decide), pc_f (by decide), pc_t (by decide)], rfl⟩
    · refine pw_swIn (pc := 1) hX 61 dX1_count_1 (by decide) (by decide) (off := 60) (by decide) (by decide) ?_
      refine pw_aload_n (pc := 61) hX dX1_count_61 0 rfl ?_
      refine pw_get (pc := 62) hX dX1_count_62 hc.1 rfl inT_1 4 (by decide) fl_RX1_19 rfl ?_
      refine pw_callS (pc := 65) (st := []) hX (ct_sum l hl G M (ad 4) 10 to hc.2.2.2.2.1 (by decide)) ok_X1_sum lk_RX1_163 dX1_count_65 rfl ⟨⟨by decide, by decide⟩, Nat.le_of_ble_eq_true rfl, Nat.le_of_ble_eq_true rfl, Nat.le_of_ble_eq_true rfl⟩ rfl (fun v9 M9 hp9 => ?_)
      obtain ⟨rfl, rfl⟩ := hp9
      exact pw_iret hX dX1_count_68 hrt ⟨by decide, by decide⟩ ⟨by unfold co_r; rw [pc_f (by decide), pc_f (by decide), pc_f (by decide), pc_f (by decide), pc_t (by decide)], rfl⟩
    · refine pw_swIn (pc := 1) hX 69 dX1_count_1 (by decide) (by decide) (off := 68) (by decide) (by decide) ?_
      refine pw_aload_n (pc := 69) hX dX1_count_69 0 rfl ?_
      refine pw_get (pc := 70) hX dX1_count_70 hc.1 rfl inT_1 6 (by decide) fl_RX1_26 rfl ?_
      exact pw_iret hX dX1_count_73 hrt ⟨by decide, by decide⟩ ⟨by unfold co_r; rw [pc_f (by decide), pc_f (by decide), pc_f (by decide), pc_f (by decide), pc_f (by decide), pc_t (by decide)], rfl⟩
  · refine pw_swOut (pc := 1) hX 74 dX1_count_1 (sw_out (N := 5) (by decide) hsw) (by decide) ?_
    refine pw_iconst (pc := 74) (v := (-1)) hX dX1_count_74 (by decide) ?_
    exact pw_iret hX dX1_count_75 hrt ⟨by decide, by decide⟩ ⟨by unfold co_r; rw [pc_f (P := p0 = 0) (fun h => hsw ⟨0, by decide, h⟩), pc_f (P := p0 = 1) (fun h => hsw ⟨1, by decide, h⟩), pc_f (P := p0 = 2) (fun h => hsw ⟨2, by decide, h⟩), pc_f (P := p0 = 3) (fun h => hsw ⟨3, by decide, h⟩), pc_f (P := p0 = 4) (fun h => hsw ⟨4, by decide, h⟩), pc_f (P := p0 = 5) (fun h => hsw ⟨5, by decide, h⟩)], rfl⟩
