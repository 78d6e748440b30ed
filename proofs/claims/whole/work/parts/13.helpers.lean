set_option maxHeartbeats 4000000 in
set_option maxRecDepth 100000 in
theorem ct_requireRange (l : Launch) (hl : l.stackTraces = false) (G : pw_G) (M : pw_M) (x lo hi : Int32) : pw_XMet l yX1_requireRange cX1_requireRange 3 none 7 1 6 G [.int x, .int lo, .int hi] M (fun v9 M9 => v9 = none ∧ M = M9 ∧ lo ≤ x ∧ x ≤ hi) (fun E9 M9 => E9 = "java/lang/IllegalArgumentException" ∧ M = M9 ∧ ¬ (lo ≤ x ∧ x ≤ hi)) := by
  refine pw_ofx hl (by decide +kernel) (Nat.le_of_ble_eq_true rfl) [(0, .int x), (1, .int lo), (2, .int hi)] rfl ?_
  intro p9 e9 s9 m9 args9 below9 meth9 c9 hX hrt hex
  refine pw_iload_n (pc := 0) hX dX1_requireRange_0 0 rfl ?_
  refine pw_iload_n (pc := 1) hX dX1_requireRange_1 1 rfl ?_
  refine pw_icmp_lt (pc := 2) hX 10 dX1_requireRange_2 (by decide) (fun hc_1 => ?_) (fun hc_1 => ?_)
  · exact pw_throw (pc := 10) (names := ["java/lang/RuntimeException", "java/lang/Exception"]) (text := "a number outside its range") hX hex dX1_requireRange_10 dX1_requireRange_13 dX1_requireRange_14 dX1_requireRange_16 dX1_requireRange_19 rfl ⟨by decide +kernel, by decide +kernel⟩ th_RX1_150 (by decide +kernel) ta_RX1_154 tg_RX1_154 ⟨by decide, Nat.le_of_ble_eq_true rfl, Nat.le_of_ble_eq_true rfl, Nat.le_of_ble_eq_true rfl⟩ ⟨Nat.le_of_ble_eq_true rfl, Nat.le_of_ble_eq_true rfl⟩ ⟨rfl, rfl, fun h => absurd h.1 (Int32.not_le.mpr hc_1)⟩
  · refine pw_iload_n (pc := 5) hX dX1_requireRange_5 0 rfl ?_
    refine pw_iload_n (pc := 6) hX dX1_requireRange_6 2 rfl ?_
    refine pw_icmp_le (pc := 7) hX 20 dX1_requireRange_7 (by decide) (fun hc_2 => ?_) (fun hc_2 => ?_)
    · exact pw_vretx hX dX1_requireRange_20 hrt ⟨by decide, by decide⟩ ⟨rfl, rfl, Int32.not_lt.mp hc_1, hc_2⟩
    · exact pw_throw (pc := 10) (names := ["java/lang/RuntimeException", "java/lang/Exception"]) (text := "a number outside its range") hX hex dX1_requireRange_10 dX1_requireRange_13 dX1_requireRange_14 dX1_requireRange_16 dX1_requireRange_19 rfl ⟨by decide +kernel, by decide +kernel⟩ th_RX1_150 (by decide +kernel) ta_RX1_154 tg_RX1_154 ⟨by decide, Nat.le_of_ble_eq_true rfl, Nat.le_of_ble_eq_true rfl, Nat.le_of_ble_eq_true rfl⟩ ⟨Nat.le_of_ble_eq_true rfl, Nat.le_of_ble_eq_true rfl⟩ ⟨rfl, rfl, fun h => hc_2 h.2⟩
set_option maxHeartbeats 4000000 in
set_option maxRecDepth 100000 in
theorem ct_requireGood (l : Launch) (hl : l.stackTraces = false) (G : pw_G) (M : pw_M) (x : Int32) : pw_XMet l yX1_requireGood cX1_requireGood 1 none 6 1 6 G [.int x] M (fun v9 M9 => v9 = none ∧ M = M9 ∧ ir x 10) (fun E9 M9 => E9 = "java/lang/IllegalArgumentException" ∧ M = M9 ∧ ¬ ir x 10) := by
  refine pw_ofx hl (by decide +kernel) (Nat.le_of_ble_eq_true rfl) [(0, .int x)] rfl ?_
  intro p9 e9 s9 m9 args9 below9 meth9 c9 hX hrt hex
  refine pw_iload_n (pc := 0) hX dX1_requireGood_0 0 rfl ?_
  refine pw_iconst (pc := 1) (v := 0) hX dX1_requireGood_1 (by decide) ?_
  refine pw_bipush (pc := 2) (v := 9) hX dX1_requireGood_2 (by decide) ?_
  refine pw_callSx (pc := 4) (st := []) hX (ct_requireRange l hl G M x 0 9) ok_X1_requireRange lk_RX1_52 dX1_requireGood_4 rfl ⟨⟨by decide, by decide⟩, Nat.le_of_ble_eq_true rfl, Nat.le_of_ble_eq_true rfl, Nat.le_of_ble_eq_true rfl⟩ rfl (fun E9 M9 hx9 => ?_) (fun v9 M9 hp9 => ?_)
  · obtain ⟨rfl, rfl, hno⟩ := hx9
    exact pw_out hX hex ⟨Nat.le_of_ble_eq_true rfl, Nat.le_of_ble_eq_true rfl⟩ (⟨rfl, rfl, fun h => hno ⟨ir_pos (by decide) h, ir_le (N := 9) (by decide) (by decide) h⟩⟩)
  obtain ⟨rfl, rfl, h1, h2⟩ := hp9
  exact pw_vretx hX dX1_requireGood_7 hrt ⟨by decide, by decide⟩ ⟨rfl, rfl, ir_of (by decide) h1 h2⟩
set_option maxHeartbeats 4000000 in
set_option maxRecDepth 100000 in
theorem ct_requirePerson (l : Launch) (hl : l.stackTraces = false) (G : pw_G) (M : pw_M) (x : Int32) : pw_XMet l yX1_requirePerson cX1_requirePerson 1 none 6 1 6 G [.int x] M (fun v9 M9 => v9 = none ∧ M = M9 ∧ ir x 8) (fun E9 M9 => E9 = "java/lang/IllegalArgumentException" ∧ M = M9 ∧ ¬ ir x 8) := by
  refine pw_ofx hl (by decide +kernel) (Nat.le_of_ble_eq_true rfl) [(0, .int x)] rfl ?_
  intro p9 e9 s9 m9 args9 below9 meth9 c9 hX hrt hex
  refine pw_iload_n (pc := 0) hX dX1_requirePerson_0 0 rfl ?_
  refine pw_iconst (pc := 1) (v := 0) hX dX1_requirePerson_1 (by decide) ?_
  refine pw_bipush (pc := 2) (v := 7) hX dX1_requirePerson_2 (by decide) ?_
  refine pw_callSx (pc := 4) (st := []) hX (ct_requireRange l hl G M x 0 7) ok_X1_requireRange lk_RX1_52 dX1_requirePerson_4 rfl ⟨⟨by decide, by decide⟩, Nat.le_of_ble_eq_true rfl, Nat.le_of_ble_eq_true rfl, Nat.le_of_ble_eq_true rfl⟩ rfl (fun E9 M9 hx9 => ?_) (fun v9 M9 hp9 => ?_)
  · obtain ⟨rfl, rfl, hno⟩ := hx9
    exact pw_out hX hex ⟨Nat.le_of_ble_eq_true rfl, Nat.le_of_ble_eq_true rfl⟩ (⟨rfl, rfl, fun h => hno ⟨ir_pos (by decide) h, ir_le (N := 7) (by decide) (by decide) h⟩⟩)
  obtain ⟨rfl, rfl, h1, h2⟩ := hp9
  exact pw_vretx hX dX1_requirePerson_7 hrt ⟨by decide, by decide⟩ ⟨rfl, rfl, ir_of (by decide) h1 h2⟩
set_option maxHeartbeats 4000000 in
set_option maxRecDepth 100000 in
theorem ct_requireState (l : Launch) (hl : l.stackTraces = false) (G : pw_G) (M : pw_M) (x : Int32) : pw_XMet l yX1_requireState cX1_requireState 1 none 6 1 6 G [.int x] M (fun v9 M9 => v9 = none ∧ M = M9 ∧ ¬ x = 0) (fun E9 M9 => E9 = "java/lang/IllegalStateException" ∧ M = M9 ∧ x = 0) := by
  refine pw_ofx hl (by decide +kernel) (Nat.le_of_ble_eq_true rfl) [(0, .int x)] rfl ?_
  intro p9 e9 s9 m9 args9 below9 meth9 c9 hX hrt hex
  refine pw_iload_n (pc := 0) hX dX1_requireState_0 0 rfl ?_
  refine pw_if_ne (pc := 1) hX 14 dX1_requireState_1 (by decide) (fun hc_1 => ?_) (fun hc_1 => ?_)
  · exact pw_vretx hX dX1_requireState_14 hrt ⟨by decide, by decide⟩ ⟨rfl, rfl, hc_1⟩
  · exact pw_throw (pc := 4) (names := ["java/lang/RuntimeException", "java/lang/Exception"]) (text := "not as it is now") hX hex dX1_requireState_4 dX1_requireState_7 dX1_requireState_8 dX1_requireState_10 dX1_requireState_13 rfl ⟨by decide +kernel, by decide +kernel⟩ th_RX1_106 (by decide +kernel) ta_RX1_110 tg_RX1_110 ⟨by decide, Nat.le_of_ble_eq_true rfl, Nat.le_of_ble_eq_true rfl, Nat.le_of_ble_eq_true rfl⟩ ⟨Nat.le_of_ble_eq_true rfl, Nat.le_of_ble_eq_true rfl⟩ ⟨rfl, rfl, hc_1⟩
set_option maxHeartbeats 4000000 in
set_option maxRecDepth 100000 in
theorem ct_requireLine (l : Launch) (hl : l.stackTraces = false) (G : pw_G) (M : pw_M) (a aw ap ae : Nat) (i s pl : Int32) (w p d : Nat → Int32) (ho : od_at G M a aw ap ae i s pl w p d) (x : Int32) : pw_XMet l yX1_requireLine cX1_requireLine 2 none 5 2 12 G [.ref a, .int x] M (fun v9 M9 => v9 = none ∧ M = M9 ∧ ∃ g, g < 10 ∧ x = nI g ∧ 0 < w g) (fun E9 M9 => M = M9 ∧ (E9 = "java/lang/IllegalArgumentException" ∧ ¬ ir x 10 ∨ E9 = "java/util/NoSuchElementException" ∧ ∃ g, g < 10 ∧ x = nI g ∧ ¬ 0 < w g)) := by
  refine pw_ofx hl (by decide +kernel) (Nat.le_of_ble_eq_true rfl) [(0, .ref a), (1, .int x)] rfl ?_
  intro p9 e9 s9 m9 args9 below9 meth9 c9 hX hrt hex
  refine pw_iload_n (pc := 0) hX dX1_requireLine_0 1 rfl ?_
  refine pw_callSx (pc := 1) (st := []) hX (ct_requireGood l hl G M x) ok_X1_requireGood lk_RX1_48 dX1_requireLine_1 rfl ⟨⟨by decide, by decide⟩, Nat.le_of_ble_eq_true rfl, Nat.le_of_ble_eq_true rfl, Nat.le_of_ble_eq_true rfl⟩ rfl (fun E9 M9 hx9 => ?_) (fun v9 M9 hp9 => ?_)
  · obtain ⟨rfl, rfl, hno⟩ := hx9
    exact pw_out hX hex ⟨Nat.le_of_ble_eq_true rfl, Nat.le_of_ble_eq_true rfl⟩ (⟨rfl, Or.inl ⟨rfl, hno⟩⟩)
  obtain ⟨rfl, rfl, g, hg, rfl⟩ := hp9
  refine pw_aload_n (pc := 4) hX dX1_requireLine_4 0 rfl ?_
  refine pw_iload_n (pc := 5) hX dX1_requireLine_5 1 rfl ?_
  refine pw_callV (pc := 6) (st := []) hX (ct_hasLine l hl G M a aw ap ae i s pl w p d ho g hg) ho.1 rfl ok_X0_hasLine lk_RX1_72 dX1_requireLine_6 rfl ⟨⟨by decide, by decide⟩, Nat.le_of_ble_eq_true rfl, Nat.le_of_ble_eq_true rfl, Nat.le_of_ble_eq_true rfl⟩ rfl (fun v9 M9 hp9 => ?_)
  obtain ⟨rfl, rfl⟩ := hp9
  refine pw_if_ne (pc := 9) hX 22 dX1_requireLine_9 (by decide) (fun hc_1 => ?_) (fun hc_1 => ?_)
  · exact pw_vretx hX dX1_requireLine_22 hrt ⟨by decide, by decide⟩ ⟨rfl, rfl, g, hg, rfl, pw_ite1 hc_1⟩
  · exact pw_throwN (pc := 12) (up9 := "java/lang/RuntimeException") (r := ["java/lang/Exception"]) (bytes := prog_16_method_4_code) (idx := 13) (text := "no line of this good") hX hex dX1_requireLine_12 dX1_requireLine_15 dX1_requireLine_16 dX1_requireLine_18 dX1_requireLine_21 rfl ⟨by decide +kernel, by decide +kernel, by decide +kernel⟩ ⟨by decide +kernel, by decide +kernel, by decide +kernel, by decide +kernel⟩ th_RX1_167 (by decide +kernel) tn_RX1_171 th9_RX1_171 ⟨by decide, Nat.le_of_ble_eq_true rfl, Nat.le_of_ble_eq_true rfl, Nat.le_of_ble_eq_true rfl⟩ ⟨Nat.le_of_ble_eq_true rfl, Nat.le_of_ble_eq_true rfl⟩ ⟨rfl, Or.inr ⟨rfl, g, hg, rfl, pw_ite0 hc_1⟩⟩
set_option maxHeartbeats 4000000 in
set_option maxRecDepth 100000 in
theorem ct_requireCell (l : Launch) (hl : l.stackTraces = false) (G : pw_G) (M : pw_M) (ad : Nat → Nat) (n oc : Nat) (td sd : Int32) (dk to er : Nat → Int32) (os pl : Nat → Int32) (oo : Nat → Option Nat) (wa pr de : Nat → Nat → Int32) (hc : cw G ad n oc td sd dk to er os pl oo wa pr de M) (p0 : Int32) : pw_XMet l yX1_requireCell cX1_requireCell 2 none 6 1 6 G [.ref (ad 0), .int p0] M (fun v9 M9 => v9 = none ∧ M = M9 ∧ ir p0 n) (fun E9 M9 => E9 = "java/lang/ArrayIndexOutOfBoundsException" ∧ M = M9 ∧ ¬ ir p0 n) := by
  refine pw_ofx hl (by decide +kernel) (Nat.le_of_ble_eq_true rfl) [(0, .ref (ad 0)), (1, .int p0)] rfl ?_
  intro p9 e9 s9 m9 args9 below9 meth9 c9 hX hrt hex
  refine pw_iload_n (pc := 0) hX dX1_requireCell_0 1 rfl ?_
  refine pw_if_lt (pc := 1) hX 13 dX1_requireCell_1 (by decide) (fun hc_1 => ?_) (fun hc_1 => ?_)
  · exact pw_throw (pc := 13) (names := ["java/lang/IndexOutOfBoundsException", "java/lang/RuntimeException", "java/lang/Exception"]) (text := "no such cell") hX hex dX1_requireCell_13 dX1_requireCell_16 dX1_requireCell_17 dX1_requireCell_19 dX1_requireCell_22 rfl ⟨by decide +kernel, by decide +kernel⟩ th_RX1_172 (by decide +kernel) ta_RX1_176 tg_RX1_176 ⟨by decide, Nat.le_of_ble_eq_true rfl, Nat.le_of_ble_eq_true rfl, Nat.le_of_ble_eq_true rfl⟩ ⟨Nat.le_of_ble_eq_true rfl, Nat.le_of_ble_eq_true rfl⟩ ⟨rfl, rfl, fun h => absurd (ir_pos (Nat.lt_of_le_of_lt (cw_n hc) (by decide)) h) (Int32.not_le.mpr hc_1)⟩
  · refine pw_iload_n (pc := 4) hX dX1_requireCell_4 1 rfl ?_
    refine pw_aload_n (pc := 5) hX dX1_requireCell_5 0 rfl ?_
    refine pw_get (pc := 6) hX dX1_requireCell_6 hc.1 rfl inT_1 2 (by decide) fl_RX1_41 rfl ?_
    refine pw_alen2 (pc := 9) hX dX1_requireCell_9 hc.2.2.1 rfl ?_
    refine pw_icmp_lt (pc := 10) hX 23 dX1_requireCell_10 (by decide) (fun hc_2 => ?_) (fun hc_2 => ?_)
    · exact pw_vretx hX dX1_requireCell_23 hrt ⟨by decide, by decide⟩ ⟨rfl, rfl, ir_lt (Nat.lt_of_le_of_lt (cw_n hc) (by decide)) (Int32.not_lt.mp hc_1) hc_2⟩
    · exact pw_throw (pc := 13) (names := ["java/lang/IndexOutOfBoundsException", "java/lang/RuntimeException", "java/lang/Exception"]) (text := "no such cell") hX hex dX1_requireCell_13 dX1_requireCell_16 dX1_requireCell_17 dX1_requireCell_19 dX1_requireCell_22 rfl ⟨by decide +kernel, by decide +kernel⟩ th_RX1_172 (by decide +kernel) ta_RX1_176 tg_RX1_176 ⟨by decide, Nat.le_of_ble_eq_true rfl, Nat.le_of_ble_eq_true rfl, Nat.le_of_ble_eq_true rfl⟩ ⟨Nat.le_of_ble_eq_true rfl, Nat.le_of_ble_eq_true rfl⟩ ⟨rfl, rfl, fun h => hc_2 (ir_up (Nat.lt_of_le_of_lt (cw_n hc) (by decide)) h)⟩
set_option maxHeartbeats 4000000 in
set_option maxRecDepth 100000 in
theorem ct_existing (l : Launch) (hl : l.stackTraces = false) (G : pw_G) (M : pw_M) (ad : Nat → Nat) (n oc : Nat) (td sd : Int32) (dk to er : Nat → Int32) (os pl : Nat → Int32) (oo : Nat → Option Nat) (wa pr de : Nat → Nat → Int32) (hc : cw G ad n oc td sd dk to er os pl oo wa pr de M) (p0 : Int32) : pw_XMet l yX1_existing cX1_existing 3 (some (.object "PutWall$Order")) 6 1 6 G [.ref (ad 0), .int p0] M (fun v9 M9 => M = M9 ∧ ∃ j, j < oc ∧ p0 = nI j ∧ v9 = some (.ref (ad (6 + 4 * j)))) (fun E9 M9 => E9 = "java/util/NoSuchElementException" ∧ M = M9 ∧ ¬ ir p0 oc) := by
  refine pw_ofx hl (by decide +kernel) (Nat.le_of_ble_eq_true rfl) [(0, .ref (ad 0)), (1, .int p0)] rfl ?_
  intro p9 e9 s9 m9 args9 below9 meth9 c9 hX hrt hex
  refine pw_iload_n (pc := 0) hX dX1_existing_0 1 rfl ?_
  refine pw_if_lt (pc := 1) hX 21 dX1_existing_1 (by decide) (fun hc_1 => ?_) (fun hc_1 => ?_)
  · exact pw_throwN (pc := 21) (up9 := "java/lang/RuntimeException") (r := ["java/lang/Exception"]) (bytes := prog_16_method_4_code) (idx := 13) (text := "no such order") hX hex dX1_existing_21 dX1_existing_24 dX1_existing_25 dX1_existing_27 dX1_existing_30 rfl ⟨by decide +kernel, by decide +kernel, by decide +kernel⟩ ⟨by decide +kernel, by decide +kernel, by decide +kernel, by decide +kernel⟩ th_RX1_167 (by decide +kernel) tn_RX1_171 th9_RX1_171 ⟨by decide, Nat.le_of_ble_eq_true rfl, Nat.le_of_ble_eq_true rfl, Nat.le_of_ble_eq_true rfl⟩ ⟨Nat.le_of_ble_eq_true rfl, Nat.le_of_ble_eq_true rfl⟩ ⟨rfl, rfl, fun h => absurd (ir_pos (Nat.lt_of_le_of_lt (cw_oc hc) (by decide)) h) (Int32.not_le.mpr hc_1)⟩
  · refine pw_iload_n (pc := 4) hX dX1_existing_4 1 rfl ?_
    refine pw_aload_n (pc := 5) hX dX1_existing_5 0 rfl ?_
    refine pw_get (pc := 6) hX dX1_existing_6 hc.1 rfl inT_1 1 (by decide) fl_RX1_15 rfl ?_
    refine pw_icmp_ge (pc := 9) hX 21 dX1_existing_9 (by decide) (fun hc_2 => ?_) (fun hc_2 => ?_)
    · exact pw_throwN (pc := 21) (up9 := "java/lang/RuntimeException") (r := ["java/lang/Exception"]) (bytes := prog_16_method_4_code) (idx := 13) (text := "no such order") hX hex dX1_existing_21 dX1_existing_24 dX1_existing_25 dX1_existing_27 dX1_existing_30 rfl ⟨by decide +kernel, by decide +kernel, by decide +kernel⟩ ⟨by decide +kernel, by decide +kernel, by decide +kernel, by decide +kernel⟩ th_RX1_167 (by decide +kernel) tn_RX1_171 th9_RX1_171 ⟨by decide, Nat.le_of_ble_eq_true rfl, Nat.le_of_ble_eq_true rfl, Nat.le_of_ble_eq_true rfl⟩ ⟨Nat.le_of_ble_eq_true rfl, Nat.le_of_ble_eq_true rfl⟩ ⟨rfl, rfl, fun h => absurd (ir_up (Nat.lt_of_le_of_lt (cw_oc hc) (by decide)) h) (Int32.not_lt.mpr hc_2)⟩
    · refine pw_iload_n (pc := 12) hX dX1_existing_12 1 rfl ?_
      refine pw_aload_n (pc := 13) hX dX1_existing_13 0 rfl ?_
      refine pw_get (pc := 14) hX dX1_existing_14 hc.1 rfl inT_1 0 (by decide) fl_RX1_11 rfl ?_
      refine pw_alen2 (pc := 17) hX dX1_existing_17 hc.2.1 rfl ?_
      refine pw_icmp_lt (pc := 18) hX 31 dX1_existing_18 (by decide) (fun hc_3 => ?_) (fun hc_3 => absurd (Int32.lt_of_lt_of_le (Int32.not_le.mp hc_2) (nI_le (b := 20) (cw_oc hc) (by decide))) hc_3)
      have hir : ir p0 oc := ir_lt (Nat.lt_of_le_of_lt (cw_oc hc) (by decide)) (Int32.not_lt.mp hc_1) (Int32.not_le.mp hc_2)
      refine pw_aload_n (pc := 31) hX dX1_existing_31 0 rfl ?_
      refine pw_get (pc := 32) hX dX1_existing_32 hc.1 rfl inT_1 0 (by decide) fl_RX1_11 rfl ?_
      refine pw_iload_n (pc := 35) hX dX1_existing_35 1 rfl ?_
      obtain ⟨j, hj, rfl⟩ := hir
      refine pw_aald (pc := 36) (j := j) hX dX1_existing_36 hc.2.1 (Nat.lt_of_lt_of_le hj (cw_oc hc)) (by decide) ?_
      refine pw_cg (vb := .ref (ad (6 + 4 * j))) (by show va_rf (if j < oc then _ else _) = _; rw [if_pos hj]; rfl) ?_
      refine pw_astore_n (pc := 37) hX [(2, .ref (ad (6 + 4 * j))), (0, .ref (ad 0)), (1, .int (nI j))] dX1_existing_37 (by decide) rfl ?_
      refine pw_aload_n (pc := 38) hX dX1_existing_38 0 rfl ?_
      refine pw_ifnonnull (pc := 39) hX 52 dX1_existing_39 (by decide) ?_
      refine pw_aload_n (pc := 52) hX dX1_existing_52 0 rfl ?_
      exact pw_aretx hX dX1_existing_53 hrt (Or.inr ⟨_, rfl⟩) ⟨by decide, by decide⟩ ⟨rfl, j, hj, rfl, rfl⟩
