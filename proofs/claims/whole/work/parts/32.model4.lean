set_option maxHeartbeats 4000000 in
set_option maxRecDepth 100000 in
theorem mt_lineRefusal (l : Launch) (hl : l.stackTraces = false) (G : pw_G) (M : pw_M) (am : Nat → Nat) (n oc : Nat) (td th : Int32) (sL : Int64) (dk to er os pl : Nat → Int32) (wa pr la : Nat → Nat → Int32) (hm : mw G am n oc td th sL dk to er os pl wa pr la M) (p0 p1 : Int32) : pw_Met l yX2_lineRefusal cX2_lineRefusal 3 (some .int) 5 0 0 G [.ref (am 0), .int p0, .int p1] M (fun v9 M9 => M = M9 ∧ (v9 = some (.int 1) ∧ ¬ ir p0 oc ∨ v9 = some (.int 2) ∧ ir p0 oc ∧ ¬ ir p1 10 ∨ (∃ j g, j < oc ∧ g < 10 ∧ p0 = nI j ∧ p1 = nI g ∧ v9 = some (.int 1) ∧ ¬ 0 < wa j g) ∨ ∃ j g, j < oc ∧ g < 10 ∧ p0 = nI j ∧ p1 = nI g ∧ v9 = some (.int 0) ∧ 0 < wa j g)) := by
  refine pw_of hl (by decide +kernel) (Nat.le_of_ble_eq_true rfl) [(0, .ref (am 0)), (1, .int p0), (2, .int p1)] rfl ?_
  intro p9 e9 s9 m9 args9 below9 meth9 c9 hX hrt hmi
  refine pw_iload_n (pc := 0) hX dX2_lineRefusal_0 1 rfl ?_
  refine pw_aload_n (pc := 1) hX dX2_lineRefusal_1 0 rfl ?_
  refine pw_get (pc := 2) hX dX2_lineRefusal_2 hm.1 rfl inT_2 3 (by decide) fl_RX2_50 rfl ?_
  refine pw_callS (pc := 5) (st := []) hX (mt_below l hl G M p0 oc (Nat.lt_of_le_of_lt (mw_oc hm) (by decide))) ok_X2_below lk_RX2_53 dX2_lineRefusal_5 rfl ⟨⟨by decide, by decide⟩, Nat.le_of_ble_eq_true rfl, Nat.le_of_ble_eq_true rfl, Nat.le_of_ble_eq_true rfl⟩ rfl (fun v9 M9 hp9 => ?_)
  obtain ⟨rfl, ⟨rfl, j, hj, rfl⟩ | ⟨rfl, hno_p0⟩⟩ := hp9
  · have hjB : j < 2 ^ 31 := Nat.lt_of_lt_of_le hj (Nat.le_trans (mw_oc hm) (by decide))
    refine pw_if_ne (pc := 8) hX 13 dX2_lineRefusal_8 (by decide) (fun _ => ?_) (fun h => absurd h (by decide))
    refine pw_iload_n (pc := 13) hX dX2_lineRefusal_13 2 rfl ?_
    refine pw_bipush (pc := 14) (v := 10) hX dX2_lineRefusal_14 (by decide) ?_
    refine pw_callS (pc := 16) (st := []) hX (mt_below l hl G M p1 10 (by decide)) ok_X2_below lk_RX2_53 dX2_lineRefusal_16 rfl ⟨⟨by decide, by decide⟩, Nat.le_of_ble_eq_true rfl, Nat.le_of_ble_eq_true rfl, Nat.le_of_ble_eq_true rfl⟩ rfl (fun v9 M9 hp9 => ?_)
    obtain ⟨rfl, ⟨rfl, g, hg, rfl⟩ | ⟨rfl, hno_p1⟩⟩ := hp9
    · have hgB : g < 2 ^ 31 := Nat.lt_of_lt_of_le hg (by decide)
      refine pw_if_ne (pc := 19) hX 24 dX2_lineRefusal_19 (by decide) (fun _ => ?_) (fun h => absurd h (by decide))
      refine pw_aload_n (pc := 24) hX dX2_lineRefusal_24 0 rfl ?_
      refine pw_iload_n (pc := 25) hX dX2_lineRefusal_25 1 rfl ?_
      refine pw_iload_n (pc := 26) hX dX2_lineRefusal_26 2 rfl ?_
      refine pw_callV (pc := 27) (st := []) hX (mt_hasLine l hl G M am n oc td th sL dk to er os pl wa pr la hm j g hj hg) hm.1 rfl ok_X2_hasLine lk_RX2_46 dX2_lineRefusal_27 rfl ⟨⟨by decide, by decide⟩, Nat.le_of_ble_eq_true rfl, Nat.le_of_ble_eq_true rfl, Nat.le_of_ble_eq_true rfl⟩ rfl (fun v9 M9 hp9 => ?_)
      obtain ⟨rfl, rfl⟩ := hp9
      refine pw_if_eq (pc := 30) hX 37 dX2_lineRefusal_30 (by decide) (fun hc_3 => ?_) (fun hc_3 => ?_)
      · refine pw_iconst (pc := 37) (v := 1) hX dX2_lineRefusal_37 (by decide) ?_
        exact pw_iret hX dX2_lineRefusal_38 hrt ⟨by decide, by decide⟩ ⟨rfl, Or.inr (Or.inr (Or.inl ⟨j, g, hj, hg, rfl, rfl, rfl, pw_ite0 hc_3⟩))⟩
      · refine pw_iconst (pc := 33) (v := 0) hX dX2_lineRefusal_33 (by decide) ?_
        refine pw_goto (pc := 34) hX 38 dX2_lineRefusal_34 (by decide) ?_
        exact pw_iret hX dX2_lineRefusal_38 hrt ⟨by decide, by decide⟩ ⟨rfl, Or.inr (Or.inr (Or.inr ⟨j, g, hj, hg, rfl, rfl, rfl, pw_ite1 hc_3⟩))⟩
    · refine pw_if_ne (pc := 19) hX 24 dX2_lineRefusal_19 (by decide) (fun h => absurd h (by decide)) (fun _ => ?_)
      refine pw_iconst (pc := 22) (v := 2) hX dX2_lineRefusal_22 (by decide) ?_
      exact pw_iret hX dX2_lineRefusal_23 hrt ⟨by decide, by decide⟩ ⟨rfl, Or.inr (Or.inl ⟨rfl, ir_nI hj, hno_p1⟩)⟩
  · refine pw_if_ne (pc := 8) hX 13 dX2_lineRefusal_8 (by decide) (fun h => absurd h (by decide)) (fun _ => ?_)
    refine pw_iconst (pc := 11) (v := 1) hX dX2_lineRefusal_11 (by decide) ?_
    exact pw_iret hX dX2_lineRefusal_12 hrt ⟨by decide, by decide⟩ ⟨rfl, Or.inl ⟨rfl, hno_p0⟩⟩
set_option maxHeartbeats 4000000 in
set_option maxRecDepth 100000 in
theorem mp_miss (l : Launch) (hl : l.stackTraces = false) (G : pw_G) (M : pw_M) (am : Nat → Nat) (n oc : Nat) (td th : Int32) (sL : Int64) (dk to er os pl : Nat → Int32) (wa pr la : Nat → Nat → Int32) (hm : mw G am n oc td th sL dk to er os pl wa pr la M) (hP : ∀ j g, j < oc → g < 10 → 0 ≤ wa j g - pr j g) (p0 p1 p2 : Int32) : pw_Met l yX2_miss cX2_miss 4 (some .int) 3 0 0 G [.ref (am 0), .int p0, .int p1, .int p2] M (fun v9 M9 => (cd_miss oc os wa pr p0 p1 p2 = 0 ∧ v9 = some (.int (wa (ix p0) (ix p1) - pr (ix p0) (ix p1))) ∧ mw G am n oc td 0 sL dk to er os pl wa pr (va_up la (ix p0) (upd (la (ix p0)) (ix p1) p2)) M9 ∨ ¬ cd_miss oc os wa pr p0 p1 p2 = 0 ∧ (∃ z, v9 = some (.int z)) ∧ mw G am n oc td (cd_miss oc os wa pr p0 p1 p2) sL dk to er os pl wa pr la M9) ∧ fm am 9 M M9) := by
  refine pw_of hl (by decide +kernel) (Nat.le_of_ble_eq_true rfl) [(0, .ref (am 0)), (1, .int p0), (2, .int p1), (3, .int p2)] rfl ?_
  intro p9 e9 s9 m9 args9 below9 meth9 c9 hX hrt hmi
  have hn9 := mw_n hm
  have hoc := mw_oc hm
  refine pw_aload_n (pc := 0) hX dX2_miss_0 0 rfl ?_
  refine pw_aload_n (pc := 1) hX dX2_miss_1 0 rfl ?_
  refine pw_iload_n (pc := 2) hX dX2_miss_2 1 rfl ?_
  refine pw_iload_n (pc := 3) hX dX2_miss_3 2 rfl ?_
  refine pw_callV (pc := 4) (st := [.ref (am 0)]) hX (mt_lineRefusal l hl G M am n oc td th sL dk to er os pl wa pr la hm p0 p1) hm.1 rfl ok_X2_lineRefusal lk_RX2_67 dX2_miss_4 rfl ⟨⟨by decide, by decide⟩, Nat.le_of_ble_eq_true rfl, Nat.le_of_ble_eq_true rfl, Nat.le_of_ble_eq_true rfl⟩ rfl (fun v9 M9 hp9 => ?_)
  obtain ⟨rfl, ⟨rfl, hno⟩ | ⟨rfl, hij, hno⟩ | ⟨j, g, hj, hg, rfl, rfl, rfl, hw⟩ | ⟨j, g, hj, hg, rfl, rfl, rfl, hw⟩⟩ := hp9
  · refine pw_put (pc := 7) (v := .int 1) hX dX2_miss_7 hm.1 rfl inT_2 tyX2 tyX2_ok nmX2 5 (by decide) fl_RX2_43 rfl (tyX2_ok 5 (by decide)) rfl rfl (Nat.le_of_ble_eq_true rfl) [.int (nI n), .ref (am 1), .ref (am 2), .int (nI oc), .int td, .int 1, .long sL, .ref (am 3), .ref (am 4), .ref (am 5), .ref (am 6), .ref (am 7), .ref (am 8)] rfl ?_
    have hm_1 := pw_ke (a := am 0) (e := .inr (2, [.int (nI n), .ref (am 1), .ref (am 2), .int (nI oc), .int td, .int 1, .long sL, .ref (am 3), .ref (am 4), .ref (am 5), .ref (am 6), .ref (am 7), .ref (am 8)])) hm.2.1 (mw_ne hm (x := 1) (y := 0) (by decide) (by decide) (by decide))
    have hm_2 := pw_ke (a := am 0) (e := .inr (2, [.int (nI n), .ref (am 1), .ref (am 2), .int (nI oc), .int td, .int 1, .long sL, .ref (am 3), .ref (am 4), .ref (am 5), .ref (am 6), .ref (am 7), .ref (am 8)])) hm.2.2.1 (mw_ne hm (x := 2) (y := 0) (by decide) (by decide) (by decide))
    have hm_3 := pw_ke (a := am 0) (e := .inr (2, [.int (nI n), .ref (am 1), .ref (am 2), .int (nI oc), .int td, .int 1, .long sL, .ref (am 3), .ref (am 4), .ref (am 5), .ref (am 6), .ref (am 7), .ref (am 8)])) hm.2.2.2.1 (mw_ne hm (x := 3) (y := 0) (by decide) (by decide) (by decide))
    have hm_4 := pw_ke (a := am 0) (e := .inr (2, [.int (nI n), .ref (am 1), .ref (am 2), .int (nI oc), .int td, .int 1, .long sL, .ref (am 3), .ref (am 4), .ref (am 5), .ref (am 6), .ref (am 7), .ref (am 8)])) hm.2.2.2.2.1 (mw_ne hm (x := 4) (y := 0) (by decide) (by decide) (by decide))
    have hm_5 := pw_ke (a := am 0) (e := .inr (2, [.int (nI n), .ref (am 1), .ref (am 2), .int (nI oc), .int td, .int 1, .long sL, .ref (am 3), .ref (am 4), .ref (am 5), .ref (am 6), .ref (am 7), .ref (am 8)])) hm.2.2.2.2.2.1 (mw_ne hm (x := 5) (y := 0) (by decide) (by decide) (by decide))
    have hm_6 := pw_ke (a := am 0) (e := .inr (2, [.int (nI n), .ref (am 1), .ref (am 2), .int (nI oc), .int td, .int 1, .long sL, .ref (am 3), .ref (am 4), .ref (am 5), .ref (am 6), .ref (am 7), .ref (am 8)])) hm.2.2.2.2.2.2.1 (mw_ne hm (x := 6) (y := 0) (by decide) (by decide) (by decide))
    have hm_7 := pw_ke (a := am 0) (e := .inr (2, [.int (nI n), .ref (am 1), .ref (am 2), .int (nI oc), .int td, .int 1, .long sL, .ref (am 3), .ref (am 4), .ref (am 5), .ref (am 6), .ref (am 7), .ref (am 8)])) hm.2.2.2.2.2.2.2.1 (mw_ne hm (x := 7) (y := 0) (by decide) (by decide) (by decide))
    have hm_8 := pw_ke (a := am 0) (e := .inr (2, [.int (nI n), .ref (am 1), .ref (am 2), .int (nI oc), .int td, .int 1, .long sL, .ref (am 3), .ref (am 4), .ref (am 5), .ref (am 6), .ref (am 7), .ref (am 8)])) hm.2.2.2.2.2.2.2.2.1 (mw_ne hm (x := 8) (y := 0) (by decide) (by decide) (by decide))
    have hm_9 : pw_up M (am 0) (.inr (2, [.int (nI n), .ref (am 1), .ref (am 2), .int (nI oc), .int td, .int 1, .long sL, .ref (am 3), .ref (am 4), .ref (am 5), .ref (am 6), .ref (am 7), .ref (am 8)])) (am 0) = some (.inr (2, [.int (nI n), .ref (am 1), .ref (am 2), .int (nI oc), .int td, .int 1, .long sL, .ref (am 3), .ref (am 4), .ref (am 5), .ref (am 6), .ref (am 7), .ref (am 8)])) := pw_us
    refine pw_aload_n (pc := 10) hX dX2_miss_10 0 rfl ?_
    refine pw_get (pc := 11) hX dX2_miss_11 hm_9 rfl inT_2 5 (by decide) fl_RX2_43 rfl ?_
    refine pw_if_ne (pc := 14) hX 33 dX2_miss_14 (by decide) (fun _ => ?_) (fun h => absurd h (by decide))
    refine pw_aload_n (pc := 33) hX dX2_miss_33 0 rfl ?_
    refine pw_get (pc := 34) hX dX2_miss_34 hm_9 rfl inT_2 5 (by decide) fl_RX2_43 rfl ?_
    refine pw_if_ne (pc := 37) hX 64 dX2_miss_37 (by decide) (fun _ => ?_) (fun h => absurd h (by decide))
    refine pw_aload_n (pc := 64) hX dX2_miss_64 0 rfl ?_
    refine pw_get (pc := 65) hX dX2_miss_65 hm_9 rfl inT_2 5 (by decide) fl_RX2_43 rfl ?_
    refine pw_if_eq (pc := 68) hX 73 dX2_miss_68 (by decide) (fun h => absurd h (by decide)) (fun _ => ?_)
    refine pw_iconst (pc := 71) (v := 0) hX dX2_miss_71 (by decide) ?_
    exact pw_iret hX dX2_miss_72 hrt ⟨by decide, by decide⟩ ⟨Or.inr ⟨by rw [show cd_miss oc os wa pr p0 p1 p2 = 1 from pc_t hno]; decide, ⟨_, rfl⟩, by rw [show cd_miss oc os wa pr p0 p1 p2 = 1 from pc_t hno]; exact (mw_ob hm (oc) (mw_oc hm) td 1 sL)⟩, (fm_up fm_rf (x := 0) (by decide) _)⟩
  · refine pw_put (pc := 7) (v := .int 2) hX dX2_miss_7 hm.1 rfl inT_2 tyX2 tyX2_ok nmX2 5 (by decide) fl_RX2_43 rfl (tyX2_ok 5 (by decide)) rfl rfl (Nat.le_of_ble_eq_true rfl) [.int (nI n), .ref (am 1), .ref (am 2), .int (nI oc), .int td, .int 2, .long sL, .ref (am 3), .ref (am 4), .ref (am 5), .ref (am 6), .ref (am 7), .ref (am 8)] rfl ?_
    have hm_13 := pw_ke (a := am 0) (e := .inr (2, [.int (nI n), .ref (am 1), .ref (am 2), .int (nI oc), .int td, .int 2, .long sL, .ref (am 3), .ref (am 4), .ref (am 5), .ref (am 6), .ref (am 7), .ref (am 8)])) hm.2.1 (mw_ne hm (x := 1) (y := 0) (by decide) (by decide) (by decide))
    have hm_14 := pw_ke (a := am 0) (e := .inr (2, [.int (nI n), .ref (am 1), .ref (am 2), .int (nI oc), .int td, .int 2, .long sL, .ref (am 3), .ref (am 4), .ref (am 5), .ref (am 6), .ref (am 7), .ref (am 8)])) hm.2.2.1 (mw_ne hm (x := 2) (y := 0) (by decide) (by decide) (by decide))
    have hm_15 := pw_ke (a := am 0) (e := .inr (2, [.int (nI n), .ref (am 1), .ref (am 2), .int (nI oc), .int td, .int 2, .long sL, .ref (am 3), .ref (am 4), .ref (am 5), .ref (am 6), .ref (am 7), .ref (am 8)])) hm.2.2.2.1 (mw_ne hm (x := 3) (y := 0) (by decide) (by decide) (by decide))
    have hm_16 := pw_ke (a := am 0) (e := .inr (2, [.int (nI n), .ref (am 1), .ref (am 2), .int (nI oc), .int td, .int 2, .long sL, .ref (am 3), .ref (am 4), .ref (am 5), .ref (am 6), .ref (am 7), .ref (am 8)])) hm.2.2.2.2.1 (mw_ne hm (x := 4) (y := 0) (by decide) (by decide) (by decide))
    have hm_17 := pw_ke (a := am 0) (e := .inr (2, [.int (nI n), .ref (am 1), .ref (am 2), .int (nI oc), .int td, .int 2, .long sL, .ref (am 3), .ref (am 4), .ref (am 5), .ref (am 6), .ref (am 7), .ref (am 8)])) hm.2.2.2.2.2.1 (mw_ne hm (x := 5) (y := 0) (by decide) (by decide) (by decide))
    have hm_18 := pw_ke (a := am 0) (e := .inr (2, [.int (nI n), .ref (am 1), .ref (am 2), .int (nI oc), .int td, .int 2, .long sL, .ref (am 3), .ref (am 4), .ref (am 5), .ref (am 6), .ref (am 7), .ref (am 8)])) hm.2.2.2.2.2.2.1 (mw_ne hm (x := 6) (y := 0) (by decide) (by decide) (by decide))
    have hm_19 := pw_ke (a := am 0) (e := .inr (2, [.int (nI n), .ref (am 1), .ref (am 2), .int (nI oc), .int td, .int 2, .long sL, .ref (am 3), .ref (am 4), .ref (am 5), .ref (am 6), .ref (am 7), .ref (am 8)])) hm.2.2.2.2.2.2.2.1 (mw_ne hm (x := 7) (y := 0) (by decide) (by decide) (by decide))
    have hm_20 := pw_ke (a := am 0) (e := .inr (2, [.int (nI n), .ref (am 1), .ref (am 2), .int (nI oc), .int td, .int 2, .long sL, .ref (am 3), .ref (am 4), .ref (am 5), .ref (am 6), .ref (am 7), .ref (am 8)])) hm.2.2.2.2.2.2.2.2.1 (mw_ne hm (x := 8) (y := 0) (by decide) (by decide) (by decide))
    have hm_21 : pw_up M (am 0) (.inr (2, [.int (nI n), .ref (am 1), .ref (am 2), .int (nI oc), .int td, .int 2, .long sL, .ref (am 3), .ref (am 4), .ref (am 5), .ref (am 6), .ref (am 7), .ref (am 8)])) (am 0) = some (.inr (2, [.int (nI n), .ref (am 1), .ref (am 2), .int (nI oc), .int td, .int 2, .long sL, .ref (am 3), .ref (am 4), .ref (am 5), .ref (am 6), .ref (am 7), .ref (am 8)])) := pw_us
    refine pw_aload_n (pc := 10) hX dX2_miss_10 0 rfl ?_
    refine pw_get (pc := 11) hX dX2_miss_11 hm_21 rfl inT_2 5 (by decide) fl_RX2_43 rfl ?_
    refine pw_if_ne (pc := 14) hX 33 dX2_miss_14 (by decide) (fun _ => ?_) (fun h => absurd h (by decide))
    refine pw_aload_n (pc := 33) hX dX2_miss_33 0 rfl ?_
    refine pw_get (pc := 34) hX dX2_miss_34 hm_21 rfl inT_2 5 (by decide) fl_RX2_43 rfl ?_
    refine pw_if_ne (pc := 37) hX 64 dX2_miss_37 (by decide) (fun _ => ?_) (fun h => absurd h (by decide))
    refine pw_aload_n (pc := 64) hX dX2_miss_64 0 rfl ?_
    refine pw_get (pc := 65) hX dX2_miss_65 hm_21 rfl inT_2 5 (by decide) fl_RX2_43 rfl ?_
    refine pw_if_eq (pc := 68) hX 73 dX2_miss_68 (by decide) (fun h => absurd h (by decide)) (fun _ => ?_)
    refine pw_iconst (pc := 71) (v := 0) hX dX2_miss_71 (by decide) ?_
    exact pw_iret hX dX2_miss_72 hrt ⟨by decide, by decide⟩ ⟨Or.inr ⟨by rw [show cd_miss oc os wa pr p0 p1 p2 = 2 from pc3_2 (fun h => h hij) hno]; decide, ⟨_, rfl⟩, by rw [show cd_miss oc os wa pr p0 p1 p2 = 2 from pc3_2 (fun h => h hij) hno]; exact (mw_ob hm (oc) (mw_oc hm) td 2 sL)⟩, (fm_up fm_rf (x := 0) (by decide) _)⟩
  · have hjB : j < 2 ^ 31 := Nat.lt_of_lt_of_le hj (Nat.le_trans (mw_oc hm) (by decide))
    have hgB : g < 2 ^ 31 := Nat.lt_of_lt_of_le hg (by decide)
    refine pw_put (pc := 7) (v := .int 1) hX dX2_miss_7 hm.1 rfl inT_2 tyX2 tyX2_ok nmX2 5 (by decide) fl_RX2_43 rfl (tyX2_ok 5 (by decide)) rfl rfl (Nat.le_of_ble_eq_true rfl) [.int (nI n), .ref (am 1), .ref (am 2), .int (nI oc), .int td, .int 1, .long sL, .ref (am 3), .ref (am 4), .ref (am 5), .ref (am 6), .ref (am 7), .ref (am 8)] rfl ?_
    have hm_25 := pw_ke (a := am 0) (e := .inr (2, [.int (nI n), .ref (am 1), .ref (am 2), .int (nI oc), .int td, .int 1, .long sL, .ref (am 3), .ref (am 4), .ref (am 5), .ref (am 6), .ref (am 7), .ref (am 8)])) hm.2.1 (mw_ne hm (x := 1) (y := 0) (by decide) (by decide) (by decide))
    have hm_26 := pw_ke (a := am 0) (e := .inr (2, [.int (nI n), .ref (am 1), .ref (am 2), .int (nI oc), .int td, .int 1, .long sL, .ref (am 3), .ref (am 4), .ref (am 5), .ref (am 6), .ref (am 7), .ref (am 8)])) hm.2.2.1 (mw_ne hm (x := 2) (y := 0) (by decide) (by decide) (by decide))
    have hm_27 := pw_ke (a := am 0) (e := .inr (2, [.int (nI n), .ref (am 1), .ref (am 2), .int (nI oc), .int td, .int 1, .long sL, .ref (am 3), .ref (am 4), .ref (am 5), .ref (am 6), .ref (am 7), .ref (am 8)])) hm.2.2.2.1 (mw_ne hm (x := 3) (y := 0) (by decide) (by decide) (by decide))
    have hm_28 := pw_ke (a := am 0) (e := .inr (2, [.int (nI n), .ref (am 1), .ref (am 2), .int (nI oc), .int td, .int 1, .long sL, .ref (am 3), .ref (am 4), .ref (am 5), .ref (am 6), .ref (am 7), .ref (am 8)])) hm.2.2.2.2.1 (mw_ne hm (x := 4) (y := 0) (by decide) (by decide) (by decide))
    have hm_29 := pw_ke (a := am 0) (e := .inr (2, [.int (nI n), .ref (am 1), .ref (am 2), .int (nI oc), .int td, .int 1, .long sL, .ref (am 3), .ref (am 4), .ref (am 5), .ref (am 6), .ref (am 7), .ref (am 8)])) hm.2.2.2.2.2.1 (mw_ne hm (x := 5) (y := 0) (by decide) (by decide) (by decide))
    have hm_30 := pw_ke (a := am 0) (e := .inr (2, [.int (nI n), .ref (am 1), .ref (am 2), .int (nI oc), .int td, .int 1, .long sL, .ref (am 3), .ref (am 4), .ref (am 5), .ref (am 6), .ref (am 7), .ref (am 8)])) hm.2.2.2.2.2.2.1 (mw_ne hm (x := 6) (y := 0) (by decide) (by decide) (by decide))
    have hm_31 := pw_ke (a := am 0) (e := .inr (2, [.int (nI n), .ref (am 1), .ref (am 2), .int (nI oc), .int td, .int 1, .long sL, .ref (am 3), .ref (am 4), .ref (am 5), .ref (am 6), .ref (am 7), .ref (am 8)])) hm.2.2.2.2.2.2.2.1 (mw_ne hm (x := 7) (y := 0) (by decide) (by decide) (by decide))
    have hm_32 := pw_ke (a := am 0) (e := .inr (2, [.int (nI n), .ref (am 1), .ref (am 2), .int (nI oc), .int td, .int 1, .long sL, .ref (am 3), .ref (am 4), .ref (am 5), .ref (am 6), .ref (am 7), .ref (am 8)])) hm.2.2.2.2.2.2.2.2.1 (mw_ne hm (x := 8) (y := 0) (by decide) (by decide) (by decide))
    have hm_33 : pw_up M (am 0) (.inr (2, [.int (nI n), .ref (am 1), .ref (am 2), .int (nI oc), .int td, .int 1, .long sL, .ref (am 3), .ref (am 4), .ref (am 5), .ref (am 6), .ref (am 7), .ref (am 8)])) (am 0) = some (.inr (2, [.int (nI n), .ref (am 1), .ref (am 2), .int (nI oc), .int td, .int 1, .long sL, .ref (am 3), .ref (am 4), .ref (am 5), .ref (am 6), .ref (am 7), .ref (am 8)])) := pw_us
    refine pw_aload_n (pc := 10) hX dX2_miss_10 0 rfl ?_
    refine pw_get (pc := 11) hX dX2_miss_11 hm_33 rfl inT_2 5 (by decide) fl_RX2_43 rfl ?_
    refine pw_if_ne (pc := 14) hX 33 dX2_miss_14 (by decide) (fun _ => ?_) (fun h => absurd h (by decide))
    refine pw_aload_n (pc := 33) hX dX2_miss_33 0 rfl ?_
    refine pw_get (pc := 34) hX dX2_miss_34 hm_33 rfl inT_2 5 (by decide) fl_RX2_43 rfl ?_
    refine pw_if_ne (pc := 37) hX 64 dX2_miss_37 (by decide) (fun _ => ?_) (fun h => absurd h (by decide))
    refine pw_aload_n (pc := 64) hX dX2_miss_64 0 rfl ?_
    refine pw_get (pc := 65) hX dX2_miss_65 hm_33 rfl inT_2 5 (by decide) fl_RX2_43 rfl ?_
    refine pw_if_eq (pc := 68) hX 73 dX2_miss_68 (by decide) (fun h => absurd h (by decide)) (fun _ => ?_)
    refine pw_iconst (pc := 71) (v := 0) hX dX2_miss_71 (by decide) ?_
    exact pw_iret hX dX2_miss_72 hrt ⟨by decide, by decide⟩ ⟨Or.inr ⟨by rw [show cd_miss oc os wa pr (nI j) (nI g) p2 = 1 from pc5_3 (fun h => h (ir_nI hj)) (fun h => h (ir_nI hg)) (by rw [ix_nI hjB, ix_nI hgB]; exact hw)]; decide, ⟨_, rfl⟩, by rw [show cd_miss oc os wa pr (nI j) (nI g) p2 = 1 from pc5_3 (fun h => h (ir_nI hj)) (fun h => h (ir_nI hg)) (by rw [ix_nI hjB, ix_nI hgB]; exact hw)]; exact (mw_ob hm (oc) (mw_oc hm) td 1 sL)⟩, (fm_up fm_rf (x := 0) (by decide) _)⟩
  · have hjB : j < 2 ^ 31 := Nat.lt_of_lt_of_le hj (Nat.le_trans (mw_oc hm) (by decide))
    have hgB : g < 2 ^ 31 := Nat.lt_of_lt_of_le hg (by decide)
    refine pw_put (pc := 7) (v := .int 0) hX dX2_miss_7 hm.1 rfl inT_2 tyX2 tyX2_ok nmX2 5 (by decide) fl_RX2_43 rfl (tyX2_ok 5 (by decide)) rfl rfl (Nat.le_of_ble_eq_true rfl) [.int (nI n), .ref (am 1), .ref (am 2), .int (nI oc), .int td, .int 0, .long sL, .ref (am 3), .ref (am 4), .ref (am 5), .ref (am 6), .ref (am 7), .ref (am 8)] rfl ?_
    have hm_37 := pw_ke (a := am 0) (e := .inr (2, [.int (nI n), .ref (am 1), .ref (am 2), .int (nI oc), .int td, .int 0, .long sL, .ref (am 3), .ref (am 4), .ref (am 5), .ref (am 6), .ref (am 7), .ref (am 8)])) hm.2.1 (mw_ne hm (x := 1) (y := 0) (by decide) (by decide) (by decide))
    have hm_38 := pw_ke (a := am 0) (e := .inr (2, [.int (nI n), .ref (am 1), .ref (am 2), .int (nI oc), .int td, .int 0, .long sL, .ref (am 3), .ref (am 4), .ref (am 5), .ref (am 6), .ref (am 7), .ref (am 8)])) hm.2.2.1 (mw_ne hm (x := 2) (y := 0) (by decide) (by decide) (by decide))
    have hm_39 := pw_ke (a := am 0) (e := .inr (2, [.int (nI n), .ref (am 1), .ref (am 2), .int (nI oc), .int td, .int 0, .long sL, .ref (am 3), .ref (am 4), .ref (am 5), .ref (am 6), .ref (am 7), .ref (am 8)])) hm.2.2.2.1 (mw_ne hm (x := 3) (y := 0) (by decide) (by decide) (by decide))
    have hm_40 := pw_ke (a := am 0) (e := .inr (2, [.int (nI n), .ref (am 1), .ref (am 2), .int (nI oc), .int td, .int 0, .long sL, .ref (am 3), .ref (am 4), .ref (am 5), .ref (am 6), .ref (am 7), .ref (am 8)])) hm.2.2.2.2.1 (mw_ne hm (x := 4) (y := 0) (by decide) (by decide) (by decide))
    have hm_41 := pw_ke (a := am 0) (e := .inr (2, [.int (nI n), .ref (am 1), .ref (am 2), .int (nI oc), .int td, .int 0, .long sL, .ref (am 3), .ref (am 4), .ref (am 5), .ref (am 6), .ref (am 7), .ref (am 8)])) hm.2.2.2.2.2.1 (mw_ne hm (x := 5) (y := 0) (by decide) (by decide) (by decide))
    have hm_42 := pw_ke (a := am 0) (e := .inr (2, [.int (nI n), .ref (am 1), .ref (am 2), .int (nI oc), .int td, .int 0, .long sL, .ref (am 3), .ref (am 4), .ref (am 5), .ref (am 6), .ref (am 7), .ref (am 8)])) hm.2.2.2.2.2.2.1 (mw_ne hm (x := 6) (y := 0) (by decide) (by decide) (by decide))
    have hm_43 := pw_ke (a := am 0) (e := .inr (2, [.int (nI n), .ref (am 1), .ref (am 2), .int (nI oc), .int td, .int 0, .long sL, .ref (am 3), .ref (am 4), .ref (am 5), .ref (am 6), .ref (am 7), .ref (am 8)])) hm.2.2.2.2.2.2.2.1 (mw_ne hm (x := 7) (y := 0) (by decide) (by decide) (by decide))
    have hm_44 := pw_ke (a := am 0) (e := .inr (2, [.int (nI n), .ref (am 1), .ref (am 2), .int (nI oc), .int td, .int 0, .long sL, .ref (am 3), .ref (am 4), .ref (am 5), .ref (am 6), .ref (am 7), .ref (am 8)])) hm.2.2.2.2.2.2.2.2.1 (mw_ne hm (x := 8) (y := 0) (by decide) (by decide) (by decide))
    have hm_45 : pw_up M (am 0) (.inr (2, [.int (nI n), .ref (am 1), .ref (am 2), .int (nI oc), .int td, .int 0, .long sL, .ref (am 3), .ref (am 4), .ref (am 5), .ref (am 6), .ref (am 7), .ref (am 8)])) (am 0) = some (.inr (2, [.int (nI n), .ref (am 1), .ref (am 2), .int (nI oc), .int td, .int 0, .long sL, .ref (am 3), .ref (am 4), .ref (am 5), .ref (am 6), .ref (am 7), .ref (am 8)])) := pw_us
    refine pw_aload_n (pc := 10) hX dX2_miss_10 0 rfl ?_
    refine pw_get (pc := 11) hX dX2_miss_11 hm_45 rfl inT_2 5 (by decide) fl_RX2_43 rfl ?_
    refine pw_if_ne (pc := 14) hX 33 dX2_miss_14 (by decide) (fun h => absurd h (by decide)) (fun _ => ?_)
    refine pw_iload_n (pc := 17) hX dX2_miss_17 3 rfl ?_
    refine pw_if_lt (pc := 18) hX 28 dX2_miss_18 (by decide) (fun hc_47 => ?_) (fun hc_47 => ?_)
    · refine pw_aload_n (pc := 28) hX dX2_miss_28 0 rfl ?_
      refine pw_iconst (pc := 29) (v := 2) hX dX2_miss_29 (by decide) ?_
      refine pw_put (pc := 30) (v := .int 2) hX dX2_miss_30 hm_45 rfl inT_2 tyX2 tyX2_ok nmX2 5 (by decide) fl_RX2_43 rfl (tyX2_ok 5 (by decide)) rfl rfl (Nat.le_of_ble_eq_true rfl) [.int (nI n), .ref (am 1), .ref (am 2), .int (nI oc), .int td, .int 2, .long sL, .ref (am 3), .ref (am 4), .ref (am 5), .ref (am 6), .ref (am 7), .ref (am 8)] rfl ?_
      have hm_48 := pw_ke (a := am 0) (e := .inr (2, [.int (nI n), .ref (am 1), .ref (am 2), .int (nI oc), .int td, .int 2, .long sL, .ref (am 3), .ref (am 4), .ref (am 5), .ref (am 6), .ref (am 7), .ref (am 8)])) hm_37 (mw_ne hm (x := 1) (y := 0) (by decide) (by decide) (by decide))
      have hm_49 := pw_ke (a := am 0) (e := .inr (2, [.int (nI n), .ref (am 1), .ref (am 2), .int (nI oc), .int td, .int 2, .long sL, .ref (am 3), .ref (am 4), .ref (am 5), .ref (am 6), .ref (am 7), .ref (am 8)])) hm_38 (mw_ne hm (x := 2) (y := 0) (by decide) (by decide) (by decide))
      have hm_50 := pw_ke (a := am 0) (e := .inr (2, [.int (nI n), .ref (am 1), .ref (am 2), .int (nI oc), .int td, .int 2, .long sL, .ref (am 3), .ref (am 4), .ref (am 5), .ref (am 6), .ref (am 7), .ref (am 8)])) hm_39 (mw_ne hm (x := 3) (y := 0) (by decide) (by decide) (by decide))
      have hm_51 := pw_ke (a := am 0) (e := .inr (2, [.int (nI n), .ref (am 1), .ref (am 2), .int (nI oc), .int td, .int 2, .long sL, .ref (am 3), .ref (am 4), .ref (am 5), .ref (am 6), .ref (am 7), .ref (am 8)])) hm_40 (mw_ne hm (x := 4) (y := 0) (by decide) (by decide) (by decide))
      have hm_52 := pw_ke (a := am 0) (e := .inr (2, [.int (nI n), .ref (am 1), .ref (am 2), .int (nI oc), .int td, .int 2, .long sL, .ref (am 3), .ref (am 4), .ref (am 5), .ref (am 6), .ref (am 7), .ref (am 8)])) hm_41 (mw_ne hm (x := 5) (y := 0) (by decide) (by decide) (by decide))
      have hm_53 := pw_ke (a := am 0) (e := .inr (2, [.int (nI n), .ref (am 1), .ref (am 2), .int (nI oc), .int td, .int 2, .long sL, .ref (am 3), .ref (am 4), .ref (am 5), .ref (am 6), .ref (am 7), .ref (am 8)])) hm_42 (mw_ne hm (x := 6) (y := 0) (by decide) (by decide) (by decide))
      have hm_54 := pw_ke (a := am 0) (e := .inr (2, [.int (nI n), .ref (am 1), .ref (am 2), .int (nI oc), .int td, .int 2, .long sL, .ref (am 3), .ref (am 4), .ref (am 5), .ref (am 6), .ref (am 7), .ref (am 8)])) hm_43 (mw_ne hm (x := 7) (y := 0) (by decide) (by decide) (by decide))
      have hm_55 := pw_ke (a := am 0) (e := .inr (2, [.int (nI n), .ref (am 1), .ref (am 2), .int (nI oc), .int td, .int 2, .long sL, .ref (am 3), .ref (am 4), .ref (am 5), .ref (am 6), .ref (am 7), .ref (am 8)])) hm_44 (mw_ne hm (x := 8) (y := 0) (by decide) (by decide) (by decide))
      have hm_56 : pw_up (pw_up M (am 0) (.inr (2, [.int (nI n), .ref (am 1), .ref (am 2), .int (nI oc), .int td, .int 0, .long sL, .ref (am 3), .ref (am 4), .ref (am 5), .ref (am 6), .ref (am 7), .ref (am 8)]))) (am 0) (.inr (2, [.int (nI n), .ref (am 1), .ref (am 2), .int (nI oc), .int td, .int 2, .long sL, .ref (am 3), .ref (am 4), .ref (am 5), .ref (am 6), .ref (am 7), .ref (am 8)])) (am 0) = some (.inr (2, [.int (nI n), .ref (am 1), .ref (am 2), .int (nI oc), .int td, .int 2, .long sL, .ref (am 3), .ref (am 4), .ref (am 5), .ref (am 6), .ref (am 7), .ref (am 8)])) := pw_us
      refine pw_aload_n (pc := 33) hX dX2_miss_33 0 rfl ?_
      refine pw_get (pc := 34) hX dX2_miss_34 hm_56 rfl inT_2 5 (by decide) fl_RX2_43 rfl ?_
      refine pw_if_ne (pc := 37) hX 64 dX2_miss_37 (by decide) (fun _ => ?_) (fun h => absurd h (by decide))
      refine pw_aload_n (pc := 64) hX dX2_miss_64 0 rfl ?_
      refine pw_get (pc := 65) hX dX2_miss_65 hm_56 rfl inT_2 5 (by decide) fl_RX2_43 rfl ?_
      refine pw_if_eq (pc := 68) hX 73 dX2_miss_68 (by decide) (fun h => absurd h (by decide)) (fun _ => ?_)
      refine pw_iconst (pc := 71) (v := 0) hX dX2_miss_71 (by decide) ?_
      exact pw_iret hX dX2_miss_72 hrt ⟨by decide, by decide⟩ ⟨Or.inr ⟨by rw [show cd_miss oc os wa pr (nI j) (nI g) p2 = 2 from pc5_4 (fun h => h (ir_nI hj)) (fun h => h (ir_nI hg)) (by rw [ix_nI hjB, ix_nI hgB]; exact fun h => h hw) (fun h => absurd h.1 (Int32.not_le.mpr hc_47))]; decide, ⟨_, rfl⟩, by rw [show cd_miss oc os wa pr (nI j) (nI g) p2 = 2 from pc5_4 (fun h => h (ir_nI hj)) (fun h => h (ir_nI hg)) (by rw [ix_nI hjB, ix_nI hgB]; exact fun h => h hw) (fun h => absurd h.1 (Int32.not_le.mpr hc_47))]; exact (mw_ob (mw_ob hm (oc) (mw_oc hm) td 0 sL) (oc) (mw_oc hm) td 2 sL)⟩, (fm_up (fm_up fm_rf (x := 0) (by decide) _) (x := 0) (by decide) _)⟩
    · refine pw_iload_n (pc := 21) hX dX2_miss_21 3 rfl ?_
      refine pw_sipush (pc := 22) (v := 10000) hX dX2_miss_22 (by decide) ?_
      refine pw_icmp_le (pc := 25) hX 33 dX2_miss_25 (by decide) (fun hc_59 => ?_) (fun hc_59 => ?_)
      · refine pw_aload_n (pc := 33) hX dX2_miss_33 0 rfl ?_
        refine pw_get (pc := 34) hX dX2_miss_34 hm_45 rfl inT_2 5 (by decide) fl_RX2_43 rfl ?_
        refine pw_if_ne (pc := 37) hX 64 dX2_miss_37 (by decide) (fun h => absurd h (by decide)) (fun _ => ?_)
        refine pw_aload_n (pc := 40) hX dX2_miss_40 0 rfl ?_
        refine pw_get (pc := 41) hX dX2_miss_41 hm_45 rfl inT_2 7 (by decide) fl_RX2_21 rfl ?_
        refine pw_iload_n (pc := 44) hX dX2_miss_44 1 rfl ?_
        refine pw_iald (pc := 45) (j := j) hX dX2_miss_45 hm_39 (by omega) (by decide) ?_
        refine pw_iconst (pc := 46) (v := 1) hX dX2_miss_46 (by decide) ?_
        refine pw_icmp_ne (pc := 47) hX 59 dX2_miss_47 (by decide) (fun hc_61 => ?_) (fun hc_61 => ?_)
        · refine pw_aload_n (pc := 59) hX dX2_miss_59 0 rfl ?_
          refine pw_iconst (pc := 60) (v := 3) hX dX2_miss_60 (by decide) ?_
          refine pw_put (pc := 61) (v := .int 3) hX dX2_miss_61 hm_45 rfl inT_2 tyX2 tyX2_ok nmX2 5 (by decide) fl_RX2_43 rfl (tyX2_ok 5 (by decide)) rfl rfl (Nat.le_of_ble_eq_true rfl) [.int (nI n), .ref (am 1), .ref (am 2), .int (nI oc), .int td, .int 3, .long sL, .ref (am 3), .ref (am 4), .ref (am 5), .ref (am 6), .ref (am 7), .ref (am 8)] rfl ?_
          have hm_62 := pw_ke (a := am 0) (e := .inr (2, [.int (nI n), .ref (am 1), .ref (am 2), .int (nI oc), .int td, .int 3, .long sL, .ref (am 3), .ref (am 4), .ref (am 5), .ref (am 6), .ref (am 7), .ref (am 8)])) hm_37 (mw_ne hm (x := 1) (y := 0) (by decide) (by decide) (by decide))
          have hm_63 := pw_ke (a := am 0) (e := .inr (2, [.int (nI n), .ref (am 1), .ref (am 2), .int (nI oc), .int td, .int 3, .long sL, .ref (am 3), .ref (am 4), .ref (am 5), .ref (am 6), .ref (am 7), .ref (am 8)])) hm_38 (mw_ne hm (x := 2) (y := 0) (by decide) (by decide) (by decide))
          have hm_64 := pw_ke (a := am 0) (e := .inr (2, [.int (nI n), .ref (am 1), .ref (am 2), .int (nI oc), .int td, .int 3, .long sL, .ref (am 3), .ref (am 4), .ref (am 5), .ref (am 6), .ref (am 7), .ref (am 8)])) hm_39 (mw_ne hm (x := 3) (y := 0) (by decide) (by decide) (by decide))
          have hm_65 := pw_ke (a := am 0) (e := .inr (2, [.int (nI n), .ref (am 1), .ref (am 2), .int (nI oc), .int td, .int 3, .long sL, .ref (am 3), .ref (am 4), .ref (am 5), .ref (am 6), .ref (am 7), .ref (am 8)])) hm_40 (mw_ne hm (x := 4) (y := 0) (by decide) (by decide) (by decide))
          have hm_66 := pw_ke (a := am 0) (e := .inr (2, [.int (nI n), .ref (am 1), .ref (am 2), .int (nI oc), .int td, .int 3, .long sL, .ref (am 3), .ref (am 4), .ref (am 5), .ref (am 6), .ref (am 7), .ref (am 8)])) hm_41 (mw_ne hm (x := 5) (y := 0) (by decide) (by decide) (by decide))
          have hm_67 := pw_ke (a := am 0) (e := .inr (2, [.int (nI n), .ref (am 1), .ref (am 2), .int (nI oc), .int td, .int 3, .long sL, .ref (am 3), .ref (am 4), .ref (am 5), .ref (am 6), .ref (am 7), .ref (am 8)])) hm_42 (mw_ne hm (x := 6) (y := 0) (by decide) (by decide) (by decide))
          have hm_68 := pw_ke (a := am 0) (e := .inr (2, [.int (nI n), .ref (am 1), .ref (am 2), .int (nI oc), .int td, .int 3, .long sL, .ref (am 3), .ref (am 4), .ref (am 5), .ref (am 6), .ref (am 7), .ref (am 8)])) hm_43 (mw_ne hm (x := 7) (y := 0) (by decide) (by decide) (by decide))
          have hm_69 := pw_ke (a := am 0) (e := .inr (2, [.int (nI n), .ref (am 1), .ref (am 2), .int (nI oc), .int td, .int 3, .long sL, .ref (am 3), .ref (am 4), .ref (am 5), .ref (am 6), .ref (am 7), .ref (am 8)])) hm_44 (mw_ne hm (x := 8) (y := 0) (by decide) (by decide) (by decide))
          have hm_70 : pw_up (pw_up M (am 0) (.inr (2, [.int (nI n), .ref (am 1), .ref (am 2), .int (nI oc), .int td, .int 0, .long sL, .ref (am 3), .ref (am 4), .ref (am 5), .ref (am 6), .ref (am 7), .ref (am 8)]))) (am 0) (.inr (2, [.int (nI n), .ref (am 1), .ref (am 2), .int (nI oc), .int td, .int 3, .long sL, .ref (am 3), .ref (am 4), .ref (am 5), .ref (am 6), .ref (am 7), .ref (am 8)])) (am 0) = some (.inr (2, [.int (nI n), .ref (am 1), .ref (am 2), .int (nI oc), .int td, .int 3, .long sL, .ref (am 3), .ref (am 4), .ref (am 5), .ref (am 6), .ref (am 7), .ref (am 8)])) := pw_us
          refine pw_aload_n (pc := 64) hX dX2_miss_64 0 rfl ?_
          refine pw_get (pc := 65) hX dX2_miss_65 hm_70 rfl inT_2 5 (by decide) fl_RX2_43 rfl ?_
          refine pw_if_eq (pc := 68) hX 73 dX2_miss_68 (by decide) (fun h => absurd h (by decide)) (fun _ => ?_)
          refine pw_iconst (pc := 71) (v := 0) hX dX2_miss_71 (by decide) ?_
          exact pw_iret hX dX2_miss_72 hrt ⟨by decide, by decide⟩ ⟨Or.inr ⟨by rw [show cd_miss oc os wa pr (nI j) (nI g) p2 = 3 from pc5_5 (fun h => h (ir_nI hj)) (fun h => h (ir_nI hg)) (by rw [ix_nI hjB, ix_nI hgB]; exact fun h => h hw) (fun h => h ⟨Int32.not_lt.mp hc_47, hc_59⟩) (by rw [ix_nI hjB]; exact fun h => hc_61 h.1)]; decide, ⟨_, rfl⟩, by rw [show cd_miss oc os wa pr (nI j) (nI g) p2 = 3 from pc5_5 (fun h => h (ir_nI hj)) (fun h => h (ir_nI hg)) (by rw [ix_nI hjB, ix_nI hgB]; exact fun h => h hw) (fun h => h ⟨Int32.not_lt.mp hc_47, hc_59⟩) (by rw [ix_nI hjB]; exact fun h => hc_61 h.1)]; exact (mw_ob (mw_ob hm (oc) (mw_oc hm) td 0 sL) (oc) (mw_oc hm) td 3 sL)⟩, (fm_up (fm_up fm_rf (x := 0) (by decide) _) (x := 0) (by decide) _)⟩
        · refine pw_aload_n (pc := 50) hX dX2_miss_50 0 rfl ?_
          refine pw_iload_n (pc := 51) hX dX2_miss_51 1 rfl ?_
          refine pw_iload_n (pc := 52) hX dX2_miss_52 2 rfl ?_
          refine pw_callV (pc := 53) (st := []) hX (mt_missing l hl G _ am _ _ _ _ _ _ _ _ _ _ _ _ _ (mw_ob hm (oc) (mw_oc hm) td 0 sL) j g hj hg) hm_45 rfl ok_X2_missing lk_RX2_70 dX2_miss_53 rfl ⟨⟨by decide, by decide⟩, Nat.le_of_ble_eq_true rfl, Nat.le_of_ble_eq_true rfl, Nat.le_of_ble_eq_true rfl⟩ rfl (fun v9 M9 hp9 => ?_)
          obtain ⟨rfl, rfl⟩ := hp9
          refine pw_if_ne (pc := 56) hX 64 dX2_miss_56 (by decide) (fun hc_72 => ?_) (fun hc_72 => ?_)
          · refine pw_aload_n (pc := 64) hX dX2_miss_64 0 rfl ?_
            refine pw_get (pc := 65) hX dX2_miss_65 hm_45 rfl inT_2 5 (by decide) fl_RX2_43 rfl ?_
            refine pw_if_eq (pc := 68) hX 73 dX2_miss_68 (by decide) (fun _ => ?_) (fun h => absurd h (by decide))
            refine pw_aload_n (pc := 73) hX dX2_miss_73 0 rfl ?_
            refine pw_get (pc := 74) hX dX2_miss_74 hm_45 rfl inT_2 11 (by decide) fl_RX2_33 rfl ?_
            refine pw_bipush (pc := 77) (v := 10) hX dX2_miss_77 (by decide) ?_
            refine pw_iload_n (pc := 79) hX dX2_miss_79 1 rfl ?_
            refine pw_imul (pc := 80) (z := nI (10 * j)) hX dX2_miss_80 (pk_mul 10 _) ?_
            refine pw_iload_n (pc := 81) hX dX2_miss_81 2 rfl ?_
            refine pw_iadd (pc := 82) (z := nI (10 * j + g)) hX dX2_miss_82 (nI_add _ _) ?_
            refine pw_iload_n (pc := 83) hX dX2_miss_83 3 rfl ?_
            refine pw_iast (pc := 84) (j := 10 * j + g) hX dX2_miss_84 hm_43 (by omega) (by decide) ?_
            have hm_74 := pw_ke (a := am 7) (e := .inl (G.2.2.1 0, 200, .inl (upd (fl la) (10 * j + g) p2))) hm_45 (mw_ne hm (x := 0) (y := 7) (by decide) (by decide) (by decide))
            have hm_75 := pw_ke (a := am 7) (e := .inl (G.2.2.1 0, 200, .inl (upd (fl la) (10 * j + g) p2))) hm_37 (mw_ne hm (x := 1) (y := 7) (by decide) (by decide) (by decide))
            have hm_76 := pw_ke (a := am 7) (e := .inl (G.2.2.1 0, 200, .inl (upd (fl la) (10 * j + g) p2))) hm_38 (mw_ne hm (x := 2) (y := 7) (by decide) (by decide) (by decide))
            have hm_77 := pw_ke (a := am 7) (e := .inl (G.2.2.1 0, 200, .inl (upd (fl la) (10 * j + g) p2))) hm_39 (mw_ne hm (x := 3) (y := 7) (by decide) (by decide) (by decide))
            have hm_78 := pw_ke (a := am 7) (e := .inl (G.2.2.1 0, 200, .inl (upd (fl la) (10 * j + g) p2))) hm_40 (mw_ne hm (x := 4) (y := 7) (by decide) (by decide) (by decide))
            have hm_79 := pw_ke (a := am 7) (e := .inl (G.2.2.1 0, 200, .inl (upd (fl la) (10 * j + g) p2))) hm_41 (mw_ne hm (x := 5) (y := 7) (by decide) (by decide) (by decide))
            have hm_80 := pw_ke (a := am 7) (e := .inl (G.2.2.1 0, 200, .inl (upd (fl la) (10 * j + g) p2))) hm_42 (mw_ne hm (x := 6) (y := 7) (by decide) (by decide) (by decide))
            have hm_81 := pw_ke (a := am 7) (e := .inl (G.2.2.1 0, 200, .inl (upd (fl la) (10 * j + g) p2))) hm_44 (mw_ne hm (x := 8) (y := 7) (by decide) (by decide) (by decide))
            have hm_82 : pw_up (pw_up M (am 0) (.inr (2, [.int (nI n), .ref (am 1), .ref (am 2), .int (nI oc), .int td, .int 0, .long sL, .ref (am 3), .ref (am 4), .ref (am 5), .ref (am 6), .ref (am 7), .ref (am 8)]))) (am 7) (.inl (G.2.2.1 0, 200, .inl (upd (fl la) (10 * j + g) p2))) (am 7) = some (.inl (G.2.2.1 0, 200, .inl (upd (fl la) (10 * j + g) p2))) := pw_us
            refine pw_aload_n (pc := 85) hX dX2_miss_85 0 rfl ?_
            refine pw_iload_n (pc := 86) hX dX2_miss_86 1 rfl ?_
            refine pw_iload_n (pc := 87) hX dX2_miss_87 2 rfl ?_
            refine pw_callV (pc := 88) (st := []) hX (mt_missing l hl G _ am _ _ _ _ _ _ _ _ _ _ _ _ _ (mw_la (mw_ob hm (oc) (mw_oc hm) td 0 sL) j g hg _) j g hj hg) hm_74 rfl ok_X2_missing lk_RX2_70 dX2_miss_88 rfl ⟨⟨by decide, by decide⟩, Nat.le_of_ble_eq_true rfl, Nat.le_of_ble_eq_true rfl, Nat.le_of_ble_eq_true rfl⟩ rfl (fun v9 M9 hp9 => ?_)
            obtain ⟨rfl, rfl⟩ := hp9
            exact pw_iret hX dX2_miss_91 hrt ⟨by decide, by decide⟩ (by rw [ix_nI hjB, ix_nI hgB]; exact ⟨Or.inl ⟨pc5_0 (fun h => h (ir_nI hj)) (fun h => h (ir_nI hg)) (by rw [ix_nI hjB, ix_nI hgB]; exact fun h => h hw) (fun h => h ⟨Int32.not_lt.mp hc_47, hc_59⟩) (by rw [ix_nI hjB, ix_nI hgB]; exact fun h => h ⟨hc_61, Int32.lt_of_le_of_ne (hP j g hj hg) (fun e => hc_72 e.symm)⟩), rfl, (mw_la (mw_ob hm (oc) (mw_oc hm) td 0 sL) j g hg _)⟩, (fm_up (fm_up fm_rf (x := 0) (by decide) _) (x := 7) (by decide) _)⟩)
          · refine pw_aload_n (pc := 59) hX dX2_miss_59 0 rfl ?_
            refine pw_iconst (pc := 60) (v := 3) hX dX2_miss_60 (by decide) ?_
            refine pw_put (pc := 61) (v := .int 3) hX dX2_miss_61 hm_45 rfl inT_2 tyX2 tyX2_ok nmX2 5 (by decide) fl_RX2_43 rfl (tyX2_ok 5 (by decide)) rfl rfl (Nat.le_of_ble_eq_true rfl) [.int (nI n), .ref (am 1), .ref (am 2), .int (nI oc), .int td, .int 3, .long sL, .ref (am 3), .ref (am 4), .ref (am 5), .ref (am 6), .ref (am 7), .ref (am 8)] rfl ?_
            have hm_83 := pw_ke (a := am 0) (e := .inr (2, [.int (nI n), .ref (am 1), .ref (am 2), .int (nI oc), .int td, .int 3, .long sL, .ref (am 3), .ref (am 4), .ref (am 5), .ref (am 6), .ref (am 7), .ref (am 8)])) hm_37 (mw_ne hm (x := 1) (y := 0) (by decide) (by decide) (by decide))
            have hm_84 := pw_ke (a := am 0) (e := .inr (2, [.int (nI n), .ref (am 1), .ref (am 2), .int (nI oc), .int td, .int 3, .long sL, .ref (am 3), .ref (am 4), .ref (am 5), .ref (am 6), .ref (am 7), .ref (am 8)])) hm_38 (mw_ne hm (x := 2) (y := 0) (by decide) (by decide) (by decide))
            have hm_85 := pw_ke (a := am 0) (e := .inr (2, [.int (nI n), .ref (am 1), .ref (am 2), .int (nI oc), .int td, .int 3, .long sL, .ref (am 3), .ref (am 4), .ref (am 5), .ref (am 6), .ref (am 7), .ref (am 8)])) hm_39 (mw_ne hm (x := 3) (y := 0) (by decide) (by decide) (by decide))
            have hm_86 := pw_ke (a := am 0) (e := .inr (2, [.int (nI n), .ref (am 1), .ref (am 2), .int (nI oc), .int td, .int 3, .long sL, .ref (am 3), .ref (am 4), .ref (am 5), .ref (am 6), .ref (am 7), .ref (am 8)])) hm_40 (mw_ne hm (x := 4) (y := 0) (by decide) (by decide) (by decide))
            have hm_87 := pw_ke (a := am 0) (e := .inr (2, [.int (nI n), .ref (am 1), .ref (am 2), .int (nI oc), .int td, .int 3, .long sL, .ref (am 3), .ref (am 4), .ref (am 5), .ref (am 6), .ref (am 7), .ref (am 8)])) hm_41 (mw_ne hm (x := 5) (y := 0) (by decide) (by decide) (by decide))
            have hm_88 := pw_ke (a := am 0) (e := .inr (2, [.int (nI n), .ref (am 1), .ref (am 2), .int (nI oc), .int td, .int 3, .long sL, .ref (am 3), .ref (am 4), .ref (am 5), .ref (am 6), .ref (am 7), .ref (am 8)])) hm_42 (mw_ne hm (x := 6) (y := 0) (by decide) (by decide) (by decide))
            have hm_89 := pw_ke (a := am 0) (e := .inr (2, [.int (nI n), .ref (am 1), .ref (am 2), .int (nI oc), .int td, .int 3, .long sL, .ref (am 3), .ref (am 4), .ref (am 5), .ref (am 6), .ref (am 7), .ref (am 8)])) hm_43 (mw_ne hm (x := 7) (y := 0) (by decide) (by decide) (by decide))
            have hm_90 := pw_ke (a := am 0) (e := .inr (2, [.int (nI n), .ref (am 1), .ref (am 2), .int (nI oc), .int td, .int 3, .long sL, .ref (am 3), .ref (am 4), .ref (am 5), .ref (am 6), .ref (am 7), .ref (am 8)])) hm_44 (mw_ne hm (x := 8) (y := 0) (by decide) (by decide) (by decide))
            have hm_91 : pw_up (pw_up M (am 0) (.inr (2, [.int (nI n), .ref (am 1), .ref (am 2), .int (nI oc), .int td, .int 0, .long sL, .ref (am 3), .ref (am 4), .ref (am 5), .ref (am 6), .ref (am 7), .ref (am 8)]))) (am 0) (.inr (2, [.int (nI n), .ref (am 1), .ref (am 2), .int (nI oc), .int td, .int 3, .long sL, .ref (am 3), .ref (am 4), .ref (am 5), .ref (am 6), .ref (am 7), .ref (am 8)])) (am 0) = some (.inr (2, [.int (nI n), .ref (am 1), .ref (am 2), .int (nI oc), .int td, .int 3, .long sL, .ref (am 3), .ref (am 4), .ref (am 5), .ref (am 6), .ref (am 7), .ref (am 8)])) := pw_us
            refine pw_aload_n (pc := 64) hX dX2_miss_64 0 rfl ?_
            refine pw_get (pc := 65) hX dX2_miss_65 hm_91 rfl inT_2 5 (by decide) fl_RX2_43 rfl ?_
            refine pw_if_eq (pc := 68) hX 73 dX2_miss_68 (by decide) (fun h => absurd h (by decide)) (fun _ => ?_)
            refine pw_iconst (pc := 71) (v := 0) hX dX2_miss_71 (by decide) ?_
            exact pw_iret hX dX2_miss_72 hrt ⟨by decide, by decide⟩ ⟨Or.inr ⟨by rw [show cd_miss oc os wa pr (nI j) (nI g) p2 = 3 from pc5_5 (fun h => h (ir_nI hj)) (fun h => h (ir_nI hg)) (by rw [ix_nI hjB, ix_nI hgB]; exact fun h => h hw) (fun h => h ⟨Int32.not_lt.mp hc_47, hc_59⟩) (by rw [ix_nI hjB, ix_nI hgB, hc_72]; exact fun h => absurd h.2 (by decide))]; decide, ⟨_, rfl⟩, by rw [show cd_miss oc os wa pr (nI j) (nI g) p2 = 3 from pc5_5 (fun h => h (ir_nI hj)) (fun h => h (ir_nI hg)) (by rw [ix_nI hjB, ix_nI hgB]; exact fun h => h hw) (fun h => h ⟨Int32.not_lt.mp hc_47, hc_59⟩) (by rw [ix_nI hjB, ix_nI hgB, hc_72]; exact fun h => absurd h.2 (by decide))]; exact (mw_ob (mw_ob hm (oc) (mw_oc hm) td 0 sL) (oc) (mw_oc hm) td 3 sL)⟩, (fm_up (fm_up fm_rf (x := 0) (by decide) _) (x := 0) (by decide) _)⟩
      · refine pw_aload_n (pc := 28) hX dX2_miss_28 0 rfl ?_
        refine pw_iconst (pc := 29) (v := 2) hX dX2_miss_29 (by decide) ?_
        refine pw_put (pc := 30) (v := .int 2) hX dX2_miss_30 hm_45 rfl inT_2 tyX2 tyX2_ok nmX2 5 (by decide) fl_RX2_43 rfl (tyX2_ok 5 (by decide)) rfl rfl (Nat.le_of_ble_eq_true rfl) [.int (nI n), .ref (am 1), .ref (am 2), .int (nI oc), .int td, .int 2, .long sL, .ref (am 3), .ref (am 4), .ref (am 5), .ref (am 6), .ref (am 7), .ref (am 8)] rfl ?_
        have hm_93 := pw_ke (a := am 0) (e := .inr (2, [.int (nI n), .ref (am 1), .ref (am 2), .int (nI oc), .int td, .int 2, .long sL, .ref (am 3), .ref (am 4), .ref (am 5), .ref (am 6), .ref (am 7), .ref (am 8)])) hm_37 (mw_ne hm (x := 1) (y := 0) (by decide) (by decide) (by decide))
        have hm_94 := pw_ke (a := am 0) (e := .inr (2, [.int (nI n), .ref (am 1), .ref (am 2), .int (nI oc), .int td, .int 2, .long sL, .ref (am 3), .ref (am 4), .ref (am 5), .ref (am 6), .ref (am 7), .ref (am 8)])) hm_38 (mw_ne hm (x := 2) (y := 0) (by decide) (by decide) (by decide))
        have hm_95 := pw_ke (a := am 0) (e := .inr (2, [.int (nI n), .ref (am 1), .ref (am 2), .int (nI oc), .int td, .int 2, .long sL, .ref (am 3), .ref (am 4), .ref (am 5), .ref (am 6), .ref (am 7), .ref (am 8)])) hm_39 (mw_ne hm (x := 3) (y := 0) (by decide) (by decide) (by decide))
        have hm_96 := pw_ke (a := am 0) (e := .inr (2, [.int (nI n), .ref (am 1), .ref (am 2), .int (nI oc), .int td, .int 2, .long sL, .ref (am 3), .ref (am 4), .ref (am 5), .ref (am 6), .ref (am 7), .ref (am 8)])) hm_40 (mw_ne hm (x := 4) (y := 0) (by decide) (by decide) (by decide))
        have hm_97 := pw_ke (a := am 0) (e := .inr (2, [.int (nI n), .ref (am 1), .ref (am 2), .int (nI oc), .int td, .int 2, .long sL, .ref (am 3), .ref (am 4), .ref (am 5), .ref (am 6), .ref (am 7), .ref (am 8)])) hm_41 (mw_ne hm (x := 5) (y := 0) (by decide) (by decide) (by decide))
        have hm_98 := pw_ke (a := am 0) (e := .inr (2, [.int (nI n), .ref (am 1), .ref (am 2), .int (nI oc), .int td, .int 2, .long sL, .ref (am 3), .ref (am 4), .ref (am 5), .ref (am 6), .ref (am 7), .ref (am 8)])) hm_42 (mw_ne hm (x := 6) (y := 0) (by decide) (by decide) (by decide))
        have hm_99 := pw_ke (a := am 0) (e := .inr (2, [.int (nI n), .ref (am 1), .ref (am 2), .int (nI oc), .int td, .int 2, .long sL, .ref (am 3), .ref (am 4), .ref (am 5), .ref (am 6), .ref (am 7), .ref (am 8)])) hm_43 (mw_ne hm (x := 7) (y := 0) (by decide) (by decide) (by decide))
        have hm_100 := pw_ke (a := am 0) (e := .inr (2, [.int (nI n), .ref (am 1), .ref (am 2), .int (nI oc), .int td, .int 2, .long sL, .ref (am 3), .ref (am 4), .ref (am 5), .ref (am 6), .ref (am 7), .ref (am 8)])) hm_44 (mw_ne hm (x := 8) (y := 0) (by decide) (by decide) (by decide))
        have hm_101 : pw_up (pw_up M (am 0) (.inr (2, [.int (nI n), .ref (am 1), .ref (am 2), .int (nI oc), .int td, .int 0, .long sL, .ref (am 3), .ref (am 4), .ref (am 5), .ref (am 6), .ref (am 7), .ref (am 8)]))) (am 0) (.inr (2, [.int (nI n), .ref (am 1), .ref (am 2), .int (nI oc), .int td, .int 2, .long sL, .ref (am 3), .ref (am 4), .ref (am 5), .ref (am 6), .ref (am 7), .ref (am 8)])) (am 0) = some (.inr (2, [.int (nI n), .ref (am 1), .ref (am 2), .int (nI oc), .int td, .int 2, .long sL, .ref (am 3), .ref (am 4), .ref (am 5), .ref (am 6), .ref (am 7), .ref (am 8)])) := pw_us
        refine pw_aload_n (pc := 33) hX dX2_miss_33 0 rfl ?_
        refine pw_get (pc := 34) hX dX2_miss_34 hm_101 rfl inT_2 5 (by decide) fl_RX2_43 rfl ?_
        refine pw_if_ne (pc := 37) hX 64 dX2_miss_37 (by decide) (fun _ => ?_) (fun h => absurd h (by decide))
        refine pw_aload_n (pc := 64) hX dX2_miss_64 0 rfl ?_
        refine pw_get (pc := 65) hX dX2_miss_65 hm_101 rfl inT_2 5 (by decide) fl_RX2_43 rfl ?_
        refine pw_if_eq (pc := 68) hX 73 dX2_miss_68 (by decide) (fun h => absurd h (by decide)) (fun _ => ?_)
        refine pw_iconst (pc := 71) (v := 0) hX dX2_miss_71 (by decide) ?_
        exact pw_iret hX dX2_miss_72 hrt ⟨by decide, by decide⟩ ⟨Or.inr ⟨by rw [show cd_miss oc os wa pr (nI j) (nI g) p2 = 2 from pc5_4 (fun h => h (ir_nI hj)) (fun h => h (ir_nI hg)) (by rw [ix_nI hjB, ix_nI hgB]; exact fun h => h hw) (fun h => hc_59 h.2)]; decide, ⟨_, rfl⟩, by rw [show cd_miss oc os wa pr (nI j) (nI g) p2 = 2 from pc5_4 (fun h => h (ir_nI hj)) (fun h => h (ir_nI hg)) (by rw [ix_nI hjB, ix_nI hgB]; exact fun h => h hw) (fun h => hc_59 h.2)]; exact (mw_ob (mw_ob hm (oc) (mw_oc hm) td 0 sL) (oc) (mw_oc hm) td 2 sL)⟩, (fm_up (fm_up fm_rf (x := 0) (by decide) _) (x := 0) (by decide) _)⟩
set_option maxHeartbeats 4000000 in
set_option maxRecDepth 100000 in
theorem mp_day (l : Launch) (hl : l.stackTraces = false) (G : pw_G) (M : pw_M) (am : Nat → Nat) (n oc : Nat) (td th : Int32) (sL : Int64) (dk to er os pl : Nat → Int32) (wa pr la : Nat → Nat → Int32) (hm : mw G am n oc td th sL dk to er os pl wa pr la M) (p0 : Int32) : pw_Met l yX2_day cX2_day 2 none 3 0 0 G [.ref (am 0), .int p0] M (fun v9 M9 => (cd_day td p0 = 0 ∧ v9 = none ∧ mw G am n oc p0 0 sL dk to er os pl wa pr la M9 ∨ ¬ cd_day td p0 = 0 ∧ v9 = none ∧ mw G am n oc td (cd_day td p0) sL dk to er os pl wa pr la M9) ∧ fm am 9 M M9) := by
  refine pw_of hl (by decide +kernel) (Nat.le_of_ble_eq_true rfl) [(0, .ref (am 0)), (1, .int p0)] rfl ?_
  intro p9 e9 s9 m9 args9 below9 meth9 c9 hX hrt hmi
  refine pw_aload_n (pc := 0) hX dX2_day_0 0 rfl ?_
  refine pw_iload_n (pc := 1) hX dX2_day_1 1 rfl ?_
  refine pw_if_lt (pc := 2) hX 12 dX2_day_2 (by decide) (fun hc_1 => ?_) (fun hc_1 => ?_)
  · refine pw_iconst (pc := 12) (v := 1) hX dX2_day_12 (by decide) ?_
    refine pw_goto (pc := 13) hX 29 dX2_day_13 (by decide) ?_
    refine pw_put (pc := 29) (v := .int 1) hX dX2_day_29 hm.1 rfl inT_2 tyX2 tyX2_ok nmX2 5 (by decide) fl_RX2_43 rfl (tyX2_ok 5 (by decide)) rfl rfl (Nat.le_of_ble_eq_true rfl) [.int (nI n), .ref (am 1), .ref (am 2), .int (nI oc), .int td, .int 1, .long sL, .ref (am 3), .ref (am 4), .ref (am 5), .ref (am 6), .ref (am 7), .ref (am 8)] rfl ?_
    have hm_2 := pw_ke (a := am 0) (e := .inr (2, [.int (nI n), .ref (am 1), .ref (am 2), .int (nI oc), .int td, .int 1, .long sL, .ref (am 3), .ref (am 4), .ref (am 5), .ref (am 6), .ref (am 7), .ref (am 8)])) hm.2.1 (mw_ne hm (x := 1) (y := 0) (by decide) (by decide) (by decide))
    have hm_3 := pw_ke (a := am 0) (e := .inr (2, [.int (nI n), .ref (am 1), .ref (am 2), .int (nI oc), .int td, .int 1, .long sL, .ref (am 3), .ref (am 4), .ref (am 5), .ref (am 6), .ref (am 7), .ref (am 8)])) hm.2.2.1 (mw_ne hm (x := 2) (y := 0) (by decide) (by decide) (by decide))
    have hm_4 := pw_ke (a := am 0) (e := .inr (2, [.int (nI n), .ref (am 1), .ref (am 2), .int (nI oc), .int td, .int 1, .long sL, .ref (am 3), .ref (am 4), .ref (am 5), .ref (am 6), .ref (am 7), .ref (am 8)])) hm.2.2.2.1 (mw_ne hm (x := 3) (y := 0) (by decide) (by decide) (by decide))
    have hm_5 := pw_ke (a := am 0) (e := .inr (2, [.int (nI n), .ref (am 1), .ref (am 2), .int (nI oc), .int td, .int 1, .long sL, .ref (am 3), .ref (am 4), .ref (am 5), .ref (am 6), .ref (am 7), .ref (am 8)])) hm.2.2.2.2.1 (mw_ne hm (x := 4) (y := 0) (by decide) (by decide) (by decide))
    have hm_6 := pw_ke (a := am 0) (e := .inr (2, [.int (nI n), .ref (am 1), .ref (am 2), .int (nI oc), .int td, .int 1, .long sL, .ref (am 3), .ref (am 4), .ref (am 5), .ref (am 6), .ref (am 7), .ref (am 8)])) hm.2.2.2.2.2.1 (mw_ne hm (x := 5) (y := 0) (by decide) (by decide) (by decide))
    have hm_7 := pw_ke (a := am 0) (e := .inr (2, [.int (nI n), .ref (am 1), .ref (am 2), .int (nI oc), .int td, .int 1, .long sL, .ref (am 3), .ref (am 4), .ref (am 5), .ref (am 6), .ref (am 7), .ref (am 8)])) hm.2.2.2.2.2.2.1 (mw_ne hm (x := 6) (y := 0) (by decide) (by decide) (by decide))
    have hm_8 := pw_ke (a := am 0) (e := .inr (2, [.int (nI n), .ref (am 1), .ref (am 2), .int (nI oc), .int td, .int 1, .long sL, .ref (am 3), .ref (am 4), .ref (am 5), .ref (am 6), .ref (am 7), .ref (am 8)])) hm.2.2.2.2.2.2.2.1 (mw_ne hm (x := 7) (y := 0) (by decide) (by decide) (by decide))
    have hm_9 := pw_ke (a := am 0) (e := .inr (2, [.int (nI n), .ref (am 1), .ref (am 2), .int (nI oc), .int td, .int 1, .long sL, .ref (am 3), .ref (am 4), .ref (am 5), .ref (am 6), .ref (am 7), .ref (am 8)])) hm.2.2.2.2.2.2.2.2.1 (mw_ne hm (x := 8) (y := 0) (by decide) (by decide) (by decide))
    have hm_10 : pw_up M (am 0) (.inr (2, [.int (nI n), .ref (am 1), .ref (am 2), .int (nI oc), .int td, .int 1, .long sL, .ref (am 3), .ref (am 4), .ref (am 5), .ref (am 6), .ref (am 7), .ref (am 8)])) (am 0) = some (.inr (2, [.int (nI n), .ref (am 1), .ref (am 2), .int (nI oc), .int td, .int 1, .long sL, .ref (am 3), .ref (am 4), .ref (am 5), .ref (am 6), .ref (am 7), .ref (am 8)])) := pw_us
    refine pw_aload_n (pc := 32) hX dX2_day_32 0 rfl ?_
    refine pw_get (pc := 33) hX dX2_day_33 hm_10 rfl inT_2 5 (by decide) fl_RX2_43 rfl ?_
    refine pw_if_ne (pc := 36) hX 44 dX2_day_36 (by decide) (fun _ => ?_) (fun h => absurd h (by decide))
    exact pw_vret hX dX2_day_44 hrt ⟨by decide, by decide⟩ ⟨Or.inr ⟨by rw [show cd_day td p0 = 1 from pc_t (fun h => absurd h.1 (Int32.not_le.mpr hc_1))]; decide, rfl, by rw [show cd_day td p0 = 1 from pc_t (fun h => absurd h.1 (Int32.not_le.mpr hc_1))]; exact (mw_ob hm (oc) (mw_oc hm) td 1 sL)⟩, (fm_up fm_rf (x := 0) (by decide) _)⟩
  · refine pw_iload_n (pc := 5) hX dX2_day_5 1 rfl ?_
    refine pw_sipush (pc := 6) (v := 10000) hX dX2_day_6 (by decide) ?_
    refine pw_icmp_le (pc := 9) hX 16 dX2_day_9 (by decide) (fun hc_12 => ?_) (fun hc_12 => ?_)
    · refine pw_iload_n (pc := 16) hX dX2_day_16 1 rfl ?_
      refine pw_aload_n (pc := 17) hX dX2_day_17 0 rfl ?_
      refine pw_get (pc := 18) hX dX2_day_18 hm.1 rfl inT_2 4 (by decide) fl_RX2_73 rfl ?_
      refine pw_icmp_ge (pc := 21) hX 28 dX2_day_21 (by decide) (fun hc_13 => ?_) (fun hc_13 => ?_)
      · refine pw_iconst (pc := 28) (v := 0) hX dX2_day_28 (by decide) ?_
        refine pw_put (pc := 29) (v := .int 0) hX dX2_day_29 hm.1 rfl inT_2 tyX2 tyX2_ok nmX2 5 (by decide) fl_RX2_43 rfl (tyX2_ok 5 (by decide)) rfl rfl (Nat.le_of_ble_eq_true rfl) [.int (nI n), .ref (am 1), .ref (am 2), .int (nI oc), .int td, .int 0, .long sL, .ref (am 3), .ref (am 4), .ref (am 5), .ref (am 6), .ref (am 7), .ref (am 8)] rfl ?_
        have hm_14 := pw_ke (a := am 0) (e := .inr (2, [.int (nI n), .ref (am 1), .ref (am 2), .int (nI oc), .int td, .int 0, .long sL, .ref (am 3), .ref (am 4), .ref (am 5), .ref (am 6), .ref (am 7), .ref (am 8)])) hm.2.1 (mw_ne hm (x := 1) (y := 0) (by decide) (by decide) (by decide))
        have hm_15 := pw_ke (a := am 0) (e := .inr (2, [.int (nI n), .ref (am 1), .ref (am 2), .int (nI oc), .int td, .int 0, .long sL, .ref (am 3), .ref (am 4), .ref (am 5), .ref (am 6), .ref (am 7), .ref (am 8)])) hm.2.2.1 (mw_ne hm (x := 2) (y := 0) (by decide) (by decide) (by decide))
        have hm_16 := pw_ke (a := am 0) (e := .inr (2, [.int (nI n), .ref (am 1), .ref (am 2), .int (nI oc), .int td, .int 0, .long sL, .ref (am 3), .ref (am 4), .ref (am 5), .ref (am 6), .ref (am 7), .ref (am 8)])) hm.2.2.2.1 (mw_ne hm (x := 3) (y := 0) (by decide) (by decide) (by decide))
        have hm_17 := pw_ke (a := am 0) (e := .inr (2, [.int (nI n), .ref (am 1), .ref (am 2), .int (nI oc), .int td, .int 0, .long sL, .ref (am 3), .ref (am 4), .ref (am 5), .ref (am 6), .ref (am 7), .ref (am 8)])) hm.2.2.2.2.1 (mw_ne hm (x := 4) (y := 0) (by decide) (by decide) (by decide))
        have hm_18 := pw_ke (a := am 0) (e := .inr (2, [.int (nI n), .ref (am 1), .ref (am 2), .int (nI oc), .int td, .int 0, .long sL, .ref (am 3), .ref (am 4), .ref (am 5), .ref (am 6), .ref (am 7), .ref (am 8)])) hm.2.2.2.2.2.1 (mw_ne hm (x := 5) (y := 0) (by decide) (by decide) (by decide))
        have hm_19 := pw_ke (a := am 0) (e := .inr (2, [.int (nI n), .ref (am 1), .ref (am 2), .int (nI oc), .int td, .int 0, .long sL, .ref (am 3), .ref (am 4), .ref (am 5), .ref (am 6), .ref (am 7), .ref (am 8)])) hm.2.2.2.2.2.2.1 (mw_ne hm (x := 6) (y := 0) (by decide) (by decide) (by decide))
        have hm_20 := pw_ke (a := am 0) (e := .inr (2, [.int (nI n), .ref (am 1), .ref (am 2), .int (nI oc), .int td, .int 0, .long sL, .ref (am 3), .ref (am 4), .ref (am 5), .ref (am 6), .ref (am 7), .ref (am 8)])) hm.2.2.2.2.2.2.2.1 (mw_ne hm (x := 7) (y := 0) (by decide) (by decide) (by decide))
        have hm_21 := pw_ke (a := am 0) (e := .inr (2, [.int (nI n), .ref (am 1), .ref (am 2), .int (nI oc), .int td, .int 0, .long sL, .ref (am 3), .ref (am 4), .ref (am 5), .ref (am 6), .ref (am 7), .ref (am 8)])) hm.2.2.2.2.2.2.2.2.1 (mw_ne hm (x := 8) (y := 0) (by decide) (by decide) (by decide))
        have hm_22 : pw_up M (am 0) (.inr (2, [.int (nI n), .ref (am 1), .ref (am 2), .int (nI oc), .int td, .int 0, .long sL, .ref (am 3), .ref (am 4), .ref (am 5), .ref (am 6), .ref (am 7), .ref (am 8)])) (am 0) = some (.inr (2, [.int (nI n), .ref (am 1), .ref (am 2), .int (nI oc), .int td, .int 0, .long sL, .ref (am 3), .ref (am 4), .ref (am 5), .ref (am 6), .ref (am 7), .ref (am 8)])) := pw_us
        refine pw_aload_n (pc := 32) hX dX2_day_32 0 rfl ?_
        refine pw_get (pc := 33) hX dX2_day_33 hm_22 rfl inT_2 5 (by decide) fl_RX2_43 rfl ?_
        refine pw_if_ne (pc := 36) hX 44 dX2_day_36 (by decide) (fun h => absurd h (by decide)) (fun _ => ?_)
        refine pw_aload_n (pc := 39) hX dX2_day_39 0 rfl ?_
        refine pw_iload_n (pc := 40) hX dX2_day_40 1 rfl ?_
        refine pw_put (pc := 41) (v := .int p0) hX dX2_day_41 hm_22 rfl inT_2 tyX2 tyX2_ok nmX2 4 (by decide) fl_RX2_73 rfl (tyX2_ok 4 (by decide)) rfl rfl (Nat.le_of_ble_eq_true rfl) [.int (nI n), .ref (am 1), .ref (am 2), .int (nI oc), .int p0, .int 0, .long sL, .ref (am 3), .ref (am 4), .ref (am 5), .ref (am 6), .ref (am 7), .ref (am 8)] rfl ?_
        have hm_24 := pw_ke (a := am 0) (e := .inr (2, [.int (nI n), .ref (am 1), .ref (am 2), .int (nI oc), .int p0, .int 0, .long sL, .ref (am 3), .ref (am 4), .ref (am 5), .ref (am 6), .ref (am 7), .ref (am 8)])) hm_14 (mw_ne hm (x := 1) (y := 0) (by decide) (by decide) (by decide))
        have hm_25 := pw_ke (a := am 0) (e := .inr (2, [.int (nI n), .ref (am 1), .ref (am 2), .int (nI oc), .int p0, .int 0, .long sL, .ref (am 3), .ref (am 4), .ref (am 5), .ref (am 6), .ref (am 7), .ref (am 8)])) hm_15 (mw_ne hm (x := 2) (y := 0) (by decide) (by decide) (by decide))
        have hm_26 := pw_ke (a := am 0) (e := .inr (2, [.int (nI n), .ref (am 1), .ref (am 2), .int (nI oc), .int p0, .int 0, .long sL, .ref (am 3), .ref (am 4), .ref (am 5), .ref (am 6), .ref (am 7), .ref (am 8)])) hm_16 (mw_ne hm (x := 3) (y := 0) (by decide) (by decide) (by decide))
        have hm_27 := pw_ke (a := am 0) (e := .inr (2, [.int (nI n), .ref (am 1), .ref (am 2), .int (nI oc), .int p0, .int 0, .long sL, .ref (am 3), .ref (am 4), .ref (am 5), .ref (am 6), .ref (am 7), .ref (am 8)])) hm_17 (mw_ne hm (x := 4) (y := 0) (by decide) (by decide) (by decide))
        have hm_28 := pw_ke (a := am 0) (e := .inr (2, [.int (nI n), .ref (am 1), .ref (am 2), .int (nI oc), .int p0, .int 0, .long sL, .ref (am 3), .ref (am 4), .ref (am 5), .ref (am 6), .ref (am 7), .ref (am 8)])) hm_18 (mw_ne hm (x := 5) (y := 0) (by decide) (by decide) (by decide))
        have hm_29 := pw_ke (a := am 0) (e := .inr (2, [.int (nI n), .ref (am 1), .ref (am 2), .int (nI oc), .int p0, .int 0, .long sL, .ref (am 3), .ref (am 4), .ref (am 5), .ref (am 6), .ref (am 7), .ref (am 8)])) hm_19 (mw_ne hm (x := 6) (y := 0) (by decide) (by decide) (by decide))
        have hm_30 := pw_ke (a := am 0) (e := .inr (2, [.int (nI n), .ref (am 1), .ref (am 2), .int (nI oc), .int p0, .int 0, .long sL, .ref (am 3), .ref (am 4), .ref (am 5), .ref (am 6), .ref (am 7), .ref (am 8)])) hm_20 (mw_ne hm (x := 7) (y := 0) (by decide) (by decide) (by decide))
        have hm_31 := pw_ke (a := am 0) (e := .inr (2, [.int (nI n), .ref (am 1), .ref (am 2), .int (nI oc), .int p0, .int 0, .long sL, .ref (am 3), .ref (am 4), .ref (am 5), .ref (am 6), .ref (am 7), .ref (am 8)])) hm_21 (mw_ne hm (x := 8) (y := 0) (by decide) (by decide) (by decide))
        have hm_32 : pw_up (pw_up M (am 0) (.inr (2, [.int (nI n), .ref (am 1), .ref (am 2), .int (nI oc), .int td, .int 0, .long sL, .ref (am 3), .ref (am 4), .ref (am 5), .ref (am 6), .ref (am 7), .ref (am 8)]))) (am 0) (.inr (2, [.int (nI n), .ref (am 1), .ref (am 2), .int (nI oc), .int p0, .int 0, .long sL, .ref (am 3), .ref (am 4), .ref (am 5), .ref (am 6), .ref (am 7), .ref (am 8)])) (am 0) = some (.inr (2, [.int (nI n), .ref (am 1), .ref (am 2), .int (nI oc), .int p0, .int 0, .long sL, .ref (am 3), .ref (am 4), .ref (am 5), .ref (am 6), .ref (am 7), .ref (am 8)])) := pw_us
        exact pw_vret hX dX2_day_44 hrt ⟨by decide, by decide⟩ ⟨Or.inl ⟨pc2_0 (fun h => h ⟨Int32.not_lt.mp hc_1, hc_12⟩) (Int32.not_lt.mpr hc_13), rfl, (mw_ob (mw_ob hm (oc) (mw_oc hm) td 0 sL) (oc) (mw_oc hm) p0 0 sL)⟩, (fm_up (fm_up fm_rf (x := 0) (by decide) _) (x := 0) (by decide) _)⟩
      · refine pw_iconst (pc := 24) (v := 2) hX dX2_day_24 (by decide) ?_
        refine pw_goto (pc := 25) hX 29 dX2_day_25 (by decide) ?_
        refine pw_put (pc := 29) (v := .int 2) hX dX2_day_29 hm.1 rfl inT_2 tyX2 tyX2_ok nmX2 5 (by decide) fl_RX2_43 rfl (tyX2_ok 5 (by decide)) rfl rfl (Nat.le_of_ble_eq_true rfl) [.int (nI n), .ref (am 1), .ref (am 2), .int (nI oc), .int td, .int 2, .long sL, .ref (am 3), .ref (am 4), .ref (am 5), .ref (am 6), .ref (am 7), .ref (am 8)] rfl ?_
        have hm_33 := pw_ke (a := am 0) (e := .inr (2, [.int (nI n), .ref (am 1), .ref (am 2), .int (nI oc), .int td, .int 2, .long sL, .ref (am 3), .ref (am 4), .ref (am 5), .ref (am 6), .ref (am 7), .ref (am 8)])) hm.2.1 (mw_ne hm (x := 1) (y := 0) (by decide) (by decide) (by decide))
        have hm_34 := pw_ke (a := am 0) (e := .inr (2, [.int (nI n), .ref (am 1), .ref (am 2), .int (nI oc), .int td, .int 2, .long sL, .ref (am 3), .ref (am 4), .ref (am 5), .ref (am 6), .ref (am 7), .ref (am 8)])) hm.2.2.1 (mw_ne hm (x := 2) (y := 0) (by decide) (by decide) (by decide))
        have hm_35 := pw_ke (a := am 0) (e := .inr (2, [.int (nI n), .ref (am 1), .ref (am 2), .int (nI oc), .int td, .int 2, .long sL, .ref (am 3), .ref (am 4), .ref (am 5), .ref (am 6), .ref (am 7), .ref (am 8)])) hm.2.2.2.1 (mw_ne hm (x := 3) (y := 0) (by decide) (by decide) (by decide))
        have hm_36 := pw_ke (a := am 0) (e := .inr (2, [.int (nI n), .ref (am 1), .ref (am 2), .int (nI oc), .int td, .int 2, .long sL, .ref (am 3), .ref (am 4), .ref (am 5), .ref (am 6), .ref (am 7), .ref (am 8)])) hm.2.2.2.2.1 (mw_ne hm (x := 4) (y := 0) (by decide) (by decide) (by decide))
        have hm_37 := pw_ke (a := am 0) (e := .inr (2, [.int (nI n), .ref (am 1), .ref (am 2), .int (nI oc), .int td, .int 2, .long sL, .ref (am 3), .ref (am 4), .ref (am 5), .ref (am 6), .ref (am 7), .ref (am 8)])) hm.2.2.2.2.2.1 (mw_ne hm (x := 5) (y := 0) (by decide) (by decide) (by decide))
        have hm_38 := pw_ke (a := am 0) (e := .inr (2, [.int (nI n), .ref (am 1), .ref (am 2), .int (nI oc), .int td, .int 2, .long sL, .ref (am 3), .ref (am 4), .ref (am 5), .ref (am 6), .ref (am 7), .ref (am 8)])) hm.2.2.2.2.2.2.1 (mw_ne hm (x := 6) (y := 0) (by decide) (by decide) (by decide))
        have hm_39 := pw_ke (a := am 0) (e := .inr (2, [.int (nI n), .ref (am 1), .ref (am 2), .int (nI oc), .int td, .int 2, .long sL, .ref (am 3), .ref (am 4), .ref (am 5), .ref (am 6), .ref (am 7), .ref (am 8)])) hm.2.2.2.2.2.2.2.1 (mw_ne hm (x := 7) (y := 0) (by decide) (by decide) (by decide))
        have hm_40 := pw_ke (a := am 0) (e := .inr (2, [.int (nI n), .ref (am 1), .ref (am 2), .int (nI oc), .int td, .int 2, .long sL, .ref (am 3), .ref (am 4), .ref (am 5), .ref (am 6), .ref (am 7), .ref (am 8)])) hm.2.2.2.2.2.2.2.2.1 (mw_ne hm (x := 8) (y := 0) (by decide) (by decide) (by decide))
        have hm_41 : pw_up M (am 0) (.inr (2, [.int (nI n), .ref (am 1), .ref (am 2), .int (nI oc), .int td, .int 2, .long sL, .ref (am 3), .ref (am 4), .ref (am 5), .ref (am 6), .ref (am 7), .ref (am 8)])) (am 0) = some (.inr (2, [.int (nI n), .ref (am 1), .ref (am 2), .int (nI oc), .int td, .int 2, .long sL, .ref (am 3), .ref (am 4), .ref (am 5), .ref (am 6), .ref (am 7), .ref (am 8)])) := pw_us
        refine pw_aload_n (pc := 32) hX dX2_day_32 0 rfl ?_
        refine pw_get (pc := 33) hX dX2_day_33 hm_41 rfl inT_2 5 (by decide) fl_RX2_43 rfl ?_
        refine pw_if_ne (pc := 36) hX 44 dX2_day_36 (by decide) (fun _ => ?_) (fun h => absurd h (by decide))
        exact pw_vret hX dX2_day_44 hrt ⟨by decide, by decide⟩ ⟨Or.inr ⟨by rw [show cd_day td p0 = 2 from pc2_2 (fun h => h ⟨Int32.not_lt.mp hc_1, hc_12⟩) (Int32.not_le.mp hc_13)]; decide, rfl, by rw [show cd_day td p0 = 2 from pc2_2 (fun h => h ⟨Int32.not_lt.mp hc_1, hc_12⟩) (Int32.not_le.mp hc_13)]; exact (mw_ob hm (oc) (mw_oc hm) td 2 sL)⟩, (fm_up fm_rf (x := 0) (by decide) _)⟩
    · refine pw_iconst (pc := 12) (v := 1) hX dX2_day_12 (by decide) ?_
      refine pw_goto (pc := 13) hX 29 dX2_day_13 (by decide) ?_
      refine pw_put (pc := 29) (v := .int 1) hX dX2_day_29 hm.1 rfl inT_2 tyX2 tyX2_ok nmX2 5 (by decide) fl_RX2_43 rfl (tyX2_ok 5 (by decide)) rfl rfl (Nat.le_of_ble_eq_true rfl) [.int (nI n), .ref (am 1), .ref (am 2), .int (nI oc), .int td, .int 1, .long sL, .ref (am 3), .ref (am 4), .ref (am 5), .ref (am 6), .ref (am 7), .ref (am 8)] rfl ?_
      have hm_43 := pw_ke (a := am 0) (e := .inr (2, [.int (nI n), .ref (am 1), .ref (am 2), .int (nI oc), .int td, .int 1, .long sL, .ref (am 3), .ref (am 4), .ref (am 5), .ref (am 6), .ref (am 7), .ref (am 8)])) hm.2.1 (mw_ne hm (x := 1) (y := 0) (by decide) (by decide) (by decide))
      have hm_44 := pw_ke (a := am 0) (e := .inr (2, [.int (nI n), .ref (am 1), .ref (am 2), .int (nI oc), .int td, .int 1, .long sL, .ref (am 3), .ref (am 4), .ref (am 5), .ref (am 6), .ref (am 7), .ref (am 8)])) hm.2.2.1 (mw_ne hm (x := 2) (y := 0) (by decide) (by decide) (by decide))
      have hm_45 := pw_ke (a := am 0) (e := .inr (2, [.int (nI n), .ref (am 1), .ref (am 2), .int (nI oc), .int td, .int 1, .long sL, .ref (am 3), .ref (am 4), .ref (am 5), .ref (am 6), .ref (am 7), .ref (am 8)])) hm.2.2.2.1 (mw_ne hm (x := 3) (y := 0) (by decide) (by decide) (by decide))
      have hm_46 := pw_ke (a := am 0) (e := .inr (2, [.int (nI n), .ref (am 1), .ref (am 2), .int (nI oc), .int td, .int 1, .long sL, .ref (am 3), .ref (am 4), .ref (am 5), .ref (am 6), .ref (am 7), .ref (am 8)])) hm.2.2.2.2.1 (mw_ne hm (x := 4) (y := 0) (by decide) (by decide) (by decide))
      have hm_47 := pw_ke (a := am 0) (e := .inr (2, [.int (nI n), .ref (am 1), .ref (am 2), .int (nI oc), .int td, .int 1, .long sL, .ref (am 3), .ref (am 4), .ref (am 5), .ref (am 6), .ref (am 7), .ref (am 8)])) hm.2.2.2.2.2.1 (mw_ne hm (x := 5) (y := 0) (by decide) (by decide) (by decide))
      have hm_48 := pw_ke (a := am 0) (e := .inr (2, [.int (nI n), .ref (am 1), .ref (am 2), .int (nI oc), .int td, .int 1, .long sL, .ref (am 3), .ref (am 4), .ref (am 5), .ref (am 6), .ref (am 7), .ref (am 8)])) hm.2.2.2.2.2.2.1 (mw_ne hm (x := 6) (y := 0) (by decide) (by decide) (by decide))
      have hm_49 := pw_ke (a := am 0) (e := .inr (2, [.int (nI n), .ref (am 1), .ref (am 2), .int (nI oc), .int td, .int 1, .long sL, .ref (am 3), .ref (am 4), .ref (am 5), .ref (am 6), .ref (am 7), .ref (am 8)])) hm.2.2.2.2.2.2.2.1 (mw_ne hm (x := 7) (y := 0) (by decide) (by decide) (by decide))
      have hm_50 := pw_ke (a := am 0) (e := .inr (2, [.int (nI n), .ref (am 1), .ref (am 2), .int (nI oc), .int td, .int 1, .long sL, .ref (am 3), .ref (am 4), .ref (am 5), .ref (am 6), .ref (am 7), .ref (am 8)])) hm.2.2.2.2.2.2.2.2.1 (mw_ne hm (x := 8) (y := 0) (by decide) (by decide) (by decide))
      have hm_51 : pw_up M (am 0) (.inr (2, [.int (nI n), .ref (am 1), .ref (am 2), .int (nI oc), .int td, .int 1, .long sL, .ref (am 3), .ref (am 4), .ref (am 5), .ref (am 6), .ref (am 7), .ref (am 8)])) (am 0) = some (.inr (2, [.int (nI n), .ref (am 1), .ref (am 2), .int (nI oc), .int td, .int 1, .long sL, .ref (am 3), .ref (am 4), .ref (am 5), .ref (am 6), .ref (am 7), .ref (am 8)])) := pw_us
      refine pw_aload_n (pc := 32) hX dX2_day_32 0 rfl ?_
      refine pw_get (pc := 33) hX dX2_day_33 hm_51 rfl inT_2 5 (by decide) fl_RX2_43 rfl ?_
      refine pw_if_ne (pc := 36) hX 44 dX2_day_36 (by decide) (fun _ => ?_) (fun h => absurd h (by decide))
      exact pw_vret hX dX2_day_44 hrt ⟨by decide, by decide⟩ ⟨Or.inr ⟨by rw [show cd_day td p0 = 1 from pc_t (fun h => hc_12 h.2)]; decide, rfl, by rw [show cd_day td p0 = 1 from pc_t (fun h => hc_12 h.2)]; exact (mw_ob hm (oc) (mw_oc hm) td 1 sL)⟩, (fm_up fm_rf (x := 0) (by decide) _)⟩
set_option maxHeartbeats 4000000 in
set_option maxRecDepth 100000 in
theorem mp_change (l : Launch) (hl : l.stackTraces = false) (G : pw_G) (M : pw_M) (am : Nat → Nat) (n oc : Nat) (td th : Int32) (sL : Int64) (dk to er os pl : Nat → Int32) (wa pr la : Nat → Nat → Int32) (hm : mw G am n oc td th sL dk to er os pl wa pr la M) (hS : ∀ j, j < oc → os j = 0 ∨ os j = 1 ∨ os j = 2 ∨ os j = 3) (p0 p1 p2 : Int32) : pw_Met l yX2_change cX2_change 4 (some .boolean) 3 0 0 G [.ref (am 0), .int p0, .int p1, .int p2] M (fun v9 M9 => (cd_change oc os wa p0 p1 p2 = 0 ∧ (v9 = some (.int 0) ∧ p2 < pr (ix p0) (ix p1) ∧ mw G am n oc td 0 sL dk to er os pl wa pr la M9 ∨ v9 = some (.int 1) ∧ pr (ix p0) (ix p1) ≤ p2 ∧ mw G am n oc td 0 sL dk to er os pl (va_up wa (ix p0) (upd (wa (ix p0)) (ix p1) p2)) pr la M9) ∨ ¬ cd_change oc os wa p0 p1 p2 = 0 ∧ (∃ z, v9 = some (.int z)) ∧ mw G am n oc td (cd_change oc os wa p0 p1 p2) sL dk to er os pl wa pr la M9) ∧ fm am 9 M M9) := by
  refine pw_of hl (by decide +kernel) (Nat.le_of_ble_eq_true rfl) [(0, .ref (am 0)), (1, .int p0), (2, .int p1), (3, .int p2)] rfl ?_
  intro p9 e9 s9 m9 args9 below9 meth9 c9 hX hrt hmi
  have hn9 := mw_n hm
  have hoc := mw_oc hm
  refine pw_aload_n (pc := 0) hX dX2_change_0 0 rfl ?_
  refine pw_aload_n (pc := 1) hX dX2_change_1 0 rfl ?_
  refine pw_iload_n (pc := 2) hX dX2_change_2 1 rfl ?_
  refine pw_iload_n (pc := 3) hX dX2_change_3 2 rfl ?_
  refine pw_callV (pc := 4) (st := [.ref (am 0)]) hX (mt_lineRefusal l hl G M am n oc td th sL dk to er os pl wa pr la hm p0 p1) hm.1 rfl ok_X2_lineRefusal lk_RX2_67 dX2_change_4 rfl ⟨⟨by decide, by decide⟩, Nat.le_of_ble_eq_true rfl, Nat.le_of_ble_eq_true rfl, Nat.le_of_ble_eq_true rfl⟩ rfl (fun v9 M9 hp9 => ?_)
  obtain ⟨rfl, ⟨rfl, hno⟩ | ⟨rfl, hij, hno⟩ | ⟨j, g, hj, hg, rfl, rfl, rfl, hw⟩ | ⟨j, g, hj, hg, rfl, rfl, rfl, hw⟩⟩ := hp9
  · refine pw_put (pc := 7) (v := .int 1) hX dX2_change_7 hm.1 rfl inT_2 tyX2 tyX2_ok nmX2 5 (by decide) fl_RX2_43 rfl (tyX2_ok 5 (by decide)) rfl rfl (Nat.le_of_ble_eq_true rfl) [.int (nI n), .ref (am 1), .ref (am 2), .int (nI oc), .int td, .int 1, .long sL, .ref (am 3), .ref (am 4), .ref (am 5), .ref (am 6), .ref (am 7), .ref (am 8)] rfl ?_
    have hm_1 := pw_ke (a := am 0) (e := .inr (2, [.int (nI n), .ref (am 1), .ref (am 2), .int (nI oc), .int td, .int 1, .long sL, .ref (am 3), .ref (am 4), .ref (am 5), .ref (am 6), .ref (am 7), .ref (am 8)])) hm.2.1 (mw_ne hm (x := 1) (y := 0) (by decide) (by decide) (by decide))
    have hm_2 := pw_ke (a := am 0) (e := .inr (2, [.int (nI n), .ref (am 1), .ref (am 2), .int (nI oc), .int td, .int 1, .long sL, .ref (am 3), .ref (am 4), .ref (am 5), .ref (am 6), .ref (am 7), .ref (am 8)])) hm.2.2.1 (mw_ne hm (x := 2) (y := 0) (by decide) (by decide) (by decide))
    have hm_3 := pw_ke (a := am 0) (e := .inr (2, [.int (nI n), .ref (am 1), .ref (am 2), .int (nI oc), .int td, .int 1, .long sL, .ref (am 3), .ref (am 4), .ref (am 5), .ref (am 6), .ref (am 7), .ref (am 8)])) hm.2.2.2.1 (mw_ne hm (x := 3) (y := 0) (by decide) (by decide) (by decide))
    have hm_4 := pw_ke (a := am 0) (e := .inr (2, [.int (nI n), .ref (am 1), .ref (am 2), .int (nI oc), .int td, .int 1, .long sL, .ref (am 3), .ref (am 4), .ref (am 5), .ref (am 6), .ref (am 7), .ref (am 8)])) hm.2.2.2.2.1 (mw_ne hm (x := 4) (y := 0) (by decide) (by decide) (by decide))
    have hm_5 := pw_ke (a := am 0) (e := .inr (2, [.int (nI n), .ref (am 1), .ref (am 2), .int (nI oc), .int td, .int 1, .long sL, .ref (am 3), .ref (am 4), .ref (am 5), .ref (am 6), .ref (am 7), .ref (am 8)])) hm.2.2.2.2.2.1 (mw_ne hm (x := 5) (y := 0) (by decide) (by decide) (by decide))
    have hm_6 := pw_ke (a := am 0) (e := .inr (2, [.int (nI n), .ref (am 1), .ref (am 2), .int (nI oc), .int td, .int 1, .long sL, .ref (am 3), .ref (am 4), .ref (am 5), .ref (am 6), .ref (am 7), .ref (am 8)])) hm.2.2.2.2.2.2.1 (mw_ne hm (x := 6) (y := 0) (by decide) (by decide) (by decide))
    have hm_7 := pw_ke (a := am 0) (e := .inr (2, [.int (nI n), .ref (am 1), .ref (am 2), .int (nI oc), .int td, .int 1, .long sL, .ref (am 3), .ref (am 4), .ref (am 5), .ref (am 6), .ref (am 7), .ref (am 8)])) hm.2.2.2.2.2.2.2.1 (mw_ne hm (x := 7) (y := 0) (by decide) (by decide) (by decide))
    have hm_8 := pw_ke (a := am 0) (e := .inr (2, [.int (nI n), .ref (am 1), .ref (am 2), .int (nI oc), .int td, .int 1, .long sL, .ref (am 3), .ref (am 4), .ref (am 5), .ref (am 6), .ref (am 7), .ref (am 8)])) hm.2.2.2.2.2.2.2.2.1 (mw_ne hm (x := 8) (y := 0) (by decide) (by decide) (by decide))
    have hm_9 : pw_up M (am 0) (.inr (2, [.int (nI n), .ref (am 1), .ref (am 2), .int (nI oc), .int td, .int 1, .long sL, .ref (am 3), .ref (am 4), .ref (am 5), .ref (am 6), .ref (am 7), .ref (am 8)])) (am 0) = some (.inr (2, [.int (nI n), .ref (am 1), .ref (am 2), .int (nI oc), .int td, .int 1, .long sL, .ref (am 3), .ref (am 4), .ref (am 5), .ref (am 6), .ref (am 7), .ref (am 8)])) := pw_us
    refine pw_aload_n (pc := 10) hX dX2_change_10 0 rfl ?_
    refine pw_get (pc := 11) hX dX2_change_11 hm_9 rfl inT_2 5 (by decide) fl_RX2_43 rfl ?_
    refine pw_if_ne (pc := 14) hX 32 dX2_change_14 (by decide) (fun _ => ?_) (fun h => absurd h (by decide))
    refine pw_aload_n (pc := 32) hX dX2_change_32 0 rfl ?_
    refine pw_get (pc := 33) hX dX2_change_33 hm_9 rfl inT_2 5 (by decide) fl_RX2_43 rfl ?_
    refine pw_if_ne (pc := 36) hX 77 dX2_change_36 (by decide) (fun _ => ?_) (fun h => absurd h (by decide))
    refine pw_aload_n (pc := 77) hX dX2_change_77 0 rfl ?_
    refine pw_get (pc := 78) hX dX2_change_78 hm_9 rfl inT_2 5 (by decide) fl_RX2_43 rfl ?_
    refine pw_if_ne (pc := 81) hX 99 dX2_change_81 (by decide) (fun _ => ?_) (fun h => absurd h (by decide))
    refine pw_iconst (pc := 99) (v := 0) hX dX2_change_99 (by decide) ?_
    exact pw_zret hX dX2_change_100 hrt rfl ⟨by decide, by decide⟩ ⟨Or.inr ⟨by rw [show cd_change oc os wa p0 p1 p2 = 1 from pc_t hno]; decide, ⟨_, rfl⟩, by rw [show cd_change oc os wa p0 p1 p2 = 1 from pc_t hno]; exact (mw_ob hm (oc) (mw_oc hm) td 1 sL)⟩, (fm_up fm_rf (x := 0) (by decide) _)⟩
  · refine pw_put (pc := 7) (v := .int 2) hX dX2_change_7 hm.1 rfl inT_2 tyX2 tyX2_ok nmX2 5 (by decide) fl_RX2_43 rfl (tyX2_ok 5 (by decide)) rfl rfl (Nat.le_of_ble_eq_true rfl) [.int (nI n), .ref (am 1), .ref (am 2), .int (nI oc), .int td, .int 2, .long sL, .ref (am 3), .ref (am 4), .ref (am 5), .ref (am 6), .ref (am 7), .ref (am 8)] rfl ?_
    have hm_13 := pw_ke (a := am 0) (e := .inr (2, [.int (nI n), .ref (am 1), .ref (am 2), .int (nI oc), .int td, .int 2, .long sL, .ref (am 3), .ref (am 4), .ref (am 5), .ref (am 6), .ref (am 7), .ref (am 8)])) hm.2.1 (mw_ne hm (x := 1) (y := 0) (by decide) (by decide) (by decide))
    have hm_14 := pw_ke (a := am 0) (e := .inr (2, [.int (nI n), .ref (am 1), .ref (am 2), .int (nI oc), .int td, .int 2, .long sL, .ref (am 3), .ref (am 4), .ref (am 5), .ref (am 6), .ref (am 7), .ref (am 8)])) hm.2.2.1 (mw_ne hm (x := 2) (y := 0) (by decide) (by decide) (by decide))
    have hm_15 := pw_ke (a := am 0) (e := .inr (2, [.int (nI n), .ref (am 1), .ref (am 2), .int (nI oc), .int td, .int 2, .long sL, .ref (am 3), .ref (am 4), .ref (am 5), .ref (am 6), .ref (am 7), .ref (am 8)])) hm.2.2.2.1 (mw_ne hm (x := 3) (y := 0) (by decide) (by decide) (by decide))
    have hm_16 := pw_ke (a := am 0) (e := .inr (2, [.int (nI n), .ref (am 1), .ref (am 2), .int (nI oc), .int td, .int 2, .long sL, .ref (am 3), .ref (am 4), .ref (am 5), .ref (am 6), .ref (am 7), .ref (am 8)])) hm.2.2.2.2.1 (mw_ne hm (x := 4) (y := 0) (by decide) (by decide) (by decide))
    have hm_17 := pw_ke (a := am 0) (e := .inr (2, [.int (nI n), .ref (am 1), .ref (am 2), .int (nI oc), .int td, .int 2, .long sL, .ref (am 3), .ref (am 4), .ref (am 5), .ref (am 6), .ref (am 7), .ref (am 8)])) hm.2.2.2.2.2.1 (mw_ne hm (x := 5) (y := 0) (by decide) (by decide) (by decide))
    have hm_18 := pw_ke (a := am 0) (e := .inr (2, [.int (nI n), .ref (am 1), .ref (am 2), .int (nI oc), .int td, .int 2, .long sL, .ref (am 3), .ref (am 4), .ref (am 5), .ref (am 6), .ref (am 7), .ref (am 8)])) hm.2.2.2.2.2.2.1 (mw_ne hm (x := 6) (y := 0) (by decide) (by decide) (by decide))
    have hm_19 := pw_ke (a := am 0) (e := .inr (2, [.int (nI n), .ref (am 1), .ref (am 2), .int (nI oc), .int td, .int 2, .long sL, .ref (am 3), .ref (am 4), .ref (am 5), .ref (am 6), .ref (am 7), .ref (am 8)])) hm.2.2.2.2.2.2.2.1 (mw_ne hm (x := 7) (y := 0) (by decide) (by decide) (by decide))
    have hm_20 := pw_ke (a := am 0) (e := .inr (2, [.int (nI n), .ref (am 1), .ref (am 2), .int (nI oc), .int td, .int 2, .long sL, .ref (am 3), .ref (am 4), .ref (am 5), .ref (am 6), .ref (am 7), .ref (am 8)])) hm.2.2.2.2.2.2.2.2.1 (mw_ne hm (x := 8) (y := 0) (by decide) (by decide) (by decide))
    have hm_21 : pw_up M (am 0) (.inr (2, [.int (nI n), .ref (am 1), .ref (am 2), .int (nI oc), .int td, .int 2, .long sL, .ref (am 3), .ref (am 4), .ref (am 5), .ref (am 6), .ref (am 7), .ref (am 8)])) (am 0) = some (.inr (2, [.int (nI n), .ref (am 1), .ref (am 2), .int (nI oc), .int td, .int 2, .long sL, .ref (am 3), .ref (am 4), .ref (am 5), .ref (am 6), .ref (am 7), .ref (am 8)])) := pw_us
    refine pw_aload_n (pc := 10) hX dX2_change_10 0 rfl ?_
    refine pw_get (pc := 11) hX dX2_change_11 hm_21 rfl inT_2 5 (by decide) fl_RX2_43 rfl ?_
    refine pw_if_ne (pc := 14) hX 32 dX2_change_14 (by decide) (fun _ => ?_) (fun h => absurd h (by decide))
    refine pw_aload_n (pc := 32) hX dX2_change_32 0 rfl ?_
    refine pw_get (pc := 33) hX dX2_change_33 hm_21 rfl inT_2 5 (by decide) fl_RX2_43 rfl ?_
    refine pw_if_ne (pc := 36) hX 77 dX2_change_36 (by decide) (fun _ => ?_) (fun h => absurd h (by decide))
    refine pw_aload_n (pc := 77) hX dX2_change_77 0 rfl ?_
    refine pw_get (pc := 78) hX dX2_change_78 hm_21 rfl inT_2 5 (by decide) fl_RX2_43 rfl ?_
    refine pw_if_ne (pc := 81) hX 99 dX2_change_81 (by decide) (fun _ => ?_) (fun h => absurd h (by decide))
    refine pw_iconst (pc := 99) (v := 0) hX dX2_change_99 (by decide) ?_
    exact pw_zret hX dX2_change_100 hrt rfl ⟨by decide, by decide⟩ ⟨Or.inr ⟨by rw [show cd_change oc os wa p0 p1 p2 = 2 from pc3_2 (fun h => h hij) hno]; decide, ⟨_, rfl⟩, by rw [show cd_change oc os wa p0 p1 p2 = 2 from pc3_2 (fun h => h hij) hno]; exact (mw_ob hm (oc) (mw_oc hm) td 2 sL)⟩, (fm_up fm_rf (x := 0) (by decide) _)⟩
  · have hjB : j < 2 ^ 31 := Nat.lt_of_lt_of_le hj (Nat.le_trans (mw_oc hm) (by decide))
    have hgB : g < 2 ^ 31 := Nat.lt_of_lt_of_le hg (by decide)
    refine pw_put (pc := 7) (v := .int 1) hX dX2_change_7 hm.1 rfl inT_2 tyX2 tyX2_ok nmX2 5 (by decide) fl_RX2_43 rfl (tyX2_ok 5 (by decide)) rfl rfl (Nat.le_of_ble_eq_true rfl) [.int (nI n), .ref (am 1), .ref (am 2), .int (nI oc), .int td, .int 1, .long sL, .ref (am 3), .ref (am 4), .ref (am 5), .ref (am 6), .ref (am 7), .ref (am 8)] rfl ?_
    have hm_25 := pw_ke (a := am 0) (e := .inr (2, [.int (nI n), .ref (am 1), .ref (am 2), .int (nI oc), .int td, .int 1, .long sL, .ref (am 3), .ref (am 4), .ref (am 5), .ref (am 6), .ref (am 7), .ref (am 8)])) hm.2.1 (mw_ne hm (x := 1) (y := 0) (by decide) (by decide) (by decide))
    have hm_26 := pw_ke (a := am 0) (e := .inr (2, [.int (nI n), .ref (am 1), .ref (am 2), .int (nI oc), .int td, .int 1, .long sL, .ref (am 3), .ref (am 4), .ref (am 5), .ref (am 6), .ref (am 7), .ref (am 8)])) hm.2.2.1 (mw_ne hm (x := 2) (y := 0) (by decide) (by decide) (by decide))
    have hm_27 := pw_ke (a := am 0) (e := .inr (2, [.int (nI n), .ref (am 1), .ref (am 2), .int (nI oc), .int td, .int 1, .long sL, .ref (am 3), .ref (am 4), .ref (am 5), .ref (am 6), .ref (am 7), .ref (am 8)])) hm.2.2.2.1 (mw_ne hm (x := 3) (y := 0) (by decide) (by decide) (by decide))
    have hm_28 := pw_ke (a := am 0) (e := .inr (2, [.int (nI n), .ref (am 1), .ref (am 2), .int (nI oc), .int td, .int 1, .long sL, .ref (am 3), .ref (am 4), .ref (am 5), .ref (am 6), .ref (am 7), .ref (am 8)])) hm.2.2.2.2.1 (mw_ne hm (x := 4) (y := 0) (by decide) (by decide) (by decide))
    have hm_29 := pw_ke (a := am 0) (e := .inr (2, [.int (nI n), .ref (am 1), .ref (am 2), .int (nI oc), .int td, .int 1, .long sL, .ref (am 3), .ref (am 4), .ref (am 5), .ref (am 6), .ref (am 7), .ref (am 8)])) hm.2.2.2.2.2.1 (mw_ne hm (x := 5) (y := 0) (by decide) (by decide) (by decide))
    have hm_30 := pw_ke (a := am 0) (e := .inr (2, [.int (nI n), .ref (am 1), .ref (am 2), .int (nI oc), .int td, .int 1, .long sL, .ref (am 3), .ref (am 4), .ref (am 5), .ref (am 6), .ref (am 7), .ref (am 8)])) hm.2.2.2.2.2.2.1 (mw_ne hm (x := 6) (y := 0) (by decide) (by decide) (by decide))
    have hm_31 := pw_ke (a := am 0) (e := .inr (2, [.int (nI n), .ref (am 1), .ref (am 2), .int (nI oc), .int td, .int 1, .long sL, .ref (am 3), .ref (am 4), .ref (am 5), .ref (am 6), .ref (am 7), .ref (am 8)])) hm.2.2.2.2.2.2.2.1 (mw_ne hm (x := 7) (y := 0) (by decide) (by decide) (by decide))
    have hm_32 := pw_ke (a := am 0) (e := .inr (2, [.int (nI n), .ref (am 1), .ref (am 2), .int (nI oc), .int td, .int 1, .long sL, .ref (am 3), .ref (am 4), .ref (am 5), .ref (am 6), .ref (am 7), .ref (am 8)])) hm.2.2.2.2.2.2.2.2.1 (mw_ne hm (x := 8) (y := 0) (by decide) (by decide) (by decide))
    have hm_33 : pw_up M (am 0) (.inr (2, [.int (nI n), .ref (am 1), .ref (am 2), .int (nI oc), .int td, .int 1, .long sL, .ref (am 3), .ref (am 4), .ref (am 5), .ref (am 6), .ref (am 7), .ref (am 8)])) (am 0) = some (.inr (2, [.int (nI n), .ref (am 1), .ref (am 2), .int (nI oc), .int td, .int 1, .long sL, .ref (am 3), .ref (am 4), .ref (am 5), .ref (am 6), .ref (am 7), .ref (am 8)])) := pw_us
    refine pw_aload_n (pc := 10) hX dX2_change_10 0 rfl ?_
    refine pw_get (pc := 11) hX dX2_change_11 hm_33 rfl inT_2 5 (by decide) fl_RX2_43 rfl ?_
    refine pw_if_ne (pc := 14) hX 32 dX2_change_14 (by decide) (fun _ => ?_) (fun h => absurd h (by decide))
    refine pw_aload_n (pc := 32) hX dX2_change_32 0 rfl ?_
    refine pw_get (pc := 33) hX dX2_change_33 hm_33 rfl inT_2 5 (by decide) fl_RX2_43 rfl ?_
    refine pw_if_ne (pc := 36) hX 77 dX2_change_36 (by decide) (fun _ => ?_) (fun h => absurd h (by decide))
    refine pw_aload_n (pc := 77) hX dX2_change_77 0 rfl ?_
    refine pw_get (pc := 78) hX dX2_change_78 hm_33 rfl inT_2 5 (by decide) fl_RX2_43 rfl ?_
    refine pw_if_ne (pc := 81) hX 99 dX2_change_81 (by decide) (fun _ => ?_) (fun h => absurd h (by decide))
    refine pw_iconst (pc := 99) (v := 0) hX dX2_change_99 (by decide) ?_
    exact pw_zret hX dX2_change_100 hrt rfl ⟨by decide, by decide⟩ ⟨Or.inr ⟨by rw [show cd_change oc os wa (nI j) (nI g) p2 = 1 from pc5_3 (fun h => h (ir_nI hj)) (fun h => h (ir_nI hg)) (by rw [ix_nI hjB, ix_nI hgB]; exact hw)]; decide, ⟨_, rfl⟩, by rw [show cd_change oc os wa (nI j) (nI g) p2 = 1 from pc5_3 (fun h => h (ir_nI hj)) (fun h => h (ir_nI hg)) (by rw [ix_nI hjB, ix_nI hgB]; exact hw)]; exact (mw_ob hm (oc) (mw_oc hm) td 1 sL)⟩, (fm_up fm_rf (x := 0) (by decide) _)⟩
  · have hjB : j < 2 ^ 31 := Nat.lt_of_lt_of_le hj (Nat.le_trans (mw_oc hm) (by decide))
    have hgB : g < 2 ^ 31 := Nat.lt_of_lt_of_le hg (by decide)
    refine pw_put (pc := 7) (v := .int 0) hX dX2_change_7 hm.1 rfl inT_2 tyX2 tyX2_ok nmX2 5 (by decide) fl_RX2_43 rfl (tyX2_ok 5 (by decide)) rfl rfl (Nat.le_of_ble_eq_true rfl) [.int (nI n), .ref (am 1), .ref (am 2), .int (nI oc), .int td, .int 0, .long sL, .ref (am 3), .ref (am 4), .ref (am 5), .ref (am 6), .ref (am 7), .ref (am 8)] rfl ?_
    have hm_37 := pw_ke (a := am 0) (e := .inr (2, [.int (nI n), .ref (am 1), .ref (am 2), .int (nI oc), .int td, .int 0, .long sL, .ref (am 3), .ref (am 4), .ref (am 5), .ref (am 6), .ref (am 7), .ref (am 8)])) hm.2.1 (mw_ne hm (x := 1) (y := 0) (by decide) (by decide) (by decide))
    have hm_38 := pw_ke (a := am 0) (e := .inr (2, [.int (nI n), .ref (am 1), .ref (am 2), .int (nI oc), .int td, .int 0, .long sL, .ref (am 3), .ref (am 4), .ref (am 5), .ref (am 6), .ref (am 7), .ref (am 8)])) hm.2.2.1 (mw_ne hm (x := 2) (y := 0) (by decide) (by decide) (by decide))
    have hm_39 := pw_ke (a := am 0) (e := .inr (2, [.int (nI n), .ref (am 1), .ref (am 2), .int (nI oc), .int td, .int 0, .long sL, .ref (am 3), .ref (am 4), .ref (am 5), .ref (am 6), .ref (am 7), .ref (am 8)])) hm.2.2.2.1 (mw_ne hm (x := 3) (y := 0) (by decide) (by decide) (by decide))
    have hm_40 := pw_ke (a := am 0) (e := .inr (2, [.int (nI n), .ref (am 1), .ref (am 2), .int (nI oc), .int td, .int 0, .long sL, .ref (am 3), .ref (am 4), .ref (am 5), .ref (am 6), .ref (am 7), .ref (am 8)])) hm.2.2.2.2.1 (mw_ne hm (x := 4) (y := 0) (by decide) (by decide) (by decide))
    have hm_41 := pw_ke (a := am 0) (e := .inr (2, [.int (nI n), .ref (am 1), .ref (am 2), .int (nI oc), .int td, .int 0, .long sL, .ref (am 3), .ref (am 4), .ref (am 5), .ref (am 6), .ref (am 7), .ref (am 8)])) hm.2.2.2.2.2.1 (mw_ne hm (x := 5) (y := 0) (by decide) (by decide) (by decide))
    have hm_42 := pw_ke (a := am 0) (e := .inr (2, [.int (nI n), .ref (am 1), .ref (am 2), .int (nI oc), .int td, .int 0, .long sL, .ref (am 3), .ref (am 4), .ref (am 5), .ref (am 6), .ref (am 7), .ref (am 8)])) hm.2.2.2.2.2.2.1 (mw_ne hm (x := 6) (y := 0) (by decide) (by decide) (by decide))
    have hm_43 := pw_ke (a := am 0) (e := .inr (2, [.int (nI n), .ref (am 1), .ref (am 2), .int (nI oc), .int td, .int 0, .long sL, .ref (am 3), .ref (am 4), .ref (am 5), .ref (am 6), .ref (am 7), .ref (am 8)])) hm.2.2.2.2.2.2.2.1 (mw_ne hm (x := 7) (y := 0) (by decide) (by decide) (by decide))
    have hm_44 := pw_ke (a := am 0) (e := .inr (2, [.int (nI n), .ref (am 1), .ref (am 2), .int (nI oc), .int td, .int 0, .long sL, .ref (am 3), .ref (am 4), .ref (am 5), .ref (am 6), .ref (am 7), .ref (am 8)])) hm.2.2.2.2.2.2.2.2.1 (mw_ne hm (x := 8) (y := 0) (by decide) (by decide) (by decide))
    have hm_45 : pw_up M (am 0) (.inr (2, [.int (nI n), .ref (am 1), .ref (am 2), .int (nI oc), .int td, .int 0, .long sL, .ref (am 3), .ref (am 4), .ref (am 5), .ref (am 6), .ref (am 7), .ref (am 8)])) (am 0) = some (.inr (2, [.int (nI n), .ref (am 1), .ref (am 2), .int (nI oc), .int td, .int 0, .long sL, .ref (am 3), .ref (am 4), .ref (am 5), .ref (am 6), .ref (am 7), .ref (am 8)])) := pw_us
    refine pw_aload_n (pc := 10) hX dX2_change_10 0 rfl ?_
    refine pw_get (pc := 11) hX dX2_change_11 hm_45 rfl inT_2 5 (by decide) fl_RX2_43 rfl ?_
    refine pw_if_ne (pc := 14) hX 32 dX2_change_14 (by decide) (fun h => absurd h (by decide)) (fun _ => ?_)
    refine pw_iload_n (pc := 17) hX dX2_change_17 3 rfl ?_
    refine pw_if_lt (pc := 18) hX 27 dX2_change_18 (by decide) (fun hc_47 => ?_) (fun hc_47 => ?_)
    · refine pw_aload_n (pc := 27) hX dX2_change_27 0 rfl ?_
      refine pw_iconst (pc := 28) (v := 2) hX dX2_change_28 (by decide) ?_
      refine pw_put (pc := 29) (v := .int 2) hX dX2_change_29 hm_45 rfl inT_2 tyX2 tyX2_ok nmX2 5 (by decide) fl_RX2_43 rfl (tyX2_ok 5 (by decide)) rfl rfl (Nat.le_of_ble_eq_true rfl) [.int (nI n), .ref (am 1), .ref (am 2), .int (nI oc), .int td, .int 2, .long sL, .ref (am 3), .ref (am 4), .ref (am 5), .ref (am 6), .ref (am 7), .ref (am 8)] rfl ?_
      have hm_48 := pw_ke (a := am 0) (e := .inr (2, [.int (nI n), .ref (am 1), .ref (am 2), .int (nI oc), .int td, .int 2, .long sL, .ref (am 3), .ref (am 4), .ref (am 5), .ref (am 6), .ref (am 7), .ref (am 8)])) hm_37 (mw_ne hm (x := 1) (y := 0) (by decide) (by decide) (by decide))
      have hm_49 := pw_ke (a := am 0) (e := .inr (2, [.int (nI n), .ref (am 1), .ref (am 2), .int (nI oc), .int td, .int 2, .long sL, .ref (am 3), .ref (am 4), .ref (am 5), .ref (am 6), .ref (am 7), .ref (am 8)])) hm_38 (mw_ne hm (x := 2) (y := 0) (by decide) (by decide) (by decide))
      have hm_50 := pw_ke (a := am 0) (e := .inr (2, [.int (nI n), .ref (am 1), .ref (am 2), .int (nI oc), .int td, .int 2, .long sL, .ref (am 3), .ref (am 4), .ref (am 5), .ref (am 6), .ref (am 7), .ref (am 8)])) hm_39 (mw_ne hm (x := 3) (y := 0) (by decide) (by decide) (by decide))
      have hm_51 := pw_ke (a := am 0) (e := .inr (2, [.int (nI n), .ref (am 1), .ref (am 2), .int (nI oc), .int td, .int 2, .long sL, .ref (am 3), .ref (am 4), .ref (am 5), .ref (am 6), .ref (am 7), .ref (am 8)])) hm_40 (mw_ne hm (x := 4) (y := 0) (by decide) (by decide) (by decide))
      have hm_52 := pw_ke (a := am 0) (e := .inr (2, [.int (nI n), .ref (am 1), .ref (am 2), .int (nI oc), .int td, .int 2, .long sL, .ref (am 3), .ref (am 4), .ref (am 5), .ref (am 6), .ref (am 7), .ref (am 8)])) hm_41 (mw_ne hm (x := 5) (y := 0) (by decide) (by decide) (by decide))
      have hm_53 := pw_ke (a := am 0) (e := .inr (2, [.int (nI n), .ref (am 1), .ref (am 2), .int (nI oc), .int td, .int 2, .long sL, .ref (am 3), .ref (am 4), .ref (am 5), .ref (am 6), .ref (am 7), .ref (am 8)])) hm_42 (mw_ne hm (x := 6) (y := 0) (by decide) (by decide) (by decide))
      have hm_54 := pw_ke (a := am 0) (e := .inr (2, [.int (nI n), .ref (am 1), .ref (am 2), .int (nI oc), .int td, .int 2, .long sL, .ref (am 3), .ref (am 4), .ref (am 5), .ref (am 6), .ref (am 7), .ref (am 8)])) hm_43 (mw_ne hm (x := 7) (y := 0) (by decide) (by decide) (by decide))
      have hm_55 := pw_ke (a := am 0) (e := .inr (2, [.int (nI n), .ref (am 1), .ref (am 2), .int (nI oc), .int td, .int 2, .long sL, .ref (am 3), .ref (am 4), .ref (am 5), .ref (am 6), .ref (am 7), .ref (am 8)])) hm_44 (mw_ne hm (x := 8) (y := 0) (by decide) (by decide) (by decide))
      have hm_56 : pw_up (pw_up M (am 0) (.inr (2, [.int (nI n), .ref (am 1), .ref (am 2), .int (nI oc), .int td, .int 0, .long sL, .ref (am 3), .ref (am 4), .ref (am 5), .ref (am 6), .ref (am 7), .ref (am 8)]))) (am 0) (.inr (2, [.int (nI n), .ref (am 1), .ref (am 2), .int (nI oc), .int td, .int 2, .long sL, .ref (am 3), .ref (am 4), .ref (am 5), .ref (am 6), .ref (am 7), .ref (am 8)])) (am 0) = some (.inr (2, [.int (nI n), .ref (am 1), .ref (am 2), .int (nI oc), .int td, .int 2, .long sL, .ref (am 3), .ref (am 4), .ref (am 5), .ref (am 6), .ref (am 7), .ref (am 8)])) := pw_us
      refine pw_aload_n (pc := 32) hX dX2_change_32 0 rfl ?_
      refine pw_get (pc := 33) hX dX2_change_33 hm_56 rfl inT_2 5 (by decide) fl_RX2_43 rfl ?_
      refine pw_if_ne (pc := 36) hX 77 dX2_change_36 (by decide) (fun _ => ?_) (fun h => absurd h (by decide))
      refine pw_aload_n (pc := 77) hX dX2_change_77 0 rfl ?_
      refine pw_get (pc := 78) hX dX2_change_78 hm_56 rfl inT_2 5 (by decide) fl_RX2_43 rfl ?_
      refine pw_if_ne (pc := 81) hX 99 dX2_change_81 (by decide) (fun _ => ?_) (fun h => absurd h (by decide))
      refine pw_iconst (pc := 99) (v := 0) hX dX2_change_99 (by decide) ?_
      exact pw_zret hX dX2_change_100 hrt rfl ⟨by decide, by decide⟩ ⟨Or.inr ⟨by rw [show cd_change oc os wa (nI j) (nI g) p2 = 2 from pc5_4 (fun h => h (ir_nI hj)) (fun h => h (ir_nI hg)) (by rw [ix_nI hjB, ix_nI hgB]; exact fun h => h hw) (fun h => absurd h.1 (Int32.not_le.mpr hc_47))]; decide, ⟨_, rfl⟩, by rw [show cd_change oc os wa (nI j) (nI g) p2 = 2 from pc5_4 (fun h => h (ir_nI hj)) (fun h => h (ir_nI hg)) (by rw [ix_nI hjB, ix_nI hgB]; exact fun h => h hw) (fun h => absurd h.1 (Int32.not_le.mpr hc_47))]; exact (mw_ob (mw_ob hm (oc) (mw_oc hm) td 0 sL) (oc) (mw_oc hm) td 2 sL)⟩, (fm_up (fm_up fm_rf (x := 0) (by decide) _) (x := 0) (by decide) _)⟩
    · refine pw_iload_n (pc := 21) hX dX2_change_21 3 rfl ?_
      refine pw_bipush (pc := 22) (v := 9) hX dX2_change_22 (by decide) ?_
      refine pw_icmp_le (pc := 24) hX 32 dX2_change_24 (by decide) (fun hc_59 => ?_) (fun hc_59 => ?_)
      · refine pw_aload_n (pc := 32) hX dX2_change_32 0 rfl ?_
        refine pw_get (pc := 33) hX dX2_change_33 hm_45 rfl inT_2 5 (by decide) fl_RX2_43 rfl ?_
        refine pw_if_ne (pc := 36) hX 77 dX2_change_36 (by decide) (fun h => absurd h (by decide)) (fun _ => ?_)
        refine pw_aload_n (pc := 39) hX dX2_change_39 0 rfl ?_
        refine pw_get (pc := 40) hX dX2_change_40 hm_45 rfl inT_2 7 (by decide) fl_RX2_21 rfl ?_
        refine pw_iload_n (pc := 43) hX dX2_change_43 1 rfl ?_
        refine pw_iald (pc := 44) (j := j) hX dX2_change_44 hm_39 (by omega) (by decide) ?_
        refine pw_iconst (pc := 45) (v := 2) hX dX2_change_45 (by decide) ?_
        refine pw_icmp_ge (pc := 46) hX 72 dX2_change_46 (by decide) (fun hc_61 => ?_) (fun hc_61 => ?_)
        · refine pw_aload_n (pc := 72) hX dX2_change_72 0 rfl ?_
          refine pw_iconst (pc := 73) (v := 3) hX dX2_change_73 (by decide) ?_
          refine pw_put (pc := 74) (v := .int 3) hX dX2_change_74 hm_45 rfl inT_2 tyX2 tyX2_ok nmX2 5 (by decide) fl_RX2_43 rfl (tyX2_ok 5 (by decide)) rfl rfl (Nat.le_of_ble_eq_true rfl) [.int (nI n), .ref (am 1), .ref (am 2), .int (nI oc), .int td, .int 3, .long sL, .ref (am 3), .ref (am 4), .ref (am 5), .ref (am 6), .ref (am 7), .ref (am 8)] rfl ?_
          have hm_62 := pw_ke (a := am 0) (e := .inr (2, [.int (nI n), .ref (am 1), .ref (am 2), .int (nI oc), .int td, .int 3, .long sL, .ref (am 3), .ref (am 4), .ref (am 5), .ref (am 6), .ref (am 7), .ref (am 8)])) hm_37 (mw_ne hm (x := 1) (y := 0) (by decide) (by decide) (by decide))
          have hm_63 := pw_ke (a := am 0) (e := .inr (2, [.int (nI n), .ref (am 1), .ref (am 2), .int (nI oc), .int td, .int 3, .long sL, .ref (am 3), .ref (am 4), .ref (am 5), .ref (am 6), .ref (am 7), .ref (am 8)])) hm_38 (mw_ne hm (x := 2) (y := 0) (by decide) (by decide) (by decide))
          have hm_64 := pw_ke (a := am 0) (e := .inr (2, [.int (nI n), .ref (am 1), .ref (am 2), .int (nI oc), .int td, .int 3, .long sL, .ref (am 3), .ref (am 4), .ref (am 5), .ref (am 6), .ref (am 7), .ref (am 8)])) hm_39 (mw_ne hm (x := 3) (y := 0) (by decide) (by decide) (by decide))
          have hm_65 := pw_ke (a := am 0) (e := .inr (2, [.int (nI n), .ref (am 1), .ref (am 2), .int (nI oc), .int td, .int 3, .long sL, .ref (am 3), .ref (am 4), .ref (am 5), .ref (am 6), .ref (am 7), .ref (am 8)])) hm_40 (mw_ne hm (x := 4) (y := 0) (by decide) (by decide) (by decide))
          have hm_66 := pw_ke (a := am 0) (e := .inr (2, [.int (nI n), .ref (am 1), .ref (am 2), .int (nI oc), .int td, .int 3, .long sL, .ref (am 3), .ref (am 4), .ref (am 5), .ref (am 6), .ref (am 7), .ref (am 8)])) hm_41 (mw_ne hm (x := 5) (y := 0) (by decide) (by decide) (by decide))
          have hm_67 := pw_ke (a := am 0) (e := .inr (2, [.int (nI n), .ref (am 1), .ref (am 2), .int (nI oc), .int td, .int 3, .long sL, .ref (am 3), .ref (am 4), .ref (am 5), .ref (am 6), .ref (am 7), .ref (am 8)])) hm_42 (mw_ne hm (x := 6) (y := 0) (by decide) (by decide) (by decide))
          have hm_68 := pw_ke (a := am 0) (e := .inr (2, [.int (nI n), .ref (am 1), .ref (am 2), .int (nI oc), .int td, .int 3, .long sL, .ref (am 3), .ref (am 4), .ref (am 5), .ref (am 6), .ref (am 7), .ref (am 8)])) hm_43 (mw_ne hm (x := 7) (y := 0) (by decide) (by decide) (by decide))
          have hm_69 := pw_ke (a := am 0) (e := .inr (2, [.int (nI n), .ref (am 1), .ref (am 2), .int (nI oc), .int td, .int 3, .long sL, .ref (am 3), .ref (am 4), .ref (am 5), .ref (am 6), .ref (am 7), .ref (am 8)])) hm_44 (mw_ne hm (x := 8) (y := 0) (by decide) (by decide) (by decide))
          have hm_70 : pw_up (pw_up M (am 0) (.inr (2, [.int (nI n), .ref (am 1), .ref (am 2), .int (nI oc), .int td, .int 0, .long sL, .ref (am 3), .ref (am 4), .ref (am 5), .ref (am 6), .ref (am 7), .ref (am 8)]))) (am 0) (.inr (2, [.int (nI n), .ref (am 1), .ref (am 2), .int (nI oc), .int td, .int 3, .long sL, .ref (am 3), .ref (am 4), .ref (am 5), .ref (am 6), .ref (am 7), .ref (am 8)])) (am 0) = some (.inr (2, [.int (nI n), .ref (am 1), .ref (am 2), .int (nI oc), .int td, .int 3, .long sL, .ref (am 3), .ref (am 4), .ref (am 5), .ref (am 6), .ref (am 7), .ref (am 8)])) := pw_us
          refine pw_aload_n (pc := 77) hX dX2_change_77 0 rfl ?_
          refine pw_get (pc := 78) hX dX2_change_78 hm_70 rfl inT_2 5 (by decide) fl_RX2_43 rfl ?_
          refine pw_if_ne (pc := 81) hX 99 dX2_change_81 (by decide) (fun _ => ?_) (fun h => absurd h (by decide))
          refine pw_iconst (pc := 99) (v := 0) hX dX2_change_99 (by decide) ?_
          exact pw_zret hX dX2_change_100 hrt rfl ⟨by decide, by decide⟩ ⟨Or.inr ⟨by rw [show cd_change oc os wa (nI j) (nI g) p2 = 3 from pc5_5 (fun h => h (ir_nI hj)) (fun h => h (ir_nI hg)) (by rw [ix_nI hjB, ix_nI hgB]; exact fun h => h hw) (fun h => h ⟨Int32.not_lt.mp hc_47, hc_59⟩) (by rw [ix_nI hjB]; exact fun h => h.1.elim (fun e => absurd hc_61 (by rw [e]; decide)) (fun e => absurd hc_61 (by rw [e]; decide)))]; decide, ⟨_, rfl⟩, by rw [show cd_change oc os wa (nI j) (nI g) p2 = 3 from pc5_5 (fun h => h (ir_nI hj)) (fun h => h (ir_nI hg)) (by rw [ix_nI hjB, ix_nI hgB]; exact fun h => h hw) (fun h => h ⟨Int32.not_lt.mp hc_47, hc_59⟩) (by rw [ix_nI hjB]; exact fun h => h.1.elim (fun e => absurd hc_61 (by rw [e]; decide)) (fun e => absurd hc_61 (by rw [e]; decide)))]; exact (mw_ob (mw_ob hm (oc) (mw_oc hm) td 0 sL) (oc) (mw_oc hm) td 3 sL)⟩, (fm_up (fm_up fm_rf (x := 0) (by decide) _) (x := 0) (by decide) _)⟩
        · refine pw_iload_n (pc := 49) hX dX2_change_49 3 rfl ?_
          refine pw_if_ne (pc := 50) hX 77 dX2_change_50 (by decide) (fun hc_72 => ?_) (fun hc_72 => ?_)
          · refine pw_aload_n (pc := 77) hX dX2_change_77 0 rfl ?_
            refine pw_get (pc := 78) hX dX2_change_78 hm_45 rfl inT_2 5 (by decide) fl_RX2_43 rfl ?_
            refine pw_if_ne (pc := 81) hX 99 dX2_change_81 (by decide) (fun h => absurd h (by decide)) (fun _ => ?_)
            refine pw_aload_n (pc := 84) hX dX2_change_84 0 rfl ?_
            refine pw_get (pc := 85) hX dX2_change_85 hm_45 rfl inT_2 10 (by decide) fl_RX2_30 rfl ?_
            refine pw_bipush (pc := 88) (v := 10) hX dX2_change_88 (by decide) ?_
            refine pw_iload_n (pc := 90) hX dX2_change_90 1 rfl ?_
            refine pw_imul (pc := 91) (z := nI (10 * j)) hX dX2_change_91 (pk_mul 10 _) ?_
            refine pw_iload_n (pc := 92) hX dX2_change_92 2 rfl ?_
            refine pw_iadd (pc := 93) (z := nI (10 * j + g)) hX dX2_change_93 (nI_add _ _) ?_
            refine pw_iald (pc := 94) (j := 10 * j + g) hX dX2_change_94 hm_42 (by omega) (by decide) ?_
            refine pw_cg (vb := .int (pr j g)) (congrArg Value.int (fl_at pr j hg)) ?_
            refine pw_iload_n (pc := 95) hX dX2_change_95 3 rfl ?_
            refine pw_icmp_le (pc := 96) hX 101 dX2_change_96 (by decide) (fun hc_74 => ?_) (fun hc_74 => ?_)
            · refine pw_aload_n (pc := 101) hX dX2_change_101 0 rfl ?_
              refine pw_get (pc := 102) hX dX2_change_102 hm_45 rfl inT_2 9 (by decide) fl_RX2_27 rfl ?_
              refine pw_bipush (pc := 105) (v := 10) hX dX2_change_105 (by decide) ?_
              refine pw_iload_n (pc := 107) hX dX2_change_107 1 rfl ?_
              refine pw_imul (pc := 108) (z := nI (10 * j)) hX dX2_change_108 (pk_mul 10 _) ?_
              refine pw_iload_n (pc := 109) hX dX2_change_109 2 rfl ?_
              refine pw_iadd (pc := 110) (z := nI (10 * j + g)) hX dX2_change_110 (nI_add _ _) ?_
              refine pw_iload_n (pc := 111) hX dX2_change_111 3 rfl ?_
              refine pw_iast (pc := 112) (j := 10 * j + g) hX dX2_change_112 hm_41 (by omega) (by decide) ?_
              have hm_75 := pw_ke (a := am 5) (e := .inl (G.2.2.1 0, 200, .inl (upd (fl wa) (10 * j + g) p2))) hm_45 (mw_ne hm (x := 0) (y := 5) (by decide) (by decide) (by decide))
              have hm_76 := pw_ke (a := am 5) (e := .inl (G.2.2.1 0, 200, .inl (upd (fl wa) (10 * j + g) p2))) hm_37 (mw_ne hm (x := 1) (y := 5) (by decide) (by decide) (by decide))
              have hm_77 := pw_ke (a := am 5) (e := .inl (G.2.2.1 0, 200, .inl (upd (fl wa) (10 * j + g) p2))) hm_38 (mw_ne hm (x := 2) (y := 5) (by decide) (by decide) (by decide))
              have hm_78 := pw_ke (a := am 5) (e := .inl (G.2.2.1 0, 200, .inl (upd (fl wa) (10 * j + g) p2))) hm_39 (mw_ne hm (x := 3) (y := 5) (by decide) (by decide) (by decide))
              have hm_79 := pw_ke (a := am 5) (e := .inl (G.2.2.1 0, 200, .inl (upd (fl wa) (10 * j + g) p2))) hm_40 (mw_ne hm (x := 4) (y := 5) (by decide) (by decide) (by decide))
              have hm_80 := pw_ke (a := am 5) (e := .inl (G.2.2.1 0, 200, .inl (upd (fl wa) (10 * j + g) p2))) hm_42 (mw_ne hm (x := 6) (y := 5) (by decide) (by decide) (by decide))
              have hm_81 := pw_ke (a := am 5) (e := .inl (G.2.2.1 0, 200, .inl (upd (fl wa) (10 * j + g) p2))) hm_43 (mw_ne hm (x := 7) (y := 5) (by decide) (by decide) (by decide))
              have hm_82 := pw_ke (a := am 5) (e := .inl (G.2.2.1 0, 200, .inl (upd (fl wa) (10 * j + g) p2))) hm_44 (mw_ne hm (x := 8) (y := 5) (by decide) (by decide) (by decide))
              have hm_83 : pw_up (pw_up M (am 0) (.inr (2, [.int (nI n), .ref (am 1), .ref (am 2), .int (nI oc), .int td, .int 0, .long sL, .ref (am 3), .ref (am 4), .ref (am 5), .ref (am 6), .ref (am 7), .ref (am 8)]))) (am 5) (.inl (G.2.2.1 0, 200, .inl (upd (fl wa) (10 * j + g) p2))) (am 5) = some (.inl (G.2.2.1 0, 200, .inl (upd (fl wa) (10 * j + g) p2))) := pw_us
              refine pw_iconst (pc := 113) (v := 1) hX dX2_change_113 (by decide) ?_
              exact pw_zret hX dX2_change_114 hrt rfl ⟨by decide, by decide⟩ (by rw [ix_nI hjB, ix_nI hgB]; exact ⟨Or.inl ⟨pc5_0 (fun h => h (ir_nI hj)) (fun h => h (ir_nI hg)) (by rw [ix_nI hjB, ix_nI hgB]; exact fun h => h hw) (fun h => h ⟨Int32.not_lt.mp hc_47, hc_59⟩) (by rw [ix_nI hjB]; exact fun h => h ⟨((hS j hj).elim Or.inl (fun e => e.elim Or.inr (fun e => absurd (e.elim (fun e => by rw [e]; decide) (fun e => by rw [e]; decide)) hc_61))), (fun h => hc_72 h.1)⟩), Or.inr ⟨rfl, hc_74, (mw_wa (mw_ob hm (oc) (mw_oc hm) td 0 sL) j g hg _)⟩⟩, (fm_up (fm_up fm_rf (x := 0) (by decide) _) (x := 5) (by decide) _)⟩)
            · refine pw_iconst (pc := 99) (v := 0) hX dX2_change_99 (by decide) ?_
              exact pw_zret hX dX2_change_100 hrt rfl ⟨by decide, by decide⟩ (by rw [ix_nI hjB, ix_nI hgB]; exact ⟨Or.inl ⟨pc5_0 (fun h => h (ir_nI hj)) (fun h => h (ir_nI hg)) (by rw [ix_nI hjB, ix_nI hgB]; exact fun h => h hw) (fun h => h ⟨Int32.not_lt.mp hc_47, hc_59⟩) (by rw [ix_nI hjB]; exact fun h => h ⟨((hS j hj).elim Or.inl (fun e => e.elim Or.inr (fun e => absurd (e.elim (fun e => by rw [e]; decide) (fun e => by rw [e]; decide)) hc_61))), (fun h => hc_72 h.1)⟩), Or.inl ⟨rfl, Int32.not_le.mp hc_74, (mw_ob hm (oc) (mw_oc hm) td 0 sL)⟩⟩, (fm_up fm_rf (x := 0) (by decide) _)⟩)
          · refine pw_aload_n (pc := 53) hX dX2_change_53 0 rfl ?_
            refine pw_get (pc := 54) hX dX2_change_54 hm_45 rfl inT_2 7 (by decide) fl_RX2_21 rfl ?_
            refine pw_iload_n (pc := 57) hX dX2_change_57 1 rfl ?_
            refine pw_iald (pc := 58) (j := j) hX dX2_change_58 hm_39 (by omega) (by decide) ?_
            refine pw_iconst (pc := 59) (v := 1) hX dX2_change_59 (by decide) ?_
            refine pw_icmp_ne (pc := 60) hX 77 dX2_change_60 (by decide) (fun hc_84 => ?_) (fun hc_84 => ?_)
            · refine pw_aload_n (pc := 77) hX dX2_change_77 0 rfl ?_
              refine pw_get (pc := 78) hX dX2_change_78 hm_45 rfl inT_2 5 (by decide) fl_RX2_43 rfl ?_
              refine pw_if_ne (pc := 81) hX 99 dX2_change_81 (by decide) (fun h => absurd h (by decide)) (fun _ => ?_)
              refine pw_aload_n (pc := 84) hX dX2_change_84 0 rfl ?_
              refine pw_get (pc := 85) hX dX2_change_85 hm_45 rfl inT_2 10 (by decide) fl_RX2_30 rfl ?_
              refine pw_bipush (pc := 88) (v := 10) hX dX2_change_88 (by decide) ?_
              refine pw_iload_n (pc := 90) hX dX2_change_90 1 rfl ?_
              refine pw_imul (pc := 91) (z := nI (10 * j)) hX dX2_change_91 (pk_mul 10 _) ?_
              refine pw_iload_n (pc := 92) hX dX2_change_92 2 rfl ?_
              refine pw_iadd (pc := 93) (z := nI (10 * j + g)) hX dX2_change_93 (nI_add _ _) ?_
              refine pw_iald (pc := 94) (j := 10 * j + g) hX dX2_change_94 hm_42 (by omega) (by decide) ?_
              refine pw_cg (vb := .int (pr j g)) (congrArg Value.int (fl_at pr j hg)) ?_
              refine pw_iload_n (pc := 95) hX dX2_change_95 3 rfl ?_
              refine pw_icmp_le (pc := 96) hX 101 dX2_change_96 (by decide) (fun hc_86 => ?_) (fun hc_86 => ?_)
              · refine pw_aload_n (pc := 101) hX dX2_change_101 0 rfl ?_
                refine pw_get (pc := 102) hX dX2_change_102 hm_45 rfl inT_2 9 (by decide) fl_RX2_27 rfl ?_
                refine pw_bipush (pc := 105) (v := 10) hX dX2_change_105 (by decide) ?_
                refine pw_iload_n (pc := 107) hX dX2_change_107 1 rfl ?_
                refine pw_imul (pc := 108) (z := nI (10 * j)) hX dX2_change_108 (pk_mul 10 _) ?_
                refine pw_iload_n (pc := 109) hX dX2_change_109 2 rfl ?_
                refine pw_iadd (pc := 110) (z := nI (10 * j + g)) hX dX2_change_110 (nI_add _ _) ?_
                refine pw_iload_n (pc := 111) hX dX2_change_111 3 rfl ?_
                refine pw_iast (pc := 112) (j := 10 * j + g) hX dX2_change_112 hm_41 (by omega) (by decide) ?_
                have hm_87 := pw_ke (a := am 5) (e := .inl (G.2.2.1 0, 200, .inl (upd (fl wa) (10 * j + g) p2))) hm_45 (mw_ne hm (x := 0) (y := 5) (by decide) (by decide) (by decide))
                have hm_88 := pw_ke (a := am 5) (e := .inl (G.2.2.1 0, 200, .inl (upd (fl wa) (10 * j + g) p2))) hm_37 (mw_ne hm (x := 1) (y := 5) (by decide) (by decide) (by decide))
                have hm_89 := pw_ke (a := am 5) (e := .inl (G.2.2.1 0, 200, .inl (upd (fl wa) (10 * j + g) p2))) hm_38 (mw_ne hm (x := 2) (y := 5) (by decide) (by decide) (by decide))
                have hm_90 := pw_ke (a := am 5) (e := .inl (G.2.2.1 0, 200, .inl (upd (fl wa) (10 * j + g) p2))) hm_39 (mw_ne hm (x := 3) (y := 5) (by decide) (by decide) (by decide))
                have hm_91 := pw_ke (a := am 5) (e := .inl (G.2.2.1 0, 200, .inl (upd (fl wa) (10 * j + g) p2))) hm_40 (mw_ne hm (x := 4) (y := 5) (by decide) (by decide) (by decide))
                have hm_92 := pw_ke (a := am 5) (e := .inl (G.2.2.1 0, 200, .inl (upd (fl wa) (10 * j + g) p2))) hm_42 (mw_ne hm (x := 6) (y := 5) (by decide) (by decide) (by decide))
                have hm_93 := pw_ke (a := am 5) (e := .inl (G.2.2.1 0, 200, .inl (upd (fl wa) (10 * j + g) p2))) hm_43 (mw_ne hm (x := 7) (y := 5) (by decide) (by decide) (by decide))
                have hm_94 := pw_ke (a := am 5) (e := .inl (G.2.2.1 0, 200, .inl (upd (fl wa) (10 * j + g) p2))) hm_44 (mw_ne hm (x := 8) (y := 5) (by decide) (by decide) (by decide))
                have hm_95 : pw_up (pw_up M (am 0) (.inr (2, [.int (nI n), .ref (am 1), .ref (am 2), .int (nI oc), .int td, .int 0, .long sL, .ref (am 3), .ref (am 4), .ref (am 5), .ref (am 6), .ref (am 7), .ref (am 8)]))) (am 5) (.inl (G.2.2.1 0, 200, .inl (upd (fl wa) (10 * j + g) p2))) (am 5) = some (.inl (G.2.2.1 0, 200, .inl (upd (fl wa) (10 * j + g) p2))) := pw_us
                refine pw_iconst (pc := 113) (v := 1) hX dX2_change_113 (by decide) ?_
                exact pw_zret hX dX2_change_114 hrt rfl ⟨by decide, by decide⟩ (by rw [ix_nI hjB, ix_nI hgB]; exact ⟨Or.inl ⟨pc5_0 (fun h => h (ir_nI hj)) (fun h => h (ir_nI hg)) (by rw [ix_nI hjB, ix_nI hgB]; exact fun h => h hw) (fun h => h ⟨Int32.not_lt.mp hc_47, hc_59⟩) (by rw [ix_nI hjB]; exact fun h => h ⟨((hS j hj).elim Or.inl (fun e => e.elim Or.inr (fun e => absurd (e.elim (fun e => by rw [e]; decide) (fun e => by rw [e]; decide)) hc_61))), (fun h => hc_84 h.2.1)⟩), Or.inr ⟨rfl, hc_86, (mw_wa (mw_ob hm (oc) (mw_oc hm) td 0 sL) j g hg _)⟩⟩, (fm_up (fm_up fm_rf (x := 0) (by decide) _) (x := 5) (by decide) _)⟩)
              · refine pw_iconst (pc := 99) (v := 0) hX dX2_change_99 (by decide) ?_
                exact pw_zret hX dX2_change_100 hrt rfl ⟨by decide, by decide⟩ (by rw [ix_nI hjB, ix_nI hgB]; exact ⟨Or.inl ⟨pc5_0 (fun h => h (ir_nI hj)) (fun h => h (ir_nI hg)) (by rw [ix_nI hjB, ix_nI hgB]; exact fun h => h hw) (fun h => h ⟨Int32.not_lt.mp hc_47, hc_59⟩) (by rw [ix_nI hjB]; exact fun h => h ⟨((hS j hj).elim Or.inl (fun e => e.elim Or.inr (fun e => absurd (e.elim (fun e => by rw [e]; decide) (fun e => by rw [e]; decide)) hc_61))), (fun h => hc_84 h.2.1)⟩), Or.inl ⟨rfl, Int32.not_le.mp hc_86, (mw_ob hm (oc) (mw_oc hm) td 0 sL)⟩⟩, (fm_up fm_rf (x := 0) (by decide) _)⟩)
            · refine pw_aload_n (pc := 63) hX dX2_change_63 0 rfl ?_
              refine pw_iload_n (pc := 64) hX dX2_change_64 1 rfl ?_
              refine pw_callV (pc := 65) (st := []) hX (mt_linesOf l hl G _ am _ _ _ _ _ _ _ _ _ _ _ _ _ (mw_ob hm (oc) (mw_oc hm) td 0 sL) j hj) hm_45 rfl ok_X2_linesOf lk_RX2_56 dX2_change_65 rfl ⟨⟨by decide, by decide⟩, Nat.le_of_ble_eq_true rfl, Nat.le_of_ble_eq_true rfl, Nat.le_of_ble_eq_true rfl⟩ rfl (fun v9 M9 hp9 => ?_)
              obtain ⟨rfl, rfl⟩ := hp9
              refine pw_iconst (pc := 68) (v := 1) hX dX2_change_68 (by decide) ?_
              refine pw_icmp_ne (pc := 69) hX 77 dX2_change_69 (by decide) (fun hc_96 => ?_) (fun hc_96 => ?_)
              · refine pw_aload_n (pc := 77) hX dX2_change_77 0 rfl ?_
                refine pw_get (pc := 78) hX dX2_change_78 hm_45 rfl inT_2 5 (by decide) fl_RX2_43 rfl ?_
                refine pw_if_ne (pc := 81) hX 99 dX2_change_81 (by decide) (fun h => absurd h (by decide)) (fun _ => ?_)
                refine pw_aload_n (pc := 84) hX dX2_change_84 0 rfl ?_
                refine pw_get (pc := 85) hX dX2_change_85 hm_45 rfl inT_2 10 (by decide) fl_RX2_30 rfl ?_
                refine pw_bipush (pc := 88) (v := 10) hX dX2_change_88 (by decide) ?_
                refine pw_iload_n (pc := 90) hX dX2_change_90 1 rfl ?_
                refine pw_imul (pc := 91) (z := nI (10 * j)) hX dX2_change_91 (pk_mul 10 _) ?_
                refine pw_iload_n (pc := 92) hX dX2_change_92 2 rfl ?_
                refine pw_iadd (pc := 93) (z := nI (10 * j + g)) hX dX2_change_93 (nI_add _ _) ?_
                refine pw_iald (pc := 94) (j := 10 * j + g) hX dX2_change_94 hm_42 (by omega) (by decide) ?_
                refine pw_cg (vb := .int (pr j g)) (congrArg Value.int (fl_at pr j hg)) ?_
                refine pw_iload_n (pc := 95) hX dX2_change_95 3 rfl ?_
                refine pw_icmp_le (pc := 96) hX 101 dX2_change_96 (by decide) (fun hc_98 => ?_) (fun hc_98 => ?_)
                · refine pw_aload_n (pc := 101) hX dX2_change_101 0 rfl ?_
                  refine pw_get (pc := 102) hX dX2_change_102 hm_45 rfl inT_2 9 (by decide) fl_RX2_27 rfl ?_
                  refine pw_bipush (pc := 105) (v := 10) hX dX2_change_105 (by decide) ?_
                  refine pw_iload_n (pc := 107) hX dX2_change_107 1 rfl ?_
                  refine pw_imul (pc := 108) (z := nI (10 * j)) hX dX2_change_108 (pk_mul 10 _) ?_
                  refine pw_iload_n (pc := 109) hX dX2_change_109 2 rfl ?_
                  refine pw_iadd (pc := 110) (z := nI (10 * j + g)) hX dX2_change_110 (nI_add _ _) ?_
                  refine pw_iload_n (pc := 111) hX dX2_change_111 3 rfl ?_
                  refine pw_iast (pc := 112) (j := 10 * j + g) hX dX2_change_112 hm_41 (by omega) (by decide) ?_
                  have hm_99 := pw_ke (a := am 5) (e := .inl (G.2.2.1 0, 200, .inl (upd (fl wa) (10 * j + g) p2))) hm_45 (mw_ne hm (x := 0) (y := 5) (by decide) (by decide) (by decide))
                  have hm_100 := pw_ke (a := am 5) (e := .inl (G.2.2.1 0, 200, .inl (upd (fl wa) (10 * j + g) p2))) hm_37 (mw_ne hm (x := 1) (y := 5) (by decide) (by decide) (by decide))
                  have hm_101 := pw_ke (a := am 5) (e := .inl (G.2.2.1 0, 200, .inl (upd (fl wa) (10 * j + g) p2))) hm_38 (mw_ne hm (x := 2) (y := 5) (by decide) (by decide) (by decide))
                  have hm_102 := pw_ke (a := am 5) (e := .inl (G.2.2.1 0, 200, .inl (upd (fl wa) (10 * j + g) p2))) hm_39 (mw_ne hm (x := 3) (y := 5) (by decide) (by decide) (by decide))
                  have hm_103 := pw_ke (a := am 5) (e := .inl (G.2.2.1 0, 200, .inl (upd (fl wa) (10 * j + g) p2))) hm_40 (mw_ne hm (x := 4) (y := 5) (by decide) (by decide) (by decide))
                  have hm_104 := pw_ke (a := am 5) (e := .inl (G.2.2.1 0, 200, .inl (upd (fl wa) (10 * j + g) p2))) hm_42 (mw_ne hm (x := 6) (y := 5) (by decide) (by decide) (by decide))
                  have hm_105 := pw_ke (a := am 5) (e := .inl (G.2.2.1 0, 200, .inl (upd (fl wa) (10 * j + g) p2))) hm_43 (mw_ne hm (x := 7) (y := 5) (by decide) (by decide) (by decide))
                  have hm_106 := pw_ke (a := am 5) (e := .inl (G.2.2.1 0, 200, .inl (upd (fl wa) (10 * j + g) p2))) hm_44 (mw_ne hm (x := 8) (y := 5) (by decide) (by decide) (by decide))
                  have hm_107 : pw_up (pw_up M (am 0) (.inr (2, [.int (nI n), .ref (am 1), .ref (am 2), .int (nI oc), .int td, .int 0, .long sL, .ref (am 3), .ref (am 4), .ref (am 5), .ref (am 6), .ref (am 7), .ref (am 8)]))) (am 5) (.inl (G.2.2.1 0, 200, .inl (upd (fl wa) (10 * j + g) p2))) (am 5) = some (.inl (G.2.2.1 0, 200, .inl (upd (fl wa) (10 * j + g) p2))) := pw_us
                  refine pw_iconst (pc := 113) (v := 1) hX dX2_change_113 (by decide) ?_
                  exact pw_zret hX dX2_change_114 hrt rfl ⟨by decide, by decide⟩ (by rw [ix_nI hjB, ix_nI hgB]; exact ⟨Or.inl ⟨pc5_0 (fun h => h (ir_nI hj)) (fun h => h (ir_nI hg)) (by rw [ix_nI hjB, ix_nI hgB]; exact fun h => h hw) (fun h => h ⟨Int32.not_lt.mp hc_47, hc_59⟩) (by rw [ix_nI hjB]; exact fun h => h ⟨((hS j hj).elim Or.inl (fun e => e.elim Or.inr (fun e => absurd (e.elim (fun e => by rw [e]; decide) (fun e => by rw [e]; decide)) hc_61))), (fun h => hc_96 (by rw [h.2.2]; rfl))⟩), Or.inr ⟨rfl, hc_98, (mw_wa (mw_ob hm (oc) (mw_oc hm) td 0 sL) j g hg _)⟩⟩, (fm_up (fm_up fm_rf (x := 0) (by decide) _) (x := 5) (by decide) _)⟩)
                · refine pw_iconst (pc := 99) (v := 0) hX dX2_change_99 (by decide) ?_
                  exact pw_zret hX dX2_change_100 hrt rfl ⟨by decide, by decide⟩ (by rw [ix_nI hjB, ix_nI hgB]; exact ⟨Or.inl ⟨pc5_0 (fun h => h (ir_nI hj)) (fun h => h (ir_nI hg)) (by rw [ix_nI hjB, ix_nI hgB]; exact fun h => h hw) (fun h => h ⟨Int32.not_lt.mp hc_47, hc_59⟩) (by rw [ix_nI hjB]; exact fun h => h ⟨((hS j hj).elim Or.inl (fun e => e.elim Or.inr (fun e => absurd (e.elim (fun e => by rw [e]; decide) (fun e => by rw [e]; decide)) hc_61))), (fun h => hc_96 (by rw [h.2.2]; rfl))⟩), Or.inl ⟨rfl, Int32.not_le.mp hc_98, (mw_ob hm (oc) (mw_oc hm) td 0 sL)⟩⟩, (fm_up fm_rf (x := 0) (by decide) _)⟩)
              · refine pw_aload_n (pc := 72) hX dX2_change_72 0 rfl ?_
                refine pw_iconst (pc := 73) (v := 3) hX dX2_change_73 (by decide) ?_
                refine pw_put (pc := 74) (v := .int 3) hX dX2_change_74 hm_45 rfl inT_2 tyX2 tyX2_ok nmX2 5 (by decide) fl_RX2_43 rfl (tyX2_ok 5 (by decide)) rfl rfl (Nat.le_of_ble_eq_true rfl) [.int (nI n), .ref (am 1), .ref (am 2), .int (nI oc), .int td, .int 3, .long sL, .ref (am 3), .ref (am 4), .ref (am 5), .ref (am 6), .ref (am 7), .ref (am 8)] rfl ?_
                have hm_108 := pw_ke (a := am 0) (e := .inr (2, [.int (nI n), .ref (am 1), .ref (am 2), .int (nI oc), .int td, .int 3, .long sL, .ref (am 3), .ref (am 4), .ref (am 5), .ref (am 6), .ref (am 7), .ref (am 8)])) hm_37 (mw_ne hm (x := 1) (y := 0) (by decide) (by decide) (by decide))
                have hm_109 := pw_ke (a := am 0) (e := .inr (2, [.int (nI n), .ref (am 1), .ref (am 2), .int (nI oc), .int td, .int 3, .long sL, .ref (am 3), .ref (am 4), .ref (am 5), .ref (am 6), .ref (am 7), .ref (am 8)])) hm_38 (mw_ne hm (x := 2) (y := 0) (by decide) (by decide) (by decide))
                have hm_110 := pw_ke (a := am 0) (e := .inr (2, [.int (nI n), .ref (am 1), .ref (am 2), .int (nI oc), .int td, .int 3, .long sL, .ref (am 3), .ref (am 4), .ref (am 5), .ref (am 6), .ref (am 7), .ref (am 8)])) hm_39 (mw_ne hm (x := 3) (y := 0) (by decide) (by decide) (by decide))
                have hm_111 := pw_ke (a := am 0) (e := .inr (2, [.int (nI n), .ref (am 1), .ref (am 2), .int (nI oc), .int td, .int 3, .long sL, .ref (am 3), .ref (am 4), .ref (am 5), .ref (am 6), .ref (am 7), .ref (am 8)])) hm_40 (mw_ne hm (x := 4) (y := 0) (by decide) (by decide) (by decide))
                have hm_112 := pw_ke (a := am 0) (e := .inr (2, [.int (nI n), .ref (am 1), .ref (am 2), .int (nI oc), .int td, .int 3, .long sL, .ref (am 3), .ref (am 4), .ref (am 5), .ref (am 6), .ref (am 7), .ref (am 8)])) hm_41 (mw_ne hm (x := 5) (y := 0) (by decide) (by decide) (by decide))
                have hm_113 := pw_ke (a := am 0) (e := .inr (2, [.int (nI n), .ref (am 1), .ref (am 2), .int (nI oc), .int td, .int 3, .long sL, .ref (am 3), .ref (am 4), .ref (am 5), .ref (am 6), .ref (am 7), .ref (am 8)])) hm_42 (mw_ne hm (x := 6) (y := 0) (by decide) (by decide) (by decide))
                have hm_114 := pw_ke (a := am 0) (e := .inr (2, [.int (nI n), .ref (am 1), .ref (am 2), .int (nI oc), .int td, .int 3, .long sL, .ref (am 3), .ref (am 4), .ref (am 5), .ref (am 6), .ref (am 7), .ref (am 8)])) hm_43 (mw_ne hm (x := 7) (y := 0) (by decide) (by decide) (by decide))
                have hm_115 := pw_ke (a := am 0) (e := .inr (2, [.int (nI n), .ref (am 1), .ref (am 2), .int (nI oc), .int td, .int 3, .long sL, .ref (am 3), .ref (am 4), .ref (am 5), .ref (am 6), .ref (am 7), .ref (am 8)])) hm_44 (mw_ne hm (x := 8) (y := 0) (by decide) (by decide) (by decide))
                have hm_116 : pw_up (pw_up M (am 0) (.inr (2, [.int (nI n), .ref (am 1), .ref (am 2), .int (nI oc), .int td, .int 0, .long sL, .ref (am 3), .ref (am 4), .ref (am 5), .ref (am 6), .ref (am 7), .ref (am 8)]))) (am 0) (.inr (2, [.int (nI n), .ref (am 1), .ref (am 2), .int (nI oc), .int td, .int 3, .long sL, .ref (am 3), .ref (am 4), .ref (am 5), .ref (am 6), .ref (am 7), .ref (am 8)])) (am 0) = some (.inr (2, [.int (nI n), .ref (am 1), .ref (am 2), .int (nI oc), .int td, .int 3, .long sL, .ref (am 3), .ref (am 4), .ref (am 5), .ref (am 6), .ref (am 7), .ref (am 8)])) := pw_us
                refine pw_aload_n (pc := 77) hX dX2_change_77 0 rfl ?_
                refine pw_get (pc := 78) hX dX2_change_78 hm_116 rfl inT_2 5 (by decide) fl_RX2_43 rfl ?_
                refine pw_if_ne (pc := 81) hX 99 dX2_change_81 (by decide) (fun _ => ?_) (fun h => absurd h (by decide))
                refine pw_iconst (pc := 99) (v := 0) hX dX2_change_99 (by decide) ?_
                exact pw_zret hX dX2_change_100 hrt rfl ⟨by decide, by decide⟩ ⟨Or.inr ⟨by rw [show cd_change oc os wa (nI j) (nI g) p2 = 3 from pc5_5 (fun h => h (ir_nI hj)) (fun h => h (ir_nI hg)) (by rw [ix_nI hjB, ix_nI hgB]; exact fun h => h hw) (fun h => h ⟨Int32.not_lt.mp hc_47, hc_59⟩) (by rw [ix_nI hjB]; exact fun h => h.2 ⟨hc_72, hc_84, (nI_eq (b := 1) (Nat.lt_of_le_of_lt (od_ct_le _ 10) (by decide)) (by decide)).mp hc_96⟩)]; decide, ⟨_, rfl⟩, by rw [show cd_change oc os wa (nI j) (nI g) p2 = 3 from pc5_5 (fun h => h (ir_nI hj)) (fun h => h (ir_nI hg)) (by rw [ix_nI hjB, ix_nI hgB]; exact fun h => h hw) (fun h => h ⟨Int32.not_lt.mp hc_47, hc_59⟩) (by rw [ix_nI hjB]; exact fun h => h.2 ⟨hc_72, hc_84, (nI_eq (b := 1) (Nat.lt_of_le_of_lt (od_ct_le _ 10) (by decide)) (by decide)).mp hc_96⟩)]; exact (mw_ob (mw_ob hm (oc) (mw_oc hm) td 0 sL) (oc) (mw_oc hm) td 3 sL)⟩, (fm_up (fm_up fm_rf (x := 0) (by decide) _) (x := 0) (by decide) _)⟩
      · refine pw_aload_n (pc := 27) hX dX2_change_27 0 rfl ?_
        refine pw_iconst (pc := 28) (v := 2) hX dX2_change_28 (by decide) ?_
        refine pw_put (pc := 29) (v := .int 2) hX dX2_change_29 hm_45 rfl inT_2 tyX2 tyX2_ok nmX2 5 (by decide) fl_RX2_43 rfl (tyX2_ok 5 (by decide)) rfl rfl (Nat.le_of_ble_eq_true rfl) [.int (nI n), .ref (am 1), .ref (am 2), .int (nI oc), .int td, .int 2, .long sL, .ref (am 3), .ref (am 4), .ref (am 5), .ref (am 6), .ref (am 7), .ref (am 8)] rfl ?_
        have hm_118 := pw_ke (a := am 0) (e := .inr (2, [.int (nI n), .ref (am 1), .ref (am 2), .int (nI oc), .int td, .int 2, .long sL, .ref (am 3), .ref (am 4), .ref (am 5), .ref (am 6), .ref (am 7), .ref (am 8)])) hm_37 (mw_ne hm (x := 1) (y := 0) (by decide) (by decide) (by decide))
        have hm_119 := pw_ke (a := am 0) (e := .inr (2, [.int (nI n), .ref (am 1), .ref (am 2), .int (nI oc), .int td, .int 2, .long sL, .ref (am 3), .ref (am 4), .ref (am 5), .ref (am 6), .ref (am 7), .ref (am 8)])) hm_38 (mw_ne hm (x := 2) (y := 0) (by decide) (by decide) (by decide))
        have hm_120 := pw_ke (a := am 0) (e := .inr (2, [.int (nI n), .ref (am 1), .ref (am 2), .int (nI oc), .int td, .int 2, .long sL, .ref (am 3), .ref (am 4), .ref (am 5), .ref (am 6), .ref (am 7), .ref (am 8)])) hm_39 (mw_ne hm (x := 3) (y := 0) (by decide) (by decide) (by decide))
        have hm_121 := pw_ke (a := am 0) (e := .inr (2, [.int (nI n), .ref (am 1), .ref (am 2), .int (nI oc), .int td, .int 2, .long sL, .ref (am 3), .ref (am 4), .ref (am 5), .ref (am 6), .ref (am 7), .ref (am 8)])) hm_40 (mw_ne hm (x := 4) (y := 0) (by decide) (by decide) (by decide))
        have hm_122 := pw_ke (a := am 0) (e := .inr (2, [.int (nI n), .ref (am 1), .ref (am 2), .int (nI oc), .int td, .int 2, .long sL, .ref (am 3), .ref (am 4), .ref (am 5), .ref (am 6), .ref (am 7), .ref (am 8)])) hm_41 (mw_ne hm (x := 5) (y := 0) (by decide) (by decide) (by decide))
        have hm_123 := pw_ke (a := am 0) (e := .inr (2, [.int (nI n), .ref (am 1), .ref (am 2), .int (nI oc), .int td, .int 2, .long sL, .ref (am 3), .ref (am 4), .ref (am 5), .ref (am 6), .ref (am 7), .ref (am 8)])) hm_42 (mw_ne hm (x := 6) (y := 0) (by decide) (by decide) (by decide))
        have hm_124 := pw_ke (a := am 0) (e := .inr (2, [.int (nI n), .ref (am 1), .ref (am 2), .int (nI oc), .int td, .int 2, .long sL, .ref (am 3), .ref (am 4), .ref (am 5), .ref (am 6), .ref (am 7), .ref (am 8)])) hm_43 (mw_ne hm (x := 7) (y := 0) (by decide) (by decide) (by decide))
        have hm_125 := pw_ke (a := am 0) (e := .inr (2, [.int (nI n), .ref (am 1), .ref (am 2), .int (nI oc), .int td, .int 2, .long sL, .ref (am 3), .ref (am 4), .ref (am 5), .ref (am 6), .ref (am 7), .ref (am 8)])) hm_44 (mw_ne hm (x := 8) (y := 0) (by decide) (by decide) (by decide))
        have hm_126 : pw_up (pw_up M (am 0) (.inr (2, [.int (nI n), .ref (am 1), .ref (am 2), .int (nI oc), .int td, .int 0, .long sL, .ref (am 3), .ref (am 4), .ref (am 5), .ref (am 6), .ref (am 7), .ref (am 8)]))) (am 0) (.inr (2, [.int (nI n), .ref (am 1), .ref (am 2), .int (nI oc), .int td, .int 2, .long sL, .ref (am 3), .ref (am 4), .ref (am 5), .ref (am 6), .ref (am 7), .ref (am 8)])) (am 0) = some (.inr (2, [.int (nI n), .ref (am 1), .ref (am 2), .int (nI oc), .int td, .int 2, .long sL, .ref (am 3), .ref (am 4), .ref (am 5), .ref (am 6), .ref (am 7), .ref (am 8)])) := pw_us
        refine pw_aload_n (pc := 32) hX dX2_change_32 0 rfl ?_
        refine pw_get (pc := 33) hX dX2_change_33 hm_126 rfl inT_2 5 (by decide) fl_RX2_43 rfl ?_
        refine pw_if_ne (pc := 36) hX 77 dX2_change_36 (by decide) (fun _ => ?_) (fun h => absurd h (by decide))
        refine pw_aload_n (pc := 77) hX dX2_change_77 0 rfl ?_
        refine pw_get (pc := 78) hX dX2_change_78 hm_126 rfl inT_2 5 (by decide) fl_RX2_43 rfl ?_
        refine pw_if_ne (pc := 81) hX 99 dX2_change_81 (by decide) (fun _ => ?_) (fun h => absurd h (by decide))
        refine pw_iconst (pc := 99) (v := 0) hX dX2_change_99 (by decide) ?_
        exact pw_zret hX dX2_change_100 hrt rfl ⟨by decide, by decide⟩ ⟨Or.inr ⟨by rw [show cd_change oc os wa (nI j) (nI g) p2 = 2 from pc5_4 (fun h => h (ir_nI hj)) (fun h => h (ir_nI hg)) (by rw [ix_nI hjB, ix_nI hgB]; exact fun h => h hw) (fun h => hc_59 h.2)]; decide, ⟨_, rfl⟩, by rw [show cd_change oc os wa (nI j) (nI g) p2 = 2 from pc5_4 (fun h => h (ir_nI hj)) (fun h => h (ir_nI hg)) (by rw [ix_nI hjB, ix_nI hgB]; exact fun h => h hw) (fun h => hc_59 h.2)]; exact (mw_ob (mw_ob hm (oc) (mw_oc hm) td 0 sL) (oc) (mw_oc hm) td 2 sL)⟩, (fm_up (fm_up fm_rf (x := 0) (by decide) _) (x := 0) (by decide) _)⟩
set_option maxHeartbeats 4000000 in
set_option maxRecDepth 100000 in
theorem mp_complete (l : Launch) (hl : l.stackTraces = false) (G : pw_G) (M : pw_M) (am : Nat → Nat) (n oc : Nat) (td th : Int32) (sL : Int64) (dk to er os pl : Nat → Int32) (wa pr la : Nat → Nat → Int32) (hm : mw G am n oc td th sL dk to er os pl wa pr la M) (p0 : Int32) : pw_Met l yX2_complete cX2_complete 3 (some .boolean) 3 0 0 G [.ref (am 0), .int p0] M (fun v9 M9 => (cd_complete oc os p0 = 0 ∧ (v9 = some (.int 1) ∧ (∀ g, g < 10 → ¬ (0 < wa (ix p0) g ∧ 0 < wa (ix p0) g - pr (ix p0) g ∧ ¬ (¬ la (ix p0) g = -1 ∧ la (ix p0) g < td))) ∧ mw G am n oc td 0 sL dk to er (upd os (ix p0) 2) pl wa pr la M9 ∨ v9 = some (.int 0) ∧ (∃ g, g < 10 ∧ (0 < wa (ix p0) g ∧ 0 < wa (ix p0) g - pr (ix p0) g ∧ ¬ (¬ la (ix p0) g = -1 ∧ la (ix p0) g < td))) ∧ mw G am n oc td 0 sL dk to er os pl wa pr la M9) ∨ ¬ cd_complete oc os p0 = 0 ∧ (∃ z, v9 = some (.int z)) ∧ mw G am n oc td (cd_complete oc os p0) sL dk to er os pl wa pr la M9) ∧ fm am 9 M M9) := by
  refine pw_of hl (by decide +kernel) (Nat.le_of_ble_eq_true rfl) [(0, .ref (am 0)), (1, .int p0)] rfl ?_
  intro p9 e9 s9 m9 args9 below9 meth9 c9 hX hrt hmi
  generalize hQ9 : MQ below9 _ args9 s9 _ _ _ = Q9
  have hn9 := mw_n hm
  have hoc := mw_oc hm
  refine pw_aload_n (pc := 0) hX dX2_complete_0 0 rfl ?_
  refine pw_iload_n (pc := 1) hX dX2_complete_1 1 rfl ?_
  refine pw_aload_n (pc := 2) hX dX2_complete_2 0 rfl ?_
  refine pw_get (pc := 3) hX dX2_complete_3 hm.1 rfl inT_2 3 (by decide) fl_RX2_50 rfl ?_
  refine pw_callS (pc := 6) (st := [.ref (am 0)]) hX (mt_below l hl G M p0 oc (Nat.lt_of_le_of_lt (mw_oc hm) (by decide))) ok_X2_below lk_RX2_53 dX2_complete_6 rfl ⟨⟨by decide, by decide⟩, Nat.le_of_ble_eq_true rfl, Nat.le_of_ble_eq_true rfl, Nat.le_of_ble_eq_true rfl⟩ rfl (fun v9 M9 hp9 => ?_)
  obtain ⟨rfl, ⟨rfl, j, hj, rfl⟩ | ⟨rfl, hno_p0⟩⟩ := hp9
  · have hjB : j < 2 ^ 31 := Nat.lt_of_lt_of_le hj (Nat.le_trans (mw_oc hm) (by decide))
    refine pw_if_ne (pc := 9) hX 16 dX2_complete_9 (by decide) (fun _ => ?_) (fun h => absurd h (by decide))
    refine pw_aload_n (pc := 16) hX dX2_complete_16 0 rfl ?_
    refine pw_get (pc := 17) hX dX2_complete_17 hm.1 rfl inT_2 7 (by decide) fl_RX2_21 rfl ?_
    refine pw_iload_n (pc := 20) hX dX2_complete_20 1 rfl ?_
    refine pw_iald (pc := 21) (j := j) hX dX2_complete_21 hm.2.2.2.1 (by omega) (by decide) ?_
    refine pw_iconst (pc := 22) (v := 1) hX dX2_complete_22 (by decide) ?_
    refine pw_icmp_eq (pc := 23) hX 30 dX2_complete_23 (by decide) (fun hc_2 => ?_) (fun hc_2 => ?_)
    · refine pw_iconst (pc := 30) (v := 0) hX dX2_complete_30 (by decide) ?_
      refine pw_put (pc := 31) (v := .int 0) hX dX2_complete_31 hm.1 rfl inT_2 tyX2 tyX2_ok nmX2 5 (by decide) fl_RX2_43 rfl (tyX2_ok 5 (by decide)) rfl rfl (Nat.le_of_ble_eq_true rfl) [.int (nI n), .ref (am 1), .ref (am 2), .int (nI oc), .int td, .int 0, .long sL, .ref (am 3), .ref (am 4), .ref (am 5), .ref (am 6), .ref (am 7), .ref (am 8)] rfl ?_
      have hm_3 := pw_ke (a := am 0) (e := .inr (2, [.int (nI n), .ref (am 1), .ref (am 2), .int (nI oc), .int td, .int 0, .long sL, .ref (am 3), .ref (am 4), .ref (am 5), .ref (am 6), .ref (am 7), .ref (am 8)])) hm.2.1 (mw_ne hm (x := 1) (y := 0) (by decide) (by decide) (by decide))
      have hm_4 := pw_ke (a := am 0) (e := .inr (2, [.int (nI n), .ref (am 1), .ref (am 2), .int (nI oc), .int td, .int 0, .long sL, .ref (am 3), .ref (am 4), .ref (am 5), .ref (am 6), .ref (am 7), .ref (am 8)])) hm.2.2.1 (mw_ne hm (x := 2) (y := 0) (by decide) (by decide) (by decide))
      have hm_5 := pw_ke (a := am 0) (e := .inr (2, [.int (nI n), .ref (am 1), .ref (am 2), .int (nI oc), .int td, .int 0, .long sL, .ref (am 3), .ref (am 4), .ref (am 5), .ref (am 6), .ref (am 7), .ref (am 8)])) hm.2.2.2.1 (mw_ne hm (x := 3) (y := 0) (by decide) (by decide) (by decide))
      have hm_6 := pw_ke (a := am 0) (e := .inr (2, [.int (nI n), .ref (am 1), .ref (am 2), .int (nI oc), .int td, .int 0, .long sL, .ref (am 3), .ref (am 4), .ref (am 5), .ref (am 6), .ref (am 7), .ref (am 8)])) hm.2.2.2.2.1 (mw_ne hm (x := 4) (y := 0) (by decide) (by decide) (by decide))
      have hm_7 := pw_ke (a := am 0) (e := .inr (2, [.int (nI n), .ref (am 1), .ref (am 2), .int (nI oc), .int td, .int 0, .long sL, .ref (am 3), .ref (am 4), .ref (am 5), .ref (am 6), .ref (am 7), .ref (am 8)])) hm.2.2.2.2.2.1 (mw_ne hm (x := 5) (y := 0) (by decide) (by decide) (by decide))
      have hm_8 := pw_ke (a := am 0) (e := .inr (2, [.int (nI n), .ref (am 1), .ref (am 2), .int (nI oc), .int td, .int 0, .long sL, .ref (am 3), .ref (am 4), .ref (am 5), .ref (am 6), .ref (am 7), .ref (am 8)])) hm.2.2.2.2.2.2.1 (mw_ne hm (x := 6) (y := 0) (by decide) (by decide) (by decide))
      have hm_9 := pw_ke (a := am 0) (e := .inr (2, [.int (nI n), .ref (am 1), .ref (am 2), .int (nI oc), .int td, .int 0, .long sL, .ref (am 3), .ref (am 4), .ref (am 5), .ref (am 6), .ref (am 7), .ref (am 8)])) hm.2.2.2.2.2.2.2.1 (mw_ne hm (x := 7) (y := 0) (by decide) (by decide) (by decide))
      have hm_10 := pw_ke (a := am 0) (e := .inr (2, [.int (nI n), .ref (am 1), .ref (am 2), .int (nI oc), .int td, .int 0, .long sL, .ref (am 3), .ref (am 4), .ref (am 5), .ref (am 6), .ref (am 7), .ref (am 8)])) hm.2.2.2.2.2.2.2.2.1 (mw_ne hm (x := 8) (y := 0) (by decide) (by decide) (by decide))
      have hm_11 : pw_up M (am 0) (.inr (2, [.int (nI n), .ref (am 1), .ref (am 2), .int (nI oc), .int td, .int 0, .long sL, .ref (am 3), .ref (am 4), .ref (am 5), .ref (am 6), .ref (am 7), .ref (am 8)])) (am 0) = some (.inr (2, [.int (nI n), .ref (am 1), .ref (am 2), .int (nI oc), .int td, .int 0, .long sL, .ref (am 3), .ref (am 4), .ref (am 5), .ref (am 6), .ref (am 7), .ref (am 8)])) := pw_us
      refine pw_aload_n (pc := 34) hX dX2_complete_34 0 rfl ?_
      refine pw_get (pc := 35) hX dX2_complete_35 hm_11 rfl inT_2 5 (by decide) fl_RX2_43 rfl ?_
      refine pw_if_eq (pc := 38) hX 43 dX2_complete_38 (by decide) (fun _ => ?_) (fun h => absurd h (by decide))
      refine pw_iconst (pc := 43) (v := 0) hX dX2_complete_43 (by decide) ?_
      refine pw_istore_n (pc := 44) hX [(2, .int 0), (0, .ref (am 0)), (1, .int (nI j))] dX2_complete_44 (by decide) rfl ?_
      refine pw_lp (P := fun k_13 => (∀ g, g < k_13 → ¬ (0 < wa j g ∧ 0 < wa j g - pr j g ∧ ¬ (¬ la j g = -1 ∧ la j g < td))) → pw_W p9 l e9 (pw_rm 3 0 0) s9 m9 args9 below9 meth9 c9 Q9 G 3 (pw_up M (am 0) (.inr (2, [.int (nI n), .ref (am 1), .ref (am 2), .int (nI oc), .int td, .int 0, .long sL, .ref (am 3), .ref (am 4), .ref (am 5), .ref (am 6), .ref (am 7), .ref (am 8)]))) (0 + 0) (0 + 0) 45 [(2, .int (nI (k_13))), (0, .ref (am 0)), (1, .int (nI j))] []) 10 ?_ ?_ 0 (Nat.zero_le _) (fun g hg => absurd hg (Nat.not_lt_zero g))
      · intro hy_k_13
        refine pw_iload_n (pc := 45) hX dX2_complete_45 0 rfl ?_
        refine pw_bipush (pc := 46) (v := 10) hX dX2_complete_46 (by decide) ?_
        refine pw_icmp_ge (pc := 48) hX 86 dX2_complete_48 (by decide) (fun hc_14 => ?_) (fun hc_14 => absurd (by decide) hc_14)
        refine pw_aload_n (pc := 86) hX dX2_complete_86 1 rfl ?_
        refine pw_get (pc := 87) hX dX2_complete_87 hm_11 rfl inT_2 7 (by decide) fl_RX2_21 rfl ?_
        refine pw_iload_n (pc := 90) hX dX2_complete_90 2 rfl ?_
        refine pw_iconst (pc := 91) (v := 2) hX dX2_complete_91 (by decide) ?_
        refine pw_iast (pc := 92) (j := j) hX dX2_complete_92 hm_5 (by omega) (by decide) ?_
        have hm_15 := pw_ke (a := am 3) (e := .inl (G.2.2.1 0, 20, .inl (upd os j 2))) hm_11 (mw_ne hm (x := 0) (y := 3) (by decide) (by decide) (by decide))
        have hm_16 := pw_ke (a := am 3) (e := .inl (G.2.2.1 0, 20, .inl (upd os j 2))) hm_3 (mw_ne hm (x := 1) (y := 3) (by decide) (by decide) (by decide))
        have hm_17 := pw_ke (a := am 3) (e := .inl (G.2.2.1 0, 20, .inl (upd os j 2))) hm_4 (mw_ne hm (x := 2) (y := 3) (by decide) (by decide) (by decide))
        have hm_18 := pw_ke (a := am 3) (e := .inl (G.2.2.1 0, 20, .inl (upd os j 2))) hm_6 (mw_ne hm (x := 4) (y := 3) (by decide) (by decide) (by decide))
        have hm_19 := pw_ke (a := am 3) (e := .inl (G.2.2.1 0, 20, .inl (upd os j 2))) hm_7 (mw_ne hm (x := 5) (y := 3) (by decide) (by decide) (by decide))
        have hm_20 := pw_ke (a := am 3) (e := .inl (G.2.2.1 0, 20, .inl (upd os j 2))) hm_8 (mw_ne hm (x := 6) (y := 3) (by decide) (by decide) (by decide))
        have hm_21 := pw_ke (a := am 3) (e := .inl (G.2.2.1 0, 20, .inl (upd os j 2))) hm_9 (mw_ne hm (x := 7) (y := 3) (by decide) (by decide) (by decide))
        have hm_22 := pw_ke (a := am 3) (e := .inl (G.2.2.1 0, 20, .inl (upd os j 2))) hm_10 (mw_ne hm (x := 8) (y := 3) (by decide) (by decide) (by decide))
        have hm_23 : pw_up (pw_up M (am 0) (.inr (2, [.int (nI n), .ref (am 1), .ref (am 2), .int (nI oc), .int td, .int 0, .long sL, .ref (am 3), .ref (am 4), .ref (am 5), .ref (am 6), .ref (am 7), .ref (am 8)]))) (am 3) (.inl (G.2.2.1 0, 20, .inl (upd os j 2))) (am 3) = some (.inl (G.2.2.1 0, 20, .inl (upd os j 2))) := pw_us
        refine pw_iconst (pc := 93) (v := 1) hX dX2_complete_93 (by decide) ?_
        subst hQ9
        exact pw_zret hX dX2_complete_94 hrt rfl ⟨by decide, by decide⟩ (by rw [ix_nI hjB]; exact ⟨Or.inl ⟨pc2_0 (fun h => h (ir_nI hj)) (by rw [ix_nI hjB]; exact fun h => h hc_2), Or.inl ⟨rfl, hy_k_13, (mw_os (mw_ob hm (oc) (mw_oc hm) td 0 sL) _)⟩⟩, (fm_up (fm_up fm_rf (x := 0) (by decide) _) (x := 3) (by decide) _)⟩)
      · intro k_13 hk_13 ih_k_13
        intro hy_k_13
        refine pw_iload_n (pc := 45) hX dX2_complete_45 0 rfl ?_
        refine pw_bipush (pc := 46) (v := 10) hX dX2_complete_46 (by decide) ?_
        refine pw_icmp_ge (pc := 48) hX 86 dX2_complete_48 (by decide) (fun hc_24 => absurd hc_24 (nI_ge (b := 10) hk_13 (by decide))) (fun hc_24 => ?_)
        refine pw_aload_n (pc := 51) hX dX2_complete_51 1 rfl ?_
        refine pw_iload_n (pc := 52) hX dX2_complete_52 2 rfl ?_
        refine pw_iload_n (pc := 53) hX dX2_complete_53 0 rfl ?_
        refine pw_callV (pc := 54) (st := []) hX (mt_hasLine l hl G _ am _ _ _ _ _ _ _ _ _ _ _ _ _ (mw_ob hm (oc) (mw_oc hm) td 0 sL) j k_13 hj hk_13) hm_11 rfl ok_X2_hasLine lk_RX2_46 dX2_complete_54 rfl ⟨⟨by decide, by decide⟩, Nat.le_of_ble_eq_true rfl, Nat.le_of_ble_eq_true rfl, Nat.le_of_ble_eq_true rfl⟩ rfl (fun v9 M9 hp9 => ?_)
        obtain ⟨rfl, rfl⟩ := hp9
        refine pw_if_eq (pc := 57) hX 80 dX2_complete_57 (by decide) (fun hc_25 => ?_) (fun hc_25 => ?_)
        · refine pw_iinc (pc := 80) (v := nI ((k_13) + 1)) (j := 0) hX [(2, .int (nI ((k_13) + 1))), (0, .ref (am 0)), (1, .int (nI j))] dX2_complete_80 rfl (nI_1 _) (by decide) rfl ?_
          refine pw_goto (pc := 83) hX 45 dX2_complete_83 (by decide) ?_
          exact pw_lv [0, 1, 2] _ rfl (ih_k_13 (lt_s hy_k_13 (fun h => pw_ite0 hc_25 h.1)))
        · refine pw_aload_n (pc := 60) hX dX2_complete_60 1 rfl ?_
          refine pw_iload_n (pc := 61) hX dX2_complete_61 2 rfl ?_
          refine pw_iload_n (pc := 62) hX dX2_complete_62 0 rfl ?_
          refine pw_callV (pc := 63) (st := []) hX (mt_missing l hl G _ am _ _ _ _ _ _ _ _ _ _ _ _ _ (mw_ob hm (oc) (mw_oc hm) td 0 sL) j k_13 hj hk_13) hm_11 rfl ok_X2_missing lk_RX2_70 dX2_complete_63 rfl ⟨⟨by decide, by decide⟩, Nat.le_of_ble_eq_true rfl, Nat.le_of_ble_eq_true rfl, Nat.le_of_ble_eq_true rfl⟩ rfl (fun v9 M9 hp9 => ?_)
          obtain ⟨rfl, rfl⟩ := hp9
          refine pw_if_le (pc := 66) hX 80 dX2_complete_66 (by decide) (fun hc_26 => ?_) (fun hc_26 => ?_)
          · refine pw_iinc (pc := 80) (v := nI ((k_13) + 1)) (j := 0) hX [(2, .int (nI ((k_13) + 1))), (0, .ref (am 0)), (1, .int (nI j))] dX2_complete_80 rfl (nI_1 _) (by decide) rfl ?_
            refine pw_goto (pc := 83) hX 45 dX2_complete_83 (by decide) ?_
            exact pw_lv [0, 1, 2] _ rfl (ih_k_13 (lt_s hy_k_13 (fun h => absurd h.2.1 (Int32.not_lt.mpr hc_26))))
          · refine pw_aload_n (pc := 69) hX dX2_complete_69 1 rfl ?_
            refine pw_iload_n (pc := 70) hX dX2_complete_70 2 rfl ?_
            refine pw_iload_n (pc := 71) hX dX2_complete_71 0 rfl ?_
            refine pw_callV (pc := 72) (st := []) hX (mt_givenUp l hl G _ am _ _ _ _ _ _ _ _ _ _ _ _ _ (mw_ob hm (oc) (mw_oc hm) td 0 sL) j k_13 hj hk_13) hm_11 rfl ok_X2_givenUp lk_RX2_76 dX2_complete_72 rfl ⟨⟨by decide, by decide⟩, Nat.le_of_ble_eq_true rfl, Nat.le_of_ble_eq_true rfl, Nat.le_of_ble_eq_true rfl⟩ rfl (fun v9 M9 hp9 => ?_)
            obtain ⟨rfl, ⟨rfl, hgu⟩ | ⟨rfl, hgu⟩⟩ := hp9
            · refine pw_if_ne (pc := 75) hX 80 dX2_complete_75 (by decide) (fun _ => ?_) (fun h => absurd h (by decide))
              refine pw_iinc (pc := 80) (v := nI ((k_13) + 1)) (j := 0) hX [(2, .int (nI ((k_13) + 1))), (0, .ref (am 0)), (1, .int (nI j))] dX2_complete_80 rfl (nI_1 _) (by decide) rfl ?_
              refine pw_goto (pc := 83) hX 45 dX2_complete_83 (by decide) ?_
              exact pw_lv [0, 1, 2] _ rfl (ih_k_13 (lt_s hy_k_13 (fun h => h.2.2 hgu)))
            · refine pw_if_ne (pc := 75) hX 80 dX2_complete_75 (by decide) (fun h => absurd h (by decide)) (fun _ => ?_)
              refine pw_iconst (pc := 78) (v := 0) hX dX2_complete_78 (by decide) ?_
              subst hQ9
              exact pw_zret hX dX2_complete_79 hrt rfl ⟨by decide, by decide⟩ (by rw [ix_nI hjB]; exact ⟨Or.inl ⟨pc2_0 (fun h => h (ir_nI hj)) (by rw [ix_nI hjB]; exact fun h => h hc_2), Or.inr ⟨rfl, ⟨k_13, hk_13, pw_ite1 hc_25, Int32.not_le.mp hc_26, hgu⟩, (mw_ob hm (oc) (mw_oc hm) td 0 sL)⟩⟩, (fm_up fm_rf (x := 0) (by decide) _)⟩)
    · refine pw_iconst (pc := 26) (v := 2) hX dX2_complete_26 (by decide) ?_
      refine pw_goto (pc := 27) hX 31 dX2_complete_27 (by decide) ?_
      refine pw_put (pc := 31) (v := .int 2) hX dX2_complete_31 hm.1 rfl inT_2 tyX2 tyX2_ok nmX2 5 (by decide) fl_RX2_43 rfl (tyX2_ok 5 (by decide)) rfl rfl (Nat.le_of_ble_eq_true rfl) [.int (nI n), .ref (am 1), .ref (am 2), .int (nI oc), .int td, .int 2, .long sL, .ref (am 3), .ref (am 4), .ref (am 5), .ref (am 6), .ref (am 7), .ref (am 8)] rfl ?_
      have hm_29 := pw_ke (a := am 0) (e := .inr (2, [.int (nI n), .ref (am 1), .ref (am 2), .int (nI oc), .int td, .int 2, .long sL, .ref (am 3), .ref (am 4), .ref (am 5), .ref (am 6), .ref (am 7), .ref (am 8)])) hm.2.1 (mw_ne hm (x := 1) (y := 0) (by decide) (by decide) (by decide))
      have hm_30 := pw_ke (a := am 0) (e := .inr (2, [.int (nI n), .ref (am 1), .ref (am 2), .int (nI oc), .int td, .int 2, .long sL, .ref (am 3), .ref (am 4), .ref (am 5), .ref (am 6), .ref (am 7), .ref (am 8)])) hm.2.2.1 (mw_ne hm (x := 2) (y := 0) (by decide) (by decide) (by decide))
      have hm_31 := pw_ke (a := am 0) (e := .inr (2, [.int (nI n), .ref (am 1), .ref (am 2), .int (nI oc), .int td, .int 2, .long sL, .ref (am 3), .ref (am 4), .ref (am 5), .ref (am 6), .ref (am 7), .ref (am 8)])) hm.2.2.2.1 (mw_ne hm (x := 3) (y := 0) (by decide) (by decide) (by decide))
      have hm_32 := pw_ke (a := am 0) (e := .inr (2, [.int (nI n), .ref (am 1), .ref (am 2), .int (nI oc), .int td, .int 2, .long sL, .ref (am 3), .ref (am 4), .ref (am 5), .ref (am 6), .ref (am 7), .ref (am 8)])) hm.2.2.2.2.1 (mw_ne hm (x := 4) (y := 0) (by decide) (by decide) (by decide))
      have hm_33 := pw_ke (a := am 0) (e := .inr (2, [.int (nI n), .ref (am 1), .ref (am 2), .int (nI oc), .int td, .int 2, .long sL, .ref (am 3), .ref (am 4), .ref (am 5), .ref (am 6), .ref (am 7), .ref (am 8)])) hm.2.2.2.2.2.1 (mw_ne hm (x := 5) (y := 0) (by decide) (by decide) (by decide))
      have hm_34 := pw_ke (a := am 0) (e := .inr (2, [.int (nI n), .ref (am 1), .ref (am 2), .int (nI oc), .int td, .int 2, .long sL, .ref (am 3), .ref (am 4), .ref (am 5), .ref (am 6), .ref (am 7), .ref (am 8)])) hm.2.2.2.2.2.2.1 (mw_ne hm (x := 6) (y := 0) (by decide) (by decide) (by decide))
      have hm_35 := pw_ke (a := am 0) (e := .inr (2, [.int (nI n), .ref (am 1), .ref (am 2), .int (nI oc), .int td, .int 2, .long sL, .ref (am 3), .ref (am 4), .ref (am 5), .ref (am 6), .ref (am 7), .ref (am 8)])) hm.2.2.2.2.2.2.2.1 (mw_ne hm (x := 7) (y := 0) (by decide) (by decide) (by decide))
      have hm_36 := pw_ke (a := am 0) (e := .inr (2, [.int (nI n), .ref (am 1), .ref (am 2), .int (nI oc), .int td, .int 2, .long sL, .ref (am 3), .ref (am 4), .ref (am 5), .ref (am 6), .ref (am 7), .ref (am 8)])) hm.2.2.2.2.2.2.2.2.1 (mw_ne hm (x := 8) (y := 0) (by decide) (by decide) (by decide))
      have hm_37 : pw_up M (am 0) (.inr (2, [.int (nI n), .ref (am 1), .ref (am 2), .int (nI oc), .int td, .int 2, .long sL, .ref (am 3), .ref (am 4), .ref (am 5), .ref (am 6), .ref (am 7), .ref (am 8)])) (am 0) = some (.inr (2, [.int (nI n), .ref (am 1), .ref (am 2), .int (nI oc), .int td, .int 2, .long sL, .ref (am 3), .ref (am 4), .ref (am 5), .ref (am 6), .ref (am 7), .ref (am 8)])) := pw_us
      refine pw_aload_n (pc := 34) hX dX2_complete_34 0 rfl ?_
      refine pw_get (pc := 35) hX dX2_complete_35 hm_37 rfl inT_2 5 (by decide) fl_RX2_43 rfl ?_
      refine pw_if_eq (pc := 38) hX 43 dX2_complete_38 (by decide) (fun h => absurd h (by decide)) (fun _ => ?_)
      refine pw_iconst (pc := 41) (v := 0) hX dX2_complete_41 (by decide) ?_
      subst hQ9
      exact pw_zret hX dX2_complete_42 hrt rfl ⟨by decide, by decide⟩ ⟨Or.inr ⟨by rw [show cd_complete oc os (nI j) = 2 from pc2_2 (fun h => h (ir_nI hj)) (by rw [ix_nI hjB]; exact hc_2)]; decide, ⟨_, rfl⟩, by rw [show cd_complete oc os (nI j) = 2 from pc2_2 (fun h => h (ir_nI hj)) (by rw [ix_nI hjB]; exact hc_2)]; exact (mw_ob hm (oc) (mw_oc hm) td 2 sL)⟩, (fm_up fm_rf (x := 0) (by decide) _)⟩
  · refine pw_if_ne (pc := 9) hX 16 dX2_complete_9 (by decide) (fun h => absurd h (by decide)) (fun _ => ?_)
    refine pw_iconst (pc := 12) (v := 1) hX dX2_complete_12 (by decide) ?_
    refine pw_goto (pc := 13) hX 31 dX2_complete_13 (by decide) ?_
    refine pw_put (pc := 31) (v := .int 1) hX dX2_complete_31 hm.1 rfl inT_2 tyX2 tyX2_ok nmX2 5 (by decide) fl_RX2_43 rfl (tyX2_ok 5 (by decide)) rfl rfl (Nat.le_of_ble_eq_true rfl) [.int (nI n), .ref (am 1), .ref (am 2), .int (nI oc), .int td, .int 1, .long sL, .ref (am 3), .ref (am 4), .ref (am 5), .ref (am 6), .ref (am 7), .ref (am 8)] rfl ?_
    have hm_40 := pw_ke (a := am 0) (e := .inr (2, [.int (nI n), .ref (am 1), .ref (am 2), .int (nI oc), .int td, .int 1, .long sL, .ref (am 3), .ref (am 4), .ref (am 5), .ref (am 6), .ref (am 7), .ref (am 8)])) hm.2.1 (mw_ne hm (x := 1) (y := 0) (by decide) (by decide) (by decide))
    have hm_41 := pw_ke (a := am 0) (e := .inr (2, [.int (nI n), .ref (am 1), .ref (am 2), .int (nI oc), .int td, .int 1, .long sL, .ref (am 3), .ref (am 4), .ref (am 5), .ref (am 6), .ref (am 7), .ref (am 8)])) hm.2.2.1 (mw_ne hm (x := 2) (y := 0) (by decide) (by decide) (by decide))
    have hm_42 := pw_ke (a := am 0) (e := .inr (2, [.int (nI n), .ref (am 1), .ref (am 2), .int (nI oc), .int td, .int 1, .long sL, .ref (am 3), .ref (am 4), .ref (am 5), .ref (am 6), .ref (am 7), .ref (am 8)])) hm.2.2.2.1 (mw_ne hm (x := 3) (y := 0) (by decide) (by decide) (by decide))
    have hm_43 := pw_ke (a := am 0) (e := .inr (2, [.int (nI n), .ref (am 1), .ref (am 2), .int (nI oc), .int td, .int 1, .long sL, .ref (am 3), .ref (am 4), .ref (am 5), .ref (am 6), .ref (am 7), .ref (am 8)])) hm.2.2.2.2.1 (mw_ne hm (x := 4) (y := 0) (by decide) (by decide) (by decide))
    have hm_44 := pw_ke (a := am 0) (e := .inr (2, [.int (nI n), .ref (am 1), .ref (am 2), .int (nI oc), .int td, .int 1, .long sL, .ref (am 3), .ref (am 4), .ref (am 5), .ref (am 6), .ref (am 7), .ref (am 8)])) hm.2.2.2.2.2.1 (mw_ne hm (x := 5) (y := 0) (by decide) (by decide) (by decide))
    have hm_45 := pw_ke (a := am 0) (e := .inr (2, [.int (nI n), .ref (am 1), .ref (am 2), .int (nI oc), .int td, .int 1, .long sL, .ref (am 3), .ref (am 4), .ref (am 5), .ref (am 6), .ref (am 7), .ref (am 8)])) hm.2.2.2.2.2.2.1 (mw_ne hm (x := 6) (y := 0) (by decide) (by decide) (by decide))
    have hm_46 := pw_ke (a := am 0) (e := .inr (2, [.int (nI n), .ref (am 1), .ref (am 2), .int (nI oc), .int td, .int 1, .long sL, .ref (am 3), .ref (am 4), .ref (am 5), .ref (am 6), .ref (am 7), .ref (am 8)])) hm.2.2.2.2.2.2.2.1 (mw_ne hm (x := 7) (y := 0) (by decide) (by decide) (by decide))
    have hm_47 := pw_ke (a := am 0) (e := .inr (2, [.int (nI n), .ref (am 1), .ref (am 2), .int (nI oc), .int td, .int 1, .long sL, .ref (am 3), .ref (am 4), .ref (am 5), .ref (am 6), .ref (am 7), .ref (am 8)])) hm.2.2.2.2.2.2.2.2.1 (mw_ne hm (x := 8) (y := 0) (by decide) (by decide) (by decide))
    have hm_48 : pw_up M (am 0) (.inr (2, [.int (nI n), .ref (am 1), .ref (am 2), .int (nI oc), .int td, .int 1, .long sL, .ref (am 3), .ref (am 4), .ref (am 5), .ref (am 6), .ref (am 7), .ref (am 8)])) (am 0) = some (.inr (2, [.int (nI n), .ref (am 1), .ref (am 2), .int (nI oc), .int td, .int 1, .long sL, .ref (am 3), .ref (am 4), .ref (am 5), .ref (am 6), .ref (am 7), .ref (am 8)])) := pw_us
    refine pw_aload_n (pc := 34) hX dX2_complete_34 0 rfl ?_
    refine pw_get (pc := 35) hX dX2_complete_35 hm_48 rfl inT_2 5 (by decide) fl_RX2_43 rfl ?_
    refine pw_if_eq (pc := 38) hX 43 dX2_complete_38 (by decide) (fun h => absurd h (by decide)) (fun _ => ?_)
    refine pw_iconst (pc := 41) (v := 0) hX dX2_complete_41 (by decide) ?_
    subst hQ9
    exact pw_zret hX dX2_complete_42 hrt rfl ⟨by decide, by decide⟩ ⟨Or.inr ⟨by rw [show cd_complete oc os p0 = 1 from pc_t hno_p0]; decide, ⟨_, rfl⟩, by rw [show cd_complete oc os p0 = 1 from pc_t hno_p0]; exact (mw_ob hm (oc) (mw_oc hm) td 1 sL)⟩, (fm_up fm_rf (x := 0) (by decide) _)⟩
set_option maxHeartbeats 4000000 in
set_option maxRecDepth 100000 in
theorem mp_release (l : Launch) (hl : l.stackTraces = false) (G : pw_G) (M : pw_M) (am : Nat → Nat) (n oc : Nat) (td th : Int32) (sL : Int64) (dk to er os pl : Nat → Int32) (wa pr la : Nat → Nat → Int32) (hm : mw G am n oc td th sL dk to er os pl wa pr la M) (oo : Nat → Option Nat) (hO : ∀ c, c < n → ∀ j, oo c = some j ↔ j < oc ∧ pl j = nI c) (p0 : Int32) : pw_Met l yX2_release cX2_release 3 (some .boolean) 3 0 0 G [.ref (am 0), .int p0] M (fun v9 M9 => (cd_release n oo p0 = 0 ∧ (∃ o, oo (ix p0) = some o ∧ o < oc ∧ (v9 = some (.int 0) ∧ ¬ os o = 2 ∧ mw G am n oc td 0 sL dk to er os pl wa pr la M9 ∨ v9 = some (.int 1) ∧ os o = 2 ∧ mw G am n oc td 0 sL dk to er (upd os o 3) (upd pl o (-1)) wa pr la M9)) ∨ ¬ cd_release n oo p0 = 0 ∧ (∃ z, v9 = some (.int z)) ∧ mw G am n oc td (cd_release n oo p0) sL dk to er os pl wa pr la M9) ∧ fm am 9 M M9) := by
  refine pw_of hl (by decide +kernel) (Nat.le_of_ble_eq_true rfl) [(0, .ref (am 0)), (1, .int p0)] rfl ?_
  intro p9 e9 s9 m9 args9 below9 meth9 c9 hX hrt hmi
  have hn9 := mw_n hm
  have hoc := mw_oc hm
  refine pw_aload_n (pc := 0) hX dX2_release_0 0 rfl ?_
  refine pw_iload_n (pc := 1) hX dX2_release_1 1 rfl ?_
  refine pw_aload_n (pc := 2) hX dX2_release_2 0 rfl ?_
  refine pw_get (pc := 3) hX dX2_release_3 hm.1 rfl inT_2 0 (by decide) fl_RX2_39 rfl ?_
  refine pw_callS (pc := 6) (st := [.ref (am 0)]) hX (mt_below l hl G M p0 n (Nat.lt_of_le_of_lt (mw_n hm) (by decide))) ok_X2_below lk_RX2_53 dX2_release_6 rfl ⟨⟨by decide, by decide⟩, Nat.le_of_ble_eq_true rfl, Nat.le_of_ble_eq_true rfl, Nat.le_of_ble_eq_true rfl⟩ rfl (fun v9 M9 hp9 => ?_)
  obtain ⟨rfl, ⟨rfl, t, ht, rfl⟩ | ⟨rfl, hno_p0⟩⟩ := hp9
  · have htB : t < 2 ^ 31 := Nat.lt_of_lt_of_le ht (Nat.le_trans (mw_n hm) (by decide))
    refine pw_if_ne (pc := 9) hX 16 dX2_release_9 (by decide) (fun _ => ?_) (fun h => absurd h (by decide))
    refine pw_aload_n (pc := 16) hX dX2_release_16 0 rfl ?_
    refine pw_iload_n (pc := 17) hX dX2_release_17 1 rfl ?_
    refine pw_callV (pc := 18) (st := [.ref (am 0)]) hX (mt_at l hl G _ am _ _ _ _ _ _ _ _ _ _ _ _ _ hm oo hO t ht) hm.1 rfl ok_X2_at lk_RX2_60 dX2_release_18 rfl ⟨⟨by decide, by decide⟩, Nat.le_of_ble_eq_true rfl, Nat.le_of_ble_eq_true rfl, Nat.le_of_ble_eq_true rfl⟩ rfl (fun v9 M9 hp9 => ?_)
    obtain ⟨rfl, ⟨o, ho, ho9, rfl⟩ | ⟨ho, rfl⟩⟩ := hp9
    · have hoB : o < 2 ^ 31 := Nat.lt_of_lt_of_le ho9 (Nat.le_trans (mw_oc hm) (by decide))
      refine pw_iconst (pc := 21) (v := (-1)) hX dX2_release_21 (by decide) ?_
      refine pw_icmp_ne (pc := 22) hX 29 dX2_release_22 (by decide) (fun hc_2 => ?_) (fun hc_2 => absurd hc_2 (nI_m1 hoB))
      refine pw_iconst (pc := 29) (v := 0) hX dX2_release_29 (by decide) ?_
      refine pw_put (pc := 30) (v := .int 0) hX dX2_release_30 hm.1 rfl inT_2 tyX2 tyX2_ok nmX2 5 (by decide) fl_RX2_43 rfl (tyX2_ok 5 (by decide)) rfl rfl (Nat.le_of_ble_eq_true rfl) [.int (nI n), .ref (am 1), .ref (am 2), .int (nI oc), .int td, .int 0, .long sL, .ref (am 3), .ref (am 4), .ref (am 5), .ref (am 6), .ref (am 7), .ref (am 8)] rfl ?_
      have hm_3 := pw_ke (a := am 0) (e := .inr (2, [.int (nI n), .ref (am 1), .ref (am 2), .int (nI oc), .int td, .int 0, .long sL, .ref (am 3), .ref (am 4), .ref (am 5), .ref (am 6), .ref (am 7), .ref (am 8)])) hm.2.1 (mw_ne hm (x := 1) (y := 0) (by decide) (by decide) (by decide))
      have hm_4 := pw_ke (a := am 0) (e := .inr (2, [.int (nI n), .ref (am 1), .ref (am 2), .int (nI oc), .int td, .int 0, .long sL, .ref (am 3), .ref (am 4), .ref (am 5), .ref (am 6), .ref (am 7), .ref (am 8)])) hm.2.2.1 (mw_ne hm (x := 2) (y := 0) (by decide) (by decide) (by decide))
      have hm_5 := pw_ke (a := am 0) (e := .inr (2, [.int (nI n), .ref (am 1), .ref (am 2), .int (nI oc), .int td, .int 0, .long sL, .ref (am 3), .ref (am 4), .ref (am 5), .ref (am 6), .ref (am 7), .ref (am 8)])) hm.2.2.2.1 (mw_ne hm (x := 3) (y := 0) (by decide) (by decide) (by decide))
      have hm_6 := pw_ke (a := am 0) (e := .inr (2, [.int (nI n), .ref (am 1), .ref (am 2), .int (nI oc), .int td, .int 0, .long sL, .ref (am 3), .ref (am 4), .ref (am 5), .ref (am 6), .ref (am 7), .ref (am 8)])) hm.2.2.2.2.1 (mw_ne hm (x := 4) (y := 0) (by decide) (by decide) (by decide))
      have hm_7 := pw_ke (a := am 0) (e := .inr (2, [.int (nI n), .ref (am 1), .ref (am 2), .int (nI oc), .int td, .int 0, .long sL, .ref (am 3), .ref (am 4), .ref (am 5), .ref (am 6), .ref (am 7), .ref (am 8)])) hm.2.2.2.2.2.1 (mw_ne hm (x := 5) (y := 0) (by decide) (by decide) (by decide))
      have hm_8 := pw_ke (a := am 0) (e := .inr (2, [.int (nI n), .ref (am 1), .ref (am 2), .int (nI oc), .int td, .int 0, .long sL, .ref (am 3), .ref (am 4), .ref (am 5), .ref (am 6), .ref (am 7), .ref (am 8)])) hm.2.2.2.2.2.2.1 (mw_ne hm (x := 6) (y := 0) (by decide) (by decide) (by decide))
      have hm_9 := pw_ke (a := am 0) (e := .inr (2, [.int (nI n), .ref (am 1), .ref (am 2), .int (nI oc), .int td, .int 0, .long sL, .ref (am 3), .ref (am 4), .ref (am 5), .ref (am 6), .ref (am 7), .ref (am 8)])) hm.2.2.2.2.2.2.2.1 (mw_ne hm (x := 7) (y := 0) (by decide) (by decide) (by decide))
      have hm_10 := pw_ke (a := am 0) (e := .inr (2, [.int (nI n), .ref (am 1), .ref (am 2), .int (nI oc), .int td, .int 0, .long sL, .ref (am 3), .ref (am 4), .ref (am 5), .ref (am 6), .ref (am 7), .ref (am 8)])) hm.2.2.2.2.2.2.2.2.1 (mw_ne hm (x := 8) (y := 0) (by decide) (by decide) (by decide))
      have hm_11 : pw_up M (am 0) (.inr (2, [.int (nI n), .ref (am 1), .ref (am 2), .int (nI oc), .int td, .int 0, .long sL, .ref (am 3), .ref (am 4), .ref (am 5), .ref (am 6), .ref (am 7), .ref (am 8)])) (am 0) = some (.inr (2, [.int (nI n), .ref (am 1), .ref (am 2), .int (nI oc), .int td, .int 0, .long sL, .ref (am 3), .ref (am 4), .ref (am 5), .ref (am 6), .ref (am 7), .ref (am 8)])) := pw_us
      refine pw_aload_n (pc := 33) hX dX2_release_33 0 rfl ?_
      refine pw_get (pc := 34) hX dX2_release_34 hm_11 rfl inT_2 5 (by decide) fl_RX2_43 rfl ?_
      refine pw_if_eq (pc := 37) hX 42 dX2_release_37 (by decide) (fun _ => ?_) (fun h => absurd h (by decide))
      refine pw_aload_n (pc := 42) hX dX2_release_42 0 rfl ?_
      refine pw_iload_n (pc := 43) hX dX2_release_43 1 rfl ?_
      refine pw_callV (pc := 44) (st := []) hX (mt_at l hl G _ am _ _ _ _ _ _ _ _ _ _ _ _ _ (mw_ob hm (oc) (mw_oc hm) td 0 sL) oo hO t ht) hm_11 rfl ok_X2_at lk_RX2_60 dX2_release_44 rfl ⟨⟨by decide, by decide⟩, Nat.le_of_ble_eq_true rfl, Nat.le_of_ble_eq_true rfl, Nat.le_of_ble_eq_true rfl⟩ rfl (fun v9 M9 hp9 => ?_)
      obtain ⟨rfl, ⟨o2, ho2, -, rfl⟩ | ⟨ho2, rfl⟩⟩ := hp9
      rotate_left
      · rw [ho] at ho2; cases ho2
      obtain rfl : o = o2 := Option.some.inj (ho.symm.trans ho2)
      refine pw_istore_n (pc := 47) hX [(2, .int (nI o)), (0, .ref (am 0)), (1, .int (nI t))] dX2_release_47 (by decide) rfl ?_
      refine pw_aload_n (pc := 48) hX dX2_release_48 1 rfl ?_
      refine pw_get (pc := 49) hX dX2_release_49 hm_11 rfl inT_2 7 (by decide) fl_RX2_21 rfl ?_
      refine pw_iload_n (pc := 52) hX dX2_release_52 0 rfl ?_
      refine pw_iald (pc := 53) (j := o) hX dX2_release_53 hm_5 (by omega) (by decide) ?_
      refine pw_iconst (pc := 54) (v := 2) hX dX2_release_54 (by decide) ?_
      refine pw_icmp_eq (pc := 55) hX 60 dX2_release_55 (by decide) (fun hc_13 => ?_) (fun hc_13 => ?_)
      · refine pw_aload_n (pc := 60) hX dX2_release_60 1 rfl ?_
        refine pw_get (pc := 61) hX dX2_release_61 hm_11 rfl inT_2 7 (by decide) fl_RX2_21 rfl ?_
        refine pw_iload_n (pc := 64) hX dX2_release_64 0 rfl ?_
        refine pw_iconst (pc := 65) (v := 3) hX dX2_release_65 (by decide) ?_
        refine pw_iast (pc := 66) (j := o) hX dX2_release_66 hm_5 (by omega) (by decide) ?_
        have hm_14 := pw_ke (a := am 3) (e := .inl (G.2.2.1 0, 20, .inl (upd os o 3))) hm_11 (mw_ne hm (x := 0) (y := 3) (by decide) (by decide) (by decide))
        have hm_15 := pw_ke (a := am 3) (e := .inl (G.2.2.1 0, 20, .inl (upd os o 3))) hm_3 (mw_ne hm (x := 1) (y := 3) (by decide) (by decide) (by decide))
        have hm_16 := pw_ke (a := am 3) (e := .inl (G.2.2.1 0, 20, .inl (upd os o 3))) hm_4 (mw_ne hm (x := 2) (y := 3) (by decide) (by decide) (by decide))
        have hm_17 := pw_ke (a := am 3) (e := .inl (G.2.2.1 0, 20, .inl (upd os o 3))) hm_6 (mw_ne hm (x := 4) (y := 3) (by decide) (by decide) (by decide))
        have hm_18 := pw_ke (a := am 3) (e := .inl (G.2.2.1 0, 20, .inl (upd os o 3))) hm_7 (mw_ne hm (x := 5) (y := 3) (by decide) (by decide) (by decide))
        have hm_19 := pw_ke (a := am 3) (e := .inl (G.2.2.1 0, 20, .inl (upd os o 3))) hm_8 (mw_ne hm (x := 6) (y := 3) (by decide) (by decide) (by decide))
        have hm_20 := pw_ke (a := am 3) (e := .inl (G.2.2.1 0, 20, .inl (upd os o 3))) hm_9 (mw_ne hm (x := 7) (y := 3) (by decide) (by decide) (by decide))
        have hm_21 := pw_ke (a := am 3) (e := .inl (G.2.2.1 0, 20, .inl (upd os o 3))) hm_10 (mw_ne hm (x := 8) (y := 3) (by decide) (by decide) (by decide))
        have hm_22 : pw_up (pw_up M (am 0) (.inr (2, [.int (nI n), .ref (am 1), .ref (am 2), .int (nI oc), .int td, .int 0, .long sL, .ref (am 3), .ref (am 4), .ref (am 5), .ref (am 6), .ref (am 7), .ref (am 8)]))) (am 3) (.inl (G.2.2.1 0, 20, .inl (upd os o 3))) (am 3) = some (.inl (G.2.2.1 0, 20, .inl (upd os o 3))) := pw_us
        refine pw_aload_n (pc := 67) hX dX2_release_67 1 rfl ?_
        refine pw_get (pc := 68) hX dX2_release_68 hm_14 rfl inT_2 8 (by decide) fl_RX2_24 rfl ?_
        refine pw_iload_n (pc := 71) hX dX2_release_71 0 rfl ?_
        refine pw_iconst (pc := 72) (v := (-1)) hX dX2_release_72 (by decide) ?_
        refine pw_iast (pc := 73) (j := o) hX dX2_release_73 hm_17 (by omega) (by decide) ?_
        have hm_23 := pw_ke (a := am 4) (e := .inl (G.2.2.1 0, 20, .inl (upd pl o ((-1))))) hm_14 (mw_ne hm (x := 0) (y := 4) (by decide) (by decide) (by decide))
        have hm_24 := pw_ke (a := am 4) (e := .inl (G.2.2.1 0, 20, .inl (upd pl o ((-1))))) hm_15 (mw_ne hm (x := 1) (y := 4) (by decide) (by decide) (by decide))
        have hm_25 := pw_ke (a := am 4) (e := .inl (G.2.2.1 0, 20, .inl (upd pl o ((-1))))) hm_16 (mw_ne hm (x := 2) (y := 4) (by decide) (by decide) (by decide))
        have hm_26 := pw_ke (a := am 4) (e := .inl (G.2.2.1 0, 20, .inl (upd pl o ((-1))))) hm_22 (mw_ne hm (x := 3) (y := 4) (by decide) (by decide) (by decide))
        have hm_27 := pw_ke (a := am 4) (e := .inl (G.2.2.1 0, 20, .inl (upd pl o ((-1))))) hm_18 (mw_ne hm (x := 5) (y := 4) (by decide) (by decide) (by decide))
        have hm_28 := pw_ke (a := am 4) (e := .inl (G.2.2.1 0, 20, .inl (upd pl o ((-1))))) hm_19 (mw_ne hm (x := 6) (y := 4) (by decide) (by decide) (by decide))
        have hm_29 := pw_ke (a := am 4) (e := .inl (G.2.2.1 0, 20, .inl (upd pl o ((-1))))) hm_20 (mw_ne hm (x := 7) (y := 4) (by decide) (by decide) (by decide))
        have hm_30 := pw_ke (a := am 4) (e := .inl (G.2.2.1 0, 20, .inl (upd pl o ((-1))))) hm_21 (mw_ne hm (x := 8) (y := 4) (by decide) (by decide) (by decide))
        have hm_31 : pw_up (pw_up (pw_up M (am 0) (.inr (2, [.int (nI n), .ref (am 1), .ref (am 2), .int (nI oc), .int td, .int 0, .long sL, .ref (am 3), .ref (am 4), .ref (am 5), .ref (am 6), .ref (am 7), .ref (am 8)]))) (am 3) (.inl (G.2.2.1 0, 20, .inl (upd os o 3)))) (am 4) (.inl (G.2.2.1 0, 20, .inl (upd pl o ((-1))))) (am 4) = some (.inl (G.2.2.1 0, 20, .inl (upd pl o ((-1))))) := pw_us
        refine pw_iconst (pc := 74) (v := 1) hX dX2_release_74 (by decide) ?_
        exact pw_zret hX dX2_release_75 hrt rfl ⟨by decide, by decide⟩ (by rw [ix_nI htB]; exact ⟨Or.inl ⟨pc2_0 (fun h => h (ir_nI ht)) (by rw [ix_nI htB, ho]; exact fun h => nomatch h), o, ho, ho9, Or.inr ⟨rfl, hc_13, (mw_pl (mw_os (mw_ob hm (oc) (mw_oc hm) td 0 sL) _) _)⟩⟩, (fm_up (fm_up (fm_up fm_rf (x := 0) (by decide) _) (x := 3) (by decide) _) (x := 4) (by decide) _)⟩)
      · refine pw_iconst (pc := 58) (v := 0) hX dX2_release_58 (by decide) ?_
        exact pw_zret hX dX2_release_59 hrt rfl ⟨by decide, by decide⟩ (by rw [ix_nI htB]; exact ⟨Or.inl ⟨pc2_0 (fun h => h (ir_nI ht)) (by rw [ix_nI htB, ho]; exact fun h => nomatch h), o, ho, ho9, Or.inl ⟨rfl, hc_13, (mw_ob hm (oc) (mw_oc hm) td 0 sL)⟩⟩, (fm_up fm_rf (x := 0) (by decide) _)⟩)
    · refine pw_iconst (pc := 21) (v := (-1)) hX dX2_release_21 (by decide) ?_
      refine pw_icmp_ne (pc := 22) hX 29 dX2_release_22 (by decide) (fun h => absurd h (by decide)) (fun _ => ?_)
      refine pw_iconst (pc := 25) (v := 2) hX dX2_release_25 (by decide) ?_
      refine pw_goto (pc := 26) hX 30 dX2_release_26 (by decide) ?_
      refine pw_put (pc := 30) (v := .int 2) hX dX2_release_30 hm.1 rfl inT_2 tyX2 tyX2_ok nmX2 5 (by decide) fl_RX2_43 rfl (tyX2_ok 5 (by decide)) rfl rfl (Nat.le_of_ble_eq_true rfl) [.int (nI n), .ref (am 1), .ref (am 2), .int (nI oc), .int td, .int 2, .long sL, .ref (am 3), .ref (am 4), .ref (am 5), .ref (am 6), .ref (am 7), .ref (am 8)] rfl ?_
      have hm_33 := pw_ke (a := am 0) (e := .inr (2, [.int (nI n), .ref (am 1), .ref (am 2), .int (nI oc), .int td, .int 2, .long sL, .ref (am 3), .ref (am 4), .ref (am 5), .ref (am 6), .ref (am 7), .ref (am 8)])) hm.2.1 (mw_ne hm (x := 1) (y := 0) (by decide) (by decide) (by decide))
      have hm_34 := pw_ke (a := am 0) (e := .inr (2, [.int (nI n), .ref (am 1), .ref (am 2), .int (nI oc), .int td, .int 2, .long sL, .ref (am 3), .ref (am 4), .ref (am 5), .ref (am 6), .ref (am 7), .ref (am 8)])) hm.2.2.1 (mw_ne hm (x := 2) (y := 0) (by decide) (by decide) (by decide))
      have hm_35 := pw_ke (a := am 0) (e := .inr (2, [.int (nI n), .ref (am 1), .ref (am 2), .int (nI oc), .int td, .int 2, .long sL, .ref (am 3), .ref (am 4), .ref (am 5), .ref (am 6), .ref (am 7), .ref (am 8)])) hm.2.2.2.1 (mw_ne hm (x := 3) (y := 0) (by decide) (by decide) (by decide))
      have hm_36 := pw_ke (a := am 0) (e := .inr (2, [.int (nI n), .ref (am 1), .ref (am 2), .int (nI oc), .int td, .int 2, .long sL, .ref (am 3), .ref (am 4), .ref (am 5), .ref (am 6), .ref (am 7), .ref (am 8)])) hm.2.2.2.2.1 (mw_ne hm (x := 4) (y := 0) (by decide) (by decide) (by decide))
      have hm_37 := pw_ke (a := am 0) (e := .inr (2, [.int (nI n), .ref (am 1), .ref (am 2), .int (nI oc), .int td, .int 2, .long sL, .ref (am 3), .ref (am 4), .ref (am 5), .ref (am 6), .ref (am 7), .ref (am 8)])) hm.2.2.2.2.2.1 (mw_ne hm (x := 5) (y := 0) (by decide) (by decide) (by decide))
      have hm_38 := pw_ke (a := am 0) (e := .inr (2, [.int (nI n), .ref (am 1), .ref (am 2), .int (nI oc), .int td, .int 2, .long sL, .ref (am 3), .ref (am 4), .ref (am 5), .ref (am 6), .ref (am 7), .ref (am 8)])) hm.2.2.2.2.2.2.1 (mw_ne hm (x := 6) (y := 0) (by decide) (by decide) (by decide))
      have hm_39 := pw_ke (a := am 0) (e := .inr (2, [.int (nI n), .ref (am 1), .ref (am 2), .int (nI oc), .int td, .int 2, .long sL, .ref (am 3), .ref (am 4), .ref (am 5), .ref (am 6), .ref (am 7), .ref (am 8)])) hm.2.2.2.2.2.2.2.1 (mw_ne hm (x := 7) (y := 0) (by decide) (by decide) (by decide))
      have hm_40 := pw_ke (a := am 0) (e := .inr (2, [.int (nI n), .ref (am 1), .ref (am 2), .int (nI oc), .int td, .int 2, .long sL, .ref (am 3), .ref (am 4), .ref (am 5), .ref (am 6), .ref (am 7), .ref (am 8)])) hm.2.2.2.2.2.2.2.2.1 (mw_ne hm (x := 8) (y := 0) (by decide) (by decide) (by decide))
      have hm_41 : pw_up M (am 0) (.inr (2, [.int (nI n), .ref (am 1), .ref (am 2), .int (nI oc), .int td, .int 2, .long sL, .ref (am 3), .ref (am 4), .ref (am 5), .ref (am 6), .ref (am 7), .ref (am 8)])) (am 0) = some (.inr (2, [.int (nI n), .ref (am 1), .ref (am 2), .int (nI oc), .int td, .int 2, .long sL, .ref (am 3), .ref (am 4), .ref (am 5), .ref (am 6), .ref (am 7), .ref (am 8)])) := pw_us
      refine pw_aload_n (pc := 33) hX dX2_release_33 0 rfl ?_
      refine pw_get (pc := 34) hX dX2_release_34 hm_41 rfl inT_2 5 (by decide) fl_RX2_43 rfl ?_
      refine pw_if_eq (pc := 37) hX 42 dX2_release_37 (by decide) (fun h => absurd h (by decide)) (fun _ => ?_)
      refine pw_iconst (pc := 40) (v := 0) hX dX2_release_40 (by decide) ?_
      exact pw_zret hX dX2_release_41 hrt rfl ⟨by decide, by decide⟩ ⟨Or.inr ⟨by rw [show cd_release n oo (nI t) = 2 from pc2_2 (fun h => h (ir_nI ht)) (by rw [ix_nI htB]; exact ho)]; decide, ⟨_, rfl⟩, by rw [show cd_release n oo (nI t) = 2 from pc2_2 (fun h => h (ir_nI ht)) (by rw [ix_nI htB]; exact ho)]; exact (mw_ob hm (oc) (mw_oc hm) td 2 sL)⟩, (fm_up fm_rf (x := 0) (by decide) _)⟩
  · refine pw_if_ne (pc := 9) hX 16 dX2_release_9 (by decide) (fun h => absurd h (by decide)) (fun _ => ?_)
    refine pw_iconst (pc := 12) (v := 1) hX dX2_release_12 (by decide) ?_
    refine pw_goto (pc := 13) hX 30 dX2_release_13 (by decide) ?_
    refine pw_put (pc := 30) (v := .int 1) hX dX2_release_30 hm.1 rfl inT_2 tyX2 tyX2_ok nmX2 5 (by decide) fl_RX2_43 rfl (tyX2_ok 5 (by decide)) rfl rfl (Nat.le_of_ble_eq_true rfl) [.int (nI n), .ref (am 1), .ref (am 2), .int (nI oc), .int td, .int 1, .long sL, .ref (am 3), .ref (am 4), .ref (am 5), .ref (am 6), .ref (am 7), .ref (am 8)] rfl ?_
    have hm_44 := pw_ke (a := am 0) (e := .inr (2, [.int (nI n), .ref (am 1), .ref (am 2), .int (nI oc), .int td, .int 1, .long sL, .ref (am 3), .ref (am 4), .ref (am 5), .ref (am 6), .ref (am 7), .ref (am 8)])) hm.2.1 (mw_ne hm (x := 1) (y := 0) (by decide) (by decide) (by decide))
    have hm_45 := pw_ke (a := am 0) (e := .inr (2, [.int (nI n), .ref (am 1), .ref (am 2), .int (nI oc), .int td, .int 1, .long sL, .ref (am 3), .ref (am 4), .ref (am 5), .ref (am 6), .ref (am 7), .ref (am 8)])) hm.2.2.1 (mw_ne hm (x := 2) (y := 0) (by decide) (by decide) (by decide))
    have hm_46 := pw_ke (a := am 0) (e := .inr (2, [.int (nI n), .ref (am 1), .ref (am 2), .int (nI oc), .int td, .int 1, .long sL, .ref (am 3), .ref (am 4), .ref (am 5), .ref (am 6), .ref (am 7), .ref (am 8)])) hm.2.2.2.1 (mw_ne hm (x := 3) (y := 0) (by decide) (by decide) (by decide))
    have hm_47 := pw_ke (a := am 0) (e := .inr (2, [.int (nI n), .ref (am 1), .ref (am 2), .int (nI oc), .int td, .int 1, .long sL, .ref (am 3), .ref (am 4), .ref (am 5), .ref (am 6), .ref (am 7), .ref (am 8)])) hm.2.2.2.2.1 (mw_ne hm (x := 4) (y := 0) (by decide) (by decide) (by decide))
    have hm_48 := pw_ke (a := am 0) (e := .inr (2, [.int (nI n), .ref (am 1), .ref (am 2), .int (nI oc), .int td, .int 1, .long sL, .ref (am 3), .ref (am 4), .ref (am 5), .ref (am 6), .ref (am 7), .ref (am 8)])) hm.2.2.2.2.2.1 (mw_ne hm (x := 5) (y := 0) (by decide) (by decide) (by decide))
    have hm_49 := pw_ke (a := am 0) (e := .inr (2, [.int (nI n), .ref (am 1), .ref (am 2), .int (nI oc), .int td, .int 1, .long sL, .ref (am 3), .ref (am 4), .ref (am 5), .ref (am 6), .ref (am 7), .ref (am 8)])) hm.2.2.2.2.2.2.1 (mw_ne hm (x := 6) (y := 0) (by decide) (by decide) (by decide))
    have hm_50 := pw_ke (a := am 0) (e := .inr (2, [.int (nI n), .ref (am 1), .ref (am 2), .int (nI oc), .int td, .int 1, .long sL, .ref (am 3), .ref (am 4), .ref (am 5), .ref (am 6), .ref (am 7), .ref (am 8)])) hm.2.2.2.2.2.2.2.1 (mw_ne hm (x := 7) (y := 0) (by decide) (by decide) (by decide))
    have hm_51 := pw_ke (a := am 0) (e := .inr (2, [.int (nI n), .ref (am 1), .ref (am 2), .int (nI oc), .int td, .int 1, .long sL, .ref (am 3), .ref (am 4), .ref (am 5), .ref (am 6), .ref (am 7), .ref (am 8)])) hm.2.2.2.2.2.2.2.2.1 (mw_ne hm (x := 8) (y := 0) (by decide) (by decide) (by decide))
    have hm_52 : pw_up M (am 0) (.inr (2, [.int (nI n), .ref (am 1), .ref (am 2), .int (nI oc), .int td, .int 1, .long sL, .ref (am 3), .ref (am 4), .ref (am 5), .ref (am 6), .ref (am 7), .ref (am 8)])) (am 0) = some (.inr (2, [.int (nI n), .ref (am 1), .ref (am 2), .int (nI oc), .int td, .int 1, .long sL, .ref (am 3), .ref (am 4), .ref (am 5), .ref (am 6), .ref (am 7), .ref (am 8)])) := pw_us
    refine pw_aload_n (pc := 33) hX dX2_release_33 0 rfl ?_
    refine pw_get (pc := 34) hX dX2_release_34 hm_52 rfl inT_2 5 (by decide) fl_RX2_43 rfl ?_
    refine pw_if_eq (pc := 37) hX 42 dX2_release_37 (by decide) (fun h => absurd h (by decide)) (fun _ => ?_)
    refine pw_iconst (pc := 40) (v := 0) hX dX2_release_40 (by decide) ?_
    exact pw_zret hX dX2_release_41 hrt rfl ⟨by decide, by decide⟩ ⟨Or.inr ⟨by rw [show cd_release n oo p0 = 1 from pc_t hno_p0]; decide, ⟨_, rfl⟩, by rw [show cd_release n oo p0 = 1 from pc_t hno_p0]; exact (mw_ob hm (oc) (mw_oc hm) td 1 sL)⟩, (fm_up fm_rf (x := 0) (by decide) _)⟩
set_option maxHeartbeats 4000000 in
set_option maxRecDepth 100000 in
theorem mp_seed (l : Launch) (hl : l.stackTraces = false) (G : pw_G) (M : pw_M) (am : Nat → Nat) (n oc : Nat) (td th : Int32) (sL : Int64) (dk to er os pl : Nat → Int32) (wa pr la : Nat → Nat → Int32) (hm : mw G am n oc td th sL dk to er os pl wa pr la M) (p0 : Int32) : pw_Met l yX2_seed cX2_seed 2 none 3 0 0 G [.ref (am 0), .int p0] M (fun v9 M9 => (cd_seed p0 = 0 ∧ v9 = none ∧ mw G am n oc td 0 p0.toInt64 dk to er os pl wa pr la M9 ∨ ¬ cd_seed p0 = 0 ∧ v9 = none ∧ mw G am n oc td (cd_seed p0) sL dk to er os pl wa pr la M9) ∧ fm am 9 M M9) := by
  refine pw_of hl (by decide +kernel) (Nat.le_of_ble_eq_true rfl) [(0, .ref (am 0)), (1, .int p0)] rfl ?_
  intro p9 e9 s9 m9 args9 below9 meth9 c9 hX hrt hmi
  refine pw_aload_n (pc := 0) hX dX2_seed_0 0 rfl ?_
  refine pw_iload_n (pc := 1) hX dX2_seed_1 1 rfl ?_
  refine pw_if_ge (pc := 2) hX 9 dX2_seed_2 (by decide) (fun hc_1 => ?_) (fun hc_1 => ?_)
  · refine pw_iconst (pc := 9) (v := 0) hX dX2_seed_9 (by decide) ?_
    refine pw_put (pc := 10) (v := .int 0) hX dX2_seed_10 hm.1 rfl inT_2 tyX2 tyX2_ok nmX2 5 (by decide) fl_RX2_43 rfl (tyX2_ok 5 (by decide)) rfl rfl (Nat.le_of_ble_eq_true rfl) [.int (nI n), .ref (am 1), .ref (am 2), .int (nI oc), .int td, .int 0, .long sL, .ref (am 3), .ref (am 4), .ref (am 5), .ref (am 6), .ref (am 7), .ref (am 8)] rfl ?_
    have hm_2 := pw_ke (a := am 0) (e := .inr (2, [.int (nI n), .ref (am 1), .ref (am 2), .int (nI oc), .int td, .int 0, .long sL, .ref (am 3), .ref (am 4), .ref (am 5), .ref (am 6), .ref (am 7), .ref (am 8)])) hm.2.1 (mw_ne hm (x := 1) (y := 0) (by decide) (by decide) (by decide))
    have hm_3 := pw_ke (a := am 0) (e := .inr (2, [.int (nI n), .ref (am 1), .ref (am 2), .int (nI oc), .int td, .int 0, .long sL, .ref (am 3), .ref (am 4), .ref (am 5), .ref (am 6), .ref (am 7), .ref (am 8)])) hm.2.2.1 (mw_ne hm (x := 2) (y := 0) (by decide) (by decide) (by decide))
    have hm_4 := pw_ke (a := am 0) (e := .inr (2, [.int (nI n), .ref (am 1), .ref (am 2), .int (nI oc), .int td, .int 0, .long sL, .ref (am 3), .ref (am 4), .ref (am 5), .ref (am 6), .ref (am 7), .ref (am 8)])) hm.2.2.2.1 (mw_ne hm (x := 3) (y := 0) (by decide) (by decide) (by decide))
    have hm_5 := pw_ke (a := am 0) (e := .inr (2, [.int (nI n), .ref (am 1), .ref (am 2), .int (nI oc), .int td, .int 0, .long sL, .ref (am 3), .ref (am 4), .ref (am 5), .ref (am 6), .ref (am 7), .ref (am 8)])) hm.2.2.2.2.1 (mw_ne hm (x := 4) (y := 0) (by decide) (by decide) (by decide))
    have hm_6 := pw_ke (a := am 0) (e := .inr (2, [.int (nI n), .ref (am 1), .ref (am 2), .int (nI oc), .int td, .int 0, .long sL, .ref (am 3), .ref (am 4), .ref (am 5), .ref (am 6), .ref (am 7), .ref (am 8)])) hm.2.2.2.2.2.1 (mw_ne hm (x := 5) (y := 0) (by decide) (by decide) (by decide))
    have hm_7 := pw_ke (a := am 0) (e := .inr (2, [.int (nI n), .ref (am 1), .ref (am 2), .int (nI oc), .int td, .int 0, .long sL, .ref (am 3), .ref (am 4), .ref (am 5), .ref (am 6), .ref (am 7), .ref (am 8)])) hm.2.2.2.2.2.2.1 (mw_ne hm (x := 6) (y := 0) (by decide) (by decide) (by decide))
    have hm_8 := pw_ke (a := am 0) (e := .inr (2, [.int (nI n), .ref (am 1), .ref (am 2), .int (nI oc), .int td, .int 0, .long sL, .ref (am 3), .ref (am 4), .ref (am 5), .ref (am 6), .ref (am 7), .ref (am 8)])) hm.2.2.2.2.2.2.2.1 (mw_ne hm (x := 7) (y := 0) (by decide) (by decide) (by decide))
    have hm_9 := pw_ke (a := am 0) (e := .inr (2, [.int (nI n), .ref (am 1), .ref (am 2), .int (nI oc), .int td, .int 0, .long sL, .ref (am 3), .ref (am 4), .ref (am 5), .ref (am 6), .ref (am 7), .ref (am 8)])) hm.2.2.2.2.2.2.2.2.1 (mw_ne hm (x := 8) (y := 0) (by decide) (by decide) (by decide))
    have hm_10 : pw_up M (am 0) (.inr (2, [.int (nI n), .ref (am 1), .ref (am 2), .int (nI oc), .int td, .int 0, .long sL, .ref (am 3), .ref (am 4), .ref (am 5), .ref (am 6), .ref (am 7), .ref (am 8)])) (am 0) = some (.inr (2, [.int (nI n), .ref (am 1), .ref (am 2), .int (nI oc), .int td, .int 0, .long sL, .ref (am 3), .ref (am 4), .ref (am 5), .ref (am 6), .ref (am 7), .ref (am 8)])) := pw_us
    refine pw_aload_n (pc := 13) hX dX2_seed_13 0 rfl ?_
    refine pw_get (pc := 14) hX dX2_seed_14 hm_10 rfl inT_2 5 (by decide) fl_RX2_43 rfl ?_
    refine pw_if_ne (pc := 17) hX 26 dX2_seed_17 (by decide) (fun h => absurd h (by decide)) (fun _ => ?_)
    refine pw_aload_n (pc := 20) hX dX2_seed_20 0 rfl ?_
    refine pw_iload_n (pc := 21) hX dX2_seed_21 1 rfl ?_
    refine pw_i2l (pc := 22) (v := p0.toInt64) hX dX2_seed_22 rfl ?_
    refine pw_put (pc := 23) (v := .long p0.toInt64) hX dX2_seed_23 hm_10 rfl inT_2 tyX2 tyX2_ok nmX2 6 (by decide) fl_RX2_17 rfl (tyX2_ok 6 (by decide)) rfl rfl (Nat.le_of_ble_eq_true rfl) [.int (nI n), .ref (am 1), .ref (am 2), .int (nI oc), .int td, .int 0, .long p0.toInt64, .ref (am 3), .ref (am 4), .ref (am 5), .ref (am 6), .ref (am 7), .ref (am 8)] rfl ?_
    have hm_12 := pw_ke (a := am 0) (e := .inr (2, [.int (nI n), .ref (am 1), .ref (am 2), .int (nI oc), .int td, .int 0, .long p0.toInt64, .ref (am 3), .ref (am 4), .ref (am 5), .ref (am 6), .ref (am 7), .ref (am 8)])) hm_2 (mw_ne hm (x := 1) (y := 0) (by decide) (by decide) (by decide))
    have hm_13 := pw_ke (a := am 0) (e := .inr (2, [.int (nI n), .ref (am 1), .ref (am 2), .int (nI oc), .int td, .int 0, .long p0.toInt64, .ref (am 3), .ref (am 4), .ref (am 5), .ref (am 6), .ref (am 7), .ref (am 8)])) hm_3 (mw_ne hm (x := 2) (y := 0) (by decide) (by decide) (by decide))
    have hm_14 := pw_ke (a := am 0) (e := .inr (2, [.int (nI n), .ref (am 1), .ref (am 2), .int (nI oc), .int td, .int 0, .long p0.toInt64, .ref (am 3), .ref (am 4), .ref (am 5), .ref (am 6), .ref (am 7), .ref (am 8)])) hm_4 (mw_ne hm (x := 3) (y := 0) (by decide) (by decide) (by decide))
    have hm_15 := pw_ke (a := am 0) (e := .inr (2, [.int (nI n), .ref (am 1), .ref (am 2), .int (nI oc), .int td, .int 0, .long p0.toInt64, .ref (am 3), .ref (am 4), .ref (am 5), .ref (am 6), .ref (am 7), .ref (am 8)])) hm_5 (mw_ne hm (x := 4) (y := 0) (by decide) (by decide) (by decide))
    have hm_16 := pw_ke (a := am 0) (e := .inr (2, [.int (nI n), .ref (am 1), .ref (am 2), .int (nI oc), .int td, .int 0, .long p0.toInt64, .ref (am 3), .ref (am 4), .ref (am 5), .ref (am 6), .ref (am 7), .ref (am 8)])) hm_6 (mw_ne hm (x := 5) (y := 0) (by decide) (by decide) (by decide))
    have hm_17 := pw_ke (a := am 0) (e := .inr (2, [.int (nI n), .ref (am 1), .ref (am 2), .int (nI oc), .int td, .int 0, .long p0.toInt64, .ref (am 3), .ref (am 4), .ref (am 5), .ref (am 6), .ref (am 7), .ref (am 8)])) hm_7 (mw_ne hm (x := 6) (y := 0) (by decide) (by decide) (by decide))
    have hm_18 := pw_ke (a := am 0) (e := .inr (2, [.int (nI n), .ref (am 1), .ref (am 2), .int (nI oc), .int td, .int 0, .long p0.toInt64, .ref (am 3), .ref (am 4), .ref (am 5), .ref (am 6), .ref (am 7), .ref (am 8)])) hm_8 (mw_ne hm (x := 7) (y := 0) (by decide) (by decide) (by decide))
    have hm_19 := pw_ke (a := am 0) (e := .inr (2, [.int (nI n), .ref (am 1), .ref (am 2), .int (nI oc), .int td, .int 0, .long p0.toInt64, .ref (am 3), .ref (am 4), .ref (am 5), .ref (am 6), .ref (am 7), .ref (am 8)])) hm_9 (mw_ne hm (x := 8) (y := 0) (by decide) (by decide) (by decide))
    have hm_20 : pw_up (pw_up M (am 0) (.inr (2, [.int (nI n), .ref (am 1), .ref (am 2), .int (nI oc), .int td, .int 0, .long sL, .ref (am 3), .ref (am 4), .ref (am 5), .ref (am 6), .ref (am 7), .ref (am 8)]))) (am 0) (.inr (2, [.int (nI n), .ref (am 1), .ref (am 2), .int (nI oc), .int td, .int 0, .long p0.toInt64, .ref (am 3), .ref (am 4), .ref (am 5), .ref (am 6), .ref (am 7), .ref (am 8)])) (am 0) = some (.inr (2, [.int (nI n), .ref (am 1), .ref (am 2), .int (nI oc), .int td, .int 0, .long p0.toInt64, .ref (am 3), .ref (am 4), .ref (am 5), .ref (am 6), .ref (am 7), .ref (am 8)])) := pw_us
    exact pw_vret hX dX2_seed_26 hrt ⟨by decide, by decide⟩ ⟨Or.inl ⟨pc1_0 (fun h => h hc_1), rfl, (mw_ob (mw_ob hm (oc) (mw_oc hm) td 0 sL) (oc) (mw_oc hm) td 0 p0.toInt64)⟩, (fm_up (fm_up fm_rf (x := 0) (by decide) _) (x := 0) (by decide) _)⟩
  · refine pw_iconst (pc := 5) (v := 1) hX dX2_seed_5 (by decide) ?_
    refine pw_goto (pc := 6) hX 10 dX2_seed_6 (by decide) ?_
    refine pw_put (pc := 10) (v := .int 1) hX dX2_seed_10 hm.1 rfl inT_2 tyX2 tyX2_ok nmX2 5 (by decide) fl_RX2_43 rfl (tyX2_ok 5 (by decide)) rfl rfl (Nat.le_of_ble_eq_true rfl) [.int (nI n), .ref (am 1), .ref (am 2), .int (nI oc), .int td, .int 1, .long sL, .ref (am 3), .ref (am 4), .ref (am 5), .ref (am 6), .ref (am 7), .ref (am 8)] rfl ?_
    have hm_21 := pw_ke (a := am 0) (e := .inr (2, [.int (nI n), .ref (am 1), .ref (am 2), .int (nI oc), .int td, .int 1, .long sL, .ref (am 3), .ref (am 4), .ref (am 5), .ref (am 6), .ref (am 7), .ref (am 8)])) hm.2.1 (mw_ne hm (x := 1) (y := 0) (by decide) (by decide) (by decide))
    have hm_22 := pw_ke (a := am 0) (e := .inr (2, [.int (nI n), .ref (am 1), .ref (am 2), .int (nI oc), .int td, .int 1, .long sL, .ref (am 3), .ref (am 4), .ref (am 5), .ref (am 6), .ref (am 7), .ref (am 8)])) hm.2.2.1 (mw_ne hm (x := 2) (y := 0) (by decide) (by decide) (by decide))
    have hm_23 := pw_ke (a := am 0) (e := .inr (2, [.int (nI n), .ref (am 1), .ref (am 2), .int (nI oc), .int td, .int 1, .long sL, .ref (am 3), .ref (am 4), .ref (am 5), .ref (am 6), .ref (am 7), .ref (am 8)])) hm.2.2.2.1 (mw_ne hm (x := 3) (y := 0) (by decide) (by decide) (by decide))
    have hm_24 := pw_ke (a := am 0) (e := .inr (2, [.int (nI n), .ref (am 1), .ref (am 2), .int (nI oc), .int td, .int 1, .long sL, .ref (am 3), .ref (am 4), .ref (am 5), .ref (am 6), .ref (am 7), .ref (am 8)])) hm.2.2.2.2.1 (mw_ne hm (x := 4) (y := 0) (by decide) (by decide) (by decide))
    have hm_25 := pw_ke (a := am 0) (e := .inr (2, [.int (nI n), .ref (am 1), .ref (am 2), .int (nI oc), .int td, .int 1, .long sL, .ref (am 3), .ref (am 4), .ref (am 5), .ref (am 6), .ref (am 7), .ref (am 8)])) hm.2.2.2.2.2.1 (mw_ne hm (x := 5) (y := 0) (by decide) (by decide) (by decide))
    have hm_26 := pw_ke (a := am 0) (e := .inr (2, [.int (nI n), .ref (am 1), .ref (am 2), .int (nI oc), .int td, .int 1, .long sL, .ref (am 3), .ref (am 4), .ref (am 5), .ref (am 6), .ref (am 7), .ref (am 8)])) hm.2.2.2.2.2.2.1 (mw_ne hm (x := 6) (y := 0) (by decide) (by decide) (by decide))
    have hm_27 := pw_ke (a := am 0) (e := .inr (2, [.int (nI n), .ref (am 1), .ref (am 2), .int (nI oc), .int td, .int 1, .long sL, .ref (am 3), .ref (am 4), .ref (am 5), .ref (am 6), .ref (am 7), .ref (am 8)])) hm.2.2.2.2.2.2.2.1 (mw_ne hm (x := 7) (y := 0) (by decide) (by decide) (by decide))
    have hm_28 := pw_ke (a := am 0) (e := .inr (2, [.int (nI n), .ref (am 1), .ref (am 2), .int (nI oc), .int td, .int 1, .long sL, .ref (am 3), .ref (am 4), .ref (am 5), .ref (am 6), .ref (am 7), .ref (am 8)])) hm.2.2.2.2.2.2.2.2.1 (mw_ne hm (x := 8) (y := 0) (by decide) (by decide) (by decide))
    have hm_29 : pw_up M (am 0) (.inr (2, [.int (nI n), .ref (am 1), .ref (am 2), .int (nI oc), .int td, .int 1, .long sL, .ref (am 3), .ref (am 4), .ref (am 5), .ref (am 6), .ref (am 7), .ref (am 8)])) (am 0) = some (.inr (2, [.int (nI n), .ref (am 1), .ref (am 2), .int (nI oc), .int td, .int 1, .long sL, .ref (am 3), .ref (am 4), .ref (am 5), .ref (am 6), .ref (am 7), .ref (am 8)])) := pw_us
    refine pw_aload_n (pc := 13) hX dX2_seed_13 0 rfl ?_
    refine pw_get (pc := 14) hX dX2_seed_14 hm_29 rfl inT_2 5 (by decide) fl_RX2_43 rfl ?_
    refine pw_if_ne (pc := 17) hX 26 dX2_seed_17 (by decide) (fun _ => ?_) (fun h => absurd h (by decide))
    exact pw_vret hX dX2_seed_26 hrt ⟨by decide, by decide⟩ ⟨Or.inr ⟨by rw [show cd_seed p0 = 1 from pc1_1 hc_1]; decide, rfl, by rw [show cd_seed p0 = 1 from pc1_1 hc_1]; exact (mw_ob hm (oc) (mw_oc hm) td 1 sL)⟩, (fm_up fm_rf (x := 0) (by decide) _)⟩
set_option maxHeartbeats 4000000 in
set_option maxRecDepth 100000 in
theorem mp_errors (l : Launch) (hl : l.stackTraces = false) (G : pw_G) (M : pw_M) (am : Nat → Nat) (n oc : Nat) (td th : Int32) (sL : Int64) (dk to er os pl : Nat → Int32) (wa pr la : Nat → Nat → Int32) (hm : mw G am n oc td th sL dk to er os pl wa pr la M) (p0 : Int32) : pw_Met l yX2_errors cX2_errors 2 (some .int) 3 0 0 G [.ref (am 0), .int p0] M (fun v9 M9 => (cd_errors p0 = 0 ∧ v9 = some (.int (er (ix p0))) ∧ mw G am n oc td 0 sL dk to er os pl wa pr la M9 ∨ ¬ cd_errors p0 = 0 ∧ (∃ z, v9 = some (.int z)) ∧ mw G am n oc td (cd_errors p0) sL dk to er os pl wa pr la M9) ∧ fm am 9 M M9) := by
  refine pw_of hl (by decide +kernel) (Nat.le_of_ble_eq_true rfl) [(0, .ref (am 0)), (1, .int p0)] rfl ?_
  intro p9 e9 s9 m9 args9 below9 meth9 c9 hX hrt hmi
  refine pw_aload_n (pc := 0) hX dX2_errors_0 0 rfl ?_
  refine pw_iload_n (pc := 1) hX dX2_errors_1 1 rfl ?_
  refine pw_bipush (pc := 2) (v := 8) hX dX2_errors_2 (by decide) ?_
  refine pw_callS (pc := 4) (st := [.ref (am 0)]) hX (mt_below l hl G M p0 8 (by decide)) ok_X2_below lk_RX2_53 dX2_errors_4 rfl ⟨⟨by decide, by decide⟩, Nat.le_of_ble_eq_true rfl, Nat.le_of_ble_eq_true rfl, Nat.le_of_ble_eq_true rfl⟩ rfl (fun v9 M9 hp9 => ?_)
  obtain ⟨rfl, ⟨rfl, q, hq, rfl⟩ | ⟨rfl, hno_p0⟩⟩ := hp9
  · have hqB : q < 2 ^ 31 := Nat.lt_of_lt_of_le hq (by decide)
    refine pw_if_eq (pc := 7) hX 14 dX2_errors_7 (by decide) (fun h => absurd h (by decide)) (fun _ => ?_)
    refine pw_iconst (pc := 10) (v := 0) hX dX2_errors_10 (by decide) ?_
    refine pw_goto (pc := 11) hX 15 dX2_errors_11 (by decide) ?_
    refine pw_put (pc := 15) (v := .int 0) hX dX2_errors_15 hm.1 rfl inT_2 tyX2 tyX2_ok nmX2 5 (by decide) fl_RX2_43 rfl (tyX2_ok 5 (by decide)) rfl rfl (Nat.le_of_ble_eq_true rfl) [.int (nI n), .ref (am 1), .ref (am 2), .int (nI oc), .int td, .int 0, .long sL, .ref (am 3), .ref (am 4), .ref (am 5), .ref (am 6), .ref (am 7), .ref (am 8)] rfl ?_
    have hm_2 := pw_ke (a := am 0) (e := .inr (2, [.int (nI n), .ref (am 1), .ref (am 2), .int (nI oc), .int td, .int 0, .long sL, .ref (am 3), .ref (am 4), .ref (am 5), .ref (am 6), .ref (am 7), .ref (am 8)])) hm.2.1 (mw_ne hm (x := 1) (y := 0) (by decide) (by decide) (by decide))
    have hm_3 := pw_ke (a := am 0) (e := .inr (2, [.int (nI n), .ref (am 1), .ref (am 2), .int (nI oc), .int td, .int 0, .long sL, .ref (am 3), .ref (am 4), .ref (am 5), .ref (am 6), .ref (am 7), .ref (am 8)])) hm.2.2.1 (mw_ne hm (x := 2) (y := 0) (by decide) (by decide) (by decide))
    have hm_4 := pw_ke (a := am 0) (e := .inr (2, [.int (nI n), .ref (am 1), .ref (am 2), .int (nI oc), .int td, .int 0, .long sL, .ref (am 3), .ref (am 4), .ref (am 5), .ref (am 6), .ref (am 7), .ref (am 8)])) hm.2.2.2.1 (mw_ne hm (x := 3) (y := 0) (by decide) (by decide) (by decide))
    have hm_5 := pw_ke (a := am 0) (e := .inr (2, [.int (nI n), .ref (am 1), .ref (am 2), .int (nI oc), .int td, .int 0, .long sL, .ref (am 3), .ref (am 4), .ref (am 5), .ref (am 6), .ref (am 7), .ref (am 8)])) hm.2.2.2.2.1 (mw_ne hm (x := 4) (y := 0) (by decide) (by decide) (by decide))
    have hm_6 := pw_ke (a := am 0) (e := .inr (2, [.int (nI n), .ref (am 1), .ref (am 2), .int (nI oc), .int td, .int 0, .long sL, .ref (am 3), .ref (am 4), .ref (am 5), .ref (am 6), .ref (am 7), .ref (am 8)])) hm.2.2.2.2.2.1 (mw_ne hm (x := 5) (y := 0) (by decide) (by decide) (by decide))
    have hm_7 := pw_ke (a := am 0) (e := .inr (2, [.int (nI n), .ref (am 1), .ref (am 2), .int (nI oc), .int td, .int 0, .long sL, .ref (am 3), .ref (am 4), .ref (am 5), .ref (am 6), .ref (am 7), .ref (am 8)])) hm.2.2.2.2.2.2.1 (mw_ne hm (x := 6) (y := 0) (by decide) (by decide) (by decide))
    have hm_8 := pw_ke (a := am 0) (e := .inr (2, [.int (nI n), .ref (am 1), .ref (am 2), .int (nI oc), .int td, .int 0, .long sL, .ref (am 3), .ref (am 4), .ref (am 5), .ref (am 6), .ref (am 7), .ref (am 8)])) hm.2.2.2.2.2.2.2.1 (mw_ne hm (x := 7) (y := 0) (by decide) (by decide) (by decide))
    have hm_9 := pw_ke (a := am 0) (e := .inr (2, [.int (nI n), .ref (am 1), .ref (am 2), .int (nI oc), .int td, .int 0, .long sL, .ref (am 3), .ref (am 4), .ref (am 5), .ref (am 6), .ref (am 7), .ref (am 8)])) hm.2.2.2.2.2.2.2.2.1 (mw_ne hm (x := 8) (y := 0) (by decide) (by decide) (by decide))
    have hm_10 : pw_up M (am 0) (.inr (2, [.int (nI n), .ref (am 1), .ref (am 2), .int (nI oc), .int td, .int 0, .long sL, .ref (am 3), .ref (am 4), .ref (am 5), .ref (am 6), .ref (am 7), .ref (am 8)])) (am 0) = some (.inr (2, [.int (nI n), .ref (am 1), .ref (am 2), .int (nI oc), .int td, .int 0, .long sL, .ref (am 3), .ref (am 4), .ref (am 5), .ref (am 6), .ref (am 7), .ref (am 8)])) := pw_us
    refine pw_aload_n (pc := 18) hX dX2_errors_18 0 rfl ?_
    refine pw_get (pc := 19) hX dX2_errors_19 hm_10 rfl inT_2 5 (by decide) fl_RX2_43 rfl ?_
    refine pw_if_eq (pc := 22) hX 29 dX2_errors_22 (by decide) (fun _ => ?_) (fun h => absurd h (by decide))
    refine pw_aload_n (pc := 29) hX dX2_errors_29 0 rfl ?_
    refine pw_get (pc := 30) hX dX2_errors_30 hm_10 rfl inT_2 12 (by decide) fl_RX2_36 rfl ?_
    refine pw_iload_n (pc := 33) hX dX2_errors_33 1 rfl ?_
    refine pw_iald (pc := 34) (j := q) hX dX2_errors_34 hm_9 hq (by decide) ?_
    exact pw_iret hX dX2_errors_35 hrt ⟨by decide, by decide⟩ (by rw [ix_nI hqB]; exact ⟨Or.inl ⟨pc1_0 (fun h => h (ir_nI hq)), rfl, (mw_ob hm (oc) (mw_oc hm) td 0 sL)⟩, (fm_up fm_rf (x := 0) (by decide) _)⟩)
  · refine pw_if_eq (pc := 7) hX 14 dX2_errors_7 (by decide) (fun _ => ?_) (fun h => absurd h (by decide))
    refine pw_iconst (pc := 14) (v := 1) hX dX2_errors_14 (by decide) ?_
    refine pw_put (pc := 15) (v := .int 1) hX dX2_errors_15 hm.1 rfl inT_2 tyX2 tyX2_ok nmX2 5 (by decide) fl_RX2_43 rfl (tyX2_ok 5 (by decide)) rfl rfl (Nat.le_of_ble_eq_true rfl) [.int (nI n), .ref (am 1), .ref (am 2), .int (nI oc), .int td, .int 1, .long sL, .ref (am 3), .ref (am 4), .ref (am 5), .ref (am 6), .ref (am 7), .ref (am 8)] rfl ?_
    have hm_13 := pw_ke (a := am 0) (e := .inr (2, [.int (nI n), .ref (am 1), .ref (am 2), .int (nI oc), .int td, .int 1, .long sL, .ref (am 3), .ref (am 4), .ref (am 5), .ref (am 6), .ref (am 7), .ref (am 8)])) hm.2.1 (mw_ne hm (x := 1) (y := 0) (by decide) (by decide) (by decide))
    have hm_14 := pw_ke (a := am 0) (e := .inr (2, [.int (nI n), .ref (am 1), .ref (am 2), .int (nI oc), .int td, .int 1, .long sL, .ref (am 3), .ref (am 4), .ref (am 5), .ref (am 6), .ref (am 7), .ref (am 8)])) hm.2.2.1 (mw_ne hm (x := 2) (y := 0) (by decide) (by decide) (by decide))
    have hm_15 := pw_ke (a := am 0) (e := .inr (2, [.int (nI n), .ref (am 1), .ref (am 2), .int (nI oc), .int td, .int 1, .long sL, .ref (am 3), .ref (am 4), .ref (am 5), .ref (am 6), .ref (am 7), .ref (am 8)])) hm.2.2.2.1 (mw_ne hm (x := 3) (y := 0) (by decide) (by decide) (by decide))
    have hm_16 := pw_ke (a := am 0) (e := .inr (2, [.int (nI n), .ref (am 1), .ref (am 2), .int (nI oc), .int td, .int 1, .long sL, .ref (am 3), .ref (am 4), .ref (am 5), .ref (am 6), .ref (am 7), .ref (am 8)])) hm.2.2.2.2.1 (mw_ne hm (x := 4) (y := 0) (by decide) (by decide) (by decide))
    have hm_17 := pw_ke (a := am 0) (e := .inr (2, [.int (nI n), .ref (am 1), .ref (am 2), .int (nI oc), .int td, .int 1, .long sL, .ref (am 3), .ref (am 4), .ref (am 5), .ref (am 6), .ref (am 7), .ref (am 8)])) hm.2.2.2.2.2.1 (mw_ne hm (x := 5) (y := 0) (by decide) (by decide) (by decide))
    have hm_18 := pw_ke (a := am 0) (e := .inr (2, [.int (nI n), .ref (am 1), .ref (am 2), .int (nI oc), .int td, .int 1, .long sL, .ref (am 3), .ref (am 4), .ref (am 5), .ref (am 6), .ref (am 7), .ref (am 8)])) hm.2.2.2.2.2.2.1 (mw_ne hm (x := 6) (y := 0) (by decide) (by decide) (by decide))
    have hm_19 := pw_ke (a := am 0) (e := .inr (2, [.int (nI n), .ref (am 1), .ref (am 2), .int (nI oc), .int td, .int 1, .long sL, .ref (am 3), .ref (am 4), .ref (am 5), .ref (am 6), .ref (am 7), .ref (am 8)])) hm.2.2.2.2.2.2.2.1 (mw_ne hm (x := 7) (y := 0) (by decide) (by decide) (by decide))
    have hm_20 := pw_ke (a := am 0) (e := .inr (2, [.int (nI n), .ref (am 1), .ref (am 2), .int (nI oc), .int td, .int 1, .long sL, .ref (am 3), .ref (am 4), .ref (am 5), .ref (am 6), .ref (am 7), .ref (am 8)])) hm.2.2.2.2.2.2.2.2.1 (mw_ne hm (x := 8) (y := 0) (by decide) (by decide) (by decide))
    have hm_21 : pw_up M (am 0) (.inr (2, [.int (nI n), .ref (am 1), .ref (am 2), .int (nI oc), .int td, .int 1, .long sL, .ref (am 3), .ref (am 4), .ref (am 5), .ref (am 6), .ref (am 7), .ref (am 8)])) (am 0) = some (.inr (2, [.int (nI n), .ref (am 1), .ref (am 2), .int (nI oc), .int td, .int 1, .long sL, .ref (am 3), .ref (am 4), .ref (am 5), .ref (am 6), .ref (am 7), .ref (am 8)])) := pw_us
    refine pw_aload_n (pc := 18) hX dX2_errors_18 0 rfl ?_
    refine pw_get (pc := 19) hX dX2_errors_19 hm_21 rfl inT_2 5 (by decide) fl_RX2_43 rfl ?_
    refine pw_if_eq (pc := 22) hX 29 dX2_errors_22 (by decide) (fun h => absurd h (by decide)) (fun _ => ?_)
    refine pw_iconst (pc := 25) (v := 0) hX dX2_errors_25 (by decide) ?_
    refine pw_goto (pc := 26) hX 35 dX2_errors_26 (by decide) ?_
    exact pw_iret hX dX2_errors_35 hrt ⟨by decide, by decide⟩ ⟨Or.inr ⟨by rw [show cd_errors p0 = 1 from pc1_1 hno_p0]; decide, ⟨_, rfl⟩, by rw [show cd_errors p0 = 1 from pc1_1 hno_p0]; exact (mw_ob hm (oc) (mw_oc hm) td 1 sL)⟩, (fm_up fm_rf (x := 0) (by decide) _)⟩
set_option maxHeartbeats 4000000 in
set_option maxRecDepth 100000 in
theorem mp_piece (l : Launch) (hl : l.stackTraces = false) (G : pw_G) (M : pw_M) (am : Nat → Nat) (n oc : Nat) (td th : Int32) (sL : Int64) (dk to er os pl : Nat → Int32) (wa pr la : Nat → Nat → Int32) (hm : mw G am n oc td th sL dk to er os pl wa pr la M) (p0 p1 p2 : Int32) : pw_Met l yX2_piece cX2_piece 5 (some .int) 3 0 0 G [.ref (am 0), .int p0, .int p1, .int p2] M (fun v9 M9 => (cd_piece oc wa p0 p1 p2 = 0 ∧ v9 = some (.int (pi_r wa pr la (ix p0) (ix p1) p2)) ∧ mw G am n oc td 0 sL dk to er os pl wa pr la M9 ∨ ¬ cd_piece oc wa p0 p1 p2 = 0 ∧ (∃ z, v9 = some (.int z)) ∧ mw G am n oc td (cd_piece oc wa p0 p1 p2) sL dk to er os pl wa pr la M9) ∧ fm am 9 M M9) := by
  refine pw_of hl (by decide +kernel) (Nat.le_of_ble_eq_true rfl) [(0, .ref (am 0)), (1, .int p0), (2, .int p1), (3, .int p2)] rfl ?_
  intro p9 e9 s9 m9 args9 below9 meth9 c9 hX hrt hmi
  have hn9 := mw_n hm
  have hoc := mw_oc hm
  refine pw_aload_n (pc := 0) hX dX2_piece_0 0 rfl ?_
  refine pw_aload_n (pc := 1) hX dX2_piece_1 0 rfl ?_
  refine pw_iload_n (pc := 2) hX dX2_piece_2 1 rfl ?_
  refine pw_iload_n (pc := 3) hX dX2_piece_3 2 rfl ?_
  refine pw_callV (pc := 4) (st := [.ref (am 0)]) hX (mt_lineRefusal l hl G M am n oc td th sL dk to er os pl wa pr la hm p0 p1) hm.1 rfl ok_X2_lineRefusal lk_RX2_67 dX2_piece_4 rfl ⟨⟨by decide, by decide⟩, Nat.le_of_ble_eq_true rfl, Nat.le_of_ble_eq_true rfl, Nat.le_of_ble_eq_true rfl⟩ rfl (fun v9 M9 hp9 => ?_)
  obtain ⟨rfl, ⟨rfl, hno⟩ | ⟨rfl, hij, hno⟩ | ⟨j, g, hj, hg, rfl, rfl, rfl, hw⟩ | ⟨j, g, hj, hg, rfl, rfl, rfl, hw⟩⟩ := hp9
  · refine pw_put (pc := 7) (v := .int 1) hX dX2_piece_7 hm.1 rfl inT_2 tyX2 tyX2_ok nmX2 5 (by decide) fl_RX2_43 rfl (tyX2_ok 5 (by decide)) rfl rfl (Nat.le_of_ble_eq_true rfl) [.int (nI n), .ref (am 1), .ref (am 2), .int (nI oc), .int td, .int 1, .long sL, .ref (am 3), .ref (am 4), .ref (am 5), .ref (am 6), .ref (am 7), .ref (am 8)] rfl ?_
    have hm_1 := pw_ke (a := am 0) (e := .inr (2, [.int (nI n), .ref (am 1), .ref (am 2), .int (nI oc), .int td, .int 1, .long sL, .ref (am 3), .ref (am 4), .ref (am 5), .ref (am 6), .ref (am 7), .ref (am 8)])) hm.2.1 (mw_ne hm (x := 1) (y := 0) (by decide) (by decide) (by decide))
    have hm_2 := pw_ke (a := am 0) (e := .inr (2, [.int (nI n), .ref (am 1), .ref (am 2), .int (nI oc), .int td, .int 1, .long sL, .ref (am 3), .ref (am 4), .ref (am 5), .ref (am 6), .ref (am 7), .ref (am 8)])) hm.2.2.1 (mw_ne hm (x := 2) (y := 0) (by decide) (by decide) (by decide))
    have hm_3 := pw_ke (a := am 0) (e := .inr (2, [.int (nI n), .ref (am 1), .ref (am 2), .int (nI oc), .int td, .int 1, .long sL, .ref (am 3), .ref (am 4), .ref (am 5), .ref (am 6), .ref (am 7), .ref (am 8)])) hm.2.2.2.1 (mw_ne hm (x := 3) (y := 0) (by decide) (by decide) (by decide))
    have hm_4 := pw_ke (a := am 0) (e := .inr (2, [.int (nI n), .ref (am 1), .ref (am 2), .int (nI oc), .int td, .int 1, .long sL, .ref (am 3), .ref (am 4), .ref (am 5), .ref (am 6), .ref (am 7), .ref (am 8)])) hm.2.2.2.2.1 (mw_ne hm (x := 4) (y := 0) (by decide) (by decide) (by decide))
    have hm_5 := pw_ke (a := am 0) (e := .inr (2, [.int (nI n), .ref (am 1), .ref (am 2), .int (nI oc), .int td, .int 1, .long sL, .ref (am 3), .ref (am 4), .ref (am 5), .ref (am 6), .ref (am 7), .ref (am 8)])) hm.2.2.2.2.2.1 (mw_ne hm (x := 5) (y := 0) (by decide) (by decide) (by decide))
    have hm_6 := pw_ke (a := am 0) (e := .inr (2, [.int (nI n), .ref (am 1), .ref (am 2), .int (nI oc), .int td, .int 1, .long sL, .ref (am 3), .ref (am 4), .ref (am 5), .ref (am 6), .ref (am 7), .ref (am 8)])) hm.2.2.2.2.2.2.1 (mw_ne hm (x := 6) (y := 0) (by decide) (by decide) (by decide))
    have hm_7 := pw_ke (a := am 0) (e := .inr (2, [.int (nI n), .ref (am 1), .ref (am 2), .int (nI oc), .int td, .int 1, .long sL, .ref (am 3), .ref (am 4), .ref (am 5), .ref (am 6), .ref (am 7), .ref (am 8)])) hm.2.2.2.2.2.2.2.1 (mw_ne hm (x := 7) (y := 0) (by decide) (by decide) (by decide))
    have hm_8 := pw_ke (a := am 0) (e := .inr (2, [.int (nI n), .ref (am 1), .ref (am 2), .int (nI oc), .int td, .int 1, .long sL, .ref (am 3), .ref (am 4), .ref (am 5), .ref (am 6), .ref (am 7), .ref (am 8)])) hm.2.2.2.2.2.2.2.2.1 (mw_ne hm (x := 8) (y := 0) (by decide) (by decide) (by decide))
    have hm_9 : pw_up M (am 0) (.inr (2, [.int (nI n), .ref (am 1), .ref (am 2), .int (nI oc), .int td, .int 1, .long sL, .ref (am 3), .ref (am 4), .ref (am 5), .ref (am 6), .ref (am 7), .ref (am 8)])) (am 0) = some (.inr (2, [.int (nI n), .ref (am 1), .ref (am 2), .int (nI oc), .int td, .int 1, .long sL, .ref (am 3), .ref (am 4), .ref (am 5), .ref (am 6), .ref (am 7), .ref (am 8)])) := pw_us
    refine pw_aload_n (pc := 10) hX dX2_piece_10 0 rfl ?_
    refine pw_get (pc := 11) hX dX2_piece_11 hm_9 rfl inT_2 5 (by decide) fl_RX2_43 rfl ?_
    refine pw_if_ne (pc := 14) hX 30 dX2_piece_14 (by decide) (fun _ => ?_) (fun h => absurd h (by decide))
    refine pw_aload_n (pc := 30) hX dX2_piece_30 0 rfl ?_
    refine pw_get (pc := 31) hX dX2_piece_31 hm_9 rfl inT_2 5 (by decide) fl_RX2_43 rfl ?_
    refine pw_if_eq (pc := 34) hX 39 dX2_piece_34 (by decide) (fun h => absurd h (by decide)) (fun _ => ?_)
    refine pw_iconst (pc := 37) (v := 0) hX dX2_piece_37 (by decide) ?_
    exact pw_iret hX dX2_piece_38 hrt ⟨by decide, by decide⟩ ⟨Or.inr ⟨by rw [show cd_piece oc wa p0 p1 p2 = 1 from pc_t hno]; decide, ⟨_, rfl⟩, by rw [show cd_piece oc wa p0 p1 p2 = 1 from pc_t hno]; exact (mw_ob hm (oc) (mw_oc hm) td 1 sL)⟩, (fm_up fm_rf (x := 0) (by decide) _)⟩
  · refine pw_put (pc := 7) (v := .int 2) hX dX2_piece_7 hm.1 rfl inT_2 tyX2 tyX2_ok nmX2 5 (by decide) fl_RX2_43 rfl (tyX2_ok 5 (by decide)) rfl rfl (Nat.le_of_ble_eq_true rfl) [.int (nI n), .ref (am 1), .ref (am 2), .int (nI oc), .int td, .int 2, .long sL, .ref (am 3), .ref (am 4), .ref (am 5), .ref (am 6), .ref (am 7), .ref (am 8)] rfl ?_
    have hm_12 := pw_ke (a := am 0) (e := .inr (2, [.int (nI n), .ref (am 1), .ref (am 2), .int (nI oc), .int td, .int 2, .long sL, .ref (am 3), .ref (am 4), .ref (am 5), .ref (am 6), .ref (am 7), .ref (am 8)])) hm.2.1 (mw_ne hm (x := 1) (y := 0) (by decide) (by decide) (by decide))
    have hm_13 := pw_ke (a := am 0) (e := .inr (2, [.int (nI n), .ref (am 1), .ref (am 2), .int (nI oc), .int td, .int 2, .long sL, .ref (am 3), .ref (am 4), .ref (am 5), .ref (am 6), .ref (am 7), .ref (am 8)])) hm.2.2.1 (mw_ne hm (x := 2) (y := 0) (by decide) (by decide) (by decide))
    have hm_14 := pw_ke (a := am 0) (e := .inr (2, [.int (nI n), .ref (am 1), .ref (am 2), .int (nI oc), .int td, .int 2, .long sL, .ref (am 3), .ref (am 4), .ref (am 5), .ref (am 6), .ref (am 7), .ref (am 8)])) hm.2.2.2.1 (mw_ne hm (x := 3) (y := 0) (by decide) (by decide) (by decide))
    have hm_15 := pw_ke (a := am 0) (e := .inr (2, [.int (nI n), .ref (am 1), .ref (am 2), .int (nI oc), .int td, .int 2, .long sL, .ref (am 3), .ref (am 4), .ref (am 5), .ref (am 6), .ref (am 7), .ref (am 8)])) hm.2.2.2.2.1 (mw_ne hm (x := 4) (y := 0) (by decide) (by decide) (by decide))
    have hm_16 := pw_ke (a := am 0) (e := .inr (2, [.int (nI n), .ref (am 1), .ref (am 2), .int (nI oc), .int td, .int 2, .long sL, .ref (am 3), .ref (am 4), .ref (am 5), .ref (am 6), .ref (am 7), .ref (am 8)])) hm.2.2.2.2.2.1 (mw_ne hm (x := 5) (y := 0) (by decide) (by decide) (by decide))
    have hm_17 := pw_ke (a := am 0) (e := .inr (2, [.int (nI n), .ref (am 1), .ref (am 2), .int (nI oc), .int td, .int 2, .long sL, .ref (am 3), .ref (am 4), .ref (am 5), .ref (am 6), .ref (am 7), .ref (am 8)])) hm.2.2.2.2.2.2.1 (mw_ne hm (x := 6) (y := 0) (by decide) (by decide) (by decide))
    have hm_18 := pw_ke (a := am 0) (e := .inr (2, [.int (nI n), .ref (am 1), .ref (am 2), .int (nI oc), .int td, .int 2, .long sL, .ref (am 3), .ref (am 4), .ref (am 5), .ref (am 6), .ref (am 7), .ref (am 8)])) hm.2.2.2.2.2.2.2.1 (mw_ne hm (x := 7) (y := 0) (by decide) (by decide) (by decide))
    have hm_19 := pw_ke (a := am 0) (e := .inr (2, [.int (nI n), .ref (am 1), .ref (am 2), .int (nI oc), .int td, .int 2, .long sL, .ref (am 3), .ref (am 4), .ref (am 5), .ref (am 6), .ref (am 7), .ref (am 8)])) hm.2.2.2.2.2.2.2.2.1 (mw_ne hm (x := 8) (y := 0) (by decide) (by decide) (by decide))
    have hm_20 : pw_up M (am 0) (.inr (2, [.int (nI n), .ref (am 1), .ref (am 2), .int (nI oc), .int td, .int 2, .long sL, .ref (am 3), .ref (am 4), .ref (am 5), .ref (am 6), .ref (am 7), .ref (am 8)])) (am 0) = some (.inr (2, [.int (nI n), .ref (am 1), .ref (am 2), .int (nI oc), .int td, .int 2, .long sL, .ref (am 3), .ref (am 4), .ref (am 5), .ref (am 6), .ref (am 7), .ref (am 8)])) := pw_us
    refine pw_aload_n (pc := 10) hX dX2_piece_10 0 rfl ?_
    refine pw_get (pc := 11) hX dX2_piece_11 hm_20 rfl inT_2 5 (by decide) fl_RX2_43 rfl ?_
    refine pw_if_ne (pc := 14) hX 30 dX2_piece_14 (by decide) (fun _ => ?_) (fun h => absurd h (by decide))
    refine pw_aload_n (pc := 30) hX dX2_piece_30 0 rfl ?_
    refine pw_get (pc := 31) hX dX2_piece_31 hm_20 rfl inT_2 5 (by decide) fl_RX2_43 rfl ?_
    refine pw_if_eq (pc := 34) hX 39 dX2_piece_34 (by decide) (fun h => absurd h (by decide)) (fun _ => ?_)
    refine pw_iconst (pc := 37) (v := 0) hX dX2_piece_37 (by decide) ?_
    exact pw_iret hX dX2_piece_38 hrt ⟨by decide, by decide⟩ ⟨Or.inr ⟨by rw [show cd_piece oc wa p0 p1 p2 = 2 from pc3_2 (fun h => h hij) hno]; decide, ⟨_, rfl⟩, by rw [show cd_piece oc wa p0 p1 p2 = 2 from pc3_2 (fun h => h hij) hno]; exact (mw_ob hm (oc) (mw_oc hm) td 2 sL)⟩, (fm_up fm_rf (x := 0) (by decide) _)⟩
  · have hjB : j < 2 ^ 31 := Nat.lt_of_lt_of_le hj (Nat.le_trans (mw_oc hm) (by decide))
    have hgB : g < 2 ^ 31 := Nat.lt_of_lt_of_le hg (by decide)
    refine pw_put (pc := 7) (v := .int 1) hX dX2_piece_7 hm.1 rfl inT_2 tyX2 tyX2_ok nmX2 5 (by decide) fl_RX2_43 rfl (tyX2_ok 5 (by decide)) rfl rfl (Nat.le_of_ble_eq_true rfl) [.int (nI n), .ref (am 1), .ref (am 2), .int (nI oc), .int td, .int 1, .long sL, .ref (am 3), .ref (am 4), .ref (am 5), .ref (am 6), .ref (am 7), .ref (am 8)] rfl ?_
    have hm_23 := pw_ke (a := am 0) (e := .inr (2, [.int (nI n), .ref (am 1), .ref (am 2), .int (nI oc), .int td, .int 1, .long sL, .ref (am 3), .ref (am 4), .ref (am 5), .ref (am 6), .ref (am 7), .ref (am 8)])) hm.2.1 (mw_ne hm (x := 1) (y := 0) (by decide) (by decide) (by decide))
    have hm_24 := pw_ke (a := am 0) (e := .inr (2, [.int (nI n), .ref (am 1), .ref (am 2), .int (nI oc), .int td, .int 1, .long sL, .ref (am 3), .ref (am 4), .ref (am 5), .ref (am 6), .ref (am 7), .ref (am 8)])) hm.2.2.1 (mw_ne hm (x := 2) (y := 0) (by decide) (by decide) (by decide))
    have hm_25 := pw_ke (a := am 0) (e := .inr (2, [.int (nI n), .ref (am 1), .ref (am 2), .int (nI oc), .int td, .int 1, .long sL, .ref (am 3), .ref (am 4), .ref (am 5), .ref (am 6), .ref (am 7), .ref (am 8)])) hm.2.2.2.1 (mw_ne hm (x := 3) (y := 0) (by decide) (by decide) (by decide))
    have hm_26 := pw_ke (a := am 0) (e := .inr (2, [.int (nI n), .ref (am 1), .ref (am 2), .int (nI oc), .int td, .int 1, .long sL, .ref (am 3), .ref (am 4), .ref (am 5), .ref (am 6), .ref (am 7), .ref (am 8)])) hm.2.2.2.2.1 (mw_ne hm (x := 4) (y := 0) (by decide) (by decide) (by decide))
    have hm_27 := pw_ke (a := am 0) (e := .inr (2, [.int (nI n), .ref (am 1), .ref (am 2), .int (nI oc), .int td, .int 1, .long sL, .ref (am 3), .ref (am 4), .ref (am 5), .ref (am 6), .ref (am 7), .ref (am 8)])) hm.2.2.2.2.2.1 (mw_ne hm (x := 5) (y := 0) (by decide) (by decide) (by decide))
    have hm_28 := pw_ke (a := am 0) (e := .inr (2, [.int (nI n), .ref (am 1), .ref (am 2), .int (nI oc), .int td, .int 1, .long sL, .ref (am 3), .ref (am 4), .ref (am 5), .ref (am 6), .ref (am 7), .ref (am 8)])) hm.2.2.2.2.2.2.1 (mw_ne hm (x := 6) (y := 0) (by decide) (by decide) (by decide))
    have hm_29 := pw_ke (a := am 0) (e := .inr (2, [.int (nI n), .ref (am 1), .ref (am 2), .int (nI oc), .int td, .int 1, .long sL, .ref (am 3), .ref (am 4), .ref (am 5), .ref (am 6), .ref (am 7), .ref (am 8)])) hm.2.2.2.2.2.2.2.1 (mw_ne hm (x := 7) (y := 0) (by decide) (by decide) (by decide))
    have hm_30 := pw_ke (a := am 0) (e := .inr (2, [.int (nI n), .ref (am 1), .ref (am 2), .int (nI oc), .int td, .int 1, .long sL, .ref (am 3), .ref (am 4), .ref (am 5), .ref (am 6), .ref (am 7), .ref (am 8)])) hm.2.2.2.2.2.2.2.2.1 (mw_ne hm (x := 8) (y := 0) (by decide) (by decide) (by decide))
    have hm_31 : pw_up M (am 0) (.inr (2, [.int (nI n), .ref (am 1), .ref (am 2), .int (nI oc), .int td, .int 1, .long sL, .ref (am 3), .ref (am 4), .ref (am 5), .ref (am 6), .ref (am 7), .ref (am 8)])) (am 0) = some (.inr (2, [.int (nI n), .ref (am 1), .ref (am 2), .int (nI oc), .int td, .int 1, .long sL, .ref (am 3), .ref (am 4), .ref (am 5), .ref (am 6), .ref (am 7), .ref (am 8)])) := pw_us
    refine pw_aload_n (pc := 10) hX dX2_piece_10 0 rfl ?_
    refine pw_get (pc := 11) hX dX2_piece_11 hm_31 rfl inT_2 5 (by decide) fl_RX2_43 rfl ?_
    refine pw_if_ne (pc := 14) hX 30 dX2_piece_14 (by decide) (fun _ => ?_) (fun h => absurd h (by decide))
    refine pw_aload_n (pc := 30) hX dX2_piece_30 0 rfl ?_
    refine pw_get (pc := 31) hX dX2_piece_31 hm_31 rfl inT_2 5 (by decide) fl_RX2_43 rfl ?_
    refine pw_if_eq (pc := 34) hX 39 dX2_piece_34 (by decide) (fun h => absurd h (by decide)) (fun _ => ?_)
    refine pw_iconst (pc := 37) (v := 0) hX dX2_piece_37 (by decide) ?_
    exact pw_iret hX dX2_piece_38 hrt ⟨by decide, by decide⟩ ⟨Or.inr ⟨by rw [show cd_piece oc wa (nI j) (nI g) p2 = 1 from pc5_3 (fun h => h (ir_nI hj)) (fun h => h (ir_nI hg)) (by rw [ix_nI hjB, ix_nI hgB]; exact hw)]; decide, ⟨_, rfl⟩, by rw [show cd_piece oc wa (nI j) (nI g) p2 = 1 from pc5_3 (fun h => h (ir_nI hj)) (fun h => h (ir_nI hg)) (by rw [ix_nI hjB, ix_nI hgB]; exact hw)]; exact (mw_ob hm (oc) (mw_oc hm) td 1 sL)⟩, (fm_up fm_rf (x := 0) (by decide) _)⟩
  · have hjB : j < 2 ^ 31 := Nat.lt_of_lt_of_le hj (Nat.le_trans (mw_oc hm) (by decide))
    have hgB : g < 2 ^ 31 := Nat.lt_of_lt_of_le hg (by decide)
    refine pw_put (pc := 7) (v := .int 0) hX dX2_piece_7 hm.1 rfl inT_2 tyX2 tyX2_ok nmX2 5 (by decide) fl_RX2_43 rfl (tyX2_ok 5 (by decide)) rfl rfl (Nat.le_of_ble_eq_true rfl) [.int (nI n), .ref (am 1), .ref (am 2), .int (nI oc), .int td, .int 0, .long sL, .ref (am 3), .ref (am 4), .ref (am 5), .ref (am 6), .ref (am 7), .ref (am 8)] rfl ?_
    have hm_34 := pw_ke (a := am 0) (e := .inr (2, [.int (nI n), .ref (am 1), .ref (am 2), .int (nI oc), .int td, .int 0, .long sL, .ref (am 3), .ref (am 4), .ref (am 5), .ref (am 6), .ref (am 7), .ref (am 8)])) hm.2.1 (mw_ne hm (x := 1) (y := 0) (by decide) (by decide) (by decide))
    have hm_35 := pw_ke (a := am 0) (e := .inr (2, [.int (nI n), .ref (am 1), .ref (am 2), .int (nI oc), .int td, .int 0, .long sL, .ref (am 3), .ref (am 4), .ref (am 5), .ref (am 6), .ref (am 7), .ref (am 8)])) hm.2.2.1 (mw_ne hm (x := 2) (y := 0) (by decide) (by decide) (by decide))
    have hm_36 := pw_ke (a := am 0) (e := .inr (2, [.int (nI n), .ref (am 1), .ref (am 2), .int (nI oc), .int td, .int 0, .long sL, .ref (am 3), .ref (am 4), .ref (am 5), .ref (am 6), .ref (am 7), .ref (am 8)])) hm.2.2.2.1 (mw_ne hm (x := 3) (y := 0) (by decide) (by decide) (by decide))
    have hm_37 := pw_ke (a := am 0) (e := .inr (2, [.int (nI n), .ref (am 1), .ref (am 2), .int (nI oc), .int td, .int 0, .long sL, .ref (am 3), .ref (am 4), .ref (am 5), .ref (am 6), .ref (am 7), .ref (am 8)])) hm.2.2.2.2.1 (mw_ne hm (x := 4) (y := 0) (by decide) (by decide) (by decide))
    have hm_38 := pw_ke (a := am 0) (e := .inr (2, [.int (nI n), .ref (am 1), .ref (am 2), .int (nI oc), .int td, .int 0, .long sL, .ref (am 3), .ref (am 4), .ref (am 5), .ref (am 6), .ref (am 7), .ref (am 8)])) hm.2.2.2.2.2.1 (mw_ne hm (x := 5) (y := 0) (by decide) (by decide) (by decide))
    have hm_39 := pw_ke (a := am 0) (e := .inr (2, [.int (nI n), .ref (am 1), .ref (am 2), .int (nI oc), .int td, .int 0, .long sL, .ref (am 3), .ref (am 4), .ref (am 5), .ref (am 6), .ref (am 7), .ref (am 8)])) hm.2.2.2.2.2.2.1 (mw_ne hm (x := 6) (y := 0) (by decide) (by decide) (by decide))
    have hm_40 := pw_ke (a := am 0) (e := .inr (2, [.int (nI n), .ref (am 1), .ref (am 2), .int (nI oc), .int td, .int 0, .long sL, .ref (am 3), .ref (am 4), .ref (am 5), .ref (am 6), .ref (am 7), .ref (am 8)])) hm.2.2.2.2.2.2.2.1 (mw_ne hm (x := 7) (y := 0) (by decide) (by decide) (by decide))
    have hm_41 := pw_ke (a := am 0) (e := .inr (2, [.int (nI n), .ref (am 1), .ref (am 2), .int (nI oc), .int td, .int 0, .long sL, .ref (am 3), .ref (am 4), .ref (am 5), .ref (am 6), .ref (am 7), .ref (am 8)])) hm.2.2.2.2.2.2.2.2.1 (mw_ne hm (x := 8) (y := 0) (by decide) (by decide) (by decide))
    have hm_42 : pw_up M (am 0) (.inr (2, [.int (nI n), .ref (am 1), .ref (am 2), .int (nI oc), .int td, .int 0, .long sL, .ref (am 3), .ref (am 4), .ref (am 5), .ref (am 6), .ref (am 7), .ref (am 8)])) (am 0) = some (.inr (2, [.int (nI n), .ref (am 1), .ref (am 2), .int (nI oc), .int td, .int 0, .long sL, .ref (am 3), .ref (am 4), .ref (am 5), .ref (am 6), .ref (am 7), .ref (am 8)])) := pw_us
    refine pw_aload_n (pc := 10) hX dX2_piece_10 0 rfl ?_
    refine pw_get (pc := 11) hX dX2_piece_11 hm_42 rfl inT_2 5 (by decide) fl_RX2_43 rfl ?_
    refine pw_if_ne (pc := 14) hX 30 dX2_piece_14 (by decide) (fun h => absurd h (by decide)) (fun _ => ?_)
    refine pw_iload_n (pc := 17) hX dX2_piece_17 3 rfl ?_
    refine pw_iconst (pc := 18) (v := 3) hX dX2_piece_18 (by decide) ?_
    refine pw_callS (pc := 19) (st := []) hX (mt_below l hl G (pw_up M (am 0) (.inr (2, [.int (nI n), .ref (am 1), .ref (am 2), .int (nI oc), .int td, .int 0, .long sL, .ref (am 3), .ref (am 4), .ref (am 5), .ref (am 6), .ref (am 7), .ref (am 8)]))) p2 3 (by decide)) ok_X2_below lk_RX2_53 dX2_piece_19 rfl ⟨⟨by decide, by decide⟩, Nat.le_of_ble_eq_true rfl, Nat.le_of_ble_eq_true rfl, Nat.le_of_ble_eq_true rfl⟩ rfl (fun v9 M9 hp9 => ?_)
    obtain ⟨rfl, ⟨rfl, k, hk, rfl⟩ | ⟨rfl, hno_p2⟩⟩ := hp9
    · have hkB : k < 2 ^ 31 := Nat.lt_of_lt_of_le hk (by decide)
      refine pw_if_ne (pc := 22) hX 30 dX2_piece_22 (by decide) (fun _ => ?_) (fun h => absurd h (by decide))
      refine pw_aload_n (pc := 30) hX dX2_piece_30 0 rfl ?_
      refine pw_get (pc := 31) hX dX2_piece_31 hm_42 rfl inT_2 5 (by decide) fl_RX2_43 rfl ?_
      refine pw_if_eq (pc := 34) hX 39 dX2_piece_34 (by decide) (fun _ => ?_) (fun h => absurd h (by decide))
      refine pw_bipush (pc := 39) (v := 10) hX dX2_piece_39 (by decide) ?_
      refine pw_iload_n (pc := 41) hX dX2_piece_41 1 rfl ?_
      refine pw_imul (pc := 42) (z := nI (10 * j)) hX dX2_piece_42 (pk_mul 10 _) ?_
      refine pw_iload_n (pc := 43) hX dX2_piece_43 2 rfl ?_
      refine pw_iadd (pc := 44) (z := nI (10 * j + g)) hX dX2_piece_44 (nI_add _ _) ?_
      refine pw_istore (pc := 45) hX [(4, .int (nI (10 * j + g))), (0, .ref (am 0)), (1, .int (nI j)), (2, .int (nI g)), (3, .int (nI k))] dX2_piece_45 (by decide) rfl ?_
      rcases (show k = 0 ∨ k = 1 ∨ k = 2 by omega) with rfl | rfl | rfl
      · refine pw_iload_n (pc := 47) hX dX2_piece_47 4 rfl ?_
        refine pw_if_ne (pc := 48) hX 61 dX2_piece_48 (by decide) (fun h => absurd h (by decide)) (fun _ => ?_)
        refine pw_aload_n (pc := 51) hX dX2_piece_51 1 rfl ?_
        refine pw_get (pc := 52) hX dX2_piece_52 hm_42 rfl inT_2 9 (by decide) fl_RX2_27 rfl ?_
        refine pw_iload (pc := 55) hX dX2_piece_55 0 rfl ?_
        refine pw_iald (pc := 57) (j := 10 * j + g) hX dX2_piece_57 hm_38 (by omega) (by decide) ?_
        refine pw_cg (vb := .int (wa j g)) (congrArg Value.int (fl_at wa j hg)) ?_
        refine pw_goto (pc := 58) hX 83 dX2_piece_58 (by decide) ?_
        exact pw_iret hX dX2_piece_83 hrt ⟨by decide, by decide⟩ (by rw [ix_nI hjB, ix_nI hgB]; exact ⟨Or.inl ⟨by unfold cd_piece; rw [pc_f (fun h => h (ir_nI hj)), pc_f (fun h => h (ir_nI hg)), pc_f (by rw [ix_nI hjB, ix_nI hgB]; exact fun h => h hw), pc_f (fun h => h (ir_nI (by decide)))], by unfold pi_r; rw [pc_t (by decide)], (mw_ob hm (oc) (mw_oc hm) td 0 sL)⟩, (fm_up fm_rf (x := 0) (by decide) _)⟩)
      · refine pw_iload_n (pc := 47) hX dX2_piece_47 4 rfl ?_
        refine pw_if_ne (pc := 48) hX 61 dX2_piece_48 (by decide) (fun _ => ?_) (fun h => absurd h (by decide))
        refine pw_iload_n (pc := 61) hX dX2_piece_61 4 rfl ?_
        refine pw_iconst (pc := 62) (v := 1) hX dX2_piece_62 (by decide) ?_
        refine pw_icmp_ne (pc := 63) hX 76 dX2_piece_63 (by decide) (fun h => absurd h (by decide)) (fun _ => ?_)
        refine pw_aload_n (pc := 66) hX dX2_piece_66 1 rfl ?_
        refine pw_get (pc := 67) hX dX2_piece_67 hm_42 rfl inT_2 10 (by decide) fl_RX2_30 rfl ?_
        refine pw_iload (pc := 70) hX dX2_piece_70 0 rfl ?_
        refine pw_iald (pc := 72) (j := 10 * j + g) hX dX2_piece_72 hm_39 (by omega) (by decide) ?_
        refine pw_cg (vb := .int (pr j g)) (congrArg Value.int (fl_at pr j hg)) ?_
        refine pw_goto (pc := 73) hX 83 dX2_piece_73 (by decide) ?_
        exact pw_iret hX dX2_piece_83 hrt ⟨by decide, by decide⟩ (by rw [ix_nI hjB, ix_nI hgB]; exact ⟨Or.inl ⟨by unfold cd_piece; rw [pc_f (fun h => h (ir_nI hj)), pc_f (fun h => h (ir_nI hg)), pc_f (by rw [ix_nI hjB, ix_nI hgB]; exact fun h => h hw), pc_f (fun h => h (ir_nI (by decide)))], by unfold pi_r; rw [pc_f (by decide), pc_t (by decide)], (mw_ob hm (oc) (mw_oc hm) td 0 sL)⟩, (fm_up fm_rf (x := 0) (by decide) _)⟩)
      · refine pw_iload_n (pc := 47) hX dX2_piece_47 4 rfl ?_
        refine pw_if_ne (pc := 48) hX 61 dX2_piece_48 (by decide) (fun _ => ?_) (fun h => absurd h (by decide))
        refine pw_iload_n (pc := 61) hX dX2_piece_61 4 rfl ?_
        refine pw_iconst (pc := 62) (v := 1) hX dX2_piece_62 (by decide) ?_
        refine pw_icmp_ne (pc := 63) hX 76 dX2_piece_63 (by decide) (fun _ => ?_) (fun h => absurd h (by decide))
        refine pw_aload_n (pc := 76) hX dX2_piece_76 1 rfl ?_
        refine pw_get (pc := 77) hX dX2_piece_77 hm_42 rfl inT_2 11 (by decide) fl_RX2_33 rfl ?_
        refine pw_iload (pc := 80) hX dX2_piece_80 0 rfl ?_
        refine pw_iald (pc := 82) (j := 10 * j + g) hX dX2_piece_82 hm_40 (by omega) (by decide) ?_
        refine pw_cg (vb := .int (la j g)) (congrArg Value.int (fl_at la j hg)) ?_
        exact pw_iret hX dX2_piece_83 hrt ⟨by decide, by decide⟩ (by rw [ix_nI hjB, ix_nI hgB]; exact ⟨Or.inl ⟨by unfold cd_piece; rw [pc_f (fun h => h (ir_nI hj)), pc_f (fun h => h (ir_nI hg)), pc_f (by rw [ix_nI hjB, ix_nI hgB]; exact fun h => h hw), pc_f (fun h => h (ir_nI (by decide)))], by unfold pi_r; rw [pc_f (by decide), pc_f (by decide)], (mw_ob hm (oc) (mw_oc hm) td 0 sL)⟩, (fm_up fm_rf (x := 0) (by decide) _)⟩)
    · refine pw_if_ne (pc := 22) hX 30 dX2_piece_22 (by decide) (fun h => absurd h (by decide)) (fun _ => ?_)
      refine pw_aload_n (pc := 25) hX dX2_piece_25 0 rfl ?_
      refine pw_iconst (pc := 26) (v := 2) hX dX2_piece_26 (by decide) ?_
      refine pw_put (pc := 27) (v := .int 2) hX dX2_piece_27 hm_42 rfl inT_2 tyX2 tyX2_ok nmX2 5 (by decide) fl_RX2_43 rfl (tyX2_ok 5 (by decide)) rfl rfl (Nat.le_of_ble_eq_true rfl) [.int (nI n), .ref (am 1), .ref (am 2), .int (nI oc), .int td, .int 2, .long sL, .ref (am 3), .ref (am 4), .ref (am 5), .ref (am 6), .ref (am 7), .ref (am 8)] rfl ?_
      have hm_52 := pw_ke (a := am 0) (e := .inr (2, [.int (nI n), .ref (am 1), .ref (am 2), .int (nI oc), .int td, .int 2, .long sL, .ref (am 3), .ref (am 4), .ref (am 5), .ref (am 6), .ref (am 7), .ref (am 8)])) hm_34 (mw_ne hm (x := 1) (y := 0) (by decide) (by decide) (by decide))
      have hm_53 := pw_ke (a := am 0) (e := .inr (2, [.int (nI n), .ref (am 1), .ref (am 2), .int (nI oc), .int td, .int 2, .long sL, .ref (am 3), .ref (am 4), .ref (am 5), .ref (am 6), .ref (am 7), .ref (am 8)])) hm_35 (mw_ne hm (x := 2) (y := 0) (by decide) (by decide) (by decide))
      have hm_54 := pw_ke (a := am 0) (e := .inr (2, [.int (nI n), .ref (am 1), .ref (am 2), .int (nI oc), .int td, .int 2, .long sL, .ref (am 3), .ref (am 4), .ref (am 5), .ref (am 6), .ref (am 7), .ref (am 8)])) hm_36 (mw_ne hm (x := 3) (y := 0) (by decide) (by decide) (by decide))
      have hm_55 := pw_ke (a := am 0) (e := .inr (2, [.int (nI n), .ref (am 1), .ref (am 2), .int (nI oc), .int td, .int 2, .long sL, .ref (am 3), .ref (am 4), .ref (am 5), .ref (am 6), .ref (am 7), .ref (am 8)])) hm_37 (mw_ne hm (x := 4) (y := 0) (by decide) (by decide) (by decide))
      have hm_56 := pw_ke (a := am 0) (e := .inr (2, [.int (nI n), .ref (am 1), .ref (am 2), .int (nI oc), .int td, .int 2, .long sL, .ref (am 3), .ref (am 4), .ref (am 5), .ref (am 6), .ref (am 7), .ref (am 8)])) hm_38 (mw_ne hm (x := 5) (y := 0) (by decide) (by decide) (by decide))
      have hm_57 := pw_ke (a := am 0) (e := .inr (2, [.int (nI n), .ref (am 1), .ref (am 2), .int (nI oc), .int td, .int 2, .long sL, .ref (am 3), .ref (am 4), .ref (am 5), .ref (am 6), .ref (am 7), .ref (am 8)])) hm_39 (mw_ne hm (x := 6) (y := 0) (by decide) (by decide) (by decide))
      have hm_58 := pw_ke (a := am 0) (e := .inr (2, [.int (nI n), .ref (am 1), .ref (am 2), .int (nI oc), .int td, .int 2, .long sL, .ref (am 3), .ref (am 4), .ref (am 5), .ref (am 6), .ref (am 7), .ref (am 8)])) hm_40 (mw_ne hm (x := 7) (y := 0) (by decide) (by decide) (by decide))
      have hm_59 := pw_ke (a := am 0) (e := .inr (2, [.int (nI n), .ref (am 1), .ref (am 2), .int (nI oc), .int td, .int 2, .long sL, .ref (am 3), .ref (am 4), .ref (am 5), .ref (am 6), .ref (am 7), .ref (am 8)])) hm_41 (mw_ne hm (x := 8) (y := 0) (by decide) (by decide) (by decide))
      have hm_60 : pw_up (pw_up M (am 0) (.inr (2, [.int (nI n), .ref (am 1), .ref (am 2), .int (nI oc), .int td, .int 0, .long sL, .ref (am 3), .ref (am 4), .ref (am 5), .ref (am 6), .ref (am 7), .ref (am 8)]))) (am 0) (.inr (2, [.int (nI n), .ref (am 1), .ref (am 2), .int (nI oc), .int td, .int 2, .long sL, .ref (am 3), .ref (am 4), .ref (am 5), .ref (am 6), .ref (am 7), .ref (am 8)])) (am 0) = some (.inr (2, [.int (nI n), .ref (am 1), .ref (am 2), .int (nI oc), .int td, .int 2, .long sL, .ref (am 3), .ref (am 4), .ref (am 5), .ref (am 6), .ref (am 7), .ref (am 8)])) := pw_us
      refine pw_aload_n (pc := 30) hX dX2_piece_30 0 rfl ?_
      refine pw_get (pc := 31) hX dX2_piece_31 hm_60 rfl inT_2 5 (by decide) fl_RX2_43 rfl ?_
      refine pw_if_eq (pc := 34) hX 39 dX2_piece_34 (by decide) (fun h => absurd h (by decide)) (fun _ => ?_)
      refine pw_iconst (pc := 37) (v := 0) hX dX2_piece_37 (by decide) ?_
      exact pw_iret hX dX2_piece_38 hrt ⟨by decide, by decide⟩ ⟨Or.inr ⟨by rw [show cd_piece oc wa (nI j) (nI g) p2 = 2 from pc5_4 (fun h => h (ir_nI hj)) (fun h => h (ir_nI hg)) (by rw [ix_nI hjB, ix_nI hgB]; exact fun h => h hw) hno_p2]; decide, ⟨_, rfl⟩, by rw [show cd_piece oc wa (nI j) (nI g) p2 = 2 from pc5_4 (fun h => h (ir_nI hj)) (fun h => h (ir_nI hg)) (by rw [ix_nI hjB, ix_nI hgB]; exact fun h => h hw) hno_p2]; exact (mw_ob (mw_ob hm (oc) (mw_oc hm) td 0 sL) (oc) (mw_oc hm) td 2 sL)⟩, (fm_up (fm_up fm_rf (x := 0) (by decide) _) (x := 0) (by decide) _)⟩
