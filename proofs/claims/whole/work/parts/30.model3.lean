theorem i_sub0 {a b : Int32} : a - b = 0 ↔ b = a := by
  constructor
  · intro h
    have h9 : a - b + b = 0 + b := by rw [h]
    rw [Int32.sub_add_cancel, Int32.zero_add] at h9
    exact h9.symm
  · intro h
    rw [h]
    exact Int32.sub_self a
theorem sc_ne {x w p s t : Int32} : ¬ sc_r x w p s t = 0 := by
  by_cases h1 : x = 0
  · by_cases h2 : 0 < w
    · by_cases h3 : w - p = 0 ∨ s = 2
      · rw [sc_4 h1 h2 h3]; decide
      · by_cases h5 : t = 0
        · rw [sc_5 h1 h2 (fun h => h3 (Or.inl h)) (fun h => h3 (Or.inr h)) h5]; decide
        · rw [sc_1 h1 h2 (fun h => h3 (Or.inl h)) (fun h => h3 (Or.inr h)) h5]; decide
    · rw [sc_3 h1 h2]; decide
  · rw [sc_2 h1]; decide
set_option maxHeartbeats 4000000 in
set_option maxRecDepth 100000 in
theorem mp_cell (l : Launch) (hl : l.stackTraces = false) (G : pw_G) (M : pw_M) (am : Nat → Nat) (n oc : Nat) (td th : Int32) (sL : Int64) (dk to er os pl : Nat → Int32) (wa pr la : Nat → Nat → Int32) (hm : mw G am n oc td th sL dk to er os pl wa pr la M) (oo : Nat → Option Nat) (hO : ∀ c, c < n → ∀ j, oo c = some j ↔ j < oc ∧ pl j = nI c) (p0 : Int32) : pw_Met l yX2_cell cX2_cell 3 (some .int) 3 0 0 G [.ref (am 0), .int p0] M (fun v9 M9 => (cd_cell oc os wa p0 = 0 ∧ ((∃ i, i < n ∧ v9 = some (.int (nI i)) ∧ oo i = none ∧ dk i = 0 ∧ (∀ k, k < i → ¬ (oo k = none ∧ dk k = 0)) ∧ mw G am n oc td 0 sL dk to er (upd os (ix p0) 1) (upd pl (ix p0) (nI i)) wa pr la M9) ∨ v9 = some (.int (-1)) ∧ (∀ i, i < n → ¬ (oo i = none ∧ dk i = 0)) ∧ mw G am n oc td 0 sL dk to er os pl wa pr la M9) ∨ ¬ cd_cell oc os wa p0 = 0 ∧ (∃ z, v9 = some (.int z)) ∧ mw G am n oc td (cd_cell oc os wa p0) sL dk to er os pl wa pr la M9) ∧ fm am 9 M M9) := by
  refine pw_of hl (by decide +kernel) (Nat.le_of_ble_eq_true rfl) [(0, .ref (am 0)), (1, .int p0)] rfl ?_
  intro p9 e9 s9 m9 args9 below9 meth9 c9 hX hrt hmi
  generalize hQ9 : MQ below9 _ args9 s9 _ _ _ = Q9
  have hn9 := mw_n hm
  have hoc := mw_oc hm
  refine pw_aload_n (pc := 0) hX dX2_cell_0 0 rfl ?_
  refine pw_iload_n (pc := 1) hX dX2_cell_1 1 rfl ?_
  refine pw_aload_n (pc := 2) hX dX2_cell_2 0 rfl ?_
  refine pw_get (pc := 3) hX dX2_cell_3 hm.1 rfl inT_2 3 (by decide) fl_RX2_50 rfl ?_
  refine pw_callS (pc := 6) (st := [.ref (am 0)]) hX (mt_below l hl G M p0 oc (Nat.lt_of_le_of_lt (mw_oc hm) (by decide))) ok_X2_below lk_RX2_53 dX2_cell_6 rfl ⟨⟨by decide, by decide⟩, Nat.le_of_ble_eq_true rfl, Nat.le_of_ble_eq_true rfl, Nat.le_of_ble_eq_true rfl⟩ rfl (fun v9 M9 hp9 => ?_)
  obtain ⟨rfl, ⟨rfl, j, hj, rfl⟩ | ⟨rfl, hno_p0⟩⟩ := hp9
  · have hjB : j < 2 ^ 31 := Nat.lt_of_lt_of_le hj (Nat.le_trans (mw_oc hm) (by decide))
    refine pw_if_ne (pc := 9) hX 16 dX2_cell_9 (by decide) (fun _ => ?_) (fun h => absurd h (by decide))
    refine pw_aload_n (pc := 16) hX dX2_cell_16 0 rfl ?_
    refine pw_get (pc := 17) hX dX2_cell_17 hm.1 rfl inT_2 7 (by decide) fl_RX2_21 rfl ?_
    refine pw_iload_n (pc := 20) hX dX2_cell_20 1 rfl ?_
    refine pw_iald (pc := 21) (j := j) hX dX2_cell_21 hm.2.2.2.1 (by omega) (by decide) ?_
    refine pw_if_ne (pc := 22) hX 33 dX2_cell_22 (by decide) (fun hc_2 => ?_) (fun hc_2 => ?_)
    · refine pw_iconst (pc := 33) (v := 2) hX dX2_cell_33 (by decide) ?_
      refine pw_goto (pc := 34) hX 38 dX2_cell_34 (by decide) ?_
      refine pw_put (pc := 38) (v := .int 2) hX dX2_cell_38 hm.1 rfl inT_2 tyX2 tyX2_ok nmX2 5 (by decide) fl_RX2_43 rfl (tyX2_ok 5 (by decide)) rfl rfl (Nat.le_of_ble_eq_true rfl) [.int (nI n), .ref (am 1), .ref (am 2), .int (nI oc), .int td, .int 2, .long sL, .ref (am 3), .ref (am 4), .ref (am 5), .ref (am 6), .ref (am 7), .ref (am 8)] rfl ?_
      have hm_3 := pw_ke (a := am 0) (e := .inr (2, [.int (nI n), .ref (am 1), .ref (am 2), .int (nI oc), .int td, .int 2, .long sL, .ref (am 3), .ref (am 4), .ref (am 5), .ref (am 6), .ref (am 7), .ref (am 8)])) hm.2.1 (mw_ne hm (x := 1) (y := 0) (by decide) (by decide) (by decide))
      have hm_4 := pw_ke (a := am 0) (e := .inr (2, [.int (nI n), .ref (am 1), .ref (am 2), .int (nI oc), .int td, .int 2, .long sL, .ref (am 3), .ref (am 4), .ref (am 5), .ref (am 6), .ref (am 7), .ref (am 8)])) hm.2.2.1 (mw_ne hm (x := 2) (y := 0) (by decide) (by decide) (by decide))
      have hm_5 := pw_ke (a := am 0) (e := .inr (2, [.int (nI n), .ref (am 1), .ref (am 2), .int (nI oc), .int td, .int 2, .long sL, .ref (am 3), .ref (am 4), .ref (am 5), .ref (am 6), .ref (am 7), .ref (am 8)])) hm.2.2.2.1 (mw_ne hm (x := 3) (y := 0) (by decide) (by decide) (by decide))
      have hm_6 := pw_ke (a := am 0) (e := .inr (2, [.int (nI n), .ref (am 1), .ref (am 2), .int (nI oc), .int td, .int 2, .long sL, .ref (am 3), .ref (am 4), .ref (am 5), .ref (am 6), .ref (am 7), .ref (am 8)])) hm.2.2.2.2.1 (mw_ne hm (x := 4) (y := 0) (by decide) (by decide) (by decide))
      have hm_7 := pw_ke (a := am 0) (e := .inr (2, [.int (nI n), .ref (am 1), .ref (am 2), .int (nI oc), .int td, .int 2, .long sL, .ref (am 3), .ref (am 4), .ref (am 5), .ref (am 6), .ref (am 7), .ref (am 8)])) hm.2.2.2.2.2.1 (mw_ne hm (x := 5) (y := 0) (by decide) (by decide) (by decide))
      have hm_8 := pw_ke (a := am 0) (e := .inr (2, [.int (nI n), .ref (am 1), .ref (am 2), .int (nI oc), .int td, .int 2, .long sL, .ref (am 3), .ref (am 4), .ref (am 5), .ref (am 6), .ref (am 7), .ref (am 8)])) hm.2.2.2.2.2.2.1 (mw_ne hm (x := 6) (y := 0) (by decide) (by decide) (by decide))
      have hm_9 := pw_ke (a := am 0) (e := .inr (2, [.int (nI n), .ref (am 1), .ref (am 2), .int (nI oc), .int td, .int 2, .long sL, .ref (am 3), .ref (am 4), .ref (am 5), .ref (am 6), .ref (am 7), .ref (am 8)])) hm.2.2.2.2.2.2.2.1 (mw_ne hm (x := 7) (y := 0) (by decide) (by decide) (by decide))
      have hm_10 := pw_ke (a := am 0) (e := .inr (2, [.int (nI n), .ref (am 1), .ref (am 2), .int (nI oc), .int td, .int 2, .long sL, .ref (am 3), .ref (am 4), .ref (am 5), .ref (am 6), .ref (am 7), .ref (am 8)])) hm.2.2.2.2.2.2.2.2.1 (mw_ne hm (x := 8) (y := 0) (by decide) (by decide) (by decide))
      have hm_11 : pw_up M (am 0) (.inr (2, [.int (nI n), .ref (am 1), .ref (am 2), .int (nI oc), .int td, .int 2, .long sL, .ref (am 3), .ref (am 4), .ref (am 5), .ref (am 6), .ref (am 7), .ref (am 8)])) (am 0) = some (.inr (2, [.int (nI n), .ref (am 1), .ref (am 2), .int (nI oc), .int td, .int 2, .long sL, .ref (am 3), .ref (am 4), .ref (am 5), .ref (am 6), .ref (am 7), .ref (am 8)])) := pw_us
      refine pw_aload_n (pc := 41) hX dX2_cell_41 0 rfl ?_
      refine pw_get (pc := 42) hX dX2_cell_42 hm_11 rfl inT_2 5 (by decide) fl_RX2_43 rfl ?_
      refine pw_if_eq (pc := 45) hX 50 dX2_cell_45 (by decide) (fun h => absurd h (by decide)) (fun _ => ?_)
      refine pw_iconst (pc := 48) (v := 0) hX dX2_cell_48 (by decide) ?_
      subst hQ9
      exact pw_iret hX dX2_cell_49 hrt ⟨by decide, by decide⟩ ⟨Or.inr ⟨by rw [show cd_cell oc os wa (nI j) = 2 from pc2_2 (fun h => h (ir_nI hj)) (by rw [ix_nI hjB]; exact fun h => hc_2 h.1)]; decide, ⟨_, rfl⟩, by rw [show cd_cell oc os wa (nI j) = 2 from pc2_2 (fun h => h (ir_nI hj)) (by rw [ix_nI hjB]; exact fun h => hc_2 h.1)]; exact (mw_ob hm (oc) (mw_oc hm) td 2 sL)⟩, (fm_up fm_rf (x := 0) (by decide) _)⟩
    · refine pw_aload_n (pc := 25) hX dX2_cell_25 0 rfl ?_
      refine pw_iload_n (pc := 26) hX dX2_cell_26 1 rfl ?_
      refine pw_callV (pc := 27) (st := [.ref (am 0)]) hX (mt_linesOf l hl G M am n oc td th sL dk to er os pl wa pr la hm j hj) hm.1 rfl ok_X2_linesOf lk_RX2_56 dX2_cell_27 rfl ⟨⟨by decide, by decide⟩, Nat.le_of_ble_eq_true rfl, Nat.le_of_ble_eq_true rfl, Nat.le_of_ble_eq_true rfl⟩ rfl (fun v9 M9 hp9 => ?_)
      obtain ⟨rfl, rfl⟩ := hp9
      refine pw_if_ne (pc := 30) hX 37 dX2_cell_30 (by decide) (fun hc_13 => ?_) (fun hc_13 => ?_)
      · refine pw_iconst (pc := 37) (v := 0) hX dX2_cell_37 (by decide) ?_
        refine pw_put (pc := 38) (v := .int 0) hX dX2_cell_38 hm.1 rfl inT_2 tyX2 tyX2_ok nmX2 5 (by decide) fl_RX2_43 rfl (tyX2_ok 5 (by decide)) rfl rfl (Nat.le_of_ble_eq_true rfl) [.int (nI n), .ref (am 1), .ref (am 2), .int (nI oc), .int td, .int 0, .long sL, .ref (am 3), .ref (am 4), .ref (am 5), .ref (am 6), .ref (am 7), .ref (am 8)] rfl ?_
        have hm_14 := pw_ke (a := am 0) (e := .inr (2, [.int (nI n), .ref (am 1), .ref (am 2), .int (nI oc), .int td, .int 0, .long sL, .ref (am 3), .ref (am 4), .ref (am 5), .ref (am 6), .ref (am 7), .ref (am 8)])) hm.2.1 (mw_ne hm (x := 1) (y := 0) (by decide) (by decide) (by decide))
        have hm_15 := pw_ke (a := am 0) (e := .inr (2, [.int (nI n), .ref (am 1), .ref (am 2), .int (nI oc), .int td, .int 0, .long sL, .ref (am 3), .ref (am 4), .ref (am 5), .ref (am 6), .ref (am 7), .ref (am 8)])) hm.2.2.1 (mw_ne hm (x := 2) (y := 0) (by decide) (by decide) (by decide))
        have hm_16 := pw_ke (a := am 0) (e := .inr (2, [.int (nI n), .ref (am 1), .ref (am 2), .int (nI oc), .int td, .int 0, .long sL, .ref (am 3), .ref (am 4), .ref (am 5), .ref (am 6), .ref (am 7), .ref (am 8)])) hm.2.2.2.1 (mw_ne hm (x := 3) (y := 0) (by decide) (by decide) (by decide))
        have hm_17 := pw_ke (a := am 0) (e := .inr (2, [.int (nI n), .ref (am 1), .ref (am 2), .int (nI oc), .int td, .int 0, .long sL, .ref (am 3), .ref (am 4), .ref (am 5), .ref (am 6), .ref (am 7), .ref (am 8)])) hm.2.2.2.2.1 (mw_ne hm (x := 4) (y := 0) (by decide) (by decide) (by decide))
        have hm_18 := pw_ke (a := am 0) (e := .inr (2, [.int (nI n), .ref (am 1), .ref (am 2), .int (nI oc), .int td, .int 0, .long sL, .ref (am 3), .ref (am 4), .ref (am 5), .ref (am 6), .ref (am 7), .ref (am 8)])) hm.2.2.2.2.2.1 (mw_ne hm (x := 5) (y := 0) (by decide) (by decide) (by decide))
        have hm_19 := pw_ke (a := am 0) (e := .inr (2, [.int (nI n), .ref (am 1), .ref (am 2), .int (nI oc), .int td, .int 0, .long sL, .ref (am 3), .ref (am 4), .ref (am 5), .ref (am 6), .ref (am 7), .ref (am 8)])) hm.2.2.2.2.2.2.1 (mw_ne hm (x := 6) (y := 0) (by decide) (by decide) (by decide))
        have hm_20 := pw_ke (a := am 0) (e := .inr (2, [.int (nI n), .ref (am 1), .ref (am 2), .int (nI oc), .int td, .int 0, .long sL, .ref (am 3), .ref (am 4), .ref (am 5), .ref (am 6), .ref (am 7), .ref (am 8)])) hm.2.2.2.2.2.2.2.1 (mw_ne hm (x := 7) (y := 0) (by decide) (by decide) (by decide))
        have hm_21 := pw_ke (a := am 0) (e := .inr (2, [.int (nI n), .ref (am 1), .ref (am 2), .int (nI oc), .int td, .int 0, .long sL, .ref (am 3), .ref (am 4), .ref (am 5), .ref (am 6), .ref (am 7), .ref (am 8)])) hm.2.2.2.2.2.2.2.2.1 (mw_ne hm (x := 8) (y := 0) (by decide) (by decide) (by decide))
        have hm_22 : pw_up M (am 0) (.inr (2, [.int (nI n), .ref (am 1), .ref (am 2), .int (nI oc), .int td, .int 0, .long sL, .ref (am 3), .ref (am 4), .ref (am 5), .ref (am 6), .ref (am 7), .ref (am 8)])) (am 0) = some (.inr (2, [.int (nI n), .ref (am 1), .ref (am 2), .int (nI oc), .int td, .int 0, .long sL, .ref (am 3), .ref (am 4), .ref (am 5), .ref (am 6), .ref (am 7), .ref (am 8)])) := pw_us
        refine pw_aload_n (pc := 41) hX dX2_cell_41 0 rfl ?_
        refine pw_get (pc := 42) hX dX2_cell_42 hm_22 rfl inT_2 5 (by decide) fl_RX2_43 rfl ?_
        refine pw_if_eq (pc := 45) hX 50 dX2_cell_45 (by decide) (fun _ => ?_) (fun h => absurd h (by decide))
        refine pw_iconst (pc := 50) (v := 0) hX dX2_cell_50 (by decide) ?_
        refine pw_istore_n (pc := 51) hX [(2, .int 0), (0, .ref (am 0)), (1, .int (nI j))] dX2_cell_51 (by decide) rfl ?_
        refine pw_lp (P := fun k_24 => (∀ i, i < k_24 → ¬ (oo i = none ∧ dk i = 0)) → pw_W p9 l e9 (pw_rm 3 0 0) s9 m9 args9 below9 meth9 c9 Q9 G 3 (pw_up M (am 0) (.inr (2, [.int (nI n), .ref (am 1), .ref (am 2), .int (nI oc), .int td, .int 0, .long sL, .ref (am 3), .ref (am 4), .ref (am 5), .ref (am 6), .ref (am 7), .ref (am 8)]))) (0 + 0 + 0) (0 + 0 + 0) 52 [(2, .int (nI (k_24))), (0, .ref (am 0)), (1, .int (nI j))] []) n ?_ ?_ 0 (Nat.zero_le _) (fun g hg => absurd hg (Nat.not_lt_zero g))
        · intro hy_k_24
          refine pw_iload_n (pc := 52) hX dX2_cell_52 0 rfl ?_
          refine pw_aload_n (pc := 53) hX dX2_cell_53 1 rfl ?_
          refine pw_get (pc := 54) hX dX2_cell_54 hm_22 rfl inT_2 0 (by decide) fl_RX2_39 rfl ?_
          refine pw_icmp_ge (pc := 57) hX 100 dX2_cell_57 (by decide) (fun hc_25 => ?_) (fun hc_25 => absurd (Int32.le_refl _) hc_25)
          refine pw_iconst (pc := 100) (v := (-1)) hX dX2_cell_100 (by decide) ?_
          subst hQ9
          exact pw_iret hX dX2_cell_101 hrt ⟨by decide, by decide⟩ (by rw [ix_nI hjB]; exact ⟨Or.inl ⟨pc2_0 (fun h => h (ir_nI hj)) (by rw [ix_nI hjB]; exact fun h => h ⟨hc_2, Nat.pos_of_ne_zero (fun e => hc_13 (by rw [e]; rfl))⟩), Or.inr ⟨rfl, hy_k_24, (mw_ob hm (oc) (mw_oc hm) td 0 sL)⟩⟩, (fm_up fm_rf (x := 0) (by decide) _)⟩)
        · intro k_24 hk_24 ih_k_24
          intro hy_k_24
          refine pw_iload_n (pc := 52) hX dX2_cell_52 0 rfl ?_
          refine pw_aload_n (pc := 53) hX dX2_cell_53 1 rfl ?_
          refine pw_get (pc := 54) hX dX2_cell_54 hm_22 rfl inT_2 0 (by decide) fl_RX2_39 rfl ?_
          refine pw_icmp_ge (pc := 57) hX 100 dX2_cell_57 (by decide) (fun hc_26 => absurd hc_26 (nI_ge (b := n) hk_24 (Nat.lt_of_le_of_lt (mw_n hm) (by decide)))) (fun hc_26 => ?_)
          refine pw_aload_n (pc := 60) hX dX2_cell_60 1 rfl ?_
          refine pw_get (pc := 61) hX dX2_cell_61 hm_22 rfl inT_2 1 (by decide) fl_RX2_7 rfl ?_
          refine pw_iload_n (pc := 64) hX dX2_cell_64 0 rfl ?_
          refine pw_zald (pc := 65) (j := k_24) hX dX2_cell_65 hm_14 (by omega) (by decide) ?_
          refine pw_if_ne (pc := 66) hX 94 dX2_cell_66 (by decide) (fun hc_27 => ?_) (fun hc_27 => ?_)
          · refine pw_iinc (pc := 94) (v := nI ((k_24) + 1)) (j := 0) hX [(2, .int (nI ((k_24) + 1))), (0, .ref (am 0)), (1, .int (nI j))] dX2_cell_94 rfl (nI_1 _) (by decide) rfl ?_
            refine pw_goto (pc := 97) hX 52 dX2_cell_97 (by decide) ?_
            exact pw_lv [0, 1, 2] _ rfl (ih_k_24 (lt_s hy_k_24 (fun h => hc_27 h.2)))
          · refine pw_aload_n (pc := 69) hX dX2_cell_69 1 rfl ?_
            refine pw_iload_n (pc := 70) hX dX2_cell_70 0 rfl ?_
            refine pw_callV (pc := 71) (st := []) hX (mt_at l hl G _ am _ _ _ _ _ _ _ _ _ _ _ _ _ (mw_ob hm (oc) (mw_oc hm) td 0 sL) oo hO k_24 hk_24) hm_22 rfl ok_X2_at lk_RX2_60 dX2_cell_71 rfl ⟨⟨by decide, by decide⟩, Nat.le_of_ble_eq_true rfl, Nat.le_of_ble_eq_true rfl, Nat.le_of_ble_eq_true rfl⟩ rfl (fun v9 M9 hp9 => ?_)
            obtain ⟨rfl, ⟨o, ho, ho9, rfl⟩ | ⟨ho, rfl⟩⟩ := hp9
            · have hoB : o < 2 ^ 31 := Nat.lt_of_lt_of_le ho9 (Nat.le_trans (mw_oc hm) (by decide))
              refine pw_iconst (pc := 74) (v := (-1)) hX dX2_cell_74 (by decide) ?_
              refine pw_icmp_ne (pc := 75) hX 94 dX2_cell_75 (by decide) (fun hc_28 => ?_) (fun hc_28 => absurd hc_28 (nI_m1 hoB))
              refine pw_iinc (pc := 94) (v := nI ((k_24) + 1)) (j := 0) hX [(2, .int (nI ((k_24) + 1))), (0, .ref (am 0)), (1, .int (nI j))] dX2_cell_94 rfl (nI_1 _) (by decide) rfl ?_
              refine pw_goto (pc := 97) hX 52 dX2_cell_97 (by decide) ?_
              exact pw_lv [0, 1, 2] _ rfl (ih_k_24 (lt_s hy_k_24 (fun h => by rw [ho] at h; cases h.1)))
            · refine pw_iconst (pc := 74) (v := (-1)) hX dX2_cell_74 (by decide) ?_
              refine pw_icmp_ne (pc := 75) hX 94 dX2_cell_75 (by decide) (fun h => absurd h (by decide)) (fun _ => ?_)
              refine pw_aload_n (pc := 78) hX dX2_cell_78 1 rfl ?_
              refine pw_get (pc := 79) hX dX2_cell_79 hm_22 rfl inT_2 8 (by decide) fl_RX2_24 rfl ?_
              refine pw_iload_n (pc := 82) hX dX2_cell_82 2 rfl ?_
              refine pw_iload_n (pc := 83) hX dX2_cell_83 0 rfl ?_
              refine pw_iast (pc := 84) (j := j) hX dX2_cell_84 hm_17 (by omega) (by decide) ?_
              have hm_30 := pw_ke (a := am 4) (e := .inl (G.2.2.1 0, 20, .inl (upd pl j (nI (k_24))))) hm_22 (mw_ne hm (x := 0) (y := 4) (by decide) (by decide) (by decide))
              have hm_31 := pw_ke (a := am 4) (e := .inl (G.2.2.1 0, 20, .inl (upd pl j (nI (k_24))))) hm_14 (mw_ne hm (x := 1) (y := 4) (by decide) (by decide) (by decide))
              have hm_32 := pw_ke (a := am 4) (e := .inl (G.2.2.1 0, 20, .inl (upd pl j (nI (k_24))))) hm_15 (mw_ne hm (x := 2) (y := 4) (by decide) (by decide) (by decide))
              have hm_33 := pw_ke (a := am 4) (e := .inl (G.2.2.1 0, 20, .inl (upd pl j (nI (k_24))))) hm_16 (mw_ne hm (x := 3) (y := 4) (by decide) (by decide) (by decide))
              have hm_34 := pw_ke (a := am 4) (e := .inl (G.2.2.1 0, 20, .inl (upd pl j (nI (k_24))))) hm_18 (mw_ne hm (x := 5) (y := 4) (by decide) (by decide) (by decide))
              have hm_35 := pw_ke (a := am 4) (e := .inl (G.2.2.1 0, 20, .inl (upd pl j (nI (k_24))))) hm_19 (mw_ne hm (x := 6) (y := 4) (by decide) (by decide) (by decide))
              have hm_36 := pw_ke (a := am 4) (e := .inl (G.2.2.1 0, 20, .inl (upd pl j (nI (k_24))))) hm_20 (mw_ne hm (x := 7) (y := 4) (by decide) (by decide) (by decide))
              have hm_37 := pw_ke (a := am 4) (e := .inl (G.2.2.1 0, 20, .inl (upd pl j (nI (k_24))))) hm_21 (mw_ne hm (x := 8) (y := 4) (by decide) (by decide) (by decide))
              have hm_38 : pw_up (pw_up M (am 0) (.inr (2, [.int (nI n), .ref (am 1), .ref (am 2), .int (nI oc), .int td, .int 0, .long sL, .ref (am 3), .ref (am 4), .ref (am 5), .ref (am 6), .ref (am 7), .ref (am 8)]))) (am 4) (.inl (G.2.2.1 0, 20, .inl (upd pl j (nI (k_24))))) (am 4) = some (.inl (G.2.2.1 0, 20, .inl (upd pl j (nI (k_24))))) := pw_us
              refine pw_aload_n (pc := 85) hX dX2_cell_85 1 rfl ?_
              refine pw_get (pc := 86) hX dX2_cell_86 hm_30 rfl inT_2 7 (by decide) fl_RX2_21 rfl ?_
              refine pw_iload_n (pc := 89) hX dX2_cell_89 2 rfl ?_
              refine pw_iconst (pc := 90) (v := 1) hX dX2_cell_90 (by decide) ?_
              refine pw_iast (pc := 91) (j := j) hX dX2_cell_91 hm_33 (by omega) (by decide) ?_
              have hm_39 := pw_ke (a := am 3) (e := .inl (G.2.2.1 0, 20, .inl (upd os j 1))) hm_30 (mw_ne hm (x := 0) (y := 3) (by decide) (by decide) (by decide))
              have hm_40 := pw_ke (a := am 3) (e := .inl (G.2.2.1 0, 20, .inl (upd os j 1))) hm_31 (mw_ne hm (x := 1) (y := 3) (by decide) (by decide) (by decide))
              have hm_41 := pw_ke (a := am 3) (e := .inl (G.2.2.1 0, 20, .inl (upd os j 1))) hm_32 (mw_ne hm (x := 2) (y := 3) (by decide) (by decide) (by decide))
              have hm_42 := pw_ke (a := am 3) (e := .inl (G.2.2.1 0, 20, .inl (upd os j 1))) hm_38 (mw_ne hm (x := 4) (y := 3) (by decide) (by decide) (by decide))
              have hm_43 := pw_ke (a := am 3) (e := .inl (G.2.2.1 0, 20, .inl (upd os j 1))) hm_34 (mw_ne hm (x := 5) (y := 3) (by decide) (by decide) (by decide))
              have hm_44 := pw_ke (a := am 3) (e := .inl (G.2.2.1 0, 20, .inl (upd os j 1))) hm_35 (mw_ne hm (x := 6) (y := 3) (by decide) (by decide) (by decide))
              have hm_45 := pw_ke (a := am 3) (e := .inl (G.2.2.1 0, 20, .inl (upd os j 1))) hm_36 (mw_ne hm (x := 7) (y := 3) (by decide) (by decide) (by decide))
              have hm_46 := pw_ke (a := am 3) (e := .inl (G.2.2.1 0, 20, .inl (upd os j 1))) hm_37 (mw_ne hm (x := 8) (y := 3) (by decide) (by decide) (by decide))
              have hm_47 : pw_up (pw_up (pw_up M (am 0) (.inr (2, [.int (nI n), .ref (am 1), .ref (am 2), .int (nI oc), .int td, .int 0, .long sL, .ref (am 3), .ref (am 4), .ref (am 5), .ref (am 6), .ref (am 7), .ref (am 8)]))) (am 4) (.inl (G.2.2.1 0, 20, .inl (upd pl j (nI (k_24)))))) (am 3) (.inl (G.2.2.1 0, 20, .inl (upd os j 1))) (am 3) = some (.inl (G.2.2.1 0, 20, .inl (upd os j 1))) := pw_us
              refine pw_iload_n (pc := 92) hX dX2_cell_92 0 rfl ?_
              subst hQ9
              exact pw_iret hX dX2_cell_93 hrt ⟨by decide, by decide⟩ (by rw [ix_nI hjB]; exact ⟨Or.inl ⟨pc2_0 (fun h => h (ir_nI hj)) (by rw [ix_nI hjB]; exact fun h => h ⟨hc_2, Nat.pos_of_ne_zero (fun e => hc_13 (by rw [e]; rfl))⟩), Or.inl ⟨k_24, hk_24, rfl, ho, hc_27, hy_k_24, (mw_os (mw_pl (mw_ob hm (oc) (mw_oc hm) td 0 sL) _) _)⟩⟩, (fm_up (fm_up (fm_up fm_rf (x := 0) (by decide) _) (x := 4) (by decide) _) (x := 3) (by decide) _)⟩)
      · refine pw_iconst (pc := 33) (v := 2) hX dX2_cell_33 (by decide) ?_
        refine pw_goto (pc := 34) hX 38 dX2_cell_34 (by decide) ?_
        refine pw_put (pc := 38) (v := .int 2) hX dX2_cell_38 hm.1 rfl inT_2 tyX2 tyX2_ok nmX2 5 (by decide) fl_RX2_43 rfl (tyX2_ok 5 (by decide)) rfl rfl (Nat.le_of_ble_eq_true rfl) [.int (nI n), .ref (am 1), .ref (am 2), .int (nI oc), .int td, .int 2, .long sL, .ref (am 3), .ref (am 4), .ref (am 5), .ref (am 6), .ref (am 7), .ref (am 8)] rfl ?_
        have hm_48 := pw_ke (a := am 0) (e := .inr (2, [.int (nI n), .ref (am 1), .ref (am 2), .int (nI oc), .int td, .int 2, .long sL, .ref (am 3), .ref (am 4), .ref (am 5), .ref (am 6), .ref (am 7), .ref (am 8)])) hm.2.1 (mw_ne hm (x := 1) (y := 0) (by decide) (by decide) (by decide))
        have hm_49 := pw_ke (a := am 0) (e := .inr (2, [.int (nI n), .ref (am 1), .ref (am 2), .int (nI oc), .int td, .int 2, .long sL, .ref (am 3), .ref (am 4), .ref (am 5), .ref (am 6), .ref (am 7), .ref (am 8)])) hm.2.2.1 (mw_ne hm (x := 2) (y := 0) (by decide) (by decide) (by decide))
        have hm_50 := pw_ke (a := am 0) (e := .inr (2, [.int (nI n), .ref (am 1), .ref (am 2), .int (nI oc), .int td, .int 2, .long sL, .ref (am 3), .ref (am 4), .ref (am 5), .ref (am 6), .ref (am 7), .ref (am 8)])) hm.2.2.2.1 (mw_ne hm (x := 3) (y := 0) (by decide) (by decide) (by decide))
        have hm_51 := pw_ke (a := am 0) (e := .inr (2, [.int (nI n), .ref (am 1), .ref (am 2), .int (nI oc), .int td, .int 2, .long sL, .ref (am 3), .ref (am 4), .ref (am 5), .ref (am 6), .ref (am 7), .ref (am 8)])) hm.2.2.2.2.1 (mw_ne hm (x := 4) (y := 0) (by decide) (by decide) (by decide))
        have hm_52 := pw_ke (a := am 0) (e := .inr (2, [.int (nI n), .ref (am 1), .ref (am 2), .int (nI oc), .int td, .int 2, .long sL, .ref (am 3), .ref (am 4), .ref (am 5), .ref (am 6), .ref (am 7), .ref (am 8)])) hm.2.2.2.2.2.1 (mw_ne hm (x := 5) (y := 0) (by decide) (by decide) (by decide))
        have hm_53 := pw_ke (a := am 0) (e := .inr (2, [.int (nI n), .ref (am 1), .ref (am 2), .int (nI oc), .int td, .int 2, .long sL, .ref (am 3), .ref (am 4), .ref (am 5), .ref (am 6), .ref (am 7), .ref (am 8)])) hm.2.2.2.2.2.2.1 (mw_ne hm (x := 6) (y := 0) (by decide) (by decide) (by decide))
        have hm_54 := pw_ke (a := am 0) (e := .inr (2, [.int (nI n), .ref (am 1), .ref (am 2), .int (nI oc), .int td, .int 2, .long sL, .ref (am 3), .ref (am 4), .ref (am 5), .ref (am 6), .ref (am 7), .ref (am 8)])) hm.2.2.2.2.2.2.2.1 (mw_ne hm (x := 7) (y := 0) (by decide) (by decide) (by decide))
        have hm_55 := pw_ke (a := am 0) (e := .inr (2, [.int (nI n), .ref (am 1), .ref (am 2), .int (nI oc), .int td, .int 2, .long sL, .ref (am 3), .ref (am 4), .ref (am 5), .ref (am 6), .ref (am 7), .ref (am 8)])) hm.2.2.2.2.2.2.2.2.1 (mw_ne hm (x := 8) (y := 0) (by decide) (by decide) (by decide))
        have hm_56 : pw_up M (am 0) (.inr (2, [.int (nI n), .ref (am 1), .ref (am 2), .int (nI oc), .int td, .int 2, .long sL, .ref (am 3), .ref (am 4), .ref (am 5), .ref (am 6), .ref (am 7), .ref (am 8)])) (am 0) = some (.inr (2, [.int (nI n), .ref (am 1), .ref (am 2), .int (nI oc), .int td, .int 2, .long sL, .ref (am 3), .ref (am 4), .ref (am 5), .ref (am 6), .ref (am 7), .ref (am 8)])) := pw_us
        refine pw_aload_n (pc := 41) hX dX2_cell_41 0 rfl ?_
        refine pw_get (pc := 42) hX dX2_cell_42 hm_56 rfl inT_2 5 (by decide) fl_RX2_43 rfl ?_
        refine pw_if_eq (pc := 45) hX 50 dX2_cell_45 (by decide) (fun h => absurd h (by decide)) (fun _ => ?_)
        refine pw_iconst (pc := 48) (v := 0) hX dX2_cell_48 (by decide) ?_
        subst hQ9
        exact pw_iret hX dX2_cell_49 hrt ⟨by decide, by decide⟩ ⟨Or.inr ⟨by rw [show cd_cell oc os wa (nI j) = 2 from pc2_2 (fun h => h (ir_nI hj)) (by rw [ix_nI hjB]; exact fun h => absurd h.2 (by rw [(nI_eq (b := 0) (Nat.lt_of_le_of_lt (od_ct_le _ 10) (by decide)) (by decide)).mp hc_13]; decide))]; decide, ⟨_, rfl⟩, by rw [show cd_cell oc os wa (nI j) = 2 from pc2_2 (fun h => h (ir_nI hj)) (by rw [ix_nI hjB]; exact fun h => absurd h.2 (by rw [(nI_eq (b := 0) (Nat.lt_of_le_of_lt (od_ct_le _ 10) (by decide)) (by decide)).mp hc_13]; decide))]; exact (mw_ob hm (oc) (mw_oc hm) td 2 sL)⟩, (fm_up fm_rf (x := 0) (by decide) _)⟩
  · refine pw_if_ne (pc := 9) hX 16 dX2_cell_9 (by decide) (fun h => absurd h (by decide)) (fun _ => ?_)
    refine pw_iconst (pc := 12) (v := 1) hX dX2_cell_12 (by decide) ?_
    refine pw_goto (pc := 13) hX 38 dX2_cell_13 (by decide) ?_
    refine pw_put (pc := 38) (v := .int 1) hX dX2_cell_38 hm.1 rfl inT_2 tyX2 tyX2_ok nmX2 5 (by decide) fl_RX2_43 rfl (tyX2_ok 5 (by decide)) rfl rfl (Nat.le_of_ble_eq_true rfl) [.int (nI n), .ref (am 1), .ref (am 2), .int (nI oc), .int td, .int 1, .long sL, .ref (am 3), .ref (am 4), .ref (am 5), .ref (am 6), .ref (am 7), .ref (am 8)] rfl ?_
    have hm_59 := pw_ke (a := am 0) (e := .inr (2, [.int (nI n), .ref (am 1), .ref (am 2), .int (nI oc), .int td, .int 1, .long sL, .ref (am 3), .ref (am 4), .ref (am 5), .ref (am 6), .ref (am 7), .ref (am 8)])) hm.2.1 (mw_ne hm (x := 1) (y := 0) (by decide) (by decide) (by decide))
    have hm_60 := pw_ke (a := am 0) (e := .inr (2, [.int (nI n), .ref (am 1), .ref (am 2), .int (nI oc), .int td, .int 1, .long sL, .ref (am 3), .ref (am 4), .ref (am 5), .ref (am 6), .ref (am 7), .ref (am 8)])) hm.2.2.1 (mw_ne hm (x := 2) (y := 0) (by decide) (by decide) (by decide))
    have hm_61 := pw_ke (a := am 0) (e := .inr (2, [.int (nI n), .ref (am 1), .ref (am 2), .int (nI oc), .int td, .int 1, .long sL, .ref (am 3), .ref (am 4), .ref (am 5), .ref (am 6), .ref (am 7), .ref (am 8)])) hm.2.2.2.1 (mw_ne hm (x := 3) (y := 0) (by decide) (by decide) (by decide))
    have hm_62 := pw_ke (a := am 0) (e := .inr (2, [.int (nI n), .ref (am 1), .ref (am 2), .int (nI oc), .int td, .int 1, .long sL, .ref (am 3), .ref (am 4), .ref (am 5), .ref (am 6), .ref (am 7), .ref (am 8)])) hm.2.2.2.2.1 (mw_ne hm (x := 4) (y := 0) (by decide) (by decide) (by decide))
    have hm_63 := pw_ke (a := am 0) (e := .inr (2, [.int (nI n), .ref (am 1), .ref (am 2), .int (nI oc), .int td, .int 1, .long sL, .ref (am 3), .ref (am 4), .ref (am 5), .ref (am 6), .ref (am 7), .ref (am 8)])) hm.2.2.2.2.2.1 (mw_ne hm (x := 5) (y := 0) (by decide) (by decide) (by decide))
    have hm_64 := pw_ke (a := am 0) (e := .inr (2, [.int (nI n), .ref (am 1), .ref (am 2), .int (nI oc), .int td, .int 1, .long sL, .ref (am 3), .ref (am 4), .ref (am 5), .ref (am 6), .ref (am 7), .ref (am 8)])) hm.2.2.2.2.2.2.1 (mw_ne hm (x := 6) (y := 0) (by decide) (by decide) (by decide))
    have hm_65 := pw_ke (a := am 0) (e := .inr (2, [.int (nI n), .ref (am 1), .ref (am 2), .int (nI oc), .int td, .int 1, .long sL, .ref (am 3), .ref (am 4), .ref (am 5), .ref (am 6), .ref (am 7), .ref (am 8)])) hm.2.2.2.2.2.2.2.1 (mw_ne hm (x := 7) (y := 0) (by decide) (by decide) (by decide))
    have hm_66 := pw_ke (a := am 0) (e := .inr (2, [.int (nI n), .ref (am 1), .ref (am 2), .int (nI oc), .int td, .int 1, .long sL, .ref (am 3), .ref (am 4), .ref (am 5), .ref (am 6), .ref (am 7), .ref (am 8)])) hm.2.2.2.2.2.2.2.2.1 (mw_ne hm (x := 8) (y := 0) (by decide) (by decide) (by decide))
    have hm_67 : pw_up M (am 0) (.inr (2, [.int (nI n), .ref (am 1), .ref (am 2), .int (nI oc), .int td, .int 1, .long sL, .ref (am 3), .ref (am 4), .ref (am 5), .ref (am 6), .ref (am 7), .ref (am 8)])) (am 0) = some (.inr (2, [.int (nI n), .ref (am 1), .ref (am 2), .int (nI oc), .int td, .int 1, .long sL, .ref (am 3), .ref (am 4), .ref (am 5), .ref (am 6), .ref (am 7), .ref (am 8)])) := pw_us
    refine pw_aload_n (pc := 41) hX dX2_cell_41 0 rfl ?_
    refine pw_get (pc := 42) hX dX2_cell_42 hm_67 rfl inT_2 5 (by decide) fl_RX2_43 rfl ?_
    refine pw_if_eq (pc := 45) hX 50 dX2_cell_45 (by decide) (fun h => absurd h (by decide)) (fun _ => ?_)
    refine pw_iconst (pc := 48) (v := 0) hX dX2_cell_48 (by decide) ?_
    subst hQ9
    exact pw_iret hX dX2_cell_49 hrt ⟨by decide, by decide⟩ ⟨Or.inr ⟨by rw [show cd_cell oc os wa p0 = 1 from pc_t hno_p0]; decide, ⟨_, rfl⟩, by rw [show cd_cell oc os wa p0 = 1 from pc_t hno_p0]; exact (mw_ob hm (oc) (mw_oc hm) td 1 sL)⟩, (fm_up fm_rf (x := 0) (by decide) _)⟩
set_option maxHeartbeats 4000000 in
set_option maxRecDepth 100000 in
theorem mp_light (l : Launch) (hl : l.stackTraces = false) (G : pw_G) (M : pw_M) (am : Nat → Nat) (n oc : Nat) (td th : Int32) (sL : Int64) (dk to er os pl : Nat → Int32) (wa pr la : Nat → Nat → Int32) (hm : mw G am n oc td th sL dk to er os pl wa pr la M) (p0 p1 : Int32) : pw_Met l yX2_light cX2_light 4 (some .boolean) 3 0 0 G [.ref (am 0), .int p0, .int p1] M (fun v9 M9 => (cd_light n p0 = 0 ∧ v9 = some (.int (if dk (ix p0) = 0 then 1 else 0)) ∧ mw G am n oc td 0 sL (upd dk (ix p0) (if p1 = 0 then 1 else 0)) to er os pl wa pr la M9 ∨ ¬ cd_light n p0 = 0 ∧ (∃ z, v9 = some (.int z)) ∧ mw G am n oc td (cd_light n p0) sL dk to er os pl wa pr la M9) ∧ fm am 9 M M9) := by
  refine pw_of hl (by decide +kernel) (Nat.le_of_ble_eq_true rfl) [(0, .ref (am 0)), (1, .int p0), (2, .int p1)] rfl ?_
  intro p9 e9 s9 m9 args9 below9 meth9 c9 hX hrt hmi
  have hn9 := mw_n hm
  have hoc := mw_oc hm
  refine pw_aload_n (pc := 0) hX dX2_light_0 0 rfl ?_
  refine pw_iload_n (pc := 1) hX dX2_light_1 1 rfl ?_
  refine pw_aload_n (pc := 2) hX dX2_light_2 0 rfl ?_
  refine pw_get (pc := 3) hX dX2_light_3 hm.1 rfl inT_2 0 (by decide) fl_RX2_39 rfl ?_
  refine pw_callS (pc := 6) (st := [.ref (am 0)]) hX (mt_below l hl G M p0 n (Nat.lt_of_le_of_lt (mw_n hm) (by decide))) ok_X2_below lk_RX2_53 dX2_light_6 rfl ⟨⟨by decide, by decide⟩, Nat.le_of_ble_eq_true rfl, Nat.le_of_ble_eq_true rfl, Nat.le_of_ble_eq_true rfl⟩ rfl (fun v9 M9 hp9 => ?_)
  obtain ⟨rfl, ⟨rfl, t, ht, rfl⟩ | ⟨rfl, hno_p0⟩⟩ := hp9
  · have htB : t < 2 ^ 31 := Nat.lt_of_lt_of_le ht (Nat.le_trans (mw_n hm) (by decide))
    refine pw_if_eq (pc := 9) hX 16 dX2_light_9 (by decide) (fun h => absurd h (by decide)) (fun _ => ?_)
    refine pw_iconst (pc := 12) (v := 0) hX dX2_light_12 (by decide) ?_
    refine pw_goto (pc := 13) hX 17 dX2_light_13 (by decide) ?_
    refine pw_put (pc := 17) (v := .int 0) hX dX2_light_17 hm.1 rfl inT_2 tyX2 tyX2_ok nmX2 5 (by decide) fl_RX2_43 rfl (tyX2_ok 5 (by decide)) rfl rfl (Nat.le_of_ble_eq_true rfl) [.int (nI n), .ref (am 1), .ref (am 2), .int (nI oc), .int td, .int 0, .long sL, .ref (am 3), .ref (am 4), .ref (am 5), .ref (am 6), .ref (am 7), .ref (am 8)] rfl ?_
    have hm_2 := pw_ke (a := am 0) (e := .inr (2, [.int (nI n), .ref (am 1), .ref (am 2), .int (nI oc), .int td, .int 0, .long sL, .ref (am 3), .ref (am 4), .ref (am 5), .ref (am 6), .ref (am 7), .ref (am 8)])) hm.2.1 (mw_ne hm (x := 1) (y := 0) (by decide) (by decide) (by decide))
    have hm_3 := pw_ke (a := am 0) (e := .inr (2, [.int (nI n), .ref (am 1), .ref (am 2), .int (nI oc), .int td, .int 0, .long sL, .ref (am 3), .ref (am 4), .ref (am 5), .ref (am 6), .ref (am 7), .ref (am 8)])) hm.2.2.1 (mw_ne hm (x := 2) (y := 0) (by decide) (by decide) (by decide))
    have hm_4 := pw_ke (a := am 0) (e := .inr (2, [.int (nI n), .ref (am 1), .ref (am 2), .int (nI oc), .int td, .int 0, .long sL, .ref (am 3), .ref (am 4), .ref (am 5), .ref (am 6), .ref (am 7), .ref (am 8)])) hm.2.2.2.1 (mw_ne hm (x := 3) (y := 0) (by decide) (by decide) (by decide))
    have hm_5 := pw_ke (a := am 0) (e := .inr (2, [.int (nI n), .ref (am 1), .ref (am 2), .int (nI oc), .int td, .int 0, .long sL, .ref (am 3), .ref (am 4), .ref (am 5), .ref (am 6), .ref (am 7), .ref (am 8)])) hm.2.2.2.2.1 (mw_ne hm (x := 4) (y := 0) (by decide) (by decide) (by decide))
    have hm_6 := pw_ke (a := am 0) (e := .inr (2, [.int (nI n), .ref (am 1), .ref (am 2), .int (nI oc), .int td, .int 0, .long sL, .ref (am 3), .ref (am 4), .ref (am 5), .ref (am 6), .ref (am 7), .ref (am 8)])) hm.2.2.2.2.2.1 (mw_ne hm (x := 5) (y := 0) (by decide) (by decide) (by decide))
    have hm_7 := pw_ke (a := am 0) (e := .inr (2, [.int (nI n), .ref (am 1), .ref (am 2), .int (nI oc), .int td, .int 0, .long sL, .ref (am 3), .ref (am 4), .ref (am 5), .ref (am 6), .ref (am 7), .ref (am 8)])) hm.2.2.2.2.2.2.1 (mw_ne hm (x := 6) (y := 0) (by decide) (by decide) (by decide))
    have hm_8 := pw_ke (a := am 0) (e := .inr (2, [.int (nI n), .ref (am 1), .ref (am 2), .int (nI oc), .int td, .int 0, .long sL, .ref (am 3), .ref (am 4), .ref (am 5), .ref (am 6), .ref (am 7), .ref (am 8)])) hm.2.2.2.2.2.2.2.1 (mw_ne hm (x := 7) (y := 0) (by decide) (by decide) (by decide))
    have hm_9 := pw_ke (a := am 0) (e := .inr (2, [.int (nI n), .ref (am 1), .ref (am 2), .int (nI oc), .int td, .int 0, .long sL, .ref (am 3), .ref (am 4), .ref (am 5), .ref (am 6), .ref (am 7), .ref (am 8)])) hm.2.2.2.2.2.2.2.2.1 (mw_ne hm (x := 8) (y := 0) (by decide) (by decide) (by decide))
    have hm_10 : pw_up M (am 0) (.inr (2, [.int (nI n), .ref (am 1), .ref (am 2), .int (nI oc), .int td, .int 0, .long sL, .ref (am 3), .ref (am 4), .ref (am 5), .ref (am 6), .ref (am 7), .ref (am 8)])) (am 0) = some (.inr (2, [.int (nI n), .ref (am 1), .ref (am 2), .int (nI oc), .int td, .int 0, .long sL, .ref (am 3), .ref (am 4), .ref (am 5), .ref (am 6), .ref (am 7), .ref (am 8)])) := pw_us
    refine pw_aload_n (pc := 20) hX dX2_light_20 0 rfl ?_
    refine pw_get (pc := 21) hX dX2_light_21 hm_10 rfl inT_2 5 (by decide) fl_RX2_43 rfl ?_
    refine pw_if_eq (pc := 24) hX 29 dX2_light_24 (by decide) (fun _ => ?_) (fun h => absurd h (by decide))
    refine pw_aload_n (pc := 29) hX dX2_light_29 0 rfl ?_
    refine pw_get (pc := 30) hX dX2_light_30 hm_10 rfl inT_2 1 (by decide) fl_RX2_7 rfl ?_
    refine pw_iload_n (pc := 33) hX dX2_light_33 1 rfl ?_
    refine pw_zald (pc := 34) (j := t) hX dX2_light_34 hm_2 (by omega) (by decide) ?_
    refine pw_if_ne (pc := 35) hX 42 dX2_light_35 (by decide) (fun hc_12 => ?_) (fun hc_12 => ?_)
    · refine pw_iconst (pc := 42) (v := 0) hX dX2_light_42 (by decide) ?_
      refine pw_istore_n (pc := 43) hX [(3, .int 0), (0, .ref (am 0)), (1, .int (nI t)), (2, .int p1)] dX2_light_43 (by decide) rfl ?_
      refine pw_aload_n (pc := 44) hX dX2_light_44 1 rfl ?_
      refine pw_get (pc := 45) hX dX2_light_45 hm_10 rfl inT_2 1 (by decide) fl_RX2_7 rfl ?_
      refine pw_iload_n (pc := 48) hX dX2_light_48 2 rfl ?_
      refine pw_iload_n (pc := 49) hX dX2_light_49 3 rfl ?_
      refine pw_if_ne (pc := 50) hX 57 dX2_light_50 (by decide) (fun hc_13 => ?_) (fun hc_13 => ?_)
      · refine pw_iconst (pc := 57) (v := 0) hX dX2_light_57 (by decide) ?_
        refine pw_zast (pc := 58) (j := t) hX dX2_light_58 hm_2 (by omega) (by decide) ?_
        have hm_14 := pw_ke (a := am 1) (e := .inl (G.2.2.1 1, 16, .inl (upd dk t (vp_nar .boolean 0)))) hm_10 (mw_ne hm (x := 0) (y := 1) (by decide) (by decide) (by decide))
        have hm_15 := pw_ke (a := am 1) (e := .inl (G.2.2.1 1, 16, .inl (upd dk t (vp_nar .boolean 0)))) hm_3 (mw_ne hm (x := 2) (y := 1) (by decide) (by decide) (by decide))
        have hm_16 := pw_ke (a := am 1) (e := .inl (G.2.2.1 1, 16, .inl (upd dk t (vp_nar .boolean 0)))) hm_4 (mw_ne hm (x := 3) (y := 1) (by decide) (by decide) (by decide))
        have hm_17 := pw_ke (a := am 1) (e := .inl (G.2.2.1 1, 16, .inl (upd dk t (vp_nar .boolean 0)))) hm_5 (mw_ne hm (x := 4) (y := 1) (by decide) (by decide) (by decide))
        have hm_18 := pw_ke (a := am 1) (e := .inl (G.2.2.1 1, 16, .inl (upd dk t (vp_nar .boolean 0)))) hm_6 (mw_ne hm (x := 5) (y := 1) (by decide) (by decide) (by decide))
        have hm_19 := pw_ke (a := am 1) (e := .inl (G.2.2.1 1, 16, .inl (upd dk t (vp_nar .boolean 0)))) hm_7 (mw_ne hm (x := 6) (y := 1) (by decide) (by decide) (by decide))
        have hm_20 := pw_ke (a := am 1) (e := .inl (G.2.2.1 1, 16, .inl (upd dk t (vp_nar .boolean 0)))) hm_8 (mw_ne hm (x := 7) (y := 1) (by decide) (by decide) (by decide))
        have hm_21 := pw_ke (a := am 1) (e := .inl (G.2.2.1 1, 16, .inl (upd dk t (vp_nar .boolean 0)))) hm_9 (mw_ne hm (x := 8) (y := 1) (by decide) (by decide) (by decide))
        have hm_22 : pw_up (pw_up M (am 0) (.inr (2, [.int (nI n), .ref (am 1), .ref (am 2), .int (nI oc), .int td, .int 0, .long sL, .ref (am 3), .ref (am 4), .ref (am 5), .ref (am 6), .ref (am 7), .ref (am 8)]))) (am 1) (.inl (G.2.2.1 1, 16, .inl (upd dk t (vp_nar .boolean 0)))) (am 1) = some (.inl (G.2.2.1 1, 16, .inl (upd dk t (vp_nar .boolean 0)))) := pw_us
        refine pw_iload_n (pc := 59) hX dX2_light_59 0 rfl ?_
        exact pw_zret hX dX2_light_60 hrt rfl ⟨by decide, by decide⟩ (by rw [ix_nI htB]; exact ⟨Or.inl ⟨pc1_0 (fun h => h (ir_nI ht)), by rw [if_neg hc_12], by rw [show (if p1 = 0 then (1 : Int32) else 0) = vp_nar .boolean 0 from by rw [if_neg hc_13]; exact nar_0.symm]; exact (mw_dk (mw_ob hm (oc) (mw_oc hm) td 0 sL) _)⟩, (fm_up (fm_up fm_rf (x := 0) (by decide) _) (x := 1) (by decide) _)⟩)
      · refine pw_iconst (pc := 53) (v := 1) hX dX2_light_53 (by decide) ?_
        refine pw_goto (pc := 54) hX 58 dX2_light_54 (by decide) ?_
        refine pw_zast (pc := 58) (j := t) hX dX2_light_58 hm_2 (by omega) (by decide) ?_
        have hm_23 := pw_ke (a := am 1) (e := .inl (G.2.2.1 1, 16, .inl (upd dk t (vp_nar .boolean 1)))) hm_10 (mw_ne hm (x := 0) (y := 1) (by decide) (by decide) (by decide))
        have hm_24 := pw_ke (a := am 1) (e := .inl (G.2.2.1 1, 16, .inl (upd dk t (vp_nar .boolean 1)))) hm_3 (mw_ne hm (x := 2) (y := 1) (by decide) (by decide) (by decide))
        have hm_25 := pw_ke (a := am 1) (e := .inl (G.2.2.1 1, 16, .inl (upd dk t (vp_nar .boolean 1)))) hm_4 (mw_ne hm (x := 3) (y := 1) (by decide) (by decide) (by decide))
        have hm_26 := pw_ke (a := am 1) (e := .inl (G.2.2.1 1, 16, .inl (upd dk t (vp_nar .boolean 1)))) hm_5 (mw_ne hm (x := 4) (y := 1) (by decide) (by decide) (by decide))
        have hm_27 := pw_ke (a := am 1) (e := .inl (G.2.2.1 1, 16, .inl (upd dk t (vp_nar .boolean 1)))) hm_6 (mw_ne hm (x := 5) (y := 1) (by decide) (by decide) (by decide))
        have hm_28 := pw_ke (a := am 1) (e := .inl (G.2.2.1 1, 16, .inl (upd dk t (vp_nar .boolean 1)))) hm_7 (mw_ne hm (x := 6) (y := 1) (by decide) (by decide) (by decide))
        have hm_29 := pw_ke (a := am 1) (e := .inl (G.2.2.1 1, 16, .inl (upd dk t (vp_nar .boolean 1)))) hm_8 (mw_ne hm (x := 7) (y := 1) (by decide) (by decide) (by decide))
        have hm_30 := pw_ke (a := am 1) (e := .inl (G.2.2.1 1, 16, .inl (upd dk t (vp_nar .boolean 1)))) hm_9 (mw_ne hm (x := 8) (y := 1) (by decide) (by decide) (by decide))
        have hm_31 : pw_up (pw_up M (am 0) (.inr (2, [.int (nI n), .ref (am 1), .ref (am 2), .int (nI oc), .int td, .int 0, .long sL, .ref (am 3), .ref (am 4), .ref (am 5), .ref (am 6), .ref (am 7), .ref (am 8)]))) (am 1) (.inl (G.2.2.1 1, 16, .inl (upd dk t (vp_nar .boolean 1)))) (am 1) = some (.inl (G.2.2.1 1, 16, .inl (upd dk t (vp_nar .boolean 1)))) := pw_us
        refine pw_iload_n (pc := 59) hX dX2_light_59 0 rfl ?_
        exact pw_zret hX dX2_light_60 hrt rfl ⟨by decide, by decide⟩ (by rw [ix_nI htB]; exact ⟨Or.inl ⟨pc1_0 (fun h => h (ir_nI ht)), by rw [if_neg hc_12], by rw [show (if p1 = 0 then (1 : Int32) else 0) = vp_nar .boolean 1 from by rw [if_pos hc_13]; exact nar_1.symm]; exact (mw_dk (mw_ob hm (oc) (mw_oc hm) td 0 sL) _)⟩, (fm_up (fm_up fm_rf (x := 0) (by decide) _) (x := 1) (by decide) _)⟩)
    · refine pw_iconst (pc := 38) (v := 1) hX dX2_light_38 (by decide) ?_
      refine pw_goto (pc := 39) hX 43 dX2_light_39 (by decide) ?_
      refine pw_istore_n (pc := 43) hX [(3, .int 1), (0, .ref (am 0)), (1, .int (nI t)), (2, .int p1)] dX2_light_43 (by decide) rfl ?_
      refine pw_aload_n (pc := 44) hX dX2_light_44 1 rfl ?_
      refine pw_get (pc := 45) hX dX2_light_45 hm_10 rfl inT_2 1 (by decide) fl_RX2_7 rfl ?_
      refine pw_iload_n (pc := 48) hX dX2_light_48 2 rfl ?_
      refine pw_iload_n (pc := 49) hX dX2_light_49 3 rfl ?_
      refine pw_if_ne (pc := 50) hX 57 dX2_light_50 (by decide) (fun hc_32 => ?_) (fun hc_32 => ?_)
      · refine pw_iconst (pc := 57) (v := 0) hX dX2_light_57 (by decide) ?_
        refine pw_zast (pc := 58) (j := t) hX dX2_light_58 hm_2 (by omega) (by decide) ?_
        have hm_33 := pw_ke (a := am 1) (e := .inl (G.2.2.1 1, 16, .inl (upd dk t (vp_nar .boolean 0)))) hm_10 (mw_ne hm (x := 0) (y := 1) (by decide) (by decide) (by decide))
        have hm_34 := pw_ke (a := am 1) (e := .inl (G.2.2.1 1, 16, .inl (upd dk t (vp_nar .boolean 0)))) hm_3 (mw_ne hm (x := 2) (y := 1) (by decide) (by decide) (by decide))
        have hm_35 := pw_ke (a := am 1) (e := .inl (G.2.2.1 1, 16, .inl (upd dk t (vp_nar .boolean 0)))) hm_4 (mw_ne hm (x := 3) (y := 1) (by decide) (by decide) (by decide))
        have hm_36 := pw_ke (a := am 1) (e := .inl (G.2.2.1 1, 16, .inl (upd dk t (vp_nar .boolean 0)))) hm_5 (mw_ne hm (x := 4) (y := 1) (by decide) (by decide) (by decide))
        have hm_37 := pw_ke (a := am 1) (e := .inl (G.2.2.1 1, 16, .inl (upd dk t (vp_nar .boolean 0)))) hm_6 (mw_ne hm (x := 5) (y := 1) (by decide) (by decide) (by decide))
        have hm_38 := pw_ke (a := am 1) (e := .inl (G.2.2.1 1, 16, .inl (upd dk t (vp_nar .boolean 0)))) hm_7 (mw_ne hm (x := 6) (y := 1) (by decide) (by decide) (by decide))
        have hm_39 := pw_ke (a := am 1) (e := .inl (G.2.2.1 1, 16, .inl (upd dk t (vp_nar .boolean 0)))) hm_8 (mw_ne hm (x := 7) (y := 1) (by decide) (by decide) (by decide))
        have hm_40 := pw_ke (a := am 1) (e := .inl (G.2.2.1 1, 16, .inl (upd dk t (vp_nar .boolean 0)))) hm_9 (mw_ne hm (x := 8) (y := 1) (by decide) (by decide) (by decide))
        have hm_41 : pw_up (pw_up M (am 0) (.inr (2, [.int (nI n), .ref (am 1), .ref (am 2), .int (nI oc), .int td, .int 0, .long sL, .ref (am 3), .ref (am 4), .ref (am 5), .ref (am 6), .ref (am 7), .ref (am 8)]))) (am 1) (.inl (G.2.2.1 1, 16, .inl (upd dk t (vp_nar .boolean 0)))) (am 1) = some (.inl (G.2.2.1 1, 16, .inl (upd dk t (vp_nar .boolean 0)))) := pw_us
        refine pw_iload_n (pc := 59) hX dX2_light_59 0 rfl ?_
        exact pw_zret hX dX2_light_60 hrt rfl ⟨by decide, by decide⟩ (by rw [ix_nI htB]; exact ⟨Or.inl ⟨pc1_0 (fun h => h (ir_nI ht)), by rw [if_pos hc_12], by rw [show (if p1 = 0 then (1 : Int32) else 0) = vp_nar .boolean 0 from by rw [if_neg hc_32]; exact nar_0.symm]; exact (mw_dk (mw_ob hm (oc) (mw_oc hm) td 0 sL) _)⟩, (fm_up (fm_up fm_rf (x := 0) (by decide) _) (x := 1) (by decide) _)⟩)
      · refine pw_iconst (pc := 53) (v := 1) hX dX2_light_53 (by decide) ?_
        refine pw_goto (pc := 54) hX 58 dX2_light_54 (by decide) ?_
        refine pw_zast (pc := 58) (j := t) hX dX2_light_58 hm_2 (by omega) (by decide) ?_
        have hm_42 := pw_ke (a := am 1) (e := .inl (G.2.2.1 1, 16, .inl (upd dk t (vp_nar .boolean 1)))) hm_10 (mw_ne hm (x := 0) (y := 1) (by decide) (by decide) (by decide))
        have hm_43 := pw_ke (a := am 1) (e := .inl (G.2.2.1 1, 16, .inl (upd dk t (vp_nar .boolean 1)))) hm_3 (mw_ne hm (x := 2) (y := 1) (by decide) (by decide) (by decide))
        have hm_44 := pw_ke (a := am 1) (e := .inl (G.2.2.1 1, 16, .inl (upd dk t (vp_nar .boolean 1)))) hm_4 (mw_ne hm (x := 3) (y := 1) (by decide) (by decide) (by decide))
        have hm_45 := pw_ke (a := am 1) (e := .inl (G.2.2.1 1, 16, .inl (upd dk t (vp_nar .boolean 1)))) hm_5 (mw_ne hm (x := 4) (y := 1) (by decide) (by decide) (by decide))
        have hm_46 := pw_ke (a := am 1) (e := .inl (G.2.2.1 1, 16, .inl (upd dk t (vp_nar .boolean 1)))) hm_6 (mw_ne hm (x := 5) (y := 1) (by decide) (by decide) (by decide))
        have hm_47 := pw_ke (a := am 1) (e := .inl (G.2.2.1 1, 16, .inl (upd dk t (vp_nar .boolean 1)))) hm_7 (mw_ne hm (x := 6) (y := 1) (by decide) (by decide) (by decide))
        have hm_48 := pw_ke (a := am 1) (e := .inl (G.2.2.1 1, 16, .inl (upd dk t (vp_nar .boolean 1)))) hm_8 (mw_ne hm (x := 7) (y := 1) (by decide) (by decide) (by decide))
        have hm_49 := pw_ke (a := am 1) (e := .inl (G.2.2.1 1, 16, .inl (upd dk t (vp_nar .boolean 1)))) hm_9 (mw_ne hm (x := 8) (y := 1) (by decide) (by decide) (by decide))
        have hm_50 : pw_up (pw_up M (am 0) (.inr (2, [.int (nI n), .ref (am 1), .ref (am 2), .int (nI oc), .int td, .int 0, .long sL, .ref (am 3), .ref (am 4), .ref (am 5), .ref (am 6), .ref (am 7), .ref (am 8)]))) (am 1) (.inl (G.2.2.1 1, 16, .inl (upd dk t (vp_nar .boolean 1)))) (am 1) = some (.inl (G.2.2.1 1, 16, .inl (upd dk t (vp_nar .boolean 1)))) := pw_us
        refine pw_iload_n (pc := 59) hX dX2_light_59 0 rfl ?_
        exact pw_zret hX dX2_light_60 hrt rfl ⟨by decide, by decide⟩ (by rw [ix_nI htB]; exact ⟨Or.inl ⟨pc1_0 (fun h => h (ir_nI ht)), by rw [if_pos hc_12], by rw [show (if p1 = 0 then (1 : Int32) else 0) = vp_nar .boolean 1 from by rw [if_pos hc_32]; exact nar_1.symm]; exact (mw_dk (mw_ob hm (oc) (mw_oc hm) td 0 sL) _)⟩, (fm_up (fm_up fm_rf (x := 0) (by decide) _) (x := 1) (by decide) _)⟩)
  · refine pw_if_eq (pc := 9) hX 16 dX2_light_9 (by decide) (fun _ => ?_) (fun h => absurd h (by decide))
    refine pw_iconst (pc := 16) (v := 1) hX dX2_light_16 (by decide) ?_
    refine pw_put (pc := 17) (v := .int 1) hX dX2_light_17 hm.1 rfl inT_2 tyX2 tyX2_ok nmX2 5 (by decide) fl_RX2_43 rfl (tyX2_ok 5 (by decide)) rfl rfl (Nat.le_of_ble_eq_true rfl) [.int (nI n), .ref (am 1), .ref (am 2), .int (nI oc), .int td, .int 1, .long sL, .ref (am 3), .ref (am 4), .ref (am 5), .ref (am 6), .ref (am 7), .ref (am 8)] rfl ?_
    have hm_52 := pw_ke (a := am 0) (e := .inr (2, [.int (nI n), .ref (am 1), .ref (am 2), .int (nI oc), .int td, .int 1, .long sL, .ref (am 3), .ref (am 4), .ref (am 5), .ref (am 6), .ref (am 7), .ref (am 8)])) hm.2.1 (mw_ne hm (x := 1) (y := 0) (by decide) (by decide) (by decide))
    have hm_53 := pw_ke (a := am 0) (e := .inr (2, [.int (nI n), .ref (am 1), .ref (am 2), .int (nI oc), .int td, .int 1, .long sL, .ref (am 3), .ref (am 4), .ref (am 5), .ref (am 6), .ref (am 7), .ref (am 8)])) hm.2.2.1 (mw_ne hm (x := 2) (y := 0) (by decide) (by decide) (by decide))
    have hm_54 := pw_ke (a := am 0) (e := .inr (2, [.int (nI n), .ref (am 1), .ref (am 2), .int (nI oc), .int td, .int 1, .long sL, .ref (am 3), .ref (am 4), .ref (am 5), .ref (am 6), .ref (am 7), .ref (am 8)])) hm.2.2.2.1 (mw_ne hm (x := 3) (y := 0) (by decide) (by decide) (by decide))
    have hm_55 := pw_ke (a := am 0) (e := .inr (2, [.int (nI n), .ref (am 1), .ref (am 2), .int (nI oc), .int td, .int 1, .long sL, .ref (am 3), .ref (am 4), .ref (am 5), .ref (am 6), .ref (am 7), .ref (am 8)])) hm.2.2.2.2.1 (mw_ne hm (x := 4) (y := 0) (by decide) (by decide) (by decide))
    have hm_56 := pw_ke (a := am 0) (e := .inr (2, [.int (nI n), .ref (am 1), .ref (am 2), .int (nI oc), .int td, .int 1, .long sL, .ref (am 3), .ref (am 4), .ref (am 5), .ref (am 6), .ref (am 7), .ref (am 8)])) hm.2.2.2.2.2.1 (mw_ne hm (x := 5) (y := 0) (by decide) (by decide) (by decide))
    have hm_57 := pw_ke (a := am 0) (e := .inr (2, [.int (nI n), .ref (am 1), .ref (am 2), .int (nI oc), .int td, .int 1, .long sL, .ref (am 3), .ref (am 4), .ref (am 5), .ref (am 6), .ref (am 7), .ref (am 8)])) hm.2.2.2.2.2.2.1 (mw_ne hm (x := 6) (y := 0) (by decide) (by decide) (by decide))
    have hm_58 := pw_ke (a := am 0) (e := .inr (2, [.int (nI n), .ref (am 1), .ref (am 2), .int (nI oc), .int td, .int 1, .long sL, .ref (am 3), .ref (am 4), .ref (am 5), .ref (am 6), .ref (am 7), .ref (am 8)])) hm.2.2.2.2.2.2.2.1 (mw_ne hm (x := 7) (y := 0) (by decide) (by decide) (by decide))
    have hm_59 := pw_ke (a := am 0) (e := .inr (2, [.int (nI n), .ref (am 1), .ref (am 2), .int (nI oc), .int td, .int 1, .long sL, .ref (am 3), .ref (am 4), .ref (am 5), .ref (am 6), .ref (am 7), .ref (am 8)])) hm.2.2.2.2.2.2.2.2.1 (mw_ne hm (x := 8) (y := 0) (by decide) (by decide) (by decide))
    have hm_60 : pw_up M (am 0) (.inr (2, [.int (nI n), .ref (am 1), .ref (am 2), .int (nI oc), .int td, .int 1, .long sL, .ref (am 3), .ref (am 4), .ref (am 5), .ref (am 6), .ref (am 7), .ref (am 8)])) (am 0) = some (.inr (2, [.int (nI n), .ref (am 1), .ref (am 2), .int (nI oc), .int td, .int 1, .long sL, .ref (am 3), .ref (am 4), .ref (am 5), .ref (am 6), .ref (am 7), .ref (am 8)])) := pw_us
    refine pw_aload_n (pc := 20) hX dX2_light_20 0 rfl ?_
    refine pw_get (pc := 21) hX dX2_light_21 hm_60 rfl inT_2 5 (by decide) fl_RX2_43 rfl ?_
    refine pw_if_eq (pc := 24) hX 29 dX2_light_24 (by decide) (fun h => absurd h (by decide)) (fun _ => ?_)
    refine pw_iconst (pc := 27) (v := 0) hX dX2_light_27 (by decide) ?_
    exact pw_zret hX dX2_light_28 hrt rfl ⟨by decide, by decide⟩ ⟨Or.inr ⟨by rw [show cd_light n p0 = 1 from pc1_1 hno_p0]; decide, ⟨_, rfl⟩, by rw [show cd_light n p0 = 1 from pc1_1 hno_p0]; exact (mw_ob hm (oc) (mw_oc hm) td 1 sL)⟩, (fm_up fm_rf (x := 0) (by decide) _)⟩
set_option maxHeartbeats 4000000 in
set_option maxRecDepth 100000 in
theorem mt_reason (l : Launch) (hl : l.stackTraces = false) (G : pw_G) (M : pw_M) (am : Nat → Nat) (n oc : Nat) (td th : Int32) (sL : Int64) (dk to er os pl : Nat → Int32) (wa pr la : Nat → Nat → Int32) (hm : mw G am n oc td th sL dk to er os pl wa pr la M) (oo : Nat → Option Nat) (hO : ∀ c, c < n → ∀ j, oo c = some j ↔ j < oc ∧ pl j = nI c) (t g : Nat) (ht : t < n) (hg : g < 10) : pw_Met l yX2_reason cX2_reason 4 (some .int) 5 0 0 G [.ref (am 0), .int (nI t), .int (nI g)] M (fun v9 M9 => M = M9 ∧ (oo t = none ∧ v9 = some (.int (-1)) ∨ ∃ o, oo t = some o ∧ o < oc ∧ (v9 = some (.int 0) ∧ sc_r (dk t) (wa o g) (pr o g) (os o) (to g) = 1 ∨ v9 = some (.int (sc_r (dk t) (wa o g) (pr o g) (os o) (to g))) ∧ ¬ sc_r (dk t) (wa o g) (pr o g) (os o) (to g) = 1))) := by
  refine pw_of hl (by decide +kernel) (Nat.le_of_ble_eq_true rfl) [(0, .ref (am 0)), (1, .int (nI t)), (2, .int (nI g))] rfl ?_
  intro p9 e9 s9 m9 args9 below9 meth9 c9 hX hrt hmi
  have hn9 := mw_n hm
  have hoc := mw_oc hm
  refine pw_aload_n (pc := 0) hX dX2_reason_0 0 rfl ?_
  refine pw_iload_n (pc := 1) hX dX2_reason_1 1 rfl ?_
  refine pw_callV (pc := 2) (st := []) hX (mt_at l hl G M am n oc td th sL dk to er os pl wa pr la hm oo hO t ht) hm.1 rfl ok_X2_at lk_RX2_60 dX2_reason_2 rfl ⟨⟨by decide, by decide⟩, Nat.le_of_ble_eq_true rfl, Nat.le_of_ble_eq_true rfl, Nat.le_of_ble_eq_true rfl⟩ rfl (fun v9 M9 hp9 => ?_)
  obtain ⟨rfl, ⟨o, ho, ho9, rfl⟩ | ⟨ho, rfl⟩⟩ := hp9
  · have hoB : o < 2 ^ 31 := Nat.lt_of_lt_of_le ho9 (Nat.le_trans (mw_oc hm) (by decide))
    refine pw_istore_n (pc := 5) hX [(3, .int (nI o)), (0, .ref (am 0)), (1, .int (nI t)), (2, .int (nI g))] dX2_reason_5 (by decide) rfl ?_
    refine pw_iload_n (pc := 6) hX dX2_reason_6 0 rfl ?_
    refine pw_iconst (pc := 7) (v := (-1)) hX dX2_reason_7 (by decide) ?_
    refine pw_icmp_ne (pc := 8) hX 13 dX2_reason_8 (by decide) (fun hc_1 => ?_) (fun hc_1 => absurd hc_1 (nI_m1 hoB))
    refine pw_aload_n (pc := 13) hX dX2_reason_13 1 rfl ?_
    refine pw_get (pc := 14) hX dX2_reason_14 hm.1 rfl inT_2 1 (by decide) fl_RX2_7 rfl ?_
    refine pw_iload_n (pc := 17) hX dX2_reason_17 2 rfl ?_
    refine pw_zald (pc := 18) (j := t) hX dX2_reason_18 hm.2.1 (by omega) (by decide) ?_
    refine pw_if_eq (pc := 19) hX 25 dX2_reason_19 (by decide) (fun hc_2 => ?_) (fun hc_2 => ?_)
    · refine pw_aload_n (pc := 25) hX dX2_reason_25 1 rfl ?_
      refine pw_iload_n (pc := 26) hX dX2_reason_26 0 rfl ?_
      refine pw_iload_n (pc := 27) hX dX2_reason_27 3 rfl ?_
      refine pw_callV (pc := 28) (st := []) hX (mt_hasLine l hl G M am n oc td th sL dk to er os pl wa pr la hm o g ho9 hg) hm.1 rfl ok_X2_hasLine lk_RX2_46 dX2_reason_28 rfl ⟨⟨by decide, by decide⟩, Nat.le_of_ble_eq_true rfl, Nat.le_of_ble_eq_true rfl, Nat.le_of_ble_eq_true rfl⟩ rfl (fun v9 M9 hp9 => ?_)
      obtain ⟨rfl, rfl⟩ := hp9
      refine pw_if_ne (pc := 31) hX 37 dX2_reason_31 (by decide) (fun hc_3 => ?_) (fun hc_3 => ?_)
      · refine pw_aload_n (pc := 37) hX dX2_reason_37 1 rfl ?_
        refine pw_get (pc := 38) hX dX2_reason_38 hm.1 rfl inT_2 10 (by decide) fl_RX2_30 rfl ?_
        refine pw_bipush (pc := 41) (v := 10) hX dX2_reason_41 (by decide) ?_
        refine pw_iload_n (pc := 43) hX dX2_reason_43 0 rfl ?_
        refine pw_imul (pc := 44) (z := nI (10 * o)) hX dX2_reason_44 (pk_mul 10 _) ?_
        refine pw_iload_n (pc := 45) hX dX2_reason_45 3 rfl ?_
        refine pw_iadd (pc := 46) (z := nI (10 * o + g)) hX dX2_reason_46 (nI_add _ _) ?_
        refine pw_iald (pc := 47) (j := 10 * o + g) hX dX2_reason_47 hm.2.2.2.2.2.2.1 (by omega) (by decide) ?_
        refine pw_cg (vb := .int (pr o g)) (congrArg Value.int (fl_at pr o hg)) ?_
        refine pw_aload_n (pc := 48) hX dX2_reason_48 1 rfl ?_
        refine pw_get (pc := 49) hX dX2_reason_49 hm.1 rfl inT_2 9 (by decide) fl_RX2_27 rfl ?_
        refine pw_bipush (pc := 52) (v := 10) hX dX2_reason_52 (by decide) ?_
        refine pw_iload_n (pc := 54) hX dX2_reason_54 0 rfl ?_
        refine pw_imul (pc := 55) (z := nI (10 * o)) hX dX2_reason_55 (pk_mul 10 _) ?_
        refine pw_iload_n (pc := 56) hX dX2_reason_56 3 rfl ?_
        refine pw_iadd (pc := 57) (z := nI (10 * o + g)) hX dX2_reason_57 (nI_add _ _) ?_
        refine pw_iald (pc := 58) (j := 10 * o + g) hX dX2_reason_58 hm.2.2.2.2.2.1 (by omega) (by decide) ?_
        refine pw_cg (vb := .int (wa o g)) (congrArg Value.int (fl_at wa o hg)) ?_
        refine pw_icmp_eq (pc := 59) hX 72 dX2_reason_59 (by decide) (fun hc_4 => ?_) (fun hc_4 => ?_)
        · refine pw_bipush (pc := 72) (v := (-4)) hX dX2_reason_72 (by decide) ?_
          exact pw_iret hX dX2_reason_74 hrt ⟨by decide, by decide⟩ ⟨rfl, Or.inr ⟨o, ho, ho9, Or.inr ⟨congrArg some (congrArg Value.int (sc_4 hc_2 (pw_ite1 hc_3) (Or.inl (i_sub0.mpr hc_4))).symm), by rw [sc_4 hc_2 (pw_ite1 hc_3) (Or.inl (i_sub0.mpr hc_4))]; decide⟩⟩⟩
        · refine pw_aload_n (pc := 62) hX dX2_reason_62 1 rfl ?_
          refine pw_get (pc := 63) hX dX2_reason_63 hm.1 rfl inT_2 7 (by decide) fl_RX2_21 rfl ?_
          refine pw_iload_n (pc := 66) hX dX2_reason_66 0 rfl ?_
          refine pw_iald (pc := 67) (j := o) hX dX2_reason_67 hm.2.2.2.1 (by omega) (by decide) ?_
          refine pw_iconst (pc := 68) (v := 2) hX dX2_reason_68 (by decide) ?_
          refine pw_icmp_ne (pc := 69) hX 75 dX2_reason_69 (by decide) (fun hc_5 => ?_) (fun hc_5 => ?_)
          · refine pw_aload_n (pc := 75) hX dX2_reason_75 1 rfl ?_
            refine pw_get (pc := 76) hX dX2_reason_76 hm.1 rfl inT_2 2 (by decide) fl_RX2_13 rfl ?_
            refine pw_iload_n (pc := 79) hX dX2_reason_79 3 rfl ?_
            refine pw_iald (pc := 80) (j := g) hX dX2_reason_80 hm.2.2.1 hg (by decide) ?_
            refine pw_if_ne (pc := 81) hX 89 dX2_reason_81 (by decide) (fun hc_6 => ?_) (fun hc_6 => ?_)
            · refine pw_iconst (pc := 89) (v := 0) hX dX2_reason_89 (by decide) ?_
              exact pw_iret hX dX2_reason_90 hrt ⟨by decide, by decide⟩ ⟨rfl, Or.inr ⟨o, ho, ho9, Or.inl ⟨rfl, sc_1 hc_2 (pw_ite1 hc_3) (fun h => hc_4 (i_sub0.mp h)) hc_5 hc_6⟩⟩⟩
            · refine pw_bipush (pc := 84) (v := (-5)) hX dX2_reason_84 (by decide) ?_
              refine pw_goto (pc := 86) hX 90 dX2_reason_86 (by decide) ?_
              exact pw_iret hX dX2_reason_90 hrt ⟨by decide, by decide⟩ ⟨rfl, Or.inr ⟨o, ho, ho9, Or.inr ⟨congrArg some (congrArg Value.int (sc_5 hc_2 (pw_ite1 hc_3) (fun h => hc_4 (i_sub0.mp h)) hc_5 hc_6).symm), by rw [sc_5 hc_2 (pw_ite1 hc_3) (fun h => hc_4 (i_sub0.mp h)) hc_5 hc_6]; decide⟩⟩⟩
          · refine pw_bipush (pc := 72) (v := (-4)) hX dX2_reason_72 (by decide) ?_
            exact pw_iret hX dX2_reason_74 hrt ⟨by decide, by decide⟩ ⟨rfl, Or.inr ⟨o, ho, ho9, Or.inr ⟨congrArg some (congrArg Value.int (sc_4 hc_2 (pw_ite1 hc_3) (Or.inr hc_5)).symm), by rw [sc_4 hc_2 (pw_ite1 hc_3) (Or.inr hc_5)]; decide⟩⟩⟩
      · refine pw_bipush (pc := 34) (v := (-3)) hX dX2_reason_34 (by decide) ?_
        exact pw_iret hX dX2_reason_36 hrt ⟨by decide, by decide⟩ ⟨rfl, Or.inr ⟨o, ho, ho9, Or.inr ⟨congrArg some (congrArg Value.int (sc_3 hc_2 (pw_ite0 hc_3)).symm), by rw [sc_3 hc_2 (pw_ite0 hc_3)]; decide⟩⟩⟩
    · refine pw_bipush (pc := 22) (v := (-2)) hX dX2_reason_22 (by decide) ?_
      exact pw_iret hX dX2_reason_24 hrt ⟨by decide, by decide⟩ ⟨rfl, Or.inr ⟨o, ho, ho9, Or.inr ⟨congrArg some (congrArg Value.int (sc_2 hc_2).symm), by rw [sc_2 hc_2]; decide⟩⟩⟩
  · refine pw_istore_n (pc := 5) hX [(3, .int ((-1))), (0, .ref (am 0)), (1, .int (nI t)), (2, .int (nI g))] dX2_reason_5 (by decide) rfl ?_
    refine pw_iload_n (pc := 6) hX dX2_reason_6 0 rfl ?_
    refine pw_iconst (pc := 7) (v := (-1)) hX dX2_reason_7 (by decide) ?_
    refine pw_icmp_ne (pc := 8) hX 13 dX2_reason_8 (by decide) (fun h => absurd h (by decide)) (fun _ => ?_)
    refine pw_iconst (pc := 11) (v := (-1)) hX dX2_reason_11 (by decide) ?_
    exact pw_iret hX dX2_reason_12 hrt ⟨by decide, by decide⟩ ⟨rfl, Or.inl ⟨ho, rfl⟩⟩
set_option maxHeartbeats 4000000 in
set_option maxRecDepth 100000 in
theorem mp_scan (l : Launch) (hl : l.stackTraces = false) (G : pw_G) (M : pw_M) (am : Nat → Nat) (n oc : Nat) (td th : Int32) (sL : Int64) (dk to er os pl : Nat → Int32) (wa pr la : Nat → Nat → Int32) (hm : mw G am n oc td th sL dk to er os pl wa pr la M) (oo : Nat → Option Nat) (hO : ∀ c, c < n → ∀ j, oo c = some j ↔ j < oc ∧ pl j = nI c) (p0 p1 p2 : Int32) : pw_Met l yX2_scan cX2_scan 5 (some .int) 3 0 0 G [.ref (am 0), .int p0, .int p1, .int p2] M (fun v9 M9 => (cd_scan n p0 p1 p2 = 0 ∧ (oo (ix p0) = none ∧ v9 = some (.int (-1)) ∧ mw G am n oc td 0 sL dk to (upd er (ix p2) (er (ix p2) + 1)) os pl wa pr la M9 ∨ ∃ o, oo (ix p0) = some o ∧ o < oc ∧ (sc_r (dk (ix p0)) (wa o (ix p1)) (pr o (ix p1)) (os o) (to (ix p1)) = 1 ∧ v9 = some (.int 1) ∧ mw G am n oc td 0 sL dk (upd to (ix p1) (to (ix p1) - 1)) er os pl wa (va_up pr o (upd (pr o) (ix p1) (pr o (ix p1) + 1))) la M9 ∨ ¬ sc_r (dk (ix p0)) (wa o (ix p1)) (pr o (ix p1)) (os o) (to (ix p1)) = 1 ∧ v9 = some (.int (sc_r (dk (ix p0)) (wa o (ix p1)) (pr o (ix p1)) (os o) (to (ix p1)))) ∧ mw G am n oc td 0 sL dk to (upd er (ix p2) (er (ix p2) + 1)) os pl wa pr la M9)) ∨ ¬ cd_scan n p0 p1 p2 = 0 ∧ (∃ z, v9 = some (.int z)) ∧ mw G am n oc td (cd_scan n p0 p1 p2) sL dk to er os pl wa pr la M9) ∧ fm am 9 M M9) := by
  refine pw_of hl (by decide +kernel) (Nat.le_of_ble_eq_true rfl) [(0, .ref (am 0)), (1, .int p0), (2, .int p1), (3, .int p2)] rfl ?_
  intro p9 e9 s9 m9 args9 below9 meth9 c9 hX hrt hmi
  have hn9 := mw_n hm
  have hoc := mw_oc hm
  refine pw_aload_n (pc := 0) hX dX2_scan_0 0 rfl ?_
  refine pw_iload_n (pc := 1) hX dX2_scan_1 1 rfl ?_
  refine pw_aload_n (pc := 2) hX dX2_scan_2 0 rfl ?_
  refine pw_get (pc := 3) hX dX2_scan_3 hm.1 rfl inT_2 0 (by decide) fl_RX2_39 rfl ?_
  refine pw_callS (pc := 6) (st := [.ref (am 0)]) hX (mt_below l hl G M p0 n (Nat.lt_of_le_of_lt (mw_n hm) (by decide))) ok_X2_below lk_RX2_53 dX2_scan_6 rfl ⟨⟨by decide, by decide⟩, Nat.le_of_ble_eq_true rfl, Nat.le_of_ble_eq_true rfl, Nat.le_of_ble_eq_true rfl⟩ rfl (fun v9 M9 hp9 => ?_)
  obtain ⟨rfl, ⟨rfl, t, ht, rfl⟩ | ⟨rfl, hno_p0⟩⟩ := hp9
  · have htB : t < 2 ^ 31 := Nat.lt_of_lt_of_le ht (Nat.le_trans (mw_n hm) (by decide))
    refine pw_if_ne (pc := 9) hX 16 dX2_scan_9 (by decide) (fun _ => ?_) (fun h => absurd h (by decide))
    refine pw_iload_n (pc := 16) hX dX2_scan_16 2 rfl ?_
    refine pw_bipush (pc := 17) (v := 10) hX dX2_scan_17 (by decide) ?_
    refine pw_callS (pc := 19) (st := [.ref (am 0)]) hX (mt_below l hl G M p1 10 (by decide)) ok_X2_below lk_RX2_53 dX2_scan_19 rfl ⟨⟨by decide, by decide⟩, Nat.le_of_ble_eq_true rfl, Nat.le_of_ble_eq_true rfl, Nat.le_of_ble_eq_true rfl⟩ rfl (fun v9 M9 hp9 => ?_)
    obtain ⟨rfl, ⟨rfl, g, hg, rfl⟩ | ⟨rfl, hno_p1⟩⟩ := hp9
    · have hgB : g < 2 ^ 31 := Nat.lt_of_lt_of_le hg (by decide)
      refine pw_if_eq (pc := 22) hX 34 dX2_scan_22 (by decide) (fun h => absurd h (by decide)) (fun _ => ?_)
      refine pw_iload_n (pc := 25) hX dX2_scan_25 3 rfl ?_
      refine pw_bipush (pc := 26) (v := 8) hX dX2_scan_26 (by decide) ?_
      refine pw_callS (pc := 28) (st := [.ref (am 0)]) hX (mt_below l hl G M p2 8 (by decide)) ok_X2_below lk_RX2_53 dX2_scan_28 rfl ⟨⟨by decide, by decide⟩, Nat.le_of_ble_eq_true rfl, Nat.le_of_ble_eq_true rfl, Nat.le_of_ble_eq_true rfl⟩ rfl (fun v9 M9 hp9 => ?_)
      obtain ⟨rfl, ⟨rfl, q, hq, rfl⟩ | ⟨rfl, hno_p2⟩⟩ := hp9
      · have hqB : q < 2 ^ 31 := Nat.lt_of_lt_of_le hq (by decide)
        refine pw_if_ne (pc := 31) hX 38 dX2_scan_31 (by decide) (fun _ => ?_) (fun h => absurd h (by decide))
        refine pw_iconst (pc := 38) (v := 0) hX dX2_scan_38 (by decide) ?_
        refine pw_put (pc := 39) (v := .int 0) hX dX2_scan_39 hm.1 rfl inT_2 tyX2 tyX2_ok nmX2 5 (by decide) fl_RX2_43 rfl (tyX2_ok 5 (by decide)) rfl rfl (Nat.le_of_ble_eq_true rfl) [.int (nI n), .ref (am 1), .ref (am 2), .int (nI oc), .int td, .int 0, .long sL, .ref (am 3), .ref (am 4), .ref (am 5), .ref (am 6), .ref (am 7), .ref (am 8)] rfl ?_
        have hm_4 := pw_ke (a := am 0) (e := .inr (2, [.int (nI n), .ref (am 1), .ref (am 2), .int (nI oc), .int td, .int 0, .long sL, .ref (am 3), .ref (am 4), .ref (am 5), .ref (am 6), .ref (am 7), .ref (am 8)])) hm.2.1 (mw_ne hm (x := 1) (y := 0) (by decide) (by decide) (by decide))
        have hm_5 := pw_ke (a := am 0) (e := .inr (2, [.int (nI n), .ref (am 1), .ref (am 2), .int (nI oc), .int td, .int 0, .long sL, .ref (am 3), .ref (am 4), .ref (am 5), .ref (am 6), .ref (am 7), .ref (am 8)])) hm.2.2.1 (mw_ne hm (x := 2) (y := 0) (by decide) (by decide) (by decide))
        have hm_6 := pw_ke (a := am 0) (e := .inr (2, [.int (nI n), .ref (am 1), .ref (am 2), .int (nI oc), .int td, .int 0, .long sL, .ref (am 3), .ref (am 4), .ref (am 5), .ref (am 6), .ref (am 7), .ref (am 8)])) hm.2.2.2.1 (mw_ne hm (x := 3) (y := 0) (by decide) (by decide) (by decide))
        have hm_7 := pw_ke (a := am 0) (e := .inr (2, [.int (nI n), .ref (am 1), .ref (am 2), .int (nI oc), .int td, .int 0, .long sL, .ref (am 3), .ref (am 4), .ref (am 5), .ref (am 6), .ref (am 7), .ref (am 8)])) hm.2.2.2.2.1 (mw_ne hm (x := 4) (y := 0) (by decide) (by decide) (by decide))
        have hm_8 := pw_ke (a := am 0) (e := .inr (2, [.int (nI n), .ref (am 1), .ref (am 2), .int (nI oc), .int td, .int 0, .long sL, .ref (am 3), .ref (am 4), .ref (am 5), .ref (am 6), .ref (am 7), .ref (am 8)])) hm.2.2.2.2.2.1 (mw_ne hm (x := 5) (y := 0) (by decide) (by decide) (by decide))
        have hm_9 := pw_ke (a := am 0) (e := .inr (2, [.int (nI n), .ref (am 1), .ref (am 2), .int (nI oc), .int td, .int 0, .long sL, .ref (am 3), .ref (am 4), .ref (am 5), .ref (am 6), .ref (am 7), .ref (am 8)])) hm.2.2.2.2.2.2.1 (mw_ne hm (x := 6) (y := 0) (by decide) (by decide) (by decide))
        have hm_10 := pw_ke (a := am 0) (e := .inr (2, [.int (nI n), .ref (am 1), .ref (am 2), .int (nI oc), .int td, .int 0, .long sL, .ref (am 3), .ref (am 4), .ref (am 5), .ref (am 6), .ref (am 7), .ref (am 8)])) hm.2.2.2.2.2.2.2.1 (mw_ne hm (x := 7) (y := 0) (by decide) (by decide) (by decide))
        have hm_11 := pw_ke (a := am 0) (e := .inr (2, [.int (nI n), .ref (am 1), .ref (am 2), .int (nI oc), .int td, .int 0, .long sL, .ref (am 3), .ref (am 4), .ref (am 5), .ref (am 6), .ref (am 7), .ref (am 8)])) hm.2.2.2.2.2.2.2.2.1 (mw_ne hm (x := 8) (y := 0) (by decide) (by decide) (by decide))
        have hm_12 : pw_up M (am 0) (.inr (2, [.int (nI n), .ref (am 1), .ref (am 2), .int (nI oc), .int td, .int 0, .long sL, .ref (am 3), .ref (am 4), .ref (am 5), .ref (am 6), .ref (am 7), .ref (am 8)])) (am 0) = some (.inr (2, [.int (nI n), .ref (am 1), .ref (am 2), .int (nI oc), .int td, .int 0, .long sL, .ref (am 3), .ref (am 4), .ref (am 5), .ref (am 6), .ref (am 7), .ref (am 8)])) := pw_us
        refine pw_aload_n (pc := 42) hX dX2_scan_42 0 rfl ?_
        refine pw_get (pc := 43) hX dX2_scan_43 hm_12 rfl inT_2 5 (by decide) fl_RX2_43 rfl ?_
        refine pw_if_eq (pc := 46) hX 51 dX2_scan_46 (by decide) (fun _ => ?_) (fun h => absurd h (by decide))
        refine pw_aload_n (pc := 51) hX dX2_scan_51 0 rfl ?_
        refine pw_iload_n (pc := 52) hX dX2_scan_52 1 rfl ?_
        refine pw_iload_n (pc := 53) hX dX2_scan_53 2 rfl ?_
        refine pw_callV (pc := 54) (st := []) hX (mt_reason l hl G _ am _ _ _ _ _ _ _ _ _ _ _ _ _ (mw_ob hm (oc) (mw_oc hm) td 0 sL) oo hO t g ht hg) hm_12 rfl ok_X2_reason lk_RX2_63 dX2_scan_54 rfl ⟨⟨by decide, by decide⟩, Nat.le_of_ble_eq_true rfl, Nat.le_of_ble_eq_true rfl, Nat.le_of_ble_eq_true rfl⟩ rfl (fun v9 M9 hp9 => ?_)
        obtain ⟨rfl, ⟨ho, rfl⟩ | ⟨o, ho, ho9, ⟨rfl, hs⟩ | ⟨rfl, hs⟩⟩⟩ := hp9
        · refine pw_istore (pc := 57) hX [(4, .int ((-1))), (0, .ref (am 0)), (1, .int (nI t)), (2, .int (nI g)), (3, .int (nI q))] dX2_scan_57 (by decide) rfl ?_
          refine pw_iload (pc := 59) hX dX2_scan_59 0 rfl ?_
          refine pw_if_eq (pc := 61) hX 77 dX2_scan_61 (by decide) (fun h => absurd h (by decide)) (fun _ => ?_)
          refine pw_aload_n (pc := 64) hX dX2_scan_64 1 rfl ?_
          refine pw_get (pc := 65) hX dX2_scan_65 hm_12 rfl inT_2 12 (by decide) fl_RX2_36 rfl ?_
          refine pw_iload_n (pc := 68) hX dX2_scan_68 4 rfl ?_
          refine pw_dup2 (pc := 69) hX dX2_scan_69 rfl rfl ?_
          refine pw_iald (pc := 70) (j := q) hX dX2_scan_70 hm_11 hq (by decide) ?_
          refine pw_iconst (pc := 71) (v := 1) hX dX2_scan_71 (by decide) ?_
          refine pw_iadd (pc := 72) (z := (er q) + 1) hX dX2_scan_72 rfl ?_
          refine pw_iast (pc := 73) (j := q) hX dX2_scan_73 hm_11 hq (by decide) ?_
          have hm_15 := pw_ke (a := am 8) (e := .inl (G.2.2.1 0, 8, .inl (upd er q ((er q) + 1)))) hm_12 (mw_ne hm (x := 0) (y := 8) (by decide) (by decide) (by decide))
          have hm_16 := pw_ke (a := am 8) (e := .inl (G.2.2.1 0, 8, .inl (upd er q ((er q) + 1)))) hm_4 (mw_ne hm (x := 1) (y := 8) (by decide) (by decide) (by decide))
          have hm_17 := pw_ke (a := am 8) (e := .inl (G.2.2.1 0, 8, .inl (upd er q ((er q) + 1)))) hm_5 (mw_ne hm (x := 2) (y := 8) (by decide) (by decide) (by decide))
          have hm_18 := pw_ke (a := am 8) (e := .inl (G.2.2.1 0, 8, .inl (upd er q ((er q) + 1)))) hm_6 (mw_ne hm (x := 3) (y := 8) (by decide) (by decide) (by decide))
          have hm_19 := pw_ke (a := am 8) (e := .inl (G.2.2.1 0, 8, .inl (upd er q ((er q) + 1)))) hm_7 (mw_ne hm (x := 4) (y := 8) (by decide) (by decide) (by decide))
          have hm_20 := pw_ke (a := am 8) (e := .inl (G.2.2.1 0, 8, .inl (upd er q ((er q) + 1)))) hm_8 (mw_ne hm (x := 5) (y := 8) (by decide) (by decide) (by decide))
          have hm_21 := pw_ke (a := am 8) (e := .inl (G.2.2.1 0, 8, .inl (upd er q ((er q) + 1)))) hm_9 (mw_ne hm (x := 6) (y := 8) (by decide) (by decide) (by decide))
          have hm_22 := pw_ke (a := am 8) (e := .inl (G.2.2.1 0, 8, .inl (upd er q ((er q) + 1)))) hm_10 (mw_ne hm (x := 7) (y := 8) (by decide) (by decide) (by decide))
          have hm_23 : pw_up (pw_up M (am 0) (.inr (2, [.int (nI n), .ref (am 1), .ref (am 2), .int (nI oc), .int td, .int 0, .long sL, .ref (am 3), .ref (am 4), .ref (am 5), .ref (am 6), .ref (am 7), .ref (am 8)]))) (am 8) (.inl (G.2.2.1 0, 8, .inl (upd er q ((er q) + 1)))) (am 8) = some (.inl (G.2.2.1 0, 8, .inl (upd er q ((er q) + 1)))) := pw_us
          refine pw_iload (pc := 74) hX dX2_scan_74 0 rfl ?_
          exact pw_iret hX dX2_scan_76 hrt ⟨by decide, by decide⟩ (by rw [ix_nI htB, ix_nI hgB, ix_nI hqB]; exact ⟨Or.inl ⟨pc2_0 (fun h => h (ir_nI ht)) (fun h => h ⟨ir_nI hg, ir_nI hq⟩), Or.inl ⟨ho, rfl, (mw_er (mw_ob hm (oc) (mw_oc hm) td 0 sL) _)⟩⟩, (fm_up (fm_up fm_rf (x := 0) (by decide) _) (x := 8) (by decide) _)⟩)
        · have hoB : o < 2 ^ 31 := Nat.lt_of_lt_of_le ho9 (Nat.le_trans (mw_oc hm) (by decide))
          refine pw_istore (pc := 57) hX [(4, .int 0), (0, .ref (am 0)), (1, .int (nI t)), (2, .int (nI g)), (3, .int (nI q))] dX2_scan_57 (by decide) rfl ?_
          refine pw_iload (pc := 59) hX dX2_scan_59 0 rfl ?_
          refine pw_if_eq (pc := 61) hX 77 dX2_scan_61 (by decide) (fun _ => ?_) (fun h => absurd h (by decide))
          refine pw_aload_n (pc := 77) hX dX2_scan_77 1 rfl ?_
          refine pw_get (pc := 78) hX dX2_scan_78 hm_12 rfl inT_2 10 (by decide) fl_RX2_30 rfl ?_
          refine pw_bipush (pc := 81) (v := 10) hX dX2_scan_81 (by decide) ?_
          refine pw_aload_n (pc := 83) hX dX2_scan_83 1 rfl ?_
          refine pw_iload_n (pc := 84) hX dX2_scan_84 2 rfl ?_
          refine pw_callV (pc := 85) (st := [.int 10, .ref (am 6)]) hX (mt_at l hl G _ am _ _ _ _ _ _ _ _ _ _ _ _ _ (mw_ob hm (oc) (mw_oc hm) td 0 sL) oo hO t ht) hm_12 rfl ok_X2_at lk_RX2_60 dX2_scan_85 rfl ⟨⟨by decide, by decide⟩, Nat.le_of_ble_eq_true rfl, Nat.le_of_ble_eq_true rfl, Nat.le_of_ble_eq_true rfl⟩ rfl (fun v9 M9 hp9 => ?_)
          obtain ⟨rfl, ⟨o2, ho2, -, rfl⟩ | ⟨ho2, rfl⟩⟩ := hp9
          rotate_left
          · rw [ho] at ho2; cases ho2
          obtain rfl : o = o2 := Option.some.inj (ho.symm.trans ho2)
          refine pw_imul (pc := 88) (z := nI (10 * o)) hX dX2_scan_88 (pk_mul 10 _) ?_
          refine pw_iload_n (pc := 89) hX dX2_scan_89 3 rfl ?_
          refine pw_iadd (pc := 90) (z := nI (10 * o + g)) hX dX2_scan_90 (nI_add _ _) ?_
          refine pw_dup2 (pc := 91) hX dX2_scan_91 rfl rfl ?_
          refine pw_iald (pc := 92) (j := 10 * o + g) hX dX2_scan_92 hm_9 (by omega) (by decide) ?_
          refine pw_cg (vb := .int (pr o g)) (congrArg Value.int (fl_at pr o hg)) ?_
          refine pw_iconst (pc := 93) (v := 1) hX dX2_scan_93 (by decide) ?_
          refine pw_iadd (pc := 94) (z := (pr o g) + 1) hX dX2_scan_94 rfl ?_
          refine pw_iast (pc := 95) (j := 10 * o + g) hX dX2_scan_95 hm_9 (by omega) (by decide) ?_
          have hm_25 := pw_ke (a := am 6) (e := .inl (G.2.2.1 0, 200, .inl (upd (fl pr) (10 * o + g) ((pr o g) + 1)))) hm_12 (mw_ne hm (x := 0) (y := 6) (by decide) (by decide) (by decide))
          have hm_26 := pw_ke (a := am 6) (e := .inl (G.2.2.1 0, 200, .inl (upd (fl pr) (10 * o + g) ((pr o g) + 1)))) hm_4 (mw_ne hm (x := 1) (y := 6) (by decide) (by decide) (by decide))
          have hm_27 := pw_ke (a := am 6) (e := .inl (G.2.2.1 0, 200, .inl (upd (fl pr) (10 * o + g) ((pr o g) + 1)))) hm_5 (mw_ne hm (x := 2) (y := 6) (by decide) (by decide) (by decide))
          have hm_28 := pw_ke (a := am 6) (e := .inl (G.2.2.1 0, 200, .inl (upd (fl pr) (10 * o + g) ((pr o g) + 1)))) hm_6 (mw_ne hm (x := 3) (y := 6) (by decide) (by decide) (by decide))
          have hm_29 := pw_ke (a := am 6) (e := .inl (G.2.2.1 0, 200, .inl (upd (fl pr) (10 * o + g) ((pr o g) + 1)))) hm_7 (mw_ne hm (x := 4) (y := 6) (by decide) (by decide) (by decide))
          have hm_30 := pw_ke (a := am 6) (e := .inl (G.2.2.1 0, 200, .inl (upd (fl pr) (10 * o + g) ((pr o g) + 1)))) hm_8 (mw_ne hm (x := 5) (y := 6) (by decide) (by decide) (by decide))
          have hm_31 := pw_ke (a := am 6) (e := .inl (G.2.2.1 0, 200, .inl (upd (fl pr) (10 * o + g) ((pr o g) + 1)))) hm_10 (mw_ne hm (x := 7) (y := 6) (by decide) (by decide) (by decide))
          have hm_32 := pw_ke (a := am 6) (e := .inl (G.2.2.1 0, 200, .inl (upd (fl pr) (10 * o + g) ((pr o g) + 1)))) hm_11 (mw_ne hm (x := 8) (y := 6) (by decide) (by decide) (by decide))
          have hm_33 : pw_up (pw_up M (am 0) (.inr (2, [.int (nI n), .ref (am 1), .ref (am 2), .int (nI oc), .int td, .int 0, .long sL, .ref (am 3), .ref (am 4), .ref (am 5), .ref (am 6), .ref (am 7), .ref (am 8)]))) (am 6) (.inl (G.2.2.1 0, 200, .inl (upd (fl pr) (10 * o + g) ((pr o g) + 1)))) (am 6) = some (.inl (G.2.2.1 0, 200, .inl (upd (fl pr) (10 * o + g) ((pr o g) + 1)))) := pw_us
          refine pw_aload_n (pc := 96) hX dX2_scan_96 1 rfl ?_
          refine pw_get (pc := 97) hX dX2_scan_97 hm_25 rfl inT_2 2 (by decide) fl_RX2_13 rfl ?_
          refine pw_iload_n (pc := 100) hX dX2_scan_100 3 rfl ?_
          refine pw_dup2 (pc := 101) hX dX2_scan_101 rfl rfl ?_
          refine pw_iald (pc := 102) (j := g) hX dX2_scan_102 hm_27 hg (by decide) ?_
          refine pw_iconst (pc := 103) (v := 1) hX dX2_scan_103 (by decide) ?_
          refine pw_isub (pc := 104) (z := (to g) - 1) hX dX2_scan_104 rfl ?_
          refine pw_iast (pc := 105) (j := g) hX dX2_scan_105 hm_27 hg (by decide) ?_
          have hm_34 := pw_ke (a := am 2) (e := .inl (G.2.2.1 0, 10, .inl (upd to g ((to g) - 1)))) hm_25 (mw_ne hm (x := 0) (y := 2) (by decide) (by decide) (by decide))
          have hm_35 := pw_ke (a := am 2) (e := .inl (G.2.2.1 0, 10, .inl (upd to g ((to g) - 1)))) hm_26 (mw_ne hm (x := 1) (y := 2) (by decide) (by decide) (by decide))
          have hm_36 := pw_ke (a := am 2) (e := .inl (G.2.2.1 0, 10, .inl (upd to g ((to g) - 1)))) hm_28 (mw_ne hm (x := 3) (y := 2) (by decide) (by decide) (by decide))
          have hm_37 := pw_ke (a := am 2) (e := .inl (G.2.2.1 0, 10, .inl (upd to g ((to g) - 1)))) hm_29 (mw_ne hm (x := 4) (y := 2) (by decide) (by decide) (by decide))
          have hm_38 := pw_ke (a := am 2) (e := .inl (G.2.2.1 0, 10, .inl (upd to g ((to g) - 1)))) hm_30 (mw_ne hm (x := 5) (y := 2) (by decide) (by decide) (by decide))
          have hm_39 := pw_ke (a := am 2) (e := .inl (G.2.2.1 0, 10, .inl (upd to g ((to g) - 1)))) hm_33 (mw_ne hm (x := 6) (y := 2) (by decide) (by decide) (by decide))
          have hm_40 := pw_ke (a := am 2) (e := .inl (G.2.2.1 0, 10, .inl (upd to g ((to g) - 1)))) hm_31 (mw_ne hm (x := 7) (y := 2) (by decide) (by decide) (by decide))
          have hm_41 := pw_ke (a := am 2) (e := .inl (G.2.2.1 0, 10, .inl (upd to g ((to g) - 1)))) hm_32 (mw_ne hm (x := 8) (y := 2) (by decide) (by decide) (by decide))
          have hm_42 : pw_up (pw_up (pw_up M (am 0) (.inr (2, [.int (nI n), .ref (am 1), .ref (am 2), .int (nI oc), .int td, .int 0, .long sL, .ref (am 3), .ref (am 4), .ref (am 5), .ref (am 6), .ref (am 7), .ref (am 8)]))) (am 6) (.inl (G.2.2.1 0, 200, .inl (upd (fl pr) (10 * o + g) ((pr o g) + 1))))) (am 2) (.inl (G.2.2.1 0, 10, .inl (upd to g ((to g) - 1)))) (am 2) = some (.inl (G.2.2.1 0, 10, .inl (upd to g ((to g) - 1)))) := pw_us
          refine pw_iconst (pc := 106) (v := 1) hX dX2_scan_106 (by decide) ?_
          exact pw_iret hX dX2_scan_107 hrt ⟨by decide, by decide⟩ (by rw [ix_nI htB, ix_nI hgB, ix_nI hqB]; exact ⟨Or.inl ⟨pc2_0 (fun h => h (ir_nI ht)) (fun h => h ⟨ir_nI hg, ir_nI hq⟩), Or.inr ⟨o, ho, ho9, Or.inl ⟨hs, rfl, (mw_to (mw_pr (mw_ob hm (oc) (mw_oc hm) td 0 sL) o g hg _) _)⟩⟩⟩, (fm_up (fm_up (fm_up fm_rf (x := 0) (by decide) _) (x := 6) (by decide) _) (x := 2) (by decide) _)⟩)
        · refine pw_istore (pc := 57) hX [(4, .int (sc_r (dk t) (wa o g) (pr o g) (os o) (to g))), (0, .ref (am 0)), (1, .int (nI t)), (2, .int (nI g)), (3, .int (nI q))] dX2_scan_57 (by decide) rfl ?_
          refine pw_iload (pc := 59) hX dX2_scan_59 0 rfl ?_
          refine pw_if_eq (pc := 61) hX 77 dX2_scan_61 (by decide) (fun hc_43 => absurd hc_43 sc_ne) (fun hc_43 => ?_)
          refine pw_aload_n (pc := 64) hX dX2_scan_64 1 rfl ?_
          refine pw_get (pc := 65) hX dX2_scan_65 hm_12 rfl inT_2 12 (by decide) fl_RX2_36 rfl ?_
          refine pw_iload_n (pc := 68) hX dX2_scan_68 4 rfl ?_
          refine pw_dup2 (pc := 69) hX dX2_scan_69 rfl rfl ?_
          refine pw_iald (pc := 70) (j := q) hX dX2_scan_70 hm_11 hq (by decide) ?_
          refine pw_iconst (pc := 71) (v := 1) hX dX2_scan_71 (by decide) ?_
          refine pw_iadd (pc := 72) (z := (er q) + 1) hX dX2_scan_72 rfl ?_
          refine pw_iast (pc := 73) (j := q) hX dX2_scan_73 hm_11 hq (by decide) ?_
          have hm_44 := pw_ke (a := am 8) (e := .inl (G.2.2.1 0, 8, .inl (upd er q ((er q) + 1)))) hm_12 (mw_ne hm (x := 0) (y := 8) (by decide) (by decide) (by decide))
          have hm_45 := pw_ke (a := am 8) (e := .inl (G.2.2.1 0, 8, .inl (upd er q ((er q) + 1)))) hm_4 (mw_ne hm (x := 1) (y := 8) (by decide) (by decide) (by decide))
          have hm_46 := pw_ke (a := am 8) (e := .inl (G.2.2.1 0, 8, .inl (upd er q ((er q) + 1)))) hm_5 (mw_ne hm (x := 2) (y := 8) (by decide) (by decide) (by decide))
          have hm_47 := pw_ke (a := am 8) (e := .inl (G.2.2.1 0, 8, .inl (upd er q ((er q) + 1)))) hm_6 (mw_ne hm (x := 3) (y := 8) (by decide) (by decide) (by decide))
          have hm_48 := pw_ke (a := am 8) (e := .inl (G.2.2.1 0, 8, .inl (upd er q ((er q) + 1)))) hm_7 (mw_ne hm (x := 4) (y := 8) (by decide) (by decide) (by decide))
          have hm_49 := pw_ke (a := am 8) (e := .inl (G.2.2.1 0, 8, .inl (upd er q ((er q) + 1)))) hm_8 (mw_ne hm (x := 5) (y := 8) (by decide) (by decide) (by decide))
          have hm_50 := pw_ke (a := am 8) (e := .inl (G.2.2.1 0, 8, .inl (upd er q ((er q) + 1)))) hm_9 (mw_ne hm (x := 6) (y := 8) (by decide) (by decide) (by decide))
          have hm_51 := pw_ke (a := am 8) (e := .inl (G.2.2.1 0, 8, .inl (upd er q ((er q) + 1)))) hm_10 (mw_ne hm (x := 7) (y := 8) (by decide) (by decide) (by decide))
          have hm_52 : pw_up (pw_up M (am 0) (.inr (2, [.int (nI n), .ref (am 1), .ref (am 2), .int (nI oc), .int td, .int 0, .long sL, .ref (am 3), .ref (am 4), .ref (am 5), .ref (am 6), .ref (am 7), .ref (am 8)]))) (am 8) (.inl (G.2.2.1 0, 8, .inl (upd er q ((er q) + 1)))) (am 8) = some (.inl (G.2.2.1 0, 8, .inl (upd er q ((er q) + 1)))) := pw_us
          refine pw_iload (pc := 74) hX dX2_scan_74 0 rfl ?_
          exact pw_iret hX dX2_scan_76 hrt ⟨by decide, by decide⟩ (by rw [ix_nI htB, ix_nI hgB, ix_nI hqB]; exact ⟨Or.inl ⟨pc2_0 (fun h => h (ir_nI ht)) (fun h => h ⟨ir_nI hg, ir_nI hq⟩), Or.inr ⟨o, ho, ho9, Or.inr ⟨hs, rfl, (mw_er (mw_ob hm (oc) (mw_oc hm) td 0 sL) _)⟩⟩⟩, (fm_up (fm_up fm_rf (x := 0) (by decide) _) (x := 8) (by decide) _)⟩)
      · refine pw_if_ne (pc := 31) hX 38 dX2_scan_31 (by decide) (fun h => absurd h (by decide)) (fun _ => ?_)
        refine pw_iconst (pc := 34) (v := 2) hX dX2_scan_34 (by decide) ?_
        refine pw_goto (pc := 35) hX 39 dX2_scan_35 (by decide) ?_
        refine pw_put (pc := 39) (v := .int 2) hX dX2_scan_39 hm.1 rfl inT_2 tyX2 tyX2_ok nmX2 5 (by decide) fl_RX2_43 rfl (tyX2_ok 5 (by decide)) rfl rfl (Nat.le_of_ble_eq_true rfl) [.int (nI n), .ref (am 1), .ref (am 2), .int (nI oc), .int td, .int 2, .long sL, .ref (am 3), .ref (am 4), .ref (am 5), .ref (am 6), .ref (am 7), .ref (am 8)] rfl ?_
        have hm_54 := pw_ke (a := am 0) (e := .inr (2, [.int (nI n), .ref (am 1), .ref (am 2), .int (nI oc), .int td, .int 2, .long sL, .ref (am 3), .ref (am 4), .ref (am 5), .ref (am 6), .ref (am 7), .ref (am 8)])) hm.2.1 (mw_ne hm (x := 1) (y := 0) (by decide) (by decide) (by decide))
        have hm_55 := pw_ke (a := am 0) (e := .inr (2, [.int (nI n), .ref (am 1), .ref (am 2), .int (nI oc), .int td, .int 2, .long sL, .ref (am 3), .ref (am 4), .ref (am 5), .ref (am 6), .ref (am 7), .ref (am 8)])) hm.2.2.1 (mw_ne hm (x := 2) (y := 0) (by decide) (by decide) (by decide))
        have hm_56 := pw_ke (a := am 0) (e := .inr (2, [.int (nI n), .ref (am 1), .ref (am 2), .int (nI oc), .int td, .int 2, .long sL, .ref (am 3), .ref (am 4), .ref (am 5), .ref (am 6), .ref (am 7), .ref (am 8)])) hm.2.2.2.1 (mw_ne hm (x := 3) (y := 0) (by decide) (by decide) (by decide))
        have hm_57 := pw_ke (a := am 0) (e := .inr (2, [.int (nI n), .ref (am 1), .ref (am 2), .int (nI oc), .int td, .int 2, .long sL, .ref (am 3), .ref (am 4), .ref (am 5), .ref (am 6), .ref (am 7), .ref (am 8)])) hm.2.2.2.2.1 (mw_ne hm (x := 4) (y := 0) (by decide) (by decide) (by decide))
        have hm_58 := pw_ke (a := am 0) (e := .inr (2, [.int (nI n), .ref (am 1), .ref (am 2), .int (nI oc), .int td, .int 2, .long sL, .ref (am 3), .ref (am 4), .ref (am 5), .ref (am 6), .ref (am 7), .ref (am 8)])) hm.2.2.2.2.2.1 (mw_ne hm (x := 5) (y := 0) (by decide) (by decide) (by decide))
        have hm_59 := pw_ke (a := am 0) (e := .inr (2, [.int (nI n), .ref (am 1), .ref (am 2), .int (nI oc), .int td, .int 2, .long sL, .ref (am 3), .ref (am 4), .ref (am 5), .ref (am 6), .ref (am 7), .ref (am 8)])) hm.2.2.2.2.2.2.1 (mw_ne hm (x := 6) (y := 0) (by decide) (by decide) (by decide))
        have hm_60 := pw_ke (a := am 0) (e := .inr (2, [.int (nI n), .ref (am 1), .ref (am 2), .int (nI oc), .int td, .int 2, .long sL, .ref (am 3), .ref (am 4), .ref (am 5), .ref (am 6), .ref (am 7), .ref (am 8)])) hm.2.2.2.2.2.2.2.1 (mw_ne hm (x := 7) (y := 0) (by decide) (by decide) (by decide))
        have hm_61 := pw_ke (a := am 0) (e := .inr (2, [.int (nI n), .ref (am 1), .ref (am 2), .int (nI oc), .int td, .int 2, .long sL, .ref (am 3), .ref (am 4), .ref (am 5), .ref (am 6), .ref (am 7), .ref (am 8)])) hm.2.2.2.2.2.2.2.2.1 (mw_ne hm (x := 8) (y := 0) (by decide) (by decide) (by decide))
        have hm_62 : pw_up M (am 0) (.inr (2, [.int (nI n), .ref (am 1), .ref (am 2), .int (nI oc), .int td, .int 2, .long sL, .ref (am 3), .ref (am 4), .ref (am 5), .ref (am 6), .ref (am 7), .ref (am 8)])) (am 0) = some (.inr (2, [.int (nI n), .ref (am 1), .ref (am 2), .int (nI oc), .int td, .int 2, .long sL, .ref (am 3), .ref (am 4), .ref (am 5), .ref (am 6), .ref (am 7), .ref (am 8)])) := pw_us
        refine pw_aload_n (pc := 42) hX dX2_scan_42 0 rfl ?_
        refine pw_get (pc := 43) hX dX2_scan_43 hm_62 rfl inT_2 5 (by decide) fl_RX2_43 rfl ?_
        refine pw_if_eq (pc := 46) hX 51 dX2_scan_46 (by decide) (fun h => absurd h (by decide)) (fun _ => ?_)
        refine pw_iconst (pc := 49) (v := 0) hX dX2_scan_49 (by decide) ?_
        exact pw_iret hX dX2_scan_50 hrt ⟨by decide, by decide⟩ ⟨Or.inr ⟨by rw [show cd_scan n (nI t) (nI g) p2 = 2 from pc2_2 (fun h => h (ir_nI ht)) (fun h => hno_p2 h.2)]; decide, ⟨_, rfl⟩, by rw [show cd_scan n (nI t) (nI g) p2 = 2 from pc2_2 (fun h => h (ir_nI ht)) (fun h => hno_p2 h.2)]; exact (mw_ob hm (oc) (mw_oc hm) td 2 sL)⟩, (fm_up fm_rf (x := 0) (by decide) _)⟩
    · refine pw_if_eq (pc := 22) hX 34 dX2_scan_22 (by decide) (fun _ => ?_) (fun h => absurd h (by decide))
      refine pw_iconst (pc := 34) (v := 2) hX dX2_scan_34 (by decide) ?_
      refine pw_goto (pc := 35) hX 39 dX2_scan_35 (by decide) ?_
      refine pw_put (pc := 39) (v := .int 2) hX dX2_scan_39 hm.1 rfl inT_2 tyX2 tyX2_ok nmX2 5 (by decide) fl_RX2_43 rfl (tyX2_ok 5 (by decide)) rfl rfl (Nat.le_of_ble_eq_true rfl) [.int (nI n), .ref (am 1), .ref (am 2), .int (nI oc), .int td, .int 2, .long sL, .ref (am 3), .ref (am 4), .ref (am 5), .ref (am 6), .ref (am 7), .ref (am 8)] rfl ?_
      have hm_65 := pw_ke (a := am 0) (e := .inr (2, [.int (nI n), .ref (am 1), .ref (am 2), .int (nI oc), .int td, .int 2, .long sL, .ref (am 3), .ref (am 4), .ref (am 5), .ref (am 6), .ref (am 7), .ref (am 8)])) hm.2.1 (mw_ne hm (x := 1) (y := 0) (by decide) (by decide) (by decide))
      have hm_66 := pw_ke (a := am 0) (e := .inr (2, [.int (nI n), .ref (am 1), .ref (am 2), .int (nI oc), .int td, .int 2, .long sL, .ref (am 3), .ref (am 4), .ref (am 5), .ref (am 6), .ref (am 7), .ref (am 8)])) hm.2.2.1 (mw_ne hm (x := 2) (y := 0) (by decide) (by decide) (by decide))
      have hm_67 := pw_ke (a := am 0) (e := .inr (2, [.int (nI n), .ref (am 1), .ref (am 2), .int (nI oc), .int td, .int 2, .long sL, .ref (am 3), .ref (am 4), .ref (am 5), .ref (am 6), .ref (am 7), .ref (am 8)])) hm.2.2.2.1 (mw_ne hm (x := 3) (y := 0) (by decide) (by decide) (by decide))
      have hm_68 := pw_ke (a := am 0) (e := .inr (2, [.int (nI n), .ref (am 1), .ref (am 2), .int (nI oc), .int td, .int 2, .long sL, .ref (am 3), .ref (am 4), .ref (am 5), .ref (am 6), .ref (am 7), .ref (am 8)])) hm.2.2.2.2.1 (mw_ne hm (x := 4) (y := 0) (by decide) (by decide) (by decide))
      have hm_69 := pw_ke (a := am 0) (e := .inr (2, [.int (nI n), .ref (am 1), .ref (am 2), .int (nI oc), .int td, .int 2, .long sL, .ref (am 3), .ref (am 4), .ref (am 5), .ref (am 6), .ref (am 7), .ref (am 8)])) hm.2.2.2.2.2.1 (mw_ne hm (x := 5) (y := 0) (by decide) (by decide) (by decide))
      have hm_70 := pw_ke (a := am 0) (e := .inr (2, [.int (nI n), .ref (am 1), .ref (am 2), .int (nI oc), .int td, .int 2, .long sL, .ref (am 3), .ref (am 4), .ref (am 5), .ref (am 6), .ref (am 7), .ref (am 8)])) hm.2.2.2.2.2.2.1 (mw_ne hm (x := 6) (y := 0) (by decide) (by decide) (by decide))
      have hm_71 := pw_ke (a := am 0) (e := .inr (2, [.int (nI n), .ref (am 1), .ref (am 2), .int (nI oc), .int td, .int 2, .long sL, .ref (am 3), .ref (am 4), .ref (am 5), .ref (am 6), .ref (am 7), .ref (am 8)])) hm.2.2.2.2.2.2.2.1 (mw_ne hm (x := 7) (y := 0) (by decide) (by decide) (by decide))
      have hm_72 := pw_ke (a := am 0) (e := .inr (2, [.int (nI n), .ref (am 1), .ref (am 2), .int (nI oc), .int td, .int 2, .long sL, .ref (am 3), .ref (am 4), .ref (am 5), .ref (am 6), .ref (am 7), .ref (am 8)])) hm.2.2.2.2.2.2.2.2.1 (mw_ne hm (x := 8) (y := 0) (by decide) (by decide) (by decide))
      have hm_73 : pw_up M (am 0) (.inr (2, [.int (nI n), .ref (am 1), .ref (am 2), .int (nI oc), .int td, .int 2, .long sL, .ref (am 3), .ref (am 4), .ref (am 5), .ref (am 6), .ref (am 7), .ref (am 8)])) (am 0) = some (.inr (2, [.int (nI n), .ref (am 1), .ref (am 2), .int (nI oc), .int td, .int 2, .long sL, .ref (am 3), .ref (am 4), .ref (am 5), .ref (am 6), .ref (am 7), .ref (am 8)])) := pw_us
      refine pw_aload_n (pc := 42) hX dX2_scan_42 0 rfl ?_
      refine pw_get (pc := 43) hX dX2_scan_43 hm_73 rfl inT_2 5 (by decide) fl_RX2_43 rfl ?_
      refine pw_if_eq (pc := 46) hX 51 dX2_scan_46 (by decide) (fun h => absurd h (by decide)) (fun _ => ?_)
      refine pw_iconst (pc := 49) (v := 0) hX dX2_scan_49 (by decide) ?_
      exact pw_iret hX dX2_scan_50 hrt ⟨by decide, by decide⟩ ⟨Or.inr ⟨by rw [show cd_scan n (nI t) p1 p2 = 2 from pc2_2 (fun h => h (ir_nI ht)) (fun h => hno_p1 h.1)]; decide, ⟨_, rfl⟩, by rw [show cd_scan n (nI t) p1 p2 = 2 from pc2_2 (fun h => h (ir_nI ht)) (fun h => hno_p1 h.1)]; exact (mw_ob hm (oc) (mw_oc hm) td 2 sL)⟩, (fm_up fm_rf (x := 0) (by decide) _)⟩
  · refine pw_if_ne (pc := 9) hX 16 dX2_scan_9 (by decide) (fun h => absurd h (by decide)) (fun _ => ?_)
    refine pw_iconst (pc := 12) (v := 1) hX dX2_scan_12 (by decide) ?_
    refine pw_goto (pc := 13) hX 39 dX2_scan_13 (by decide) ?_
    refine pw_put (pc := 39) (v := .int 1) hX dX2_scan_39 hm.1 rfl inT_2 tyX2 tyX2_ok nmX2 5 (by decide) fl_RX2_43 rfl (tyX2_ok 5 (by decide)) rfl rfl (Nat.le_of_ble_eq_true rfl) [.int (nI n), .ref (am 1), .ref (am 2), .int (nI oc), .int td, .int 1, .long sL, .ref (am 3), .ref (am 4), .ref (am 5), .ref (am 6), .ref (am 7), .ref (am 8)] rfl ?_
    have hm_76 := pw_ke (a := am 0) (e := .inr (2, [.int (nI n), .ref (am 1), .ref (am 2), .int (nI oc), .int td, .int 1, .long sL, .ref (am 3), .ref (am 4), .ref (am 5), .ref (am 6), .ref (am 7), .ref (am 8)])) hm.2.1 (mw_ne hm (x := 1) (y := 0) (by decide) (by decide) (by decide))
    have hm_77 := pw_ke (a := am 0) (e := .inr (2, [.int (nI n), .ref (am 1), .ref (am 2), .int (nI oc), .int td, .int 1, .long sL, .ref (am 3), .ref (am 4), .ref (am 5), .ref (am 6), .ref (am 7), .ref (am 8)])) hm.2.2.1 (mw_ne hm (x := 2) (y := 0) (by decide) (by decide) (by decide))
    have hm_78 := pw_ke (a := am 0) (e := .inr (2, [.int (nI n), .ref (am 1), .ref (am 2), .int (nI oc), .int td, .int 1, .long sL, .ref (am 3), .ref (am 4), .ref (am 5), .ref (am 6), .ref (am 7), .ref (am 8)])) hm.2.2.2.1 (mw_ne hm (x := 3) (y := 0) (by decide) (by decide) (by decide))
    have hm_79 := pw_ke (a := am 0) (e := .inr (2, [.int (nI n), .ref (am 1), .ref (am 2), .int (nI oc), .int td, .int 1, .long sL, .ref (am 3), .ref (am 4), .ref (am 5), .ref (am 6), .ref (am 7), .ref (am 8)])) hm.2.2.2.2.1 (mw_ne hm (x := 4) (y := 0) (by decide) (by decide) (by decide))
    have hm_80 := pw_ke (a := am 0) (e := .inr (2, [.int (nI n), .ref (am 1), .ref (am 2), .int (nI oc), .int td, .int 1, .long sL, .ref (am 3), .ref (am 4), .ref (am 5), .ref (am 6), .ref (am 7), .ref (am 8)])) hm.2.2.2.2.2.1 (mw_ne hm (x := 5) (y := 0) (by decide) (by decide) (by decide))
    have hm_81 := pw_ke (a := am 0) (e := .inr (2, [.int (nI n), .ref (am 1), .ref (am 2), .int (nI oc), .int td, .int 1, .long sL, .ref (am 3), .ref (am 4), .ref (am 5), .ref (am 6), .ref (am 7), .ref (am 8)])) hm.2.2.2.2.2.2.1 (mw_ne hm (x := 6) (y := 0) (by decide) (by decide) (by decide))
    have hm_82 := pw_ke (a := am 0) (e := .inr (2, [.int (nI n), .ref (am 1), .ref (am 2), .int (nI oc), .int td, .int 1, .long sL, .ref (am 3), .ref (am 4), .ref (am 5), .ref (am 6), .ref (am 7), .ref (am 8)])) hm.2.2.2.2.2.2.2.1 (mw_ne hm (x := 7) (y := 0) (by decide) (by decide) (by decide))
    have hm_83 := pw_ke (a := am 0) (e := .inr (2, [.int (nI n), .ref (am 1), .ref (am 2), .int (nI oc), .int td, .int 1, .long sL, .ref (am 3), .ref (am 4), .ref (am 5), .ref (am 6), .ref (am 7), .ref (am 8)])) hm.2.2.2.2.2.2.2.2.1 (mw_ne hm (x := 8) (y := 0) (by decide) (by decide) (by decide))
    have hm_84 : pw_up M (am 0) (.inr (2, [.int (nI n), .ref (am 1), .ref (am 2), .int (nI oc), .int td, .int 1, .long sL, .ref (am 3), .ref (am 4), .ref (am 5), .ref (am 6), .ref (am 7), .ref (am 8)])) (am 0) = some (.inr (2, [.int (nI n), .ref (am 1), .ref (am 2), .int (nI oc), .int td, .int 1, .long sL, .ref (am 3), .ref (am 4), .ref (am 5), .ref (am 6), .ref (am 7), .ref (am 8)])) := pw_us
    refine pw_aload_n (pc := 42) hX dX2_scan_42 0 rfl ?_
    refine pw_get (pc := 43) hX dX2_scan_43 hm_84 rfl inT_2 5 (by decide) fl_RX2_43 rfl ?_
    refine pw_if_eq (pc := 46) hX 51 dX2_scan_46 (by decide) (fun h => absurd h (by decide)) (fun _ => ?_)
    refine pw_iconst (pc := 49) (v := 0) hX dX2_scan_49 (by decide) ?_
    exact pw_iret hX dX2_scan_50 hrt ⟨by decide, by decide⟩ ⟨Or.inr ⟨by rw [show cd_scan n p0 p1 p2 = 1 from pc_t hno_p0]; decide, ⟨_, rfl⟩, by rw [show cd_scan n p0 p1 p2 = 1 from pc_t hno_p0]; exact (mw_ob hm (oc) (mw_oc hm) td 1 sL)⟩, (fm_up fm_rf (x := 0) (by decide) _)⟩
set_option maxHeartbeats 4000000 in
set_option maxRecDepth 100000 in
theorem mp_undo (l : Launch) (hl : l.stackTraces = false) (G : pw_G) (M : pw_M) (am : Nat → Nat) (n oc : Nat) (td th : Int32) (sL : Int64) (dk to er os pl : Nat → Int32) (wa pr la : Nat → Nat → Int32) (hm : mw G am n oc td th sL dk to er os pl wa pr la M) (oo : Nat → Option Nat) (hO : ∀ c, c < n → ∀ j, oo c = some j ↔ j < oc ∧ pl j = nI c) (p0 p1 : Int32) : pw_Met l yX2_undo cX2_undo 4 (some .int) 3 0 0 G [.ref (am 0), .int p0, .int p1] M (fun v9 M9 => (cd_undo n oo os pr p0 p1 = 0 ∧ (∃ o, oo (ix p0) = some o ∧ o < oc ∧ v9 = some (.int (pr o (ix p1) - 1)) ∧ mw G am n oc td 0 sL dk (upd to (ix p1) (to (ix p1) + 1)) er os pl wa (va_up pr o (upd (pr o) (ix p1) (pr o (ix p1) - 1))) la M9) ∨ ¬ cd_undo n oo os pr p0 p1 = 0 ∧ (∃ z, v9 = some (.int z)) ∧ mw G am n oc td (cd_undo n oo os pr p0 p1) sL dk to er os pl wa pr la M9) ∧ fm am 9 M M9) := by
  refine pw_of hl (by decide +kernel) (Nat.le_of_ble_eq_true rfl) [(0, .ref (am 0)), (1, .int p0), (2, .int p1)] rfl ?_
  intro p9 e9 s9 m9 args9 below9 meth9 c9 hX hrt hmi
  have hn9 := mw_n hm
  have hoc := mw_oc hm
  refine pw_aload_n (pc := 0) hX dX2_undo_0 0 rfl ?_
  refine pw_iload_n (pc := 1) hX dX2_undo_1 1 rfl ?_
  refine pw_aload_n (pc := 2) hX dX2_undo_2 0 rfl ?_
  refine pw_get (pc := 3) hX dX2_undo_3 hm.1 rfl inT_2 0 (by decide) fl_RX2_39 rfl ?_
  refine pw_callS (pc := 6) (st := [.ref (am 0)]) hX (mt_below l hl G M p0 n (Nat.lt_of_le_of_lt (mw_n hm) (by decide))) ok_X2_below lk_RX2_53 dX2_undo_6 rfl ⟨⟨by decide, by decide⟩, Nat.le_of_ble_eq_true rfl, Nat.le_of_ble_eq_true rfl, Nat.le_of_ble_eq_true rfl⟩ rfl (fun v9 M9 hp9 => ?_)
  obtain ⟨rfl, ⟨rfl, t, ht, rfl⟩ | ⟨rfl, hno_p0⟩⟩ := hp9
  · have htB : t < 2 ^ 31 := Nat.lt_of_lt_of_le ht (Nat.le_trans (mw_n hm) (by decide))
    refine pw_if_ne (pc := 9) hX 16 dX2_undo_9 (by decide) (fun _ => ?_) (fun h => absurd h (by decide))
    refine pw_iload_n (pc := 16) hX dX2_undo_16 2 rfl ?_
    refine pw_bipush (pc := 17) (v := 10) hX dX2_undo_17 (by decide) ?_
    refine pw_callS (pc := 19) (st := [.ref (am 0)]) hX (mt_below l hl G M p1 10 (by decide)) ok_X2_below lk_RX2_53 dX2_undo_19 rfl ⟨⟨by decide, by decide⟩, Nat.le_of_ble_eq_true rfl, Nat.le_of_ble_eq_true rfl, Nat.le_of_ble_eq_true rfl⟩ rfl (fun v9 M9 hp9 => ?_)
    obtain ⟨rfl, ⟨rfl, g, hg, rfl⟩ | ⟨rfl, hno_p1⟩⟩ := hp9
    · have hgB : g < 2 ^ 31 := Nat.lt_of_lt_of_le hg (by decide)
      refine pw_if_ne (pc := 22) hX 29 dX2_undo_22 (by decide) (fun _ => ?_) (fun h => absurd h (by decide))
      refine pw_iconst (pc := 29) (v := 0) hX dX2_undo_29 (by decide) ?_
      refine pw_put (pc := 30) (v := .int 0) hX dX2_undo_30 hm.1 rfl inT_2 tyX2 tyX2_ok nmX2 5 (by decide) fl_RX2_43 rfl (tyX2_ok 5 (by decide)) rfl rfl (Nat.le_of_ble_eq_true rfl) [.int (nI n), .ref (am 1), .ref (am 2), .int (nI oc), .int td, .int 0, .long sL, .ref (am 3), .ref (am 4), .ref (am 5), .ref (am 6), .ref (am 7), .ref (am 8)] rfl ?_
      have hm_3 := pw_ke (a := am 0) (e := .inr (2, [.int (nI n), .ref (am 1), .ref (am 2), .int (nI oc), .int td, .int 0, .long sL, .ref (am 3), .ref (am 4), .ref (am 5), .ref (am 6), .ref (am 7), .ref (am 8)])) hm.2.1 (mw_ne hm (x := 1) (y := 0) (by decide) (by decide) (by decide))
      have hm_4 := pw_ke (a := am 0) (e := .inr (2, [.int (nI n), .ref (am 1), .ref (am 2), .int (nI oc), .int td, .int 0, .long sL, .ref (am 3), .ref (am 4), .ref (am 5), .ref (am 6), .ref (am 7), .ref (am 8)])) hm.2.2.1 (mw_ne hm (x := 2) (y := 0) (by decide) (by decide) (by decide))
      have hm_5 := pw_ke (a := am 0) (e := .inr (2, [.int (nI n), .ref (am 1), .ref (am 2), .int (nI oc), .int td, .int 0, .long sL, .ref (am 3), .ref (am 4), .ref (am 5), .ref (am 6), .ref (am 7), .ref (am 8)])) hm.2.2.2.1 (mw_ne hm (x := 3) (y := 0) (by decide) (by decide) (by decide))
      have hm_6 := pw_ke (a := am 0) (e := .inr (2, [.int (nI n), .ref (am 1), .ref (am 2), .int (nI oc), .int td, .int 0, .long sL, .ref (am 3), .ref (am 4), .ref (am 5), .ref (am 6), .ref (am 7), .ref (am 8)])) hm.2.2.2.2.1 (mw_ne hm (x := 4) (y := 0) (by decide) (by decide) (by decide))
      have hm_7 := pw_ke (a := am 0) (e := .inr (2, [.int (nI n), .ref (am 1), .ref (am 2), .int (nI oc), .int td, .int 0, .long sL, .ref (am 3), .ref (am 4), .ref (am 5), .ref (am 6), .ref (am 7), .ref (am 8)])) hm.2.2.2.2.2.1 (mw_ne hm (x := 5) (y := 0) (by decide) (by decide) (by decide))
      have hm_8 := pw_ke (a := am 0) (e := .inr (2, [.int (nI n), .ref (am 1), .ref (am 2), .int (nI oc), .int td, .int 0, .long sL, .ref (am 3), .ref (am 4), .ref (am 5), .ref (am 6), .ref (am 7), .ref (am 8)])) hm.2.2.2.2.2.2.1 (mw_ne hm (x := 6) (y := 0) (by decide) (by decide) (by decide))
      have hm_9 := pw_ke (a := am 0) (e := .inr (2, [.int (nI n), .ref (am 1), .ref (am 2), .int (nI oc), .int td, .int 0, .long sL, .ref (am 3), .ref (am 4), .ref (am 5), .ref (am 6), .ref (am 7), .ref (am 8)])) hm.2.2.2.2.2.2.2.1 (mw_ne hm (x := 7) (y := 0) (by decide) (by decide) (by decide))
      have hm_10 := pw_ke (a := am 0) (e := .inr (2, [.int (nI n), .ref (am 1), .ref (am 2), .int (nI oc), .int td, .int 0, .long sL, .ref (am 3), .ref (am 4), .ref (am 5), .ref (am 6), .ref (am 7), .ref (am 8)])) hm.2.2.2.2.2.2.2.2.1 (mw_ne hm (x := 8) (y := 0) (by decide) (by decide) (by decide))
      have hm_11 : pw_up M (am 0) (.inr (2, [.int (nI n), .ref (am 1), .ref (am 2), .int (nI oc), .int td, .int 0, .long sL, .ref (am 3), .ref (am 4), .ref (am 5), .ref (am 6), .ref (am 7), .ref (am 8)])) (am 0) = some (.inr (2, [.int (nI n), .ref (am 1), .ref (am 2), .int (nI oc), .int td, .int 0, .long sL, .ref (am 3), .ref (am 4), .ref (am 5), .ref (am 6), .ref (am 7), .ref (am 8)])) := pw_us
      refine pw_aload_n (pc := 33) hX dX2_undo_33 0 rfl ?_
      refine pw_get (pc := 34) hX dX2_undo_34 hm_11 rfl inT_2 5 (by decide) fl_RX2_43 rfl ?_
      refine pw_if_eq (pc := 37) hX 42 dX2_undo_37 (by decide) (fun _ => ?_) (fun h => absurd h (by decide))
      refine pw_aload_n (pc := 42) hX dX2_undo_42 0 rfl ?_
      refine pw_iload_n (pc := 43) hX dX2_undo_43 1 rfl ?_
      refine pw_callV (pc := 44) (st := []) hX (mt_at l hl G _ am _ _ _ _ _ _ _ _ _ _ _ _ _ (mw_ob hm (oc) (mw_oc hm) td 0 sL) oo hO t ht) hm_11 rfl ok_X2_at lk_RX2_60 dX2_undo_44 rfl ⟨⟨by decide, by decide⟩, Nat.le_of_ble_eq_true rfl, Nat.le_of_ble_eq_true rfl, Nat.le_of_ble_eq_true rfl⟩ rfl (fun v9 M9 hp9 => ?_)
      obtain ⟨rfl, ⟨o, ho, ho9, rfl⟩ | ⟨ho, rfl⟩⟩ := hp9
      · have hoB : o < 2 ^ 31 := Nat.lt_of_lt_of_le ho9 (Nat.le_trans (mw_oc hm) (by decide))
        refine pw_istore_n (pc := 47) hX [(3, .int (nI o)), (0, .ref (am 0)), (1, .int (nI t)), (2, .int (nI g))] dX2_undo_47 (by decide) rfl ?_
        refine pw_aload_n (pc := 48) hX dX2_undo_48 1 rfl ?_
        refine pw_iload_n (pc := 49) hX dX2_undo_49 0 rfl ?_
        refine pw_iconst (pc := 50) (v := (-1)) hX dX2_undo_50 (by decide) ?_
        refine pw_icmp_eq (pc := 51) hX 78 dX2_undo_51 (by decide) (fun hc_13 => absurd hc_13 (nI_m1 hoB)) (fun hc_13 => ?_)
        refine pw_aload_n (pc := 54) hX dX2_undo_54 1 rfl ?_
        refine pw_get (pc := 55) hX dX2_undo_55 hm_11 rfl inT_2 7 (by decide) fl_RX2_21 rfl ?_
        refine pw_iload_n (pc := 58) hX dX2_undo_58 0 rfl ?_
        refine pw_iald (pc := 59) (j := o) hX dX2_undo_59 hm_5 (by omega) (by decide) ?_
        refine pw_iconst (pc := 60) (v := 2) hX dX2_undo_60 (by decide) ?_
        refine pw_icmp_eq (pc := 61) hX 78 dX2_undo_61 (by decide) (fun hc_14 => ?_) (fun hc_14 => ?_)
        · refine pw_iconst (pc := 78) (v := 3) hX dX2_undo_78 (by decide) ?_
          refine pw_goto (pc := 79) hX 83 dX2_undo_79 (by decide) ?_
          refine pw_put (pc := 83) (v := .int 3) hX dX2_undo_83 hm_11 rfl inT_2 tyX2 tyX2_ok nmX2 5 (by decide) fl_RX2_43 rfl (tyX2_ok 5 (by decide)) rfl rfl (Nat.le_of_ble_eq_true rfl) [.int (nI n), .ref (am 1), .ref (am 2), .int (nI oc), .int td, .int 3, .long sL, .ref (am 3), .ref (am 4), .ref (am 5), .ref (am 6), .ref (am 7), .ref (am 8)] rfl ?_
          have hm_15 := pw_ke (a := am 0) (e := .inr (2, [.int (nI n), .ref (am 1), .ref (am 2), .int (nI oc), .int td, .int 3, .long sL, .ref (am 3), .ref (am 4), .ref (am 5), .ref (am 6), .ref (am 7), .ref (am 8)])) hm_3 (mw_ne hm (x := 1) (y := 0) (by decide) (by decide) (by decide))
          have hm_16 := pw_ke (a := am 0) (e := .inr (2, [.int (nI n), .ref (am 1), .ref (am 2), .int (nI oc), .int td, .int 3, .long sL, .ref (am 3), .ref (am 4), .ref (am 5), .ref (am 6), .ref (am 7), .ref (am 8)])) hm_4 (mw_ne hm (x := 2) (y := 0) (by decide) (by decide) (by decide))
          have hm_17 := pw_ke (a := am 0) (e := .inr (2, [.int (nI n), .ref (am 1), .ref (am 2), .int (nI oc), .int td, .int 3, .long sL, .ref (am 3), .ref (am 4), .ref (am 5), .ref (am 6), .ref (am 7), .ref (am 8)])) hm_5 (mw_ne hm (x := 3) (y := 0) (by decide) (by decide) (by decide))
          have hm_18 := pw_ke (a := am 0) (e := .inr (2, [.int (nI n), .ref (am 1), .ref (am 2), .int (nI oc), .int td, .int 3, .long sL, .ref (am 3), .ref (am 4), .ref (am 5), .ref (am 6), .ref (am 7), .ref (am 8)])) hm_6 (mw_ne hm (x := 4) (y := 0) (by decide) (by decide) (by decide))
          have hm_19 := pw_ke (a := am 0) (e := .inr (2, [.int (nI n), .ref (am 1), .ref (am 2), .int (nI oc), .int td, .int 3, .long sL, .ref (am 3), .ref (am 4), .ref (am 5), .ref (am 6), .ref (am 7), .ref (am 8)])) hm_7 (mw_ne hm (x := 5) (y := 0) (by decide) (by decide) (by decide))
          have hm_20 := pw_ke (a := am 0) (e := .inr (2, [.int (nI n), .ref (am 1), .ref (am 2), .int (nI oc), .int td, .int 3, .long sL, .ref (am 3), .ref (am 4), .ref (am 5), .ref (am 6), .ref (am 7), .ref (am 8)])) hm_8 (mw_ne hm (x := 6) (y := 0) (by decide) (by decide) (by decide))
          have hm_21 := pw_ke (a := am 0) (e := .inr (2, [.int (nI n), .ref (am 1), .ref (am 2), .int (nI oc), .int td, .int 3, .long sL, .ref (am 3), .ref (am 4), .ref (am 5), .ref (am 6), .ref (am 7), .ref (am 8)])) hm_9 (mw_ne hm (x := 7) (y := 0) (by decide) (by decide) (by decide))
          have hm_22 := pw_ke (a := am 0) (e := .inr (2, [.int (nI n), .ref (am 1), .ref (am 2), .int (nI oc), .int td, .int 3, .long sL, .ref (am 3), .ref (am 4), .ref (am 5), .ref (am 6), .ref (am 7), .ref (am 8)])) hm_10 (mw_ne hm (x := 8) (y := 0) (by decide) (by decide) (by decide))
          have hm_23 : pw_up (pw_up M (am 0) (.inr (2, [.int (nI n), .ref (am 1), .ref (am 2), .int (nI oc), .int td, .int 0, .long sL, .ref (am 3), .ref (am 4), .ref (am 5), .ref (am 6), .ref (am 7), .ref (am 8)]))) (am 0) (.inr (2, [.int (nI n), .ref (am 1), .ref (am 2), .int (nI oc), .int td, .int 3, .long sL, .ref (am 3), .ref (am 4), .ref (am 5), .ref (am 6), .ref (am 7), .ref (am 8)])) (am 0) = some (.inr (2, [.int (nI n), .ref (am 1), .ref (am 2), .int (nI oc), .int td, .int 3, .long sL, .ref (am 3), .ref (am 4), .ref (am 5), .ref (am 6), .ref (am 7), .ref (am 8)])) := pw_us
          refine pw_aload_n (pc := 86) hX dX2_undo_86 1 rfl ?_
          refine pw_get (pc := 87) hX dX2_undo_87 hm_23 rfl inT_2 5 (by decide) fl_RX2_43 rfl ?_
          refine pw_if_eq (pc := 90) hX 95 dX2_undo_90 (by decide) (fun h => absurd h (by decide)) (fun _ => ?_)
          refine pw_iconst (pc := 93) (v := 0) hX dX2_undo_93 (by decide) ?_
          exact pw_iret hX dX2_undo_94 hrt ⟨by decide, by decide⟩ ⟨Or.inr ⟨by rw [show cd_undo n oo os pr (nI t) (nI g) = 3 from pc3_3 (fun h => h (ir_nI ht)) (fun h => h (ir_nI hg)) (by rw [ix_nI htB]; intro i hi; rw [ho] at hi; cases hi; exact Or.inl hc_14)]; decide, ⟨_, rfl⟩, by rw [show cd_undo n oo os pr (nI t) (nI g) = 3 from pc3_3 (fun h => h (ir_nI ht)) (fun h => h (ir_nI hg)) (by rw [ix_nI htB]; intro i hi; rw [ho] at hi; cases hi; exact Or.inl hc_14)]; exact (mw_ob (mw_ob hm (oc) (mw_oc hm) td 0 sL) (oc) (mw_oc hm) td 3 sL)⟩, (fm_up (fm_up fm_rf (x := 0) (by decide) _) (x := 0) (by decide) _)⟩
        · refine pw_aload_n (pc := 64) hX dX2_undo_64 1 rfl ?_
          refine pw_get (pc := 65) hX dX2_undo_65 hm_11 rfl inT_2 10 (by decide) fl_RX2_30 rfl ?_
          refine pw_bipush (pc := 68) (v := 10) hX dX2_undo_68 (by decide) ?_
          refine pw_iload_n (pc := 70) hX dX2_undo_70 0 rfl ?_
          refine pw_imul (pc := 71) (z := nI (10 * o)) hX dX2_undo_71 (pk_mul 10 _) ?_
          refine pw_iload_n (pc := 72) hX dX2_undo_72 3 rfl ?_
          refine pw_iadd (pc := 73) (z := nI (10 * o + g)) hX dX2_undo_73 (nI_add _ _) ?_
          refine pw_iald (pc := 74) (j := 10 * o + g) hX dX2_undo_74 hm_8 (by omega) (by decide) ?_
          refine pw_cg (vb := .int (pr o g)) (congrArg Value.int (fl_at pr o hg)) ?_
          refine pw_if_ne (pc := 75) hX 82 dX2_undo_75 (by decide) (fun hc_25 => ?_) (fun hc_25 => ?_)
          · refine pw_iconst (pc := 82) (v := 0) hX dX2_undo_82 (by decide) ?_
            refine pw_put (pc := 83) (v := .int 0) hX dX2_undo_83 hm_11 rfl inT_2 tyX2 tyX2_ok nmX2 5 (by decide) fl_RX2_43 rfl (tyX2_ok 5 (by decide)) rfl rfl (Nat.le_of_ble_eq_true rfl) [.int (nI n), .ref (am 1), .ref (am 2), .int (nI oc), .int td, .int 0, .long sL, .ref (am 3), .ref (am 4), .ref (am 5), .ref (am 6), .ref (am 7), .ref (am 8)] rfl ?_
            have hm_26 := pw_ke (a := am 0) (e := .inr (2, [.int (nI n), .ref (am 1), .ref (am 2), .int (nI oc), .int td, .int 0, .long sL, .ref (am 3), .ref (am 4), .ref (am 5), .ref (am 6), .ref (am 7), .ref (am 8)])) hm_3 (mw_ne hm (x := 1) (y := 0) (by decide) (by decide) (by decide))
            have hm_27 := pw_ke (a := am 0) (e := .inr (2, [.int (nI n), .ref (am 1), .ref (am 2), .int (nI oc), .int td, .int 0, .long sL, .ref (am 3), .ref (am 4), .ref (am 5), .ref (am 6), .ref (am 7), .ref (am 8)])) hm_4 (mw_ne hm (x := 2) (y := 0) (by decide) (by decide) (by decide))
            have hm_28 := pw_ke (a := am 0) (e := .inr (2, [.int (nI n), .ref (am 1), .ref (am 2), .int (nI oc), .int td, .int 0, .long sL, .ref (am 3), .ref (am 4), .ref (am 5), .ref (am 6), .ref (am 7), .ref (am 8)])) hm_5 (mw_ne hm (x := 3) (y := 0) (by decide) (by decide) (by decide))
            have hm_29 := pw_ke (a := am 0) (e := .inr (2, [.int (nI n), .ref (am 1), .ref (am 2), .int (nI oc), .int td, .int 0, .long sL, .ref (am 3), .ref (am 4), .ref (am 5), .ref (am 6), .ref (am 7), .ref (am 8)])) hm_6 (mw_ne hm (x := 4) (y := 0) (by decide) (by decide) (by decide))
            have hm_30 := pw_ke (a := am 0) (e := .inr (2, [.int (nI n), .ref (am 1), .ref (am 2), .int (nI oc), .int td, .int 0, .long sL, .ref (am 3), .ref (am 4), .ref (am 5), .ref (am 6), .ref (am 7), .ref (am 8)])) hm_7 (mw_ne hm (x := 5) (y := 0) (by decide) (by decide) (by decide))
            have hm_31 := pw_ke (a := am 0) (e := .inr (2, [.int (nI n), .ref (am 1), .ref (am 2), .int (nI oc), .int td, .int 0, .long sL, .ref (am 3), .ref (am 4), .ref (am 5), .ref (am 6), .ref (am 7), .ref (am 8)])) hm_8 (mw_ne hm (x := 6) (y := 0) (by decide) (by decide) (by decide))
            have hm_32 := pw_ke (a := am 0) (e := .inr (2, [.int (nI n), .ref (am 1), .ref (am 2), .int (nI oc), .int td, .int 0, .long sL, .ref (am 3), .ref (am 4), .ref (am 5), .ref (am 6), .ref (am 7), .ref (am 8)])) hm_9 (mw_ne hm (x := 7) (y := 0) (by decide) (by decide) (by decide))
            have hm_33 := pw_ke (a := am 0) (e := .inr (2, [.int (nI n), .ref (am 1), .ref (am 2), .int (nI oc), .int td, .int 0, .long sL, .ref (am 3), .ref (am 4), .ref (am 5), .ref (am 6), .ref (am 7), .ref (am 8)])) hm_10 (mw_ne hm (x := 8) (y := 0) (by decide) (by decide) (by decide))
            have hm_34 : pw_up (pw_up M (am 0) (.inr (2, [.int (nI n), .ref (am 1), .ref (am 2), .int (nI oc), .int td, .int 0, .long sL, .ref (am 3), .ref (am 4), .ref (am 5), .ref (am 6), .ref (am 7), .ref (am 8)]))) (am 0) (.inr (2, [.int (nI n), .ref (am 1), .ref (am 2), .int (nI oc), .int td, .int 0, .long sL, .ref (am 3), .ref (am 4), .ref (am 5), .ref (am 6), .ref (am 7), .ref (am 8)])) (am 0) = some (.inr (2, [.int (nI n), .ref (am 1), .ref (am 2), .int (nI oc), .int td, .int 0, .long sL, .ref (am 3), .ref (am 4), .ref (am 5), .ref (am 6), .ref (am 7), .ref (am 8)])) := pw_us
            refine pw_aload_n (pc := 86) hX dX2_undo_86 1 rfl ?_
            refine pw_get (pc := 87) hX dX2_undo_87 hm_34 rfl inT_2 5 (by decide) fl_RX2_43 rfl ?_
            refine pw_if_eq (pc := 90) hX 95 dX2_undo_90 (by decide) (fun _ => ?_) (fun h => absurd h (by decide))
            refine pw_aload_n (pc := 95) hX dX2_undo_95 1 rfl ?_
            refine pw_get (pc := 96) hX dX2_undo_96 hm_34 rfl inT_2 10 (by decide) fl_RX2_30 rfl ?_
            refine pw_bipush (pc := 99) (v := 10) hX dX2_undo_99 (by decide) ?_
            refine pw_iload_n (pc := 101) hX dX2_undo_101 0 rfl ?_
            refine pw_imul (pc := 102) (z := nI (10 * o)) hX dX2_undo_102 (pk_mul 10 _) ?_
            refine pw_iload_n (pc := 103) hX dX2_undo_103 3 rfl ?_
            refine pw_iadd (pc := 104) (z := nI (10 * o + g)) hX dX2_undo_104 (nI_add _ _) ?_
            refine pw_dup2 (pc := 105) hX dX2_undo_105 rfl rfl ?_
            refine pw_iald (pc := 106) (j := 10 * o + g) hX dX2_undo_106 hm_31 (by omega) (by decide) ?_
            refine pw_cg (vb := .int (pr o g)) (congrArg Value.int (fl_at pr o hg)) ?_
            refine pw_iconst (pc := 107) (v := 1) hX dX2_undo_107 (by decide) ?_
            refine pw_isub (pc := 108) (z := (pr o g) - 1) hX dX2_undo_108 rfl ?_
            refine pw_iast (pc := 109) (j := 10 * o + g) hX dX2_undo_109 hm_31 (by omega) (by decide) ?_
            have hm_36 := pw_ke (a := am 6) (e := .inl (G.2.2.1 0, 200, .inl (upd (fl pr) (10 * o + g) ((pr o g) - 1)))) hm_34 (mw_ne hm (x := 0) (y := 6) (by decide) (by decide) (by decide))
            have hm_37 := pw_ke (a := am 6) (e := .inl (G.2.2.1 0, 200, .inl (upd (fl pr) (10 * o + g) ((pr o g) - 1)))) hm_26 (mw_ne hm (x := 1) (y := 6) (by decide) (by decide) (by decide))
            have hm_38 := pw_ke (a := am 6) (e := .inl (G.2.2.1 0, 200, .inl (upd (fl pr) (10 * o + g) ((pr o g) - 1)))) hm_27 (mw_ne hm (x := 2) (y := 6) (by decide) (by decide) (by decide))
            have hm_39 := pw_ke (a := am 6) (e := .inl (G.2.2.1 0, 200, .inl (upd (fl pr) (10 * o + g) ((pr o g) - 1)))) hm_28 (mw_ne hm (x := 3) (y := 6) (by decide) (by decide) (by decide))
            have hm_40 := pw_ke (a := am 6) (e := .inl (G.2.2.1 0, 200, .inl (upd (fl pr) (10 * o + g) ((pr o g) - 1)))) hm_29 (mw_ne hm (x := 4) (y := 6) (by decide) (by decide) (by decide))
            have hm_41 := pw_ke (a := am 6) (e := .inl (G.2.2.1 0, 200, .inl (upd (fl pr) (10 * o + g) ((pr o g) - 1)))) hm_30 (mw_ne hm (x := 5) (y := 6) (by decide) (by decide) (by decide))
            have hm_42 := pw_ke (a := am 6) (e := .inl (G.2.2.1 0, 200, .inl (upd (fl pr) (10 * o + g) ((pr o g) - 1)))) hm_32 (mw_ne hm (x := 7) (y := 6) (by decide) (by decide) (by decide))
            have hm_43 := pw_ke (a := am 6) (e := .inl (G.2.2.1 0, 200, .inl (upd (fl pr) (10 * o + g) ((pr o g) - 1)))) hm_33 (mw_ne hm (x := 8) (y := 6) (by decide) (by decide) (by decide))
            have hm_44 : pw_up (pw_up (pw_up M (am 0) (.inr (2, [.int (nI n), .ref (am 1), .ref (am 2), .int (nI oc), .int td, .int 0, .long sL, .ref (am 3), .ref (am 4), .ref (am 5), .ref (am 6), .ref (am 7), .ref (am 8)]))) (am 0) (.inr (2, [.int (nI n), .ref (am 1), .ref (am 2), .int (nI oc), .int td, .int 0, .long sL, .ref (am 3), .ref (am 4), .ref (am 5), .ref (am 6), .ref (am 7), .ref (am 8)]))) (am 6) (.inl (G.2.2.1 0, 200, .inl (upd (fl pr) (10 * o + g) ((pr o g) - 1)))) (am 6) = some (.inl (G.2.2.1 0, 200, .inl (upd (fl pr) (10 * o + g) ((pr o g) - 1)))) := pw_us
            refine pw_aload_n (pc := 110) hX dX2_undo_110 1 rfl ?_
            refine pw_get (pc := 111) hX dX2_undo_111 hm_36 rfl inT_2 2 (by decide) fl_RX2_13 rfl ?_
            refine pw_iload_n (pc := 114) hX dX2_undo_114 3 rfl ?_
            refine pw_dup2 (pc := 115) hX dX2_undo_115 rfl rfl ?_
            refine pw_iald (pc := 116) (j := g) hX dX2_undo_116 hm_38 hg (by decide) ?_
            refine pw_iconst (pc := 117) (v := 1) hX dX2_undo_117 (by decide) ?_
            refine pw_iadd (pc := 118) (z := (to g) + 1) hX dX2_undo_118 rfl ?_
            refine pw_iast (pc := 119) (j := g) hX dX2_undo_119 hm_38 hg (by decide) ?_
            have hm_45 := pw_ke (a := am 2) (e := .inl (G.2.2.1 0, 10, .inl (upd to g ((to g) + 1)))) hm_36 (mw_ne hm (x := 0) (y := 2) (by decide) (by decide) (by decide))
            have hm_46 := pw_ke (a := am 2) (e := .inl (G.2.2.1 0, 10, .inl (upd to g ((to g) + 1)))) hm_37 (mw_ne hm (x := 1) (y := 2) (by decide) (by decide) (by decide))
            have hm_47 := pw_ke (a := am 2) (e := .inl (G.2.2.1 0, 10, .inl (upd to g ((to g) + 1)))) hm_39 (mw_ne hm (x := 3) (y := 2) (by decide) (by decide) (by decide))
            have hm_48 := pw_ke (a := am 2) (e := .inl (G.2.2.1 0, 10, .inl (upd to g ((to g) + 1)))) hm_40 (mw_ne hm (x := 4) (y := 2) (by decide) (by decide) (by decide))
            have hm_49 := pw_ke (a := am 2) (e := .inl (G.2.2.1 0, 10, .inl (upd to g ((to g) + 1)))) hm_41 (mw_ne hm (x := 5) (y := 2) (by decide) (by decide) (by decide))
            have hm_50 := pw_ke (a := am 2) (e := .inl (G.2.2.1 0, 10, .inl (upd to g ((to g) + 1)))) hm_44 (mw_ne hm (x := 6) (y := 2) (by decide) (by decide) (by decide))
            have hm_51 := pw_ke (a := am 2) (e := .inl (G.2.2.1 0, 10, .inl (upd to g ((to g) + 1)))) hm_42 (mw_ne hm (x := 7) (y := 2) (by decide) (by decide) (by decide))
            have hm_52 := pw_ke (a := am 2) (e := .inl (G.2.2.1 0, 10, .inl (upd to g ((to g) + 1)))) hm_43 (mw_ne hm (x := 8) (y := 2) (by decide) (by decide) (by decide))
            have hm_53 : pw_up (pw_up (pw_up (pw_up M (am 0) (.inr (2, [.int (nI n), .ref (am 1), .ref (am 2), .int (nI oc), .int td, .int 0, .long sL, .ref (am 3), .ref (am 4), .ref (am 5), .ref (am 6), .ref (am 7), .ref (am 8)]))) (am 0) (.inr (2, [.int (nI n), .ref (am 1), .ref (am 2), .int (nI oc), .int td, .int 0, .long sL, .ref (am 3), .ref (am 4), .ref (am 5), .ref (am 6), .ref (am 7), .ref (am 8)]))) (am 6) (.inl (G.2.2.1 0, 200, .inl (upd (fl pr) (10 * o + g) ((pr o g) - 1))))) (am 2) (.inl (G.2.2.1 0, 10, .inl (upd to g ((to g) + 1)))) (am 2) = some (.inl (G.2.2.1 0, 10, .inl (upd to g ((to g) + 1)))) := pw_us
            refine pw_aload_n (pc := 120) hX dX2_undo_120 1 rfl ?_
            refine pw_get (pc := 121) hX dX2_undo_121 hm_45 rfl inT_2 10 (by decide) fl_RX2_30 rfl ?_
            refine pw_bipush (pc := 124) (v := 10) hX dX2_undo_124 (by decide) ?_
            refine pw_iload_n (pc := 126) hX dX2_undo_126 0 rfl ?_
            refine pw_imul (pc := 127) (z := nI (10 * o)) hX dX2_undo_127 (pk_mul 10 _) ?_
            refine pw_iload_n (pc := 128) hX dX2_undo_128 3 rfl ?_
            refine pw_iadd (pc := 129) (z := nI (10 * o + g)) hX dX2_undo_129 (nI_add _ _) ?_
            refine pw_iald (pc := 130) (j := 10 * o + g) hX dX2_undo_130 hm_50 (by omega) (by decide) ?_
            exact pw_iret hX dX2_undo_131 hrt ⟨by decide, by decide⟩ (by rw [ix_nI htB, ix_nI hgB]; exact ⟨Or.inl ⟨pc3_0 (fun h => h (ir_nI ht)) (fun h => h (ir_nI hg)) (by rw [ix_nI htB, ix_nI hgB]; exact fun h => (h o ho).elim hc_14 hc_25), o, ho, ho9, congrArg some (congrArg Value.int (pw_ld _ _ _)), (mw_to (mw_pr (mw_ob (mw_ob hm (oc) (mw_oc hm) td 0 sL) (oc) (mw_oc hm) td 0 sL) o g hg _) _)⟩, (fm_up (fm_up (fm_up (fm_up fm_rf (x := 0) (by decide) _) (x := 0) (by decide) _) (x := 6) (by decide) _) (x := 2) (by decide) _)⟩)
          · refine pw_iconst (pc := 78) (v := 3) hX dX2_undo_78 (by decide) ?_
            refine pw_goto (pc := 79) hX 83 dX2_undo_79 (by decide) ?_
            refine pw_put (pc := 83) (v := .int 3) hX dX2_undo_83 hm_11 rfl inT_2 tyX2 tyX2_ok nmX2 5 (by decide) fl_RX2_43 rfl (tyX2_ok 5 (by decide)) rfl rfl (Nat.le_of_ble_eq_true rfl) [.int (nI n), .ref (am 1), .ref (am 2), .int (nI oc), .int td, .int 3, .long sL, .ref (am 3), .ref (am 4), .ref (am 5), .ref (am 6), .ref (am 7), .ref (am 8)] rfl ?_
            have hm_54 := pw_ke (a := am 0) (e := .inr (2, [.int (nI n), .ref (am 1), .ref (am 2), .int (nI oc), .int td, .int 3, .long sL, .ref (am 3), .ref (am 4), .ref (am 5), .ref (am 6), .ref (am 7), .ref (am 8)])) hm_3 (mw_ne hm (x := 1) (y := 0) (by decide) (by decide) (by decide))
            have hm_55 := pw_ke (a := am 0) (e := .inr (2, [.int (nI n), .ref (am 1), .ref (am 2), .int (nI oc), .int td, .int 3, .long sL, .ref (am 3), .ref (am 4), .ref (am 5), .ref (am 6), .ref (am 7), .ref (am 8)])) hm_4 (mw_ne hm (x := 2) (y := 0) (by decide) (by decide) (by decide))
            have hm_56 := pw_ke (a := am 0) (e := .inr (2, [.int (nI n), .ref (am 1), .ref (am 2), .int (nI oc), .int td, .int 3, .long sL, .ref (am 3), .ref (am 4), .ref (am 5), .ref (am 6), .ref (am 7), .ref (am 8)])) hm_5 (mw_ne hm (x := 3) (y := 0) (by decide) (by decide) (by decide))
            have hm_57 := pw_ke (a := am 0) (e := .inr (2, [.int (nI n), .ref (am 1), .ref (am 2), .int (nI oc), .int td, .int 3, .long sL, .ref (am 3), .ref (am 4), .ref (am 5), .ref (am 6), .ref (am 7), .ref (am 8)])) hm_6 (mw_ne hm (x := 4) (y := 0) (by decide) (by decide) (by decide))
            have hm_58 := pw_ke (a := am 0) (e := .inr (2, [.int (nI n), .ref (am 1), .ref (am 2), .int (nI oc), .int td, .int 3, .long sL, .ref (am 3), .ref (am 4), .ref (am 5), .ref (am 6), .ref (am 7), .ref (am 8)])) hm_7 (mw_ne hm (x := 5) (y := 0) (by decide) (by decide) (by decide))
            have hm_59 := pw_ke (a := am 0) (e := .inr (2, [.int (nI n), .ref (am 1), .ref (am 2), .int (nI oc), .int td, .int 3, .long sL, .ref (am 3), .ref (am 4), .ref (am 5), .ref (am 6), .ref (am 7), .ref (am 8)])) hm_8 (mw_ne hm (x := 6) (y := 0) (by decide) (by decide) (by decide))
            have hm_60 := pw_ke (a := am 0) (e := .inr (2, [.int (nI n), .ref (am 1), .ref (am 2), .int (nI oc), .int td, .int 3, .long sL, .ref (am 3), .ref (am 4), .ref (am 5), .ref (am 6), .ref (am 7), .ref (am 8)])) hm_9 (mw_ne hm (x := 7) (y := 0) (by decide) (by decide) (by decide))
            have hm_61 := pw_ke (a := am 0) (e := .inr (2, [.int (nI n), .ref (am 1), .ref (am 2), .int (nI oc), .int td, .int 3, .long sL, .ref (am 3), .ref (am 4), .ref (am 5), .ref (am 6), .ref (am 7), .ref (am 8)])) hm_10 (mw_ne hm (x := 8) (y := 0) (by decide) (by decide) (by decide))
            have hm_62 : pw_up (pw_up M (am 0) (.inr (2, [.int (nI n), .ref (am 1), .ref (am 2), .int (nI oc), .int td, .int 0, .long sL, .ref (am 3), .ref (am 4), .ref (am 5), .ref (am 6), .ref (am 7), .ref (am 8)]))) (am 0) (.inr (2, [.int (nI n), .ref (am 1), .ref (am 2), .int (nI oc), .int td, .int 3, .long sL, .ref (am 3), .ref (am 4), .ref (am 5), .ref (am 6), .ref (am 7), .ref (am 8)])) (am 0) = some (.inr (2, [.int (nI n), .ref (am 1), .ref (am 2), .int (nI oc), .int td, .int 3, .long sL, .ref (am 3), .ref (am 4), .ref (am 5), .ref (am 6), .ref (am 7), .ref (am 8)])) := pw_us
            refine pw_aload_n (pc := 86) hX dX2_undo_86 1 rfl ?_
            refine pw_get (pc := 87) hX dX2_undo_87 hm_62 rfl inT_2 5 (by decide) fl_RX2_43 rfl ?_
            refine pw_if_eq (pc := 90) hX 95 dX2_undo_90 (by decide) (fun h => absurd h (by decide)) (fun _ => ?_)
            refine pw_iconst (pc := 93) (v := 0) hX dX2_undo_93 (by decide) ?_
            exact pw_iret hX dX2_undo_94 hrt ⟨by decide, by decide⟩ ⟨Or.inr ⟨by rw [show cd_undo n oo os pr (nI t) (nI g) = 3 from pc3_3 (fun h => h (ir_nI ht)) (fun h => h (ir_nI hg)) (by rw [ix_nI htB, ix_nI hgB]; intro i hi; rw [ho] at hi; cases hi; exact Or.inr hc_25)]; decide, ⟨_, rfl⟩, by rw [show cd_undo n oo os pr (nI t) (nI g) = 3 from pc3_3 (fun h => h (ir_nI ht)) (fun h => h (ir_nI hg)) (by rw [ix_nI htB, ix_nI hgB]; intro i hi; rw [ho] at hi; cases hi; exact Or.inr hc_25)]; exact (mw_ob (mw_ob hm (oc) (mw_oc hm) td 0 sL) (oc) (mw_oc hm) td 3 sL)⟩, (fm_up (fm_up fm_rf (x := 0) (by decide) _) (x := 0) (by decide) _)⟩
      · refine pw_istore_n (pc := 47) hX [(3, .int ((-1))), (0, .ref (am 0)), (1, .int (nI t)), (2, .int (nI g))] dX2_undo_47 (by decide) rfl ?_
        refine pw_aload_n (pc := 48) hX dX2_undo_48 1 rfl ?_
        refine pw_iload_n (pc := 49) hX dX2_undo_49 0 rfl ?_
        refine pw_iconst (pc := 50) (v := (-1)) hX dX2_undo_50 (by decide) ?_
        refine pw_icmp_eq (pc := 51) hX 78 dX2_undo_51 (by decide) (fun _ => ?_) (fun h => absurd h (by decide))
        refine pw_iconst (pc := 78) (v := 3) hX dX2_undo_78 (by decide) ?_
        refine pw_goto (pc := 79) hX 83 dX2_undo_79 (by decide) ?_
        refine pw_put (pc := 83) (v := .int 3) hX dX2_undo_83 hm_11 rfl inT_2 tyX2 tyX2_ok nmX2 5 (by decide) fl_RX2_43 rfl (tyX2_ok 5 (by decide)) rfl rfl (Nat.le_of_ble_eq_true rfl) [.int (nI n), .ref (am 1), .ref (am 2), .int (nI oc), .int td, .int 3, .long sL, .ref (am 3), .ref (am 4), .ref (am 5), .ref (am 6), .ref (am 7), .ref (am 8)] rfl ?_
        have hm_65 := pw_ke (a := am 0) (e := .inr (2, [.int (nI n), .ref (am 1), .ref (am 2), .int (nI oc), .int td, .int 3, .long sL, .ref (am 3), .ref (am 4), .ref (am 5), .ref (am 6), .ref (am 7), .ref (am 8)])) hm_3 (mw_ne hm (x := 1) (y := 0) (by decide) (by decide) (by decide))
        have hm_66 := pw_ke (a := am 0) (e := .inr (2, [.int (nI n), .ref (am 1), .ref (am 2), .int (nI oc), .int td, .int 3, .long sL, .ref (am 3), .ref (am 4), .ref (am 5), .ref (am 6), .ref (am 7), .ref (am 8)])) hm_4 (mw_ne hm (x := 2) (y := 0) (by decide) (by decide) (by decide))
        have hm_67 := pw_ke (a := am 0) (e := .inr (2, [.int (nI n), .ref (am 1), .ref (am 2), .int (nI oc), .int td, .int 3, .long sL, .ref (am 3), .ref (am 4), .ref (am 5), .ref (am 6), .ref (am 7), .ref (am 8)])) hm_5 (mw_ne hm (x := 3) (y := 0) (by decide) (by decide) (by decide))
        have hm_68 := pw_ke (a := am 0) (e := .inr (2, [.int (nI n), .ref (am 1), .ref (am 2), .int (nI oc), .int td, .int 3, .long sL, .ref (am 3), .ref (am 4), .ref (am 5), .ref (am 6), .ref (am 7), .ref (am 8)])) hm_6 (mw_ne hm (x := 4) (y := 0) (by decide) (by decide) (by decide))
        have hm_69 := pw_ke (a := am 0) (e := .inr (2, [.int (nI n), .ref (am 1), .ref (am 2), .int (nI oc), .int td, .int 3, .long sL, .ref (am 3), .ref (am 4), .ref (am 5), .ref (am 6), .ref (am 7), .ref (am 8)])) hm_7 (mw_ne hm (x := 5) (y := 0) (by decide) (by decide) (by decide))
        have hm_70 := pw_ke (a := am 0) (e := .inr (2, [.int (nI n), .ref (am 1), .ref (am 2), .int (nI oc), .int td, .int 3, .long sL, .ref (am 3), .ref (am 4), .ref (am 5), .ref (am 6), .ref (am 7), .ref (am 8)])) hm_8 (mw_ne hm (x := 6) (y := 0) (by decide) (by decide) (by decide))
        have hm_71 := pw_ke (a := am 0) (e := .inr (2, [.int (nI n), .ref (am 1), .ref (am 2), .int (nI oc), .int td, .int 3, .long sL, .ref (am 3), .ref (am 4), .ref (am 5), .ref (am 6), .ref (am 7), .ref (am 8)])) hm_9 (mw_ne hm (x := 7) (y := 0) (by decide) (by decide) (by decide))
        have hm_72 := pw_ke (a := am 0) (e := .inr (2, [.int (nI n), .ref (am 1), .ref (am 2), .int (nI oc), .int td, .int 3, .long sL, .ref (am 3), .ref (am 4), .ref (am 5), .ref (am 6), .ref (am 7), .ref (am 8)])) hm_10 (mw_ne hm (x := 8) (y := 0) (by decide) (by decide) (by decide))
        have hm_73 : pw_up (pw_up M (am 0) (.inr (2, [.int (nI n), .ref (am 1), .ref (am 2), .int (nI oc), .int td, .int 0, .long sL, .ref (am 3), .ref (am 4), .ref (am 5), .ref (am 6), .ref (am 7), .ref (am 8)]))) (am 0) (.inr (2, [.int (nI n), .ref (am 1), .ref (am 2), .int (nI oc), .int td, .int 3, .long sL, .ref (am 3), .ref (am 4), .ref (am 5), .ref (am 6), .ref (am 7), .ref (am 8)])) (am 0) = some (.inr (2, [.int (nI n), .ref (am 1), .ref (am 2), .int (nI oc), .int td, .int 3, .long sL, .ref (am 3), .ref (am 4), .ref (am 5), .ref (am 6), .ref (am 7), .ref (am 8)])) := pw_us
        refine pw_aload_n (pc := 86) hX dX2_undo_86 1 rfl ?_
        refine pw_get (pc := 87) hX dX2_undo_87 hm_73 rfl inT_2 5 (by decide) fl_RX2_43 rfl ?_
        refine pw_if_eq (pc := 90) hX 95 dX2_undo_90 (by decide) (fun h => absurd h (by decide)) (fun _ => ?_)
        refine pw_iconst (pc := 93) (v := 0) hX dX2_undo_93 (by decide) ?_
        exact pw_iret hX dX2_undo_94 hrt ⟨by decide, by decide⟩ ⟨Or.inr ⟨by rw [show cd_undo n oo os pr (nI t) (nI g) = 3 from pc3_3 (fun h => h (ir_nI ht)) (fun h => h (ir_nI hg)) (by rw [ix_nI htB]; intro i hi; rw [ho] at hi; cases hi)]; decide, ⟨_, rfl⟩, by rw [show cd_undo n oo os pr (nI t) (nI g) = 3 from pc3_3 (fun h => h (ir_nI ht)) (fun h => h (ir_nI hg)) (by rw [ix_nI htB]; intro i hi; rw [ho] at hi; cases hi)]; exact (mw_ob (mw_ob hm (oc) (mw_oc hm) td 0 sL) (oc) (mw_oc hm) td 3 sL)⟩, (fm_up (fm_up fm_rf (x := 0) (by decide) _) (x := 0) (by decide) _)⟩
    · refine pw_if_ne (pc := 22) hX 29 dX2_undo_22 (by decide) (fun h => absurd h (by decide)) (fun _ => ?_)
      refine pw_iconst (pc := 25) (v := 2) hX dX2_undo_25 (by decide) ?_
      refine pw_goto (pc := 26) hX 30 dX2_undo_26 (by decide) ?_
      refine pw_put (pc := 30) (v := .int 2) hX dX2_undo_30 hm.1 rfl inT_2 tyX2 tyX2_ok nmX2 5 (by decide) fl_RX2_43 rfl (tyX2_ok 5 (by decide)) rfl rfl (Nat.le_of_ble_eq_true rfl) [.int (nI n), .ref (am 1), .ref (am 2), .int (nI oc), .int td, .int 2, .long sL, .ref (am 3), .ref (am 4), .ref (am 5), .ref (am 6), .ref (am 7), .ref (am 8)] rfl ?_
      have hm_76 := pw_ke (a := am 0) (e := .inr (2, [.int (nI n), .ref (am 1), .ref (am 2), .int (nI oc), .int td, .int 2, .long sL, .ref (am 3), .ref (am 4), .ref (am 5), .ref (am 6), .ref (am 7), .ref (am 8)])) hm.2.1 (mw_ne hm (x := 1) (y := 0) (by decide) (by decide) (by decide))
      have hm_77 := pw_ke (a := am 0) (e := .inr (2, [.int (nI n), .ref (am 1), .ref (am 2), .int (nI oc), .int td, .int 2, .long sL, .ref (am 3), .ref (am 4), .ref (am 5), .ref (am 6), .ref (am 7), .ref (am 8)])) hm.2.2.1 (mw_ne hm (x := 2) (y := 0) (by decide) (by decide) (by decide))
      have hm_78 := pw_ke (a := am 0) (e := .inr (2, [.int (nI n), .ref (am 1), .ref (am 2), .int (nI oc), .int td, .int 2, .long sL, .ref (am 3), .ref (am 4), .ref (am 5), .ref (am 6), .ref (am 7), .ref (am 8)])) hm.2.2.2.1 (mw_ne hm (x := 3) (y := 0) (by decide) (by decide) (by decide))
      have hm_79 := pw_ke (a := am 0) (e := .inr (2, [.int (nI n), .ref (am 1), .ref (am 2), .int (nI oc), .int td, .int 2, .long sL, .ref (am 3), .ref (am 4), .ref (am 5), .ref (am 6), .ref (am 7), .ref (am 8)])) hm.2.2.2.2.1 (mw_ne hm (x := 4) (y := 0) (by decide) (by decide) (by decide))
      have hm_80 := pw_ke (a := am 0) (e := .inr (2, [.int (nI n), .ref (am 1), .ref (am 2), .int (nI oc), .int td, .int 2, .long sL, .ref (am 3), .ref (am 4), .ref (am 5), .ref (am 6), .ref (am 7), .ref (am 8)])) hm.2.2.2.2.2.1 (mw_ne hm (x := 5) (y := 0) (by decide) (by decide) (by decide))
      have hm_81 := pw_ke (a := am 0) (e := .inr (2, [.int (nI n), .ref (am 1), .ref (am 2), .int (nI oc), .int td, .int 2, .long sL, .ref (am 3), .ref (am 4), .ref (am 5), .ref (am 6), .ref (am 7), .ref (am 8)])) hm.2.2.2.2.2.2.1 (mw_ne hm (x := 6) (y := 0) (by decide) (by decide) (by decide))
      have hm_82 := pw_ke (a := am 0) (e := .inr (2, [.int (nI n), .ref (am 1), .ref (am 2), .int (nI oc), .int td, .int 2, .long sL, .ref (am 3), .ref (am 4), .ref (am 5), .ref (am 6), .ref (am 7), .ref (am 8)])) hm.2.2.2.2.2.2.2.1 (mw_ne hm (x := 7) (y := 0) (by decide) (by decide) (by decide))
      have hm_83 := pw_ke (a := am 0) (e := .inr (2, [.int (nI n), .ref (am 1), .ref (am 2), .int (nI oc), .int td, .int 2, .long sL, .ref (am 3), .ref (am 4), .ref (am 5), .ref (am 6), .ref (am 7), .ref (am 8)])) hm.2.2.2.2.2.2.2.2.1 (mw_ne hm (x := 8) (y := 0) (by decide) (by decide) (by decide))
      have hm_84 : pw_up M (am 0) (.inr (2, [.int (nI n), .ref (am 1), .ref (am 2), .int (nI oc), .int td, .int 2, .long sL, .ref (am 3), .ref (am 4), .ref (am 5), .ref (am 6), .ref (am 7), .ref (am 8)])) (am 0) = some (.inr (2, [.int (nI n), .ref (am 1), .ref (am 2), .int (nI oc), .int td, .int 2, .long sL, .ref (am 3), .ref (am 4), .ref (am 5), .ref (am 6), .ref (am 7), .ref (am 8)])) := pw_us
      refine pw_aload_n (pc := 33) hX dX2_undo_33 0 rfl ?_
      refine pw_get (pc := 34) hX dX2_undo_34 hm_84 rfl inT_2 5 (by decide) fl_RX2_43 rfl ?_
      refine pw_if_eq (pc := 37) hX 42 dX2_undo_37 (by decide) (fun h => absurd h (by decide)) (fun _ => ?_)
      refine pw_iconst (pc := 40) (v := 0) hX dX2_undo_40 (by decide) ?_
      exact pw_iret hX dX2_undo_41 hrt ⟨by decide, by decide⟩ ⟨Or.inr ⟨by rw [show cd_undo n oo os pr (nI t) p1 = 2 from pc3_2 (fun h => h (ir_nI ht)) hno_p1]; decide, ⟨_, rfl⟩, by rw [show cd_undo n oo os pr (nI t) p1 = 2 from pc3_2 (fun h => h (ir_nI ht)) hno_p1]; exact (mw_ob hm (oc) (mw_oc hm) td 2 sL)⟩, (fm_up fm_rf (x := 0) (by decide) _)⟩
  · refine pw_if_ne (pc := 9) hX 16 dX2_undo_9 (by decide) (fun h => absurd h (by decide)) (fun _ => ?_)
    refine pw_iconst (pc := 12) (v := 1) hX dX2_undo_12 (by decide) ?_
    refine pw_goto (pc := 13) hX 30 dX2_undo_13 (by decide) ?_
    refine pw_put (pc := 30) (v := .int 1) hX dX2_undo_30 hm.1 rfl inT_2 tyX2 tyX2_ok nmX2 5 (by decide) fl_RX2_43 rfl (tyX2_ok 5 (by decide)) rfl rfl (Nat.le_of_ble_eq_true rfl) [.int (nI n), .ref (am 1), .ref (am 2), .int (nI oc), .int td, .int 1, .long sL, .ref (am 3), .ref (am 4), .ref (am 5), .ref (am 6), .ref (am 7), .ref (am 8)] rfl ?_
    have hm_87 := pw_ke (a := am 0) (e := .inr (2, [.int (nI n), .ref (am 1), .ref (am 2), .int (nI oc), .int td, .int 1, .long sL, .ref (am 3), .ref (am 4), .ref (am 5), .ref (am 6), .ref (am 7), .ref (am 8)])) hm.2.1 (mw_ne hm (x := 1) (y := 0) (by decide) (by decide) (by decide))
    have hm_88 := pw_ke (a := am 0) (e := .inr (2, [.int (nI n), .ref (am 1), .ref (am 2), .int (nI oc), .int td, .int 1, .long sL, .ref (am 3), .ref (am 4), .ref (am 5), .ref (am 6), .ref (am 7), .ref (am 8)])) hm.2.2.1 (mw_ne hm (x := 2) (y := 0) (by decide) (by decide) (by decide))
    have hm_89 := pw_ke (a := am 0) (e := .inr (2, [.int (nI n), .ref (am 1), .ref (am 2), .int (nI oc), .int td, .int 1, .long sL, .ref (am 3), .ref (am 4), .ref (am 5), .ref (am 6), .ref (am 7), .ref (am 8)])) hm.2.2.2.1 (mw_ne hm (x := 3) (y := 0) (by decide) (by decide) (by decide))
    have hm_90 := pw_ke (a := am 0) (e := .inr (2, [.int (nI n), .ref (am 1), .ref (am 2), .int (nI oc), .int td, .int 1, .long sL, .ref (am 3), .ref (am 4), .ref (am 5), .ref (am 6), .ref (am 7), .ref (am 8)])) hm.2.2.2.2.1 (mw_ne hm (x := 4) (y := 0) (by decide) (by decide) (by decide))
    have hm_91 := pw_ke (a := am 0) (e := .inr (2, [.int (nI n), .ref (am 1), .ref (am 2), .int (nI oc), .int td, .int 1, .long sL, .ref (am 3), .ref (am 4), .ref (am 5), .ref (am 6), .ref (am 7), .ref (am 8)])) hm.2.2.2.2.2.1 (mw_ne hm (x := 5) (y := 0) (by decide) (by decide) (by decide))
    have hm_92 := pw_ke (a := am 0) (e := .inr (2, [.int (nI n), .ref (am 1), .ref (am 2), .int (nI oc), .int td, .int 1, .long sL, .ref (am 3), .ref (am 4), .ref (am 5), .ref (am 6), .ref (am 7), .ref (am 8)])) hm.2.2.2.2.2.2.1 (mw_ne hm (x := 6) (y := 0) (by decide) (by decide) (by decide))
    have hm_93 := pw_ke (a := am 0) (e := .inr (2, [.int (nI n), .ref (am 1), .ref (am 2), .int (nI oc), .int td, .int 1, .long sL, .ref (am 3), .ref (am 4), .ref (am 5), .ref (am 6), .ref (am 7), .ref (am 8)])) hm.2.2.2.2.2.2.2.1 (mw_ne hm (x := 7) (y := 0) (by decide) (by decide) (by decide))
    have hm_94 := pw_ke (a := am 0) (e := .inr (2, [.int (nI n), .ref (am 1), .ref (am 2), .int (nI oc), .int td, .int 1, .long sL, .ref (am 3), .ref (am 4), .ref (am 5), .ref (am 6), .ref (am 7), .ref (am 8)])) hm.2.2.2.2.2.2.2.2.1 (mw_ne hm (x := 8) (y := 0) (by decide) (by decide) (by decide))
    have hm_95 : pw_up M (am 0) (.inr (2, [.int (nI n), .ref (am 1), .ref (am 2), .int (nI oc), .int td, .int 1, .long sL, .ref (am 3), .ref (am 4), .ref (am 5), .ref (am 6), .ref (am 7), .ref (am 8)])) (am 0) = some (.inr (2, [.int (nI n), .ref (am 1), .ref (am 2), .int (nI oc), .int td, .int 1, .long sL, .ref (am 3), .ref (am 4), .ref (am 5), .ref (am 6), .ref (am 7), .ref (am 8)])) := pw_us
    refine pw_aload_n (pc := 33) hX dX2_undo_33 0 rfl ?_
    refine pw_get (pc := 34) hX dX2_undo_34 hm_95 rfl inT_2 5 (by decide) fl_RX2_43 rfl ?_
    refine pw_if_eq (pc := 37) hX 42 dX2_undo_37 (by decide) (fun h => absurd h (by decide)) (fun _ => ?_)
    refine pw_iconst (pc := 40) (v := 0) hX dX2_undo_40 (by decide) ?_
    exact pw_iret hX dX2_undo_41 hrt ⟨by decide, by decide⟩ ⟨Or.inr ⟨by rw [show cd_undo n oo os pr p0 p1 = 1 from pc_t hno_p0]; decide, ⟨_, rfl⟩, by rw [show cd_undo n oo os pr p0 p1 = 1 from pc_t hno_p0]; exact (mw_ob hm (oc) (mw_oc hm) td 1 sL)⟩, (fm_up fm_rf (x := 0) (by decide) _)⟩
