def tl_f (wa : Nat → Nat → Int32) (j : Nat) (X : Nat → Int32) : Nat → Int32 := fun g => if 0 < wa j g then X g else 0
theorem tl_t {wa : Nat → Nat → Int32} {j : Nat} {X : Nat → Int32} {k : Nat} {v : Int32} (h : 0 < wa j k) (hv : X k = v) : bx_sum (tl_f wa j X) k + v = bx_sum (tl_f wa j X) (k + 1) := by
  show _ = _ + tl_f wa j X k
  rw [show tl_f wa j X k = X k from if_pos h, hv]
theorem tl_n {wa : Nat → Nat → Int32} {j : Nat} {X : Nat → Int32} {k : Nat} (h : ¬ 0 < wa j k) : bx_sum (tl_f wa j X) (k + 1) = bx_sum (tl_f wa j X) k := by
  show _ + tl_f wa j X k = _
  rw [show tl_f wa j X k = 0 from if_neg h, Int32.add_zero]
noncomputable def tm_r (td : Int32) (os pl : Nat → Int32) (wa pr la : Nat → Nat → Int32) (j : Nat) (x : Int32) : Int32 := pc_if (x = 0) (os j) (pc_if (x = 1) (pl j) (pc_if (x = 2) (nI (od_ct (od_has (wa j)) 10)) (pc_if (x = 3) (bx_sum (tl_f wa j (pr j)) 10) (pc_if (x = 4) (bx_sum (tl_f wa j (wa j)) 10) (bx_sum (tl_f wa j (od_gu td (wa j) (pr j) (la j))) 10)))))
def cm_f (pl : Nat → Int32) (wa pr : Nat → Nat → Int32) : Nat → Int32 := fun o => if pl o = -1 then 0 else bx_sum (tl_f wa o (pr o)) 10
noncomputable def cm_r (n oc : Nat) (td : Int32) (to : Nat → Int32) (oo : Nat → Option Nat) (pl : Nat → Int32) (wa pr : Nat → Nat → Int32) (x : Int32) : Int32 := pc_if (x = 0) (nI n) (pc_if (x = 1) (nI oc) (pc_if (x = 2) (nI (od_ct (cc_f oo) n)) (pc_if (x = 3) (bx_sum (cm_f pl wa pr) oc) (pc_if (x = 4) (bx_sum to 10) (pc_if (x = 5) td (-1))))))
def cb_o (os : Nat → Int32) (o : Nat) : Bool := decide (os o = 2)
theorem fm_tr {ad : Nat → Nat} {N : Nat} {M M1 M2 : pw_M} (h1 : fm ad N M M1) (h2 : fm ad N M1 M2) : fm ad N M M2 := fun q e hq hx => h2 q e (h1 q e hq hx) hx
set_option maxHeartbeats 4000000 in
set_option maxRecDepth 100000 in
theorem mp_told (l : Launch) (hl : l.stackTraces = false) (G : pw_G) (M : pw_M) (am : Nat → Nat) (n oc : Nat) (td th : Int32) (sL : Int64) (dk to er os pl : Nat → Int32) (wa pr la : Nat → Nat → Int32) (hm : mw G am n oc td th sL dk to er os pl wa pr la M) (p0 p1 : Int32) : pw_Met l yX2_told cX2_told 5 (some .int) 4 0 0 G [.ref (am 0), .int p0, .int p1] M (fun v9 M9 => (cd_told oc p0 p1 = 0 ∧ v9 = some (.int (tm_r td os pl wa pr la (ix p0) p1)) ∧ mw G am n oc td 0 sL dk to er os pl wa pr la M9 ∨ ¬ cd_told oc p0 p1 = 0 ∧ (∃ z, v9 = some (.int z)) ∧ mw G am n oc td (cd_told oc p0 p1) sL dk to er os pl wa pr la M9) ∧ fm am 9 M M9) := by
  refine pw_of hl (by decide +kernel) (Nat.le_of_ble_eq_true rfl) [(0, .ref (am 0)), (1, .int p0), (2, .int p1)] rfl ?_
  intro p9 e9 s9 m9 args9 below9 meth9 c9 hX hrt hmi
  generalize hQ9 : MQ below9 _ args9 s9 _ _ _ = Q9
  have hn9 := mw_n hm
  have hoc := mw_oc hm
  refine pw_aload_n (pc := 0) hX dX2_told_0 0 rfl ?_
  refine pw_iload_n (pc := 1) hX dX2_told_1 1 rfl ?_
  refine pw_aload_n (pc := 2) hX dX2_told_2 0 rfl ?_
  refine pw_get (pc := 3) hX dX2_told_3 hm.1 rfl inT_2 3 (by decide) fl_RX2_50 rfl ?_
  refine pw_callS (pc := 6) (st := [.ref (am 0)]) hX (mt_below l hl G M p0 oc (Nat.lt_of_le_of_lt (mw_oc hm) (by decide))) ok_X2_below lk_RX2_53 dX2_told_6 rfl ⟨⟨by decide, by decide⟩, Nat.le_of_ble_eq_true rfl, Nat.le_of_ble_eq_true rfl, Nat.le_of_ble_eq_true rfl⟩ rfl (fun v9 M9 hp9 => ?_)
  obtain ⟨rfl, ⟨rfl, j, hj, rfl⟩ | ⟨rfl, hno_p0⟩⟩ := hp9
  · have hjB : j < 2 ^ 31 := Nat.lt_of_lt_of_le hj (Nat.le_trans (mw_oc hm) (by decide))
    refine pw_if_ne (pc := 9) hX 16 dX2_told_9 (by decide) (fun _ => ?_) (fun h => absurd h (by decide))
    refine pw_iload_n (pc := 16) hX dX2_told_16 2 rfl ?_
    refine pw_bipush (pc := 17) (v := 6) hX dX2_told_17 (by decide) ?_
    refine pw_callS (pc := 19) (st := [.ref (am 0)]) hX (mt_below l hl G M p1 6 (by decide)) ok_X2_below lk_RX2_53 dX2_told_19 rfl ⟨⟨by decide, by decide⟩, Nat.le_of_ble_eq_true rfl, Nat.le_of_ble_eq_true rfl, Nat.le_of_ble_eq_true rfl⟩ rfl (fun v9 M9 hp9 => ?_)
    obtain ⟨rfl, ⟨rfl, k, hk, rfl⟩ | ⟨rfl, hno_p1⟩⟩ := hp9
    · have hkB : k < 2 ^ 31 := Nat.lt_of_lt_of_le hk (by decide)
      refine pw_if_ne (pc := 22) hX 29 dX2_told_22 (by decide) (fun _ => ?_) (fun h => absurd h (by decide))
      refine pw_iconst (pc := 29) (v := 0) hX dX2_told_29 (by decide) ?_
      refine pw_put (pc := 30) (v := .int 0) hX dX2_told_30 hm.1 rfl inT_2 tyX2 tyX2_ok nmX2 5 (by decide) fl_RX2_43 rfl (tyX2_ok 5 (by decide)) rfl rfl (Nat.le_of_ble_eq_true rfl) [.int (nI n), .ref (am 1), .ref (am 2), .int (nI oc), .int td, .int 0, .long sL, .ref (am 3), .ref (am 4), .ref (am 5), .ref (am 6), .ref (am 7), .ref (am 8)] rfl ?_
      have hm_3 := pw_ke (a := am 0) (e := .inr (2, [.int (nI n), .ref (am 1), .ref (am 2), .int (nI oc), .int td, .int 0, .long sL, .ref (am 3), .ref (am 4), .ref (am 5), .ref (am 6), .ref (am 7), .ref (am 8)])) hm.2.1 (mw_ne hm (x := 1) (y := 0) (by decide) (by decide) (by decide))
      have hm_4 := pw_ke (a := am 0) (e := .inr (2, [.int (nI n), .ref (am 1), .ref (am 2), .int (nI oc), .int td, .int 0, .long sL, .ref (am 3), .ref (am 4), .ref (am 5), .ref (am 6), .ref (am 7), .ref (am 8)])) hm.2.2.1 (mw_ne hm (x := 2) (y := 0) (by decide) (by decide) (by decide))
      have hm_5 := pw_ke (a := am 0) (e := .inr (2, [.int (nI n), .ref (am 1), .ref (am 2), .int (nI oc), .int td, .int 0, .long sL, .ref (am 3), .ref (am 4), .ref (am 5), .ref (am 6), .ref (am 7), .ref (am 8)])) hm.2.2.2.1 (mw_ne hm (x := 3) (y := 0) (by decide) (by decide) (by decide))
      have hm_6 := pw_ke (a := am 0) (e := .inr (2, [.int (nI n), .ref (am 1), .ref (am 2), .int (nI oc), .int td, .int 0, .long sL, .ref (am 3), .ref (am 4), .ref (am 5), .ref (am 6), .ref (am 7), .ref (am 8)])) hm.2.2.2.2.1 (mw_ne hm (x := 4) (y := 0) (by decide) (by decide) (by decide))
      have hm_7 := pw_ke (a := am 0) (e := .inr (2, [.int (nI n), .ref (am 1), .ref (am 2), .int (nI oc), .int td, .int 0, .long sL, .ref (am 3), .ref (am 4), .ref (am 5), .ref (am 6), .ref (am 7), .ref (am 8)])) hm.2.2.2.2.2.1 (mw_ne hm (x := 5) (y := 0) (by decide) (by decide) (by decide))
      have hm_8 := pw_ke (a := am 0) (e := .inr (2, [.int (nI n), .ref (am 1), .ref (am 2), .int (nI oc), .int td, .int 0, .long sL, .ref (am 3), .ref (am 4), .ref (am 5), .ref (am 6), .ref (am 7), .ref (am 8)])) hm.2.2.2.2.2.2.1 (mw_ne hm (x := 6) (y := 0) (by decide) (by decide) (by decide))
      have hm_9 := pw_ke (a := am 0) (e := .inr (2, [.int (nI n), .ref (am 1), .ref (am 2), .int (nI oc), .int td, .int 0, .long sL, .ref (am 3), .ref (am 4), .ref (am 5), .ref (am 6), .ref (am 7), .ref (am 8)])) hm.2.2.2.2.2.2.2.1 (mw_ne hm (x := 7) (y := 0) (by decide) (by decide) (by decide))
      have hm_10 := pw_ke (a := am 0) (e := .inr (2, [.int (nI n), .ref (am 1), .ref (am 2), .int (nI oc), .int td, .int 0, .long sL, .ref (am 3), .ref (am 4), .ref (am 5), .ref (am 6), .ref (am 7), .ref (am 8)])) hm.2.2.2.2.2.2.2.2.1 (mw_ne hm (x := 8) (y := 0) (by decide) (by decide) (by decide))
      have hm_11 : pw_up M (am 0) (.inr (2, [.int (nI n), .ref (am 1), .ref (am 2), .int (nI oc), .int td, .int 0, .long sL, .ref (am 3), .ref (am 4), .ref (am 5), .ref (am 6), .ref (am 7), .ref (am 8)])) (am 0) = some (.inr (2, [.int (nI n), .ref (am 1), .ref (am 2), .int (nI oc), .int td, .int 0, .long sL, .ref (am 3), .ref (am 4), .ref (am 5), .ref (am 6), .ref (am 7), .ref (am 8)])) := pw_us
      refine pw_aload_n (pc := 33) hX dX2_told_33 0 rfl ?_
      refine pw_get (pc := 34) hX dX2_told_34 hm_11 rfl inT_2 5 (by decide) fl_RX2_43 rfl ?_
      refine pw_if_eq (pc := 37) hX 42 dX2_told_37 (by decide) (fun _ => ?_) (fun h => absurd h (by decide))
      rcases (show k = 0 ∨ k = 1 ∨ k = 2 ∨ k = 3 ∨ k = 4 ∨ k = 5 by omega) with rfl | rfl | rfl | rfl | rfl | rfl
      · refine pw_iload_n (pc := 42) hX dX2_told_42 2 rfl ?_
        refine pw_if_ne (pc := 43) hX 53 dX2_told_43 (by decide) (fun h => absurd h (by decide)) (fun _ => ?_)
        refine pw_aload_n (pc := 46) hX dX2_told_46 0 rfl ?_
        refine pw_get (pc := 47) hX dX2_told_47 hm_11 rfl inT_2 7 (by decide) fl_RX2_21 rfl ?_
        refine pw_iload_n (pc := 50) hX dX2_told_50 1 rfl ?_
        refine pw_iald (pc := 51) (j := j) hX dX2_told_51 hm_5 (by omega) (by decide) ?_
        subst hQ9
        exact pw_iret hX dX2_told_52 hrt ⟨by decide, by decide⟩ (by rw [ix_nI hjB]; exact ⟨Or.inl ⟨pc2_0 (fun h => h (ir_nI hj)) (fun h => h (ir_nI (by decide))), by unfold tm_r; rw [pc_t (by decide)], (mw_ob hm (oc) (mw_oc hm) td 0 sL)⟩, (fm_up fm_rf (x := 0) (by decide) _)⟩)
      · refine pw_iload_n (pc := 42) hX dX2_told_42 2 rfl ?_
        refine pw_if_ne (pc := 43) hX 53 dX2_told_43 (by decide) (fun _ => ?_) (fun h => absurd h (by decide))
        refine pw_iload_n (pc := 53) hX dX2_told_53 2 rfl ?_
        refine pw_iconst (pc := 54) (v := 1) hX dX2_told_54 (by decide) ?_
        refine pw_icmp_ne (pc := 55) hX 65 dX2_told_55 (by decide) (fun h => absurd h (by decide)) (fun _ => ?_)
        refine pw_aload_n (pc := 58) hX dX2_told_58 0 rfl ?_
        refine pw_get (pc := 59) hX dX2_told_59 hm_11 rfl inT_2 8 (by decide) fl_RX2_24 rfl ?_
        refine pw_iload_n (pc := 62) hX dX2_told_62 1 rfl ?_
        refine pw_iald (pc := 63) (j := j) hX dX2_told_63 hm_6 (by omega) (by decide) ?_
        subst hQ9
        exact pw_iret hX dX2_told_64 hrt ⟨by decide, by decide⟩ (by rw [ix_nI hjB]; exact ⟨Or.inl ⟨pc2_0 (fun h => h (ir_nI hj)) (fun h => h (ir_nI (by decide))), by unfold tm_r; rw [pc_f (by decide), pc_t (by decide)], (mw_ob hm (oc) (mw_oc hm) td 0 sL)⟩, (fm_up fm_rf (x := 0) (by decide) _)⟩)
      · refine pw_iload_n (pc := 42) hX dX2_told_42 2 rfl ?_
        refine pw_if_ne (pc := 43) hX 53 dX2_told_43 (by decide) (fun _ => ?_) (fun h => absurd h (by decide))
        refine pw_iload_n (pc := 53) hX dX2_told_53 2 rfl ?_
        refine pw_iconst (pc := 54) (v := 1) hX dX2_told_54 (by decide) ?_
        refine pw_icmp_ne (pc := 55) hX 65 dX2_told_55 (by decide) (fun _ => ?_) (fun h => absurd h (by decide))
        refine pw_iload_n (pc := 65) hX dX2_told_65 2 rfl ?_
        refine pw_iconst (pc := 66) (v := 2) hX dX2_told_66 (by decide) ?_
        refine pw_icmp_ne (pc := 67) hX 76 dX2_told_67 (by decide) (fun h => absurd h (by decide)) (fun _ => ?_)
        refine pw_aload_n (pc := 70) hX dX2_told_70 0 rfl ?_
        refine pw_iload_n (pc := 71) hX dX2_told_71 1 rfl ?_
        refine pw_callV (pc := 72) (st := []) hX (mt_linesOf l hl G _ am _ _ _ _ _ _ _ _ _ _ _ _ _ (mw_ob hm (oc) (mw_oc hm) td 0 sL) j hj) hm_11 rfl ok_X2_linesOf lk_RX2_56 dX2_told_72 rfl ⟨⟨by decide, by decide⟩, Nat.le_of_ble_eq_true rfl, Nat.le_of_ble_eq_true rfl, Nat.le_of_ble_eq_true rfl⟩ rfl (fun v9 M9 hp9 => ?_)
        obtain ⟨rfl, rfl⟩ := hp9
        subst hQ9
        exact pw_iret hX dX2_told_75 hrt ⟨by decide, by decide⟩ (by rw [ix_nI hjB]; exact ⟨Or.inl ⟨pc2_0 (fun h => h (ir_nI hj)) (fun h => h (ir_nI (by decide))), by unfold tm_r; rw [pc_f (by decide), pc_f (by decide), pc_t (by decide)], (mw_ob hm (oc) (mw_oc hm) td 0 sL)⟩, (fm_up fm_rf (x := 0) (by decide) _)⟩)
      · refine pw_iload_n (pc := 42) hX dX2_told_42 2 rfl ?_
        refine pw_if_ne (pc := 43) hX 53 dX2_told_43 (by decide) (fun _ => ?_) (fun h => absurd h (by decide))
        refine pw_iload_n (pc := 53) hX dX2_told_53 2 rfl ?_
        refine pw_iconst (pc := 54) (v := 1) hX dX2_told_54 (by decide) ?_
        refine pw_icmp_ne (pc := 55) hX 65 dX2_told_55 (by decide) (fun _ => ?_) (fun h => absurd h (by decide))
        refine pw_iload_n (pc := 65) hX dX2_told_65 2 rfl ?_
        refine pw_iconst (pc := 66) (v := 2) hX dX2_told_66 (by decide) ?_
        refine pw_icmp_ne (pc := 67) hX 76 dX2_told_67 (by decide) (fun _ => ?_) (fun h => absurd h (by decide))
        refine pw_iconst (pc := 76) (v := 0) hX dX2_told_76 (by decide) ?_
        refine pw_istore_n (pc := 77) hX [(3, .int 0), (0, .ref (am 0)), (1, .int (nI j)), (2, .int (nI 3))] dX2_told_77 (by decide) rfl ?_
        refine pw_iconst (pc := 78) (v := 0) hX dX2_told_78 (by decide) ?_
        refine pw_istore (pc := 79) hX [(4, .int 0), (3, .int 0), (0, .ref (am 0)), (1, .int (nI j)), (2, .int (nI 3))] dX2_told_79 (by decide) rfl ?_
        refine pw_lp (P := fun k_22 => pw_W p9 l e9 (pw_rm 4 0 0) s9 m9 args9 below9 meth9 c9 Q9 G 5 (pw_up M (am 0) (.inr (2, [.int (nI n), .ref (am 1), .ref (am 2), .int (nI oc), .int td, .int 0, .long sL, .ref (am 3), .ref (am 4), .ref (am 5), .ref (am 6), .ref (am 7), .ref (am 8)]))) (0 + 0 + 0) (0 + 0 + 0) 81 [(4, .int (nI (k_22))), (3, .int (bx_sum (tl_f wa j (pr j)) (k_22))), (0, .ref (am 0)), (1, .int (nI j)), (2, .int (nI 3))] []) 10 ?_ ?_ 0 (Nat.zero_le _)
        · refine pw_iload (pc := 81) hX dX2_told_81 0 rfl ?_
          refine pw_bipush (pc := 83) (v := 10) hX dX2_told_83 (by decide) ?_
          refine pw_icmp_ge (pc := 85) hX 168 dX2_told_85 (by decide) (fun hc_23 => ?_) (fun hc_23 => absurd (by decide) hc_23)
          refine pw_iload_n (pc := 168) hX dX2_told_168 1 rfl ?_
          subst hQ9
          exact pw_iret hX dX2_told_169 hrt ⟨by decide, by decide⟩ (by rw [ix_nI hjB]; exact ⟨Or.inl ⟨pc2_0 (fun h => h (ir_nI hj)) (fun h => h (ir_nI (by decide))), by unfold tm_r; rw [pc_f (by decide), pc_f (by decide), pc_f (by decide), pc_t (by decide)], (mw_ob hm (oc) (mw_oc hm) td 0 sL)⟩, (fm_up fm_rf (x := 0) (by decide) _)⟩)
        · intro k_22 hk_22 ih_k_22
          refine pw_iload (pc := 81) hX dX2_told_81 0 rfl ?_
          refine pw_bipush (pc := 83) (v := 10) hX dX2_told_83 (by decide) ?_
          refine pw_icmp_ge (pc := 85) hX 168 dX2_told_85 (by decide) (fun hc_24 => absurd hc_24 (nI_ge (b := 10) hk_22 (by decide))) (fun hc_24 => ?_)
          refine pw_aload_n (pc := 88) hX dX2_told_88 2 rfl ?_
          refine pw_iload_n (pc := 89) hX dX2_told_89 3 rfl ?_
          refine pw_iload (pc := 90) hX dX2_told_90 0 rfl ?_
          refine pw_callV (pc := 92) (st := []) hX (mt_hasLine l hl G _ am _ _ _ _ _ _ _ _ _ _ _ _ _ (mw_ob hm (oc) (mw_oc hm) td 0 sL) j k_22 hj hk_22) hm_11 rfl ok_X2_hasLine lk_RX2_46 dX2_told_92 rfl ⟨⟨by decide, by decide⟩, Nat.le_of_ble_eq_true rfl, Nat.le_of_ble_eq_true rfl, Nat.le_of_ble_eq_true rfl⟩ rfl (fun v9 M9 hp9 => ?_)
          obtain ⟨rfl, rfl⟩ := hp9
          refine pw_if_eq (pc := 95) hX 162 dX2_told_95 (by decide) (fun hc_25 => ?_) (fun hc_25 => ?_)
          · refine pw_iinc (pc := 162) (v := nI ((k_22) + 1)) (j := 0) hX [(4, .int (nI ((k_22) + 1))), (3, .int (bx_sum (tl_f wa j (pr j)) (k_22))), (0, .ref (am 0)), (1, .int (nI j)), (2, .int (nI 3))] dX2_told_162 rfl (nI_1 _) (by decide) rfl ?_
            refine pw_goto (pc := 165) hX 81 dX2_told_165 (by decide) ?_
            rw [tl_n (pw_ite0 hc_25)] at ih_k_22
            exact pw_lv [0, 1, 2, 3, 4] _ rfl (ih_k_22)
          · refine pw_iload_n (pc := 98) hX dX2_told_98 1 rfl ?_
            refine pw_iload_n (pc := 99) hX dX2_told_99 4 rfl ?_
            refine pw_iconst (pc := 100) (v := 3) hX dX2_told_100 (by decide) ?_
            refine pw_icmp_ne (pc := 101) hX 119 dX2_told_101 (by decide) (fun h => absurd h (by decide)) (fun _ => ?_)
            refine pw_aload_n (pc := 104) hX dX2_told_104 2 rfl ?_
            refine pw_get (pc := 105) hX dX2_told_105 hm_11 rfl inT_2 10 (by decide) fl_RX2_30 rfl ?_
            refine pw_bipush (pc := 108) (v := 10) hX dX2_told_108 (by decide) ?_
            refine pw_iload_n (pc := 110) hX dX2_told_110 3 rfl ?_
            refine pw_imul (pc := 111) (z := nI (10 * j)) hX dX2_told_111 (pk_mul 10 _) ?_
            refine pw_iload (pc := 112) hX dX2_told_112 0 rfl ?_
            refine pw_iadd (pc := 114) (z := nI (10 * j + k_22)) hX dX2_told_114 (nI_add _ _) ?_
            refine pw_iald (pc := 115) (j := 10 * j + k_22) hX dX2_told_115 hm_8 (by omega) (by decide) ?_
            refine pw_cg (vb := .int (pr j k_22)) (congrArg Value.int (fl_at pr j hk_22)) ?_
            refine pw_goto (pc := 116) hX 160 dX2_told_116 (by decide) ?_
            refine pw_iadd (pc := 160) (z := bx_sum (tl_f wa j (pr j)) (k_22 + 1)) hX dX2_told_160 (tl_t (X := (pr j)) (pw_ite1 hc_25) rfl) ?_
            refine pw_istore_n (pc := 161) hX [(3, .int (bx_sum (tl_f wa j (pr j)) (k_22 + 1))), (4, .int (nI (k_22))), (0, .ref (am 0)), (1, .int (nI j)), (2, .int (nI 3))] dX2_told_161 (by decide) rfl ?_
            refine pw_iinc (pc := 162) (v := nI ((k_22) + 1)) (j := 1) hX [(4, .int (nI ((k_22) + 1))), (3, .int (bx_sum (tl_f wa j (pr j)) (k_22 + 1))), (0, .ref (am 0)), (1, .int (nI j)), (2, .int (nI 3))] dX2_told_162 rfl (nI_1 _) (by decide) rfl ?_
            refine pw_goto (pc := 165) hX 81 dX2_told_165 (by decide) ?_
            exact pw_lv [0, 1, 2, 3, 4] _ rfl (ih_k_22)
      · refine pw_iload_n (pc := 42) hX dX2_told_42 2 rfl ?_
        refine pw_if_ne (pc := 43) hX 53 dX2_told_43 (by decide) (fun _ => ?_) (fun h => absurd h (by decide))
        refine pw_iload_n (pc := 53) hX dX2_told_53 2 rfl ?_
        refine pw_iconst (pc := 54) (v := 1) hX dX2_told_54 (by decide) ?_
        refine pw_icmp_ne (pc := 55) hX 65 dX2_told_55 (by decide) (fun _ => ?_) (fun h => absurd h (by decide))
        refine pw_iload_n (pc := 65) hX dX2_told_65 2 rfl ?_
        refine pw_iconst (pc := 66) (v := 2) hX dX2_told_66 (by decide) ?_
        refine pw_icmp_ne (pc := 67) hX 76 dX2_told_67 (by decide) (fun _ => ?_) (fun h => absurd h (by decide))
        refine pw_iconst (pc := 76) (v := 0) hX dX2_told_76 (by decide) ?_
        refine pw_istore_n (pc := 77) hX [(3, .int 0), (0, .ref (am 0)), (1, .int (nI j)), (2, .int (nI 4))] dX2_told_77 (by decide) rfl ?_
        refine pw_iconst (pc := 78) (v := 0) hX dX2_told_78 (by decide) ?_
        refine pw_istore (pc := 79) hX [(4, .int 0), (3, .int 0), (0, .ref (am 0)), (1, .int (nI j)), (2, .int (nI 4))] dX2_told_79 (by decide) rfl ?_
        refine pw_lp (P := fun k_30 => pw_W p9 l e9 (pw_rm 4 0 0) s9 m9 args9 below9 meth9 c9 Q9 G 5 (pw_up M (am 0) (.inr (2, [.int (nI n), .ref (am 1), .ref (am 2), .int (nI oc), .int td, .int 0, .long sL, .ref (am 3), .ref (am 4), .ref (am 5), .ref (am 6), .ref (am 7), .ref (am 8)]))) (0 + 0 + 0) (0 + 0 + 0) 81 [(4, .int (nI (k_30))), (3, .int (bx_sum (tl_f wa j (wa j)) (k_30))), (0, .ref (am 0)), (1, .int (nI j)), (2, .int (nI 4))] []) 10 ?_ ?_ 0 (Nat.zero_le _)
        · refine pw_iload (pc := 81) hX dX2_told_81 0 rfl ?_
          refine pw_bipush (pc := 83) (v := 10) hX dX2_told_83 (by decide) ?_
          refine pw_icmp_ge (pc := 85) hX 168 dX2_told_85 (by decide) (fun hc_31 => ?_) (fun hc_31 => absurd (by decide) hc_31)
          refine pw_iload_n (pc := 168) hX dX2_told_168 1 rfl ?_
          subst hQ9
          exact pw_iret hX dX2_told_169 hrt ⟨by decide, by decide⟩ (by rw [ix_nI hjB]; exact ⟨Or.inl ⟨pc2_0 (fun h => h (ir_nI hj)) (fun h => h (ir_nI (by decide))), by unfold tm_r; rw [pc_f (by decide), pc_f (by decide), pc_f (by decide), pc_f (by decide), pc_t (by decide)], (mw_ob hm (oc) (mw_oc hm) td 0 sL)⟩, (fm_up fm_rf (x := 0) (by decide) _)⟩)
        · intro k_30 hk_30 ih_k_30
          refine pw_iload (pc := 81) hX dX2_told_81 0 rfl ?_
          refine pw_bipush (pc := 83) (v := 10) hX dX2_told_83 (by decide) ?_
          refine pw_icmp_ge (pc := 85) hX 168 dX2_told_85 (by decide) (fun hc_32 => absurd hc_32 (nI_ge (b := 10) hk_30 (by decide))) (fun hc_32 => ?_)
          refine pw_aload_n (pc := 88) hX dX2_told_88 2 rfl ?_
          refine pw_iload_n (pc := 89) hX dX2_told_89 3 rfl ?_
          refine pw_iload (pc := 90) hX dX2_told_90 0 rfl ?_
          refine pw_callV (pc := 92) (st := []) hX (mt_hasLine l hl G _ am _ _ _ _ _ _ _ _ _ _ _ _ _ (mw_ob hm (oc) (mw_oc hm) td 0 sL) j k_30 hj hk_30) hm_11 rfl ok_X2_hasLine lk_RX2_46 dX2_told_92 rfl ⟨⟨by decide, by decide⟩, Nat.le_of_ble_eq_true rfl, Nat.le_of_ble_eq_true rfl, Nat.le_of_ble_eq_true rfl⟩ rfl (fun v9 M9 hp9 => ?_)
          obtain ⟨rfl, rfl⟩ := hp9
          refine pw_if_eq (pc := 95) hX 162 dX2_told_95 (by decide) (fun hc_33 => ?_) (fun hc_33 => ?_)
          · refine pw_iinc (pc := 162) (v := nI ((k_30) + 1)) (j := 0) hX [(4, .int (nI ((k_30) + 1))), (3, .int (bx_sum (tl_f wa j (wa j)) (k_30))), (0, .ref (am 0)), (1, .int (nI j)), (2, .int (nI 4))] dX2_told_162 rfl (nI_1 _) (by decide) rfl ?_
            refine pw_goto (pc := 165) hX 81 dX2_told_165 (by decide) ?_
            rw [tl_n (pw_ite0 hc_33)] at ih_k_30
            exact pw_lv [0, 1, 2, 3, 4] _ rfl (ih_k_30)
          · refine pw_iload_n (pc := 98) hX dX2_told_98 1 rfl ?_
            refine pw_iload_n (pc := 99) hX dX2_told_99 4 rfl ?_
            refine pw_iconst (pc := 100) (v := 3) hX dX2_told_100 (by decide) ?_
            refine pw_icmp_ne (pc := 101) hX 119 dX2_told_101 (by decide) (fun _ => ?_) (fun h => absurd h (by decide))
            refine pw_iload_n (pc := 119) hX dX2_told_119 4 rfl ?_
            refine pw_iconst (pc := 120) (v := 4) hX dX2_told_120 (by decide) ?_
            refine pw_icmp_ne (pc := 121) hX 139 dX2_told_121 (by decide) (fun h => absurd h (by decide)) (fun _ => ?_)
            refine pw_aload_n (pc := 124) hX dX2_told_124 2 rfl ?_
            refine pw_get (pc := 125) hX dX2_told_125 hm_11 rfl inT_2 9 (by decide) fl_RX2_27 rfl ?_
            refine pw_bipush (pc := 128) (v := 10) hX dX2_told_128 (by decide) ?_
            refine pw_iload_n (pc := 130) hX dX2_told_130 3 rfl ?_
            refine pw_imul (pc := 131) (z := nI (10 * j)) hX dX2_told_131 (pk_mul 10 _) ?_
            refine pw_iload (pc := 132) hX dX2_told_132 0 rfl ?_
            refine pw_iadd (pc := 134) (z := nI (10 * j + k_30)) hX dX2_told_134 (nI_add _ _) ?_
            refine pw_iald (pc := 135) (j := 10 * j + k_30) hX dX2_told_135 hm_7 (by omega) (by decide) ?_
            refine pw_cg (vb := .int (wa j k_30)) (congrArg Value.int (fl_at wa j hk_30)) ?_
            refine pw_goto (pc := 136) hX 160 dX2_told_136 (by decide) ?_
            refine pw_iadd (pc := 160) (z := bx_sum (tl_f wa j (wa j)) (k_30 + 1)) hX dX2_told_160 (tl_t (X := (wa j)) (pw_ite1 hc_33) rfl) ?_
            refine pw_istore_n (pc := 161) hX [(3, .int (bx_sum (tl_f wa j (wa j)) (k_30 + 1))), (4, .int (nI (k_30))), (0, .ref (am 0)), (1, .int (nI j)), (2, .int (nI 4))] dX2_told_161 (by decide) rfl ?_
            refine pw_iinc (pc := 162) (v := nI ((k_30) + 1)) (j := 1) hX [(4, .int (nI ((k_30) + 1))), (3, .int (bx_sum (tl_f wa j (wa j)) (k_30 + 1))), (0, .ref (am 0)), (1, .int (nI j)), (2, .int (nI 4))] dX2_told_162 rfl (nI_1 _) (by decide) rfl ?_
            refine pw_goto (pc := 165) hX 81 dX2_told_165 (by decide) ?_
            exact pw_lv [0, 1, 2, 3, 4] _ rfl (ih_k_30)
      · refine pw_iload_n (pc := 42) hX dX2_told_42 2 rfl ?_
        refine pw_if_ne (pc := 43) hX 53 dX2_told_43 (by decide) (fun _ => ?_) (fun h => absurd h (by decide))
        refine pw_iload_n (pc := 53) hX dX2_told_53 2 rfl ?_
        refine pw_iconst (pc := 54) (v := 1) hX dX2_told_54 (by decide) ?_
        refine pw_icmp_ne (pc := 55) hX 65 dX2_told_55 (by decide) (fun _ => ?_) (fun h => absurd h (by decide))
        refine pw_iload_n (pc := 65) hX dX2_told_65 2 rfl ?_
        refine pw_iconst (pc := 66) (v := 2) hX dX2_told_66 (by decide) ?_
        refine pw_icmp_ne (pc := 67) hX 76 dX2_told_67 (by decide) (fun _ => ?_) (fun h => absurd h (by decide))
        refine pw_iconst (pc := 76) (v := 0) hX dX2_told_76 (by decide) ?_
        refine pw_istore_n (pc := 77) hX [(3, .int 0), (0, .ref (am 0)), (1, .int (nI j)), (2, .int (nI 5))] dX2_told_77 (by decide) rfl ?_
        refine pw_iconst (pc := 78) (v := 0) hX dX2_told_78 (by decide) ?_
        refine pw_istore (pc := 79) hX [(4, .int 0), (3, .int 0), (0, .ref (am 0)), (1, .int (nI j)), (2, .int (nI 5))] dX2_told_79 (by decide) rfl ?_
        refine pw_lp (P := fun k_39 => pw_W p9 l e9 (pw_rm 4 0 0) s9 m9 args9 below9 meth9 c9 Q9 G 5 (pw_up M (am 0) (.inr (2, [.int (nI n), .ref (am 1), .ref (am 2), .int (nI oc), .int td, .int 0, .long sL, .ref (am 3), .ref (am 4), .ref (am 5), .ref (am 6), .ref (am 7), .ref (am 8)]))) (0 + 0 + 0) (0 + 0 + 0) 81 [(4, .int (nI (k_39))), (3, .int (bx_sum (tl_f wa j (od_gu td (wa j) (pr j) (la j))) (k_39))), (0, .ref (am 0)), (1, .int (nI j)), (2, .int (nI 5))] []) 10 ?_ ?_ 0 (Nat.zero_le _)
        · refine pw_iload (pc := 81) hX dX2_told_81 0 rfl ?_
          refine pw_bipush (pc := 83) (v := 10) hX dX2_told_83 (by decide) ?_
          refine pw_icmp_ge (pc := 85) hX 168 dX2_told_85 (by decide) (fun hc_40 => ?_) (fun hc_40 => absurd (by decide) hc_40)
          refine pw_iload_n (pc := 168) hX dX2_told_168 1 rfl ?_
          subst hQ9
          exact pw_iret hX dX2_told_169 hrt ⟨by decide, by decide⟩ (by rw [ix_nI hjB]; exact ⟨Or.inl ⟨pc2_0 (fun h => h (ir_nI hj)) (fun h => h (ir_nI (by decide))), by unfold tm_r; rw [pc_f (by decide), pc_f (by decide), pc_f (by decide), pc_f (by decide), pc_f (by decide)], (mw_ob hm (oc) (mw_oc hm) td 0 sL)⟩, (fm_up fm_rf (x := 0) (by decide) _)⟩)
        · intro k_39 hk_39 ih_k_39
          refine pw_iload (pc := 81) hX dX2_told_81 0 rfl ?_
          refine pw_bipush (pc := 83) (v := 10) hX dX2_told_83 (by decide) ?_
          refine pw_icmp_ge (pc := 85) hX 168 dX2_told_85 (by decide) (fun hc_41 => absurd hc_41 (nI_ge (b := 10) hk_39 (by decide))) (fun hc_41 => ?_)
          refine pw_aload_n (pc := 88) hX dX2_told_88 2 rfl ?_
          refine pw_iload_n (pc := 89) hX dX2_told_89 3 rfl ?_
          refine pw_iload (pc := 90) hX dX2_told_90 0 rfl ?_
          refine pw_callV (pc := 92) (st := []) hX (mt_hasLine l hl G _ am _ _ _ _ _ _ _ _ _ _ _ _ _ (mw_ob hm (oc) (mw_oc hm) td 0 sL) j k_39 hj hk_39) hm_11 rfl ok_X2_hasLine lk_RX2_46 dX2_told_92 rfl ⟨⟨by decide, by decide⟩, Nat.le_of_ble_eq_true rfl, Nat.le_of_ble_eq_true rfl, Nat.le_of_ble_eq_true rfl⟩ rfl (fun v9 M9 hp9 => ?_)
          obtain ⟨rfl, rfl⟩ := hp9
          refine pw_if_eq (pc := 95) hX 162 dX2_told_95 (by decide) (fun hc_42 => ?_) (fun hc_42 => ?_)
          · refine pw_iinc (pc := 162) (v := nI ((k_39) + 1)) (j := 0) hX [(4, .int (nI ((k_39) + 1))), (3, .int (bx_sum (tl_f wa j (od_gu td (wa j) (pr j) (la j))) (k_39))), (0, .ref (am 0)), (1, .int (nI j)), (2, .int (nI 5))] dX2_told_162 rfl (nI_1 _) (by decide) rfl ?_
            refine pw_goto (pc := 165) hX 81 dX2_told_165 (by decide) ?_
            rw [tl_n (pw_ite0 hc_42)] at ih_k_39
            exact pw_lv [0, 1, 2, 3, 4] _ rfl (ih_k_39)
          · refine pw_iload_n (pc := 98) hX dX2_told_98 1 rfl ?_
            refine pw_iload_n (pc := 99) hX dX2_told_99 4 rfl ?_
            refine pw_iconst (pc := 100) (v := 3) hX dX2_told_100 (by decide) ?_
            refine pw_icmp_ne (pc := 101) hX 119 dX2_told_101 (by decide) (fun _ => ?_) (fun h => absurd h (by decide))
            refine pw_iload_n (pc := 119) hX dX2_told_119 4 rfl ?_
            refine pw_iconst (pc := 120) (v := 4) hX dX2_told_120 (by decide) ?_
            refine pw_icmp_ne (pc := 121) hX 139 dX2_told_121 (by decide) (fun _ => ?_) (fun h => absurd h (by decide))
            refine pw_aload_n (pc := 139) hX dX2_told_139 2 rfl ?_
            refine pw_iload_n (pc := 140) hX dX2_told_140 3 rfl ?_
            refine pw_iload (pc := 141) hX dX2_told_141 0 rfl ?_
            refine pw_callV (pc := 143) (st := [.int (bx_sum (tl_f wa j (od_gu td (wa j) (pr j) (la j))) (k_39))]) hX (mt_givenUp l hl G _ am _ _ _ _ _ _ _ _ _ _ _ _ _ (mw_ob hm (oc) (mw_oc hm) td 0 sL) j k_39 hj hk_39) hm_11 rfl ok_X2_givenUp lk_RX2_76 dX2_told_143 rfl ⟨⟨by decide, by decide⟩, Nat.le_of_ble_eq_true rfl, Nat.le_of_ble_eq_true rfl, Nat.le_of_ble_eq_true rfl⟩ rfl (fun v9 M9 hp9 => ?_)
            obtain ⟨rfl, ⟨rfl, hgu⟩ | ⟨rfl, hgu⟩⟩ := hp9
            · refine pw_if_eq (pc := 146) hX 159 dX2_told_146 (by decide) (fun h => absurd h (by decide)) (fun _ => ?_)
              refine pw_aload_n (pc := 149) hX dX2_told_149 2 rfl ?_
              refine pw_iload_n (pc := 150) hX dX2_told_150 3 rfl ?_
              refine pw_iload (pc := 151) hX dX2_told_151 0 rfl ?_
              refine pw_callV (pc := 153) (st := [.int (bx_sum (tl_f wa j (od_gu td (wa j) (pr j) (la j))) (k_39))]) hX (mt_missing l hl G _ am _ _ _ _ _ _ _ _ _ _ _ _ _ (mw_ob hm (oc) (mw_oc hm) td 0 sL) j k_39 hj hk_39) hm_11 rfl ok_X2_missing lk_RX2_70 dX2_told_153 rfl ⟨⟨by decide, by decide⟩, Nat.le_of_ble_eq_true rfl, Nat.le_of_ble_eq_true rfl, Nat.le_of_ble_eq_true rfl⟩ rfl (fun v9 M9 hp9 => ?_)
              obtain ⟨rfl, rfl⟩ := hp9
              refine pw_goto (pc := 156) hX 160 dX2_told_156 (by decide) ?_
              refine pw_iadd (pc := 160) (z := bx_sum (tl_f wa j (od_gu td (wa j) (pr j) (la j))) (k_39 + 1)) hX dX2_told_160 (tl_t (X := (od_gu td (wa j) (pr j) (la j))) (pw_ite1 hc_42) (if_pos hgu)) ?_
              refine pw_istore_n (pc := 161) hX [(3, .int (bx_sum (tl_f wa j (od_gu td (wa j) (pr j) (la j))) (k_39 + 1))), (4, .int (nI (k_39))), (0, .ref (am 0)), (1, .int (nI j)), (2, .int (nI 5))] dX2_told_161 (by decide) rfl ?_
              refine pw_iinc (pc := 162) (v := nI ((k_39) + 1)) (j := 1) hX [(4, .int (nI ((k_39) + 1))), (3, .int (bx_sum (tl_f wa j (od_gu td (wa j) (pr j) (la j))) (k_39 + 1))), (0, .ref (am 0)), (1, .int (nI j)), (2, .int (nI 5))] dX2_told_162 rfl (nI_1 _) (by decide) rfl ?_
              refine pw_goto (pc := 165) hX 81 dX2_told_165 (by decide) ?_
              exact pw_lv [0, 1, 2, 3, 4] _ rfl (ih_k_39)
            · refine pw_if_eq (pc := 146) hX 159 dX2_told_146 (by decide) (fun _ => ?_) (fun h => absurd h (by decide))
              refine pw_iconst (pc := 159) (v := 0) hX dX2_told_159 (by decide) ?_
              refine pw_iadd (pc := 160) (z := bx_sum (tl_f wa j (od_gu td (wa j) (pr j) (la j))) (k_39 + 1)) hX dX2_told_160 (tl_t (X := (od_gu td (wa j) (pr j) (la j))) (pw_ite1 hc_42) (if_neg hgu)) ?_
              refine pw_istore_n (pc := 161) hX [(3, .int (bx_sum (tl_f wa j (od_gu td (wa j) (pr j) (la j))) (k_39 + 1))), (4, .int (nI (k_39))), (0, .ref (am 0)), (1, .int (nI j)), (2, .int (nI 5))] dX2_told_161 (by decide) rfl ?_
              refine pw_iinc (pc := 162) (v := nI ((k_39) + 1)) (j := 1) hX [(4, .int (nI ((k_39) + 1))), (3, .int (bx_sum (tl_f wa j (od_gu td (wa j) (pr j) (la j))) (k_39 + 1))), (0, .ref (am 0)), (1, .int (nI j)), (2, .int (nI 5))] dX2_told_162 rfl (nI_1 _) (by decide) rfl ?_
              refine pw_goto (pc := 165) hX 81 dX2_told_165 (by decide) ?_
              exact pw_lv [0, 1, 2, 3, 4] _ rfl (ih_k_39)
    · refine pw_if_ne (pc := 22) hX 29 dX2_told_22 (by decide) (fun h => absurd h (by decide)) (fun _ => ?_)
      refine pw_iconst (pc := 25) (v := 2) hX dX2_told_25 (by decide) ?_
      refine pw_goto (pc := 26) hX 30 dX2_told_26 (by decide) ?_
      refine pw_put (pc := 30) (v := .int 2) hX dX2_told_30 hm.1 rfl inT_2 tyX2 tyX2_ok nmX2 5 (by decide) fl_RX2_43 rfl (tyX2_ok 5 (by decide)) rfl rfl (Nat.le_of_ble_eq_true rfl) [.int (nI n), .ref (am 1), .ref (am 2), .int (nI oc), .int td, .int 2, .long sL, .ref (am 3), .ref (am 4), .ref (am 5), .ref (am 6), .ref (am 7), .ref (am 8)] rfl ?_
      have hm_48 := pw_ke (a := am 0) (e := .inr (2, [.int (nI n), .ref (am 1), .ref (am 2), .int (nI oc), .int td, .int 2, .long sL, .ref (am 3), .ref (am 4), .ref (am 5), .ref (am 6), .ref (am 7), .ref (am 8)])) hm.2.1 (mw_ne hm (x := 1) (y := 0) (by decide) (by decide) (by decide))
      have hm_49 := pw_ke (a := am 0) (e := .inr (2, [.int (nI n), .ref (am 1), .ref (am 2), .int (nI oc), .int td, .int 2, .long sL, .ref (am 3), .ref (am 4), .ref (am 5), .ref (am 6), .ref (am 7), .ref (am 8)])) hm.2.2.1 (mw_ne hm (x := 2) (y := 0) (by decide) (by decide) (by decide))
      have hm_50 := pw_ke (a := am 0) (e := .inr (2, [.int (nI n), .ref (am 1), .ref (am 2), .int (nI oc), .int td, .int 2, .long sL, .ref (am 3), .ref (am 4), .ref (am 5), .ref (am 6), .ref (am 7), .ref (am 8)])) hm.2.2.2.1 (mw_ne hm (x := 3) (y := 0) (by decide) (by decide) (by decide))
      have hm_51 := pw_ke (a := am 0) (e := .inr (2, [.int (nI n), .ref (am 1), .ref (am 2), .int (nI oc), .int td, .int 2, .long sL, .ref (am 3), .ref (am 4), .ref (am 5), .ref (am 6), .ref (am 7), .ref (am 8)])) hm.2.2.2.2.1 (mw_ne hm (x := 4) (y := 0) (by decide) (by decide) (by decide))
      have hm_52 := pw_ke (a := am 0) (e := .inr (2, [.int (nI n), .ref (am 1), .ref (am 2), .int (nI oc), .int td, .int 2, .long sL, .ref (am 3), .ref (am 4), .ref (am 5), .ref (am 6), .ref (am 7), .ref (am 8)])) hm.2.2.2.2.2.1 (mw_ne hm (x := 5) (y := 0) (by decide) (by decide) (by decide))
      have hm_53 := pw_ke (a := am 0) (e := .inr (2, [.int (nI n), .ref (am 1), .ref (am 2), .int (nI oc), .int td, .int 2, .long sL, .ref (am 3), .ref (am 4), .ref (am 5), .ref (am 6), .ref (am 7), .ref (am 8)])) hm.2.2.2.2.2.2.1 (mw_ne hm (x := 6) (y := 0) (by decide) (by decide) (by decide))
      have hm_54 := pw_ke (a := am 0) (e := .inr (2, [.int (nI n), .ref (am 1), .ref (am 2), .int (nI oc), .int td, .int 2, .long sL, .ref (am 3), .ref (am 4), .ref (am 5), .ref (am 6), .ref (am 7), .ref (am 8)])) hm.2.2.2.2.2.2.2.1 (mw_ne hm (x := 7) (y := 0) (by decide) (by decide) (by decide))
      have hm_55 := pw_ke (a := am 0) (e := .inr (2, [.int (nI n), .ref (am 1), .ref (am 2), .int (nI oc), .int td, .int 2, .long sL, .ref (am 3), .ref (am 4), .ref (am 5), .ref (am 6), .ref (am 7), .ref (am 8)])) hm.2.2.2.2.2.2.2.2.1 (mw_ne hm (x := 8) (y := 0) (by decide) (by decide) (by decide))
      have hm_56 : pw_up M (am 0) (.inr (2, [.int (nI n), .ref (am 1), .ref (am 2), .int (nI oc), .int td, .int 2, .long sL, .ref (am 3), .ref (am 4), .ref (am 5), .ref (am 6), .ref (am 7), .ref (am 8)])) (am 0) = some (.inr (2, [.int (nI n), .ref (am 1), .ref (am 2), .int (nI oc), .int td, .int 2, .long sL, .ref (am 3), .ref (am 4), .ref (am 5), .ref (am 6), .ref (am 7), .ref (am 8)])) := pw_us
      refine pw_aload_n (pc := 33) hX dX2_told_33 0 rfl ?_
      refine pw_get (pc := 34) hX dX2_told_34 hm_56 rfl inT_2 5 (by decide) fl_RX2_43 rfl ?_
      refine pw_if_eq (pc := 37) hX 42 dX2_told_37 (by decide) (fun h => absurd h (by decide)) (fun _ => ?_)
      refine pw_iconst (pc := 40) (v := 0) hX dX2_told_40 (by decide) ?_
      subst hQ9
      exact pw_iret hX dX2_told_41 hrt ⟨by decide, by decide⟩ ⟨Or.inr ⟨by rw [show cd_told oc (nI j) p1 = 2 from pc2_2 (fun h => h (ir_nI hj)) hno_p1]; decide, ⟨_, rfl⟩, by rw [show cd_told oc (nI j) p1 = 2 from pc2_2 (fun h => h (ir_nI hj)) hno_p1]; exact (mw_ob hm (oc) (mw_oc hm) td 2 sL)⟩, (fm_up fm_rf (x := 0) (by decide) _)⟩
  · refine pw_if_ne (pc := 9) hX 16 dX2_told_9 (by decide) (fun h => absurd h (by decide)) (fun _ => ?_)
    refine pw_iconst (pc := 12) (v := 1) hX dX2_told_12 (by decide) ?_
    refine pw_goto (pc := 13) hX 30 dX2_told_13 (by decide) ?_
    refine pw_put (pc := 30) (v := .int 1) hX dX2_told_30 hm.1 rfl inT_2 tyX2 tyX2_ok nmX2 5 (by decide) fl_RX2_43 rfl (tyX2_ok 5 (by decide)) rfl rfl (Nat.le_of_ble_eq_true rfl) [.int (nI n), .ref (am 1), .ref (am 2), .int (nI oc), .int td, .int 1, .long sL, .ref (am 3), .ref (am 4), .ref (am 5), .ref (am 6), .ref (am 7), .ref (am 8)] rfl ?_
    have hm_59 := pw_ke (a := am 0) (e := .inr (2, [.int (nI n), .ref (am 1), .ref (am 2), .int (nI oc), .int td, .int 1, .long sL, .ref (am 3), .ref (am 4), .ref (am 5), .ref (am 6), .ref (am 7), .ref (am 8)])) hm.2.1 (mw_ne hm (x := 1) (y := 0) (by decide) (by decide) (by decide))
    have hm_60 := pw_ke (a := am 0) (e := .inr (2, [.int (nI n), .ref (am 1), .ref (am 2), .int (nI oc), .int td, .int 1, .long sL, .ref (am 3), .ref (am 4), .ref (am 5), .ref (am 6), .ref (am 7), .ref (am 8)])) hm.2.2.1 (mw_ne hm (x := 2) (y := 0) (by decide) (by decide) (by decide))
    have hm_61 := pw_ke (a := am 0) (e := .inr (2, [.int (nI n), .ref (am 1), .ref (am 2), .int (nI oc), .int td, .int 1, .long sL, .ref (am 3), .ref (am 4), .ref (am 5), .ref (am 6), .ref (am 7), .ref (am 8)])) hm.2.2.2.1 (mw_ne hm (x := 3) (y := 0) (by decide) (by decide) (by decide))
    have hm_62 := pw_ke (a := am 0) (e := .inr (2, [.int (nI n), .ref (am 1), .ref (am 2), .int (nI oc), .int td, .int 1, .long sL, .ref (am 3), .ref (am 4), .ref (am 5), .ref (am 6), .ref (am 7), .ref (am 8)])) hm.2.2.2.2.1 (mw_ne hm (x := 4) (y := 0) (by decide) (by decide) (by decide))
    have hm_63 := pw_ke (a := am 0) (e := .inr (2, [.int (nI n), .ref (am 1), .ref (am 2), .int (nI oc), .int td, .int 1, .long sL, .ref (am 3), .ref (am 4), .ref (am 5), .ref (am 6), .ref (am 7), .ref (am 8)])) hm.2.2.2.2.2.1 (mw_ne hm (x := 5) (y := 0) (by decide) (by decide) (by decide))
    have hm_64 := pw_ke (a := am 0) (e := .inr (2, [.int (nI n), .ref (am 1), .ref (am 2), .int (nI oc), .int td, .int 1, .long sL, .ref (am 3), .ref (am 4), .ref (am 5), .ref (am 6), .ref (am 7), .ref (am 8)])) hm.2.2.2.2.2.2.1 (mw_ne hm (x := 6) (y := 0) (by decide) (by decide) (by decide))
    have hm_65 := pw_ke (a := am 0) (e := .inr (2, [.int (nI n), .ref (am 1), .ref (am 2), .int (nI oc), .int td, .int 1, .long sL, .ref (am 3), .ref (am 4), .ref (am 5), .ref (am 6), .ref (am 7), .ref (am 8)])) hm.2.2.2.2.2.2.2.1 (mw_ne hm (x := 7) (y := 0) (by decide) (by decide) (by decide))
    have hm_66 := pw_ke (a := am 0) (e := .inr (2, [.int (nI n), .ref (am 1), .ref (am 2), .int (nI oc), .int td, .int 1, .long sL, .ref (am 3), .ref (am 4), .ref (am 5), .ref (am 6), .ref (am 7), .ref (am 8)])) hm.2.2.2.2.2.2.2.2.1 (mw_ne hm (x := 8) (y := 0) (by decide) (by decide) (by decide))
    have hm_67 : pw_up M (am 0) (.inr (2, [.int (nI n), .ref (am 1), .ref (am 2), .int (nI oc), .int td, .int 1, .long sL, .ref (am 3), .ref (am 4), .ref (am 5), .ref (am 6), .ref (am 7), .ref (am 8)])) (am 0) = some (.inr (2, [.int (nI n), .ref (am 1), .ref (am 2), .int (nI oc), .int td, .int 1, .long sL, .ref (am 3), .ref (am 4), .ref (am 5), .ref (am 6), .ref (am 7), .ref (am 8)])) := pw_us
    refine pw_aload_n (pc := 33) hX dX2_told_33 0 rfl ?_
    refine pw_get (pc := 34) hX dX2_told_34 hm_67 rfl inT_2 5 (by decide) fl_RX2_43 rfl ?_
    refine pw_if_eq (pc := 37) hX 42 dX2_told_37 (by decide) (fun h => absurd h (by decide)) (fun _ => ?_)
    refine pw_iconst (pc := 40) (v := 0) hX dX2_told_40 (by decide) ?_
    subst hQ9
    exact pw_iret hX dX2_told_41 hrt ⟨by decide, by decide⟩ ⟨Or.inr ⟨by rw [show cd_told oc p0 p1 = 1 from pc_t hno_p0]; decide, ⟨_, rfl⟩, by rw [show cd_told oc p0 p1 = 1 from pc_t hno_p0]; exact (mw_ob hm (oc) (mw_oc hm) td 1 sL)⟩, (fm_up fm_rf (x := 0) (by decide) _)⟩
set_option maxHeartbeats 4000000 in
set_option maxRecDepth 100000 in
theorem mp_count (l : Launch) (hl : l.stackTraces = false) (G : pw_G) (M : pw_M) (am : Nat → Nat) (n oc : Nat) (td th : Int32) (sL : Int64) (dk to er os pl : Nat → Int32) (wa pr la : Nat → Nat → Int32) (hm : mw G am n oc td th sL dk to er os pl wa pr la M) (oo : Nat → Option Nat) (hO : ∀ c, c < n → ∀ j, oo c = some j ↔ j < oc ∧ pl j = nI c) (p0 : Int32) : pw_Met l yX2_count cX2_count 4 (some .int) 3 0 0 G [.ref (am 0), .int p0] M (fun v9 M9 => v9 = some (.int (cm_r n oc td to oo pl wa pr p0)) ∧ mw G am n oc td 0 sL dk to er os pl wa pr la M9 ∧ fm am 9 M M9) := by
  refine pw_of hl (by decide +kernel) (Nat.le_of_ble_eq_true rfl) [(0, .ref (am 0)), (1, .int p0)] rfl ?_
  intro p9 e9 s9 m9 args9 below9 meth9 c9 hX hrt hmi
  generalize hQ9 : MQ below9 _ args9 s9 _ _ _ = Q9
  have hn9 := mw_n hm
  have hoc := mw_oc hm
  refine pw_aload_n (pc := 0) hX dX2_count_0 0 rfl ?_
  refine pw_iconst (pc := 1) (v := 0) hX dX2_count_1 (by decide) ?_
  refine pw_put (pc := 2) (v := .int 0) hX dX2_count_2 hm.1 rfl inT_2 tyX2 tyX2_ok nmX2 5 (by decide) fl_RX2_43 rfl (tyX2_ok 5 (by decide)) rfl rfl (Nat.le_of_ble_eq_true rfl) [.int (nI n), .ref (am 1), .ref (am 2), .int (nI oc), .int td, .int 0, .long sL, .ref (am 3), .ref (am 4), .ref (am 5), .ref (am 6), .ref (am 7), .ref (am 8)] rfl ?_
  have hm_1 := pw_ke (a := am 0) (e := .inr (2, [.int (nI n), .ref (am 1), .ref (am 2), .int (nI oc), .int td, .int 0, .long sL, .ref (am 3), .ref (am 4), .ref (am 5), .ref (am 6), .ref (am 7), .ref (am 8)])) hm.2.1 (mw_ne hm (x := 1) (y := 0) (by decide) (by decide) (by decide))
  have hm_2 := pw_ke (a := am 0) (e := .inr (2, [.int (nI n), .ref (am 1), .ref (am 2), .int (nI oc), .int td, .int 0, .long sL, .ref (am 3), .ref (am 4), .ref (am 5), .ref (am 6), .ref (am 7), .ref (am 8)])) hm.2.2.1 (mw_ne hm (x := 2) (y := 0) (by decide) (by decide) (by decide))
  have hm_3 := pw_ke (a := am 0) (e := .inr (2, [.int (nI n), .ref (am 1), .ref (am 2), .int (nI oc), .int td, .int 0, .long sL, .ref (am 3), .ref (am 4), .ref (am 5), .ref (am 6), .ref (am 7), .ref (am 8)])) hm.2.2.2.1 (mw_ne hm (x := 3) (y := 0) (by decide) (by decide) (by decide))
  have hm_4 := pw_ke (a := am 0) (e := .inr (2, [.int (nI n), .ref (am 1), .ref (am 2), .int (nI oc), .int td, .int 0, .long sL, .ref (am 3), .ref (am 4), .ref (am 5), .ref (am 6), .ref (am 7), .ref (am 8)])) hm.2.2.2.2.1 (mw_ne hm (x := 4) (y := 0) (by decide) (by decide) (by decide))
  have hm_5 := pw_ke (a := am 0) (e := .inr (2, [.int (nI n), .ref (am 1), .ref (am 2), .int (nI oc), .int td, .int 0, .long sL, .ref (am 3), .ref (am 4), .ref (am 5), .ref (am 6), .ref (am 7), .ref (am 8)])) hm.2.2.2.2.2.1 (mw_ne hm (x := 5) (y := 0) (by decide) (by decide) (by decide))
  have hm_6 := pw_ke (a := am 0) (e := .inr (2, [.int (nI n), .ref (am 1), .ref (am 2), .int (nI oc), .int td, .int 0, .long sL, .ref (am 3), .ref (am 4), .ref (am 5), .ref (am 6), .ref (am 7), .ref (am 8)])) hm.2.2.2.2.2.2.1 (mw_ne hm (x := 6) (y := 0) (by decide) (by decide) (by decide))
  have hm_7 := pw_ke (a := am 0) (e := .inr (2, [.int (nI n), .ref (am 1), .ref (am 2), .int (nI oc), .int td, .int 0, .long sL, .ref (am 3), .ref (am 4), .ref (am 5), .ref (am 6), .ref (am 7), .ref (am 8)])) hm.2.2.2.2.2.2.2.1 (mw_ne hm (x := 7) (y := 0) (by decide) (by decide) (by decide))
  have hm_8 := pw_ke (a := am 0) (e := .inr (2, [.int (nI n), .ref (am 1), .ref (am 2), .int (nI oc), .int td, .int 0, .long sL, .ref (am 3), .ref (am 4), .ref (am 5), .ref (am 6), .ref (am 7), .ref (am 8)])) hm.2.2.2.2.2.2.2.2.1 (mw_ne hm (x := 8) (y := 0) (by decide) (by decide) (by decide))
  have hm_9 : pw_up M (am 0) (.inr (2, [.int (nI n), .ref (am 1), .ref (am 2), .int (nI oc), .int td, .int 0, .long sL, .ref (am 3), .ref (am 4), .ref (am 5), .ref (am 6), .ref (am 7), .ref (am 8)])) (am 0) = some (.inr (2, [.int (nI n), .ref (am 1), .ref (am 2), .int (nI oc), .int td, .int 0, .long sL, .ref (am 3), .ref (am 4), .ref (am 5), .ref (am 6), .ref (am 7), .ref (am 8)])) := pw_us
  refine pw_iconst (pc := 5) (v := 0) hX dX2_count_5 (by decide) ?_
  refine pw_istore_n (pc := 6) hX [(2, .int 0), (0, .ref (am 0)), (1, .int p0)] dX2_count_6 (by decide) rfl ?_
  refine pw_iload_n (pc := 7) hX dX2_count_7 2 rfl ?_
  by_cases hsw : ir p0 6
  · obtain ⟨k, hk, rfl⟩ := hsw
    rcases (show k = 0 ∨ k = 1 ∨ k = 2 ∨ k = 3 ∨ k = 4 ∨ k = 5 by omega) with rfl | rfl | rfl | rfl | rfl | rfl
    · refine pw_swIn (pc := 8) hX 48 dX2_count_8 (by decide) (by decide) (off := 40) (by decide) (by decide) ?_
      refine pw_aload_n (pc := 48) hX dX2_count_48 1 rfl ?_
      refine pw_get (pc := 49) hX dX2_count_49 hm_9 rfl inT_2 0 (by decide) fl_RX2_39 rfl ?_
      subst hQ9
      exact pw_iret hX dX2_count_52 hrt ⟨by decide, by decide⟩ ⟨by unfold cm_r; rw [pc_t (by decide)], (mw_ob hm (oc) (mw_oc hm) td 0 sL), (fm_up fm_rf (x := 0) (by decide) _)⟩
    · refine pw_swIn (pc := 8) hX 53 dX2_count_8 (by decide) (by decide) (off := 45) (by decide) (by decide) ?_
      refine pw_aload_n (pc := 53) hX dX2_count_53 1 rfl ?_
      refine pw_get (pc := 54) hX dX2_count_54 hm_9 rfl inT_2 3 (by decide) fl_RX2_50 rfl ?_
      subst hQ9
      exact pw_iret hX dX2_count_57 hrt ⟨by decide, by decide⟩ ⟨by unfold cm_r; rw [pc_f (by decide), pc_t (by decide)], (mw_ob hm (oc) (mw_oc hm) td 0 sL), (fm_up fm_rf (x := 0) (by decide) _)⟩
    · refine pw_swIn (pc := 8) hX 58 dX2_count_8 (by decide) (by decide) (off := 50) (by decide) (by decide) ?_
      refine pw_iconst (pc := 58) (v := 0) hX dX2_count_58 (by decide) ?_
      refine pw_istore_n (pc := 59) hX [(3, .int 0), (2, .int 0), (0, .ref (am 0)), (1, .int (nI 2))] dX2_count_59 (by decide) rfl ?_
      refine pw_lp (P := fun k_10 => pw_W p9 l e9 (pw_rm 3 0 0) s9 m9 args9 below9 meth9 c9 Q9 G 4 (pw_up M (am 0) (.inr (2, [.int (nI n), .ref (am 1), .ref (am 2), .int (nI oc), .int td, .int 0, .long sL, .ref (am 3), .ref (am 4), .ref (am 5), .ref (am 6), .ref (am 7), .ref (am 8)]))) 0 0 60 [(3, .int (nI (k_10))), (2, .int (nI (od_ct (cc_f oo) (k_10)))), (0, .ref (am 0)), (1, .int (nI 2))] []) n ?_ ?_ 0 (Nat.zero_le _)
      · refine pw_iload_n (pc := 60) hX dX2_count_60 0 rfl ?_
        refine pw_aload_n (pc := 61) hX dX2_count_61 2 rfl ?_
        refine pw_get (pc := 62) hX dX2_count_62 hm_9 rfl inT_2 0 (by decide) fl_RX2_39 rfl ?_
        refine pw_icmp_ge (pc := 65) hX 86 dX2_count_65 (by decide) (fun hc_11 => ?_) (fun hc_11 => absurd (Int32.le_refl _) hc_11)
        refine pw_iload_n (pc := 86) hX dX2_count_86 1 rfl ?_
        subst hQ9
        exact pw_iret hX dX2_count_87 hrt ⟨by decide, by decide⟩ ⟨by unfold cm_r; rw [pc_f (by decide), pc_f (by decide), pc_t (by decide)], (mw_ob hm (oc) (mw_oc hm) td 0 sL), (fm_up fm_rf (x := 0) (by decide) _)⟩
      · intro k_10 hk_10 ih_k_10
        refine pw_iload_n (pc := 60) hX dX2_count_60 0 rfl ?_
        refine pw_aload_n (pc := 61) hX dX2_count_61 2 rfl ?_
        refine pw_get (pc := 62) hX dX2_count_62 hm_9 rfl inT_2 0 (by decide) fl_RX2_39 rfl ?_
        refine pw_icmp_ge (pc := 65) hX 86 dX2_count_65 (by decide) (fun hc_12 => absurd hc_12 (nI_ge (b := n) hk_10 (Nat.lt_of_le_of_lt (mw_n hm) (by decide)))) (fun hc_12 => ?_)
        refine pw_aload_n (pc := 68) hX dX2_count_68 2 rfl ?_
        refine pw_iload_n (pc := 69) hX dX2_count_69 0 rfl ?_
        refine pw_callV (pc := 70) (st := []) hX (mt_at l hl G _ am _ _ _ _ _ _ _ _ _ _ _ _ _ (mw_ob hm (oc) (mw_oc hm) td 0 sL) oo hO k_10 hk_10) hm_9 rfl ok_X2_at lk_RX2_60 dX2_count_70 rfl ⟨⟨by decide, by decide⟩, Nat.le_of_ble_eq_true rfl, Nat.le_of_ble_eq_true rfl, Nat.le_of_ble_eq_true rfl⟩ rfl (fun v9 M9 hp9 => ?_)
        obtain ⟨rfl, ⟨o, ho, ho9, rfl⟩ | ⟨ho, rfl⟩⟩ := hp9
        · have hoB : o < 2 ^ 31 := Nat.lt_of_lt_of_le ho9 (Nat.le_trans (mw_oc hm) (by decide))
          refine pw_iconst (pc := 73) (v := (-1)) hX dX2_count_73 (by decide) ?_
          refine pw_icmp_ne (pc := 74) hX 80 dX2_count_74 (by decide) (fun hc_13 => ?_) (fun hc_13 => absurd hc_13 (nI_m1 hoB))
          refine pw_iinc (pc := 80) (v := nI ((k_10) + 1)) (j := 0) hX [(3, .int (nI ((k_10) + 1))), (2, .int (nI (od_ct (cc_f oo) (k_10)))), (0, .ref (am 0)), (1, .int (nI 2))] dX2_count_80 rfl (nI_1 _) (by decide) rfl ?_
          refine pw_goto (pc := 83) hX 60 dX2_count_83 (by decide) ?_
          rw [od_ct_f (b := cc_f oo) (k := k_10) (by unfold cc_f; rw [ho]; rfl)] at ih_k_10
          exact pw_lv [0, 1, 2, 3] _ rfl (ih_k_10)
        · refine pw_iconst (pc := 73) (v := (-1)) hX dX2_count_73 (by decide) ?_
          refine pw_icmp_ne (pc := 74) hX 80 dX2_count_74 (by decide) (fun h => absurd h (by decide)) (fun _ => ?_)
          refine pw_iinc (pc := 77) (v := nI ((od_ct (cc_f oo) (k_10)) + 1)) (j := 1) hX [(2, .int (nI ((od_ct (cc_f oo) (k_10)) + 1))), (3, .int (nI (k_10))), (0, .ref (am 0)), (1, .int (nI 2))] dX2_count_77 rfl (nI_1 _) (by decide) rfl ?_
          refine pw_iinc (pc := 80) (v := nI ((k_10) + 1)) (j := 1) hX [(3, .int (nI ((k_10) + 1))), (2, .int (nI ((od_ct (cc_f oo) (k_10)) + 1))), (0, .ref (am 0)), (1, .int (nI 2))] dX2_count_80 rfl (nI_1 _) (by decide) rfl ?_
          refine pw_goto (pc := 83) hX 60 dX2_count_83 (by decide) ?_
          rw [od_ct_t (b := cc_f oo) (k := k_10) (by unfold cc_f; rw [ho]; rfl)] at ih_k_10
          exact pw_lv [0, 1, 2, 3] _ rfl (ih_k_10)
    · refine pw_swIn (pc := 8) hX 88 dX2_count_8 (by decide) (by decide) (off := 80) (by decide) (by decide) ?_
      refine pw_iconst (pc := 88) (v := 0) hX dX2_count_88 (by decide) ?_
      refine pw_istore_n (pc := 89) hX [(3, .int 0), (2, .int 0), (0, .ref (am 0)), (1, .int (nI 3))] dX2_count_89 (by decide) rfl ?_
      refine pw_lp (P := fun k_15 => ∀ Mk : pw_M, mw G am n oc td 0 sL dk to er os pl wa pr la Mk → fm am 9 M Mk → pw_W p9 l e9 (pw_rm 3 0 0) s9 m9 args9 below9 meth9 c9 Q9 G 4 Mk 0 0 90 [(3, .int (nI (k_15))), (2, .int (bx_sum (cm_f pl wa pr) (k_15))), (0, .ref (am 0)), (1, .int (nI 3))] []) oc ?_ ?_ 0 (Nat.zero_le _) _ (mw_ob hm (oc) (mw_oc hm) td 0 sL) (fm_up fm_rf (x := 0) (by decide) _)
      · intro Mk hmk hfk
        refine pw_iload_n (pc := 90) hX dX2_count_90 0 rfl ?_
        refine pw_aload_n (pc := 91) hX dX2_count_91 2 rfl ?_
        refine pw_get (pc := 92) hX dX2_count_92 hmk.1 rfl inT_2 3 (by decide) fl_RX2_50 rfl ?_
        refine pw_icmp_ge (pc := 95) hX 123 dX2_count_95 (by decide) (fun hc_16 => ?_) (fun hc_16 => absurd (Int32.le_refl _) hc_16)
        refine pw_iload_n (pc := 123) hX dX2_count_123 1 rfl ?_
        subst hQ9
        exact pw_iret hX dX2_count_124 hrt ⟨by decide, by decide⟩ ⟨by unfold cm_r; rw [pc_f (by decide), pc_f (by decide), pc_f (by decide), pc_t (by decide)], hmk, hfk⟩
      · intro k_15 hk_15 ih_k_15
        intro Mk hmk hfk
        refine pw_iload_n (pc := 90) hX dX2_count_90 0 rfl ?_
        refine pw_aload_n (pc := 91) hX dX2_count_91 2 rfl ?_
        refine pw_get (pc := 92) hX dX2_count_92 hmk.1 rfl inT_2 3 (by decide) fl_RX2_50 rfl ?_
        refine pw_icmp_ge (pc := 95) hX 123 dX2_count_95 (by decide) (fun hc_17 => absurd hc_17 (nI_ge (b := oc) hk_15 (Nat.lt_of_le_of_lt (mw_oc hm) (by decide)))) (fun hc_17 => ?_)
        refine pw_aload_n (pc := 98) hX dX2_count_98 2 rfl ?_
        refine pw_get (pc := 99) hX dX2_count_99 hmk.1 rfl inT_2 8 (by decide) fl_RX2_24 rfl ?_
        refine pw_iload_n (pc := 102) hX dX2_count_102 0 rfl ?_
        refine pw_iald (pc := 103) (j := k_15) hX dX2_count_103 hmk.2.2.2.2.1 (by omega) (by decide) ?_
        refine pw_iconst (pc := 104) (v := (-1)) hX dX2_count_104 (by decide) ?_
        refine pw_icmp_eq (pc := 105) hX 117 dX2_count_105 (by decide) (fun hc_18 => ?_) (fun hc_18 => ?_)
        · refine pw_iinc (pc := 117) (v := nI ((k_15) + 1)) (j := 0) hX [(3, .int (nI ((k_15) + 1))), (2, .int (bx_sum (cm_f pl wa pr) (k_15))), (0, .ref (am 0)), (1, .int (nI 3))] dX2_count_117 rfl (nI_1 _) (by decide) rfl ?_
          refine pw_goto (pc := 120) hX 90 dX2_count_120 (by decide) ?_
          rw [show bx_sum (cm_f pl wa pr) (k_15 + 1) = bx_sum (cm_f pl wa pr) k_15 from by show _ + cm_f pl wa pr k_15 = _; rw [show cm_f pl wa pr k_15 = 0 from if_pos hc_18, Int32.add_zero]] at ih_k_15
          exact pw_lv [0, 1, 2, 3] _ rfl (ih_k_15 Mk hmk hfk)
        · refine pw_iload_n (pc := 108) hX dX2_count_108 1 rfl ?_
          refine pw_aload_n (pc := 109) hX dX2_count_109 2 rfl ?_
          refine pw_iload_n (pc := 110) hX dX2_count_110 0 rfl ?_
          refine pw_iconst (pc := 111) (v := 3) hX dX2_count_111 (by decide) ?_
          refine pw_callV (pc := 112) (st := [.int (bx_sum (cm_f pl wa pr) (k_15))]) hX (mp_told l hl G Mk am _ _ _ _ _ _ _ _ _ _ _ _ _ hmk (nI k_15) 3) hmk.1 rfl ok_X2_told lk_RX2_87 dX2_count_112 rfl ⟨⟨by decide, by decide⟩, Nat.le_of_ble_eq_true rfl, Nat.le_of_ble_eq_true rfl, Nat.le_of_ble_eq_true rfl⟩ rfl (fun v9 M9 hp9 => ?_)
          obtain ⟨⟨-, rfl, hm2⟩ | ⟨hne, -⟩, hf2⟩ := hp9
          rotate_left
          · exact absurd (pc2_0 (fun h => h (ir_nI hk_15)) (fun h => h (ir_nI (j := 3) (by decide)))) hne
          refine pw_iadd (pc := 115) (z := bx_sum (cm_f pl wa pr) (k_15 + 1)) hX dX2_count_115 (by show _ = _ + cm_f pl wa pr k_15; rw [show cm_f pl wa pr k_15 = _ from if_neg hc_18, ix_nI (Nat.lt_trans hk_15 (Nat.lt_of_le_of_lt (mw_oc hm) (by decide)))]; unfold tm_r; rw [pc_f (by decide), pc_f (by decide), pc_f (by decide), pc_t (by decide)]) ?_
          refine pw_istore_n (pc := 116) hX [(2, .int (bx_sum (cm_f pl wa pr) (k_15 + 1))), (3, .int (nI (k_15))), (0, .ref (am 0)), (1, .int (nI 3))] dX2_count_116 (by decide) rfl ?_
          refine pw_iinc (pc := 117) (v := nI ((k_15) + 1)) (j := 1) hX [(3, .int (nI ((k_15) + 1))), (2, .int (bx_sum (cm_f pl wa pr) (k_15 + 1))), (0, .ref (am 0)), (1, .int (nI 3))] dX2_count_117 rfl (nI_1 _) (by decide) rfl ?_
          refine pw_goto (pc := 120) hX 90 dX2_count_120 (by decide) ?_
          exact pw_lv [0, 1, 2, 3] _ rfl (ih_k_15 M9 hm2 (fm_tr hfk hf2))
    · refine pw_swIn (pc := 8) hX 125 dX2_count_8 (by decide) (by decide) (off := 117) (by decide) (by decide) ?_
      refine pw_iconst (pc := 125) (v := 0) hX dX2_count_125 (by decide) ?_
      refine pw_istore_n (pc := 126) hX [(3, .int 0), (2, .int 0), (0, .ref (am 0)), (1, .int (nI 4))] dX2_count_126 (by decide) rfl ?_
      refine pw_lp (P := fun k_19 => pw_W p9 l e9 (pw_rm 3 0 0) s9 m9 args9 below9 meth9 c9 Q9 G 4 (pw_up M (am 0) (.inr (2, [.int (nI n), .ref (am 1), .ref (am 2), .int (nI oc), .int td, .int 0, .long sL, .ref (am 3), .ref (am 4), .ref (am 5), .ref (am 6), .ref (am 7), .ref (am 8)]))) 0 0 127 [(3, .int (nI (k_19))), (2, .int (bx_sum to (k_19))), (0, .ref (am 0)), (1, .int (nI 4))] []) 10 ?_ ?_ 0 (Nat.zero_le _)
      · refine pw_iload_n (pc := 127) hX dX2_count_127 0 rfl ?_
        refine pw_bipush (pc := 128) (v := 10) hX dX2_count_128 (by decide) ?_
        refine pw_icmp_ge (pc := 130) hX 148 dX2_count_130 (by decide) (fun hc_20 => ?_) (fun hc_20 => absurd (by decide) hc_20)
        refine pw_iload_n (pc := 148) hX dX2_count_148 1 rfl ?_
        subst hQ9
        exact pw_iret hX dX2_count_149 hrt ⟨by decide, by decide⟩ ⟨by unfold cm_r; rw [pc_f (by decide), pc_f (by decide), pc_f (by decide), pc_f (by decide), pc_t (by decide)], (mw_ob hm (oc) (mw_oc hm) td 0 sL), (fm_up fm_rf (x := 0) (by decide) _)⟩
      · intro k_19 hk_19 ih_k_19
        refine pw_iload_n (pc := 127) hX dX2_count_127 0 rfl ?_
        refine pw_bipush (pc := 128) (v := 10) hX dX2_count_128 (by decide) ?_
        refine pw_icmp_ge (pc := 130) hX 148 dX2_count_130 (by decide) (fun hc_21 => absurd hc_21 (nI_ge (b := 10) hk_19 (by decide))) (fun hc_21 => ?_)
        refine pw_iload_n (pc := 133) hX dX2_count_133 1 rfl ?_
        refine pw_aload_n (pc := 134) hX dX2_count_134 2 rfl ?_
        refine pw_get (pc := 135) hX dX2_count_135 hm_9 rfl inT_2 2 (by decide) fl_RX2_13 rfl ?_
        refine pw_iload_n (pc := 138) hX dX2_count_138 0 rfl ?_
        refine pw_iald (pc := 139) (j := k_19) hX dX2_count_139 hm_2 hk_19 (by decide) ?_
        refine pw_iadd (pc := 140) (z := bx_sum to (k_19 + 1)) hX dX2_count_140 rfl ?_
        refine pw_istore_n (pc := 141) hX [(2, .int (bx_sum to (k_19 + 1))), (3, .int (nI (k_19))), (0, .ref (am 0)), (1, .int (nI 4))] dX2_count_141 (by decide) rfl ?_
        refine pw_iinc (pc := 142) (v := nI ((k_19) + 1)) (j := 1) hX [(3, .int (nI ((k_19) + 1))), (2, .int (bx_sum to (k_19 + 1))), (0, .ref (am 0)), (1, .int (nI 4))] dX2_count_142 rfl (nI_1 _) (by decide) rfl ?_
        refine pw_goto (pc := 145) hX 127 dX2_count_145 (by decide) ?_
        exact pw_lv [0, 1, 2, 3] _ rfl (ih_k_19)
    · refine pw_swIn (pc := 8) hX 150 dX2_count_8 (by decide) (by decide) (off := 142) (by decide) (by decide) ?_
      refine pw_aload_n (pc := 150) hX dX2_count_150 1 rfl ?_
      refine pw_get (pc := 151) hX dX2_count_151 hm_9 rfl inT_2 4 (by decide) fl_RX2_73 rfl ?_
      subst hQ9
      exact pw_iret hX dX2_count_154 hrt ⟨by decide, by decide⟩ ⟨by unfold cm_r; rw [pc_f (by decide), pc_f (by decide), pc_f (by decide), pc_f (by decide), pc_f (by decide), pc_t (by decide)], (mw_ob hm (oc) (mw_oc hm) td 0 sL), (fm_up fm_rf (x := 0) (by decide) _)⟩
  · refine pw_swOut (pc := 8) hX 155 dX2_count_8 (sw_out (N := 5) (by decide) hsw) (by decide) ?_
    refine pw_iconst (pc := 155) (v := (-1)) hX dX2_count_155 (by decide) ?_
    subst hQ9
    exact pw_iret hX dX2_count_156 hrt ⟨by decide, by decide⟩ ⟨by unfold cm_r; rw [pc_f (P := p0 = 0) (fun h => hsw ⟨0, by decide, h⟩), pc_f (P := p0 = 1) (fun h => hsw ⟨1, by decide, h⟩), pc_f (P := p0 = 2) (fun h => hsw ⟨2, by decide, h⟩), pc_f (P := p0 = 3) (fun h => hsw ⟨3, by decide, h⟩), pc_f (P := p0 = 4) (fun h => hsw ⟨4, by decide, h⟩), pc_f (P := p0 = 5) (fun h => hsw ⟨5, by decide, h⟩)], (mw_ob hm (oc) (mw_oc hm) td 0 sL), (fm_up fm_rf (x := 0) (by decide) _)⟩
set_option maxHeartbeats 4000000 in
set_option maxRecDepth 100000 in
theorem mp_sample (l : Launch) (hl : l.stackTraces = false) (G : pw_G) (M : pw_M) (am : Nat → Nat) (n oc : Nat) (td th : Int32) (sn : Nat) (hsn : sn < 2 ^ 31) (dk to er os pl : Nat → Int32) (wa pr la : Nat → Nat → Int32) (hm : mw G am n oc td th (lN sn) dk to er os pl wa pr la M) (oo : Nat → Option Nat) (hO : ∀ c, c < n → ∀ j, oo c = some j ↔ j < oc ∧ pl j = nI c) : pw_Met l yX2_sample cX2_sample 5 (some .int) 3 0 0 G [.ref (am 0)] M (fun v9 M9 => (od_ct (cb_o os) oc = 0 ∧ v9 = some (.int (-1)) ∧ mw G am n oc td 0 (lN sn) dk to er os pl wa pr la M9 ∨ 0 < od_ct (cb_o os) oc ∧ mw G am n oc td 0 (lN (sd_n sn)) dk to er os pl wa pr la M9 ∧ ((∃ i o, i < n ∧ oo i = some o ∧ os o = 2 ∧ od_ct (cc_b oo os) i = (sd_n sn / 65536 % od_ct (cb_o os) oc) ∧ v9 = some (.int (nI o))) ∨ v9 = some (.int (-1)) ∧ ∀ i, i < n → cc_b oo os i = true → ¬ od_ct (cc_b oo os) i = (sd_n sn / 65536 % od_ct (cb_o os) oc))) ∧ fm am 9 M M9) := by
  refine pw_of hl (by decide +kernel) (Nat.le_of_ble_eq_true rfl) [(0, .ref (am 0))] rfl ?_
  intro p9 e9 s9 m9 args9 below9 meth9 c9 hX hrt hmi
  generalize hQ9 : MQ below9 _ args9 s9 _ _ _ = Q9
  have hn9 := mw_n hm
  have hoc := mw_oc hm
  refine pw_aload_n (pc := 0) hX dX2_sample_0 0 rfl ?_
  refine pw_iconst (pc := 1) (v := 0) hX dX2_sample_1 (by decide) ?_
  refine pw_put (pc := 2) (v := .int 0) hX dX2_sample_2 hm.1 rfl inT_2 tyX2 tyX2_ok nmX2 5 (by decide) fl_RX2_43 rfl (tyX2_ok 5 (by decide)) rfl rfl (Nat.le_of_ble_eq_true rfl) [.int (nI n), .ref (am 1), .ref (am 2), .int (nI oc), .int td, .int 0, .long (lN sn), .ref (am 3), .ref (am 4), .ref (am 5), .ref (am 6), .ref (am 7), .ref (am 8)] rfl ?_
  have hm_1 := pw_ke (a := am 0) (e := .inr (2, [.int (nI n), .ref (am 1), .ref (am 2), .int (nI oc), .int td, .int 0, .long (lN sn), .ref (am 3), .ref (am 4), .ref (am 5), .ref (am 6), .ref (am 7), .ref (am 8)])) hm.2.1 (mw_ne hm (x := 1) (y := 0) (by decide) (by decide) (by decide))
  have hm_2 := pw_ke (a := am 0) (e := .inr (2, [.int (nI n), .ref (am 1), .ref (am 2), .int (nI oc), .int td, .int 0, .long (lN sn), .ref (am 3), .ref (am 4), .ref (am 5), .ref (am 6), .ref (am 7), .ref (am 8)])) hm.2.2.1 (mw_ne hm (x := 2) (y := 0) (by decide) (by decide) (by decide))
  have hm_3 := pw_ke (a := am 0) (e := .inr (2, [.int (nI n), .ref (am 1), .ref (am 2), .int (nI oc), .int td, .int 0, .long (lN sn), .ref (am 3), .ref (am 4), .ref (am 5), .ref (am 6), .ref (am 7), .ref (am 8)])) hm.2.2.2.1 (mw_ne hm (x := 3) (y := 0) (by decide) (by decide) (by decide))
  have hm_4 := pw_ke (a := am 0) (e := .inr (2, [.int (nI n), .ref (am 1), .ref (am 2), .int (nI oc), .int td, .int 0, .long (lN sn), .ref (am 3), .ref (am 4), .ref (am 5), .ref (am 6), .ref (am 7), .ref (am 8)])) hm.2.2.2.2.1 (mw_ne hm (x := 4) (y := 0) (by decide) (by decide) (by decide))
  have hm_5 := pw_ke (a := am 0) (e := .inr (2, [.int (nI n), .ref (am 1), .ref (am 2), .int (nI oc), .int td, .int 0, .long (lN sn), .ref (am 3), .ref (am 4), .ref (am 5), .ref (am 6), .ref (am 7), .ref (am 8)])) hm.2.2.2.2.2.1 (mw_ne hm (x := 5) (y := 0) (by decide) (by decide) (by decide))
  have hm_6 := pw_ke (a := am 0) (e := .inr (2, [.int (nI n), .ref (am 1), .ref (am 2), .int (nI oc), .int td, .int 0, .long (lN sn), .ref (am 3), .ref (am 4), .ref (am 5), .ref (am 6), .ref (am 7), .ref (am 8)])) hm.2.2.2.2.2.2.1 (mw_ne hm (x := 6) (y := 0) (by decide) (by decide) (by decide))
  have hm_7 := pw_ke (a := am 0) (e := .inr (2, [.int (nI n), .ref (am 1), .ref (am 2), .int (nI oc), .int td, .int 0, .long (lN sn), .ref (am 3), .ref (am 4), .ref (am 5), .ref (am 6), .ref (am 7), .ref (am 8)])) hm.2.2.2.2.2.2.2.1 (mw_ne hm (x := 7) (y := 0) (by decide) (by decide) (by decide))
  have hm_8 := pw_ke (a := am 0) (e := .inr (2, [.int (nI n), .ref (am 1), .ref (am 2), .int (nI oc), .int td, .int 0, .long (lN sn), .ref (am 3), .ref (am 4), .ref (am 5), .ref (am 6), .ref (am 7), .ref (am 8)])) hm.2.2.2.2.2.2.2.2.1 (mw_ne hm (x := 8) (y := 0) (by decide) (by decide) (by decide))
  have hm_9 : pw_up M (am 0) (.inr (2, [.int (nI n), .ref (am 1), .ref (am 2), .int (nI oc), .int td, .int 0, .long (lN sn), .ref (am 3), .ref (am 4), .ref (am 5), .ref (am 6), .ref (am 7), .ref (am 8)])) (am 0) = some (.inr (2, [.int (nI n), .ref (am 1), .ref (am 2), .int (nI oc), .int td, .int 0, .long (lN sn), .ref (am 3), .ref (am 4), .ref (am 5), .ref (am 6), .ref (am 7), .ref (am 8)])) := pw_us
  refine pw_iconst (pc := 5) (v := 0) hX dX2_sample_5 (by decide) ?_
  refine pw_istore_n (pc := 6) hX [(1, .int 0), (0, .ref (am 0))] dX2_sample_6 (by decide) rfl ?_
  refine pw_iconst (pc := 7) (v := 0) hX dX2_sample_7 (by decide) ?_
  refine pw_istore_n (pc := 8) hX [(2, .int 0), (1, .int 0), (0, .ref (am 0))] dX2_sample_8 (by decide) rfl ?_
  refine pw_lp (P := fun k_10 => pw_W p9 l e9 (pw_rm 3 0 0) s9 m9 args9 below9 meth9 c9 Q9 G 5 (pw_up M (am 0) (.inr (2, [.int (nI n), .ref (am 1), .ref (am 2), .int (nI oc), .int td, .int 0, .long (lN sn), .ref (am 3), .ref (am 4), .ref (am 5), .ref (am 6), .ref (am 7), .ref (am 8)]))) 0 0 9 [(2, .int (nI (k_10))), (1, .int (nI (od_ct (cb_o os) (k_10)))), (0, .ref (am 0))] []) oc ?_ ?_ 0 (Nat.zero_le _)
  · refine pw_iload_n (pc := 9) hX dX2_sample_9 0 rfl ?_
    refine pw_aload_n (pc := 10) hX dX2_sample_10 2 rfl ?_
    refine pw_get (pc := 11) hX dX2_sample_11 hm_9 rfl inT_2 3 (by decide) fl_RX2_50 rfl ?_
    refine pw_icmp_ge (pc := 14) hX 36 dX2_sample_14 (by decide) (fun hc_11 => ?_) (fun hc_11 => absurd (Int32.le_refl _) hc_11)
    refine pw_iload_n (pc := 36) hX dX2_sample_36 1 rfl ?_
    refine pw_if_ne (pc := 37) hX 42 dX2_sample_37 (by decide) (fun hc_12 => ?_) (fun hc_12 => ?_)
    · have hct : 0 < od_ct (cb_o os) oc := Nat.pos_of_ne_zero (fun h => hc_12 (by rw [h]; rfl))
      refine pw_aload_n (pc := 42) hX dX2_sample_42 2 rfl ?_
      refine pw_aload_n (pc := 43) hX dX2_sample_43 2 rfl ?_
      refine pw_get (pc := 44) hX dX2_sample_44 hm_9 rfl inT_2 6 (by decide) fl_RX2_17 rfl ?_
      refine pw_ldc2 (pc := 47) (v := 1103515245) hX dX2_sample_47 cl_RX2_79 ?_
      refine pw_lmul (pc := 50) (z := lN (sn * 1103515245)) hX dX2_sample_50 (lN_mul sn 1103515245) ?_
      refine pw_ldc2 (pc := 51) (v := 12345) hX dX2_sample_51 cl_RX2_81 ?_
      refine pw_ladd (pc := 54) (z := lN (sn * 1103515245 + 12345)) hX dX2_sample_54 (lN_add _ 12345) ?_
      refine pw_ldc2 (pc := 55) (v := 2147483648) hX dX2_sample_55 cl_RX2_83 ?_
      refine pw_lrem (pc := 58) (z := lN (sd_n sn)) hX dX2_sample_58 (by decide) (pk_lRem (a := sn * 1103515245 + 12345) (b := 2147483648) (by omega) (by decide) (by decide)) ?_
      refine pw_put (pc := 59) (v := .long (lN (sd_n sn))) hX dX2_sample_59 hm_9 rfl inT_2 tyX2 tyX2_ok nmX2 6 (by decide) fl_RX2_17 rfl (tyX2_ok 6 (by decide)) rfl rfl (Nat.le_of_ble_eq_true rfl) [.int (nI n), .ref (am 1), .ref (am 2), .int (nI oc), .int td, .int 0, .long (lN (sd_n sn)), .ref (am 3), .ref (am 4), .ref (am 5), .ref (am 6), .ref (am 7), .ref (am 8)] rfl ?_
      have hm_13 := pw_ke (a := am 0) (e := .inr (2, [.int (nI n), .ref (am 1), .ref (am 2), .int (nI oc), .int td, .int 0, .long (lN (sd_n sn)), .ref (am 3), .ref (am 4), .ref (am 5), .ref (am 6), .ref (am 7), .ref (am 8)])) hm_1 (mw_ne hm (x := 1) (y := 0) (by decide) (by decide) (by decide))
      have hm_14 := pw_ke (a := am 0) (e := .inr (2, [.int (nI n), .ref (am 1), .ref (am 2), .int (nI oc), .int td, .int 0, .long (lN (sd_n sn)), .ref (am 3), .ref (am 4), .ref (am 5), .ref (am 6), .ref (am 7), .ref (am 8)])) hm_2 (mw_ne hm (x := 2) (y := 0) (by decide) (by decide) (by decide))
      have hm_15 := pw_ke (a := am 0) (e := .inr (2, [.int (nI n), .ref (am 1), .ref (am 2), .int (nI oc), .int td, .int 0, .long (lN (sd_n sn)), .ref (am 3), .ref (am 4), .ref (am 5), .ref (am 6), .ref (am 7), .ref (am 8)])) hm_3 (mw_ne hm (x := 3) (y := 0) (by decide) (by decide) (by decide))
      have hm_16 := pw_ke (a := am 0) (e := .inr (2, [.int (nI n), .ref (am 1), .ref (am 2), .int (nI oc), .int td, .int 0, .long (lN (sd_n sn)), .ref (am 3), .ref (am 4), .ref (am 5), .ref (am 6), .ref (am 7), .ref (am 8)])) hm_4 (mw_ne hm (x := 4) (y := 0) (by decide) (by decide) (by decide))
      have hm_17 := pw_ke (a := am 0) (e := .inr (2, [.int (nI n), .ref (am 1), .ref (am 2), .int (nI oc), .int td, .int 0, .long (lN (sd_n sn)), .ref (am 3), .ref (am 4), .ref (am 5), .ref (am 6), .ref (am 7), .ref (am 8)])) hm_5 (mw_ne hm (x := 5) (y := 0) (by decide) (by decide) (by decide))
      have hm_18 := pw_ke (a := am 0) (e := .inr (2, [.int (nI n), .ref (am 1), .ref (am 2), .int (nI oc), .int td, .int 0, .long (lN (sd_n sn)), .ref (am 3), .ref (am 4), .ref (am 5), .ref (am 6), .ref (am 7), .ref (am 8)])) hm_6 (mw_ne hm (x := 6) (y := 0) (by decide) (by decide) (by decide))
      have hm_19 := pw_ke (a := am 0) (e := .inr (2, [.int (nI n), .ref (am 1), .ref (am 2), .int (nI oc), .int td, .int 0, .long (lN (sd_n sn)), .ref (am 3), .ref (am 4), .ref (am 5), .ref (am 6), .ref (am 7), .ref (am 8)])) hm_7 (mw_ne hm (x := 7) (y := 0) (by decide) (by decide) (by decide))
      have hm_20 := pw_ke (a := am 0) (e := .inr (2, [.int (nI n), .ref (am 1), .ref (am 2), .int (nI oc), .int td, .int 0, .long (lN (sd_n sn)), .ref (am 3), .ref (am 4), .ref (am 5), .ref (am 6), .ref (am 7), .ref (am 8)])) hm_8 (mw_ne hm (x := 8) (y := 0) (by decide) (by decide) (by decide))
      have hm_21 : pw_up (pw_up M (am 0) (.inr (2, [.int (nI n), .ref (am 1), .ref (am 2), .int (nI oc), .int td, .int 0, .long (lN sn), .ref (am 3), .ref (am 4), .ref (am 5), .ref (am 6), .ref (am 7), .ref (am 8)]))) (am 0) (.inr (2, [.int (nI n), .ref (am 1), .ref (am 2), .int (nI oc), .int td, .int 0, .long (lN (sd_n sn)), .ref (am 3), .ref (am 4), .ref (am 5), .ref (am 6), .ref (am 7), .ref (am 8)])) (am 0) = some (.inr (2, [.int (nI n), .ref (am 1), .ref (am 2), .int (nI oc), .int td, .int 0, .long (lN (sd_n sn)), .ref (am 3), .ref (am 4), .ref (am 5), .ref (am 6), .ref (am 7), .ref (am 8)])) := pw_us
      refine pw_aload_n (pc := 62) hX dX2_sample_62 2 rfl ?_
      refine pw_get (pc := 63) hX dX2_sample_63 hm_21 rfl inT_2 6 (by decide) fl_RX2_17 rfl ?_
      refine pw_ldc2 (pc := 66) (v := 65536) hX dX2_sample_66 cl_RX2_85 ?_
      refine pw_ldiv (pc := 69) (z := lN (sd_n sn / 65536)) hX dX2_sample_69 (by decide) (pk_lDiv (b := 65536) (Nat.lt_trans (sd_lt sn) (by decide)) (by decide) (by decide)) ?_
      refine pw_iload_n (pc := 70) hX dX2_sample_70 1 rfl ?_
      refine pw_i2l (pc := 71) (v := lN (od_ct (cb_o os) oc)) hX dX2_sample_71 (nI_l (Nat.lt_of_le_of_lt (od_ct_le _ _) (Nat.lt_of_le_of_lt (mw_oc hm) (by decide)))) ?_
      refine pw_lrem (pc := 72) (z := lN (sd_n sn / 65536 % od_ct (cb_o os) oc)) hX dX2_sample_72 (fun h => absurd hct (by rw [(pk_lEQ (b := 0) (Nat.lt_of_le_of_lt (od_ct_le _ _) (Nat.lt_of_le_of_lt (mw_oc hm) (by decide))) (by decide)).mp h]; decide)) (pk_lRem (Nat.lt_of_le_of_lt (Nat.div_le_self _ _) (Nat.lt_trans (sd_lt sn) (by decide))) hct (Nat.lt_of_le_of_lt (od_ct_le _ _) (Nat.lt_of_le_of_lt (mw_oc hm) (by decide)))) ?_
      refine pw_l2i (pc := 73) (v := nI ((sd_n sn / 65536 % od_ct (cb_o os) oc) - od_ct (cc_b oo os) 0)) hX dX2_sample_73 (by rw [show od_ct (cc_b oo os) 0 = 0 from rfl, Nat.sub_zero]; exact lN_i _) ?_
      refine pw_istore_n (pc := 74) hX [(2, .int (nI ((sd_n sn / 65536 % od_ct (cb_o os) oc) - od_ct (cc_b oo os) 0))), (1, .int (nI (od_ct (cb_o os) (oc)))), (0, .ref (am 0))] dX2_sample_74 (by decide) rfl ?_
      refine pw_iconst (pc := 75) (v := 0) hX dX2_sample_75 (by decide) ?_
      refine pw_istore_n (pc := 76) hX [(3, .int 0), (2, .int (nI ((sd_n sn / 65536 % od_ct (cb_o os) oc) - od_ct (cc_b oo os) 0))), (1, .int (nI (od_ct (cb_o os) (oc)))), (0, .ref (am 0))] dX2_sample_76 (by decide) rfl ?_
      refine pw_lp (P := fun k_22 => (od_ct (cc_b oo os) (k_22) ≤ (sd_n sn / 65536 % od_ct (cb_o os) oc) ∧ ∀ i, i < k_22 → cc_b oo os i = true → ¬ od_ct (cc_b oo os) i = (sd_n sn / 65536 % od_ct (cb_o os) oc)) → pw_W p9 l e9 (pw_rm 3 0 0) s9 m9 args9 below9 meth9 c9 Q9 G 5 (pw_up (pw_up M (am 0) (.inr (2, [.int (nI n), .ref (am 1), .ref (am 2), .int (nI oc), .int td, .int 0, .long (lN sn), .ref (am 3), .ref (am 4), .ref (am 5), .ref (am 6), .ref (am 7), .ref (am 8)]))) (am 0) (.inr (2, [.int (nI n), .ref (am 1), .ref (am 2), .int (nI oc), .int td, .int 0, .long (lN (sd_n sn)), .ref (am 3), .ref (am 4), .ref (am 5), .ref (am 6), .ref (am 7), .ref (am 8)]))) 0 0 77 [(3, .int (nI (k_22))), (2, .int (nI ((sd_n sn / 65536 % od_ct (cb_o os) oc) - od_ct (cc_b oo os) (k_22)))), (1, .int (nI (od_ct (cb_o os) (oc)))), (0, .ref (am 0))] []) n ?_ ?_ 0 (Nat.zero_le _) ⟨Nat.zero_le _, fun g hg => absurd hg (Nat.not_lt_zero g)⟩
      · intro hy_k_22
        refine pw_iload_n (pc := 77) hX dX2_sample_77 0 rfl ?_
        refine pw_aload_n (pc := 78) hX dX2_sample_78 3 rfl ?_
        refine pw_get (pc := 79) hX dX2_sample_79 hm_21 rfl inT_2 0 (by decide) fl_RX2_39 rfl ?_
        refine pw_icmp_ge (pc := 82) hX 125 dX2_sample_82 (by decide) (fun hc_23 => ?_) (fun hc_23 => absurd (Int32.le_refl _) hc_23)
        refine pw_iconst (pc := 125) (v := (-1)) hX dX2_sample_125 (by decide) ?_
        subst hQ9
        exact pw_iret hX dX2_sample_126 hrt ⟨by decide, by decide⟩ ⟨Or.inr ⟨hct, (mw_ob (mw_ob hm (oc) (mw_oc hm) td 0 (lN sn)) (oc) (mw_oc hm) td 0 (lN (sd_n sn))), Or.inr ⟨rfl, hy_k_22.2⟩⟩, (fm_up (fm_up fm_rf (x := 0) (by decide) _) (x := 0) (by decide) _)⟩
      · intro k_22 hk_22 ih_k_22
        intro hy_k_22
        refine pw_iload_n (pc := 77) hX dX2_sample_77 0 rfl ?_
        refine pw_aload_n (pc := 78) hX dX2_sample_78 3 rfl ?_
        refine pw_get (pc := 79) hX dX2_sample_79 hm_21 rfl inT_2 0 (by decide) fl_RX2_39 rfl ?_
        refine pw_icmp_ge (pc := 82) hX 125 dX2_sample_82 (by decide) (fun hc_24 => absurd hc_24 (nI_ge (b := n) hk_22 (Nat.lt_of_le_of_lt (mw_n hm) (by decide)))) (fun hc_24 => ?_)
        refine pw_aload_n (pc := 85) hX dX2_sample_85 3 rfl ?_
        refine pw_iload_n (pc := 86) hX dX2_sample_86 0 rfl ?_
        refine pw_callV (pc := 87) (st := []) hX (mt_at l hl G _ am _ _ _ _ _ _ _ _ _ _ _ _ _ (mw_ob (mw_ob hm (oc) (mw_oc hm) td 0 (lN sn)) (oc) (mw_oc hm) td 0 (lN (sd_n sn))) oo hO k_22 hk_22) hm_21 rfl ok_X2_at lk_RX2_60 dX2_sample_87 rfl ⟨⟨by decide, by decide⟩, Nat.le_of_ble_eq_true rfl, Nat.le_of_ble_eq_true rfl, Nat.le_of_ble_eq_true rfl⟩ rfl (fun v9 M9 hp9 => ?_)
        obtain ⟨rfl, ⟨o, ho, ho9, rfl⟩ | ⟨ho, rfl⟩⟩ := hp9
        · have hoB : o < 2 ^ 31 := Nat.lt_of_lt_of_le ho9 (Nat.le_trans (mw_oc hm) (by decide))
          refine pw_istore (pc := 90) hX [(4, .int (nI o)), (3, .int (nI (k_22))), (2, .int (nI ((sd_n sn / 65536 % od_ct (cb_o os) oc) - od_ct (cc_b oo os) (k_22)))), (1, .int (nI (od_ct (cb_o os) (oc)))), (0, .ref (am 0))] dX2_sample_90 (by decide) rfl ?_
          refine pw_iload (pc := 92) hX dX2_sample_92 0 rfl ?_
          refine pw_iconst (pc := 94) (v := (-1)) hX dX2_sample_94 (by decide) ?_
          refine pw_icmp_eq (pc := 95) hX 119 dX2_sample_95 (by decide) (fun hc_25 => absurd hc_25 (nI_m1 hoB)) (fun hc_25 => ?_)
          refine pw_aload_n (pc := 98) hX dX2_sample_98 4 rfl ?_
          refine pw_get (pc := 99) hX dX2_sample_99 hm_21 rfl inT_2 7 (by decide) fl_RX2_21 rfl ?_
          refine pw_iload (pc := 102) hX dX2_sample_102 0 rfl ?_
          refine pw_iald (pc := 104) (j := o) hX dX2_sample_104 hm_15 (by omega) (by decide) ?_
          refine pw_iconst (pc := 105) (v := 2) hX dX2_sample_105 (by decide) ?_
          refine pw_icmp_ne (pc := 106) hX 119 dX2_sample_106 (by decide) (fun hc_26 => ?_) (fun hc_26 => ?_)
          · refine pw_iinc (pc := 119) (v := nI ((k_22) + 1)) (j := 1) hX [(3, .int (nI ((k_22) + 1))), (4, .int (nI o)), (2, .int (nI ((sd_n sn / 65536 % od_ct (cb_o os) oc) - od_ct (cc_b oo os) (k_22)))), (1, .int (nI (od_ct (cb_o os) (oc)))), (0, .ref (am 0))] dX2_sample_119 rfl (nI_1 _) (by decide) rfl ?_
            refine pw_goto (pc := 122) hX 77 dX2_sample_122 (by decide) ?_
            have hcb : cc_b oo os k_22 = false := (cc_bs ho).trans (decide_eq_false hc_26)
            rw [od_ct_f hcb] at ih_k_22
            exact pw_lv [0, 2, 3, 4] _ rfl (ih_k_22 ⟨hy_k_22.1, lt_s hy_k_22.2 (fun h => by rw [hcb] at h; cases h)⟩)
          · refine pw_iload_n (pc := 109) hX dX2_sample_109 2 rfl ?_
            refine pw_if_ne (pc := 110) hX 116 dX2_sample_110 (by decide) (fun hc_27 => ?_) (fun hc_27 => ?_)
            · have hps : 0 < (sd_n sn / 65536 % od_ct (cb_o os) oc) - od_ct (cc_b oo os) k_22 := Nat.pos_of_ne_zero (fun h => hc_27 (by rw [h]; rfl))
              refine pw_iinc (pc := 116) (v := nI ((sd_n sn / 65536 % od_ct (cb_o os) oc) - od_ct (cc_b oo os) k_22 - 1)) (j := 2) hX [(2, .int (nI ((sd_n sn / 65536 % od_ct (cb_o os) oc) - od_ct (cc_b oo os) k_22 - 1))), (4, .int (nI o)), (3, .int (nI (k_22))), (1, .int (nI (od_ct (cb_o os) (oc)))), (0, .ref (am 0))] dX2_sample_116 rfl (sb_m1 hps) (by decide) rfl ?_
              refine pw_iinc (pc := 119) (v := nI ((k_22) + 1)) (j := 2) hX [(3, .int (nI ((k_22) + 1))), (2, .int (nI ((sd_n sn / 65536 % od_ct (cb_o os) oc) - od_ct (cc_b oo os) k_22 - 1))), (4, .int (nI o)), (1, .int (nI (od_ct (cb_o os) (oc)))), (0, .ref (am 0))] dX2_sample_119 rfl (nI_1 _) (by decide) rfl ?_
              refine pw_goto (pc := 122) hX 77 dX2_sample_122 (by decide) ?_
              have hcb : cc_b oo os k_22 = true := (cc_bs ho).trans (decide_eq_true hc_26)
              rw [od_ct_t hcb, ← Nat.sub_sub] at ih_k_22
              exact pw_lv [0, 1, 3, 4] _ rfl (ih_k_22 ⟨by omega, lt_s hy_k_22.2 (fun _ h => by omega)⟩)
            · refine pw_iload (pc := 113) hX dX2_sample_113 0 rfl ?_
              subst hQ9
              exact pw_iret hX dX2_sample_115 hrt ⟨by decide, by decide⟩ ⟨Or.inr ⟨hct, (mw_ob (mw_ob hm (oc) (mw_oc hm) td 0 (lN sn)) (oc) (mw_oc hm) td 0 (lN (sd_n sn))), Or.inl ⟨k_22, o, hk_22, ho, hc_26, by have := (nI_eq (b := 0) (Nat.lt_of_le_of_lt (Nat.sub_le _ _) (Nat.lt_of_le_of_lt (Nat.mod_le _ _) (Nat.lt_of_le_of_lt (Nat.div_le_self _ _) (sd_lt sn)))) (by decide)).mp hc_27; have := hy_k_22.1; omega, rfl⟩⟩, (fm_up (fm_up fm_rf (x := 0) (by decide) _) (x := 0) (by decide) _)⟩
        · refine pw_istore (pc := 90) hX [(4, .int ((-1))), (3, .int (nI (k_22))), (2, .int (nI ((sd_n sn / 65536 % od_ct (cb_o os) oc) - od_ct (cc_b oo os) (k_22)))), (1, .int (nI (od_ct (cb_o os) (oc)))), (0, .ref (am 0))] dX2_sample_90 (by decide) rfl ?_
          refine pw_iload (pc := 92) hX dX2_sample_92 0 rfl ?_
          refine pw_iconst (pc := 94) (v := (-1)) hX dX2_sample_94 (by decide) ?_
          refine pw_icmp_eq (pc := 95) hX 119 dX2_sample_95 (by decide) (fun _ => ?_) (fun h => absurd h (by decide))
          refine pw_iinc (pc := 119) (v := nI ((k_22) + 1)) (j := 1) hX [(3, .int (nI ((k_22) + 1))), (4, .int ((-1))), (2, .int (nI ((sd_n sn / 65536 % od_ct (cb_o os) oc) - od_ct (cc_b oo os) (k_22)))), (1, .int (nI (od_ct (cb_o os) (oc)))), (0, .ref (am 0))] dX2_sample_119 rfl (nI_1 _) (by decide) rfl ?_
          refine pw_goto (pc := 122) hX 77 dX2_sample_122 (by decide) ?_
          have hcb : cc_b oo os k_22 = false := cc_bn ho
          rw [od_ct_f hcb] at ih_k_22
          exact pw_lv [0, 2, 3, 4] _ rfl (ih_k_22 ⟨hy_k_22.1, lt_s hy_k_22.2 (fun h => by rw [hcb] at h; cases h)⟩)
    · refine pw_iconst (pc := 40) (v := (-1)) hX dX2_sample_40 (by decide) ?_
      subst hQ9
      exact pw_iret hX dX2_sample_41 hrt ⟨by decide, by decide⟩ ⟨Or.inl ⟨(nI_eq (b := 0) (Nat.lt_of_le_of_lt (od_ct_le _ _) (Nat.lt_of_le_of_lt (mw_oc hm) (by decide))) (by decide)).mp hc_12, rfl, (mw_ob hm (oc) (mw_oc hm) td 0 (lN sn))⟩, (fm_up fm_rf (x := 0) (by decide) _)⟩
  · intro k_10 hk_10 ih_k_10
    refine pw_iload_n (pc := 9) hX dX2_sample_9 0 rfl ?_
    refine pw_aload_n (pc := 10) hX dX2_sample_10 2 rfl ?_
    refine pw_get (pc := 11) hX dX2_sample_11 hm_9 rfl inT_2 3 (by decide) fl_RX2_50 rfl ?_
    refine pw_icmp_ge (pc := 14) hX 36 dX2_sample_14 (by decide) (fun hc_29 => absurd hc_29 (nI_ge (b := oc) hk_10 (Nat.lt_of_le_of_lt (mw_oc hm) (by decide)))) (fun hc_29 => ?_)
    refine pw_aload_n (pc := 17) hX dX2_sample_17 2 rfl ?_
    refine pw_get (pc := 18) hX dX2_sample_18 hm_9 rfl inT_2 7 (by decide) fl_RX2_21 rfl ?_
    refine pw_iload_n (pc := 21) hX dX2_sample_21 0 rfl ?_
    refine pw_iald (pc := 22) (j := k_10) hX dX2_sample_22 hm_3 (by omega) (by decide) ?_
    refine pw_iconst (pc := 23) (v := 2) hX dX2_sample_23 (by decide) ?_
    refine pw_icmp_ne (pc := 24) hX 30 dX2_sample_24 (by decide) (fun hc_30 => ?_) (fun hc_30 => ?_)
    · refine pw_iinc (pc := 30) (v := nI ((k_10) + 1)) (j := 0) hX [(2, .int (nI ((k_10) + 1))), (1, .int (nI (od_ct (cb_o os) (k_10)))), (0, .ref (am 0))] dX2_sample_30 rfl (nI_1 _) (by decide) rfl ?_
      refine pw_goto (pc := 33) hX 9 dX2_sample_33 (by decide) ?_
      rw [od_ct_f (b := cb_o os) (k := k_10) (decide_eq_false hc_30)] at ih_k_10
      exact pw_lv [0, 1, 2] _ rfl (ih_k_10)
    · refine pw_iinc (pc := 27) (v := nI ((od_ct (cb_o os) (k_10)) + 1)) (j := 1) hX [(1, .int (nI ((od_ct (cb_o os) (k_10)) + 1))), (2, .int (nI (k_10))), (0, .ref (am 0))] dX2_sample_27 rfl (nI_1 _) (by decide) rfl ?_
      refine pw_iinc (pc := 30) (v := nI ((k_10) + 1)) (j := 1) hX [(2, .int (nI ((k_10) + 1))), (1, .int (nI ((od_ct (cb_o os) (k_10)) + 1))), (0, .ref (am 0))] dX2_sample_30 rfl (nI_1 _) (by decide) rfl ?_
      refine pw_goto (pc := 33) hX 9 dX2_sample_33 (by decide) ?_
      rw [od_ct_t (b := cb_o os) (k := k_10) (decide_eq_true hc_30)] at ih_k_10
      exact pw_lv [0, 1, 2] _ rfl (ih_k_10)
def am_0 (a q1 q2 q3 q4 q5 q6 q7 q8 : Nat) : Nat → Nat := fun x => if x = 0 then a else if x = 1 then q1 else if x = 2 then q2 else if x = 3 then q3 else if x = 4 then q4 else if x = 5 then q5 else if x = 6 then q6 else if x = 7 then q7 else q8
theorem am_lt {a q1 q2 q3 q4 q5 q6 q7 q8 : Nat} (g1 : a < q1) (g2 : q1 < q2) (g3 : q2 < q3) (g4 : q3 < q4) (g5 : q4 < q5) (g6 : q5 < q6) (g7 : q6 < q7) (g8 : q7 < q8) : ∀ x y : Nat, x < y → y < 9 → am_0 a q1 q2 q3 q4 q5 q6 q7 q8 x < am_0 a q1 q2 q3 q4 q5 q6 q7 q8 y := by
  intro x y hxy hy
  have step : ∀ x : Nat, x < 8 → am_0 a q1 q2 q3 q4 q5 q6 q7 q8 x < am_0 a q1 q2 q3 q4 q5 q6 q7 q8 (x + 1) := by
    intro x hx
    rcases (show x = 0 ∨ x = 1 ∨ x = 2 ∨ x = 3 ∨ x = 4 ∨ x = 5 ∨ x = 6 ∨ x = 7 by omega) with rfl | rfl | rfl | rfl | rfl | rfl | rfl | rfl <;> simp [am_0] <;> omega
  obtain ⟨d, rfl⟩ : ∃ d, y = x + 1 + d := ⟨y - x - 1, by omega⟩
  induction d with
  | zero => exact step x (by omega)
  | succ d ih => exact Nat.lt_trans (ih (by omega) (by omega)) (step (x + 1 + d) (by omega))
theorem am_inj {a q1 q2 q3 q4 q5 q6 q7 q8 : Nat} (g1 : a < q1) (g2 : q1 < q2) (g3 : q2 < q3) (g4 : q3 < q4) (g5 : q4 < q5) (g6 : q5 < q6) (g7 : q6 < q7) (g8 : q7 < q8) : ∀ x y : Nat, x < 9 → y < 9 → am_0 a q1 q2 q3 q4 q5 q6 q7 q8 x = am_0 a q1 q2 q3 q4 q5 q6 q7 q8 y → x = y := by
  intro x y hx hy h
  rcases Nat.lt_trichotomy x y with h1 | h1 | h1
  · have := am_lt g1 g2 g3 g4 g5 g6 g7 g8 x y h1 hy; omega
  · exact h1
  · have := am_lt g1 g2 g3 g4 g5 g6 g7 g8 y x h1 hx; omega
set_option maxHeartbeats 4000000 in
set_option maxRecDepth 100000 in
theorem mp_init (l : Launch) (hl : l.stackTraces = false) (G : pw_G) (M : pw_M) (a : Nat) (p0 : Int32) (ha : M a = some (.inr (2, [.int 0, .null, .null, .int 0, .int 0, .int 0, .long 0, .null, .null, .null, .null, .null, .null]))) : pw_Met l yX2_init cX2_init 2 none 3 8 674 G [.ref a, .int p0] M (fun v9 M9 => v9 = none ∧ ∃ (am9 : Nat → Nat) (b9 : Nat), am9 0 = a ∧ ab M b9 ∧ (∀ x, 1 ≤ x → x < 9 → b9 ≤ am9 x) ∧ mw G am9 (wn p0) 0 0 0 1 (fun _ => 0) (fun _ => 0) (fun _ => 0) (fun _ => 0) (fun _ => 0) (fun _ _ => 0) (fun _ _ => 0) (fun _ _ => 0) M9 ∧ kp a M M9) := by
  refine pw_of hl (by decide +kernel) (Nat.le_of_ble_eq_true rfl) [(0, .ref a), (1, .int p0)] rfl ?_
  intro p9 e9 s9 m9 args9 below9 meth9 c9 hX hrt hmi
  refine pw_aload_n (pc := 0) hX dX2_init_0 0 rfl ?_
  refine pw_objInit (pc := 1) hX dX2_init_1 oi_RX2_1 ⟨by decide, Nat.le_of_ble_eq_true rfl⟩ ?_
  refine pw_aload_n (pc := 4) hX dX2_init_4 0 rfl ?_
  refine pw_bipush (pc := 5) (v := 16) hX dX2_init_5 (by decide) ?_
  refine pw_newz (pc := 7) (n := 16) hX dX2_init_7 ac_boolean (by decide) (Nat.le_of_ble_eq_true rfl) (Nat.le_of_ble_eq_true rfl) (fun q_1 hf_q_1 => ?_)
  have ha1 : a < q_1 := hf_q_1.2 _ _ ha
  have hab : ab M q_1 := ab_of (a := a) kp_rf hf_q_1 ha
  have hm_2 := pw_ke (a := q_1) (e := .inl (G.2.2.1 1, 16, .inl (fun _ => 0))) ha (pw_fr.ne hf_q_1 ha)
  have hm_3 : pw_up M q_1 (.inl (G.2.2.1 1, 16, .inl (fun _ => 0))) q_1 = some (.inl (G.2.2.1 1, 16, .inl (fun _ => 0))) := pw_us
  refine pw_putF (pc := 9) (v := .ref q_1) hX dX2_init_9 hm_2 rfl inT_2 tyX2 tyX2_ok nmX2 1 (by decide) fl_RX2_7 rfl hmi rfl (tyX2_ok 1 (by decide)) rfl rfl (Nat.le_of_ble_eq_true rfl) [.int 0, .ref q_1, .null, .int 0, .int 0, .int 0, .long 0, .null, .null, .null, .null, .null, .null] rfl ?_
  have hm_4 := pw_ke (a := a) (e := .inr (2, [.int 0, .ref q_1, .null, .int 0, .int 0, .int 0, .long 0, .null, .null, .null, .null, .null, .null])) hm_3 (by omega)
  have hm_5 : pw_up (pw_up M q_1 (.inl (G.2.2.1 1, 16, .inl (fun _ => 0)))) a (.inr (2, [.int 0, .ref q_1, .null, .int 0, .int 0, .int 0, .long 0, .null, .null, .null, .null, .null, .null])) a = some (.inr (2, [.int 0, .ref q_1, .null, .int 0, .int 0, .int 0, .long 0, .null, .null, .null, .null, .null, .null])) := pw_us
  refine pw_aload_n (pc := 12) hX dX2_init_12 0 rfl ?_
  refine pw_bipush (pc := 13) (v := 10) hX dX2_init_13 (by decide) ?_
  refine pw_newi (pc := 15) (n := 10) hX dX2_init_15 ac_int (by decide) (Nat.le_of_ble_eq_true rfl) (Nat.le_of_ble_eq_true rfl) (fun q_6 hf_q_6 => ?_)
  have h12 : q_1 < q_6 := hf_q_6.2 _ _ hm_4
  have hm_7 := pw_ke (a := q_6) (e := .inl (G.2.2.1 0, 10, .inl (fun _ => 0))) hm_5 (pw_fr.ne hf_q_6 hm_5)
  have hm_8 := pw_ke (a := q_6) (e := .inl (G.2.2.1 0, 10, .inl (fun _ => 0))) hm_4 (pw_fr.ne hf_q_6 hm_4)
  have hm_9 : pw_up (pw_up (pw_up M q_1 (.inl (G.2.2.1 1, 16, .inl (fun _ => 0)))) a (.inr (2, [.int 0, .ref q_1, .null, .int 0, .int 0, .int 0, .long 0, .null, .null, .null, .null, .null, .null]))) q_6 (.inl (G.2.2.1 0, 10, .inl (fun _ => 0))) q_6 = some (.inl (G.2.2.1 0, 10, .inl (fun _ => 0))) := pw_us
  refine pw_putF (pc := 17) (v := .ref q_6) hX dX2_init_17 hm_7 rfl inT_2 tyX2 tyX2_ok nmX2 2 (by decide) fl_RX2_13 rfl hmi rfl (tyX2_ok 2 (by decide)) rfl rfl (Nat.le_of_ble_eq_true rfl) [.int 0, .ref q_1, .ref q_6, .int 0, .int 0, .int 0, .long 0, .null, .null, .null, .null, .null, .null] rfl ?_
  have hm_10 := pw_ke (a := a) (e := .inr (2, [.int 0, .ref q_1, .ref q_6, .int 0, .int 0, .int 0, .long 0, .null, .null, .null, .null, .null, .null])) hm_8 (by omega)
  have hm_11 := pw_ke (a := a) (e := .inr (2, [.int 0, .ref q_1, .ref q_6, .int 0, .int 0, .int 0, .long 0, .null, .null, .null, .null, .null, .null])) hm_9 (by omega)
  have hm_12 : pw_up (pw_up (pw_up (pw_up M q_1 (.inl (G.2.2.1 1, 16, .inl (fun _ => 0)))) a (.inr (2, [.int 0, .ref q_1, .null, .int 0, .int 0, .int 0, .long 0, .null, .null, .null, .null, .null, .null]))) q_6 (.inl (G.2.2.1 0, 10, .inl (fun _ => 0)))) a (.inr (2, [.int 0, .ref q_1, .ref q_6, .int 0, .int 0, .int 0, .long 0, .null, .null, .null, .null, .null, .null])) a = some (.inr (2, [.int 0, .ref q_1, .ref q_6, .int 0, .int 0, .int 0, .long 0, .null, .null, .null, .null, .null, .null])) := pw_us
  refine pw_aload_n (pc := 20) hX dX2_init_20 0 rfl ?_
  refine pw_lconst (pc := 21) (v := 1) hX dX2_init_21 (by decide) ?_
  refine pw_put (pc := 22) (v := .long 1) hX dX2_init_22 hm_12 rfl inT_2 tyX2 tyX2_ok nmX2 6 (by decide) fl_RX2_17 rfl (tyX2_ok 6 (by decide)) rfl rfl (Nat.le_of_ble_eq_true rfl) [.int 0, .ref q_1, .ref q_6, .int 0, .int 0, .int 0, .long 1, .null, .null, .null, .null, .null, .null] rfl ?_
  have hm_13 := pw_ke (a := a) (e := .inr (2, [.int 0, .ref q_1, .ref q_6, .int 0, .int 0, .int 0, .long 1, .null, .null, .null, .null, .null, .null])) hm_10 (by omega)
  have hm_14 := pw_ke (a := a) (e := .inr (2, [.int 0, .ref q_1, .ref q_6, .int 0, .int 0, .int 0, .long 1, .null, .null, .null, .null, .null, .null])) hm_11 (by omega)
  have hm_15 : pw_up (pw_up (pw_up (pw_up (pw_up M q_1 (.inl (G.2.2.1 1, 16, .inl (fun _ => 0)))) a (.inr (2, [.int 0, .ref q_1, .null, .int 0, .int 0, .int 0, .long 0, .null, .null, .null, .null, .null, .null]))) q_6 (.inl (G.2.2.1 0, 10, .inl (fun _ => 0)))) a (.inr (2, [.int 0, .ref q_1, .ref q_6, .int 0, .int 0, .int 0, .long 0, .null, .null, .null, .null, .null, .null]))) a (.inr (2, [.int 0, .ref q_1, .ref q_6, .int 0, .int 0, .int 0, .long 1, .null, .null, .null, .null, .null, .null])) a = some (.inr (2, [.int 0, .ref q_1, .ref q_6, .int 0, .int 0, .int 0, .long 1, .null, .null, .null, .null, .null, .null])) := pw_us
  refine pw_aload_n (pc := 25) hX dX2_init_25 0 rfl ?_
  refine pw_bipush (pc := 26) (v := 20) hX dX2_init_26 (by decide) ?_
  refine pw_newi (pc := 28) (n := 20) hX dX2_init_28 ac_int (by decide) (Nat.le_of_ble_eq_true rfl) (Nat.le_of_ble_eq_true rfl) (fun q_16 hf_q_16 => ?_)
  have h23 : q_6 < q_16 := hf_q_16.2 _ _ hm_14
  have hm_17 := pw_ke (a := q_16) (e := .inl (G.2.2.1 0, 20, .inl (fun _ => 0))) hm_15 (pw_fr.ne hf_q_16 hm_15)
  have hm_18 := pw_ke (a := q_16) (e := .inl (G.2.2.1 0, 20, .inl (fun _ => 0))) hm_13 (pw_fr.ne hf_q_16 hm_13)
  have hm_19 := pw_ke (a := q_16) (e := .inl (G.2.2.1 0, 20, .inl (fun _ => 0))) hm_14 (pw_fr.ne hf_q_16 hm_14)
  have hm_20 : pw_up (pw_up (pw_up (pw_up (pw_up (pw_up M q_1 (.inl (G.2.2.1 1, 16, .inl (fun _ => 0)))) a (.inr (2, [.int 0, .ref q_1, .null, .int 0, .int 0, .int 0, .long 0, .null, .null, .null, .null, .null, .null]))) q_6 (.inl (G.2.2.1 0, 10, .inl (fun _ => 0)))) a (.inr (2, [.int 0, .ref q_1, .ref q_6, .int 0, .int 0, .int 0, .long 0, .null, .null, .null, .null, .null, .null]))) a (.inr (2, [.int 0, .ref q_1, .ref q_6, .int 0, .int 0, .int 0, .long 1, .null, .null, .null, .null, .null, .null]))) q_16 (.inl (G.2.2.1 0, 20, .inl (fun _ => 0))) q_16 = some (.inl (G.2.2.1 0, 20, .inl (fun _ => 0))) := pw_us
  refine pw_putF (pc := 30) (v := .ref q_16) hX dX2_init_30 hm_17 rfl inT_2 tyX2 tyX2_ok nmX2 7 (by decide) fl_RX2_21 rfl hmi rfl (tyX2_ok 7 (by decide)) rfl rfl (Nat.le_of_ble_eq_true rfl) [.int 0, .ref q_1, .ref q_6, .int 0, .int 0, .int 0, .long 1, .ref q_16, .null, .null, .null, .null, .null] rfl ?_
  have hm_21 := pw_ke (a := a) (e := .inr (2, [.int 0, .ref q_1, .ref q_6, .int 0, .int 0, .int 0, .long 1, .ref q_16, .null, .null, .null, .null, .null])) hm_18 (by omega)
  have hm_22 := pw_ke (a := a) (e := .inr (2, [.int 0, .ref q_1, .ref q_6, .int 0, .int 0, .int 0, .long 1, .ref q_16, .null, .null, .null, .null, .null])) hm_19 (by omega)
  have hm_23 := pw_ke (a := a) (e := .inr (2, [.int 0, .ref q_1, .ref q_6, .int 0, .int 0, .int 0, .long 1, .ref q_16, .null, .null, .null, .null, .null])) hm_20 (by omega)
  have hm_24 : pw_up (pw_up (pw_up (pw_up (pw_up (pw_up (pw_up M q_1 (.inl (G.2.2.1 1, 16, .inl (fun _ => 0)))) a (.inr (2, [.int 0, .ref q_1, .null, .int 0, .int 0, .int 0, .long 0, .null, .null, .null, .null, .null, .null]))) q_6 (.inl (G.2.2.1 0, 10, .inl (fun _ => 0)))) a (.inr (2, [.int 0, .ref q_1, .ref q_6, .int 0, .int 0, .int 0, .long 0, .null, .null, .null, .null, .null, .null]))) a (.inr (2, [.int 0, .ref q_1, .ref q_6, .int 0, .int 0, .int 0, .long 1, .null, .null, .null, .null, .null, .null]))) q_16 (.inl (G.2.2.1 0, 20, .inl (fun _ => 0)))) a (.inr (2, [.int 0, .ref q_1, .ref q_6, .int 0, .int 0, .int 0, .long 1, .ref q_16, .null, .null, .null, .null, .null])) a = some (.inr (2, [.int 0, .ref q_1, .ref q_6, .int 0, .int 0, .int 0, .long 1, .ref q_16, .null, .null, .null, .null, .null])) := pw_us
  refine pw_aload_n (pc := 33) hX dX2_init_33 0 rfl ?_
  refine pw_bipush (pc := 34) (v := 20) hX dX2_init_34 (by decide) ?_
  refine pw_newi (pc := 36) (n := 20) hX dX2_init_36 ac_int (by decide) (Nat.le_of_ble_eq_true rfl) (Nat.le_of_ble_eq_true rfl) (fun q_25 hf_q_25 => ?_)
  have h34 : q_16 < q_25 := hf_q_25.2 _ _ hm_23
  have hm_26 := pw_ke (a := q_25) (e := .inl (G.2.2.1 0, 20, .inl (fun _ => 0))) hm_24 (pw_fr.ne hf_q_25 hm_24)
  have hm_27 := pw_ke (a := q_25) (e := .inl (G.2.2.1 0, 20, .inl (fun _ => 0))) hm_21 (pw_fr.ne hf_q_25 hm_21)
  have hm_28 := pw_ke (a := q_25) (e := .inl (G.2.2.1 0, 20, .inl (fun _ => 0))) hm_22 (pw_fr.ne hf_q_25 hm_22)
  have hm_29 := pw_ke (a := q_25) (e := .inl (G.2.2.1 0, 20, .inl (fun _ => 0))) hm_23 (pw_fr.ne hf_q_25 hm_23)
  have hm_30 : pw_up (pw_up (pw_up (pw_up (pw_up (pw_up (pw_up (pw_up M q_1 (.inl (G.2.2.1 1, 16, .inl (fun _ => 0)))) a (.inr (2, [.int 0, .ref q_1, .null, .int 0, .int 0, .int 0, .long 0, .null, .null, .null, .null, .null, .null]))) q_6 (.inl (G.2.2.1 0, 10, .inl (fun _ => 0)))) a (.inr (2, [.int 0, .ref q_1, .ref q_6, .int 0, .int 0, .int 0, .long 0, .null, .null, .null, .null, .null, .null]))) a (.inr (2, [.int 0, .ref q_1, .ref q_6, .int 0, .int 0, .int 0, .long 1, .null, .null, .null, .null, .null, .null]))) q_16 (.inl (G.2.2.1 0, 20, .inl (fun _ => 0)))) a (.inr (2, [.int 0, .ref q_1, .ref q_6, .int 0, .int 0, .int 0, .long 1, .ref q_16, .null, .null, .null, .null, .null]))) q_25 (.inl (G.2.2.1 0, 20, .inl (fun _ => 0))) q_25 = some (.inl (G.2.2.1 0, 20, .inl (fun _ => 0))) := pw_us
  refine pw_putF (pc := 38) (v := .ref q_25) hX dX2_init_38 hm_26 rfl inT_2 tyX2 tyX2_ok nmX2 8 (by decide) fl_RX2_24 rfl hmi rfl (tyX2_ok 8 (by decide)) rfl rfl (Nat.le_of_ble_eq_true rfl) [.int 0, .ref q_1, .ref q_6, .int 0, .int 0, .int 0, .long 1, .ref q_16, .ref q_25, .null, .null, .null, .null] rfl ?_
  have hm_31 := pw_ke (a := a) (e := .inr (2, [.int 0, .ref q_1, .ref q_6, .int 0, .int 0, .int 0, .long 1, .ref q_16, .ref q_25, .null, .null, .null, .null])) hm_27 (by omega)
  have hm_32 := pw_ke (a := a) (e := .inr (2, [.int 0, .ref q_1, .ref q_6, .int 0, .int 0, .int 0, .long 1, .ref q_16, .ref q_25, .null, .null, .null, .null])) hm_28 (by omega)
  have hm_33 := pw_ke (a := a) (e := .inr (2, [.int 0, .ref q_1, .ref q_6, .int 0, .int 0, .int 0, .long 1, .ref q_16, .ref q_25, .null, .null, .null, .null])) hm_29 (by omega)
  have hm_34 := pw_ke (a := a) (e := .inr (2, [.int 0, .ref q_1, .ref q_6, .int 0, .int 0, .int 0, .long 1, .ref q_16, .ref q_25, .null, .null, .null, .null])) hm_30 (by omega)
  have hm_35 : pw_up (pw_up (pw_up (pw_up (pw_up (pw_up (pw_up (pw_up (pw_up M q_1 (.inl (G.2.2.1 1, 16, .inl (fun _ => 0)))) a (.inr (2, [.int 0, .ref q_1, .null, .int 0, .int 0, .int 0, .long 0, .null, .null, .null, .null, .null, .null]))) q_6 (.inl (G.2.2.1 0, 10, .inl (fun _ => 0)))) a (.inr (2, [.int 0, .ref q_1, .ref q_6, .int 0, .int 0, .int 0, .long 0, .null, .null, .null, .null, .null, .null]))) a (.inr (2, [.int 0, .ref q_1, .ref q_6, .int 0, .int 0, .int 0, .long 1, .null, .null, .null, .null, .null, .null]))) q_16 (.inl (G.2.2.1 0, 20, .inl (fun _ => 0)))) a (.inr (2, [.int 0, .ref q_1, .ref q_6, .int 0, .int 0, .int 0, .long 1, .ref q_16, .null, .null, .null, .null, .null]))) q_25 (.inl (G.2.2.1 0, 20, .inl (fun _ => 0)))) a (.inr (2, [.int 0, .ref q_1, .ref q_6, .int 0, .int 0, .int 0, .long 1, .ref q_16, .ref q_25, .null, .null, .null, .null])) a = some (.inr (2, [.int 0, .ref q_1, .ref q_6, .int 0, .int 0, .int 0, .long 1, .ref q_16, .ref q_25, .null, .null, .null, .null])) := pw_us
  refine pw_aload_n (pc := 41) hX dX2_init_41 0 rfl ?_
  refine pw_sipush (pc := 42) (v := 200) hX dX2_init_42 (by decide) ?_
  refine pw_newi (pc := 45) (n := 200) hX dX2_init_45 ac_int (by decide) (Nat.le_of_ble_eq_true rfl) (Nat.le_of_ble_eq_true rfl) (fun q_36 hf_q_36 => ?_)
  have h45 : q_25 < q_36 := hf_q_36.2 _ _ hm_34
  have hm_37 := pw_ke (a := q_36) (e := .inl (G.2.2.1 0, 200, .inl (fun _ => 0))) hm_35 (pw_fr.ne hf_q_36 hm_35)
  have hm_38 := pw_ke (a := q_36) (e := .inl (G.2.2.1 0, 200, .inl (fun _ => 0))) hm_31 (pw_fr.ne hf_q_36 hm_31)
  have hm_39 := pw_ke (a := q_36) (e := .inl (G.2.2.1 0, 200, .inl (fun _ => 0))) hm_32 (pw_fr.ne hf_q_36 hm_32)
  have hm_40 := pw_ke (a := q_36) (e := .inl (G.2.2.1 0, 200, .inl (fun _ => 0))) hm_33 (pw_fr.ne hf_q_36 hm_33)
  have hm_41 := pw_ke (a := q_36) (e := .inl (G.2.2.1 0, 200, .inl (fun _ => 0))) hm_34 (pw_fr.ne hf_q_36 hm_34)
  have hm_42 : pw_up (pw_up (pw_up (pw_up (pw_up (pw_up (pw_up (pw_up (pw_up (pw_up M q_1 (.inl (G.2.2.1 1, 16, .inl (fun _ => 0)))) a (.inr (2, [.int 0, .ref q_1, .null, .int 0, .int 0, .int 0, .long 0, .null, .null, .null, .null, .null, .null]))) q_6 (.inl (G.2.2.1 0, 10, .inl (fun _ => 0)))) a (.inr (2, [.int 0, .ref q_1, .ref q_6, .int 0, .int 0, .int 0, .long 0, .null, .null, .null, .null, .null, .null]))) a (.inr (2, [.int 0, .ref q_1, .ref q_6, .int 0, .int 0, .int 0, .long 1, .null, .null, .null, .null, .null, .null]))) q_16 (.inl (G.2.2.1 0, 20, .inl (fun _ => 0)))) a (.inr (2, [.int 0, .ref q_1, .ref q_6, .int 0, .int 0, .int 0, .long 1, .ref q_16, .null, .null, .null, .null, .null]))) q_25 (.inl (G.2.2.1 0, 20, .inl (fun _ => 0)))) a (.inr (2, [.int 0, .ref q_1, .ref q_6, .int 0, .int 0, .int 0, .long 1, .ref q_16, .ref q_25, .null, .null, .null, .null]))) q_36 (.inl (G.2.2.1 0, 200, .inl (fun _ => 0))) q_36 = some (.inl (G.2.2.1 0, 200, .inl (fun _ => 0))) := pw_us
  refine pw_putF (pc := 47) (v := .ref q_36) hX dX2_init_47 hm_37 rfl inT_2 tyX2 tyX2_ok nmX2 9 (by decide) fl_RX2_27 rfl hmi rfl (tyX2_ok 9 (by decide)) rfl rfl (Nat.le_of_ble_eq_true rfl) [.int 0, .ref q_1, .ref q_6, .int 0, .int 0, .int 0, .long 1, .ref q_16, .ref q_25, .ref q_36, .null, .null, .null] rfl ?_
  have hm_43 := pw_ke (a := a) (e := .inr (2, [.int 0, .ref q_1, .ref q_6, .int 0, .int 0, .int 0, .long 1, .ref q_16, .ref q_25, .ref q_36, .null, .null, .null])) hm_38 (by omega)
  have hm_44 := pw_ke (a := a) (e := .inr (2, [.int 0, .ref q_1, .ref q_6, .int 0, .int 0, .int 0, .long 1, .ref q_16, .ref q_25, .ref q_36, .null, .null, .null])) hm_39 (by omega)
  have hm_45 := pw_ke (a := a) (e := .inr (2, [.int 0, .ref q_1, .ref q_6, .int 0, .int 0, .int 0, .long 1, .ref q_16, .ref q_25, .ref q_36, .null, .null, .null])) hm_40 (by omega)
  have hm_46 := pw_ke (a := a) (e := .inr (2, [.int 0, .ref q_1, .ref q_6, .int 0, .int 0, .int 0, .long 1, .ref q_16, .ref q_25, .ref q_36, .null, .null, .null])) hm_41 (by omega)
  have hm_47 := pw_ke (a := a) (e := .inr (2, [.int 0, .ref q_1, .ref q_6, .int 0, .int 0, .int 0, .long 1, .ref q_16, .ref q_25, .ref q_36, .null, .null, .null])) hm_42 (by omega)
  have hm_48 : pw_up (pw_up (pw_up (pw_up (pw_up (pw_up (pw_up (pw_up (pw_up (pw_up (pw_up M q_1 (.inl (G.2.2.1 1, 16, .inl (fun _ => 0)))) a (.inr (2, [.int 0, .ref q_1, .null, .int 0, .int 0, .int 0, .long 0, .null, .null, .null, .null, .null, .null]))) q_6 (.inl (G.2.2.1 0, 10, .inl (fun _ => 0)))) a (.inr (2, [.int 0, .ref q_1, .ref q_6, .int 0, .int 0, .int 0, .long 0, .null, .null, .null, .null, .null, .null]))) a (.inr (2, [.int 0, .ref q_1, .ref q_6, .int 0, .int 0, .int 0, .long 1, .null, .null, .null, .null, .null, .null]))) q_16 (.inl (G.2.2.1 0, 20, .inl (fun _ => 0)))) a (.inr (2, [.int 0, .ref q_1, .ref q_6, .int 0, .int 0, .int 0, .long 1, .ref q_16, .null, .null, .null, .null, .null]))) q_25 (.inl (G.2.2.1 0, 20, .inl (fun _ => 0)))) a (.inr (2, [.int 0, .ref q_1, .ref q_6, .int 0, .int 0, .int 0, .long 1, .ref q_16, .ref q_25, .null, .null, .null, .null]))) q_36 (.inl (G.2.2.1 0, 200, .inl (fun _ => 0)))) a (.inr (2, [.int 0, .ref q_1, .ref q_6, .int 0, .int 0, .int 0, .long 1, .ref q_16, .ref q_25, .ref q_36, .null, .null, .null])) a = some (.inr (2, [.int 0, .ref q_1, .ref q_6, .int 0, .int 0, .int 0, .long 1, .ref q_16, .ref q_25, .ref q_36, .null, .null, .null])) := pw_us
  refine pw_aload_n (pc := 50) hX dX2_init_50 0 rfl ?_
  refine pw_sipush (pc := 51) (v := 200) hX dX2_init_51 (by decide) ?_
  refine pw_newi (pc := 54) (n := 200) hX dX2_init_54 ac_int (by decide) (Nat.le_of_ble_eq_true rfl) (Nat.le_of_ble_eq_true rfl) (fun q_49 hf_q_49 => ?_)
  have h56 : q_36 < q_49 := hf_q_49.2 _ _ hm_47
  have hm_50 := pw_ke (a := q_49) (e := .inl (G.2.2.1 0, 200, .inl (fun _ => 0))) hm_48 (pw_fr.ne hf_q_49 hm_48)
  have hm_51 := pw_ke (a := q_49) (e := .inl (G.2.2.1 0, 200, .inl (fun _ => 0))) hm_43 (pw_fr.ne hf_q_49 hm_43)
  have hm_52 := pw_ke (a := q_49) (e := .inl (G.2.2.1 0, 200, .inl (fun _ => 0))) hm_44 (pw_fr.ne hf_q_49 hm_44)
  have hm_53 := pw_ke (a := q_49) (e := .inl (G.2.2.1 0, 200, .inl (fun _ => 0))) hm_45 (pw_fr.ne hf_q_49 hm_45)
  have hm_54 := pw_ke (a := q_49) (e := .inl (G.2.2.1 0, 200, .inl (fun _ => 0))) hm_46 (pw_fr.ne hf_q_49 hm_46)
  have hm_55 := pw_ke (a := q_49) (e := .inl (G.2.2.1 0, 200, .inl (fun _ => 0))) hm_47 (pw_fr.ne hf_q_49 hm_47)
  have hm_56 : pw_up (pw_up (pw_up (pw_up (pw_up (pw_up (pw_up (pw_up (pw_up (pw_up (pw_up (pw_up M q_1 (.inl (G.2.2.1 1, 16, .inl (fun _ => 0)))) a (.inr (2, [.int 0, .ref q_1, .null, .int 0, .int 0, .int 0, .long 0, .null, .null, .null, .null, .null, .null]))) q_6 (.inl (G.2.2.1 0, 10, .inl (fun _ => 0)))) a (.inr (2, [.int 0, .ref q_1, .ref q_6, .int 0, .int 0, .int 0, .long 0, .null, .null, .null, .null, .null, .null]))) a (.inr (2, [.int 0, .ref q_1, .ref q_6, .int 0, .int 0, .int 0, .long 1, .null, .null, .null, .null, .null, .null]))) q_16 (.inl (G.2.2.1 0, 20, .inl (fun _ => 0)))) a (.inr (2, [.int 0, .ref q_1, .ref q_6, .int 0, .int 0, .int 0, .long 1, .ref q_16, .null, .null, .null, .null, .null]))) q_25 (.inl (G.2.2.1 0, 20, .inl (fun _ => 0)))) a (.inr (2, [.int 0, .ref q_1, .ref q_6, .int 0, .int 0, .int 0, .long 1, .ref q_16, .ref q_25, .null, .null, .null, .null]))) q_36 (.inl (G.2.2.1 0, 200, .inl (fun _ => 0)))) a (.inr (2, [.int 0, .ref q_1, .ref q_6, .int 0, .int 0, .int 0, .long 1, .ref q_16, .ref q_25, .ref q_36, .null, .null, .null]))) q_49 (.inl (G.2.2.1 0, 200, .inl (fun _ => 0))) q_49 = some (.inl (G.2.2.1 0, 200, .inl (fun _ => 0))) := pw_us
  refine pw_putF (pc := 56) (v := .ref q_49) hX dX2_init_56 hm_50 rfl inT_2 tyX2 tyX2_ok nmX2 10 (by decide) fl_RX2_30 rfl hmi rfl (tyX2_ok 10 (by decide)) rfl rfl (Nat.le_of_ble_eq_true rfl) [.int 0, .ref q_1, .ref q_6, .int 0, .int 0, .int 0, .long 1, .ref q_16, .ref q_25, .ref q_36, .ref q_49, .null, .null] rfl ?_
  have hm_57 := pw_ke (a := a) (e := .inr (2, [.int 0, .ref q_1, .ref q_6, .int 0, .int 0, .int 0, .long 1, .ref q_16, .ref q_25, .ref q_36, .ref q_49, .null, .null])) hm_51 (by omega)
  have hm_58 := pw_ke (a := a) (e := .inr (2, [.int 0, .ref q_1, .ref q_6, .int 0, .int 0, .int 0, .long 1, .ref q_16, .ref q_25, .ref q_36, .ref q_49, .null, .null])) hm_52 (by omega)
  have hm_59 := pw_ke (a := a) (e := .inr (2, [.int 0, .ref q_1, .ref q_6, .int 0, .int 0, .int 0, .long 1, .ref q_16, .ref q_25, .ref q_36, .ref q_49, .null, .null])) hm_53 (by omega)
  have hm_60 := pw_ke (a := a) (e := .inr (2, [.int 0, .ref q_1, .ref q_6, .int 0, .int 0, .int 0, .long 1, .ref q_16, .ref q_25, .ref q_36, .ref q_49, .null, .null])) hm_54 (by omega)
  have hm_61 := pw_ke (a := a) (e := .inr (2, [.int 0, .ref q_1, .ref q_6, .int 0, .int 0, .int 0, .long 1, .ref q_16, .ref q_25, .ref q_36, .ref q_49, .null, .null])) hm_55 (by omega)
  have hm_62 := pw_ke (a := a) (e := .inr (2, [.int 0, .ref q_1, .ref q_6, .int 0, .int 0, .int 0, .long 1, .ref q_16, .ref q_25, .ref q_36, .ref q_49, .null, .null])) hm_56 (by omega)
  have hm_63 : pw_up (pw_up (pw_up (pw_up (pw_up (pw_up (pw_up (pw_up (pw_up (pw_up (pw_up (pw_up (pw_up M q_1 (.inl (G.2.2.1 1, 16, .inl (fun _ => 0)))) a (.inr (2, [.int 0, .ref q_1, .null, .int 0, .int 0, .int 0, .long 0, .null, .null, .null, .null, .null, .null]))) q_6 (.inl (G.2.2.1 0, 10, .inl (fun _ => 0)))) a (.inr (2, [.int 0, .ref q_1, .ref q_6, .int 0, .int 0, .int 0, .long 0, .null, .null, .null, .null, .null, .null]))) a (.inr (2, [.int 0, .ref q_1, .ref q_6, .int 0, .int 0, .int 0, .long 1, .null, .null, .null, .null, .null, .null]))) q_16 (.inl (G.2.2.1 0, 20, .inl (fun _ => 0)))) a (.inr (2, [.int 0, .ref q_1, .ref q_6, .int 0, .int 0, .int 0, .long 1, .ref q_16, .null, .null, .null, .null, .null]))) q_25 (.inl (G.2.2.1 0, 20, .inl (fun _ => 0)))) a (.inr (2, [.int 0, .ref q_1, .ref q_6, .int 0, .int 0, .int 0, .long 1, .ref q_16, .ref q_25, .null, .null, .null, .null]))) q_36 (.inl (G.2.2.1 0, 200, .inl (fun _ => 0)))) a (.inr (2, [.int 0, .ref q_1, .ref q_6, .int 0, .int 0, .int 0, .long 1, .ref q_16, .ref q_25, .ref q_36, .null, .null, .null]))) q_49 (.inl (G.2.2.1 0, 200, .inl (fun _ => 0)))) a (.inr (2, [.int 0, .ref q_1, .ref q_6, .int 0, .int 0, .int 0, .long 1, .ref q_16, .ref q_25, .ref q_36, .ref q_49, .null, .null])) a = some (.inr (2, [.int 0, .ref q_1, .ref q_6, .int 0, .int 0, .int 0, .long 1, .ref q_16, .ref q_25, .ref q_36, .ref q_49, .null, .null])) := pw_us
  refine pw_aload_n (pc := 59) hX dX2_init_59 0 rfl ?_
  refine pw_sipush (pc := 60) (v := 200) hX dX2_init_60 (by decide) ?_
  refine pw_newi (pc := 63) (n := 200) hX dX2_init_63 ac_int (by decide) (Nat.le_of_ble_eq_true rfl) (Nat.le_of_ble_eq_true rfl) (fun q_64 hf_q_64 => ?_)
  have h67 : q_49 < q_64 := hf_q_64.2 _ _ hm_62
  have hm_65 := pw_ke (a := q_64) (e := .inl (G.2.2.1 0, 200, .inl (fun _ => 0))) hm_63 (pw_fr.ne hf_q_64 hm_63)
  have hm_66 := pw_ke (a := q_64) (e := .inl (G.2.2.1 0, 200, .inl (fun _ => 0))) hm_57 (pw_fr.ne hf_q_64 hm_57)
  have hm_67 := pw_ke (a := q_64) (e := .inl (G.2.2.1 0, 200, .inl (fun _ => 0))) hm_58 (pw_fr.ne hf_q_64 hm_58)
  have hm_68 := pw_ke (a := q_64) (e := .inl (G.2.2.1 0, 200, .inl (fun _ => 0))) hm_59 (pw_fr.ne hf_q_64 hm_59)
  have hm_69 := pw_ke (a := q_64) (e := .inl (G.2.2.1 0, 200, .inl (fun _ => 0))) hm_60 (pw_fr.ne hf_q_64 hm_60)
  have hm_70 := pw_ke (a := q_64) (e := .inl (G.2.2.1 0, 200, .inl (fun _ => 0))) hm_61 (pw_fr.ne hf_q_64 hm_61)
  have hm_71 := pw_ke (a := q_64) (e := .inl (G.2.2.1 0, 200, .inl (fun _ => 0))) hm_62 (pw_fr.ne hf_q_64 hm_62)
  have hm_72 : pw_up (pw_up (pw_up (pw_up (pw_up (pw_up (pw_up (pw_up (pw_up (pw_up (pw_up (pw_up (pw_up (pw_up M q_1 (.inl (G.2.2.1 1, 16, .inl (fun _ => 0)))) a (.inr (2, [.int 0, .ref q_1, .null, .int 0, .int 0, .int 0, .long 0, .null, .null, .null, .null, .null, .null]))) q_6 (.inl (G.2.2.1 0, 10, .inl (fun _ => 0)))) a (.inr (2, [.int 0, .ref q_1, .ref q_6, .int 0, .int 0, .int 0, .long 0, .null, .null, .null, .null, .null, .null]))) a (.inr (2, [.int 0, .ref q_1, .ref q_6, .int 0, .int 0, .int 0, .long 1, .null, .null, .null, .null, .null, .null]))) q_16 (.inl (G.2.2.1 0, 20, .inl (fun _ => 0)))) a (.inr (2, [.int 0, .ref q_1, .ref q_6, .int 0, .int 0, .int 0, .long 1, .ref q_16, .null, .null, .null, .null, .null]))) q_25 (.inl (G.2.2.1 0, 20, .inl (fun _ => 0)))) a (.inr (2, [.int 0, .ref q_1, .ref q_6, .int 0, .int 0, .int 0, .long 1, .ref q_16, .ref q_25, .null, .null, .null, .null]))) q_36 (.inl (G.2.2.1 0, 200, .inl (fun _ => 0)))) a (.inr (2, [.int 0, .ref q_1, .ref q_6, .int 0, .int 0, .int 0, .long 1, .ref q_16, .ref q_25, .ref q_36, .null, .null, .null]))) q_49 (.inl (G.2.2.1 0, 200, .inl (fun _ => 0)))) a (.inr (2, [.int 0, .ref q_1, .ref q_6, .int 0, .int 0, .int 0, .long 1, .ref q_16, .ref q_25, .ref q_36, .ref q_49, .null, .null]))) q_64 (.inl (G.2.2.1 0, 200, .inl (fun _ => 0))) q_64 = some (.inl (G.2.2.1 0, 200, .inl (fun _ => 0))) := pw_us
  refine pw_putF (pc := 65) (v := .ref q_64) hX dX2_init_65 hm_65 rfl inT_2 tyX2 tyX2_ok nmX2 11 (by decide) fl_RX2_33 rfl hmi rfl (tyX2_ok 11 (by decide)) rfl rfl (Nat.le_of_ble_eq_true rfl) [.int 0, .ref q_1, .ref q_6, .int 0, .int 0, .int 0, .long 1, .ref q_16, .ref q_25, .ref q_36, .ref q_49, .ref q_64, .null] rfl ?_
  have hm_73 := pw_ke (a := a) (e := .inr (2, [.int 0, .ref q_1, .ref q_6, .int 0, .int 0, .int 0, .long 1, .ref q_16, .ref q_25, .ref q_36, .ref q_49, .ref q_64, .null])) hm_66 (by omega)
  have hm_74 := pw_ke (a := a) (e := .inr (2, [.int 0, .ref q_1, .ref q_6, .int 0, .int 0, .int 0, .long 1, .ref q_16, .ref q_25, .ref q_36, .ref q_49, .ref q_64, .null])) hm_67 (by omega)
  have hm_75 := pw_ke (a := a) (e := .inr (2, [.int 0, .ref q_1, .ref q_6, .int 0, .int 0, .int 0, .long 1, .ref q_16, .ref q_25, .ref q_36, .ref q_49, .ref q_64, .null])) hm_68 (by omega)
  have hm_76 := pw_ke (a := a) (e := .inr (2, [.int 0, .ref q_1, .ref q_6, .int 0, .int 0, .int 0, .long 1, .ref q_16, .ref q_25, .ref q_36, .ref q_49, .ref q_64, .null])) hm_69 (by omega)
  have hm_77 := pw_ke (a := a) (e := .inr (2, [.int 0, .ref q_1, .ref q_6, .int 0, .int 0, .int 0, .long 1, .ref q_16, .ref q_25, .ref q_36, .ref q_49, .ref q_64, .null])) hm_70 (by omega)
  have hm_78 := pw_ke (a := a) (e := .inr (2, [.int 0, .ref q_1, .ref q_6, .int 0, .int 0, .int 0, .long 1, .ref q_16, .ref q_25, .ref q_36, .ref q_49, .ref q_64, .null])) hm_71 (by omega)
  have hm_79 := pw_ke (a := a) (e := .inr (2, [.int 0, .ref q_1, .ref q_6, .int 0, .int 0, .int 0, .long 1, .ref q_16, .ref q_25, .ref q_36, .ref q_49, .ref q_64, .null])) hm_72 (by omega)
  have hm_80 : pw_up (pw_up (pw_up (pw_up (pw_up (pw_up (pw_up (pw_up (pw_up (pw_up (pw_up (pw_up (pw_up (pw_up (pw_up M q_1 (.inl (G.2.2.1 1, 16, .inl (fun _ => 0)))) a (.inr (2, [.int 0, .ref q_1, .null, .int 0, .int 0, .int 0, .long 0, .null, .null, .null, .null, .null, .null]))) q_6 (.inl (G.2.2.1 0, 10, .inl (fun _ => 0)))) a (.inr (2, [.int 0, .ref q_1, .ref q_6, .int 0, .int 0, .int 0, .long 0, .null, .null, .null, .null, .null, .null]))) a (.inr (2, [.int 0, .ref q_1, .ref q_6, .int 0, .int 0, .int 0, .long 1, .null, .null, .null, .null, .null, .null]))) q_16 (.inl (G.2.2.1 0, 20, .inl (fun _ => 0)))) a (.inr (2, [.int 0, .ref q_1, .ref q_6, .int 0, .int 0, .int 0, .long 1, .ref q_16, .null, .null, .null, .null, .null]))) q_25 (.inl (G.2.2.1 0, 20, .inl (fun _ => 0)))) a (.inr (2, [.int 0, .ref q_1, .ref q_6, .int 0, .int 0, .int 0, .long 1, .ref q_16, .ref q_25, .null, .null, .null, .null]))) q_36 (.inl (G.2.2.1 0, 200, .inl (fun _ => 0)))) a (.inr (2, [.int 0, .ref q_1, .ref q_6, .int 0, .int 0, .int 0, .long 1, .ref q_16, .ref q_25, .ref q_36, .null, .null, .null]))) q_49 (.inl (G.2.2.1 0, 200, .inl (fun _ => 0)))) a (.inr (2, [.int 0, .ref q_1, .ref q_6, .int 0, .int 0, .int 0, .long 1, .ref q_16, .ref q_25, .ref q_36, .ref q_49, .null, .null]))) q_64 (.inl (G.2.2.1 0, 200, .inl (fun _ => 0)))) a (.inr (2, [.int 0, .ref q_1, .ref q_6, .int 0, .int 0, .int 0, .long 1, .ref q_16, .ref q_25, .ref q_36, .ref q_49, .ref q_64, .null])) a = some (.inr (2, [.int 0, .ref q_1, .ref q_6, .int 0, .int 0, .int 0, .long 1, .ref q_16, .ref q_25, .ref q_36, .ref q_49, .ref q_64, .null])) := pw_us
  refine pw_aload_n (pc := 68) hX dX2_init_68 0 rfl ?_
  refine pw_bipush (pc := 69) (v := 8) hX dX2_init_69 (by decide) ?_
  refine pw_newi (pc := 71) (n := 8) hX dX2_init_71 ac_int (by decide) (Nat.le_of_ble_eq_true rfl) (Nat.le_of_ble_eq_true rfl) (fun q_81 hf_q_81 => ?_)
  have h78 : q_64 < q_81 := hf_q_81.2 _ _ hm_79
  have hm_82 := pw_ke (a := q_81) (e := .inl (G.2.2.1 0, 8, .inl (fun _ => 0))) hm_80 (pw_fr.ne hf_q_81 hm_80)
  have hm_83 := pw_ke (a := q_81) (e := .inl (G.2.2.1 0, 8, .inl (fun _ => 0))) hm_73 (pw_fr.ne hf_q_81 hm_73)
  have hm_84 := pw_ke (a := q_81) (e := .inl (G.2.2.1 0, 8, .inl (fun _ => 0))) hm_74 (pw_fr.ne hf_q_81 hm_74)
  have hm_85 := pw_ke (a := q_81) (e := .inl (G.2.2.1 0, 8, .inl (fun _ => 0))) hm_75 (pw_fr.ne hf_q_81 hm_75)
  have hm_86 := pw_ke (a := q_81) (e := .inl (G.2.2.1 0, 8, .inl (fun _ => 0))) hm_76 (pw_fr.ne hf_q_81 hm_76)
  have hm_87 := pw_ke (a := q_81) (e := .inl (G.2.2.1 0, 8, .inl (fun _ => 0))) hm_77 (pw_fr.ne hf_q_81 hm_77)
  have hm_88 := pw_ke (a := q_81) (e := .inl (G.2.2.1 0, 8, .inl (fun _ => 0))) hm_78 (pw_fr.ne hf_q_81 hm_78)
  have hm_89 := pw_ke (a := q_81) (e := .inl (G.2.2.1 0, 8, .inl (fun _ => 0))) hm_79 (pw_fr.ne hf_q_81 hm_79)
  have hm_90 : pw_up (pw_up (pw_up (pw_up (pw_up (pw_up (pw_up (pw_up (pw_up (pw_up (pw_up (pw_up (pw_up (pw_up (pw_up (pw_up M q_1 (.inl (G.2.2.1 1, 16, .inl (fun _ => 0)))) a (.inr (2, [.int 0, .ref q_1, .null, .int 0, .int 0, .int 0, .long 0, .null, .null, .null, .null, .null, .null]))) q_6 (.inl (G.2.2.1 0, 10, .inl (fun _ => 0)))) a (.inr (2, [.int 0, .ref q_1, .ref q_6, .int 0, .int 0, .int 0, .long 0, .null, .null, .null, .null, .null, .null]))) a (.inr (2, [.int 0, .ref q_1, .ref q_6, .int 0, .int 0, .int 0, .long 1, .null, .null, .null, .null, .null, .null]))) q_16 (.inl (G.2.2.1 0, 20, .inl (fun _ => 0)))) a (.inr (2, [.int 0, .ref q_1, .ref q_6, .int 0, .int 0, .int 0, .long 1, .ref q_16, .null, .null, .null, .null, .null]))) q_25 (.inl (G.2.2.1 0, 20, .inl (fun _ => 0)))) a (.inr (2, [.int 0, .ref q_1, .ref q_6, .int 0, .int 0, .int 0, .long 1, .ref q_16, .ref q_25, .null, .null, .null, .null]))) q_36 (.inl (G.2.2.1 0, 200, .inl (fun _ => 0)))) a (.inr (2, [.int 0, .ref q_1, .ref q_6, .int 0, .int 0, .int 0, .long 1, .ref q_16, .ref q_25, .ref q_36, .null, .null, .null]))) q_49 (.inl (G.2.2.1 0, 200, .inl (fun _ => 0)))) a (.inr (2, [.int 0, .ref q_1, .ref q_6, .int 0, .int 0, .int 0, .long 1, .ref q_16, .ref q_25, .ref q_36, .ref q_49, .null, .null]))) q_64 (.inl (G.2.2.1 0, 200, .inl (fun _ => 0)))) a (.inr (2, [.int 0, .ref q_1, .ref q_6, .int 0, .int 0, .int 0, .long 1, .ref q_16, .ref q_25, .ref q_36, .ref q_49, .ref q_64, .null]))) q_81 (.inl (G.2.2.1 0, 8, .inl (fun _ => 0))) q_81 = some (.inl (G.2.2.1 0, 8, .inl (fun _ => 0))) := pw_us
  refine pw_putF (pc := 73) (v := .ref q_81) hX dX2_init_73 hm_82 rfl inT_2 tyX2 tyX2_ok nmX2 12 (by decide) fl_RX2_36 rfl hmi rfl (tyX2_ok 12 (by decide)) rfl rfl (Nat.le_of_ble_eq_true rfl) [.int 0, .ref q_1, .ref q_6, .int 0, .int 0, .int 0, .long 1, .ref q_16, .ref q_25, .ref q_36, .ref q_49, .ref q_64, .ref q_81] rfl ?_
  have hm_91 := pw_ke (a := a) (e := .inr (2, [.int 0, .ref q_1, .ref q_6, .int 0, .int 0, .int 0, .long 1, .ref q_16, .ref q_25, .ref q_36, .ref q_49, .ref q_64, .ref q_81])) hm_83 (by omega)
  have hm_92 := pw_ke (a := a) (e := .inr (2, [.int 0, .ref q_1, .ref q_6, .int 0, .int 0, .int 0, .long 1, .ref q_16, .ref q_25, .ref q_36, .ref q_49, .ref q_64, .ref q_81])) hm_84 (by omega)
  have hm_93 := pw_ke (a := a) (e := .inr (2, [.int 0, .ref q_1, .ref q_6, .int 0, .int 0, .int 0, .long 1, .ref q_16, .ref q_25, .ref q_36, .ref q_49, .ref q_64, .ref q_81])) hm_85 (by omega)
  have hm_94 := pw_ke (a := a) (e := .inr (2, [.int 0, .ref q_1, .ref q_6, .int 0, .int 0, .int 0, .long 1, .ref q_16, .ref q_25, .ref q_36, .ref q_49, .ref q_64, .ref q_81])) hm_86 (by omega)
  have hm_95 := pw_ke (a := a) (e := .inr (2, [.int 0, .ref q_1, .ref q_6, .int 0, .int 0, .int 0, .long 1, .ref q_16, .ref q_25, .ref q_36, .ref q_49, .ref q_64, .ref q_81])) hm_87 (by omega)
  have hm_96 := pw_ke (a := a) (e := .inr (2, [.int 0, .ref q_1, .ref q_6, .int 0, .int 0, .int 0, .long 1, .ref q_16, .ref q_25, .ref q_36, .ref q_49, .ref q_64, .ref q_81])) hm_88 (by omega)
  have hm_97 := pw_ke (a := a) (e := .inr (2, [.int 0, .ref q_1, .ref q_6, .int 0, .int 0, .int 0, .long 1, .ref q_16, .ref q_25, .ref q_36, .ref q_49, .ref q_64, .ref q_81])) hm_89 (by omega)
  have hm_98 := pw_ke (a := a) (e := .inr (2, [.int 0, .ref q_1, .ref q_6, .int 0, .int 0, .int 0, .long 1, .ref q_16, .ref q_25, .ref q_36, .ref q_49, .ref q_64, .ref q_81])) hm_90 (by omega)
  have hm_99 : pw_up (pw_up (pw_up (pw_up (pw_up (pw_up (pw_up (pw_up (pw_up (pw_up (pw_up (pw_up (pw_up (pw_up (pw_up (pw_up (pw_up M q_1 (.inl (G.2.2.1 1, 16, .inl (fun _ => 0)))) a (.inr (2, [.int 0, .ref q_1, .null, .int 0, .int 0, .int 0, .long 0, .null, .null, .null, .null, .null, .null]))) q_6 (.inl (G.2.2.1 0, 10, .inl (fun _ => 0)))) a (.inr (2, [.int 0, .ref q_1, .ref q_6, .int 0, .int 0, .int 0, .long 0, .null, .null, .null, .null, .null, .null]))) a (.inr (2, [.int 0, .ref q_1, .ref q_6, .int 0, .int 0, .int 0, .long 1, .null, .null, .null, .null, .null, .null]))) q_16 (.inl (G.2.2.1 0, 20, .inl (fun _ => 0)))) a (.inr (2, [.int 0, .ref q_1, .ref q_6, .int 0, .int 0, .int 0, .long 1, .ref q_16, .null, .null, .null, .null, .null]))) q_25 (.inl (G.2.2.1 0, 20, .inl (fun _ => 0)))) a (.inr (2, [.int 0, .ref q_1, .ref q_6, .int 0, .int 0, .int 0, .long 1, .ref q_16, .ref q_25, .null, .null, .null, .null]))) q_36 (.inl (G.2.2.1 0, 200, .inl (fun _ => 0)))) a (.inr (2, [.int 0, .ref q_1, .ref q_6, .int 0, .int 0, .int 0, .long 1, .ref q_16, .ref q_25, .ref q_36, .null, .null, .null]))) q_49 (.inl (G.2.2.1 0, 200, .inl (fun _ => 0)))) a (.inr (2, [.int 0, .ref q_1, .ref q_6, .int 0, .int 0, .int 0, .long 1, .ref q_16, .ref q_25, .ref q_36, .ref q_49, .null, .null]))) q_64 (.inl (G.2.2.1 0, 200, .inl (fun _ => 0)))) a (.inr (2, [.int 0, .ref q_1, .ref q_6, .int 0, .int 0, .int 0, .long 1, .ref q_16, .ref q_25, .ref q_36, .ref q_49, .ref q_64, .null]))) q_81 (.inl (G.2.2.1 0, 8, .inl (fun _ => 0)))) a (.inr (2, [.int 0, .ref q_1, .ref q_6, .int 0, .int 0, .int 0, .long 1, .ref q_16, .ref q_25, .ref q_36, .ref q_49, .ref q_64, .ref q_81])) a = some (.inr (2, [.int 0, .ref q_1, .ref q_6, .int 0, .int 0, .int 0, .long 1, .ref q_16, .ref q_25, .ref q_36, .ref q_49, .ref q_64, .ref q_81])) := pw_us
  refine pw_aload_n (pc := 76) hX dX2_init_76 0 rfl ?_
  refine pw_iload_n (pc := 77) hX dX2_init_77 1 rfl ?_
  refine pw_if_ge (pc := 78) hX 85 dX2_init_78 (by decide) (fun hc_100 => ?_) (fun hc_100 => ?_)
  · refine pw_iload_n (pc := 85) hX dX2_init_85 1 rfl ?_
    refine pw_bipush (pc := 86) (v := 16) hX dX2_init_86 (by decide) ?_
    refine pw_icmp_le (pc := 88) hX 96 dX2_init_88 (by decide) (fun hc_101 => ?_) (fun hc_101 => ?_)
    · refine pw_iload_n (pc := 96) hX dX2_init_96 1 rfl ?_
      refine pw_cg (vb := .int (nI (wn p0))) (congrArg Value.int (wn_nI (Int32.not_lt.mpr hc_100) (Int32.not_lt.mpr hc_101)).symm) ?_
      refine pw_putF (pc := 97) (v := .int (nI (wn p0))) hX dX2_init_97 hm_99 rfl inT_2 tyX2 tyX2_ok nmX2 0 (by decide) fl_RX2_39 rfl hmi rfl (tyX2_ok 0 (by decide)) rfl rfl (Nat.le_of_ble_eq_true rfl) [.int (nI (wn p0)), .ref q_1, .ref q_6, .int 0, .int 0, .int 0, .long 1, .ref q_16, .ref q_25, .ref q_36, .ref q_49, .ref q_64, .ref q_81] rfl ?_
      have hm_102 := pw_ke (a := a) (e := .inr (2, [.int (nI (wn p0)), .ref q_1, .ref q_6, .int 0, .int 0, .int 0, .long 1, .ref q_16, .ref q_25, .ref q_36, .ref q_49, .ref q_64, .ref q_81])) hm_91 (by omega)
      have hm_103 := pw_ke (a := a) (e := .inr (2, [.int (nI (wn p0)), .ref q_1, .ref q_6, .int 0, .int 0, .int 0, .long 1, .ref q_16, .ref q_25, .ref q_36, .ref q_49, .ref q_64, .ref q_81])) hm_92 (by omega)
      have hm_104 := pw_ke (a := a) (e := .inr (2, [.int (nI (wn p0)), .ref q_1, .ref q_6, .int 0, .int 0, .int 0, .long 1, .ref q_16, .ref q_25, .ref q_36, .ref q_49, .ref q_64, .ref q_81])) hm_93 (by omega)
      have hm_105 := pw_ke (a := a) (e := .inr (2, [.int (nI (wn p0)), .ref q_1, .ref q_6, .int 0, .int 0, .int 0, .long 1, .ref q_16, .ref q_25, .ref q_36, .ref q_49, .ref q_64, .ref q_81])) hm_94 (by omega)
      have hm_106 := pw_ke (a := a) (e := .inr (2, [.int (nI (wn p0)), .ref q_1, .ref q_6, .int 0, .int 0, .int 0, .long 1, .ref q_16, .ref q_25, .ref q_36, .ref q_49, .ref q_64, .ref q_81])) hm_95 (by omega)
      have hm_107 := pw_ke (a := a) (e := .inr (2, [.int (nI (wn p0)), .ref q_1, .ref q_6, .int 0, .int 0, .int 0, .long 1, .ref q_16, .ref q_25, .ref q_36, .ref q_49, .ref q_64, .ref q_81])) hm_96 (by omega)
      have hm_108 := pw_ke (a := a) (e := .inr (2, [.int (nI (wn p0)), .ref q_1, .ref q_6, .int 0, .int 0, .int 0, .long 1, .ref q_16, .ref q_25, .ref q_36, .ref q_49, .ref q_64, .ref q_81])) hm_97 (by omega)
      have hm_109 := pw_ke (a := a) (e := .inr (2, [.int (nI (wn p0)), .ref q_1, .ref q_6, .int 0, .int 0, .int 0, .long 1, .ref q_16, .ref q_25, .ref q_36, .ref q_49, .ref q_64, .ref q_81])) hm_98 (by omega)
      have hm_110 : pw_up (pw_up (pw_up (pw_up (pw_up (pw_up (pw_up (pw_up (pw_up (pw_up (pw_up (pw_up (pw_up (pw_up (pw_up (pw_up (pw_up (pw_up M q_1 (.inl (G.2.2.1 1, 16, .inl (fun _ => 0)))) a (.inr (2, [.int 0, .ref q_1, .null, .int 0, .int 0, .int 0, .long 0, .null, .null, .null, .null, .null, .null]))) q_6 (.inl (G.2.2.1 0, 10, .inl (fun _ => 0)))) a (.inr (2, [.int 0, .ref q_1, .ref q_6, .int 0, .int 0, .int 0, .long 0, .null, .null, .null, .null, .null, .null]))) a (.inr (2, [.int 0, .ref q_1, .ref q_6, .int 0, .int 0, .int 0, .long 1, .null, .null, .null, .null, .null, .null]))) q_16 (.inl (G.2.2.1 0, 20, .inl (fun _ => 0)))) a (.inr (2, [.int 0, .ref q_1, .ref q_6, .int 0, .int 0, .int 0, .long 1, .ref q_16, .null, .null, .null, .null, .null]))) q_25 (.inl (G.2.2.1 0, 20, .inl (fun _ => 0)))) a (.inr (2, [.int 0, .ref q_1, .ref q_6, .int 0, .int 0, .int 0, .long 1, .ref q_16, .ref q_25, .null, .null, .null, .null]))) q_36 (.inl (G.2.2.1 0, 200, .inl (fun _ => 0)))) a (.inr (2, [.int 0, .ref q_1, .ref q_6, .int 0, .int 0, .int 0, .long 1, .ref q_16, .ref q_25, .ref q_36, .null, .null, .null]))) q_49 (.inl (G.2.2.1 0, 200, .inl (fun _ => 0)))) a (.inr (2, [.int 0, .ref q_1, .ref q_6, .int 0, .int 0, .int 0, .long 1, .ref q_16, .ref q_25, .ref q_36, .ref q_49, .null, .null]))) q_64 (.inl (G.2.2.1 0, 200, .inl (fun _ => 0)))) a (.inr (2, [.int 0, .ref q_1, .ref q_6, .int 0, .int 0, .int 0, .long 1, .ref q_16, .ref q_25, .ref q_36, .ref q_49, .ref q_64, .null]))) q_81 (.inl (G.2.2.1 0, 8, .inl (fun _ => 0)))) a (.inr (2, [.int 0, .ref q_1, .ref q_6, .int 0, .int 0, .int 0, .long 1, .ref q_16, .ref q_25, .ref q_36, .ref q_49, .ref q_64, .ref q_81]))) a (.inr (2, [.int (nI (wn p0)), .ref q_1, .ref q_6, .int 0, .int 0, .int 0, .long 1, .ref q_16, .ref q_25, .ref q_36, .ref q_49, .ref q_64, .ref q_81])) a = some (.inr (2, [.int (nI (wn p0)), .ref q_1, .ref q_6, .int 0, .int 0, .int 0, .long 1, .ref q_16, .ref q_25, .ref q_36, .ref q_49, .ref q_64, .ref q_81])) := pw_us
      exact pw_vret hX dX2_init_100 hrt ⟨by decide, by decide⟩ ⟨rfl, am_0 a q_1 q_6 q_16 q_25 q_36 q_49 q_64 q_81, q_1, rfl, hab, (by intro x h1 h2; rcases (show x = 1 ∨ x = 2 ∨ x = 3 ∨ x = 4 ∨ x = 5 ∨ x = 6 ∨ x = 7 ∨ x = 8 by omega) with rfl | rfl | rfl | rfl | rfl | rfl | rfl | rfl <;> simp [am_0] <;> omega), ⟨hm_110, hm_102, hm_103, hm_104, hm_105, hm_106, hm_107, hm_108, hm_109, am_inj ha1 h12 h23 h34 h45 h56 h67 h78, wn_le p0, by decide⟩, (kp_up (kp_up (kp_new (kp_up (kp_new (kp_up (kp_new (kp_up (kp_new (kp_up (kp_new (kp_up (kp_new (kp_up (kp_up (kp_new (kp_up (kp_new kp_rf hf_q_1 _) _) hf_q_6 _) _) _) hf_q_16 _) _) hf_q_25 _) _) hf_q_36 _) _) hf_q_49 _) _) hf_q_64 _) _) hf_q_81 _) _) _)⟩
    · refine pw_bipush (pc := 91) (v := 16) hX dX2_init_91 (by decide) ?_
      refine pw_goto (pc := 93) hX 97 dX2_init_93 (by decide) ?_
      refine pw_cg (vb := .int (nI (wn p0))) (congrArg Value.int (by unfold wn; rw [if_neg (Int32.not_lt.mpr hc_100), if_pos (Int32.not_le.mp hc_101)]; rfl)) ?_
      refine pw_putF (pc := 97) (v := .int (nI (wn p0))) hX dX2_init_97 hm_99 rfl inT_2 tyX2 tyX2_ok nmX2 0 (by decide) fl_RX2_39 rfl hmi rfl (tyX2_ok 0 (by decide)) rfl rfl (Nat.le_of_ble_eq_true rfl) [.int (nI (wn p0)), .ref q_1, .ref q_6, .int 0, .int 0, .int 0, .long 1, .ref q_16, .ref q_25, .ref q_36, .ref q_49, .ref q_64, .ref q_81] rfl ?_
      have hm_111 := pw_ke (a := a) (e := .inr (2, [.int (nI (wn p0)), .ref q_1, .ref q_6, .int 0, .int 0, .int 0, .long 1, .ref q_16, .ref q_25, .ref q_36, .ref q_49, .ref q_64, .ref q_81])) hm_91 (by omega)
      have hm_112 := pw_ke (a := a) (e := .inr (2, [.int (nI (wn p0)), .ref q_1, .ref q_6, .int 0, .int 0, .int 0, .long 1, .ref q_16, .ref q_25, .ref q_36, .ref q_49, .ref q_64, .ref q_81])) hm_92 (by omega)
      have hm_113 := pw_ke (a := a) (e := .inr (2, [.int (nI (wn p0)), .ref q_1, .ref q_6, .int 0, .int 0, .int 0, .long 1, .ref q_16, .ref q_25, .ref q_36, .ref q_49, .ref q_64, .ref q_81])) hm_93 (by omega)
      have hm_114 := pw_ke (a := a) (e := .inr (2, [.int (nI (wn p0)), .ref q_1, .ref q_6, .int 0, .int 0, .int 0, .long 1, .ref q_16, .ref q_25, .ref q_36, .ref q_49, .ref q_64, .ref q_81])) hm_94 (by omega)
      have hm_115 := pw_ke (a := a) (e := .inr (2, [.int (nI (wn p0)), .ref q_1, .ref q_6, .int 0, .int 0, .int 0, .long 1, .ref q_16, .ref q_25, .ref q_36, .ref q_49, .ref q_64, .ref q_81])) hm_95 (by omega)
      have hm_116 := pw_ke (a := a) (e := .inr (2, [.int (nI (wn p0)), .ref q_1, .ref q_6, .int 0, .int 0, .int 0, .long 1, .ref q_16, .ref q_25, .ref q_36, .ref q_49, .ref q_64, .ref q_81])) hm_96 (by omega)
      have hm_117 := pw_ke (a := a) (e := .inr (2, [.int (nI (wn p0)), .ref q_1, .ref q_6, .int 0, .int 0, .int 0, .long 1, .ref q_16, .ref q_25, .ref q_36, .ref q_49, .ref q_64, .ref q_81])) hm_97 (by omega)
      have hm_118 := pw_ke (a := a) (e := .inr (2, [.int (nI (wn p0)), .ref q_1, .ref q_6, .int 0, .int 0, .int 0, .long 1, .ref q_16, .ref q_25, .ref q_36, .ref q_49, .ref q_64, .ref q_81])) hm_98 (by omega)
      have hm_119 : pw_up (pw_up (pw_up (pw_up (pw_up (pw_up (pw_up (pw_up (pw_up (pw_up (pw_up (pw_up (pw_up (pw_up (pw_up (pw_up (pw_up (pw_up M q_1 (.inl (G.2.2.1 1, 16, .inl (fun _ => 0)))) a (.inr (2, [.int 0, .ref q_1, .null, .int 0, .int 0, .int 0, .long 0, .null, .null, .null, .null, .null, .null]))) q_6 (.inl (G.2.2.1 0, 10, .inl (fun _ => 0)))) a (.inr (2, [.int 0, .ref q_1, .ref q_6, .int 0, .int 0, .int 0, .long 0, .null, .null, .null, .null, .null, .null]))) a (.inr (2, [.int 0, .ref q_1, .ref q_6, .int 0, .int 0, .int 0, .long 1, .null, .null, .null, .null, .null, .null]))) q_16 (.inl (G.2.2.1 0, 20, .inl (fun _ => 0)))) a (.inr (2, [.int 0, .ref q_1, .ref q_6, .int 0, .int 0, .int 0, .long 1, .ref q_16, .null, .null, .null, .null, .null]))) q_25 (.inl (G.2.2.1 0, 20, .inl (fun _ => 0)))) a (.inr (2, [.int 0, .ref q_1, .ref q_6, .int 0, .int 0, .int 0, .long 1, .ref q_16, .ref q_25, .null, .null, .null, .null]))) q_36 (.inl (G.2.2.1 0, 200, .inl (fun _ => 0)))) a (.inr (2, [.int 0, .ref q_1, .ref q_6, .int 0, .int 0, .int 0, .long 1, .ref q_16, .ref q_25, .ref q_36, .null, .null, .null]))) q_49 (.inl (G.2.2.1 0, 200, .inl (fun _ => 0)))) a (.inr (2, [.int 0, .ref q_1, .ref q_6, .int 0, .int 0, .int 0, .long 1, .ref q_16, .ref q_25, .ref q_36, .ref q_49, .null, .null]))) q_64 (.inl (G.2.2.1 0, 200, .inl (fun _ => 0)))) a (.inr (2, [.int 0, .ref q_1, .ref q_6, .int 0, .int 0, .int 0, .long 1, .ref q_16, .ref q_25, .ref q_36, .ref q_49, .ref q_64, .null]))) q_81 (.inl (G.2.2.1 0, 8, .inl (fun _ => 0)))) a (.inr (2, [.int 0, .ref q_1, .ref q_6, .int 0, .int 0, .int 0, .long 1, .ref q_16, .ref q_25, .ref q_36, .ref q_49, .ref q_64, .ref q_81]))) a (.inr (2, [.int (nI (wn p0)), .ref q_1, .ref q_6, .int 0, .int 0, .int 0, .long 1, .ref q_16, .ref q_25, .ref q_36, .ref q_49, .ref q_64, .ref q_81])) a = some (.inr (2, [.int (nI (wn p0)), .ref q_1, .ref q_6, .int 0, .int 0, .int 0, .long 1, .ref q_16, .ref q_25, .ref q_36, .ref q_49, .ref q_64, .ref q_81])) := pw_us
      exact pw_vret hX dX2_init_100 hrt ⟨by decide, by decide⟩ ⟨rfl, am_0 a q_1 q_6 q_16 q_25 q_36 q_49 q_64 q_81, q_1, rfl, hab, (by intro x h1 h2; rcases (show x = 1 ∨ x = 2 ∨ x = 3 ∨ x = 4 ∨ x = 5 ∨ x = 6 ∨ x = 7 ∨ x = 8 by omega) with rfl | rfl | rfl | rfl | rfl | rfl | rfl | rfl <;> simp [am_0] <;> omega), ⟨hm_119, hm_111, hm_112, hm_113, hm_114, hm_115, hm_116, hm_117, hm_118, am_inj ha1 h12 h23 h34 h45 h56 h67 h78, wn_le p0, by decide⟩, (kp_up (kp_up (kp_new (kp_up (kp_new (kp_up (kp_new (kp_up (kp_new (kp_up (kp_new (kp_up (kp_new (kp_up (kp_up (kp_new (kp_up (kp_new kp_rf hf_q_1 _) _) hf_q_6 _) _) _) hf_q_16 _) _) hf_q_25 _) _) hf_q_36 _) _) hf_q_49 _) _) hf_q_64 _) _) hf_q_81 _) _) _)⟩
  · refine pw_iconst (pc := 81) (v := 0) hX dX2_init_81 (by decide) ?_
    refine pw_goto (pc := 82) hX 97 dX2_init_82 (by decide) ?_
    refine pw_cg (vb := .int (nI (wn p0))) (congrArg Value.int (by unfold wn; rw [if_pos (Int32.not_le.mp hc_100)]; rfl)) ?_
    refine pw_putF (pc := 97) (v := .int (nI (wn p0))) hX dX2_init_97 hm_99 rfl inT_2 tyX2 tyX2_ok nmX2 0 (by decide) fl_RX2_39 rfl hmi rfl (tyX2_ok 0 (by decide)) rfl rfl (Nat.le_of_ble_eq_true rfl) [.int (nI (wn p0)), .ref q_1, .ref q_6, .int 0, .int 0, .int 0, .long 1, .ref q_16, .ref q_25, .ref q_36, .ref q_49, .ref q_64, .ref q_81] rfl ?_
    have hm_120 := pw_ke (a := a) (e := .inr (2, [.int (nI (wn p0)), .ref q_1, .ref q_6, .int 0, .int 0, .int 0, .long 1, .ref q_16, .ref q_25, .ref q_36, .ref q_49, .ref q_64, .ref q_81])) hm_91 (by omega)
    have hm_121 := pw_ke (a := a) (e := .inr (2, [.int (nI (wn p0)), .ref q_1, .ref q_6, .int 0, .int 0, .int 0, .long 1, .ref q_16, .ref q_25, .ref q_36, .ref q_49, .ref q_64, .ref q_81])) hm_92 (by omega)
    have hm_122 := pw_ke (a := a) (e := .inr (2, [.int (nI (wn p0)), .ref q_1, .ref q_6, .int 0, .int 0, .int 0, .long 1, .ref q_16, .ref q_25, .ref q_36, .ref q_49, .ref q_64, .ref q_81])) hm_93 (by omega)
    have hm_123 := pw_ke (a := a) (e := .inr (2, [.int (nI (wn p0)), .ref q_1, .ref q_6, .int 0, .int 0, .int 0, .long 1, .ref q_16, .ref q_25, .ref q_36, .ref q_49, .ref q_64, .ref q_81])) hm_94 (by omega)
    have hm_124 := pw_ke (a := a) (e := .inr (2, [.int (nI (wn p0)), .ref q_1, .ref q_6, .int 0, .int 0, .int 0, .long 1, .ref q_16, .ref q_25, .ref q_36, .ref q_49, .ref q_64, .ref q_81])) hm_95 (by omega)
    have hm_125 := pw_ke (a := a) (e := .inr (2, [.int (nI (wn p0)), .ref q_1, .ref q_6, .int 0, .int 0, .int 0, .long 1, .ref q_16, .ref q_25, .ref q_36, .ref q_49, .ref q_64, .ref q_81])) hm_96 (by omega)
    have hm_126 := pw_ke (a := a) (e := .inr (2, [.int (nI (wn p0)), .ref q_1, .ref q_6, .int 0, .int 0, .int 0, .long 1, .ref q_16, .ref q_25, .ref q_36, .ref q_49, .ref q_64, .ref q_81])) hm_97 (by omega)
    have hm_127 := pw_ke (a := a) (e := .inr (2, [.int (nI (wn p0)), .ref q_1, .ref q_6, .int 0, .int 0, .int 0, .long 1, .ref q_16, .ref q_25, .ref q_36, .ref q_49, .ref q_64, .ref q_81])) hm_98 (by omega)
    have hm_128 : pw_up (pw_up (pw_up (pw_up (pw_up (pw_up (pw_up (pw_up (pw_up (pw_up (pw_up (pw_up (pw_up (pw_up (pw_up (pw_up (pw_up (pw_up M q_1 (.inl (G.2.2.1 1, 16, .inl (fun _ => 0)))) a (.inr (2, [.int 0, .ref q_1, .null, .int 0, .int 0, .int 0, .long 0, .null, .null, .null, .null, .null, .null]))) q_6 (.inl (G.2.2.1 0, 10, .inl (fun _ => 0)))) a (.inr (2, [.int 0, .ref q_1, .ref q_6, .int 0, .int 0, .int 0, .long 0, .null, .null, .null, .null, .null, .null]))) a (.inr (2, [.int 0, .ref q_1, .ref q_6, .int 0, .int 0, .int 0, .long 1, .null, .null, .null, .null, .null, .null]))) q_16 (.inl (G.2.2.1 0, 20, .inl (fun _ => 0)))) a (.inr (2, [.int 0, .ref q_1, .ref q_6, .int 0, .int 0, .int 0, .long 1, .ref q_16, .null, .null, .null, .null, .null]))) q_25 (.inl (G.2.2.1 0, 20, .inl (fun _ => 0)))) a (.inr (2, [.int 0, .ref q_1, .ref q_6, .int 0, .int 0, .int 0, .long 1, .ref q_16, .ref q_25, .null, .null, .null, .null]))) q_36 (.inl (G.2.2.1 0, 200, .inl (fun _ => 0)))) a (.inr (2, [.int 0, .ref q_1, .ref q_6, .int 0, .int 0, .int 0, .long 1, .ref q_16, .ref q_25, .ref q_36, .null, .null, .null]))) q_49 (.inl (G.2.2.1 0, 200, .inl (fun _ => 0)))) a (.inr (2, [.int 0, .ref q_1, .ref q_6, .int 0, .int 0, .int 0, .long 1, .ref q_16, .ref q_25, .ref q_36, .ref q_49, .null, .null]))) q_64 (.inl (G.2.2.1 0, 200, .inl (fun _ => 0)))) a (.inr (2, [.int 0, .ref q_1, .ref q_6, .int 0, .int 0, .int 0, .long 1, .ref q_16, .ref q_25, .ref q_36, .ref q_49, .ref q_64, .null]))) q_81 (.inl (G.2.2.1 0, 8, .inl (fun _ => 0)))) a (.inr (2, [.int 0, .ref q_1, .ref q_6, .int 0, .int 0, .int 0, .long 1, .ref q_16, .ref q_25, .ref q_36, .ref q_49, .ref q_64, .ref q_81]))) a (.inr (2, [.int (nI (wn p0)), .ref q_1, .ref q_6, .int 0, .int 0, .int 0, .long 1, .ref q_16, .ref q_25, .ref q_36, .ref q_49, .ref q_64, .ref q_81])) a = some (.inr (2, [.int (nI (wn p0)), .ref q_1, .ref q_6, .int 0, .int 0, .int 0, .long 1, .ref q_16, .ref q_25, .ref q_36, .ref q_49, .ref q_64, .ref q_81])) := pw_us
    exact pw_vret hX dX2_init_100 hrt ⟨by decide, by decide⟩ ⟨rfl, am_0 a q_1 q_6 q_16 q_25 q_36 q_49 q_64 q_81, q_1, rfl, hab, (by intro x h1 h2; rcases (show x = 1 ∨ x = 2 ∨ x = 3 ∨ x = 4 ∨ x = 5 ∨ x = 6 ∨ x = 7 ∨ x = 8 by omega) with rfl | rfl | rfl | rfl | rfl | rfl | rfl | rfl <;> simp [am_0] <;> omega), ⟨hm_128, hm_120, hm_121, hm_122, hm_123, hm_124, hm_125, hm_126, hm_127, am_inj ha1 h12 h23 h34 h45 h56 h67 h78, wn_le p0, by decide⟩, (kp_up (kp_up (kp_new (kp_up (kp_new (kp_up (kp_new (kp_up (kp_new (kp_up (kp_new (kp_up (kp_new (kp_up (kp_up (kp_new (kp_up (kp_new kp_rf hf_q_1 _) _) hf_q_6 _) _) _) hf_q_16 _) _) hf_q_25 _) _) hf_q_36 _) _) hf_q_49 _) _) hf_q_64 _) _) hf_q_81 _) _) _)⟩
