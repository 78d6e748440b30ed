set_option maxHeartbeats 4000000 in
set_option maxRecDepth 100000 in
theorem lc_tote (l : Launch) (hl : l.stackTraces = false) (G : pw_G) (M : pw_M) (a ao : Nat) (p0 p1 : Int32) (fs : List Value) (ha : M a = some (.inr (1, fs))) (oL : Nat → Int64) (cd : Int32) (PO : Option Value → pw_M → Prop) (hC : pw_XMet l yX1_tote cX1_tote 3 (some .int) 3 2 12 G [.ref a, .int p0, .int p1] M PO (fun E9 M9 => M = M9 ∧ (E9 = "java/lang/IllegalArgumentException" ∧ cd = 1))) (hv : ∀ v M1, PO v M1 → ∃ y, v = some (.int y) ∧ M1 ao = some (.inl (G.2.2.1 3, 1, .inr (.inl oL)))) : pw_HMet l yL_tote cL_tote 5 (some .int) [(0, 10, 13, 13)] 2 2 12 G [.ref a, .int p0, .int p1, .ref ao] M (fun v9 M9 => (∃ y M1, PO (some (.int y)) M1 ∧ v9 = some (.int 0) ∧ M9 = pw_up M1 ao (.inl (G.2.2.1 3, 1, .inr (.inl (vp_updL oL 0 (y.toInt64)))))) ∨ (¬ cd = 0 ∧ v9 = some (.int cd) ∧ M = M9)) := by
  refine pw_ofh hl (by decide +kernel) (Nat.le_of_ble_eq_true rfl) [(0, .ref a), (1, .int p0), (2, .int p1), (3, .ref ao)] rfl ?_
  intro p9 e9 s9 m9 args9 below9 meth9 c9 hX hrt htb
  refine pw_aload_n (pc := 0) hX dL_tote_0 3 rfl ?_
  refine pw_iconst (pc := 1) (v := 0) hX dL_tote_1 (by decide) ?_
  refine pw_aload_n (pc := 2) hX dL_tote_2 0 rfl ?_
  refine pw_iload_n (pc := 3) hX dL_tote_3 1 rfl ?_
  refine pw_iload_n (pc := 4) hX dL_tote_4 2 rfl ?_
  refine pw_callVx (pc := 5) (st := [.int 0, .ref ao]) hX (hC) ha rfl ok_X1_tote lk_RL_7 dL_tote_5 rfl ⟨⟨by decide, by decide⟩, Nat.le_of_ble_eq_true rfl, Nat.le_of_ble_eq_true rfl, Nat.le_of_ble_eq_true rfl⟩ rfl (fun E9 M9 hx9 => ?_) (fun v9 M9 hp9 => ?_)
  · obtain ⟨rfl, h9⟩ := hx9
    rcases h9 with ⟨rfl, hcd⟩
    · refine pw_catch (name := "") hX [] ⟨0, 10, 13, 13⟩ [] htb (fun z hz => by cases hz) (by decide) (by decide) cw_RL_13 (by decide) (fun q => ?_)
      refine pw_astore (pc := 13) hX [(4, .ref q), (0, .ref a), (1, .int p0), (2, .int p1), (3, .ref ao)] dL_tote_13 (by decide) rfl ?_
      refine pw_iconst (pc := 15) (v := 1) hX dL_tote_15 (by decide) ?_
      exact pw_iretx hX dL_tote_16 hrt ⟨Nat.le_of_ble_eq_true rfl, Nat.le_of_ble_eq_true rfl⟩ (Or.inr ⟨by rw [hcd]; decide, by rw [hcd], rfl⟩)
  obtain ⟨y, rfl, ho⟩ := hv _ _ hp9
  refine pw_i2l (pc := 8) (v := y.toInt64) hX dL_tote_8 rfl ?_
  refine pw_last (pc := 9) (j := 0) hX dL_tote_9 ho (by decide) (by decide) ?_
  have hm_1 : pw_up M9 ao (.inl (G.2.2.1 3, 1, .inr (.inl (vp_updL oL 0 y.toInt64)))) ao = some (.inl (G.2.2.1 3, 1, .inr (.inl (vp_updL oL 0 y.toInt64)))) := pw_us
  refine pw_goto (pc := 10) hX 17 dL_tote_10 (by decide) ?_
  refine pw_iconst (pc := 17) (v := 0) hX dL_tote_17 (by decide) ?_
  exact pw_iretx hX dL_tote_18 hrt ⟨Nat.le_of_ble_eq_true rfl, Nat.le_of_ble_eq_true rfl⟩ (Or.inl ⟨y, M9, hp9, rfl, rfl⟩)
set_option maxHeartbeats 4000000 in
set_option maxRecDepth 100000 in
theorem lc_order (l : Launch) (hl : l.stackTraces = false) (G : pw_G) (M : pw_M) (a ao : Nat) (fs : List Value) (ha : M a = some (.inr (1, fs))) (oL : Nat → Int64) (cd : Int32) (PO : Option Value → pw_M → Prop) (hC : pw_XMet l yX1_order cX1_order 2 (some .int) 3 4 36 G [.ref a] M PO (fun E9 M9 => M = M9 ∧ (E9 = "java/lang/UnsupportedOperationException" ∧ cd = 1))) (hv : ∀ v M1, PO v M1 → ∃ y, v = some (.int y) ∧ M1 ao = some (.inl (G.2.2.1 3, 1, .inr (.inl oL)))) : pw_HMet l yL_order cL_order 3 (some .int) [(0, 8, 11, 19)] 2 4 36 G [.ref a, .ref ao] M (fun v9 M9 => (∃ y M1, PO (some (.int y)) M1 ∧ v9 = some (.int 0) ∧ M9 = pw_up M1 ao (.inl (G.2.2.1 3, 1, .inr (.inl (vp_updL oL 0 (y.toInt64)))))) ∨ (¬ cd = 0 ∧ v9 = some (.int cd) ∧ M = M9)) := by
  refine pw_ofh hl (by decide +kernel) (Nat.le_of_ble_eq_true rfl) [(0, .ref a), (1, .ref ao)] rfl ?_
  intro p9 e9 s9 m9 args9 below9 meth9 c9 hX hrt htb
  refine pw_aload_n (pc := 0) hX dL_order_0 1 rfl ?_
  refine pw_iconst (pc := 1) (v := 0) hX dL_order_1 (by decide) ?_
  refine pw_aload_n (pc := 2) hX dL_order_2 0 rfl ?_
  refine pw_callVx (pc := 3) (st := [.int 0, .ref ao]) hX (hC) ha rfl ok_X1_order lk_RL_15 dL_order_3 rfl ⟨⟨by decide, by decide⟩, Nat.le_of_ble_eq_true rfl, Nat.le_of_ble_eq_true rfl, Nat.le_of_ble_eq_true rfl⟩ rfl (fun E9 M9 hx9 => ?_) (fun v9 M9 hp9 => ?_)
  · obtain ⟨rfl, h9⟩ := hx9
    rcases h9 with ⟨rfl, hcd⟩
    · refine pw_catch (name := "") hX [] ⟨0, 8, 11, 19⟩ [] htb (fun z hz => by cases hz) (by decide) (by decide) cw_RL_19 (by decide) (fun q => ?_)
      refine pw_astore_n (pc := 11) hX [(2, .ref q), (0, .ref a), (1, .ref ao)] dL_order_11 (by decide) rfl ?_
      refine pw_iconst (pc := 12) (v := 1) hX dL_order_12 (by decide) ?_
      exact pw_iretx hX dL_order_13 hrt ⟨Nat.le_of_ble_eq_true rfl, Nat.le_of_ble_eq_true rfl⟩ (Or.inr ⟨by rw [hcd]; decide, by rw [hcd], rfl⟩)
  obtain ⟨y, rfl, ho⟩ := hv _ _ hp9
  refine pw_i2l (pc := 6) (v := y.toInt64) hX dL_order_6 rfl ?_
  refine pw_last (pc := 7) (j := 0) hX dL_order_7 ho (by decide) (by decide) ?_
  have hm_1 : pw_up M9 ao (.inl (G.2.2.1 3, 1, .inr (.inl (vp_updL oL 0 y.toInt64)))) ao = some (.inl (G.2.2.1 3, 1, .inr (.inl (vp_updL oL 0 y.toInt64)))) := pw_us
  refine pw_goto (pc := 8) hX 14 dL_order_8 (by decide) ?_
  refine pw_iconst (pc := 14) (v := 0) hX dL_order_14 (by decide) ?_
  exact pw_iretx hX dL_order_15 hrt ⟨Nat.le_of_ble_eq_true rfl, Nat.le_of_ble_eq_true rfl⟩ (Or.inl ⟨y, M9, hp9, rfl, rfl⟩)
set_option maxHeartbeats 4000000 in
set_option maxRecDepth 100000 in
theorem lc_line (l : Launch) (hl : l.stackTraces = false) (G : pw_G) (M : pw_M) (a : Nat) (p0 p1 p2 : Int32) (fs : List Value) (ha : M a = some (.inr (1, fs))) (cd : Int32) (PO : Option Value → pw_M → Prop) (hC : pw_XMet l yX1_line cX1_line 5 none 3 4 24 G [.ref a, .int p0, .int p1, .int p2] M PO (fun E9 M9 => M = M9 ∧ (E9 = "java/util/NoSuchElementException" ∧ cd = 1 ∨ E9 = "java/lang/IllegalArgumentException" ∧ cd = 2 ∨ E9 = "java/lang/IllegalStateException" ∧ cd = 3))) (hv : ∀ v M1, PO v M1 → v = none) : pw_HMet l yL_line cL_line 5 (some .int) [(0, 7, 10, 25), (0, 7, 14, 13), (0, 7, 18, 27)] 2 4 24 G [.ref a, .int p0, .int p1, .int p2] M (fun v9 M9 => (PO none M9 ∧ v9 = some (.int 0)) ∨ (¬ cd = 0 ∧ v9 = some (.int cd) ∧ M = M9)) := by
  refine pw_ofh hl (by decide +kernel) (Nat.le_of_ble_eq_true rfl) [(0, .ref a), (1, .int p0), (2, .int p1), (3, .int p2)] rfl ?_
  intro p9 e9 s9 m9 args9 below9 meth9 c9 hX hrt htb
  refine pw_aload_n (pc := 0) hX dL_line_0 0 rfl ?_
  refine pw_iload_n (pc := 1) hX dL_line_1 1 rfl ?_
  refine pw_iload_n (pc := 2) hX dL_line_2 2 rfl ?_
  refine pw_iload_n (pc := 3) hX dL_line_3 3 rfl ?_
  refine pw_callVx (pc := 4) (st := []) hX (hC) ha rfl ok_X1_line lk_RL_21 dL_line_4 rfl ⟨⟨by decide, by decide⟩, Nat.le_of_ble_eq_true rfl, Nat.le_of_ble_eq_true rfl, Nat.le_of_ble_eq_true rfl⟩ rfl (fun E9 M9 hx9 => ?_) (fun v9 M9 hp9 => ?_)
  · obtain ⟨rfl, h9⟩ := hx9
    rcases h9 with ⟨rfl, hcd⟩ | ⟨rfl, hcd⟩ | ⟨rfl, hcd⟩
    · refine pw_catch (name := "") hX [] ⟨0, 7, 10, 25⟩ [⟨0, 7, 14, 13⟩, ⟨0, 7, 18, 27⟩] htb (fun z hz => by cases hz) (by decide) (by decide) cw_RL_25 (by decide) (fun q => ?_)
      refine pw_astore (pc := 10) hX [(4, .ref q), (0, .ref a), (1, .int p0), (2, .int p1), (3, .int p2)] dL_line_10 (by decide) rfl ?_
      refine pw_iconst (pc := 12) (v := 1) hX dL_line_12 (by decide) ?_
      exact pw_iretx hX dL_line_13 hrt ⟨Nat.le_of_ble_eq_true rfl, Nat.le_of_ble_eq_true rfl⟩ (Or.inr ⟨by rw [hcd]; decide, by rw [hcd], rfl⟩)
    · refine pw_catch (name := "") hX [⟨0, 7, 10, 25⟩] ⟨0, 7, 14, 13⟩ [⟨0, 7, 18, 27⟩] htb (List.forall_mem_cons.mpr ⟨Or.inr ⟨by decide, _, cw_RL_25, by decide⟩, fun z hz => by cases hz⟩) (by decide) (by decide) cw_RL_13 (by decide) (fun q => ?_)
      refine pw_astore (pc := 14) hX [(4, .ref q), (0, .ref a), (1, .int p0), (2, .int p1), (3, .int p2)] dL_line_14 (by decide) rfl ?_
      refine pw_iconst (pc := 16) (v := 2) hX dL_line_16 (by decide) ?_
      exact pw_iretx hX dL_line_17 hrt ⟨Nat.le_of_ble_eq_true rfl, Nat.le_of_ble_eq_true rfl⟩ (Or.inr ⟨by rw [hcd]; decide, by rw [hcd], rfl⟩)
    · refine pw_catch (name := "") hX [⟨0, 7, 10, 25⟩, ⟨0, 7, 14, 13⟩] ⟨0, 7, 18, 27⟩ [] htb (List.forall_mem_cons.mpr ⟨Or.inr ⟨by decide, _, cw_RL_25, by decide⟩, List.forall_mem_cons.mpr ⟨Or.inr ⟨by decide, _, cw_RL_13, by decide⟩, fun z hz => by cases hz⟩⟩) (by decide) (by decide) cw_RL_27 (by decide) (fun q => ?_)
      refine pw_astore (pc := 18) hX [(4, .ref q), (0, .ref a), (1, .int p0), (2, .int p1), (3, .int p2)] dL_line_18 (by decide) rfl ?_
      refine pw_iconst (pc := 20) (v := 3) hX dL_line_20 (by decide) ?_
      exact pw_iretx hX dL_line_21 hrt ⟨Nat.le_of_ble_eq_true rfl, Nat.le_of_ble_eq_true rfl⟩ (Or.inr ⟨by rw [hcd]; decide, by rw [hcd], rfl⟩)
  cases hv _ _ hp9
  refine pw_goto (pc := 7) hX 22 dL_line_7 (by decide) ?_
  refine pw_iconst (pc := 22) (v := 0) hX dL_line_22 (by decide) ?_
  exact pw_iretx hX dL_line_23 hrt ⟨Nat.le_of_ble_eq_true rfl, Nat.le_of_ble_eq_true rfl⟩ (Or.inl ⟨hp9, rfl⟩)
set_option maxHeartbeats 4000000 in
set_option maxRecDepth 100000 in
theorem lc_cell (l : Launch) (hl : l.stackTraces = false) (G : pw_G) (M : pw_M) (a ao : Nat) (p0 : Int32) (fs : List Value) (ha : M a = some (.inr (1, fs))) (oL : Nat → Int64) (cd : Int32) (PO : Option Value → pw_M → Prop) (hC : pw_XMet l yX1_cell cX1_cell 4 (some .int) 3 2 12 G [.ref a, .int p0] M PO (fun E9 M9 => M = M9 ∧ (E9 = "java/util/NoSuchElementException" ∧ cd = 1 ∨ E9 = "java/lang/IllegalStateException" ∧ cd = 2))) (hv : ∀ v M1, PO v M1 → ∃ y, v = some (.int y) ∧ M1 ao = some (.inl (G.2.2.1 3, 1, .inr (.inl oL)))) : pw_HMet l yL_cell_ cL_cell_ 4 (some .int) [(0, 9, 12, 25), (0, 9, 15, 27)] 2 2 12 G [.ref a, .int p0, .ref ao] M (fun v9 M9 => (∃ y M1, PO (some (.int y)) M1 ∧ v9 = some (.int 0) ∧ M9 = pw_up M1 ao (.inl (G.2.2.1 3, 1, .inr (.inl (vp_updL oL 0 (y.toInt64)))))) ∨ (¬ cd = 0 ∧ v9 = some (.int cd) ∧ M = M9)) := by
  refine pw_ofh hl (by decide +kernel) (Nat.le_of_ble_eq_true rfl) [(0, .ref a), (1, .int p0), (2, .ref ao)] rfl ?_
  intro p9 e9 s9 m9 args9 below9 meth9 c9 hX hrt htb
  refine pw_aload_n (pc := 0) hX dL_cell__0 2 rfl ?_
  refine pw_iconst (pc := 1) (v := 0) hX dL_cell__1 (by decide) ?_
  refine pw_aload_n (pc := 2) hX dL_cell__2 0 rfl ?_
  refine pw_iload_n (pc := 3) hX dL_cell__3 1 rfl ?_
  refine pw_callVx (pc := 4) (st := [.int 0, .ref ao]) hX (hC) ha rfl ok_X1_cell lk_RL_29 dL_cell__4 rfl ⟨⟨by decide, by decide⟩, Nat.le_of_ble_eq_true rfl, Nat.le_of_ble_eq_true rfl, Nat.le_of_ble_eq_true rfl⟩ rfl (fun E9 M9 hx9 => ?_) (fun v9 M9 hp9 => ?_)
  · obtain ⟨rfl, h9⟩ := hx9
    rcases h9 with ⟨rfl, hcd⟩ | ⟨rfl, hcd⟩
    · refine pw_catch (name := "") hX [] ⟨0, 9, 12, 25⟩ [⟨0, 9, 15, 27⟩] htb (fun z hz => by cases hz) (by decide) (by decide) cw_RL_25 (by decide) (fun q => ?_)
      refine pw_astore_n (pc := 12) hX [(3, .ref q), (0, .ref a), (1, .int p0), (2, .ref ao)] dL_cell__12 (by decide) rfl ?_
      refine pw_iconst (pc := 13) (v := 1) hX dL_cell__13 (by decide) ?_
      exact pw_iretx hX dL_cell__14 hrt ⟨Nat.le_of_ble_eq_true rfl, Nat.le_of_ble_eq_true rfl⟩ (Or.inr ⟨by rw [hcd]; decide, by rw [hcd], rfl⟩)
    · refine pw_catch (name := "") hX [⟨0, 9, 12, 25⟩] ⟨0, 9, 15, 27⟩ [] htb (List.forall_mem_cons.mpr ⟨Or.inr ⟨by decide, _, cw_RL_25, by decide⟩, fun z hz => by cases hz⟩) (by decide) (by decide) cw_RL_27 (by decide) (fun q => ?_)
      refine pw_astore_n (pc := 15) hX [(3, .ref q), (0, .ref a), (1, .int p0), (2, .ref ao)] dL_cell__15 (by decide) rfl ?_
      refine pw_iconst (pc := 16) (v := 2) hX dL_cell__16 (by decide) ?_
      exact pw_iretx hX dL_cell__17 hrt ⟨Nat.le_of_ble_eq_true rfl, Nat.le_of_ble_eq_true rfl⟩ (Or.inr ⟨by rw [hcd]; decide, by rw [hcd], rfl⟩)
  obtain ⟨y, rfl, ho⟩ := hv _ _ hp9
  refine pw_i2l (pc := 7) (v := y.toInt64) hX dL_cell__7 rfl ?_
  refine pw_last (pc := 8) (j := 0) hX dL_cell__8 ho (by decide) (by decide) ?_
  have hm_1 : pw_up M9 ao (.inl (G.2.2.1 3, 1, .inr (.inl (vp_updL oL 0 y.toInt64)))) ao = some (.inl (G.2.2.1 3, 1, .inr (.inl (vp_updL oL 0 y.toInt64)))) := pw_us
  refine pw_goto (pc := 9) hX 18 dL_cell__9 (by decide) ?_
  refine pw_iconst (pc := 18) (v := 0) hX dL_cell__18 (by decide) ?_
  exact pw_iretx hX dL_cell__19 hrt ⟨Nat.le_of_ble_eq_true rfl, Nat.le_of_ble_eq_true rfl⟩ (Or.inl ⟨y, M9, hp9, rfl, rfl⟩)
set_option maxHeartbeats 4000000 in
set_option maxRecDepth 100000 in
theorem lc_light (l : Launch) (hl : l.stackTraces = false) (G : pw_G) (M : pw_M) (a ao : Nat) (p0 p1 : Int32) (fs : List Value) (ha : M a = some (.inr (1, fs))) (oL : Nat → Int64) (cd : Int32) (PO : Option Value → pw_M → Prop) (hC : pw_XMet l yX1_light cX1_light 4 (some .boolean) 3 1 6 G [.ref a, .int p0, .int p1] M PO (fun E9 M9 => M = M9 ∧ (E9 = "java/lang/ArrayIndexOutOfBoundsException" ∧ cd = 1))) (hv : ∀ v M1, PO v M1 → ∃ y, v = some (.int y) ∧ M1 ao = some (.inl (G.2.2.1 3, 1, .inr (.inl oL)))) : pw_HMet l yL_light cL_light 5 (some .int) [(0, 17, 20, 37)] 2 1 6 G [.ref a, .int p0, .int p1, .ref ao] M (fun v9 M9 => (∃ y M1, PO (some (.int y)) M1 ∧ v9 = some (.int 0) ∧ M9 = pw_up M1 ao (.inl (G.2.2.1 3, 1, .inr (.inl (vp_updL oL 0 ((if y = 0 then 0 else 1))))))) ∨ (¬ cd = 0 ∧ v9 = some (.int cd) ∧ M = M9)) := by
  refine pw_ofh hl (by decide +kernel) (Nat.le_of_ble_eq_true rfl) [(0, .ref a), (1, .int p0), (2, .int p1), (3, .ref ao)] rfl ?_
  intro p9 e9 s9 m9 args9 below9 meth9 c9 hX hrt htb
  refine pw_aload_n (pc := 0) hX dL_light_0 3 rfl ?_
  refine pw_iconst (pc := 1) (v := 0) hX dL_light_1 (by decide) ?_
  refine pw_aload_n (pc := 2) hX dL_light_2 0 rfl ?_
  refine pw_iload_n (pc := 3) hX dL_light_3 1 rfl ?_
  refine pw_iload_n (pc := 4) hX dL_light_4 2 rfl ?_
  refine pw_callVx (pc := 5) (st := [.int 0, .ref ao]) hX (hC) ha rfl ok_X1_light lk_RL_33 dL_light_5 rfl ⟨⟨by decide, by decide⟩, Nat.le_of_ble_eq_true rfl, Nat.le_of_ble_eq_true rfl, Nat.le_of_ble_eq_true rfl⟩ rfl (fun E9 M9 hx9 => ?_) (fun v9 M9 hp9 => ?_)
  · obtain ⟨rfl, h9⟩ := hx9
    rcases h9 with ⟨rfl, hcd⟩
    · refine pw_catch (name := "") hX [] ⟨0, 17, 20, 37⟩ [] htb (fun z hz => by cases hz) (by decide) (by decide) cw_RL_37 (by decide) (fun q => ?_)
      refine pw_astore (pc := 20) hX [(4, .ref q), (0, .ref a), (1, .int p0), (2, .int p1), (3, .ref ao)] dL_light_20 (by decide) rfl ?_
      refine pw_iconst (pc := 22) (v := 1) hX dL_light_22 (by decide) ?_
      exact pw_iretx hX dL_light_23 hrt ⟨Nat.le_of_ble_eq_true rfl, Nat.le_of_ble_eq_true rfl⟩ (Or.inr ⟨by rw [hcd]; decide, by rw [hcd], rfl⟩)
  obtain ⟨y, rfl, ho⟩ := hv _ _ hp9
  refine pw_if_eq (pc := 8) hX 15 dL_light_8 (by decide) (fun hc_1 => ?_) (fun hc_1 => ?_)
  · refine pw_lconst (pc := 15) (v := 0) hX dL_light_15 (by decide) ?_
    refine pw_last (pc := 16) (j := 0) hX dL_light_16 ho (by decide) (by decide) ?_
    have hm_2 : pw_up M9 ao (.inl (G.2.2.1 3, 1, .inr (.inl (vp_updL oL 0 0)))) ao = some (.inl (G.2.2.1 3, 1, .inr (.inl (vp_updL oL 0 0)))) := pw_us
    refine pw_goto (pc := 17) hX 24 dL_light_17 (by decide) ?_
    refine pw_iconst (pc := 24) (v := 0) hX dL_light_24 (by decide) ?_
    exact pw_iretx hX dL_light_25 hrt ⟨Nat.le_of_ble_eq_true rfl, Nat.le_of_ble_eq_true rfl⟩ (Or.inl ⟨y, M9, hp9, rfl, by rw [if_pos hc_1]⟩)
  · refine pw_lconst (pc := 11) (v := 1) hX dL_light_11 (by decide) ?_
    refine pw_goto (pc := 12) hX 16 dL_light_12 (by decide) ?_
    refine pw_last (pc := 16) (j := 0) hX dL_light_16 ho (by decide) (by decide) ?_
    have hm_3 : pw_up M9 ao (.inl (G.2.2.1 3, 1, .inr (.inl (vp_updL oL 0 1)))) ao = some (.inl (G.2.2.1 3, 1, .inr (.inl (vp_updL oL 0 1)))) := pw_us
    refine pw_goto (pc := 17) hX 24 dL_light_17 (by decide) ?_
    refine pw_iconst (pc := 24) (v := 0) hX dL_light_24 (by decide) ?_
    exact pw_iretx hX dL_light_25 hrt ⟨Nat.le_of_ble_eq_true rfl, Nat.le_of_ble_eq_true rfl⟩ (Or.inl ⟨y, M9, hp9, rfl, by rw [if_neg hc_1]⟩)
set_option maxHeartbeats 4000000 in
set_option maxRecDepth 100000 in
theorem lc_scan (l : Launch) (hl : l.stackTraces = false) (G : pw_G) (M : pw_M) (a ao : Nat) (p0 p1 p2 : Int32) (fs : List Value) (ha : M a = some (.inr (1, fs))) (oL : Nat → Int64) (cd : Int32) (PO : Option Value → pw_M → Prop) (hC : pw_XMet l yX1_scan cX1_scan 5 (some .int) 3 3 18 G [.ref a, .int p0, .int p1, .int p2] M PO (fun E9 M9 => M = M9 ∧ (E9 = "java/lang/ArrayIndexOutOfBoundsException" ∧ cd = 1 ∨ E9 = "java/lang/IllegalArgumentException" ∧ cd = 2))) (hv : ∀ v M1, PO v M1 → ∃ y, v = some (.int y) ∧ M1 ao = some (.inl (G.2.2.1 3, 1, .inr (.inl oL)))) : pw_HMet l yL_scan cL_scan 6 (some .int) [(0, 12, 15, 37), (0, 12, 19, 13)] 2 3 18 G [.ref a, .int p0, .int p1, .int p2, .ref ao] M (fun v9 M9 => (∃ y M1, PO (some (.int y)) M1 ∧ v9 = some (.int 0) ∧ M9 = pw_up M1 ao (.inl (G.2.2.1 3, 1, .inr (.inl (vp_updL oL 0 (y.toInt64)))))) ∨ (¬ cd = 0 ∧ v9 = some (.int cd) ∧ M = M9)) := by
  refine pw_ofh hl (by decide +kernel) (Nat.le_of_ble_eq_true rfl) [(0, .ref a), (1, .int p0), (2, .int p1), (3, .int p2), (4, .ref ao)] rfl ?_
  intro p9 e9 s9 m9 args9 below9 meth9 c9 hX hrt htb
  refine pw_aload (pc := 0) hX dL_scan_0 4 rfl ?_
  refine pw_iconst (pc := 2) (v := 0) hX dL_scan_2 (by decide) ?_
  refine pw_aload_n (pc := 3) hX dL_scan_3 0 rfl ?_
  refine pw_iload_n (pc := 4) hX dL_scan_4 1 rfl ?_
  refine pw_iload_n (pc := 5) hX dL_scan_5 2 rfl ?_
  refine pw_iload_n (pc := 6) hX dL_scan_6 3 rfl ?_
  refine pw_callVx (pc := 7) (st := [.int 0, .ref ao]) hX (hC) ha rfl ok_X1_scan lk_RL_39 dL_scan_7 rfl ⟨⟨by decide, by decide⟩, Nat.le_of_ble_eq_true rfl, Nat.le_of_ble_eq_true rfl, Nat.le_of_ble_eq_true rfl⟩ rfl (fun E9 M9 hx9 => ?_) (fun v9 M9 hp9 => ?_)
  · obtain ⟨rfl, h9⟩ := hx9
    rcases h9 with ⟨rfl, hcd⟩ | ⟨rfl, hcd⟩
    · refine pw_catch (name := "") hX [] ⟨0, 12, 15, 37⟩ [⟨0, 12, 19, 13⟩] htb (fun z hz => by cases hz) (by decide) (by decide) cw_RL_37 (by decide) (fun q => ?_)
      refine pw_astore (pc := 15) hX [(5, .ref q), (0, .ref a), (1, .int p0), (2, .int p1), (3, .int p2), (4, .ref ao)] dL_scan_15 (by decide) rfl ?_
      refine pw_iconst (pc := 17) (v := 1) hX dL_scan_17 (by decide) ?_
      exact pw_iretx hX dL_scan_18 hrt ⟨Nat.le_of_ble_eq_true rfl, Nat.le_of_ble_eq_true rfl⟩ (Or.inr ⟨by rw [hcd]; decide, by rw [hcd], rfl⟩)
    · refine pw_catch (name := "") hX [⟨0, 12, 15, 37⟩] ⟨0, 12, 19, 13⟩ [] htb (List.forall_mem_cons.mpr ⟨Or.inr ⟨by decide, _, cw_RL_37, by decide⟩, fun z hz => by cases hz⟩) (by decide) (by decide) cw_RL_13 (by decide) (fun q => ?_)
      refine pw_astore (pc := 19) hX [(5, .ref q), (0, .ref a), (1, .int p0), (2, .int p1), (3, .int p2), (4, .ref ao)] dL_scan_19 (by decide) rfl ?_
      refine pw_iconst (pc := 21) (v := 2) hX dL_scan_21 (by decide) ?_
      exact pw_iretx hX dL_scan_22 hrt ⟨Nat.le_of_ble_eq_true rfl, Nat.le_of_ble_eq_true rfl⟩ (Or.inr ⟨by rw [hcd]; decide, by rw [hcd], rfl⟩)
  obtain ⟨y, rfl, ho⟩ := hv _ _ hp9
  refine pw_i2l (pc := 10) (v := y.toInt64) hX dL_scan_10 rfl ?_
  refine pw_last (pc := 11) (j := 0) hX dL_scan_11 ho (by decide) (by decide) ?_
  have hm_1 : pw_up M9 ao (.inl (G.2.2.1 3, 1, .inr (.inl (vp_updL oL 0 y.toInt64)))) ao = some (.inl (G.2.2.1 3, 1, .inr (.inl (vp_updL oL 0 y.toInt64)))) := pw_us
  refine pw_goto (pc := 12) hX 23 dL_scan_12 (by decide) ?_
  refine pw_iconst (pc := 23) (v := 0) hX dL_scan_23 (by decide) ?_
  exact pw_iretx hX dL_scan_24 hrt ⟨Nat.le_of_ble_eq_true rfl, Nat.le_of_ble_eq_true rfl⟩ (Or.inl ⟨y, M9, hp9, rfl, rfl⟩)
set_option maxHeartbeats 4000000 in
set_option maxRecDepth 100000 in
theorem lc_undo (l : Launch) (hl : l.stackTraces = false) (G : pw_G) (M : pw_M) (a ao : Nat) (p0 p1 : Int32) (fs : List Value) (ha : M a = some (.inr (1, fs))) (oL : Nat → Int64) (cd : Int32) (PO : Option Value → pw_M → Prop) (hC : pw_XMet l yX1_undo cX1_undo 4 (some .int) 3 3 18 G [.ref a, .int p0, .int p1] M PO (fun E9 M9 => M = M9 ∧ (E9 = "java/lang/ArrayIndexOutOfBoundsException" ∧ cd = 1 ∨ E9 = "java/lang/IllegalArgumentException" ∧ cd = 2 ∨ E9 = "java/lang/IllegalStateException" ∧ cd = 3))) (hv : ∀ v M1, PO v M1 → ∃ y, v = some (.int y) ∧ M1 ao = some (.inl (G.2.2.1 3, 1, .inr (.inl oL)))) : pw_HMet l yL_undo cL_undo 5 (some .int) [(0, 10, 13, 37), (0, 10, 17, 13), (0, 10, 21, 27)] 2 3 18 G [.ref a, .int p0, .int p1, .ref ao] M (fun v9 M9 => (∃ y M1, PO (some (.int y)) M1 ∧ v9 = some (.int 0) ∧ M9 = pw_up M1 ao (.inl (G.2.2.1 3, 1, .inr (.inl (vp_updL oL 0 (y.toInt64)))))) ∨ (¬ cd = 0 ∧ v9 = some (.int cd) ∧ M = M9)) := by
  refine pw_ofh hl (by decide +kernel) (Nat.le_of_ble_eq_true rfl) [(0, .ref a), (1, .int p0), (2, .int p1), (3, .ref ao)] rfl ?_
  intro p9 e9 s9 m9 args9 below9 meth9 c9 hX hrt htb
  refine pw_aload_n (pc := 0) hX dL_undo_0 3 rfl ?_
  refine pw_iconst (pc := 1) (v := 0) hX dL_undo_1 (by decide) ?_
  refine pw_aload_n (pc := 2) hX dL_undo_2 0 rfl ?_
  refine pw_iload_n (pc := 3) hX dL_undo_3 1 rfl ?_
  refine pw_iload_n (pc := 4) hX dL_undo_4 2 rfl ?_
  refine pw_callVx (pc := 5) (st := [.int 0, .ref ao]) hX (hC) ha rfl ok_X1_undo lk_RL_43 dL_undo_5 rfl ⟨⟨by decide, by decide⟩, Nat.le_of_ble_eq_true rfl, Nat.le_of_ble_eq_true rfl, Nat.le_of_ble_eq_true rfl⟩ rfl (fun E9 M9 hx9 => ?_) (fun v9 M9 hp9 => ?_)
  · obtain ⟨rfl, h9⟩ := hx9
    rcases h9 with ⟨rfl, hcd⟩ | ⟨rfl, hcd⟩ | ⟨rfl, hcd⟩
    · refine pw_catch (name := "") hX [] ⟨0, 10, 13, 37⟩ [⟨0, 10, 17, 13⟩, ⟨0, 10, 21, 27⟩] htb (fun z hz => by cases hz) (by decide) (by decide) cw_RL_37 (by decide) (fun q => ?_)
      refine pw_astore (pc := 13) hX [(4, .ref q), (0, .ref a), (1, .int p0), (2, .int p1), (3, .ref ao)] dL_undo_13 (by decide) rfl ?_
      refine pw_iconst (pc := 15) (v := 1) hX dL_undo_15 (by decide) ?_
      exact pw_iretx hX dL_undo_16 hrt ⟨Nat.le_of_ble_eq_true rfl, Nat.le_of_ble_eq_true rfl⟩ (Or.inr ⟨by rw [hcd]; decide, by rw [hcd], rfl⟩)
    · refine pw_catch (name := "") hX [⟨0, 10, 13, 37⟩] ⟨0, 10, 17, 13⟩ [⟨0, 10, 21, 27⟩] htb (List.forall_mem_cons.mpr ⟨Or.inr ⟨by decide, _, cw_RL_37, by decide⟩, fun z hz => by cases hz⟩) (by decide) (by decide) cw_RL_13 (by decide) (fun q => ?_)
      refine pw_astore (pc := 17) hX [(4, .ref q), (0, .ref a), (1, .int p0), (2, .int p1), (3, .ref ao)] dL_undo_17 (by decide) rfl ?_
      refine pw_iconst (pc := 19) (v := 2) hX dL_undo_19 (by decide) ?_
      exact pw_iretx hX dL_undo_20 hrt ⟨Nat.le_of_ble_eq_true rfl, Nat.le_of_ble_eq_true rfl⟩ (Or.inr ⟨by rw [hcd]; decide, by rw [hcd], rfl⟩)
    · refine pw_catch (name := "") hX [⟨0, 10, 13, 37⟩, ⟨0, 10, 17, 13⟩] ⟨0, 10, 21, 27⟩ [] htb (List.forall_mem_cons.mpr ⟨Or.inr ⟨by decide, _, cw_RL_37, by decide⟩, List.forall_mem_cons.mpr ⟨Or.inr ⟨by decide, _, cw_RL_13, by decide⟩, fun z hz => by cases hz⟩⟩) (by decide) (by decide) cw_RL_27 (by decide) (fun q => ?_)
      refine pw_astore (pc := 21) hX [(4, .ref q), (0, .ref a), (1, .int p0), (2, .int p1), (3, .ref ao)] dL_undo_21 (by decide) rfl ?_
      refine pw_iconst (pc := 23) (v := 3) hX dL_undo_23 (by decide) ?_
      exact pw_iretx hX dL_undo_24 hrt ⟨Nat.le_of_ble_eq_true rfl, Nat.le_of_ble_eq_true rfl⟩ (Or.inr ⟨by rw [hcd]; decide, by rw [hcd], rfl⟩)
  obtain ⟨y, rfl, ho⟩ := hv _ _ hp9
  refine pw_i2l (pc := 8) (v := y.toInt64) hX dL_undo_8 rfl ?_
  refine pw_last (pc := 9) (j := 0) hX dL_undo_9 ho (by decide) (by decide) ?_
  have hm_1 : pw_up M9 ao (.inl (G.2.2.1 3, 1, .inr (.inl (vp_updL oL 0 y.toInt64)))) ao = some (.inl (G.2.2.1 3, 1, .inr (.inl (vp_updL oL 0 y.toInt64)))) := pw_us
  refine pw_goto (pc := 10) hX 25 dL_undo_10 (by decide) ?_
  refine pw_iconst (pc := 25) (v := 0) hX dL_undo_25 (by decide) ?_
  exact pw_iretx hX dL_undo_26 hrt ⟨Nat.le_of_ble_eq_true rfl, Nat.le_of_ble_eq_true rfl⟩ (Or.inl ⟨y, M9, hp9, rfl, rfl⟩)
set_option maxHeartbeats 4000000 in
set_option maxRecDepth 100000 in
theorem lc_miss (l : Launch) (hl : l.stackTraces = false) (G : pw_G) (M : pw_M) (a ao : Nat) (p0 p1 p2 : Int32) (fs : List Value) (ha : M a = some (.inr (1, fs))) (oL : Nat → Int64) (cd : Int32) (PO : Option Value → pw_M → Prop) (hC : pw_XMet l yX1_miss cX1_miss 5 (some .int) 3 5 30 G [.ref a, .int p0, .int p1, .int p2] M PO (fun E9 M9 => M = M9 ∧ (E9 = "java/util/NoSuchElementException" ∧ cd = 1 ∨ E9 = "java/lang/IllegalArgumentException" ∧ cd = 2 ∨ E9 = "java/lang/IllegalStateException" ∧ cd = 3))) (hv : ∀ v M1, PO v M1 → ∃ y, v = some (.int y) ∧ M1 ao = some (.inl (G.2.2.1 3, 1, .inr (.inl oL)))) : pw_HMet l yL_miss cL_miss 6 (some .int) [(0, 12, 15, 25), (0, 12, 19, 13), (0, 12, 23, 27)] 2 5 30 G [.ref a, .int p0, .int p1, .int p2, .ref ao] M (fun v9 M9 => (∃ y M1, PO (some (.int y)) M1 ∧ v9 = some (.int 0) ∧ M9 = pw_up M1 ao (.inl (G.2.2.1 3, 1, .inr (.inl (vp_updL oL 0 (y.toInt64)))))) ∨ (¬ cd = 0 ∧ v9 = some (.int cd) ∧ M = M9)) := by
  refine pw_ofh hl (by decide +kernel) (Nat.le_of_ble_eq_true rfl) [(0, .ref a), (1, .int p0), (2, .int p1), (3, .int p2), (4, .ref ao)] rfl ?_
  intro p9 e9 s9 m9 args9 below9 meth9 c9 hX hrt htb
  refine pw_aload (pc := 0) hX dL_miss_0 4 rfl ?_
  refine pw_iconst (pc := 2) (v := 0) hX dL_miss_2 (by decide) ?_
  refine pw_aload_n (pc := 3) hX dL_miss_3 0 rfl ?_
  refine pw_iload_n (pc := 4) hX dL_miss_4 1 rfl ?_
  refine pw_iload_n (pc := 5) hX dL_miss_5 2 rfl ?_
  refine pw_iload_n (pc := 6) hX dL_miss_6 3 rfl ?_
  refine pw_callVx (pc := 7) (st := [.int 0, .ref ao]) hX (hC) ha rfl ok_X1_miss lk_RL_46 dL_miss_7 rfl ⟨⟨by decide, by decide⟩, Nat.le_of_ble_eq_true rfl, Nat.le_of_ble_eq_true rfl, Nat.le_of_ble_eq_true rfl⟩ rfl (fun E9 M9 hx9 => ?_) (fun v9 M9 hp9 => ?_)
  · obtain ⟨rfl, h9⟩ := hx9
    rcases h9 with ⟨rfl, hcd⟩ | ⟨rfl, hcd⟩ | ⟨rfl, hcd⟩
    · refine pw_catch (name := "") hX [] ⟨0, 12, 15, 25⟩ [⟨0, 12, 19, 13⟩, ⟨0, 12, 23, 27⟩] htb (fun z hz => by cases hz) (by decide) (by decide) cw_RL_25 (by decide) (fun q => ?_)
      refine pw_astore (pc := 15) hX [(5, .ref q), (0, .ref a), (1, .int p0), (2, .int p1), (3, .int p2), (4, .ref ao)] dL_miss_15 (by decide) rfl ?_
      refine pw_iconst (pc := 17) (v := 1) hX dL_miss_17 (by decide) ?_
      exact pw_iretx hX dL_miss_18 hrt ⟨Nat.le_of_ble_eq_true rfl, Nat.le_of_ble_eq_true rfl⟩ (Or.inr ⟨by rw [hcd]; decide, by rw [hcd], rfl⟩)
    · refine pw_catch (name := "") hX [⟨0, 12, 15, 25⟩] ⟨0, 12, 19, 13⟩ [⟨0, 12, 23, 27⟩] htb (List.forall_mem_cons.mpr ⟨Or.inr ⟨by decide, _, cw_RL_25, by decide⟩, fun z hz => by cases hz⟩) (by decide) (by decide) cw_RL_13 (by decide) (fun q => ?_)
      refine pw_astore (pc := 19) hX [(5, .ref q), (0, .ref a), (1, .int p0), (2, .int p1), (3, .int p2), (4, .ref ao)] dL_miss_19 (by decide) rfl ?_
      refine pw_iconst (pc := 21) (v := 2) hX dL_miss_21 (by decide) ?_
      exact pw_iretx hX dL_miss_22 hrt ⟨Nat.le_of_ble_eq_true rfl, Nat.le_of_ble_eq_true rfl⟩ (Or.inr ⟨by rw [hcd]; decide, by rw [hcd], rfl⟩)
    · refine pw_catch (name := "") hX [⟨0, 12, 15, 25⟩, ⟨0, 12, 19, 13⟩] ⟨0, 12, 23, 27⟩ [] htb (List.forall_mem_cons.mpr ⟨Or.inr ⟨by decide, _, cw_RL_25, by decide⟩, List.forall_mem_cons.mpr ⟨Or.inr ⟨by decide, _, cw_RL_13, by decide⟩, fun z hz => by cases hz⟩⟩) (by decide) (by decide) cw_RL_27 (by decide) (fun q => ?_)
      refine pw_astore (pc := 23) hX [(5, .ref q), (0, .ref a), (1, .int p0), (2, .int p1), (3, .int p2), (4, .ref ao)] dL_miss_23 (by decide) rfl ?_
      refine pw_iconst (pc := 25) (v := 3) hX dL_miss_25 (by decide) ?_
      exact pw_iretx hX dL_miss_26 hrt ⟨Nat.le_of_ble_eq_true rfl, Nat.le_of_ble_eq_true rfl⟩ (Or.inr ⟨by rw [hcd]; decide, by rw [hcd], rfl⟩)
  obtain ⟨y, rfl, ho⟩ := hv _ _ hp9
  refine pw_i2l (pc := 10) (v := y.toInt64) hX dL_miss_10 rfl ?_
  refine pw_last (pc := 11) (j := 0) hX dL_miss_11 ho (by decide) (by decide) ?_
  have hm_1 : pw_up M9 ao (.inl (G.2.2.1 3, 1, .inr (.inl (vp_updL oL 0 y.toInt64)))) ao = some (.inl (G.2.2.1 3, 1, .inr (.inl (vp_updL oL 0 y.toInt64)))) := pw_us
  refine pw_goto (pc := 12) hX 27 dL_miss_12 (by decide) ?_
  refine pw_iconst (pc := 27) (v := 0) hX dL_miss_27 (by decide) ?_
  exact pw_iretx hX dL_miss_28 hrt ⟨Nat.le_of_ble_eq_true rfl, Nat.le_of_ble_eq_true rfl⟩ (Or.inl ⟨y, M9, hp9, rfl, rfl⟩)
set_option maxHeartbeats 4000000 in
set_option maxRecDepth 100000 in
theorem lc_day (l : Launch) (hl : l.stackTraces = false) (G : pw_G) (M : pw_M) (a : Nat) (p0 : Int32) (fs : List Value) (ha : M a = some (.inr (1, fs))) (cd : Int32) (PO : Option Value → pw_M → Prop) (hC : pw_XMet l yX1_day cX1_day 2 none 3 2 12 G [.ref a, .int p0] M PO (fun E9 M9 => M = M9 ∧ (E9 = "java/lang/IllegalArgumentException" ∧ cd = 1 ∨ E9 = "java/lang/IllegalStateException" ∧ cd = 2))) (hv : ∀ v M1, PO v M1 → v = none) : pw_HMet l yL_day cL_day 3 (some .int) [(0, 5, 8, 13), (0, 5, 11, 27)] 2 2 12 G [.ref a, .int p0] M (fun v9 M9 => (PO none M9 ∧ v9 = some (.int 0)) ∨ (¬ cd = 0 ∧ v9 = some (.int cd) ∧ M = M9)) := by
  refine pw_ofh hl (by decide +kernel) (Nat.le_of_ble_eq_true rfl) [(0, .ref a), (1, .int p0)] rfl ?_
  intro p9 e9 s9 m9 args9 below9 meth9 c9 hX hrt htb
  refine pw_aload_n (pc := 0) hX dL_day_0 0 rfl ?_
  refine pw_iload_n (pc := 1) hX dL_day_1 1 rfl ?_
  refine pw_callVx (pc := 2) (st := []) hX (hC) ha rfl ok_X1_day lk_RL_49 dL_day_2 rfl ⟨⟨by decide, by decide⟩, Nat.le_of_ble_eq_true rfl, Nat.le_of_ble_eq_true rfl, Nat.le_of_ble_eq_true rfl⟩ rfl (fun E9 M9 hx9 => ?_) (fun v9 M9 hp9 => ?_)
  · obtain ⟨rfl, h9⟩ := hx9
    rcases h9 with ⟨rfl, hcd⟩ | ⟨rfl, hcd⟩
    · refine pw_catch (name := "") hX [] ⟨0, 5, 8, 13⟩ [⟨0, 5, 11, 27⟩] htb (fun z hz => by cases hz) (by decide) (by decide) cw_RL_13 (by decide) (fun q => ?_)
      refine pw_astore_n (pc := 8) hX [(2, .ref q), (0, .ref a), (1, .int p0)] dL_day_8 (by decide) rfl ?_
      refine pw_iconst (pc := 9) (v := 1) hX dL_day_9 (by decide) ?_
      exact pw_iretx hX dL_day_10 hrt ⟨Nat.le_of_ble_eq_true rfl, Nat.le_of_ble_eq_true rfl⟩ (Or.inr ⟨by rw [hcd]; decide, by rw [hcd], rfl⟩)
    · refine pw_catch (name := "") hX [⟨0, 5, 8, 13⟩] ⟨0, 5, 11, 27⟩ [] htb (List.forall_mem_cons.mpr ⟨Or.inr ⟨by decide, _, cw_RL_13, by decide⟩, fun z hz => by cases hz⟩) (by decide) (by decide) cw_RL_27 (by decide) (fun q => ?_)
      refine pw_astore_n (pc := 11) hX [(2, .ref q), (0, .ref a), (1, .int p0)] dL_day_11 (by decide) rfl ?_
      refine pw_iconst (pc := 12) (v := 2) hX dL_day_12 (by decide) ?_
      exact pw_iretx hX dL_day_13 hrt ⟨Nat.le_of_ble_eq_true rfl, Nat.le_of_ble_eq_true rfl⟩ (Or.inr ⟨by rw [hcd]; decide, by rw [hcd], rfl⟩)
  cases hv _ _ hp9
  refine pw_goto (pc := 5) hX 14 dL_day_5 (by decide) ?_
  refine pw_iconst (pc := 14) (v := 0) hX dL_day_14 (by decide) ?_
  exact pw_iretx hX dL_day_15 hrt ⟨Nat.le_of_ble_eq_true rfl, Nat.le_of_ble_eq_true rfl⟩ (Or.inl ⟨hp9, rfl⟩)
set_option maxHeartbeats 4000000 in
set_option maxRecDepth 100000 in
theorem lc_change (l : Launch) (hl : l.stackTraces = false) (G : pw_G) (M : pw_M) (a ao : Nat) (p0 p1 p2 : Int32) (fs : List Value) (ha : M a = some (.inr (1, fs))) (oL : Nat → Int64) (cd : Int32) (PO : Option Value → pw_M → Prop) (hC : pw_XMet l yX1_change cX1_change 6 (some .boolean) 3 5 30 G [.ref a, .int p0, .int p1, .int p2] M PO (fun E9 M9 => M = M9 ∧ (E9 = "java/util/NoSuchElementException" ∧ cd = 1 ∨ E9 = "java/lang/IllegalArgumentException" ∧ cd = 2 ∨ E9 = "java/lang/IllegalStateException" ∧ cd = 3))) (hv : ∀ v M1, PO v M1 → ∃ y, v = some (.int y) ∧ M1 ao = some (.inl (G.2.2.1 3, 1, .inr (.inl oL)))) : pw_HMet l yL_change cL_change 6 (some .int) [(0, 19, 22, 25), (0, 19, 26, 13), (0, 19, 30, 27)] 2 5 30 G [.ref a, .int p0, .int p1, .int p2, .ref ao] M (fun v9 M9 => (∃ y M1, PO (some (.int y)) M1 ∧ v9 = some (.int 0) ∧ M9 = pw_up M1 ao (.inl (G.2.2.1 3, 1, .inr (.inl (vp_updL oL 0 ((if y = 0 then 0 else 1))))))) ∨ (¬ cd = 0 ∧ v9 = some (.int cd) ∧ M = M9)) := by
  refine pw_ofh hl (by decide +kernel) (Nat.le_of_ble_eq_true rfl) [(0, .ref a), (1, .int p0), (2, .int p1), (3, .int p2), (4, .ref ao)] rfl ?_
  intro p9 e9 s9 m9 args9 below9 meth9 c9 hX hrt htb
  refine pw_aload (pc := 0) hX dL_change_0 4 rfl ?_
  refine pw_iconst (pc := 2) (v := 0) hX dL_change_2 (by decide) ?_
  refine pw_aload_n (pc := 3) hX dL_change_3 0 rfl ?_
  refine pw_iload_n (pc := 4) hX dL_change_4 1 rfl ?_
  refine pw_iload_n (pc := 5) hX dL_change_5 2 rfl ?_
  refine pw_iload_n (pc := 6) hX dL_change_6 3 rfl ?_
  refine pw_callVx (pc := 7) (st := [.int 0, .ref ao]) hX (hC) ha rfl ok_X1_change lk_RL_53 dL_change_7 rfl ⟨⟨by decide, by decide⟩, Nat.le_of_ble_eq_true rfl, Nat.le_of_ble_eq_true rfl, Nat.le_of_ble_eq_true rfl⟩ rfl (fun E9 M9 hx9 => ?_) (fun v9 M9 hp9 => ?_)
  · obtain ⟨rfl, h9⟩ := hx9
    rcases h9 with ⟨rfl, hcd⟩ | ⟨rfl, hcd⟩ | ⟨rfl, hcd⟩
    · refine pw_catch (name := "") hX [] ⟨0, 19, 22, 25⟩ [⟨0, 19, 26, 13⟩, ⟨0, 19, 30, 27⟩] htb (fun z hz => by cases hz) (by decide) (by decide) cw_RL_25 (by decide) (fun q => ?_)
      refine pw_astore (pc := 22) hX [(5, .ref q), (0, .ref a), (1, .int p0), (2, .int p1), (3, .int p2), (4, .ref ao)] dL_change_22 (by decide) rfl ?_
      refine pw_iconst (pc := 24) (v := 1) hX dL_change_24 (by decide) ?_
      exact pw_iretx hX dL_change_25 hrt ⟨Nat.le_of_ble_eq_true rfl, Nat.le_of_ble_eq_true rfl⟩ (Or.inr ⟨by rw [hcd]; decide, by rw [hcd], rfl⟩)
    · refine pw_catch (name := "") hX [⟨0, 19, 22, 25⟩] ⟨0, 19, 26, 13⟩ [⟨0, 19, 30, 27⟩] htb (List.forall_mem_cons.mpr ⟨Or.inr ⟨by decide, _, cw_RL_25, by decide⟩, fun z hz => by cases hz⟩) (by decide) (by decide) cw_RL_13 (by decide) (fun q => ?_)
      refine pw_astore (pc := 26) hX [(5, .ref q), (0, .ref a), (1, .int p0), (2, .int p1), (3, .int p2), (4, .ref ao)] dL_change_26 (by decide) rfl ?_
      refine pw_iconst (pc := 28) (v := 2) hX dL_change_28 (by decide) ?_
      exact pw_iretx hX dL_change_29 hrt ⟨Nat.le_of_ble_eq_true rfl, Nat.le_of_ble_eq_true rfl⟩ (Or.inr ⟨by rw [hcd]; decide, by rw [hcd], rfl⟩)
    · refine pw_catch (name := "") hX [⟨0, 19, 22, 25⟩, ⟨0, 19, 26, 13⟩] ⟨0, 19, 30, 27⟩ [] htb (List.forall_mem_cons.mpr ⟨Or.inr ⟨by decide, _, cw_RL_25, by decide⟩, List.forall_mem_cons.mpr ⟨Or.inr ⟨by decide, _, cw_RL_13, by decide⟩, fun z hz => by cases hz⟩⟩) (by decide) (by decide) cw_RL_27 (by decide) (fun q => ?_)
      refine pw_astore (pc := 30) hX [(5, .ref q), (0, .ref a), (1, .int p0), (2, .int p1), (3, .int p2), (4, .ref ao)] dL_change_30 (by decide) rfl ?_
      refine pw_iconst (pc := 32) (v := 3) hX dL_change_32 (by decide) ?_
      exact pw_iretx hX dL_change_33 hrt ⟨Nat.le_of_ble_eq_true rfl, Nat.le_of_ble_eq_true rfl⟩ (Or.inr ⟨by rw [hcd]; decide, by rw [hcd], rfl⟩)
  obtain ⟨y, rfl, ho⟩ := hv _ _ hp9
  refine pw_if_eq (pc := 10) hX 17 dL_change_10 (by decide) (fun hc_1 => ?_) (fun hc_1 => ?_)
  · refine pw_lconst (pc := 17) (v := 0) hX dL_change_17 (by decide) ?_
    refine pw_last (pc := 18) (j := 0) hX dL_change_18 ho (by decide) (by decide) ?_
    have hm_2 : pw_up M9 ao (.inl (G.2.2.1 3, 1, .inr (.inl (vp_updL oL 0 0)))) ao = some (.inl (G.2.2.1 3, 1, .inr (.inl (vp_updL oL 0 0)))) := pw_us
    refine pw_goto (pc := 19) hX 34 dL_change_19 (by decide) ?_
    refine pw_iconst (pc := 34) (v := 0) hX dL_change_34 (by decide) ?_
    exact pw_iretx hX dL_change_35 hrt ⟨Nat.le_of_ble_eq_true rfl, Nat.le_of_ble_eq_true rfl⟩ (Or.inl ⟨y, M9, hp9, rfl, by rw [if_pos hc_1]⟩)
  · refine pw_lconst (pc := 13) (v := 1) hX dL_change_13 (by decide) ?_
    refine pw_goto (pc := 14) hX 18 dL_change_14 (by decide) ?_
    refine pw_last (pc := 18) (j := 0) hX dL_change_18 ho (by decide) (by decide) ?_
    have hm_3 : pw_up M9 ao (.inl (G.2.2.1 3, 1, .inr (.inl (vp_updL oL 0 1)))) ao = some (.inl (G.2.2.1 3, 1, .inr (.inl (vp_updL oL 0 1)))) := pw_us
    refine pw_goto (pc := 19) hX 34 dL_change_19 (by decide) ?_
    refine pw_iconst (pc := 34) (v := 0) hX dL_change_34 (by decide) ?_
    exact pw_iretx hX dL_change_35 hrt ⟨Nat.le_of_ble_eq_true rfl, Nat.le_of_ble_eq_true rfl⟩ (Or.inl ⟨y, M9, hp9, rfl, by rw [if_neg hc_1]⟩)
set_option maxHeartbeats 4000000 in
set_option maxRecDepth 100000 in
theorem lc_complete (l : Launch) (hl : l.stackTraces = false) (G : pw_G) (M : pw_M) (a ao : Nat) (p0 : Int32) (fs : List Value) (ha : M a = some (.inr (1, fs))) (oL : Nat → Int64) (cd : Int32) (PO : Option Value → pw_M → Prop) (hC : pw_XMet l yX1_complete cX1_complete 3 (some .boolean) 3 2 12 G [.ref a, .int p0] M PO (fun E9 M9 => M = M9 ∧ (E9 = "java/util/NoSuchElementException" ∧ cd = 1 ∨ E9 = "java/lang/IllegalStateException" ∧ cd = 2))) (hv : ∀ v M1, PO v M1 → ∃ y, v = some (.int y) ∧ M1 ao = some (.inl (G.2.2.1 3, 1, .inr (.inl oL)))) : pw_HMet l yL_complete cL_complete 4 (some .int) [(0, 16, 19, 25), (0, 16, 22, 27)] 2 2 12 G [.ref a, .int p0, .ref ao] M (fun v9 M9 => (∃ y M1, PO (some (.int y)) M1 ∧ v9 = some (.int 0) ∧ M9 = pw_up M1 ao (.inl (G.2.2.1 3, 1, .inr (.inl (vp_updL oL 0 ((if y = 0 then 0 else 1))))))) ∨ (¬ cd = 0 ∧ v9 = some (.int cd) ∧ M = M9)) := by
  refine pw_ofh hl (by decide +kernel) (Nat.le_of_ble_eq_true rfl) [(0, .ref a), (1, .int p0), (2, .ref ao)] rfl ?_
  intro p9 e9 s9 m9 args9 below9 meth9 c9 hX hrt htb
  refine pw_aload_n (pc := 0) hX dL_complete_0 2 rfl ?_
  refine pw_iconst (pc := 1) (v := 0) hX dL_complete_1 (by decide) ?_
  refine pw_aload_n (pc := 2) hX dL_complete_2 0 rfl ?_
  refine pw_iload_n (pc := 3) hX dL_complete_3 1 rfl ?_
  refine pw_callVx (pc := 4) (st := [.int 0, .ref ao]) hX (hC) ha rfl ok_X1_complete lk_RL_57 dL_complete_4 rfl ⟨⟨by decide, by decide⟩, Nat.le_of_ble_eq_true rfl, Nat.le_of_ble_eq_true rfl, Nat.le_of_ble_eq_true rfl⟩ rfl (fun E9 M9 hx9 => ?_) (fun v9 M9 hp9 => ?_)
  · obtain ⟨rfl, h9⟩ := hx9
    rcases h9 with ⟨rfl, hcd⟩ | ⟨rfl, hcd⟩
    · refine pw_catch (name := "") hX [] ⟨0, 16, 19, 25⟩ [⟨0, 16, 22, 27⟩] htb (fun z hz => by cases hz) (by decide) (by decide) cw_RL_25 (by decide) (fun q => ?_)
      refine pw_astore_n (pc := 19) hX [(3, .ref q), (0, .ref a), (1, .int p0), (2, .ref ao)] dL_complete_19 (by decide) rfl ?_
      refine pw_iconst (pc := 20) (v := 1) hX dL_complete_20 (by decide) ?_
      exact pw_iretx hX dL_complete_21 hrt ⟨Nat.le_of_ble_eq_true rfl, Nat.le_of_ble_eq_true rfl⟩ (Or.inr ⟨by rw [hcd]; decide, by rw [hcd], rfl⟩)
    · refine pw_catch (name := "") hX [⟨0, 16, 19, 25⟩] ⟨0, 16, 22, 27⟩ [] htb (List.forall_mem_cons.mpr ⟨Or.inr ⟨by decide, _, cw_RL_25, by decide⟩, fun z hz => by cases hz⟩) (by decide) (by decide) cw_RL_27 (by decide) (fun q => ?_)
      refine pw_astore_n (pc := 22) hX [(3, .ref q), (0, .ref a), (1, .int p0), (2, .ref ao)] dL_complete_22 (by decide) rfl ?_
      refine pw_iconst (pc := 23) (v := 2) hX dL_complete_23 (by decide) ?_
      exact pw_iretx hX dL_complete_24 hrt ⟨Nat.le_of_ble_eq_true rfl, Nat.le_of_ble_eq_true rfl⟩ (Or.inr ⟨by rw [hcd]; decide, by rw [hcd], rfl⟩)
  obtain ⟨y, rfl, ho⟩ := hv _ _ hp9
  refine pw_if_eq (pc := 7) hX 14 dL_complete_7 (by decide) (fun hc_1 => ?_) (fun hc_1 => ?_)
  · refine pw_lconst (pc := 14) (v := 0) hX dL_complete_14 (by decide) ?_
    refine pw_last (pc := 15) (j := 0) hX dL_complete_15 ho (by decide) (by decide) ?_
    have hm_2 : pw_up M9 ao (.inl (G.2.2.1 3, 1, .inr (.inl (vp_updL oL 0 0)))) ao = some (.inl (G.2.2.1 3, 1, .inr (.inl (vp_updL oL 0 0)))) := pw_us
    refine pw_goto (pc := 16) hX 25 dL_complete_16 (by decide) ?_
    refine pw_iconst (pc := 25) (v := 0) hX dL_complete_25 (by decide) ?_
    exact pw_iretx hX dL_complete_26 hrt ⟨Nat.le_of_ble_eq_true rfl, Nat.le_of_ble_eq_true rfl⟩ (Or.inl ⟨y, M9, hp9, rfl, by rw [if_pos hc_1]⟩)
  · refine pw_lconst (pc := 10) (v := 1) hX dL_complete_10 (by decide) ?_
    refine pw_goto (pc := 11) hX 15 dL_complete_11 (by decide) ?_
    refine pw_last (pc := 15) (j := 0) hX dL_complete_15 ho (by decide) (by decide) ?_
    have hm_3 : pw_up M9 ao (.inl (G.2.2.1 3, 1, .inr (.inl (vp_updL oL 0 1)))) ao = some (.inl (G.2.2.1 3, 1, .inr (.inl (vp_updL oL 0 1)))) := pw_us
    refine pw_goto (pc := 16) hX 25 dL_complete_16 (by decide) ?_
    refine pw_iconst (pc := 25) (v := 0) hX dL_complete_25 (by decide) ?_
    exact pw_iretx hX dL_complete_26 hrt ⟨Nat.le_of_ble_eq_true rfl, Nat.le_of_ble_eq_true rfl⟩ (Or.inl ⟨y, M9, hp9, rfl, by rw [if_neg hc_1]⟩)
set_option maxHeartbeats 4000000 in
set_option maxRecDepth 100000 in
theorem lc_release (l : Launch) (hl : l.stackTraces = false) (G : pw_G) (M : pw_M) (a ao : Nat) (p0 : Int32) (fs : List Value) (ha : M a = some (.inr (1, fs))) (oL : Nat → Int64) (cd : Int32) (PO : Option Value → pw_M → Prop) (hC : pw_XMet l yX1_release cX1_release 3 (some .boolean) 3 2 12 G [.ref a, .int p0] M PO (fun E9 M9 => M = M9 ∧ (E9 = "java/lang/ArrayIndexOutOfBoundsException" ∧ cd = 1 ∨ E9 = "java/lang/IllegalStateException" ∧ cd = 2))) (hv : ∀ v M1, PO v M1 → ∃ y, v = some (.int y) ∧ M1 ao = some (.inl (G.2.2.1 3, 1, .inr (.inl oL)))) : pw_HMet l yL_release cL_release 4 (some .int) [(0, 16, 19, 37), (0, 16, 22, 27)] 2 2 12 G [.ref a, .int p0, .ref ao] M (fun v9 M9 => (∃ y M1, PO (some (.int y)) M1 ∧ v9 = some (.int 0) ∧ M9 = pw_up M1 ao (.inl (G.2.2.1 3, 1, .inr (.inl (vp_updL oL 0 ((if y = 0 then 0 else 1))))))) ∨ (¬ cd = 0 ∧ v9 = some (.int cd) ∧ M = M9)) := by
  refine pw_ofh hl (by decide +kernel) (Nat.le_of_ble_eq_true rfl) [(0, .ref a), (1, .int p0), (2, .ref ao)] rfl ?_
  intro p9 e9 s9 m9 args9 below9 meth9 c9 hX hrt htb
  refine pw_aload_n (pc := 0) hX dL_release_0 2 rfl ?_
  refine pw_iconst (pc := 1) (v := 0) hX dL_release_1 (by decide) ?_
  refine pw_aload_n (pc := 2) hX dL_release_2 0 rfl ?_
  refine pw_iload_n (pc := 3) hX dL_release_3 1 rfl ?_
  refine pw_callVx (pc := 4) (st := [.int 0, .ref ao]) hX (hC) ha rfl ok_X1_release lk_RL_61 dL_release_4 rfl ⟨⟨by decide, by decide⟩, Nat.le_of_ble_eq_true rfl, Nat.le_of_ble_eq_true rfl, Nat.le_of_ble_eq_true rfl⟩ rfl (fun E9 M9 hx9 => ?_) (fun v9 M9 hp9 => ?_)
  · obtain ⟨rfl, h9⟩ := hx9
    rcases h9 with ⟨rfl, hcd⟩ | ⟨rfl, hcd⟩
    · refine pw_catch (name := "") hX [] ⟨0, 16, 19, 37⟩ [⟨0, 16, 22, 27⟩] htb (fun z hz => by cases hz) (by decide) (by decide) cw_RL_37 (by decide) (fun q => ?_)
      refine pw_astore_n (pc := 19) hX [(3, .ref q), (0, .ref a), (1, .int p0), (2, .ref ao)] dL_release_19 (by decide) rfl ?_
      refine pw_iconst (pc := 20) (v := 1) hX dL_release_20 (by decide) ?_
      exact pw_iretx hX dL_release_21 hrt ⟨Nat.le_of_ble_eq_true rfl, Nat.le_of_ble_eq_true rfl⟩ (Or.inr ⟨by rw [hcd]; decide, by rw [hcd], rfl⟩)
    · refine pw_catch (name := "") hX [⟨0, 16, 19, 37⟩] ⟨0, 16, 22, 27⟩ [] htb (List.forall_mem_cons.mpr ⟨Or.inr ⟨by decide, _, cw_RL_37, by decide⟩, fun z hz => by cases hz⟩) (by decide) (by decide) cw_RL_27 (by decide) (fun q => ?_)
      refine pw_astore_n (pc := 22) hX [(3, .ref q), (0, .ref a), (1, .int p0), (2, .ref ao)] dL_release_22 (by decide) rfl ?_
      refine pw_iconst (pc := 23) (v := 2) hX dL_release_23 (by decide) ?_
      exact pw_iretx hX dL_release_24 hrt ⟨Nat.le_of_ble_eq_true rfl, Nat.le_of_ble_eq_true rfl⟩ (Or.inr ⟨by rw [hcd]; decide, by rw [hcd], rfl⟩)
  obtain ⟨y, rfl, ho⟩ := hv _ _ hp9
  refine pw_if_eq (pc := 7) hX 14 dL_release_7 (by decide) (fun hc_1 => ?_) (fun hc_1 => ?_)
  · refine pw_lconst (pc := 14) (v := 0) hX dL_release_14 (by decide) ?_
    refine pw_last (pc := 15) (j := 0) hX dL_release_15 ho (by decide) (by decide) ?_
    have hm_2 : pw_up M9 ao (.inl (G.2.2.1 3, 1, .inr (.inl (vp_updL oL 0 0)))) ao = some (.inl (G.2.2.1 3, 1, .inr (.inl (vp_updL oL 0 0)))) := pw_us
    refine pw_goto (pc := 16) hX 25 dL_release_16 (by decide) ?_
    refine pw_iconst (pc := 25) (v := 0) hX dL_release_25 (by decide) ?_
    exact pw_iretx hX dL_release_26 hrt ⟨Nat.le_of_ble_eq_true rfl, Nat.le_of_ble_eq_true rfl⟩ (Or.inl ⟨y, M9, hp9, rfl, by rw [if_pos hc_1]⟩)
  · refine pw_lconst (pc := 10) (v := 1) hX dL_release_10 (by decide) ?_
    refine pw_goto (pc := 11) hX 15 dL_release_11 (by decide) ?_
    refine pw_last (pc := 15) (j := 0) hX dL_release_15 ho (by decide) (by decide) ?_
    have hm_3 : pw_up M9 ao (.inl (G.2.2.1 3, 1, .inr (.inl (vp_updL oL 0 1)))) ao = some (.inl (G.2.2.1 3, 1, .inr (.inl (vp_updL oL 0 1)))) := pw_us
    refine pw_goto (pc := 16) hX 25 dL_release_16 (by decide) ?_
    refine pw_iconst (pc := 25) (v := 0) hX dL_release_25 (by decide) ?_
    exact pw_iretx hX dL_release_26 hrt ⟨Nat.le_of_ble_eq_true rfl, Nat.le_of_ble_eq_true rfl⟩ (Or.inl ⟨y, M9, hp9, rfl, by rw [if_neg hc_1]⟩)
set_option maxHeartbeats 4000000 in
set_option maxRecDepth 100000 in
theorem lc_seed (l : Launch) (hl : l.stackTraces = false) (G : pw_G) (M : pw_M) (a : Nat) (p0 : Int32) (fs : List Value) (ha : M a = some (.inr (1, fs))) (cd : Int32) (PO : Option Value → pw_M → Prop) (hC : pw_XMet l yX1_seed cX1_seed 2 none 3 1 6 G [.ref a, .int p0] M PO (fun E9 M9 => M = M9 ∧ (E9 = "java/lang/IllegalArgumentException" ∧ cd = 1))) (hv : ∀ v M1, PO v M1 → v = none) : pw_HMet l yL_seed cL_seed 3 (some .int) [(0, 5, 8, 13)] 2 1 6 G [.ref a, .int p0] M (fun v9 M9 => (PO none M9 ∧ v9 = some (.int 0)) ∨ (¬ cd = 0 ∧ v9 = some (.int cd) ∧ M = M9)) := by
  refine pw_ofh hl (by decide +kernel) (Nat.le_of_ble_eq_true rfl) [(0, .ref a), (1, .int p0)] rfl ?_
  intro p9 e9 s9 m9 args9 below9 meth9 c9 hX hrt htb
  refine pw_aload_n (pc := 0) hX dL_seed_0 0 rfl ?_
  refine pw_iload_n (pc := 1) hX dL_seed_1 1 rfl ?_
  refine pw_callVx (pc := 2) (st := []) hX (hC) ha rfl ok_X1_seed lk_RL_64 dL_seed_2 rfl ⟨⟨by decide, by decide⟩, Nat.le_of_ble_eq_true rfl, Nat.le_of_ble_eq_true rfl, Nat.le_of_ble_eq_true rfl⟩ rfl (fun E9 M9 hx9 => ?_) (fun v9 M9 hp9 => ?_)
  · obtain ⟨rfl, h9⟩ := hx9
    rcases h9 with ⟨rfl, hcd⟩
    · refine pw_catch (name := "") hX [] ⟨0, 5, 8, 13⟩ [] htb (fun z hz => by cases hz) (by decide) (by decide) cw_RL_13 (by decide) (fun q => ?_)
      refine pw_astore_n (pc := 8) hX [(2, .ref q), (0, .ref a), (1, .int p0)] dL_seed_8 (by decide) rfl ?_
      refine pw_iconst (pc := 9) (v := 1) hX dL_seed_9 (by decide) ?_
      exact pw_iretx hX dL_seed_10 hrt ⟨Nat.le_of_ble_eq_true rfl, Nat.le_of_ble_eq_true rfl⟩ (Or.inr ⟨by rw [hcd]; decide, by rw [hcd], rfl⟩)
  cases hv _ _ hp9
  refine pw_goto (pc := 5) hX 11 dL_seed_5 (by decide) ?_
  refine pw_iconst (pc := 11) (v := 0) hX dL_seed_11 (by decide) ?_
  exact pw_iretx hX dL_seed_12 hrt ⟨Nat.le_of_ble_eq_true rfl, Nat.le_of_ble_eq_true rfl⟩ (Or.inl ⟨hp9, rfl⟩)
set_option maxHeartbeats 4000000 in
set_option maxRecDepth 100000 in
theorem lc_told (l : Launch) (hl : l.stackTraces = false) (G : pw_G) (M : pw_M) (a ao : Nat) (p0 p1 : Int32) (fs : List Value) (ha : M a = some (.inr (1, fs))) (oL : Nat → Int64) (cd : Int32) (PO : Option Value → pw_M → Prop) (hC : pw_XMet l yX1_told cX1_told 4 (some .int) 3 2 12 G [.ref a, .int p0, .int p1] M PO (fun E9 M9 => M = M9 ∧ (E9 = "java/util/NoSuchElementException" ∧ cd = 1 ∨ E9 = "java/lang/IllegalArgumentException" ∧ cd = 2))) (hv : ∀ v M1, PO v M1 → ∃ y, v = some (.int y) ∧ M1 ao = some (.inl (G.2.2.1 3, 1, .inr (.inl oL)))) : pw_HMet l yL_told cL_told 5 (some .int) [(0, 10, 13, 25), (0, 10, 17, 13)] 2 2 12 G [.ref a, .int p0, .int p1, .ref ao] M (fun v9 M9 => (∃ y M1, PO (some (.int y)) M1 ∧ v9 = some (.int 0) ∧ M9 = pw_up M1 ao (.inl (G.2.2.1 3, 1, .inr (.inl (vp_updL oL 0 (y.toInt64)))))) ∨ (¬ cd = 0 ∧ v9 = some (.int cd) ∧ M = M9)) := by
  refine pw_ofh hl (by decide +kernel) (Nat.le_of_ble_eq_true rfl) [(0, .ref a), (1, .int p0), (2, .int p1), (3, .ref ao)] rfl ?_
  intro p9 e9 s9 m9 args9 below9 meth9 c9 hX hrt htb
  refine pw_aload_n (pc := 0) hX dL_told_0 3 rfl ?_
  refine pw_iconst (pc := 1) (v := 0) hX dL_told_1 (by decide) ?_
  refine pw_aload_n (pc := 2) hX dL_told_2 0 rfl ?_
  refine pw_iload_n (pc := 3) hX dL_told_3 1 rfl ?_
  refine pw_iload_n (pc := 4) hX dL_told_4 2 rfl ?_
  refine pw_callVx (pc := 5) (st := [.int 0, .ref ao]) hX (hC) ha rfl ok_X1_told lk_RL_67 dL_told_5 rfl ⟨⟨by decide, by decide⟩, Nat.le_of_ble_eq_true rfl, Nat.le_of_ble_eq_true rfl, Nat.le_of_ble_eq_true rfl⟩ rfl (fun E9 M9 hx9 => ?_) (fun v9 M9 hp9 => ?_)
  · obtain ⟨rfl, h9⟩ := hx9
    rcases h9 with ⟨rfl, hcd⟩ | ⟨rfl, hcd⟩
    · refine pw_catch (name := "") hX [] ⟨0, 10, 13, 25⟩ [⟨0, 10, 17, 13⟩] htb (fun z hz => by cases hz) (by decide) (by decide) cw_RL_25 (by decide) (fun q => ?_)
      refine pw_astore (pc := 13) hX [(4, .ref q), (0, .ref a), (1, .int p0), (2, .int p1), (3, .ref ao)] dL_told_13 (by decide) rfl ?_
      refine pw_iconst (pc := 15) (v := 1) hX dL_told_15 (by decide) ?_
      exact pw_iretx hX dL_told_16 hrt ⟨Nat.le_of_ble_eq_true rfl, Nat.le_of_ble_eq_true rfl⟩ (Or.inr ⟨by rw [hcd]; decide, by rw [hcd], rfl⟩)
    · refine pw_catch (name := "") hX [⟨0, 10, 13, 25⟩] ⟨0, 10, 17, 13⟩ [] htb (List.forall_mem_cons.mpr ⟨Or.inr ⟨by decide, _, cw_RL_25, by decide⟩, fun z hz => by cases hz⟩) (by decide) (by decide) cw_RL_13 (by decide) (fun q => ?_)
      refine pw_astore (pc := 17) hX [(4, .ref q), (0, .ref a), (1, .int p0), (2, .int p1), (3, .ref ao)] dL_told_17 (by decide) rfl ?_
      refine pw_iconst (pc := 19) (v := 2) hX dL_told_19 (by decide) ?_
      exact pw_iretx hX dL_told_20 hrt ⟨Nat.le_of_ble_eq_true rfl, Nat.le_of_ble_eq_true rfl⟩ (Or.inr ⟨by rw [hcd]; decide, by rw [hcd], rfl⟩)
  obtain ⟨y, rfl, ho⟩ := hv _ _ hp9
  refine pw_i2l (pc := 8) (v := y.toInt64) hX dL_told_8 rfl ?_
  refine pw_last (pc := 9) (j := 0) hX dL_told_9 ho (by decide) (by decide) ?_
  have hm_1 : pw_up M9 ao (.inl (G.2.2.1 3, 1, .inr (.inl (vp_updL oL 0 y.toInt64)))) ao = some (.inl (G.2.2.1 3, 1, .inr (.inl (vp_updL oL 0 y.toInt64)))) := pw_us
  refine pw_goto (pc := 10) hX 21 dL_told_10 (by decide) ?_
  refine pw_iconst (pc := 21) (v := 0) hX dL_told_21 (by decide) ?_
  exact pw_iretx hX dL_told_22 hrt ⟨Nat.le_of_ble_eq_true rfl, Nat.le_of_ble_eq_true rfl⟩ (Or.inl ⟨y, M9, hp9, rfl, rfl⟩)
set_option maxHeartbeats 4000000 in
set_option maxRecDepth 100000 in
theorem lc_piece (l : Launch) (hl : l.stackTraces = false) (G : pw_G) (M : pw_M) (a ao : Nat) (p0 p1 p2 : Int32) (fs : List Value) (ha : M a = some (.inr (1, fs))) (oL : Nat → Int64) (cd : Int32) (PO : Option Value → pw_M → Prop) (hC : pw_XMet l yX1_piece cX1_piece 5 (some .int) 3 4 24 G [.ref a, .int p0, .int p1, .int p2] M PO (fun E9 M9 => M = M9 ∧ (E9 = "java/util/NoSuchElementException" ∧ cd = 1 ∨ E9 = "java/lang/IllegalArgumentException" ∧ cd = 2))) (hv : ∀ v M1, PO v M1 → ∃ y, v = some (.int y) ∧ M1 ao = some (.inl (G.2.2.1 3, 1, .inr (.inl oL)))) : pw_HMet l yL_piece cL_piece 6 (some .int) [(0, 12, 15, 25), (0, 12, 19, 13)] 2 4 24 G [.ref a, .int p0, .int p1, .int p2, .ref ao] M (fun v9 M9 => (∃ y M1, PO (some (.int y)) M1 ∧ v9 = some (.int 0) ∧ M9 = pw_up M1 ao (.inl (G.2.2.1 3, 1, .inr (.inl (vp_updL oL 0 (y.toInt64)))))) ∨ (¬ cd = 0 ∧ v9 = some (.int cd) ∧ M = M9)) := by
  refine pw_ofh hl (by decide +kernel) (Nat.le_of_ble_eq_true rfl) [(0, .ref a), (1, .int p0), (2, .int p1), (3, .int p2), (4, .ref ao)] rfl ?_
  intro p9 e9 s9 m9 args9 below9 meth9 c9 hX hrt htb
  refine pw_aload (pc := 0) hX dL_piece_0 4 rfl ?_
  refine pw_iconst (pc := 2) (v := 0) hX dL_piece_2 (by decide) ?_
  refine pw_aload_n (pc := 3) hX dL_piece_3 0 rfl ?_
  refine pw_iload_n (pc := 4) hX dL_piece_4 1 rfl ?_
  refine pw_iload_n (pc := 5) hX dL_piece_5 2 rfl ?_
  refine pw_iload_n (pc := 6) hX dL_piece_6 3 rfl ?_
  refine pw_callVx (pc := 7) (st := [.int 0, .ref ao]) hX (hC) ha rfl ok_X1_piece lk_RL_70 dL_piece_7 rfl ⟨⟨by decide, by decide⟩, Nat.le_of_ble_eq_true rfl, Nat.le_of_ble_eq_true rfl, Nat.le_of_ble_eq_true rfl⟩ rfl (fun E9 M9 hx9 => ?_) (fun v9 M9 hp9 => ?_)
  · obtain ⟨rfl, h9⟩ := hx9
    rcases h9 with ⟨rfl, hcd⟩ | ⟨rfl, hcd⟩
    · refine pw_catch (name := "") hX [] ⟨0, 12, 15, 25⟩ [⟨0, 12, 19, 13⟩] htb (fun z hz => by cases hz) (by decide) (by decide) cw_RL_25 (by decide) (fun q => ?_)
      refine pw_astore (pc := 15) hX [(5, .ref q), (0, .ref a), (1, .int p0), (2, .int p1), (3, .int p2), (4, .ref ao)] dL_piece_15 (by decide) rfl ?_
      refine pw_iconst (pc := 17) (v := 1) hX dL_piece_17 (by decide) ?_
      exact pw_iretx hX dL_piece_18 hrt ⟨Nat.le_of_ble_eq_true rfl, Nat.le_of_ble_eq_true rfl⟩ (Or.inr ⟨by rw [hcd]; decide, by rw [hcd], rfl⟩)
    · refine pw_catch (name := "") hX [⟨0, 12, 15, 25⟩] ⟨0, 12, 19, 13⟩ [] htb (List.forall_mem_cons.mpr ⟨Or.inr ⟨by decide, _, cw_RL_25, by decide⟩, fun z hz => by cases hz⟩) (by decide) (by decide) cw_RL_13 (by decide) (fun q => ?_)
      refine pw_astore (pc := 19) hX [(5, .ref q), (0, .ref a), (1, .int p0), (2, .int p1), (3, .int p2), (4, .ref ao)] dL_piece_19 (by decide) rfl ?_
      refine pw_iconst (pc := 21) (v := 2) hX dL_piece_21 (by decide) ?_
      exact pw_iretx hX dL_piece_22 hrt ⟨Nat.le_of_ble_eq_true rfl, Nat.le_of_ble_eq_true rfl⟩ (Or.inr ⟨by rw [hcd]; decide, by rw [hcd], rfl⟩)
  obtain ⟨y, rfl, ho⟩ := hv _ _ hp9
  refine pw_i2l (pc := 10) (v := y.toInt64) hX dL_piece_10 rfl ?_
  refine pw_last (pc := 11) (j := 0) hX dL_piece_11 ho (by decide) (by decide) ?_
  have hm_1 : pw_up M9 ao (.inl (G.2.2.1 3, 1, .inr (.inl (vp_updL oL 0 y.toInt64)))) ao = some (.inl (G.2.2.1 3, 1, .inr (.inl (vp_updL oL 0 y.toInt64)))) := pw_us
  refine pw_goto (pc := 12) hX 23 dL_piece_12 (by decide) ?_
  refine pw_iconst (pc := 23) (v := 0) hX dL_piece_23 (by decide) ?_
  exact pw_iretx hX dL_piece_24 hrt ⟨Nat.le_of_ble_eq_true rfl, Nat.le_of_ble_eq_true rfl⟩ (Or.inl ⟨y, M9, hp9, rfl, rfl⟩)
set_option maxHeartbeats 4000000 in
set_option maxRecDepth 100000 in
theorem lc_errors (l : Launch) (hl : l.stackTraces = false) (G : pw_G) (M : pw_M) (a ao : Nat) (p0 : Int32) (fs : List Value) (ha : M a = some (.inr (1, fs))) (oL : Nat → Int64) (cd : Int32) (PO : Option Value → pw_M → Prop) (hC : pw_XMet l yX1_errors cX1_errors 2 (some .int) 3 1 6 G [.ref a, .int p0] M PO (fun E9 M9 => M = M9 ∧ (E9 = "java/lang/IllegalArgumentException" ∧ cd = 1))) (hv : ∀ v M1, PO v M1 → ∃ y, v = some (.int y) ∧ M1 ao = some (.inl (G.2.2.1 3, 1, .inr (.inl oL)))) : pw_HMet l yL_errors cL_errors 4 (some .int) [(0, 9, 12, 13)] 2 1 6 G [.ref a, .int p0, .ref ao] M (fun v9 M9 => (∃ y M1, PO (some (.int y)) M1 ∧ v9 = some (.int 0) ∧ M9 = pw_up M1 ao (.inl (G.2.2.1 3, 1, .inr (.inl (vp_updL oL 0 (y.toInt64)))))) ∨ (¬ cd = 0 ∧ v9 = some (.int cd) ∧ M = M9)) := by
  refine pw_ofh hl (by decide +kernel) (Nat.le_of_ble_eq_true rfl) [(0, .ref a), (1, .int p0), (2, .ref ao)] rfl ?_
  intro p9 e9 s9 m9 args9 below9 meth9 c9 hX hrt htb
  refine pw_aload_n (pc := 0) hX dL_errors_0 2 rfl ?_
  refine pw_iconst (pc := 1) (v := 0) hX dL_errors_1 (by decide) ?_
  refine pw_aload_n (pc := 2) hX dL_errors_2 0 rfl ?_
  refine pw_iload_n (pc := 3) hX dL_errors_3 1 rfl ?_
  refine pw_callVx (pc := 4) (st := [.int 0, .ref ao]) hX (hC) ha rfl ok_X1_errors lk_RL_73 dL_errors_4 rfl ⟨⟨by decide, by decide⟩, Nat.le_of_ble_eq_true rfl, Nat.le_of_ble_eq_true rfl, Nat.le_of_ble_eq_true rfl⟩ rfl (fun E9 M9 hx9 => ?_) (fun v9 M9 hp9 => ?_)
  · obtain ⟨rfl, h9⟩ := hx9
    rcases h9 with ⟨rfl, hcd⟩
    · refine pw_catch (name := "") hX [] ⟨0, 9, 12, 13⟩ [] htb (fun z hz => by cases hz) (by decide) (by decide) cw_RL_13 (by decide) (fun q => ?_)
      refine pw_astore_n (pc := 12) hX [(3, .ref q), (0, .ref a), (1, .int p0), (2, .ref ao)] dL_errors_12 (by decide) rfl ?_
      refine pw_iconst (pc := 13) (v := 1) hX dL_errors_13 (by decide) ?_
      exact pw_iretx hX dL_errors_14 hrt ⟨Nat.le_of_ble_eq_true rfl, Nat.le_of_ble_eq_true rfl⟩ (Or.inr ⟨by rw [hcd]; decide, by rw [hcd], rfl⟩)
  obtain ⟨y, rfl, ho⟩ := hv _ _ hp9
  refine pw_i2l (pc := 7) (v := y.toInt64) hX dL_errors_7 rfl ?_
  refine pw_last (pc := 8) (j := 0) hX dL_errors_8 ho (by decide) (by decide) ?_
  have hm_1 : pw_up M9 ao (.inl (G.2.2.1 3, 1, .inr (.inl (vp_updL oL 0 y.toInt64)))) ao = some (.inl (G.2.2.1 3, 1, .inr (.inl (vp_updL oL 0 y.toInt64)))) := pw_us
  refine pw_goto (pc := 9) hX 15 dL_errors_9 (by decide) ?_
  refine pw_iconst (pc := 15) (v := 0) hX dL_errors_15 (by decide) ?_
  exact pw_iretx hX dL_errors_16 hrt ⟨Nat.le_of_ble_eq_true rfl, Nat.le_of_ble_eq_true rfl⟩ (Or.inl ⟨y, M9, hp9, rfl, rfl⟩)
set_option maxHeartbeats 4000000 in
set_option maxRecDepth 100000 in
theorem lc_read (l : Launch) (hl : l.stackTraces = false) (G : pw_G) (M : pw_M) (hLn : G.2.2.2.2.1 < 2 ^ 31) : pw_Met l yL_cell cL_cell 2 (some .int) 2 0 0 G [.ref G.2.2.2.1, .int 0] M (fun v9 M9 => v9 = some (.int (if 0 < G.2.2.2.2.1 then G.2.2.2.2.2 0 else 0)) ∧ M = M9) := by
  refine pw_of hl (by decide +kernel) (Nat.le_of_ble_eq_true rfl) [(0, .ref G.2.2.2.1), (1, .int 0)] rfl ?_
  intro p9 e9 s9 m9 args9 below9 meth9 c9 hX hrt hmi
  refine pw_iload_n (pc := 0) hX dL_cell_0 1 rfl ?_
  refine pw_aload_n (pc := 1) hX dL_cell_1 0 rfl ?_
  refine pw_slen (pc := 2) hX dL_cell_2 rfl ?_
  refine pw_icmp_ge (pc := 3) hX 12 dL_cell_3 (by decide) (fun hc_1 => ?_) (fun hc_1 => ?_)
  · have h0 : ¬ 0 < G.2.2.2.2.1 := fun h => absurd (nI_lt (a := 0) h hLn) (Int32.not_lt.mpr hc_1)
    refine pw_iconst (pc := 12) (v := 0) hX dL_cell_12 (by decide) ?_
    exact pw_iret hX dL_cell_13 hrt ⟨Nat.le_refl _, Nat.le_refl _⟩ ⟨by rw [if_neg h0], rfl⟩
  · have h0 : 0 < G.2.2.2.2.1 := (nI_ltI (a := 0) (by decide) hLn).mp (Int32.not_le.mp hc_1)
    refine pw_aload_n (pc := 6) hX dL_cell_6 0 rfl ?_
    refine pw_iload_n (pc := 7) hX dL_cell_7 1 rfl ?_
    refine pw_sld (pc := 8) (j := 0) hX dL_cell_8 h0 hLn ?_
    refine pw_goto (pc := 9) hX 13 dL_cell_9 (by decide) ?_
    exact pw_iret hX dL_cell_13 hrt ⟨Nat.le_refl _, Nat.le_refl _⟩ ⟨by rw [if_pos h0], rfl⟩
