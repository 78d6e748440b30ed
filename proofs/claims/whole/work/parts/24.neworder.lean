/-- new addresses lie above the old ones -/
def ab (M : pw_M) (q : Nat) : Prop := ∀ (b : Nat) (e : va_E), M b = some e → b < q
/-- all cells but the one at a stay -/
def kp (a : Nat) (M M9 : pw_M) : Prop := ∀ (b : Nat) (e : va_E), M b = some e → b ≠ a → M9 b = some e
theorem kp_rf {a : Nat} {M : pw_M} : kp a M M := fun _ _ h _ => h
theorem kp_up {a : Nat} {M M9 : pw_M} (h : kp a M M9) (e : va_E) : kp a M (pw_up M9 a e) := fun b e1 h1 h2 => pw_ke (h b e1 h1 h2) h2
theorem kp_new {G : pw_G} {a q : Nat} {M M9 : pw_M} (h : kp a M M9) (hf : pw_fr G M9 q) (e : va_E) : kp a M (pw_up M9 q e) := fun b e1 h1 h2 => pw_ke (h b e1 h1 h2) (pw_fr.ne hf (h b e1 h1 h2))
theorem ab_of {G : pw_G} {a q : Nat} {M M9 : pw_M} {e : va_E} (h : kp a M M9) (hf : pw_fr G M9 q) (ha : M9 a = some e) : ab M q := fun b e1 h1 => by
  by_cases hb : b = a
  · subst hb; exact hf.2 _ _ ha
  · exact hf.2 _ _ (h b e1 h1 hb)
set_option maxHeartbeats 4000000 in
set_option maxRecDepth 100000 in
theorem ct_oinit (l : Launch) (hl : l.stackTraces = false) (G : pw_G) (M : pw_M) (a : Nat) (num : Int32) (ha : M a = some (.inr (0, [.int 0, .int 0, .int 0, .null, .null, .null]))) : pw_Met l yX0_init cX0_init 2 none 5 3 30 G [.ref a, .int num] M (fun v9 M9 => v9 = none ∧ ∃ (aw ap ae : Nat) (f9 : Nat → Int32), od_at G M9 a aw ap ae num 0 (-1) (fun _ => 0) (fun _ => 0) f9 ∧ (∀ g, g < 10 → f9 g = -1) ∧ ab M aw ∧ a < aw ∧ aw < ap ∧ ap < ae ∧ kp a M M9) := by
  refine pw_of hl (by decide +kernel) (Nat.le_of_ble_eq_true rfl) [(0, .ref a), (1, .int num)] rfl ?_
  intro p9 e9 s9 m9 args9 below9 meth9 c9 hX hrt hmi
  refine pw_aload_n (pc := 0) hX dX0_init_0 0 rfl ?_
  refine pw_objInit (pc := 1) hX dX0_init_1 oi_RX0_3 ⟨by decide, Nat.le_of_ble_eq_true rfl⟩ ?_
  refine pw_aload_n (pc := 4) hX dX0_init_4 0 rfl ?_
  refine pw_iconst (pc := 5) (v := 0) hX dX0_init_5 (by decide) ?_
  refine pw_put (pc := 6) (v := .int 0) hX dX0_init_6 ha rfl inT_0 tyX0 tyX0_ok nmX0 1 (by decide) fl_RX0_9 rfl (tyX0_ok 1 (by decide)) rfl rfl (Nat.le_of_ble_eq_true rfl) [.int 0, .int 0, .int 0, .null, .null, .null] rfl ?_
  have hm_1 : pw_up M a (.inr (0, [.int 0, .int 0, .int 0, .null, .null, .null])) a = some (.inr (0, [.int 0, .int 0, .int 0, .null, .null, .null])) := pw_us
  refine pw_aload_n (pc := 9) hX dX0_init_9 0 rfl ?_
  refine pw_iconst (pc := 10) (v := (-1)) hX dX0_init_10 (by decide) ?_
  refine pw_put (pc := 11) (v := .int ((-1))) hX dX0_init_11 hm_1 rfl inT_0 tyX0 tyX0_ok nmX0 2 (by decide) fl_RX0_15 rfl (tyX0_ok 2 (by decide)) rfl rfl (Nat.le_of_ble_eq_true rfl) [.int 0, .int 0, .int ((-1)), .null, .null, .null] rfl ?_
  have hm_2 : pw_up (pw_up M a (.inr (0, [.int 0, .int 0, .int 0, .null, .null, .null]))) a (.inr (0, [.int 0, .int 0, .int ((-1)), .null, .null, .null])) a = some (.inr (0, [.int 0, .int 0, .int ((-1)), .null, .null, .null])) := pw_us
  refine pw_aload_n (pc := 14) hX dX0_init_14 0 rfl ?_
  refine pw_bipush (pc := 15) (v := 10) hX dX0_init_15 (by decide) ?_
  refine pw_newi (pc := 17) (n := 10) hX dX0_init_17 ac_int (by decide) (Nat.le_of_ble_eq_true rfl) (Nat.le_of_ble_eq_true rfl) (fun q_3 hf_q_3 => ?_)
  have ha1 : a < q_3 := hf_q_3.2 _ _ hm_2
  have hab : ab M q_3 := ab_of (a := a) (kp_up (kp_up kp_rf _) _) hf_q_3 hm_2
  have hm_4 := pw_ke (a := q_3) (e := .inl (G.2.2.1 0, 10, .inl (fun _ => 0))) hm_2 (pw_fr.ne hf_q_3 hm_2)
  have hm_5 : pw_up (pw_up (pw_up M a (.inr (0, [.int 0, .int 0, .int 0, .null, .null, .null]))) a (.inr (0, [.int 0, .int 0, .int ((-1)), .null, .null, .null]))) q_3 (.inl (G.2.2.1 0, 10, .inl (fun _ => 0))) q_3 = some (.inl (G.2.2.1 0, 10, .inl (fun _ => 0))) := pw_us
  refine pw_putF (pc := 19) (v := .ref q_3) hX dX0_init_19 hm_4 rfl inT_0 tyX0 tyX0_ok nmX0 3 (by decide) fl_RX0_18 rfl hmi rfl (tyX0_ok 3 (by decide)) rfl rfl (Nat.le_of_ble_eq_true rfl) [.int 0, .int 0, .int ((-1)), .ref q_3, .null, .null] rfl ?_
  have hm_6 := pw_ke (a := a) (e := .inr (0, [.int 0, .int 0, .int ((-1)), .ref q_3, .null, .null])) hm_5 (by omega)
  have hm_7 : pw_up (pw_up (pw_up (pw_up M a (.inr (0, [.int 0, .int 0, .int 0, .null, .null, .null]))) a (.inr (0, [.int 0, .int 0, .int ((-1)), .null, .null, .null]))) q_3 (.inl (G.2.2.1 0, 10, .inl (fun _ => 0)))) a (.inr (0, [.int 0, .int 0, .int ((-1)), .ref q_3, .null, .null])) a = some (.inr (0, [.int 0, .int 0, .int ((-1)), .ref q_3, .null, .null])) := pw_us
  refine pw_aload_n (pc := 22) hX dX0_init_22 0 rfl ?_
  refine pw_bipush (pc := 23) (v := 10) hX dX0_init_23 (by decide) ?_
  refine pw_newi (pc := 25) (n := 10) hX dX0_init_25 ac_int (by decide) (Nat.le_of_ble_eq_true rfl) (Nat.le_of_ble_eq_true rfl) (fun q_8 hf_q_8 => ?_)
  have h12 : q_3 < q_8 := hf_q_8.2 _ _ hm_6
  have hm_9 := pw_ke (a := q_8) (e := .inl (G.2.2.1 0, 10, .inl (fun _ => 0))) hm_7 (pw_fr.ne hf_q_8 hm_7)
  have hm_10 := pw_ke (a := q_8) (e := .inl (G.2.2.1 0, 10, .inl (fun _ => 0))) hm_6 (pw_fr.ne hf_q_8 hm_6)
  have hm_11 : pw_up (pw_up (pw_up (pw_up (pw_up M a (.inr (0, [.int 0, .int 0, .int 0, .null, .null, .null]))) a (.inr (0, [.int 0, .int 0, .int ((-1)), .null, .null, .null]))) q_3 (.inl (G.2.2.1 0, 10, .inl (fun _ => 0)))) a (.inr (0, [.int 0, .int 0, .int ((-1)), .ref q_3, .null, .null]))) q_8 (.inl (G.2.2.1 0, 10, .inl (fun _ => 0))) q_8 = some (.inl (G.2.2.1 0, 10, .inl (fun _ => 0))) := pw_us
  refine pw_putF (pc := 27) (v := .ref q_8) hX dX0_init_27 hm_9 rfl inT_0 tyX0 tyX0_ok nmX0 4 (by decide) fl_RX0_22 rfl hmi rfl (tyX0_ok 4 (by decide)) rfl rfl (Nat.le_of_ble_eq_true rfl) [.int 0, .int 0, .int ((-1)), .ref q_3, .ref q_8, .null] rfl ?_
  have hm_12 := pw_ke (a := a) (e := .inr (0, [.int 0, .int 0, .int ((-1)), .ref q_3, .ref q_8, .null])) hm_10 (by omega)
  have hm_13 := pw_ke (a := a) (e := .inr (0, [.int 0, .int 0, .int ((-1)), .ref q_3, .ref q_8, .null])) hm_11 (by omega)
  have hm_14 : pw_up (pw_up (pw_up (pw_up (pw_up (pw_up M a (.inr (0, [.int 0, .int 0, .int 0, .null, .null, .null]))) a (.inr (0, [.int 0, .int 0, .int ((-1)), .null, .null, .null]))) q_3 (.inl (G.2.2.1 0, 10, .inl (fun _ => 0)))) a (.inr (0, [.int 0, .int 0, .int ((-1)), .ref q_3, .null, .null]))) q_8 (.inl (G.2.2.1 0, 10, .inl (fun _ => 0)))) a (.inr (0, [.int 0, .int 0, .int ((-1)), .ref q_3, .ref q_8, .null])) a = some (.inr (0, [.int 0, .int 0, .int ((-1)), .ref q_3, .ref q_8, .null])) := pw_us
  refine pw_aload_n (pc := 30) hX dX0_init_30 0 rfl ?_
  refine pw_bipush (pc := 31) (v := 10) hX dX0_init_31 (by decide) ?_
  refine pw_newi (pc := 33) (n := 10) hX dX0_init_33 ac_int (by decide) (Nat.le_of_ble_eq_true rfl) (Nat.le_of_ble_eq_true rfl) (fun q_15 hf_q_15 => ?_)
  have h23 : q_8 < q_15 := hf_q_15.2 _ _ hm_13
  have hm_16 := pw_ke (a := q_15) (e := .inl (G.2.2.1 0, 10, .inl (fun _ => 0))) hm_14 (pw_fr.ne hf_q_15 hm_14)
  have hm_17 := pw_ke (a := q_15) (e := .inl (G.2.2.1 0, 10, .inl (fun _ => 0))) hm_12 (pw_fr.ne hf_q_15 hm_12)
  have hm_18 := pw_ke (a := q_15) (e := .inl (G.2.2.1 0, 10, .inl (fun _ => 0))) hm_13 (pw_fr.ne hf_q_15 hm_13)
  have hm_19 : pw_up (pw_up (pw_up (pw_up (pw_up (pw_up (pw_up M a (.inr (0, [.int 0, .int 0, .int 0, .null, .null, .null]))) a (.inr (0, [.int 0, .int 0, .int ((-1)), .null, .null, .null]))) q_3 (.inl (G.2.2.1 0, 10, .inl (fun _ => 0)))) a (.inr (0, [.int 0, .int 0, .int ((-1)), .ref q_3, .null, .null]))) q_8 (.inl (G.2.2.1 0, 10, .inl (fun _ => 0)))) a (.inr (0, [.int 0, .int 0, .int ((-1)), .ref q_3, .ref q_8, .null]))) q_15 (.inl (G.2.2.1 0, 10, .inl (fun _ => 0))) q_15 = some (.inl (G.2.2.1 0, 10, .inl (fun _ => 0))) := pw_us
  refine pw_putF (pc := 35) (v := .ref q_15) hX dX0_init_35 hm_16 rfl inT_0 tyX0 tyX0_ok nmX0 5 (by decide) fl_RX0_25 rfl hmi rfl (tyX0_ok 5 (by decide)) rfl rfl (Nat.le_of_ble_eq_true rfl) [.int 0, .int 0, .int ((-1)), .ref q_3, .ref q_8, .ref q_15] rfl ?_
  have hm_20 := pw_ke (a := a) (e := .inr (0, [.int 0, .int 0, .int ((-1)), .ref q_3, .ref q_8, .ref q_15])) hm_17 (by omega)
  have hm_21 := pw_ke (a := a) (e := .inr (0, [.int 0, .int 0, .int ((-1)), .ref q_3, .ref q_8, .ref q_15])) hm_18 (by omega)
  have hm_22 := pw_ke (a := a) (e := .inr (0, [.int 0, .int 0, .int ((-1)), .ref q_3, .ref q_8, .ref q_15])) hm_19 (by omega)
  have hm_23 : pw_up (pw_up (pw_up (pw_up (pw_up (pw_up (pw_up (pw_up M a (.inr (0, [.int 0, .int 0, .int 0, .null, .null, .null]))) a (.inr (0, [.int 0, .int 0, .int ((-1)), .null, .null, .null]))) q_3 (.inl (G.2.2.1 0, 10, .inl (fun _ => 0)))) a (.inr (0, [.int 0, .int 0, .int ((-1)), .ref q_3, .null, .null]))) q_8 (.inl (G.2.2.1 0, 10, .inl (fun _ => 0)))) a (.inr (0, [.int 0, .int 0, .int ((-1)), .ref q_3, .ref q_8, .null]))) q_15 (.inl (G.2.2.1 0, 10, .inl (fun _ => 0)))) a (.inr (0, [.int 0, .int 0, .int ((-1)), .ref q_3, .ref q_8, .ref q_15])) a = some (.inr (0, [.int 0, .int 0, .int ((-1)), .ref q_3, .ref q_8, .ref q_15])) := pw_us
  refine pw_aload_n (pc := 38) hX dX0_init_38 0 rfl ?_
  refine pw_iload_n (pc := 39) hX dX0_init_39 1 rfl ?_
  refine pw_putF (pc := 40) (v := .int num) hX dX0_init_40 hm_23 rfl inT_0 tyX0 tyX0_ok nmX0 0 (by decide) fl_RX0_28 rfl hmi rfl (tyX0_ok 0 (by decide)) rfl rfl (Nat.le_of_ble_eq_true rfl) [.int num, .int 0, .int ((-1)), .ref q_3, .ref q_8, .ref q_15] rfl ?_
  have hm_24 := pw_ke (a := a) (e := .inr (0, [.int num, .int 0, .int ((-1)), .ref q_3, .ref q_8, .ref q_15])) hm_20 (by omega)
  have hm_25 := pw_ke (a := a) (e := .inr (0, [.int num, .int 0, .int ((-1)), .ref q_3, .ref q_8, .ref q_15])) hm_21 (by omega)
  have hm_26 := pw_ke (a := a) (e := .inr (0, [.int num, .int 0, .int ((-1)), .ref q_3, .ref q_8, .ref q_15])) hm_22 (by omega)
  have hm_27 : pw_up (pw_up (pw_up (pw_up (pw_up (pw_up (pw_up (pw_up (pw_up M a (.inr (0, [.int 0, .int 0, .int 0, .null, .null, .null]))) a (.inr (0, [.int 0, .int 0, .int ((-1)), .null, .null, .null]))) q_3 (.inl (G.2.2.1 0, 10, .inl (fun _ => 0)))) a (.inr (0, [.int 0, .int 0, .int ((-1)), .ref q_3, .null, .null]))) q_8 (.inl (G.2.2.1 0, 10, .inl (fun _ => 0)))) a (.inr (0, [.int 0, .int 0, .int ((-1)), .ref q_3, .ref q_8, .null]))) q_15 (.inl (G.2.2.1 0, 10, .inl (fun _ => 0)))) a (.inr (0, [.int 0, .int 0, .int ((-1)), .ref q_3, .ref q_8, .ref q_15]))) a (.inr (0, [.int num, .int 0, .int ((-1)), .ref q_3, .ref q_8, .ref q_15])) a = some (.inr (0, [.int num, .int 0, .int ((-1)), .ref q_3, .ref q_8, .ref q_15])) := pw_us
  refine pw_aload_n (pc := 43) hX dX0_init_43 0 rfl ?_
  refine pw_get (pc := 44) hX dX0_init_44 hm_27 rfl inT_0 5 (by decide) fl_RX0_25 rfl ?_
  refine pw_iconst (pc := 47) (v := (-1)) hX dX0_init_47 (by decide) ?_
  refine pw_callS (pc := 48) (st := []) hX (ct_fill l hl G (pw_up (pw_up (pw_up (pw_up (pw_up (pw_up (pw_up (pw_up (pw_up M a (.inr (0, [.int 0, .int 0, .int 0, .null, .null, .null]))) a (.inr (0, [.int 0, .int 0, .int ((-1)), .null, .null, .null]))) q_3 (.inl (G.2.2.1 0, 10, .inl (fun _ => 0)))) a (.inr (0, [.int 0, .int 0, .int ((-1)), .ref q_3, .null, .null]))) q_8 (.inl (G.2.2.1 0, 10, .inl (fun _ => 0)))) a (.inr (0, [.int 0, .int 0, .int ((-1)), .ref q_3, .ref q_8, .null]))) q_15 (.inl (G.2.2.1 0, 10, .inl (fun _ => 0)))) a (.inr (0, [.int 0, .int 0, .int ((-1)), .ref q_3, .ref q_8, .ref q_15]))) a (.inr (0, [.int num, .int 0, .int ((-1)), .ref q_3, .ref q_8, .ref q_15]))) q_15 10 (fun _ => 0) hm_26 (by decide) (-1)) ok_J7_fill_53178 lk_RX0_31 dX0_init_48 rfl ⟨⟨by decide, by decide⟩, Nat.le_of_ble_eq_true rfl, Nat.le_of_ble_eq_true rfl, Nat.le_of_ble_eq_true rfl⟩ rfl (fun v9 M9 hp9 => ?_)
  obtain ⟨rfl, f9, hf9, h9, ho9⟩ := hp9
  have hm_28 := (ho9 a (by omega)).trans hm_27
  have hm_29 := (ho9 q_3 (by omega)).trans hm_24
  have hm_30 := (ho9 q_8 (by omega)).trans hm_25
  exact pw_vret hX dX0_init_51 hrt ⟨by decide, by decide⟩ ⟨rfl, q_3, q_8, q_15, f9, ⟨hm_28, hm_29, hm_30, h9⟩, hf9, hab, ha1, h12, h23, fun b e1 h1 h2 => (ho9 b (by have := hab b e1 h1; omega)).trans ((kp_up (kp_up (kp_new (kp_up (kp_new (kp_up (kp_new (kp_up (kp_up kp_rf _) _) hf_q_3 _) _) hf_q_8 _) _) hf_q_15 _) _) _) b e1 h1 h2)⟩
def ad_n (ad : Nat → Nat) (oc a aw ap ae : Nat) : Nat → Nat := fun x => if x < 6 + 4 * oc then ad x else if x = 6 + 4 * oc then a else if x = 7 + 4 * oc then aw else if x = 8 + 4 * oc then ap else ae
section CWN
variable {G : pw_G} {ad : Nat → Nat} {n oc : Nat} {td sd : Int32} {dk to er : Nat → Int32} {os pl : Nat → Int32} {oo : Nat → Option Nat} {wa pr de : Nat → Nat → Int32} {M : pw_M}
theorem cw_new {M9 : pw_M} {a aw ap ae : Nat} {f : Nat → Int32} (h : cw G ad n oc td sd dk to er os pl oo wa pr de M) (hoc : oc < 20)
    (hk : ∀ (b : Nat) (e : va_E), M b = some e → b ≠ ad 0 → b ≠ ad 1 → M9 b = some e)
    (h0 : M9 (ad 0) = some (.inr (1, [.ref (ad 1), .int (nI (oc + 1)), .ref (ad 2), .ref (ad 3), .ref (ad 4), .ref (ad 5), .int td, .int sd])))
    (h1 : M9 (ad 1) = some (.inl (G.2.2.1 2, 20, .inr (.inr (.inr (.inr (va_up (fun i => if i < oc then some (ad (6 + 4 * i)) else none) oc (some a))))))))
    (ho : od_at G M9 a aw ap ae (nI oc) 0 (-1) (fun _ => 0) (fun _ => 0) f) (hab : ab M a) (ha : a < aw) (hb : aw < ap) (hd : ap < ae) :
    cw G (ad_n ad oc a aw ap ae) n (oc + 1) td sd dk to er (va_up os oc 0) (va_up pl oc (-1)) oo (va_up wa oc (fun _ => 0)) (va_up pr oc (fun _ => 0)) (va_up de oc f) M9 := by
  have e : ∀ x, x < 6 + 4 * oc → ad_n ad oc a aw ap ae x = ad x := fun x hx => if_pos hx
  have e6 : ad_n ad oc a aw ap ae (6 + 4 * oc) = a := by unfold ad_n; rw [if_neg (by omega), if_pos rfl]
  have e7 : ad_n ad oc a aw ap ae (7 + 4 * oc) = aw := by unfold ad_n; rw [if_neg (by omega), if_neg (by omega), if_pos rfl]
  have e8 : ad_n ad oc a aw ap ae (8 + 4 * oc) = ap := by unfold ad_n; rw [if_neg (by omega), if_neg (by omega), if_neg (by omega), if_pos rfl]
  have e9 : ad_n ad oc a aw ap ae (9 + 4 * oc) = ae := by unfold ad_n; rw [if_neg (by omega), if_neg (by omega), if_neg (by omega), if_neg (by omega)]
  have hlt : ∀ x, x < 6 + 4 * oc → ad x < a := by
    intro x hx
    by_cases h6 : x < 6
    · rcases (show x = 0 ∨ x = 1 ∨ x = 2 ∨ x = 3 ∨ x = 4 ∨ x = 5 by omega) with rfl | rfl | rfl | rfl | rfl | rfl
      · exact hab _ _ h.1
      · exact hab _ _ h.2.1
      · exact hab _ _ h.2.2.1
      · exact hab _ _ h.2.2.2.1
      · exact hab _ _ h.2.2.2.2.1
      · exact hab _ _ h.2.2.2.2.2.1
    · obtain ⟨i, k, hi, hk4, rfl⟩ : ∃ i k, i < oc ∧ k < 4 ∧ x = 6 + k + 4 * i := ⟨(x - 6) / 4, (x - 6) % 4, by omega, by omega, by omega⟩
      have hO := cw_o h i hi
      rcases (show k = 0 ∨ k = 1 ∨ k = 2 ∨ k = 3 by omega) with rfl | rfl | rfl | rfl
      · exact hab _ _ hO.1
      · exact hab _ _ hO.2.1
      · exact hab _ _ hO.2.2.1
      · exact hab _ _ hO.2.2.2
  have ke : ∀ (x : Nat) (e1 : va_E), x < 6 + 4 * oc → 2 ≤ x → M (ad x) = some e1 → M9 (ad_n ad oc a aw ap ae x) = some e1 := fun x e1 hx h2 hm => by
    rw [e x hx]
    exact hk _ _ hm (cw_ne h hx (by omega) (by omega)) (cw_ne h hx (by omega) (by omega))
  have r : ∀ x, x < 6 → ad_n ad oc a aw ap ae x = ad x := fun x hx => e x (by omega)
  refine ⟨?_, ?_, ?_, ke 3 _ (by omega) (by omega) h.2.2.2.1, ke 4 _ (by omega) (by omega) h.2.2.2.2.1, ke 5 _ (by omega) (by omega) h.2.2.2.2.2.1, ?_, ?_, cw_n h, hoc, ?_⟩
  · rw [r 0 (by decide), r 1 (by decide), r 2 (by decide), r 3 (by decide), r 4 (by decide), r 5 (by decide)]; exact h0
  · rw [r 1 (by decide), h1]
    congr 8
    funext i
    by_cases hi : i = oc
    · subst hi; rw [va_up_self, if_pos (by omega), e6]
    · rw [va_up_ne _ _ hi]
      by_cases hi2 : i < oc
      · rw [if_pos hi2, if_pos (by omega), e _ (by omega)]
      · rw [if_neg hi2, if_neg (by omega)]
  · rw [ke 2 _ (by omega) (by omega) h.2.2.1]
    congr 8
    funext i
    rcases op_two (oo i) with hi | ⟨j, hi⟩
    · rw [hi]; rfl
    · rw [hi]; exact congrArg some (e (6 + 4 * j) (by have := cw_ooA h i j hi; omega)).symm
  · intro i hi
    by_cases hij : i = oc
    · subst hij
      rw [va_up_self, va_up_self, va_up_self, va_up_self, va_up_self, e6, e7, e8, e9]
      exact ho
    · have hi2 : i < oc := by omega
      have hO := cw_o h i hi2
      rw [va_up_ne _ _ hij, va_up_ne _ _ hij, va_up_ne _ _ hij, va_up_ne _ _ hij, va_up_ne _ _ hij, e (6 + 4 * i) (by omega), e (7 + 4 * i) (by omega), e (8 + 4 * i) (by omega), e (9 + 4 * i) (by omega)]
      exact ⟨hk _ _ hO.1 (cw_ne h (by omega) (by omega) (by omega)) (cw_ne h (by omega) (by omega) (by omega)), hk _ _ hO.2.1 (cw_ne h (by omega) (by omega) (by omega)) (cw_ne h (by omega) (by omega) (by omega)), hk _ _ hO.2.2.1 (cw_ne h (by omega) (by omega) (by omega)) (cw_ne h (by omega) (by omega) (by omega)), hk _ _ hO.2.2.2 (cw_ne h (by omega) (by omega) (by omega)) (cw_ne h (by omega) (by omega) (by omega))⟩
  · have up : ∀ x, x < 6 + 4 * (oc + 1) → ¬ x < 6 + 4 * oc → a ≤ ad_n ad oc a aw ap ae x := by
      intro x hx hx2
      rcases (show x = 6 + 4 * oc ∨ x = 7 + 4 * oc ∨ x = 8 + 4 * oc ∨ x = 9 + 4 * oc by omega) with rfl | rfl | rfl | rfl
      · rw [e6]; exact Nat.le_refl _
      · rw [e7]; omega
      · rw [e8]; omega
      · rw [e9]; omega
    intro x y hx hy hxy
    by_cases hx2 : x < 6 + 4 * oc
    · by_cases hy2 : y < 6 + 4 * oc
      · rw [e x hx2, e y hy2] at hxy; exact cw_i h x y hx2 hy2 hxy
      · rw [e x hx2] at hxy; have := hlt x hx2; have := up y hy hy2; omega
    · by_cases hy2 : y < 6 + 4 * oc
      · rw [e y hy2] at hxy; have := hlt y hy2; have := up x hx hx2; omega
      · rcases (show x = 6 + 4 * oc ∨ x = 7 + 4 * oc ∨ x = 8 + 4 * oc ∨ x = 9 + 4 * oc by omega) with rfl | rfl | rfl | rfl <;> rcases (show y = 6 + 4 * oc ∨ y = 7 + 4 * oc ∨ y = 8 + 4 * oc ∨ y = 9 + 4 * oc by omega) with rfl | rfl | rfl | rfl <;> simp only [e6, e7, e8, e9] at hxy <;> omega
  · intro i j hj
    have := cw_ooA h i j hj
    omega
end CWN
set_option maxHeartbeats 4000000 in
set_option maxRecDepth 100000 in
theorem cp_order (l : Launch) (hl : l.stackTraces = false) (G : pw_G) (M : pw_M) (ad : Nat → Nat) (n oc : Nat) (td sd : Int32) (dk to er : Nat → Int32) (os pl : Nat → Int32) (oo : Nat → Option Nat) (wa pr de : Nat → Nat → Int32) (hc : cw G ad n oc td sd dk to er os pl oo wa pr de M) : pw_XMet l yX1_order cX1_order 2 (some .int) 3 4 36 G [.ref (ad 0)] M (fun v9 M9 => cd_order oc = 0 ∧ v9 = some (.int (nI oc)) ∧ ∃ (ad9 : Nat → Nat) (f9 : Nat → Int32) (b9 : Nat), (∀ x, x < 6 + 4 * oc → ad9 x = ad x) ∧ ab M b9 ∧ (∀ g, g < 10 → f9 g = -1) ∧ (∀ x, 6 + 4 * oc ≤ x → x < 6 + 4 * (oc + 1) → b9 ≤ ad9 x) ∧ cw G ad9 n (oc + 1) td sd dk to er (va_up os oc 0) (va_up pl oc (-1)) oo (va_up wa oc (fun _ => 0)) (va_up pr oc (fun _ => 0)) (va_up de oc f9) M9 ∧ fm ad (6 + 4 * oc) M M9) (fun E9 M9 => M = M9 ∧ (E9 = "java/lang/UnsupportedOperationException" ∧ cd_order oc = 1)) := by
  refine pw_ofx hl (by decide +kernel) (Nat.le_of_ble_eq_true rfl) [(0, .ref (ad 0))] rfl ?_
  intro p9 e9 s9 m9 args9 below9 meth9 c9 hX hrt hex
  refine pw_aload_n (pc := 0) hX dX1_order_0 0 rfl ?_
  refine pw_get (pc := 1) hX dX1_order_1 hc.1 rfl inT_1 1 (by decide) fl_RX1_15 rfl ?_
  refine pw_bipush (pc := 4) (v := 20) hX dX1_order_4 (by decide) ?_
  refine pw_icmp_lt (pc := 6) hX 19 dX1_order_6 (by decide) (fun hc_1 => ?_) (fun hc_1 => ?_)
  · have hlt : oc < 20 := (nI_ltI (b := 20) (Nat.lt_of_le_of_lt (cw_oc hc) (by decide)) (by decide)).mp hc_1
    refine pw_aload_n (pc := 19) hX dX1_order_19 0 rfl ?_
    refine pw_get (pc := 20) hX dX1_order_20 hc.1 rfl inT_1 1 (by decide) fl_RX1_15 rfl ?_
    refine pw_istore_n (pc := 23) hX [(1, .int (nI oc)), (0, .ref (ad 0))] dX1_order_23 (by decide) rfl ?_
    refine pw_aload_n (pc := 24) hX dX1_order_24 1 rfl ?_
    refine pw_get (pc := 25) hX dX1_order_25 hc.1 rfl inT_1 0 (by decide) fl_RX1_11 rfl ?_
    refine pw_iload_n (pc := 28) hX dX1_order_28 0 rfl ?_
    refine pw_new (pc := 29) (fs := [.int 0, .int 0, .int 0, .null, .null, .null]) hX dX1_order_29 (ci := 0) rfl inT_0 tyX0 tyX0_ok cn_RX1_9 (by decide +kernel) (Nat.le_of_ble_eq_true rfl) (Nat.le_of_ble_eq_true rfl) (fun q_2 hf_q_2 => ?_)
    have hm_3 := pw_ke (a := q_2) (e := .inr (0, [.int 0, .int 0, .int 0, .null, .null, .null])) hc.1 (pw_fr.ne hf_q_2 hc.1)
    have hm_4 := pw_ke (a := q_2) (e := .inr (0, [.int 0, .int 0, .int 0, .null, .null, .null])) hc.2.1 (pw_fr.ne hf_q_2 hc.2.1)
    have hm_5 : pw_up M q_2 (.inr (0, [.int 0, .int 0, .int 0, .null, .null, .null])) q_2 = some (.inr (0, [.int 0, .int 0, .int 0, .null, .null, .null])) := pw_us
    have hbq : ab M q_2 := hf_q_2.2
    refine pw_dup (pc := 32) hX dX1_order_32 rfl ?_
    refine pw_iload_n (pc := 33) hX dX1_order_33 0 rfl ?_
    refine pw_callI (pc := 34) (st := [.ref q_2, .int (nI oc), .ref (ad 1)]) hX (ct_oinit l hl G (pw_up M q_2 (.inr (0, [.int 0, .int 0, .int 0, .null, .null, .null]))) q_2 (nI oc) hm_5) ok_X0_init rfl lk_RX1_63 dX1_order_34 rfl ⟨⟨by decide, by decide⟩, Nat.le_of_ble_eq_true rfl, Nat.le_of_ble_eq_true rfl, Nat.le_of_ble_eq_true rfl⟩ rfl (fun v9 M9 hp9 => ?_)
    obtain ⟨rfl, aw, ap, ae, f9, hod, hf9, hab, h01, h12, h23, hkp⟩ := hp9
    have hm_6 := hkp _ _ hm_3 (pw_fr.ne hf_q_2 hc.1)
    have hm_7 := hkp _ _ hm_4 (pw_fr.ne hf_q_2 hc.2.1)
    refine pw_aast (pc := 37) (j := oc) hX dX1_order_37 hm_7 hod.1 rfl rfl hlt (by decide) ?_
    have hm_8 := pw_ke (a := ad 1) (e := .inl (G.2.2.1 2, 20, .inr (.inr (.inr (.inr (va_up (fun i => if i < oc then some (ad (6 + 4 * i)) else none) oc (some q_2))))))) hm_6 (cw_ne hc (x := 0) (y := 1) (by omega) (by omega) (by omega))
    have hm_9 := pw_ke (a := ad 1) (e := .inl (G.2.2.1 2, 20, .inr (.inr (.inr (.inr (va_up (fun i => if i < oc then some (ad (6 + 4 * i)) else none) oc (some q_2))))))) hod.1 (by have := hbq _ _ hc.1; have := hbq _ _ hc.2.1; omega)
    have hm_10 := pw_ke (a := ad 1) (e := .inl (G.2.2.1 2, 20, .inr (.inr (.inr (.inr (va_up (fun i => if i < oc then some (ad (6 + 4 * i)) else none) oc (some q_2))))))) hod.2.1 (by have := hbq _ _ hc.1; have := hbq _ _ hc.2.1; omega)
    have hm_11 := pw_ke (a := ad 1) (e := .inl (G.2.2.1 2, 20, .inr (.inr (.inr (.inr (va_up (fun i => if i < oc then some (ad (6 + 4 * i)) else none) oc (some q_2))))))) hod.2.2.1 (by have := hbq _ _ hc.1; have := hbq _ _ hc.2.1; omega)
    have hm_12 := pw_ke (a := ad 1) (e := .inl (G.2.2.1 2, 20, .inr (.inr (.inr (.inr (va_up (fun i => if i < oc then some (ad (6 + 4 * i)) else none) oc (some q_2))))))) hod.2.2.2 (by have := hbq _ _ hc.1; have := hbq _ _ hc.2.1; omega)
    have hm_13 : pw_up M9 (ad 1) (.inl (G.2.2.1 2, 20, .inr (.inr (.inr (.inr (va_up (fun i => if i < oc then some (ad (6 + 4 * i)) else none) oc (some q_2))))))) (ad 1) = some (.inl (G.2.2.1 2, 20, .inr (.inr (.inr (.inr (va_up (fun i => if i < oc then some (ad (6 + 4 * i)) else none) oc (some q_2))))))) := pw_us
    refine pw_aload_n (pc := 38) hX dX1_order_38 1 rfl ?_
    refine pw_dup (pc := 39) hX dX1_order_39 rfl ?_
    refine pw_get (pc := 40) hX dX1_order_40 hm_8 rfl inT_1 1 (by decide) fl_RX1_15 rfl ?_
    refine pw_iconst (pc := 43) (v := 1) hX dX1_order_43 (by decide) ?_
    refine pw_iadd (pc := 44) (z := nI (oc + 1)) hX dX1_order_44 (nI_1 _) ?_
    refine pw_put (pc := 45) (v := .int (nI (oc + 1))) hX dX1_order_45 hm_8 rfl inT_1 tyX1 tyX1_ok nmX1 1 (by decide) fl_RX1_15 rfl (tyX1_ok 1 (by decide)) rfl rfl (Nat.le_of_ble_eq_true rfl) [.ref (ad 1), .int (nI (oc + 1)), .ref (ad 2), .ref (ad 3), .ref (ad 4), .ref (ad 5), .int td, .int sd] rfl ?_
    have hm_14 := pw_ke (a := ad 0) (e := .inr (1, [.ref (ad 1), .int (nI (oc + 1)), .ref (ad 2), .ref (ad 3), .ref (ad 4), .ref (ad 5), .int td, .int sd])) hm_13 (cw_ne hc (x := 1) (y := 0) (by omega) (by omega) (by omega))
    have hm_15 := pw_ke (a := ad 0) (e := .inr (1, [.ref (ad 1), .int (nI (oc + 1)), .ref (ad 2), .ref (ad 3), .ref (ad 4), .ref (ad 5), .int td, .int sd])) hm_9 (by have := hbq _ _ hc.1; have := hbq _ _ hc.2.1; omega)
    have hm_16 := pw_ke (a := ad 0) (e := .inr (1, [.ref (ad 1), .int (nI (oc + 1)), .ref (ad 2), .ref (ad 3), .ref (ad 4), .ref (ad 5), .int td, .int sd])) hm_10 (by have := hbq _ _ hc.1; have := hbq _ _ hc.2.1; omega)
    have hm_17 := pw_ke (a := ad 0) (e := .inr (1, [.ref (ad 1), .int (nI (oc + 1)), .ref (ad 2), .ref (ad 3), .ref (ad 4), .ref (ad 5), .int td, .int sd])) hm_11 (by have := hbq _ _ hc.1; have := hbq _ _ hc.2.1; omega)
    have hm_18 := pw_ke (a := ad 0) (e := .inr (1, [.ref (ad 1), .int (nI (oc + 1)), .ref (ad 2), .ref (ad 3), .ref (ad 4), .ref (ad 5), .int td, .int sd])) hm_12 (by have := hbq _ _ hc.1; have := hbq _ _ hc.2.1; omega)
    have hm_19 : pw_up (pw_up M9 (ad 1) (.inl (G.2.2.1 2, 20, .inr (.inr (.inr (.inr (va_up (fun i => if i < oc then some (ad (6 + 4 * i)) else none) oc (some q_2)))))))) (ad 0) (.inr (1, [.ref (ad 1), .int (nI (oc + 1)), .ref (ad 2), .ref (ad 3), .ref (ad 4), .ref (ad 5), .int td, .int sd])) (ad 0) = some (.inr (1, [.ref (ad 1), .int (nI (oc + 1)), .ref (ad 2), .ref (ad 3), .ref (ad 4), .ref (ad 5), .int td, .int sd])) := pw_us
    refine pw_iload_n (pc := 48) hX dX1_order_48 0 rfl ?_
    exact pw_iretx hX dX1_order_49 hrt ⟨by decide, by decide⟩ ⟨pc1_0 (fun h => absurd hlt (by rw [h]; decide)), rfl, _, f9, q_2, fun x hx => if_pos hx, hbq, hf9, fun x h1 h2 => by rcases (show x = 6 + 4 * oc ∨ x = 7 + 4 * oc ∨ x = 8 + 4 * oc ∨ x = 9 + 4 * oc by omega) with rfl | rfl | rfl | rfl <;> simp [ad_n] <;> omega, cw_new hc hlt (fun b e1 h1 n0 n1 => pw_ke (pw_ke (hkp _ _ (pw_ke h1 (pw_fr.ne hf_q_2 h1)) (pw_fr.ne hf_q_2 h1)) n1) n0) hm_19 hm_14 ⟨hm_15, hm_16, hm_17, hm_18⟩ hbq h01 h12 h23, fun b e1 h1 h2 => (fun b e1 h1 n0 n1 => pw_ke (pw_ke (hkp _ _ (pw_ke h1 (pw_fr.ne hf_q_2 h1)) (pw_fr.ne hf_q_2 h1)) n1) n0) b e1 h1 (fun h => h2 0 (by omega) h.symm) (fun h => h2 1 (by omega) h.symm)⟩
  · exact pw_throw (pc := 9) (names := ["java/lang/RuntimeException", "java/lang/Exception"]) (text := "no room for another order") hX hex dX1_order_9 dX1_order_12 dX1_order_13 dX1_order_15 dX1_order_18 rfl ⟨by decide +kernel, by decide +kernel⟩ th_RX1_56 (by decide +kernel) ta_RX1_60 tg_RX1_60 ⟨by decide, Nat.le_of_ble_eq_true rfl, Nat.le_of_ble_eq_true rfl, Nat.le_of_ble_eq_true rfl⟩ ⟨Nat.le_of_ble_eq_true rfl, Nat.le_of_ble_eq_true rfl⟩ ⟨rfl, rfl, pc1_1 (Nat.le_antisymm (cw_oc hc) (Nat.not_lt.mp (fun h => hc_1 (nI_lt (b := 20) h (by decide)))))⟩
def wn (x : Int32) : Nat := if x < 0 then 0 else if 16 < x then 16 else ix x
theorem wn_le (x : Int32) : wn x ≤ 16 := by
  unfold wn
  split
  · decide
  · split
    · decide
    · rename_i h1 h2
      obtain ⟨j, hj, hx⟩ := nI_of2 (M := 16) (n := 16) (by decide) h1 (Int32.not_lt.mp h2)
      rw [hx, ix_nI (by omega)]
      exact hj
theorem wn_nI {x : Int32} (h1 : ¬ x < 0) (h2 : ¬ 16 < x) : nI (wn x) = x := by
  unfold wn
  rw [if_neg h1, if_neg h2]
  obtain ⟨j, hj, hx⟩ := nI_of2 (M := 16) (n := 16) (by decide) h1 (Int32.not_lt.mp h2)
  rw [hx, ix_nI (by omega)]
theorem wn_eq (x : Int32) : (if 0 < (if x < 16 then x else 16) then (if x < 16 then x else 16) else 0) = nI (wn x) := by
  by_cases h1 : x < 0
  · have h16 : x < 16 := Int32.lt_trans h1 (by decide)
    rw [if_pos h16, if_neg (Int32.not_lt.mpr (Int32.le_of_lt h1))]
    unfold wn
    rw [if_pos h1]
    rfl
  · by_cases h2 : x < 16
    · rw [if_pos h2, wn_nI h1 (Int32.not_lt.mpr (Int32.le_of_lt h2))]
      by_cases h3 : 0 < x
      · rw [if_pos h3]
      · rw [if_neg h3]
        exact Int32.le_antisymm (Int32.not_lt.mp h1) (Int32.not_lt.mp h3)
    · rw [if_neg h2, if_pos (by decide)]
      unfold wn
      rw [if_neg h1]
      by_cases h3 : 16 < x
      · rw [if_pos h3]; rfl
      · rw [if_neg h3]
        have h4 : x = 16 := Int32.le_antisymm (Int32.not_lt.mp h3) (Int32.not_lt.mp h2)
        rw [h4]
        rfl
def ad_0 (a q1 q2 q3 q4 q5 : Nat) : Nat → Nat := fun x => if x = 0 then a else if x = 1 then q1 else if x = 2 then q4 else if x = 3 then q5 else if x = 4 then q2 else q3
theorem cw_init {G : pw_G} {M : pw_M} {a q1 q2 q3 q4 q5 n : Nat} (hn : n ≤ 16) (g1 : a < q1) (g2 : q1 < q2) (g3 : q2 < q3) (g4 : q3 < q4) (g5 : q4 < q5)
    (h0 : M a = some (.inr (1, [.ref q1, .int 0, .ref q4, .ref q5, .ref q2, .ref q3, .int 0, .int 1]))) (h1 : M q1 = some (.inl (G.2.2.1 2, 20, .inr (.inr (.inr (.inr (fun _ => none)))))))
    (h2 : M q2 = some (.inl (G.2.2.1 0, 10, .inl (fun _ => 0)))) (h3 : M q3 = some (.inl (G.2.2.1 0, 8, .inl (fun _ => 0)))) (h4 : M q4 = some (.inl (G.2.2.1 2, n, .inr (.inr (.inr (.inr (fun _ => none))))))) (h5 : M q5 = some (.inl (G.2.2.1 1, n, .inl (fun _ => 0))))
    (os pl : Nat → Int32) (wa pr de : Nat → Nat → Int32) : cw G (ad_0 a q1 q2 q3 q4 q5) n 0 0 1 (fun _ => 0) (fun _ => 0) (fun _ => 0) os pl (fun _ => none) wa pr de M := by
  refine ⟨h0, ?_, h4, h5, h2, h3, fun i hi => absurd hi (Nat.not_lt_zero i), ?_, hn, by decide, fun i j h => by cases h⟩
  · rw [show (fun i => if i < 0 then some (ad_0 a q1 q2 q3 q4 q5 (6 + 4 * i)) else none) = fun _ => none from funext (fun i => if_neg (Nat.not_lt_zero i))]
    exact h1
  · intro x y hx hy hxy
    have hx : x < 6 := hx
    have hy : y < 6 := hy
    rcases (show x = 0 ∨ x = 1 ∨ x = 2 ∨ x = 3 ∨ x = 4 ∨ x = 5 by omega) with rfl | rfl | rfl | rfl | rfl | rfl <;> rcases (show y = 0 ∨ y = 1 ∨ y = 2 ∨ y = 3 ∨ y = 4 ∨ y = 5 by omega) with rfl | rfl | rfl | rfl | rfl | rfl <;> simp [ad_0] at hxy <;> omega
set_option maxHeartbeats 4000000 in
set_option maxRecDepth 100000 in
theorem cp_init (l : Launch) (hl : l.stackTraces = false) (G : pw_G) (M : pw_M) (a : Nat) (p0 : Int32) (ha : M a = some (.inr (1, [.null, .int 0, .null, .null, .null, .null, .int 0, .int 0]))) : pw_Met l yX1_init cX1_init 3 none 3 5 70 G [.ref a, .int p0] M (fun v9 M9 => v9 = none ∧ ∃ (ad9 : Nat → Nat) (b9 : Nat), ad9 0 = a ∧ ab M b9 ∧ (∀ x, 1 ≤ x → x < 6 → b9 ≤ ad9 x) ∧ (∀ (os pl : Nat → Int32) (wa pr de : Nat → Nat → Int32), cw G ad9 (wn p0) 0 0 1 (fun _ => 0) (fun _ => 0) (fun _ => 0) os pl (fun _ => none) wa pr de M9) ∧ kp a M M9) := by
  refine pw_of hl (by decide +kernel) (Nat.le_of_ble_eq_true rfl) [(0, .ref a), (1, .int p0)] rfl ?_
  intro p9 e9 s9 m9 args9 below9 meth9 c9 hX hrt hmi
  refine pw_aload_n (pc := 0) hX dX1_init_0 0 rfl ?_
  refine pw_objInit (pc := 1) hX dX1_init_1 oi_RX1_1 ⟨by decide, Nat.le_of_ble_eq_true rfl⟩ ?_
  refine pw_aload_n (pc := 4) hX dX1_init_4 0 rfl ?_
  refine pw_bipush (pc := 5) (v := 20) hX dX1_init_5 (by decide) ?_
  refine pw_newq (pc := 7) (n := 20) hX dX1_init_7 cq_RX1_9 (by decide) (Nat.le_of_ble_eq_true rfl) (Nat.le_of_ble_eq_true rfl) (fun q_1 hf_q_1 => ?_)
  have ha1 : a < q_1 := hf_q_1.2 _ _ ha
  have hab : ab M q_1 := ab_of (a := a) kp_rf hf_q_1 ha
  have hm_2 := pw_ke (a := q_1) (e := .inl (G.2.2.1 2, 20, .inr (.inr (.inr (.inr (fun _ => none)))))) ha (pw_fr.ne hf_q_1 ha)
  have hm_3 : pw_up M q_1 (.inl (G.2.2.1 2, 20, .inr (.inr (.inr (.inr (fun _ => none)))))) q_1 = some (.inl (G.2.2.1 2, 20, .inr (.inr (.inr (.inr (fun _ => none)))))) := pw_us
  refine pw_putF (pc := 10) (v := .ref q_1) hX dX1_init_10 hm_2 rfl inT_1 tyX1 tyX1_ok nmX1 0 (by decide) fl_RX1_11 rfl hmi rfl (tyX1_ok 0 (by decide)) rfl rfl (Nat.le_of_ble_eq_true rfl) [.ref q_1, .int 0, .null, .null, .null, .null, .int 0, .int 0] rfl ?_
  have hm_4 := pw_ke (a := a) (e := .inr (1, [.ref q_1, .int 0, .null, .null, .null, .null, .int 0, .int 0])) hm_3 (by omega)
  have hm_5 : pw_up (pw_up M q_1 (.inl (G.2.2.1 2, 20, .inr (.inr (.inr (.inr (fun _ => none))))))) a (.inr (1, [.ref q_1, .int 0, .null, .null, .null, .null, .int 0, .int 0])) a = some (.inr (1, [.ref q_1, .int 0, .null, .null, .null, .null, .int 0, .int 0])) := pw_us
  refine pw_aload_n (pc := 13) hX dX1_init_13 0 rfl ?_
  refine pw_iconst (pc := 14) (v := 0) hX dX1_init_14 (by decide) ?_
  refine pw_put (pc := 15) (v := .int 0) hX dX1_init_15 hm_5 rfl inT_1 tyX1 tyX1_ok nmX1 1 (by decide) fl_RX1_15 rfl (tyX1_ok 1 (by decide)) rfl rfl (Nat.le_of_ble_eq_true rfl) [.ref q_1, .int 0, .null, .null, .null, .null, .int 0, .int 0] rfl ?_
  have hm_6 := pw_ke (a := a) (e := .inr (1, [.ref q_1, .int 0, .null, .null, .null, .null, .int 0, .int 0])) hm_4 (by omega)
  have hm_7 : pw_up (pw_up (pw_up M q_1 (.inl (G.2.2.1 2, 20, .inr (.inr (.inr (.inr (fun _ => none))))))) a (.inr (1, [.ref q_1, .int 0, .null, .null, .null, .null, .int 0, .int 0]))) a (.inr (1, [.ref q_1, .int 0, .null, .null, .null, .null, .int 0, .int 0])) a = some (.inr (1, [.ref q_1, .int 0, .null, .null, .null, .null, .int 0, .int 0])) := pw_us
  refine pw_aload_n (pc := 18) hX dX1_init_18 0 rfl ?_
  refine pw_bipush (pc := 19) (v := 10) hX dX1_init_19 (by decide) ?_
  refine pw_newi (pc := 21) (n := 10) hX dX1_init_21 ac_int (by decide) (Nat.le_of_ble_eq_true rfl) (Nat.le_of_ble_eq_true rfl) (fun q_8 hf_q_8 => ?_)
  have h12 : q_1 < q_8 := hf_q_8.2 _ _ hm_6
  have hm_9 := pw_ke (a := q_8) (e := .inl (G.2.2.1 0, 10, .inl (fun _ => 0))) hm_7 (pw_fr.ne hf_q_8 hm_7)
  have hm_10 := pw_ke (a := q_8) (e := .inl (G.2.2.1 0, 10, .inl (fun _ => 0))) hm_6 (pw_fr.ne hf_q_8 hm_6)
  have hm_11 : pw_up (pw_up (pw_up (pw_up M q_1 (.inl (G.2.2.1 2, 20, .inr (.inr (.inr (.inr (fun _ => none))))))) a (.inr (1, [.ref q_1, .int 0, .null, .null, .null, .null, .int 0, .int 0]))) a (.inr (1, [.ref q_1, .int 0, .null, .null, .null, .null, .int 0, .int 0]))) q_8 (.inl (G.2.2.1 0, 10, .inl (fun _ => 0))) q_8 = some (.inl (G.2.2.1 0, 10, .inl (fun _ => 0))) := pw_us
  refine pw_putF (pc := 23) (v := .ref q_8) hX dX1_init_23 hm_9 rfl inT_1 tyX1 tyX1_ok nmX1 4 (by decide) fl_RX1_19 rfl hmi rfl (tyX1_ok 4 (by decide)) rfl rfl (Nat.le_of_ble_eq_true rfl) [.ref q_1, .int 0, .null, .null, .ref q_8, .null, .int 0, .int 0] rfl ?_
  have hm_12 := pw_ke (a := a) (e := .inr (1, [.ref q_1, .int 0, .null, .null, .ref q_8, .null, .int 0, .int 0])) hm_10 (by omega)
  have hm_13 := pw_ke (a := a) (e := .inr (1, [.ref q_1, .int 0, .null, .null, .ref q_8, .null, .int 0, .int 0])) hm_11 (by omega)
  have hm_14 : pw_up (pw_up (pw_up (pw_up (pw_up M q_1 (.inl (G.2.2.1 2, 20, .inr (.inr (.inr (.inr (fun _ => none))))))) a (.inr (1, [.ref q_1, .int 0, .null, .null, .null, .null, .int 0, .int 0]))) a (.inr (1, [.ref q_1, .int 0, .null, .null, .null, .null, .int 0, .int 0]))) q_8 (.inl (G.2.2.1 0, 10, .inl (fun _ => 0)))) a (.inr (1, [.ref q_1, .int 0, .null, .null, .ref q_8, .null, .int 0, .int 0])) a = some (.inr (1, [.ref q_1, .int 0, .null, .null, .ref q_8, .null, .int 0, .int 0])) := pw_us
  refine pw_aload_n (pc := 26) hX dX1_init_26 0 rfl ?_
  refine pw_bipush (pc := 27) (v := 8) hX dX1_init_27 (by decide) ?_
  refine pw_newi (pc := 29) (n := 8) hX dX1_init_29 ac_int (by decide) (Nat.le_of_ble_eq_true rfl) (Nat.le_of_ble_eq_true rfl) (fun q_15 hf_q_15 => ?_)
  have h23 : q_8 < q_15 := hf_q_15.2 _ _ hm_13
  have hm_16 := pw_ke (a := q_15) (e := .inl (G.2.2.1 0, 8, .inl (fun _ => 0))) hm_14 (pw_fr.ne hf_q_15 hm_14)
  have hm_17 := pw_ke (a := q_15) (e := .inl (G.2.2.1 0, 8, .inl (fun _ => 0))) hm_12 (pw_fr.ne hf_q_15 hm_12)
  have hm_18 := pw_ke (a := q_15) (e := .inl (G.2.2.1 0, 8, .inl (fun _ => 0))) hm_13 (pw_fr.ne hf_q_15 hm_13)
  have hm_19 : pw_up (pw_up (pw_up (pw_up (pw_up (pw_up M q_1 (.inl (G.2.2.1 2, 20, .inr (.inr (.inr (.inr (fun _ => none))))))) a (.inr (1, [.ref q_1, .int 0, .null, .null, .null, .null, .int 0, .int 0]))) a (.inr (1, [.ref q_1, .int 0, .null, .null, .null, .null, .int 0, .int 0]))) q_8 (.inl (G.2.2.1 0, 10, .inl (fun _ => 0)))) a (.inr (1, [.ref q_1, .int 0, .null, .null, .ref q_8, .null, .int 0, .int 0]))) q_15 (.inl (G.2.2.1 0, 8, .inl (fun _ => 0))) q_15 = some (.inl (G.2.2.1 0, 8, .inl (fun _ => 0))) := pw_us
  refine pw_putF (pc := 31) (v := .ref q_15) hX dX1_init_31 hm_16 rfl inT_1 tyX1 tyX1_ok nmX1 5 (by decide) fl_RX1_23 rfl hmi rfl (tyX1_ok 5 (by decide)) rfl rfl (Nat.le_of_ble_eq_true rfl) [.ref q_1, .int 0, .null, .null, .ref q_8, .ref q_15, .int 0, .int 0] rfl ?_
  have hm_20 := pw_ke (a := a) (e := .inr (1, [.ref q_1, .int 0, .null, .null, .ref q_8, .ref q_15, .int 0, .int 0])) hm_17 (by omega)
  have hm_21 := pw_ke (a := a) (e := .inr (1, [.ref q_1, .int 0, .null, .null, .ref q_8, .ref q_15, .int 0, .int 0])) hm_18 (by omega)
  have hm_22 := pw_ke (a := a) (e := .inr (1, [.ref q_1, .int 0, .null, .null, .ref q_8, .ref q_15, .int 0, .int 0])) hm_19 (by omega)
  have hm_23 : pw_up (pw_up (pw_up (pw_up (pw_up (pw_up (pw_up M q_1 (.inl (G.2.2.1 2, 20, .inr (.inr (.inr (.inr (fun _ => none))))))) a (.inr (1, [.ref q_1, .int 0, .null, .null, .null, .null, .int 0, .int 0]))) a (.inr (1, [.ref q_1, .int 0, .null, .null, .null, .null, .int 0, .int 0]))) q_8 (.inl (G.2.2.1 0, 10, .inl (fun _ => 0)))) a (.inr (1, [.ref q_1, .int 0, .null, .null, .ref q_8, .null, .int 0, .int 0]))) q_15 (.inl (G.2.2.1 0, 8, .inl (fun _ => 0)))) a (.inr (1, [.ref q_1, .int 0, .null, .null, .ref q_8, .ref q_15, .int 0, .int 0])) a = some (.inr (1, [.ref q_1, .int 0, .null, .null, .ref q_8, .ref q_15, .int 0, .int 0])) := pw_us
  refine pw_aload_n (pc := 34) hX dX1_init_34 0 rfl ?_
  refine pw_iconst (pc := 35) (v := 0) hX dX1_init_35 (by decide) ?_
  refine pw_put (pc := 36) (v := .int 0) hX dX1_init_36 hm_23 rfl inT_1 tyX1 tyX1_ok nmX1 6 (by decide) fl_RX1_26 rfl (tyX1_ok 6 (by decide)) rfl rfl (Nat.le_of_ble_eq_true rfl) [.ref q_1, .int 0, .null, .null, .ref q_8, .ref q_15, .int 0, .int 0] rfl ?_
  have hm_24 := pw_ke (a := a) (e := .inr (1, [.ref q_1, .int 0, .null, .null, .ref q_8, .ref q_15, .int 0, .int 0])) hm_20 (by omega)
  have hm_25 := pw_ke (a := a) (e := .inr (1, [.ref q_1, .int 0, .null, .null, .ref q_8, .ref q_15, .int 0, .int 0])) hm_21 (by omega)
  have hm_26 := pw_ke (a := a) (e := .inr (1, [.ref q_1, .int 0, .null, .null, .ref q_8, .ref q_15, .int 0, .int 0])) hm_22 (by omega)
  have hm_27 : pw_up (pw_up (pw_up (pw_up (pw_up (pw_up (pw_up (pw_up M q_1 (.inl (G.2.2.1 2, 20, .inr (.inr (.inr (.inr (fun _ => none))))))) a (.inr (1, [.ref q_1, .int 0, .null, .null, .null, .null, .int 0, .int 0]))) a (.inr (1, [.ref q_1, .int 0, .null, .null, .null, .null, .int 0, .int 0]))) q_8 (.inl (G.2.2.1 0, 10, .inl (fun _ => 0)))) a (.inr (1, [.ref q_1, .int 0, .null, .null, .ref q_8, .null, .int 0, .int 0]))) q_15 (.inl (G.2.2.1 0, 8, .inl (fun _ => 0)))) a (.inr (1, [.ref q_1, .int 0, .null, .null, .ref q_8, .ref q_15, .int 0, .int 0]))) a (.inr (1, [.ref q_1, .int 0, .null, .null, .ref q_8, .ref q_15, .int 0, .int 0])) a = some (.inr (1, [.ref q_1, .int 0, .null, .null, .ref q_8, .ref q_15, .int 0, .int 0])) := pw_us
  refine pw_aload_n (pc := 39) hX dX1_init_39 0 rfl ?_
  refine pw_iconst (pc := 40) (v := 1) hX dX1_init_40 (by decide) ?_
  refine pw_put (pc := 41) (v := .int 1) hX dX1_init_41 hm_27 rfl inT_1 tyX1 tyX1_ok nmX1 7 (by decide) fl_RX1_29 rfl (tyX1_ok 7 (by decide)) rfl rfl (Nat.le_of_ble_eq_true rfl) [.ref q_1, .int 0, .null, .null, .ref q_8, .ref q_15, .int 0, .int 1] rfl ?_
  have hm_28 := pw_ke (a := a) (e := .inr (1, [.ref q_1, .int 0, .null, .null, .ref q_8, .ref q_15, .int 0, .int 1])) hm_24 (by omega)
  have hm_29 := pw_ke (a := a) (e := .inr (1, [.ref q_1, .int 0, .null, .null, .ref q_8, .ref q_15, .int 0, .int 1])) hm_25 (by omega)
  have hm_30 := pw_ke (a := a) (e := .inr (1, [.ref q_1, .int 0, .null, .null, .ref q_8, .ref q_15, .int 0, .int 1])) hm_26 (by omega)
  have hm_31 : pw_up (pw_up (pw_up (pw_up (pw_up (pw_up (pw_up (pw_up (pw_up M q_1 (.inl (G.2.2.1 2, 20, .inr (.inr (.inr (.inr (fun _ => none))))))) a (.inr (1, [.ref q_1, .int 0, .null, .null, .null, .null, .int 0, .int 0]))) a (.inr (1, [.ref q_1, .int 0, .null, .null, .null, .null, .int 0, .int 0]))) q_8 (.inl (G.2.2.1 0, 10, .inl (fun _ => 0)))) a (.inr (1, [.ref q_1, .int 0, .null, .null, .ref q_8, .null, .int 0, .int 0]))) q_15 (.inl (G.2.2.1 0, 8, .inl (fun _ => 0)))) a (.inr (1, [.ref q_1, .int 0, .null, .null, .ref q_8, .ref q_15, .int 0, .int 0]))) a (.inr (1, [.ref q_1, .int 0, .null, .null, .ref q_8, .ref q_15, .int 0, .int 0]))) a (.inr (1, [.ref q_1, .int 0, .null, .null, .ref q_8, .ref q_15, .int 0, .int 1])) a = some (.inr (1, [.ref q_1, .int 0, .null, .null, .ref q_8, .ref q_15, .int 0, .int 1])) := pw_us
  refine pw_iconst (pc := 44) (v := 0) hX dX1_init_44 (by decide) ?_
  refine pw_bipush (pc := 45) (v := 16) hX dX1_init_45 (by decide) ?_
  refine pw_iload_n (pc := 47) hX dX1_init_47 1 rfl ?_
  refine pw_mmin (pc := 48) hX dX1_init_48 mm_RX1_32 ⟨by decide, Nat.le_of_ble_eq_true rfl, Nat.le_of_ble_eq_true rfl, Nat.le_of_ble_eq_true rfl⟩ ?_
  refine pw_mmax (pc := 51) hX dX1_init_51 mm_RX1_38 ⟨by decide, Nat.le_of_ble_eq_true rfl, Nat.le_of_ble_eq_true rfl, Nat.le_of_ble_eq_true rfl⟩ ?_
  refine pw_cg (vb := .int (nI (wn p0))) (congrArg Value.int (wn_eq p0)) ?_
  refine pw_istore_n (pc := 54) hX [(2, .int (nI (wn p0))), (0, .ref a), (1, .int p0)] dX1_init_54 (by decide) rfl ?_
  refine pw_aload_n (pc := 55) hX dX1_init_55 1 rfl ?_
  refine pw_iload_n (pc := 56) hX dX1_init_56 0 rfl ?_
  refine pw_newq (pc := 57) (n := wn p0) hX dX1_init_57 cq_RX1_9 (Nat.le_trans (wn_le p0) (by decide)) (Nat.le_of_ble_eq_true rfl) (by have := wn_le p0; show 0 + 20 + 10 + 8 + wn p0 ≤ _; simp only [pw_rm]; omega) (fun q_32 hf_q_32 => ?_)
  have h34 : q_15 < q_32 := hf_q_32.2 _ _ hm_30
  have hm_33 := pw_ke (a := q_32) (e := .inl (G.2.2.1 2, wn p0, .inr (.inr (.inr (.inr (fun _ => none)))))) hm_31 (pw_fr.ne hf_q_32 hm_31)
  have hm_34 := pw_ke (a := q_32) (e := .inl (G.2.2.1 2, wn p0, .inr (.inr (.inr (.inr (fun _ => none)))))) hm_28 (pw_fr.ne hf_q_32 hm_28)
  have hm_35 := pw_ke (a := q_32) (e := .inl (G.2.2.1 2, wn p0, .inr (.inr (.inr (.inr (fun _ => none)))))) hm_29 (pw_fr.ne hf_q_32 hm_29)
  have hm_36 := pw_ke (a := q_32) (e := .inl (G.2.2.1 2, wn p0, .inr (.inr (.inr (.inr (fun _ => none)))))) hm_30 (pw_fr.ne hf_q_32 hm_30)
  have hm_37 : pw_up (pw_up (pw_up (pw_up (pw_up (pw_up (pw_up (pw_up (pw_up (pw_up M q_1 (.inl (G.2.2.1 2, 20, .inr (.inr (.inr (.inr (fun _ => none))))))) a (.inr (1, [.ref q_1, .int 0, .null, .null, .null, .null, .int 0, .int 0]))) a (.inr (1, [.ref q_1, .int 0, .null, .null, .null, .null, .int 0, .int 0]))) q_8 (.inl (G.2.2.1 0, 10, .inl (fun _ => 0)))) a (.inr (1, [.ref q_1, .int 0, .null, .null, .ref q_8, .null, .int 0, .int 0]))) q_15 (.inl (G.2.2.1 0, 8, .inl (fun _ => 0)))) a (.inr (1, [.ref q_1, .int 0, .null, .null, .ref q_8, .ref q_15, .int 0, .int 0]))) a (.inr (1, [.ref q_1, .int 0, .null, .null, .ref q_8, .ref q_15, .int 0, .int 0]))) a (.inr (1, [.ref q_1, .int 0, .null, .null, .ref q_8, .ref q_15, .int 0, .int 1]))) q_32 (.inl (G.2.2.1 2, wn p0, .inr (.inr (.inr (.inr (fun _ => none)))))) q_32 = some (.inl (G.2.2.1 2, wn p0, .inr (.inr (.inr (.inr (fun _ => none)))))) := pw_us
  refine pw_putF (pc := 60) (v := .ref q_32) hX dX1_init_60 hm_33 rfl inT_1 tyX1 tyX1_ok nmX1 2 (by decide) fl_RX1_41 rfl hmi rfl (tyX1_ok 2 (by decide)) rfl rfl (Nat.le_of_ble_eq_true rfl) [.ref q_1, .int 0, .ref q_32, .null, .ref q_8, .ref q_15, .int 0, .int 1] rfl ?_
  have hm_38 := pw_ke (a := a) (e := .inr (1, [.ref q_1, .int 0, .ref q_32, .null, .ref q_8, .ref q_15, .int 0, .int 1])) hm_34 (by omega)
  have hm_39 := pw_ke (a := a) (e := .inr (1, [.ref q_1, .int 0, .ref q_32, .null, .ref q_8, .ref q_15, .int 0, .int 1])) hm_35 (by omega)
  have hm_40 := pw_ke (a := a) (e := .inr (1, [.ref q_1, .int 0, .ref q_32, .null, .ref q_8, .ref q_15, .int 0, .int 1])) hm_36 (by omega)
  have hm_41 := pw_ke (a := a) (e := .inr (1, [.ref q_1, .int 0, .ref q_32, .null, .ref q_8, .ref q_15, .int 0, .int 1])) hm_37 (by omega)
  have hm_42 : pw_up (pw_up (pw_up (pw_up (pw_up (pw_up (pw_up (pw_up (pw_up (pw_up (pw_up M q_1 (.inl (G.2.2.1 2, 20, .inr (.inr (.inr (.inr (fun _ => none))))))) a (.inr (1, [.ref q_1, .int 0, .null, .null, .null, .null, .int 0, .int 0]))) a (.inr (1, [.ref q_1, .int 0, .null, .null, .null, .null, .int 0, .int 0]))) q_8 (.inl (G.2.2.1 0, 10, .inl (fun _ => 0)))) a (.inr (1, [.ref q_1, .int 0, .null, .null, .ref q_8, .null, .int 0, .int 0]))) q_15 (.inl (G.2.2.1 0, 8, .inl (fun _ => 0)))) a (.inr (1, [.ref q_1, .int 0, .null, .null, .ref q_8, .ref q_15, .int 0, .int 0]))) a (.inr (1, [.ref q_1, .int 0, .null, .null, .ref q_8, .ref q_15, .int 0, .int 0]))) a (.inr (1, [.ref q_1, .int 0, .null, .null, .ref q_8, .ref q_15, .int 0, .int 1]))) q_32 (.inl (G.2.2.1 2, wn p0, .inr (.inr (.inr (.inr (fun _ => none))))))) a (.inr (1, [.ref q_1, .int 0, .ref q_32, .null, .ref q_8, .ref q_15, .int 0, .int 1])) a = some (.inr (1, [.ref q_1, .int 0, .ref q_32, .null, .ref q_8, .ref q_15, .int 0, .int 1])) := pw_us
  refine pw_aload_n (pc := 63) hX dX1_init_63 1 rfl ?_
  refine pw_iload_n (pc := 64) hX dX1_init_64 0 rfl ?_
  refine pw_newz (pc := 65) (n := wn p0) hX dX1_init_65 ac_boolean (Nat.le_trans (wn_le p0) (by decide)) (Nat.le_of_ble_eq_true rfl) (by have := wn_le p0; show 0 + 20 + 10 + 8 + (wn p0) + wn p0 ≤ _; simp only [pw_rm]; omega) (fun q_43 hf_q_43 => ?_)
  have h45 : q_32 < q_43 := hf_q_43.2 _ _ hm_41
  have hm_44 := pw_ke (a := q_43) (e := .inl (G.2.2.1 1, wn p0, .inl (fun _ => 0))) hm_42 (pw_fr.ne hf_q_43 hm_42)
  have hm_45 := pw_ke (a := q_43) (e := .inl (G.2.2.1 1, wn p0, .inl (fun _ => 0))) hm_38 (pw_fr.ne hf_q_43 hm_38)
  have hm_46 := pw_ke (a := q_43) (e := .inl (G.2.2.1 1, wn p0, .inl (fun _ => 0))) hm_39 (pw_fr.ne hf_q_43 hm_39)
  have hm_47 := pw_ke (a := q_43) (e := .inl (G.2.2.1 1, wn p0, .inl (fun _ => 0))) hm_40 (pw_fr.ne hf_q_43 hm_40)
  have hm_48 := pw_ke (a := q_43) (e := .inl (G.2.2.1 1, wn p0, .inl (fun _ => 0))) hm_41 (pw_fr.ne hf_q_43 hm_41)
  have hm_49 : pw_up (pw_up (pw_up (pw_up (pw_up (pw_up (pw_up (pw_up (pw_up (pw_up (pw_up (pw_up M q_1 (.inl (G.2.2.1 2, 20, .inr (.inr (.inr (.inr (fun _ => none))))))) a (.inr (1, [.ref q_1, .int 0, .null, .null, .null, .null, .int 0, .int 0]))) a (.inr (1, [.ref q_1, .int 0, .null, .null, .null, .null, .int 0, .int 0]))) q_8 (.inl (G.2.2.1 0, 10, .inl (fun _ => 0)))) a (.inr (1, [.ref q_1, .int 0, .null, .null, .ref q_8, .null, .int 0, .int 0]))) q_15 (.inl (G.2.2.1 0, 8, .inl (fun _ => 0)))) a (.inr (1, [.ref q_1, .int 0, .null, .null, .ref q_8, .ref q_15, .int 0, .int 0]))) a (.inr (1, [.ref q_1, .int 0, .null, .null, .ref q_8, .ref q_15, .int 0, .int 0]))) a (.inr (1, [.ref q_1, .int 0, .null, .null, .ref q_8, .ref q_15, .int 0, .int 1]))) q_32 (.inl (G.2.2.1 2, wn p0, .inr (.inr (.inr (.inr (fun _ => none))))))) a (.inr (1, [.ref q_1, .int 0, .ref q_32, .null, .ref q_8, .ref q_15, .int 0, .int 1]))) q_43 (.inl (G.2.2.1 1, wn p0, .inl (fun _ => 0))) q_43 = some (.inl (G.2.2.1 1, wn p0, .inl (fun _ => 0))) := pw_us
  refine pw_putF (pc := 67) (v := .ref q_43) hX dX1_init_67 hm_44 rfl inT_1 tyX1 tyX1_ok nmX1 3 (by decide) fl_RX1_44 rfl hmi rfl (tyX1_ok 3 (by decide)) rfl rfl (Nat.le_of_ble_eq_true rfl) [.ref q_1, .int 0, .ref q_32, .ref q_43, .ref q_8, .ref q_15, .int 0, .int 1] rfl ?_
  have hm_50 := pw_ke (a := a) (e := .inr (1, [.ref q_1, .int 0, .ref q_32, .ref q_43, .ref q_8, .ref q_15, .int 0, .int 1])) hm_45 (by omega)
  have hm_51 := pw_ke (a := a) (e := .inr (1, [.ref q_1, .int 0, .ref q_32, .ref q_43, .ref q_8, .ref q_15, .int 0, .int 1])) hm_46 (by omega)
  have hm_52 := pw_ke (a := a) (e := .inr (1, [.ref q_1, .int 0, .ref q_32, .ref q_43, .ref q_8, .ref q_15, .int 0, .int 1])) hm_47 (by omega)
  have hm_53 := pw_ke (a := a) (e := .inr (1, [.ref q_1, .int 0, .ref q_32, .ref q_43, .ref q_8, .ref q_15, .int 0, .int 1])) hm_48 (by omega)
  have hm_54 := pw_ke (a := a) (e := .inr (1, [.ref q_1, .int 0, .ref q_32, .ref q_43, .ref q_8, .ref q_15, .int 0, .int 1])) hm_49 (by omega)
  have hm_55 : pw_up (pw_up (pw_up (pw_up (pw_up (pw_up (pw_up (pw_up (pw_up (pw_up (pw_up (pw_up (pw_up M q_1 (.inl (G.2.2.1 2, 20, .inr (.inr (.inr (.inr (fun _ => none))))))) a (.inr (1, [.ref q_1, .int 0, .null, .null, .null, .null, .int 0, .int 0]))) a (.inr (1, [.ref q_1, .int 0, .null, .null, .null, .null, .int 0, .int 0]))) q_8 (.inl (G.2.2.1 0, 10, .inl (fun _ => 0)))) a (.inr (1, [.ref q_1, .int 0, .null, .null, .ref q_8, .null, .int 0, .int 0]))) q_15 (.inl (G.2.2.1 0, 8, .inl (fun _ => 0)))) a (.inr (1, [.ref q_1, .int 0, .null, .null, .ref q_8, .ref q_15, .int 0, .int 0]))) a (.inr (1, [.ref q_1, .int 0, .null, .null, .ref q_8, .ref q_15, .int 0, .int 0]))) a (.inr (1, [.ref q_1, .int 0, .null, .null, .ref q_8, .ref q_15, .int 0, .int 1]))) q_32 (.inl (G.2.2.1 2, wn p0, .inr (.inr (.inr (.inr (fun _ => none))))))) a (.inr (1, [.ref q_1, .int 0, .ref q_32, .null, .ref q_8, .ref q_15, .int 0, .int 1]))) q_43 (.inl (G.2.2.1 1, wn p0, .inl (fun _ => 0)))) a (.inr (1, [.ref q_1, .int 0, .ref q_32, .ref q_43, .ref q_8, .ref q_15, .int 0, .int 1])) a = some (.inr (1, [.ref q_1, .int 0, .ref q_32, .ref q_43, .ref q_8, .ref q_15, .int 0, .int 1])) := pw_us
  exact pw_vret hX dX1_init_70 hrt ⟨by decide, by have := wn_le p0; show 0 + 20 + 10 + 8 + (wn p0) + (wn p0) ≤ 70; omega⟩ ⟨rfl, ad_0 a q_1 q_8 q_15 q_32 q_43, q_1, rfl, hab, (by intro x h1 h2; rcases (show x = 1 ∨ x = 2 ∨ x = 3 ∨ x = 4 ∨ x = 5 by omega) with rfl | rfl | rfl | rfl | rfl <;> simp [ad_0] <;> omega), fun os pl wa pr de => cw_init (wn_le p0) ha1 h12 h23 h34 h45 hm_55 hm_50 hm_51 hm_52 hm_53 hm_54 os pl wa pr de, (kp_up (kp_new (kp_up (kp_new (kp_up (kp_up (kp_up (kp_new (kp_up (kp_new (kp_up (kp_up (kp_new kp_rf hf_q_1 _) _) _) hf_q_8 _) _) hf_q_15 _) _) _) _) hf_q_32 _) _) hf_q_43 _) _)⟩
