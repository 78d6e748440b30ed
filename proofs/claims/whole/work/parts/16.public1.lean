/-! ===== the wall's public methods: when each is refused ===== -/
section PWL
variable {p : Program} {l : Launch} {e : Env} {R : Room} {s : State} {m : MethodId} {args : Array Value} {below : List Frame} {meth : Method} {c : Code} {Q : State → Prop} {G : pw_G} {cc : ByteArray} {nL : Nat} {own : String} {M : pw_M} {cells slots pc : Nat} {lv : List (Nat × Value)} {st : List Value}
theorem pw_ldc (X : pw_Cx p l s m args meth c G cc nL own) {index : Nat} {v : Int32} (hd : decode cc pc = .ok (.ldc index, 2)) (hw : Cond.constant own index v ∈ pw_T) (kk : pw_W p l e R s m args below meth c Q G nL M cells slots (pc + 2) lv (.int v :: st)) : pw_W p l e R s m args below meth c Q G nL M cells slots pc lv st := fun H locs ls h1 h2 h3 => lv_ldc X.1 X.2.1 X.2.2.2.1 (X.2.2.2.2.1 _ hw) hd (kk H locs ls h1 h2 h3)
end PWL
def ix (x : Int32) : Nat := x.toNatClampNeg
theorem ix_nI {j : Nat} (h : j < 2 ^ 31) : ix (nI j) = j := nI_clamp h
theorem pc1_0 {A : Prop} (a : ¬ A) : pc_if A 1 0 = 0 := pc_f a
theorem pc1_1 {A : Prop} (a : A) : pc_if A 1 0 = 1 := pc_t a
theorem pc2_0 {A B : Prop} (a : ¬ A) (b : ¬ B) : pc_if A 1 (pc_if B 2 0) = 0 := by rw [pc_f a, pc_f b]
theorem pc2_2 {A B : Prop} (a : ¬ A) (b : B) : pc_if A 1 (pc_if B 2 0) = 2 := by rw [pc_f a, pc_t b]
theorem pc3_0 {A B C : Prop} (a : ¬ A) (b : ¬ B) (c : ¬ C) : pc_if A 1 (pc_if B 2 (pc_if C 3 0)) = 0 := by rw [pc_f a, pc_f b, pc_f c]
theorem pc3_2 {A B : Prop} {x : Int32} (a : ¬ A) (b : B) : pc_if A 1 (pc_if B 2 x) = 2 := by rw [pc_f a, pc_t b]
theorem pc3_3 {A B C : Prop} (a : ¬ A) (b : ¬ B) (c : C) : pc_if A 1 (pc_if B 2 (pc_if C 3 0)) = 3 := by rw [pc_f a, pc_f b, pc_t c]
theorem pc5_0 {A B C D F : Prop} (a : ¬ A) (b : ¬ B) (c : ¬ C) (d : ¬ D) (f : ¬ F) : pc_if A 1 (pc_if B 2 (pc_if C 1 (pc_if D 2 (pc_if F 3 0)))) = 0 := by rw [pc_f a, pc_f b, pc_f c, pc_f d, pc_f f]
theorem pc5_3 {A B C : Prop} {x : Int32} (a : ¬ A) (b : ¬ B) (c : C) : pc_if A 1 (pc_if B 2 (pc_if C 1 x)) = 1 := by rw [pc_f a, pc_f b, pc_t c]
theorem pc5_4 {A B C D : Prop} {x : Int32} (a : ¬ A) (b : ¬ B) (c : ¬ C) (d : D) : pc_if A 1 (pc_if B 2 (pc_if C 1 (pc_if D 2 x))) = 2 := by rw [pc_f a, pc_f b, pc_f c, pc_t d]
theorem pc5_5 {A B C D F : Prop} (a : ¬ A) (b : ¬ B) (c : ¬ C) (d : ¬ D) (f : F) : pc_if A 1 (pc_if B 2 (pc_if C 1 (pc_if D 2 (pc_if F 3 0)))) = 3 := by rw [pc_f a, pc_f b, pc_f c, pc_f d, pc_t f]
noncomputable def cd_tote (p0 p1 : Int32) : Int32 := pc_if (¬ (ir p0 10 ∧ 1 ≤ p1 ∧ p1 ≤ 100)) 1 0
noncomputable def cd_order (oc : Nat) : Int32 := pc_if (oc = 20) 1 0
noncomputable def cd_line (oc : Nat) (os : Nat → Int32) (wa : Nat → Nat → Int32) (p0 p1 p2 : Int32) : Int32 := pc_if (¬ ir p0 oc) 1 (pc_if (¬ (ir p1 10 ∧ 1 ≤ p2 ∧ p2 ≤ 9)) 2 (pc_if (¬ (os (ix p0) = 0 ∧ ¬ 0 < wa (ix p0) (ix p1))) 3 0))
noncomputable def cd_cell (oc : Nat) (os : Nat → Int32) (wa : Nat → Nat → Int32) (p0 : Int32) : Int32 := pc_if (¬ ir p0 oc) 1 (pc_if (¬ (os (ix p0) = 0 ∧ 0 < od_ct (od_has (wa (ix p0))) 10)) 2 0)
noncomputable def cd_light (n : Nat) (p0 : Int32) : Int32 := pc_if (¬ ir p0 n) 1 0
noncomputable def cd_scan (n : Nat) (p0 p1 p2 : Int32) : Int32 := pc_if (¬ ir p0 n) 1 (pc_if (¬ (ir p1 10 ∧ ir p2 8)) 2 0)
def ud (oo : Nat → Option Nat) (os : Nat → Int32) (pr : Nat → Nat → Int32) (c g : Nat) : Prop := ∀ j, oo c = some j → os j = 2 ∨ pr j g = 0
noncomputable def cd_undo (n : Nat) (oo : Nat → Option Nat) (os : Nat → Int32) (pr : Nat → Nat → Int32) (p0 p1 : Int32) : Int32 := pc_if (¬ ir p0 n) 1 (pc_if (¬ ir p1 10) 2 (pc_if (ud oo os pr (ix p0) (ix p1)) 3 0))
noncomputable def cd_miss (oc : Nat) (os : Nat → Int32) (wa pr : Nat → Nat → Int32) (p0 p1 p2 : Int32) : Int32 := pc_if (¬ ir p0 oc) 1 (pc_if (¬ ir p1 10) 2 (pc_if (¬ 0 < wa (ix p0) (ix p1)) 1 (pc_if (¬ (0 ≤ p2 ∧ p2 ≤ 10000)) 2 (pc_if (¬ (os (ix p0) = 1 ∧ 0 < wa (ix p0) (ix p1) - pr (ix p0) (ix p1))) 3 0))))
noncomputable def cd_day (td p0 : Int32) : Int32 := pc_if (¬ (0 ≤ p0 ∧ p0 ≤ 10000)) 1 (pc_if (p0 < td) 2 0)
noncomputable def cd_change (oc : Nat) (os : Nat → Int32) (wa : Nat → Nat → Int32) (p0 p1 p2 : Int32) : Int32 := pc_if (¬ ir p0 oc) 1 (pc_if (¬ ir p1 10) 2 (pc_if (¬ 0 < wa (ix p0) (ix p1)) 1 (pc_if (¬ (0 ≤ p2 ∧ p2 ≤ 9)) 2 (pc_if (¬ ((os (ix p0) = 0 ∨ os (ix p0) = 1) ∧ ¬ (p2 = 0 ∧ os (ix p0) = 1 ∧ od_ct (od_has (wa (ix p0))) 10 = 1))) 3 0))))
noncomputable def cd_complete (oc : Nat) (os : Nat → Int32) (p0 : Int32) : Int32 := pc_if (¬ ir p0 oc) 1 (pc_if (¬ os (ix p0) = 1) 2 0)
noncomputable def cd_release (n : Nat) (oo : Nat → Option Nat) (p0 : Int32) : Int32 := pc_if (¬ ir p0 n) 1 (pc_if (oo (ix p0) = none) 2 0)
noncomputable def cd_seed (p0 : Int32) : Int32 := pc_if (¬ 0 ≤ p0) 1 0
noncomputable def cd_told (oc : Nat) (p0 p1 : Int32) : Int32 := pc_if (¬ ir p0 oc) 1 (pc_if (¬ ir p1 6) 2 0)
noncomputable def cd_piece (oc : Nat) (wa : Nat → Nat → Int32) (p0 p1 p2 : Int32) : Int32 := pc_if (¬ ir p0 oc) 1 (pc_if (¬ ir p1 10) 2 (pc_if (¬ 0 < wa (ix p0) (ix p1)) 1 (pc_if (¬ ir p2 3) 2 0)))
noncomputable def cd_errors (p0 : Int32) : Int32 := pc_if (¬ ir p0 8) 1 0
/-- the answer of a scan into the cell of the order j -/
noncomputable def sc_r (dkc w p s t : Int32) : Int32 := pc_if (¬ dkc = 0) (-2) (pc_if (¬ 0 < w) (-3) (pc_if (w - p = 0 ∨ s = 2) (-4) (pc_if (t = 0) (-5) 1)))
theorem pw_ld (f : Nat → Int32) (k : Nat) (x : Int32) : upd f k x k = x := if_pos rfl
set_option maxHeartbeats 4000000 in
set_option maxRecDepth 100000 in
theorem cp_tote (l : Launch) (hl : l.stackTraces = false) (G : pw_G) (M : pw_M) (ad : Nat → Nat) (n oc : Nat) (td sd : Int32) (dk to er : Nat → Int32) (os pl : Nat → Int32) (oo : Nat → Option Nat) (wa pr de : Nat → Nat → Int32) (hc : cw G ad n oc td sd dk to er os pl oo wa pr de M) (p0 p1 : Int32) : pw_XMet l yX1_tote cX1_tote 3 (some .int) 3 2 12 G [.ref (ad 0), .int p0, .int p1] M (fun v9 M9 => cd_tote p0 p1 = 0 ∧ v9 = some (.int (to (ix p0) + p1)) ∧ cw G ad n oc td sd dk (upd to (ix p0) (to (ix p0) + p1)) er os pl oo wa pr de M9 ∧ fm ad (6 + 4 * oc) M M9) (fun E9 M9 => M = M9 ∧ (E9 = "java/lang/IllegalArgumentException" ∧ cd_tote p0 p1 = 1)) := by
  refine pw_ofx hl (by decide +kernel) (Nat.le_of_ble_eq_true rfl) [(0, .ref (ad 0)), (1, .int p0), (2, .int p1)] rfl ?_
  intro p9 e9 s9 m9 args9 below9 meth9 c9 hX hrt hex
  refine pw_iload_n (pc := 0) hX dX1_tote_0 1 rfl ?_
  refine pw_callSx (pc := 1) (st := []) hX (ct_requireGood l hl G M p0) ok_X1_requireGood lk_RX1_48 dX1_tote_1 rfl ⟨⟨by decide, by decide⟩, Nat.le_of_ble_eq_true rfl, Nat.le_of_ble_eq_true rfl, Nat.le_of_ble_eq_true rfl⟩ rfl (fun E9 M9 hx9 => ?_) (fun v9 M9 hp9 => ?_)
  · obtain ⟨rfl, rfl, hno⟩ := hx9
    exact pw_out hX hex ⟨Nat.le_of_ble_eq_true rfl, Nat.le_of_ble_eq_true rfl⟩ (⟨rfl, rfl, pc1_1 (fun h => hno h.1)⟩)
  obtain ⟨rfl, rfl, g, hg, rfl⟩ := hp9
  have hgB : g < 2 ^ 31 := Nat.lt_of_lt_of_le hg (by decide)
  refine pw_iload_n (pc := 4) hX dX1_tote_4 2 rfl ?_
  refine pw_iconst (pc := 5) (v := 1) hX dX1_tote_5 (by decide) ?_
  refine pw_bipush (pc := 6) (v := 100) hX dX1_tote_6 (by decide) ?_
  refine pw_callSx (pc := 8) (st := []) hX (ct_requireRange l hl G M p1 1 100) ok_X1_requireRange lk_RX1_52 dX1_tote_8 rfl ⟨⟨by decide, by decide⟩, Nat.le_of_ble_eq_true rfl, Nat.le_of_ble_eq_true rfl, Nat.le_of_ble_eq_true rfl⟩ rfl (fun E9 M9 hx9 => ?_) (fun v9 M9 hp9 => ?_)
  · obtain ⟨rfl, rfl, hno⟩ := hx9
    exact pw_out hX hex ⟨Nat.le_of_ble_eq_true rfl, Nat.le_of_ble_eq_true rfl⟩ (⟨rfl, rfl, pc1_1 (fun h => hno h.2)⟩)
  obtain ⟨rfl, rfl, hlo, hhi⟩ := hp9
  refine pw_aload_n (pc := 11) hX dX1_tote_11 0 rfl ?_
  refine pw_get (pc := 12) hX dX1_tote_12 hc.1 rfl inT_1 4 (by decide) fl_RX1_19 rfl ?_
  refine pw_iload_n (pc := 15) hX dX1_tote_15 1 rfl ?_
  refine pw_dup2 (pc := 16) hX dX1_tote_16 rfl rfl ?_
  refine pw_iald (pc := 17) (j := g) hX dX1_tote_17 hc.2.2.2.2.1 hg (by decide) ?_
  refine pw_iload_n (pc := 18) hX dX1_tote_18 2 rfl ?_
  refine pw_iadd (pc := 19) (z := (to g) + p1) hX dX1_tote_19 rfl ?_
  refine pw_iast (pc := 20) (j := g) hX dX1_tote_20 hc.2.2.2.2.1 hg (by decide) ?_
  have hm_1 := pw_ke (a := ad 4) (e := .inl (G.2.2.1 0, 10, .inl (upd to g ((to g) + p1)))) hc.1 (cw_ne hc (x := 0) (y := 4) (by omega) (by omega) (by omega))
  have hm_2 := pw_ke (a := ad 4) (e := .inl (G.2.2.1 0, 10, .inl (upd to g ((to g) + p1)))) hc.2.1 (cw_ne hc (x := 1) (y := 4) (by omega) (by omega) (by omega))
  have hm_3 := pw_ke (a := ad 4) (e := .inl (G.2.2.1 0, 10, .inl (upd to g ((to g) + p1)))) hc.2.2.1 (cw_ne hc (x := 2) (y := 4) (by omega) (by omega) (by omega))
  have hm_4 := pw_ke (a := ad 4) (e := .inl (G.2.2.1 0, 10, .inl (upd to g ((to g) + p1)))) hc.2.2.2.1 (cw_ne hc (x := 3) (y := 4) (by omega) (by omega) (by omega))
  have hm_5 := pw_ke (a := ad 4) (e := .inl (G.2.2.1 0, 10, .inl (upd to g ((to g) + p1)))) hc.2.2.2.2.2.1 (cw_ne hc (x := 5) (y := 4) (by omega) (by omega) (by omega))
  have hm_6 : pw_up M (ad 4) (.inl (G.2.2.1 0, 10, .inl (upd to g ((to g) + p1)))) (ad 4) = some (.inl (G.2.2.1 0, 10, .inl (upd to g ((to g) + p1)))) := pw_us
  refine pw_aload_n (pc := 21) hX dX1_tote_21 0 rfl ?_
  refine pw_get (pc := 22) hX dX1_tote_22 hm_1 rfl inT_1 4 (by decide) fl_RX1_19 rfl ?_
  refine pw_iload_n (pc := 25) hX dX1_tote_25 1 rfl ?_
  refine pw_iald (pc := 26) (j := g) hX dX1_tote_26 hm_6 hg (by decide) ?_
  exact pw_iretx hX dX1_tote_27 hrt ⟨by decide, by decide⟩ (by rw [ix_nI hgB]; exact ⟨pc1_0 (fun h => h ⟨ir_nI hg, hlo, hhi⟩), congrArg some (congrArg Value.int (pw_ld _ _ _)), (cw_to hc _), (fm_up fm_rf (x := 4) (by omega) _)⟩)
set_option maxHeartbeats 4000000 in
set_option maxRecDepth 100000 in
theorem cp_line (l : Launch) (hl : l.stackTraces = false) (G : pw_G) (M : pw_M) (ad : Nat → Nat) (n oc : Nat) (td sd : Int32) (dk to er : Nat → Int32) (os pl : Nat → Int32) (oo : Nat → Option Nat) (wa pr de : Nat → Nat → Int32) (hc : cw G ad n oc td sd dk to er os pl oo wa pr de M) (p0 p1 p2 : Int32) : pw_XMet l yX1_line cX1_line 5 none 3 4 24 G [.ref (ad 0), .int p0, .int p1, .int p2] M (fun v9 M9 => cd_line oc os wa p0 p1 p2 = 0 ∧ v9 = none ∧ cw G ad n oc td sd dk to er os pl oo (va_up wa (ix p0) (upd (wa (ix p0)) (ix p1) p2)) pr de M9 ∧ fm ad (6 + 4 * oc) M M9) (fun E9 M9 => M = M9 ∧ (E9 = "java/util/NoSuchElementException" ∧ cd_line oc os wa p0 p1 p2 = 1 ∨ E9 = "java/lang/IllegalArgumentException" ∧ cd_line oc os wa p0 p1 p2 = 2 ∨ E9 = "java/lang/IllegalStateException" ∧ cd_line oc os wa p0 p1 p2 = 3)) := by
  refine pw_ofx hl (by decide +kernel) (Nat.le_of_ble_eq_true rfl) [(0, .ref (ad 0)), (1, .int p0), (2, .int p1), (3, .int p2)] rfl ?_
  intro p9 e9 s9 m9 args9 below9 meth9 c9 hX hrt hex
  refine pw_aload_n (pc := 0) hX dX1_line_0 0 rfl ?_
  refine pw_iload_n (pc := 1) hX dX1_line_1 1 rfl ?_
  refine pw_callVx (pc := 2) (st := []) hX (ct_existing l hl G M ad n oc td sd dk to er os pl oo wa pr de hc p0) hc.1 rfl ok_X1_existing lk_RX1_65 dX1_line_2 rfl ⟨⟨by decide, by decide⟩, Nat.le_of_ble_eq_true rfl, Nat.le_of_ble_eq_true rfl, Nat.le_of_ble_eq_true rfl⟩ rfl (fun E9 M9 hx9 => ?_) (fun v9 M9 hp9 => ?_)
  · obtain ⟨rfl, rfl, hno⟩ := hx9
    exact pw_out hX hex ⟨Nat.le_of_ble_eq_true rfl, Nat.le_of_ble_eq_true rfl⟩ (⟨rfl, Or.inl (⟨rfl, pc_t hno⟩)⟩)
  obtain ⟨rfl, j, hj, rfl, rfl⟩ := hp9
  have hjB : j < 2 ^ 31 := Nat.lt_of_lt_of_le hj (Nat.le_trans (cw_oc hc) (by decide))
  refine pw_astore (pc := 5) hX [(4, .ref (ad (6 + 4 * j))), (0, .ref (ad 0)), (1, .int (nI j)), (2, .int p1), (3, .int p2)] dX1_line_5 (by decide) rfl ?_
  refine pw_iload_n (pc := 7) hX dX1_line_7 3 rfl ?_
  refine pw_callSx (pc := 8) (st := []) hX (ct_requireGood l hl G M p1) ok_X1_requireGood lk_RX1_48 dX1_line_8 rfl ⟨⟨by decide, by decide⟩, Nat.le_of_ble_eq_true rfl, Nat.le_of_ble_eq_true rfl, Nat.le_of_ble_eq_true rfl⟩ rfl (fun E9 M9 hx9 => ?_) (fun v9 M9 hp9 => ?_)
  · obtain ⟨rfl, rfl, hno⟩ := hx9
    exact pw_out hX hex ⟨Nat.le_of_ble_eq_true rfl, Nat.le_of_ble_eq_true rfl⟩ (⟨rfl, Or.inr (Or.inl (⟨rfl, pc3_2 (fun h => h (ir_nI hj)) (fun h => hno h.1)⟩))⟩)
  obtain ⟨rfl, rfl, g, hg, rfl⟩ := hp9
  have hgB : g < 2 ^ 31 := Nat.lt_of_lt_of_le hg (by decide)
  refine pw_iload_n (pc := 11) hX dX1_line_11 4 rfl ?_
  refine pw_iconst (pc := 12) (v := 1) hX dX1_line_12 (by decide) ?_
  refine pw_bipush (pc := 13) (v := 9) hX dX1_line_13 (by decide) ?_
  refine pw_callSx (pc := 15) (st := []) hX (ct_requireRange l hl G M p2 1 9) ok_X1_requireRange lk_RX1_52 dX1_line_15 rfl ⟨⟨by decide, by decide⟩, Nat.le_of_ble_eq_true rfl, Nat.le_of_ble_eq_true rfl, Nat.le_of_ble_eq_true rfl⟩ rfl (fun E9 M9 hx9 => ?_) (fun v9 M9 hp9 => ?_)
  · obtain ⟨rfl, rfl, hno⟩ := hx9
    exact pw_out hX hex ⟨Nat.le_of_ble_eq_true rfl, Nat.le_of_ble_eq_true rfl⟩ (⟨rfl, Or.inr (Or.inl (⟨rfl, pc3_2 (fun h => h (ir_nI hj)) (fun h => hno h.2)⟩))⟩)
  obtain ⟨rfl, rfl, hlo, hhi⟩ := hp9
  refine pw_aload (pc := 18) hX dX1_line_18 0 rfl ?_
  refine pw_get (pc := 20) hX dX1_line_20 (cw_o hc j hj).1 rfl inT_0 1 (by decide) fl_RX1_69 rfl ?_
  refine pw_if_ne (pc := 23) hX 39 dX1_line_23 (by decide) (fun hc_1 => ?_) (fun hc_1 => ?_)
  · refine pw_iconst (pc := 39) (v := 0) hX dX1_line_39 (by decide) ?_
    refine pw_callSx (pc := 40) (st := []) hX (ct_requireState l hl G M 0) ok_X1_requireState lk_RX1_76 dX1_line_40 rfl ⟨⟨by decide, by decide⟩, Nat.le_of_ble_eq_true rfl, Nat.le_of_ble_eq_true rfl, Nat.le_of_ble_eq_true rfl⟩ rfl (fun E9 M9 hx9 => ?_) (fun v9 M9 hp9 => absurd rfl hp9.2.2)
    obtain ⟨rfl, rfl, -⟩ := hx9
    exact pw_out hX hex ⟨Nat.le_of_ble_eq_true rfl, Nat.le_of_ble_eq_true rfl⟩ ⟨rfl, Or.inr (Or.inr (⟨rfl, pc3_3 (fun h => h (ir_nI hj)) (fun h => h ⟨ir_nI hg, hlo, hhi⟩) (fun h => by rw [ix_nI hjB, ix_nI hgB] at h; exact hc_1 h.1)⟩))⟩
  · refine pw_aload (pc := 26) hX dX1_line_26 0 rfl ?_
    refine pw_iload_n (pc := 28) hX dX1_line_28 3 rfl ?_
    refine pw_callV (pc := 29) (st := []) hX (ct_hasLine l hl G M (ad (6 + 4 * j)) (ad (7 + 4 * j)) (ad (8 + 4 * j)) (ad (9 + 4 * j)) (nI j) (os j) (pl j) (wa j) (pr j) (de j) (cw_o hc j hj) g hg) (cw_o hc j hj).1 rfl ok_X0_hasLine lk_RX1_72 dX1_line_29 rfl ⟨⟨by decide, by decide⟩, Nat.le_of_ble_eq_true rfl, Nat.le_of_ble_eq_true rfl, Nat.le_of_ble_eq_true rfl⟩ rfl (fun v9 M9 hp9 => ?_)
    obtain ⟨rfl, rfl⟩ := hp9
    refine pw_if_ne (pc := 32) hX 39 dX1_line_32 (by decide) (fun hc_2 => ?_) (fun hc_2 => ?_)
    · refine pw_iconst (pc := 39) (v := 0) hX dX1_line_39 (by decide) ?_
      refine pw_callSx (pc := 40) (st := []) hX (ct_requireState l hl G M 0) ok_X1_requireState lk_RX1_76 dX1_line_40 rfl ⟨⟨by decide, by decide⟩, Nat.le_of_ble_eq_true rfl, Nat.le_of_ble_eq_true rfl, Nat.le_of_ble_eq_true rfl⟩ rfl (fun E9 M9 hx9 => ?_) (fun v9 M9 hp9 => absurd rfl hp9.2.2)
      obtain ⟨rfl, rfl, -⟩ := hx9
      exact pw_out hX hex ⟨Nat.le_of_ble_eq_true rfl, Nat.le_of_ble_eq_true rfl⟩ ⟨rfl, Or.inr (Or.inr (⟨rfl, pc3_3 (fun h => h (ir_nI hj)) (fun h => h ⟨ir_nI hg, hlo, hhi⟩) (fun h => by rw [ix_nI hjB, ix_nI hgB] at h; exact h.2 (pw_ite1 hc_2))⟩))⟩
    · refine pw_iconst (pc := 35) (v := 1) hX dX1_line_35 (by decide) ?_
      refine pw_goto (pc := 36) hX 40 dX1_line_36 (by decide) ?_
      refine pw_callSx (pc := 40) (st := []) hX (ct_requireState l hl G M 1) ok_X1_requireState lk_RX1_76 dX1_line_40 rfl ⟨⟨by decide, by decide⟩, Nat.le_of_ble_eq_true rfl, Nat.le_of_ble_eq_true rfl, Nat.le_of_ble_eq_true rfl⟩ rfl (fun E9 M9 hx9 => ?_) (fun v9 M9 hp9 => ?_)
      · obtain ⟨rfl, rfl, hz⟩ := hx9
        exact absurd hz (by decide)
      obtain ⟨rfl, rfl, -⟩ := hp9
      refine pw_aload (pc := 43) hX dX1_line_43 0 rfl ?_
      refine pw_get (pc := 45) hX dX1_line_45 (cw_o hc j hj).1 rfl inT_0 3 (by decide) fl_RX1_80 rfl ?_
      refine pw_iload_n (pc := 48) hX dX1_line_48 3 rfl ?_
      refine pw_iload_n (pc := 49) hX dX1_line_49 4 rfl ?_
      refine pw_iast (pc := 50) (j := g) hX dX1_line_50 (cw_o hc j hj).2.1 hg (by decide) ?_
      have hm_3 := pw_ke (a := ad (7 + 4 * j)) (e := .inl (G.2.2.1 0, 10, .inl (upd (wa j) g p2))) hc.1 (cw_ne hc (x := 0) (y := 7 + 4 * j) (by omega) (by omega) (by omega))
      have hm_4 := pw_ke (a := ad (7 + 4 * j)) (e := .inl (G.2.2.1 0, 10, .inl (upd (wa j) g p2))) hc.2.1 (cw_ne hc (x := 1) (y := 7 + 4 * j) (by omega) (by omega) (by omega))
      have hm_5 := pw_ke (a := ad (7 + 4 * j)) (e := .inl (G.2.2.1 0, 10, .inl (upd (wa j) g p2))) hc.2.2.1 (cw_ne hc (x := 2) (y := 7 + 4 * j) (by omega) (by omega) (by omega))
      have hm_6 := pw_ke (a := ad (7 + 4 * j)) (e := .inl (G.2.2.1 0, 10, .inl (upd (wa j) g p2))) hc.2.2.2.1 (cw_ne hc (x := 3) (y := 7 + 4 * j) (by omega) (by omega) (by omega))
      have hm_7 := pw_ke (a := ad (7 + 4 * j)) (e := .inl (G.2.2.1 0, 10, .inl (upd (wa j) g p2))) hc.2.2.2.2.1 (cw_ne hc (x := 4) (y := 7 + 4 * j) (by omega) (by omega) (by omega))
      have hm_8 := pw_ke (a := ad (7 + 4 * j)) (e := .inl (G.2.2.1 0, 10, .inl (upd (wa j) g p2))) hc.2.2.2.2.2.1 (cw_ne hc (x := 5) (y := 7 + 4 * j) (by omega) (by omega) (by omega))
      have hm_9 := pw_ke (a := ad (7 + 4 * j)) (e := .inl (G.2.2.1 0, 10, .inl (upd (wa j) g p2))) (cw_o hc j hj).1 (cw_ne hc (x := 6 + 4 * j) (y := 7 + 4 * j) (by omega) (by omega) (by omega))
      have hm_10 := pw_ke (a := ad (7 + 4 * j)) (e := .inl (G.2.2.1 0, 10, .inl (upd (wa j) g p2))) (cw_o hc j hj).2.2.1 (cw_ne hc (x := 8 + 4 * j) (y := 7 + 4 * j) (by omega) (by omega) (by omega))
      have hm_11 := pw_ke (a := ad (7 + 4 * j)) (e := .inl (G.2.2.1 0, 10, .inl (upd (wa j) g p2))) (cw_o hc j hj).2.2.2 (cw_ne hc (x := 9 + 4 * j) (y := 7 + 4 * j) (by omega) (by omega) (by omega))
      have hm_12 : pw_up M (ad (7 + 4 * j)) (.inl (G.2.2.1 0, 10, .inl (upd (wa j) g p2))) (ad (7 + 4 * j)) = some (.inl (G.2.2.1 0, 10, .inl (upd (wa j) g p2))) := pw_us
      exact pw_vretx hX dX1_line_51 hrt ⟨by decide, by decide⟩ (by rw [ix_nI hjB, ix_nI hgB]; exact ⟨pc3_0 (fun h => h (ir_nI hj)) (fun h => h ⟨ir_nI hg, hlo, hhi⟩) (fun h => h (by rw [ix_nI hjB, ix_nI hgB]; exact ⟨hc_1, pw_ite0 hc_2⟩)), rfl, (cw_wa hc j hj _), (fm_up fm_rf (x := 7 + 4 * j) (by omega) _)⟩)
