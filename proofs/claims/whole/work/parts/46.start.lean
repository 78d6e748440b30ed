/-! ===== what the start gives ===== -/
theorem st_T {args : Array Value} {s : State} (h : ∀ w ∈ lw_tbl, w.before args s = true) : ∀ w ∈ pw_T, w.before args s = true := fun w hw => h w (List.mem_filter.mp hw).1
theorem st_str {args : Array Value} {s : State} {k : Nat} {tx : String} (h1 : (Cond.stringRef RX1 k tx).before args s = true) (h2 : (Cond.exactly (.string RX1 k) "java/lang/String").before args s = true) : ∃ sa : Nat, vk_R RX1 k tx sa s := by
  obtain ⟨a, c, cell, k9, ha, -⟩ := Cond.exactly_spec h2
  exact ⟨a, vk_R.of h1 ha⟩
theorem st_arr {args : Array Value} {s : State} {ty : FieldType} (h : (Cond.arrayClass ty).before args s = true) : ∃ cA : ClassId, ArrOfT s cA ty ∧ s.vm.findClass ("[" ++ ty.toString) = some cA := by
  obtain ⟨cA, kA, comp, h1, h2, h3⟩ := Cond.arrayClass_spec h
  exact ⟨cA, fun n z => ⟨fun k h => (by cases h), kA, h2, comp, h3⟩, h1⟩
theorem st_arq {args : Array Value} {s : State} {C : String} (h : (Cond.arrayOver (.object C)).before args s = true) : ∃ cA : ClassId, ArrOfT s cA (.object C) ∧ va_RA s cA (.object C) := by
  obtain ⟨comp, cA, kA, h1, h2, h3, h4, h5⟩ := Cond.arrayOver_spec h
  exact ⟨cA, fun n z => ⟨fun k h => (by cases h), kA, h3, comp, h4⟩, kA, comp, h3, h4, h1, h5⟩
theorem st_ncs {args : Array Value} {s : State} (h : (Jvm.Cond.and given_1 narrow_1).before args s = true) : ∀ q ∈ pw_ncs, va_Nc q.1 q.2 s := by
  have hs := flat_of_before _ h
  have hm : pw_ncs.all (fun q => decide (Cond.not (.castable q.1 q.2) ∈ flatC (Jvm.Cond.and given_1 narrow_1))) = true := by decide +kernel
  intro q hq
  exact va_Nc.of (hs _ (of_decide_eq_true (List.all_eq_true.mp hm q hq)))
theorem st_strs {args : Array Value} {s : State} (h : (Jvm.Cond.and given_1 narrow_1).before args s = true) (ht : ∀ w ∈ lw_tbl, w.before args s = true) : ∀ q ∈ pw_strs, ∃ sa : Nat, vk_R RX1 q.1 q.2 sa s := by
  have hs := flat_of_before _ h
  have hm : pw_strs.all (fun q => decide (Cond.exactly (.string RX1 q.1) "java/lang/String" ∈ flatC (Jvm.Cond.and given_1 narrow_1))) = true := by decide +kernel
  have hm2 : pw_strs.all (fun q => decide (Cond.stringRef RX1 q.1 q.2 ∈ lw_tbl)) = true := by decide +kernel
  intro q hq
  exact st_str (ht _ (of_decide_eq_true (List.all_eq_true.mp hm2 q hq))) (hs _ (of_decide_eq_true (List.all_eq_true.mp hm q hq)))
theorem st_ex {args : Array Value} {s : State} (ht : ∀ w ∈ lw_tbl, w.before args s = true) : ∀ E ∈ pw_ex, va_Nw (.castable E E) s := by
  have hm : pw_ex.all (fun E => decide (Cond.castable E E ∈ lw_tbl)) = true := by decide +kernel
  intro E hE
  exact va_Nw.of rfl (ht _ (of_decide_eq_true (List.all_eq_true.mp hm E hE)))
theorem st_dc {args : Array Value} {s : State} (ht : ∀ w ∈ lw_tbl, w.before args s = true) : ∀ Y ∈ pw_dc, va_Nw (.declares ⟨Y, "<init>", "(Ljava/lang/String;)V"⟩) s := by
  have hm : pw_dc.all (fun Y => decide (Cond.declares ⟨Y, "<init>", "(Ljava/lang/String;)V"⟩ ∈ lw_tbl)) = true := by decide +kernel
  intro Y hY
  exact va_Nw.of rfl (ht _ (of_decide_eq_true (List.all_eq_true.mp hm Y hY)))
theorem st_K {p : Program} {s : State} {m : MethodId} {meth : Method} {c : Code} {b L : Nat} {xs : Nat → Int32} (C0 : lw_At p s m meth c b L xs) : ∃ (D : va_G) (cA : Nat → ClassId), pw_K (D, s.heap, cA, b, L, xs) s := by
  obtain ⟨hx, hb, hr, hml, hown, hts, hX, hbl, hlocks, hgv⟩ := C0
  have hs := flat_of_before _ hgv
  have hT := st_T hts
  obtain ⟨c0, i0, hK0⟩ := u_known (C := RX0) (T := TX0) (N := 6) (n := 6) hT inT_0 (hts (.instantiable RX0 6) (by decide +kernel))
  obtain ⟨c1, i1, hK1⟩ := u_known (C := RX1) (T := TX1) (N := 8) (n := 8) hT inT_1 (hts (.instantiable RX1 8) (by decide +kernel))
  obtain ⟨c2, i2, hK2⟩ := u_known (C := RX2) (T := TX2) (N := 13) (n := 13) hT inT_2 (hts (.instantiable RX2 13) (by decide +kernel))
  obtain ⟨a0, hA0, hN0⟩ := st_arr (hts (.arrayClass .int) (by decide +kernel))
  obtain ⟨a1, hA1, hN1⟩ := st_arr (hts (.arrayClass .boolean) (by decide +kernel))
  obtain ⟨a2, hA2, hN2⟩ := st_arq (hts (.arrayOver (.object RX0)) (by decide +kernel))
  obtain ⟨a3, hA3, hN3⟩ := st_arr (hts (.arrayClass .long) (by decide +kernel))
  refine ⟨(fun k => if k = 0 then c0 else if k = 1 then c1 else c2, fun k => if k = 0 then i0 else if k = 1 then i1 else i2), fun k => if k = 0 then a0 else if k = 1 then a1 else if k = 2 then a2 else a3, ⟨?_, ?_⟩, va_AO.of (hts (.arrayOver (.object RX0)) (by decide +kernel)), va_Nw.of rfl (hts (.methodLinkNest RX0 49 yX1_sum RX1) (by decide +kernel)), vx_Zqof (hts (.laysStatic Bundle.tN "UNASSIGNED_STACK" Bundle.steD) (by decide +kernel)) (hts (.initialized Bundle.tN) (by decide +kernel)) (hs (.isRef (.static Bundle.tN "UNASSIGNED_STACK" Bundle.steD)) (by decide +kernel)) (fun a ha h => absurd h (Nat.not_le.mpr ha)), vx_Zqof (hts (.laysStatic Bundle.tN "SUPPRESSED_SENTINEL" Bundle.listD) (by decide +kernel)) (hts (.initialized Bundle.tN) (by decide +kernel)) (hs (.isRef (.static Bundle.tN "SUPPRESSED_SENTINEL" Bundle.listD)) (by decide +kernel)) (fun a ha h => absurd h (Nat.not_le.mpr ha)), st_strs hgv hts, st_ncs hgv, hX, hbl, st_ex hts, st_dc hts⟩
  · intro k q hq
    match k, hq with
    | 0, hq => cases hq; exact hK0
    | 1, hq => cases hq; exact hK1
    | 2, hq => cases hq; exact hK2
    | k + 3, hq => simp [pw_cl] at hq
  · intro k q hq
    match k, hq with
    | 0, hq => cases hq; exact ⟨hA0, hN0⟩
    | 1, hq => cases hq; exact ⟨hA1, hN1⟩
    | 2, hq => cases hq; exact ⟨hA2, hN2⟩
    | 3, hq => cases hq; exact ⟨hA3, hN3⟩
    | k + 4, hq => simp [pw_tys] at hq
/-- from the entry, for every script of at most 2049 ints, the law comes to its end with true -/
theorem whole_start {p : Program} {e : Env} {s : State} {m : MethodId} {below : List Frame} {meth : Method} {c : Code} (l : Launch) (hl : l.stackTraces = false) {b L : Nat} {xs : Nat → Int32} (hL : L ≤ 2049) (C0 : lw_At p s m meth c b L xs) : W p l e room_1 s m #[Value.ref b] below meth c s.heap [] 0 0 (lw_Z below #[Value.ref b] s) (entryFrame m ([Value.ref b] : List Value).toArray 7) := by
  obtain ⟨D, cA, hK⟩ := st_K C0
  obtain ⟨hx, hb, hr, hml, hown, hts, hX, hbl, hlocks, hgv⟩ := C0
  have hCx : pw_Cx p l s m #[Value.ref b] meth c (D, s.heap, cA, b, L, xs) cL_law 7 RL := ⟨hx, hb, hml, hown, st_T hts, hK, hl, hlocks, Nat.le_refl _, fun _ _ => rfl⟩
  have hlv := lv_entry ([.ref b]) (n := 7) (Nat.le_of_ble_eq_true rfl)
  rw [lg_entry_eq]
  exact lw_begin l hl (D, s.heap, cA, b, L, xs) hCx hr hlocks rfl hL (Nat.lt_of_le_of_lt hL (by decide)) s.heap [] _ ⟨Nat.le_refl _, fun _ _ => rfl, fun a e9 h => by cases h⟩ (fun _ h => by cases h) hlv
