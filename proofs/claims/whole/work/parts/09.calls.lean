/-! ===== contracts over the map, calls, throws, catches, ends ===== -/
abbrev pw_wd (y : MethodName) (cc : ByteArray) (n : Nat) (ret : Option FieldType) : List Cond := Cond.code y cc n ret :: pw_T
abbrev pw_wh (y : MethodName) (cc : ByteArray) (n : Nat) (ret : Option FieldType) (hh : List (Nat × Nat × Nat × Nat)) : List Cond := Cond.codeWith y cc n ret hh :: pw_T
/-- the room of a method at depth d -/
def pw_rm (d mc ms : Nat) : Room := { frames := 13 - d, cells := mc, slots := ms, locals := 476 - 40 * d }
def pw_pre (G : pw_G) (as : List Value) (M : pw_M) : Array Value → State → Prop := va_Pc as (fun U => pw_hp G M U.heap ∧ pw_K G U)
def pw_po (G : pw_G) (post : Option Value → pw_M → Prop) : Array Value → State → Outcome → State → Prop := fun _ _ oc t => ∃ (v : Option Value) (M9 : pw_M), oc = .returned v ∧ post v M9 ∧ pw_hp G M9 t.heap
def pw_px (G : pw_G) (px : String → pw_M → Prop) : String → State → State → Prop := fun E _ t => ∃ M9 : pw_M, px E M9 ∧ pw_hp G M9 t.heap
/-- a method that returns -/
def pw_Met (l : Launch) (y : MethodName) (cc : ByteArray) (n : Nat) (ret : Option FieldType) (d mc ms : Nat) (G : pw_G) (as : List Value) (M : pw_M) (post : Option Value → pw_M → Prop) : Prop :=
  Met l y (pw_wd y cc n ret) (pw_rm d mc ms) (pw_pre G as M) (pw_po G post) mc ms (pw_A G)
/-- a method that returns or throws -/
def pw_XMet (l : Launch) (y : MethodName) (cc : ByteArray) (n : Nat) (ret : Option FieldType) (d mc ms : Nat) (G : pw_G) (as : List Value) (M : pw_M) (post : Option Value → pw_M → Prop) (px : String → pw_M → Prop) : Prop :=
  vx_Met l y (pw_wd y cc n ret) (pw_rm d mc ms) (pw_pre G as M) (pw_po G post) (pw_px G px) mc ms (pw_A G)
/-- a method with handlers, that returns -/
def pw_HMet (l : Launch) (y : MethodName) (cc : ByteArray) (n : Nat) (ret : Option FieldType) (hh : List (Nat × Nat × Nat × Nat)) (d mc ms : Nat) (G : pw_G) (as : List Value) (M : pw_M) (post : Option Value → pw_M → Prop) : Prop :=
  vx_Met l y (pw_wh y cc n ret hh) (pw_rm d mc ms) (pw_pre G as M) (pw_po G post) (pw_px G (fun _ _ => False)) mc ms (pw_A G)
theorem pw_blind {G : pw_G} {as : List Value} {M : pw_M} : FrameBlind (pw_pre G as M) := fun a U g mk h => ⟨h.1, h.2.1, pw_K.same (s := U) (U := U.calling g mk a) rfl h.2.2⟩
/-- what is said once of a method -/
def pw_ok (y : MethodName) (cc : ByteArray) (n : Nat) (ret : Option FieldType) (k : Nat) : Prop := Cond.code y cc n ret ∈ pw_T ∧ Cond.initialized y.cls ∈ pw_T ∧ y.cls ≠ "java/lang/invoke/MethodHandle" ∧ y.cls ≠ "java/lang/invoke/VarHandle" ∧ (parseMethodDescriptor y.desc).map (fun d => d.parameters.length) = some k ∧ plainName y.cls = true
def pw_okh (y : MethodName) (cc : ByteArray) (n : Nat) (ret : Option FieldType) (hh : List (Nat × Nat × Nat × Nat)) (k : Nat) : Prop := Cond.codeWith y cc n ret hh ∈ pw_T ∧ Cond.initialized y.cls ∈ pw_T ∧ y.cls ≠ "java/lang/invoke/MethodHandle" ∧ y.cls ≠ "java/lang/invoke/VarHandle" ∧ (parseMethodDescriptor y.desc).map (fun d => d.parameters.length) = some k ∧ plainName y.cls = true
theorem pw_len {y : MethodName} {k : Nat} (h : (parseMethodDescriptor y.desc).map (fun d => d.parameters.length) = some k) : ∀ sig, parseMethodDescriptor y.desc = some sig → k = sig.parameters.length := fun sig h9 => by
  rw [h9] at h
  exact (Option.some.inj h).symm
theorem pw_pay {args : Array Value} {s : State} (hts : ∀ w ∈ pw_T, w.before args s = true) {w0 : Cond} (h0 : w0 ∈ pw_T) : ∀ w ∈ w0 :: pw_T, ∀ (a9 : Array Value) (U : State), s.WarmedH U.vm → w.before a9 U = true := by
  intro w hw a9 U hW
  have hw9 : w ∈ pw_T := (List.mem_cons.mp hw).elim (fun e => by rw [e]; exact h0) id
  exact word_at hW (good_of_word (List.mem_filter.mp hw9).2) (hts w hw9)
theorem pw_memT {w : Cond} (h : w ∈ lw_tbl) (g : goodWord w = true) : w ∈ pw_T := List.mem_filter.mpr ⟨h, g⟩
section PWC
variable {p : Program} {l : Launch} {e : Env} {R : Room} {s : State} {m : MethodId} {args : Array Value} {below : List Frame} {meth : Method} {c : Code} {Q : State → Prop} {G : pw_G} {cc : ByteArray} {nL : Nat} {own : String} {M : pw_M} {cells slots pc : Nat} {lv lv' : List (Nat × Value)} {st : List Value}
variable {y : MethodName} {bytes : ByteArray} {maxL d mc ms n index : Nat} {ret : Option FieldType} {post : Option Value → pw_M → Prop} {px : String → pw_M → Prop} {As : List Value} {H : Heap} {locs : List Loc} {ls : Array Slot} {a : Array Value} {st0 : List Value}
theorem pw_fix (X : pw_Cx p l s m args meth c G cc nL own) : CallFix p m c cc nL s args pw_T own := ⟨X.1, X.2.1, X.2.2.1, X.2.2.2.1, X.2.2.2.2.1⟩
theorem pw_cb (X : pw_Cx p l s m args meth c G cc nL own) (hy : pw_ok y bytes maxL ret n) (hl : Cond.methodLink own index y ∈ pw_T) (hR : (pw_rm d mc ms).frames + 1 ≤ R.frames ∧ 8 + (maxL + 11) + (pw_rm d mc ms).locals ≤ R.locals) : CallB R s args own index y bytes maxL ret (pw_wd y bytes maxL ret) (pw_rm d mc ms) mc ms n :=
  ⟨rfl, rfl, hR.1, hR.2, pw_pay X.2.2.2.2.1 hy.1, List.mem_cons_self, X.2.2.2.2.1 _ hy.1, X.2.2.2.2.1 _ hy.2.1, ⟨hy.2.2.1, hy.2.2.2.1⟩, pw_len hy.2.2.2.2.1, X.2.2.2.2.1 _ hl⟩
theorem pw_locs {L : List Loc} (h : ∀ z ∈ locs, pw_A G z.base) (h9 : ∀ z ∈ L, pw_A G z.base) : ∀ z ∈ locs ++ L, pw_A G z.base := fun z hz => (List.mem_append.mp hz).elim (h z) (h9 z)
/-- behind a call that returns -/
theorem pw_go (h2 : ∀ z ∈ locs, pw_A G z.base) (h3 : lv_has ls nL lv) (hr : va_Run p l e R s m args below meth c H locs cells slots mc ms (F0 m pc ls st0) st (pw_po G post a) (pw_A G))
    (kk : ∀ (v : Option Value) (M9 : pw_M), post v M9 → pw_W p l e R s m args below meth c Q G nL M9 (cells + mc) (slots + ms) (pc + 3) lv (v.toList ++ st)) : W p l e R s m args below meth c H locs cells slots Q (F0 m pc ls st0) := by
  intro T hT X
  obtain ⟨v, st₀, t, T9, L, h0, X9, hL, e1, e2, ⟨v9, M9, hv, hp, hh⟩, go⟩ := hr T hT X
  cases hv
  obtain ⟨t2, a1, b1⟩ := kk v M9 hp T9.heap (locs ++ L) ls (by rw [e1]; exact hh) (pw_locs h2 hL) h3 T9 rfl X9
  exact ⟨t2, go t2 a1, b1⟩
/-- behind a call that returns or throws -/
theorem pw_gox (h2 : ∀ z ∈ locs, pw_A G z.base) (h3 : lv_has ls nL lv) (hr : vx_Run p l e R s m args below meth c H locs cells slots mc ms (F0 m pc ls st0) st (pw_po G post a) (pw_px G px) (pw_A G))
    (kx : ∀ (E : String) (M9 : pw_M), px E M9 → pw_X p l e R s m args below meth c Q G nL M9 (cells + mc) (slots + ms) pc lv E)
    (kk : ∀ (v : Option Value) (M9 : pw_M), post v M9 → pw_W p l e R s m args below meth c Q G nL M9 (cells + mc) (slots + ms) (pc + 3) lv (v.toList ++ st)) : W p l e R s m args below meth c H locs cells slots Q (F0 m pc ls st0) := by
  intro T hT X
  rcases hr T hT X with ⟨v, st₀, t, T9, L, h0, X9, hL, e1, e2, ⟨v9, M9, hv, hp, hh⟩, go⟩ | ⟨q, st₀, t, T9, L, E, ce, h0, X9, hL, e1, e2, ⟨M9, hp, hh⟩, hce, hcv, hcl, go⟩
  · cases hv
    obtain ⟨t2, a1, b1⟩ := kk v M9 hp T9.heap (locs ++ L) ls (by rw [e1]; exact hh) (pw_locs h2 hL) h3 T9 rfl X9
    exact ⟨t2, go t2 a1, b1⟩
  · obtain ⟨t2, a1, b1⟩ := kx E M9 hp T9.heap (locs ++ L) ls q ce st (by rw [e1]; exact hh) (pw_locs h2 hL) h3 (by rw [e1]; exact hce) hcv hcl T9 rfl X9
    exact ⟨t2, go.trans a1, b1⟩
theorem pw_recv (X : pw_Cx p l s m args meth c G cc nL own) {b ci : Nat} {fs : List Value} {r : vw_C} (h1 : pw_hp G M H) (hb : M b = some (.inr (ci, fs))) (hc : pw_cl[ci]? = some r) : ∃ cellB : Cell, H[b]? = some cellB ∧ cellB.vm.isStatics = false ∧ s.vm.findClass r.1 = some cellB.cls :=
  va_recv X.2.2.2.2.2.1.1 (h1.P hb) (ci := ci) (q0 := 0) hc rfl
abbrev pw_R9 (R : Room) (d mc ms maxL cells slots : Nat) (st : List Value) : Prop := ((pw_rm d mc ms).frames + 1 ≤ R.frames ∧ 8 + (maxL + 11) + (pw_rm d mc ms).locals ≤ R.locals) ∧ (st.map fun v => v.category).sum ≤ 8 ∧ cells + mc ≤ R.cells ∧ slots + ms ≤ R.slots
/-- a static method of ours -/
theorem pw_callS (X : pw_Cx p l s m args meth c G cc nL own) (hM : pw_Met l y bytes maxL ret d mc ms G As M post) (hy : pw_ok y bytes maxL ret n) (hw : Cond.methodLink own index y ∈ pw_T ∧ Cond.static y ∈ pw_T) (hd : decode cc pc = .ok (.invokestatic index, 3)) (hn : As.length = n) (hR : pw_R9 R d mc ms maxL cells slots st) (hst : st0 = As.reverse ++ st)
    (kk : ∀ (v : Option Value) (M9 : pw_M), post v M9 → pw_W p l e R s m args below meth c Q G nL M9 (cells + mc) (slots + ms) (pc + 3) lv (v.toList ++ st)) : pw_W p l e R s m args below meth c Q G nL M cells slots pc lv st0 := fun H locs ls h1 h2 h3 =>
  pw_go h2 h3 (va_runS (g := F0 m pc ls st0) (pw_fix X) hM ⟨pw_cb X hy hw.1 hR.1, X.2.2.2.2.1 _ hw.2⟩ ⟨pw_blind, fun U hU hW => ⟨rfl, by rw [hU]; exact h1, pw_K.warm hW X.2.2.2.2.2.1⟩⟩ rfl hn h3.1 hst (by show 2 * 0 + _ ≤ 8; have := hR.2.1; omega) hd hR.2.2) kk
theorem pw_callSx (X : pw_Cx p l s m args meth c G cc nL own) (hM : pw_XMet l y bytes maxL ret d mc ms G As M post px) (hy : pw_ok y bytes maxL ret n) (hw : Cond.methodLink own index y ∈ pw_T ∧ Cond.static y ∈ pw_T) (hd : decode cc pc = .ok (.invokestatic index, 3)) (hn : As.length = n) (hR : pw_R9 R d mc ms maxL cells slots st) (hst : st0 = As.reverse ++ st)
    (kx : ∀ (E : String) (M9 : pw_M), px E M9 → pw_X p l e R s m args below meth c Q G nL M9 (cells + mc) (slots + ms) pc lv E)
    (kk : ∀ (v : Option Value) (M9 : pw_M), post v M9 → pw_W p l e R s m args below meth c Q G nL M9 (cells + mc) (slots + ms) (pc + 3) lv (v.toList ++ st)) : pw_W p l e R s m args below meth c Q G nL M cells slots pc lv st0 := fun H locs ls h1 h2 h3 =>
  pw_gox h2 h3 (vx_runS (g := F0 m pc ls st0) (pw_fix X) hM ⟨pw_cb X hy hw.1 hR.1, X.2.2.2.2.1 _ hw.2⟩ ⟨pw_blind, fun U hU hW => ⟨rfl, by rw [hU]; exact h1, pw_K.warm hW X.2.2.2.2.2.1⟩⟩ rfl hn h3.1 hst (by show 2 * 0 + _ ≤ 8; have := hR.2.1; omega) hd hR.2.2) kx kk
/-- a static method with handlers -/
theorem pw_callSh (X : pw_Cx p l s m args meth c G cc nL own) {hh : List (Nat × Nat × Nat × Nat)} (hM : pw_HMet l y bytes maxL ret hh d mc ms G As M post) (hy : pw_okh y bytes maxL ret hh n) (hw : Cond.methodLink own index y ∈ pw_T ∧ Cond.static y ∈ pw_T) (hd : decode cc pc = .ok (.invokestatic index, 3)) (hn : As.length = n) (hR : pw_R9 R d mc ms maxL cells slots st) (hst : st0 = As.reverse ++ st)
    (kk : ∀ (v : Option Value) (M9 : pw_M), post v M9 → pw_W p l e R s m args below meth c Q G nL M9 (cells + mc) (slots + ms) (pc + 3) lv (v.toList ++ st)) : pw_W p l e R s m args below meth c Q G nL M cells slots pc lv st0 := fun H locs ls h1 h2 h3 =>
  pw_gox h2 h3 (vx_runSX (hh := hh) (g := F0 m pc ls st0) (pw_fix X) hM ⟨⟨rfl, rfl, hR.1.1, hR.1.2, pw_pay X.2.2.2.2.1 hy.1, List.mem_cons_self⟩, X.2.2.2.2.1 _ hy.1, X.2.2.2.2.1 _ hy.2.1, ⟨hy.2.2.1, hy.2.2.2.1⟩, pw_len hy.2.2.2.2.1, X.2.2.2.2.1 _ hw.1, X.2.2.2.2.1 _ hw.2⟩ ⟨pw_blind, fun U hU hW => ⟨rfl, by rw [hU]; exact h1, pw_K.warm hW X.2.2.2.2.2.1⟩⟩ rfl hn h3.1 hst (by show 2 * 0 + _ ≤ 8; have := hR.2.1; omega) hd hR.2.2) (fun _ _ h => h.elim) kk
/-- a static method of a nest mate -/
theorem pw_callSN (X : pw_Cx p l s m args meth c G cc nL own) {host : String} (hM : pw_Met l y bytes maxL ret d mc ms G As M post) (hy : pw_ok y bytes maxL ret n) (hl : va_Nw (.methodLinkNest own index y host) s) (hw : Cond.static y ∈ pw_T) (hd : decode cc pc = .ok (.invokestatic index, 3)) (hn : As.length = n) (hR : pw_R9 R d mc ms maxL cells slots st) (hst : st0 = As.reverse ++ st)
    (kk : ∀ (v : Option Value) (M9 : pw_M), post v M9 → pw_W p l e R s m args below meth c Q G nL M9 (cells + mc) (slots + ms) (pc + 3) lv (v.toList ++ st)) : pw_W p l e R s m args below meth c Q G nL M cells slots pc lv st0 := fun H locs ls h1 h2 h3 =>
  pw_go h2 h3 (va_runSN (g := F0 m pc ls st0) (pw_fix X) hM ⟨⟨⟨rfl, rfl, hR.1.1, hR.1.2, pw_pay X.2.2.2.2.1 hy.1, List.mem_cons_self⟩, X.2.2.2.2.1 _ hy.1, X.2.2.2.2.1 _ hy.2.1, ⟨hy.2.2.1, hy.2.2.2.1⟩, pw_len hy.2.2.2.2.1, va_Nw.use rfl hl⟩, X.2.2.2.2.1 _ hw, trivial⟩ ⟨pw_blind, fun U hU hW => ⟨rfl, by rw [hU]; exact h1, pw_K.warm hW X.2.2.2.2.2.1⟩⟩ rfl hn h3.1 hst (by show 2 * 0 + _ ≤ 8; have := hR.2.1; omega) hd hR.2.2) kk
/-- a method of an object -/
theorem pw_callV (X : pw_Cx p l s m args meth c G cc nL own) {b ci : Nat} {fs : List Value} {r : vw_C} (hM : pw_Met l y bytes maxL ret d mc ms G (.ref b :: As) M post) (hb : M b = some (.inr (ci, fs))) (hc : pw_cl[ci]? = some r) (hy : pw_ok y bytes maxL ret n) (hw : Cond.methodLink own index y ∈ pw_T ∧ Cond.instanceMethod y ∈ pw_T ∧ Cond.selects r.1 y y ∈ pw_T) (hd : decode cc pc = .ok (.invokevirtual index, 3)) (hn : As.length = n) (hR : pw_R9 R d mc ms maxL cells slots st) (hst : st0 = As.reverse ++ .ref b :: st)
    (kk : ∀ (v : Option Value) (M9 : pw_M), post v M9 → pw_W p l e R s m args below meth c Q G nL M9 (cells + mc) (slots + ms) (pc + 3) lv (v.toList ++ st)) : pw_W p l e R s m args below meth c Q G nL M cells slots pc lv st0 := fun H locs ls h1 h2 h3 =>
  pw_go h2 h3 (va_runV (g := F0 m pc ls st0) (C := r.1) (b := b) (pw_fix X) hM ⟨pw_cb X hy hw.1 hR.1, X.2.2.2.2.1 _ hw.2.1, X.2.2.2.2.1 _ hw.2.2⟩ ⟨pw_blind, pw_recv X h1 hb hc, fun U hU hW => ⟨rfl, by rw [hU]; exact h1, pw_K.warm hW X.2.2.2.2.2.1⟩⟩ rfl hn h3.1 hst (by show 2 * 0 + _ ≤ 8; have := hR.2.1; omega) hd hR.2.2) kk
theorem pw_callVx (X : pw_Cx p l s m args meth c G cc nL own) {b ci : Nat} {fs : List Value} {r : vw_C} (hM : pw_XMet l y bytes maxL ret d mc ms G (.ref b :: As) M post px) (hb : M b = some (.inr (ci, fs))) (hc : pw_cl[ci]? = some r) (hy : pw_ok y bytes maxL ret n) (hw : Cond.methodLink own index y ∈ pw_T ∧ Cond.instanceMethod y ∈ pw_T ∧ Cond.selects r.1 y y ∈ pw_T) (hd : decode cc pc = .ok (.invokevirtual index, 3)) (hn : As.length = n) (hR : pw_R9 R d mc ms maxL cells slots st) (hst : st0 = As.reverse ++ .ref b :: st)
    (kx : ∀ (E : String) (M9 : pw_M), px E M9 → pw_X p l e R s m args below meth c Q G nL M9 (cells + mc) (slots + ms) pc lv E)
    (kk : ∀ (v : Option Value) (M9 : pw_M), post v M9 → pw_W p l e R s m args below meth c Q G nL M9 (cells + mc) (slots + ms) (pc + 3) lv (v.toList ++ st)) : pw_W p l e R s m args below meth c Q G nL M cells slots pc lv st0 := fun H locs ls h1 h2 h3 =>
  pw_gox h2 h3 (vx_runV (g := F0 m pc ls st0) (C := r.1) (b := b) (pw_fix X) hM ⟨pw_cb X hy hw.1 hR.1, X.2.2.2.2.1 _ hw.2.1, X.2.2.2.2.1 _ hw.2.2⟩ ⟨pw_blind, pw_recv X h1 hb hc, fun U hU hW => ⟨rfl, by rw [hU]; exact h1, pw_K.warm hW X.2.2.2.2.2.1⟩⟩ rfl hn h3.1 hst (by show 2 * 0 + _ ≤ 8; have := hR.2.1; omega) hd hR.2.2) kx kk
/-- a constructor -/
theorem pw_callI (X : pw_Cx p l s m args meth c G cc nL own) {b : Nat} (hM : pw_Met l y bytes maxL none d mc ms G (.ref b :: As) M post) (hy : pw_ok y bytes maxL none n) (hi : y.name = "<init>") (hw : Cond.methodLink own index y ∈ pw_T ∧ Cond.instanceMethod y ∈ pw_T) (hd : decode cc pc = .ok (.invokespecial index, 3)) (hn : As.length = n) (hR : pw_R9 R d mc ms maxL cells slots st) (hst : st0 = As.reverse ++ .ref b :: st)
    (kk : ∀ (v : Option Value) (M9 : pw_M), post v M9 → pw_W p l e R s m args below meth c Q G nL M9 (cells + mc) (slots + ms) (pc + 3) lv (v.toList ++ st)) : pw_W p l e R s m args below meth c Q G nL M cells slots pc lv st0 := fun H locs ls h1 h2 h3 =>
  pw_go h2 h3 (va_runI (g := F0 m pc ls st0) (b := b) (pw_fix X) hM ⟨pw_cb X hy hw.1 hR.1, hi, X.2.2.2.2.1 _ hw.2⟩ ⟨pw_blind, fun U hU hW => ⟨rfl, by rw [hU]; exact h1, pw_K.warm hW X.2.2.2.2.2.1⟩⟩ rfl hn h3.1 hst (by show 2 * 0 + _ ≤ 8; have := hR.2.1; omega) hd hR.2.2) kk
theorem pw_iret (X : pw_Cx p l s m args meth c G cc nL own) {v : Int32} (hd : decode cc pc = .ok (.ireturn, 1)) (hr : meth.sig.returnType = some .int) (hc : cells ≤ mc ∧ slots ≤ ms) (hp : post (some (.int v)) M) : pw_W p l e R s m args below meth c (MQ below (pw_po G post) args s mc ms (pw_A G)) G nL M cells slots pc lv [.int v] := fun H locs ls h1 h2 h3 => W.widen hc.1 hc.2 (W.iret X.1 X.2.1 hr (fun t ht _ => ⟨_, M, rfl, hp, by rw [ht]; exact h1⟩) h2 hd X.2.2.2.2.2.2.2.1)
theorem pw_iretx (X : pw_Cx p l s m args meth c G cc nL own) {v : Int32} (hd : decode cc pc = .ok (.ireturn, 1)) (hr : meth.sig.returnType = some .int) (hc : cells ≤ mc ∧ slots ≤ ms) (hp : post (some (.int v)) M) : pw_W p l e R s m args below meth c (vx_MQ below (pw_po G post) (pw_px G px) args s mc ms (pw_A G)) G nL M cells slots pc lv [.int v] := fun H locs ls h1 h2 h3 => vx_ret (W.widen hc.1 hc.2 (W.iret X.1 X.2.1 hr (fun t ht _ => ⟨_, M, rfl, hp, by rw [ht]; exact h1⟩) h2 hd X.2.2.2.2.2.2.2.1))
theorem pw_zret (X : pw_Cx p l s m args meth c G cc nL own) {v : Int32} (hd : decode cc pc = .ok (.ireturn, 1)) (hr : meth.sig.returnType = some .boolean) (hn : narrow .boolean (.int v) = .int v) (hc : cells ≤ mc ∧ slots ≤ ms) (hp : post (some (.int v)) M) : pw_W p l e R s m args below meth c (MQ below (pw_po G post) args s mc ms (pw_A G)) G nL M cells slots pc lv [.int v] := fun H locs ls h1 h2 h3 => W.widen hc.1 hc.2 (W.zret X.1 X.2.1 hr hn (fun t ht _ => ⟨_, M, rfl, hp, by rw [ht]; exact h1⟩) h2 hd X.2.2.2.2.2.2.2.1)
theorem pw_zretx (X : pw_Cx p l s m args meth c G cc nL own) {v : Int32} (hd : decode cc pc = .ok (.ireturn, 1)) (hr : meth.sig.returnType = some .boolean) (hn : narrow .boolean (.int v) = .int v) (hc : cells ≤ mc ∧ slots ≤ ms) (hp : post (some (.int v)) M) : pw_W p l e R s m args below meth c (vx_MQ below (pw_po G post) (pw_px G px) args s mc ms (pw_A G)) G nL M cells slots pc lv [.int v] := fun H locs ls h1 h2 h3 => vx_ret (W.widen hc.1 hc.2 (W.zret X.1 X.2.1 hr hn (fun t ht _ => ⟨_, M, rfl, hp, by rw [ht]; exact h1⟩) h2 hd X.2.2.2.2.2.2.2.1))
theorem pw_vret (X : pw_Cx p l s m args meth c G cc nL own)  (hd : decode cc pc = .ok (.return_, 1)) (hr : meth.sig.returnType = none) (hc : cells ≤ mc ∧ slots ≤ ms) (hp : post none M) : pw_W p l e R s m args below meth c (MQ below (pw_po G post) args s mc ms (pw_A G)) G nL M cells slots pc lv [] := fun H locs ls h1 h2 h3 => W.widen hc.1 hc.2 (W.vret X.1 X.2.1 hr (fun t ht _ => ⟨_, M, rfl, hp, by rw [ht]; exact h1⟩) h2 hd X.2.2.2.2.2.2.2.1)
theorem pw_vretx (X : pw_Cx p l s m args meth c G cc nL own)  (hd : decode cc pc = .ok (.return_, 1)) (hr : meth.sig.returnType = none) (hc : cells ≤ mc ∧ slots ≤ ms) (hp : post none M) : pw_W p l e R s m args below meth c (vx_MQ below (pw_po G post) (pw_px G px) args s mc ms (pw_A G)) G nL M cells slots pc lv [] := fun H locs ls h1 h2 h3 => vx_ret (W.widen hc.1 hc.2 (W.vret X.1 X.2.1 hr (fun t ht _ => ⟨_, M, rfl, hp, by rw [ht]; exact h1⟩) h2 hd X.2.2.2.2.2.2.2.1))
theorem pw_aret (X : pw_Cx p l s m args meth c G cc nL own) {v : Value} (hd : decode cc pc = .ok (.areturn, 1)) {C : String} (hr : meth.sig.returnType = some (.object C)) (hv : v = .null ∨ ∃ a, v = .ref a) (hc : cells ≤ mc ∧ slots ≤ ms) (hp : post (some v) M) : pw_W p l e R s m args below meth c (MQ below (pw_po G post) args s mc ms (pw_A G)) G nL M cells slots pc lv [v] := fun H locs ls h1 h2 h3 => W.widen hc.1 hc.2 (W.aret X.1 X.2.1 hr (Or.inl ⟨_, rfl⟩) hv (fun t ht _ => ⟨_, M, rfl, hp, by rw [ht]; exact h1⟩) h2 hd X.2.2.2.2.2.2.2.1)
theorem pw_aretx (X : pw_Cx p l s m args meth c G cc nL own) {v : Value} (hd : decode cc pc = .ok (.areturn, 1)) {C : String} (hr : meth.sig.returnType = some (.object C)) (hv : v = .null ∨ ∃ a, v = .ref a) (hc : cells ≤ mc ∧ slots ≤ ms) (hp : post (some v) M) : pw_W p l e R s m args below meth c (vx_MQ below (pw_po G post) (pw_px G px) args s mc ms (pw_A G)) G nL M cells slots pc lv [v] := fun H locs ls h1 h2 h3 => vx_ret (W.widen hc.1 hc.2 (W.aret X.1 X.2.1 hr (Or.inl ⟨_, rfl⟩) hv (fun t ht _ => ⟨_, M, rfl, hp, by rw [ht]; exact h1⟩) h2 hd X.2.2.2.2.2.2.2.1))
/-- an exception that goes on to the caller, out of a method without handlers -/
theorem pw_out (X : pw_Cx p l s m args meth c G cc nL own) {E : String} (hout : ∀ x ∈ c.exceptionTable.toList, False) (hc : cells ≤ mc ∧ slots ≤ ms) (hp : px E M) : pw_X p l e R s m args below meth c (vx_MQ below (pw_po G post) (pw_px G px) args s mc ms (pw_A G)) G nL M cells slots pc lv E := fun H locs ls q ce st h1 h2 h3 h4 h5 h6 =>
  vx_out (fun x hx => (hout x hx).elim) X.2.2.2.2.2.2.2.1 h4 h5 h6 (fun t ht _ => ⟨M, hp, by rw [ht]; exact h1⟩) h2 hc.1 hc.2
/-- caught by the row x of the table -/
theorem pw_catch (X : pw_Cx p l s m args meth c G cc nL own) {E name : String} (pre : List ExceptionTableEntry) (x : ExceptionTableEntry) (suf : List ExceptionTableEntry) (hsplit : c.exceptionTable.toList = pre ++ x :: suf)
    (hpass : ∀ z ∈ pre, covers z pc = false ∨ (z.catchType ≠ 0 ∧ ∃ nm : String, Cond.classLink own z.catchType nm ∈ pw_T ∧ (E, nm) ∈ pw_ncs)) (hx : covers x pc = true) (h0 : x.catchType ≠ 0) (hw : Cond.classLink own x.catchType E ∈ pw_T) (hE : E ∈ pw_ex)
    (kk : ∀ q : Nat, pw_W p l e R s m args below meth c Q G nL M cells slots x.handlerPc lv [.ref q]) : pw_X p l e R s m args below meth c Q G nL M cells slots pc lv E := fun H locs ls q ce st h1 h2 h3 h4 h5 h6 =>
  vx_catch X.2.2.2.1 pre x suf hsplit (fun z hz => (hpass z hz).elim Or.inl (fun h => Or.inr ⟨h.1, h.2.choose, X.2.2.2.2.1 _ h.2.choose_spec.1, X.2.2.2.2.2.1.2.2.2.2.2.2.1 _ h.2.choose_spec.2⟩)) hx h0 (X.2.2.2.2.1 _ hw) (va_Nw.use rfl (X.2.2.2.2.2.1.2.2.2.2.2.2.2.2.2.1 E hE)) h4 h5 h6 (kk q H locs ls h1 h2 h3)
/-- throw new E("text") -/
theorem pw_throw (X : pw_Cx p l s m args meth c G cc nL own) {E text : String} {names : List String} {ik is ic : Nat} (hout : ∀ x ∈ c.exceptionTable.toList, False)
    (d0 : decode cc pc = .ok (.new ik, 3)) (d3 : decode cc (pc + 3) = .ok (.dup, 1)) (d4 : decode cc (pc + 4) = .ok (.ldc is, 2)) (d6 : decode cc (pc + 6) = .ok (.invokespecial ic, 3)) (d9 : decode cc (pc + 9) = .ok (.athrow, 1))
    (ho : own = RX1) (hf : Bundle.fit E = true ∧ ∀ n ∈ names, Bundle.fit n = true) (hw : Cond.classLink own ik E ∈ pw_T ∧ Cond.initialized E ∈ pw_T) (hs : (is, text) ∈ pw_strs)
    (hat : (vx_atS own ic E names).all (fun w => decide (w ∈ pw_T) || pw_ex.any (fun x => decide (w = .castable x x)) || pw_dc.any (fun x => decide (w = .declares ⟨x, "<init>", "(Ljava/lang/String;)V"⟩))) = true)
    (hgood : (Cond.classLink own ik E :: Cond.initialized E :: vx_atS own ic E names).all vx_ot = true)
    (hR : names.length + 3 < R.frames ∧ (st.map fun v => v.category).sum + (13 * (names.length + 1) + 43) ≤ R.locals ∧ cells + 1 ≤ R.cells ∧ slots + 6 ≤ R.slots) (hc : cells + 1 ≤ mc ∧ slots + 6 ≤ ms) (hp : px E M) : pw_W p l e R s m args below meth c (vx_MQ below (pw_po G post) (pw_px G px) args s mc ms (pw_A G)) G nL M cells slots pc lv st := by
  intro H locs ls h1 h2 h3
  have hK := X.2.2.2.2.2.1
  have hts := X.2.2.2.2.1
  obtain ⟨sa, hsa⟩ := hK.2.2.2.2.2.1 _ hs
  have hk : ∀ q : Nat, q < G.2.1.size → ¬ pw_A G q → s.heap[q]? = G.2.1[q]? := fun q hq _ => X.2.2.2.2.2.2.2.2.2 q hq
  have hU : vx_Zq Bundle.tN "UNASSIGNED_STACK" Bundle.steD (pw_A G) s s.heap := hK.2.2.2.1.kept hk
  have hN : vx_Zq Bundle.tN "SUPPRESSED_SENTINEL" Bundle.listD (pw_A G) s s.heap := hK.2.2.2.2.1.kept hk
  intro T hT X9
  have hz : s.heap.size ≤ H.size := by
    have h9 := (vx_frame X9.same).1
    rw [← hT]; exact h9
  have hS : va_S (pw_A G) s.heap H locs := ⟨hz, fun q _ hA => by
    have hq : q < G.2.1.size := Nat.not_le.mp hA
    rw [h1.2.1 q hq, X.2.2.2.2.2.2.2.2.2 q hq], h2⟩
  have hat9 : ∀ w ∈ vx_atS own ic E names, w.before args s = true := by
    intro w hw9
    have h9 := List.all_eq_true.mp hat w hw9
    simp only [Bool.or_eq_true, decide_eq_true_eq, List.any_eq_true] at h9
    rcases h9 with (h9 | ⟨x, hx, h9⟩) | ⟨x, hx, h9⟩
    · exact hts w h9
    · rw [h9]; exact va_Nw.use rfl (hK.2.2.2.2.2.2.2.2.2.1 x hx)
    · rw [h9]; exact va_Nw.use rfl (hK.2.2.2.2.2.2.2.2.2.2 x hx)
  subst ho
  exact vx_throwS X.1 X.2.1 X.2.2.2.2.2.2.1 X.2.2.2.1 hf.1 hf.2 (hts _ hw.1) (hts _ hw.2) hsa hat9 (fun w hw9 => List.all_eq_true.mp hgood w hw9) hU hN hS (h3.1.trans X.2.2.1.symm) d0 d3 d4 d6 d9 (fun x hx => (hout x hx).elim) hR.1 hR.2.1 hR.2.2.1 hR.2.2.2 X.2.2.2.2.2.2.2.1 (fun t _ hz9 ho9 => ⟨M, hp, h1.more hz9 ho9⟩) h2 hc.1 hc.2 T hT X9
end PWC
section PWB
variable {l : Launch} {G : pw_G} {y : MethodName} {cc : ByteArray} {n d mc ms : Nat} {ret : Option FieldType} {as : List Value} {M : pw_M} {post : Option Value → pw_M → Prop} {px : String → pw_M → Prop}
/-- the body of a method that returns -/
theorem pw_of (hl : l.stackTraces = false) (hy : plainName y.cls = true) (hin : (lg_sl as).length ≤ n) (lv : List (Nat × Value)) (hlv : lv_args 0 as = lv)
    (body : ∀ (p : Program) (e : Env) (s : State) (m : MethodId) (args : Array Value) (below : List Frame) (meth : Method) (c : Code), pw_Cx p l s m args meth c G cc n y.cls → meth.sig.returnType = ret → meth.name = y.name → pw_W p l e (pw_rm d mc ms) s m args below meth c (MQ below (pw_po G post) args s mc ms (pw_A G)) G n M 0 0 0 lv []) : pw_Met l y cc n ret d mc ms G as M post := by
  refine Met.ofW (cc := cc) (maxL := n) (ret := ret) hy rfl ?_
  intro p e s m args below meth c s₁ B hml hv
  obtain ⟨rfl, hP, hK⟩ := hv
  have hts := atoms_spec (ws := pw_wd y cc n ret) B.pre
  have hnm := name_of_methodNamed B.named B.method
  have hX : pw_Cx p l s m as.toArray meth c G cc n y.cls := ⟨B.exec, B.bytes, hml, findClass_of_methodNamed B.named, fun w hw => hts w (List.mem_cons_of_mem _ hw), hK, hl, B.notSynchronized, hP.1, hP.2.1⟩
  have hlv9 := lv_entry as (n := n) hin
  rw [lg_entry_eq]
  rw [hlv] at hlv9
  exact body p e s m as.toArray below meth c hX B.returns hnm.1 s.heap [] _ hP (fun _ h => by cases h) hlv9
/-- the body of a method that returns or throws -/
theorem pw_ofx (hl : l.stackTraces = false) (hy : plainName y.cls = true) (hin : (lg_sl as).length ≤ n) (lv : List (Nat × Value)) (hlv : lv_args 0 as = lv)
    (body : ∀ (p : Program) (e : Env) (s : State) (m : MethodId) (args : Array Value) (below : List Frame) (meth : Method) (c : Code), pw_Cx p l s m args meth c G cc n y.cls → meth.sig.returnType = ret → (∀ x ∈ c.exceptionTable.toList, False) → pw_W p l e (pw_rm d mc ms) s m args below meth c (vx_MQ below (pw_po G post) (pw_px G px) args s mc ms (pw_A G)) G n M 0 0 0 lv []) : pw_XMet l y cc n ret d mc ms G as M post px := by
  refine vx_ofW (cc := cc) (maxL := n) (ret := ret) hy rfl ?_
  intro p e s m args below meth c s₁ B hml hex hv
  obtain ⟨rfl, hP, hK⟩ := hv
  have hts := atoms_spec (ws := pw_wd y cc n ret) B.pre
  have hX : pw_Cx p l s m as.toArray meth c G cc n y.cls := ⟨B.exec, B.bytes, hml, findClass_of_methodNamed B.named, fun w hw => hts w (List.mem_cons_of_mem _ hw), hK, hl, B.notSynchronized, hP.1, hP.2.1⟩
  have hlv9 := lv_entry as (n := n) hin
  rw [lg_entry_eq]
  rw [hlv] at hlv9
  exact body p e s m as.toArray below meth c hX B.returns hex s.heap [] _ hP (fun _ h => by cases h) hlv9
/-- the body of a method with handlers -/
theorem pw_ofh {hh : List (Nat × Nat × Nat × Nat)} (hl : l.stackTraces = false) (hy : plainName y.cls = true) (hin : (lg_sl as).length ≤ n) (lv : List (Nat × Value)) (hlv : lv_args 0 as = lv)
    (body : ∀ (p : Program) (e : Env) (s : State) (m : MethodId) (args : Array Value) (below : List Frame) (meth : Method) (c : Code), pw_Cx p l s m args meth c G cc n y.cls → meth.sig.returnType = ret → c.exceptionTable.toList = tableOf hh → pw_W p l e (pw_rm d mc ms) s m args below meth c (vx_MQ below (pw_po G post) (pw_px G (fun _ _ => False)) args s mc ms (pw_A G)) G n M 0 0 0 lv []) : pw_HMet l y cc n ret hh d mc ms G as M post := by
  refine vx_ofWH (cc := cc) (maxL := n) (ret := ret) hy rfl ?_
  intro p e s m args below meth c s₁ B hml hv
  obtain ⟨rfl, hP, hK⟩ := hv
  have hts := atoms_spec (ws := pw_wh y cc n ret hh) B.pre
  have hX : pw_Cx p l s m as.toArray meth c G cc n y.cls := ⟨B.exec, B.bytes, hml, findClass_of_methodNamed B.named, fun w hw => hts w (List.mem_cons_of_mem _ hw), hK, hl, B.notSynchronized, hP.1, hP.2.1⟩
  have hlv9 := lv_entry as (n := n) hin
  rw [lg_entry_eq]
  rw [hlv] at hlv9
  exact body p e s m as.toArray below meth c hX B.returns (vx_table (x := y) B (hts _ List.mem_cons_self)) s.heap [] _ hP (fun _ h => by cases h) hlv9
end PWB
