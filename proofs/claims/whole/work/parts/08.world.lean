/-! ===== the world as a map of addresses ===== -/
abbrev pw_M : Type := Nat → Option va_E
/-- what is fixed for a run of the law: the classes' numbers, the heap at the law's start, the array classes, the script -/
abbrev pw_G : Type := va_G × Heap × (Nat → ClassId) × Nat × Nat × (Nat → Int32)
abbrev pw_cl : List vw_C := [(RX0, TX0, 6), (RX1, TX1, 8), (RX2, TX2, 13)]
abbrev pw_tys (G : pw_G) : List (ClassId × FieldType) := [(G.2.2.1 0, .int), (G.2.2.1 1, .boolean), (G.2.2.1 2, .object RX0), (G.2.2.1 3, .long)]
def pw_A (G : pw_G) : Nat → Prop := fun q => G.2.1.size ≤ q
def pw_up (M : pw_M) (a : Nat) (e : va_E) : pw_M := fun q => if q = a then some e else M q
theorem pw_us {M : pw_M} {a : Nat} {e : va_E} : pw_up M a e a = some e := if_pos rfl
theorem pw_un {M : pw_M} {a q : Nat} {e : va_E} (h : q ≠ a) : pw_up M a e q = M q := if_neg h
theorem pw_ke {M : pw_M} {a q : Nat} {e e1 : va_E} (h : M q = some e1) (n : q ≠ a) : pw_up M a e q = some e1 := (pw_un n).trans h
def pw_hp (G : pw_G) (M : pw_M) (H : Heap) : Prop := G.2.1.size ≤ H.size ∧ (∀ q : Nat, q < G.2.1.size → H[q]? = G.2.1[q]?) ∧ ∀ (a : Nat) (e : va_E), M a = some e → G.2.1.size ≤ a ∧ va_at G.1 pw_cl (a, e) H
theorem pw_hp.at {G : pw_G} {M : pw_M} {H : Heap} (h : pw_hp G M H) {a : Nat} {e : va_E} (ha : M a = some e) : va_at G.1 pw_cl (a, e) H := (h.2.2 a e ha).2
theorem pw_hp.P {G : pw_G} {M : pw_M} {H : Heap} (h : pw_hp G M H) {a : Nat} {e : va_E} (ha : M a = some e) : va_P G.1 pw_cl [(a, e)] H := by
  intro k q hk
  have hz : k < 1 := (List.getElem?_eq_some_iff.mp hk).1
  rw [show k = 0 by omega] at hk
  cases hk
  exact h.at ha
theorem pw_hp.lt {G : pw_G} {M : pw_M} {H : Heap} (h : pw_hp G M H) {a : Nat} {e : va_E} (ha : M a = some e) : a < H.size := (h.at ha).lt
theorem pw_hp.put {G : pw_G} {M : pw_M} {H H1 : Heap} {a : Nat} {e0 e : va_E} (h : pw_hp G M H) (ha : M a = some e0) (he : va_at G.1 pw_cl (a, e) H1) (z : H1.size = H.size) (oq : ∀ q : Nat, q ≠ a → H1[q]? = H[q]?) : pw_hp G (pw_up M a e) H1 := by
  have hB := (h.2.2 a e0 ha).1
  refine ⟨by rw [z]; exact h.1, fun q hq => (oq q (fun hqa => by rw [hqa] at hq; exact absurd hB (Nat.not_le.mpr hq))).trans (h.2.1 q hq), fun b e1 hb => ?_⟩
  by_cases hba : b = a
  · subst hba
    rw [pw_us] at hb
    cases hb
    exact ⟨hB, he⟩
  · rw [pw_un hba] at hb
    obtain ⟨g1, g2⟩ := h.2.2 b e1 hb
    exact ⟨g1, g2.kept (oq b hba)⟩
theorem pw_hp.push {G : pw_G} {M : pw_M} {H H1 : Heap} {e : va_E} (h : pw_hp G M H) (he : va_at G.1 pw_cl (H.size, e) H1) (z : H.size ≤ H1.size) (oq : ∀ q : Nat, q < H.size → H1[q]? = H[q]?) : pw_hp G (pw_up M H.size e) H1 := by
  refine ⟨Nat.le_trans h.1 z, fun q hq => (oq q (Nat.lt_of_lt_of_le hq h.1)).trans (h.2.1 q hq), fun b e1 hb => ?_⟩
  by_cases hba : b = H.size
  · subst hba
    rw [pw_us] at hb
    cases hb
    exact ⟨h.1, he⟩
  · rw [pw_un hba] at hb
    obtain ⟨g1, g2⟩ := h.2.2 b e1 hb
    exact ⟨g1, g2.kept (oq b g2.lt)⟩
theorem pw_hp.more {G : pw_G} {M : pw_M} {H H1 : Heap} (h : pw_hp G M H) (z : H.size ≤ H1.size) (oq : ∀ q : Nat, q < H.size → H1[q]? = H[q]?) : pw_hp G M H1 := by
  refine ⟨Nat.le_trans h.1 z, fun q hq => (oq q (Nat.lt_of_lt_of_le hq h.1)).trans (h.2.1 q hq), fun b e1 hb => ?_⟩
  obtain ⟨g1, g2⟩ := h.2.2 b e1 hb
  exact ⟨g1, g2.kept (oq b g2.lt)⟩
theorem pw_hp.S {G : pw_G} {M : pw_M} {H : Heap} {locs : List Loc} (h : pw_hp G M H) (hl : ∀ z ∈ locs, pw_A G z.base) : va_S (pw_A G) G.2.1 H locs := ⟨h.1, fun q hq _ => h.2.1 q hq, hl⟩
theorem pw_loc {G : pw_G} {locs : List Loc} {a k : Nat} (hl : ∀ z ∈ locs, pw_A G z.base) (ha : pw_A G a) : ∀ z ∈ locs ++ [⟨a, k⟩], pw_A G z.base := by
  intro z hz
  rcases List.mem_append.mp hz with h | h
  · exact hl z h
  · rw [List.mem_singleton.mp h]; exact ha
/-! ===== what a state's tables say, besides the words ===== -/
abbrev pw_strs : List (Nat × String) := [(58, "no room for another order"), (108, "nothing to undo"), (125, "the cell is free"), (152, "nothing of that kind is told of an order"), (155, "nothing of that kind is told of a line"), (169, "no such order"), (174, "no such cell"), (177, "a number outside its range"), (179, "no line of this good"), (181, "not as it is now")]
abbrev pw_ncs : List (String × String) := [("java/lang/IllegalArgumentException", "java/util/NoSuchElementException"), ("java/lang/IllegalStateException", "java/util/NoSuchElementException"), ("java/lang/IllegalStateException", "java/lang/IllegalArgumentException"), ("java/lang/IllegalArgumentException", "java/lang/ArrayIndexOutOfBoundsException"), ("java/lang/IllegalStateException", "java/lang/ArrayIndexOutOfBoundsException")]
abbrev pw_ex : List String := ["java/lang/IllegalArgumentException", "java/lang/IllegalStateException", "java/util/NoSuchElementException", "java/lang/UnsupportedOperationException", "java/lang/ArrayIndexOutOfBoundsException"]
abbrev pw_dc : List String := ["java/lang/RuntimeException", "java/lang/Exception", "java/lang/Throwable", "java/lang/IndexOutOfBoundsException"]
abbrev pw_T : List Cond := lw_tbl.filter goodWord
def pw_K (G : pw_G) (U : State) : Prop :=
  va_K G.1 pw_cl (pw_tys G) U ∧ va_AO RX0 U ∧ va_Nw (.methodLinkNest RX0 49 yX1_sum RX1) U ∧
  vx_Zq Bundle.tN "UNASSIGNED_STACK" Bundle.steD (pw_A G) U G.2.1 ∧ vx_Zq Bundle.tN "SUPPRESSED_SENTINEL" Bundle.listD (pw_A G) U G.2.1 ∧
  (∀ q ∈ pw_strs, ∃ sa : Nat, vk_R RX1 q.1 q.2 sa U) ∧ (∀ q ∈ pw_ncs, va_Nc q.1 q.2 U) ∧ va_X G.2.2.2.1 G.2.2.2.2.1 G.2.2.2.2.2 U G.2.1 ∧ G.2.2.2.1 < G.2.1.size ∧ (∀ E ∈ pw_ex, va_Nw (.castable E E) U) ∧ ∀ Y ∈ pw_dc, va_Nw (.declares ⟨Y, "<init>", "(Ljava/lang/String;)V"⟩) U
theorem pw_K.warm {G : pw_G} {s U : State} (hW : s.WarmedH U.vm) (h : pw_K G s) : pw_K G U := by
  obtain ⟨h1, h2, h3, h4, h5, h6, h7, h8, h9, h10, h11⟩ := h
  exact ⟨va_K.moved hW.alike h1, va_AO.moved hW.alike h2, va_Nw.warmM hW h3, vx_Zq.moved hW.alike h4, vx_Zq.moved hW.alike h5, fun q hq => (h6 q hq).elim fun sa hs => ⟨sa, vk_R.warm hW hs⟩, fun q hq => va_Nc.moved hW.alike (h7 q hq), va_X.moved hW.alike h8, h9, fun E hE => va_Nw.warmC hW (h10 E hE), fun Y hY => va_Nw.warmD hW (h11 Y hY)⟩
theorem pw_K.same {G : pw_G} {s U : State} (hv : U.vm = s.vm) (h : pw_K G s) : pw_K G U := pw_K.warm (by rw [hv]; exact State.WarmedH.refl s) h
/-- a method's own facts: the machine, its code, its class, the words, the tables -/
def pw_Cx (p : Program) (l : Launch) (s : State) (m : MethodId) (args : Array Value) (meth : Method) (c : Code) (G : pw_G) (cc : ByteArray) (nL : Nat) (own : String) : Prop :=
  p.tables.exec = Jvm.exec ∧ c.code = cc ∧ c.maxLocals = nL ∧ s.vm.findClass own = some m.cls ∧ (∀ w ∈ pw_T, w.before args s = true) ∧ pw_K G s ∧ l.stackTraces = false ∧ meth.locks = false ∧ G.2.1.size ≤ s.heap.size ∧ ∀ q : Nat, q < G.2.1.size → s.heap[q]? = G.2.1[q]?
section PWW
variable {p : Program} {l : Launch} {e : Env} {R : Room} {s : State} {m : MethodId} {args : Array Value} {below : List Frame} {meth : Method} {c : Code} {Q : State → Prop} {G : pw_G} {cc : ByteArray} {nL : Nat} {own : String} {M : pw_M} {cells slots pc : Nat} {lv lv' : List (Nat × Value)} {st : List Value}
/-- the machine, at pc with the locals lv, the stack st, in any heap that holds the map M, comes to Q -/
def pw_W (p : Program) (l : Launch) (e : Env) (R : Room) (s : State) (m : MethodId) (args : Array Value) (below : List Frame) (meth : Method) (c : Code) (Q : State → Prop) (G : pw_G) (nL : Nat) (M : pw_M) (cells slots pc : Nat) (lv : List (Nat × Value)) (st : List Value) : Prop :=
  ∀ (H : Heap) (locs : List Loc) (ls : Array Slot), pw_hp G M H → (∀ z ∈ locs, pw_A G z.base) → lv_has ls nL lv → W p l e R s m args below meth c H locs cells slots Q (F0 m pc ls st)
/-- .. with an exception of the class E thrown over the frame -/
def pw_X (p : Program) (l : Launch) (e : Env) (R : Room) (s : State) (m : MethodId) (args : Array Value) (below : List Frame) (meth : Method) (c : Code) (Q : State → Prop) (G : pw_G) (nL : Nat) (M : pw_M) (cells slots pc : Nat) (lv : List (Nat × Value)) (E : String) : Prop :=
  ∀ (H : Heap) (locs : List Loc) (ls : Array Slot) (q : Addr) (ce : Cell) (st : List Value), pw_hp G M H → (∀ z ∈ locs, pw_A G z.base) → lv_has ls nL lv → H[q]? = some ce → ce.vm = .none → s.vm.findClass E = some ce.cls → vx_W p l e R s m args below meth c H locs cells slots Q (F0 m pc ls st) q
theorem pw_iconst (X : pw_Cx p l s m args meth c G cc nL own) {n : Int} {v : Int32} (hd : decode cc pc = .ok (.iconst n, 1)) (hv : Int32.ofInt n = v) (kk : pw_W p l e R s m args below meth c Q G nL M cells slots (pc + 1) lv (.int v :: st)) : pw_W p l e R s m args below meth c Q G nL M cells slots pc lv st := fun H locs ls h1 h2 h3 => lv_iconst X.1 X.2.1 hd hv (kk H locs ls h1 h2 h3)
theorem pw_bipush (X : pw_Cx p l s m args meth c G cc nL own) {n : Int} {v : Int32} (hd : decode cc pc = .ok (.bipush n, 2)) (hv : (Int8.ofInt n).toInt32 = v) (kk : pw_W p l e R s m args below meth c Q G nL M cells slots (pc + 2) lv (.int v :: st)) : pw_W p l e R s m args below meth c Q G nL M cells slots pc lv st := fun H locs ls h1 h2 h3 => lv_bipush X.1 X.2.1 hd hv (kk H locs ls h1 h2 h3)
theorem pw_sipush (X : pw_Cx p l s m args meth c G cc nL own) {n : Int} {v : Int32} (hd : decode cc pc = .ok (.sipush n, 3)) (hv : (Int16.ofInt n).toInt32 = v) (kk : pw_W p l e R s m args below meth c Q G nL M cells slots (pc + 3) lv (.int v :: st)) : pw_W p l e R s m args below meth c Q G nL M cells slots pc lv st := fun H locs ls h1 h2 h3 => lv_sipush X.1 X.2.1 hd hv (kk H locs ls h1 h2 h3)
theorem pw_lconst (X : pw_Cx p l s m args meth c G cc nL own) {n : Fin 2} {v : Int64} (hd : decode cc pc = .ok (.lconst n, 1)) (hv : Int64.ofNat (n : Nat) = v) (kk : pw_W p l e R s m args below meth c Q G nL M cells slots (pc + 1) lv (.long v :: st)) : pw_W p l e R s m args below meth c Q G nL M cells slots pc lv st := fun H locs ls h1 h2 h3 => lv_lconst X.1 X.2.1 hd hv (kk H locs ls h1 h2 h3)
theorem pw_iload_n (X : pw_Cx p l s m args meth c G cc nL own) {k : Fin 4} {x : Int32} (hd : decode cc pc = .ok (.iload_n k, 1)) (j : Nat) (hj : lv[j]? = some ((k : Nat), .int x)) (kk : pw_W p l e R s m args below meth c Q G nL M cells slots (pc + 1) lv (.int x :: st)) : pw_W p l e R s m args below meth c Q G nL M cells slots pc lv st := fun H locs ls h1 h2 h3 => lv_iload_n X.1 X.2.1 hd rfl (lv_at h3 j hj) (kk H locs ls h1 h2 h3)
theorem pw_iload (X : pw_Cx p l s m args meth c G cc nL own) {i : Nat} {x : Int32} (hd : decode cc pc = .ok (.iload i, 2)) (j : Nat) (hj : lv[j]? = some (i, .int x)) (kk : pw_W p l e R s m args below meth c Q G nL M cells slots (pc + 2) lv (.int x :: st)) : pw_W p l e R s m args below meth c Q G nL M cells slots pc lv st := fun H locs ls h1 h2 h3 => lv_iload X.1 X.2.1 hd (lv_at h3 j hj) (kk H locs ls h1 h2 h3)
theorem pw_aload_n (X : pw_Cx p l s m args meth c G cc nL own) {k : Fin 4} {x : Nat} (hd : decode cc pc = .ok (.aload_n k, 1)) (j : Nat) (hj : lv[j]? = some ((k : Nat), .ref x)) (kk : pw_W p l e R s m args below meth c Q G nL M cells slots (pc + 1) lv (.ref x :: st)) : pw_W p l e R s m args below meth c Q G nL M cells slots pc lv st := fun H locs ls h1 h2 h3 => lv_aload_n X.1 X.2.1 hd rfl (lv_at h3 j hj) (kk H locs ls h1 h2 h3)
theorem pw_aload (X : pw_Cx p l s m args meth c G cc nL own) {i : Nat} {x : Nat} (hd : decode cc pc = .ok (.aload i, 2)) (j : Nat) (hj : lv[j]? = some (i, .ref x)) (kk : pw_W p l e R s m args below meth c Q G nL M cells slots (pc + 2) lv (.ref x :: st)) : pw_W p l e R s m args below meth c Q G nL M cells slots pc lv st := fun H locs ls h1 h2 h3 => lv_aload X.1 X.2.1 hd (lv_at h3 j hj) (kk H locs ls h1 h2 h3)
theorem pw_aload_nN (X : pw_Cx p l s m args meth c G cc nL own) {k : Fin 4} (hd : decode cc pc = .ok (.aload_n k, 1)) (j : Nat) (hj : lv[j]? = some ((k : Nat), .null)) (kk : pw_W p l e R s m args below meth c Q G nL M cells slots (pc + 1) lv (.null :: st)) : pw_W p l e R s m args below meth c Q G nL M cells slots pc lv st := fun H locs ls h1 h2 h3 => lv_aload_nN X.1 X.2.1 hd rfl (lv_at h3 j hj) (kk H locs ls h1 h2 h3)
theorem pw_aloadN (X : pw_Cx p l s m args meth c G cc nL own) {i : Nat} (hd : decode cc pc = .ok (.aload i, 2)) (j : Nat) (hj : lv[j]? = some (i, .null)) (kk : pw_W p l e R s m args below meth c Q G nL M cells slots (pc + 2) lv (.null :: st)) : pw_W p l e R s m args below meth c Q G nL M cells slots pc lv st := fun H locs ls h1 h2 h3 => lv_aloadN X.1 X.2.1 hd (lv_at h3 j hj) (kk H locs ls h1 h2 h3)
theorem pw_iadd (X : pw_Cx p l s m args meth c G cc nL own) {x y z : Int32} (hd : decode cc pc = .ok (.iadd, 1)) (hz : x + y = z) (kk : pw_W p l e R s m args below meth c Q G nL M cells slots (pc + 1) lv (.int z :: st)) : pw_W p l e R s m args below meth c Q G nL M cells slots pc lv (.int y :: .int x :: st) := fun H locs ls h1 h2 h3 => lv_iadd X.1 X.2.1 hd (by rw [hz]; exact kk H locs ls h1 h2 h3)
theorem pw_isub (X : pw_Cx p l s m args meth c G cc nL own) {x y z : Int32} (hd : decode cc pc = .ok (.isub, 1)) (hz : x - y = z) (kk : pw_W p l e R s m args below meth c Q G nL M cells slots (pc + 1) lv (.int z :: st)) : pw_W p l e R s m args below meth c Q G nL M cells slots pc lv (.int y :: .int x :: st) := fun H locs ls h1 h2 h3 => lv_isub X.1 X.2.1 hd (by rw [hz]; exact kk H locs ls h1 h2 h3)
theorem pw_imul (X : pw_Cx p l s m args meth c G cc nL own) {x y z : Int32} (hd : decode cc pc = .ok (.imul, 1)) (hz : x * y = z) (kk : pw_W p l e R s m args below meth c Q G nL M cells slots (pc + 1) lv (.int z :: st)) : pw_W p l e R s m args below meth c Q G nL M cells slots pc lv (.int y :: .int x :: st) := fun H locs ls h1 h2 h3 => lv_imul X.1 X.2.1 hd (by rw [hz]; exact kk H locs ls h1 h2 h3)
theorem pw_iand (X : pw_Cx p l s m args meth c G cc nL own) {x y z : Int32} (hd : decode cc pc = .ok (.iand, 1)) (hz : x &&& y = z) (kk : pw_W p l e R s m args below meth c Q G nL M cells slots (pc + 1) lv (.int z :: st)) : pw_W p l e R s m args below meth c Q G nL M cells slots pc lv (.int y :: .int x :: st) := fun H locs ls h1 h2 h3 => lv_iand X.1 X.2.1 hd (by rw [hz]; exact kk H locs ls h1 h2 h3)
theorem pw_idiv (X : pw_Cx p l s m args meth c G cc nL own) {x y z : Int32} (hd : decode cc pc = .ok (.idiv, 1)) (hy : ¬ y = 0) (hz : x / y = z) (kk : pw_W p l e R s m args below meth c Q G nL M cells slots (pc + 1) lv (.int z :: st)) : pw_W p l e R s m args below meth c Q G nL M cells slots pc lv (.int y :: .int x :: st) := fun H locs ls h1 h2 h3 => lv_idiv X.1 X.2.1 hd hy (by rw [hz]; exact kk H locs ls h1 h2 h3)
theorem pw_irem (X : pw_Cx p l s m args meth c G cc nL own) {x y z : Int32} (hd : decode cc pc = .ok (.irem, 1)) (hy : ¬ y = 0) (hz : x - x / y * y = z) (kk : pw_W p l e R s m args below meth c Q G nL M cells slots (pc + 1) lv (.int z :: st)) : pw_W p l e R s m args below meth c Q G nL M cells slots pc lv (.int y :: .int x :: st) := fun H locs ls h1 h2 h3 => lv_irem X.1 X.2.1 hd hy (by rw [hz]; exact kk H locs ls h1 h2 h3)
theorem pw_ladd (X : pw_Cx p l s m args meth c G cc nL own) {x y z : Int64} (hd : decode cc pc = .ok (.ladd, 1)) (hz : x + y = z) (kk : pw_W p l e R s m args below meth c Q G nL M cells slots (pc + 1) lv (.long z :: st)) : pw_W p l e R s m args below meth c Q G nL M cells slots pc lv (.long y :: .long x :: st) := fun H locs ls h1 h2 h3 => lv_ladd X.1 X.2.1 hd (by rw [hz]; exact kk H locs ls h1 h2 h3)
theorem pw_lmul (X : pw_Cx p l s m args meth c G cc nL own) {x y z : Int64} (hd : decode cc pc = .ok (.lmul, 1)) (hz : x * y = z) (kk : pw_W p l e R s m args below meth c Q G nL M cells slots (pc + 1) lv (.long z :: st)) : pw_W p l e R s m args below meth c Q G nL M cells slots pc lv (.long y :: .long x :: st) := fun H locs ls h1 h2 h3 => lv_lmul X.1 X.2.1 hd (by rw [hz]; exact kk H locs ls h1 h2 h3)
theorem pw_ldiv (X : pw_Cx p l s m args meth c G cc nL own) {x y z : Int64} (hd : decode cc pc = .ok (.ldiv, 1)) (hy : ¬ y = 0) (hz : x / y = z) (kk : pw_W p l e R s m args below meth c Q G nL M cells slots (pc + 1) lv (.long z :: st)) : pw_W p l e R s m args below meth c Q G nL M cells slots pc lv (.long y :: .long x :: st) := fun H locs ls h1 h2 h3 => lv_ldiv X.1 X.2.1 hd hy (by rw [hz]; exact kk H locs ls h1 h2 h3)
theorem pw_lrem (X : pw_Cx p l s m args meth c G cc nL own) {x y z : Int64} (hd : decode cc pc = .ok (.lrem, 1)) (hy : ¬ y = 0) (hz : x - x / y * y = z) (kk : pw_W p l e R s m args below meth c Q G nL M cells slots (pc + 1) lv (.long z :: st)) : pw_W p l e R s m args below meth c Q G nL M cells slots pc lv (.long y :: .long x :: st) := fun H locs ls h1 h2 h3 => lv_lrem X.1 X.2.1 hd hy (by rw [hz]; exact kk H locs ls h1 h2 h3)
theorem pw_lcmp (X : pw_Cx p l s m args meth c G cc nL own) {x y : Int64} {z : Int32} (hd : decode cc pc = .ok (.lcmp, 1)) (hz : lg_cmp x y = z) (kk : pw_W p l e R s m args below meth c Q G nL M cells slots (pc + 1) lv (.int z :: st)) : pw_W p l e R s m args below meth c Q G nL M cells slots pc lv (.long y :: .long x :: st) := fun H locs ls h1 h2 h3 => W.lcmp X.1 X.2.1 hd (by rw [hz]; exact kk H locs ls h1 h2 h3)
theorem pw_i2l (X : pw_Cx p l s m args meth c G cc nL own) {x : Int32} {v : Int64} (hd : decode cc pc = .ok (.i2l, 1)) (hv : x.toInt64 = v) (kk : pw_W p l e R s m args below meth c Q G nL M cells slots (pc + 1) lv (.long v :: st)) : pw_W p l e R s m args below meth c Q G nL M cells slots pc lv (.int x :: st) := fun H locs ls h1 h2 h3 => lv_i2l X.1 X.2.1 hd hv (kk H locs ls h1 h2 h3)
theorem pw_l2i (X : pw_Cx p l s m args meth c G cc nL own) {x : Int64} {v : Int32} (hd : decode cc pc = .ok (.l2i, 1)) (hv : x.toInt32 = v) (kk : pw_W p l e R s m args below meth c Q G nL M cells slots (pc + 1) lv (.int v :: st)) : pw_W p l e R s m args below meth c Q G nL M cells slots pc lv (.long x :: st) := fun H locs ls h1 h2 h3 => lv_l2i X.1 X.2.1 hd hv (kk H locs ls h1 h2 h3)
theorem pw_dup (X : pw_Cx p l s m args meth c G cc nL own) {va : Value} (hd : decode cc pc = .ok (.dup, 1)) (ha : va.category = 1) (kk : pw_W p l e R s m args below meth c Q G nL M cells slots (pc + 1) lv (va :: va :: st)) : pw_W p l e R s m args below meth c Q G nL M cells slots pc lv (va :: st) := fun H locs ls h1 h2 h3 => lv_dup X.1 X.2.1 hd ha (kk H locs ls h1 h2 h3)
theorem pw_pop (X : pw_Cx p l s m args meth c G cc nL own) {va : Value} (hd : decode cc pc = .ok (.pop, 1)) (ha : va.category = 1) (kk : pw_W p l e R s m args below meth c Q G nL M cells slots (pc + 1) lv st) : pw_W p l e R s m args below meth c Q G nL M cells slots pc lv (va :: st) := fun H locs ls h1 h2 h3 => lv_pop X.1 X.2.1 hd ha (kk H locs ls h1 h2 h3)
theorem pw_dup2 (X : pw_Cx p l s m args meth c G cc nL own) {va vb : Value} (hd : decode cc pc = .ok (.dup2, 1)) (ha : va.category = 1) (hb : vb.category = 1) (kk : pw_W p l e R s m args below meth c Q G nL M cells slots (pc + 1) lv (va :: vb :: va :: vb :: st)) : pw_W p l e R s m args below meth c Q G nL M cells slots pc lv (va :: vb :: st) := fun H locs ls h1 h2 h3 => lv_dup2_11 X.1 X.2.1 hd ha hb (kk H locs ls h1 h2 h3)
theorem pw_null (X : pw_Cx p l s m args meth c G cc nL own)  (hd : decode cc pc = .ok (.aconst_null, 1))  (kk : pw_W p l e R s m args below meth c Q G nL M cells slots (pc + 1) lv (.null :: st)) : pw_W p l e R s m args below meth c Q G nL M cells slots pc lv st := fun H locs ls h1 h2 h3 => lv_null X.1 X.2.1 hd (kk H locs ls h1 h2 h3)
theorem pw_istore_n (X : pw_Cx p l s m args meth c G cc nL own) {k : Fin 4} {x : Int32} (lv' : List (Nat × Value)) (hd : decode cc pc = .ok (.istore_n k, 1))  (hn : (k : Nat) < nL) (hl : ((k : Nat), Value.int x) :: lv.filter (fun q => !(q.1 == (k : Nat)) && !(q.1 + 1 == (k : Nat) && q.2.category == 2)) = lv') (kk : pw_W p l e R s m args below meth c Q G nL M cells slots (pc + 1) lv' st) : pw_W p l e R s m args below meth c Q G nL M cells slots pc lv (Value.int x :: st) := fun H locs ls h1 h2 h3 => lv_istore_n X.1 X.2.1 hd rfl h3 hn hl (fun ls9 h9 => kk H locs ls9 h1 h2 h9)
theorem pw_istore (X : pw_Cx p l s m args meth c G cc nL own) {i : Nat} {x : Int32} (lv' : List (Nat × Value)) (hd : decode cc pc = .ok (.istore i, 2))  (hn : i < nL) (hl : (i, Value.int x) :: lv.filter (fun q => !(q.1 == i) && !(q.1 + 1 == i && q.2.category == 2)) = lv') (kk : pw_W p l e R s m args below meth c Q G nL M cells slots (pc + 2) lv' st) : pw_W p l e R s m args below meth c Q G nL M cells slots pc lv (Value.int x :: st) := fun H locs ls h1 h2 h3 => lv_istore X.1 X.2.1 hd h3 hn hl (fun ls9 h9 => kk H locs ls9 h1 h2 h9)
theorem pw_astore_n (X : pw_Cx p l s m args meth c G cc nL own) {k : Fin 4} {x : Nat} (lv' : List (Nat × Value)) (hd : decode cc pc = .ok (.astore_n k, 1))  (hn : (k : Nat) < nL) (hl : ((k : Nat), Value.ref x) :: lv.filter (fun q => !(q.1 == (k : Nat)) && !(q.1 + 1 == (k : Nat) && q.2.category == 2)) = lv') (kk : pw_W p l e R s m args below meth c Q G nL M cells slots (pc + 1) lv' st) : pw_W p l e R s m args below meth c Q G nL M cells slots pc lv (Value.ref x :: st) := fun H locs ls h1 h2 h3 => lv_astore_n X.1 X.2.1 hd rfl h3 hn hl (fun ls9 h9 => kk H locs ls9 h1 h2 h9)
theorem pw_astore (X : pw_Cx p l s m args meth c G cc nL own) {i : Nat} {x : Nat} (lv' : List (Nat × Value)) (hd : decode cc pc = .ok (.astore i, 2))  (hn : i < nL) (hl : (i, Value.ref x) :: lv.filter (fun q => !(q.1 == i) && !(q.1 + 1 == i && q.2.category == 2)) = lv') (kk : pw_W p l e R s m args below meth c Q G nL M cells slots (pc + 2) lv' st) : pw_W p l e R s m args below meth c Q G nL M cells slots pc lv (Value.ref x :: st) := fun H locs ls h1 h2 h3 => lv_astore X.1 X.2.1 hd h3 hn hl (fun ls9 h9 => kk H locs ls9 h1 h2 h9)
theorem pw_astore_nN (X : pw_Cx p l s m args meth c G cc nL own) {k : Fin 4} (lv' : List (Nat × Value)) (hd : decode cc pc = .ok (.astore_n k, 1))  (hn : (k : Nat) < nL) (hl : ((k : Nat), Value.null) :: lv.filter (fun q => !(q.1 == (k : Nat)) && !(q.1 + 1 == (k : Nat) && q.2.category == 2)) = lv') (kk : pw_W p l e R s m args below meth c Q G nL M cells slots (pc + 1) lv' st) : pw_W p l e R s m args below meth c Q G nL M cells slots pc lv (Value.null :: st) := fun H locs ls h1 h2 h3 => lv_astore_nN X.1 X.2.1 hd rfl h3 hn hl (fun ls9 h9 => kk H locs ls9 h1 h2 h9)
theorem pw_astoreN (X : pw_Cx p l s m args meth c G cc nL own) {i : Nat} (lv' : List (Nat × Value)) (hd : decode cc pc = .ok (.astore i, 2))  (hn : i < nL) (hl : (i, Value.null) :: lv.filter (fun q => !(q.1 == i) && !(q.1 + 1 == i && q.2.category == 2)) = lv') (kk : pw_W p l e R s m args below meth c Q G nL M cells slots (pc + 2) lv' st) : pw_W p l e R s m args below meth c Q G nL M cells slots pc lv (Value.null :: st) := fun H locs ls h1 h2 h3 => lv_astoreN X.1 X.2.1 hd h3 hn hl (fun ls9 h9 => kk H locs ls9 h1 h2 h9)
theorem pw_iinc (X : pw_Cx p l s m args meth c G cc nL own) {i j : Nat} {n : Int} {x v : Int32} (lv' : List (Nat × Value)) (hd : decode cc pc = .ok (.iinc i n, 3)) (hj : lv[j]? = some (i, .int x)) (hv : x + Int32.ofInt n = v) (hn : i < nL) (hl : (i, Value.int v) :: lv.filter (fun q => !(q.1 == i) && !(q.1 + 1 == i && q.2.category == 2)) = lv') (kk : pw_W p l e R s m args below meth c Q G nL M cells slots (pc + 3) lv' st) : pw_W p l e R s m args below meth c Q G nL M cells slots pc lv st := fun H locs ls h1 h2 h3 => lv_iinc X.1 X.2.1 hd h3 hj hv hn hl (fun ls9 h9 => kk H locs ls9 h1 h2 h9)
theorem pw_lv (ks : List Nat) (lv' : List (Nat × Value)) (hl : lv_pick lv ks = lv') (kk : pw_W p l e R s m args below meth c Q G nL M cells slots pc lv' st) : pw_W p l e R s m args below meth c Q G nL M cells slots pc lv st := fun H locs ls h1 h2 h3 => kk H locs ls h1 h2 (lv_sub h3 ks hl)
theorem pw_if_eq (X : pw_Cx p l s m args meth c G cc nL own) {x : Int32} {off : Int} (tgt : Nat) (hd : decode cc pc = .ok (.ifCond .eq off, 3)) (ht : (pc : Int) + off = (tgt : Int)) (kt : x = 0 → pw_W p l e R s m args below meth c Q G nL M cells slots tgt lv st) (kf : ¬ x = 0 → pw_W p l e R s m args below meth c Q G nL M cells slots (pc + 3) lv st) : pw_W p l e R s m args below meth c Q G nL M cells slots pc lv (.int x :: st) := fun H locs ls h1 h2 h3 => lv_if_eq X.1 X.2.1 hd ht (fun h9 => kt h9 H locs ls h1 h2 h3) (fun h9 => kf h9 H locs ls h1 h2 h3)
theorem pw_icmp_eq (X : pw_Cx p l s m args meth c G cc nL own) {x y : Int32} {off : Int} (tgt : Nat) (hd : decode cc pc = .ok (.if_icmp .eq off, 3)) (ht : (pc : Int) + off = (tgt : Int)) (kt : x = y → pw_W p l e R s m args below meth c Q G nL M cells slots tgt lv st) (kf : ¬ x = y → pw_W p l e R s m args below meth c Q G nL M cells slots (pc + 3) lv st) : pw_W p l e R s m args below meth c Q G nL M cells slots pc lv (.int y :: .int x :: st) := fun H locs ls h1 h2 h3 => lv_icmp_eq X.1 X.2.1 hd ht (fun h9 => kt h9 H locs ls h1 h2 h3) (fun h9 => kf h9 H locs ls h1 h2 h3)
theorem pw_if_ne (X : pw_Cx p l s m args meth c G cc nL own) {x : Int32} {off : Int} (tgt : Nat) (hd : decode cc pc = .ok (.ifCond .ne off, 3)) (ht : (pc : Int) + off = (tgt : Int)) (kt : ¬ x = 0 → pw_W p l e R s m args below meth c Q G nL M cells slots tgt lv st) (kf : x = 0 → pw_W p l e R s m args below meth c Q G nL M cells slots (pc + 3) lv st) : pw_W p l e R s m args below meth c Q G nL M cells slots pc lv (.int x :: st) := fun H locs ls h1 h2 h3 => lv_if_ne X.1 X.2.1 hd ht (fun h9 => kt h9 H locs ls h1 h2 h3) (fun h9 => kf h9 H locs ls h1 h2 h3)
theorem pw_icmp_ne (X : pw_Cx p l s m args meth c G cc nL own) {x y : Int32} {off : Int} (tgt : Nat) (hd : decode cc pc = .ok (.if_icmp .ne off, 3)) (ht : (pc : Int) + off = (tgt : Int)) (kt : ¬ x = y → pw_W p l e R s m args below meth c Q G nL M cells slots tgt lv st) (kf : x = y → pw_W p l e R s m args below meth c Q G nL M cells slots (pc + 3) lv st) : pw_W p l e R s m args below meth c Q G nL M cells slots pc lv (.int y :: .int x :: st) := fun H locs ls h1 h2 h3 => lv_icmp_ne X.1 X.2.1 hd ht (fun h9 => kt h9 H locs ls h1 h2 h3) (fun h9 => kf h9 H locs ls h1 h2 h3)
theorem pw_if_lt (X : pw_Cx p l s m args meth c G cc nL own) {x : Int32} {off : Int} (tgt : Nat) (hd : decode cc pc = .ok (.ifCond .lt off, 3)) (ht : (pc : Int) + off = (tgt : Int)) (kt : x < 0 → pw_W p l e R s m args below meth c Q G nL M cells slots tgt lv st) (kf : ¬ x < 0 → pw_W p l e R s m args below meth c Q G nL M cells slots (pc + 3) lv st) : pw_W p l e R s m args below meth c Q G nL M cells slots pc lv (.int x :: st) := fun H locs ls h1 h2 h3 => lv_if_lt X.1 X.2.1 hd ht (fun h9 => kt h9 H locs ls h1 h2 h3) (fun h9 => kf h9 H locs ls h1 h2 h3)
theorem pw_icmp_lt (X : pw_Cx p l s m args meth c G cc nL own) {x y : Int32} {off : Int} (tgt : Nat) (hd : decode cc pc = .ok (.if_icmp .lt off, 3)) (ht : (pc : Int) + off = (tgt : Int)) (kt : x < y → pw_W p l e R s m args below meth c Q G nL M cells slots tgt lv st) (kf : ¬ x < y → pw_W p l e R s m args below meth c Q G nL M cells slots (pc + 3) lv st) : pw_W p l e R s m args below meth c Q G nL M cells slots pc lv (.int y :: .int x :: st) := fun H locs ls h1 h2 h3 => lv_icmp_lt X.1 X.2.1 hd ht (fun h9 => kt h9 H locs ls h1 h2 h3) (fun h9 => kf h9 H locs ls h1 h2 h3)
theorem pw_if_ge (X : pw_Cx p l s m args meth c G cc nL own) {x : Int32} {off : Int} (tgt : Nat) (hd : decode cc pc = .ok (.ifCond .ge off, 3)) (ht : (pc : Int) + off = (tgt : Int)) (kt : 0 ≤ x → pw_W p l e R s m args below meth c Q G nL M cells slots tgt lv st) (kf : ¬ 0 ≤ x → pw_W p l e R s m args below meth c Q G nL M cells slots (pc + 3) lv st) : pw_W p l e R s m args below meth c Q G nL M cells slots pc lv (.int x :: st) := fun H locs ls h1 h2 h3 => lv_if_ge X.1 X.2.1 hd ht (fun h9 => kt h9 H locs ls h1 h2 h3) (fun h9 => kf h9 H locs ls h1 h2 h3)
theorem pw_icmp_ge (X : pw_Cx p l s m args meth c G cc nL own) {x y : Int32} {off : Int} (tgt : Nat) (hd : decode cc pc = .ok (.if_icmp .ge off, 3)) (ht : (pc : Int) + off = (tgt : Int)) (kt : y ≤ x → pw_W p l e R s m args below meth c Q G nL M cells slots tgt lv st) (kf : ¬ y ≤ x → pw_W p l e R s m args below meth c Q G nL M cells slots (pc + 3) lv st) : pw_W p l e R s m args below meth c Q G nL M cells slots pc lv (.int y :: .int x :: st) := fun H locs ls h1 h2 h3 => lv_icmp_ge X.1 X.2.1 hd ht (fun h9 => kt h9 H locs ls h1 h2 h3) (fun h9 => kf h9 H locs ls h1 h2 h3)
theorem pw_if_gt (X : pw_Cx p l s m args meth c G cc nL own) {x : Int32} {off : Int} (tgt : Nat) (hd : decode cc pc = .ok (.ifCond .gt off, 3)) (ht : (pc : Int) + off = (tgt : Int)) (kt : 0 < x → pw_W p l e R s m args below meth c Q G nL M cells slots tgt lv st) (kf : ¬ 0 < x → pw_W p l e R s m args below meth c Q G nL M cells slots (pc + 3) lv st) : pw_W p l e R s m args below meth c Q G nL M cells slots pc lv (.int x :: st) := fun H locs ls h1 h2 h3 => lv_if_gt X.1 X.2.1 hd ht (fun h9 => kt h9 H locs ls h1 h2 h3) (fun h9 => kf h9 H locs ls h1 h2 h3)
theorem pw_icmp_gt (X : pw_Cx p l s m args meth c G cc nL own) {x y : Int32} {off : Int} (tgt : Nat) (hd : decode cc pc = .ok (.if_icmp .gt off, 3)) (ht : (pc : Int) + off = (tgt : Int)) (kt : y < x → pw_W p l e R s m args below meth c Q G nL M cells slots tgt lv st) (kf : ¬ y < x → pw_W p l e R s m args below meth c Q G nL M cells slots (pc + 3) lv st) : pw_W p l e R s m args below meth c Q G nL M cells slots pc lv (.int y :: .int x :: st) := fun H locs ls h1 h2 h3 => lv_icmp_gt X.1 X.2.1 hd ht (fun h9 => kt h9 H locs ls h1 h2 h3) (fun h9 => kf h9 H locs ls h1 h2 h3)
theorem pw_if_le (X : pw_Cx p l s m args meth c G cc nL own) {x : Int32} {off : Int} (tgt : Nat) (hd : decode cc pc = .ok (.ifCond .le off, 3)) (ht : (pc : Int) + off = (tgt : Int)) (kt : x ≤ 0 → pw_W p l e R s m args below meth c Q G nL M cells slots tgt lv st) (kf : ¬ x ≤ 0 → pw_W p l e R s m args below meth c Q G nL M cells slots (pc + 3) lv st) : pw_W p l e R s m args below meth c Q G nL M cells slots pc lv (.int x :: st) := fun H locs ls h1 h2 h3 => lv_if_le X.1 X.2.1 hd ht (fun h9 => kt h9 H locs ls h1 h2 h3) (fun h9 => kf h9 H locs ls h1 h2 h3)
theorem pw_icmp_le (X : pw_Cx p l s m args meth c G cc nL own) {x y : Int32} {off : Int} (tgt : Nat) (hd : decode cc pc = .ok (.if_icmp .le off, 3)) (ht : (pc : Int) + off = (tgt : Int)) (kt : x ≤ y → pw_W p l e R s m args below meth c Q G nL M cells slots tgt lv st) (kf : ¬ x ≤ y → pw_W p l e R s m args below meth c Q G nL M cells slots (pc + 3) lv st) : pw_W p l e R s m args below meth c Q G nL M cells slots pc lv (.int y :: .int x :: st) := fun H locs ls h1 h2 h3 => lv_icmp_le X.1 X.2.1 hd ht (fun h9 => kt h9 H locs ls h1 h2 h3) (fun h9 => kf h9 H locs ls h1 h2 h3)
theorem pw_goto (X : pw_Cx p l s m args meth c G cc nL own) {off : Int} (tgt : Nat) (hd : decode cc pc = .ok (.goto off, 3)) (ht : (pc : Int) + off = (tgt : Int)) (kk : pw_W p l e R s m args below meth c Q G nL M cells slots tgt lv st) : pw_W p l e R s m args below meth c Q G nL M cells slots pc lv st := fun H locs ls h1 h2 h3 => lv_goto X.1 X.2.1 hd ht (kk H locs ls h1 h2 h3)
theorem pw_ifnonnull (X : pw_Cx p l s m args meth c G cc nL own) {x : Nat} {off : Int} (tgt : Nat) (hd : decode cc pc = .ok (.ifnonnull off, 3)) (ht : (pc : Int) + off = (tgt : Int)) (kk : pw_W p l e R s m args below meth c Q G nL M cells slots tgt lv st) : pw_W p l e R s m args below meth c Q G nL M cells slots pc lv (.ref x :: st) := fun H locs ls h1 h2 h3 => lv_ifnonnull X.1 X.2.1 hd ht (kk H locs ls h1 h2 h3)
theorem pw_ifnonnullN (X : pw_Cx p l s m args meth c G cc nL own) {off : Int} (hd : decode cc pc = .ok (.ifnonnull off, 3)) (kk : pw_W p l e R s m args below meth c Q G nL M cells slots (pc + 3) lv st) : pw_W p l e R s m args below meth c Q G nL M cells slots pc lv (.null :: st) := fun H locs ls h1 h2 h3 => lv_ifnonnullN X.1 X.2.1 hd (kk H locs ls h1 h2 h3)
theorem pw_ifnull (X : pw_Cx p l s m args meth c G cc nL own) {x : Nat} {off : Int} (hd : decode cc pc = .ok (.ifnull off, 3)) (kk : pw_W p l e R s m args below meth c Q G nL M cells slots (pc + 3) lv st) : pw_W p l e R s m args below meth c Q G nL M cells slots pc lv (.ref x :: st) := fun H locs ls h1 h2 h3 => lv_ifnull X.1 X.2.1 hd (kk H locs ls h1 h2 h3)
theorem pw_ifnullN (X : pw_Cx p l s m args meth c G cc nL own) {off : Int} (tgt : Nat) (hd : decode cc pc = .ok (.ifnull off, 3)) (ht : (pc : Int) + off = (tgt : Int)) (kk : pw_W p l e R s m args below meth c Q G nL M cells slots tgt lv st) : pw_W p l e R s m args below meth c Q G nL M cells slots pc lv (.null :: st) := fun H locs ls h1 h2 h3 => lv_ifnullN X.1 X.2.1 hd ht (kk H locs ls h1 h2 h3)
theorem pw_swOut (X : pw_Cx p l s m args meth c G cc nL own) {dflt lo hi : Int} {offs : Array Int} {len : Nat} {x : Int32} (tgt : Nat) (hd : decode cc pc = .ok (.tableswitch dflt lo hi offs, len)) (h : x.toInt < lo ∨ hi < x.toInt) (ht : (pc : Int) + dflt = (tgt : Int)) (kk : pw_W p l e R s m args below meth c Q G nL M cells slots tgt lv st) : pw_W p l e R s m args below meth c Q G nL M cells slots pc lv (.int x :: st) := fun H locs ls h1 h2 h3 => lv_tableOut X.1 X.2.1 hd h ht (kk H locs ls h1 h2 h3)
theorem pw_swIn (X : pw_Cx p l s m args meth c G cc nL own) {dflt lo hi : Int} {offs : Array Int} {len : Nat} {x : Int32} {off : Int} (tgt : Nat) (hd : decode cc pc = .ok (.tableswitch dflt lo hi offs, len)) (h1 : ¬ x.toInt < lo) (h2 : ¬ hi < x.toInt) (ho : offs[(x.toInt - lo).toNat]? = some off) (ht : (pc : Int) + off = (tgt : Int)) (kk : pw_W p l e R s m args below meth c Q G nL M cells slots tgt lv st) : pw_W p l e R s m args below meth c Q G nL M cells slots pc lv (.int x :: st) := fun H locs ls g1 g2 g3 => lv_tableIn X.1 X.2.1 hd h1 h2 ho ht (kk H locs ls g1 g2 g3)
theorem pw_ldc2 (X : pw_Cx p l s m args meth c G cc nL own) {index : Nat} {v : Int64} (hd : decode cc pc = .ok (.ldc2_w index, 3)) (hw : Cond.constantLong own index v ∈ pw_T) (kk : pw_W p l e R s m args below meth c Q G nL M cells slots (pc + 3) lv (.long v :: st)) : pw_W p l e R s m args below meth c Q G nL M cells slots pc lv st := fun H locs ls h1 h2 h3 => lv_ldc2 X.1 X.2.1 X.2.2.2.1 (X.2.2.2.2.1 _ hw) hd (kk H locs ls h1 h2 h3)
theorem pw_cg {va vb : Value} (h : va = vb) (kk : pw_W p l e R s m args below meth c Q G nL M cells slots pc lv (vb :: st)) : pw_W p l e R s m args below meth c Q G nL M cells slots pc lv (va :: st) := by rw [h]; exact kk
theorem pw_widen {k n : Nat} (h1 : cells ≤ k) (h2 : slots ≤ n) (kk : pw_W p l e R s m args below meth c Q G nL M k n pc lv st) : pw_W p l e R s m args below meth c Q G nL M cells slots pc lv st := fun H locs ls g1 g2 g3 => W.widen h1 h2 (kk H locs ls g1 g2 g3)
theorem pw_get (X : pw_Cx p l s m args meth c G cc nL own) {C : String} {T : u_T} {N ci index : Nat} {a : Nat} {fs : List Value} {v : Value} (hd : decode cc pc = .ok (.getfield index, 3)) (ha : M a = some (.inr (ci, fs))) (hc : pw_cl[ci]? = some (C, T, N)) (hin : ∀ w ∈ u_ws C T N, w ∈ pw_T) (k : Nat) (hk : k < N) (hw : Cond.fieldLink own index (T k).1 (T k).2.1 (T k).2.2.1 ∈ pw_T) (hv : fs[k]? = some v) (kk : pw_W p l e R s m args below meth c Q G nL M cells slots (pc + 3) lv (v :: st)) : pw_W p l e R s m args below meth c Q G nL M cells slots pc lv (.ref a :: st) := fun H locs ls h1 h2 h3 => va_get (D := G.1) (ci := ci) (v := v) (C := C) (T := T) (N := N) X.1 X.2.1 X.2.2.2.2.1 hin X.2.2.2.1 X.2.2.2.2.2.1.1 (h1.P ha) 0 rfl hc k hk (X.2.2.2.2.1 _ hw) (fun _ h9 => h9) hv hd (kk H locs ls h1 h2 h3)
theorem pw_put (X : pw_Cx p l s m args meth c G cc nL own) {C : String} {T : u_T} {N ci index : Nat} {a : Nat} {fs : List Value} {v : Value} {ty : FieldType} (hd : decode cc pc = .ok (.putfield index, 3)) (ha : M a = some (.inr (ci, fs))) (hc : pw_cl[ci]? = some (C, T, N)) (hin : ∀ w ∈ u_ws C T N, w ∈ pw_T) (ty0 : Nat → FieldType) (hty : ∀ k, k < N → parseFieldDescriptor (T k).2.2.1 = some (ty0 k)) (hnm : ∀ a, a < N → ∀ b, b < N → a ≠ b → (T a).2.1 ≠ (T b).2.1) (k : Nat) (hk : k < N) (hw : Cond.fieldLink own index (T k).1 (T k).2.1 (T k).2.2.1 ∈ pw_T) (hfin : (T k).2.2.2 = false) (hpd : parseFieldDescriptor (T k).2.2.1 = some ty) (hn : narrow ty v = v) (hfit : fits ty v = true) (hl : k < fs.length) (fs9 : List Value) (hs : fs.set k v = fs9) (kk : pw_W p l e R s m args below meth c Q G nL (pw_up M a (.inr (ci, fs9))) cells slots (pc + 3) lv st) : pw_W p l e R s m args below meth c Q G nL M cells slots pc lv (v :: .ref a :: st) := by
  subst hs
  intro H locs ls h1 h2 h3
  have hA : pw_A G a := (h1.2.2 a _ ha).1
  have hK := X.2.2.2.2.2.1.1
  have hts := X.2.2.2.2.1
  have hap := va_apart (own := own) hts hin ty0 hty hnm hK hc
  obtain ⟨r, g1, cell, q1, q2, q3, q4⟩ := h1.at ha
  have hr : r = (C, T, N) := Option.some.inj (g1.symm.trans hc)
  subst hr
  obtain ⟨hS, hfc, kC, hkC, hkind⟩ := hK.1 ci _ hc
  obtain ⟨cf, kf, fi, f, hi, hsl⟩ := hS k hk
  have hlay := hts _ (hin _ (u_in_lay hk))
  unfold u_lay at hlay
  rw [if_neg (by rw [hfin]; decide)] at hlay
  have hst := (u_facts hfc hkC (u_lays hts hin hk) hi).1
  have h6 := u_store hfc hkC hkind hlay hi hpd hn hfit
  refine W.putK X.1 X.2.1 (f := f) ⟨X.2.2.2.1, hts _ hw, ⟨_, _, _, hi⟩, hst⟩ (by rw [q2]; exact h6) q1 q3 (by rw [hsl]; exact k2_hasslot (q4 k hk)) rfl rfl hd fun H9 e1 e2 e3 => ?_
  rw [hsl] at e1 ⊢
  exact kk H9 _ ls (h1.put ha ⟨_, hc, t_OB.to (V := updV (vp_V fs) k v) ⟨_, e1, q2, q3, t_set q4 hap hk v⟩ (fun j _ => vp_updV_set hl v j)⟩ e2 e3) (pw_loc h2 hA) h3
theorem pw_putF (X : pw_Cx p l s m args meth c G cc nL own) {C : String} {T : u_T} {N ci index : Nat} {a : Nat} {fs : List Value} {v : Value} {ty : FieldType} (hd : decode cc pc = .ok (.putfield index, 3)) (ha : M a = some (.inr (ci, fs))) (hc : pw_cl[ci]? = some (C, T, N)) (hin : ∀ w ∈ u_ws C T N, w ∈ pw_T) (ty0 : Nat → FieldType) (hty : ∀ k, k < N → parseFieldDescriptor (T k).2.2.1 = some (ty0 k)) (hnm : ∀ a, a < N → ∀ b, b < N → a ≠ b → (T a).2.1 ≠ (T b).2.1) (k : Nat) (hk : k < N) (hw : Cond.fieldLink own index (T k).1 (T k).2.1 (T k).2.2.1 ∈ pw_T) (hfin : (T k).2.2.2 = true) (hinit : meth.name = "<init>") (hdecl : (T k).1 = own) (hpd : parseFieldDescriptor (T k).2.2.1 = some ty) (hn : narrow ty v = v) (hfit : fits ty v = true) (hl : k < fs.length) (fs9 : List Value) (hs : fs.set k v = fs9) (kk : pw_W p l e R s m args below meth c Q G nL (pw_up M a (.inr (ci, fs9))) cells slots (pc + 3) lv st) : pw_W p l e R s m args below meth c Q G nL M cells slots pc lv (v :: .ref a :: st) := by
  subst hs
  intro H locs ls h1 h2 h3
  have hA : pw_A G a := (h1.2.2 a _ ha).1
  have hK := X.2.2.2.2.2.1.1
  have hts := X.2.2.2.2.1
  have hown := X.2.2.2.1
  have hap := va_apart (own := own) hts hin ty0 hty hnm hK hc
  obtain ⟨r, g1, cell, q1, q2, q3, q4⟩ := h1.at ha
  have hr : r = (C, T, N) := Option.some.inj (g1.symm.trans hc)
  subst hr
  obtain ⟨hS, hfc, kC, hkC, hkind⟩ := hK.1 ci _ hc
  obtain ⟨cf, kf, fi, f, hi, hsl⟩ := hS k hk
  have hlay := hts _ (hin _ (u_in_lay hk))
  unfold u_lay at hlay
  rw [if_pos hfin] at hlay
  have hst := (u_facts hfc hkC (u_lays hts hin hk) hi).1
  have hcf : m.cls = cf := by
    obtain ⟨_, _, c9, _, _, _, -, -, hf9, -, -, -, hown2, -⟩ := Cond.laysFinal_spec hlay
    have e1 : c9 = cf := by have := hi.symm.trans hf9; simp at this; exact this.1.symm
    rw [hdecl] at hown2
    rw [← e1]; exact Option.some.inj (hown.symm.trans hown2)
  have h6 := u_fits hfc hkC hkind (Or.inr hlay) hi hpd hn hfit
  refine W.putFinK X.1 X.2.1 hown (hts _ hw) hi hst hcf hinit (by rw [q2]; exact h6) q1 q3 (by rw [hsl]; exact k2_hasslot (q4 k hk)) rfl rfl hd fun H9 e1 e2 e3 => ?_
  rw [hsl] at e1 ⊢
  exact kk H9 _ ls (h1.put ha ⟨_, hc, t_OB.to (V := updV (vp_V fs) k v) ⟨_, e1, q2, q3, t_set q4 hap hk v⟩ (fun j _ => vp_updV_set hl v j)⟩ e2 e3) (pw_loc h2 hA) h3
theorem pw_iald (X : pw_Cx p l s m args meth c G cc nL own) {a n j : Nat} {f : Nat → Int32} (hd : decode cc pc = .ok (.iaload, 1)) (ha : M a = some (.inl (G.2.2.1 0, n, .inl f))) (hj : j < n) (hn : n < 2 ^ 31) (kk : pw_W p l e R s m args below meth c Q G nL M cells slots (pc + 1) lv (.int (f j) :: st)) : pw_W p l e R s m args below meth c Q G nL M cells slots pc lv (.int (nI j) :: .ref a :: st) := fun H locs ls h1 h2 h3 => va_iald (D := G.1) (tys := pw_tys G) X.1 X.2.1 X.2.2.2.2.2.1.1 (h1.P ha) 0 0 rfl rfl (vp_in_nI hj hn) hd (by rw [nI_clamp (Nat.lt_trans hj hn)]; exact kk H locs ls h1 h2 h3)
theorem pw_zald (X : pw_Cx p l s m args meth c G cc nL own) {a n j : Nat} {f : Nat → Int32} (hd : decode cc pc = .ok (.baload, 1)) (ha : M a = some (.inl (G.2.2.1 1, n, .inl f))) (hj : j < n) (hn : n < 2 ^ 31) (kk : pw_W p l e R s m args below meth c Q G nL M cells slots (pc + 1) lv (.int (f j) :: st)) : pw_W p l e R s m args below meth c Q G nL M cells slots pc lv (.int (nI j) :: .ref a :: st) := fun H locs ls h1 h2 h3 => va_zald (D := G.1) (tys := pw_tys G) X.1 X.2.1 X.2.2.2.2.2.1.1 (h1.P ha) 0 1 rfl rfl (vp_in_nI hj hn) hd (by rw [nI_clamp (Nat.lt_trans hj hn)]; exact kk H locs ls h1 h2 h3)
theorem pw_aald (X : pw_Cx p l s m args meth c G cc nL own) {a n j : Nat} {f : Nat → Option Nat} (hd : decode cc pc = .ok (.aaload, 1)) (ha : M a = some (.inl (G.2.2.1 2, n, .inr (.inr (.inr (.inr f)))))) (hj : j < n) (hn : n < 2 ^ 31) (kk : pw_W p l e R s m args below meth c Q G nL M cells slots (pc + 1) lv (va_rf (f j) :: st)) : pw_W p l e R s m args below meth c Q G nL M cells slots pc lv (.int (nI j) :: .ref a :: st) := fun H locs ls h1 h2 h3 => va_aldq (D := G.1) (tys := pw_tys G) X.1 X.2.1 X.2.2.2.2.2.1.1 (h1.P ha) 0 2 rfl rfl (vp_in_nI hj hn) hd (by rw [nI_clamp (Nat.lt_trans hj hn)]; exact kk H locs ls h1 h2 h3)
theorem pw_lald (X : pw_Cx p l s m args meth c G cc nL own) {a n j : Nat} {f : Nat → Int64} (hd : decode cc pc = .ok (.laload, 1)) (ha : M a = some (.inl (G.2.2.1 3, n, .inr (.inl f)))) (hj : j < n) (hn : n < 2 ^ 31) (kk : pw_W p l e R s m args below meth c Q G nL M cells slots (pc + 1) lv (.long (f j) :: st)) : pw_W p l e R s m args below meth c Q G nL M cells slots pc lv (.int (nI j) :: .ref a :: st) := fun H locs ls h1 h2 h3 => va_lald (D := G.1) (tys := pw_tys G) X.1 X.2.1 X.2.2.2.2.2.1.1 (h1.P ha) 0 3 rfl rfl (vp_in_nI hj hn) hd (by rw [nI_clamp (Nat.lt_trans hj hn)]; exact kk H locs ls h1 h2 h3)
theorem pw_alen0 (X : pw_Cx p l s m args meth c G cc nL own) {a n : Nat} {x : _} {v : Int32} (hd : decode cc pc = .ok (.arraylength, 1)) (ha : M a = some (.inl (G.2.2.1 0, n, x))) (hv : nI n = v) (kk : pw_W p l e R s m args below meth c Q G nL M cells slots (pc + 1) lv (.int v :: st)) : pw_W p l e R s m args below meth c Q G nL M cells slots pc lv (.ref a :: st) := fun H locs ls h1 h2 h3 => by
  subst hv
  exact va_alen (D := G.1) (tys := pw_tys G) X.1 X.2.1 X.2.2.2.2.2.1.1 (h1.P ha) 0 0 rfl rfl rfl hd (kk H locs ls h1 h2 h3)
theorem pw_alen1 (X : pw_Cx p l s m args meth c G cc nL own) {a n : Nat} {x : _} {v : Int32} (hd : decode cc pc = .ok (.arraylength, 1)) (ha : M a = some (.inl (G.2.2.1 1, n, x))) (hv : nI n = v) (kk : pw_W p l e R s m args below meth c Q G nL M cells slots (pc + 1) lv (.int v :: st)) : pw_W p l e R s m args below meth c Q G nL M cells slots pc lv (.ref a :: st) := fun H locs ls h1 h2 h3 => by
  subst hv
  exact va_alen (D := G.1) (tys := pw_tys G) X.1 X.2.1 X.2.2.2.2.2.1.1 (h1.P ha) 0 1 rfl rfl rfl hd (kk H locs ls h1 h2 h3)
theorem pw_alen2 (X : pw_Cx p l s m args meth c G cc nL own) {a n : Nat} {x : _} {v : Int32} (hd : decode cc pc = .ok (.arraylength, 1)) (ha : M a = some (.inl (G.2.2.1 2, n, x))) (hv : nI n = v) (kk : pw_W p l e R s m args below meth c Q G nL M cells slots (pc + 1) lv (.int v :: st)) : pw_W p l e R s m args below meth c Q G nL M cells slots pc lv (.ref a :: st) := fun H locs ls h1 h2 h3 => by
  subst hv
  exact va_alen (D := G.1) (tys := pw_tys G) X.1 X.2.1 X.2.2.2.2.2.1.1 (h1.P ha) 0 2 rfl rfl rfl hd (kk H locs ls h1 h2 h3)
theorem pw_alen3 (X : pw_Cx p l s m args meth c G cc nL own) {a n : Nat} {x : _} {v : Int32} (hd : decode cc pc = .ok (.arraylength, 1)) (ha : M a = some (.inl (G.2.2.1 3, n, x))) (hv : nI n = v) (kk : pw_W p l e R s m args below meth c Q G nL M cells slots (pc + 1) lv (.int v :: st)) : pw_W p l e R s m args below meth c Q G nL M cells slots pc lv (.ref a :: st) := fun H locs ls h1 h2 h3 => by
  subst hv
  exact va_alen (D := G.1) (tys := pw_tys G) X.1 X.2.1 X.2.2.2.2.2.1.1 (h1.P ha) 0 3 rfl rfl rfl hd (kk H locs ls h1 h2 h3)
theorem pw_iast (X : pw_Cx p l s m args meth c G cc nL own) {a n j : Nat} {f : Nat → Int32} {x : Int32} (hd : decode cc pc = .ok (.iastore, 1)) (ha : M a = some (.inl (G.2.2.1 0, n, .inl f))) (hj : j < n) (hn : n < 2 ^ 31)  (kk : pw_W p l e R s m args below meth c Q G nL (pw_up M a (.inl (G.2.2.1 0, n, .inl (upd f j x)))) cells slots (pc + 1) lv st) : pw_W p l e R s m args below meth c Q G nL M cells slots pc lv (.int x :: .int (nI j) :: .ref a :: st) := by
  intro H locs ls h1 h2 h3
  have hA : pw_A G a := (h1.2.2 a _ ha).1
  refine W.iast X.1 X.2.1 (h1.at ha) ((X.2.2.2.2.2.1.1.2 0 _ rfl).1 n (fun j => .int (f j))) (fun q => by cases q) (by show ¬ (nI j < 0 ∨ (arrV _ _ _).slots.size ≤ _); rw [arrV_size]; exact vp_in_nI hj hn) rfl rfl hd fun H9 e9 z9 oq => ?_
  refine kk H9 _ ls (h1.put ha ?_ z9 oq) (pw_loc h2 hA) h3
  show H9[a]? = some (vp_cell _ _)
  rw [e9, nI_clamp (Nat.lt_trans hj hn)]
  rw [vp_cell_i, vp_cell_i, arrV_store]
  congr 2
  funext q
  by_cases hq : q = j
  · subst hq
    simp [updV, upd]
    try rfl
  · simp [updV, upd, hq]
theorem pw_zast (X : pw_Cx p l s m args meth c G cc nL own) {a n j : Nat} {f : Nat → Int32} {x : Int32} (hd : decode cc pc = .ok (.bastore, 1)) (ha : M a = some (.inl (G.2.2.1 1, n, .inl f))) (hj : j < n) (hn : n < 2 ^ 31)  (kk : pw_W p l e R s m args below meth c Q G nL (pw_up M a (.inl (G.2.2.1 1, n, .inl (upd f j (vp_nar .boolean x))))) cells slots (pc + 1) lv st) : pw_W p l e R s m args below meth c Q G nL M cells slots pc lv (.int x :: .int (nI j) :: .ref a :: st) := by
  intro H locs ls h1 h2 h3
  have hA : pw_A G a := (h1.2.2 a _ ha).1
  refine W.zast X.1 X.2.1 (h1.at ha) ((X.2.2.2.2.2.1.1.2 1 _ rfl).1 n (fun j => .int (f j))) (fun q => by cases q) (by show ¬ (nI j < 0 ∨ (arrV _ _ _).slots.size ≤ _); rw [arrV_size]; exact vp_in_nI hj hn) rfl rfl hd fun H9 e9 z9 oq => ?_
  refine kk H9 _ ls (h1.put ha ?_ z9 oq) (pw_loc h2 hA) h3
  show H9[a]? = some (vp_cell _ _)
  rw [e9, nI_clamp (Nat.lt_trans hj hn)]
  rw [vp_cell_i, vp_cell_i, arrV_store]
  congr 2
  funext q
  by_cases hq : q = j
  · subst hq
    simp [updV, upd, vp_nar]
    try rfl
  · simp [updV, upd, vp_nar, hq]
theorem pw_last (X : pw_Cx p l s m args meth c G cc nL own) {a n j : Nat} {f : Nat → Int64} {x : Int64} (hd : decode cc pc = .ok (.lastore, 1)) (ha : M a = some (.inl (G.2.2.1 3, n, .inr (.inl f)))) (hj : j < n) (hn : n < 2 ^ 31)  (kk : pw_W p l e R s m args below meth c Q G nL (pw_up M a (.inl (G.2.2.1 3, n, .inr (.inl (vp_updL f j x))))) cells slots (pc + 1) lv st) : pw_W p l e R s m args below meth c Q G nL M cells slots pc lv (.long x :: .int (nI j) :: .ref a :: st) := by
  intro H locs ls h1 h2 h3
  have hA : pw_A G a := (h1.2.2 a _ ha).1
  refine W.last X.1 X.2.1 (h1.at ha) ((X.2.2.2.2.2.1.1.2 3 _ rfl).1 n (fun j => .long (f j))) (fun q => by cases q) (by show ¬ (nI j < 0 ∨ (arrV _ _ _).slots.size ≤ _); rw [arrV_size]; exact vp_in_nI hj hn) rfl rfl hd fun H9 e9 z9 oq => ?_
  refine kk H9 _ ls (h1.put ha ?_ z9 oq) (pw_loc h2 hA) h3
  show H9[a]? = some (vp_cell _ _)
  rw [e9, nI_clamp (Nat.lt_trans hj hn)]
  rw [vp_cell_l, vp_cell_l, arrV_store]
  congr 2
  funext q
  by_cases hq : q = j
  · subst hq
    simp [updV, vp_updL]
    try rfl
  · simp [updV, vp_updL, hq]
theorem pw_aast (X : pw_Cx p l s m args meth c G cc nL own) {a n j v ci : Nat} {vs : List Value} {f : Nat → Option Nat} {r : vw_C} (hd : decode cc pc = .ok (.aastore, 1)) (ha : M a = some (.inl (G.2.2.1 2, n, .inr (.inr (.inr (.inr f)))))) (hv : M v = some (.inr (ci, vs))) (hc : pw_cl[ci]? = some r) (hr : r.1 = RX0) (hj : j < n) (hn : n < 2 ^ 31) (kk : pw_W p l e R s m args below meth c Q G nL (pw_up M a (.inl (G.2.2.1 2, n, .inr (.inr (.inr (.inr (va_up f j (some v)))))))) cells slots (pc + 1) lv st) : pw_W p l e R s m args below meth c Q G nL M cells slots pc lv (.ref v :: .int (nI j) :: .ref a :: st) := by
  intro H locs ls h1 h2 h3
  have hA : pw_A G a := (h1.2.2 a _ ha).1
  have hK := X.2.2.2.2.2.1.1
  have hlt : (nI j).toNatClampNeg < n := by rw [nI_clamp (Nat.lt_trans hj hn)]; exact hj
  have h0 : ¬ nI j < 0 := nI_pos (Nat.lt_trans hj hn)
  obtain ⟨r9, hr9, cellV, g1, g2, g3, -⟩ := h1.at hv
  have hcls := (hK.1 ci r hc).2
  rw [hr] at hcls
  obtain ⟨kA, comp, k1, k2, k3, -⟩ := (hK.2 2 _ rfl).2
  have hcomp : comp = G.1.1 ci := Option.some.inj (k3.symm.trans hcls.1)
  subst hcomp
  obtain ⟨kC, hkC, -⟩ := hcls.2
  refine W.aast X.1 X.2.1 (h1.at ha) (fun q h => by cases h) (fun h => by cases h) k1 k2 rfl hkC ⟨h0, by show _ < (arrV _ _ _).slots.size; rw [arrV_size]; exact hlt⟩ g1 (fun q h => by rw [g3] at h; cases h) (by rw [g2]; exact hkC) (by rw [g2]; exact va_assign hcls) rfl rfl hd fun H9 e9 z9 oq => ?_
  refine kk H9 _ ls (h1.put ha ?_ z9 oq) (pw_loc h2 hA) h3
  show H9[a]? = some (vp_cell _ _)
  rw [e9, nI_clamp (Nat.lt_trans hj hn)]
  rw [vp_cell_q, vp_cell_q, arrV_store]
  congr 2
  funext q
  by_cases hq : q = j
  · subst hq
    simp [updV, va_up, va_rf]
  · simp [updV, va_up, hq]
theorem pw_aastN (X : pw_Cx p l s m args meth c G cc nL own) {a n j : Nat} {f : Nat → Option Nat} (hd : decode cc pc = .ok (.aastore, 1)) (ha : M a = some (.inl (G.2.2.1 2, n, .inr (.inr (.inr (.inr f)))))) (hj : j < n) (hn : n < 2 ^ 31) (kk : pw_W p l e R s m args below meth c Q G nL (pw_up M a (.inl (G.2.2.1 2, n, .inr (.inr (.inr (.inr (va_up f j none))))))) cells slots (pc + 1) lv st) : pw_W p l e R s m args below meth c Q G nL M cells slots pc lv (.null :: .int (nI j) :: .ref a :: st) := by
  intro H locs ls h1 h2 h3
  have hA : pw_A G a := (h1.2.2 a _ ha).1
  refine va_WaastN (C := RX0) X.1 X.2.1 (h1.at ha) ((X.2.2.2.2.2.1.1.2 2 _ rfl).1 n (fun j => va_rf (f j))) (fun h => by cases h) (by show ¬ (nI j < 0 ∨ (arrV _ _ _).slots.size ≤ _); rw [arrV_size]; exact vp_in_nI hj hn) rfl rfl hd fun H9 e9 z9 oq => ?_
  refine kk H9 _ ls (h1.put ha ?_ z9 oq) (pw_loc h2 hA) h3
  show H9[a]? = some (vp_cell _ _)
  rw [e9, nI_clamp (Nat.lt_trans hj hn)]
  rw [vp_cell_q, vp_cell_q, arrV_store]
  congr 2
  funext q
  by_cases hq : q = j
  · subst hq
    simp [updV, va_up, va_rf]
  · simp [updV, va_up, hq]
def pw_fr (G : pw_G) (M : pw_M) (q : Nat) : Prop := G.2.1.size ≤ q ∧ ∀ (a : Nat) (e : va_E), M a = some e → a < q
theorem pw_fr.ne {a q : Nat} {x : va_E} (h : pw_fr G M q) (ha : M a = some x) : a ≠ q := Nat.ne_of_lt (h.2 a x ha)
theorem pw_new (X : pw_Cx p l s m args meth c G cc nL own) {C : String} {T : u_T} {N ci index : Nat} (hd : decode cc pc = .ok (.new index, 3)) (hc : pw_cl[ci]? = some (C, T, N)) (hin : ∀ w ∈ u_ws C T N, w ∈ pw_T) (ty : Nat → FieldType) (hty : ∀ k, k < N → parseFieldDescriptor (T k).2.2.1 = some (ty k)) (hw : Cond.classLink own index C ∈ pw_T ∧ Cond.instantiable C N ∈ pw_T ∧ Cond.initialized C ∈ pw_T) {fs : List Value} (hfs : ∀ j, j < N → defaultValue (ty j) = vp_V fs j) (hcells : cells + 1 ≤ R.cells) (hslots : slots + N ≤ R.slots) (kk : ∀ q : Nat, pw_fr G M q → pw_W p l e R s m args below meth c Q G nL (pw_up M q (.inr (ci, fs))) (cells + 1) (slots + N) (pc + 3) lv (.ref q :: st)) : pw_W p l e R s m args below meth c Q G nL M cells slots pc lv st := by
  intro H locs ls h1 h2 h3
  have hts := X.2.2.2.2.1
  have hKn := X.2.2.2.2.2.1.1.1 ci _ hc
  refine W.newcK X.1 X.2.1 X.2.2.2.1 (hts _ hw.1) (hts _ hw.2.1) (hts _ hw.2.2) rfl hd hcells hslots hKn.2.1 rfl fun H9 kC hkC e9 z9 o9 => ?_
  exact kk H.size ⟨h1.1, fun a x ha => h1.lt ha⟩ H9 locs ls (h1.push ⟨_, hc, (u_born ty hts hin hKn hkC e9 hty).to hfs⟩ (by omega) o9) h2 h3
theorem pw_newa (X : pw_Cx p l s m args meth c G cc nL own) {atype : ArrayType} {ty : FieldType} (t0 : Nat) (hd : decode cc pc = .ok (.newarray atype, 2)) (hty : newarray.typeOf atype = ty) (ht : (pw_tys G)[t0]? = some (G.2.2.1 t0, ty)) (hra : ∀ cA, va_RA s cA ty → va_RA s (G.2.2.1 t0) ty → cA = G.2.2.1 t0) (hRA : ∀ cA, s.vm.findClass ("[" ++ ty.toString) = some cA → va_RA s cA ty) (hw : Cond.arrayClass ty ∈ pw_T) {n : Nat} {a0 : vp_A} (ha0 : ∀ cA : ClassId, vp_cell cA a0 = arrV cA n (fun _ => defaultValue ty)) (hn : n < 2 ^ 31) (hbytes : n * componentBytes ty ≤ 536870912) (hcells : cells + 1 ≤ R.cells) (hslots : slots + n ≤ R.slots) (kk : ∀ q : Nat, pw_fr G M q → pw_W p l e R s m args below meth c Q G nL (pw_up M q (.inl (G.2.2.1 t0, a0))) (cells + 1) (slots + n) (pc + 2) lv (.ref q :: st)) : pw_W p l e R s m args below meth c Q G nL M cells slots pc lv (.int (nI n) :: st) := by
  intro H locs ls h1 h2 h3
  subst hty
  refine va_newaK X.1 X.2.1 (X.2.2.2.2.1 _ hw) rfl hd rfl (nI_pos hn) (nI_clamp hn) hbytes hcells hslots rfl fun H9 cA e9 z9 o9 hAr hNm => ?_
  have hcA : cA = G.2.2.1 t0 := hra cA (hRA cA hNm) (X.2.2.2.2.2.1.1.2 t0 _ ht).2
  subst hcA
  refine kk H.size ⟨h1.1, fun a x ha => h1.lt ha⟩ H9 locs ls (h1.push ?_ (by omega) o9) h2 h3
  show H9[H.size]? = some (vp_cell _ _)
  rw [ha0]
  exact e9
theorem pw_newi (X : pw_Cx p l s m args meth c G cc nL own) (hd : decode cc pc = .ok (.newarray .int, 2)) (hw : Cond.arrayClass .int ∈ pw_T) {n : Nat} (hn : n ≤ 1000) (hcells : cells + 1 ≤ R.cells) (hslots : slots + n ≤ R.slots) (kk : ∀ q : Nat, pw_fr G M q → pw_W p l e R s m args below meth c Q G nL (pw_up M q (.inl (G.2.2.1 0, n, .inl (fun _ => 0)))) (cells + 1) (slots + n) (pc + 2) lv (.ref q :: st)) : pw_W p l e R s m args below meth c Q G nL M cells slots pc lv (.int (nI n) :: st) :=
  pw_newa X 0 hd rfl rfl (fun cA h h9 => Option.some.inj ((va_nm_int h).symm.trans (va_nm_int h9))) (fun cA h => h) hw (fun cA => rfl) (by omega) (by show n * 4 ≤ _; omega) hcells hslots kk
theorem pw_newz (X : pw_Cx p l s m args meth c G cc nL own) (hd : decode cc pc = .ok (.newarray .boolean, 2)) (hw : Cond.arrayClass .boolean ∈ pw_T) {n : Nat} (hn : n ≤ 1000) (hcells : cells + 1 ≤ R.cells) (hslots : slots + n ≤ R.slots) (kk : ∀ q : Nat, pw_fr G M q → pw_W p l e R s m args below meth c Q G nL (pw_up M q (.inl (G.2.2.1 1, n, .inl (fun _ => 0)))) (cells + 1) (slots + n) (pc + 2) lv (.ref q :: st)) : pw_W p l e R s m args below meth c Q G nL M cells slots pc lv (.int (nI n) :: st) :=
  pw_newa X 1 hd rfl rfl (fun cA h h9 => Option.some.inj ((va_nm_boolean h).symm.trans (va_nm_boolean h9))) (fun cA h => h) hw (fun cA => rfl) (by omega) (by show n * 1 ≤ _; omega) hcells hslots kk
theorem pw_newl (X : pw_Cx p l s m args meth c G cc nL own) (hd : decode cc pc = .ok (.newarray .long, 2)) (hw : Cond.arrayClass .long ∈ pw_T) {n : Nat} (hn : n ≤ 1000) (hcells : cells + 1 ≤ R.cells) (hslots : slots + n ≤ R.slots) (kk : ∀ q : Nat, pw_fr G M q → pw_W p l e R s m args below meth c Q G nL (pw_up M q (.inl (G.2.2.1 3, n, .inr (.inl (fun _ => 0))))) (cells + 1) (slots + n) (pc + 2) lv (.ref q :: st)) : pw_W p l e R s m args below meth c Q G nL M cells slots pc lv (.int (nI n) :: st) :=
  pw_newa X 3 hd rfl rfl (fun cA h h9 => Option.some.inj ((va_nm_long h).symm.trans (va_nm_long h9))) (fun cA h => h) hw (fun cA => rfl) (by omega) (by show n * 8 ≤ _; omega) hcells hslots kk
theorem pw_newq (X : pw_Cx p l s m args meth c G cc nL own) {index : Nat} (hd : decode cc pc = .ok (.anewarray index, 3)) (hw : Cond.classLink own index RX0 ∈ pw_T) {n : Nat} (hn : n ≤ 1000) (hcells : cells + 1 ≤ R.cells) (hslots : slots + n ≤ R.slots) (kk : ∀ q : Nat, pw_fr G M q → pw_W p l e R s m args below meth c Q G nL (pw_up M q (.inl (G.2.2.1 2, n, .inr (.inr (.inr (.inr (fun _ => none))))))) (cells + 1) (slots + n) (pc + 3) lv (.ref q :: st)) : pw_W p l e R s m args below meth c Q G nL M cells slots pc lv (.int (nI n) :: st) := by
  intro H locs ls h1 h2 h3
  have hn9 : n < 2 ^ 31 := by omega
  have hcl : (nI n).toNatClampNeg = n := nI_clamp hn9
  refine W.anew X.1 X.2.1 X.2.2.2.1 (X.2.2.2.2.1 _ hw) (va_AO.use X.2.2.2.2.2.1.2.1) rfl hd rfl (nI_pos hn9) (by rw [hcl]; omega) hcells (by rw [hcl]; exact hslots) fun cA kA comp f1 f2 f3 f4 => ?_
  obtain ⟨kA9, comp9, k1, k2, k3, k4⟩ := (X.2.2.2.2.2.1.1.2 2 _ rfl).2
  have hcA : cA = G.2.2.1 2 := Option.some.inj (f1.symm.trans k4)
  subst hcA
  rw [hcl]
  generalize hH9 : H.push ({ cls := G.2.2.1 2, slots := Array.replicate n .null, vm := .none } : Cell) = H9
  have z9 : H9.size = H.size + 1 := by rw [← hH9, Array.size_push]
  have e9 : H9[H.size]? = some (arrV (G.2.2.1 2) n (fun _ => .null)) := by rw [← hH9, Array.getElem?_push_size, ← arrV_new]
  have o9 : ∀ q : Nat, q < H.size → H9[q]? = H[q]? := fun q hq => by rw [← hH9, Array.getElem?_push, if_neg (Nat.ne_of_lt hq)]
  refine kk H.size ⟨h1.1, fun a x ha => h1.lt ha⟩ H9 locs ls (h1.push ?_ (by omega) o9) h2 h3
  show H9[H.size]? = some (vp_cell _ _)
  rw [vp_cell_q]
  exact e9
theorem pw_objInit (X : pw_Cx p l s m args meth c G cc nL own) {index : Nat} {a : Nat} (hd : decode cc pc = .ok (.invokespecial index, 3)) (hw : Cond.methodLink own index objectInit ∈ pw_T ∧ Cond.instanceMethod objectInit ∈ pw_T ∧ Cond.code objectInit ⟨#[0xb1]⟩ 1 none ∈ pw_T) (hR : 1 ≤ R.frames ∧ (st.map fun v => v.category).sum + 12 ≤ R.locals) (kk : pw_W p l e R s m args below meth c Q G nL M cells slots (pc + 3) lv st) : pw_W p l e R s m args below meth c Q G nL M cells slots pc lv (.ref a :: st) := by
  intro H locs ls h1 h2 h3
  refine W.objInit X.1 X.2.1 X.2.2.2.1 (X.2.2.2.2.1 _ hw.1) (X.2.2.2.2.1 _ hw.2.1) (X.2.2.2.2.1 _ hw.2.2) rfl (by rw [X.2.2.1]; exact h3.1) rfl hd hR.1 (by show 2 * 0 + _ + 12 ≤ _; omega) ?_
  exact W.eq (g2 := F0 m (pc + 3) ls st) rfl (kk H locs ls h1 h2 h3)
theorem pw_mmax (X : pw_Cx p l s m args meth c G cc nL own) {index : Nat} {x y : Int32} (hd : decode cc pc = .ok (.invokestatic index, 3)) (hw : Cond.methodLink own index Lib.Math.max.name ∈ pw_T ∧ Cond.static Lib.Math.max.name ∈ pw_T ∧ Cond.initialized "java/lang/Math" ∈ pw_T ∧ Cond.code Lib.Math.max.name Lib.Math.max.code 2 (some .int) ∈ pw_T) (hR : 1 ≤ R.frames ∧ (st.map fun v => v.category).sum + 13 ≤ R.locals ∧ cells ≤ R.cells ∧ slots ≤ R.slots) (kk : pw_W p l e R s m args below meth c Q G nL M cells slots (pc + 3) lv (.int (if x < y then y else x) :: st)) : pw_W p l e R s m args below meth c Q G nL M cells slots pc lv (.int y :: .int x :: st) := fun H locs ls h1 h2 h3 =>
  va_mmax X.1 X.2.1 (by rw [X.2.2.1]; exact h3.1.symm) X.2.2.2.1 (X.2.2.2.2.1 _ hw.1) (X.2.2.2.2.1 _ hw.2.1) (X.2.2.2.2.1 _ hw.2.2.1) (X.2.2.2.2.1 _ hw.2.2.2) hR.1 hR.2.1 hR.2.2.1 hR.2.2.2 hd (kk H locs ls h1 h2 h3)
theorem pw_mmin (X : pw_Cx p l s m args meth c G cc nL own) {index : Nat} {x y : Int32} (hd : decode cc pc = .ok (.invokestatic index, 3)) (hw : Cond.methodLink own index Lib.Math.min.name ∈ pw_T ∧ Cond.static Lib.Math.min.name ∈ pw_T ∧ Cond.initialized "java/lang/Math" ∈ pw_T ∧ Cond.code Lib.Math.min.name Lib.Math.min.code 2 (some .int) ∈ pw_T) (hR : 1 ≤ R.frames ∧ (st.map fun v => v.category).sum + 13 ≤ R.locals ∧ cells ≤ R.cells ∧ slots ≤ R.slots) (kk : pw_W p l e R s m args below meth c Q G nL M cells slots (pc + 3) lv (.int (if y < x then y else x) :: st)) : pw_W p l e R s m args below meth c Q G nL M cells slots pc lv (.int y :: .int x :: st) := fun H locs ls h1 h2 h3 =>
  va_mmin X.1 X.2.1 (by rw [X.2.2.1]; exact h3.1.symm) X.2.2.2.1 (X.2.2.2.2.1 _ hw.1) (X.2.2.2.2.1 _ hw.2.1) (X.2.2.2.2.1 _ hw.2.2.1) (X.2.2.2.2.1 _ hw.2.2.2) hR.1 hR.2.1 hR.2.2.1 hR.2.2.2 hd (kk H locs ls h1 h2 h3)
theorem pw_sld (X : pw_Cx p l s m args meth c G cc nL own) {j : Nat} (hd : decode cc pc = .ok (.iaload, 1)) (hj : j < G.2.2.2.2.1) (hn : G.2.2.2.2.1 < 2 ^ 31) (kk : pw_W p l e R s m args below meth c Q G nL M cells slots (pc + 1) lv (.int (G.2.2.2.2.2 j) :: st)) : pw_W p l e R s m args below meth c Q G nL M cells slots pc lv (.int (nI j) :: .ref G.2.2.2.1 :: st) := fun H locs ls h1 h2 h3 =>
  va_sld X.1 X.2.1 X.2.2.2.2.2.1.2.2.2.2.2.2.2.1 X.2.2.2.2.2.1.2.2.2.2.2.2.2.2.1 (Nat.not_le.mpr X.2.2.2.2.2.1.2.2.2.2.2.2.2.2.1) (h1.S h2) (vp_in_nI hj hn) hd (by rw [nI_clamp (Nat.lt_trans hj hn)]; exact kk H locs ls h1 h2 h3)
theorem pw_slen (X : pw_Cx p l s m args meth c G cc nL own) {v : Int32} (hd : decode cc pc = .ok (.arraylength, 1)) (hv : nI G.2.2.2.2.1 = v) (kk : pw_W p l e R s m args below meth c Q G nL M cells slots (pc + 1) lv (.int v :: st)) : pw_W p l e R s m args below meth c Q G nL M cells slots pc lv (.ref G.2.2.2.1 :: st) := fun H locs ls h1 h2 h3 => by
  subst hv
  exact va_slen X.1 X.2.1 X.2.2.2.2.2.1.2.2.2.2.2.2.2.1 X.2.2.2.2.2.1.2.2.2.2.2.2.2.2.1 (Nat.not_le.mpr X.2.2.2.2.2.1.2.2.2.2.2.2.2.2.1) (h1.S h2) hd (kk H locs ls h1 h2 h3)
end PWW
