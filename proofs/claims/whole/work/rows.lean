section
-- ===== PART A: goes FIRST, ahead of the names: the tables' words, and 'selects' of the private methods out of them =====
/-- a private method of a class that the tables say can be made, by its rows of tables_1 -/
def lw_okq (q : MethodName × Nat) : Prop := (q.1.cls ≠ "java/lang/invoke/MethodHandle" ∧ q.1.cls ≠ "java/lang/invoke/VarHandle") ∧ Cond.instantiable q.1.cls q.2 ∈ tables_1 ∧ Cond.privateMethod q.1 ∈ tables_1 ∧ Cond.instanceMethod q.1 ∈ tables_1
theorem lw_p0 : lw_okq (⟨"PutWall", "completeCount", "()I"⟩, 8) := ⟨⟨by decide +kernel, by decide +kernel⟩, List.mem_of_getElem? (i := 16) (by decide +kernel), List.mem_of_getElem? (i := 63) (by decide +kernel), List.mem_of_getElem? (i := 64) (by decide +kernel)⟩
theorem lw_p1 : lw_okq (⟨"PutWall", "completeByCell", "(I)I"⟩, 8) := ⟨⟨by decide +kernel, by decide +kernel⟩, List.mem_of_getElem? (i := 16) (by decide +kernel), List.mem_of_getElem? (i := 71) (by decide +kernel), List.mem_of_getElem? (i := 72) (by decide +kernel)⟩
theorem lw_p2 : lw_okq (⟨"PutWall", "freeCells", "()I"⟩, 8) := ⟨⟨by decide +kernel, by decide +kernel⟩, List.mem_of_getElem? (i := 16) (by decide +kernel), List.mem_of_getElem? (i := 79) (by decide +kernel), List.mem_of_getElem? (i := 80) (by decide +kernel)⟩
theorem lw_p3 : lw_okq (⟨"PutWall", "piecesInCells", "()I"⟩, 8) := ⟨⟨by decide +kernel, by decide +kernel⟩, List.mem_of_getElem? (i := 16) (by decide +kernel), List.mem_of_getElem? (i := 83) (by decide +kernel), List.mem_of_getElem? (i := 84) (by decide +kernel)⟩
theorem lw_p4 : lw_okq (⟨"java/lang/Throwable", "fillInStackTrace", "(I)Ljava/lang/Throwable;"⟩, 6) := ⟨⟨by decide +kernel, by decide +kernel⟩, List.mem_of_getElem? (i := 152) (by decide +kernel), List.mem_of_getElem? (i := 150) (by decide +kernel), List.mem_of_getElem? (i := 151) (by decide +kernel)⟩
theorem lw_p5 : lw_okq (⟨"PutWall", "existing", "(I)LPutWall$Order;"⟩, 8) := ⟨⟨by decide +kernel, by decide +kernel⟩, List.mem_of_getElem? (i := 16) (by decide +kernel), List.mem_of_getElem? (i := 248) (by decide +kernel), List.mem_of_getElem? (i := 249) (by decide +kernel)⟩
theorem lw_p6 : lw_okq (⟨"PutWall", "lowestUsableCell", "()I"⟩, 8) := ⟨⟨by decide +kernel, by decide +kernel⟩, List.mem_of_getElem? (i := 16) (by decide +kernel), List.mem_of_getElem? (i := 303) (by decide +kernel), List.mem_of_getElem? (i := 304) (by decide +kernel)⟩
theorem lw_p7 : lw_okq (⟨"PutWall", "requireCell", "(I)V"⟩, 8) := ⟨⟨by decide +kernel, by decide +kernel⟩, List.mem_of_getElem? (i := 16) (by decide +kernel), List.mem_of_getElem? (i := 315) (by decide +kernel), List.mem_of_getElem? (i := 316) (by decide +kernel)⟩
theorem lw_p8 : lw_okq (⟨"PutWall", "put", "(LPutWall$Order;ZI)I"⟩, 8) := ⟨⟨by decide +kernel, by decide +kernel⟩, List.mem_of_getElem? (i := 16) (by decide +kernel), List.mem_of_getElem? (i := 350) (by decide +kernel), List.mem_of_getElem? (i := 351) (by decide +kernel)⟩
theorem lw_p9 : lw_okq (⟨"PutWallModel", "hasLine", "(II)Z"⟩, 13) := ⟨⟨by decide +kernel, by decide +kernel⟩, List.mem_of_getElem? (i := 454) (by decide +kernel), List.mem_of_getElem? (i := 519) (by decide +kernel), List.mem_of_getElem? (i := 520) (by decide +kernel)⟩
theorem lw_p10 : lw_okq (⟨"PutWallModel", "linesOf", "(I)I"⟩, 13) := ⟨⟨by decide +kernel, by decide +kernel⟩, List.mem_of_getElem? (i := 454) (by decide +kernel), List.mem_of_getElem? (i := 527) (by decide +kernel), List.mem_of_getElem? (i := 528) (by decide +kernel)⟩
theorem lw_p11 : lw_okq (⟨"PutWallModel", "at", "(I)I"⟩, 13) := ⟨⟨by decide +kernel, by decide +kernel⟩, List.mem_of_getElem? (i := 454) (by decide +kernel), List.mem_of_getElem? (i := 531) (by decide +kernel), List.mem_of_getElem? (i := 532) (by decide +kernel)⟩
theorem lw_p12 : lw_okq (⟨"PutWallModel", "reason", "(II)I"⟩, 13) := ⟨⟨by decide +kernel, by decide +kernel⟩, List.mem_of_getElem? (i := 454) (by decide +kernel), List.mem_of_getElem? (i := 543) (by decide +kernel), List.mem_of_getElem? (i := 544) (by decide +kernel)⟩
theorem lw_p13 : lw_okq (⟨"PutWallModel", "lineRefusal", "(II)I"⟩, 13) := ⟨⟨by decide +kernel, by decide +kernel⟩, List.mem_of_getElem? (i := 454) (by decide +kernel), List.mem_of_getElem? (i := 555) (by decide +kernel), List.mem_of_getElem? (i := 556) (by decide +kernel)⟩
theorem lw_p14 : lw_okq (⟨"PutWallModel", "missing", "(II)I"⟩, 13) := ⟨⟨by decide +kernel, by decide +kernel⟩, List.mem_of_getElem? (i := 454) (by decide +kernel), List.mem_of_getElem? (i := 559) (by decide +kernel), List.mem_of_getElem? (i := 560) (by decide +kernel)⟩
theorem lw_p15 : lw_okq (⟨"PutWallModel", "givenUp", "(II)Z"⟩, 13) := ⟨⟨by decide +kernel, by decide +kernel⟩, List.mem_of_getElem? (i := 454) (by decide +kernel), List.mem_of_getElem? (i := 575) (by decide +kernel), List.mem_of_getElem? (i := 576) (by decide +kernel)⟩
def lw_privs_1 : List (MethodName × Nat) := [(⟨"PutWall", "completeCount", "()I"⟩, 8), (⟨"PutWall", "completeByCell", "(I)I"⟩, 8), (⟨"PutWall", "freeCells", "()I"⟩, 8), (⟨"PutWall", "piecesInCells", "()I"⟩, 8), (⟨"java/lang/Throwable", "fillInStackTrace", "(I)Ljava/lang/Throwable;"⟩, 6), (⟨"PutWall", "existing", "(I)LPutWall$Order;"⟩, 8), (⟨"PutWall", "lowestUsableCell", "()I"⟩, 8), (⟨"PutWall", "requireCell", "(I)V"⟩, 8), (⟨"PutWall", "put", "(LPutWall$Order;ZI)I"⟩, 8), (⟨"PutWallModel", "hasLine", "(II)Z"⟩, 13), (⟨"PutWallModel", "linesOf", "(I)I"⟩, 13), (⟨"PutWallModel", "at", "(I)I"⟩, 13), (⟨"PutWallModel", "reason", "(II)I"⟩, 13), (⟨"PutWallModel", "lineRefusal", "(II)I"⟩, 13), (⟨"PutWallModel", "missing", "(II)I"⟩, 13), (⟨"PutWallModel", "givenUp", "(II)Z"⟩, 13)]
theorem lw_r1 : ∀ q ∈ lw_privs_1, lw_okq q := List.forall_mem_cons.mpr ⟨lw_p0, List.forall_mem_cons.mpr ⟨lw_p1, List.forall_mem_cons.mpr ⟨lw_p2, List.forall_mem_cons.mpr ⟨lw_p3, List.forall_mem_cons.mpr ⟨lw_p4, List.forall_mem_cons.mpr ⟨lw_p5, List.forall_mem_cons.mpr ⟨lw_p6, List.forall_mem_cons.mpr ⟨lw_p7, List.forall_mem_cons.mpr ⟨lw_p8, List.forall_mem_cons.mpr ⟨lw_p9, List.forall_mem_cons.mpr ⟨lw_p10, List.forall_mem_cons.mpr ⟨lw_p11, List.forall_mem_cons.mpr ⟨lw_p12, List.forall_mem_cons.mpr ⟨lw_p13, List.forall_mem_cons.mpr ⟨lw_p14, List.forall_mem_cons.mpr ⟨lw_p15, fun _ h => absurd h List.not_mem_nil⟩⟩⟩⟩⟩⟩⟩⟩⟩⟩⟩⟩⟩⟩⟩⟩
def lw_privs : List (MethodName × Nat) := lw_privs_1
def lw_tbl : List Cond := k2_sels lw_privs ++ tables_1
theorem lw_privs_ok : ∀ q ∈ lw_privs, lw_okq q := lw_r1
end
section
/-! The search for a handler past rows that name other classes, with the tables that it leaves (the laws follow the library's own of the same search, which rest on a shelf that rounds don't have). -/
def cx_Fi (e : Env) (s : State) (f : JFrame) (a : Addr) (h : Handler) (vm' : Vm) : Prop :=
  ∀ (Q : Handler → Pre) (E : CtlPost) (d : Bool) (acts : List Action), wp (findHandler f a) Q E e d acts s ↔ Q h d acts (s.setVm vm')
section
variable {Q : Handler → Pre} {E : CtlPost} {e : Env} {d : Bool} {acts : List Action} {s : State} {f : JFrame} {a : Addr}
theorem cx_go_yes {x : ExceptionTableEntry} {t : List ExceptionTableEntry} {c : ClassId} {cell : Cell} (hx : covers x f.pc = true) (h0 : x.catchType ≠ 0)
    (hl : s.vm.ClassLinks e.platform f.method.cls x.catchType c) (hcell : s.heap[a]? = some cell) (hobj : ∀ k, cell.vm ≠ .statics k)
    (hk : ∃ k, s.vm.classes[cell.cls]? = some k) (hc : ∃ k, s.vm.classes[c]? = some k) (hfit : s.vm.assignable cell.cls c = true) :
    wp (findHandler.go f a (x :: t)) Q E e d acts s ↔ Q (.found x.handlerPc) d acts (s.setVm (s.vm.noted f.method.cls x.catchType (.cls c))) := by
  simp only [covers] at hx
  obtain ⟨ha, ht⟩ := (resolveClass_links e.toSetting hl).op (op := VmOp.resolveClass f.method.cls x.catchType) rfl
  have hal : s.vm.Alike (s.vm.noted f.method.cls x.catchType (.cls c)) := (Vm.Alike.refl s.vm).noted _ _ _
  obtain ⟨k1, hk1⟩ := hk
  obtain ⟨k2, hk2⟩ := hc
  obtain ⟨k1', hk1', -⟩ := hal.2.2 _ _ hk1
  obtain ⟨k2', hk2', -⟩ := hal.2.2 _ _ hk2
  have hfit' : (s.vm.noted f.method.cls x.catchType (.cls c)).assignable cell.cls c = true := by rw [hal.assignable]; exact hfit
  simp [findHandler.go, hx, h0, ha, ht, hcell, hobj, hk1', hk2', hfit', VmOp.dirties, VmOp.acts]
theorem cx_go_no {x : ExceptionTableEntry} {t : List ExceptionTableEntry} {c : ClassId} {cell : Cell} (hx : covers x f.pc = true) (h0 : x.catchType ≠ 0)
    (hl : s.vm.ClassLinks e.platform f.method.cls x.catchType c) (hcell : s.heap[a]? = some cell) (hobj : ∀ k, cell.vm ≠ .statics k)
    (hk : ∃ k, s.vm.classes[cell.cls]? = some k) (hc : ∃ k, s.vm.classes[c]? = some k) (hno : s.vm.assignable cell.cls c = false) :
    wp (findHandler.go f a (x :: t)) Q E e d acts s ↔ wp (findHandler.go f a t) Q E e d acts (s.setVm (s.vm.noted f.method.cls x.catchType (.cls c))) := by
  simp only [covers] at hx
  obtain ⟨ha, ht⟩ := (resolveClass_links e.toSetting hl).op (op := VmOp.resolveClass f.method.cls x.catchType) rfl
  have hal : s.vm.Alike (s.vm.noted f.method.cls x.catchType (.cls c)) := (Vm.Alike.refl s.vm).noted _ _ _
  obtain ⟨k1, hk1⟩ := hk
  obtain ⟨k2, hk2⟩ := hc
  obtain ⟨k1', hk1', -⟩ := hal.2.2 _ _ hk1
  obtain ⟨k2', hk2', -⟩ := hal.2.2 _ _ hk2
  have hno' : (s.vm.noted f.method.cls x.catchType (.cls c)).assignable cell.cls c = false := by rw [hal.assignable]; exact hno
  simp [findHandler.go, hx, h0, ha, ht, hcell, hobj, hk1', hk2', hno', VmOp.dirties, VmOp.acts]
end
def cx_pass (pl : Platform) (s₀ : State) (d : ClassId) (pc : Nat) (thrown : ClassId) (y : ExceptionTableEntry) : Prop :=
  covers y pc = false ∨ (y.catchType ≠ 0 ∧ ∃ c, s₀.vm.ClassLinks pl d y.catchType c ∧ s₀.vm.assignable thrown c = false)
def cx_take (pl : Platform) (s₀ : State) (d : ClassId) (thrown : ClassId) (x : ExceptionTableEntry) : Prop :=
  x.catchType ≠ 0 ∧ ∃ c, s₀.vm.ClassLinks pl d x.catchType c ∧ s₀.vm.assignable thrown c = true
theorem cx_go {e : Env} {s₀ : State} {f : JFrame} {a : Addr} {cell : Cell} (hobj : ∀ k, cell.vm ≠ .statics k) (hk0 : ∃ k, s₀.vm.classes[cell.cls]? = some k)
    (x : ExceptionTableEntry) (rest : List ExceptionTableEntry) (hx : covers x f.pc = true) (hend : cx_take e.platform s₀ f.method.cls cell.cls x) :
    ∀ (pre : List ExceptionTableEntry) (S : State), s₀.WarmedH S.vm → S.heap[a]? = some cell → (∀ y ∈ pre, cx_pass e.platform s₀ f.method.cls f.pc cell.cls y) →
      ∃ vm', s₀.WarmedH vm' ∧ ∀ (Q : Handler → Pre) (E : CtlPost) (d : Bool) (acts : List Action), wp (findHandler.go f a (pre ++ x :: rest)) Q E e d acts S ↔ Q (.found x.handlerPc) d acts (S.setVm vm') := by
  obtain ⟨k0, hk0⟩ := hk0
  intro pre
  induction pre with
  | nil =>
    intro S hW hcell _
    obtain ⟨k0', hk0', -⟩ := hW.alike.2.2 _ _ hk0
    obtain ⟨h0, c, hl, hfit⟩ := hend
    obtain ⟨dk, _, _, kt, hd, _, _, _, _, hkt, _, hopen⟩ := hl.here
    obtain ⟨kt', hkt', -⟩ := hW.alike.2.2 _ _ hkt
    exact ⟨_, hW.noted hd hopen (State.rightAt_cls hl), fun Q E d acts => by
      rw [List.nil_append]
      exact cx_go_yes hx h0 (hW.classLinks hl) hcell hobj ⟨k0', hk0'⟩ ⟨kt', hkt'⟩ (by rw [hW.alike.assignable]; exact hfit)⟩
  | cons y ys ih =>
    intro S hW hcell hpass
    obtain ⟨k0', hk0', -⟩ := hW.alike.2.2 _ _ hk0
    have hrest : ∀ z ∈ ys, cx_pass e.platform s₀ f.method.cls f.pc cell.cls z := fun z hz => hpass z (List.mem_cons_of_mem _ hz)
    by_cases hcov : covers y f.pc = true
    · rcases hpass y (List.mem_cons_self ..) with h | ⟨h0, c, hl, hno⟩
      · rw [h] at hcov; cases hcov
      · obtain ⟨dk, _, _, kt, hd, _, _, _, _, hkt, _, hopen⟩ := hl.here
        obtain ⟨kt', hkt', -⟩ := hW.alike.2.2 _ _ hkt
        obtain ⟨vm', hW', hq⟩ := ih (S.setVm (S.vm.noted f.method.cls y.catchType (.cls c))) (hW.noted hd hopen (State.rightAt_cls hl)) hcell hrest
        exact ⟨vm', hW', fun Q E d acts => by
          rw [List.cons_append, cx_go_no hcov h0 (hW.classLinks hl) hcell hobj ⟨k0', hk0'⟩ ⟨kt', hkt'⟩ (by rw [hW.alike.assignable]; exact hno)]
          exact hq Q E d acts⟩
    · obtain ⟨vm', hW', hq⟩ := ih S hW hcell hrest
      exact ⟨vm', hW', fun Q E d acts => by
        rw [List.cons_append, W.findHandler_go_skip (by simpa using hcov)]
        exact hq Q E d acts⟩
theorem cx_find {e : Env} {s₀ S : State} {f : JFrame} {a : Addr} {meth : Method} {code : Code} {cell : Cell} (hm : S.vm.method? f.method = some meth) (hc : meth.code = some code)
    (hW : s₀.WarmedH S.vm) (hcell : S.heap[a]? = some cell) (hobj : ∀ k, cell.vm ≠ .statics k) (hk0 : ∃ k, s₀.vm.classes[cell.cls]? = some k)
    (pre : List ExceptionTableEntry) (x : ExceptionTableEntry) (rest : List ExceptionTableEntry) (hsplit : code.exceptionTable.toList = pre ++ x :: rest)
    (hpass : ∀ y ∈ pre, cx_pass e.platform s₀ f.method.cls f.pc cell.cls y) (hx : covers x f.pc = true) (hend : cx_take e.platform s₀ f.method.cls cell.cls x) :
    ∃ vm', s₀.WarmedH vm' ∧ cx_Fi e S f a (.found x.handlerPc) vm' := by
  obtain ⟨vm', hW', hq⟩ := cx_go hobj hk0 x rest hx hend pre S hW hcell hpass
  exact ⟨vm', hW', fun Q E d acts => by rw [W.findHandler_eq hm hc, hsplit]; exact hq Q E d acts⟩
theorem cx_stepTo {e : Env} {s : State} {a : Addr} {f : JFrame} {r : List Frame} {pc : Nat} {vm' : Vm} (hfind : cx_Fi e s f a (.found pc) vm') :
    (stepThrowing e s a (.java f :: r)).Is ((s.setVm vm').setFrames (.java { f with pc := pc, stack := [.ref a] } :: r)) [] := by
  simp only [stepThrowing, searchFrame, vmDo]
  generalize hr : Sem.go _ e false [] s = res
  obtain ⟨as, rfl, ha⟩ := Sem.eq_ok_of hr (a := Handler.found pc) (s' := s.setVm vm') (acts' := []) (by simp [hfind _ _ _ _])
  exact ⟨rfl, ha⟩
theorem cx_sets (u : State) (vm' : Vm) (F G : List Frame) : ((u.setFrames F).setVm vm').setFrames G = (u.setVm vm').setFrames G := by
  have h1 : (u.setFrames F).setVm vm' = (u.setVm vm').setFrames F := rfl
  rw [h1, State.setFrames_setFrames]
theorem cx_steps {tb : Tables} {e : Env} {s target : State} {g : JFrame} {c : Code} {below : List Frame} {a : Addr} (h : At s g.method c below) {pc : Nat} {vm' : Vm}
    (hfind : cx_Fi e ((s.setTop g).pushFrame (.throwing a)) g a (.found pc) vm') (hrest : Steps tb e below ((s.setVm vm').setTop { g with pc := pc, stack := [.ref a] }) target) :
    Steps tb e below ((s.setTop g).pushFrame (.throwing a)) target := by
  obtain ⟨hgo, hw⟩ := h.throwing a
  refine Steps.head hgo hw ?_
  rw [stepThread_throwing (frames_entered h.top _), (cx_stepTo (s := (s.setTop g).pushFrame (.throwing a)) hfind).1]
  obtain ⟨g₀, hg⟩ := Option.isSome_iff_exists.mp h.top
  obtain ⟨r, hr⟩ := State.topJava?_eq_some.mp hg
  have hr' : (s.setVm vm').frames = .java g₀ :: r := hr
  rw [State.setTop_of_frames _ hr'] at hrest
  rw [hr, List.tail_cons, State.pushFrame, cx_sets, State.setTop_of_frames _ hr, cx_sets]
  exact hrest
theorem cx_then {p : Program} {l : Launch} {e : Env} {R : Room} {s : State} {m₀ : MethodId} {args : Array Value} {below : List Frame} {meth : Method} {c : Code} {T : State} {locs : List Loc} {cells slots : Nat}
    (X : Stand p l e R s m₀ args below meth c T locs cells slots) (a : Addr) {g : JFrame} (hg : g.method = m₀)
    {cell : Cell} (hcell : T.heap[a]? = some cell) (hobj : cell.vm.isStatics = false) (hk0 : ∃ k, s.vm.classes[cell.cls]? = some k)
    (pre : List ExceptionTableEntry) (x : ExceptionTableEntry) (rest : List ExceptionTableEntry) (hsplit : c.exceptionTable.toList = pre ++ x :: rest)
    (hpass : ∀ y ∈ pre, cx_pass e.platform s m₀.cls g.pc cell.cls y) (hx : covers x g.pc = true) (hend : cx_take e.platform s m₀.cls cell.cls x) :
    ∃ vm', Stand p l e R s m₀ args below meth c (T.setVm vm') locs cells slots ∧ ∀ target, Steps p.tables e below ((T.setVm vm').setTop { g with pc := x.handlerPc, stack := [.ref a] }) target → Steps p.tables e below ((T.setTop g).pushFrame (.throwing a)) target := by
  subst hg
  obtain ⟨vm', hW', hf⟩ := cx_find (e := e) (s₀ := s) (S := (T.setTop g).pushFrame (.throwing a)) (f := g) (a := a) (meth := meth) (code := c) (cell := cell) X.method' X.code X.warmed hcell (VmData.ne_statics_of hobj) hk0 pre x rest hsplit hpass hx hend
  exact ⟨vm', X.noted hW', fun target hrest => cx_steps X.here hf hrest⟩
end
section
/-! ===== BEGIN words of one list among another's, by their places ===== -/
theorem goodIn_r {big : List Cond} (ws : List Cond) (ps : List Nat) (hp : ws = ps.filterMap (fun i => big[i]?)) (h : ws.all goodWord = true) : GoodIn big ws := by
  intro w hw
  have h1 := List.all_eq_true.mp h w hw
  rw [hp] at hw
  obtain ⟨i, -, hi⟩ := List.mem_filterMap.mp hw
  have hm : w ∈ big := by first | exact List.mem_of_getElem? hi | exact List.getElem?_mem hi
  exact ⟨hm, good_of_word h1⟩
theorem goodIn_app {big a b : List Cond} (ha : GoodIn big a) (hb : GoodIn big b) : GoodIn big (a ++ b) := fun w h => (List.mem_append.mp h).elim (ha w) (hb w)
theorem goodIn_ca {big a b : List Cond} {c : Cond} (ha : GoodIn big (c :: a)) (hb : GoodIn big b) : GoodIn big (c :: (a ++ b)) := fun w h => (List.mem_cons.mp h).elim (fun e => ha w (List.mem_cons.mpr (Or.inl e))) (fun h => (List.mem_append.mp h).elim (fun h => ha w (List.mem_cons.mpr (Or.inr h))) (hb w))
theorem goodIn_sub {big ws : List Cond} (hm : ∀ w ∈ ws, w ∈ big) (h : ws.all goodWord = true) : GoodIn big ws := fun w hw => ⟨hm w hw, good_of_word (List.all_eq_true.mp h w hw)⟩
/-! ===== END ===== -/

/-! ===== BEGIN exceptions that leave a method, and their catching by the caller (launches without stack traces) ===== -/
section VXA
/-! The laws vx_back, vx_callV, vx_callS, vx_callSW, vx_throw0, vx_throwS follow proofs of the library, with one case more: JvmDerived/Free/Laws.lean (Back.of_free), Shelf42/LK1.lean (callV, callS), Shelf/KitTraced.lean (throwNew0V, throwNewS). -/
/-- where a method has thrown q: the class by its name, the cell, what was written, the world -/
def vx_T (XC : String → State → State → Prop) (st : State) (q : Addr) (t : State) (mc ms : Nat) (free : Addr → Prop) : Prop :=
  ∃ (E : String) (ce : Cell) (L : List Loc), XC E st t ∧ t.heap[q]? = some ce ∧ ce.vm = .none ∧ st.vm.findClass E = some ce.cls ∧ st.WarmedH t.vm ∧ st.sameButNew ({ t with vm := st.vm } : State) L mc ms ∧ ∀ z ∈ L, free z.base
def vx_Q (Qc : Array Value → State → Outcome → State → Prop) (XC : String → State → State → Prop) (mc ms : Nat) (free : Addr → Prop) : Array Value → State → Outcome → State → Prop := fun a st o t =>
  (Qc a st o t ∧ ∃ L, FrameEnd st o t L mc ms ∧ ∀ q ∈ L, free q.base) ∨ ∃ q, o = .threw q ∧ vx_T XC st q t mc ms free
/-- a callee that returns or throws -/
def vx_Met (l : Launch) (y : MethodName) (ws : List Cond) (rm : Room) (Pc : Array Value → State → Prop) (Qc : Array Value → State → Outcome → State → Prop) (XC : String → State → State → Prop) (mc ms : Nat) (free : Addr → Prop) : Prop :=
  MetFree l y (headSpec ws rm) Pc (fun _ _ _ _ _ => True) (vx_Q Qc XC mc ms free)
def vx_Post (XC : String → State → State → Prop) (mc ms : Nat) (free : Addr → Prop) : Pt → Array Value → Addr → Pt → Prop := fun A a q B =>
  ∃ (g : JFrame) (mk : MethodId) (t : State) (L : List Loc) (E : String) (ce : Cell), B.U.heap = t.heap ∧ B.U.vm = t.vm ∧ XC E (A.U.calling g mk a) t ∧ t.heap[q]? = some ce ∧ ce.vm = .none ∧ A.U.vm.findClass E = some ce.cls ∧ B.locs = A.locs ++ L ∧ (∀ z ∈ L, free z.base) ∧ B.cells = A.cells + mc ∧ B.slots = A.slots + ms
def vx_Back (l : Launch) (R : Room) (p : Program) (e : Env) (below : List Frame) (s : State) (sargs : Array Value) (y : MethodName) (len W9 : Nat)
    (Pre : Pt → Array Value → Prop) (Post : Pt → Array Value → Option Value → Pt → Prop) (PostX : Pt → Array Value → Addr → Pt → Prop) : Prop :=
  ∀ (m : MethodId) (meth : Method) (c : Code) (A : Pt) (g : JFrame) (ig : Instr) (mk : MethodId) (a : Array Value),
    Stand p l e R s m sargs below meth c A.U A.locs A.cells A.slots → g.method = m → g.locals.size = c.maxLocals → decode c.code g.pc = .ok (ig, len) →
    2 * g.monitorRoom + (g.stack.map fun v => v.category).sum ≤ W9 → A.U.methodNamed? y = some mk → Pre A a →
    (∃ (v : Option Value) (B : Pt), Stand p l e R s m sargs below meth c B.U B.locs B.cells B.slots ∧ Post A a v B ∧
      Steps p.tables e below (doInvoke e (A.U.setTop g) [] mk a).1 (B.U.setTop { g with pc := g.pc + len, stack := v.toList ++ g.stack })) ∨
    (∃ (q : Addr) (B : Pt), Stand p l e R s m sargs below meth c B.U B.locs B.cells B.slots ∧ PostX A a q B ∧
      Steps p.tables e below (doInvoke e (A.U.setTop g) [] mk a).1 ((B.U.setTop g).pushFrame (.throwing q)))
section Payer
variable {l : Launch} {R : Room} {p : Program} {e : Env} {below : List Frame} {s : State} {sargs : Array Value} {y : MethodName} {len W9 : Nat}
theorem vx_back {ws : List Cond} {rm : Room} {Pc : Array Value → State → Prop} {Qc : Array Value → State → Outcome → State → Prop} {XC : String → State → State → Prop} {mc ms : Nat} {free : Addr → Prop} {bytes : ByteArray} {maxL : Nat} {ret : Option FieldType}
    (hM : vx_Met l y ws rm Pc Qc XC mc ms free) (hblind : FrameBlind Pc) (hrc : rm.cells = mc) (hrs : rm.slots = ms)
    (hframes : rm.frames + 1 ≤ R.frames) (hlocals : W9 + (maxL + 11) + rm.locals ≤ R.locals)
    (hws : ∀ w ∈ ws, ∀ a' U, s.WarmedH U.vm → w.before a' U = true) (hcode : Cond.code y bytes maxL ret ∈ ws) (hinit : ∀ a' U, s.WarmedH U.vm → (Cond.initialized y.cls).before a' U = true) :
    vx_Back l R p e below s sargs y len W9 (PreOf R mc ms Pc) (PostOf Qc mc ms free) (vx_Post XC mc ms free) := by
  intro m meth c A g ig mk a X hg hsize hdg hW hn hp
  have h1 : (headSpec ws rm).pre.before a A.U = true := atoms_intro fun w hw => hws w hw _ _ X.warmed
  have h2 : (Cond.code y bytes maxL ret).before a A.U = true := hws _ hcode _ _ X.warmed
  have h3 : (Cond.initialized y.cls).before a A.U = true := hinit _ _ X.warmed
  have h4 : A.cells + (headSpec ws rm).room.cells ≤ R.cells := by rw [show (headSpec ws rm).room.cells = mc from hrc]; exact hp.1
  have h5 : A.slots + (headSpec ws rm).room.slots ≤ R.slots := by rw [show (headSpec ws rm).room.slots = ms from hrs]; exact hp.2.1
  have hPc : Pc a (A.U.calling g mk a) := hblind _ _ _ _ hp.2.2
  obtain ⟨U, Ls, c0, s0⟩ := A
  dsimp only [Pt.U, Pt.locs, Pt.cells, Pt.slots] at h1 h2 h3 h4 h5 X hn hPc ⊢
  obtain ⟨methY, cY, hmY, hcY, -, hlY, -, -, -, -⟩ := Cond.code_spec hn h2
  obtain ⟨kY, hkY, -⟩ := className_of_methodNamed hn
  have hinitY : kY.init = .initialized := Cond.initialized_spec (findClass_of_methodNamed hn) hkY h3
  have h : At U g.method c below := by rw [hg]; exact X.here
  have hlocals9 : W9 + (maxL + 11) + (headSpec ws rm).room.locals ≤ R.locals := hlocals
  have happ : (headSpec ws rm).appliesLoose y e.platform (U.calling g mk a) = true :=
    Spec.appliesLoose_calling (g := g) h hdg hn hkY hinitY
      (X.room_calling (g := g) (R' := (headSpec ws rm).room) hsize hmY hcY hframes (by rw [hlY]; omega) h4 h5) h1
  obtain ⟨mid, hmid⟩ := h.above
  have hfr : (U.setTop g).frames = (.java g :: mid) ++ below := by rw [State.frames_setTop' g h.top, hmid]; rfl
  obtain ⟨o, s₂, hsteps, -, hend, hq⟩ := Steps.callFree hM p X.admits X.cas X.clock (acts := []) hfr happ hPc trivial
  have hq' : vx_Q Qc XC mc ms free a (U.calling g mk a) o s₂ := hq
  rw [State.frames_setTop' g h.top] at hend
  obtain ⟨g₀, hg0⟩ := Option.isSome_iff_exists.mp h.top
  obtain ⟨r, hr⟩ := State.topJava?_eq_some.mp hg0
  have hr' : (({ U with heap := s₂.heap, slotsUsed := s₂.slotsUsed } : State).setVm s₂.vm).frames = .java g₀ :: r := hr
  rcases hq' with ⟨hqc, L, hfe, hL⟩ | ⟨q, rfl, E, ce, L, hx, hce, hcv, hcl, hW₂, hsm, hL⟩
  · obtain ⟨⟨v, rfl⟩, hW₂, e2, q2, q3, q4, q5, q6⟩ := id hfe
    have e3 : s₂ = ({ (U.calling g mk a).setFrames s₂.frames with heap := s₂.heap, slotsUsed := s₂.slotsUsed } : State).setVm s₂.vm := by
      have : s₂ = ({ s₂ with vm := (U.calling g mk a).vm } : State).setVm s₂.vm := rfl
      rw [e2] at this
      exact this
    obtain ⟨c₂, i₂, len₂, hc₂, hd₂, hf₂⟩ := hend
    have hW' : U.WarmedH s₂.vm := hW₂
    have hcc : c₂ = c := by
      have h1 : s₂.code? g.method = U.code? g.method := by
        rw [State.code?_eq, State.code?_eq, hW'.alike.method?]
      exact Option.some.inj (hc₂.symm.trans (h1.trans h.code))
    subst hcc
    have hlen : len₂ = len := by rw [hdg] at hd₂; cases hd₂; rfl
    subst hlen
    have hs₂ : s₂ = (({ U with heap := s₂.heap, slotsUsed := s₂.slotsUsed } : State).setVm s₂.vm).setTop { g with pc := g.pc + len₂, stack := v.toList ++ g.stack } := by
      refine e3.trans ?_
      rw [hf₂, State.calling_eq h.top, State.setFrames_setFrames, State.setTop_of_frames _ hr', hr]
      rfl
    have hsame : U.sameButNew ({ U with heap := s₂.heap, slotsUsed := s₂.slotsUsed } : State) L mc ms := by
      refine ⟨?_, q2, q3, q4, q5, q6⟩
      obtain ⟨t, ht, -⟩ := State.frames_cons hr
      show ({ U with heap := s₂.heap, slotsUsed := s₂.slotsUsed } : State) = { U.setFrames U.frames with heap := s₂.heap, slotsUsed := s₂.slotsUsed }
      rw [State.setFrames_self ht]
    subst hg
    refine Or.inl ⟨v, ⟨(({ U with heap := s₂.heap, slotsUsed := s₂.slotsUsed } : State).setVm s₂.vm), Ls ++ L, c0 + mc, s0 + ms⟩,
      ⟨X.admits, X.cas, X.clock, X.frames, X.room, X.hears, X.method, X.code, (X.here.setHeapUsed s₂.heap s₂.slotsUsed).setVm hW'.alike, X.tail, State.WarmedH.trans X.warmed hW', X.limits, X.bytes, X.same.trans (hsame.setVm s.vm)⟩,
      ⟨g, mk, s₂, L, rfl, rfl, hqc, rfl, hL, rfl, rfl⟩, ?_⟩
    show Steps p.tables e below _ ((({ U with heap := s₂.heap, slotsUsed := s₂.slotsUsed } : State).setVm s₂.vm).setTop { g with pc := g.pc + len₂, stack := v.toList ++ g.stack })
    rw [← hs₂]
    exact hsteps
  · obtain ⟨e2, q2, q3, q4, q5, q6⟩ := id hsm
    have e3 : s₂ = ({ (U.calling g mk a).setFrames s₂.frames with heap := s₂.heap, slotsUsed := s₂.slotsUsed } : State).setVm s₂.vm := by
      have : s₂ = ({ s₂ with vm := (U.calling g mk a).vm } : State).setVm s₂.vm := rfl
      rw [e2] at this
      exact this
    have hf₂ : s₂.frames = .throwing q :: .java g :: U.frames.tail := hend
    have hW' : U.WarmedH s₂.vm := hW₂
    have hs₂ : s₂ = ((({ U with heap := s₂.heap, slotsUsed := s₂.slotsUsed } : State).setVm s₂.vm).setTop g).pushFrame (.throwing q) := by
      refine e3.trans ?_
      rw [hf₂, State.calling_eq h.top, State.setFrames_setFrames, State.pushFrame, State.frames_setTop _ hr', State.setTop_of_frames _ hr', State.setFrames_setFrames, hr]
      rfl
    have hsame : U.sameButNew ({ U with heap := s₂.heap, slotsUsed := s₂.slotsUsed } : State) L mc ms := by
      refine ⟨?_, q2, q3, q4, q5, q6⟩
      obtain ⟨t, ht, -⟩ := State.frames_cons hr
      show ({ U with heap := s₂.heap, slotsUsed := s₂.slotsUsed } : State) = { U.setFrames U.frames with heap := s₂.heap, slotsUsed := s₂.slotsUsed }
      rw [State.setFrames_self ht]
    subst hg
    refine Or.inr ⟨q, ⟨(({ U with heap := s₂.heap, slotsUsed := s₂.slotsUsed } : State).setVm s₂.vm), Ls ++ L, c0 + mc, s0 + ms⟩,
      ⟨X.admits, X.cas, X.clock, X.frames, X.room, X.hears, X.method, X.code, (X.here.setHeapUsed s₂.heap s₂.slotsUsed).setVm hW'.alike, X.tail, State.WarmedH.trans X.warmed hW', X.limits, X.bytes, X.same.trans (hsame.setVm s.vm)⟩,
      ⟨g, mk, s₂, L, E, ce, rfl, rfl, hx, hce, hcv, hcl, rfl, hL, rfl, rfl⟩, ?_⟩
    show Steps p.tables e below _ (((({ U with heap := s₂.heap, slotsUsed := s₂.slotsUsed } : State).setVm s₂.vm).setTop g).pushFrame (.throwing q))
    rw [← hs₂]
    exact hsteps
end Payer
section Calls
variable {p : Program} {l : Launch} {e : Env} {R : Room} {s : State} {m : MethodId} {args : Array Value} {below : List Frame} {meth : Method} {c : Code} {T : State} {locs : List Loc} {cells slots : Nat}
theorem vx_callV (X : Stand p l e R s m args below meth c T locs cells slots) (hexec : p.tables.exec = Jvm.exec) {own C : String} {index : Nat} {y : MethodName} {bytes : ByteArray} {maxL : Nat} {ret : Option FieldType}
    (hown : s.vm.findClass own = some m.cls) (hlink : (Cond.methodLink own index y).before args s = true) (hinst : (Cond.instanceMethod y).before args s = true) (hsel : (Cond.selects C y y).before args s = true)
    (hcode : (Cond.code y bytes maxL ret).before args s = true) (hy : y.cls ≠ "java/lang/invoke/MethodHandle" ∧ y.cls ≠ "java/lang/invoke/VarHandle")
    {W9 : Nat} {Pre : Pt → Array Value → Prop} {Post : Pt → Array Value → Option Value → Pt → Prop} {PostX : Pt → Array Value → Addr → Pt → Prop} (hK : vx_Back l R p e below s args y 3 W9 Pre Post PostX)
    {b : Addr} {cellB : Cell} (hcell : T.heap[b]? = some cellB) (hobj : cellB.vm.isStatics = false) (hcls : s.vm.findClass C = some cellB.cls)
    {g : JFrame} (hg : g.method = m) (hsize : g.locals.size = c.maxLocals) {argsL rest : List Value} (hlen : ∀ sig, parseMethodDescriptor y.desc = some sig → argsL.length = sig.parameters.length)
    (hstack : g.stack = argsL.reverse ++ .ref b :: rest) (hW : 2 * g.monitorRoom + (rest.map fun v => v.category).sum ≤ W9) (hdg : decode c.code g.pc = .ok (.invokevirtual index, 3))
    (hpre : ∀ vm₁, s.WarmedH vm₁ → Pre ⟨T.setVm vm₁, locs, cells, slots⟩ (Value.ref b :: argsL).toArray) :
    (∃ (v : Option Value) (vm₁ : Vm) (B : Pt), s.WarmedH vm₁ ∧ Stand p l e R s m args below meth c B.U B.locs B.cells B.slots ∧ Post ⟨T.setVm vm₁, locs, cells, slots⟩ (Value.ref b :: argsL).toArray v B ∧
      ∀ target, Steps p.tables e below (B.U.setTop { g with pc := g.pc + 3, stack := v.toList ++ rest }) target → Steps p.tables e below (T.setTop g) target) ∨
    (∃ (q : Addr) (vm₁ : Vm) (B : Pt), s.WarmedH vm₁ ∧ Stand p l e R s m args below meth c B.U B.locs B.cells B.slots ∧ PostX ⟨T.setVm vm₁, locs, cells, slots⟩ (Value.ref b :: argsL).toArray q B ∧
      Steps p.tables e below (T.setTop g) ((B.U.setTop { g with stack := rest }).pushFrame (.throwing q))) := by
  obtain ⟨mk, methM, hnamed, hmethM, hstM, habM⟩ := Cond.instanceMethod_spec hinst
  obtain ⟨methM', cM, hmethM', -, -, -, -, -, -, hsigM⟩ := Cond.code_spec hnamed hcode
  cases hmethM.symm.trans hmethM'
  obtain ⟨c2, r2, m2, q1, q2, q3, q4, kP, hkP, hkPi⟩ := Cond.selects_spec hsel
  cases hcls.symm.trans q1
  cases (State.methodFound?_of_named hnamed hy).symm.trans q2
  cases hnamed.symm.trans q3
  have hselP : selectMethod e.platform s.vm cellB.cls mk = .method mk := by rw [Launch.admits_selectMethod X.admits]; exact q4
  obtain ⟨vm₁, X₁, hstep₁⟩ := X.invokevirtual hexec hown hlink hnamed hmethM hstM hkP hkPi hy (a := b) (cell := cellB) hcell
    (fun z h => by rw [h] at hobj; cases hobj) hselP hmethM habM hkP hkPi (g := g) hg (argsL := argsL) (rest := rest) (hlen _ hsigM) hstack hdg
  rcases hK m meth c ⟨T.setVm vm₁, locs, cells, slots⟩ { g with stack := rest } (.invokevirtual index) mk (Value.ref b :: argsL).toArray X₁ hg hsize hdg hW (X₁.named hnamed) (hpre vm₁ X₁.warmed) with ⟨v, B, X', hpost, hsteps⟩ | ⟨q, B, X', hpost, hsteps⟩
  · exact Or.inl ⟨v, vm₁, B, X₁.warmed, X', hpost, fun target h => hstep₁ _ fun acts => by rw [doInvoke_state]; exact hsteps.trans h⟩
  · exact Or.inr ⟨q, vm₁, B, X₁.warmed, X', hpost, hstep₁ _ fun acts => by rw [doInvoke_state]; exact hsteps⟩
theorem vx_callS (X : Stand p l e R s m args below meth c T locs cells slots) (hexec : p.tables.exec = Jvm.exec) {own : String} {index : Nat} {y : MethodName} {bytes : ByteArray} {maxL : Nat} {ret : Option FieldType}
    (hown : s.vm.findClass own = some m.cls) (hlink : (Cond.methodLink own index y).before args s = true) (hstat : (Cond.static y).before args s = true) (hinit : (Cond.initialized y.cls).before args s = true)
    (hcode : (Cond.code y bytes maxL ret).before args s = true) (hy : y.cls ≠ "java/lang/invoke/MethodHandle" ∧ y.cls ≠ "java/lang/invoke/VarHandle")
    {W9 : Nat} {Pre : Pt → Array Value → Prop} {Post : Pt → Array Value → Option Value → Pt → Prop} {PostX : Pt → Array Value → Addr → Pt → Prop} (hK : vx_Back l R p e below s args y 3 W9 Pre Post PostX)
    {g : JFrame} (hg : g.method = m) (hsize : g.locals.size = c.maxLocals) {argsL rest : List Value} (hlen : ∀ sig, parseMethodDescriptor y.desc = some sig → argsL.length = sig.parameters.length)
    (hstack : g.stack = argsL.reverse ++ rest) (hW : 2 * g.monitorRoom + (rest.map fun v => v.category).sum ≤ W9) (hdg : decode c.code g.pc = .ok (.invokestatic index, 3))
    (hpre : ∀ vm₁, s.WarmedH vm₁ → Pre ⟨T.setVm vm₁, locs, cells, slots⟩ argsL.toArray) :
    (∃ (v : Option Value) (vm₁ : Vm) (B : Pt), s.WarmedH vm₁ ∧ Stand p l e R s m args below meth c B.U B.locs B.cells B.slots ∧ Post ⟨T.setVm vm₁, locs, cells, slots⟩ argsL.toArray v B ∧
      ∀ target, Steps p.tables e below (B.U.setTop { g with pc := g.pc + 3, stack := v.toList ++ rest }) target → Steps p.tables e below (T.setTop g) target) ∨
    (∃ (q : Addr) (vm₁ : Vm) (B : Pt), s.WarmedH vm₁ ∧ Stand p l e R s m args below meth c B.U B.locs B.cells B.slots ∧ PostX ⟨T.setVm vm₁, locs, cells, slots⟩ argsL.toArray q B ∧
      Steps p.tables e below (T.setTop g) ((B.U.setTop { g with stack := rest }).pushFrame (.throwing q))) := by
  obtain ⟨mk, hnamed⟩ := Cond.code_named hcode
  obtain ⟨methM, cM, hmethM, -, -, -, -, -, -, hsigM⟩ := Cond.code_spec hnamed hcode
  have hstatic : methM.isStatic = true := Cond.static_spec hnamed hmethM hstat
  obtain ⟨kP, hkP, -⟩ := className_of_methodNamed hnamed
  have hinitP : kP.init = .initialized := Cond.initialized_spec (findClass_of_methodNamed hnamed) hkP hinit
  obtain ⟨vm₁, X₁, hstep₁⟩ := X.invokestatic hexec hown hlink hnamed hmethM hstatic hkP hinitP hy (g := g) hg (argsL := argsL) (rest := rest) (hlen _ hsigM) hstack hdg
  rcases hK m meth c ⟨T.setVm vm₁, locs, cells, slots⟩ { g with stack := rest } (.invokestatic index) mk argsL.toArray X₁ hg hsize hdg hW (X₁.named hnamed) (hpre vm₁ X₁.warmed) with ⟨v, B, X', hpost, hsteps⟩ | ⟨q, B, X', hpost, hsteps⟩
  · exact Or.inl ⟨v, vm₁, B, X₁.warmed, X', hpost, fun target h => hstep₁ _ fun acts => by rw [doInvoke_state]; exact hsteps.trans h⟩
  · exact Or.inr ⟨q, vm₁, B, X₁.warmed, X', hpost, hstep₁ _ fun acts => by rw [doInvoke_state]; exact hsteps⟩
end Calls
theorem vx_cls {s : State} {T : State} {vm₁ : Vm} {E : String} {k : ClassId} (hW : s.WarmedH vm₁) (h : (T.setVm vm₁).vm.findClass E = some k) : s.vm.findClass E = some k := by
  have h1 : vm₁.findClass E = some k := h
  rw [hW.alike.findClass] at h1
  exact h1
/-- the method's frame g, with q thrown over it -/
def vx_W (p : Program) (l : Launch) (e : Env) (R : Room) (s : State) (m : MethodId) (args : Array Value) (below : List Frame) (meth : Method) (c : Code) (H : Heap) (locs : List Loc) (cells slots : Nat) (Q : State → Prop) (g : JFrame) (q : Addr) : Prop :=
  ∀ T : State, T.heap = H → Stand p l e R s m args below meth c T locs cells slots → ∃ t, Steps p.tables e below ((T.setTop g).pushFrame (.throwing q)) t ∧ Q t
def vx_Run (p : Program) (l : Launch) (e : Env) (R : Room) (s : State) (m : MethodId) (args : Array Value) (below : List Frame) (meth : Method) (c : Code) (H : Heap) (locs : List Loc) (cells slots mc ms : Nat) (g : JFrame) (rest : List Value) (Qa : State → Outcome → State → Prop) (XC : String → State → State → Prop) (free : Addr → Prop) : Prop :=
  ∀ T : State, T.heap = H → Stand p l e R s m args below meth c T locs cells slots →
    (∃ (v : Option Value) (st₀ t T' : State) (L : List Loc), st₀.heap = H ∧ Stand p l e R s m args below meth c T' (locs ++ L) (cells + mc) (slots + ms) ∧ (∀ q ∈ L, free q.base) ∧ T'.heap = t.heap ∧ T'.vm = t.vm ∧ Qa st₀ (.returned v) t ∧
      Goes p e below T g T' { g with pc := g.pc + 3, stack := v.toList ++ rest }) ∨
    (∃ (q : Addr) (st₀ t T' : State) (L : List Loc) (E : String) (ce : Cell), st₀.heap = H ∧ Stand p l e R s m args below meth c T' (locs ++ L) (cells + mc) (slots + ms) ∧ (∀ z ∈ L, free z.base) ∧ T'.heap = t.heap ∧ T'.vm = t.vm ∧ XC E st₀ t ∧ t.heap[q]? = some ce ∧ ce.vm = .none ∧ s.vm.findClass E = some ce.cls ∧
      Steps p.tables e below (T.setTop g) ((T'.setTop { g with stack := rest }).pushFrame (.throwing q)))
def vx_X {S : Type} (px : S → Prop) (B : String → S → State → Prop) (A : Nat → Prop) : String → State → State → Prop := fun E st t => ∃ u : S, px u ∧ B E u t ∧ va_F A st t
section Runs
variable {p : Program} {l : Launch} {e : Env} {R : Room} {s : State} {m : MethodId} {args : Array Value} {below : List Frame} {meth : Method} {c : Code} {H : Heap} {locs : List Loc} {cells slots : Nat}
variable {y : MethodName} {bytes cc : ByteArray} {maxL nL mc ms n index : Nat} {ret : Option FieldType} {ws : List Cond} {rm : Room} {Pc : Array Value → State → Prop} {Qc : Array Value → State → Outcome → State → Prop} {XC : String → State → State → Prop} {free : Addr → Prop} {Ts : List Cond} {own C : String} {b : Addr} {As rest : List Value} {g : JFrame}
theorem vx_callBack (cb : CallB R s args own index y bytes maxL ret ws rm mc ms n) (hM : vx_Met l y ws rm Pc Qc XC mc ms free) (hbl : FrameBlind Pc) : vx_Back l R p e below s args y 3 8 (PreOf R mc ms Pc) (PostOf Qc mc ms free) (vx_Post XC mc ms free) := by
  obtain ⟨hrc, hrs, hfr, hlo, hws, hcw, -, hini, -⟩ := cb
  exact vx_back (bytes := bytes) (maxL := maxL) (ret := ret) hM hbl hrc hrs hfr hlo hws hcw (fun a' U hW => word_at hW (Or.inl (by first | rfl | simp [Cond.onTables, Cond.keeps, Cond.steady])) hini)
theorem vx_runV (S : CallFix p m c cc nL s args Ts own) (hM : vx_Met l y ws rm Pc Qc XC mc ms free) (cw : CallW R s args own C index y bytes maxL ret ws rm mc ms n) (hp : PreV s H C b Pc As)
    (hg : g.method = m) (hn : As.length = n) (hsize : g.locals.size = nL) (hstack : g.stack = As.reverse ++ .ref b :: rest) (hW : 2 * g.monitorRoom + (rest.map fun v => v.category).sum ≤ 8) (hdg : decode cc g.pc = .ok (.invokevirtual index, 3)) (hf : cells + mc ≤ R.cells ∧ slots + ms ≤ R.slots) :
    vx_Run p l e R s m args below meth c H locs cells slots mc ms g rest (Qc (Value.ref b :: As).toArray) XC free := by
  have hK : vx_Back l R p e below s args y 3 8 (PreOf R mc ms Pc) (PostOf Qc mc ms free) (vx_Post XC mc ms free) := vx_callBack cw.1 hM hp.1
  obtain ⟨⟨-, -, -, -, -, -, hcode, -, hy, hlen, hl⟩, hin, hse⟩ := cw
  obtain ⟨hx, hb, hml, ho, -⟩ := S
  obtain ⟨-, ⟨cellB, hcB, hoB, hclB⟩, hPc⟩ := hp
  intro T hT X
  rcases vx_callV X hx (C := C) (bytes := bytes) (maxL := maxL) (ret := ret) ho hl hin hse hcode hy hK (by rw [hT]; exact hcB) hoB hclB hg (hsize.trans hml.symm) (argsL := As) (rest := rest) (fun sig h => hn.trans (hlen sig h)) hstack hW (by rw [hb]; exact hdg)
    (fun vm₁ hW₁ => ⟨hf.1, hf.2, hPc (T.setVm vm₁) hT hW₁⟩) with ⟨v, vm₁, ⟨U', l2, c2, s2⟩, hW₁, X', ⟨g', mk, t, L, e1, e2, hq, h1, hL, h2, h3⟩, st⟩ | ⟨q, vm₁, ⟨U', l2, c2, s2⟩, hW₁, X', ⟨g', mk, t, L, E, ce, e1, e2, hq, hce, hcv, hcl, h1, hL, h2, h3⟩, st⟩
  · dsimp only [Pt.U, Pt.locs, Pt.cells, Pt.slots] at X' e1 e2 h1 h2 h3 st
    subst h1; subst h2; subst h3
    exact Or.inl ⟨v, (T.setVm vm₁).calling g' mk (Value.ref b :: As).toArray, t, U', L, hT, X', hL, e1, e2, hq, st⟩
  · dsimp only [Pt.U, Pt.locs, Pt.cells, Pt.slots] at X' e1 e2 h1 h2 h3 st hcl
    subst h1; subst h2; subst h3
    exact Or.inr ⟨q, (T.setVm vm₁).calling g' mk (Value.ref b :: As).toArray, t, U', L, E, ce, hT, X', hL, e1, e2, hq, hce, hcv, vx_cls hW₁ hcl, st⟩
theorem vx_runS (S : CallFix p m c cc nL s args Ts own) (hM : vx_Met l y ws rm Pc Qc XC mc ms free) (cw : CallB R s args own index y bytes maxL ret ws rm mc ms n ∧ (Cond.static y).before args s = true) (hp : PreS s H Pc As)
    (hg : g.method = m) (hn : As.length = n) (hsize : g.locals.size = nL) (hstack : g.stack = As.reverse ++ rest) (hW : 2 * g.monitorRoom + (rest.map fun v => v.category).sum ≤ 8) (hdg : decode cc g.pc = .ok (.invokestatic index, 3)) (hf : cells + mc ≤ R.cells ∧ slots + ms ≤ R.slots) :
    vx_Run p l e R s m args below meth c H locs cells slots mc ms g rest (Qc As.toArray) XC free := by
  have hK : vx_Back l R p e below s args y 3 8 (PreOf R mc ms Pc) (PostOf Qc mc ms free) (vx_Post XC mc ms free) := vx_callBack cw.1 hM hp.1
  obtain ⟨⟨-, -, -, -, -, -, hcode, hini, hy, hlen, hl⟩, hstt⟩ := cw
  obtain ⟨hx, hb, hml, ho, -⟩ := S
  intro T hT X
  rcases vx_callS X hx (bytes := bytes) (maxL := maxL) (ret := ret) ho hl hstt hini hcode hy hK hg (hsize.trans hml.symm) (argsL := As) (rest := rest) (fun sig h => hn.trans (hlen sig h)) hstack hW (by rw [hb]; exact hdg)
    (fun vm₁ hW₁ => ⟨hf.1, hf.2, hp.2 (T.setVm vm₁) hT hW₁⟩) with ⟨v, vm₁, ⟨U', l2, c2, s2⟩, hW₁, X', ⟨g', mk, t, L, e1, e2, hq, h1, hL, h2, h3⟩, st⟩ | ⟨q, vm₁, ⟨U', l2, c2, s2⟩, hW₁, X', ⟨g', mk, t, L, E, ce, e1, e2, hq, hce, hcv, hcl, h1, hL, h2, h3⟩, st⟩
  · dsimp only [Pt.U, Pt.locs, Pt.cells, Pt.slots] at X' e1 e2 h1 h2 h3 st
    subst h1; subst h2; subst h3
    exact Or.inl ⟨v, (T.setVm vm₁).calling g' mk As.toArray, t, U', L, hT, X', hL, e1, e2, hq, st⟩
  · dsimp only [Pt.U, Pt.locs, Pt.cells, Pt.slots] at X' e1 e2 h1 h2 h3 st hcl
    subst h1; subst h2; subst h3
    exact Or.inr ⟨q, (T.setVm vm₁).calling g' mk As.toArray, t, U', L, E, ce, hT, X', hL, e1, e2, hq, hce, hcv, vx_cls hW₁ hcl, st⟩
end Runs
section Rows
variable {p : Program} {l : Launch} {e : Env} {R : Room} {s : State} {m : MethodId} {args : Array Value} {below : List Frame} {meth : Method} {c : Code} {H : Heap} {locs : List Loc} {cells slots : Nat} {Q : State → Prop}
variable {mc ms : Nat} {free : Addr → Prop} {A0 A1 : Nat → Prop} {H0 : Heap} {a : Array Value} {pc : Nat} {ls : Array Slot} {st0 rest : List Value}
theorem vx_keep {st₀ t T' : State} {L : List Loc} (h0 : st₀.heap = H) (e1 : T'.heap = t.heap) (hS : va_S A0 H0 H locs) (hA : ∀ q, q < H.size → A1 q → A0 q) (hf : ∀ q, free q → A0 q) (hL : ∀ q ∈ L, free q.base) (hF : va_F A1 st₀ t) :
    H.size ≤ T'.heap.size ∧ (∀ q : Nat, q < H.size → ¬ A1 q → T'.heap[q]? = H[q]?) ∧ va_S A0 H0 T'.heap (locs ++ L) := by
  obtain ⟨hz, hk⟩ := hF
  rw [h0] at hz hk
  exact ⟨by rw [e1]; exact hz, fun q h1 h2 => by rw [e1]; exact hk q h1 h2,
    ⟨Nat.le_trans hS.1 (by rw [e1]; exact hz), fun q h1 h2 => by rw [e1, hk q (Nat.lt_of_lt_of_le h1 hS.1) (fun z => h2 (hA q (Nat.lt_of_lt_of_le h1 hS.1) z))]; exact hS.2.1 q h1 h2, fun q hq => by
      rcases List.mem_append.mp hq with h | h
      · exact hS.2.2 q h
      · exact hf _ (hL q h)⟩⟩
theorem vx_calli {S SX : Type} {post : Int32 → S → Prop} {px : SX → Prop} {B : S → State → Prop} {BX : String → SX → State → Prop} {AX : Nat → Prop} (hr : vx_Run p l e R s m args below meth c H locs cells slots mc ms (F0 m pc ls st0) rest (va_Qi post B A1 a) (vx_X px BX AX) free) (hS : va_S A0 H0 H locs) (hA : ∀ q, q < H.size → A1 q → A0 q) (hf : ∀ q, free q → A0 q) (hAX : ∀ q, q < H.size → AX q → A0 q)
    (kx : ∀ (E : String) (ce : Cell) (q9 : Addr) (u : SX) (t : State) (H1 : Heap) (locs1 : List Loc), t.heap = H1 → s.vm.Alike t.vm → px u → BX E u t → H.size ≤ H1.size → (∀ q : Nat, q < H.size → ¬ AX q → H1[q]? = H[q]?) → va_S A0 H0 H1 locs1 → H1[q9]? = some ce → ce.vm = .none → s.vm.findClass E = some ce.cls → vx_W p l e R s m args below meth c H1 locs1 (cells + mc) (slots + ms) Q (F0 m pc ls rest) q9)
    (kk : ∀ (r : Int32) (u : S) (t : State) (H1 : Heap) (locs1 : List Loc), t.heap = H1 → s.vm.Alike t.vm → post r u → B u t → H.size ≤ H1.size → (∀ q : Nat, q < H.size → ¬ A1 q → H1[q]? = H[q]?) → va_S A0 H0 H1 locs1 → W p l e R s m args below meth c H1 locs1 (cells + mc) (slots + ms) Q (F0 m (pc + 3) ls (.int r :: rest))) : W p l e R s m args below meth c H locs cells slots Q (F0 m pc ls st0) := by
  intro T hT X
  rcases hr T hT X with ⟨v, st₀, t, T', L, h0, X', hL, e1, e2, ⟨⟨r, u, hv, hp, hb⟩, hF⟩, st⟩ | ⟨q, st₀, t, T', L, E, ce, h0, X', hL, e1, e2, ⟨u, hp, hb, hF⟩, hce, hcv, hcl, st⟩
  · cases hv
    obtain ⟨k1, k2, k3⟩ := vx_keep h0 e1 hS hA hf hL hF
    obtain ⟨t2, a1, b1⟩ := kk r u t T'.heap (locs ++ L) e1.symm (by rw [← e2]; exact X'.warmed.alike) hp hb k1 k2 k3 T' rfl X'
    exact ⟨t2, st t2 a1, b1⟩
  · obtain ⟨k1, k2, k3⟩ := vx_keep h0 e1 hS hAX hf hL hF
    obtain ⟨t2, a1, b1⟩ := kx E ce q u t T'.heap (locs ++ L) e1.symm (by rw [← e2]; exact X'.warmed.alike) hp hb k1 k2 k3 (by rw [e1]; exact hce) hcv hcl T' rfl X'
    exact ⟨t2, st.trans a1, b1⟩
theorem vx_calll {S SX : Type} {post : Int64 → S → Prop} {px : SX → Prop} {B : S → State → Prop} {BX : String → SX → State → Prop} {AX : Nat → Prop} (hr : vx_Run p l e R s m args below meth c H locs cells slots mc ms (F0 m pc ls st0) rest (va_Ql post B A1 a) (vx_X px BX AX) free) (hS : va_S A0 H0 H locs) (hA : ∀ q, q < H.size → A1 q → A0 q) (hf : ∀ q, free q → A0 q) (hAX : ∀ q, q < H.size → AX q → A0 q)
    (kx : ∀ (E : String) (ce : Cell) (q9 : Addr) (u : SX) (t : State) (H1 : Heap) (locs1 : List Loc), t.heap = H1 → s.vm.Alike t.vm → px u → BX E u t → H.size ≤ H1.size → (∀ q : Nat, q < H.size → ¬ AX q → H1[q]? = H[q]?) → va_S A0 H0 H1 locs1 → H1[q9]? = some ce → ce.vm = .none → s.vm.findClass E = some ce.cls → vx_W p l e R s m args below meth c H1 locs1 (cells + mc) (slots + ms) Q (F0 m pc ls rest) q9)
    (kk : ∀ (r : Int64) (u : S) (t : State) (H1 : Heap) (locs1 : List Loc), t.heap = H1 → s.vm.Alike t.vm → post r u → B u t → H.size ≤ H1.size → (∀ q : Nat, q < H.size → ¬ A1 q → H1[q]? = H[q]?) → va_S A0 H0 H1 locs1 → W p l e R s m args below meth c H1 locs1 (cells + mc) (slots + ms) Q (F0 m (pc + 3) ls (.long r :: rest))) : W p l e R s m args below meth c H locs cells slots Q (F0 m pc ls st0) := by
  intro T hT X
  rcases hr T hT X with ⟨v, st₀, t, T', L, h0, X', hL, e1, e2, ⟨⟨r, u, hv, hp, hb⟩, hF⟩, st⟩ | ⟨q, st₀, t, T', L, E, ce, h0, X', hL, e1, e2, ⟨u, hp, hb, hF⟩, hce, hcv, hcl, st⟩
  · cases hv
    obtain ⟨k1, k2, k3⟩ := vx_keep h0 e1 hS hA hf hL hF
    obtain ⟨t2, a1, b1⟩ := kk r u t T'.heap (locs ++ L) e1.symm (by rw [← e2]; exact X'.warmed.alike) hp hb k1 k2 k3 T' rfl X'
    exact ⟨t2, st t2 a1, b1⟩
  · obtain ⟨k1, k2, k3⟩ := vx_keep h0 e1 hS hAX hf hL hF
    obtain ⟨t2, a1, b1⟩ := kx E ce q u t T'.heap (locs ++ L) e1.symm (by rw [← e2]; exact X'.warmed.alike) hp hb k1 k2 k3 (by rw [e1]; exact hce) hcv hcl T' rfl X'
    exact ⟨t2, st.trans a1, b1⟩
theorem vx_callf {S SX : Type} {post : UInt32 → S → Prop} {px : SX → Prop} {B : S → State → Prop} {BX : String → SX → State → Prop} {AX : Nat → Prop} (hr : vx_Run p l e R s m args below meth c H locs cells slots mc ms (F0 m pc ls st0) rest (va_Qf post B A1 a) (vx_X px BX AX) free) (hS : va_S A0 H0 H locs) (hA : ∀ q, q < H.size → A1 q → A0 q) (hf : ∀ q, free q → A0 q) (hAX : ∀ q, q < H.size → AX q → A0 q)
    (kx : ∀ (E : String) (ce : Cell) (q9 : Addr) (u : SX) (t : State) (H1 : Heap) (locs1 : List Loc), t.heap = H1 → s.vm.Alike t.vm → px u → BX E u t → H.size ≤ H1.size → (∀ q : Nat, q < H.size → ¬ AX q → H1[q]? = H[q]?) → va_S A0 H0 H1 locs1 → H1[q9]? = some ce → ce.vm = .none → s.vm.findClass E = some ce.cls → vx_W p l e R s m args below meth c H1 locs1 (cells + mc) (slots + ms) Q (F0 m pc ls rest) q9)
    (kk : ∀ (r : UInt32) (u : S) (t : State) (H1 : Heap) (locs1 : List Loc), t.heap = H1 → s.vm.Alike t.vm → post r u → B u t → H.size ≤ H1.size → (∀ q : Nat, q < H.size → ¬ A1 q → H1[q]? = H[q]?) → va_S A0 H0 H1 locs1 → W p l e R s m args below meth c H1 locs1 (cells + mc) (slots + ms) Q (F0 m (pc + 3) ls (.float r :: rest))) : W p l e R s m args below meth c H locs cells slots Q (F0 m pc ls st0) := by
  intro T hT X
  rcases hr T hT X with ⟨v, st₀, t, T', L, h0, X', hL, e1, e2, ⟨⟨r, u, hv, hp, hb⟩, hF⟩, st⟩ | ⟨q, st₀, t, T', L, E, ce, h0, X', hL, e1, e2, ⟨u, hp, hb, hF⟩, hce, hcv, hcl, st⟩
  · cases hv
    obtain ⟨k1, k2, k3⟩ := vx_keep h0 e1 hS hA hf hL hF
    obtain ⟨t2, a1, b1⟩ := kk r u t T'.heap (locs ++ L) e1.symm (by rw [← e2]; exact X'.warmed.alike) hp hb k1 k2 k3 T' rfl X'
    exact ⟨t2, st t2 a1, b1⟩
  · obtain ⟨k1, k2, k3⟩ := vx_keep h0 e1 hS hAX hf hL hF
    obtain ⟨t2, a1, b1⟩ := kx E ce q u t T'.heap (locs ++ L) e1.symm (by rw [← e2]; exact X'.warmed.alike) hp hb k1 k2 k3 (by rw [e1]; exact hce) hcv hcl T' rfl X'
    exact ⟨t2, st.trans a1, b1⟩
theorem vx_calld {S SX : Type} {post : UInt64 → S → Prop} {px : SX → Prop} {B : S → State → Prop} {BX : String → SX → State → Prop} {AX : Nat → Prop} (hr : vx_Run p l e R s m args below meth c H locs cells slots mc ms (F0 m pc ls st0) rest (va_Qd post B A1 a) (vx_X px BX AX) free) (hS : va_S A0 H0 H locs) (hA : ∀ q, q < H.size → A1 q → A0 q) (hf : ∀ q, free q → A0 q) (hAX : ∀ q, q < H.size → AX q → A0 q)
    (kx : ∀ (E : String) (ce : Cell) (q9 : Addr) (u : SX) (t : State) (H1 : Heap) (locs1 : List Loc), t.heap = H1 → s.vm.Alike t.vm → px u → BX E u t → H.size ≤ H1.size → (∀ q : Nat, q < H.size → ¬ AX q → H1[q]? = H[q]?) → va_S A0 H0 H1 locs1 → H1[q9]? = some ce → ce.vm = .none → s.vm.findClass E = some ce.cls → vx_W p l e R s m args below meth c H1 locs1 (cells + mc) (slots + ms) Q (F0 m pc ls rest) q9)
    (kk : ∀ (r : UInt64) (u : S) (t : State) (H1 : Heap) (locs1 : List Loc), t.heap = H1 → s.vm.Alike t.vm → post r u → B u t → H.size ≤ H1.size → (∀ q : Nat, q < H.size → ¬ A1 q → H1[q]? = H[q]?) → va_S A0 H0 H1 locs1 → W p l e R s m args below meth c H1 locs1 (cells + mc) (slots + ms) Q (F0 m (pc + 3) ls (.double r :: rest))) : W p l e R s m args below meth c H locs cells slots Q (F0 m pc ls st0) := by
  intro T hT X
  rcases hr T hT X with ⟨v, st₀, t, T', L, h0, X', hL, e1, e2, ⟨⟨r, u, hv, hp, hb⟩, hF⟩, st⟩ | ⟨q, st₀, t, T', L, E, ce, h0, X', hL, e1, e2, ⟨u, hp, hb, hF⟩, hce, hcv, hcl, st⟩
  · cases hv
    obtain ⟨k1, k2, k3⟩ := vx_keep h0 e1 hS hA hf hL hF
    obtain ⟨t2, a1, b1⟩ := kk r u t T'.heap (locs ++ L) e1.symm (by rw [← e2]; exact X'.warmed.alike) hp hb k1 k2 k3 T' rfl X'
    exact ⟨t2, st t2 a1, b1⟩
  · obtain ⟨k1, k2, k3⟩ := vx_keep h0 e1 hS hAX hf hL hF
    obtain ⟨t2, a1, b1⟩ := kx E ce q u t T'.heap (locs ++ L) e1.symm (by rw [← e2]; exact X'.warmed.alike) hp hb k1 k2 k3 (by rw [e1]; exact hce) hcv hcl T' rfl X'
    exact ⟨t2, st.trans a1, b1⟩
theorem vx_callv {S SX : Type} {post : S → Prop} {px : SX → Prop} {B : S → State → Prop} {BX : String → SX → State → Prop} {AX : Nat → Prop} (hr : vx_Run p l e R s m args below meth c H locs cells slots mc ms (F0 m pc ls st0) rest (va_Qv post B A1 a) (vx_X px BX AX) free) (hS : va_S A0 H0 H locs) (hA : ∀ q, q < H.size → A1 q → A0 q) (hf : ∀ q, free q → A0 q) (hAX : ∀ q, q < H.size → AX q → A0 q)
    (kx : ∀ (E : String) (ce : Cell) (q9 : Addr) (u : SX) (t : State) (H1 : Heap) (locs1 : List Loc), t.heap = H1 → s.vm.Alike t.vm → px u → BX E u t → H.size ≤ H1.size → (∀ q : Nat, q < H.size → ¬ AX q → H1[q]? = H[q]?) → va_S A0 H0 H1 locs1 → H1[q9]? = some ce → ce.vm = .none → s.vm.findClass E = some ce.cls → vx_W p l e R s m args below meth c H1 locs1 (cells + mc) (slots + ms) Q (F0 m pc ls rest) q9)
    (kk : ∀ (u : S) (t : State) (H1 : Heap) (locs1 : List Loc), t.heap = H1 → s.vm.Alike t.vm → post u → B u t → H.size ≤ H1.size → (∀ q : Nat, q < H.size → ¬ A1 q → H1[q]? = H[q]?) → va_S A0 H0 H1 locs1 → W p l e R s m args below meth c H1 locs1 (cells + mc) (slots + ms) Q (F0 m (pc + 3) ls (rest))) : W p l e R s m args below meth c H locs cells slots Q (F0 m pc ls st0) := by
  intro T hT X
  rcases hr T hT X with ⟨v, st₀, t, T', L, h0, X', hL, e1, e2, ⟨⟨u, hv, hp, hb⟩, hF⟩, st⟩ | ⟨q, st₀, t, T', L, E, ce, h0, X', hL, e1, e2, ⟨u, hp, hb, hF⟩, hce, hcv, hcl, st⟩
  · cases hv
    obtain ⟨k1, k2, k3⟩ := vx_keep h0 e1 hS hA hf hL hF
    obtain ⟨t2, a1, b1⟩ := kk u t T'.heap (locs ++ L) e1.symm (by rw [← e2]; exact X'.warmed.alike) hp hb k1 k2 k3 T' rfl X'
    exact ⟨t2, st t2 a1, b1⟩
  · obtain ⟨k1, k2, k3⟩ := vx_keep h0 e1 hS hAX hf hL hF
    obtain ⟨t2, a1, b1⟩ := kx E ce q u t T'.heap (locs ++ L) e1.symm (by rw [← e2]; exact X'.warmed.alike) hp hb k1 k2 k3 (by rw [e1]; exact hce) hcv hcl T' rfl X'
    exact ⟨t2, st.trans a1, b1⟩
/-- caught by the row x of this method's table; the rows ahead don't take it -/
theorem vx_catch {own name : String} {E : String} {ce : Cell} {q : Addr} (hown : s.vm.findClass own = some m.cls) (pre : List ExceptionTableEntry) (x : ExceptionTableEntry) (suf : List ExceptionTableEntry) (hsplit : c.exceptionTable.toList = pre ++ x :: suf)
    (hpass : ∀ z ∈ pre, covers z pc = false ∨ (z.catchType ≠ 0 ∧ ∃ nm : String, (Cond.classLink own z.catchType nm).before args s = true ∧ va_Nc E nm s)) (hx : covers x pc = true) (h0 : x.catchType ≠ 0)
    (hlink : (Cond.classLink own x.catchType name).before args s = true) (hcast : (Cond.castable E name).before args s = true) (hcell : H[q]? = some ce) (hv : ce.vm = .none) (hcl : s.vm.findClass E = some ce.cls)
    (kk : W p l e R s m args below meth c H locs cells slots Q (F0 m x.handlerPc ls [.ref q])) : vx_W p l e R s m args below meth c H locs cells slots Q (F0 m pc ls rest) q := by
  intro T hT X
  have hpl : e.platform.magicAccessors = ({} : Platform).magicAccessors := by rw [X.admits.platform]
  obtain ⟨c3, c4, hc3, hc4, hasg⟩ := Cond.castable_spec hcast
  cases Option.some.inj (hc3.symm.trans hcl)
  obtain ⟨c5, hc5, hcl5⟩ := Cond.classLink_spec hown hlink e.platform hpl
  cases Option.some.inj (hc4.symm.trans hc5)
  obtain ⟨vm', X', st⟩ := cx_then X q (g := F0 m pc ls rest) rfl (by rw [hT]; exact hcell) (by rw [hv]; rfl) (by obtain ⟨k9, h9, -⟩ := Vm.findClass_spec hcl; exact ⟨k9, h9⟩) pre x suf hsplit
    (fun z hz => by
      rcases hpass z hz with h | ⟨hz0, nm, hl1, hn1⟩
      · exact Or.inl h
      · obtain ⟨c6, hc6, hcl6⟩ := Cond.classLink_spec hown hl1 e.platform hpl
        obtain ⟨a8, b8, h1, h2, h3⟩ := hn1
        cases Option.some.inj (h1.symm.trans hcl)
        cases Option.some.inj (h2.symm.trans hc6)
        exact Or.inr ⟨hz0, _, hcl6, h3⟩) hx ⟨h0, c4, hcl5, hasg⟩
  obtain ⟨t, a1, b1⟩ := kk (T.setVm vm') hT X'
  exact ⟨t, st t a1, b1⟩
end Rows
section Ends
variable {p : Program} {l : Launch} {e : Env} {R : Room} {s : State} {m : MethodId} {args : Array Value} {below : List Frame} {meth : Method} {c : Code} {H : Heap} {locs : List Loc} {cells slots : Nat} {Q : State → Prop}
variable {mc ms : Nat} {free : Addr → Prop} {A0 A1 : Nat → Prop} {H0 : Heap} {a : Array Value} {ls : Array Slot} {st0 rest : List Value}
variable {Qc : Array Value → State → Outcome → State → Prop} {XC : String → State → State → Prop}
/-- what a body that may throw owes at its end -/
def vx_MQ (below : List Frame) (Qc : Array Value → State → Outcome → State → Prop) (XC : String → State → State → Prop) (a : Array Value) (s : State) (mc ms : Nat) (free : Addr → Prop) : State → Prop := fun t =>
  ∃ o, t.status = .running ∧ Ended t below o ∧ vx_Q Qc XC mc ms free a s o t
theorem vx_ret {g : JFrame} {mc ms : Nat} (k : W p l e R s m args below meth c H locs cells slots (MQ below Qc args s mc ms free) g) : W p l e R s m args below meth c H locs cells slots (vx_MQ below Qc XC args s mc ms free) g := by
  intro T hT X
  obtain ⟨t, a1, o, b1, b2, b3, b4⟩ := k T hT X
  exact ⟨t, a1, o, b1, b2, Or.inl ⟨b3, b4⟩⟩
/-- not caught here: it goes on to the caller -/
theorem vx_widen {g : JFrame} {q : Addr} {k n : Nat} (h1 : cells ≤ k) (h2 : slots ≤ n) (kk : vx_W p l e R s m args below meth c H locs k n Q g q) : vx_W p l e R s m args below meth c H locs cells slots Q g q := fun T hT X => kk T hT (stand_widen X h1 h2)
theorem vx_out {pc : Nat} {E : String} {ce : Cell} {q : Addr} {mc ms : Nat} (hout : ∀ x ∈ c.exceptionTable.toList, covers x pc = false) (hlocks : meth.locks = false) (hcell : H[q]? = some ce) (hv : ce.vm = .none) (hcl : s.vm.findClass E = some ce.cls)
    (hx : ∀ t : State, t.heap = H → s.vm.Alike t.vm → XC E s t) (hf : ∀ z ∈ locs, free z.base) (hc : cells ≤ mc) (hs : slots ≤ ms) :
    vx_W p l e R s m args below meth c H locs cells slots (vx_MQ below Qc XC args s mc ms free) (F0 m pc ls rest) q := by
  intro T hT X
  obtain ⟨st1, hrun, hend, hW, hsm⟩ := X.leaveThrown q (g := F0 m pc ls rest) rfl rfl rfl hout hlocks
  have hcell9 : (T.setFrames (.throwing q :: below)).heap[q]? = some ce := by
    show T.heap[q]? = some ce
    rw [hT]; exact hcell
  exact ⟨_, st1, .threw q, hrun, hend, Or.inr ⟨q, rfl, E, ce, locs, hx _ hT hW.alike, hcell9, hv, hcl, hW, hsm.mono hc hs, hf⟩⟩
theorem vx_frame {U : State} {k n : Nat} (h : s.sameButNew ({ U with vm := s.vm } : State) locs k n) : s.heap.size ≤ U.heap.size ∧ ∀ q : Nat, q < s.heap.size → (∀ z ∈ locs, z.base ≠ q) → U.heap[q]? = s.heap[q]? := by
  obtain ⟨-, h2, -, -, -, h6⟩ := h
  refine ⟨h2, fun q hq hz => ?_⟩
  obtain ⟨c9, e1, e2, e3, e4⟩ := h6 q _ (Array.getElem?_eq_getElem hq)
  have hs : c9.slots = (s.heap[q]).slots := Array.ext_getElem? fun i => e4 i fun hm => hz _ hm rfl
  have h9 : c9 = s.heap[q] := by
    rw [hs] at e2
    exact e2
  have e5 : U.heap[q]? = some c9 := e1
  rw [e5, h9, Array.getElem?_eq_getElem hq]
/-- the words of a throw but the four that speak of the heap -/
def vx_no (w : Cond) : Bool := decide (w ≠ .isRef (.static Bundle.tN "UNASSIGNED_STACK" Bundle.steD)) && decide (w ≠ .isRef (.static Bundle.tN "SUPPRESSED_SENTINEL" Bundle.listD)) && decide (w ≠ .laysStatic Bundle.tN "UNASSIGNED_STACK" Bundle.steD) && decide (w ≠ .laysStatic Bundle.tN "SUPPRESSED_SENTINEL" Bundle.listD)
def vx_at0 (own : String) (ic : Nat) (X : String) (names : List String) : List Cond := (Bundle.ownAtoms0 own ic X names).filter vx_no
def vx_atS (own : String) (ic : Nat) (X : String) (names : List String) : List Cond := (Bundle.ownAtoms own ic X names).filter vx_no
/-- a word that the tables alone decide, or a good one -/
def vx_ot (w : Cond) : Bool := w.onTables || goodWord w
theorem vx_ot_at {args a' : Array Value} {s U : State} {w : Cond} (hW : s.WarmedH U.vm) (hvm : s.vm = U.vm) (hg : vx_ot w = true) (h : w.before args s = true) : w.before a' U = true := by
  simp only [vx_ot, Bool.or_eq_true] at hg
  rcases hg with hg | hg
  · exact va_tabs hg hvm h
  · exact word_at hW (good_of_word hg) h
/-- a list's words: the good ones out of the method's own list, the others by premises of their own -/
theorem vx_hat {args : Array Value} {s : State} {L B : List Cond} (h1 : ∀ w ∈ L.filter goodWord, w.before args s = true) (h2 : ∀ w ∈ L.filter (fun w => !goodWord w), w ∈ B) (h3 : ∀ w ∈ B, w.before args s = true) : ∀ w ∈ L, w.before args s = true := by
  intro w hw
  by_cases g : goodWord w = true
  · exact h1 w (List.mem_filter.mpr ⟨hw, g⟩)
  · refine h3 w (h2 w (List.mem_filter.mpr ⟨hw, ?_⟩))
    show (!goodWord w) = true
    cases hgw : goodWord w
    · rfl
    · exact absurd hgw g
theorem vx_c {args : Array Value} {s : State} {w : Cond} {B : List Cond} (h : w.before args s = true) (t : ∀ w ∈ B, w.before args s = true) : ∀ w' ∈ w :: B, w'.before args s = true := fun w' h' => (List.mem_cons.mp h').elim (fun e => by rw [e]; exact h) (t w')
theorem vx_n {args : Array Value} {s : State} : ∀ w ∈ ([] : List Cond), w.before args s = true := fun _ h => nomatch h
theorem vx_own {args : Array Value} {s : State} {L : List Cond} (h1 : ∀ w ∈ L.filter vx_no, w.before args s = true)
    (hU : (Cond.isRef (.static Bundle.tN "UNASSIGNED_STACK" Bundle.steD)).before args s = true) (hN : (Cond.isRef (.static Bundle.tN "SUPPRESSED_SENTINEL" Bundle.listD)).before args s = true)
    (lU : (Cond.laysStatic Bundle.tN "UNASSIGNED_STACK" Bundle.steD).before args s = true) (lN : (Cond.laysStatic Bundle.tN "SUPPRESSED_SENTINEL" Bundle.listD).before args s = true) : ∀ w ∈ L, w.before args s = true := by
  intro w hw
  by_cases e1 : w = .isRef (.static Bundle.tN "UNASSIGNED_STACK" Bundle.steD)
  · rw [e1]; exact hU
  · by_cases e2 : w = .isRef (.static Bundle.tN "SUPPRESSED_SENTINEL" Bundle.listD)
    · rw [e2]; exact hN
    · by_cases e3 : w = .laysStatic Bundle.tN "UNASSIGNED_STACK" Bundle.steD
      · rw [e3]; exact lU
      · by_cases e4 : w = .laysStatic Bundle.tN "SUPPRESSED_SENTINEL" Bundle.listD
        · rw [e4]; exact lN
        · exact h1 w (List.mem_filter.mpr ⟨hw, by unfold vx_no; rw [decide_eq_true e1, decide_eq_true e2, decide_eq_true e3, decide_eq_true e4]; rfl⟩)
/-- where a static field lies, its class's statics cell in H -/
def vx_L (C n d : String) (A : Nat → Prop) (U : State) (H : Heap) : Prop := ∃ (c : ClassId) (k : Class) (i : Nat) (f : Field) (a : Nat) (cell : Cell), U.vm.findClass C = some c ∧ U.fieldFound? C n d = some (c, k, i, f) ∧ f.isStatic = true ∧ k.statics = some a ∧ H[a]? = some cell ∧ cell.vm.isStatics = true ∧ cell.cls = c ∧ f.slot < cell.slots.size ∧ k.staticTypes[f.slot]? = some f.type ∧ ¬ A a
theorem vx_L.moved {C n d : String} {A : Nat → Prop} {u U : State} {H : Heap} (hvm : u.vm.Alike U.vm) (h : vx_L C n d A u H) : vx_L C n d A U H := by
  obtain ⟨c, k, i, f, a, cell, h1, h2, h3, h4, h5, h6, h7, h8, h9, h10⟩ := h
  obtain ⟨k', hi', he⟩ := State.fieldFound?_setVm hvm h2
  exact ⟨c, k', i, f, a, cell, by rw [hvm.findClass]; exact h1, hi', h3, by rw [he]; exact h4, h5, h6, h7, h8, by rw [he]; exact h9, h10⟩
theorem vx_L.kept {C n d : String} {A : Nat → Prop} {U : State} {H H1 : Heap} (h : vx_L C n d A U H) (hq : ∀ a : Nat, a < H.size → ¬ A a → H1[a]? = H[a]?) : vx_L C n d A U H1 := by
  obtain ⟨c, k, i, f, a, cell, h1, h2, h3, h4, h5, h6, h7, h8, h9, h10⟩ := h
  exact ⟨c, k, i, f, a, cell, h1, h2, h3, h4, by rw [hq a (Array.getElem?_eq_some_iff.mp h5).1 h10]; exact h5, h6, h7, h8, h9, h10⟩
theorem vx_L.narrow {C n d : String} {A B : Nat → Prop} {U : State} {H : Heap} (h : vx_L C n d A U H) (hAB : ∀ q, B q → A q) : vx_L C n d B U H := by
  obtain ⟨c, k, i, f, a, cell, h1, h2, h3, h4, h5, h6, h7, h8, h9, h10⟩ := h
  exact ⟨c, k, i, f, a, cell, h1, h2, h3, h4, h5, h6, h7, h8, h9, fun z => h10 (hAB _ z)⟩
theorem vx_L.word {C n d : String} {A : Nat → Prop} {s : State} {args : Array Value} (h : vx_L C n d A s s.heap) : (Cond.laysStatic C n d).before args s = true := by
  obtain ⟨c, k, i, f, a, cell, h1, h2, h3, h4, h5, h6, h7, h8, h9, -⟩ := h
  show (Cond.laysStatic C n d).holds args s none s [] = true
  exact Cond.laysStatic_of h1 h2 h3 h4 h5 h6 h7 h8 h9
/-- .. and what it holds: null or some reference -/
def vx_Zq (C n d : String) (A : Nat → Prop) (U : State) (H : Heap) : Prop := va_Zq C n d A U H ∧ vx_L C n d A U H
theorem vx_Zq.moved {C n d : String} {A : Nat → Prop} {u U : State} {H : Heap} (hvm : u.vm.Alike U.vm) (h : vx_Zq C n d A u H) : vx_Zq C n d A U H := ⟨va_Zq.moved hvm h.1, vx_L.moved hvm h.2⟩
theorem vx_Zq.kept {C n d : String} {A : Nat → Prop} {U : State} {H H1 : Heap} (h : vx_Zq C n d A U H) (hq : ∀ a : Nat, a < H.size → ¬ A a → H1[a]? = H[a]?) : vx_Zq C n d A U H1 := ⟨va_Zq.kept h.1 hq, vx_L.kept h.2 hq⟩
theorem vx_Zq.narrow {C n d : String} {A B : Nat → Prop} {U : State} {H : Heap} (h : vx_Zq C n d A U H) (hAB : ∀ q, B q → A q) : vx_Zq C n d B U H := ⟨va_Zq.narrow h.1 hAB, vx_L.narrow h.2 hAB⟩
theorem vx_Zqof {args : Array Value} {s : State} {C n d : String} {A : Nat → Prop} (hl : (Cond.laysStatic C n d).before args s = true) (hini : (Cond.initialized C).before args s = true) (h : (Cond.isRef (.static C n d)).before args s = true) (hA : ∀ a : Nat, a < s.heap.size → ¬ A a) : vx_Zq C n d A s s.heap := by
  refine ⟨va_Zqof hl hini h hA, ?_⟩
  obtain ⟨c, k, i, f, a, cell, h1, h2, h3, h4, h5, h6, h7, h8, h9⟩ := Cond.laysStatic_spec hl
  exact ⟨c, k, i, f, a, cell, h1, h2, h3, h4, h5, h6, h7, h8, h9, hA a (Array.getElem?_eq_some_iff.mp h5).1⟩
theorem vx_isRef {C n d : String} {v : Value} {A : Nat → Prop} {s : State} {args : Array Value} (h : va_Z C n d v A s s.heap) (hv : v.isRef = true) : (Cond.isRef (.static C n d)).before args s = true := by
  obtain ⟨cf, kf, fi, f, a, cell, h1, h2, h3, h4, h5, h6, h7, -⟩ := h
  have he : (Term.static C n d).eval args s none [] s = some v := by
    simp [Term.eval, State.fieldNamed?, h1, h2, h4, h5, h6, h7]
  simp only [Cond.before, Cond.holds, Cond.value, he]
  cases v <;> simp_all [Value.isRef]
theorem vx_isRefq {C n d : String} {A : Nat → Prop} {s : State} {args : Array Value} (h : va_Zq C n d A s s.heap) : (Cond.isRef (.static C n d)).before args s = true := by
  rcases h with h | ⟨t, h⟩
  · exact vx_isRef h rfl
  · exact vx_isRef h rfl
/-- the same frame, seen from here: as if the method were called anew in this heap -/
theorem vx_rebase {T : State} (X : Stand p l e R s m args below meth c T locs cells slots) {R' : Room} (hf : R'.frames ≤ R.frames) (hl : R'.locals ≤ R.locals) (hc : cells + R'.cells ≤ R.cells) (hs : slots + R'.slots ≤ R.slots) :
    Stand p l e R' ((T.setVm s.vm).setFrames (.invoking m args :: below)) m args below meth c T [] 0 0 := by
  have htop : (T.setVm s.vm).topJava?.isSome := X.here.top
  have hF : ((T.setVm s.vm).setFrames (.invoking m args :: below)).frames = .invoking m args :: below := State.frames_setFrames _ (State.cur_lt_of_top htop)
  obtain ⟨g₀, hg0⟩ := Option.isSome_iff_exists.mp htop
  obtain ⟨r, hr⟩ := State.topJava?_eq_some.mp hg0
  have hl9 : e.platform.stackLimits (T.setVm s.vm).me = e.platform.stackLimits s.me := X.limits
  have hb9 : (T.setVm s.vm).me.stackBytes = s.me.stackBytes := X.bytes
  refine ⟨X.admits, X.cas, X.clock, hF, ?_, X.hears, X.method, X.code, X.here, X.tail, X.warmed, ?_, ?_, ?_⟩
  · have h := X.room
    have hU : ((T.setVm s.vm).setFrames (.invoking m args :: below)).localsInUse = s.localsInUse := by
      rw [State.localsInUse_invoking hF (meth := meth) (c := c) X.method X.code, State.localsInUse_invoking X.frames X.method X.code]
    simp only [State.hasRoom, Bool.and_eq_true, decide_eq_true_eq] at h ⊢
    obtain ⟨⟨⟨⟨h1, h2, h3, h4, h5, h6⟩, h7⟩, h8⟩, h9⟩ := h
    rw [X.frames, List.length_cons] at h2 h3
    have q1 := X.heapSize
    have q2 := X.used
    simp only [hF, hU, List.length_cons, State.stackLimits_setFrames, State.stackBytes_setFrames, hl9, hb9]
    refine ⟨⟨⟨⟨by omega, by omega, by omega, by omega, by omega, h6⟩, ?_⟩, ?_⟩, X.book⟩
    · show T.heap.size + R'.cells ≤ e.platform.maxCells
      omega
    · show T.slotsUsed + R'.slots ≤ e.platform.maxSlots
      omega
  · rw [State.stackLimits_setFrames]; rfl
  · rw [State.stackBytes_setFrames]; rfl
  · refine ⟨?_, Nat.le_refl _, Nat.le_refl _, ?_, ?_, fun a c9 h9 => ⟨c9, h9, rfl, rfl, fun _ _ => rfl⟩⟩
    · obtain ⟨t, ht, -⟩ := State.frames_cons hr
      show T.setVm s.vm = { ((T.setVm s.vm).setFrames (.invoking m args :: below)).setFrames (T.setVm s.vm).frames with heap := T.heap, slotsUsed := T.slotsUsed }
      rw [State.setFrames_setFrames, State.setFrames_self ht]
      rfl
    · show T.slotsUsed = T.slotsUsed + ((T.heap.toList.drop T.heap.size).map (·.slots.size)).sum
      rw [List.drop_eq_nil_of_le (Nat.le_of_eq Array.length_toList)]
      rfl
    · show ((T.heap.toList.drop T.heap.size).map (·.slots.size)).sum ≤ 0
      rw [List.drop_eq_nil_of_le (Nat.le_of_eq Array.length_toList)]
      exact Nat.le_refl _
/-- 'throw new E()': new; dup; invokespecial; athrow -/
theorem vx_throw0 {cc : ByteArray} {pc : Nat} (hexec : p.tables.exec = Jvm.exec) (hb : c.code = cc) (hl : l.stackTraces = false) {own cls : String} {names : List String} {ik ic mc ms : Nat} {A : Nat → Prop}
    (hown : s.vm.findClass own = some m.cls) (hcls : Bundle.fit cls = true) (hnames : ∀ n ∈ names, Bundle.fit n = true)
    (hk : (Cond.classLink own ik cls).before args s = true) (hini : (Cond.initialized cls).before args s = true) (hat : ∀ w ∈ vx_at0 own ic cls names, w.before args s = true)
    (hgood : ∀ w ∈ Cond.classLink own ik cls :: Cond.initialized cls :: vx_at0 own ic cls names, vx_ot w = true)
    (hU : vx_Zq Bundle.tN "UNASSIGNED_STACK" Bundle.steD A s s.heap) (hN : vx_Zq Bundle.tN "SUPPRESSED_SENTINEL" Bundle.listD A s s.heap) (hS : va_S A s.heap H locs) (hsize : ls.size = c.maxLocals)
    (d0 : decode cc pc = .ok (.new ik, 3)) (d3 : decode cc (pc + 3) = .ok (.dup, 1)) (d4 : decode cc (pc + 4) = .ok (.invokespecial ic, 3)) (d7 : decode cc (pc + 7) = .ok (.athrow, 1))
    (hout : ∀ x ∈ c.exceptionTable.toList, covers x (pc + 7) = false)
    (hRframes : names.length + 3 < R.frames) (hRlocals : (rest.map fun v => v.category).sum + (13 * (names.length + 1) + 42) ≤ R.locals) (hRcells : cells + 1 ≤ R.cells) (hRslots : slots + 6 ≤ R.slots) (hlocks : meth.locks = false)
    (hx : ∀ t : State, s.vm.Alike t.vm → H.size ≤ t.heap.size → (∀ q : Nat, q < H.size → t.heap[q]? = H[q]?) → XC cls s t)
    (hf : ∀ z ∈ locs, free z.base) (hc : cells + 1 ≤ mc) (hs : slots + 6 ≤ ms) :
    W p l e R s m args below meth c H locs cells slots (vx_MQ below Qc XC args s mc ms free) (F0 m pc ls rest) := by
  intro T hT X
  have htr : e.platform.stackTraces = false := (show e.platform.stackTraces = l.stackTraces by rw [X.admits.platform]).trans hl
  have Y := vx_rebase X (R' := { frames := R.frames, locals := R.locals, cells := 1, slots := 6 }) (Nat.le_refl _) (Nat.le_refl _) hRcells hRslots
  obtain ⟨s', hA⟩ : ∃ z, z = (T.setVm s.vm).setFrames (.invoking m args :: below) := ⟨_, rfl⟩
  rw [← hA] at Y
  have hvm : s'.vm = s.vm := by rw [hA]; rfl
  have hhp : s'.heap = H := by rw [hA]; exact hT
  have hW0 : s.WarmedH s'.vm := by rw [hvm]; exact State.WarmedH.refl s
  have hat' : ∀ w ∈ vx_at0 own ic cls names, w.before args s' = true := fun w hw => vx_ot_at hW0 hvm.symm (hgood w (List.mem_cons_of_mem _ (List.mem_cons_of_mem _ hw))) (hat w hw)
  have hk' : (Cond.classLink own ik cls).before args s' = true := vx_ot_at hW0 hvm.symm (hgood _ List.mem_cons_self) hk
  have hini' : (Cond.initialized cls).before args s' = true := vx_ot_at hW0 hvm.symm (hgood _ (List.mem_cons_of_mem _ List.mem_cons_self)) hini
  have hU' : vx_Zq Bundle.tN "UNASSIGNED_STACK" Bundle.steD A s' s'.heap := by rw [hhp]; exact vx_Zq.moved hW0.alike (hU.kept hS.2.1)
  have hN' : vx_Zq Bundle.tN "SUPPRESSED_SENTINEL" Bundle.listD A s' s'.heap := by rw [hhp]; exact vx_Zq.moved hW0.alike (hN.kept hS.2.1)
  have h : ∀ w ∈ Bundle.ownAtoms0 own ic cls names, w.before args s' = true := vx_own hat' (vx_isRefq hU'.1) (vx_isRefq hN'.1) hU'.2.word hN'.2.word
  have hown' : s'.vm.findClass own = some m.cls := by rw [hvm]; exact hown
  have hins : (Cond.instantiable cls 6).before args s' = true := h _ (by simp [Bundle.ownAtoms0])
  obtain ⟨vm₁, cX, kX, hfX, hkX, -, -, X₁, st1⟩ := Y.newCold hexec (own := own) (C := cls) (index := ik) (n := 6) hown' hk' hins hini'
    (g := F0 m pc ls rest) rfl (by rw [hb]; exact d0) (Nat.le_refl _) (Nat.le_refl _)
  generalize hT1 : (T.setVm vm₁).pushCell { cls := cX, slots := kX.instanceTypes.map defaultValue, vm := .none } = T1 at X₁ st1
  have hcat : (Value.ref T.heap.size).category = 1 := rfl
  have hcellA : T1.heap[T.heap.size]? = some (freshCell cX kX) := by rw [← hT1]; exact State.heap_pushCell_size _ _
  have d3' : decode c.code (pc + 3) = .ok (.dup, 1) := by rw [hb]; exact d3
  obtain ⟨U, hsteps, hrun, hend, hW, hsame, ce, hce, hO⟩ := X₁.ctorThrow0 hexec htr (own := own) (cls := cls) (names := names) (ic := ic) hown' hcls hnames h (fun x hx => nomatch hx) hfX hkX hcellA (by rw [hhp, hT]; exact Nat.le_refl _)
    (g := { method := m, pc := pc + 4, locals := ls, stack := .ref T.heap.size :: .ref T.heap.size :: rest, locked := none }) rfl hsize rfl rfl (rest := rest) rfl
    (by rw [hb]; exact d4) (by rw [hb]; exact d7) hout hRframes (by simp only [List.map_cons, List.sum_cons, hcat]; omega) hlocks
  obtain ⟨f1, f2⟩ := vx_frame hsame
  rw [hhp] at f1 f2
  have hWs : s.WarmedH U.vm := State.WarmedH.trans hW0 hW
  have hcl : s.vm.findClass cls = some ce.cls := by
    have h9 := hO.cls
    rw [hvm] at h9
    exact h9
  have hall : s.sameButNew ({ U with vm := s.vm } : State) locs mc ms := by
    subst hA
    obtain ⟨e1, e2⟩ := hsame
    rw [State.setFrames_setFrames] at e1
    have h2 : (T.setVm s.vm).sameButNew ({ U with vm := s.vm } : State) [] (0 + 1) (0 + 6) := ⟨e1, e2⟩
    have h3 := X.same.trans h2
    rw [List.append_nil] at h3
    exact h3.mono hc hs
  refine ⟨U, ?_, .threw T.heap.size, hrun, hend, Or.inr ⟨T.heap.size, rfl, cls, ce, locs, hx U hWs.alike f1 (fun q hq => f2 q hq (fun z hz => nomatch hz)), hce, hO.vm, hcl, hWs, hall, hf⟩⟩
  refine st1 _ ?_
  show Steps p.tables e below (T1.setTop { method := m, pc := pc + 3, locals := ls, stack := .ref T.heap.size :: rest, locked := none }) _
  jvm_step X₁.here [X₁.here.top, hexec, d3', Value.category]
  exact hsteps
/-- 'throw new E("text")': new; dup; ldc; invokespecial; athrow -/
theorem vx_throwS {cc : ByteArray} {pc : Nat} (hexec : p.tables.exec = Jvm.exec) (hb : c.code = cc) (hl : l.stackTraces = false) {own cls text : String} {names : List String} {ik is ic mc ms sa : Nat} {A : Nat → Prop}
    (hown : s.vm.findClass own = some m.cls) (hcls : Bundle.fit cls = true) (hnames : ∀ n ∈ names, Bundle.fit n = true)
    (hk : (Cond.classLink own ik cls).before args s = true) (hini : (Cond.initialized cls).before args s = true) (hstr : vk_R own is text sa s) (hat : ∀ w ∈ vx_atS own ic cls names, w.before args s = true)
    (hgood : ∀ w ∈ Cond.classLink own ik cls :: Cond.initialized cls :: vx_atS own ic cls names, vx_ot w = true)
    (hU : vx_Zq Bundle.tN "UNASSIGNED_STACK" Bundle.steD A s s.heap) (hN : vx_Zq Bundle.tN "SUPPRESSED_SENTINEL" Bundle.listD A s s.heap) (hS : va_S A s.heap H locs) (hsize : ls.size = c.maxLocals)
    (d0 : decode cc pc = .ok (.new ik, 3)) (d3 : decode cc (pc + 3) = .ok (.dup, 1)) (d4 : decode cc (pc + 4) = .ok (.ldc is, 2)) (d6 : decode cc (pc + 6) = .ok (.invokespecial ic, 3)) (d9 : decode cc (pc + 9) = .ok (.athrow, 1))
    (hout : ∀ x ∈ c.exceptionTable.toList, covers x (pc + 9) = false)
    (hRframes : names.length + 3 < R.frames) (hRlocals : (rest.map fun v => v.category).sum + (13 * (names.length + 1) + 43) ≤ R.locals) (hRcells : cells + 1 ≤ R.cells) (hRslots : slots + 6 ≤ R.slots) (hlocks : meth.locks = false)
    (hx : ∀ t : State, s.vm.Alike t.vm → H.size ≤ t.heap.size → (∀ q : Nat, q < H.size → t.heap[q]? = H[q]?) → XC cls s t)
    (hf : ∀ z ∈ locs, free z.base) (hc : cells + 1 ≤ mc) (hs : slots + 6 ≤ ms) :
    W p l e R s m args below meth c H locs cells slots (vx_MQ below Qc XC args s mc ms free) (F0 m pc ls rest) := by
  intro T hT X
  have htr : e.platform.stackTraces = false := (show e.platform.stackTraces = l.stackTraces by rw [X.admits.platform]).trans hl
  have Y := vx_rebase X (R' := { frames := R.frames, locals := R.locals, cells := 1, slots := 6 }) (Nat.le_refl _) (Nat.le_refl _) hRcells hRslots
  obtain ⟨s', hA⟩ : ∃ z, z = (T.setVm s.vm).setFrames (.invoking m args :: below) := ⟨_, rfl⟩
  rw [← hA] at Y
  have hvm : s'.vm = s.vm := by rw [hA]; rfl
  have hhp : s'.heap = H := by rw [hA]; exact hT
  have hW0 : s.WarmedH s'.vm := by rw [hvm]; exact State.WarmedH.refl s
  have hat' : ∀ w ∈ vx_atS own ic cls names, w.before args s' = true := fun w hw => vx_ot_at hW0 hvm.symm (hgood w (List.mem_cons_of_mem _ (List.mem_cons_of_mem _ hw))) (hat w hw)
  have hk' : (Cond.classLink own ik cls).before args s' = true := vx_ot_at hW0 hvm.symm (hgood _ List.mem_cons_self) hk
  have hini' : (Cond.initialized cls).before args s' = true := vx_ot_at hW0 hvm.symm (hgood _ (List.mem_cons_of_mem _ List.mem_cons_self)) hini
  have hU' : vx_Zq Bundle.tN "UNASSIGNED_STACK" Bundle.steD A s' s'.heap := by rw [hhp]; exact vx_Zq.moved hW0.alike (hU.kept hS.2.1)
  have hN' : vx_Zq Bundle.tN "SUPPRESSED_SENTINEL" Bundle.listD A s' s'.heap := by rw [hhp]; exact vx_Zq.moved hW0.alike (hN.kept hS.2.1)
  have h : ∀ w ∈ Bundle.ownAtoms own ic cls names, w.before args s' = true := vx_own hat' (vx_isRefq hU'.1) (vx_isRefq hN'.1) hU'.2.word hN'.2.word
  have hown' : s'.vm.findClass own = some m.cls := by rw [hvm]; exact hown
  have hins : (Cond.instantiable cls 6).before args s' = true := h _ (by simp [Bundle.ownAtoms])
  obtain ⟨vm₁, cX, kX, hfX, hkX, -, -, X₁, st1⟩ := Y.newCold hexec (own := own) (C := cls) (index := ik) (n := 6) hown' hk' hins hini'
    (g := F0 m pc ls rest) rfl (by rw [hb]; exact d0) (Nat.le_refl _) (Nat.le_refl _)
  generalize hT1 : (T.setVm vm₁).pushCell { cls := cX, slots := kX.instanceTypes.map defaultValue, vm := .none } = T1 at X₁ st1
  have hcat : (Value.ref T.heap.size).category = 1 := rfl
  have hcellA : T1.heap[T.heap.size]? = some (freshCell cX kX) := by rw [← hT1]; exact State.heap_pushCell_size _ _
  have d3' : decode c.code (pc + 3) = .ok (.dup, 1) := by rw [hb]; exact d3
  have d4' : decode c.code (pc + 4) = .ok (.ldc is, 2) := by rw [hb]; exact d4
  have hstr' : vk_R own is text sa s' := vk_R.warm hW0 hstr
  obtain ⟨U, hsteps, hrun, hend, hW, hsame, ce, hce, hO⟩ := X₁.ctorThrowS hexec htr (own := own) (cls := cls) (names := names) (ic := ic) hown' hcls hnames h (fun x hx => nomatch hx) hfX hkX hcellA (by rw [hhp, hT]; exact Nat.le_refl _) (msg := .ref sa) rfl
    (g := { method := m, pc := pc + 6, locals := ls, stack := .ref sa :: .ref T.heap.size :: .ref T.heap.size :: rest, locked := none }) rfl hsize rfl rfl (rest := rest) rfl
    (by rw [hb]; exact d6) (by rw [hb]; exact d9) hout hRframes (by simp only [List.map_cons, List.sum_cons, hcat]; omega) hlocks
  obtain ⟨f1, f2⟩ := vx_frame hsame
  rw [hhp] at f1 f2
  have hWs : s.WarmedH U.vm := State.WarmedH.trans hW0 hW
  have hcl : s.vm.findClass cls = some ce.cls := by
    have h9 := hO.cls
    rw [hvm] at h9
    exact h9
  have hall : s.sameButNew ({ U with vm := s.vm } : State) locs mc ms := by
    subst hA
    obtain ⟨e1, e2⟩ := hsame
    rw [State.setFrames_setFrames] at e1
    have h2 : (T.setVm s.vm).sameButNew ({ U with vm := s.vm } : State) [] (0 + 1) (0 + 6) := ⟨e1, e2⟩
    have h3 := X.same.trans h2
    rw [List.append_nil] at h3
    exact h3.mono hc hs
  refine ⟨U, ?_, .threw T.heap.size, hrun, hend, Or.inr ⟨T.heap.size, rfl, cls, ce, locs, hx U hWs.alike f1 (fun q hq => f2 q hq (fun z hz => nomatch hz)), hce, hO.vm, hcl, hWs, hall, hf⟩⟩
  refine st1 _ ?_
  show Steps p.tables e below (T1.setTop { method := m, pc := pc + 3, locals := ls, stack := .ref T.heap.size :: rest, locked := none }) _
  jvm_step X₁.here [X₁.here.top, hexec, d3', Value.category]
  exact X₁.ldcString hexec (own := own) (text := text) (index := is) (a := sa) hown' hstr'.1 hstr'.2
    (g := { method := m, pc := pc + 4, locals := ls, stack := .ref T.heap.size :: .ref T.heap.size :: rest, locked := none }) rfl d4' _ hsteps
/-- 'throw new E("text")', the text by a wide index -/
theorem vx_throwSW {cc : ByteArray} {pc : Nat} (hexec : p.tables.exec = Jvm.exec) (hb : c.code = cc) (hl : l.stackTraces = false) {own cls text : String} {names : List String} {ik is ic mc ms sa : Nat} {A : Nat → Prop}
    (hown : s.vm.findClass own = some m.cls) (hcls : Bundle.fit cls = true) (hnames : ∀ n ∈ names, Bundle.fit n = true)
    (hk : (Cond.classLink own ik cls).before args s = true) (hini : (Cond.initialized cls).before args s = true) (hstr : vk_R own is text sa s) (hat : ∀ w ∈ vx_atS own ic cls names, w.before args s = true)
    (hgood : ∀ w ∈ Cond.classLink own ik cls :: Cond.initialized cls :: vx_atS own ic cls names, vx_ot w = true)
    (hU : vx_Zq Bundle.tN "UNASSIGNED_STACK" Bundle.steD A s s.heap) (hN : vx_Zq Bundle.tN "SUPPRESSED_SENTINEL" Bundle.listD A s s.heap) (hS : va_S A s.heap H locs) (hsize : ls.size = c.maxLocals)
    (d0 : decode cc pc = .ok (.new ik, 3)) (d3 : decode cc (pc + 3) = .ok (.dup, 1)) (d4 : decode cc (pc + 4) = .ok (.ldc_w is, 3)) (d7 : decode cc (pc + 7) = .ok (.invokespecial ic, 3)) (d10 : decode cc (pc + 10) = .ok (.athrow, 1))
    (hout : ∀ x ∈ c.exceptionTable.toList, covers x (pc + 10) = false)
    (hRframes : names.length + 3 < R.frames) (hRlocals : (rest.map fun v => v.category).sum + (13 * (names.length + 1) + 43) ≤ R.locals) (hRcells : cells + 1 ≤ R.cells) (hRslots : slots + 6 ≤ R.slots) (hlocks : meth.locks = false)
    (hx : ∀ t : State, s.vm.Alike t.vm → H.size ≤ t.heap.size → (∀ q : Nat, q < H.size → t.heap[q]? = H[q]?) → XC cls s t)
    (hf : ∀ z ∈ locs, free z.base) (hc : cells + 1 ≤ mc) (hs : slots + 6 ≤ ms) :
    W p l e R s m args below meth c H locs cells slots (vx_MQ below Qc XC args s mc ms free) (F0 m pc ls rest) := by
  intro T hT X
  have htr : e.platform.stackTraces = false := (show e.platform.stackTraces = l.stackTraces by rw [X.admits.platform]).trans hl
  have Y := vx_rebase X (R' := { frames := R.frames, locals := R.locals, cells := 1, slots := 6 }) (Nat.le_refl _) (Nat.le_refl _) hRcells hRslots
  obtain ⟨s', hA⟩ : ∃ z, z = (T.setVm s.vm).setFrames (.invoking m args :: below) := ⟨_, rfl⟩
  rw [← hA] at Y
  have hvm : s'.vm = s.vm := by rw [hA]; rfl
  have hhp : s'.heap = H := by rw [hA]; exact hT
  have hW0 : s.WarmedH s'.vm := by rw [hvm]; exact State.WarmedH.refl s
  have hat' : ∀ w ∈ vx_atS own ic cls names, w.before args s' = true := fun w hw => vx_ot_at hW0 hvm.symm (hgood w (List.mem_cons_of_mem _ (List.mem_cons_of_mem _ hw))) (hat w hw)
  have hk' : (Cond.classLink own ik cls).before args s' = true := vx_ot_at hW0 hvm.symm (hgood _ List.mem_cons_self) hk
  have hini' : (Cond.initialized cls).before args s' = true := vx_ot_at hW0 hvm.symm (hgood _ (List.mem_cons_of_mem _ List.mem_cons_self)) hini
  have hU' : vx_Zq Bundle.tN "UNASSIGNED_STACK" Bundle.steD A s' s'.heap := by rw [hhp]; exact vx_Zq.moved hW0.alike (hU.kept hS.2.1)
  have hN' : vx_Zq Bundle.tN "SUPPRESSED_SENTINEL" Bundle.listD A s' s'.heap := by rw [hhp]; exact vx_Zq.moved hW0.alike (hN.kept hS.2.1)
  have h : ∀ w ∈ Bundle.ownAtoms own ic cls names, w.before args s' = true := vx_own hat' (vx_isRefq hU'.1) (vx_isRefq hN'.1) hU'.2.word hN'.2.word
  have hown' : s'.vm.findClass own = some m.cls := by rw [hvm]; exact hown
  have hins : (Cond.instantiable cls 6).before args s' = true := h _ (by simp [Bundle.ownAtoms])
  obtain ⟨vm₁, cX, kX, hfX, hkX, -, -, X₁, st1⟩ := Y.newCold hexec (own := own) (C := cls) (index := ik) (n := 6) hown' hk' hins hini'
    (g := F0 m pc ls rest) rfl (by rw [hb]; exact d0) (Nat.le_refl _) (Nat.le_refl _)
  generalize hT1 : (T.setVm vm₁).pushCell { cls := cX, slots := kX.instanceTypes.map defaultValue, vm := .none } = T1 at X₁ st1
  have hcat : (Value.ref T.heap.size).category = 1 := rfl
  have hcellA : T1.heap[T.heap.size]? = some (freshCell cX kX) := by rw [← hT1]; exact State.heap_pushCell_size _ _
  have d3' : decode c.code (pc + 3) = .ok (.dup, 1) := by rw [hb]; exact d3
  have d4' : decode c.code (pc + 4) = .ok (.ldc_w is, 3) := by rw [hb]; exact d4
  have hstr' : vk_R own is text sa s' := vk_R.warm hW0 hstr
  obtain ⟨U, hsteps, hrun, hend, hW, hsame, ce, hce, hO⟩ := X₁.ctorThrowS hexec htr (own := own) (cls := cls) (names := names) (ic := ic) hown' hcls hnames h (fun x hx => nomatch hx) hfX hkX hcellA (by rw [hhp, hT]; exact Nat.le_refl _) (msg := .ref sa) rfl
    (g := { method := m, pc := pc + 7, locals := ls, stack := .ref sa :: .ref T.heap.size :: .ref T.heap.size :: rest, locked := none }) rfl hsize rfl rfl (rest := rest) rfl
    (by rw [hb]; exact d7) (by rw [hb]; exact d10) hout hRframes (by simp only [List.map_cons, List.sum_cons, hcat]; omega) hlocks
  obtain ⟨f1, f2⟩ := vx_frame hsame
  rw [hhp] at f1 f2
  have hWs : s.WarmedH U.vm := State.WarmedH.trans hW0 hW
  have hcl : s.vm.findClass cls = some ce.cls := by
    have h9 := hO.cls
    rw [hvm] at h9
    exact h9
  have hall : s.sameButNew ({ U with vm := s.vm } : State) locs mc ms := by
    subst hA
    obtain ⟨e1, e2⟩ := hsame
    rw [State.setFrames_setFrames] at e1
    have h2 : (T.setVm s.vm).sameButNew ({ U with vm := s.vm } : State) [] (0 + 1) (0 + 6) := ⟨e1, e2⟩
    have h3 := X.same.trans h2
    rw [List.append_nil] at h3
    exact h3.mono hc hs
  refine ⟨U, ?_, .threw T.heap.size, hrun, hend, Or.inr ⟨T.heap.size, rfl, cls, ce, locs, hx U hWs.alike f1 (fun q hq => f2 q hq (fun z hz => nomatch hz)), hce, hO.vm, hcl, hWs, hall, hf⟩⟩
  refine st1 _ ?_
  show Steps p.tables e below (T1.setTop { method := m, pc := pc + 3, locals := ls, stack := .ref T.heap.size :: rest, locked := none }) _
  jvm_step X₁.here [X₁.here.top, hexec, d3', Value.category]
  exact X₁.ldcStringW hexec (own := own) (text := text) (index := is) (a := sa) hown' hstr'.1 hstr'.2
    (g := { method := m, pc := pc + 4, locals := ls, stack := .ref T.heap.size :: .ref T.heap.size :: rest, locked := none }) rfl d4' _ hsteps
end Ends
section Bodies
variable {l : Launch}
theorem vx_ofW {y : MethodName} {ws ws' : List Cond} {rm : Room} {Pc : Array Value → State → Prop} {Qc : Array Value → State → Outcome → State → Prop} {XC : String → State → State → Prop} {mc ms : Nat} {free : Addr → Prop} {cc : ByteArray} {maxL : Nat} {ret : Option FieldType}
    (hy : plainName y.cls = true) (hw : ws = Cond.code y cc maxL ret :: ws')
    (body : ∀ p e s m args below meth c s₁, BodyLoose p l y (headSpec ws rm) cc maxL ret e s m args below meth c s₁ → c.maxLocals = maxL → (∀ x ∈ c.exceptionTable.toList, False) → Pc args s →
      W p l e (headSpec ws rm).room s m args below meth c s.heap [] 0 0 (vx_MQ below Qc XC args s mc ms free) (entryFrame m args maxL)) : vx_Met l y ws rm Pc Qc XC mc ms free := by
  refine MetFree.of_bodyS (code := cc) (maxLocals := maxL) (ret := ret) hy ?_ ?_
  · intro args s m h hn
    obtain ⟨meth, c, h1, h2, h3, h4, h5, h6, -, -⟩ := Cond.code_spec hn (atoms_spec (ws := ws) h _ (by rw [hw]; exact List.mem_cons_self))
    exact ⟨meth, c, h1, h2, h3, h4, h5, h6⟩
  · intro p e s m args below meth c s₁ B hml hP _
    have hh0 : s₁.heap = s.heap := by rw [B.state]; rfl
    have ht : ∀ x ∈ c.exceptionTable.toList, False := by
      obtain ⟨meth9, c9, h1, h2, -, -, -, -, h7, -⟩ := Cond.code_spec B.named (atoms_spec (ws := ws) B.pre _ (by rw [hw]; exact List.mem_cons_self))
      cases Option.some.inj (h1.symm.trans B.method)
      cases Option.some.inj (h2.symm.trans (Stand.of_body B).code)
      intro x hx
      rw [Array.isEmpty_iff.mp h7] at hx
      cases hx
    obtain ⟨t, a1, o, b1, b2, b3⟩ := body p e s m args below meth c s₁ B hml ht hP s₁ hh0 (Stand.of_body B)
    exact ⟨t, o, a1, b1, b2, b3⟩
/-- the table of a body with handlers -/
theorem vx_table {p : Program} {x y : MethodName} {S : Spec} {cc bytes : ByteArray} {maxL maxL' : Nat} {ret ret' : Option FieldType} {e : Env} {s s₁ : State} {m : MethodId} {args : Array Value} {below : List Frame} {meth : Method} {c : Code} {hh : List (Nat × Nat × Nat × Nat)}
    (B : BodyLoose p l y S cc maxL ret e s m args below meth c s₁) (h : (Cond.codeWith y bytes maxL' ret' hh).before args s = true) : c.exceptionTable.toList = tableOf hh := by
  obtain ⟨m9, meth9, c9, hn9, h1, h2, -, -, h6, -⟩ := Cond.codeWith_spec h
  cases Option.some.inj (hn9.symm.trans B.named)
  cases Option.some.inj (h1.symm.trans B.method)
  cases Option.some.inj (h2.symm.trans (Stand.of_body B).code)
  rw [← h6, table_eq]
end Bodies
end VXA
/-! ===== END ===== -/
/-! ===== BEGIN a static call of a method with an exception table ===== -/
section VXS
variable {p : Program} {l : Launch} {e : Env} {R : Room} {s : State} {m : MethodId} {args : Array Value} {below : List Frame} {meth : Method} {c : Code} {T : State} {H : Heap} {locs : List Loc} {cells slots : Nat}
abbrev vx_CSW (R : Room) (s : State) (args : Array Value) (own : String) (index : Nat) (y : MethodName) (bytes : ByteArray) (maxL : Nat) (ret : Option FieldType) (hh : List (Nat × Nat × Nat × Nat)) (ws : List Cond) (rm : Room) (mc ms n : Nat) : Prop :=
  (rm.cells = mc ∧ rm.slots = ms ∧ rm.frames + 1 ≤ R.frames ∧ 8 + (maxL + 11) + rm.locals ≤ R.locals ∧ (∀ w ∈ ws, ∀ (a' : Array Value) (U : State), s.WarmedH U.vm → w.before a' U = true) ∧ Cond.codeWith y bytes maxL ret hh ∈ ws) ∧
  (Cond.codeWith y bytes maxL ret hh).before args s = true ∧ (Cond.initialized y.cls).before args s = true ∧ (y.cls ≠ "java/lang/invoke/MethodHandle" ∧ y.cls ≠ "java/lang/invoke/VarHandle") ∧
  (∀ sig, parseMethodDescriptor y.desc = some sig → n = sig.parameters.length) ∧ (Cond.methodLink own index y).before args s = true ∧ (Cond.static y).before args s = true
theorem vx_cwSW {own : String} {index maxL mc ms : Nat} {y : MethodName} {bytes : ByteArray} {ret : Option FieldType} {hh : List (Nat × Nat × Nat × Nat)} {Ts ws ws' : List Cond} {rm : Room} (n : Nat) (ht : ∀ w ∈ Ts, w.before args s = true) (hT : GoodIn Ts (va_wsS own index y ws)) (hw : ws = Cond.codeWith y bytes maxL ret hh :: ws') (hrc : rm.cells = mc) (hrs : rm.slots = ms)
    (hd : y.cls ≠ "java/lang/invoke/MethodHandle" ∧ y.cls ≠ "java/lang/invoke/VarHandle" ∧ (parseMethodDescriptor y.desc).map (fun d => d.parameters.length) = some n) (hR : rm.frames + 1 ≤ R.frames ∧ 8 + (maxL + 11) + rm.locals ≤ R.locals) :
    vx_CSW R s args own index y bytes maxL ret hh ws rm mc ms n := by
  have ok : ∀ w ∈ va_wsS own index y ws, w.before args s = true := fun w h => ht w (hT w h).1
  have hG : GoodIn Ts ws := fun w h => hT w (by unfold va_wsS; exact List.mem_append_right _ h)
  have hc : Cond.codeWith y bytes maxL ret hh ∈ ws := by rw [hw]; exact List.mem_cons_self
  refine ⟨⟨hrc, hrs, hR.1, hR.2, pay_in ht hG, hc⟩, ht _ (hG _ hc).1, ok _ (by simp [va_wsS]), ⟨hd.1, hd.2.1⟩, fun sig h => ?_, ok _ (by simp [va_wsS]), ok _ (by simp [va_wsS])⟩
  have h2 := hd.2.2
  rw [h] at h2
  exact (Option.some.inj h2).symm
theorem vx_callSW (X : Stand p l e R s m args below meth c T locs cells slots) (hexec : p.tables.exec = Jvm.exec) {own : String} {index : Nat} {y : MethodName} {bytes : ByteArray} {maxL : Nat} {ret : Option FieldType} {hh : List (Nat × Nat × Nat × Nat)}
    (hown : s.vm.findClass own = some m.cls) (hlink : (Cond.methodLink own index y).before args s = true) (hstat : (Cond.static y).before args s = true) (hinit : (Cond.initialized y.cls).before args s = true)
    (hcode : (Cond.codeWith y bytes maxL ret hh).before args s = true) (hy : y.cls ≠ "java/lang/invoke/MethodHandle" ∧ y.cls ≠ "java/lang/invoke/VarHandle")
    {W9 : Nat} {Pre : Pt → Array Value → Prop} {Post : Pt → Array Value → Option Value → Pt → Prop} (hK : Back l R p e below s args y 3 W9 Pre Post)
    {g : JFrame} (hg : g.method = m) (hsize : g.locals.size = c.maxLocals) {argsL rest : List Value} (hlen : ∀ sig, parseMethodDescriptor y.desc = some sig → argsL.length = sig.parameters.length)
    (hstack : g.stack = argsL.reverse ++ rest) (hW : 2 * g.monitorRoom + (rest.map fun v => v.category).sum ≤ W9) (hdg : decode c.code g.pc = .ok (.invokestatic index, 3))
    (hpre : ∀ vm₁, s.WarmedH vm₁ → Pre ⟨T.setVm vm₁, locs, cells, slots⟩ argsL.toArray) :
    ∃ (v : Option Value) (vm₁ : Vm) (B : Pt), s.WarmedH vm₁ ∧ Stand p l e R s m args below meth c B.U B.locs B.cells B.slots ∧ Post ⟨T.setVm vm₁, locs, cells, slots⟩ argsL.toArray v B ∧
      ∀ target, Steps p.tables e below (B.U.setTop { g with pc := g.pc + 3, stack := v.toList ++ rest }) target → Steps p.tables e below (T.setTop g) target := by
  obtain ⟨mk, methM, cM, hnamed, hmethM, -, -, -, -, -, -, hsigM⟩ := Cond.codeWith_spec hcode
  have hstatic : methM.isStatic = true := Cond.static_spec hnamed hmethM hstat
  obtain ⟨kP, hkP, -⟩ := className_of_methodNamed hnamed
  have hinitP : kP.init = .initialized := Cond.initialized_spec (findClass_of_methodNamed hnamed) hkP hinit
  obtain ⟨vm₁, X₁, hstep₁⟩ := X.invokestatic hexec hown hlink hnamed hmethM hstatic hkP hinitP hy (g := g) hg (argsL := argsL) (rest := rest) (hlen _ hsigM) hstack hdg
  obtain ⟨v, B, X', hpost, hsteps⟩ := hK m meth c ⟨T.setVm vm₁, locs, cells, slots⟩ { g with stack := rest } (.invokestatic index) mk argsL.toArray X₁ hg hsize hdg hW (X₁.named hnamed) (hpre vm₁ X₁.warmed)
  exact ⟨v, vm₁, B, X₁.warmed, X', hpost, fun target h => hstep₁ _ fun acts => by rw [doInvoke_state]; exact hsteps.trans h⟩
theorem vx_runSW {y : MethodName} {bytes cc : ByteArray} {maxL nL mc ms n index : Nat} {ret : Option FieldType} {hh : List (Nat × Nat × Nat × Nat)} {ws : List Cond} {rm : Room} {Pc : Array Value → State → Prop} {Qc : Array Value → State → Outcome → State → Prop} {free : Addr → Prop} {Ts : List Cond} {own : String} {As rest : List Value} {g : JFrame}
    (S : CallFix p m c cc nL s args Ts own) (hM : Met l y ws rm Pc Qc mc ms free) (cw : vx_CSW R s args own index y bytes maxL ret hh ws rm mc ms n) (hp : PreS s H Pc As)
    (hg : g.method = m) (hn : As.length = n) (hsize : g.locals.size = nL) (hstack : g.stack = As.reverse ++ rest) (hW : 2 * g.monitorRoom + (rest.map fun v => v.category).sum ≤ 8) (hdg : decode cc g.pc = .ok (.invokestatic index, 3)) (hf : cells + mc ≤ R.cells ∧ slots + ms ≤ R.slots) :
    va_Run p l e R s m args below meth c H locs cells slots mc ms g rest (Qc As.toArray) (free) := by
  obtain ⟨⟨hrc, hrs, hfr, hlo, hws, hcw⟩, hcode, hini, hy, hlen, hl, hstt⟩ := cw
  have hK : Back l R p e below s args y 3 8 (PreOf R mc ms Pc) (PostOf Qc mc ms free) := va_backW (hh := hh) (bytes := bytes) (maxL := maxL) (ret := ret) hM hp.1 hrc hrs hfr hlo hws hcw (fun a' U hW => word_at hW (Or.inl (by first | rfl | simp [Cond.onTables, Cond.keeps, Cond.steady])) hini)
  obtain ⟨hx, hb, hml, ho, -⟩ := S
  intro T hT X
  obtain ⟨v, vm₁, ⟨U', l2, c2, s2⟩, hW₁, X', ⟨g', mk, t, L, e1, e2, hq, h1, hL, h2, h3⟩, st⟩ := vx_callSW X hx (hh := hh) (bytes := bytes) (maxL := maxL) (ret := ret) ho hl hstt hini hcode hy hK hg (hsize.trans hml.symm) (argsL := As) (rest := rest) (fun sig h => hn.trans (hlen sig h)) hstack hW (by rw [hb]; exact hdg)
    (fun vm₁ hW₁ => ⟨hf.1, hf.2, hp.2 (T.setVm vm₁) hT hW₁⟩)
  dsimp only [Pt.U, Pt.locs, Pt.cells, Pt.slots] at X' e1 e2 h1 h2 h3 st
  subst h1; subst h2; subst h3
  exact ⟨v, (T.setVm vm₁).calling g' mk As.toArray, t, U', L, hT, X', hL, e1, e2, hq, st⟩
/-- a thing of a world lies in the heap -/
theorem vx_lt {D : va_G} {cl : List vw_C} {ws : va_W} {H1 : Heap} (h : va_P D cl ws H1) {k : Nat} {q : Nat × va_E} (hk : ws[k]? = some q) : q.1 < H1.size := (h k q hk).lt
end VXS
/-! ===== END ===== -/
/-! ===== BEGIN methods with a table of their own: called by a name, returning or throwing ===== -/
section VXH
/-! vx_backW, vx_callVX, vx_callSX, vx_callVW, vx_runVW, vx_runVX, vx_runSX, vx_ofWH follow the same proofs as their sisters above (Free/Laws.lean, Shelf42/LK1.lean); vx_outP calls Shelf42/NT130.lean (outThrough). -/
section
variable {l : Launch} {R : Room} {p : Program} {e : Env} {below : List Frame} {s : State} {sargs : Array Value} {y : MethodName} {len W9 : Nat}
theorem vx_backW {ws : List Cond} {rm : Room} {Pc : Array Value → State → Prop} {Qc : Array Value → State → Outcome → State → Prop} {XC : String → State → State → Prop} {mc ms : Nat} {free : Addr → Prop} {bytes : ByteArray} {maxL : Nat} {ret : Option FieldType} {hh : List (Nat × Nat × Nat × Nat)}
    (hM : vx_Met l y ws rm Pc Qc XC mc ms free) (hblind : FrameBlind Pc) (hrc : rm.cells = mc) (hrs : rm.slots = ms)
    (hframes : rm.frames + 1 ≤ R.frames) (hlocals : W9 + (maxL + 11) + rm.locals ≤ R.locals)
    (hws : ∀ w ∈ ws, ∀ a' U, s.WarmedH U.vm → w.before a' U = true) (hcode : Cond.codeWith y bytes maxL ret hh ∈ ws) (hinit : ∀ a' U, s.WarmedH U.vm → (Cond.initialized y.cls).before a' U = true) :
    vx_Back l R p e below s sargs y len W9 (PreOf R mc ms Pc) (PostOf Qc mc ms free) (vx_Post XC mc ms free) := by
  intro m meth c A g ig mk a X hg hsize hdg hW hn hp
  have h1 : (headSpec ws rm).pre.before a A.U = true := atoms_intro fun w hw => hws w hw _ _ X.warmed
  have h2 : (Cond.codeWith y bytes maxL ret hh).before a A.U = true := hws _ hcode _ _ X.warmed
  have h3 : (Cond.initialized y.cls).before a A.U = true := hinit _ _ X.warmed
  have h4 : A.cells + (headSpec ws rm).room.cells ≤ R.cells := by rw [show (headSpec ws rm).room.cells = mc from hrc]; exact hp.1
  have h5 : A.slots + (headSpec ws rm).room.slots ≤ R.slots := by rw [show (headSpec ws rm).room.slots = ms from hrs]; exact hp.2.1
  have hPc : Pc a (A.U.calling g mk a) := hblind _ _ _ _ hp.2.2
  obtain ⟨U, Ls, c0, s0⟩ := A
  dsimp only [Pt.U, Pt.locs, Pt.cells, Pt.slots] at h1 h2 h3 h4 h5 X hn hPc ⊢
  obtain ⟨m9, methY, cY, hn9, hmY, hcY, -, hlY, -⟩ := Cond.codeWith_spec h2
  cases Option.some.inj (hn9.symm.trans hn)
  obtain ⟨kY, hkY, -⟩ := className_of_methodNamed hn
  have hinitY : kY.init = .initialized := Cond.initialized_spec (findClass_of_methodNamed hn) hkY h3
  have h : At U g.method c below := by rw [hg]; exact X.here
  have hlocals9 : W9 + (maxL + 11) + (headSpec ws rm).room.locals ≤ R.locals := hlocals
  have happ : (headSpec ws rm).appliesLoose y e.platform (U.calling g mk a) = true :=
    Spec.appliesLoose_calling (g := g) h hdg hn hkY hinitY
      (X.room_calling (g := g) (R' := (headSpec ws rm).room) hsize hmY hcY hframes (by rw [hlY]; omega) h4 h5) h1
  obtain ⟨mid, hmid⟩ := h.above
  have hfr : (U.setTop g).frames = (.java g :: mid) ++ below := by rw [State.frames_setTop' g h.top, hmid]; rfl
  obtain ⟨o, s₂, hsteps, -, hend, hq⟩ := Steps.callFree hM p X.admits X.cas X.clock (acts := []) hfr happ hPc trivial
  have hq' : vx_Q Qc XC mc ms free a (U.calling g mk a) o s₂ := hq
  rw [State.frames_setTop' g h.top] at hend
  obtain ⟨g₀, hg0⟩ := Option.isSome_iff_exists.mp h.top
  obtain ⟨r, hr⟩ := State.topJava?_eq_some.mp hg0
  have hr' : (({ U with heap := s₂.heap, slotsUsed := s₂.slotsUsed } : State).setVm s₂.vm).frames = .java g₀ :: r := hr
  rcases hq' with ⟨hqc, L, hfe, hL⟩ | ⟨q, rfl, E, ce, L, hx, hce, hcv, hcl, hW₂, hsm, hL⟩
  · obtain ⟨⟨v, rfl⟩, hW₂, e2, q2, q3, q4, q5, q6⟩ := id hfe
    have e3 : s₂ = ({ (U.calling g mk a).setFrames s₂.frames with heap := s₂.heap, slotsUsed := s₂.slotsUsed } : State).setVm s₂.vm := by
      have : s₂ = ({ s₂ with vm := (U.calling g mk a).vm } : State).setVm s₂.vm := rfl
      rw [e2] at this
      exact this
    obtain ⟨c₂, i₂, len₂, hc₂, hd₂, hf₂⟩ := hend
    have hW' : U.WarmedH s₂.vm := hW₂
    have hcc : c₂ = c := by
      have h1 : s₂.code? g.method = U.code? g.method := by
        rw [State.code?_eq, State.code?_eq, hW'.alike.method?]
      exact Option.some.inj (hc₂.symm.trans (h1.trans h.code))
    subst hcc
    have hlen : len₂ = len := by rw [hdg] at hd₂; cases hd₂; rfl
    subst hlen
    have hs₂ : s₂ = (({ U with heap := s₂.heap, slotsUsed := s₂.slotsUsed } : State).setVm s₂.vm).setTop { g with pc := g.pc + len₂, stack := v.toList ++ g.stack } := by
      refine e3.trans ?_
      rw [hf₂, State.calling_eq h.top, State.setFrames_setFrames, State.setTop_of_frames _ hr', hr]
      rfl
    have hsame : U.sameButNew ({ U with heap := s₂.heap, slotsUsed := s₂.slotsUsed } : State) L mc ms := by
      refine ⟨?_, q2, q3, q4, q5, q6⟩
      obtain ⟨t, ht, -⟩ := State.frames_cons hr
      show ({ U with heap := s₂.heap, slotsUsed := s₂.slotsUsed } : State) = { U.setFrames U.frames with heap := s₂.heap, slotsUsed := s₂.slotsUsed }
      rw [State.setFrames_self ht]
    subst hg
    refine Or.inl ⟨v, ⟨(({ U with heap := s₂.heap, slotsUsed := s₂.slotsUsed } : State).setVm s₂.vm), Ls ++ L, c0 + mc, s0 + ms⟩,
      ⟨X.admits, X.cas, X.clock, X.frames, X.room, X.hears, X.method, X.code, (X.here.setHeapUsed s₂.heap s₂.slotsUsed).setVm hW'.alike, X.tail, State.WarmedH.trans X.warmed hW', X.limits, X.bytes, X.same.trans (hsame.setVm s.vm)⟩,
      ⟨g, mk, s₂, L, rfl, rfl, hqc, rfl, hL, rfl, rfl⟩, ?_⟩
    show Steps p.tables e below _ ((({ U with heap := s₂.heap, slotsUsed := s₂.slotsUsed } : State).setVm s₂.vm).setTop { g with pc := g.pc + len₂, stack := v.toList ++ g.stack })
    rw [← hs₂]
    exact hsteps
  · obtain ⟨e2, q2, q3, q4, q5, q6⟩ := id hsm
    have e3 : s₂ = ({ (U.calling g mk a).setFrames s₂.frames with heap := s₂.heap, slotsUsed := s₂.slotsUsed } : State).setVm s₂.vm := by
      have : s₂ = ({ s₂ with vm := (U.calling g mk a).vm } : State).setVm s₂.vm := rfl
      rw [e2] at this
      exact this
    have hf₂ : s₂.frames = .throwing q :: .java g :: U.frames.tail := hend
    have hW' : U.WarmedH s₂.vm := hW₂
    have hs₂ : s₂ = ((({ U with heap := s₂.heap, slotsUsed := s₂.slotsUsed } : State).setVm s₂.vm).setTop g).pushFrame (.throwing q) := by
      refine e3.trans ?_
      rw [hf₂, State.calling_eq h.top, State.setFrames_setFrames, State.pushFrame, State.frames_setTop _ hr', State.setTop_of_frames _ hr', State.setFrames_setFrames, hr]
      rfl
    have hsame : U.sameButNew ({ U with heap := s₂.heap, slotsUsed := s₂.slotsUsed } : State) L mc ms := by
      refine ⟨?_, q2, q3, q4, q5, q6⟩
      obtain ⟨t, ht, -⟩ := State.frames_cons hr
      show ({ U with heap := s₂.heap, slotsUsed := s₂.slotsUsed } : State) = { U.setFrames U.frames with heap := s₂.heap, slotsUsed := s₂.slotsUsed }
      rw [State.setFrames_self ht]
    subst hg
    refine Or.inr ⟨q, ⟨(({ U with heap := s₂.heap, slotsUsed := s₂.slotsUsed } : State).setVm s₂.vm), Ls ++ L, c0 + mc, s0 + ms⟩,
      ⟨X.admits, X.cas, X.clock, X.frames, X.room, X.hears, X.method, X.code, (X.here.setHeapUsed s₂.heap s₂.slotsUsed).setVm hW'.alike, X.tail, State.WarmedH.trans X.warmed hW', X.limits, X.bytes, X.same.trans (hsame.setVm s.vm)⟩,
      ⟨g, mk, s₂, L, E, ce, rfl, rfl, hx, hce, hcv, hcl, rfl, hL, rfl, rfl⟩, ?_⟩
    show Steps p.tables e below _ (((({ U with heap := s₂.heap, slotsUsed := s₂.slotsUsed } : State).setVm s₂.vm).setTop g).pushFrame (.throwing q))
    rw [← hs₂]
    exact hsteps
end
variable {p : Program} {l : Launch} {e : Env} {R : Room} {s : State} {m : MethodId} {args : Array Value} {below : List Frame} {meth : Method} {c : Code} {T : State} {H : Heap} {locs : List Loc} {cells slots : Nat}
theorem vx_callVX (X : Stand p l e R s m args below meth c T locs cells slots) (hexec : p.tables.exec = Jvm.exec) {own C : String} {index : Nat} {y : MethodName} {bytes : ByteArray} {maxL : Nat} {ret : Option FieldType} {hh : List (Nat × Nat × Nat × Nat)}
    (hown : s.vm.findClass own = some m.cls) (hlink : (Cond.methodLink own index y).before args s = true) (hinst : (Cond.instanceMethod y).before args s = true) (hsel : (Cond.selects C y y).before args s = true)
    (hcode : (Cond.codeWith y bytes maxL ret hh).before args s = true) (hy : y.cls ≠ "java/lang/invoke/MethodHandle" ∧ y.cls ≠ "java/lang/invoke/VarHandle")
    {W9 : Nat} {Pre : Pt → Array Value → Prop} {Post : Pt → Array Value → Option Value → Pt → Prop} {PostX : Pt → Array Value → Addr → Pt → Prop} (hK : vx_Back l R p e below s args y 3 W9 Pre Post PostX)
    {b : Addr} {cellB : Cell} (hcell : T.heap[b]? = some cellB) (hobj : cellB.vm.isStatics = false) (hcls : s.vm.findClass C = some cellB.cls)
    {g : JFrame} (hg : g.method = m) (hsize : g.locals.size = c.maxLocals) {argsL rest : List Value} (hlen : ∀ sig, parseMethodDescriptor y.desc = some sig → argsL.length = sig.parameters.length)
    (hstack : g.stack = argsL.reverse ++ .ref b :: rest) (hW : 2 * g.monitorRoom + (rest.map fun v => v.category).sum ≤ W9) (hdg : decode c.code g.pc = .ok (.invokevirtual index, 3))
    (hpre : ∀ vm₁, s.WarmedH vm₁ → Pre ⟨T.setVm vm₁, locs, cells, slots⟩ (Value.ref b :: argsL).toArray) :
    (∃ (v : Option Value) (vm₁ : Vm) (B : Pt), s.WarmedH vm₁ ∧ Stand p l e R s m args below meth c B.U B.locs B.cells B.slots ∧ Post ⟨T.setVm vm₁, locs, cells, slots⟩ (Value.ref b :: argsL).toArray v B ∧
      ∀ target, Steps p.tables e below (B.U.setTop { g with pc := g.pc + 3, stack := v.toList ++ rest }) target → Steps p.tables e below (T.setTop g) target) ∨
    (∃ (q : Addr) (vm₁ : Vm) (B : Pt), s.WarmedH vm₁ ∧ Stand p l e R s m args below meth c B.U B.locs B.cells B.slots ∧ PostX ⟨T.setVm vm₁, locs, cells, slots⟩ (Value.ref b :: argsL).toArray q B ∧
      Steps p.tables e below (T.setTop g) ((B.U.setTop { g with stack := rest }).pushFrame (.throwing q))) := by
  obtain ⟨mk, methM, hnamed, hmethM, hstM, habM⟩ := Cond.instanceMethod_spec hinst
  obtain ⟨m8, methM', cM, hn8, hmethM', -, -, -, -, -, -, hsigM⟩ := Cond.codeWith_spec hcode
  cases Option.some.inj (hn8.symm.trans hnamed)
  cases hmethM.symm.trans hmethM'
  obtain ⟨c2, r2, m2, q1, q2, q3, q4, kP, hkP, hkPi⟩ := Cond.selects_spec hsel
  cases hcls.symm.trans q1
  cases (State.methodFound?_of_named hnamed hy).symm.trans q2
  cases hnamed.symm.trans q3
  have hselP : selectMethod e.platform s.vm cellB.cls mk = .method mk := by rw [Launch.admits_selectMethod X.admits]; exact q4
  obtain ⟨vm₁, X₁, hstep₁⟩ := X.invokevirtual hexec hown hlink hnamed hmethM hstM hkP hkPi hy (a := b) (cell := cellB) hcell
    (fun z h => by rw [h] at hobj; cases hobj) hselP hmethM habM hkP hkPi (g := g) hg (argsL := argsL) (rest := rest) (hlen _ hsigM) hstack hdg
  rcases hK m meth c ⟨T.setVm vm₁, locs, cells, slots⟩ { g with stack := rest } (.invokevirtual index) mk (Value.ref b :: argsL).toArray X₁ hg hsize hdg hW (X₁.named hnamed) (hpre vm₁ X₁.warmed) with ⟨v, B, X', hpost, hsteps⟩ | ⟨q, B, X', hpost, hsteps⟩
  · exact Or.inl ⟨v, vm₁, B, X₁.warmed, X', hpost, fun target h => hstep₁ _ fun acts => by rw [doInvoke_state]; exact hsteps.trans h⟩
  · exact Or.inr ⟨q, vm₁, B, X₁.warmed, X', hpost, hstep₁ _ fun acts => by rw [doInvoke_state]; exact hsteps⟩
theorem vx_callSX (X : Stand p l e R s m args below meth c T locs cells slots) (hexec : p.tables.exec = Jvm.exec) {own : String} {index : Nat} {y : MethodName} {bytes : ByteArray} {maxL : Nat} {ret : Option FieldType} {hh : List (Nat × Nat × Nat × Nat)}
    (hown : s.vm.findClass own = some m.cls) (hlink : (Cond.methodLink own index y).before args s = true) (hstat : (Cond.static y).before args s = true) (hinit : (Cond.initialized y.cls).before args s = true)
    (hcode : (Cond.codeWith y bytes maxL ret hh).before args s = true) (hy : y.cls ≠ "java/lang/invoke/MethodHandle" ∧ y.cls ≠ "java/lang/invoke/VarHandle")
    {W9 : Nat} {Pre : Pt → Array Value → Prop} {Post : Pt → Array Value → Option Value → Pt → Prop} {PostX : Pt → Array Value → Addr → Pt → Prop} (hK : vx_Back l R p e below s args y 3 W9 Pre Post PostX)
    {g : JFrame} (hg : g.method = m) (hsize : g.locals.size = c.maxLocals) {argsL rest : List Value} (hlen : ∀ sig, parseMethodDescriptor y.desc = some sig → argsL.length = sig.parameters.length)
    (hstack : g.stack = argsL.reverse ++ rest) (hW : 2 * g.monitorRoom + (rest.map fun v => v.category).sum ≤ W9) (hdg : decode c.code g.pc = .ok (.invokestatic index, 3))
    (hpre : ∀ vm₁, s.WarmedH vm₁ → Pre ⟨T.setVm vm₁, locs, cells, slots⟩ argsL.toArray) :
    (∃ (v : Option Value) (vm₁ : Vm) (B : Pt), s.WarmedH vm₁ ∧ Stand p l e R s m args below meth c B.U B.locs B.cells B.slots ∧ Post ⟨T.setVm vm₁, locs, cells, slots⟩ argsL.toArray v B ∧
      ∀ target, Steps p.tables e below (B.U.setTop { g with pc := g.pc + 3, stack := v.toList ++ rest }) target → Steps p.tables e below (T.setTop g) target) ∨
    (∃ (q : Addr) (vm₁ : Vm) (B : Pt), s.WarmedH vm₁ ∧ Stand p l e R s m args below meth c B.U B.locs B.cells B.slots ∧ PostX ⟨T.setVm vm₁, locs, cells, slots⟩ argsL.toArray q B ∧
      Steps p.tables e below (T.setTop g) ((B.U.setTop { g with stack := rest }).pushFrame (.throwing q))) := by
  obtain ⟨mk, methM, cM, hnamed, hmethM, -, -, -, -, -, -, hsigM⟩ := Cond.codeWith_spec hcode
  have hstatic : methM.isStatic = true := Cond.static_spec hnamed hmethM hstat
  obtain ⟨kP, hkP, -⟩ := className_of_methodNamed hnamed
  have hinitP : kP.init = .initialized := Cond.initialized_spec (findClass_of_methodNamed hnamed) hkP hinit
  obtain ⟨vm₁, X₁, hstep₁⟩ := X.invokestatic hexec hown hlink hnamed hmethM hstatic hkP hinitP hy (g := g) hg (argsL := argsL) (rest := rest) (hlen _ hsigM) hstack hdg
  rcases hK m meth c ⟨T.setVm vm₁, locs, cells, slots⟩ { g with stack := rest } (.invokestatic index) mk argsL.toArray X₁ hg hsize hdg hW (X₁.named hnamed) (hpre vm₁ X₁.warmed) with ⟨v, B, X', hpost, hsteps⟩ | ⟨q, B, X', hpost, hsteps⟩
  · exact Or.inl ⟨v, vm₁, B, X₁.warmed, X', hpost, fun target h => hstep₁ _ fun acts => by rw [doInvoke_state]; exact hsteps.trans h⟩
  · exact Or.inr ⟨q, vm₁, B, X₁.warmed, X', hpost, hstep₁ _ fun acts => by rw [doInvoke_state]; exact hsteps⟩
theorem vx_callVW (X : Stand p l e R s m args below meth c T locs cells slots) (hexec : p.tables.exec = Jvm.exec) {own C : String} {index : Nat} {y : MethodName} {bytes : ByteArray} {maxL : Nat} {ret : Option FieldType} {hh : List (Nat × Nat × Nat × Nat)}
    (hown : s.vm.findClass own = some m.cls) (hlink : (Cond.methodLink own index y).before args s = true) (hinst : (Cond.instanceMethod y).before args s = true) (hsel : (Cond.selects C y y).before args s = true)
    (hcode : (Cond.codeWith y bytes maxL ret hh).before args s = true) (hy : y.cls ≠ "java/lang/invoke/MethodHandle" ∧ y.cls ≠ "java/lang/invoke/VarHandle")
    {W9 : Nat} {Pre : Pt → Array Value → Prop} {Post : Pt → Array Value → Option Value → Pt → Prop} (hK : Back l R p e below s args y 3 W9 Pre Post)
    {b : Addr} {cellB : Cell} (hcell : T.heap[b]? = some cellB) (hobj : cellB.vm.isStatics = false) (hcls : s.vm.findClass C = some cellB.cls)
    {g : JFrame} (hg : g.method = m) (hsize : g.locals.size = c.maxLocals) {argsL rest : List Value} (hlen : ∀ sig, parseMethodDescriptor y.desc = some sig → argsL.length = sig.parameters.length)
    (hstack : g.stack = argsL.reverse ++ .ref b :: rest) (hW : 2 * g.monitorRoom + (rest.map fun v => v.category).sum ≤ W9) (hdg : decode c.code g.pc = .ok (.invokevirtual index, 3))
    (hpre : ∀ vm₁, s.WarmedH vm₁ → Pre ⟨T.setVm vm₁, locs, cells, slots⟩ (Value.ref b :: argsL).toArray) :
    ∃ (v : Option Value) (vm₁ : Vm) (B : Pt), s.WarmedH vm₁ ∧ Stand p l e R s m args below meth c B.U B.locs B.cells B.slots ∧ Post ⟨T.setVm vm₁, locs, cells, slots⟩ (Value.ref b :: argsL).toArray v B ∧
      ∀ target, Steps p.tables e below (B.U.setTop { g with pc := g.pc + 3, stack := v.toList ++ rest }) target → Steps p.tables e below (T.setTop g) target := by
  obtain ⟨mk, methM, hnamed, hmethM, hstM, habM⟩ := Cond.instanceMethod_spec hinst
  obtain ⟨m8, methM', cM, hn8, hmethM', -, -, -, -, -, -, hsigM⟩ := Cond.codeWith_spec hcode
  cases Option.some.inj (hn8.symm.trans hnamed)
  cases hmethM.symm.trans hmethM'
  obtain ⟨c2, r2, m2, q1, q2, q3, q4, kP, hkP, hkPi⟩ := Cond.selects_spec hsel
  cases hcls.symm.trans q1
  cases (State.methodFound?_of_named hnamed hy).symm.trans q2
  cases hnamed.symm.trans q3
  have hselP : selectMethod e.platform s.vm cellB.cls mk = .method mk := by rw [Launch.admits_selectMethod X.admits]; exact q4
  obtain ⟨vm₁, X₁, hstep₁⟩ := X.invokevirtual hexec hown hlink hnamed hmethM hstM hkP hkPi hy (a := b) (cell := cellB) hcell
    (fun z h => by rw [h] at hobj; cases hobj) hselP hmethM habM hkP hkPi (g := g) hg (argsL := argsL) (rest := rest) (hlen _ hsigM) hstack hdg
  obtain ⟨v, B, X', hpost, hsteps⟩ := hK m meth c ⟨T.setVm vm₁, locs, cells, slots⟩ { g with stack := rest } (.invokevirtual index) mk (Value.ref b :: argsL).toArray X₁ hg hsize hdg hW (X₁.named hnamed) (hpre vm₁ X₁.warmed)
  exact ⟨v, vm₁, B, X₁.warmed, X', hpost, fun target h => hstep₁ _ fun acts => by rw [doInvoke_state]; exact hsteps.trans h⟩
abbrev vx_CVW (R : Room) (s : State) (args : Array Value) (own C : String) (index : Nat) (y : MethodName) (bytes : ByteArray) (maxL : Nat) (ret : Option FieldType) (hh : List (Nat × Nat × Nat × Nat)) (ws : List Cond) (rm : Room) (mc ms n : Nat) : Prop :=
  (rm.cells = mc ∧ rm.slots = ms ∧ rm.frames + 1 ≤ R.frames ∧ 8 + (maxL + 11) + rm.locals ≤ R.locals ∧ (∀ w ∈ ws, ∀ (a' : Array Value) (U : State), s.WarmedH U.vm → w.before a' U = true) ∧ Cond.codeWith y bytes maxL ret hh ∈ ws) ∧
  (Cond.codeWith y bytes maxL ret hh).before args s = true ∧ (Cond.initialized y.cls).before args s = true ∧ (y.cls ≠ "java/lang/invoke/MethodHandle" ∧ y.cls ≠ "java/lang/invoke/VarHandle") ∧
  (∀ sig, parseMethodDescriptor y.desc = some sig → n = sig.parameters.length) ∧ (Cond.methodLink own index y).before args s = true ∧ (Cond.instanceMethod y).before args s = true ∧ (Cond.selects C y y).before args s = true
theorem vx_cwVW {own C : String} {index maxL mc ms : Nat} {y : MethodName} {bytes : ByteArray} {ret : Option FieldType} {hh : List (Nat × Nat × Nat × Nat)} {Ts ws ws' : List Cond} {rm : Room} (n : Nat) (ht : ∀ w ∈ Ts, w.before args s = true) (hT : GoodIn Ts (wsV own index C y ws)) (hw : ws = Cond.codeWith y bytes maxL ret hh :: ws') (hrc : rm.cells = mc) (hrs : rm.slots = ms)
    (hd : y.cls = C ∧ y.cls ≠ "java/lang/invoke/MethodHandle" ∧ y.cls ≠ "java/lang/invoke/VarHandle" ∧ (parseMethodDescriptor y.desc).map (fun d => d.parameters.length) = some n) (hR : rm.frames + 1 ≤ R.frames ∧ 8 + (maxL + 11) + rm.locals ≤ R.locals) :
    vx_CVW R s args own C index y bytes maxL ret hh ws rm mc ms n := by
  obtain ⟨hC, hd⟩ := hd
  subst hC
  have ok : ∀ w ∈ wsV own index y.cls y ws, w.before args s = true := fun w h => ht w (hT w h).1
  have hG : GoodIn Ts ws := fun w h => hT w (by unfold wsV; exact List.mem_append_right _ h)
  have hc : Cond.codeWith y bytes maxL ret hh ∈ ws := by rw [hw]; exact List.mem_cons_self
  refine ⟨⟨hrc, hrs, hR.1, hR.2, pay_in ht hG, hc⟩, ht _ (hG _ hc).1, ok _ (by simp [wsV]), ⟨hd.1, hd.2.1⟩, fun sig h => ?_, ok _ (by simp [wsV]), ok _ (by simp [wsV]), ok _ (by simp [wsV])⟩
  have h2 := hd.2.2
  rw [h] at h2
  exact (Option.some.inj h2).symm
theorem vx_runVW {y : MethodName} {bytes cc : ByteArray} {maxL nL mc ms n index : Nat} {ret : Option FieldType} {hh : List (Nat × Nat × Nat × Nat)} {ws : List Cond} {rm : Room} {Pc : Array Value → State → Prop} {Qc : Array Value → State → Outcome → State → Prop} {free : Addr → Prop} {Ts : List Cond} {own C : String} {b : Addr} {As rest : List Value} {g : JFrame}
    (S : CallFix p m c cc nL s args Ts own) (hM : Met l y ws rm Pc Qc mc ms free) (cw : vx_CVW R s args own C index y bytes maxL ret hh ws rm mc ms n) (hp : PreV s H C b Pc As)
    (hg : g.method = m) (hn : As.length = n) (hsize : g.locals.size = nL) (hstack : g.stack = As.reverse ++ .ref b :: rest) (hW : 2 * g.monitorRoom + (rest.map fun v => v.category).sum ≤ 8) (hdg : decode cc g.pc = .ok (.invokevirtual index, 3)) (hf : cells + mc ≤ R.cells ∧ slots + ms ≤ R.slots) :
    va_Run p l e R s m args below meth c H locs cells slots mc ms g rest (Qc (Value.ref b :: As).toArray) free := by
  obtain ⟨⟨hrc, hrs, hfr, hlo, hws, hcw⟩, hcode, hini, hy, hlen, hl, hin, hse⟩ := cw
  have hK : Back l R p e below s args y 3 8 (PreOf R mc ms Pc) (PostOf Qc mc ms free) := va_backW (hh := hh) (bytes := bytes) (maxL := maxL) (ret := ret) hM hp.1 hrc hrs hfr hlo hws hcw (fun a' U hW => word_at hW (Or.inl (by first | rfl | simp [Cond.onTables, Cond.keeps, Cond.steady])) hini)
  obtain ⟨hx, hb, hml, ho, -⟩ := S
  obtain ⟨-, ⟨cellB, hcB, hoB, hclB⟩, hPc⟩ := hp
  intro T hT X
  obtain ⟨v, vm₁, ⟨U', l2, c2, s2⟩, hW₁, X', ⟨g', mk, t, L, e1, e2, hq, h1, hL, h2, h3⟩, st⟩ := vx_callVW X hx (C := C) (hh := hh) (bytes := bytes) (maxL := maxL) (ret := ret) ho hl hin hse hcode hy hK (by rw [hT]; exact hcB) hoB hclB hg (hsize.trans hml.symm) (argsL := As) (rest := rest) (fun sig h => hn.trans (hlen sig h)) hstack hW (by rw [hb]; exact hdg)
    (fun vm₁ hW₁ => ⟨hf.1, hf.2, hPc (T.setVm vm₁) hT hW₁⟩)
  dsimp only [Pt.U, Pt.locs, Pt.cells, Pt.slots] at X' e1 e2 h1 h2 h3 st
  subst h1; subst h2; subst h3
  exact ⟨v, (T.setVm vm₁).calling g' mk (Value.ref b :: As).toArray, t, U', L, hT, X', hL, e1, e2, hq, st⟩
section
variable {y : MethodName} {bytes cc : ByteArray} {maxL nL mc ms n index : Nat} {ret : Option FieldType} {ws : List Cond} {rm : Room} {Pc : Array Value → State → Prop} {Qc : Array Value → State → Outcome → State → Prop} {XC : String → State → State → Prop} {free : Addr → Prop} {Ts : List Cond} {own C : String} {b : Addr} {As rest : List Value} {g : JFrame}
theorem vx_runVX {hh : List (Nat × Nat × Nat × Nat)} (S : CallFix p m c cc nL s args Ts own) (hM : vx_Met l y ws rm Pc Qc XC mc ms free) (cw : vx_CVW R s args own C index y bytes maxL ret hh ws rm mc ms n) (hp : PreV s H C b Pc As)
    (hg : g.method = m) (hn : As.length = n) (hsize : g.locals.size = nL) (hstack : g.stack = As.reverse ++ .ref b :: rest) (hW : 2 * g.monitorRoom + (rest.map fun v => v.category).sum ≤ 8) (hdg : decode cc g.pc = .ok (.invokevirtual index, 3)) (hf : cells + mc ≤ R.cells ∧ slots + ms ≤ R.slots) :
    vx_Run p l e R s m args below meth c H locs cells slots mc ms g rest (Qc (Value.ref b :: As).toArray) XC free := by
  obtain ⟨⟨hrc, hrs, hfr, hlo, hws, hcw⟩, hcode, hini, hy, hlen, hl, hin, hse⟩ := cw
  have hK : vx_Back l R p e below s args y 3 8 (PreOf R mc ms Pc) (PostOf Qc mc ms free) (vx_Post XC mc ms free) := vx_backW (hh := hh) (bytes := bytes) (maxL := maxL) (ret := ret) hM hp.1 hrc hrs hfr hlo hws hcw (fun a' U hW => word_at hW (Or.inl (by first | rfl | simp [Cond.onTables, Cond.keeps, Cond.steady])) hini)
  obtain ⟨hx, hb, hml, ho, -⟩ := S
  obtain ⟨-, ⟨cellB, hcB, hoB, hclB⟩, hPc⟩ := hp
  intro T hT X
  rcases vx_callVX X hx (C := C) (hh := hh) (bytes := bytes) (maxL := maxL) (ret := ret) ho hl hin hse hcode hy hK (by rw [hT]; exact hcB) hoB hclB hg (hsize.trans hml.symm) (argsL := As) (rest := rest) (fun sig h => hn.trans (hlen sig h)) hstack hW (by rw [hb]; exact hdg)
    (fun vm₁ hW₁ => ⟨hf.1, hf.2, hPc (T.setVm vm₁) hT hW₁⟩) with ⟨v, vm₁, ⟨U', l2, c2, s2⟩, hW₁, X', ⟨g', mk, t, L, e1, e2, hq, h1, hL, h2, h3⟩, st⟩ | ⟨q, vm₁, ⟨U', l2, c2, s2⟩, hW₁, X', ⟨g', mk, t, L, E, ce, e1, e2, hq, hce, hcv, hcl, h1, hL, h2, h3⟩, st⟩
  · dsimp only [Pt.U, Pt.locs, Pt.cells, Pt.slots] at X' e1 e2 h1 h2 h3 st
    subst h1; subst h2; subst h3
    exact Or.inl ⟨v, (T.setVm vm₁).calling g' mk (Value.ref b :: As).toArray, t, U', L, hT, X', hL, e1, e2, hq, st⟩
  · dsimp only [Pt.U, Pt.locs, Pt.cells, Pt.slots] at X' e1 e2 h1 h2 h3 st hcl
    subst h1; subst h2; subst h3
    exact Or.inr ⟨q, (T.setVm vm₁).calling g' mk (Value.ref b :: As).toArray, t, U', L, E, ce, hT, X', hL, e1, e2, hq, hce, hcv, vx_cls hW₁ hcl, st⟩
theorem vx_runSX {hh : List (Nat × Nat × Nat × Nat)} (S : CallFix p m c cc nL s args Ts own) (hM : vx_Met l y ws rm Pc Qc XC mc ms free) (cw : vx_CSW R s args own index y bytes maxL ret hh ws rm mc ms n) (hp : PreS s H Pc As)
    (hg : g.method = m) (hn : As.length = n) (hsize : g.locals.size = nL) (hstack : g.stack = As.reverse ++ rest) (hW : 2 * g.monitorRoom + (rest.map fun v => v.category).sum ≤ 8) (hdg : decode cc g.pc = .ok (.invokestatic index, 3)) (hf : cells + mc ≤ R.cells ∧ slots + ms ≤ R.slots) :
    vx_Run p l e R s m args below meth c H locs cells slots mc ms g rest (Qc As.toArray) XC free := by
  obtain ⟨⟨hrc, hrs, hfr, hlo, hws, hcw⟩, hcode, hini, hy, hlen, hl, hstt⟩ := cw
  have hK : vx_Back l R p e below s args y 3 8 (PreOf R mc ms Pc) (PostOf Qc mc ms free) (vx_Post XC mc ms free) := vx_backW (hh := hh) (bytes := bytes) (maxL := maxL) (ret := ret) hM hp.1 hrc hrs hfr hlo hws hcw (fun a' U hW => word_at hW (Or.inl (by first | rfl | simp [Cond.onTables, Cond.keeps, Cond.steady])) hini)
  obtain ⟨hx, hb, hml, ho, -⟩ := S
  intro T hT X
  rcases vx_callSX X hx (hh := hh) (bytes := bytes) (maxL := maxL) (ret := ret) ho hl hstt hini hcode hy hK hg (hsize.trans hml.symm) (argsL := As) (rest := rest) (fun sig h => hn.trans (hlen sig h)) hstack hW (by rw [hb]; exact hdg)
    (fun vm₁ hW₁ => ⟨hf.1, hf.2, hp.2 (T.setVm vm₁) hT hW₁⟩) with ⟨v, vm₁, ⟨U', l2, c2, s2⟩, hW₁, X', ⟨g', mk, t, L, e1, e2, hq, h1, hL, h2, h3⟩, st⟩ | ⟨q, vm₁, ⟨U', l2, c2, s2⟩, hW₁, X', ⟨g', mk, t, L, E, ce, e1, e2, hq, hce, hcv, hcl, h1, hL, h2, h3⟩, st⟩
  · dsimp only [Pt.U, Pt.locs, Pt.cells, Pt.slots] at X' e1 e2 h1 h2 h3 st
    subst h1; subst h2; subst h3
    exact Or.inl ⟨v, (T.setVm vm₁).calling g' mk As.toArray, t, U', L, hT, X', hL, e1, e2, hq, st⟩
  · dsimp only [Pt.U, Pt.locs, Pt.cells, Pt.slots] at X' e1 e2 h1 h2 h3 st hcl
    subst h1; subst h2; subst h3
    exact Or.inr ⟨q, (T.setVm vm₁).calling g' mk As.toArray, t, U', L, E, ce, hT, X', hL, e1, e2, hq, hce, hcv, vx_cls hW₁ hcl, st⟩
end
end VXH
theorem vx_ofWH {l : Launch} {y : MethodName} {ws ws' : List Cond} {rm : Room} {Pc : Array Value → State → Prop} {Qc : Array Value → State → Outcome → State → Prop} {XC : String → State → State → Prop} {mc ms : Nat} {free : Addr → Prop} {cc : ByteArray} {maxL : Nat} {ret : Option FieldType} {hh : List (Nat × Nat × Nat × Nat)}
    (hy : plainName y.cls = true) (hw : ws = Cond.codeWith y cc maxL ret hh :: ws')
    (body : ∀ p e s m args below meth c s₁, BodyLoose p l y (headSpec ws rm) cc maxL ret e s m args below meth c s₁ → c.maxLocals = maxL → Pc args s →
      W p l e (headSpec ws rm).room s m args below meth c s.heap [] 0 0 (vx_MQ below Qc XC args s mc ms free) (entryFrame m args maxL)) : vx_Met l y ws rm Pc Qc XC mc ms free := by
  refine MetFree.of_bodyS (code := cc) (maxLocals := maxL) (ret := ret) hy ?_ ?_
  · intro args s m h hn
    obtain ⟨m9, meth, c, hn9, h1, h2, h3, h4, -, h5, h6, -⟩ := Cond.codeWith_spec (atoms_spec (ws := ws) h _ (by rw [hw]; exact List.mem_cons_self))
    cases hn.symm.trans hn9
    exact ⟨meth, c, h1, h2, h3, h4, h5, h6⟩
  · intro p e s m args below meth c s₁ B hml hP _
    have hh0 : s₁.heap = s.heap := by rw [B.state]; rfl
    obtain ⟨t, a1, o, b1, b2, b3⟩ := body p e s m args below meth c s₁ B hml hP s₁ hh0 (Stand.of_body B)
    exact ⟨t, o, a1, b1, b2, b3⟩
/-! ===== END ===== -/
end
section
def RX0 : String := "PutWall$Order"
def TX0 : u_T := fun k => match k with
  | 0 => ("PutWall$Order", "number", "I", true)
  | 1 => ("PutWall$Order", "state", "I", false)
  | 2 => ("PutWall$Order", "place", "I", false)
  | 3 => ("PutWall$Order", "wanted", "[I", true)
  | 4 => ("PutWall$Order", "present", "[I", true)
  | _ => ("PutWall$Order", "deadline", "[I", true)
def tyX0 : Nat → FieldType := fun k => match k with
  | 0 => .int
  | 1 => .int
  | 2 => .int
  | 3 => .array .int
  | 4 => .array .int
  | _ => .array .int
abbrev wsX00 : List Cond := u_ws RX0 TX0 6
theorem nmX0 : ∀ a, a < 6 → ∀ b, b < 6 → a ≠ b → (TX0 a).2.1 ≠ (TX0 b).2.1 := by decide +kernel
theorem tyX0_ok : ∀ k, k < 6 → parseFieldDescriptor (TX0 k).2.2.1 = some (tyX0 k) := by decide +kernel
abbrev cX0_init : ByteArray := prog_2_method_1_code
def yX0_init : MethodName := ⟨RX0, "<init>", "(I)V"⟩
abbrev cX0_hasLine : ByteArray := prog_2_method_2_code
def yX0_hasLine : MethodName := ⟨RX0, "hasLine", "(I)Z"⟩
abbrev cX0_missing : ByteArray := prog_2_method_3_code
def yX0_missing : MethodName := ⟨RX0, "missing", "(I)I"⟩
abbrev cX0_givenUp : ByteArray := prog_2_method_4_code
def yX0_givenUp : MethodName := ⟨RX0, "givenUp", "(II)I"⟩
abbrev cX0_lineCount : ByteArray := prog_2_method_5_code
def yX0_lineCount : MethodName := ⟨RX0, "lineCount", "()I"⟩
abbrev cX0_allGivenUp : ByteArray := prog_2_method_6_code
def yX0_allGivenUp : MethodName := ⟨RX0, "allGivenUp", "(I)I"⟩
abbrev cX0_allWanted : ByteArray := prog_2_method_7_code
def yX0_allWanted : MethodName := ⟨RX0, "allWanted", "()I"⟩
abbrev cX0_allPresent : ByteArray := prog_2_method_8_code
def yX0_allPresent : MethodName := ⟨RX0, "allPresent", "()I"⟩
abbrev cX0_lacksNothing : ByteArray := prog_2_method_9_code
def yX0_lacksNothing : MethodName := ⟨RX0, "lacksNothing", "(I)Z"⟩
def RX1 : String := "PutWall"
def TX1 : u_T := fun k => match k with
  | 0 => ("PutWall", "orders", "[LPutWall$Order;", true)
  | 1 => ("PutWall", "orderCount", "I", false)
  | 2 => ("PutWall", "occupants", "[LPutWall$Order;", true)
  | 3 => ("PutWall", "dark", "[Z", true)
  | 4 => ("PutWall", "inTotes", "[I", true)
  | 5 => ("PutWall", "errorsOf", "[I", true)
  | 6 => ("PutWall", "today", "I", false)
  | _ => ("PutWall", "seedNow", "I", false)
def tyX1 : Nat → FieldType := fun k => match k with
  | 0 => .array (.object "PutWall$Order")
  | 1 => .int
  | 2 => .array (.object "PutWall$Order")
  | 3 => .array .boolean
  | 4 => .array .int
  | 5 => .array .int
  | 6 => .int
  | _ => .int
abbrev wsX10 : List Cond := u_ws RX1 TX1 8
theorem nmX1 : ∀ a, a < 8 → ∀ b, b < 8 → a ≠ b → (TX1 a).2.1 ≠ (TX1 b).2.1 := by decide +kernel
theorem tyX1_ok : ∀ k, k < 8 → parseFieldDescriptor (TX1 k).2.2.1 = some (tyX1 k) := by decide +kernel
abbrev cX1_init : ByteArray := prog_1_method_1_code
def yX1_init : MethodName := ⟨RX1, "<init>", "(I)V"⟩
abbrev cX1_tote : ByteArray := prog_1_method_2_code
def yX1_tote : MethodName := ⟨RX1, "tote", "(II)I"⟩
abbrev cX1_order : ByteArray := prog_1_method_3_code
def yX1_order : MethodName := ⟨RX1, "order", "()I"⟩
abbrev cX1_line : ByteArray := prog_1_method_4_code
def yX1_line : MethodName := ⟨RX1, "line", "(III)V"⟩
abbrev cX1_cell : ByteArray := prog_1_method_5_code
def yX1_cell : MethodName := ⟨RX1, "cell", "(I)I"⟩
abbrev cX1_light : ByteArray := prog_1_method_6_code
def yX1_light : MethodName := ⟨RX1, "light", "(IZ)Z"⟩
abbrev cX1_scan : ByteArray := prog_1_method_7_code
def yX1_scan : MethodName := ⟨RX1, "scan", "(III)I"⟩
abbrev cX1_undo : ByteArray := prog_1_method_8_code
def yX1_undo : MethodName := ⟨RX1, "undo", "(II)I"⟩
abbrev cX1_miss : ByteArray := prog_1_method_9_code
def yX1_miss : MethodName := ⟨RX1, "miss", "(III)I"⟩
abbrev cX1_day : ByteArray := prog_1_method_10_code
def yX1_day : MethodName := ⟨RX1, "day", "(I)V"⟩
abbrev cX1_change : ByteArray := prog_1_method_11_code
def yX1_change : MethodName := ⟨RX1, "change", "(III)Z"⟩
abbrev cX1_complete : ByteArray := prog_1_method_12_code
def yX1_complete : MethodName := ⟨RX1, "complete", "(I)Z"⟩
abbrev cX1_release : ByteArray := prog_1_method_13_code
def yX1_release : MethodName := ⟨RX1, "release", "(I)Z"⟩
abbrev cX1_sample : ByteArray := prog_1_method_14_code
def yX1_sample : MethodName := ⟨RX1, "sample", "()I"⟩
abbrev cX1_seed : ByteArray := prog_1_method_15_code
def yX1_seed : MethodName := ⟨RX1, "seed", "(I)V"⟩
abbrev cX1_told : ByteArray := prog_1_method_16_code
def yX1_told : MethodName := ⟨RX1, "told", "(II)I"⟩
abbrev cX1_piece : ByteArray := prog_1_method_17_code
def yX1_piece : MethodName := ⟨RX1, "piece", "(III)I"⟩
abbrev cX1_errors : ByteArray := prog_1_method_18_code
def yX1_errors : MethodName := ⟨RX1, "errors", "(I)I"⟩
abbrev cX1_count : ByteArray := prog_1_method_19_code
def yX1_count : MethodName := ⟨RX1, "count", "(I)I"⟩
abbrev cX1_existing : ByteArray := prog_1_method_20_code
def yX1_existing : MethodName := ⟨RX1, "existing", "(I)LPutWall$Order;"⟩
abbrev cX1_requireCell : ByteArray := prog_1_method_21_code
def yX1_requireCell : MethodName := ⟨RX1, "requireCell", "(I)V"⟩
abbrev cX1_requireRange : ByteArray := prog_1_method_22_code
def yX1_requireRange : MethodName := ⟨RX1, "requireRange", "(III)V"⟩
abbrev cX1_requireGood : ByteArray := prog_1_method_23_code
def yX1_requireGood : MethodName := ⟨RX1, "requireGood", "(I)V"⟩
abbrev cX1_requirePerson : ByteArray := prog_1_method_24_code
def yX1_requirePerson : MethodName := ⟨RX1, "requirePerson", "(I)V"⟩
abbrev cX1_requireLine : ByteArray := prog_1_method_25_code
def yX1_requireLine : MethodName := ⟨RX1, "requireLine", "(LPutWall$Order;I)V"⟩
abbrev cX1_requireState : ByteArray := prog_1_method_26_code
def yX1_requireState : MethodName := ⟨RX1, "requireState", "(Z)V"⟩
abbrev cX1_lowestUsableCell : ByteArray := prog_1_method_27_code
def yX1_lowestUsableCell : MethodName := ⟨RX1, "lowestUsableCell", "()I"⟩
abbrev cX1_put : ByteArray := prog_1_method_28_code
def yX1_put : MethodName := ⟨RX1, "put", "(LPutWall$Order;ZI)I"⟩
abbrev cX1_completeCount : ByteArray := prog_1_method_29_code
def yX1_completeCount : MethodName := ⟨RX1, "completeCount", "()I"⟩
abbrev cX1_completeByCell : ByteArray := prog_1_method_30_code
def yX1_completeByCell : MethodName := ⟨RX1, "completeByCell", "(I)I"⟩
abbrev cX1_freeCells : ByteArray := prog_1_method_31_code
def yX1_freeCells : MethodName := ⟨RX1, "freeCells", "()I"⟩
abbrev cX1_piecesInCells : ByteArray := prog_1_method_32_code
def yX1_piecesInCells : MethodName := ⟨RX1, "piecesInCells", "()I"⟩
abbrev cX1_sum : ByteArray := prog_1_method_33_code
def yX1_sum : MethodName := ⟨RX1, "sum", "([I)I"⟩
def RX2 : String := "PutWallModel"
def TX2 : u_T := fun k => match k with
  | 0 => ("PutWallModel", "cells", "I", true)
  | 1 => ("PutWallModel", "dark", "[Z", true)
  | 2 => ("PutWallModel", "inTotes", "[I", true)
  | 3 => ("PutWallModel", "orders", "I", false)
  | 4 => ("PutWallModel", "today", "I", false)
  | 5 => ("PutWallModel", "thrown", "I", false)
  | 6 => ("PutWallModel", "seed", "J", false)
  | 7 => ("PutWallModel", "state", "[I", true)
  | 8 => ("PutWallModel", "cellOf", "[I", true)
  | 9 => ("PutWallModel", "wants", "[I", true)
  | 10 => ("PutWallModel", "in", "[I", true)
  | 11 => ("PutWallModel", "last", "[I", true)
  | _ => ("PutWallModel", "errors", "[I", true)
def tyX2 : Nat → FieldType := fun k => match k with
  | 0 => .int
  | 1 => .array .boolean
  | 2 => .array .int
  | 3 => .int
  | 4 => .int
  | 5 => .int
  | 6 => .long
  | 7 => .array .int
  | 8 => .array .int
  | 9 => .array .int
  | 10 => .array .int
  | 11 => .array .int
  | _ => .array .int
abbrev wsX20 : List Cond := u_ws RX2 TX2 13
theorem nmX2 : ∀ a, a < 13 → ∀ b, b < 13 → a ≠ b → (TX2 a).2.1 ≠ (TX2 b).2.1 := by decide +kernel
theorem tyX2_ok : ∀ k, k < 13 → parseFieldDescriptor (TX2 k).2.2.1 = some (tyX2 k) := by decide +kernel
abbrev cX2_init : ByteArray := prog_4_method_1_code
def yX2_init : MethodName := ⟨RX2, "<init>", "(I)V"⟩
abbrev cX2_thrown : ByteArray := prog_4_method_2_code
def yX2_thrown : MethodName := ⟨RX2, "thrown", "()I"⟩
abbrev cX2_below : ByteArray := prog_4_method_3_code
def yX2_below : MethodName := ⟨RX2, "below", "(II)Z"⟩
abbrev cX2_hasLine : ByteArray := prog_4_method_4_code
def yX2_hasLine : MethodName := ⟨RX2, "hasLine", "(II)Z"⟩
abbrev cX2_linesOf : ByteArray := prog_4_method_5_code
def yX2_linesOf : MethodName := ⟨RX2, "linesOf", "(I)I"⟩
abbrev cX2_at : ByteArray := prog_4_method_6_code
def yX2_at : MethodName := ⟨RX2, "at", "(I)I"⟩
abbrev cX2_tote : ByteArray := prog_4_method_7_code
def yX2_tote : MethodName := ⟨RX2, "tote", "(II)I"⟩
abbrev cX2_order : ByteArray := prog_4_method_8_code
def yX2_order : MethodName := ⟨RX2, "order", "()I"⟩
abbrev cX2_line : ByteArray := prog_4_method_9_code
def yX2_line : MethodName := ⟨RX2, "line", "(III)V"⟩
abbrev cX2_cell : ByteArray := prog_4_method_10_code
def yX2_cell : MethodName := ⟨RX2, "cell", "(I)I"⟩
abbrev cX2_light : ByteArray := prog_4_method_11_code
def yX2_light : MethodName := ⟨RX2, "light", "(IZ)Z"⟩
abbrev cX2_reason : ByteArray := prog_4_method_12_code
def yX2_reason : MethodName := ⟨RX2, "reason", "(II)I"⟩
abbrev cX2_scan : ByteArray := prog_4_method_13_code
def yX2_scan : MethodName := ⟨RX2, "scan", "(III)I"⟩
abbrev cX2_undo : ByteArray := prog_4_method_14_code
def yX2_undo : MethodName := ⟨RX2, "undo", "(II)I"⟩
abbrev cX2_lineRefusal : ByteArray := prog_4_method_15_code
def yX2_lineRefusal : MethodName := ⟨RX2, "lineRefusal", "(II)I"⟩
abbrev cX2_missing : ByteArray := prog_4_method_16_code
def yX2_missing : MethodName := ⟨RX2, "missing", "(II)I"⟩
abbrev cX2_miss : ByteArray := prog_4_method_17_code
def yX2_miss : MethodName := ⟨RX2, "miss", "(III)I"⟩
abbrev cX2_day : ByteArray := prog_4_method_18_code
def yX2_day : MethodName := ⟨RX2, "day", "(I)V"⟩
abbrev cX2_change : ByteArray := prog_4_method_19_code
def yX2_change : MethodName := ⟨RX2, "change", "(III)Z"⟩
abbrev cX2_givenUp : ByteArray := prog_4_method_20_code
def yX2_givenUp : MethodName := ⟨RX2, "givenUp", "(II)Z"⟩
abbrev cX2_complete : ByteArray := prog_4_method_21_code
def yX2_complete : MethodName := ⟨RX2, "complete", "(I)Z"⟩
abbrev cX2_release : ByteArray := prog_4_method_22_code
def yX2_release : MethodName := ⟨RX2, "release", "(I)Z"⟩
abbrev cX2_sample : ByteArray := prog_4_method_23_code
def yX2_sample : MethodName := ⟨RX2, "sample", "()I"⟩
abbrev cX2_seed : ByteArray := prog_4_method_24_code
def yX2_seed : MethodName := ⟨RX2, "seed", "(I)V"⟩
abbrev cX2_told : ByteArray := prog_4_method_25_code
def yX2_told : MethodName := ⟨RX2, "told", "(II)I"⟩
abbrev cX2_piece : ByteArray := prog_4_method_26_code
def yX2_piece : MethodName := ⟨RX2, "piece", "(III)I"⟩
abbrev cX2_errors : ByteArray := prog_4_method_27_code
def yX2_errors : MethodName := ⟨RX2, "errors", "(I)I"⟩
abbrev cX2_count : ByteArray := prog_4_method_28_code
def yX2_count : MethodName := ⟨RX2, "count", "(I)I"⟩
def RJx00060 : String := "java/lang/ArrayIndexOutOfBoundsException"
def TJx00060 : u_T := fun k => match k with
  | 0 => ("java/lang/Throwable", "cause", "Ljava/lang/Throwable;", false)
  | 1 => ("java/lang/Throwable", "stackTrace", "[Ljava/lang/StackTraceElement;", false)
  | 2 => ("java/lang/Throwable", "suppressedExceptions", "Ljava/util/List;", false)
  | 3 => ("java/lang/Throwable", "detailMessage", "Ljava/lang/String;", false)
  | 4 => ("java/lang/Throwable", "backtrace", "Ljava/lang/Object;", false)
  | _ => ("java/lang/Throwable", "depth", "I", false)
def tyJx00060 : Nat → FieldType := fun k => match k with
  | 0 => .object "java/lang/Throwable"
  | 1 => .array (.object "java/lang/StackTraceElement")
  | 2 => .object "java/util/List"
  | 3 => .object "java/lang/String"
  | 4 => .object "java/lang/Object"
  | _ => .int
abbrev wsJx000600 : List Cond := u_ws RJx00060 TJx00060 6
theorem nmJx00060 : ∀ a, a < 6 → ∀ b, b < 6 → a ≠ b → (TJx00060 a).2.1 ≠ (TJx00060 b).2.1 := by decide +kernel
theorem tyJx00060_ok : ∀ k, k < 6 → parseFieldDescriptor (TJx00060 k).2.2.1 = some (tyJx00060 k) := by decide +kernel
abbrev cJx00060_init_a7421 : ByteArray := prog_5_method_2_code
def yJx00060_init_a7421 : MethodName := ⟨RJx00060, "<init>", "(Ljava/lang/String;)V"⟩
def RJ9 : String := "java/lang/Math"
def TJ9 : u_T := fun k => match k with
  | _ => ("", "", "", false)
def tyJ9 : Nat → FieldType := fun k => match k with
  | _ => .int
abbrev wsJ90 : List Cond := u_ws RJ9 TJ9 0
theorem nmJ9 : ∀ a, a < 0 → ∀ b, b < 0 → a ≠ b → (TJ9 a).2.1 ≠ (TJ9 b).2.1 := by decide +kernel
theorem tyJ9_ok : ∀ k, k < 0 → parseFieldDescriptor (TJ9 k).2.2.1 = some (tyJ9 k) := by decide +kernel
abbrev cJ9_max_7cf53 : ByteArray := prog_10_method_65_code
def yJ9_max_7cf53 : MethodName := ⟨RJ9, "max", "(II)I"⟩
abbrev cJ9_min_7cf53 : ByteArray := prog_10_method_69_code
def yJ9_min_7cf53 : MethodName := ⟨RJ9, "min", "(II)I"⟩
def RJ0 : String := "java/lang/String"
def TJ0 : u_T := fun k => match k with
  | _ => ("", "", "", false)
def tyJ0 : Nat → FieldType := fun k => match k with
  | _ => .int
abbrev wsJ00 : List Cond := u_ws RJ0 TJ0 0
theorem nmJ0 : ∀ a, a < 0 → ∀ b, b < 0 → a ≠ b → (TJ0 a).2.1 ≠ (TJ0 b).2.1 := by decide +kernel
theorem tyJ0_ok : ∀ k, k < 0 → parseFieldDescriptor (TJ0 k).2.2.1 = some (tyJ0 k) := by decide +kernel
def RJ7 : String := "java/util/Arrays"
def TJ7 : u_T := fun k => match k with
  | _ => ("", "", "", false)
def tyJ7 : Nat → FieldType := fun k => match k with
  | _ => .int
abbrev wsJ70 : List Cond := u_ws RJ7 TJ7 0
theorem nmJ7 : ∀ a, a < 0 → ∀ b, b < 0 → a ≠ b → (TJ7 a).2.1 ≠ (TJ7 b).2.1 := by decide +kernel
theorem tyJ7_ok : ∀ k, k < 0 → parseFieldDescriptor (TJ7 k).2.2.1 = some (tyJ7 k) := by decide +kernel
abbrev cJ7_fill_53178 : ByteArray := prog_15_method_103_code
def yJ7_fill_53178 : MethodName := ⟨RJ7, "fill", "([II)V"⟩
def RL : String := "PutWallLaw"
abbrev cL_cell : ByteArray := method_2_code
def yL_cell : MethodName := ⟨RL, "cell", "([II)I"⟩
abbrev cL_tote : ByteArray := method_3_code
def yL_tote : MethodName := ⟨RL, "tote", "(LPutWall;II[J)I"⟩
abbrev cL_order : ByteArray := method_4_code
def yL_order : MethodName := ⟨RL, "order", "(LPutWall;[J)I"⟩
abbrev cL_line : ByteArray := method_5_code
def yL_line : MethodName := ⟨RL, "line", "(LPutWall;III)I"⟩
abbrev cL_cell_ : ByteArray := method_6_code
def yL_cell_ : MethodName := ⟨RL, "cell", "(LPutWall;I[J)I"⟩
abbrev cL_light : ByteArray := method_7_code
def yL_light : MethodName := ⟨RL, "light", "(LPutWall;IZ[J)I"⟩
abbrev cL_scan : ByteArray := method_8_code
def yL_scan : MethodName := ⟨RL, "scan", "(LPutWall;III[J)I"⟩
abbrev cL_undo : ByteArray := method_9_code
def yL_undo : MethodName := ⟨RL, "undo", "(LPutWall;II[J)I"⟩
abbrev cL_miss : ByteArray := method_10_code
def yL_miss : MethodName := ⟨RL, "miss", "(LPutWall;III[J)I"⟩
abbrev cL_day : ByteArray := method_11_code
def yL_day : MethodName := ⟨RL, "day", "(LPutWall;I)I"⟩
abbrev cL_change : ByteArray := method_12_code
def yL_change : MethodName := ⟨RL, "change", "(LPutWall;III[J)I"⟩
abbrev cL_complete : ByteArray := method_13_code
def yL_complete : MethodName := ⟨RL, "complete", "(LPutWall;I[J)I"⟩
abbrev cL_release : ByteArray := method_14_code
def yL_release : MethodName := ⟨RL, "release", "(LPutWall;I[J)I"⟩
abbrev cL_seed : ByteArray := method_15_code
def yL_seed : MethodName := ⟨RL, "seed", "(LPutWall;I)I"⟩
abbrev cL_told : ByteArray := method_16_code
def yL_told : MethodName := ⟨RL, "told", "(LPutWall;II[J)I"⟩
abbrev cL_piece : ByteArray := method_17_code
def yL_piece : MethodName := ⟨RL, "piece", "(LPutWall;III[J)I"⟩
abbrev cL_errors : ByteArray := method_18_code
def yL_errors : MethodName := ⟨RL, "errors", "(LPutWall;I[J)I"⟩
abbrev cL_law : ByteArray := code
def yL_law : MethodName := ⟨RL, "law", "([I)Z"⟩
end
section
theorem dX0_init_0 : decode cX0_init 0 = .ok (.aload_n 0, 1) := by decide +kernel
theorem dX0_init_1 : decode cX0_init 1 = .ok (.invokespecial 3, 3) := by decide +kernel
theorem dX0_init_4 : decode cX0_init 4 = .ok (.aload_n 0, 1) := by decide +kernel
theorem dX0_init_5 : decode cX0_init 5 = .ok (.iconst 0, 1) := by decide +kernel
theorem dX0_init_6 : decode cX0_init 6 = .ok (.putfield 9, 3) := by decide +kernel
theorem dX0_init_9 : decode cX0_init 9 = .ok (.aload_n 0, 1) := by decide +kernel
theorem dX0_init_10 : decode cX0_init 10 = .ok (.iconst (-1), 1) := by decide +kernel
theorem dX0_init_11 : decode cX0_init 11 = .ok (.putfield 15, 3) := by decide +kernel
theorem dX0_init_14 : decode cX0_init 14 = .ok (.aload_n 0, 1) := by decide +kernel
theorem dX0_init_15 : decode cX0_init 15 = .ok (.bipush 10, 2) := by decide +kernel
theorem dX0_init_17 : decode cX0_init 17 = .ok (.newarray .int, 2) := by decide +kernel
theorem dX0_init_19 : decode cX0_init 19 = .ok (.putfield 18, 3) := by decide +kernel
theorem dX0_init_22 : decode cX0_init 22 = .ok (.aload_n 0, 1) := by decide +kernel
theorem dX0_init_23 : decode cX0_init 23 = .ok (.bipush 10, 2) := by decide +kernel
theorem dX0_init_25 : decode cX0_init 25 = .ok (.newarray .int, 2) := by decide +kernel
theorem dX0_init_27 : decode cX0_init 27 = .ok (.putfield 22, 3) := by decide +kernel
theorem dX0_init_30 : decode cX0_init 30 = .ok (.aload_n 0, 1) := by decide +kernel
theorem dX0_init_31 : decode cX0_init 31 = .ok (.bipush 10, 2) := by decide +kernel
theorem dX0_init_33 : decode cX0_init 33 = .ok (.newarray .int, 2) := by decide +kernel
theorem dX0_init_35 : decode cX0_init 35 = .ok (.putfield 25, 3) := by decide +kernel
theorem dX0_init_38 : decode cX0_init 38 = .ok (.aload_n 0, 1) := by decide +kernel
theorem dX0_init_39 : decode cX0_init 39 = .ok (.iload_n 1, 1) := by decide +kernel
theorem dX0_init_40 : decode cX0_init 40 = .ok (.putfield 28, 3) := by decide +kernel
theorem dX0_init_43 : decode cX0_init 43 = .ok (.aload_n 0, 1) := by decide +kernel
theorem dX0_init_44 : decode cX0_init 44 = .ok (.getfield 25, 3) := by decide +kernel
theorem dX0_init_47 : decode cX0_init 47 = .ok (.iconst (-1), 1) := by decide +kernel
theorem dX0_init_48 : decode cX0_init 48 = .ok (.invokestatic 31, 3) := by decide +kernel
theorem dX0_init_51 : decode cX0_init 51 = .ok (.return_, 1) := by decide +kernel
theorem dX0_hasLine_0 : decode cX0_hasLine 0 = .ok (.aload_n 0, 1) := by decide +kernel
theorem dX0_hasLine_1 : decode cX0_hasLine 1 = .ok (.getfield 18, 3) := by decide +kernel
theorem dX0_hasLine_4 : decode cX0_hasLine 4 = .ok (.iload_n 1, 1) := by decide +kernel
theorem dX0_hasLine_5 : decode cX0_hasLine 5 = .ok (.iaload, 1) := by decide +kernel
theorem dX0_hasLine_6 : decode cX0_hasLine 6 = .ok (.ifCond .le 7, 3) := by decide +kernel
theorem dX0_hasLine_9 : decode cX0_hasLine 9 = .ok (.iconst 1, 1) := by decide +kernel
theorem dX0_hasLine_10 : decode cX0_hasLine 10 = .ok (.goto 4, 3) := by decide +kernel
theorem dX0_hasLine_13 : decode cX0_hasLine 13 = .ok (.iconst 0, 1) := by decide +kernel
theorem dX0_hasLine_14 : decode cX0_hasLine 14 = .ok (.ireturn, 1) := by decide +kernel
theorem dX0_missing_0 : decode cX0_missing 0 = .ok (.aload_n 0, 1) := by decide +kernel
theorem dX0_missing_1 : decode cX0_missing 1 = .ok (.getfield 18, 3) := by decide +kernel
theorem dX0_missing_4 : decode cX0_missing 4 = .ok (.iload_n 1, 1) := by decide +kernel
theorem dX0_missing_5 : decode cX0_missing 5 = .ok (.iaload, 1) := by decide +kernel
theorem dX0_missing_6 : decode cX0_missing 6 = .ok (.aload_n 0, 1) := by decide +kernel
theorem dX0_missing_7 : decode cX0_missing 7 = .ok (.getfield 22, 3) := by decide +kernel
theorem dX0_missing_10 : decode cX0_missing 10 = .ok (.iload_n 1, 1) := by decide +kernel
theorem dX0_missing_11 : decode cX0_missing 11 = .ok (.iaload, 1) := by decide +kernel
theorem dX0_missing_12 : decode cX0_missing 12 = .ok (.isub, 1) := by decide +kernel
theorem dX0_missing_13 : decode cX0_missing 13 = .ok (.ireturn, 1) := by decide +kernel
theorem dX0_givenUp_0 : decode cX0_givenUp 0 = .ok (.aload_n 0, 1) := by decide +kernel
theorem dX0_givenUp_1 : decode cX0_givenUp 1 = .ok (.getfield 25, 3) := by decide +kernel
theorem dX0_givenUp_4 : decode cX0_givenUp 4 = .ok (.iload_n 1, 1) := by decide +kernel
theorem dX0_givenUp_5 : decode cX0_givenUp 5 = .ok (.iaload, 1) := by decide +kernel
theorem dX0_givenUp_6 : decode cX0_givenUp 6 = .ok (.iconst (-1), 1) := by decide +kernel
theorem dX0_givenUp_7 : decode cX0_givenUp 7 = .ok (.if_icmp .eq 21, 3) := by decide +kernel
theorem dX0_givenUp_10 : decode cX0_givenUp 10 = .ok (.iload_n 2, 1) := by decide +kernel
theorem dX0_givenUp_11 : decode cX0_givenUp 11 = .ok (.aload_n 0, 1) := by decide +kernel
theorem dX0_givenUp_12 : decode cX0_givenUp 12 = .ok (.getfield 25, 3) := by decide +kernel
theorem dX0_givenUp_15 : decode cX0_givenUp 15 = .ok (.iload_n 1, 1) := by decide +kernel
theorem dX0_givenUp_16 : decode cX0_givenUp 16 = .ok (.iaload, 1) := by decide +kernel
theorem dX0_givenUp_17 : decode cX0_givenUp 17 = .ok (.if_icmp .le 11, 3) := by decide +kernel
theorem dX0_givenUp_20 : decode cX0_givenUp 20 = .ok (.aload_n 0, 1) := by decide +kernel
theorem dX0_givenUp_21 : decode cX0_givenUp 21 = .ok (.iload_n 1, 1) := by decide +kernel
theorem dX0_givenUp_22 : decode cX0_givenUp 22 = .ok (.invokevirtual 37, 3) := by decide +kernel
theorem dX0_givenUp_25 : decode cX0_givenUp 25 = .ok (.goto 4, 3) := by decide +kernel
theorem dX0_givenUp_28 : decode cX0_givenUp 28 = .ok (.iconst 0, 1) := by decide +kernel
theorem dX0_givenUp_29 : decode cX0_givenUp 29 = .ok (.ireturn, 1) := by decide +kernel
theorem dX0_lineCount_0 : decode cX0_lineCount 0 = .ok (.iconst 0, 1) := by decide +kernel
theorem dX0_lineCount_1 : decode cX0_lineCount 1 = .ok (.istore_n 1, 1) := by decide +kernel
theorem dX0_lineCount_2 : decode cX0_lineCount 2 = .ok (.iconst 0, 1) := by decide +kernel
theorem dX0_lineCount_3 : decode cX0_lineCount 3 = .ok (.istore_n 2, 1) := by decide +kernel
theorem dX0_lineCount_4 : decode cX0_lineCount 4 = .ok (.iload_n 2, 1) := by decide +kernel
theorem dX0_lineCount_5 : decode cX0_lineCount 5 = .ok (.bipush 10, 2) := by decide +kernel
theorem dX0_lineCount_7 : decode cX0_lineCount 7 = .ok (.if_icmp .ge 20, 3) := by decide +kernel
theorem dX0_lineCount_10 : decode cX0_lineCount 10 = .ok (.aload_n 0, 1) := by decide +kernel
theorem dX0_lineCount_11 : decode cX0_lineCount 11 = .ok (.iload_n 2, 1) := by decide +kernel
theorem dX0_lineCount_12 : decode cX0_lineCount 12 = .ok (.invokevirtual 41, 3) := by decide +kernel
theorem dX0_lineCount_15 : decode cX0_lineCount 15 = .ok (.ifCond .eq 6, 3) := by decide +kernel
theorem dX0_lineCount_18 : decode cX0_lineCount 18 = .ok (.iinc 1 1, 3) := by decide +kernel
theorem dX0_lineCount_21 : decode cX0_lineCount 21 = .ok (.iinc 2 1, 3) := by decide +kernel
theorem dX0_lineCount_24 : decode cX0_lineCount 24 = .ok (.goto (-20), 3) := by decide +kernel
theorem dX0_lineCount_27 : decode cX0_lineCount 27 = .ok (.iload_n 1, 1) := by decide +kernel
theorem dX0_lineCount_28 : decode cX0_lineCount 28 = .ok (.ireturn, 1) := by decide +kernel
theorem dX0_allGivenUp_0 : decode cX0_allGivenUp 0 = .ok (.iconst 0, 1) := by decide +kernel
theorem dX0_allGivenUp_1 : decode cX0_allGivenUp 1 = .ok (.istore_n 2, 1) := by decide +kernel
theorem dX0_allGivenUp_2 : decode cX0_allGivenUp 2 = .ok (.iconst 0, 1) := by decide +kernel
theorem dX0_allGivenUp_3 : decode cX0_allGivenUp 3 = .ok (.istore_n 3, 1) := by decide +kernel
theorem dX0_allGivenUp_4 : decode cX0_allGivenUp 4 = .ok (.iload_n 3, 1) := by decide +kernel
theorem dX0_allGivenUp_5 : decode cX0_allGivenUp 5 = .ok (.bipush 10, 2) := by decide +kernel
theorem dX0_allGivenUp_7 : decode cX0_allGivenUp 7 = .ok (.if_icmp .ge 18, 3) := by decide +kernel
theorem dX0_allGivenUp_10 : decode cX0_allGivenUp 10 = .ok (.iload_n 2, 1) := by decide +kernel
theorem dX0_allGivenUp_11 : decode cX0_allGivenUp 11 = .ok (.aload_n 0, 1) := by decide +kernel
theorem dX0_allGivenUp_12 : decode cX0_allGivenUp 12 = .ok (.iload_n 3, 1) := by decide +kernel
theorem dX0_allGivenUp_13 : decode cX0_allGivenUp 13 = .ok (.iload_n 1, 1) := by decide +kernel
theorem dX0_allGivenUp_14 : decode cX0_allGivenUp 14 = .ok (.invokevirtual 45, 3) := by decide +kernel
theorem dX0_allGivenUp_17 : decode cX0_allGivenUp 17 = .ok (.iadd, 1) := by decide +kernel
theorem dX0_allGivenUp_18 : decode cX0_allGivenUp 18 = .ok (.istore_n 2, 1) := by decide +kernel
theorem dX0_allGivenUp_19 : decode cX0_allGivenUp 19 = .ok (.iinc 3 1, 3) := by decide +kernel
theorem dX0_allGivenUp_22 : decode cX0_allGivenUp 22 = .ok (.goto (-18), 3) := by decide +kernel
theorem dX0_allGivenUp_25 : decode cX0_allGivenUp 25 = .ok (.iload_n 2, 1) := by decide +kernel
theorem dX0_allGivenUp_26 : decode cX0_allGivenUp 26 = .ok (.ireturn, 1) := by decide +kernel
theorem dX0_allWanted_0 : decode cX0_allWanted 0 = .ok (.aload_n 0, 1) := by decide +kernel
theorem dX0_allWanted_1 : decode cX0_allWanted 1 = .ok (.getfield 18, 3) := by decide +kernel
theorem dX0_allWanted_4 : decode cX0_allWanted 4 = .ok (.invokestatic 49, 3) := by decide +kernel
theorem dX0_allWanted_7 : decode cX0_allWanted 7 = .ok (.ireturn, 1) := by decide +kernel
theorem dX0_allPresent_0 : decode cX0_allPresent 0 = .ok (.aload_n 0, 1) := by decide +kernel
theorem dX0_allPresent_1 : decode cX0_allPresent 1 = .ok (.getfield 22, 3) := by decide +kernel
theorem dX0_allPresent_4 : decode cX0_allPresent 4 = .ok (.invokestatic 49, 3) := by decide +kernel
theorem dX0_allPresent_7 : decode cX0_allPresent 7 = .ok (.ireturn, 1) := by decide +kernel
theorem dX0_lacksNothing_0 : decode cX0_lacksNothing 0 = .ok (.iconst 0, 1) := by decide +kernel
theorem dX0_lacksNothing_1 : decode cX0_lacksNothing 1 = .ok (.istore_n 2, 1) := by decide +kernel
theorem dX0_lacksNothing_2 : decode cX0_lacksNothing 2 = .ok (.iload_n 2, 1) := by decide +kernel
theorem dX0_lacksNothing_3 : decode cX0_lacksNothing 3 = .ok (.bipush 10, 2) := by decide +kernel
theorem dX0_lacksNothing_5 : decode cX0_lacksNothing 5 = .ok (.if_icmp .ge 25, 3) := by decide +kernel
theorem dX0_lacksNothing_8 : decode cX0_lacksNothing 8 = .ok (.aload_n 0, 1) := by decide +kernel
theorem dX0_lacksNothing_9 : decode cX0_lacksNothing 9 = .ok (.iload_n 2, 1) := by decide +kernel
theorem dX0_lacksNothing_10 : decode cX0_lacksNothing 10 = .ok (.invokevirtual 37, 3) := by decide +kernel
theorem dX0_lacksNothing_13 : decode cX0_lacksNothing 13 = .ok (.aload_n 0, 1) := by decide +kernel
theorem dX0_lacksNothing_14 : decode cX0_lacksNothing 14 = .ok (.iload_n 2, 1) := by decide +kernel
theorem dX0_lacksNothing_15 : decode cX0_lacksNothing 15 = .ok (.iload_n 1, 1) := by decide +kernel
theorem dX0_lacksNothing_16 : decode cX0_lacksNothing 16 = .ok (.invokevirtual 45, 3) := by decide +kernel
theorem dX0_lacksNothing_19 : decode cX0_lacksNothing 19 = .ok (.if_icmp .le 5, 3) := by decide +kernel
theorem dX0_lacksNothing_22 : decode cX0_lacksNothing 22 = .ok (.iconst 0, 1) := by decide +kernel
theorem dX0_lacksNothing_23 : decode cX0_lacksNothing 23 = .ok (.ireturn, 1) := by decide +kernel
theorem dX0_lacksNothing_24 : decode cX0_lacksNothing 24 = .ok (.iinc 2 1, 3) := by decide +kernel
theorem dX0_lacksNothing_27 : decode cX0_lacksNothing 27 = .ok (.goto (-25), 3) := by decide +kernel
theorem dX0_lacksNothing_30 : decode cX0_lacksNothing 30 = .ok (.iconst 1, 1) := by decide +kernel
theorem dX0_lacksNothing_31 : decode cX0_lacksNothing 31 = .ok (.ireturn, 1) := by decide +kernel
theorem dX1_init_0 : decode cX1_init 0 = .ok (.aload_n 0, 1) := by decide +kernel
theorem dX1_init_1 : decode cX1_init 1 = .ok (.invokespecial 1, 3) := by decide +kernel
theorem dX1_init_4 : decode cX1_init 4 = .ok (.aload_n 0, 1) := by decide +kernel
theorem dX1_init_5 : decode cX1_init 5 = .ok (.bipush 20, 2) := by decide +kernel
theorem dX1_init_7 : decode cX1_init 7 = .ok (.anewarray 9, 3) := by decide +kernel
theorem dX1_init_10 : decode cX1_init 10 = .ok (.putfield 11, 3) := by decide +kernel
theorem dX1_init_13 : decode cX1_init 13 = .ok (.aload_n 0, 1) := by decide +kernel
theorem dX1_init_14 : decode cX1_init 14 = .ok (.iconst 0, 1) := by decide +kernel
theorem dX1_init_15 : decode cX1_init 15 = .ok (.putfield 15, 3) := by decide +kernel
theorem dX1_init_18 : decode cX1_init 18 = .ok (.aload_n 0, 1) := by decide +kernel
theorem dX1_init_19 : decode cX1_init 19 = .ok (.bipush 10, 2) := by decide +kernel
theorem dX1_init_21 : decode cX1_init 21 = .ok (.newarray .int, 2) := by decide +kernel
theorem dX1_init_23 : decode cX1_init 23 = .ok (.putfield 19, 3) := by decide +kernel
theorem dX1_init_26 : decode cX1_init 26 = .ok (.aload_n 0, 1) := by decide +kernel
theorem dX1_init_27 : decode cX1_init 27 = .ok (.bipush 8, 2) := by decide +kernel
theorem dX1_init_29 : decode cX1_init 29 = .ok (.newarray .int, 2) := by decide +kernel
theorem dX1_init_31 : decode cX1_init 31 = .ok (.putfield 23, 3) := by decide +kernel
theorem dX1_init_34 : decode cX1_init 34 = .ok (.aload_n 0, 1) := by decide +kernel
theorem dX1_init_35 : decode cX1_init 35 = .ok (.iconst 0, 1) := by decide +kernel
theorem dX1_init_36 : decode cX1_init 36 = .ok (.putfield 26, 3) := by decide +kernel
theorem dX1_init_39 : decode cX1_init 39 = .ok (.aload_n 0, 1) := by decide +kernel
theorem dX1_init_40 : decode cX1_init 40 = .ok (.iconst 1, 1) := by decide +kernel
theorem dX1_init_41 : decode cX1_init 41 = .ok (.putfield 29, 3) := by decide +kernel
theorem dX1_init_44 : decode cX1_init 44 = .ok (.iconst 0, 1) := by decide +kernel
theorem dX1_init_45 : decode cX1_init 45 = .ok (.bipush 16, 2) := by decide +kernel
theorem dX1_init_47 : decode cX1_init 47 = .ok (.iload_n 1, 1) := by decide +kernel
theorem dX1_init_48 : decode cX1_init 48 = .ok (.invokestatic 32, 3) := by decide +kernel
theorem dX1_init_51 : decode cX1_init 51 = .ok (.invokestatic 38, 3) := by decide +kernel
theorem dX1_init_54 : decode cX1_init 54 = .ok (.istore_n 2, 1) := by decide +kernel
theorem dX1_init_55 : decode cX1_init 55 = .ok (.aload_n 0, 1) := by decide +kernel
theorem dX1_init_56 : decode cX1_init 56 = .ok (.iload_n 2, 1) := by decide +kernel
theorem dX1_init_57 : decode cX1_init 57 = .ok (.anewarray 9, 3) := by decide +kernel
theorem dX1_init_60 : decode cX1_init 60 = .ok (.putfield 41, 3) := by decide +kernel
theorem dX1_init_63 : decode cX1_init 63 = .ok (.aload_n 0, 1) := by decide +kernel
theorem dX1_init_64 : decode cX1_init 64 = .ok (.iload_n 2, 1) := by decide +kernel
theorem dX1_init_65 : decode cX1_init 65 = .ok (.newarray .boolean, 2) := by decide +kernel
theorem dX1_init_67 : decode cX1_init 67 = .ok (.putfield 44, 3) := by decide +kernel
theorem dX1_init_70 : decode cX1_init 70 = .ok (.return_, 1) := by decide +kernel
theorem dX1_tote_0 : decode cX1_tote 0 = .ok (.iload_n 1, 1) := by decide +kernel
theorem dX1_tote_1 : decode cX1_tote 1 = .ok (.invokestatic 48, 3) := by decide +kernel
theorem dX1_tote_4 : decode cX1_tote 4 = .ok (.iload_n 2, 1) := by decide +kernel
theorem dX1_tote_5 : decode cX1_tote 5 = .ok (.iconst 1, 1) := by decide +kernel
theorem dX1_tote_6 : decode cX1_tote 6 = .ok (.bipush 100, 2) := by decide +kernel
theorem dX1_tote_8 : decode cX1_tote 8 = .ok (.invokestatic 52, 3) := by decide +kernel
theorem dX1_tote_11 : decode cX1_tote 11 = .ok (.aload_n 0, 1) := by decide +kernel
theorem dX1_tote_12 : decode cX1_tote 12 = .ok (.getfield 19, 3) := by decide +kernel
theorem dX1_tote_15 : decode cX1_tote 15 = .ok (.iload_n 1, 1) := by decide +kernel
theorem dX1_tote_16 : decode cX1_tote 16 = .ok (.dup2, 1) := by decide +kernel
theorem dX1_tote_17 : decode cX1_tote 17 = .ok (.iaload, 1) := by decide +kernel
theorem dX1_tote_18 : decode cX1_tote 18 = .ok (.iload_n 2, 1) := by decide +kernel
theorem dX1_tote_19 : decode cX1_tote 19 = .ok (.iadd, 1) := by decide +kernel
theorem dX1_tote_20 : decode cX1_tote 20 = .ok (.iastore, 1) := by decide +kernel
theorem dX1_tote_21 : decode cX1_tote 21 = .ok (.aload_n 0, 1) := by decide +kernel
theorem dX1_tote_22 : decode cX1_tote 22 = .ok (.getfield 19, 3) := by decide +kernel
theorem dX1_tote_25 : decode cX1_tote 25 = .ok (.iload_n 1, 1) := by decide +kernel
theorem dX1_tote_26 : decode cX1_tote 26 = .ok (.iaload, 1) := by decide +kernel
theorem dX1_tote_27 : decode cX1_tote 27 = .ok (.ireturn, 1) := by decide +kernel
theorem dX1_order_0 : decode cX1_order 0 = .ok (.aload_n 0, 1) := by decide +kernel
theorem dX1_order_1 : decode cX1_order 1 = .ok (.getfield 15, 3) := by decide +kernel
theorem dX1_order_4 : decode cX1_order 4 = .ok (.bipush 20, 2) := by decide +kernel
theorem dX1_order_6 : decode cX1_order 6 = .ok (.if_icmp .lt 13, 3) := by decide +kernel
theorem dX1_order_9 : decode cX1_order 9 = .ok (.new 56, 3) := by decide +kernel
theorem dX1_order_12 : decode cX1_order 12 = .ok (.dup, 1) := by decide +kernel
theorem dX1_order_13 : decode cX1_order 13 = .ok (.ldc 58, 2) := by decide +kernel
theorem dX1_order_15 : decode cX1_order 15 = .ok (.invokespecial 60, 3) := by decide +kernel
theorem dX1_order_18 : decode cX1_order 18 = .ok (.athrow, 1) := by decide +kernel
theorem dX1_order_19 : decode cX1_order 19 = .ok (.aload_n 0, 1) := by decide +kernel
theorem dX1_order_20 : decode cX1_order 20 = .ok (.getfield 15, 3) := by decide +kernel
theorem dX1_order_23 : decode cX1_order 23 = .ok (.istore_n 1, 1) := by decide +kernel
theorem dX1_order_24 : decode cX1_order 24 = .ok (.aload_n 0, 1) := by decide +kernel
theorem dX1_order_25 : decode cX1_order 25 = .ok (.getfield 11, 3) := by decide +kernel
theorem dX1_order_28 : decode cX1_order 28 = .ok (.iload_n 1, 1) := by decide +kernel
theorem dX1_order_29 : decode cX1_order 29 = .ok (.new 9, 3) := by decide +kernel
theorem dX1_order_32 : decode cX1_order 32 = .ok (.dup, 1) := by decide +kernel
theorem dX1_order_33 : decode cX1_order 33 = .ok (.iload_n 1, 1) := by decide +kernel
theorem dX1_order_34 : decode cX1_order 34 = .ok (.invokespecial 63, 3) := by decide +kernel
theorem dX1_order_37 : decode cX1_order 37 = .ok (.aastore, 1) := by decide +kernel
theorem dX1_order_38 : decode cX1_order 38 = .ok (.aload_n 0, 1) := by decide +kernel
theorem dX1_order_39 : decode cX1_order 39 = .ok (.dup, 1) := by decide +kernel
theorem dX1_order_40 : decode cX1_order 40 = .ok (.getfield 15, 3) := by decide +kernel
theorem dX1_order_43 : decode cX1_order 43 = .ok (.iconst 1, 1) := by decide +kernel
theorem dX1_order_44 : decode cX1_order 44 = .ok (.iadd, 1) := by decide +kernel
theorem dX1_order_45 : decode cX1_order 45 = .ok (.putfield 15, 3) := by decide +kernel
theorem dX1_order_48 : decode cX1_order 48 = .ok (.iload_n 1, 1) := by decide +kernel
theorem dX1_order_49 : decode cX1_order 49 = .ok (.ireturn, 1) := by decide +kernel
theorem dX1_line_0 : decode cX1_line 0 = .ok (.aload_n 0, 1) := by decide +kernel
theorem dX1_line_1 : decode cX1_line 1 = .ok (.iload_n 1, 1) := by decide +kernel
theorem dX1_line_2 : decode cX1_line 2 = .ok (.invokevirtual 65, 3) := by decide +kernel
theorem dX1_line_5 : decode cX1_line 5 = .ok (.astore 4, 2) := by decide +kernel
theorem dX1_line_7 : decode cX1_line 7 = .ok (.iload_n 2, 1) := by decide +kernel
theorem dX1_line_8 : decode cX1_line 8 = .ok (.invokestatic 48, 3) := by decide +kernel
theorem dX1_line_11 : decode cX1_line 11 = .ok (.iload_n 3, 1) := by decide +kernel
theorem dX1_line_12 : decode cX1_line 12 = .ok (.iconst 1, 1) := by decide +kernel
theorem dX1_line_13 : decode cX1_line 13 = .ok (.bipush 9, 2) := by decide +kernel
theorem dX1_line_15 : decode cX1_line 15 = .ok (.invokestatic 52, 3) := by decide +kernel
theorem dX1_line_18 : decode cX1_line 18 = .ok (.aload 4, 2) := by decide +kernel
theorem dX1_line_20 : decode cX1_line 20 = .ok (.getfield 69, 3) := by decide +kernel
theorem dX1_line_23 : decode cX1_line 23 = .ok (.ifCond .ne 16, 3) := by decide +kernel
theorem dX1_line_26 : decode cX1_line 26 = .ok (.aload 4, 2) := by decide +kernel
theorem dX1_line_28 : decode cX1_line 28 = .ok (.iload_n 2, 1) := by decide +kernel
theorem dX1_line_29 : decode cX1_line 29 = .ok (.invokevirtual 72, 3) := by decide +kernel
theorem dX1_line_32 : decode cX1_line 32 = .ok (.ifCond .ne 7, 3) := by decide +kernel
theorem dX1_line_35 : decode cX1_line 35 = .ok (.iconst 1, 1) := by decide +kernel
theorem dX1_line_36 : decode cX1_line 36 = .ok (.goto 4, 3) := by decide +kernel
theorem dX1_line_39 : decode cX1_line 39 = .ok (.iconst 0, 1) := by decide +kernel
theorem dX1_line_40 : decode cX1_line 40 = .ok (.invokestatic 76, 3) := by decide +kernel
theorem dX1_line_43 : decode cX1_line 43 = .ok (.aload 4, 2) := by decide +kernel
theorem dX1_line_45 : decode cX1_line 45 = .ok (.getfield 80, 3) := by decide +kernel
theorem dX1_line_48 : decode cX1_line 48 = .ok (.iload_n 2, 1) := by decide +kernel
theorem dX1_line_49 : decode cX1_line 49 = .ok (.iload_n 3, 1) := by decide +kernel
theorem dX1_line_50 : decode cX1_line 50 = .ok (.iastore, 1) := by decide +kernel
theorem dX1_line_51 : decode cX1_line 51 = .ok (.return_, 1) := by decide +kernel
theorem dX1_cell_0 : decode cX1_cell 0 = .ok (.aload_n 0, 1) := by decide +kernel
theorem dX1_cell_1 : decode cX1_cell 1 = .ok (.iload_n 1, 1) := by decide +kernel
theorem dX1_cell_2 : decode cX1_cell 2 = .ok (.invokevirtual 65, 3) := by decide +kernel
theorem dX1_cell_5 : decode cX1_cell 5 = .ok (.astore_n 2, 1) := by decide +kernel
theorem dX1_cell_6 : decode cX1_cell 6 = .ok (.aload_n 2, 1) := by decide +kernel
theorem dX1_cell_7 : decode cX1_cell 7 = .ok (.getfield 69, 3) := by decide +kernel
theorem dX1_cell_10 : decode cX1_cell 10 = .ok (.ifCond .ne 14, 3) := by decide +kernel
theorem dX1_cell_13 : decode cX1_cell 13 = .ok (.aload_n 2, 1) := by decide +kernel
theorem dX1_cell_14 : decode cX1_cell 14 = .ok (.invokevirtual 83, 3) := by decide +kernel
theorem dX1_cell_17 : decode cX1_cell 17 = .ok (.ifCond .le 7, 3) := by decide +kernel
theorem dX1_cell_20 : decode cX1_cell 20 = .ok (.iconst 1, 1) := by decide +kernel
theorem dX1_cell_21 : decode cX1_cell 21 = .ok (.goto 4, 3) := by decide +kernel
theorem dX1_cell_24 : decode cX1_cell 24 = .ok (.iconst 0, 1) := by decide +kernel
theorem dX1_cell_25 : decode cX1_cell 25 = .ok (.invokestatic 76, 3) := by decide +kernel
theorem dX1_cell_28 : decode cX1_cell 28 = .ok (.aload_n 0, 1) := by decide +kernel
theorem dX1_cell_29 : decode cX1_cell 29 = .ok (.invokevirtual 87, 3) := by decide +kernel
theorem dX1_cell_32 : decode cX1_cell 32 = .ok (.istore_n 3, 1) := by decide +kernel
theorem dX1_cell_33 : decode cX1_cell 33 = .ok (.iload_n 3, 1) := by decide +kernel
theorem dX1_cell_34 : decode cX1_cell 34 = .ok (.ifCond .lt 29, 3) := by decide +kernel
theorem dX1_cell_37 : decode cX1_cell 37 = .ok (.iload_n 3, 1) := by decide +kernel
theorem dX1_cell_38 : decode cX1_cell 38 = .ok (.aload_n 0, 1) := by decide +kernel
theorem dX1_cell_39 : decode cX1_cell 39 = .ok (.getfield 41, 3) := by decide +kernel
theorem dX1_cell_42 : decode cX1_cell 42 = .ok (.arraylength, 1) := by decide +kernel
theorem dX1_cell_43 : decode cX1_cell 43 = .ok (.if_icmp .ge 20, 3) := by decide +kernel
theorem dX1_cell_46 : decode cX1_cell 46 = .ok (.aload_n 0, 1) := by decide +kernel
theorem dX1_cell_47 : decode cX1_cell 47 = .ok (.getfield 41, 3) := by decide +kernel
theorem dX1_cell_50 : decode cX1_cell 50 = .ok (.iload_n 3, 1) := by decide +kernel
theorem dX1_cell_51 : decode cX1_cell 51 = .ok (.aload_n 2, 1) := by decide +kernel
theorem dX1_cell_52 : decode cX1_cell 52 = .ok (.aastore, 1) := by decide +kernel
theorem dX1_cell_53 : decode cX1_cell 53 = .ok (.aload_n 2, 1) := by decide +kernel
theorem dX1_cell_54 : decode cX1_cell 54 = .ok (.iload_n 3, 1) := by decide +kernel
theorem dX1_cell_55 : decode cX1_cell 55 = .ok (.putfield 90, 3) := by decide +kernel
theorem dX1_cell_58 : decode cX1_cell 58 = .ok (.aload_n 2, 1) := by decide +kernel
theorem dX1_cell_59 : decode cX1_cell 59 = .ok (.iconst 1, 1) := by decide +kernel
theorem dX1_cell_60 : decode cX1_cell 60 = .ok (.putfield 69, 3) := by decide +kernel
theorem dX1_cell_63 : decode cX1_cell 63 = .ok (.iload_n 3, 1) := by decide +kernel
theorem dX1_cell_64 : decode cX1_cell 64 = .ok (.ireturn, 1) := by decide +kernel
theorem dX1_light_0 : decode cX1_light 0 = .ok (.aload_n 0, 1) := by decide +kernel
theorem dX1_light_1 : decode cX1_light 1 = .ok (.iload_n 1, 1) := by decide +kernel
theorem dX1_light_2 : decode cX1_light 2 = .ok (.invokevirtual 93, 3) := by decide +kernel
theorem dX1_light_5 : decode cX1_light 5 = .ok (.aload_n 0, 1) := by decide +kernel
theorem dX1_light_6 : decode cX1_light 6 = .ok (.getfield 44, 3) := by decide +kernel
theorem dX1_light_9 : decode cX1_light 9 = .ok (.iload_n 1, 1) := by decide +kernel
theorem dX1_light_10 : decode cX1_light 10 = .ok (.baload, 1) := by decide +kernel
theorem dX1_light_11 : decode cX1_light 11 = .ok (.ifCond .ne 7, 3) := by decide +kernel
theorem dX1_light_14 : decode cX1_light 14 = .ok (.iconst 1, 1) := by decide +kernel
theorem dX1_light_15 : decode cX1_light 15 = .ok (.goto 4, 3) := by decide +kernel
theorem dX1_light_18 : decode cX1_light 18 = .ok (.iconst 0, 1) := by decide +kernel
theorem dX1_light_19 : decode cX1_light 19 = .ok (.istore_n 3, 1) := by decide +kernel
theorem dX1_light_20 : decode cX1_light 20 = .ok (.aload_n 0, 1) := by decide +kernel
theorem dX1_light_21 : decode cX1_light 21 = .ok (.getfield 44, 3) := by decide +kernel
theorem dX1_light_24 : decode cX1_light 24 = .ok (.iload_n 1, 1) := by decide +kernel
theorem dX1_light_25 : decode cX1_light 25 = .ok (.iload_n 2, 1) := by decide +kernel
theorem dX1_light_26 : decode cX1_light 26 = .ok (.ifCond .ne 7, 3) := by decide +kernel
theorem dX1_light_29 : decode cX1_light 29 = .ok (.iconst 1, 1) := by decide +kernel
theorem dX1_light_30 : decode cX1_light 30 = .ok (.goto 4, 3) := by decide +kernel
theorem dX1_light_33 : decode cX1_light 33 = .ok (.iconst 0, 1) := by decide +kernel
theorem dX1_light_34 : decode cX1_light 34 = .ok (.bastore, 1) := by decide +kernel
theorem dX1_light_35 : decode cX1_light 35 = .ok (.iload_n 3, 1) := by decide +kernel
theorem dX1_light_36 : decode cX1_light 36 = .ok (.ireturn, 1) := by decide +kernel
theorem dX1_scan_0 : decode cX1_scan 0 = .ok (.aload_n 0, 1) := by decide +kernel
theorem dX1_scan_1 : decode cX1_scan 1 = .ok (.iload_n 1, 1) := by decide +kernel
theorem dX1_scan_2 : decode cX1_scan 2 = .ok (.invokevirtual 93, 3) := by decide +kernel
theorem dX1_scan_5 : decode cX1_scan 5 = .ok (.iload_n 2, 1) := by decide +kernel
theorem dX1_scan_6 : decode cX1_scan 6 = .ok (.invokestatic 48, 3) := by decide +kernel
theorem dX1_scan_9 : decode cX1_scan 9 = .ok (.iload_n 3, 1) := by decide +kernel
theorem dX1_scan_10 : decode cX1_scan 10 = .ok (.invokestatic 96, 3) := by decide +kernel
theorem dX1_scan_13 : decode cX1_scan 13 = .ok (.aload_n 0, 1) := by decide +kernel
theorem dX1_scan_14 : decode cX1_scan 14 = .ok (.aload_n 0, 1) := by decide +kernel
theorem dX1_scan_15 : decode cX1_scan 15 = .ok (.getfield 41, 3) := by decide +kernel
theorem dX1_scan_18 : decode cX1_scan 18 = .ok (.iload_n 1, 1) := by decide +kernel
theorem dX1_scan_19 : decode cX1_scan 19 = .ok (.aaload, 1) := by decide +kernel
theorem dX1_scan_20 : decode cX1_scan 20 = .ok (.aload_n 0, 1) := by decide +kernel
theorem dX1_scan_21 : decode cX1_scan 21 = .ok (.getfield 44, 3) := by decide +kernel
theorem dX1_scan_24 : decode cX1_scan 24 = .ok (.iload_n 1, 1) := by decide +kernel
theorem dX1_scan_25 : decode cX1_scan 25 = .ok (.baload, 1) := by decide +kernel
theorem dX1_scan_26 : decode cX1_scan 26 = .ok (.iload_n 2, 1) := by decide +kernel
theorem dX1_scan_27 : decode cX1_scan 27 = .ok (.invokevirtual 99, 3) := by decide +kernel
theorem dX1_scan_30 : decode cX1_scan 30 = .ok (.istore 4, 2) := by decide +kernel
theorem dX1_scan_32 : decode cX1_scan 32 = .ok (.iload 4, 2) := by decide +kernel
theorem dX1_scan_34 : decode cX1_scan 34 = .ok (.ifCond .ge 13, 3) := by decide +kernel
theorem dX1_scan_37 : decode cX1_scan 37 = .ok (.aload_n 0, 1) := by decide +kernel
theorem dX1_scan_38 : decode cX1_scan 38 = .ok (.getfield 23, 3) := by decide +kernel
theorem dX1_scan_41 : decode cX1_scan 41 = .ok (.iload_n 3, 1) := by decide +kernel
theorem dX1_scan_42 : decode cX1_scan 42 = .ok (.dup2, 1) := by decide +kernel
theorem dX1_scan_43 : decode cX1_scan 43 = .ok (.iaload, 1) := by decide +kernel
theorem dX1_scan_44 : decode cX1_scan 44 = .ok (.iconst 1, 1) := by decide +kernel
theorem dX1_scan_45 : decode cX1_scan 45 = .ok (.iadd, 1) := by decide +kernel
theorem dX1_scan_46 : decode cX1_scan 46 = .ok (.iastore, 1) := by decide +kernel
theorem dX1_scan_47 : decode cX1_scan 47 = .ok (.iload 4, 2) := by decide +kernel
theorem dX1_scan_49 : decode cX1_scan 49 = .ok (.ireturn, 1) := by decide +kernel
theorem dX1_undo_0 : decode cX1_undo 0 = .ok (.aload_n 0, 1) := by decide +kernel
theorem dX1_undo_1 : decode cX1_undo 1 = .ok (.iload_n 1, 1) := by decide +kernel
theorem dX1_undo_2 : decode cX1_undo 2 = .ok (.invokevirtual 93, 3) := by decide +kernel
theorem dX1_undo_5 : decode cX1_undo 5 = .ok (.iload_n 2, 1) := by decide +kernel
theorem dX1_undo_6 : decode cX1_undo 6 = .ok (.invokestatic 48, 3) := by decide +kernel
theorem dX1_undo_9 : decode cX1_undo 9 = .ok (.aload_n 0, 1) := by decide +kernel
theorem dX1_undo_10 : decode cX1_undo 10 = .ok (.getfield 41, 3) := by decide +kernel
theorem dX1_undo_13 : decode cX1_undo 13 = .ok (.iload_n 1, 1) := by decide +kernel
theorem dX1_undo_14 : decode cX1_undo 14 = .ok (.aaload, 1) := by decide +kernel
theorem dX1_undo_15 : decode cX1_undo 15 = .ok (.astore_n 3, 1) := by decide +kernel
theorem dX1_undo_16 : decode cX1_undo 16 = .ok (.aload_n 3, 1) := by decide +kernel
theorem dX1_undo_17 : decode cX1_undo 17 = .ok (.ifnull 20, 3) := by decide +kernel
theorem dX1_undo_20 : decode cX1_undo 20 = .ok (.aload_n 3, 1) := by decide +kernel
theorem dX1_undo_21 : decode cX1_undo 21 = .ok (.getfield 69, 3) := by decide +kernel
theorem dX1_undo_24 : decode cX1_undo 24 = .ok (.iconst 2, 1) := by decide +kernel
theorem dX1_undo_25 : decode cX1_undo 25 = .ok (.if_icmp .eq 12, 3) := by decide +kernel
theorem dX1_undo_28 : decode cX1_undo 28 = .ok (.aload_n 3, 1) := by decide +kernel
theorem dX1_undo_29 : decode cX1_undo 29 = .ok (.getfield 103, 3) := by decide +kernel
theorem dX1_undo_32 : decode cX1_undo 32 = .ok (.iload_n 2, 1) := by decide +kernel
theorem dX1_undo_33 : decode cX1_undo 33 = .ok (.iaload, 1) := by decide +kernel
theorem dX1_undo_34 : decode cX1_undo 34 = .ok (.ifCond .ne 13, 3) := by decide +kernel
theorem dX1_undo_37 : decode cX1_undo 37 = .ok (.new 106, 3) := by decide +kernel
theorem dX1_undo_40 : decode cX1_undo 40 = .ok (.dup, 1) := by decide +kernel
theorem dX1_undo_41 : decode cX1_undo 41 = .ok (.ldc 108, 2) := by decide +kernel
theorem dX1_undo_43 : decode cX1_undo 43 = .ok (.invokespecial 110, 3) := by decide +kernel
theorem dX1_undo_46 : decode cX1_undo 46 = .ok (.athrow, 1) := by decide +kernel
theorem dX1_undo_47 : decode cX1_undo 47 = .ok (.aload_n 3, 1) := by decide +kernel
theorem dX1_undo_48 : decode cX1_undo 48 = .ok (.getfield 103, 3) := by decide +kernel
theorem dX1_undo_51 : decode cX1_undo 51 = .ok (.iload_n 2, 1) := by decide +kernel
theorem dX1_undo_52 : decode cX1_undo 52 = .ok (.dup2, 1) := by decide +kernel
theorem dX1_undo_53 : decode cX1_undo 53 = .ok (.iaload, 1) := by decide +kernel
theorem dX1_undo_54 : decode cX1_undo 54 = .ok (.iconst 1, 1) := by decide +kernel
theorem dX1_undo_55 : decode cX1_undo 55 = .ok (.isub, 1) := by decide +kernel
theorem dX1_undo_56 : decode cX1_undo 56 = .ok (.iastore, 1) := by decide +kernel
theorem dX1_undo_57 : decode cX1_undo 57 = .ok (.aload_n 0, 1) := by decide +kernel
theorem dX1_undo_58 : decode cX1_undo 58 = .ok (.getfield 19, 3) := by decide +kernel
theorem dX1_undo_61 : decode cX1_undo 61 = .ok (.iload_n 2, 1) := by decide +kernel
theorem dX1_undo_62 : decode cX1_undo 62 = .ok (.dup2, 1) := by decide +kernel
theorem dX1_undo_63 : decode cX1_undo 63 = .ok (.iaload, 1) := by decide +kernel
theorem dX1_undo_64 : decode cX1_undo 64 = .ok (.iconst 1, 1) := by decide +kernel
theorem dX1_undo_65 : decode cX1_undo 65 = .ok (.iadd, 1) := by decide +kernel
theorem dX1_undo_66 : decode cX1_undo 66 = .ok (.iastore, 1) := by decide +kernel
theorem dX1_undo_67 : decode cX1_undo 67 = .ok (.aload_n 3, 1) := by decide +kernel
theorem dX1_undo_68 : decode cX1_undo 68 = .ok (.getfield 103, 3) := by decide +kernel
theorem dX1_undo_71 : decode cX1_undo 71 = .ok (.iload_n 2, 1) := by decide +kernel
theorem dX1_undo_72 : decode cX1_undo 72 = .ok (.iaload, 1) := by decide +kernel
theorem dX1_undo_73 : decode cX1_undo 73 = .ok (.ireturn, 1) := by decide +kernel
theorem dX1_miss_0 : decode cX1_miss 0 = .ok (.aload_n 0, 1) := by decide +kernel
theorem dX1_miss_1 : decode cX1_miss 1 = .ok (.iload_n 1, 1) := by decide +kernel
theorem dX1_miss_2 : decode cX1_miss 2 = .ok (.invokevirtual 65, 3) := by decide +kernel
theorem dX1_miss_5 : decode cX1_miss 5 = .ok (.astore 4, 2) := by decide +kernel
theorem dX1_miss_7 : decode cX1_miss 7 = .ok (.aload 4, 2) := by decide +kernel
theorem dX1_miss_9 : decode cX1_miss 9 = .ok (.iload_n 2, 1) := by decide +kernel
theorem dX1_miss_10 : decode cX1_miss 10 = .ok (.invokestatic 111, 3) := by decide +kernel
theorem dX1_miss_13 : decode cX1_miss 13 = .ok (.iload_n 3, 1) := by decide +kernel
theorem dX1_miss_14 : decode cX1_miss 14 = .ok (.iconst 0, 1) := by decide +kernel
theorem dX1_miss_15 : decode cX1_miss 15 = .ok (.sipush 10000, 3) := by decide +kernel
theorem dX1_miss_18 : decode cX1_miss 18 = .ok (.invokestatic 52, 3) := by decide +kernel
theorem dX1_miss_21 : decode cX1_miss 21 = .ok (.aload 4, 2) := by decide +kernel
theorem dX1_miss_23 : decode cX1_miss 23 = .ok (.getfield 69, 3) := by decide +kernel
theorem dX1_miss_26 : decode cX1_miss 26 = .ok (.iconst 1, 1) := by decide +kernel
theorem dX1_miss_27 : decode cX1_miss 27 = .ok (.if_icmp .ne 16, 3) := by decide +kernel
theorem dX1_miss_30 : decode cX1_miss 30 = .ok (.aload 4, 2) := by decide +kernel
theorem dX1_miss_32 : decode cX1_miss 32 = .ok (.iload_n 2, 1) := by decide +kernel
theorem dX1_miss_33 : decode cX1_miss 33 = .ok (.invokevirtual 115, 3) := by decide +kernel
theorem dX1_miss_36 : decode cX1_miss 36 = .ok (.ifCond .le 7, 3) := by decide +kernel
theorem dX1_miss_39 : decode cX1_miss 39 = .ok (.iconst 1, 1) := by decide +kernel
theorem dX1_miss_40 : decode cX1_miss 40 = .ok (.goto 4, 3) := by decide +kernel
theorem dX1_miss_43 : decode cX1_miss 43 = .ok (.iconst 0, 1) := by decide +kernel
theorem dX1_miss_44 : decode cX1_miss 44 = .ok (.invokestatic 76, 3) := by decide +kernel
theorem dX1_miss_47 : decode cX1_miss 47 = .ok (.aload 4, 2) := by decide +kernel
theorem dX1_miss_49 : decode cX1_miss 49 = .ok (.getfield 119, 3) := by decide +kernel
theorem dX1_miss_52 : decode cX1_miss 52 = .ok (.iload_n 2, 1) := by decide +kernel
theorem dX1_miss_53 : decode cX1_miss 53 = .ok (.iload_n 3, 1) := by decide +kernel
theorem dX1_miss_54 : decode cX1_miss 54 = .ok (.iastore, 1) := by decide +kernel
theorem dX1_miss_55 : decode cX1_miss 55 = .ok (.aload 4, 2) := by decide +kernel
theorem dX1_miss_57 : decode cX1_miss 57 = .ok (.iload_n 2, 1) := by decide +kernel
theorem dX1_miss_58 : decode cX1_miss 58 = .ok (.invokevirtual 115, 3) := by decide +kernel
theorem dX1_miss_61 : decode cX1_miss 61 = .ok (.ireturn, 1) := by decide +kernel
theorem dX1_day_0 : decode cX1_day 0 = .ok (.iload_n 1, 1) := by decide +kernel
theorem dX1_day_1 : decode cX1_day 1 = .ok (.iconst 0, 1) := by decide +kernel
theorem dX1_day_2 : decode cX1_day 2 = .ok (.sipush 10000, 3) := by decide +kernel
theorem dX1_day_5 : decode cX1_day 5 = .ok (.invokestatic 52, 3) := by decide +kernel
theorem dX1_day_8 : decode cX1_day 8 = .ok (.iload_n 1, 1) := by decide +kernel
theorem dX1_day_9 : decode cX1_day 9 = .ok (.aload_n 0, 1) := by decide +kernel
theorem dX1_day_10 : decode cX1_day 10 = .ok (.getfield 26, 3) := by decide +kernel
theorem dX1_day_13 : decode cX1_day 13 = .ok (.if_icmp .lt 7, 3) := by decide +kernel
theorem dX1_day_16 : decode cX1_day 16 = .ok (.iconst 1, 1) := by decide +kernel
theorem dX1_day_17 : decode cX1_day 17 = .ok (.goto 4, 3) := by decide +kernel
theorem dX1_day_20 : decode cX1_day 20 = .ok (.iconst 0, 1) := by decide +kernel
theorem dX1_day_21 : decode cX1_day 21 = .ok (.invokestatic 76, 3) := by decide +kernel
theorem dX1_day_24 : decode cX1_day 24 = .ok (.aload_n 0, 1) := by decide +kernel
theorem dX1_day_25 : decode cX1_day 25 = .ok (.iload_n 1, 1) := by decide +kernel
theorem dX1_day_26 : decode cX1_day 26 = .ok (.putfield 26, 3) := by decide +kernel
theorem dX1_day_29 : decode cX1_day 29 = .ok (.return_, 1) := by decide +kernel
theorem dX1_change_0 : decode cX1_change 0 = .ok (.aload_n 0, 1) := by decide +kernel
theorem dX1_change_1 : decode cX1_change 1 = .ok (.iload_n 1, 1) := by decide +kernel
theorem dX1_change_2 : decode cX1_change 2 = .ok (.invokevirtual 65, 3) := by decide +kernel
theorem dX1_change_5 : decode cX1_change 5 = .ok (.astore 4, 2) := by decide +kernel
theorem dX1_change_7 : decode cX1_change 7 = .ok (.aload 4, 2) := by decide +kernel
theorem dX1_change_9 : decode cX1_change 9 = .ok (.iload_n 2, 1) := by decide +kernel
theorem dX1_change_10 : decode cX1_change 10 = .ok (.invokestatic 111, 3) := by decide +kernel
theorem dX1_change_13 : decode cX1_change 13 = .ok (.iload_n 3, 1) := by decide +kernel
theorem dX1_change_14 : decode cX1_change 14 = .ok (.iconst 0, 1) := by decide +kernel
theorem dX1_change_15 : decode cX1_change 15 = .ok (.bipush 9, 2) := by decide +kernel
theorem dX1_change_17 : decode cX1_change 17 = .ok (.invokestatic 52, 3) := by decide +kernel
theorem dX1_change_20 : decode cX1_change 20 = .ok (.iload_n 3, 1) := by decide +kernel
theorem dX1_change_21 : decode cX1_change 21 = .ok (.ifCond .ne 25, 3) := by decide +kernel
theorem dX1_change_24 : decode cX1_change 24 = .ok (.aload 4, 2) := by decide +kernel
theorem dX1_change_26 : decode cX1_change 26 = .ok (.getfield 69, 3) := by decide +kernel
theorem dX1_change_29 : decode cX1_change 29 = .ok (.iconst 1, 1) := by decide +kernel
theorem dX1_change_30 : decode cX1_change 30 = .ok (.if_icmp .ne 16, 3) := by decide +kernel
theorem dX1_change_33 : decode cX1_change 33 = .ok (.aload 4, 2) := by decide +kernel
theorem dX1_change_35 : decode cX1_change 35 = .ok (.invokevirtual 83, 3) := by decide +kernel
theorem dX1_change_38 : decode cX1_change 38 = .ok (.iconst 1, 1) := by decide +kernel
theorem dX1_change_39 : decode cX1_change 39 = .ok (.if_icmp .ne 7, 3) := by decide +kernel
theorem dX1_change_42 : decode cX1_change 42 = .ok (.iconst 1, 1) := by decide +kernel
theorem dX1_change_43 : decode cX1_change 43 = .ok (.goto 4, 3) := by decide +kernel
theorem dX1_change_46 : decode cX1_change 46 = .ok (.iconst 0, 1) := by decide +kernel
theorem dX1_change_47 : decode cX1_change 47 = .ok (.istore 5, 2) := by decide +kernel
theorem dX1_change_49 : decode cX1_change 49 = .ok (.aload 4, 2) := by decide +kernel
theorem dX1_change_51 : decode cX1_change 51 = .ok (.getfield 69, 3) := by decide +kernel
theorem dX1_change_54 : decode cX1_change 54 = .ok (.ifCond .eq 12, 3) := by decide +kernel
theorem dX1_change_57 : decode cX1_change 57 = .ok (.aload 4, 2) := by decide +kernel
theorem dX1_change_59 : decode cX1_change 59 = .ok (.getfield 69, 3) := by decide +kernel
theorem dX1_change_62 : decode cX1_change 62 = .ok (.iconst 1, 1) := by decide +kernel
theorem dX1_change_63 : decode cX1_change 63 = .ok (.if_icmp .ne 12, 3) := by decide +kernel
theorem dX1_change_66 : decode cX1_change 66 = .ok (.iload 5, 2) := by decide +kernel
theorem dX1_change_68 : decode cX1_change 68 = .ok (.ifCond .ne 7, 3) := by decide +kernel
theorem dX1_change_71 : decode cX1_change 71 = .ok (.iconst 1, 1) := by decide +kernel
theorem dX1_change_72 : decode cX1_change 72 = .ok (.goto 4, 3) := by decide +kernel
theorem dX1_change_75 : decode cX1_change 75 = .ok (.iconst 0, 1) := by decide +kernel
theorem dX1_change_76 : decode cX1_change 76 = .ok (.invokestatic 76, 3) := by decide +kernel
theorem dX1_change_79 : decode cX1_change 79 = .ok (.aload 4, 2) := by decide +kernel
theorem dX1_change_81 : decode cX1_change 81 = .ok (.getfield 103, 3) := by decide +kernel
theorem dX1_change_84 : decode cX1_change 84 = .ok (.iload_n 2, 1) := by decide +kernel
theorem dX1_change_85 : decode cX1_change 85 = .ok (.iaload, 1) := by decide +kernel
theorem dX1_change_86 : decode cX1_change 86 = .ok (.iload_n 3, 1) := by decide +kernel
theorem dX1_change_87 : decode cX1_change 87 = .ok (.if_icmp .le 5, 3) := by decide +kernel
theorem dX1_change_90 : decode cX1_change 90 = .ok (.iconst 0, 1) := by decide +kernel
theorem dX1_change_91 : decode cX1_change 91 = .ok (.ireturn, 1) := by decide +kernel
theorem dX1_change_92 : decode cX1_change 92 = .ok (.aload 4, 2) := by decide +kernel
theorem dX1_change_94 : decode cX1_change 94 = .ok (.getfield 80, 3) := by decide +kernel
theorem dX1_change_97 : decode cX1_change 97 = .ok (.iload_n 2, 1) := by decide +kernel
theorem dX1_change_98 : decode cX1_change 98 = .ok (.iload_n 3, 1) := by decide +kernel
theorem dX1_change_99 : decode cX1_change 99 = .ok (.iastore, 1) := by decide +kernel
theorem dX1_change_100 : decode cX1_change 100 = .ok (.iconst 1, 1) := by decide +kernel
theorem dX1_change_101 : decode cX1_change 101 = .ok (.ireturn, 1) := by decide +kernel
theorem dX1_complete_0 : decode cX1_complete 0 = .ok (.aload_n 0, 1) := by decide +kernel
theorem dX1_complete_1 : decode cX1_complete 1 = .ok (.iload_n 1, 1) := by decide +kernel
theorem dX1_complete_2 : decode cX1_complete 2 = .ok (.invokevirtual 65, 3) := by decide +kernel
theorem dX1_complete_5 : decode cX1_complete 5 = .ok (.astore_n 2, 1) := by decide +kernel
theorem dX1_complete_6 : decode cX1_complete 6 = .ok (.aload_n 2, 1) := by decide +kernel
theorem dX1_complete_7 : decode cX1_complete 7 = .ok (.getfield 69, 3) := by decide +kernel
theorem dX1_complete_10 : decode cX1_complete 10 = .ok (.iconst 1, 1) := by decide +kernel
theorem dX1_complete_11 : decode cX1_complete 11 = .ok (.if_icmp .ne 7, 3) := by decide +kernel
theorem dX1_complete_14 : decode cX1_complete 14 = .ok (.iconst 1, 1) := by decide +kernel
theorem dX1_complete_15 : decode cX1_complete 15 = .ok (.goto 4, 3) := by decide +kernel
theorem dX1_complete_18 : decode cX1_complete 18 = .ok (.iconst 0, 1) := by decide +kernel
theorem dX1_complete_19 : decode cX1_complete 19 = .ok (.invokestatic 76, 3) := by decide +kernel
theorem dX1_complete_22 : decode cX1_complete 22 = .ok (.aload_n 2, 1) := by decide +kernel
theorem dX1_complete_23 : decode cX1_complete 23 = .ok (.aload_n 0, 1) := by decide +kernel
theorem dX1_complete_24 : decode cX1_complete 24 = .ok (.getfield 26, 3) := by decide +kernel
theorem dX1_complete_27 : decode cX1_complete 27 = .ok (.invokevirtual 122, 3) := by decide +kernel
theorem dX1_complete_30 : decode cX1_complete 30 = .ok (.ifCond .ne 5, 3) := by decide +kernel
theorem dX1_complete_33 : decode cX1_complete 33 = .ok (.iconst 0, 1) := by decide +kernel
theorem dX1_complete_34 : decode cX1_complete 34 = .ok (.ireturn, 1) := by decide +kernel
theorem dX1_complete_35 : decode cX1_complete 35 = .ok (.aload_n 2, 1) := by decide +kernel
theorem dX1_complete_36 : decode cX1_complete 36 = .ok (.iconst 2, 1) := by decide +kernel
theorem dX1_complete_37 : decode cX1_complete 37 = .ok (.putfield 69, 3) := by decide +kernel
theorem dX1_complete_40 : decode cX1_complete 40 = .ok (.iconst 1, 1) := by decide +kernel
theorem dX1_complete_41 : decode cX1_complete 41 = .ok (.ireturn, 1) := by decide +kernel
theorem dX1_release_0 : decode cX1_release 0 = .ok (.aload_n 0, 1) := by decide +kernel
theorem dX1_release_1 : decode cX1_release 1 = .ok (.iload_n 1, 1) := by decide +kernel
theorem dX1_release_2 : decode cX1_release 2 = .ok (.invokevirtual 93, 3) := by decide +kernel
theorem dX1_release_5 : decode cX1_release 5 = .ok (.aload_n 0, 1) := by decide +kernel
theorem dX1_release_6 : decode cX1_release 6 = .ok (.getfield 41, 3) := by decide +kernel
theorem dX1_release_9 : decode cX1_release 9 = .ok (.iload_n 1, 1) := by decide +kernel
theorem dX1_release_10 : decode cX1_release 10 = .ok (.aaload, 1) := by decide +kernel
theorem dX1_release_11 : decode cX1_release 11 = .ok (.astore_n 2, 1) := by decide +kernel
theorem dX1_release_12 : decode cX1_release 12 = .ok (.aload_n 2, 1) := by decide +kernel
theorem dX1_release_13 : decode cX1_release 13 = .ok (.ifnonnull 13, 3) := by decide +kernel
theorem dX1_release_16 : decode cX1_release 16 = .ok (.new 106, 3) := by decide +kernel
theorem dX1_release_19 : decode cX1_release 19 = .ok (.dup, 1) := by decide +kernel
theorem dX1_release_20 : decode cX1_release 20 = .ok (.ldc 125, 2) := by decide +kernel
theorem dX1_release_22 : decode cX1_release 22 = .ok (.invokespecial 110, 3) := by decide +kernel
theorem dX1_release_25 : decode cX1_release 25 = .ok (.athrow, 1) := by decide +kernel
theorem dX1_release_26 : decode cX1_release 26 = .ok (.aload_n 2, 1) := by decide +kernel
theorem dX1_release_27 : decode cX1_release 27 = .ok (.getfield 69, 3) := by decide +kernel
theorem dX1_release_30 : decode cX1_release 30 = .ok (.iconst 2, 1) := by decide +kernel
theorem dX1_release_31 : decode cX1_release 31 = .ok (.if_icmp .eq 5, 3) := by decide +kernel
theorem dX1_release_34 : decode cX1_release 34 = .ok (.iconst 0, 1) := by decide +kernel
theorem dX1_release_35 : decode cX1_release 35 = .ok (.ireturn, 1) := by decide +kernel
theorem dX1_release_36 : decode cX1_release 36 = .ok (.aload_n 2, 1) := by decide +kernel
theorem dX1_release_37 : decode cX1_release 37 = .ok (.iconst 3, 1) := by decide +kernel
theorem dX1_release_38 : decode cX1_release 38 = .ok (.putfield 69, 3) := by decide +kernel
theorem dX1_release_41 : decode cX1_release 41 = .ok (.aload_n 2, 1) := by decide +kernel
theorem dX1_release_42 : decode cX1_release 42 = .ok (.iconst (-1), 1) := by decide +kernel
theorem dX1_release_43 : decode cX1_release 43 = .ok (.putfield 90, 3) := by decide +kernel
theorem dX1_release_46 : decode cX1_release 46 = .ok (.aload_n 0, 1) := by decide +kernel
theorem dX1_release_47 : decode cX1_release 47 = .ok (.getfield 41, 3) := by decide +kernel
theorem dX1_release_50 : decode cX1_release 50 = .ok (.iload_n 1, 1) := by decide +kernel
theorem dX1_release_51 : decode cX1_release 51 = .ok (.aconst_null, 1) := by decide +kernel
theorem dX1_release_52 : decode cX1_release 52 = .ok (.aastore, 1) := by decide +kernel
theorem dX1_release_53 : decode cX1_release 53 = .ok (.iconst 1, 1) := by decide +kernel
theorem dX1_release_54 : decode cX1_release 54 = .ok (.ireturn, 1) := by decide +kernel
theorem dX1_sample_0 : decode cX1_sample 0 = .ok (.aload_n 0, 1) := by decide +kernel
theorem dX1_sample_1 : decode cX1_sample 1 = .ok (.invokevirtual 127, 3) := by decide +kernel
theorem dX1_sample_4 : decode cX1_sample 4 = .ok (.istore_n 1, 1) := by decide +kernel
theorem dX1_sample_5 : decode cX1_sample 5 = .ok (.iload_n 1, 1) := by decide +kernel
theorem dX1_sample_6 : decode cX1_sample 6 = .ok (.ifCond .ne 5, 3) := by decide +kernel
theorem dX1_sample_9 : decode cX1_sample 9 = .ok (.iconst (-1), 1) := by decide +kernel
theorem dX1_sample_10 : decode cX1_sample 10 = .ok (.ireturn, 1) := by decide +kernel
theorem dX1_sample_11 : decode cX1_sample 11 = .ok (.aload_n 0, 1) := by decide +kernel
theorem dX1_sample_12 : decode cX1_sample 12 = .ok (.aload_n 0, 1) := by decide +kernel
theorem dX1_sample_13 : decode cX1_sample 13 = .ok (.getfield 29, 3) := by decide +kernel
theorem dX1_sample_16 : decode cX1_sample 16 = .ok (.i2l, 1) := by decide +kernel
theorem dX1_sample_17 : decode cX1_sample 17 = .ok (.ldc2_w 130, 3) := by decide +kernel
theorem dX1_sample_20 : decode cX1_sample 20 = .ok (.lmul, 1) := by decide +kernel
theorem dX1_sample_21 : decode cX1_sample 21 = .ok (.ldc2_w 132, 3) := by decide +kernel
theorem dX1_sample_24 : decode cX1_sample 24 = .ok (.ladd, 1) := by decide +kernel
theorem dX1_sample_25 : decode cX1_sample 25 = .ok (.ldc2_w 134, 3) := by decide +kernel
theorem dX1_sample_28 : decode cX1_sample 28 = .ok (.lrem, 1) := by decide +kernel
theorem dX1_sample_29 : decode cX1_sample 29 = .ok (.l2i, 1) := by decide +kernel
theorem dX1_sample_30 : decode cX1_sample 30 = .ok (.putfield 29, 3) := by decide +kernel
theorem dX1_sample_33 : decode cX1_sample 33 = .ok (.aload_n 0, 1) := by decide +kernel
theorem dX1_sample_34 : decode cX1_sample 34 = .ok (.aload_n 0, 1) := by decide +kernel
theorem dX1_sample_35 : decode cX1_sample 35 = .ok (.getfield 29, 3) := by decide +kernel
theorem dX1_sample_38 : decode cX1_sample 38 = .ok (.ldc 136, 2) := by decide +kernel
theorem dX1_sample_40 : decode cX1_sample 40 = .ok (.idiv, 1) := by decide +kernel
theorem dX1_sample_41 : decode cX1_sample 41 = .ok (.iload_n 1, 1) := by decide +kernel
theorem dX1_sample_42 : decode cX1_sample 42 = .ok (.irem, 1) := by decide +kernel
theorem dX1_sample_43 : decode cX1_sample 43 = .ok (.invokevirtual 137, 3) := by decide +kernel
theorem dX1_sample_46 : decode cX1_sample 46 = .ok (.ireturn, 1) := by decide +kernel
theorem dX1_seed_0 : decode cX1_seed 0 = .ok (.iload_n 1, 1) := by decide +kernel
theorem dX1_seed_1 : decode cX1_seed 1 = .ok (.iconst 0, 1) := by decide +kernel
theorem dX1_seed_2 : decode cX1_seed 2 = .ok (.ldc 140, 2) := by decide +kernel
theorem dX1_seed_4 : decode cX1_seed 4 = .ok (.invokestatic 52, 3) := by decide +kernel
theorem dX1_seed_7 : decode cX1_seed 7 = .ok (.aload_n 0, 1) := by decide +kernel
theorem dX1_seed_8 : decode cX1_seed 8 = .ok (.iload_n 1, 1) := by decide +kernel
theorem dX1_seed_9 : decode cX1_seed 9 = .ok (.putfield 29, 3) := by decide +kernel
theorem dX1_seed_12 : decode cX1_seed 12 = .ok (.return_, 1) := by decide +kernel
theorem dX1_told_0 : decode cX1_told 0 = .ok (.aload_n 0, 1) := by decide +kernel
theorem dX1_told_1 : decode cX1_told 1 = .ok (.iload_n 1, 1) := by decide +kernel
theorem dX1_told_2 : decode cX1_told 2 = .ok (.invokevirtual 65, 3) := by decide +kernel
theorem dX1_told_5 : decode cX1_told 5 = .ok (.astore_n 3, 1) := by decide +kernel
theorem dX1_told_6 : decode cX1_told 6 = .ok (.iload_n 2, 1) := by decide +kernel
theorem dX1_told_7 : decode cX1_told 7 = .ok (.tableswitch 71 0 5 #[37, 42, 47, 52, 57, 62], 37) := by decide +kernel
theorem dX1_told_44 : decode cX1_told 44 = .ok (.aload_n 3, 1) := by decide +kernel
theorem dX1_told_45 : decode cX1_told 45 = .ok (.getfield 69, 3) := by decide +kernel
theorem dX1_told_48 : decode cX1_told 48 = .ok (.ireturn, 1) := by decide +kernel
theorem dX1_told_49 : decode cX1_told 49 = .ok (.aload_n 3, 1) := by decide +kernel
theorem dX1_told_50 : decode cX1_told 50 = .ok (.getfield 90, 3) := by decide +kernel
theorem dX1_told_53 : decode cX1_told 53 = .ok (.ireturn, 1) := by decide +kernel
theorem dX1_told_54 : decode cX1_told 54 = .ok (.aload_n 3, 1) := by decide +kernel
theorem dX1_told_55 : decode cX1_told 55 = .ok (.invokevirtual 83, 3) := by decide +kernel
theorem dX1_told_58 : decode cX1_told 58 = .ok (.ireturn, 1) := by decide +kernel
theorem dX1_told_59 : decode cX1_told 59 = .ok (.aload_n 3, 1) := by decide +kernel
theorem dX1_told_60 : decode cX1_told 60 = .ok (.invokevirtual 141, 3) := by decide +kernel
theorem dX1_told_63 : decode cX1_told 63 = .ok (.ireturn, 1) := by decide +kernel
theorem dX1_told_64 : decode cX1_told 64 = .ok (.aload_n 3, 1) := by decide +kernel
theorem dX1_told_65 : decode cX1_told 65 = .ok (.invokevirtual 144, 3) := by decide +kernel
theorem dX1_told_68 : decode cX1_told 68 = .ok (.ireturn, 1) := by decide +kernel
theorem dX1_told_69 : decode cX1_told 69 = .ok (.aload_n 3, 1) := by decide +kernel
theorem dX1_told_70 : decode cX1_told 70 = .ok (.aload_n 0, 1) := by decide +kernel
theorem dX1_told_71 : decode cX1_told 71 = .ok (.getfield 26, 3) := by decide +kernel
theorem dX1_told_74 : decode cX1_told 74 = .ok (.invokevirtual 147, 3) := by decide +kernel
theorem dX1_told_77 : decode cX1_told 77 = .ok (.ireturn, 1) := by decide +kernel
theorem dX1_told_78 : decode cX1_told 78 = .ok (.new 150, 3) := by decide +kernel
theorem dX1_told_81 : decode cX1_told 81 = .ok (.dup, 1) := by decide +kernel
theorem dX1_told_82 : decode cX1_told 82 = .ok (.ldc 152, 2) := by decide +kernel
theorem dX1_told_84 : decode cX1_told 84 = .ok (.invokespecial 154, 3) := by decide +kernel
theorem dX1_told_87 : decode cX1_told 87 = .ok (.athrow, 1) := by decide +kernel
theorem dX1_piece_0 : decode cX1_piece 0 = .ok (.aload_n 0, 1) := by decide +kernel
theorem dX1_piece_1 : decode cX1_piece 1 = .ok (.iload_n 1, 1) := by decide +kernel
theorem dX1_piece_2 : decode cX1_piece 2 = .ok (.invokevirtual 65, 3) := by decide +kernel
theorem dX1_piece_5 : decode cX1_piece 5 = .ok (.astore 4, 2) := by decide +kernel
theorem dX1_piece_7 : decode cX1_piece 7 = .ok (.aload 4, 2) := by decide +kernel
theorem dX1_piece_9 : decode cX1_piece 9 = .ok (.iload_n 2, 1) := by decide +kernel
theorem dX1_piece_10 : decode cX1_piece 10 = .ok (.invokestatic 111, 3) := by decide +kernel
theorem dX1_piece_13 : decode cX1_piece 13 = .ok (.iload_n 3, 1) := by decide +kernel
theorem dX1_piece_14 : decode cX1_piece 14 = .ok (.tableswitch 50 0 2 #[26, 34, 42], 26) := by decide +kernel
theorem dX1_piece_40 : decode cX1_piece 40 = .ok (.aload 4, 2) := by decide +kernel
theorem dX1_piece_42 : decode cX1_piece 42 = .ok (.getfield 80, 3) := by decide +kernel
theorem dX1_piece_45 : decode cX1_piece 45 = .ok (.iload_n 2, 1) := by decide +kernel
theorem dX1_piece_46 : decode cX1_piece 46 = .ok (.iaload, 1) := by decide +kernel
theorem dX1_piece_47 : decode cX1_piece 47 = .ok (.ireturn, 1) := by decide +kernel
theorem dX1_piece_48 : decode cX1_piece 48 = .ok (.aload 4, 2) := by decide +kernel
theorem dX1_piece_50 : decode cX1_piece 50 = .ok (.getfield 103, 3) := by decide +kernel
theorem dX1_piece_53 : decode cX1_piece 53 = .ok (.iload_n 2, 1) := by decide +kernel
theorem dX1_piece_54 : decode cX1_piece 54 = .ok (.iaload, 1) := by decide +kernel
theorem dX1_piece_55 : decode cX1_piece 55 = .ok (.ireturn, 1) := by decide +kernel
theorem dX1_piece_56 : decode cX1_piece 56 = .ok (.aload 4, 2) := by decide +kernel
theorem dX1_piece_58 : decode cX1_piece 58 = .ok (.getfield 119, 3) := by decide +kernel
theorem dX1_piece_61 : decode cX1_piece 61 = .ok (.iload_n 2, 1) := by decide +kernel
theorem dX1_piece_62 : decode cX1_piece 62 = .ok (.iaload, 1) := by decide +kernel
theorem dX1_piece_63 : decode cX1_piece 63 = .ok (.ireturn, 1) := by decide +kernel
theorem dX1_piece_64 : decode cX1_piece 64 = .ok (.new 150, 3) := by decide +kernel
theorem dX1_piece_67 : decode cX1_piece 67 = .ok (.dup, 1) := by decide +kernel
theorem dX1_piece_68 : decode cX1_piece 68 = .ok (.ldc 155, 2) := by decide +kernel
theorem dX1_piece_70 : decode cX1_piece 70 = .ok (.invokespecial 154, 3) := by decide +kernel
theorem dX1_piece_73 : decode cX1_piece 73 = .ok (.athrow, 1) := by decide +kernel
theorem dX1_errors_0 : decode cX1_errors 0 = .ok (.iload_n 1, 1) := by decide +kernel
theorem dX1_errors_1 : decode cX1_errors 1 = .ok (.invokestatic 96, 3) := by decide +kernel
theorem dX1_errors_4 : decode cX1_errors 4 = .ok (.aload_n 0, 1) := by decide +kernel
theorem dX1_errors_5 : decode cX1_errors 5 = .ok (.getfield 23, 3) := by decide +kernel
theorem dX1_errors_8 : decode cX1_errors 8 = .ok (.iload_n 1, 1) := by decide +kernel
theorem dX1_errors_9 : decode cX1_errors 9 = .ok (.iaload, 1) := by decide +kernel
theorem dX1_errors_10 : decode cX1_errors 10 = .ok (.ireturn, 1) := by decide +kernel
theorem dX1_count_0 : decode cX1_count 0 = .ok (.iload_n 1, 1) := by decide +kernel
theorem dX1_count_1 : decode cX1_count 1 = .ok (.tableswitch 73 0 5 #[39, 45, 50, 55, 60, 68], 39) := by decide +kernel
theorem dX1_count_40 : decode cX1_count 40 = .ok (.aload_n 0, 1) := by decide +kernel
theorem dX1_count_41 : decode cX1_count 41 = .ok (.getfield 41, 3) := by decide +kernel
theorem dX1_count_44 : decode cX1_count 44 = .ok (.arraylength, 1) := by decide +kernel
theorem dX1_count_45 : decode cX1_count 45 = .ok (.ireturn, 1) := by decide +kernel
theorem dX1_count_46 : decode cX1_count 46 = .ok (.aload_n 0, 1) := by decide +kernel
theorem dX1_count_47 : decode cX1_count 47 = .ok (.getfield 15, 3) := by decide +kernel
theorem dX1_count_50 : decode cX1_count 50 = .ok (.ireturn, 1) := by decide +kernel
theorem dX1_count_51 : decode cX1_count 51 = .ok (.aload_n 0, 1) := by decide +kernel
theorem dX1_count_52 : decode cX1_count 52 = .ok (.invokevirtual 157, 3) := by decide +kernel
theorem dX1_count_55 : decode cX1_count 55 = .ok (.ireturn, 1) := by decide +kernel
theorem dX1_count_56 : decode cX1_count 56 = .ok (.aload_n 0, 1) := by decide +kernel
theorem dX1_count_57 : decode cX1_count 57 = .ok (.invokevirtual 160, 3) := by decide +kernel
theorem dX1_count_60 : decode cX1_count 60 = .ok (.ireturn, 1) := by decide +kernel
theorem dX1_count_61 : decode cX1_count 61 = .ok (.aload_n 0, 1) := by decide +kernel
theorem dX1_count_62 : decode cX1_count 62 = .ok (.getfield 19, 3) := by decide +kernel
theorem dX1_count_65 : decode cX1_count 65 = .ok (.invokestatic 163, 3) := by decide +kernel
theorem dX1_count_68 : decode cX1_count 68 = .ok (.ireturn, 1) := by decide +kernel
theorem dX1_count_69 : decode cX1_count 69 = .ok (.aload_n 0, 1) := by decide +kernel
theorem dX1_count_70 : decode cX1_count 70 = .ok (.getfield 26, 3) := by decide +kernel
theorem dX1_count_73 : decode cX1_count 73 = .ok (.ireturn, 1) := by decide +kernel
theorem dX1_count_74 : decode cX1_count 74 = .ok (.iconst (-1), 1) := by decide +kernel
theorem dX1_count_75 : decode cX1_count 75 = .ok (.ireturn, 1) := by decide +kernel
theorem dX1_existing_0 : decode cX1_existing 0 = .ok (.iload_n 1, 1) := by decide +kernel
theorem dX1_existing_1 : decode cX1_existing 1 = .ok (.ifCond .lt 20, 3) := by decide +kernel
theorem dX1_existing_4 : decode cX1_existing 4 = .ok (.iload_n 1, 1) := by decide +kernel
theorem dX1_existing_5 : decode cX1_existing 5 = .ok (.aload_n 0, 1) := by decide +kernel
theorem dX1_existing_6 : decode cX1_existing 6 = .ok (.getfield 15, 3) := by decide +kernel
theorem dX1_existing_9 : decode cX1_existing 9 = .ok (.if_icmp .ge 12, 3) := by decide +kernel
theorem dX1_existing_12 : decode cX1_existing 12 = .ok (.iload_n 1, 1) := by decide +kernel
theorem dX1_existing_13 : decode cX1_existing 13 = .ok (.aload_n 0, 1) := by decide +kernel
theorem dX1_existing_14 : decode cX1_existing 14 = .ok (.getfield 11, 3) := by decide +kernel
theorem dX1_existing_17 : decode cX1_existing 17 = .ok (.arraylength, 1) := by decide +kernel
theorem dX1_existing_18 : decode cX1_existing 18 = .ok (.if_icmp .lt 13, 3) := by decide +kernel
theorem dX1_existing_21 : decode cX1_existing 21 = .ok (.new 167, 3) := by decide +kernel
theorem dX1_existing_24 : decode cX1_existing 24 = .ok (.dup, 1) := by decide +kernel
theorem dX1_existing_25 : decode cX1_existing 25 = .ok (.ldc 169, 2) := by decide +kernel
theorem dX1_existing_27 : decode cX1_existing 27 = .ok (.invokespecial 171, 3) := by decide +kernel
theorem dX1_existing_30 : decode cX1_existing 30 = .ok (.athrow, 1) := by decide +kernel
theorem dX1_existing_31 : decode cX1_existing 31 = .ok (.aload_n 0, 1) := by decide +kernel
theorem dX1_existing_32 : decode cX1_existing 32 = .ok (.getfield 11, 3) := by decide +kernel
theorem dX1_existing_35 : decode cX1_existing 35 = .ok (.iload_n 1, 1) := by decide +kernel
theorem dX1_existing_36 : decode cX1_existing 36 = .ok (.aaload, 1) := by decide +kernel
theorem dX1_existing_37 : decode cX1_existing 37 = .ok (.astore_n 2, 1) := by decide +kernel
theorem dX1_existing_38 : decode cX1_existing 38 = .ok (.aload_n 2, 1) := by decide +kernel
theorem dX1_existing_39 : decode cX1_existing 39 = .ok (.ifnonnull 13, 3) := by decide +kernel
theorem dX1_existing_42 : decode cX1_existing 42 = .ok (.new 167, 3) := by decide +kernel
theorem dX1_existing_45 : decode cX1_existing 45 = .ok (.dup, 1) := by decide +kernel
theorem dX1_existing_46 : decode cX1_existing 46 = .ok (.ldc 169, 2) := by decide +kernel
theorem dX1_existing_48 : decode cX1_existing 48 = .ok (.invokespecial 171, 3) := by decide +kernel
theorem dX1_existing_51 : decode cX1_existing 51 = .ok (.athrow, 1) := by decide +kernel
theorem dX1_existing_52 : decode cX1_existing 52 = .ok (.aload_n 2, 1) := by decide +kernel
theorem dX1_existing_53 : decode cX1_existing 53 = .ok (.areturn, 1) := by decide +kernel
theorem dX1_requireCell_0 : decode cX1_requireCell 0 = .ok (.iload_n 1, 1) := by decide +kernel
theorem dX1_requireCell_1 : decode cX1_requireCell 1 = .ok (.ifCond .lt 12, 3) := by decide +kernel
theorem dX1_requireCell_4 : decode cX1_requireCell 4 = .ok (.iload_n 1, 1) := by decide +kernel
theorem dX1_requireCell_5 : decode cX1_requireCell 5 = .ok (.aload_n 0, 1) := by decide +kernel
theorem dX1_requireCell_6 : decode cX1_requireCell 6 = .ok (.getfield 41, 3) := by decide +kernel
theorem dX1_requireCell_9 : decode cX1_requireCell 9 = .ok (.arraylength, 1) := by decide +kernel
theorem dX1_requireCell_10 : decode cX1_requireCell 10 = .ok (.if_icmp .lt 13, 3) := by decide +kernel
theorem dX1_requireCell_13 : decode cX1_requireCell 13 = .ok (.new 172, 3) := by decide +kernel
theorem dX1_requireCell_16 : decode cX1_requireCell 16 = .ok (.dup, 1) := by decide +kernel
theorem dX1_requireCell_17 : decode cX1_requireCell 17 = .ok (.ldc 174, 2) := by decide +kernel
theorem dX1_requireCell_19 : decode cX1_requireCell 19 = .ok (.invokespecial 176, 3) := by decide +kernel
theorem dX1_requireCell_22 : decode cX1_requireCell 22 = .ok (.athrow, 1) := by decide +kernel
theorem dX1_requireCell_23 : decode cX1_requireCell 23 = .ok (.return_, 1) := by decide +kernel
theorem dX1_requireRange_0 : decode cX1_requireRange 0 = .ok (.iload_n 0, 1) := by decide +kernel
theorem dX1_requireRange_1 : decode cX1_requireRange 1 = .ok (.iload_n 1, 1) := by decide +kernel
theorem dX1_requireRange_2 : decode cX1_requireRange 2 = .ok (.if_icmp .lt 8, 3) := by decide +kernel
theorem dX1_requireRange_5 : decode cX1_requireRange 5 = .ok (.iload_n 0, 1) := by decide +kernel
theorem dX1_requireRange_6 : decode cX1_requireRange 6 = .ok (.iload_n 2, 1) := by decide +kernel
theorem dX1_requireRange_7 : decode cX1_requireRange 7 = .ok (.if_icmp .le 13, 3) := by decide +kernel
theorem dX1_requireRange_10 : decode cX1_requireRange 10 = .ok (.new 150, 3) := by decide +kernel
theorem dX1_requireRange_13 : decode cX1_requireRange 13 = .ok (.dup, 1) := by decide +kernel
theorem dX1_requireRange_14 : decode cX1_requireRange 14 = .ok (.ldc 177, 2) := by decide +kernel
theorem dX1_requireRange_16 : decode cX1_requireRange 16 = .ok (.invokespecial 154, 3) := by decide +kernel
theorem dX1_requireRange_19 : decode cX1_requireRange 19 = .ok (.athrow, 1) := by decide +kernel
theorem dX1_requireRange_20 : decode cX1_requireRange 20 = .ok (.return_, 1) := by decide +kernel
theorem dX1_requireGood_0 : decode cX1_requireGood 0 = .ok (.iload_n 0, 1) := by decide +kernel
theorem dX1_requireGood_1 : decode cX1_requireGood 1 = .ok (.iconst 0, 1) := by decide +kernel
theorem dX1_requireGood_2 : decode cX1_requireGood 2 = .ok (.bipush 9, 2) := by decide +kernel
theorem dX1_requireGood_4 : decode cX1_requireGood 4 = .ok (.invokestatic 52, 3) := by decide +kernel
theorem dX1_requireGood_7 : decode cX1_requireGood 7 = .ok (.return_, 1) := by decide +kernel
theorem dX1_requirePerson_0 : decode cX1_requirePerson 0 = .ok (.iload_n 0, 1) := by decide +kernel
theorem dX1_requirePerson_1 : decode cX1_requirePerson 1 = .ok (.iconst 0, 1) := by decide +kernel
theorem dX1_requirePerson_2 : decode cX1_requirePerson 2 = .ok (.bipush 7, 2) := by decide +kernel
theorem dX1_requirePerson_4 : decode cX1_requirePerson 4 = .ok (.invokestatic 52, 3) := by decide +kernel
theorem dX1_requirePerson_7 : decode cX1_requirePerson 7 = .ok (.return_, 1) := by decide +kernel
theorem dX1_requireLine_0 : decode cX1_requireLine 0 = .ok (.iload_n 1, 1) := by decide +kernel
theorem dX1_requireLine_1 : decode cX1_requireLine 1 = .ok (.invokestatic 48, 3) := by decide +kernel
theorem dX1_requireLine_4 : decode cX1_requireLine 4 = .ok (.aload_n 0, 1) := by decide +kernel
theorem dX1_requireLine_5 : decode cX1_requireLine 5 = .ok (.iload_n 1, 1) := by decide +kernel
theorem dX1_requireLine_6 : decode cX1_requireLine 6 = .ok (.invokevirtual 72, 3) := by decide +kernel
theorem dX1_requireLine_9 : decode cX1_requireLine 9 = .ok (.ifCond .ne 13, 3) := by decide +kernel
theorem dX1_requireLine_12 : decode cX1_requireLine 12 = .ok (.new 167, 3) := by decide +kernel
theorem dX1_requireLine_15 : decode cX1_requireLine 15 = .ok (.dup, 1) := by decide +kernel
theorem dX1_requireLine_16 : decode cX1_requireLine 16 = .ok (.ldc 179, 2) := by decide +kernel
theorem dX1_requireLine_18 : decode cX1_requireLine 18 = .ok (.invokespecial 171, 3) := by decide +kernel
theorem dX1_requireLine_21 : decode cX1_requireLine 21 = .ok (.athrow, 1) := by decide +kernel
theorem dX1_requireLine_22 : decode cX1_requireLine 22 = .ok (.return_, 1) := by decide +kernel
theorem dX1_requireState_0 : decode cX1_requireState 0 = .ok (.iload_n 0, 1) := by decide +kernel
theorem dX1_requireState_1 : decode cX1_requireState 1 = .ok (.ifCond .ne 13, 3) := by decide +kernel
theorem dX1_requireState_4 : decode cX1_requireState 4 = .ok (.new 106, 3) := by decide +kernel
theorem dX1_requireState_7 : decode cX1_requireState 7 = .ok (.dup, 1) := by decide +kernel
theorem dX1_requireState_8 : decode cX1_requireState 8 = .ok (.ldc 181, 2) := by decide +kernel
theorem dX1_requireState_10 : decode cX1_requireState 10 = .ok (.invokespecial 110, 3) := by decide +kernel
theorem dX1_requireState_13 : decode cX1_requireState 13 = .ok (.athrow, 1) := by decide +kernel
theorem dX1_requireState_14 : decode cX1_requireState 14 = .ok (.return_, 1) := by decide +kernel
theorem dX1_lowestUsableCell_0 : decode cX1_lowestUsableCell 0 = .ok (.iconst 0, 1) := by decide +kernel
theorem dX1_lowestUsableCell_1 : decode cX1_lowestUsableCell 1 = .ok (.istore_n 1, 1) := by decide +kernel
theorem dX1_lowestUsableCell_2 : decode cX1_lowestUsableCell 2 = .ok (.iload_n 1, 1) := by decide +kernel
theorem dX1_lowestUsableCell_3 : decode cX1_lowestUsableCell 3 = .ok (.aload_n 0, 1) := by decide +kernel
theorem dX1_lowestUsableCell_4 : decode cX1_lowestUsableCell 4 = .ok (.getfield 41, 3) := by decide +kernel
theorem dX1_lowestUsableCell_7 : decode cX1_lowestUsableCell 7 = .ok (.arraylength, 1) := by decide +kernel
theorem dX1_lowestUsableCell_8 : decode cX1_lowestUsableCell 8 = .ok (.if_icmp .ge 29, 3) := by decide +kernel
theorem dX1_lowestUsableCell_11 : decode cX1_lowestUsableCell 11 = .ok (.aload_n 0, 1) := by decide +kernel
theorem dX1_lowestUsableCell_12 : decode cX1_lowestUsableCell 12 = .ok (.getfield 41, 3) := by decide +kernel
theorem dX1_lowestUsableCell_15 : decode cX1_lowestUsableCell 15 = .ok (.iload_n 1, 1) := by decide +kernel
theorem dX1_lowestUsableCell_16 : decode cX1_lowestUsableCell 16 = .ok (.aaload, 1) := by decide +kernel
theorem dX1_lowestUsableCell_17 : decode cX1_lowestUsableCell 17 = .ok (.ifnonnull 14, 3) := by decide +kernel
theorem dX1_lowestUsableCell_20 : decode cX1_lowestUsableCell 20 = .ok (.aload_n 0, 1) := by decide +kernel
theorem dX1_lowestUsableCell_21 : decode cX1_lowestUsableCell 21 = .ok (.getfield 44, 3) := by decide +kernel
theorem dX1_lowestUsableCell_24 : decode cX1_lowestUsableCell 24 = .ok (.iload_n 1, 1) := by decide +kernel
theorem dX1_lowestUsableCell_25 : decode cX1_lowestUsableCell 25 = .ok (.baload, 1) := by decide +kernel
theorem dX1_lowestUsableCell_26 : decode cX1_lowestUsableCell 26 = .ok (.ifCond .ne 5, 3) := by decide +kernel
theorem dX1_lowestUsableCell_29 : decode cX1_lowestUsableCell 29 = .ok (.iload_n 1, 1) := by decide +kernel
theorem dX1_lowestUsableCell_30 : decode cX1_lowestUsableCell 30 = .ok (.ireturn, 1) := by decide +kernel
theorem dX1_lowestUsableCell_31 : decode cX1_lowestUsableCell 31 = .ok (.iinc 1 1, 3) := by decide +kernel
theorem dX1_lowestUsableCell_34 : decode cX1_lowestUsableCell 34 = .ok (.goto (-32), 3) := by decide +kernel
theorem dX1_lowestUsableCell_37 : decode cX1_lowestUsableCell 37 = .ok (.iconst (-1), 1) := by decide +kernel
theorem dX1_lowestUsableCell_38 : decode cX1_lowestUsableCell 38 = .ok (.ireturn, 1) := by decide +kernel
theorem dX1_put_0 : decode cX1_put 0 = .ok (.aload_n 1, 1) := by decide +kernel
theorem dX1_put_1 : decode cX1_put 1 = .ok (.ifnonnull 5, 3) := by decide +kernel
theorem dX1_put_4 : decode cX1_put 4 = .ok (.iconst (-1), 1) := by decide +kernel
theorem dX1_put_5 : decode cX1_put 5 = .ok (.ireturn, 1) := by decide +kernel
theorem dX1_put_6 : decode cX1_put 6 = .ok (.iload_n 2, 1) := by decide +kernel
theorem dX1_put_7 : decode cX1_put 7 = .ok (.ifCond .eq 6, 3) := by decide +kernel
theorem dX1_put_10 : decode cX1_put 10 = .ok (.bipush (-2), 2) := by decide +kernel
theorem dX1_put_12 : decode cX1_put 12 = .ok (.ireturn, 1) := by decide +kernel
theorem dX1_put_13 : decode cX1_put 13 = .ok (.aload_n 1, 1) := by decide +kernel
theorem dX1_put_14 : decode cX1_put 14 = .ok (.iload_n 3, 1) := by decide +kernel
theorem dX1_put_15 : decode cX1_put 15 = .ok (.invokevirtual 72, 3) := by decide +kernel
theorem dX1_put_18 : decode cX1_put 18 = .ok (.ifCond .ne 6, 3) := by decide +kernel
theorem dX1_put_21 : decode cX1_put 21 = .ok (.bipush (-3), 2) := by decide +kernel
theorem dX1_put_23 : decode cX1_put 23 = .ok (.ireturn, 1) := by decide +kernel
theorem dX1_put_24 : decode cX1_put 24 = .ok (.aload_n 1, 1) := by decide +kernel
theorem dX1_put_25 : decode cX1_put 25 = .ok (.iload_n 3, 1) := by decide +kernel
theorem dX1_put_26 : decode cX1_put 26 = .ok (.invokevirtual 115, 3) := by decide +kernel
theorem dX1_put_29 : decode cX1_put 29 = .ok (.ifCond .eq 11, 3) := by decide +kernel
theorem dX1_put_32 : decode cX1_put 32 = .ok (.aload_n 1, 1) := by decide +kernel
theorem dX1_put_33 : decode cX1_put 33 = .ok (.getfield 69, 3) := by decide +kernel
theorem dX1_put_36 : decode cX1_put 36 = .ok (.iconst 2, 1) := by decide +kernel
theorem dX1_put_37 : decode cX1_put 37 = .ok (.if_icmp .ne 6, 3) := by decide +kernel
theorem dX1_put_40 : decode cX1_put 40 = .ok (.bipush (-4), 2) := by decide +kernel
theorem dX1_put_42 : decode cX1_put 42 = .ok (.ireturn, 1) := by decide +kernel
theorem dX1_put_43 : decode cX1_put 43 = .ok (.aload_n 0, 1) := by decide +kernel
theorem dX1_put_44 : decode cX1_put 44 = .ok (.getfield 19, 3) := by decide +kernel
theorem dX1_put_47 : decode cX1_put 47 = .ok (.iload_n 3, 1) := by decide +kernel
theorem dX1_put_48 : decode cX1_put 48 = .ok (.iaload, 1) := by decide +kernel
theorem dX1_put_49 : decode cX1_put 49 = .ok (.ifCond .ne 6, 3) := by decide +kernel
theorem dX1_put_52 : decode cX1_put 52 = .ok (.bipush (-5), 2) := by decide +kernel
theorem dX1_put_54 : decode cX1_put 54 = .ok (.ireturn, 1) := by decide +kernel
theorem dX1_put_55 : decode cX1_put 55 = .ok (.aload_n 0, 1) := by decide +kernel
theorem dX1_put_56 : decode cX1_put 56 = .ok (.getfield 19, 3) := by decide +kernel
theorem dX1_put_59 : decode cX1_put 59 = .ok (.iload_n 3, 1) := by decide +kernel
theorem dX1_put_60 : decode cX1_put 60 = .ok (.dup2, 1) := by decide +kernel
theorem dX1_put_61 : decode cX1_put 61 = .ok (.iaload, 1) := by decide +kernel
theorem dX1_put_62 : decode cX1_put 62 = .ok (.iconst 1, 1) := by decide +kernel
theorem dX1_put_63 : decode cX1_put 63 = .ok (.isub, 1) := by decide +kernel
theorem dX1_put_64 : decode cX1_put 64 = .ok (.iastore, 1) := by decide +kernel
theorem dX1_put_65 : decode cX1_put 65 = .ok (.aload_n 1, 1) := by decide +kernel
theorem dX1_put_66 : decode cX1_put 66 = .ok (.getfield 103, 3) := by decide +kernel
theorem dX1_put_69 : decode cX1_put 69 = .ok (.iload_n 3, 1) := by decide +kernel
theorem dX1_put_70 : decode cX1_put 70 = .ok (.dup2, 1) := by decide +kernel
theorem dX1_put_71 : decode cX1_put 71 = .ok (.iaload, 1) := by decide +kernel
theorem dX1_put_72 : decode cX1_put 72 = .ok (.iconst 1, 1) := by decide +kernel
theorem dX1_put_73 : decode cX1_put 73 = .ok (.iadd, 1) := by decide +kernel
theorem dX1_put_74 : decode cX1_put 74 = .ok (.iastore, 1) := by decide +kernel
theorem dX1_put_75 : decode cX1_put 75 = .ok (.iconst 1, 1) := by decide +kernel
theorem dX1_put_76 : decode cX1_put 76 = .ok (.ireturn, 1) := by decide +kernel
theorem dX1_completeCount_0 : decode cX1_completeCount 0 = .ok (.iconst 0, 1) := by decide +kernel
theorem dX1_completeCount_1 : decode cX1_completeCount 1 = .ok (.istore_n 1, 1) := by decide +kernel
theorem dX1_completeCount_2 : decode cX1_completeCount 2 = .ok (.iconst 0, 1) := by decide +kernel
theorem dX1_completeCount_3 : decode cX1_completeCount 3 = .ok (.istore_n 2, 1) := by decide +kernel
theorem dX1_completeCount_4 : decode cX1_completeCount 4 = .ok (.iload_n 2, 1) := by decide +kernel
theorem dX1_completeCount_5 : decode cX1_completeCount 5 = .ok (.aload_n 0, 1) := by decide +kernel
theorem dX1_completeCount_6 : decode cX1_completeCount 6 = .ok (.getfield 41, 3) := by decide +kernel
theorem dX1_completeCount_9 : decode cX1_completeCount 9 = .ok (.arraylength, 1) := by decide +kernel
theorem dX1_completeCount_10 : decode cX1_completeCount 10 = .ok (.if_icmp .ge 31, 3) := by decide +kernel
theorem dX1_completeCount_13 : decode cX1_completeCount 13 = .ok (.aload_n 0, 1) := by decide +kernel
theorem dX1_completeCount_14 : decode cX1_completeCount 14 = .ok (.getfield 41, 3) := by decide +kernel
theorem dX1_completeCount_17 : decode cX1_completeCount 17 = .ok (.iload_n 2, 1) := by decide +kernel
theorem dX1_completeCount_18 : decode cX1_completeCount 18 = .ok (.aaload, 1) := by decide +kernel
theorem dX1_completeCount_19 : decode cX1_completeCount 19 = .ok (.astore_n 3, 1) := by decide +kernel
theorem dX1_completeCount_20 : decode cX1_completeCount 20 = .ok (.aload_n 3, 1) := by decide +kernel
theorem dX1_completeCount_21 : decode cX1_completeCount 21 = .ok (.ifnull 14, 3) := by decide +kernel
theorem dX1_completeCount_24 : decode cX1_completeCount 24 = .ok (.aload_n 3, 1) := by decide +kernel
theorem dX1_completeCount_25 : decode cX1_completeCount 25 = .ok (.getfield 69, 3) := by decide +kernel
theorem dX1_completeCount_28 : decode cX1_completeCount 28 = .ok (.iconst 2, 1) := by decide +kernel
theorem dX1_completeCount_29 : decode cX1_completeCount 29 = .ok (.if_icmp .ne 6, 3) := by decide +kernel
theorem dX1_completeCount_32 : decode cX1_completeCount 32 = .ok (.iinc 1 1, 3) := by decide +kernel
theorem dX1_completeCount_35 : decode cX1_completeCount 35 = .ok (.iinc 2 1, 3) := by decide +kernel
theorem dX1_completeCount_38 : decode cX1_completeCount 38 = .ok (.goto (-34), 3) := by decide +kernel
theorem dX1_completeCount_41 : decode cX1_completeCount 41 = .ok (.iload_n 1, 1) := by decide +kernel
theorem dX1_completeCount_42 : decode cX1_completeCount 42 = .ok (.ireturn, 1) := by decide +kernel
theorem dX1_completeByCell_0 : decode cX1_completeByCell 0 = .ok (.iconst 0, 1) := by decide +kernel
theorem dX1_completeByCell_1 : decode cX1_completeByCell 1 = .ok (.istore_n 2, 1) := by decide +kernel
theorem dX1_completeByCell_2 : decode cX1_completeByCell 2 = .ok (.iconst 0, 1) := by decide +kernel
theorem dX1_completeByCell_3 : decode cX1_completeByCell 3 = .ok (.istore_n 3, 1) := by decide +kernel
theorem dX1_completeByCell_4 : decode cX1_completeByCell 4 = .ok (.iload_n 3, 1) := by decide +kernel
theorem dX1_completeByCell_5 : decode cX1_completeByCell 5 = .ok (.aload_n 0, 1) := by decide +kernel
theorem dX1_completeByCell_6 : decode cX1_completeByCell 6 = .ok (.getfield 41, 3) := by decide +kernel
theorem dX1_completeByCell_9 : decode cX1_completeByCell 9 = .ok (.arraylength, 1) := by decide +kernel
theorem dX1_completeByCell_10 : decode cX1_completeByCell 10 = .ok (.if_icmp .ge 45, 3) := by decide +kernel
theorem dX1_completeByCell_13 : decode cX1_completeByCell 13 = .ok (.aload_n 0, 1) := by decide +kernel
theorem dX1_completeByCell_14 : decode cX1_completeByCell 14 = .ok (.getfield 41, 3) := by decide +kernel
theorem dX1_completeByCell_17 : decode cX1_completeByCell 17 = .ok (.iload_n 3, 1) := by decide +kernel
theorem dX1_completeByCell_18 : decode cX1_completeByCell 18 = .ok (.aaload, 1) := by decide +kernel
theorem dX1_completeByCell_19 : decode cX1_completeByCell 19 = .ok (.astore 4, 2) := by decide +kernel
theorem dX1_completeByCell_21 : decode cX1_completeByCell 21 = .ok (.aload 4, 2) := by decide +kernel
theorem dX1_completeByCell_23 : decode cX1_completeByCell 23 = .ok (.ifnull 26, 3) := by decide +kernel
theorem dX1_completeByCell_26 : decode cX1_completeByCell 26 = .ok (.aload 4, 2) := by decide +kernel
theorem dX1_completeByCell_28 : decode cX1_completeByCell 28 = .ok (.getfield 69, 3) := by decide +kernel
theorem dX1_completeByCell_31 : decode cX1_completeByCell 31 = .ok (.iconst 2, 1) := by decide +kernel
theorem dX1_completeByCell_32 : decode cX1_completeByCell 32 = .ok (.if_icmp .ne 17, 3) := by decide +kernel
theorem dX1_completeByCell_35 : decode cX1_completeByCell 35 = .ok (.iload_n 2, 1) := by decide +kernel
theorem dX1_completeByCell_36 : decode cX1_completeByCell 36 = .ok (.iload_n 1, 1) := by decide +kernel
theorem dX1_completeByCell_37 : decode cX1_completeByCell 37 = .ok (.if_icmp .ne 9, 3) := by decide +kernel
theorem dX1_completeByCell_40 : decode cX1_completeByCell 40 = .ok (.aload 4, 2) := by decide +kernel
theorem dX1_completeByCell_42 : decode cX1_completeByCell 42 = .ok (.getfield 183, 3) := by decide +kernel
theorem dX1_completeByCell_45 : decode cX1_completeByCell 45 = .ok (.ireturn, 1) := by decide +kernel
theorem dX1_completeByCell_46 : decode cX1_completeByCell 46 = .ok (.iinc 2 1, 3) := by decide +kernel
theorem dX1_completeByCell_49 : decode cX1_completeByCell 49 = .ok (.iinc 3 1, 3) := by decide +kernel
theorem dX1_completeByCell_52 : decode cX1_completeByCell 52 = .ok (.goto (-48), 3) := by decide +kernel
theorem dX1_completeByCell_55 : decode cX1_completeByCell 55 = .ok (.iconst (-1), 1) := by decide +kernel
theorem dX1_completeByCell_56 : decode cX1_completeByCell 56 = .ok (.ireturn, 1) := by decide +kernel
theorem dX1_freeCells_0 : decode cX1_freeCells 0 = .ok (.iconst 0, 1) := by decide +kernel
theorem dX1_freeCells_1 : decode cX1_freeCells 1 = .ok (.istore_n 1, 1) := by decide +kernel
theorem dX1_freeCells_2 : decode cX1_freeCells 2 = .ok (.iconst 0, 1) := by decide +kernel
theorem dX1_freeCells_3 : decode cX1_freeCells 3 = .ok (.istore_n 2, 1) := by decide +kernel
theorem dX1_freeCells_4 : decode cX1_freeCells 4 = .ok (.iload_n 2, 1) := by decide +kernel
theorem dX1_freeCells_5 : decode cX1_freeCells 5 = .ok (.aload_n 0, 1) := by decide +kernel
theorem dX1_freeCells_6 : decode cX1_freeCells 6 = .ok (.getfield 41, 3) := by decide +kernel
theorem dX1_freeCells_9 : decode cX1_freeCells 9 = .ok (.arraylength, 1) := by decide +kernel
theorem dX1_freeCells_10 : decode cX1_freeCells 10 = .ok (.if_icmp .ge 21, 3) := by decide +kernel
theorem dX1_freeCells_13 : decode cX1_freeCells 13 = .ok (.aload_n 0, 1) := by decide +kernel
theorem dX1_freeCells_14 : decode cX1_freeCells 14 = .ok (.getfield 41, 3) := by decide +kernel
theorem dX1_freeCells_17 : decode cX1_freeCells 17 = .ok (.iload_n 2, 1) := by decide +kernel
theorem dX1_freeCells_18 : decode cX1_freeCells 18 = .ok (.aaload, 1) := by decide +kernel
theorem dX1_freeCells_19 : decode cX1_freeCells 19 = .ok (.ifnonnull 6, 3) := by decide +kernel
theorem dX1_freeCells_22 : decode cX1_freeCells 22 = .ok (.iinc 1 1, 3) := by decide +kernel
theorem dX1_freeCells_25 : decode cX1_freeCells 25 = .ok (.iinc 2 1, 3) := by decide +kernel
theorem dX1_freeCells_28 : decode cX1_freeCells 28 = .ok (.goto (-24), 3) := by decide +kernel
theorem dX1_freeCells_31 : decode cX1_freeCells 31 = .ok (.iload_n 1, 1) := by decide +kernel
theorem dX1_freeCells_32 : decode cX1_freeCells 32 = .ok (.ireturn, 1) := by decide +kernel
theorem dX1_piecesInCells_0 : decode cX1_piecesInCells 0 = .ok (.iconst 0, 1) := by decide +kernel
theorem dX1_piecesInCells_1 : decode cX1_piecesInCells 1 = .ok (.istore_n 1, 1) := by decide +kernel
theorem dX1_piecesInCells_2 : decode cX1_piecesInCells 2 = .ok (.iconst 0, 1) := by decide +kernel
theorem dX1_piecesInCells_3 : decode cX1_piecesInCells 3 = .ok (.istore_n 2, 1) := by decide +kernel
theorem dX1_piecesInCells_4 : decode cX1_piecesInCells 4 = .ok (.iload_n 2, 1) := by decide +kernel
theorem dX1_piecesInCells_5 : decode cX1_piecesInCells 5 = .ok (.aload_n 0, 1) := by decide +kernel
theorem dX1_piecesInCells_6 : decode cX1_piecesInCells 6 = .ok (.getfield 41, 3) := by decide +kernel
theorem dX1_piecesInCells_9 : decode cX1_piecesInCells 9 = .ok (.arraylength, 1) := by decide +kernel
theorem dX1_piecesInCells_10 : decode cX1_piecesInCells 10 = .ok (.if_icmp .ge 27, 3) := by decide +kernel
theorem dX1_piecesInCells_13 : decode cX1_piecesInCells 13 = .ok (.aload_n 0, 1) := by decide +kernel
theorem dX1_piecesInCells_14 : decode cX1_piecesInCells 14 = .ok (.getfield 41, 3) := by decide +kernel
theorem dX1_piecesInCells_17 : decode cX1_piecesInCells 17 = .ok (.iload_n 2, 1) := by decide +kernel
theorem dX1_piecesInCells_18 : decode cX1_piecesInCells 18 = .ok (.aaload, 1) := by decide +kernel
theorem dX1_piecesInCells_19 : decode cX1_piecesInCells 19 = .ok (.astore_n 3, 1) := by decide +kernel
theorem dX1_piecesInCells_20 : decode cX1_piecesInCells 20 = .ok (.aload_n 3, 1) := by decide +kernel
theorem dX1_piecesInCells_21 : decode cX1_piecesInCells 21 = .ok (.ifnull 10, 3) := by decide +kernel
theorem dX1_piecesInCells_24 : decode cX1_piecesInCells 24 = .ok (.iload_n 1, 1) := by decide +kernel
theorem dX1_piecesInCells_25 : decode cX1_piecesInCells 25 = .ok (.aload_n 3, 1) := by decide +kernel
theorem dX1_piecesInCells_26 : decode cX1_piecesInCells 26 = .ok (.invokevirtual 141, 3) := by decide +kernel
theorem dX1_piecesInCells_29 : decode cX1_piecesInCells 29 = .ok (.iadd, 1) := by decide +kernel
theorem dX1_piecesInCells_30 : decode cX1_piecesInCells 30 = .ok (.istore_n 1, 1) := by decide +kernel
theorem dX1_piecesInCells_31 : decode cX1_piecesInCells 31 = .ok (.iinc 2 1, 3) := by decide +kernel
theorem dX1_piecesInCells_34 : decode cX1_piecesInCells 34 = .ok (.goto (-30), 3) := by decide +kernel
theorem dX1_piecesInCells_37 : decode cX1_piecesInCells 37 = .ok (.iload_n 1, 1) := by decide +kernel
theorem dX1_piecesInCells_38 : decode cX1_piecesInCells 38 = .ok (.ireturn, 1) := by decide +kernel
theorem dX1_sum_0 : decode cX1_sum 0 = .ok (.iconst 0, 1) := by decide +kernel
theorem dX1_sum_1 : decode cX1_sum 1 = .ok (.istore_n 1, 1) := by decide +kernel
theorem dX1_sum_2 : decode cX1_sum 2 = .ok (.iconst 0, 1) := by decide +kernel
theorem dX1_sum_3 : decode cX1_sum 3 = .ok (.istore_n 2, 1) := by decide +kernel
theorem dX1_sum_4 : decode cX1_sum 4 = .ok (.iload_n 2, 1) := by decide +kernel
theorem dX1_sum_5 : decode cX1_sum 5 = .ok (.aload_n 0, 1) := by decide +kernel
theorem dX1_sum_6 : decode cX1_sum 6 = .ok (.arraylength, 1) := by decide +kernel
theorem dX1_sum_7 : decode cX1_sum 7 = .ok (.if_icmp .ge 15, 3) := by decide +kernel
theorem dX1_sum_10 : decode cX1_sum 10 = .ok (.iload_n 1, 1) := by decide +kernel
theorem dX1_sum_11 : decode cX1_sum 11 = .ok (.aload_n 0, 1) := by decide +kernel
theorem dX1_sum_12 : decode cX1_sum 12 = .ok (.iload_n 2, 1) := by decide +kernel
theorem dX1_sum_13 : decode cX1_sum 13 = .ok (.iaload, 1) := by decide +kernel
theorem dX1_sum_14 : decode cX1_sum 14 = .ok (.iadd, 1) := by decide +kernel
theorem dX1_sum_15 : decode cX1_sum 15 = .ok (.istore_n 1, 1) := by decide +kernel
theorem dX1_sum_16 : decode cX1_sum 16 = .ok (.iinc 2 1, 3) := by decide +kernel
theorem dX1_sum_19 : decode cX1_sum 19 = .ok (.goto (-15), 3) := by decide +kernel
theorem dX1_sum_22 : decode cX1_sum 22 = .ok (.iload_n 1, 1) := by decide +kernel
theorem dX1_sum_23 : decode cX1_sum 23 = .ok (.ireturn, 1) := by decide +kernel
theorem dJx00060_init_a7421_0 : decode cJx00060_init_a7421 0 = .ok (.aload_n 0, 1) := by decide +kernel
theorem dJx00060_init_a7421_1 : decode cJx00060_init_a7421 1 = .ok (.aload_n 1, 1) := by decide +kernel
theorem dJx00060_init_a7421_2 : decode cJx00060_init_a7421 2 = .ok (.invokespecial 7, 3) := by decide +kernel
theorem dJx00060_init_a7421_5 : decode cJx00060_init_a7421 5 = .ok (.return_, 1) := by decide +kernel
theorem dJ9_max_7cf53_0 : decode cJ9_max_7cf53 0 = .ok (.iload_n 0, 1) := by decide +kernel
theorem dJ9_max_7cf53_1 : decode cJ9_max_7cf53 1 = .ok (.iload_n 1, 1) := by decide +kernel
theorem dJ9_max_7cf53_2 : decode cJ9_max_7cf53 2 = .ok (.if_icmp .lt 7, 3) := by decide +kernel
theorem dJ9_max_7cf53_5 : decode cJ9_max_7cf53 5 = .ok (.iload_n 0, 1) := by decide +kernel
theorem dJ9_max_7cf53_6 : decode cJ9_max_7cf53 6 = .ok (.goto 4, 3) := by decide +kernel
theorem dJ9_max_7cf53_9 : decode cJ9_max_7cf53 9 = .ok (.iload_n 1, 1) := by decide +kernel
theorem dJ9_max_7cf53_10 : decode cJ9_max_7cf53 10 = .ok (.ireturn, 1) := by decide +kernel
theorem dJ9_min_7cf53_0 : decode cJ9_min_7cf53 0 = .ok (.iload_n 0, 1) := by decide +kernel
theorem dJ9_min_7cf53_1 : decode cJ9_min_7cf53 1 = .ok (.iload_n 1, 1) := by decide +kernel
theorem dJ9_min_7cf53_2 : decode cJ9_min_7cf53 2 = .ok (.if_icmp .gt 7, 3) := by decide +kernel
theorem dJ9_min_7cf53_5 : decode cJ9_min_7cf53 5 = .ok (.iload_n 0, 1) := by decide +kernel
theorem dJ9_min_7cf53_6 : decode cJ9_min_7cf53 6 = .ok (.goto 4, 3) := by decide +kernel
theorem dJ9_min_7cf53_9 : decode cJ9_min_7cf53 9 = .ok (.iload_n 1, 1) := by decide +kernel
theorem dJ9_min_7cf53_10 : decode cJ9_min_7cf53 10 = .ok (.ireturn, 1) := by decide +kernel
theorem dJ7_fill_53178_0 : decode cJ7_fill_53178 0 = .ok (.iconst 0, 1) := by decide +kernel
theorem dJ7_fill_53178_1 : decode cJ7_fill_53178 1 = .ok (.istore_n 2, 1) := by decide +kernel
theorem dJ7_fill_53178_2 : decode cJ7_fill_53178 2 = .ok (.aload_n 0, 1) := by decide +kernel
theorem dJ7_fill_53178_3 : decode cJ7_fill_53178 3 = .ok (.arraylength, 1) := by decide +kernel
theorem dJ7_fill_53178_4 : decode cJ7_fill_53178 4 = .ok (.istore_n 3, 1) := by decide +kernel
theorem dJ7_fill_53178_5 : decode cJ7_fill_53178 5 = .ok (.iload_n 2, 1) := by decide +kernel
theorem dJ7_fill_53178_6 : decode cJ7_fill_53178 6 = .ok (.iload_n 3, 1) := by decide +kernel
theorem dJ7_fill_53178_7 : decode cJ7_fill_53178 7 = .ok (.if_icmp .ge 13, 3) := by decide +kernel
theorem dJ7_fill_53178_10 : decode cJ7_fill_53178 10 = .ok (.aload_n 0, 1) := by decide +kernel
theorem dJ7_fill_53178_11 : decode cJ7_fill_53178 11 = .ok (.iload_n 2, 1) := by decide +kernel
theorem dJ7_fill_53178_12 : decode cJ7_fill_53178 12 = .ok (.iload_n 1, 1) := by decide +kernel
theorem dJ7_fill_53178_13 : decode cJ7_fill_53178 13 = .ok (.iastore, 1) := by decide +kernel
theorem dJ7_fill_53178_14 : decode cJ7_fill_53178 14 = .ok (.iinc 2 1, 3) := by decide +kernel
theorem dJ7_fill_53178_17 : decode cJ7_fill_53178 17 = .ok (.goto (-12), 3) := by decide +kernel
theorem dJ7_fill_53178_20 : decode cJ7_fill_53178 20 = .ok (.return_, 1) := by decide +kernel
end
section
theorem dX2_init_0 : decode cX2_init 0 = .ok (.aload_n 0, 1) := by decide +kernel
theorem dX2_init_1 : decode cX2_init 1 = .ok (.invokespecial 1, 3) := by decide +kernel
theorem dX2_init_4 : decode cX2_init 4 = .ok (.aload_n 0, 1) := by decide +kernel
theorem dX2_init_5 : decode cX2_init 5 = .ok (.bipush 16, 2) := by decide +kernel
theorem dX2_init_7 : decode cX2_init 7 = .ok (.newarray .boolean, 2) := by decide +kernel
theorem dX2_init_9 : decode cX2_init 9 = .ok (.putfield 7, 3) := by decide +kernel
theorem dX2_init_12 : decode cX2_init 12 = .ok (.aload_n 0, 1) := by decide +kernel
theorem dX2_init_13 : decode cX2_init 13 = .ok (.bipush 10, 2) := by decide +kernel
theorem dX2_init_15 : decode cX2_init 15 = .ok (.newarray .int, 2) := by decide +kernel
theorem dX2_init_17 : decode cX2_init 17 = .ok (.putfield 13, 3) := by decide +kernel
theorem dX2_init_20 : decode cX2_init 20 = .ok (.aload_n 0, 1) := by decide +kernel
theorem dX2_init_21 : decode cX2_init 21 = .ok (.lconst 1, 1) := by decide +kernel
theorem dX2_init_22 : decode cX2_init 22 = .ok (.putfield 17, 3) := by decide +kernel
theorem dX2_init_25 : decode cX2_init 25 = .ok (.aload_n 0, 1) := by decide +kernel
theorem dX2_init_26 : decode cX2_init 26 = .ok (.bipush 20, 2) := by decide +kernel
theorem dX2_init_28 : decode cX2_init 28 = .ok (.newarray .int, 2) := by decide +kernel
theorem dX2_init_30 : decode cX2_init 30 = .ok (.putfield 21, 3) := by decide +kernel
theorem dX2_init_33 : decode cX2_init 33 = .ok (.aload_n 0, 1) := by decide +kernel
theorem dX2_init_34 : decode cX2_init 34 = .ok (.bipush 20, 2) := by decide +kernel
theorem dX2_init_36 : decode cX2_init 36 = .ok (.newarray .int, 2) := by decide +kernel
theorem dX2_init_38 : decode cX2_init 38 = .ok (.putfield 24, 3) := by decide +kernel
theorem dX2_init_41 : decode cX2_init 41 = .ok (.aload_n 0, 1) := by decide +kernel
theorem dX2_init_42 : decode cX2_init 42 = .ok (.sipush 200, 3) := by decide +kernel
theorem dX2_init_45 : decode cX2_init 45 = .ok (.newarray .int, 2) := by decide +kernel
theorem dX2_init_47 : decode cX2_init 47 = .ok (.putfield 27, 3) := by decide +kernel
theorem dX2_init_50 : decode cX2_init 50 = .ok (.aload_n 0, 1) := by decide +kernel
theorem dX2_init_51 : decode cX2_init 51 = .ok (.sipush 200, 3) := by decide +kernel
theorem dX2_init_54 : decode cX2_init 54 = .ok (.newarray .int, 2) := by decide +kernel
theorem dX2_init_56 : decode cX2_init 56 = .ok (.putfield 30, 3) := by decide +kernel
theorem dX2_init_59 : decode cX2_init 59 = .ok (.aload_n 0, 1) := by decide +kernel
theorem dX2_init_60 : decode cX2_init 60 = .ok (.sipush 200, 3) := by decide +kernel
theorem dX2_init_63 : decode cX2_init 63 = .ok (.newarray .int, 2) := by decide +kernel
theorem dX2_init_65 : decode cX2_init 65 = .ok (.putfield 33, 3) := by decide +kernel
theorem dX2_init_68 : decode cX2_init 68 = .ok (.aload_n 0, 1) := by decide +kernel
theorem dX2_init_69 : decode cX2_init 69 = .ok (.bipush 8, 2) := by decide +kernel
theorem dX2_init_71 : decode cX2_init 71 = .ok (.newarray .int, 2) := by decide +kernel
theorem dX2_init_73 : decode cX2_init 73 = .ok (.putfield 36, 3) := by decide +kernel
theorem dX2_init_76 : decode cX2_init 76 = .ok (.aload_n 0, 1) := by decide +kernel
theorem dX2_init_77 : decode cX2_init 77 = .ok (.iload_n 1, 1) := by decide +kernel
theorem dX2_init_78 : decode cX2_init 78 = .ok (.ifCond .ge 7, 3) := by decide +kernel
theorem dX2_init_81 : decode cX2_init 81 = .ok (.iconst 0, 1) := by decide +kernel
theorem dX2_init_82 : decode cX2_init 82 = .ok (.goto 15, 3) := by decide +kernel
theorem dX2_init_85 : decode cX2_init 85 = .ok (.iload_n 1, 1) := by decide +kernel
theorem dX2_init_86 : decode cX2_init 86 = .ok (.bipush 16, 2) := by decide +kernel
theorem dX2_init_88 : decode cX2_init 88 = .ok (.if_icmp .le 8, 3) := by decide +kernel
theorem dX2_init_91 : decode cX2_init 91 = .ok (.bipush 16, 2) := by decide +kernel
theorem dX2_init_93 : decode cX2_init 93 = .ok (.goto 4, 3) := by decide +kernel
theorem dX2_init_96 : decode cX2_init 96 = .ok (.iload_n 1, 1) := by decide +kernel
theorem dX2_init_97 : decode cX2_init 97 = .ok (.putfield 39, 3) := by decide +kernel
theorem dX2_init_100 : decode cX2_init 100 = .ok (.return_, 1) := by decide +kernel
theorem dX2_thrown_0 : decode cX2_thrown 0 = .ok (.aload_n 0, 1) := by decide +kernel
theorem dX2_thrown_1 : decode cX2_thrown 1 = .ok (.getfield 43, 3) := by decide +kernel
theorem dX2_thrown_4 : decode cX2_thrown 4 = .ok (.ireturn, 1) := by decide +kernel
theorem dX2_below_0 : decode cX2_below 0 = .ok (.iload_n 0, 1) := by decide +kernel
theorem dX2_below_1 : decode cX2_below 1 = .ok (.ifCond .lt 12, 3) := by decide +kernel
theorem dX2_below_4 : decode cX2_below 4 = .ok (.iload_n 0, 1) := by decide +kernel
theorem dX2_below_5 : decode cX2_below 5 = .ok (.iload_n 1, 1) := by decide +kernel
theorem dX2_below_6 : decode cX2_below 6 = .ok (.if_icmp .ge 7, 3) := by decide +kernel
theorem dX2_below_9 : decode cX2_below 9 = .ok (.iconst 1, 1) := by decide +kernel
theorem dX2_below_10 : decode cX2_below 10 = .ok (.goto 4, 3) := by decide +kernel
theorem dX2_below_13 : decode cX2_below 13 = .ok (.iconst 0, 1) := by decide +kernel
theorem dX2_below_14 : decode cX2_below 14 = .ok (.ireturn, 1) := by decide +kernel
theorem dX2_hasLine_0 : decode cX2_hasLine 0 = .ok (.aload_n 0, 1) := by decide +kernel
theorem dX2_hasLine_1 : decode cX2_hasLine 1 = .ok (.getfield 27, 3) := by decide +kernel
theorem dX2_hasLine_4 : decode cX2_hasLine 4 = .ok (.bipush 10, 2) := by decide +kernel
theorem dX2_hasLine_6 : decode cX2_hasLine 6 = .ok (.iload_n 1, 1) := by decide +kernel
theorem dX2_hasLine_7 : decode cX2_hasLine 7 = .ok (.imul, 1) := by decide +kernel
theorem dX2_hasLine_8 : decode cX2_hasLine 8 = .ok (.iload_n 2, 1) := by decide +kernel
theorem dX2_hasLine_9 : decode cX2_hasLine 9 = .ok (.iadd, 1) := by decide +kernel
theorem dX2_hasLine_10 : decode cX2_hasLine 10 = .ok (.iaload, 1) := by decide +kernel
theorem dX2_hasLine_11 : decode cX2_hasLine 11 = .ok (.ifCond .le 7, 3) := by decide +kernel
theorem dX2_hasLine_14 : decode cX2_hasLine 14 = .ok (.iconst 1, 1) := by decide +kernel
theorem dX2_hasLine_15 : decode cX2_hasLine 15 = .ok (.goto 4, 3) := by decide +kernel
theorem dX2_hasLine_18 : decode cX2_hasLine 18 = .ok (.iconst 0, 1) := by decide +kernel
theorem dX2_hasLine_19 : decode cX2_hasLine 19 = .ok (.ireturn, 1) := by decide +kernel
theorem dX2_linesOf_0 : decode cX2_linesOf 0 = .ok (.iconst 0, 1) := by decide +kernel
theorem dX2_linesOf_1 : decode cX2_linesOf 1 = .ok (.istore_n 2, 1) := by decide +kernel
theorem dX2_linesOf_2 : decode cX2_linesOf 2 = .ok (.iconst 0, 1) := by decide +kernel
theorem dX2_linesOf_3 : decode cX2_linesOf 3 = .ok (.istore_n 3, 1) := by decide +kernel
theorem dX2_linesOf_4 : decode cX2_linesOf 4 = .ok (.iload_n 3, 1) := by decide +kernel
theorem dX2_linesOf_5 : decode cX2_linesOf 5 = .ok (.bipush 10, 2) := by decide +kernel
theorem dX2_linesOf_7 : decode cX2_linesOf 7 = .ok (.if_icmp .ge 21, 3) := by decide +kernel
theorem dX2_linesOf_10 : decode cX2_linesOf 10 = .ok (.aload_n 0, 1) := by decide +kernel
theorem dX2_linesOf_11 : decode cX2_linesOf 11 = .ok (.iload_n 1, 1) := by decide +kernel
theorem dX2_linesOf_12 : decode cX2_linesOf 12 = .ok (.iload_n 3, 1) := by decide +kernel
theorem dX2_linesOf_13 : decode cX2_linesOf 13 = .ok (.invokevirtual 46, 3) := by decide +kernel
theorem dX2_linesOf_16 : decode cX2_linesOf 16 = .ok (.ifCond .eq 6, 3) := by decide +kernel
theorem dX2_linesOf_19 : decode cX2_linesOf 19 = .ok (.iinc 2 1, 3) := by decide +kernel
theorem dX2_linesOf_22 : decode cX2_linesOf 22 = .ok (.iinc 3 1, 3) := by decide +kernel
theorem dX2_linesOf_25 : decode cX2_linesOf 25 = .ok (.goto (-21), 3) := by decide +kernel
theorem dX2_linesOf_28 : decode cX2_linesOf 28 = .ok (.iload_n 2, 1) := by decide +kernel
theorem dX2_linesOf_29 : decode cX2_linesOf 29 = .ok (.ireturn, 1) := by decide +kernel
theorem dX2_at_0 : decode cX2_at 0 = .ok (.iconst 0, 1) := by decide +kernel
theorem dX2_at_1 : decode cX2_at 1 = .ok (.istore_n 2, 1) := by decide +kernel
theorem dX2_at_2 : decode cX2_at 2 = .ok (.iload_n 2, 1) := by decide +kernel
theorem dX2_at_3 : decode cX2_at 3 = .ok (.aload_n 0, 1) := by decide +kernel
theorem dX2_at_4 : decode cX2_at 4 = .ok (.getfield 50, 3) := by decide +kernel
theorem dX2_at_7 : decode cX2_at 7 = .ok (.if_icmp .ge 21, 3) := by decide +kernel
theorem dX2_at_10 : decode cX2_at 10 = .ok (.aload_n 0, 1) := by decide +kernel
theorem dX2_at_11 : decode cX2_at 11 = .ok (.getfield 24, 3) := by decide +kernel
theorem dX2_at_14 : decode cX2_at 14 = .ok (.iload_n 2, 1) := by decide +kernel
theorem dX2_at_15 : decode cX2_at 15 = .ok (.iaload, 1) := by decide +kernel
theorem dX2_at_16 : decode cX2_at 16 = .ok (.iload_n 1, 1) := by decide +kernel
theorem dX2_at_17 : decode cX2_at 17 = .ok (.if_icmp .ne 5, 3) := by decide +kernel
theorem dX2_at_20 : decode cX2_at 20 = .ok (.iload_n 2, 1) := by decide +kernel
theorem dX2_at_21 : decode cX2_at 21 = .ok (.ireturn, 1) := by decide +kernel
theorem dX2_at_22 : decode cX2_at 22 = .ok (.iinc 2 1, 3) := by decide +kernel
theorem dX2_at_25 : decode cX2_at 25 = .ok (.goto (-23), 3) := by decide +kernel
theorem dX2_at_28 : decode cX2_at 28 = .ok (.iconst (-1), 1) := by decide +kernel
theorem dX2_at_29 : decode cX2_at 29 = .ok (.ireturn, 1) := by decide +kernel
theorem dX2_tote_0 : decode cX2_tote 0 = .ok (.aload_n 0, 1) := by decide +kernel
theorem dX2_tote_1 : decode cX2_tote 1 = .ok (.iload_n 1, 1) := by decide +kernel
theorem dX2_tote_2 : decode cX2_tote 2 = .ok (.bipush 10, 2) := by decide +kernel
theorem dX2_tote_4 : decode cX2_tote 4 = .ok (.invokestatic 53, 3) := by decide +kernel
theorem dX2_tote_7 : decode cX2_tote 7 = .ok (.ifCond .eq 18, 3) := by decide +kernel
theorem dX2_tote_10 : decode cX2_tote 10 = .ok (.iload_n 2, 1) := by decide +kernel
theorem dX2_tote_11 : decode cX2_tote 11 = .ok (.iconst 1, 1) := by decide +kernel
theorem dX2_tote_12 : decode cX2_tote 12 = .ok (.if_icmp .lt 13, 3) := by decide +kernel
theorem dX2_tote_15 : decode cX2_tote 15 = .ok (.iload_n 2, 1) := by decide +kernel
theorem dX2_tote_16 : decode cX2_tote 16 = .ok (.bipush 100, 2) := by decide +kernel
theorem dX2_tote_18 : decode cX2_tote 18 = .ok (.if_icmp .gt 7, 3) := by decide +kernel
theorem dX2_tote_21 : decode cX2_tote 21 = .ok (.iconst 0, 1) := by decide +kernel
theorem dX2_tote_22 : decode cX2_tote 22 = .ok (.goto 4, 3) := by decide +kernel
theorem dX2_tote_25 : decode cX2_tote 25 = .ok (.iconst 1, 1) := by decide +kernel
theorem dX2_tote_26 : decode cX2_tote 26 = .ok (.putfield 43, 3) := by decide +kernel
theorem dX2_tote_29 : decode cX2_tote 29 = .ok (.aload_n 0, 1) := by decide +kernel
theorem dX2_tote_30 : decode cX2_tote 30 = .ok (.getfield 43, 3) := by decide +kernel
theorem dX2_tote_33 : decode cX2_tote 33 = .ok (.ifCond .eq 5, 3) := by decide +kernel
theorem dX2_tote_36 : decode cX2_tote 36 = .ok (.iconst 0, 1) := by decide +kernel
theorem dX2_tote_37 : decode cX2_tote 37 = .ok (.ireturn, 1) := by decide +kernel
theorem dX2_tote_38 : decode cX2_tote 38 = .ok (.aload_n 0, 1) := by decide +kernel
theorem dX2_tote_39 : decode cX2_tote 39 = .ok (.getfield 13, 3) := by decide +kernel
theorem dX2_tote_42 : decode cX2_tote 42 = .ok (.iload_n 1, 1) := by decide +kernel
theorem dX2_tote_43 : decode cX2_tote 43 = .ok (.dup2, 1) := by decide +kernel
theorem dX2_tote_44 : decode cX2_tote 44 = .ok (.iaload, 1) := by decide +kernel
theorem dX2_tote_45 : decode cX2_tote 45 = .ok (.iload_n 2, 1) := by decide +kernel
theorem dX2_tote_46 : decode cX2_tote 46 = .ok (.iadd, 1) := by decide +kernel
theorem dX2_tote_47 : decode cX2_tote 47 = .ok (.iastore, 1) := by decide +kernel
theorem dX2_tote_48 : decode cX2_tote 48 = .ok (.aload_n 0, 1) := by decide +kernel
theorem dX2_tote_49 : decode cX2_tote 49 = .ok (.getfield 13, 3) := by decide +kernel
theorem dX2_tote_52 : decode cX2_tote 52 = .ok (.iload_n 1, 1) := by decide +kernel
theorem dX2_tote_53 : decode cX2_tote 53 = .ok (.iaload, 1) := by decide +kernel
theorem dX2_tote_54 : decode cX2_tote 54 = .ok (.ireturn, 1) := by decide +kernel
theorem dX2_order_0 : decode cX2_order 0 = .ok (.aload_n 0, 1) := by decide +kernel
theorem dX2_order_1 : decode cX2_order 1 = .ok (.aload_n 0, 1) := by decide +kernel
theorem dX2_order_2 : decode cX2_order 2 = .ok (.getfield 50, 3) := by decide +kernel
theorem dX2_order_5 : decode cX2_order 5 = .ok (.bipush 20, 2) := by decide +kernel
theorem dX2_order_7 : decode cX2_order 7 = .ok (.if_icmp .ne 7, 3) := by decide +kernel
theorem dX2_order_10 : decode cX2_order 10 = .ok (.iconst 1, 1) := by decide +kernel
theorem dX2_order_11 : decode cX2_order 11 = .ok (.goto 4, 3) := by decide +kernel
theorem dX2_order_14 : decode cX2_order 14 = .ok (.iconst 0, 1) := by decide +kernel
theorem dX2_order_15 : decode cX2_order 15 = .ok (.putfield 43, 3) := by decide +kernel
theorem dX2_order_18 : decode cX2_order 18 = .ok (.aload_n 0, 1) := by decide +kernel
theorem dX2_order_19 : decode cX2_order 19 = .ok (.getfield 43, 3) := by decide +kernel
theorem dX2_order_22 : decode cX2_order 22 = .ok (.ifCond .eq 5, 3) := by decide +kernel
theorem dX2_order_25 : decode cX2_order 25 = .ok (.iconst 0, 1) := by decide +kernel
theorem dX2_order_26 : decode cX2_order 26 = .ok (.ireturn, 1) := by decide +kernel
theorem dX2_order_27 : decode cX2_order 27 = .ok (.aload_n 0, 1) := by decide +kernel
theorem dX2_order_28 : decode cX2_order 28 = .ok (.getfield 21, 3) := by decide +kernel
theorem dX2_order_31 : decode cX2_order 31 = .ok (.aload_n 0, 1) := by decide +kernel
theorem dX2_order_32 : decode cX2_order 32 = .ok (.getfield 50, 3) := by decide +kernel
theorem dX2_order_35 : decode cX2_order 35 = .ok (.iconst 0, 1) := by decide +kernel
theorem dX2_order_36 : decode cX2_order 36 = .ok (.iastore, 1) := by decide +kernel
theorem dX2_order_37 : decode cX2_order 37 = .ok (.aload_n 0, 1) := by decide +kernel
theorem dX2_order_38 : decode cX2_order 38 = .ok (.getfield 24, 3) := by decide +kernel
theorem dX2_order_41 : decode cX2_order 41 = .ok (.aload_n 0, 1) := by decide +kernel
theorem dX2_order_42 : decode cX2_order 42 = .ok (.getfield 50, 3) := by decide +kernel
theorem dX2_order_45 : decode cX2_order 45 = .ok (.iconst (-1), 1) := by decide +kernel
theorem dX2_order_46 : decode cX2_order 46 = .ok (.iastore, 1) := by decide +kernel
theorem dX2_order_47 : decode cX2_order 47 = .ok (.aload_n 0, 1) := by decide +kernel
theorem dX2_order_48 : decode cX2_order 48 = .ok (.dup, 1) := by decide +kernel
theorem dX2_order_49 : decode cX2_order 49 = .ok (.getfield 50, 3) := by decide +kernel
theorem dX2_order_52 : decode cX2_order 52 = .ok (.iconst 1, 1) := by decide +kernel
theorem dX2_order_53 : decode cX2_order 53 = .ok (.iadd, 1) := by decide +kernel
theorem dX2_order_54 : decode cX2_order 54 = .ok (.putfield 50, 3) := by decide +kernel
theorem dX2_order_57 : decode cX2_order 57 = .ok (.aload_n 0, 1) := by decide +kernel
theorem dX2_order_58 : decode cX2_order 58 = .ok (.getfield 50, 3) := by decide +kernel
theorem dX2_order_61 : decode cX2_order 61 = .ok (.iconst 1, 1) := by decide +kernel
theorem dX2_order_62 : decode cX2_order 62 = .ok (.isub, 1) := by decide +kernel
theorem dX2_order_63 : decode cX2_order 63 = .ok (.ireturn, 1) := by decide +kernel
theorem dX2_line_0 : decode cX2_line 0 = .ok (.iload_n 2, 1) := by decide +kernel
theorem dX2_line_1 : decode cX2_line 1 = .ok (.bipush 10, 2) := by decide +kernel
theorem dX2_line_3 : decode cX2_line 3 = .ok (.invokestatic 53, 3) := by decide +kernel
theorem dX2_line_6 : decode cX2_line 6 = .ok (.ifCond .eq 18, 3) := by decide +kernel
theorem dX2_line_9 : decode cX2_line 9 = .ok (.iload_n 3, 1) := by decide +kernel
theorem dX2_line_10 : decode cX2_line 10 = .ok (.iconst 1, 1) := by decide +kernel
theorem dX2_line_11 : decode cX2_line 11 = .ok (.if_icmp .lt 13, 3) := by decide +kernel
theorem dX2_line_14 : decode cX2_line 14 = .ok (.iload_n 3, 1) := by decide +kernel
theorem dX2_line_15 : decode cX2_line 15 = .ok (.bipush 9, 2) := by decide +kernel
theorem dX2_line_17 : decode cX2_line 17 = .ok (.if_icmp .gt 7, 3) := by decide +kernel
theorem dX2_line_20 : decode cX2_line 20 = .ok (.iconst 1, 1) := by decide +kernel
theorem dX2_line_21 : decode cX2_line 21 = .ok (.goto 4, 3) := by decide +kernel
theorem dX2_line_24 : decode cX2_line 24 = .ok (.iconst 0, 1) := by decide +kernel
theorem dX2_line_25 : decode cX2_line 25 = .ok (.istore 4, 2) := by decide +kernel
theorem dX2_line_27 : decode cX2_line 27 = .ok (.aload_n 0, 1) := by decide +kernel
theorem dX2_line_28 : decode cX2_line 28 = .ok (.iload_n 1, 1) := by decide +kernel
theorem dX2_line_29 : decode cX2_line 29 = .ok (.aload_n 0, 1) := by decide +kernel
theorem dX2_line_30 : decode cX2_line 30 = .ok (.getfield 50, 3) := by decide +kernel
theorem dX2_line_33 : decode cX2_line 33 = .ok (.invokestatic 53, 3) := by decide +kernel
theorem dX2_line_36 : decode cX2_line 36 = .ok (.ifCond .ne 7, 3) := by decide +kernel
theorem dX2_line_39 : decode cX2_line 39 = .ok (.iconst 1, 1) := by decide +kernel
theorem dX2_line_40 : decode cX2_line 40 = .ok (.goto 35, 3) := by decide +kernel
theorem dX2_line_43 : decode cX2_line 43 = .ok (.iload 4, 2) := by decide +kernel
theorem dX2_line_45 : decode cX2_line 45 = .ok (.ifCond .ne 7, 3) := by decide +kernel
theorem dX2_line_48 : decode cX2_line 48 = .ok (.iconst 2, 1) := by decide +kernel
theorem dX2_line_49 : decode cX2_line 49 = .ok (.goto 26, 3) := by decide +kernel
theorem dX2_line_52 : decode cX2_line 52 = .ok (.aload_n 0, 1) := by decide +kernel
theorem dX2_line_53 : decode cX2_line 53 = .ok (.getfield 21, 3) := by decide +kernel
theorem dX2_line_56 : decode cX2_line 56 = .ok (.iload_n 1, 1) := by decide +kernel
theorem dX2_line_57 : decode cX2_line 57 = .ok (.iaload, 1) := by decide +kernel
theorem dX2_line_58 : decode cX2_line 58 = .ok (.ifCond .ne 12, 3) := by decide +kernel
theorem dX2_line_61 : decode cX2_line 61 = .ok (.aload_n 0, 1) := by decide +kernel
theorem dX2_line_62 : decode cX2_line 62 = .ok (.iload_n 1, 1) := by decide +kernel
theorem dX2_line_63 : decode cX2_line 63 = .ok (.iload_n 2, 1) := by decide +kernel
theorem dX2_line_64 : decode cX2_line 64 = .ok (.invokevirtual 46, 3) := by decide +kernel
theorem dX2_line_67 : decode cX2_line 67 = .ok (.ifCond .eq 7, 3) := by decide +kernel
theorem dX2_line_70 : decode cX2_line 70 = .ok (.iconst 3, 1) := by decide +kernel
theorem dX2_line_71 : decode cX2_line 71 = .ok (.goto 4, 3) := by decide +kernel
theorem dX2_line_74 : decode cX2_line 74 = .ok (.iconst 0, 1) := by decide +kernel
theorem dX2_line_75 : decode cX2_line 75 = .ok (.putfield 43, 3) := by decide +kernel
theorem dX2_line_78 : decode cX2_line 78 = .ok (.aload_n 0, 1) := by decide +kernel
theorem dX2_line_79 : decode cX2_line 79 = .ok (.getfield 43, 3) := by decide +kernel
theorem dX2_line_82 : decode cX2_line 82 = .ok (.ifCond .eq 4, 3) := by decide +kernel
theorem dX2_line_85 : decode cX2_line 85 = .ok (.return_, 1) := by decide +kernel
theorem dX2_line_86 : decode cX2_line 86 = .ok (.aload_n 0, 1) := by decide +kernel
theorem dX2_line_87 : decode cX2_line 87 = .ok (.getfield 27, 3) := by decide +kernel
theorem dX2_line_90 : decode cX2_line 90 = .ok (.bipush 10, 2) := by decide +kernel
theorem dX2_line_92 : decode cX2_line 92 = .ok (.iload_n 1, 1) := by decide +kernel
theorem dX2_line_93 : decode cX2_line 93 = .ok (.imul, 1) := by decide +kernel
theorem dX2_line_94 : decode cX2_line 94 = .ok (.iload_n 2, 1) := by decide +kernel
theorem dX2_line_95 : decode cX2_line 95 = .ok (.iadd, 1) := by decide +kernel
theorem dX2_line_96 : decode cX2_line 96 = .ok (.iload_n 3, 1) := by decide +kernel
theorem dX2_line_97 : decode cX2_line 97 = .ok (.iastore, 1) := by decide +kernel
theorem dX2_line_98 : decode cX2_line 98 = .ok (.aload_n 0, 1) := by decide +kernel
theorem dX2_line_99 : decode cX2_line 99 = .ok (.getfield 30, 3) := by decide +kernel
theorem dX2_line_102 : decode cX2_line 102 = .ok (.bipush 10, 2) := by decide +kernel
theorem dX2_line_104 : decode cX2_line 104 = .ok (.iload_n 1, 1) := by decide +kernel
theorem dX2_line_105 : decode cX2_line 105 = .ok (.imul, 1) := by decide +kernel
theorem dX2_line_106 : decode cX2_line 106 = .ok (.iload_n 2, 1) := by decide +kernel
theorem dX2_line_107 : decode cX2_line 107 = .ok (.iadd, 1) := by decide +kernel
theorem dX2_line_108 : decode cX2_line 108 = .ok (.iconst 0, 1) := by decide +kernel
theorem dX2_line_109 : decode cX2_line 109 = .ok (.iastore, 1) := by decide +kernel
theorem dX2_line_110 : decode cX2_line 110 = .ok (.aload_n 0, 1) := by decide +kernel
theorem dX2_line_111 : decode cX2_line 111 = .ok (.getfield 33, 3) := by decide +kernel
theorem dX2_line_114 : decode cX2_line 114 = .ok (.bipush 10, 2) := by decide +kernel
theorem dX2_line_116 : decode cX2_line 116 = .ok (.iload_n 1, 1) := by decide +kernel
theorem dX2_line_117 : decode cX2_line 117 = .ok (.imul, 1) := by decide +kernel
theorem dX2_line_118 : decode cX2_line 118 = .ok (.iload_n 2, 1) := by decide +kernel
theorem dX2_line_119 : decode cX2_line 119 = .ok (.iadd, 1) := by decide +kernel
theorem dX2_line_120 : decode cX2_line 120 = .ok (.iconst (-1), 1) := by decide +kernel
theorem dX2_line_121 : decode cX2_line 121 = .ok (.iastore, 1) := by decide +kernel
theorem dX2_line_122 : decode cX2_line 122 = .ok (.return_, 1) := by decide +kernel
theorem dX2_cell_0 : decode cX2_cell 0 = .ok (.aload_n 0, 1) := by decide +kernel
theorem dX2_cell_1 : decode cX2_cell 1 = .ok (.iload_n 1, 1) := by decide +kernel
theorem dX2_cell_2 : decode cX2_cell 2 = .ok (.aload_n 0, 1) := by decide +kernel
theorem dX2_cell_3 : decode cX2_cell 3 = .ok (.getfield 50, 3) := by decide +kernel
theorem dX2_cell_6 : decode cX2_cell 6 = .ok (.invokestatic 53, 3) := by decide +kernel
theorem dX2_cell_9 : decode cX2_cell 9 = .ok (.ifCond .ne 7, 3) := by decide +kernel
theorem dX2_cell_12 : decode cX2_cell 12 = .ok (.iconst 1, 1) := by decide +kernel
theorem dX2_cell_13 : decode cX2_cell 13 = .ok (.goto 25, 3) := by decide +kernel
theorem dX2_cell_16 : decode cX2_cell 16 = .ok (.aload_n 0, 1) := by decide +kernel
theorem dX2_cell_17 : decode cX2_cell 17 = .ok (.getfield 21, 3) := by decide +kernel
theorem dX2_cell_20 : decode cX2_cell 20 = .ok (.iload_n 1, 1) := by decide +kernel
theorem dX2_cell_21 : decode cX2_cell 21 = .ok (.iaload, 1) := by decide +kernel
theorem dX2_cell_22 : decode cX2_cell 22 = .ok (.ifCond .ne 11, 3) := by decide +kernel
theorem dX2_cell_25 : decode cX2_cell 25 = .ok (.aload_n 0, 1) := by decide +kernel
theorem dX2_cell_26 : decode cX2_cell 26 = .ok (.iload_n 1, 1) := by decide +kernel
theorem dX2_cell_27 : decode cX2_cell 27 = .ok (.invokevirtual 56, 3) := by decide +kernel
theorem dX2_cell_30 : decode cX2_cell 30 = .ok (.ifCond .ne 7, 3) := by decide +kernel
theorem dX2_cell_33 : decode cX2_cell 33 = .ok (.iconst 2, 1) := by decide +kernel
theorem dX2_cell_34 : decode cX2_cell 34 = .ok (.goto 4, 3) := by decide +kernel
theorem dX2_cell_37 : decode cX2_cell 37 = .ok (.iconst 0, 1) := by decide +kernel
theorem dX2_cell_38 : decode cX2_cell 38 = .ok (.putfield 43, 3) := by decide +kernel
theorem dX2_cell_41 : decode cX2_cell 41 = .ok (.aload_n 0, 1) := by decide +kernel
theorem dX2_cell_42 : decode cX2_cell 42 = .ok (.getfield 43, 3) := by decide +kernel
theorem dX2_cell_45 : decode cX2_cell 45 = .ok (.ifCond .eq 5, 3) := by decide +kernel
theorem dX2_cell_48 : decode cX2_cell 48 = .ok (.iconst 0, 1) := by decide +kernel
theorem dX2_cell_49 : decode cX2_cell 49 = .ok (.ireturn, 1) := by decide +kernel
theorem dX2_cell_50 : decode cX2_cell 50 = .ok (.iconst 0, 1) := by decide +kernel
theorem dX2_cell_51 : decode cX2_cell 51 = .ok (.istore_n 2, 1) := by decide +kernel
theorem dX2_cell_52 : decode cX2_cell 52 = .ok (.iload_n 2, 1) := by decide +kernel
theorem dX2_cell_53 : decode cX2_cell 53 = .ok (.aload_n 0, 1) := by decide +kernel
theorem dX2_cell_54 : decode cX2_cell 54 = .ok (.getfield 39, 3) := by decide +kernel
theorem dX2_cell_57 : decode cX2_cell 57 = .ok (.if_icmp .ge 43, 3) := by decide +kernel
theorem dX2_cell_60 : decode cX2_cell 60 = .ok (.aload_n 0, 1) := by decide +kernel
theorem dX2_cell_61 : decode cX2_cell 61 = .ok (.getfield 7, 3) := by decide +kernel
theorem dX2_cell_64 : decode cX2_cell 64 = .ok (.iload_n 2, 1) := by decide +kernel
theorem dX2_cell_65 : decode cX2_cell 65 = .ok (.baload, 1) := by decide +kernel
theorem dX2_cell_66 : decode cX2_cell 66 = .ok (.ifCond .ne 28, 3) := by decide +kernel
theorem dX2_cell_69 : decode cX2_cell 69 = .ok (.aload_n 0, 1) := by decide +kernel
theorem dX2_cell_70 : decode cX2_cell 70 = .ok (.iload_n 2, 1) := by decide +kernel
theorem dX2_cell_71 : decode cX2_cell 71 = .ok (.invokevirtual 60, 3) := by decide +kernel
theorem dX2_cell_74 : decode cX2_cell 74 = .ok (.iconst (-1), 1) := by decide +kernel
theorem dX2_cell_75 : decode cX2_cell 75 = .ok (.if_icmp .ne 19, 3) := by decide +kernel
theorem dX2_cell_78 : decode cX2_cell 78 = .ok (.aload_n 0, 1) := by decide +kernel
theorem dX2_cell_79 : decode cX2_cell 79 = .ok (.getfield 24, 3) := by decide +kernel
theorem dX2_cell_82 : decode cX2_cell 82 = .ok (.iload_n 1, 1) := by decide +kernel
theorem dX2_cell_83 : decode cX2_cell 83 = .ok (.iload_n 2, 1) := by decide +kernel
theorem dX2_cell_84 : decode cX2_cell 84 = .ok (.iastore, 1) := by decide +kernel
theorem dX2_cell_85 : decode cX2_cell 85 = .ok (.aload_n 0, 1) := by decide +kernel
theorem dX2_cell_86 : decode cX2_cell 86 = .ok (.getfield 21, 3) := by decide +kernel
theorem dX2_cell_89 : decode cX2_cell 89 = .ok (.iload_n 1, 1) := by decide +kernel
theorem dX2_cell_90 : decode cX2_cell 90 = .ok (.iconst 1, 1) := by decide +kernel
theorem dX2_cell_91 : decode cX2_cell 91 = .ok (.iastore, 1) := by decide +kernel
theorem dX2_cell_92 : decode cX2_cell 92 = .ok (.iload_n 2, 1) := by decide +kernel
theorem dX2_cell_93 : decode cX2_cell 93 = .ok (.ireturn, 1) := by decide +kernel
theorem dX2_cell_94 : decode cX2_cell 94 = .ok (.iinc 2 1, 3) := by decide +kernel
theorem dX2_cell_97 : decode cX2_cell 97 = .ok (.goto (-45), 3) := by decide +kernel
theorem dX2_cell_100 : decode cX2_cell 100 = .ok (.iconst (-1), 1) := by decide +kernel
theorem dX2_cell_101 : decode cX2_cell 101 = .ok (.ireturn, 1) := by decide +kernel
theorem dX2_light_0 : decode cX2_light 0 = .ok (.aload_n 0, 1) := by decide +kernel
theorem dX2_light_1 : decode cX2_light 1 = .ok (.iload_n 1, 1) := by decide +kernel
theorem dX2_light_2 : decode cX2_light 2 = .ok (.aload_n 0, 1) := by decide +kernel
theorem dX2_light_3 : decode cX2_light 3 = .ok (.getfield 39, 3) := by decide +kernel
theorem dX2_light_6 : decode cX2_light 6 = .ok (.invokestatic 53, 3) := by decide +kernel
theorem dX2_light_9 : decode cX2_light 9 = .ok (.ifCond .eq 7, 3) := by decide +kernel
theorem dX2_light_12 : decode cX2_light 12 = .ok (.iconst 0, 1) := by decide +kernel
theorem dX2_light_13 : decode cX2_light 13 = .ok (.goto 4, 3) := by decide +kernel
theorem dX2_light_16 : decode cX2_light 16 = .ok (.iconst 1, 1) := by decide +kernel
theorem dX2_light_17 : decode cX2_light 17 = .ok (.putfield 43, 3) := by decide +kernel
theorem dX2_light_20 : decode cX2_light 20 = .ok (.aload_n 0, 1) := by decide +kernel
theorem dX2_light_21 : decode cX2_light 21 = .ok (.getfield 43, 3) := by decide +kernel
theorem dX2_light_24 : decode cX2_light 24 = .ok (.ifCond .eq 5, 3) := by decide +kernel
theorem dX2_light_27 : decode cX2_light 27 = .ok (.iconst 0, 1) := by decide +kernel
theorem dX2_light_28 : decode cX2_light 28 = .ok (.ireturn, 1) := by decide +kernel
theorem dX2_light_29 : decode cX2_light 29 = .ok (.aload_n 0, 1) := by decide +kernel
theorem dX2_light_30 : decode cX2_light 30 = .ok (.getfield 7, 3) := by decide +kernel
theorem dX2_light_33 : decode cX2_light 33 = .ok (.iload_n 1, 1) := by decide +kernel
theorem dX2_light_34 : decode cX2_light 34 = .ok (.baload, 1) := by decide +kernel
theorem dX2_light_35 : decode cX2_light 35 = .ok (.ifCond .ne 7, 3) := by decide +kernel
theorem dX2_light_38 : decode cX2_light 38 = .ok (.iconst 1, 1) := by decide +kernel
theorem dX2_light_39 : decode cX2_light 39 = .ok (.goto 4, 3) := by decide +kernel
theorem dX2_light_42 : decode cX2_light 42 = .ok (.iconst 0, 1) := by decide +kernel
theorem dX2_light_43 : decode cX2_light 43 = .ok (.istore_n 3, 1) := by decide +kernel
theorem dX2_light_44 : decode cX2_light 44 = .ok (.aload_n 0, 1) := by decide +kernel
theorem dX2_light_45 : decode cX2_light 45 = .ok (.getfield 7, 3) := by decide +kernel
theorem dX2_light_48 : decode cX2_light 48 = .ok (.iload_n 1, 1) := by decide +kernel
theorem dX2_light_49 : decode cX2_light 49 = .ok (.iload_n 2, 1) := by decide +kernel
theorem dX2_light_50 : decode cX2_light 50 = .ok (.ifCond .ne 7, 3) := by decide +kernel
theorem dX2_light_53 : decode cX2_light 53 = .ok (.iconst 1, 1) := by decide +kernel
theorem dX2_light_54 : decode cX2_light 54 = .ok (.goto 4, 3) := by decide +kernel
theorem dX2_light_57 : decode cX2_light 57 = .ok (.iconst 0, 1) := by decide +kernel
theorem dX2_light_58 : decode cX2_light 58 = .ok (.bastore, 1) := by decide +kernel
theorem dX2_light_59 : decode cX2_light 59 = .ok (.iload_n 3, 1) := by decide +kernel
theorem dX2_light_60 : decode cX2_light 60 = .ok (.ireturn, 1) := by decide +kernel
theorem dX2_reason_0 : decode cX2_reason 0 = .ok (.aload_n 0, 1) := by decide +kernel
theorem dX2_reason_1 : decode cX2_reason 1 = .ok (.iload_n 1, 1) := by decide +kernel
theorem dX2_reason_2 : decode cX2_reason 2 = .ok (.invokevirtual 60, 3) := by decide +kernel
theorem dX2_reason_5 : decode cX2_reason 5 = .ok (.istore_n 3, 1) := by decide +kernel
theorem dX2_reason_6 : decode cX2_reason 6 = .ok (.iload_n 3, 1) := by decide +kernel
theorem dX2_reason_7 : decode cX2_reason 7 = .ok (.iconst (-1), 1) := by decide +kernel
theorem dX2_reason_8 : decode cX2_reason 8 = .ok (.if_icmp .ne 5, 3) := by decide +kernel
theorem dX2_reason_11 : decode cX2_reason 11 = .ok (.iconst (-1), 1) := by decide +kernel
theorem dX2_reason_12 : decode cX2_reason 12 = .ok (.ireturn, 1) := by decide +kernel
theorem dX2_reason_13 : decode cX2_reason 13 = .ok (.aload_n 0, 1) := by decide +kernel
theorem dX2_reason_14 : decode cX2_reason 14 = .ok (.getfield 7, 3) := by decide +kernel
theorem dX2_reason_17 : decode cX2_reason 17 = .ok (.iload_n 1, 1) := by decide +kernel
theorem dX2_reason_18 : decode cX2_reason 18 = .ok (.baload, 1) := by decide +kernel
theorem dX2_reason_19 : decode cX2_reason 19 = .ok (.ifCond .eq 6, 3) := by decide +kernel
theorem dX2_reason_22 : decode cX2_reason 22 = .ok (.bipush (-2), 2) := by decide +kernel
theorem dX2_reason_24 : decode cX2_reason 24 = .ok (.ireturn, 1) := by decide +kernel
theorem dX2_reason_25 : decode cX2_reason 25 = .ok (.aload_n 0, 1) := by decide +kernel
theorem dX2_reason_26 : decode cX2_reason 26 = .ok (.iload_n 3, 1) := by decide +kernel
theorem dX2_reason_27 : decode cX2_reason 27 = .ok (.iload_n 2, 1) := by decide +kernel
theorem dX2_reason_28 : decode cX2_reason 28 = .ok (.invokevirtual 46, 3) := by decide +kernel
theorem dX2_reason_31 : decode cX2_reason 31 = .ok (.ifCond .ne 6, 3) := by decide +kernel
theorem dX2_reason_34 : decode cX2_reason 34 = .ok (.bipush (-3), 2) := by decide +kernel
theorem dX2_reason_36 : decode cX2_reason 36 = .ok (.ireturn, 1) := by decide +kernel
theorem dX2_reason_37 : decode cX2_reason 37 = .ok (.aload_n 0, 1) := by decide +kernel
theorem dX2_reason_38 : decode cX2_reason 38 = .ok (.getfield 30, 3) := by decide +kernel
theorem dX2_reason_41 : decode cX2_reason 41 = .ok (.bipush 10, 2) := by decide +kernel
theorem dX2_reason_43 : decode cX2_reason 43 = .ok (.iload_n 3, 1) := by decide +kernel
theorem dX2_reason_44 : decode cX2_reason 44 = .ok (.imul, 1) := by decide +kernel
theorem dX2_reason_45 : decode cX2_reason 45 = .ok (.iload_n 2, 1) := by decide +kernel
theorem dX2_reason_46 : decode cX2_reason 46 = .ok (.iadd, 1) := by decide +kernel
theorem dX2_reason_47 : decode cX2_reason 47 = .ok (.iaload, 1) := by decide +kernel
theorem dX2_reason_48 : decode cX2_reason 48 = .ok (.aload_n 0, 1) := by decide +kernel
theorem dX2_reason_49 : decode cX2_reason 49 = .ok (.getfield 27, 3) := by decide +kernel
theorem dX2_reason_52 : decode cX2_reason 52 = .ok (.bipush 10, 2) := by decide +kernel
theorem dX2_reason_54 : decode cX2_reason 54 = .ok (.iload_n 3, 1) := by decide +kernel
theorem dX2_reason_55 : decode cX2_reason 55 = .ok (.imul, 1) := by decide +kernel
theorem dX2_reason_56 : decode cX2_reason 56 = .ok (.iload_n 2, 1) := by decide +kernel
theorem dX2_reason_57 : decode cX2_reason 57 = .ok (.iadd, 1) := by decide +kernel
theorem dX2_reason_58 : decode cX2_reason 58 = .ok (.iaload, 1) := by decide +kernel
theorem dX2_reason_59 : decode cX2_reason 59 = .ok (.if_icmp .eq 13, 3) := by decide +kernel
theorem dX2_reason_62 : decode cX2_reason 62 = .ok (.aload_n 0, 1) := by decide +kernel
theorem dX2_reason_63 : decode cX2_reason 63 = .ok (.getfield 21, 3) := by decide +kernel
theorem dX2_reason_66 : decode cX2_reason 66 = .ok (.iload_n 3, 1) := by decide +kernel
theorem dX2_reason_67 : decode cX2_reason 67 = .ok (.iaload, 1) := by decide +kernel
theorem dX2_reason_68 : decode cX2_reason 68 = .ok (.iconst 2, 1) := by decide +kernel
theorem dX2_reason_69 : decode cX2_reason 69 = .ok (.if_icmp .ne 6, 3) := by decide +kernel
theorem dX2_reason_72 : decode cX2_reason 72 = .ok (.bipush (-4), 2) := by decide +kernel
theorem dX2_reason_74 : decode cX2_reason 74 = .ok (.ireturn, 1) := by decide +kernel
theorem dX2_reason_75 : decode cX2_reason 75 = .ok (.aload_n 0, 1) := by decide +kernel
theorem dX2_reason_76 : decode cX2_reason 76 = .ok (.getfield 13, 3) := by decide +kernel
theorem dX2_reason_79 : decode cX2_reason 79 = .ok (.iload_n 2, 1) := by decide +kernel
theorem dX2_reason_80 : decode cX2_reason 80 = .ok (.iaload, 1) := by decide +kernel
theorem dX2_reason_81 : decode cX2_reason 81 = .ok (.ifCond .ne 8, 3) := by decide +kernel
theorem dX2_reason_84 : decode cX2_reason 84 = .ok (.bipush (-5), 2) := by decide +kernel
theorem dX2_reason_86 : decode cX2_reason 86 = .ok (.goto 4, 3) := by decide +kernel
theorem dX2_reason_89 : decode cX2_reason 89 = .ok (.iconst 0, 1) := by decide +kernel
theorem dX2_reason_90 : decode cX2_reason 90 = .ok (.ireturn, 1) := by decide +kernel
theorem dX2_scan_0 : decode cX2_scan 0 = .ok (.aload_n 0, 1) := by decide +kernel
theorem dX2_scan_1 : decode cX2_scan 1 = .ok (.iload_n 1, 1) := by decide +kernel
theorem dX2_scan_2 : decode cX2_scan 2 = .ok (.aload_n 0, 1) := by decide +kernel
theorem dX2_scan_3 : decode cX2_scan 3 = .ok (.getfield 39, 3) := by decide +kernel
theorem dX2_scan_6 : decode cX2_scan 6 = .ok (.invokestatic 53, 3) := by decide +kernel
theorem dX2_scan_9 : decode cX2_scan 9 = .ok (.ifCond .ne 7, 3) := by decide +kernel
theorem dX2_scan_12 : decode cX2_scan 12 = .ok (.iconst 1, 1) := by decide +kernel
theorem dX2_scan_13 : decode cX2_scan 13 = .ok (.goto 26, 3) := by decide +kernel
theorem dX2_scan_16 : decode cX2_scan 16 = .ok (.iload_n 2, 1) := by decide +kernel
theorem dX2_scan_17 : decode cX2_scan 17 = .ok (.bipush 10, 2) := by decide +kernel
theorem dX2_scan_19 : decode cX2_scan 19 = .ok (.invokestatic 53, 3) := by decide +kernel
theorem dX2_scan_22 : decode cX2_scan 22 = .ok (.ifCond .eq 12, 3) := by decide +kernel
theorem dX2_scan_25 : decode cX2_scan 25 = .ok (.iload_n 3, 1) := by decide +kernel
theorem dX2_scan_26 : decode cX2_scan 26 = .ok (.bipush 8, 2) := by decide +kernel
theorem dX2_scan_28 : decode cX2_scan 28 = .ok (.invokestatic 53, 3) := by decide +kernel
theorem dX2_scan_31 : decode cX2_scan 31 = .ok (.ifCond .ne 7, 3) := by decide +kernel
theorem dX2_scan_34 : decode cX2_scan 34 = .ok (.iconst 2, 1) := by decide +kernel
theorem dX2_scan_35 : decode cX2_scan 35 = .ok (.goto 4, 3) := by decide +kernel
theorem dX2_scan_38 : decode cX2_scan 38 = .ok (.iconst 0, 1) := by decide +kernel
theorem dX2_scan_39 : decode cX2_scan 39 = .ok (.putfield 43, 3) := by decide +kernel
theorem dX2_scan_42 : decode cX2_scan 42 = .ok (.aload_n 0, 1) := by decide +kernel
theorem dX2_scan_43 : decode cX2_scan 43 = .ok (.getfield 43, 3) := by decide +kernel
theorem dX2_scan_46 : decode cX2_scan 46 = .ok (.ifCond .eq 5, 3) := by decide +kernel
theorem dX2_scan_49 : decode cX2_scan 49 = .ok (.iconst 0, 1) := by decide +kernel
theorem dX2_scan_50 : decode cX2_scan 50 = .ok (.ireturn, 1) := by decide +kernel
theorem dX2_scan_51 : decode cX2_scan 51 = .ok (.aload_n 0, 1) := by decide +kernel
theorem dX2_scan_52 : decode cX2_scan 52 = .ok (.iload_n 1, 1) := by decide +kernel
theorem dX2_scan_53 : decode cX2_scan 53 = .ok (.iload_n 2, 1) := by decide +kernel
theorem dX2_scan_54 : decode cX2_scan 54 = .ok (.invokevirtual 63, 3) := by decide +kernel
theorem dX2_scan_57 : decode cX2_scan 57 = .ok (.istore 4, 2) := by decide +kernel
theorem dX2_scan_59 : decode cX2_scan 59 = .ok (.iload 4, 2) := by decide +kernel
theorem dX2_scan_61 : decode cX2_scan 61 = .ok (.ifCond .eq 16, 3) := by decide +kernel
theorem dX2_scan_64 : decode cX2_scan 64 = .ok (.aload_n 0, 1) := by decide +kernel
theorem dX2_scan_65 : decode cX2_scan 65 = .ok (.getfield 36, 3) := by decide +kernel
theorem dX2_scan_68 : decode cX2_scan 68 = .ok (.iload_n 3, 1) := by decide +kernel
theorem dX2_scan_69 : decode cX2_scan 69 = .ok (.dup2, 1) := by decide +kernel
theorem dX2_scan_70 : decode cX2_scan 70 = .ok (.iaload, 1) := by decide +kernel
theorem dX2_scan_71 : decode cX2_scan 71 = .ok (.iconst 1, 1) := by decide +kernel
theorem dX2_scan_72 : decode cX2_scan 72 = .ok (.iadd, 1) := by decide +kernel
theorem dX2_scan_73 : decode cX2_scan 73 = .ok (.iastore, 1) := by decide +kernel
theorem dX2_scan_74 : decode cX2_scan 74 = .ok (.iload 4, 2) := by decide +kernel
theorem dX2_scan_76 : decode cX2_scan 76 = .ok (.ireturn, 1) := by decide +kernel
theorem dX2_scan_77 : decode cX2_scan 77 = .ok (.aload_n 0, 1) := by decide +kernel
theorem dX2_scan_78 : decode cX2_scan 78 = .ok (.getfield 30, 3) := by decide +kernel
theorem dX2_scan_81 : decode cX2_scan 81 = .ok (.bipush 10, 2) := by decide +kernel
theorem dX2_scan_83 : decode cX2_scan 83 = .ok (.aload_n 0, 1) := by decide +kernel
theorem dX2_scan_84 : decode cX2_scan 84 = .ok (.iload_n 1, 1) := by decide +kernel
theorem dX2_scan_85 : decode cX2_scan 85 = .ok (.invokevirtual 60, 3) := by decide +kernel
theorem dX2_scan_88 : decode cX2_scan 88 = .ok (.imul, 1) := by decide +kernel
theorem dX2_scan_89 : decode cX2_scan 89 = .ok (.iload_n 2, 1) := by decide +kernel
theorem dX2_scan_90 : decode cX2_scan 90 = .ok (.iadd, 1) := by decide +kernel
theorem dX2_scan_91 : decode cX2_scan 91 = .ok (.dup2, 1) := by decide +kernel
theorem dX2_scan_92 : decode cX2_scan 92 = .ok (.iaload, 1) := by decide +kernel
theorem dX2_scan_93 : decode cX2_scan 93 = .ok (.iconst 1, 1) := by decide +kernel
theorem dX2_scan_94 : decode cX2_scan 94 = .ok (.iadd, 1) := by decide +kernel
theorem dX2_scan_95 : decode cX2_scan 95 = .ok (.iastore, 1) := by decide +kernel
theorem dX2_scan_96 : decode cX2_scan 96 = .ok (.aload_n 0, 1) := by decide +kernel
theorem dX2_scan_97 : decode cX2_scan 97 = .ok (.getfield 13, 3) := by decide +kernel
theorem dX2_scan_100 : decode cX2_scan 100 = .ok (.iload_n 2, 1) := by decide +kernel
theorem dX2_scan_101 : decode cX2_scan 101 = .ok (.dup2, 1) := by decide +kernel
theorem dX2_scan_102 : decode cX2_scan 102 = .ok (.iaload, 1) := by decide +kernel
theorem dX2_scan_103 : decode cX2_scan 103 = .ok (.iconst 1, 1) := by decide +kernel
theorem dX2_scan_104 : decode cX2_scan 104 = .ok (.isub, 1) := by decide +kernel
theorem dX2_scan_105 : decode cX2_scan 105 = .ok (.iastore, 1) := by decide +kernel
theorem dX2_scan_106 : decode cX2_scan 106 = .ok (.iconst 1, 1) := by decide +kernel
theorem dX2_scan_107 : decode cX2_scan 107 = .ok (.ireturn, 1) := by decide +kernel
theorem dX2_undo_0 : decode cX2_undo 0 = .ok (.aload_n 0, 1) := by decide +kernel
theorem dX2_undo_1 : decode cX2_undo 1 = .ok (.iload_n 1, 1) := by decide +kernel
theorem dX2_undo_2 : decode cX2_undo 2 = .ok (.aload_n 0, 1) := by decide +kernel
theorem dX2_undo_3 : decode cX2_undo 3 = .ok (.getfield 39, 3) := by decide +kernel
theorem dX2_undo_6 : decode cX2_undo 6 = .ok (.invokestatic 53, 3) := by decide +kernel
theorem dX2_undo_9 : decode cX2_undo 9 = .ok (.ifCond .ne 7, 3) := by decide +kernel
theorem dX2_undo_12 : decode cX2_undo 12 = .ok (.iconst 1, 1) := by decide +kernel
theorem dX2_undo_13 : decode cX2_undo 13 = .ok (.goto 17, 3) := by decide +kernel
theorem dX2_undo_16 : decode cX2_undo 16 = .ok (.iload_n 2, 1) := by decide +kernel
theorem dX2_undo_17 : decode cX2_undo 17 = .ok (.bipush 10, 2) := by decide +kernel
theorem dX2_undo_19 : decode cX2_undo 19 = .ok (.invokestatic 53, 3) := by decide +kernel
theorem dX2_undo_22 : decode cX2_undo 22 = .ok (.ifCond .ne 7, 3) := by decide +kernel
theorem dX2_undo_25 : decode cX2_undo 25 = .ok (.iconst 2, 1) := by decide +kernel
theorem dX2_undo_26 : decode cX2_undo 26 = .ok (.goto 4, 3) := by decide +kernel
theorem dX2_undo_29 : decode cX2_undo 29 = .ok (.iconst 0, 1) := by decide +kernel
theorem dX2_undo_30 : decode cX2_undo 30 = .ok (.putfield 43, 3) := by decide +kernel
theorem dX2_undo_33 : decode cX2_undo 33 = .ok (.aload_n 0, 1) := by decide +kernel
theorem dX2_undo_34 : decode cX2_undo 34 = .ok (.getfield 43, 3) := by decide +kernel
theorem dX2_undo_37 : decode cX2_undo 37 = .ok (.ifCond .eq 5, 3) := by decide +kernel
theorem dX2_undo_40 : decode cX2_undo 40 = .ok (.iconst 0, 1) := by decide +kernel
theorem dX2_undo_41 : decode cX2_undo 41 = .ok (.ireturn, 1) := by decide +kernel
theorem dX2_undo_42 : decode cX2_undo 42 = .ok (.aload_n 0, 1) := by decide +kernel
theorem dX2_undo_43 : decode cX2_undo 43 = .ok (.iload_n 1, 1) := by decide +kernel
theorem dX2_undo_44 : decode cX2_undo 44 = .ok (.invokevirtual 60, 3) := by decide +kernel
theorem dX2_undo_47 : decode cX2_undo 47 = .ok (.istore_n 3, 1) := by decide +kernel
theorem dX2_undo_48 : decode cX2_undo 48 = .ok (.aload_n 0, 1) := by decide +kernel
theorem dX2_undo_49 : decode cX2_undo 49 = .ok (.iload_n 3, 1) := by decide +kernel
theorem dX2_undo_50 : decode cX2_undo 50 = .ok (.iconst (-1), 1) := by decide +kernel
theorem dX2_undo_51 : decode cX2_undo 51 = .ok (.if_icmp .eq 27, 3) := by decide +kernel
theorem dX2_undo_54 : decode cX2_undo 54 = .ok (.aload_n 0, 1) := by decide +kernel
theorem dX2_undo_55 : decode cX2_undo 55 = .ok (.getfield 21, 3) := by decide +kernel
theorem dX2_undo_58 : decode cX2_undo 58 = .ok (.iload_n 3, 1) := by decide +kernel
theorem dX2_undo_59 : decode cX2_undo 59 = .ok (.iaload, 1) := by decide +kernel
theorem dX2_undo_60 : decode cX2_undo 60 = .ok (.iconst 2, 1) := by decide +kernel
theorem dX2_undo_61 : decode cX2_undo 61 = .ok (.if_icmp .eq 17, 3) := by decide +kernel
theorem dX2_undo_64 : decode cX2_undo 64 = .ok (.aload_n 0, 1) := by decide +kernel
theorem dX2_undo_65 : decode cX2_undo 65 = .ok (.getfield 30, 3) := by decide +kernel
theorem dX2_undo_68 : decode cX2_undo 68 = .ok (.bipush 10, 2) := by decide +kernel
theorem dX2_undo_70 : decode cX2_undo 70 = .ok (.iload_n 3, 1) := by decide +kernel
theorem dX2_undo_71 : decode cX2_undo 71 = .ok (.imul, 1) := by decide +kernel
theorem dX2_undo_72 : decode cX2_undo 72 = .ok (.iload_n 2, 1) := by decide +kernel
theorem dX2_undo_73 : decode cX2_undo 73 = .ok (.iadd, 1) := by decide +kernel
theorem dX2_undo_74 : decode cX2_undo 74 = .ok (.iaload, 1) := by decide +kernel
theorem dX2_undo_75 : decode cX2_undo 75 = .ok (.ifCond .ne 7, 3) := by decide +kernel
theorem dX2_undo_78 : decode cX2_undo 78 = .ok (.iconst 3, 1) := by decide +kernel
theorem dX2_undo_79 : decode cX2_undo 79 = .ok (.goto 4, 3) := by decide +kernel
theorem dX2_undo_82 : decode cX2_undo 82 = .ok (.iconst 0, 1) := by decide +kernel
theorem dX2_undo_83 : decode cX2_undo 83 = .ok (.putfield 43, 3) := by decide +kernel
theorem dX2_undo_86 : decode cX2_undo 86 = .ok (.aload_n 0, 1) := by decide +kernel
theorem dX2_undo_87 : decode cX2_undo 87 = .ok (.getfield 43, 3) := by decide +kernel
theorem dX2_undo_90 : decode cX2_undo 90 = .ok (.ifCond .eq 5, 3) := by decide +kernel
theorem dX2_undo_93 : decode cX2_undo 93 = .ok (.iconst 0, 1) := by decide +kernel
theorem dX2_undo_94 : decode cX2_undo 94 = .ok (.ireturn, 1) := by decide +kernel
theorem dX2_undo_95 : decode cX2_undo 95 = .ok (.aload_n 0, 1) := by decide +kernel
theorem dX2_undo_96 : decode cX2_undo 96 = .ok (.getfield 30, 3) := by decide +kernel
theorem dX2_undo_99 : decode cX2_undo 99 = .ok (.bipush 10, 2) := by decide +kernel
theorem dX2_undo_101 : decode cX2_undo 101 = .ok (.iload_n 3, 1) := by decide +kernel
theorem dX2_undo_102 : decode cX2_undo 102 = .ok (.imul, 1) := by decide +kernel
theorem dX2_undo_103 : decode cX2_undo 103 = .ok (.iload_n 2, 1) := by decide +kernel
theorem dX2_undo_104 : decode cX2_undo 104 = .ok (.iadd, 1) := by decide +kernel
theorem dX2_undo_105 : decode cX2_undo 105 = .ok (.dup2, 1) := by decide +kernel
theorem dX2_undo_106 : decode cX2_undo 106 = .ok (.iaload, 1) := by decide +kernel
theorem dX2_undo_107 : decode cX2_undo 107 = .ok (.iconst 1, 1) := by decide +kernel
theorem dX2_undo_108 : decode cX2_undo 108 = .ok (.isub, 1) := by decide +kernel
theorem dX2_undo_109 : decode cX2_undo 109 = .ok (.iastore, 1) := by decide +kernel
theorem dX2_undo_110 : decode cX2_undo 110 = .ok (.aload_n 0, 1) := by decide +kernel
theorem dX2_undo_111 : decode cX2_undo 111 = .ok (.getfield 13, 3) := by decide +kernel
theorem dX2_undo_114 : decode cX2_undo 114 = .ok (.iload_n 2, 1) := by decide +kernel
theorem dX2_undo_115 : decode cX2_undo 115 = .ok (.dup2, 1) := by decide +kernel
theorem dX2_undo_116 : decode cX2_undo 116 = .ok (.iaload, 1) := by decide +kernel
theorem dX2_undo_117 : decode cX2_undo 117 = .ok (.iconst 1, 1) := by decide +kernel
theorem dX2_undo_118 : decode cX2_undo 118 = .ok (.iadd, 1) := by decide +kernel
theorem dX2_undo_119 : decode cX2_undo 119 = .ok (.iastore, 1) := by decide +kernel
theorem dX2_undo_120 : decode cX2_undo 120 = .ok (.aload_n 0, 1) := by decide +kernel
theorem dX2_undo_121 : decode cX2_undo 121 = .ok (.getfield 30, 3) := by decide +kernel
theorem dX2_undo_124 : decode cX2_undo 124 = .ok (.bipush 10, 2) := by decide +kernel
theorem dX2_undo_126 : decode cX2_undo 126 = .ok (.iload_n 3, 1) := by decide +kernel
theorem dX2_undo_127 : decode cX2_undo 127 = .ok (.imul, 1) := by decide +kernel
theorem dX2_undo_128 : decode cX2_undo 128 = .ok (.iload_n 2, 1) := by decide +kernel
theorem dX2_undo_129 : decode cX2_undo 129 = .ok (.iadd, 1) := by decide +kernel
theorem dX2_undo_130 : decode cX2_undo 130 = .ok (.iaload, 1) := by decide +kernel
theorem dX2_undo_131 : decode cX2_undo 131 = .ok (.ireturn, 1) := by decide +kernel
theorem dX2_lineRefusal_0 : decode cX2_lineRefusal 0 = .ok (.iload_n 1, 1) := by decide +kernel
theorem dX2_lineRefusal_1 : decode cX2_lineRefusal 1 = .ok (.aload_n 0, 1) := by decide +kernel
theorem dX2_lineRefusal_2 : decode cX2_lineRefusal 2 = .ok (.getfield 50, 3) := by decide +kernel
theorem dX2_lineRefusal_5 : decode cX2_lineRefusal 5 = .ok (.invokestatic 53, 3) := by decide +kernel
theorem dX2_lineRefusal_8 : decode cX2_lineRefusal 8 = .ok (.ifCond .ne 5, 3) := by decide +kernel
theorem dX2_lineRefusal_11 : decode cX2_lineRefusal 11 = .ok (.iconst 1, 1) := by decide +kernel
theorem dX2_lineRefusal_12 : decode cX2_lineRefusal 12 = .ok (.ireturn, 1) := by decide +kernel
theorem dX2_lineRefusal_13 : decode cX2_lineRefusal 13 = .ok (.iload_n 2, 1) := by decide +kernel
theorem dX2_lineRefusal_14 : decode cX2_lineRefusal 14 = .ok (.bipush 10, 2) := by decide +kernel
theorem dX2_lineRefusal_16 : decode cX2_lineRefusal 16 = .ok (.invokestatic 53, 3) := by decide +kernel
theorem dX2_lineRefusal_19 : decode cX2_lineRefusal 19 = .ok (.ifCond .ne 5, 3) := by decide +kernel
theorem dX2_lineRefusal_22 : decode cX2_lineRefusal 22 = .ok (.iconst 2, 1) := by decide +kernel
theorem dX2_lineRefusal_23 : decode cX2_lineRefusal 23 = .ok (.ireturn, 1) := by decide +kernel
theorem dX2_lineRefusal_24 : decode cX2_lineRefusal 24 = .ok (.aload_n 0, 1) := by decide +kernel
theorem dX2_lineRefusal_25 : decode cX2_lineRefusal 25 = .ok (.iload_n 1, 1) := by decide +kernel
theorem dX2_lineRefusal_26 : decode cX2_lineRefusal 26 = .ok (.iload_n 2, 1) := by decide +kernel
theorem dX2_lineRefusal_27 : decode cX2_lineRefusal 27 = .ok (.invokevirtual 46, 3) := by decide +kernel
theorem dX2_lineRefusal_30 : decode cX2_lineRefusal 30 = .ok (.ifCond .eq 7, 3) := by decide +kernel
theorem dX2_lineRefusal_33 : decode cX2_lineRefusal 33 = .ok (.iconst 0, 1) := by decide +kernel
theorem dX2_lineRefusal_34 : decode cX2_lineRefusal 34 = .ok (.goto 4, 3) := by decide +kernel
theorem dX2_lineRefusal_37 : decode cX2_lineRefusal 37 = .ok (.iconst 1, 1) := by decide +kernel
theorem dX2_lineRefusal_38 : decode cX2_lineRefusal 38 = .ok (.ireturn, 1) := by decide +kernel
theorem dX2_missing_0 : decode cX2_missing 0 = .ok (.aload_n 0, 1) := by decide +kernel
theorem dX2_missing_1 : decode cX2_missing 1 = .ok (.getfield 27, 3) := by decide +kernel
theorem dX2_missing_4 : decode cX2_missing 4 = .ok (.bipush 10, 2) := by decide +kernel
theorem dX2_missing_6 : decode cX2_missing 6 = .ok (.iload_n 1, 1) := by decide +kernel
theorem dX2_missing_7 : decode cX2_missing 7 = .ok (.imul, 1) := by decide +kernel
theorem dX2_missing_8 : decode cX2_missing 8 = .ok (.iload_n 2, 1) := by decide +kernel
theorem dX2_missing_9 : decode cX2_missing 9 = .ok (.iadd, 1) := by decide +kernel
theorem dX2_missing_10 : decode cX2_missing 10 = .ok (.iaload, 1) := by decide +kernel
theorem dX2_missing_11 : decode cX2_missing 11 = .ok (.aload_n 0, 1) := by decide +kernel
theorem dX2_missing_12 : decode cX2_missing 12 = .ok (.getfield 30, 3) := by decide +kernel
theorem dX2_missing_15 : decode cX2_missing 15 = .ok (.bipush 10, 2) := by decide +kernel
theorem dX2_missing_17 : decode cX2_missing 17 = .ok (.iload_n 1, 1) := by decide +kernel
theorem dX2_missing_18 : decode cX2_missing 18 = .ok (.imul, 1) := by decide +kernel
theorem dX2_missing_19 : decode cX2_missing 19 = .ok (.iload_n 2, 1) := by decide +kernel
theorem dX2_missing_20 : decode cX2_missing 20 = .ok (.iadd, 1) := by decide +kernel
theorem dX2_missing_21 : decode cX2_missing 21 = .ok (.iaload, 1) := by decide +kernel
theorem dX2_missing_22 : decode cX2_missing 22 = .ok (.isub, 1) := by decide +kernel
theorem dX2_missing_23 : decode cX2_missing 23 = .ok (.ireturn, 1) := by decide +kernel
theorem dX2_miss_0 : decode cX2_miss 0 = .ok (.aload_n 0, 1) := by decide +kernel
theorem dX2_miss_1 : decode cX2_miss 1 = .ok (.aload_n 0, 1) := by decide +kernel
theorem dX2_miss_2 : decode cX2_miss 2 = .ok (.iload_n 1, 1) := by decide +kernel
theorem dX2_miss_3 : decode cX2_miss 3 = .ok (.iload_n 2, 1) := by decide +kernel
theorem dX2_miss_4 : decode cX2_miss 4 = .ok (.invokevirtual 67, 3) := by decide +kernel
theorem dX2_miss_7 : decode cX2_miss 7 = .ok (.putfield 43, 3) := by decide +kernel
theorem dX2_miss_10 : decode cX2_miss 10 = .ok (.aload_n 0, 1) := by decide +kernel
theorem dX2_miss_11 : decode cX2_miss 11 = .ok (.getfield 43, 3) := by decide +kernel
theorem dX2_miss_14 : decode cX2_miss 14 = .ok (.ifCond .ne 19, 3) := by decide +kernel
theorem dX2_miss_17 : decode cX2_miss 17 = .ok (.iload_n 3, 1) := by decide +kernel
theorem dX2_miss_18 : decode cX2_miss 18 = .ok (.ifCond .lt 10, 3) := by decide +kernel
theorem dX2_miss_21 : decode cX2_miss 21 = .ok (.iload_n 3, 1) := by decide +kernel
theorem dX2_miss_22 : decode cX2_miss 22 = .ok (.sipush 10000, 3) := by decide +kernel
theorem dX2_miss_25 : decode cX2_miss 25 = .ok (.if_icmp .le 8, 3) := by decide +kernel
theorem dX2_miss_28 : decode cX2_miss 28 = .ok (.aload_n 0, 1) := by decide +kernel
theorem dX2_miss_29 : decode cX2_miss 29 = .ok (.iconst 2, 1) := by decide +kernel
theorem dX2_miss_30 : decode cX2_miss 30 = .ok (.putfield 43, 3) := by decide +kernel
theorem dX2_miss_33 : decode cX2_miss 33 = .ok (.aload_n 0, 1) := by decide +kernel
theorem dX2_miss_34 : decode cX2_miss 34 = .ok (.getfield 43, 3) := by decide +kernel
theorem dX2_miss_37 : decode cX2_miss 37 = .ok (.ifCond .ne 27, 3) := by decide +kernel
theorem dX2_miss_40 : decode cX2_miss 40 = .ok (.aload_n 0, 1) := by decide +kernel
theorem dX2_miss_41 : decode cX2_miss 41 = .ok (.getfield 21, 3) := by decide +kernel
theorem dX2_miss_44 : decode cX2_miss 44 = .ok (.iload_n 1, 1) := by decide +kernel
theorem dX2_miss_45 : decode cX2_miss 45 = .ok (.iaload, 1) := by decide +kernel
theorem dX2_miss_46 : decode cX2_miss 46 = .ok (.iconst 1, 1) := by decide +kernel
theorem dX2_miss_47 : decode cX2_miss 47 = .ok (.if_icmp .ne 12, 3) := by decide +kernel
theorem dX2_miss_50 : decode cX2_miss 50 = .ok (.aload_n 0, 1) := by decide +kernel
theorem dX2_miss_51 : decode cX2_miss 51 = .ok (.iload_n 1, 1) := by decide +kernel
theorem dX2_miss_52 : decode cX2_miss 52 = .ok (.iload_n 2, 1) := by decide +kernel
theorem dX2_miss_53 : decode cX2_miss 53 = .ok (.invokevirtual 70, 3) := by decide +kernel
theorem dX2_miss_56 : decode cX2_miss 56 = .ok (.ifCond .ne 8, 3) := by decide +kernel
theorem dX2_miss_59 : decode cX2_miss 59 = .ok (.aload_n 0, 1) := by decide +kernel
theorem dX2_miss_60 : decode cX2_miss 60 = .ok (.iconst 3, 1) := by decide +kernel
theorem dX2_miss_61 : decode cX2_miss 61 = .ok (.putfield 43, 3) := by decide +kernel
theorem dX2_miss_64 : decode cX2_miss 64 = .ok (.aload_n 0, 1) := by decide +kernel
theorem dX2_miss_65 : decode cX2_miss 65 = .ok (.getfield 43, 3) := by decide +kernel
theorem dX2_miss_68 : decode cX2_miss 68 = .ok (.ifCond .eq 5, 3) := by decide +kernel
theorem dX2_miss_71 : decode cX2_miss 71 = .ok (.iconst 0, 1) := by decide +kernel
theorem dX2_miss_72 : decode cX2_miss 72 = .ok (.ireturn, 1) := by decide +kernel
theorem dX2_miss_73 : decode cX2_miss 73 = .ok (.aload_n 0, 1) := by decide +kernel
theorem dX2_miss_74 : decode cX2_miss 74 = .ok (.getfield 33, 3) := by decide +kernel
theorem dX2_miss_77 : decode cX2_miss 77 = .ok (.bipush 10, 2) := by decide +kernel
theorem dX2_miss_79 : decode cX2_miss 79 = .ok (.iload_n 1, 1) := by decide +kernel
theorem dX2_miss_80 : decode cX2_miss 80 = .ok (.imul, 1) := by decide +kernel
theorem dX2_miss_81 : decode cX2_miss 81 = .ok (.iload_n 2, 1) := by decide +kernel
theorem dX2_miss_82 : decode cX2_miss 82 = .ok (.iadd, 1) := by decide +kernel
theorem dX2_miss_83 : decode cX2_miss 83 = .ok (.iload_n 3, 1) := by decide +kernel
theorem dX2_miss_84 : decode cX2_miss 84 = .ok (.iastore, 1) := by decide +kernel
theorem dX2_miss_85 : decode cX2_miss 85 = .ok (.aload_n 0, 1) := by decide +kernel
theorem dX2_miss_86 : decode cX2_miss 86 = .ok (.iload_n 1, 1) := by decide +kernel
theorem dX2_miss_87 : decode cX2_miss 87 = .ok (.iload_n 2, 1) := by decide +kernel
theorem dX2_miss_88 : decode cX2_miss 88 = .ok (.invokevirtual 70, 3) := by decide +kernel
theorem dX2_miss_91 : decode cX2_miss 91 = .ok (.ireturn, 1) := by decide +kernel
theorem dX2_day_0 : decode cX2_day 0 = .ok (.aload_n 0, 1) := by decide +kernel
theorem dX2_day_1 : decode cX2_day 1 = .ok (.iload_n 1, 1) := by decide +kernel
theorem dX2_day_2 : decode cX2_day 2 = .ok (.ifCond .lt 10, 3) := by decide +kernel
theorem dX2_day_5 : decode cX2_day 5 = .ok (.iload_n 1, 1) := by decide +kernel
theorem dX2_day_6 : decode cX2_day 6 = .ok (.sipush 10000, 3) := by decide +kernel
theorem dX2_day_9 : decode cX2_day 9 = .ok (.if_icmp .le 7, 3) := by decide +kernel
theorem dX2_day_12 : decode cX2_day 12 = .ok (.iconst 1, 1) := by decide +kernel
theorem dX2_day_13 : decode cX2_day 13 = .ok (.goto 16, 3) := by decide +kernel
theorem dX2_day_16 : decode cX2_day 16 = .ok (.iload_n 1, 1) := by decide +kernel
theorem dX2_day_17 : decode cX2_day 17 = .ok (.aload_n 0, 1) := by decide +kernel
theorem dX2_day_18 : decode cX2_day 18 = .ok (.getfield 73, 3) := by decide +kernel
theorem dX2_day_21 : decode cX2_day 21 = .ok (.if_icmp .ge 7, 3) := by decide +kernel
theorem dX2_day_24 : decode cX2_day 24 = .ok (.iconst 2, 1) := by decide +kernel
theorem dX2_day_25 : decode cX2_day 25 = .ok (.goto 4, 3) := by decide +kernel
theorem dX2_day_28 : decode cX2_day 28 = .ok (.iconst 0, 1) := by decide +kernel
theorem dX2_day_29 : decode cX2_day 29 = .ok (.putfield 43, 3) := by decide +kernel
theorem dX2_day_32 : decode cX2_day 32 = .ok (.aload_n 0, 1) := by decide +kernel
theorem dX2_day_33 : decode cX2_day 33 = .ok (.getfield 43, 3) := by decide +kernel
theorem dX2_day_36 : decode cX2_day 36 = .ok (.ifCond .ne 8, 3) := by decide +kernel
theorem dX2_day_39 : decode cX2_day 39 = .ok (.aload_n 0, 1) := by decide +kernel
theorem dX2_day_40 : decode cX2_day 40 = .ok (.iload_n 1, 1) := by decide +kernel
theorem dX2_day_41 : decode cX2_day 41 = .ok (.putfield 73, 3) := by decide +kernel
theorem dX2_day_44 : decode cX2_day 44 = .ok (.return_, 1) := by decide +kernel
theorem dX2_change_0 : decode cX2_change 0 = .ok (.aload_n 0, 1) := by decide +kernel
theorem dX2_change_1 : decode cX2_change 1 = .ok (.aload_n 0, 1) := by decide +kernel
theorem dX2_change_2 : decode cX2_change 2 = .ok (.iload_n 1, 1) := by decide +kernel
theorem dX2_change_3 : decode cX2_change 3 = .ok (.iload_n 2, 1) := by decide +kernel
theorem dX2_change_4 : decode cX2_change 4 = .ok (.invokevirtual 67, 3) := by decide +kernel
theorem dX2_change_7 : decode cX2_change 7 = .ok (.putfield 43, 3) := by decide +kernel
theorem dX2_change_10 : decode cX2_change 10 = .ok (.aload_n 0, 1) := by decide +kernel
theorem dX2_change_11 : decode cX2_change 11 = .ok (.getfield 43, 3) := by decide +kernel
theorem dX2_change_14 : decode cX2_change 14 = .ok (.ifCond .ne 18, 3) := by decide +kernel
theorem dX2_change_17 : decode cX2_change 17 = .ok (.iload_n 3, 1) := by decide +kernel
theorem dX2_change_18 : decode cX2_change 18 = .ok (.ifCond .lt 9, 3) := by decide +kernel
theorem dX2_change_21 : decode cX2_change 21 = .ok (.iload_n 3, 1) := by decide +kernel
theorem dX2_change_22 : decode cX2_change 22 = .ok (.bipush 9, 2) := by decide +kernel
theorem dX2_change_24 : decode cX2_change 24 = .ok (.if_icmp .le 8, 3) := by decide +kernel
theorem dX2_change_27 : decode cX2_change 27 = .ok (.aload_n 0, 1) := by decide +kernel
theorem dX2_change_28 : decode cX2_change 28 = .ok (.iconst 2, 1) := by decide +kernel
theorem dX2_change_29 : decode cX2_change 29 = .ok (.putfield 43, 3) := by decide +kernel
theorem dX2_change_32 : decode cX2_change 32 = .ok (.aload_n 0, 1) := by decide +kernel
theorem dX2_change_33 : decode cX2_change 33 = .ok (.getfield 43, 3) := by decide +kernel
theorem dX2_change_36 : decode cX2_change 36 = .ok (.ifCond .ne 41, 3) := by decide +kernel
theorem dX2_change_39 : decode cX2_change 39 = .ok (.aload_n 0, 1) := by decide +kernel
theorem dX2_change_40 : decode cX2_change 40 = .ok (.getfield 21, 3) := by decide +kernel
theorem dX2_change_43 : decode cX2_change 43 = .ok (.iload_n 1, 1) := by decide +kernel
theorem dX2_change_44 : decode cX2_change 44 = .ok (.iaload, 1) := by decide +kernel
theorem dX2_change_45 : decode cX2_change 45 = .ok (.iconst 2, 1) := by decide +kernel
theorem dX2_change_46 : decode cX2_change 46 = .ok (.if_icmp .ge 26, 3) := by decide +kernel
theorem dX2_change_49 : decode cX2_change 49 = .ok (.iload_n 3, 1) := by decide +kernel
theorem dX2_change_50 : decode cX2_change 50 = .ok (.ifCond .ne 27, 3) := by decide +kernel
theorem dX2_change_53 : decode cX2_change 53 = .ok (.aload_n 0, 1) := by decide +kernel
theorem dX2_change_54 : decode cX2_change 54 = .ok (.getfield 21, 3) := by decide +kernel
theorem dX2_change_57 : decode cX2_change 57 = .ok (.iload_n 1, 1) := by decide +kernel
theorem dX2_change_58 : decode cX2_change 58 = .ok (.iaload, 1) := by decide +kernel
theorem dX2_change_59 : decode cX2_change 59 = .ok (.iconst 1, 1) := by decide +kernel
theorem dX2_change_60 : decode cX2_change 60 = .ok (.if_icmp .ne 17, 3) := by decide +kernel
theorem dX2_change_63 : decode cX2_change 63 = .ok (.aload_n 0, 1) := by decide +kernel
theorem dX2_change_64 : decode cX2_change 64 = .ok (.iload_n 1, 1) := by decide +kernel
theorem dX2_change_65 : decode cX2_change 65 = .ok (.invokevirtual 56, 3) := by decide +kernel
theorem dX2_change_68 : decode cX2_change 68 = .ok (.iconst 1, 1) := by decide +kernel
theorem dX2_change_69 : decode cX2_change 69 = .ok (.if_icmp .ne 8, 3) := by decide +kernel
theorem dX2_change_72 : decode cX2_change 72 = .ok (.aload_n 0, 1) := by decide +kernel
theorem dX2_change_73 : decode cX2_change 73 = .ok (.iconst 3, 1) := by decide +kernel
theorem dX2_change_74 : decode cX2_change 74 = .ok (.putfield 43, 3) := by decide +kernel
theorem dX2_change_77 : decode cX2_change 77 = .ok (.aload_n 0, 1) := by decide +kernel
theorem dX2_change_78 : decode cX2_change 78 = .ok (.getfield 43, 3) := by decide +kernel
theorem dX2_change_81 : decode cX2_change 81 = .ok (.ifCond .ne 18, 3) := by decide +kernel
theorem dX2_change_84 : decode cX2_change 84 = .ok (.aload_n 0, 1) := by decide +kernel
theorem dX2_change_85 : decode cX2_change 85 = .ok (.getfield 30, 3) := by decide +kernel
theorem dX2_change_88 : decode cX2_change 88 = .ok (.bipush 10, 2) := by decide +kernel
theorem dX2_change_90 : decode cX2_change 90 = .ok (.iload_n 1, 1) := by decide +kernel
theorem dX2_change_91 : decode cX2_change 91 = .ok (.imul, 1) := by decide +kernel
theorem dX2_change_92 : decode cX2_change 92 = .ok (.iload_n 2, 1) := by decide +kernel
theorem dX2_change_93 : decode cX2_change 93 = .ok (.iadd, 1) := by decide +kernel
theorem dX2_change_94 : decode cX2_change 94 = .ok (.iaload, 1) := by decide +kernel
theorem dX2_change_95 : decode cX2_change 95 = .ok (.iload_n 3, 1) := by decide +kernel
theorem dX2_change_96 : decode cX2_change 96 = .ok (.if_icmp .le 5, 3) := by decide +kernel
theorem dX2_change_99 : decode cX2_change 99 = .ok (.iconst 0, 1) := by decide +kernel
theorem dX2_change_100 : decode cX2_change 100 = .ok (.ireturn, 1) := by decide +kernel
theorem dX2_change_101 : decode cX2_change 101 = .ok (.aload_n 0, 1) := by decide +kernel
theorem dX2_change_102 : decode cX2_change 102 = .ok (.getfield 27, 3) := by decide +kernel
theorem dX2_change_105 : decode cX2_change 105 = .ok (.bipush 10, 2) := by decide +kernel
theorem dX2_change_107 : decode cX2_change 107 = .ok (.iload_n 1, 1) := by decide +kernel
theorem dX2_change_108 : decode cX2_change 108 = .ok (.imul, 1) := by decide +kernel
theorem dX2_change_109 : decode cX2_change 109 = .ok (.iload_n 2, 1) := by decide +kernel
theorem dX2_change_110 : decode cX2_change 110 = .ok (.iadd, 1) := by decide +kernel
theorem dX2_change_111 : decode cX2_change 111 = .ok (.iload_n 3, 1) := by decide +kernel
theorem dX2_change_112 : decode cX2_change 112 = .ok (.iastore, 1) := by decide +kernel
theorem dX2_change_113 : decode cX2_change 113 = .ok (.iconst 1, 1) := by decide +kernel
theorem dX2_change_114 : decode cX2_change 114 = .ok (.ireturn, 1) := by decide +kernel
theorem dX2_givenUp_0 : decode cX2_givenUp 0 = .ok (.aload_n 0, 1) := by decide +kernel
theorem dX2_givenUp_1 : decode cX2_givenUp 1 = .ok (.getfield 33, 3) := by decide +kernel
theorem dX2_givenUp_4 : decode cX2_givenUp 4 = .ok (.bipush 10, 2) := by decide +kernel
theorem dX2_givenUp_6 : decode cX2_givenUp 6 = .ok (.iload_n 1, 1) := by decide +kernel
theorem dX2_givenUp_7 : decode cX2_givenUp 7 = .ok (.imul, 1) := by decide +kernel
theorem dX2_givenUp_8 : decode cX2_givenUp 8 = .ok (.iload_n 2, 1) := by decide +kernel
theorem dX2_givenUp_9 : decode cX2_givenUp 9 = .ok (.iadd, 1) := by decide +kernel
theorem dX2_givenUp_10 : decode cX2_givenUp 10 = .ok (.iaload, 1) := by decide +kernel
theorem dX2_givenUp_11 : decode cX2_givenUp 11 = .ok (.iconst (-1), 1) := by decide +kernel
theorem dX2_givenUp_12 : decode cX2_givenUp 12 = .ok (.if_icmp .eq 25, 3) := by decide +kernel
theorem dX2_givenUp_15 : decode cX2_givenUp 15 = .ok (.aload_n 0, 1) := by decide +kernel
theorem dX2_givenUp_16 : decode cX2_givenUp 16 = .ok (.getfield 73, 3) := by decide +kernel
theorem dX2_givenUp_19 : decode cX2_givenUp 19 = .ok (.aload_n 0, 1) := by decide +kernel
theorem dX2_givenUp_20 : decode cX2_givenUp 20 = .ok (.getfield 33, 3) := by decide +kernel
theorem dX2_givenUp_23 : decode cX2_givenUp 23 = .ok (.bipush 10, 2) := by decide +kernel
theorem dX2_givenUp_25 : decode cX2_givenUp 25 = .ok (.iload_n 1, 1) := by decide +kernel
theorem dX2_givenUp_26 : decode cX2_givenUp 26 = .ok (.imul, 1) := by decide +kernel
theorem dX2_givenUp_27 : decode cX2_givenUp 27 = .ok (.iload_n 2, 1) := by decide +kernel
theorem dX2_givenUp_28 : decode cX2_givenUp 28 = .ok (.iadd, 1) := by decide +kernel
theorem dX2_givenUp_29 : decode cX2_givenUp 29 = .ok (.iaload, 1) := by decide +kernel
theorem dX2_givenUp_30 : decode cX2_givenUp 30 = .ok (.if_icmp .le 7, 3) := by decide +kernel
theorem dX2_givenUp_33 : decode cX2_givenUp 33 = .ok (.iconst 1, 1) := by decide +kernel
theorem dX2_givenUp_34 : decode cX2_givenUp 34 = .ok (.goto 4, 3) := by decide +kernel
theorem dX2_givenUp_37 : decode cX2_givenUp 37 = .ok (.iconst 0, 1) := by decide +kernel
theorem dX2_givenUp_38 : decode cX2_givenUp 38 = .ok (.ireturn, 1) := by decide +kernel
theorem dX2_complete_0 : decode cX2_complete 0 = .ok (.aload_n 0, 1) := by decide +kernel
theorem dX2_complete_1 : decode cX2_complete 1 = .ok (.iload_n 1, 1) := by decide +kernel
theorem dX2_complete_2 : decode cX2_complete 2 = .ok (.aload_n 0, 1) := by decide +kernel
theorem dX2_complete_3 : decode cX2_complete 3 = .ok (.getfield 50, 3) := by decide +kernel
theorem dX2_complete_6 : decode cX2_complete 6 = .ok (.invokestatic 53, 3) := by decide +kernel
theorem dX2_complete_9 : decode cX2_complete 9 = .ok (.ifCond .ne 7, 3) := by decide +kernel
theorem dX2_complete_12 : decode cX2_complete 12 = .ok (.iconst 1, 1) := by decide +kernel
theorem dX2_complete_13 : decode cX2_complete 13 = .ok (.goto 18, 3) := by decide +kernel
theorem dX2_complete_16 : decode cX2_complete 16 = .ok (.aload_n 0, 1) := by decide +kernel
theorem dX2_complete_17 : decode cX2_complete 17 = .ok (.getfield 21, 3) := by decide +kernel
theorem dX2_complete_20 : decode cX2_complete 20 = .ok (.iload_n 1, 1) := by decide +kernel
theorem dX2_complete_21 : decode cX2_complete 21 = .ok (.iaload, 1) := by decide +kernel
theorem dX2_complete_22 : decode cX2_complete 22 = .ok (.iconst 1, 1) := by decide +kernel
theorem dX2_complete_23 : decode cX2_complete 23 = .ok (.if_icmp .eq 7, 3) := by decide +kernel
theorem dX2_complete_26 : decode cX2_complete 26 = .ok (.iconst 2, 1) := by decide +kernel
theorem dX2_complete_27 : decode cX2_complete 27 = .ok (.goto 4, 3) := by decide +kernel
theorem dX2_complete_30 : decode cX2_complete 30 = .ok (.iconst 0, 1) := by decide +kernel
theorem dX2_complete_31 : decode cX2_complete 31 = .ok (.putfield 43, 3) := by decide +kernel
theorem dX2_complete_34 : decode cX2_complete 34 = .ok (.aload_n 0, 1) := by decide +kernel
theorem dX2_complete_35 : decode cX2_complete 35 = .ok (.getfield 43, 3) := by decide +kernel
theorem dX2_complete_38 : decode cX2_complete 38 = .ok (.ifCond .eq 5, 3) := by decide +kernel
theorem dX2_complete_41 : decode cX2_complete 41 = .ok (.iconst 0, 1) := by decide +kernel
theorem dX2_complete_42 : decode cX2_complete 42 = .ok (.ireturn, 1) := by decide +kernel
theorem dX2_complete_43 : decode cX2_complete 43 = .ok (.iconst 0, 1) := by decide +kernel
theorem dX2_complete_44 : decode cX2_complete 44 = .ok (.istore_n 2, 1) := by decide +kernel
theorem dX2_complete_45 : decode cX2_complete 45 = .ok (.iload_n 2, 1) := by decide +kernel
theorem dX2_complete_46 : decode cX2_complete 46 = .ok (.bipush 10, 2) := by decide +kernel
theorem dX2_complete_48 : decode cX2_complete 48 = .ok (.if_icmp .ge 38, 3) := by decide +kernel
theorem dX2_complete_51 : decode cX2_complete 51 = .ok (.aload_n 0, 1) := by decide +kernel
theorem dX2_complete_52 : decode cX2_complete 52 = .ok (.iload_n 1, 1) := by decide +kernel
theorem dX2_complete_53 : decode cX2_complete 53 = .ok (.iload_n 2, 1) := by decide +kernel
theorem dX2_complete_54 : decode cX2_complete 54 = .ok (.invokevirtual 46, 3) := by decide +kernel
theorem dX2_complete_57 : decode cX2_complete 57 = .ok (.ifCond .eq 23, 3) := by decide +kernel
theorem dX2_complete_60 : decode cX2_complete 60 = .ok (.aload_n 0, 1) := by decide +kernel
theorem dX2_complete_61 : decode cX2_complete 61 = .ok (.iload_n 1, 1) := by decide +kernel
theorem dX2_complete_62 : decode cX2_complete 62 = .ok (.iload_n 2, 1) := by decide +kernel
theorem dX2_complete_63 : decode cX2_complete 63 = .ok (.invokevirtual 70, 3) := by decide +kernel
theorem dX2_complete_66 : decode cX2_complete 66 = .ok (.ifCond .le 14, 3) := by decide +kernel
theorem dX2_complete_69 : decode cX2_complete 69 = .ok (.aload_n 0, 1) := by decide +kernel
theorem dX2_complete_70 : decode cX2_complete 70 = .ok (.iload_n 1, 1) := by decide +kernel
theorem dX2_complete_71 : decode cX2_complete 71 = .ok (.iload_n 2, 1) := by decide +kernel
theorem dX2_complete_72 : decode cX2_complete 72 = .ok (.invokevirtual 76, 3) := by decide +kernel
theorem dX2_complete_75 : decode cX2_complete 75 = .ok (.ifCond .ne 5, 3) := by decide +kernel
theorem dX2_complete_78 : decode cX2_complete 78 = .ok (.iconst 0, 1) := by decide +kernel
theorem dX2_complete_79 : decode cX2_complete 79 = .ok (.ireturn, 1) := by decide +kernel
theorem dX2_complete_80 : decode cX2_complete 80 = .ok (.iinc 2 1, 3) := by decide +kernel
theorem dX2_complete_83 : decode cX2_complete 83 = .ok (.goto (-38), 3) := by decide +kernel
theorem dX2_complete_86 : decode cX2_complete 86 = .ok (.aload_n 0, 1) := by decide +kernel
theorem dX2_complete_87 : decode cX2_complete 87 = .ok (.getfield 21, 3) := by decide +kernel
theorem dX2_complete_90 : decode cX2_complete 90 = .ok (.iload_n 1, 1) := by decide +kernel
theorem dX2_complete_91 : decode cX2_complete 91 = .ok (.iconst 2, 1) := by decide +kernel
theorem dX2_complete_92 : decode cX2_complete 92 = .ok (.iastore, 1) := by decide +kernel
theorem dX2_complete_93 : decode cX2_complete 93 = .ok (.iconst 1, 1) := by decide +kernel
theorem dX2_complete_94 : decode cX2_complete 94 = .ok (.ireturn, 1) := by decide +kernel
theorem dX2_release_0 : decode cX2_release 0 = .ok (.aload_n 0, 1) := by decide +kernel
theorem dX2_release_1 : decode cX2_release 1 = .ok (.iload_n 1, 1) := by decide +kernel
theorem dX2_release_2 : decode cX2_release 2 = .ok (.aload_n 0, 1) := by decide +kernel
theorem dX2_release_3 : decode cX2_release 3 = .ok (.getfield 39, 3) := by decide +kernel
theorem dX2_release_6 : decode cX2_release 6 = .ok (.invokestatic 53, 3) := by decide +kernel
theorem dX2_release_9 : decode cX2_release 9 = .ok (.ifCond .ne 7, 3) := by decide +kernel
theorem dX2_release_12 : decode cX2_release 12 = .ok (.iconst 1, 1) := by decide +kernel
theorem dX2_release_13 : decode cX2_release 13 = .ok (.goto 17, 3) := by decide +kernel
theorem dX2_release_16 : decode cX2_release 16 = .ok (.aload_n 0, 1) := by decide +kernel
theorem dX2_release_17 : decode cX2_release 17 = .ok (.iload_n 1, 1) := by decide +kernel
theorem dX2_release_18 : decode cX2_release 18 = .ok (.invokevirtual 60, 3) := by decide +kernel
theorem dX2_release_21 : decode cX2_release 21 = .ok (.iconst (-1), 1) := by decide +kernel
theorem dX2_release_22 : decode cX2_release 22 = .ok (.if_icmp .ne 7, 3) := by decide +kernel
theorem dX2_release_25 : decode cX2_release 25 = .ok (.iconst 2, 1) := by decide +kernel
theorem dX2_release_26 : decode cX2_release 26 = .ok (.goto 4, 3) := by decide +kernel
theorem dX2_release_29 : decode cX2_release 29 = .ok (.iconst 0, 1) := by decide +kernel
theorem dX2_release_30 : decode cX2_release 30 = .ok (.putfield 43, 3) := by decide +kernel
theorem dX2_release_33 : decode cX2_release 33 = .ok (.aload_n 0, 1) := by decide +kernel
theorem dX2_release_34 : decode cX2_release 34 = .ok (.getfield 43, 3) := by decide +kernel
theorem dX2_release_37 : decode cX2_release 37 = .ok (.ifCond .eq 5, 3) := by decide +kernel
theorem dX2_release_40 : decode cX2_release 40 = .ok (.iconst 0, 1) := by decide +kernel
theorem dX2_release_41 : decode cX2_release 41 = .ok (.ireturn, 1) := by decide +kernel
theorem dX2_release_42 : decode cX2_release 42 = .ok (.aload_n 0, 1) := by decide +kernel
theorem dX2_release_43 : decode cX2_release 43 = .ok (.iload_n 1, 1) := by decide +kernel
theorem dX2_release_44 : decode cX2_release 44 = .ok (.invokevirtual 60, 3) := by decide +kernel
theorem dX2_release_47 : decode cX2_release 47 = .ok (.istore_n 2, 1) := by decide +kernel
theorem dX2_release_48 : decode cX2_release 48 = .ok (.aload_n 0, 1) := by decide +kernel
theorem dX2_release_49 : decode cX2_release 49 = .ok (.getfield 21, 3) := by decide +kernel
theorem dX2_release_52 : decode cX2_release 52 = .ok (.iload_n 2, 1) := by decide +kernel
theorem dX2_release_53 : decode cX2_release 53 = .ok (.iaload, 1) := by decide +kernel
theorem dX2_release_54 : decode cX2_release 54 = .ok (.iconst 2, 1) := by decide +kernel
theorem dX2_release_55 : decode cX2_release 55 = .ok (.if_icmp .eq 5, 3) := by decide +kernel
theorem dX2_release_58 : decode cX2_release 58 = .ok (.iconst 0, 1) := by decide +kernel
theorem dX2_release_59 : decode cX2_release 59 = .ok (.ireturn, 1) := by decide +kernel
theorem dX2_release_60 : decode cX2_release 60 = .ok (.aload_n 0, 1) := by decide +kernel
theorem dX2_release_61 : decode cX2_release 61 = .ok (.getfield 21, 3) := by decide +kernel
theorem dX2_release_64 : decode cX2_release 64 = .ok (.iload_n 2, 1) := by decide +kernel
theorem dX2_release_65 : decode cX2_release 65 = .ok (.iconst 3, 1) := by decide +kernel
theorem dX2_release_66 : decode cX2_release 66 = .ok (.iastore, 1) := by decide +kernel
theorem dX2_release_67 : decode cX2_release 67 = .ok (.aload_n 0, 1) := by decide +kernel
theorem dX2_release_68 : decode cX2_release 68 = .ok (.getfield 24, 3) := by decide +kernel
theorem dX2_release_71 : decode cX2_release 71 = .ok (.iload_n 2, 1) := by decide +kernel
theorem dX2_release_72 : decode cX2_release 72 = .ok (.iconst (-1), 1) := by decide +kernel
theorem dX2_release_73 : decode cX2_release 73 = .ok (.iastore, 1) := by decide +kernel
theorem dX2_release_74 : decode cX2_release 74 = .ok (.iconst 1, 1) := by decide +kernel
theorem dX2_release_75 : decode cX2_release 75 = .ok (.ireturn, 1) := by decide +kernel
theorem dX2_sample_0 : decode cX2_sample 0 = .ok (.aload_n 0, 1) := by decide +kernel
theorem dX2_sample_1 : decode cX2_sample 1 = .ok (.iconst 0, 1) := by decide +kernel
theorem dX2_sample_2 : decode cX2_sample 2 = .ok (.putfield 43, 3) := by decide +kernel
theorem dX2_sample_5 : decode cX2_sample 5 = .ok (.iconst 0, 1) := by decide +kernel
theorem dX2_sample_6 : decode cX2_sample 6 = .ok (.istore_n 1, 1) := by decide +kernel
theorem dX2_sample_7 : decode cX2_sample 7 = .ok (.iconst 0, 1) := by decide +kernel
theorem dX2_sample_8 : decode cX2_sample 8 = .ok (.istore_n 2, 1) := by decide +kernel
theorem dX2_sample_9 : decode cX2_sample 9 = .ok (.iload_n 2, 1) := by decide +kernel
theorem dX2_sample_10 : decode cX2_sample 10 = .ok (.aload_n 0, 1) := by decide +kernel
theorem dX2_sample_11 : decode cX2_sample 11 = .ok (.getfield 50, 3) := by decide +kernel
theorem dX2_sample_14 : decode cX2_sample 14 = .ok (.if_icmp .ge 22, 3) := by decide +kernel
theorem dX2_sample_17 : decode cX2_sample 17 = .ok (.aload_n 0, 1) := by decide +kernel
theorem dX2_sample_18 : decode cX2_sample 18 = .ok (.getfield 21, 3) := by decide +kernel
theorem dX2_sample_21 : decode cX2_sample 21 = .ok (.iload_n 2, 1) := by decide +kernel
theorem dX2_sample_22 : decode cX2_sample 22 = .ok (.iaload, 1) := by decide +kernel
theorem dX2_sample_23 : decode cX2_sample 23 = .ok (.iconst 2, 1) := by decide +kernel
theorem dX2_sample_24 : decode cX2_sample 24 = .ok (.if_icmp .ne 6, 3) := by decide +kernel
theorem dX2_sample_27 : decode cX2_sample 27 = .ok (.iinc 1 1, 3) := by decide +kernel
theorem dX2_sample_30 : decode cX2_sample 30 = .ok (.iinc 2 1, 3) := by decide +kernel
theorem dX2_sample_33 : decode cX2_sample 33 = .ok (.goto (-24), 3) := by decide +kernel
theorem dX2_sample_36 : decode cX2_sample 36 = .ok (.iload_n 1, 1) := by decide +kernel
theorem dX2_sample_37 : decode cX2_sample 37 = .ok (.ifCond .ne 5, 3) := by decide +kernel
theorem dX2_sample_40 : decode cX2_sample 40 = .ok (.iconst (-1), 1) := by decide +kernel
theorem dX2_sample_41 : decode cX2_sample 41 = .ok (.ireturn, 1) := by decide +kernel
theorem dX2_sample_42 : decode cX2_sample 42 = .ok (.aload_n 0, 1) := by decide +kernel
theorem dX2_sample_43 : decode cX2_sample 43 = .ok (.aload_n 0, 1) := by decide +kernel
theorem dX2_sample_44 : decode cX2_sample 44 = .ok (.getfield 17, 3) := by decide +kernel
theorem dX2_sample_47 : decode cX2_sample 47 = .ok (.ldc2_w 79, 3) := by decide +kernel
theorem dX2_sample_50 : decode cX2_sample 50 = .ok (.lmul, 1) := by decide +kernel
theorem dX2_sample_51 : decode cX2_sample 51 = .ok (.ldc2_w 81, 3) := by decide +kernel
theorem dX2_sample_54 : decode cX2_sample 54 = .ok (.ladd, 1) := by decide +kernel
theorem dX2_sample_55 : decode cX2_sample 55 = .ok (.ldc2_w 83, 3) := by decide +kernel
theorem dX2_sample_58 : decode cX2_sample 58 = .ok (.lrem, 1) := by decide +kernel
theorem dX2_sample_59 : decode cX2_sample 59 = .ok (.putfield 17, 3) := by decide +kernel
theorem dX2_sample_62 : decode cX2_sample 62 = .ok (.aload_n 0, 1) := by decide +kernel
theorem dX2_sample_63 : decode cX2_sample 63 = .ok (.getfield 17, 3) := by decide +kernel
theorem dX2_sample_66 : decode cX2_sample 66 = .ok (.ldc2_w 85, 3) := by decide +kernel
theorem dX2_sample_69 : decode cX2_sample 69 = .ok (.ldiv, 1) := by decide +kernel
theorem dX2_sample_70 : decode cX2_sample 70 = .ok (.iload_n 1, 1) := by decide +kernel
theorem dX2_sample_71 : decode cX2_sample 71 = .ok (.i2l, 1) := by decide +kernel
theorem dX2_sample_72 : decode cX2_sample 72 = .ok (.lrem, 1) := by decide +kernel
theorem dX2_sample_73 : decode cX2_sample 73 = .ok (.l2i, 1) := by decide +kernel
theorem dX2_sample_74 : decode cX2_sample 74 = .ok (.istore_n 2, 1) := by decide +kernel
theorem dX2_sample_75 : decode cX2_sample 75 = .ok (.iconst 0, 1) := by decide +kernel
theorem dX2_sample_76 : decode cX2_sample 76 = .ok (.istore_n 3, 1) := by decide +kernel
theorem dX2_sample_77 : decode cX2_sample 77 = .ok (.iload_n 3, 1) := by decide +kernel
theorem dX2_sample_78 : decode cX2_sample 78 = .ok (.aload_n 0, 1) := by decide +kernel
theorem dX2_sample_79 : decode cX2_sample 79 = .ok (.getfield 39, 3) := by decide +kernel
theorem dX2_sample_82 : decode cX2_sample 82 = .ok (.if_icmp .ge 43, 3) := by decide +kernel
theorem dX2_sample_85 : decode cX2_sample 85 = .ok (.aload_n 0, 1) := by decide +kernel
theorem dX2_sample_86 : decode cX2_sample 86 = .ok (.iload_n 3, 1) := by decide +kernel
theorem dX2_sample_87 : decode cX2_sample 87 = .ok (.invokevirtual 60, 3) := by decide +kernel
theorem dX2_sample_90 : decode cX2_sample 90 = .ok (.istore 4, 2) := by decide +kernel
theorem dX2_sample_92 : decode cX2_sample 92 = .ok (.iload 4, 2) := by decide +kernel
theorem dX2_sample_94 : decode cX2_sample 94 = .ok (.iconst (-1), 1) := by decide +kernel
theorem dX2_sample_95 : decode cX2_sample 95 = .ok (.if_icmp .eq 24, 3) := by decide +kernel
theorem dX2_sample_98 : decode cX2_sample 98 = .ok (.aload_n 0, 1) := by decide +kernel
theorem dX2_sample_99 : decode cX2_sample 99 = .ok (.getfield 21, 3) := by decide +kernel
theorem dX2_sample_102 : decode cX2_sample 102 = .ok (.iload 4, 2) := by decide +kernel
theorem dX2_sample_104 : decode cX2_sample 104 = .ok (.iaload, 1) := by decide +kernel
theorem dX2_sample_105 : decode cX2_sample 105 = .ok (.iconst 2, 1) := by decide +kernel
theorem dX2_sample_106 : decode cX2_sample 106 = .ok (.if_icmp .ne 13, 3) := by decide +kernel
theorem dX2_sample_109 : decode cX2_sample 109 = .ok (.iload_n 2, 1) := by decide +kernel
theorem dX2_sample_110 : decode cX2_sample 110 = .ok (.ifCond .ne 6, 3) := by decide +kernel
theorem dX2_sample_113 : decode cX2_sample 113 = .ok (.iload 4, 2) := by decide +kernel
theorem dX2_sample_115 : decode cX2_sample 115 = .ok (.ireturn, 1) := by decide +kernel
theorem dX2_sample_116 : decode cX2_sample 116 = .ok (.iinc 2 (-1), 3) := by decide +kernel
theorem dX2_sample_119 : decode cX2_sample 119 = .ok (.iinc 3 1, 3) := by decide +kernel
theorem dX2_sample_122 : decode cX2_sample 122 = .ok (.goto (-45), 3) := by decide +kernel
theorem dX2_sample_125 : decode cX2_sample 125 = .ok (.iconst (-1), 1) := by decide +kernel
theorem dX2_sample_126 : decode cX2_sample 126 = .ok (.ireturn, 1) := by decide +kernel
theorem dX2_seed_0 : decode cX2_seed 0 = .ok (.aload_n 0, 1) := by decide +kernel
theorem dX2_seed_1 : decode cX2_seed 1 = .ok (.iload_n 1, 1) := by decide +kernel
theorem dX2_seed_2 : decode cX2_seed 2 = .ok (.ifCond .ge 7, 3) := by decide +kernel
theorem dX2_seed_5 : decode cX2_seed 5 = .ok (.iconst 1, 1) := by decide +kernel
theorem dX2_seed_6 : decode cX2_seed 6 = .ok (.goto 4, 3) := by decide +kernel
theorem dX2_seed_9 : decode cX2_seed 9 = .ok (.iconst 0, 1) := by decide +kernel
theorem dX2_seed_10 : decode cX2_seed 10 = .ok (.putfield 43, 3) := by decide +kernel
theorem dX2_seed_13 : decode cX2_seed 13 = .ok (.aload_n 0, 1) := by decide +kernel
theorem dX2_seed_14 : decode cX2_seed 14 = .ok (.getfield 43, 3) := by decide +kernel
theorem dX2_seed_17 : decode cX2_seed 17 = .ok (.ifCond .ne 9, 3) := by decide +kernel
theorem dX2_seed_20 : decode cX2_seed 20 = .ok (.aload_n 0, 1) := by decide +kernel
theorem dX2_seed_21 : decode cX2_seed 21 = .ok (.iload_n 1, 1) := by decide +kernel
theorem dX2_seed_22 : decode cX2_seed 22 = .ok (.i2l, 1) := by decide +kernel
theorem dX2_seed_23 : decode cX2_seed 23 = .ok (.putfield 17, 3) := by decide +kernel
theorem dX2_seed_26 : decode cX2_seed 26 = .ok (.return_, 1) := by decide +kernel
theorem dX2_told_0 : decode cX2_told 0 = .ok (.aload_n 0, 1) := by decide +kernel
theorem dX2_told_1 : decode cX2_told 1 = .ok (.iload_n 1, 1) := by decide +kernel
theorem dX2_told_2 : decode cX2_told 2 = .ok (.aload_n 0, 1) := by decide +kernel
theorem dX2_told_3 : decode cX2_told 3 = .ok (.getfield 50, 3) := by decide +kernel
theorem dX2_told_6 : decode cX2_told 6 = .ok (.invokestatic 53, 3) := by decide +kernel
theorem dX2_told_9 : decode cX2_told 9 = .ok (.ifCond .ne 7, 3) := by decide +kernel
theorem dX2_told_12 : decode cX2_told 12 = .ok (.iconst 1, 1) := by decide +kernel
theorem dX2_told_13 : decode cX2_told 13 = .ok (.goto 17, 3) := by decide +kernel
theorem dX2_told_16 : decode cX2_told 16 = .ok (.iload_n 2, 1) := by decide +kernel
theorem dX2_told_17 : decode cX2_told 17 = .ok (.bipush 6, 2) := by decide +kernel
theorem dX2_told_19 : decode cX2_told 19 = .ok (.invokestatic 53, 3) := by decide +kernel
theorem dX2_told_22 : decode cX2_told 22 = .ok (.ifCond .ne 7, 3) := by decide +kernel
theorem dX2_told_25 : decode cX2_told 25 = .ok (.iconst 2, 1) := by decide +kernel
theorem dX2_told_26 : decode cX2_told 26 = .ok (.goto 4, 3) := by decide +kernel
theorem dX2_told_29 : decode cX2_told 29 = .ok (.iconst 0, 1) := by decide +kernel
theorem dX2_told_30 : decode cX2_told 30 = .ok (.putfield 43, 3) := by decide +kernel
theorem dX2_told_33 : decode cX2_told 33 = .ok (.aload_n 0, 1) := by decide +kernel
theorem dX2_told_34 : decode cX2_told 34 = .ok (.getfield 43, 3) := by decide +kernel
theorem dX2_told_37 : decode cX2_told 37 = .ok (.ifCond .eq 5, 3) := by decide +kernel
theorem dX2_told_40 : decode cX2_told 40 = .ok (.iconst 0, 1) := by decide +kernel
theorem dX2_told_41 : decode cX2_told 41 = .ok (.ireturn, 1) := by decide +kernel
theorem dX2_told_42 : decode cX2_told 42 = .ok (.iload_n 2, 1) := by decide +kernel
theorem dX2_told_43 : decode cX2_told 43 = .ok (.ifCond .ne 10, 3) := by decide +kernel
theorem dX2_told_46 : decode cX2_told 46 = .ok (.aload_n 0, 1) := by decide +kernel
theorem dX2_told_47 : decode cX2_told 47 = .ok (.getfield 21, 3) := by decide +kernel
theorem dX2_told_50 : decode cX2_told 50 = .ok (.iload_n 1, 1) := by decide +kernel
theorem dX2_told_51 : decode cX2_told 51 = .ok (.iaload, 1) := by decide +kernel
theorem dX2_told_52 : decode cX2_told 52 = .ok (.ireturn, 1) := by decide +kernel
theorem dX2_told_53 : decode cX2_told 53 = .ok (.iload_n 2, 1) := by decide +kernel
theorem dX2_told_54 : decode cX2_told 54 = .ok (.iconst 1, 1) := by decide +kernel
theorem dX2_told_55 : decode cX2_told 55 = .ok (.if_icmp .ne 10, 3) := by decide +kernel
theorem dX2_told_58 : decode cX2_told 58 = .ok (.aload_n 0, 1) := by decide +kernel
theorem dX2_told_59 : decode cX2_told 59 = .ok (.getfield 24, 3) := by decide +kernel
theorem dX2_told_62 : decode cX2_told 62 = .ok (.iload_n 1, 1) := by decide +kernel
theorem dX2_told_63 : decode cX2_told 63 = .ok (.iaload, 1) := by decide +kernel
theorem dX2_told_64 : decode cX2_told 64 = .ok (.ireturn, 1) := by decide +kernel
theorem dX2_told_65 : decode cX2_told 65 = .ok (.iload_n 2, 1) := by decide +kernel
theorem dX2_told_66 : decode cX2_told 66 = .ok (.iconst 2, 1) := by decide +kernel
theorem dX2_told_67 : decode cX2_told 67 = .ok (.if_icmp .ne 9, 3) := by decide +kernel
theorem dX2_told_70 : decode cX2_told 70 = .ok (.aload_n 0, 1) := by decide +kernel
theorem dX2_told_71 : decode cX2_told 71 = .ok (.iload_n 1, 1) := by decide +kernel
theorem dX2_told_72 : decode cX2_told 72 = .ok (.invokevirtual 56, 3) := by decide +kernel
theorem dX2_told_75 : decode cX2_told 75 = .ok (.ireturn, 1) := by decide +kernel
theorem dX2_told_76 : decode cX2_told 76 = .ok (.iconst 0, 1) := by decide +kernel
theorem dX2_told_77 : decode cX2_told 77 = .ok (.istore_n 3, 1) := by decide +kernel
theorem dX2_told_78 : decode cX2_told 78 = .ok (.iconst 0, 1) := by decide +kernel
theorem dX2_told_79 : decode cX2_told 79 = .ok (.istore 4, 2) := by decide +kernel
theorem dX2_told_81 : decode cX2_told 81 = .ok (.iload 4, 2) := by decide +kernel
theorem dX2_told_83 : decode cX2_told 83 = .ok (.bipush 10, 2) := by decide +kernel
theorem dX2_told_85 : decode cX2_told 85 = .ok (.if_icmp .ge 83, 3) := by decide +kernel
theorem dX2_told_88 : decode cX2_told 88 = .ok (.aload_n 0, 1) := by decide +kernel
theorem dX2_told_89 : decode cX2_told 89 = .ok (.iload_n 1, 1) := by decide +kernel
theorem dX2_told_90 : decode cX2_told 90 = .ok (.iload 4, 2) := by decide +kernel
theorem dX2_told_92 : decode cX2_told 92 = .ok (.invokevirtual 46, 3) := by decide +kernel
theorem dX2_told_95 : decode cX2_told 95 = .ok (.ifCond .eq 67, 3) := by decide +kernel
theorem dX2_told_98 : decode cX2_told 98 = .ok (.iload_n 3, 1) := by decide +kernel
theorem dX2_told_99 : decode cX2_told 99 = .ok (.iload_n 2, 1) := by decide +kernel
theorem dX2_told_100 : decode cX2_told 100 = .ok (.iconst 3, 1) := by decide +kernel
theorem dX2_told_101 : decode cX2_told 101 = .ok (.if_icmp .ne 18, 3) := by decide +kernel
theorem dX2_told_104 : decode cX2_told 104 = .ok (.aload_n 0, 1) := by decide +kernel
theorem dX2_told_105 : decode cX2_told 105 = .ok (.getfield 30, 3) := by decide +kernel
theorem dX2_told_108 : decode cX2_told 108 = .ok (.bipush 10, 2) := by decide +kernel
theorem dX2_told_110 : decode cX2_told 110 = .ok (.iload_n 1, 1) := by decide +kernel
theorem dX2_told_111 : decode cX2_told 111 = .ok (.imul, 1) := by decide +kernel
theorem dX2_told_112 : decode cX2_told 112 = .ok (.iload 4, 2) := by decide +kernel
theorem dX2_told_114 : decode cX2_told 114 = .ok (.iadd, 1) := by decide +kernel
theorem dX2_told_115 : decode cX2_told 115 = .ok (.iaload, 1) := by decide +kernel
theorem dX2_told_116 : decode cX2_told 116 = .ok (.goto 44, 3) := by decide +kernel
theorem dX2_told_119 : decode cX2_told 119 = .ok (.iload_n 2, 1) := by decide +kernel
theorem dX2_told_120 : decode cX2_told 120 = .ok (.iconst 4, 1) := by decide +kernel
theorem dX2_told_121 : decode cX2_told 121 = .ok (.if_icmp .ne 18, 3) := by decide +kernel
theorem dX2_told_124 : decode cX2_told 124 = .ok (.aload_n 0, 1) := by decide +kernel
theorem dX2_told_125 : decode cX2_told 125 = .ok (.getfield 27, 3) := by decide +kernel
theorem dX2_told_128 : decode cX2_told 128 = .ok (.bipush 10, 2) := by decide +kernel
theorem dX2_told_130 : decode cX2_told 130 = .ok (.iload_n 1, 1) := by decide +kernel
theorem dX2_told_131 : decode cX2_told 131 = .ok (.imul, 1) := by decide +kernel
theorem dX2_told_132 : decode cX2_told 132 = .ok (.iload 4, 2) := by decide +kernel
theorem dX2_told_134 : decode cX2_told 134 = .ok (.iadd, 1) := by decide +kernel
theorem dX2_told_135 : decode cX2_told 135 = .ok (.iaload, 1) := by decide +kernel
theorem dX2_told_136 : decode cX2_told 136 = .ok (.goto 24, 3) := by decide +kernel
theorem dX2_told_139 : decode cX2_told 139 = .ok (.aload_n 0, 1) := by decide +kernel
theorem dX2_told_140 : decode cX2_told 140 = .ok (.iload_n 1, 1) := by decide +kernel
theorem dX2_told_141 : decode cX2_told 141 = .ok (.iload 4, 2) := by decide +kernel
theorem dX2_told_143 : decode cX2_told 143 = .ok (.invokevirtual 76, 3) := by decide +kernel
theorem dX2_told_146 : decode cX2_told 146 = .ok (.ifCond .eq 13, 3) := by decide +kernel
theorem dX2_told_149 : decode cX2_told 149 = .ok (.aload_n 0, 1) := by decide +kernel
theorem dX2_told_150 : decode cX2_told 150 = .ok (.iload_n 1, 1) := by decide +kernel
theorem dX2_told_151 : decode cX2_told 151 = .ok (.iload 4, 2) := by decide +kernel
theorem dX2_told_153 : decode cX2_told 153 = .ok (.invokevirtual 70, 3) := by decide +kernel
theorem dX2_told_156 : decode cX2_told 156 = .ok (.goto 4, 3) := by decide +kernel
theorem dX2_told_159 : decode cX2_told 159 = .ok (.iconst 0, 1) := by decide +kernel
theorem dX2_told_160 : decode cX2_told 160 = .ok (.iadd, 1) := by decide +kernel
theorem dX2_told_161 : decode cX2_told 161 = .ok (.istore_n 3, 1) := by decide +kernel
theorem dX2_told_162 : decode cX2_told 162 = .ok (.iinc 4 1, 3) := by decide +kernel
theorem dX2_told_165 : decode cX2_told 165 = .ok (.goto (-84), 3) := by decide +kernel
theorem dX2_told_168 : decode cX2_told 168 = .ok (.iload_n 3, 1) := by decide +kernel
theorem dX2_told_169 : decode cX2_told 169 = .ok (.ireturn, 1) := by decide +kernel
theorem dX2_piece_0 : decode cX2_piece 0 = .ok (.aload_n 0, 1) := by decide +kernel
theorem dX2_piece_1 : decode cX2_piece 1 = .ok (.aload_n 0, 1) := by decide +kernel
theorem dX2_piece_2 : decode cX2_piece 2 = .ok (.iload_n 1, 1) := by decide +kernel
theorem dX2_piece_3 : decode cX2_piece 3 = .ok (.iload_n 2, 1) := by decide +kernel
theorem dX2_piece_4 : decode cX2_piece 4 = .ok (.invokevirtual 67, 3) := by decide +kernel
theorem dX2_piece_7 : decode cX2_piece 7 = .ok (.putfield 43, 3) := by decide +kernel
theorem dX2_piece_10 : decode cX2_piece 10 = .ok (.aload_n 0, 1) := by decide +kernel
theorem dX2_piece_11 : decode cX2_piece 11 = .ok (.getfield 43, 3) := by decide +kernel
theorem dX2_piece_14 : decode cX2_piece 14 = .ok (.ifCond .ne 16, 3) := by decide +kernel
theorem dX2_piece_17 : decode cX2_piece 17 = .ok (.iload_n 3, 1) := by decide +kernel
theorem dX2_piece_18 : decode cX2_piece 18 = .ok (.iconst 3, 1) := by decide +kernel
theorem dX2_piece_19 : decode cX2_piece 19 = .ok (.invokestatic 53, 3) := by decide +kernel
theorem dX2_piece_22 : decode cX2_piece 22 = .ok (.ifCond .ne 8, 3) := by decide +kernel
theorem dX2_piece_25 : decode cX2_piece 25 = .ok (.aload_n 0, 1) := by decide +kernel
theorem dX2_piece_26 : decode cX2_piece 26 = .ok (.iconst 2, 1) := by decide +kernel
theorem dX2_piece_27 : decode cX2_piece 27 = .ok (.putfield 43, 3) := by decide +kernel
theorem dX2_piece_30 : decode cX2_piece 30 = .ok (.aload_n 0, 1) := by decide +kernel
theorem dX2_piece_31 : decode cX2_piece 31 = .ok (.getfield 43, 3) := by decide +kernel
theorem dX2_piece_34 : decode cX2_piece 34 = .ok (.ifCond .eq 5, 3) := by decide +kernel
theorem dX2_piece_37 : decode cX2_piece 37 = .ok (.iconst 0, 1) := by decide +kernel
theorem dX2_piece_38 : decode cX2_piece 38 = .ok (.ireturn, 1) := by decide +kernel
theorem dX2_piece_39 : decode cX2_piece 39 = .ok (.bipush 10, 2) := by decide +kernel
theorem dX2_piece_41 : decode cX2_piece 41 = .ok (.iload_n 1, 1) := by decide +kernel
theorem dX2_piece_42 : decode cX2_piece 42 = .ok (.imul, 1) := by decide +kernel
theorem dX2_piece_43 : decode cX2_piece 43 = .ok (.iload_n 2, 1) := by decide +kernel
theorem dX2_piece_44 : decode cX2_piece 44 = .ok (.iadd, 1) := by decide +kernel
theorem dX2_piece_45 : decode cX2_piece 45 = .ok (.istore 4, 2) := by decide +kernel
theorem dX2_piece_47 : decode cX2_piece 47 = .ok (.iload_n 3, 1) := by decide +kernel
theorem dX2_piece_48 : decode cX2_piece 48 = .ok (.ifCond .ne 13, 3) := by decide +kernel
theorem dX2_piece_51 : decode cX2_piece 51 = .ok (.aload_n 0, 1) := by decide +kernel
theorem dX2_piece_52 : decode cX2_piece 52 = .ok (.getfield 27, 3) := by decide +kernel
theorem dX2_piece_55 : decode cX2_piece 55 = .ok (.iload 4, 2) := by decide +kernel
theorem dX2_piece_57 : decode cX2_piece 57 = .ok (.iaload, 1) := by decide +kernel
theorem dX2_piece_58 : decode cX2_piece 58 = .ok (.goto 25, 3) := by decide +kernel
theorem dX2_piece_61 : decode cX2_piece 61 = .ok (.iload_n 3, 1) := by decide +kernel
theorem dX2_piece_62 : decode cX2_piece 62 = .ok (.iconst 1, 1) := by decide +kernel
theorem dX2_piece_63 : decode cX2_piece 63 = .ok (.if_icmp .ne 13, 3) := by decide +kernel
theorem dX2_piece_66 : decode cX2_piece 66 = .ok (.aload_n 0, 1) := by decide +kernel
theorem dX2_piece_67 : decode cX2_piece 67 = .ok (.getfield 30, 3) := by decide +kernel
theorem dX2_piece_70 : decode cX2_piece 70 = .ok (.iload 4, 2) := by decide +kernel
theorem dX2_piece_72 : decode cX2_piece 72 = .ok (.iaload, 1) := by decide +kernel
theorem dX2_piece_73 : decode cX2_piece 73 = .ok (.goto 10, 3) := by decide +kernel
theorem dX2_piece_76 : decode cX2_piece 76 = .ok (.aload_n 0, 1) := by decide +kernel
theorem dX2_piece_77 : decode cX2_piece 77 = .ok (.getfield 33, 3) := by decide +kernel
theorem dX2_piece_80 : decode cX2_piece 80 = .ok (.iload 4, 2) := by decide +kernel
theorem dX2_piece_82 : decode cX2_piece 82 = .ok (.iaload, 1) := by decide +kernel
theorem dX2_piece_83 : decode cX2_piece 83 = .ok (.ireturn, 1) := by decide +kernel
theorem dX2_errors_0 : decode cX2_errors 0 = .ok (.aload_n 0, 1) := by decide +kernel
theorem dX2_errors_1 : decode cX2_errors 1 = .ok (.iload_n 1, 1) := by decide +kernel
theorem dX2_errors_2 : decode cX2_errors 2 = .ok (.bipush 8, 2) := by decide +kernel
theorem dX2_errors_4 : decode cX2_errors 4 = .ok (.invokestatic 53, 3) := by decide +kernel
theorem dX2_errors_7 : decode cX2_errors 7 = .ok (.ifCond .eq 7, 3) := by decide +kernel
theorem dX2_errors_10 : decode cX2_errors 10 = .ok (.iconst 0, 1) := by decide +kernel
theorem dX2_errors_11 : decode cX2_errors 11 = .ok (.goto 4, 3) := by decide +kernel
theorem dX2_errors_14 : decode cX2_errors 14 = .ok (.iconst 1, 1) := by decide +kernel
theorem dX2_errors_15 : decode cX2_errors 15 = .ok (.putfield 43, 3) := by decide +kernel
theorem dX2_errors_18 : decode cX2_errors 18 = .ok (.aload_n 0, 1) := by decide +kernel
theorem dX2_errors_19 : decode cX2_errors 19 = .ok (.getfield 43, 3) := by decide +kernel
theorem dX2_errors_22 : decode cX2_errors 22 = .ok (.ifCond .eq 7, 3) := by decide +kernel
theorem dX2_errors_25 : decode cX2_errors 25 = .ok (.iconst 0, 1) := by decide +kernel
theorem dX2_errors_26 : decode cX2_errors 26 = .ok (.goto 9, 3) := by decide +kernel
theorem dX2_errors_29 : decode cX2_errors 29 = .ok (.aload_n 0, 1) := by decide +kernel
theorem dX2_errors_30 : decode cX2_errors 30 = .ok (.getfield 36, 3) := by decide +kernel
theorem dX2_errors_33 : decode cX2_errors 33 = .ok (.iload_n 1, 1) := by decide +kernel
theorem dX2_errors_34 : decode cX2_errors 34 = .ok (.iaload, 1) := by decide +kernel
theorem dX2_errors_35 : decode cX2_errors 35 = .ok (.ireturn, 1) := by decide +kernel
theorem dX2_count_0 : decode cX2_count 0 = .ok (.aload_n 0, 1) := by decide +kernel
theorem dX2_count_1 : decode cX2_count 1 = .ok (.iconst 0, 1) := by decide +kernel
theorem dX2_count_2 : decode cX2_count 2 = .ok (.putfield 43, 3) := by decide +kernel
theorem dX2_count_5 : decode cX2_count 5 = .ok (.iconst 0, 1) := by decide +kernel
theorem dX2_count_6 : decode cX2_count 6 = .ok (.istore_n 2, 1) := by decide +kernel
theorem dX2_count_7 : decode cX2_count 7 = .ok (.iload_n 1, 1) := by decide +kernel
theorem dX2_count_8 : decode cX2_count 8 = .ok (.tableswitch 147 0 5 #[40, 45, 50, 80, 117, 142], 40) := by decide +kernel
theorem dX2_count_48 : decode cX2_count 48 = .ok (.aload_n 0, 1) := by decide +kernel
theorem dX2_count_49 : decode cX2_count 49 = .ok (.getfield 39, 3) := by decide +kernel
theorem dX2_count_52 : decode cX2_count 52 = .ok (.ireturn, 1) := by decide +kernel
theorem dX2_count_53 : decode cX2_count 53 = .ok (.aload_n 0, 1) := by decide +kernel
theorem dX2_count_54 : decode cX2_count 54 = .ok (.getfield 50, 3) := by decide +kernel
theorem dX2_count_57 : decode cX2_count 57 = .ok (.ireturn, 1) := by decide +kernel
theorem dX2_count_58 : decode cX2_count 58 = .ok (.iconst 0, 1) := by decide +kernel
theorem dX2_count_59 : decode cX2_count 59 = .ok (.istore_n 3, 1) := by decide +kernel
theorem dX2_count_60 : decode cX2_count 60 = .ok (.iload_n 3, 1) := by decide +kernel
theorem dX2_count_61 : decode cX2_count 61 = .ok (.aload_n 0, 1) := by decide +kernel
theorem dX2_count_62 : decode cX2_count 62 = .ok (.getfield 39, 3) := by decide +kernel
theorem dX2_count_65 : decode cX2_count 65 = .ok (.if_icmp .ge 21, 3) := by decide +kernel
theorem dX2_count_68 : decode cX2_count 68 = .ok (.aload_n 0, 1) := by decide +kernel
theorem dX2_count_69 : decode cX2_count 69 = .ok (.iload_n 3, 1) := by decide +kernel
theorem dX2_count_70 : decode cX2_count 70 = .ok (.invokevirtual 60, 3) := by decide +kernel
theorem dX2_count_73 : decode cX2_count 73 = .ok (.iconst (-1), 1) := by decide +kernel
theorem dX2_count_74 : decode cX2_count 74 = .ok (.if_icmp .ne 6, 3) := by decide +kernel
theorem dX2_count_77 : decode cX2_count 77 = .ok (.iinc 2 1, 3) := by decide +kernel
theorem dX2_count_80 : decode cX2_count 80 = .ok (.iinc 3 1, 3) := by decide +kernel
theorem dX2_count_83 : decode cX2_count 83 = .ok (.goto (-23), 3) := by decide +kernel
theorem dX2_count_86 : decode cX2_count 86 = .ok (.iload_n 2, 1) := by decide +kernel
theorem dX2_count_87 : decode cX2_count 87 = .ok (.ireturn, 1) := by decide +kernel
theorem dX2_count_88 : decode cX2_count 88 = .ok (.iconst 0, 1) := by decide +kernel
theorem dX2_count_89 : decode cX2_count 89 = .ok (.istore_n 3, 1) := by decide +kernel
theorem dX2_count_90 : decode cX2_count 90 = .ok (.iload_n 3, 1) := by decide +kernel
theorem dX2_count_91 : decode cX2_count 91 = .ok (.aload_n 0, 1) := by decide +kernel
theorem dX2_count_92 : decode cX2_count 92 = .ok (.getfield 50, 3) := by decide +kernel
theorem dX2_count_95 : decode cX2_count 95 = .ok (.if_icmp .ge 28, 3) := by decide +kernel
theorem dX2_count_98 : decode cX2_count 98 = .ok (.aload_n 0, 1) := by decide +kernel
theorem dX2_count_99 : decode cX2_count 99 = .ok (.getfield 24, 3) := by decide +kernel
theorem dX2_count_102 : decode cX2_count 102 = .ok (.iload_n 3, 1) := by decide +kernel
theorem dX2_count_103 : decode cX2_count 103 = .ok (.iaload, 1) := by decide +kernel
theorem dX2_count_104 : decode cX2_count 104 = .ok (.iconst (-1), 1) := by decide +kernel
theorem dX2_count_105 : decode cX2_count 105 = .ok (.if_icmp .eq 12, 3) := by decide +kernel
theorem dX2_count_108 : decode cX2_count 108 = .ok (.iload_n 2, 1) := by decide +kernel
theorem dX2_count_109 : decode cX2_count 109 = .ok (.aload_n 0, 1) := by decide +kernel
theorem dX2_count_110 : decode cX2_count 110 = .ok (.iload_n 3, 1) := by decide +kernel
theorem dX2_count_111 : decode cX2_count 111 = .ok (.iconst 3, 1) := by decide +kernel
theorem dX2_count_112 : decode cX2_count 112 = .ok (.invokevirtual 87, 3) := by decide +kernel
theorem dX2_count_115 : decode cX2_count 115 = .ok (.iadd, 1) := by decide +kernel
theorem dX2_count_116 : decode cX2_count 116 = .ok (.istore_n 2, 1) := by decide +kernel
theorem dX2_count_117 : decode cX2_count 117 = .ok (.iinc 3 1, 3) := by decide +kernel
theorem dX2_count_120 : decode cX2_count 120 = .ok (.goto (-30), 3) := by decide +kernel
theorem dX2_count_123 : decode cX2_count 123 = .ok (.iload_n 2, 1) := by decide +kernel
theorem dX2_count_124 : decode cX2_count 124 = .ok (.ireturn, 1) := by decide +kernel
theorem dX2_count_125 : decode cX2_count 125 = .ok (.iconst 0, 1) := by decide +kernel
theorem dX2_count_126 : decode cX2_count 126 = .ok (.istore_n 3, 1) := by decide +kernel
theorem dX2_count_127 : decode cX2_count 127 = .ok (.iload_n 3, 1) := by decide +kernel
theorem dX2_count_128 : decode cX2_count 128 = .ok (.bipush 10, 2) := by decide +kernel
theorem dX2_count_130 : decode cX2_count 130 = .ok (.if_icmp .ge 18, 3) := by decide +kernel
theorem dX2_count_133 : decode cX2_count 133 = .ok (.iload_n 2, 1) := by decide +kernel
theorem dX2_count_134 : decode cX2_count 134 = .ok (.aload_n 0, 1) := by decide +kernel
theorem dX2_count_135 : decode cX2_count 135 = .ok (.getfield 13, 3) := by decide +kernel
theorem dX2_count_138 : decode cX2_count 138 = .ok (.iload_n 3, 1) := by decide +kernel
theorem dX2_count_139 : decode cX2_count 139 = .ok (.iaload, 1) := by decide +kernel
theorem dX2_count_140 : decode cX2_count 140 = .ok (.iadd, 1) := by decide +kernel
theorem dX2_count_141 : decode cX2_count 141 = .ok (.istore_n 2, 1) := by decide +kernel
theorem dX2_count_142 : decode cX2_count 142 = .ok (.iinc 3 1, 3) := by decide +kernel
theorem dX2_count_145 : decode cX2_count 145 = .ok (.goto (-18), 3) := by decide +kernel
theorem dX2_count_148 : decode cX2_count 148 = .ok (.iload_n 2, 1) := by decide +kernel
theorem dX2_count_149 : decode cX2_count 149 = .ok (.ireturn, 1) := by decide +kernel
theorem dX2_count_150 : decode cX2_count 150 = .ok (.aload_n 0, 1) := by decide +kernel
theorem dX2_count_151 : decode cX2_count 151 = .ok (.getfield 73, 3) := by decide +kernel
theorem dX2_count_154 : decode cX2_count 154 = .ok (.ireturn, 1) := by decide +kernel
theorem dX2_count_155 : decode cX2_count 155 = .ok (.iconst (-1), 1) := by decide +kernel
theorem dX2_count_156 : decode cX2_count 156 = .ok (.ireturn, 1) := by decide +kernel
end
section
theorem dL_cell_0 : decode cL_cell 0 = .ok (.iload_n 1, 1) := by decide +kernel
theorem dL_cell_1 : decode cL_cell 1 = .ok (.aload_n 0, 1) := by decide +kernel
theorem dL_cell_2 : decode cL_cell 2 = .ok (.arraylength, 1) := by decide +kernel
theorem dL_cell_3 : decode cL_cell 3 = .ok (.if_icmp .ge 9, 3) := by decide +kernel
theorem dL_cell_6 : decode cL_cell 6 = .ok (.aload_n 0, 1) := by decide +kernel
theorem dL_cell_7 : decode cL_cell 7 = .ok (.iload_n 1, 1) := by decide +kernel
theorem dL_cell_8 : decode cL_cell 8 = .ok (.iaload, 1) := by decide +kernel
theorem dL_cell_9 : decode cL_cell 9 = .ok (.goto 4, 3) := by decide +kernel
theorem dL_cell_12 : decode cL_cell 12 = .ok (.iconst 0, 1) := by decide +kernel
theorem dL_cell_13 : decode cL_cell 13 = .ok (.ireturn, 1) := by decide +kernel
theorem dL_tote_0 : decode cL_tote 0 = .ok (.aload_n 3, 1) := by decide +kernel
theorem dL_tote_1 : decode cL_tote 1 = .ok (.iconst 0, 1) := by decide +kernel
theorem dL_tote_2 : decode cL_tote 2 = .ok (.aload_n 0, 1) := by decide +kernel
theorem dL_tote_3 : decode cL_tote 3 = .ok (.iload_n 1, 1) := by decide +kernel
theorem dL_tote_4 : decode cL_tote 4 = .ok (.iload_n 2, 1) := by decide +kernel
theorem dL_tote_5 : decode cL_tote 5 = .ok (.invokevirtual 7, 3) := by decide +kernel
theorem dL_tote_8 : decode cL_tote 8 = .ok (.i2l, 1) := by decide +kernel
theorem dL_tote_9 : decode cL_tote 9 = .ok (.lastore, 1) := by decide +kernel
theorem dL_tote_10 : decode cL_tote 10 = .ok (.goto 7, 3) := by decide +kernel
theorem dL_tote_13 : decode cL_tote 13 = .ok (.astore 4, 2) := by decide +kernel
theorem dL_tote_15 : decode cL_tote 15 = .ok (.iconst 1, 1) := by decide +kernel
theorem dL_tote_16 : decode cL_tote 16 = .ok (.ireturn, 1) := by decide +kernel
theorem dL_tote_17 : decode cL_tote 17 = .ok (.iconst 0, 1) := by decide +kernel
theorem dL_tote_18 : decode cL_tote 18 = .ok (.ireturn, 1) := by decide +kernel
theorem dL_order_0 : decode cL_order 0 = .ok (.aload_n 1, 1) := by decide +kernel
theorem dL_order_1 : decode cL_order 1 = .ok (.iconst 0, 1) := by decide +kernel
theorem dL_order_2 : decode cL_order 2 = .ok (.aload_n 0, 1) := by decide +kernel
theorem dL_order_3 : decode cL_order 3 = .ok (.invokevirtual 15, 3) := by decide +kernel
theorem dL_order_6 : decode cL_order 6 = .ok (.i2l, 1) := by decide +kernel
theorem dL_order_7 : decode cL_order 7 = .ok (.lastore, 1) := by decide +kernel
theorem dL_order_8 : decode cL_order 8 = .ok (.goto 6, 3) := by decide +kernel
theorem dL_order_11 : decode cL_order 11 = .ok (.astore_n 2, 1) := by decide +kernel
theorem dL_order_12 : decode cL_order 12 = .ok (.iconst 1, 1) := by decide +kernel
theorem dL_order_13 : decode cL_order 13 = .ok (.ireturn, 1) := by decide +kernel
theorem dL_order_14 : decode cL_order 14 = .ok (.iconst 0, 1) := by decide +kernel
theorem dL_order_15 : decode cL_order 15 = .ok (.ireturn, 1) := by decide +kernel
theorem dL_line_0 : decode cL_line 0 = .ok (.aload_n 0, 1) := by decide +kernel
theorem dL_line_1 : decode cL_line 1 = .ok (.iload_n 1, 1) := by decide +kernel
theorem dL_line_2 : decode cL_line 2 = .ok (.iload_n 2, 1) := by decide +kernel
theorem dL_line_3 : decode cL_line 3 = .ok (.iload_n 3, 1) := by decide +kernel
theorem dL_line_4 : decode cL_line 4 = .ok (.invokevirtual 21, 3) := by decide +kernel
theorem dL_line_7 : decode cL_line 7 = .ok (.goto 15, 3) := by decide +kernel
theorem dL_line_10 : decode cL_line 10 = .ok (.astore 4, 2) := by decide +kernel
theorem dL_line_12 : decode cL_line 12 = .ok (.iconst 1, 1) := by decide +kernel
theorem dL_line_13 : decode cL_line 13 = .ok (.ireturn, 1) := by decide +kernel
theorem dL_line_14 : decode cL_line 14 = .ok (.astore 4, 2) := by decide +kernel
theorem dL_line_16 : decode cL_line 16 = .ok (.iconst 2, 1) := by decide +kernel
theorem dL_line_17 : decode cL_line 17 = .ok (.ireturn, 1) := by decide +kernel
theorem dL_line_18 : decode cL_line 18 = .ok (.astore 4, 2) := by decide +kernel
theorem dL_line_20 : decode cL_line 20 = .ok (.iconst 3, 1) := by decide +kernel
theorem dL_line_21 : decode cL_line 21 = .ok (.ireturn, 1) := by decide +kernel
theorem dL_line_22 : decode cL_line 22 = .ok (.iconst 0, 1) := by decide +kernel
theorem dL_line_23 : decode cL_line 23 = .ok (.ireturn, 1) := by decide +kernel
theorem dL_cell__0 : decode cL_cell_ 0 = .ok (.aload_n 2, 1) := by decide +kernel
theorem dL_cell__1 : decode cL_cell_ 1 = .ok (.iconst 0, 1) := by decide +kernel
theorem dL_cell__2 : decode cL_cell_ 2 = .ok (.aload_n 0, 1) := by decide +kernel
theorem dL_cell__3 : decode cL_cell_ 3 = .ok (.iload_n 1, 1) := by decide +kernel
theorem dL_cell__4 : decode cL_cell_ 4 = .ok (.invokevirtual 29, 3) := by decide +kernel
theorem dL_cell__7 : decode cL_cell_ 7 = .ok (.i2l, 1) := by decide +kernel
theorem dL_cell__8 : decode cL_cell_ 8 = .ok (.lastore, 1) := by decide +kernel
theorem dL_cell__9 : decode cL_cell_ 9 = .ok (.goto 9, 3) := by decide +kernel
theorem dL_cell__12 : decode cL_cell_ 12 = .ok (.astore_n 3, 1) := by decide +kernel
theorem dL_cell__13 : decode cL_cell_ 13 = .ok (.iconst 1, 1) := by decide +kernel
theorem dL_cell__14 : decode cL_cell_ 14 = .ok (.ireturn, 1) := by decide +kernel
theorem dL_cell__15 : decode cL_cell_ 15 = .ok (.astore_n 3, 1) := by decide +kernel
theorem dL_cell__16 : decode cL_cell_ 16 = .ok (.iconst 2, 1) := by decide +kernel
theorem dL_cell__17 : decode cL_cell_ 17 = .ok (.ireturn, 1) := by decide +kernel
theorem dL_cell__18 : decode cL_cell_ 18 = .ok (.iconst 0, 1) := by decide +kernel
theorem dL_cell__19 : decode cL_cell_ 19 = .ok (.ireturn, 1) := by decide +kernel
theorem dL_light_0 : decode cL_light 0 = .ok (.aload_n 3, 1) := by decide +kernel
theorem dL_light_1 : decode cL_light 1 = .ok (.iconst 0, 1) := by decide +kernel
theorem dL_light_2 : decode cL_light 2 = .ok (.aload_n 0, 1) := by decide +kernel
theorem dL_light_3 : decode cL_light 3 = .ok (.iload_n 1, 1) := by decide +kernel
theorem dL_light_4 : decode cL_light 4 = .ok (.iload_n 2, 1) := by decide +kernel
theorem dL_light_5 : decode cL_light 5 = .ok (.invokevirtual 33, 3) := by decide +kernel
theorem dL_light_8 : decode cL_light 8 = .ok (.ifCond .eq 7, 3) := by decide +kernel
theorem dL_light_11 : decode cL_light 11 = .ok (.lconst 1, 1) := by decide +kernel
theorem dL_light_12 : decode cL_light 12 = .ok (.goto 4, 3) := by decide +kernel
theorem dL_light_15 : decode cL_light 15 = .ok (.lconst 0, 1) := by decide +kernel
theorem dL_light_16 : decode cL_light 16 = .ok (.lastore, 1) := by decide +kernel
theorem dL_light_17 : decode cL_light 17 = .ok (.goto 7, 3) := by decide +kernel
theorem dL_light_20 : decode cL_light 20 = .ok (.astore 4, 2) := by decide +kernel
theorem dL_light_22 : decode cL_light 22 = .ok (.iconst 1, 1) := by decide +kernel
theorem dL_light_23 : decode cL_light 23 = .ok (.ireturn, 1) := by decide +kernel
theorem dL_light_24 : decode cL_light 24 = .ok (.iconst 0, 1) := by decide +kernel
theorem dL_light_25 : decode cL_light 25 = .ok (.ireturn, 1) := by decide +kernel
theorem dL_scan_0 : decode cL_scan 0 = .ok (.aload 4, 2) := by decide +kernel
theorem dL_scan_2 : decode cL_scan 2 = .ok (.iconst 0, 1) := by decide +kernel
theorem dL_scan_3 : decode cL_scan 3 = .ok (.aload_n 0, 1) := by decide +kernel
theorem dL_scan_4 : decode cL_scan 4 = .ok (.iload_n 1, 1) := by decide +kernel
theorem dL_scan_5 : decode cL_scan 5 = .ok (.iload_n 2, 1) := by decide +kernel
theorem dL_scan_6 : decode cL_scan 6 = .ok (.iload_n 3, 1) := by decide +kernel
theorem dL_scan_7 : decode cL_scan 7 = .ok (.invokevirtual 39, 3) := by decide +kernel
theorem dL_scan_10 : decode cL_scan 10 = .ok (.i2l, 1) := by decide +kernel
theorem dL_scan_11 : decode cL_scan 11 = .ok (.lastore, 1) := by decide +kernel
theorem dL_scan_12 : decode cL_scan 12 = .ok (.goto 11, 3) := by decide +kernel
theorem dL_scan_15 : decode cL_scan 15 = .ok (.astore 5, 2) := by decide +kernel
theorem dL_scan_17 : decode cL_scan 17 = .ok (.iconst 1, 1) := by decide +kernel
theorem dL_scan_18 : decode cL_scan 18 = .ok (.ireturn, 1) := by decide +kernel
theorem dL_scan_19 : decode cL_scan 19 = .ok (.astore 5, 2) := by decide +kernel
theorem dL_scan_21 : decode cL_scan 21 = .ok (.iconst 2, 1) := by decide +kernel
theorem dL_scan_22 : decode cL_scan 22 = .ok (.ireturn, 1) := by decide +kernel
theorem dL_scan_23 : decode cL_scan 23 = .ok (.iconst 0, 1) := by decide +kernel
theorem dL_scan_24 : decode cL_scan 24 = .ok (.ireturn, 1) := by decide +kernel
theorem dL_undo_0 : decode cL_undo 0 = .ok (.aload_n 3, 1) := by decide +kernel
theorem dL_undo_1 : decode cL_undo 1 = .ok (.iconst 0, 1) := by decide +kernel
theorem dL_undo_2 : decode cL_undo 2 = .ok (.aload_n 0, 1) := by decide +kernel
theorem dL_undo_3 : decode cL_undo 3 = .ok (.iload_n 1, 1) := by decide +kernel
theorem dL_undo_4 : decode cL_undo 4 = .ok (.iload_n 2, 1) := by decide +kernel
theorem dL_undo_5 : decode cL_undo 5 = .ok (.invokevirtual 43, 3) := by decide +kernel
theorem dL_undo_8 : decode cL_undo 8 = .ok (.i2l, 1) := by decide +kernel
theorem dL_undo_9 : decode cL_undo 9 = .ok (.lastore, 1) := by decide +kernel
theorem dL_undo_10 : decode cL_undo 10 = .ok (.goto 15, 3) := by decide +kernel
theorem dL_undo_13 : decode cL_undo 13 = .ok (.astore 4, 2) := by decide +kernel
theorem dL_undo_15 : decode cL_undo 15 = .ok (.iconst 1, 1) := by decide +kernel
theorem dL_undo_16 : decode cL_undo 16 = .ok (.ireturn, 1) := by decide +kernel
theorem dL_undo_17 : decode cL_undo 17 = .ok (.astore 4, 2) := by decide +kernel
theorem dL_undo_19 : decode cL_undo 19 = .ok (.iconst 2, 1) := by decide +kernel
theorem dL_undo_20 : decode cL_undo 20 = .ok (.ireturn, 1) := by decide +kernel
theorem dL_undo_21 : decode cL_undo 21 = .ok (.astore 4, 2) := by decide +kernel
theorem dL_undo_23 : decode cL_undo 23 = .ok (.iconst 3, 1) := by decide +kernel
theorem dL_undo_24 : decode cL_undo 24 = .ok (.ireturn, 1) := by decide +kernel
theorem dL_undo_25 : decode cL_undo 25 = .ok (.iconst 0, 1) := by decide +kernel
theorem dL_undo_26 : decode cL_undo 26 = .ok (.ireturn, 1) := by decide +kernel
theorem dL_miss_0 : decode cL_miss 0 = .ok (.aload 4, 2) := by decide +kernel
theorem dL_miss_2 : decode cL_miss 2 = .ok (.iconst 0, 1) := by decide +kernel
theorem dL_miss_3 : decode cL_miss 3 = .ok (.aload_n 0, 1) := by decide +kernel
theorem dL_miss_4 : decode cL_miss 4 = .ok (.iload_n 1, 1) := by decide +kernel
theorem dL_miss_5 : decode cL_miss 5 = .ok (.iload_n 2, 1) := by decide +kernel
theorem dL_miss_6 : decode cL_miss 6 = .ok (.iload_n 3, 1) := by decide +kernel
theorem dL_miss_7 : decode cL_miss 7 = .ok (.invokevirtual 46, 3) := by decide +kernel
theorem dL_miss_10 : decode cL_miss 10 = .ok (.i2l, 1) := by decide +kernel
theorem dL_miss_11 : decode cL_miss 11 = .ok (.lastore, 1) := by decide +kernel
theorem dL_miss_12 : decode cL_miss 12 = .ok (.goto 15, 3) := by decide +kernel
theorem dL_miss_15 : decode cL_miss 15 = .ok (.astore 5, 2) := by decide +kernel
theorem dL_miss_17 : decode cL_miss 17 = .ok (.iconst 1, 1) := by decide +kernel
theorem dL_miss_18 : decode cL_miss 18 = .ok (.ireturn, 1) := by decide +kernel
theorem dL_miss_19 : decode cL_miss 19 = .ok (.astore 5, 2) := by decide +kernel
theorem dL_miss_21 : decode cL_miss 21 = .ok (.iconst 2, 1) := by decide +kernel
theorem dL_miss_22 : decode cL_miss 22 = .ok (.ireturn, 1) := by decide +kernel
theorem dL_miss_23 : decode cL_miss 23 = .ok (.astore 5, 2) := by decide +kernel
theorem dL_miss_25 : decode cL_miss 25 = .ok (.iconst 3, 1) := by decide +kernel
theorem dL_miss_26 : decode cL_miss 26 = .ok (.ireturn, 1) := by decide +kernel
theorem dL_miss_27 : decode cL_miss 27 = .ok (.iconst 0, 1) := by decide +kernel
theorem dL_miss_28 : decode cL_miss 28 = .ok (.ireturn, 1) := by decide +kernel
theorem dL_day_0 : decode cL_day 0 = .ok (.aload_n 0, 1) := by decide +kernel
theorem dL_day_1 : decode cL_day 1 = .ok (.iload_n 1, 1) := by decide +kernel
theorem dL_day_2 : decode cL_day 2 = .ok (.invokevirtual 49, 3) := by decide +kernel
theorem dL_day_5 : decode cL_day 5 = .ok (.goto 9, 3) := by decide +kernel
theorem dL_day_8 : decode cL_day 8 = .ok (.astore_n 2, 1) := by decide +kernel
theorem dL_day_9 : decode cL_day 9 = .ok (.iconst 1, 1) := by decide +kernel
theorem dL_day_10 : decode cL_day 10 = .ok (.ireturn, 1) := by decide +kernel
theorem dL_day_11 : decode cL_day 11 = .ok (.astore_n 2, 1) := by decide +kernel
theorem dL_day_12 : decode cL_day 12 = .ok (.iconst 2, 1) := by decide +kernel
theorem dL_day_13 : decode cL_day 13 = .ok (.ireturn, 1) := by decide +kernel
theorem dL_day_14 : decode cL_day 14 = .ok (.iconst 0, 1) := by decide +kernel
theorem dL_day_15 : decode cL_day 15 = .ok (.ireturn, 1) := by decide +kernel
theorem dL_change_0 : decode cL_change 0 = .ok (.aload 4, 2) := by decide +kernel
theorem dL_change_2 : decode cL_change 2 = .ok (.iconst 0, 1) := by decide +kernel
theorem dL_change_3 : decode cL_change 3 = .ok (.aload_n 0, 1) := by decide +kernel
theorem dL_change_4 : decode cL_change 4 = .ok (.iload_n 1, 1) := by decide +kernel
theorem dL_change_5 : decode cL_change 5 = .ok (.iload_n 2, 1) := by decide +kernel
theorem dL_change_6 : decode cL_change 6 = .ok (.iload_n 3, 1) := by decide +kernel
theorem dL_change_7 : decode cL_change 7 = .ok (.invokevirtual 53, 3) := by decide +kernel
theorem dL_change_10 : decode cL_change 10 = .ok (.ifCond .eq 7, 3) := by decide +kernel
theorem dL_change_13 : decode cL_change 13 = .ok (.lconst 1, 1) := by decide +kernel
theorem dL_change_14 : decode cL_change 14 = .ok (.goto 4, 3) := by decide +kernel
theorem dL_change_17 : decode cL_change 17 = .ok (.lconst 0, 1) := by decide +kernel
theorem dL_change_18 : decode cL_change 18 = .ok (.lastore, 1) := by decide +kernel
theorem dL_change_19 : decode cL_change 19 = .ok (.goto 15, 3) := by decide +kernel
theorem dL_change_22 : decode cL_change 22 = .ok (.astore 5, 2) := by decide +kernel
theorem dL_change_24 : decode cL_change 24 = .ok (.iconst 1, 1) := by decide +kernel
theorem dL_change_25 : decode cL_change 25 = .ok (.ireturn, 1) := by decide +kernel
theorem dL_change_26 : decode cL_change 26 = .ok (.astore 5, 2) := by decide +kernel
theorem dL_change_28 : decode cL_change 28 = .ok (.iconst 2, 1) := by decide +kernel
theorem dL_change_29 : decode cL_change 29 = .ok (.ireturn, 1) := by decide +kernel
theorem dL_change_30 : decode cL_change 30 = .ok (.astore 5, 2) := by decide +kernel
theorem dL_change_32 : decode cL_change 32 = .ok (.iconst 3, 1) := by decide +kernel
theorem dL_change_33 : decode cL_change 33 = .ok (.ireturn, 1) := by decide +kernel
theorem dL_change_34 : decode cL_change 34 = .ok (.iconst 0, 1) := by decide +kernel
theorem dL_change_35 : decode cL_change 35 = .ok (.ireturn, 1) := by decide +kernel
theorem dL_complete_0 : decode cL_complete 0 = .ok (.aload_n 2, 1) := by decide +kernel
theorem dL_complete_1 : decode cL_complete 1 = .ok (.iconst 0, 1) := by decide +kernel
theorem dL_complete_2 : decode cL_complete 2 = .ok (.aload_n 0, 1) := by decide +kernel
theorem dL_complete_3 : decode cL_complete 3 = .ok (.iload_n 1, 1) := by decide +kernel
theorem dL_complete_4 : decode cL_complete 4 = .ok (.invokevirtual 57, 3) := by decide +kernel
theorem dL_complete_7 : decode cL_complete 7 = .ok (.ifCond .eq 7, 3) := by decide +kernel
theorem dL_complete_10 : decode cL_complete 10 = .ok (.lconst 1, 1) := by decide +kernel
theorem dL_complete_11 : decode cL_complete 11 = .ok (.goto 4, 3) := by decide +kernel
theorem dL_complete_14 : decode cL_complete 14 = .ok (.lconst 0, 1) := by decide +kernel
theorem dL_complete_15 : decode cL_complete 15 = .ok (.lastore, 1) := by decide +kernel
theorem dL_complete_16 : decode cL_complete 16 = .ok (.goto 9, 3) := by decide +kernel
theorem dL_complete_19 : decode cL_complete 19 = .ok (.astore_n 3, 1) := by decide +kernel
theorem dL_complete_20 : decode cL_complete 20 = .ok (.iconst 1, 1) := by decide +kernel
theorem dL_complete_21 : decode cL_complete 21 = .ok (.ireturn, 1) := by decide +kernel
theorem dL_complete_22 : decode cL_complete 22 = .ok (.astore_n 3, 1) := by decide +kernel
theorem dL_complete_23 : decode cL_complete 23 = .ok (.iconst 2, 1) := by decide +kernel
theorem dL_complete_24 : decode cL_complete 24 = .ok (.ireturn, 1) := by decide +kernel
theorem dL_complete_25 : decode cL_complete 25 = .ok (.iconst 0, 1) := by decide +kernel
theorem dL_complete_26 : decode cL_complete 26 = .ok (.ireturn, 1) := by decide +kernel
theorem dL_release_0 : decode cL_release 0 = .ok (.aload_n 2, 1) := by decide +kernel
theorem dL_release_1 : decode cL_release 1 = .ok (.iconst 0, 1) := by decide +kernel
theorem dL_release_2 : decode cL_release 2 = .ok (.aload_n 0, 1) := by decide +kernel
theorem dL_release_3 : decode cL_release 3 = .ok (.iload_n 1, 1) := by decide +kernel
theorem dL_release_4 : decode cL_release 4 = .ok (.invokevirtual 61, 3) := by decide +kernel
theorem dL_release_7 : decode cL_release 7 = .ok (.ifCond .eq 7, 3) := by decide +kernel
theorem dL_release_10 : decode cL_release 10 = .ok (.lconst 1, 1) := by decide +kernel
theorem dL_release_11 : decode cL_release 11 = .ok (.goto 4, 3) := by decide +kernel
theorem dL_release_14 : decode cL_release 14 = .ok (.lconst 0, 1) := by decide +kernel
theorem dL_release_15 : decode cL_release 15 = .ok (.lastore, 1) := by decide +kernel
theorem dL_release_16 : decode cL_release 16 = .ok (.goto 9, 3) := by decide +kernel
theorem dL_release_19 : decode cL_release 19 = .ok (.astore_n 3, 1) := by decide +kernel
theorem dL_release_20 : decode cL_release 20 = .ok (.iconst 1, 1) := by decide +kernel
theorem dL_release_21 : decode cL_release 21 = .ok (.ireturn, 1) := by decide +kernel
theorem dL_release_22 : decode cL_release 22 = .ok (.astore_n 3, 1) := by decide +kernel
theorem dL_release_23 : decode cL_release 23 = .ok (.iconst 2, 1) := by decide +kernel
theorem dL_release_24 : decode cL_release 24 = .ok (.ireturn, 1) := by decide +kernel
theorem dL_release_25 : decode cL_release 25 = .ok (.iconst 0, 1) := by decide +kernel
theorem dL_release_26 : decode cL_release 26 = .ok (.ireturn, 1) := by decide +kernel
theorem dL_seed_0 : decode cL_seed 0 = .ok (.aload_n 0, 1) := by decide +kernel
theorem dL_seed_1 : decode cL_seed 1 = .ok (.iload_n 1, 1) := by decide +kernel
theorem dL_seed_2 : decode cL_seed 2 = .ok (.invokevirtual 64, 3) := by decide +kernel
theorem dL_seed_5 : decode cL_seed 5 = .ok (.goto 6, 3) := by decide +kernel
theorem dL_seed_8 : decode cL_seed 8 = .ok (.astore_n 2, 1) := by decide +kernel
theorem dL_seed_9 : decode cL_seed 9 = .ok (.iconst 1, 1) := by decide +kernel
theorem dL_seed_10 : decode cL_seed 10 = .ok (.ireturn, 1) := by decide +kernel
theorem dL_seed_11 : decode cL_seed 11 = .ok (.iconst 0, 1) := by decide +kernel
theorem dL_seed_12 : decode cL_seed 12 = .ok (.ireturn, 1) := by decide +kernel
theorem dL_told_0 : decode cL_told 0 = .ok (.aload_n 3, 1) := by decide +kernel
theorem dL_told_1 : decode cL_told 1 = .ok (.iconst 0, 1) := by decide +kernel
theorem dL_told_2 : decode cL_told 2 = .ok (.aload_n 0, 1) := by decide +kernel
theorem dL_told_3 : decode cL_told 3 = .ok (.iload_n 1, 1) := by decide +kernel
theorem dL_told_4 : decode cL_told 4 = .ok (.iload_n 2, 1) := by decide +kernel
theorem dL_told_5 : decode cL_told 5 = .ok (.invokevirtual 67, 3) := by decide +kernel
theorem dL_told_8 : decode cL_told 8 = .ok (.i2l, 1) := by decide +kernel
theorem dL_told_9 : decode cL_told 9 = .ok (.lastore, 1) := by decide +kernel
theorem dL_told_10 : decode cL_told 10 = .ok (.goto 11, 3) := by decide +kernel
theorem dL_told_13 : decode cL_told 13 = .ok (.astore 4, 2) := by decide +kernel
theorem dL_told_15 : decode cL_told 15 = .ok (.iconst 1, 1) := by decide +kernel
theorem dL_told_16 : decode cL_told 16 = .ok (.ireturn, 1) := by decide +kernel
theorem dL_told_17 : decode cL_told 17 = .ok (.astore 4, 2) := by decide +kernel
theorem dL_told_19 : decode cL_told 19 = .ok (.iconst 2, 1) := by decide +kernel
theorem dL_told_20 : decode cL_told 20 = .ok (.ireturn, 1) := by decide +kernel
theorem dL_told_21 : decode cL_told 21 = .ok (.iconst 0, 1) := by decide +kernel
theorem dL_told_22 : decode cL_told 22 = .ok (.ireturn, 1) := by decide +kernel
theorem dL_piece_0 : decode cL_piece 0 = .ok (.aload 4, 2) := by decide +kernel
theorem dL_piece_2 : decode cL_piece 2 = .ok (.iconst 0, 1) := by decide +kernel
theorem dL_piece_3 : decode cL_piece 3 = .ok (.aload_n 0, 1) := by decide +kernel
theorem dL_piece_4 : decode cL_piece 4 = .ok (.iload_n 1, 1) := by decide +kernel
theorem dL_piece_5 : decode cL_piece 5 = .ok (.iload_n 2, 1) := by decide +kernel
theorem dL_piece_6 : decode cL_piece 6 = .ok (.iload_n 3, 1) := by decide +kernel
theorem dL_piece_7 : decode cL_piece 7 = .ok (.invokevirtual 70, 3) := by decide +kernel
theorem dL_piece_10 : decode cL_piece 10 = .ok (.i2l, 1) := by decide +kernel
theorem dL_piece_11 : decode cL_piece 11 = .ok (.lastore, 1) := by decide +kernel
theorem dL_piece_12 : decode cL_piece 12 = .ok (.goto 11, 3) := by decide +kernel
theorem dL_piece_15 : decode cL_piece 15 = .ok (.astore 5, 2) := by decide +kernel
theorem dL_piece_17 : decode cL_piece 17 = .ok (.iconst 1, 1) := by decide +kernel
theorem dL_piece_18 : decode cL_piece 18 = .ok (.ireturn, 1) := by decide +kernel
theorem dL_piece_19 : decode cL_piece 19 = .ok (.astore 5, 2) := by decide +kernel
theorem dL_piece_21 : decode cL_piece 21 = .ok (.iconst 2, 1) := by decide +kernel
theorem dL_piece_22 : decode cL_piece 22 = .ok (.ireturn, 1) := by decide +kernel
theorem dL_piece_23 : decode cL_piece 23 = .ok (.iconst 0, 1) := by decide +kernel
theorem dL_piece_24 : decode cL_piece 24 = .ok (.ireturn, 1) := by decide +kernel
theorem dL_errors_0 : decode cL_errors 0 = .ok (.aload_n 2, 1) := by decide +kernel
theorem dL_errors_1 : decode cL_errors 1 = .ok (.iconst 0, 1) := by decide +kernel
theorem dL_errors_2 : decode cL_errors 2 = .ok (.aload_n 0, 1) := by decide +kernel
theorem dL_errors_3 : decode cL_errors 3 = .ok (.iload_n 1, 1) := by decide +kernel
theorem dL_errors_4 : decode cL_errors 4 = .ok (.invokevirtual 73, 3) := by decide +kernel
theorem dL_errors_7 : decode cL_errors 7 = .ok (.i2l, 1) := by decide +kernel
theorem dL_errors_8 : decode cL_errors 8 = .ok (.lastore, 1) := by decide +kernel
theorem dL_errors_9 : decode cL_errors 9 = .ok (.goto 6, 3) := by decide +kernel
theorem dL_errors_12 : decode cL_errors 12 = .ok (.astore_n 3, 1) := by decide +kernel
theorem dL_errors_13 : decode cL_errors 13 = .ok (.iconst 1, 1) := by decide +kernel
theorem dL_errors_14 : decode cL_errors 14 = .ok (.ireturn, 1) := by decide +kernel
theorem dL_errors_15 : decode cL_errors 15 = .ok (.iconst 0, 1) := by decide +kernel
theorem dL_errors_16 : decode cL_errors 16 = .ok (.ireturn, 1) := by decide +kernel
end
section
theorem dL_law_0 : decode cL_law 0 = .ok (.new 8, 3) := by decide +kernel
theorem dL_law_3 : decode cL_law 3 = .ok (.dup, 1) := by decide +kernel
theorem dL_law_4 : decode cL_law 4 = .ok (.aload_n 0, 1) := by decide +kernel
theorem dL_law_5 : decode cL_law 5 = .ok (.iconst 0, 1) := by decide +kernel
theorem dL_law_6 : decode cL_law 6 = .ok (.invokestatic 76, 3) := by decide +kernel
theorem dL_law_9 : decode cL_law 9 = .ok (.invokespecial 81, 3) := by decide +kernel
theorem dL_law_12 : decode cL_law 12 = .ok (.astore_n 1, 1) := by decide +kernel
theorem dL_law_13 : decode cL_law 13 = .ok (.new 83, 3) := by decide +kernel
theorem dL_law_16 : decode cL_law 16 = .ok (.dup, 1) := by decide +kernel
theorem dL_law_17 : decode cL_law 17 = .ok (.aload_n 0, 1) := by decide +kernel
theorem dL_law_18 : decode cL_law 18 = .ok (.iconst 0, 1) := by decide +kernel
theorem dL_law_19 : decode cL_law 19 = .ok (.invokestatic 76, 3) := by decide +kernel
theorem dL_law_22 : decode cL_law 22 = .ok (.invokespecial 85, 3) := by decide +kernel
theorem dL_law_25 : decode cL_law 25 = .ok (.astore_n 2, 1) := by decide +kernel
theorem dL_law_26 : decode cL_law 26 = .ok (.iconst 1, 1) := by decide +kernel
theorem dL_law_27 : decode cL_law 27 = .ok (.newarray .long, 2) := by decide +kernel
theorem dL_law_29 : decode cL_law 29 = .ok (.astore_n 3, 1) := by decide +kernel
theorem dL_law_30 : decode cL_law 30 = .ok (.iconst 1, 1) := by decide +kernel
theorem dL_law_31 : decode cL_law 31 = .ok (.istore 4, 2) := by decide +kernel
theorem dL_law_33 : decode cL_law 33 = .ok (.iload 4, 2) := by decide +kernel
theorem dL_law_35 : decode cL_law 35 = .ok (.aload_n 0, 1) := by decide +kernel
theorem dL_law_36 : decode cL_law 36 = .ok (.arraylength, 1) := by decide +kernel
theorem dL_law_37 : decode cL_law 37 = .ok (.iconst 4, 1) := by decide +kernel
theorem dL_law_38 : decode cL_law 38 = .ok (.isub, 1) := by decide +kernel
theorem dL_law_39 : decode cL_law 39 = .ok (.if_icmp .gt 1177, 3) := by decide +kernel
theorem dL_law_42 : decode cL_law 42 = .ok (.aload_n 0, 1) := by decide +kernel
theorem dL_law_43 : decode cL_law 43 = .ok (.iload 4, 2) := by decide +kernel
theorem dL_law_45 : decode cL_law 45 = .ok (.iaload, 1) := by decide +kernel
theorem dL_law_46 : decode cL_law 46 = .ok (.bipush 31, 2) := by decide +kernel
theorem dL_law_48 : decode cL_law 48 = .ok (.iand, 1) := by decide +kernel
theorem dL_law_49 : decode cL_law 49 = .ok (.tableswitch 1161 0 17 #[87, 155, 199, 259, 315, 406, 486, 554, 634, 670, 757, 820, 883, 896, 932, 1000, 1080, 1136], 87) := by decide +kernel
theorem dL_law_136 : decode cL_law 136 = .ok (.aload_n 1, 1) := by decide +kernel
theorem dL_law_137 : decode cL_law 137 = .ok (.aload_n 0, 1) := by decide +kernel
theorem dL_law_138 : decode cL_law 138 = .ok (.iload 4, 2) := by decide +kernel
theorem dL_law_140 : decode cL_law 140 = .ok (.iconst 1, 1) := by decide +kernel
theorem dL_law_141 : decode cL_law 141 = .ok (.iadd, 1) := by decide +kernel
theorem dL_law_142 : decode cL_law 142 = .ok (.iaload, 1) := by decide +kernel
theorem dL_law_143 : decode cL_law 143 = .ok (.aload_n 0, 1) := by decide +kernel
theorem dL_law_144 : decode cL_law 144 = .ok (.iload 4, 2) := by decide +kernel
theorem dL_law_146 : decode cL_law 146 = .ok (.iconst 2, 1) := by decide +kernel
theorem dL_law_147 : decode cL_law 147 = .ok (.iadd, 1) := by decide +kernel
theorem dL_law_148 : decode cL_law 148 = .ok (.iaload, 1) := by decide +kernel
theorem dL_law_149 : decode cL_law 149 = .ok (.aload_n 3, 1) := by decide +kernel
theorem dL_law_150 : decode cL_law 150 = .ok (.invokestatic 86, 3) := by decide +kernel
theorem dL_law_153 : decode cL_law 153 = .ok (.istore 5, 2) := by decide +kernel
theorem dL_law_155 : decode cL_law 155 = .ok (.aload_n 2, 1) := by decide +kernel
theorem dL_law_156 : decode cL_law 156 = .ok (.aload_n 0, 1) := by decide +kernel
theorem dL_law_157 : decode cL_law 157 = .ok (.iload 4, 2) := by decide +kernel
theorem dL_law_159 : decode cL_law 159 = .ok (.iconst 1, 1) := by decide +kernel
theorem dL_law_160 : decode cL_law 160 = .ok (.iadd, 1) := by decide +kernel
theorem dL_law_161 : decode cL_law 161 = .ok (.iaload, 1) := by decide +kernel
theorem dL_law_162 : decode cL_law 162 = .ok (.aload_n 0, 1) := by decide +kernel
theorem dL_law_163 : decode cL_law 163 = .ok (.iload 4, 2) := by decide +kernel
theorem dL_law_165 : decode cL_law 165 = .ok (.iconst 2, 1) := by decide +kernel
theorem dL_law_166 : decode cL_law 166 = .ok (.iadd, 1) := by decide +kernel
theorem dL_law_167 : decode cL_law 167 = .ok (.iaload, 1) := by decide +kernel
theorem dL_law_168 : decode cL_law 168 = .ok (.invokevirtual 89, 3) := by decide +kernel
theorem dL_law_171 : decode cL_law 171 = .ok (.istore 6, 2) := by decide +kernel
theorem dL_law_173 : decode cL_law 173 = .ok (.aload_n 2, 1) := by decide +kernel
theorem dL_law_174 : decode cL_law 174 = .ok (.invokevirtual 90, 3) := by decide +kernel
theorem dL_law_177 : decode cL_law 177 = .ok (.iload 5, 2) := by decide +kernel
theorem dL_law_179 : decode cL_law 179 = .ok (.if_icmp .eq 5, 3) := by decide +kernel
theorem dL_law_182 : decode cL_law 182 = .ok (.iconst 0, 1) := by decide +kernel
theorem dL_law_183 : decode cL_law 183 = .ok (.ireturn, 1) := by decide +kernel
theorem dL_law_184 : decode cL_law 184 = .ok (.iload 5, 2) := by decide +kernel
theorem dL_law_186 : decode cL_law 186 = .ok (.ifCond .ne 15, 3) := by decide +kernel
theorem dL_law_189 : decode cL_law 189 = .ok (.aload_n 3, 1) := by decide +kernel
theorem dL_law_190 : decode cL_law 190 = .ok (.iconst 0, 1) := by decide +kernel
theorem dL_law_191 : decode cL_law 191 = .ok (.laload, 1) := by decide +kernel
theorem dL_law_192 : decode cL_law 192 = .ok (.iload 6, 2) := by decide +kernel
theorem dL_law_194 : decode cL_law 194 = .ok (.i2l, 1) := by decide +kernel
theorem dL_law_195 : decode cL_law 195 = .ok (.lcmp, 1) := by decide +kernel
theorem dL_law_196 : decode cL_law 196 = .ok (.ifCond .eq 5, 3) := by decide +kernel
theorem dL_law_199 : decode cL_law 199 = .ok (.iconst 0, 1) := by decide +kernel
theorem dL_law_200 : decode cL_law 200 = .ok (.ireturn, 1) := by decide +kernel
theorem dL_law_201 : decode cL_law 201 = .ok (.goto 1009, 3) := by decide +kernel
theorem dL_law_204 : decode cL_law 204 = .ok (.aload_n 1, 1) := by decide +kernel
theorem dL_law_205 : decode cL_law 205 = .ok (.aload_n 3, 1) := by decide +kernel
theorem dL_law_206 : decode cL_law 206 = .ok (.invokestatic 93, 3) := by decide +kernel
theorem dL_law_209 : decode cL_law 209 = .ok (.istore 5, 2) := by decide +kernel
theorem dL_law_211 : decode cL_law 211 = .ok (.aload_n 2, 1) := by decide +kernel
theorem dL_law_212 : decode cL_law 212 = .ok (.invokevirtual 96, 3) := by decide +kernel
theorem dL_law_215 : decode cL_law 215 = .ok (.istore 6, 2) := by decide +kernel
theorem dL_law_217 : decode cL_law 217 = .ok (.aload_n 2, 1) := by decide +kernel
theorem dL_law_218 : decode cL_law 218 = .ok (.invokevirtual 90, 3) := by decide +kernel
theorem dL_law_221 : decode cL_law 221 = .ok (.iload 5, 2) := by decide +kernel
theorem dL_law_223 : decode cL_law 223 = .ok (.if_icmp .eq 5, 3) := by decide +kernel
theorem dL_law_226 : decode cL_law 226 = .ok (.iconst 0, 1) := by decide +kernel
theorem dL_law_227 : decode cL_law 227 = .ok (.ireturn, 1) := by decide +kernel
theorem dL_law_228 : decode cL_law 228 = .ok (.iload 5, 2) := by decide +kernel
theorem dL_law_230 : decode cL_law 230 = .ok (.ifCond .ne 15, 3) := by decide +kernel
theorem dL_law_233 : decode cL_law 233 = .ok (.aload_n 3, 1) := by decide +kernel
theorem dL_law_234 : decode cL_law 234 = .ok (.iconst 0, 1) := by decide +kernel
theorem dL_law_235 : decode cL_law 235 = .ok (.laload, 1) := by decide +kernel
theorem dL_law_236 : decode cL_law 236 = .ok (.iload 6, 2) := by decide +kernel
theorem dL_law_238 : decode cL_law 238 = .ok (.i2l, 1) := by decide +kernel
theorem dL_law_239 : decode cL_law 239 = .ok (.lcmp, 1) := by decide +kernel
theorem dL_law_240 : decode cL_law 240 = .ok (.ifCond .eq 5, 3) := by decide +kernel
theorem dL_law_243 : decode cL_law 243 = .ok (.iconst 0, 1) := by decide +kernel
theorem dL_law_244 : decode cL_law 244 = .ok (.ireturn, 1) := by decide +kernel
theorem dL_law_245 : decode cL_law 245 = .ok (.goto 965, 3) := by decide +kernel
theorem dL_law_248 : decode cL_law 248 = .ok (.aload_n 1, 1) := by decide +kernel
theorem dL_law_249 : decode cL_law 249 = .ok (.aload_n 0, 1) := by decide +kernel
theorem dL_law_250 : decode cL_law 250 = .ok (.iload 4, 2) := by decide +kernel
theorem dL_law_252 : decode cL_law 252 = .ok (.iconst 1, 1) := by decide +kernel
theorem dL_law_253 : decode cL_law 253 = .ok (.iadd, 1) := by decide +kernel
theorem dL_law_254 : decode cL_law 254 = .ok (.iaload, 1) := by decide +kernel
theorem dL_law_255 : decode cL_law 255 = .ok (.aload_n 0, 1) := by decide +kernel
theorem dL_law_256 : decode cL_law 256 = .ok (.iload 4, 2) := by decide +kernel
theorem dL_law_258 : decode cL_law 258 = .ok (.iconst 2, 1) := by decide +kernel
theorem dL_law_259 : decode cL_law 259 = .ok (.iadd, 1) := by decide +kernel
theorem dL_law_260 : decode cL_law 260 = .ok (.iaload, 1) := by decide +kernel
theorem dL_law_261 : decode cL_law 261 = .ok (.aload_n 0, 1) := by decide +kernel
theorem dL_law_262 : decode cL_law 262 = .ok (.iload 4, 2) := by decide +kernel
theorem dL_law_264 : decode cL_law 264 = .ok (.iconst 3, 1) := by decide +kernel
theorem dL_law_265 : decode cL_law 265 = .ok (.iadd, 1) := by decide +kernel
theorem dL_law_266 : decode cL_law 266 = .ok (.iaload, 1) := by decide +kernel
theorem dL_law_267 : decode cL_law 267 = .ok (.invokestatic 97, 3) := by decide +kernel
theorem dL_law_270 : decode cL_law 270 = .ok (.istore 5, 2) := by decide +kernel
theorem dL_law_272 : decode cL_law 272 = .ok (.aload_n 2, 1) := by decide +kernel
theorem dL_law_273 : decode cL_law 273 = .ok (.aload_n 0, 1) := by decide +kernel
theorem dL_law_274 : decode cL_law 274 = .ok (.iload 4, 2) := by decide +kernel
theorem dL_law_276 : decode cL_law 276 = .ok (.iconst 1, 1) := by decide +kernel
theorem dL_law_277 : decode cL_law 277 = .ok (.iadd, 1) := by decide +kernel
theorem dL_law_278 : decode cL_law 278 = .ok (.iaload, 1) := by decide +kernel
theorem dL_law_279 : decode cL_law 279 = .ok (.aload_n 0, 1) := by decide +kernel
theorem dL_law_280 : decode cL_law 280 = .ok (.iload 4, 2) := by decide +kernel
theorem dL_law_282 : decode cL_law 282 = .ok (.iconst 2, 1) := by decide +kernel
theorem dL_law_283 : decode cL_law 283 = .ok (.iadd, 1) := by decide +kernel
theorem dL_law_284 : decode cL_law 284 = .ok (.iaload, 1) := by decide +kernel
theorem dL_law_285 : decode cL_law 285 = .ok (.aload_n 0, 1) := by decide +kernel
theorem dL_law_286 : decode cL_law 286 = .ok (.iload 4, 2) := by decide +kernel
theorem dL_law_288 : decode cL_law 288 = .ok (.iconst 3, 1) := by decide +kernel
theorem dL_law_289 : decode cL_law 289 = .ok (.iadd, 1) := by decide +kernel
theorem dL_law_290 : decode cL_law 290 = .ok (.iaload, 1) := by decide +kernel
theorem dL_law_291 : decode cL_law 291 = .ok (.invokevirtual 100, 3) := by decide +kernel
theorem dL_law_294 : decode cL_law 294 = .ok (.aload_n 2, 1) := by decide +kernel
theorem dL_law_295 : decode cL_law 295 = .ok (.invokevirtual 90, 3) := by decide +kernel
theorem dL_law_298 : decode cL_law 298 = .ok (.iload 5, 2) := by decide +kernel
theorem dL_law_300 : decode cL_law 300 = .ok (.if_icmp .eq 5, 3) := by decide +kernel
theorem dL_law_303 : decode cL_law 303 = .ok (.iconst 0, 1) := by decide +kernel
theorem dL_law_304 : decode cL_law 304 = .ok (.ireturn, 1) := by decide +kernel
theorem dL_law_305 : decode cL_law 305 = .ok (.goto 905, 3) := by decide +kernel
theorem dL_law_308 : decode cL_law 308 = .ok (.aload_n 1, 1) := by decide +kernel
theorem dL_law_309 : decode cL_law 309 = .ok (.aload_n 0, 1) := by decide +kernel
theorem dL_law_310 : decode cL_law 310 = .ok (.iload 4, 2) := by decide +kernel
theorem dL_law_312 : decode cL_law 312 = .ok (.iconst 1, 1) := by decide +kernel
theorem dL_law_313 : decode cL_law 313 = .ok (.iadd, 1) := by decide +kernel
theorem dL_law_314 : decode cL_law 314 = .ok (.iaload, 1) := by decide +kernel
theorem dL_law_315 : decode cL_law 315 = .ok (.aload_n 3, 1) := by decide +kernel
theorem dL_law_316 : decode cL_law 316 = .ok (.invokestatic 101, 3) := by decide +kernel
theorem dL_law_319 : decode cL_law 319 = .ok (.istore 5, 2) := by decide +kernel
theorem dL_law_321 : decode cL_law 321 = .ok (.aload_n 2, 1) := by decide +kernel
theorem dL_law_322 : decode cL_law 322 = .ok (.aload_n 0, 1) := by decide +kernel
theorem dL_law_323 : decode cL_law 323 = .ok (.iload 4, 2) := by decide +kernel
theorem dL_law_325 : decode cL_law 325 = .ok (.iconst 1, 1) := by decide +kernel
theorem dL_law_326 : decode cL_law 326 = .ok (.iadd, 1) := by decide +kernel
theorem dL_law_327 : decode cL_law 327 = .ok (.iaload, 1) := by decide +kernel
theorem dL_law_328 : decode cL_law 328 = .ok (.invokevirtual 104, 3) := by decide +kernel
theorem dL_law_331 : decode cL_law 331 = .ok (.istore 6, 2) := by decide +kernel
theorem dL_law_333 : decode cL_law 333 = .ok (.aload_n 2, 1) := by decide +kernel
theorem dL_law_334 : decode cL_law 334 = .ok (.invokevirtual 90, 3) := by decide +kernel
theorem dL_law_337 : decode cL_law 337 = .ok (.iload 5, 2) := by decide +kernel
theorem dL_law_339 : decode cL_law 339 = .ok (.if_icmp .eq 5, 3) := by decide +kernel
theorem dL_law_342 : decode cL_law 342 = .ok (.iconst 0, 1) := by decide +kernel
theorem dL_law_343 : decode cL_law 343 = .ok (.ireturn, 1) := by decide +kernel
theorem dL_law_344 : decode cL_law 344 = .ok (.iload 5, 2) := by decide +kernel
theorem dL_law_346 : decode cL_law 346 = .ok (.ifCond .ne 15, 3) := by decide +kernel
theorem dL_law_349 : decode cL_law 349 = .ok (.aload_n 3, 1) := by decide +kernel
theorem dL_law_350 : decode cL_law 350 = .ok (.iconst 0, 1) := by decide +kernel
theorem dL_law_351 : decode cL_law 351 = .ok (.laload, 1) := by decide +kernel
theorem dL_law_352 : decode cL_law 352 = .ok (.iload 6, 2) := by decide +kernel
theorem dL_law_354 : decode cL_law 354 = .ok (.i2l, 1) := by decide +kernel
theorem dL_law_355 : decode cL_law 355 = .ok (.lcmp, 1) := by decide +kernel
theorem dL_law_356 : decode cL_law 356 = .ok (.ifCond .eq 5, 3) := by decide +kernel
theorem dL_law_359 : decode cL_law 359 = .ok (.iconst 0, 1) := by decide +kernel
theorem dL_law_360 : decode cL_law 360 = .ok (.ireturn, 1) := by decide +kernel
theorem dL_law_361 : decode cL_law 361 = .ok (.goto 849, 3) := by decide +kernel
theorem dL_law_364 : decode cL_law 364 = .ok (.aload_n 1, 1) := by decide +kernel
theorem dL_law_365 : decode cL_law 365 = .ok (.aload_n 0, 1) := by decide +kernel
theorem dL_law_366 : decode cL_law 366 = .ok (.iload 4, 2) := by decide +kernel
theorem dL_law_368 : decode cL_law 368 = .ok (.iconst 1, 1) := by decide +kernel
theorem dL_law_369 : decode cL_law 369 = .ok (.iadd, 1) := by decide +kernel
theorem dL_law_370 : decode cL_law 370 = .ok (.iaload, 1) := by decide +kernel
theorem dL_law_371 : decode cL_law 371 = .ok (.aload_n 0, 1) := by decide +kernel
theorem dL_law_372 : decode cL_law 372 = .ok (.iload 4, 2) := by decide +kernel
theorem dL_law_374 : decode cL_law 374 = .ok (.iconst 2, 1) := by decide +kernel
theorem dL_law_375 : decode cL_law 375 = .ok (.iadd, 1) := by decide +kernel
theorem dL_law_376 : decode cL_law 376 = .ok (.iaload, 1) := by decide +kernel
theorem dL_law_377 : decode cL_law 377 = .ok (.ifCond .eq 7, 3) := by decide +kernel
theorem dL_law_380 : decode cL_law 380 = .ok (.iconst 1, 1) := by decide +kernel
theorem dL_law_381 : decode cL_law 381 = .ok (.goto 4, 3) := by decide +kernel
theorem dL_law_384 : decode cL_law 384 = .ok (.iconst 0, 1) := by decide +kernel
theorem dL_law_385 : decode cL_law 385 = .ok (.aload_n 3, 1) := by decide +kernel
theorem dL_law_386 : decode cL_law 386 = .ok (.invokestatic 105, 3) := by decide +kernel
theorem dL_law_389 : decode cL_law 389 = .ok (.istore 5, 2) := by decide +kernel
theorem dL_law_391 : decode cL_law 391 = .ok (.aload_n 2, 1) := by decide +kernel
theorem dL_law_392 : decode cL_law 392 = .ok (.aload_n 0, 1) := by decide +kernel
theorem dL_law_393 : decode cL_law 393 = .ok (.iload 4, 2) := by decide +kernel
theorem dL_law_395 : decode cL_law 395 = .ok (.iconst 1, 1) := by decide +kernel
theorem dL_law_396 : decode cL_law 396 = .ok (.iadd, 1) := by decide +kernel
theorem dL_law_397 : decode cL_law 397 = .ok (.iaload, 1) := by decide +kernel
theorem dL_law_398 : decode cL_law 398 = .ok (.aload_n 0, 1) := by decide +kernel
theorem dL_law_399 : decode cL_law 399 = .ok (.iload 4, 2) := by decide +kernel
theorem dL_law_401 : decode cL_law 401 = .ok (.iconst 2, 1) := by decide +kernel
theorem dL_law_402 : decode cL_law 402 = .ok (.iadd, 1) := by decide +kernel
theorem dL_law_403 : decode cL_law 403 = .ok (.iaload, 1) := by decide +kernel
theorem dL_law_404 : decode cL_law 404 = .ok (.ifCond .eq 7, 3) := by decide +kernel
theorem dL_law_407 : decode cL_law 407 = .ok (.iconst 1, 1) := by decide +kernel
theorem dL_law_408 : decode cL_law 408 = .ok (.goto 4, 3) := by decide +kernel
theorem dL_law_411 : decode cL_law 411 = .ok (.iconst 0, 1) := by decide +kernel
theorem dL_law_412 : decode cL_law 412 = .ok (.invokevirtual 108, 3) := by decide +kernel
theorem dL_law_415 : decode cL_law 415 = .ok (.istore 6, 2) := by decide +kernel
theorem dL_law_417 : decode cL_law 417 = .ok (.aload_n 2, 1) := by decide +kernel
theorem dL_law_418 : decode cL_law 418 = .ok (.invokevirtual 90, 3) := by decide +kernel
theorem dL_law_421 : decode cL_law 421 = .ok (.iload 5, 2) := by decide +kernel
theorem dL_law_423 : decode cL_law 423 = .ok (.if_icmp .eq 5, 3) := by decide +kernel
theorem dL_law_426 : decode cL_law 426 = .ok (.iconst 0, 1) := by decide +kernel
theorem dL_law_427 : decode cL_law 427 = .ok (.ireturn, 1) := by decide +kernel
theorem dL_law_428 : decode cL_law 428 = .ok (.iload 5, 2) := by decide +kernel
theorem dL_law_430 : decode cL_law 430 = .ok (.ifCond .ne 22, 3) := by decide +kernel
theorem dL_law_433 : decode cL_law 433 = .ok (.aload_n 3, 1) := by decide +kernel
theorem dL_law_434 : decode cL_law 434 = .ok (.iconst 0, 1) := by decide +kernel
theorem dL_law_435 : decode cL_law 435 = .ok (.laload, 1) := by decide +kernel
theorem dL_law_436 : decode cL_law 436 = .ok (.iload 6, 2) := by decide +kernel
theorem dL_law_438 : decode cL_law 438 = .ok (.ifCond .eq 7, 3) := by decide +kernel
theorem dL_law_441 : decode cL_law 441 = .ok (.lconst 1, 1) := by decide +kernel
theorem dL_law_442 : decode cL_law 442 = .ok (.goto 4, 3) := by decide +kernel
theorem dL_law_445 : decode cL_law 445 = .ok (.lconst 0, 1) := by decide +kernel
theorem dL_law_446 : decode cL_law 446 = .ok (.lcmp, 1) := by decide +kernel
theorem dL_law_447 : decode cL_law 447 = .ok (.ifCond .eq 5, 3) := by decide +kernel
theorem dL_law_450 : decode cL_law 450 = .ok (.iconst 0, 1) := by decide +kernel
theorem dL_law_451 : decode cL_law 451 = .ok (.ireturn, 1) := by decide +kernel
theorem dL_law_452 : decode cL_law 452 = .ok (.goto 758, 3) := by decide +kernel
theorem dL_law_455 : decode cL_law 455 = .ok (.aload_n 1, 1) := by decide +kernel
theorem dL_law_456 : decode cL_law 456 = .ok (.aload_n 0, 1) := by decide +kernel
theorem dL_law_457 : decode cL_law 457 = .ok (.iload 4, 2) := by decide +kernel
theorem dL_law_459 : decode cL_law 459 = .ok (.iconst 1, 1) := by decide +kernel
theorem dL_law_460 : decode cL_law 460 = .ok (.iadd, 1) := by decide +kernel
theorem dL_law_461 : decode cL_law 461 = .ok (.iaload, 1) := by decide +kernel
theorem dL_law_462 : decode cL_law 462 = .ok (.aload_n 0, 1) := by decide +kernel
theorem dL_law_463 : decode cL_law 463 = .ok (.iload 4, 2) := by decide +kernel
theorem dL_law_465 : decode cL_law 465 = .ok (.iconst 2, 1) := by decide +kernel
theorem dL_law_466 : decode cL_law 466 = .ok (.iadd, 1) := by decide +kernel
theorem dL_law_467 : decode cL_law 467 = .ok (.iaload, 1) := by decide +kernel
theorem dL_law_468 : decode cL_law 468 = .ok (.aload_n 0, 1) := by decide +kernel
theorem dL_law_469 : decode cL_law 469 = .ok (.iload 4, 2) := by decide +kernel
theorem dL_law_471 : decode cL_law 471 = .ok (.iconst 3, 1) := by decide +kernel
theorem dL_law_472 : decode cL_law 472 = .ok (.iadd, 1) := by decide +kernel
theorem dL_law_473 : decode cL_law 473 = .ok (.iaload, 1) := by decide +kernel
theorem dL_law_474 : decode cL_law 474 = .ok (.aload_n 3, 1) := by decide +kernel
theorem dL_law_475 : decode cL_law 475 = .ok (.invokestatic 109, 3) := by decide +kernel
theorem dL_law_478 : decode cL_law 478 = .ok (.istore 5, 2) := by decide +kernel
theorem dL_law_480 : decode cL_law 480 = .ok (.aload_n 2, 1) := by decide +kernel
theorem dL_law_481 : decode cL_law 481 = .ok (.aload_n 0, 1) := by decide +kernel
theorem dL_law_482 : decode cL_law 482 = .ok (.iload 4, 2) := by decide +kernel
theorem dL_law_484 : decode cL_law 484 = .ok (.iconst 1, 1) := by decide +kernel
theorem dL_law_485 : decode cL_law 485 = .ok (.iadd, 1) := by decide +kernel
theorem dL_law_486 : decode cL_law 486 = .ok (.iaload, 1) := by decide +kernel
theorem dL_law_487 : decode cL_law 487 = .ok (.aload_n 0, 1) := by decide +kernel
theorem dL_law_488 : decode cL_law 488 = .ok (.iload 4, 2) := by decide +kernel
theorem dL_law_490 : decode cL_law 490 = .ok (.iconst 2, 1) := by decide +kernel
theorem dL_law_491 : decode cL_law 491 = .ok (.iadd, 1) := by decide +kernel
theorem dL_law_492 : decode cL_law 492 = .ok (.iaload, 1) := by decide +kernel
theorem dL_law_493 : decode cL_law 493 = .ok (.aload_n 0, 1) := by decide +kernel
theorem dL_law_494 : decode cL_law 494 = .ok (.iload 4, 2) := by decide +kernel
theorem dL_law_496 : decode cL_law 496 = .ok (.iconst 3, 1) := by decide +kernel
theorem dL_law_497 : decode cL_law 497 = .ok (.iadd, 1) := by decide +kernel
theorem dL_law_498 : decode cL_law 498 = .ok (.iaload, 1) := by decide +kernel
theorem dL_law_499 : decode cL_law 499 = .ok (.invokevirtual 112, 3) := by decide +kernel
theorem dL_law_502 : decode cL_law 502 = .ok (.istore 6, 2) := by decide +kernel
theorem dL_law_504 : decode cL_law 504 = .ok (.aload_n 2, 1) := by decide +kernel
theorem dL_law_505 : decode cL_law 505 = .ok (.invokevirtual 90, 3) := by decide +kernel
theorem dL_law_508 : decode cL_law 508 = .ok (.iload 5, 2) := by decide +kernel
theorem dL_law_510 : decode cL_law 510 = .ok (.if_icmp .eq 5, 3) := by decide +kernel
theorem dL_law_513 : decode cL_law 513 = .ok (.iconst 0, 1) := by decide +kernel
theorem dL_law_514 : decode cL_law 514 = .ok (.ireturn, 1) := by decide +kernel
theorem dL_law_515 : decode cL_law 515 = .ok (.iload 5, 2) := by decide +kernel
theorem dL_law_517 : decode cL_law 517 = .ok (.ifCond .ne 15, 3) := by decide +kernel
theorem dL_law_520 : decode cL_law 520 = .ok (.aload_n 3, 1) := by decide +kernel
theorem dL_law_521 : decode cL_law 521 = .ok (.iconst 0, 1) := by decide +kernel
theorem dL_law_522 : decode cL_law 522 = .ok (.laload, 1) := by decide +kernel
theorem dL_law_523 : decode cL_law 523 = .ok (.iload 6, 2) := by decide +kernel
theorem dL_law_525 : decode cL_law 525 = .ok (.i2l, 1) := by decide +kernel
theorem dL_law_526 : decode cL_law 526 = .ok (.lcmp, 1) := by decide +kernel
theorem dL_law_527 : decode cL_law 527 = .ok (.ifCond .eq 5, 3) := by decide +kernel
theorem dL_law_530 : decode cL_law 530 = .ok (.iconst 0, 1) := by decide +kernel
theorem dL_law_531 : decode cL_law 531 = .ok (.ireturn, 1) := by decide +kernel
theorem dL_law_532 : decode cL_law 532 = .ok (.goto 678, 3) := by decide +kernel
theorem dL_law_535 : decode cL_law 535 = .ok (.aload_n 1, 1) := by decide +kernel
theorem dL_law_536 : decode cL_law 536 = .ok (.aload_n 0, 1) := by decide +kernel
theorem dL_law_537 : decode cL_law 537 = .ok (.iload 4, 2) := by decide +kernel
theorem dL_law_539 : decode cL_law 539 = .ok (.iconst 1, 1) := by decide +kernel
theorem dL_law_540 : decode cL_law 540 = .ok (.iadd, 1) := by decide +kernel
theorem dL_law_541 : decode cL_law 541 = .ok (.iaload, 1) := by decide +kernel
theorem dL_law_542 : decode cL_law 542 = .ok (.aload_n 0, 1) := by decide +kernel
theorem dL_law_543 : decode cL_law 543 = .ok (.iload 4, 2) := by decide +kernel
theorem dL_law_545 : decode cL_law 545 = .ok (.iconst 2, 1) := by decide +kernel
theorem dL_law_546 : decode cL_law 546 = .ok (.iadd, 1) := by decide +kernel
theorem dL_law_547 : decode cL_law 547 = .ok (.iaload, 1) := by decide +kernel
theorem dL_law_548 : decode cL_law 548 = .ok (.aload_n 3, 1) := by decide +kernel
theorem dL_law_549 : decode cL_law 549 = .ok (.invokestatic 113, 3) := by decide +kernel
theorem dL_law_552 : decode cL_law 552 = .ok (.istore 5, 2) := by decide +kernel
theorem dL_law_554 : decode cL_law 554 = .ok (.aload_n 2, 1) := by decide +kernel
theorem dL_law_555 : decode cL_law 555 = .ok (.aload_n 0, 1) := by decide +kernel
theorem dL_law_556 : decode cL_law 556 = .ok (.iload 4, 2) := by decide +kernel
theorem dL_law_558 : decode cL_law 558 = .ok (.iconst 1, 1) := by decide +kernel
theorem dL_law_559 : decode cL_law 559 = .ok (.iadd, 1) := by decide +kernel
theorem dL_law_560 : decode cL_law 560 = .ok (.iaload, 1) := by decide +kernel
theorem dL_law_561 : decode cL_law 561 = .ok (.aload_n 0, 1) := by decide +kernel
theorem dL_law_562 : decode cL_law 562 = .ok (.iload 4, 2) := by decide +kernel
theorem dL_law_564 : decode cL_law 564 = .ok (.iconst 2, 1) := by decide +kernel
theorem dL_law_565 : decode cL_law 565 = .ok (.iadd, 1) := by decide +kernel
theorem dL_law_566 : decode cL_law 566 = .ok (.iaload, 1) := by decide +kernel
theorem dL_law_567 : decode cL_law 567 = .ok (.invokevirtual 115, 3) := by decide +kernel
theorem dL_law_570 : decode cL_law 570 = .ok (.istore 6, 2) := by decide +kernel
theorem dL_law_572 : decode cL_law 572 = .ok (.aload_n 2, 1) := by decide +kernel
theorem dL_law_573 : decode cL_law 573 = .ok (.invokevirtual 90, 3) := by decide +kernel
theorem dL_law_576 : decode cL_law 576 = .ok (.iload 5, 2) := by decide +kernel
theorem dL_law_578 : decode cL_law 578 = .ok (.if_icmp .eq 5, 3) := by decide +kernel
theorem dL_law_581 : decode cL_law 581 = .ok (.iconst 0, 1) := by decide +kernel
theorem dL_law_582 : decode cL_law 582 = .ok (.ireturn, 1) := by decide +kernel
theorem dL_law_583 : decode cL_law 583 = .ok (.iload 5, 2) := by decide +kernel
theorem dL_law_585 : decode cL_law 585 = .ok (.ifCond .ne 15, 3) := by decide +kernel
theorem dL_law_588 : decode cL_law 588 = .ok (.aload_n 3, 1) := by decide +kernel
theorem dL_law_589 : decode cL_law 589 = .ok (.iconst 0, 1) := by decide +kernel
theorem dL_law_590 : decode cL_law 590 = .ok (.laload, 1) := by decide +kernel
theorem dL_law_591 : decode cL_law 591 = .ok (.iload 6, 2) := by decide +kernel
theorem dL_law_593 : decode cL_law 593 = .ok (.i2l, 1) := by decide +kernel
theorem dL_law_594 : decode cL_law 594 = .ok (.lcmp, 1) := by decide +kernel
theorem dL_law_595 : decode cL_law 595 = .ok (.ifCond .eq 5, 3) := by decide +kernel
theorem dL_law_598 : decode cL_law 598 = .ok (.iconst 0, 1) := by decide +kernel
theorem dL_law_599 : decode cL_law 599 = .ok (.ireturn, 1) := by decide +kernel
theorem dL_law_600 : decode cL_law 600 = .ok (.goto 610, 3) := by decide +kernel
theorem dL_law_603 : decode cL_law 603 = .ok (.aload_n 1, 1) := by decide +kernel
theorem dL_law_604 : decode cL_law 604 = .ok (.aload_n 0, 1) := by decide +kernel
theorem dL_law_605 : decode cL_law 605 = .ok (.iload 4, 2) := by decide +kernel
theorem dL_law_607 : decode cL_law 607 = .ok (.iconst 1, 1) := by decide +kernel
theorem dL_law_608 : decode cL_law 608 = .ok (.iadd, 1) := by decide +kernel
theorem dL_law_609 : decode cL_law 609 = .ok (.iaload, 1) := by decide +kernel
theorem dL_law_610 : decode cL_law 610 = .ok (.aload_n 0, 1) := by decide +kernel
theorem dL_law_611 : decode cL_law 611 = .ok (.iload 4, 2) := by decide +kernel
theorem dL_law_613 : decode cL_law 613 = .ok (.iconst 2, 1) := by decide +kernel
theorem dL_law_614 : decode cL_law 614 = .ok (.iadd, 1) := by decide +kernel
theorem dL_law_615 : decode cL_law 615 = .ok (.iaload, 1) := by decide +kernel
theorem dL_law_616 : decode cL_law 616 = .ok (.aload_n 0, 1) := by decide +kernel
theorem dL_law_617 : decode cL_law 617 = .ok (.iload 4, 2) := by decide +kernel
theorem dL_law_619 : decode cL_law 619 = .ok (.iconst 3, 1) := by decide +kernel
theorem dL_law_620 : decode cL_law 620 = .ok (.iadd, 1) := by decide +kernel
theorem dL_law_621 : decode cL_law 621 = .ok (.iaload, 1) := by decide +kernel
theorem dL_law_622 : decode cL_law 622 = .ok (.aload_n 3, 1) := by decide +kernel
theorem dL_law_623 : decode cL_law 623 = .ok (.invokestatic 116, 3) := by decide +kernel
theorem dL_law_626 : decode cL_law 626 = .ok (.istore 5, 2) := by decide +kernel
theorem dL_law_628 : decode cL_law 628 = .ok (.aload_n 2, 1) := by decide +kernel
theorem dL_law_629 : decode cL_law 629 = .ok (.aload_n 0, 1) := by decide +kernel
theorem dL_law_630 : decode cL_law 630 = .ok (.iload 4, 2) := by decide +kernel
theorem dL_law_632 : decode cL_law 632 = .ok (.iconst 1, 1) := by decide +kernel
theorem dL_law_633 : decode cL_law 633 = .ok (.iadd, 1) := by decide +kernel
theorem dL_law_634 : decode cL_law 634 = .ok (.iaload, 1) := by decide +kernel
theorem dL_law_635 : decode cL_law 635 = .ok (.aload_n 0, 1) := by decide +kernel
theorem dL_law_636 : decode cL_law 636 = .ok (.iload 4, 2) := by decide +kernel
theorem dL_law_638 : decode cL_law 638 = .ok (.iconst 2, 1) := by decide +kernel
theorem dL_law_639 : decode cL_law 639 = .ok (.iadd, 1) := by decide +kernel
theorem dL_law_640 : decode cL_law 640 = .ok (.iaload, 1) := by decide +kernel
theorem dL_law_641 : decode cL_law 641 = .ok (.aload_n 0, 1) := by decide +kernel
theorem dL_law_642 : decode cL_law 642 = .ok (.iload 4, 2) := by decide +kernel
theorem dL_law_644 : decode cL_law 644 = .ok (.iconst 3, 1) := by decide +kernel
theorem dL_law_645 : decode cL_law 645 = .ok (.iadd, 1) := by decide +kernel
theorem dL_law_646 : decode cL_law 646 = .ok (.iaload, 1) := by decide +kernel
theorem dL_law_647 : decode cL_law 647 = .ok (.invokevirtual 118, 3) := by decide +kernel
theorem dL_law_650 : decode cL_law 650 = .ok (.istore 6, 2) := by decide +kernel
theorem dL_law_652 : decode cL_law 652 = .ok (.aload_n 2, 1) := by decide +kernel
theorem dL_law_653 : decode cL_law 653 = .ok (.invokevirtual 90, 3) := by decide +kernel
theorem dL_law_656 : decode cL_law 656 = .ok (.iload 5, 2) := by decide +kernel
theorem dL_law_658 : decode cL_law 658 = .ok (.if_icmp .eq 5, 3) := by decide +kernel
theorem dL_law_661 : decode cL_law 661 = .ok (.iconst 0, 1) := by decide +kernel
theorem dL_law_662 : decode cL_law 662 = .ok (.ireturn, 1) := by decide +kernel
theorem dL_law_663 : decode cL_law 663 = .ok (.iload 5, 2) := by decide +kernel
theorem dL_law_665 : decode cL_law 665 = .ok (.ifCond .ne 15, 3) := by decide +kernel
theorem dL_law_668 : decode cL_law 668 = .ok (.aload_n 3, 1) := by decide +kernel
theorem dL_law_669 : decode cL_law 669 = .ok (.iconst 0, 1) := by decide +kernel
theorem dL_law_670 : decode cL_law 670 = .ok (.laload, 1) := by decide +kernel
theorem dL_law_671 : decode cL_law 671 = .ok (.iload 6, 2) := by decide +kernel
theorem dL_law_673 : decode cL_law 673 = .ok (.i2l, 1) := by decide +kernel
theorem dL_law_674 : decode cL_law 674 = .ok (.lcmp, 1) := by decide +kernel
theorem dL_law_675 : decode cL_law 675 = .ok (.ifCond .eq 5, 3) := by decide +kernel
theorem dL_law_678 : decode cL_law 678 = .ok (.iconst 0, 1) := by decide +kernel
theorem dL_law_679 : decode cL_law 679 = .ok (.ireturn, 1) := by decide +kernel
theorem dL_law_680 : decode cL_law 680 = .ok (.goto 530, 3) := by decide +kernel
theorem dL_law_683 : decode cL_law 683 = .ok (.aload_n 1, 1) := by decide +kernel
theorem dL_law_684 : decode cL_law 684 = .ok (.aload_n 0, 1) := by decide +kernel
theorem dL_law_685 : decode cL_law 685 = .ok (.iload 4, 2) := by decide +kernel
theorem dL_law_687 : decode cL_law 687 = .ok (.iconst 1, 1) := by decide +kernel
theorem dL_law_688 : decode cL_law 688 = .ok (.iadd, 1) := by decide +kernel
theorem dL_law_689 : decode cL_law 689 = .ok (.iaload, 1) := by decide +kernel
theorem dL_law_690 : decode cL_law 690 = .ok (.invokestatic 119, 3) := by decide +kernel
theorem dL_law_693 : decode cL_law 693 = .ok (.istore 5, 2) := by decide +kernel
theorem dL_law_695 : decode cL_law 695 = .ok (.aload_n 2, 1) := by decide +kernel
theorem dL_law_696 : decode cL_law 696 = .ok (.aload_n 0, 1) := by decide +kernel
theorem dL_law_697 : decode cL_law 697 = .ok (.iload 4, 2) := by decide +kernel
theorem dL_law_699 : decode cL_law 699 = .ok (.iconst 1, 1) := by decide +kernel
theorem dL_law_700 : decode cL_law 700 = .ok (.iadd, 1) := by decide +kernel
theorem dL_law_701 : decode cL_law 701 = .ok (.iaload, 1) := by decide +kernel
theorem dL_law_702 : decode cL_law 702 = .ok (.invokevirtual 122, 3) := by decide +kernel
theorem dL_law_705 : decode cL_law 705 = .ok (.aload_n 2, 1) := by decide +kernel
theorem dL_law_706 : decode cL_law 706 = .ok (.invokevirtual 90, 3) := by decide +kernel
theorem dL_law_709 : decode cL_law 709 = .ok (.iload 5, 2) := by decide +kernel
theorem dL_law_711 : decode cL_law 711 = .ok (.if_icmp .eq 5, 3) := by decide +kernel
theorem dL_law_714 : decode cL_law 714 = .ok (.iconst 0, 1) := by decide +kernel
theorem dL_law_715 : decode cL_law 715 = .ok (.ireturn, 1) := by decide +kernel
theorem dL_law_716 : decode cL_law 716 = .ok (.goto 494, 3) := by decide +kernel
theorem dL_law_719 : decode cL_law 719 = .ok (.aload_n 1, 1) := by decide +kernel
theorem dL_law_720 : decode cL_law 720 = .ok (.aload_n 0, 1) := by decide +kernel
theorem dL_law_721 : decode cL_law 721 = .ok (.iload 4, 2) := by decide +kernel
theorem dL_law_723 : decode cL_law 723 = .ok (.iconst 1, 1) := by decide +kernel
theorem dL_law_724 : decode cL_law 724 = .ok (.iadd, 1) := by decide +kernel
theorem dL_law_725 : decode cL_law 725 = .ok (.iaload, 1) := by decide +kernel
theorem dL_law_726 : decode cL_law 726 = .ok (.aload_n 0, 1) := by decide +kernel
theorem dL_law_727 : decode cL_law 727 = .ok (.iload 4, 2) := by decide +kernel
theorem dL_law_729 : decode cL_law 729 = .ok (.iconst 2, 1) := by decide +kernel
theorem dL_law_730 : decode cL_law 730 = .ok (.iadd, 1) := by decide +kernel
theorem dL_law_731 : decode cL_law 731 = .ok (.iaload, 1) := by decide +kernel
theorem dL_law_732 : decode cL_law 732 = .ok (.aload_n 0, 1) := by decide +kernel
theorem dL_law_733 : decode cL_law 733 = .ok (.iload 4, 2) := by decide +kernel
theorem dL_law_735 : decode cL_law 735 = .ok (.iconst 3, 1) := by decide +kernel
theorem dL_law_736 : decode cL_law 736 = .ok (.iadd, 1) := by decide +kernel
theorem dL_law_737 : decode cL_law 737 = .ok (.iaload, 1) := by decide +kernel
theorem dL_law_738 : decode cL_law 738 = .ok (.aload_n 3, 1) := by decide +kernel
theorem dL_law_739 : decode cL_law 739 = .ok (.invokestatic 123, 3) := by decide +kernel
theorem dL_law_742 : decode cL_law 742 = .ok (.istore 5, 2) := by decide +kernel
theorem dL_law_744 : decode cL_law 744 = .ok (.aload_n 2, 1) := by decide +kernel
theorem dL_law_745 : decode cL_law 745 = .ok (.aload_n 0, 1) := by decide +kernel
theorem dL_law_746 : decode cL_law 746 = .ok (.iload 4, 2) := by decide +kernel
theorem dL_law_748 : decode cL_law 748 = .ok (.iconst 1, 1) := by decide +kernel
theorem dL_law_749 : decode cL_law 749 = .ok (.iadd, 1) := by decide +kernel
theorem dL_law_750 : decode cL_law 750 = .ok (.iaload, 1) := by decide +kernel
theorem dL_law_751 : decode cL_law 751 = .ok (.aload_n 0, 1) := by decide +kernel
theorem dL_law_752 : decode cL_law 752 = .ok (.iload 4, 2) := by decide +kernel
theorem dL_law_754 : decode cL_law 754 = .ok (.iconst 2, 1) := by decide +kernel
theorem dL_law_755 : decode cL_law 755 = .ok (.iadd, 1) := by decide +kernel
theorem dL_law_756 : decode cL_law 756 = .ok (.iaload, 1) := by decide +kernel
theorem dL_law_757 : decode cL_law 757 = .ok (.aload_n 0, 1) := by decide +kernel
theorem dL_law_758 : decode cL_law 758 = .ok (.iload 4, 2) := by decide +kernel
theorem dL_law_760 : decode cL_law 760 = .ok (.iconst 3, 1) := by decide +kernel
theorem dL_law_761 : decode cL_law 761 = .ok (.iadd, 1) := by decide +kernel
theorem dL_law_762 : decode cL_law 762 = .ok (.iaload, 1) := by decide +kernel
theorem dL_law_763 : decode cL_law 763 = .ok (.invokevirtual 125, 3) := by decide +kernel
theorem dL_law_766 : decode cL_law 766 = .ok (.istore 6, 2) := by decide +kernel
theorem dL_law_768 : decode cL_law 768 = .ok (.aload_n 2, 1) := by decide +kernel
theorem dL_law_769 : decode cL_law 769 = .ok (.invokevirtual 90, 3) := by decide +kernel
theorem dL_law_772 : decode cL_law 772 = .ok (.iload 5, 2) := by decide +kernel
theorem dL_law_774 : decode cL_law 774 = .ok (.if_icmp .eq 5, 3) := by decide +kernel
theorem dL_law_777 : decode cL_law 777 = .ok (.iconst 0, 1) := by decide +kernel
theorem dL_law_778 : decode cL_law 778 = .ok (.ireturn, 1) := by decide +kernel
theorem dL_law_779 : decode cL_law 779 = .ok (.iload 5, 2) := by decide +kernel
theorem dL_law_781 : decode cL_law 781 = .ok (.ifCond .ne 22, 3) := by decide +kernel
theorem dL_law_784 : decode cL_law 784 = .ok (.aload_n 3, 1) := by decide +kernel
theorem dL_law_785 : decode cL_law 785 = .ok (.iconst 0, 1) := by decide +kernel
theorem dL_law_786 : decode cL_law 786 = .ok (.laload, 1) := by decide +kernel
theorem dL_law_787 : decode cL_law 787 = .ok (.iload 6, 2) := by decide +kernel
theorem dL_law_789 : decode cL_law 789 = .ok (.ifCond .eq 7, 3) := by decide +kernel
theorem dL_law_792 : decode cL_law 792 = .ok (.lconst 1, 1) := by decide +kernel
theorem dL_law_793 : decode cL_law 793 = .ok (.goto 4, 3) := by decide +kernel
theorem dL_law_796 : decode cL_law 796 = .ok (.lconst 0, 1) := by decide +kernel
theorem dL_law_797 : decode cL_law 797 = .ok (.lcmp, 1) := by decide +kernel
theorem dL_law_798 : decode cL_law 798 = .ok (.ifCond .eq 5, 3) := by decide +kernel
theorem dL_law_801 : decode cL_law 801 = .ok (.iconst 0, 1) := by decide +kernel
theorem dL_law_802 : decode cL_law 802 = .ok (.ireturn, 1) := by decide +kernel
theorem dL_law_803 : decode cL_law 803 = .ok (.goto 407, 3) := by decide +kernel
theorem dL_law_806 : decode cL_law 806 = .ok (.aload_n 1, 1) := by decide +kernel
theorem dL_law_807 : decode cL_law 807 = .ok (.aload_n 0, 1) := by decide +kernel
theorem dL_law_808 : decode cL_law 808 = .ok (.iload 4, 2) := by decide +kernel
theorem dL_law_810 : decode cL_law 810 = .ok (.iconst 1, 1) := by decide +kernel
theorem dL_law_811 : decode cL_law 811 = .ok (.iadd, 1) := by decide +kernel
theorem dL_law_812 : decode cL_law 812 = .ok (.iaload, 1) := by decide +kernel
theorem dL_law_813 : decode cL_law 813 = .ok (.aload_n 3, 1) := by decide +kernel
theorem dL_law_814 : decode cL_law 814 = .ok (.invokestatic 126, 3) := by decide +kernel
theorem dL_law_817 : decode cL_law 817 = .ok (.istore 5, 2) := by decide +kernel
theorem dL_law_819 : decode cL_law 819 = .ok (.aload_n 2, 1) := by decide +kernel
theorem dL_law_820 : decode cL_law 820 = .ok (.aload_n 0, 1) := by decide +kernel
theorem dL_law_821 : decode cL_law 821 = .ok (.iload 4, 2) := by decide +kernel
theorem dL_law_823 : decode cL_law 823 = .ok (.iconst 1, 1) := by decide +kernel
theorem dL_law_824 : decode cL_law 824 = .ok (.iadd, 1) := by decide +kernel
theorem dL_law_825 : decode cL_law 825 = .ok (.iaload, 1) := by decide +kernel
theorem dL_law_826 : decode cL_law 826 = .ok (.invokevirtual 128, 3) := by decide +kernel
theorem dL_law_829 : decode cL_law 829 = .ok (.istore 6, 2) := by decide +kernel
theorem dL_law_831 : decode cL_law 831 = .ok (.aload_n 2, 1) := by decide +kernel
theorem dL_law_832 : decode cL_law 832 = .ok (.invokevirtual 90, 3) := by decide +kernel
theorem dL_law_835 : decode cL_law 835 = .ok (.iload 5, 2) := by decide +kernel
theorem dL_law_837 : decode cL_law 837 = .ok (.if_icmp .eq 5, 3) := by decide +kernel
theorem dL_law_840 : decode cL_law 840 = .ok (.iconst 0, 1) := by decide +kernel
theorem dL_law_841 : decode cL_law 841 = .ok (.ireturn, 1) := by decide +kernel
theorem dL_law_842 : decode cL_law 842 = .ok (.iload 5, 2) := by decide +kernel
theorem dL_law_844 : decode cL_law 844 = .ok (.ifCond .ne 22, 3) := by decide +kernel
theorem dL_law_847 : decode cL_law 847 = .ok (.aload_n 3, 1) := by decide +kernel
theorem dL_law_848 : decode cL_law 848 = .ok (.iconst 0, 1) := by decide +kernel
theorem dL_law_849 : decode cL_law 849 = .ok (.laload, 1) := by decide +kernel
theorem dL_law_850 : decode cL_law 850 = .ok (.iload 6, 2) := by decide +kernel
theorem dL_law_852 : decode cL_law 852 = .ok (.ifCond .eq 7, 3) := by decide +kernel
theorem dL_law_855 : decode cL_law 855 = .ok (.lconst 1, 1) := by decide +kernel
theorem dL_law_856 : decode cL_law 856 = .ok (.goto 4, 3) := by decide +kernel
theorem dL_law_859 : decode cL_law 859 = .ok (.lconst 0, 1) := by decide +kernel
theorem dL_law_860 : decode cL_law 860 = .ok (.lcmp, 1) := by decide +kernel
theorem dL_law_861 : decode cL_law 861 = .ok (.ifCond .eq 5, 3) := by decide +kernel
theorem dL_law_864 : decode cL_law 864 = .ok (.iconst 0, 1) := by decide +kernel
theorem dL_law_865 : decode cL_law 865 = .ok (.ireturn, 1) := by decide +kernel
theorem dL_law_866 : decode cL_law 866 = .ok (.goto 344, 3) := by decide +kernel
theorem dL_law_869 : decode cL_law 869 = .ok (.aload_n 1, 1) := by decide +kernel
theorem dL_law_870 : decode cL_law 870 = .ok (.aload_n 0, 1) := by decide +kernel
theorem dL_law_871 : decode cL_law 871 = .ok (.iload 4, 2) := by decide +kernel
theorem dL_law_873 : decode cL_law 873 = .ok (.iconst 1, 1) := by decide +kernel
theorem dL_law_874 : decode cL_law 874 = .ok (.iadd, 1) := by decide +kernel
theorem dL_law_875 : decode cL_law 875 = .ok (.iaload, 1) := by decide +kernel
theorem dL_law_876 : decode cL_law 876 = .ok (.aload_n 3, 1) := by decide +kernel
theorem dL_law_877 : decode cL_law 877 = .ok (.invokestatic 129, 3) := by decide +kernel
theorem dL_law_880 : decode cL_law 880 = .ok (.istore 5, 2) := by decide +kernel
theorem dL_law_882 : decode cL_law 882 = .ok (.aload_n 2, 1) := by decide +kernel
theorem dL_law_883 : decode cL_law 883 = .ok (.aload_n 0, 1) := by decide +kernel
theorem dL_law_884 : decode cL_law 884 = .ok (.iload 4, 2) := by decide +kernel
theorem dL_law_886 : decode cL_law 886 = .ok (.iconst 1, 1) := by decide +kernel
theorem dL_law_887 : decode cL_law 887 = .ok (.iadd, 1) := by decide +kernel
theorem dL_law_888 : decode cL_law 888 = .ok (.iaload, 1) := by decide +kernel
theorem dL_law_889 : decode cL_law 889 = .ok (.invokevirtual 131, 3) := by decide +kernel
theorem dL_law_892 : decode cL_law 892 = .ok (.istore 6, 2) := by decide +kernel
theorem dL_law_894 : decode cL_law 894 = .ok (.aload_n 2, 1) := by decide +kernel
theorem dL_law_895 : decode cL_law 895 = .ok (.invokevirtual 90, 3) := by decide +kernel
theorem dL_law_898 : decode cL_law 898 = .ok (.iload 5, 2) := by decide +kernel
theorem dL_law_900 : decode cL_law 900 = .ok (.if_icmp .eq 5, 3) := by decide +kernel
theorem dL_law_903 : decode cL_law 903 = .ok (.iconst 0, 1) := by decide +kernel
theorem dL_law_904 : decode cL_law 904 = .ok (.ireturn, 1) := by decide +kernel
theorem dL_law_905 : decode cL_law 905 = .ok (.iload 5, 2) := by decide +kernel
theorem dL_law_907 : decode cL_law 907 = .ok (.ifCond .ne 22, 3) := by decide +kernel
theorem dL_law_910 : decode cL_law 910 = .ok (.aload_n 3, 1) := by decide +kernel
theorem dL_law_911 : decode cL_law 911 = .ok (.iconst 0, 1) := by decide +kernel
theorem dL_law_912 : decode cL_law 912 = .ok (.laload, 1) := by decide +kernel
theorem dL_law_913 : decode cL_law 913 = .ok (.iload 6, 2) := by decide +kernel
theorem dL_law_915 : decode cL_law 915 = .ok (.ifCond .eq 7, 3) := by decide +kernel
theorem dL_law_918 : decode cL_law 918 = .ok (.lconst 1, 1) := by decide +kernel
theorem dL_law_919 : decode cL_law 919 = .ok (.goto 4, 3) := by decide +kernel
theorem dL_law_922 : decode cL_law 922 = .ok (.lconst 0, 1) := by decide +kernel
theorem dL_law_923 : decode cL_law 923 = .ok (.lcmp, 1) := by decide +kernel
theorem dL_law_924 : decode cL_law 924 = .ok (.ifCond .eq 5, 3) := by decide +kernel
theorem dL_law_927 : decode cL_law 927 = .ok (.iconst 0, 1) := by decide +kernel
theorem dL_law_928 : decode cL_law 928 = .ok (.ireturn, 1) := by decide +kernel
theorem dL_law_929 : decode cL_law 929 = .ok (.goto 281, 3) := by decide +kernel
theorem dL_law_932 : decode cL_law 932 = .ok (.aload_n 1, 1) := by decide +kernel
theorem dL_law_933 : decode cL_law 933 = .ok (.invokevirtual 132, 3) := by decide +kernel
theorem dL_law_936 : decode cL_law 936 = .ok (.aload_n 2, 1) := by decide +kernel
theorem dL_law_937 : decode cL_law 937 = .ok (.invokevirtual 135, 3) := by decide +kernel
theorem dL_law_940 : decode cL_law 940 = .ok (.if_icmp .eq 270, 3) := by decide +kernel
theorem dL_law_943 : decode cL_law 943 = .ok (.iconst 0, 1) := by decide +kernel
theorem dL_law_944 : decode cL_law 944 = .ok (.ireturn, 1) := by decide +kernel
theorem dL_law_945 : decode cL_law 945 = .ok (.aload_n 1, 1) := by decide +kernel
theorem dL_law_946 : decode cL_law 946 = .ok (.aload_n 0, 1) := by decide +kernel
theorem dL_law_947 : decode cL_law 947 = .ok (.iload 4, 2) := by decide +kernel
theorem dL_law_949 : decode cL_law 949 = .ok (.iconst 1, 1) := by decide +kernel
theorem dL_law_950 : decode cL_law 950 = .ok (.iadd, 1) := by decide +kernel
theorem dL_law_951 : decode cL_law 951 = .ok (.iaload, 1) := by decide +kernel
theorem dL_law_952 : decode cL_law 952 = .ok (.invokestatic 136, 3) := by decide +kernel
theorem dL_law_955 : decode cL_law 955 = .ok (.istore 5, 2) := by decide +kernel
theorem dL_law_957 : decode cL_law 957 = .ok (.aload_n 2, 1) := by decide +kernel
theorem dL_law_958 : decode cL_law 958 = .ok (.aload_n 0, 1) := by decide +kernel
theorem dL_law_959 : decode cL_law 959 = .ok (.iload 4, 2) := by decide +kernel
theorem dL_law_961 : decode cL_law 961 = .ok (.iconst 1, 1) := by decide +kernel
theorem dL_law_962 : decode cL_law 962 = .ok (.iadd, 1) := by decide +kernel
theorem dL_law_963 : decode cL_law 963 = .ok (.iaload, 1) := by decide +kernel
theorem dL_law_964 : decode cL_law 964 = .ok (.invokevirtual 138, 3) := by decide +kernel
theorem dL_law_967 : decode cL_law 967 = .ok (.aload_n 2, 1) := by decide +kernel
theorem dL_law_968 : decode cL_law 968 = .ok (.invokevirtual 90, 3) := by decide +kernel
theorem dL_law_971 : decode cL_law 971 = .ok (.iload 5, 2) := by decide +kernel
theorem dL_law_973 : decode cL_law 973 = .ok (.if_icmp .eq 5, 3) := by decide +kernel
theorem dL_law_976 : decode cL_law 976 = .ok (.iconst 0, 1) := by decide +kernel
theorem dL_law_977 : decode cL_law 977 = .ok (.ireturn, 1) := by decide +kernel
theorem dL_law_978 : decode cL_law 978 = .ok (.goto 232, 3) := by decide +kernel
theorem dL_law_981 : decode cL_law 981 = .ok (.aload_n 1, 1) := by decide +kernel
theorem dL_law_982 : decode cL_law 982 = .ok (.aload_n 0, 1) := by decide +kernel
theorem dL_law_983 : decode cL_law 983 = .ok (.iload 4, 2) := by decide +kernel
theorem dL_law_985 : decode cL_law 985 = .ok (.iconst 1, 1) := by decide +kernel
theorem dL_law_986 : decode cL_law 986 = .ok (.iadd, 1) := by decide +kernel
theorem dL_law_987 : decode cL_law 987 = .ok (.iaload, 1) := by decide +kernel
theorem dL_law_988 : decode cL_law 988 = .ok (.aload_n 0, 1) := by decide +kernel
theorem dL_law_989 : decode cL_law 989 = .ok (.iload 4, 2) := by decide +kernel
theorem dL_law_991 : decode cL_law 991 = .ok (.iconst 2, 1) := by decide +kernel
theorem dL_law_992 : decode cL_law 992 = .ok (.iadd, 1) := by decide +kernel
theorem dL_law_993 : decode cL_law 993 = .ok (.iaload, 1) := by decide +kernel
theorem dL_law_994 : decode cL_law 994 = .ok (.aload_n 3, 1) := by decide +kernel
theorem dL_law_995 : decode cL_law 995 = .ok (.invokestatic 139, 3) := by decide +kernel
theorem dL_law_998 : decode cL_law 998 = .ok (.istore 5, 2) := by decide +kernel
theorem dL_law_1000 : decode cL_law 1000 = .ok (.aload_n 2, 1) := by decide +kernel
theorem dL_law_1001 : decode cL_law 1001 = .ok (.aload_n 0, 1) := by decide +kernel
theorem dL_law_1002 : decode cL_law 1002 = .ok (.iload 4, 2) := by decide +kernel
theorem dL_law_1004 : decode cL_law 1004 = .ok (.iconst 1, 1) := by decide +kernel
theorem dL_law_1005 : decode cL_law 1005 = .ok (.iadd, 1) := by decide +kernel
theorem dL_law_1006 : decode cL_law 1006 = .ok (.iaload, 1) := by decide +kernel
theorem dL_law_1007 : decode cL_law 1007 = .ok (.aload_n 0, 1) := by decide +kernel
theorem dL_law_1008 : decode cL_law 1008 = .ok (.iload 4, 2) := by decide +kernel
theorem dL_law_1010 : decode cL_law 1010 = .ok (.iconst 2, 1) := by decide +kernel
theorem dL_law_1011 : decode cL_law 1011 = .ok (.iadd, 1) := by decide +kernel
theorem dL_law_1012 : decode cL_law 1012 = .ok (.iaload, 1) := by decide +kernel
theorem dL_law_1013 : decode cL_law 1013 = .ok (.invokevirtual 141, 3) := by decide +kernel
theorem dL_law_1016 : decode cL_law 1016 = .ok (.istore 6, 2) := by decide +kernel
theorem dL_law_1018 : decode cL_law 1018 = .ok (.aload_n 2, 1) := by decide +kernel
theorem dL_law_1019 : decode cL_law 1019 = .ok (.invokevirtual 90, 3) := by decide +kernel
theorem dL_law_1022 : decode cL_law 1022 = .ok (.iload 5, 2) := by decide +kernel
theorem dL_law_1024 : decode cL_law 1024 = .ok (.if_icmp .eq 5, 3) := by decide +kernel
theorem dL_law_1027 : decode cL_law 1027 = .ok (.iconst 0, 1) := by decide +kernel
theorem dL_law_1028 : decode cL_law 1028 = .ok (.ireturn, 1) := by decide +kernel
theorem dL_law_1029 : decode cL_law 1029 = .ok (.iload 5, 2) := by decide +kernel
theorem dL_law_1031 : decode cL_law 1031 = .ok (.ifCond .ne 15, 3) := by decide +kernel
theorem dL_law_1034 : decode cL_law 1034 = .ok (.aload_n 3, 1) := by decide +kernel
theorem dL_law_1035 : decode cL_law 1035 = .ok (.iconst 0, 1) := by decide +kernel
theorem dL_law_1036 : decode cL_law 1036 = .ok (.laload, 1) := by decide +kernel
theorem dL_law_1037 : decode cL_law 1037 = .ok (.iload 6, 2) := by decide +kernel
theorem dL_law_1039 : decode cL_law 1039 = .ok (.i2l, 1) := by decide +kernel
theorem dL_law_1040 : decode cL_law 1040 = .ok (.lcmp, 1) := by decide +kernel
theorem dL_law_1041 : decode cL_law 1041 = .ok (.ifCond .eq 5, 3) := by decide +kernel
theorem dL_law_1044 : decode cL_law 1044 = .ok (.iconst 0, 1) := by decide +kernel
theorem dL_law_1045 : decode cL_law 1045 = .ok (.ireturn, 1) := by decide +kernel
theorem dL_law_1046 : decode cL_law 1046 = .ok (.goto 164, 3) := by decide +kernel
theorem dL_law_1049 : decode cL_law 1049 = .ok (.aload_n 1, 1) := by decide +kernel
theorem dL_law_1050 : decode cL_law 1050 = .ok (.aload_n 0, 1) := by decide +kernel
theorem dL_law_1051 : decode cL_law 1051 = .ok (.iload 4, 2) := by decide +kernel
theorem dL_law_1053 : decode cL_law 1053 = .ok (.iconst 1, 1) := by decide +kernel
theorem dL_law_1054 : decode cL_law 1054 = .ok (.iadd, 1) := by decide +kernel
theorem dL_law_1055 : decode cL_law 1055 = .ok (.iaload, 1) := by decide +kernel
theorem dL_law_1056 : decode cL_law 1056 = .ok (.aload_n 0, 1) := by decide +kernel
theorem dL_law_1057 : decode cL_law 1057 = .ok (.iload 4, 2) := by decide +kernel
theorem dL_law_1059 : decode cL_law 1059 = .ok (.iconst 2, 1) := by decide +kernel
theorem dL_law_1060 : decode cL_law 1060 = .ok (.iadd, 1) := by decide +kernel
theorem dL_law_1061 : decode cL_law 1061 = .ok (.iaload, 1) := by decide +kernel
theorem dL_law_1062 : decode cL_law 1062 = .ok (.aload_n 0, 1) := by decide +kernel
theorem dL_law_1063 : decode cL_law 1063 = .ok (.iload 4, 2) := by decide +kernel
theorem dL_law_1065 : decode cL_law 1065 = .ok (.iconst 3, 1) := by decide +kernel
theorem dL_law_1066 : decode cL_law 1066 = .ok (.iadd, 1) := by decide +kernel
theorem dL_law_1067 : decode cL_law 1067 = .ok (.iaload, 1) := by decide +kernel
theorem dL_law_1068 : decode cL_law 1068 = .ok (.aload_n 3, 1) := by decide +kernel
theorem dL_law_1069 : decode cL_law 1069 = .ok (.invokestatic 142, 3) := by decide +kernel
theorem dL_law_1072 : decode cL_law 1072 = .ok (.istore 5, 2) := by decide +kernel
theorem dL_law_1074 : decode cL_law 1074 = .ok (.aload_n 2, 1) := by decide +kernel
theorem dL_law_1075 : decode cL_law 1075 = .ok (.aload_n 0, 1) := by decide +kernel
theorem dL_law_1076 : decode cL_law 1076 = .ok (.iload 4, 2) := by decide +kernel
theorem dL_law_1078 : decode cL_law 1078 = .ok (.iconst 1, 1) := by decide +kernel
theorem dL_law_1079 : decode cL_law 1079 = .ok (.iadd, 1) := by decide +kernel
theorem dL_law_1080 : decode cL_law 1080 = .ok (.iaload, 1) := by decide +kernel
theorem dL_law_1081 : decode cL_law 1081 = .ok (.aload_n 0, 1) := by decide +kernel
theorem dL_law_1082 : decode cL_law 1082 = .ok (.iload 4, 2) := by decide +kernel
theorem dL_law_1084 : decode cL_law 1084 = .ok (.iconst 2, 1) := by decide +kernel
theorem dL_law_1085 : decode cL_law 1085 = .ok (.iadd, 1) := by decide +kernel
theorem dL_law_1086 : decode cL_law 1086 = .ok (.iaload, 1) := by decide +kernel
theorem dL_law_1087 : decode cL_law 1087 = .ok (.aload_n 0, 1) := by decide +kernel
theorem dL_law_1088 : decode cL_law 1088 = .ok (.iload 4, 2) := by decide +kernel
theorem dL_law_1090 : decode cL_law 1090 = .ok (.iconst 3, 1) := by decide +kernel
theorem dL_law_1091 : decode cL_law 1091 = .ok (.iadd, 1) := by decide +kernel
theorem dL_law_1092 : decode cL_law 1092 = .ok (.iaload, 1) := by decide +kernel
theorem dL_law_1093 : decode cL_law 1093 = .ok (.invokevirtual 144, 3) := by decide +kernel
theorem dL_law_1096 : decode cL_law 1096 = .ok (.istore 6, 2) := by decide +kernel
theorem dL_law_1098 : decode cL_law 1098 = .ok (.aload_n 2, 1) := by decide +kernel
theorem dL_law_1099 : decode cL_law 1099 = .ok (.invokevirtual 90, 3) := by decide +kernel
theorem dL_law_1102 : decode cL_law 1102 = .ok (.iload 5, 2) := by decide +kernel
theorem dL_law_1104 : decode cL_law 1104 = .ok (.if_icmp .eq 5, 3) := by decide +kernel
theorem dL_law_1107 : decode cL_law 1107 = .ok (.iconst 0, 1) := by decide +kernel
theorem dL_law_1108 : decode cL_law 1108 = .ok (.ireturn, 1) := by decide +kernel
theorem dL_law_1109 : decode cL_law 1109 = .ok (.iload 5, 2) := by decide +kernel
theorem dL_law_1111 : decode cL_law 1111 = .ok (.ifCond .ne 15, 3) := by decide +kernel
theorem dL_law_1114 : decode cL_law 1114 = .ok (.aload_n 3, 1) := by decide +kernel
theorem dL_law_1115 : decode cL_law 1115 = .ok (.iconst 0, 1) := by decide +kernel
theorem dL_law_1116 : decode cL_law 1116 = .ok (.laload, 1) := by decide +kernel
theorem dL_law_1117 : decode cL_law 1117 = .ok (.iload 6, 2) := by decide +kernel
theorem dL_law_1119 : decode cL_law 1119 = .ok (.i2l, 1) := by decide +kernel
theorem dL_law_1120 : decode cL_law 1120 = .ok (.lcmp, 1) := by decide +kernel
theorem dL_law_1121 : decode cL_law 1121 = .ok (.ifCond .eq 5, 3) := by decide +kernel
theorem dL_law_1124 : decode cL_law 1124 = .ok (.iconst 0, 1) := by decide +kernel
theorem dL_law_1125 : decode cL_law 1125 = .ok (.ireturn, 1) := by decide +kernel
theorem dL_law_1126 : decode cL_law 1126 = .ok (.goto 84, 3) := by decide +kernel
theorem dL_law_1129 : decode cL_law 1129 = .ok (.aload_n 1, 1) := by decide +kernel
theorem dL_law_1130 : decode cL_law 1130 = .ok (.aload_n 0, 1) := by decide +kernel
theorem dL_law_1131 : decode cL_law 1131 = .ok (.iload 4, 2) := by decide +kernel
theorem dL_law_1133 : decode cL_law 1133 = .ok (.iconst 1, 1) := by decide +kernel
theorem dL_law_1134 : decode cL_law 1134 = .ok (.iadd, 1) := by decide +kernel
theorem dL_law_1135 : decode cL_law 1135 = .ok (.iaload, 1) := by decide +kernel
theorem dL_law_1136 : decode cL_law 1136 = .ok (.aload_n 3, 1) := by decide +kernel
theorem dL_law_1137 : decode cL_law 1137 = .ok (.invokestatic 145, 3) := by decide +kernel
theorem dL_law_1140 : decode cL_law 1140 = .ok (.istore 5, 2) := by decide +kernel
theorem dL_law_1142 : decode cL_law 1142 = .ok (.aload_n 2, 1) := by decide +kernel
theorem dL_law_1143 : decode cL_law 1143 = .ok (.aload_n 0, 1) := by decide +kernel
theorem dL_law_1144 : decode cL_law 1144 = .ok (.iload 4, 2) := by decide +kernel
theorem dL_law_1146 : decode cL_law 1146 = .ok (.iconst 1, 1) := by decide +kernel
theorem dL_law_1147 : decode cL_law 1147 = .ok (.iadd, 1) := by decide +kernel
theorem dL_law_1148 : decode cL_law 1148 = .ok (.iaload, 1) := by decide +kernel
theorem dL_law_1149 : decode cL_law 1149 = .ok (.invokevirtual 147, 3) := by decide +kernel
theorem dL_law_1152 : decode cL_law 1152 = .ok (.istore 6, 2) := by decide +kernel
theorem dL_law_1154 : decode cL_law 1154 = .ok (.aload_n 2, 1) := by decide +kernel
theorem dL_law_1155 : decode cL_law 1155 = .ok (.invokevirtual 90, 3) := by decide +kernel
theorem dL_law_1158 : decode cL_law 1158 = .ok (.iload 5, 2) := by decide +kernel
theorem dL_law_1160 : decode cL_law 1160 = .ok (.if_icmp .eq 5, 3) := by decide +kernel
theorem dL_law_1163 : decode cL_law 1163 = .ok (.iconst 0, 1) := by decide +kernel
theorem dL_law_1164 : decode cL_law 1164 = .ok (.ireturn, 1) := by decide +kernel
theorem dL_law_1165 : decode cL_law 1165 = .ok (.iload 5, 2) := by decide +kernel
theorem dL_law_1167 : decode cL_law 1167 = .ok (.ifCond .ne 15, 3) := by decide +kernel
theorem dL_law_1170 : decode cL_law 1170 = .ok (.aload_n 3, 1) := by decide +kernel
theorem dL_law_1171 : decode cL_law 1171 = .ok (.iconst 0, 1) := by decide +kernel
theorem dL_law_1172 : decode cL_law 1172 = .ok (.laload, 1) := by decide +kernel
theorem dL_law_1173 : decode cL_law 1173 = .ok (.iload 6, 2) := by decide +kernel
theorem dL_law_1175 : decode cL_law 1175 = .ok (.i2l, 1) := by decide +kernel
theorem dL_law_1176 : decode cL_law 1176 = .ok (.lcmp, 1) := by decide +kernel
theorem dL_law_1177 : decode cL_law 1177 = .ok (.ifCond .eq 5, 3) := by decide +kernel
theorem dL_law_1180 : decode cL_law 1180 = .ok (.iconst 0, 1) := by decide +kernel
theorem dL_law_1181 : decode cL_law 1181 = .ok (.ireturn, 1) := by decide +kernel
theorem dL_law_1182 : decode cL_law 1182 = .ok (.goto 28, 3) := by decide +kernel
theorem dL_law_1185 : decode cL_law 1185 = .ok (.aload_n 1, 1) := by decide +kernel
theorem dL_law_1186 : decode cL_law 1186 = .ok (.aload_n 0, 1) := by decide +kernel
theorem dL_law_1187 : decode cL_law 1187 = .ok (.iload 4, 2) := by decide +kernel
theorem dL_law_1189 : decode cL_law 1189 = .ok (.iconst 1, 1) := by decide +kernel
theorem dL_law_1190 : decode cL_law 1190 = .ok (.iadd, 1) := by decide +kernel
theorem dL_law_1191 : decode cL_law 1191 = .ok (.iaload, 1) := by decide +kernel
theorem dL_law_1192 : decode cL_law 1192 = .ok (.invokevirtual 148, 3) := by decide +kernel
theorem dL_law_1195 : decode cL_law 1195 = .ok (.aload_n 2, 1) := by decide +kernel
theorem dL_law_1196 : decode cL_law 1196 = .ok (.aload_n 0, 1) := by decide +kernel
theorem dL_law_1197 : decode cL_law 1197 = .ok (.iload 4, 2) := by decide +kernel
theorem dL_law_1199 : decode cL_law 1199 = .ok (.iconst 1, 1) := by decide +kernel
theorem dL_law_1200 : decode cL_law 1200 = .ok (.iadd, 1) := by decide +kernel
theorem dL_law_1201 : decode cL_law 1201 = .ok (.iaload, 1) := by decide +kernel
theorem dL_law_1202 : decode cL_law 1202 = .ok (.invokevirtual 151, 3) := by decide +kernel
theorem dL_law_1205 : decode cL_law 1205 = .ok (.if_icmp .eq 5, 3) := by decide +kernel
theorem dL_law_1208 : decode cL_law 1208 = .ok (.iconst 0, 1) := by decide +kernel
theorem dL_law_1209 : decode cL_law 1209 = .ok (.ireturn, 1) := by decide +kernel
theorem dL_law_1210 : decode cL_law 1210 = .ok (.iinc 4 4, 3) := by decide +kernel
theorem dL_law_1213 : decode cL_law 1213 = .ok (.goto (-1180), 3) := by decide +kernel
theorem dL_law_1216 : decode cL_law 1216 = .ok (.iconst 1, 1) := by decide +kernel
theorem dL_law_1217 : decode cL_law 1217 = .ok (.ireturn, 1) := by decide +kernel
end
section
/-! ===== the world as a map of addresses ===== -/
abbrev pw_M : Type := Nat → Option va_E
/-- what is fixed for a run of the law: the classes' numbers, the heap at the law's start, the array classes, the script -/
abbrev pw_G : Type := va_G × Heap × (Nat → ClassId) × Nat × Nat × (Nat → Int32)
abbrev pw_cl : List vw_C := [(RX0, TX0, 6), (RX1, TX1, 8), (RX2, TX2, 13)]
abbrev pw_tys (G : pw_G) : List (ClassId × FieldType) := [(G.2.2.1 0, .int), (G.2.2.1 1, .boolean), (G.2.2.1 2, .object RX0), (G.2.2.1 3, .long)]
def pw_A (G : pw_G) : Nat → Prop := fun q => G.2.1.size ≤ q
def pw_up (M : pw_M) (a : Nat) (e : va_E) : pw_M := fun q => if q = a then some e else M q
theorem pw_us {M : pw_M} {a : Nat} {e : va_E} : pw_up M a e a = some e := if_pos rfl
theorem pw_un {M : pw_M} {a q : Nat} {e : va_E} (h : q ≠ a) : pw_up M a e q = M q := if_neg h
theorem pw_ke {M : pw_M} {a q : Nat} {e e1 : va_E} (h : M q = some e1) (n : q ≠ a) : pw_up M a e q = some e1 := (pw_un n).trans h
def pw_hp (G : pw_G) (M : pw_M) (H : Heap) : Prop := G.2.1.size ≤ H.size ∧ (∀ q : Nat, q < G.2.1.size → H[q]? = G.2.1[q]?) ∧ ∀ (a : Nat) (e : va_E), M a = some e → G.2.1.size ≤ a ∧ va_at G.1 pw_cl (a, e) H
theorem pw_hp.at {G : pw_G} {M : pw_M} {H : Heap} (h : pw_hp G M H) {a : Nat} {e : va_E} (ha : M a = some e) : va_at G.1 pw_cl (a, e) H := (h.2.2 a e ha).2
theorem pw_hp.P {G : pw_G} {M : pw_M} {H : Heap} (h : pw_hp G M H) {a : Nat} {e : va_E} (ha : M a = some e) : va_P G.1 pw_cl [(a, e)] H := by
  intro k q hk
  have hz : k < 1 := (List.getElem?_eq_some_iff.mp hk).1
  rw [show k = 0 by omega] at hk
  cases hk
  exact h.at ha
theorem pw_hp.lt {G : pw_G} {M : pw_M} {H : Heap} (h : pw_hp G M H) {a : Nat} {e : va_E} (ha : M a = some e) : a < H.size := (h.at ha).lt
theorem pw_hp.put {G : pw_G} {M : pw_M} {H H1 : Heap} {a : Nat} {e0 e : va_E} (h : pw_hp G M H) (ha : M a = some e0) (he : va_at G.1 pw_cl (a, e) H1) (z : H1.size = H.size) (oq : ∀ q : Nat, q ≠ a → H1[q]? = H[q]?) : pw_hp G (pw_up M a e) H1 := by
  have hB := (h.2.2 a e0 ha).1
  refine ⟨by rw [z]; exact h.1, fun q hq => (oq q (fun hqa => by rw [hqa] at hq; exact absurd hB (Nat.not_le.mpr hq))).trans (h.2.1 q hq), fun b e1 hb => ?_⟩
  by_cases hba : b = a
  · subst hba
    rw [pw_us] at hb
    cases hb
    exact ⟨hB, he⟩
  · rw [pw_un hba] at hb
    obtain ⟨g1, g2⟩ := h.2.2 b e1 hb
    exact ⟨g1, g2.kept (oq b hba)⟩
theorem pw_hp.push {G : pw_G} {M : pw_M} {H H1 : Heap} {e : va_E} (h : pw_hp G M H) (he : va_at G.1 pw_cl (H.size, e) H1) (z : H.size ≤ H1.size) (oq : ∀ q : Nat, q < H.size → H1[q]? = H[q]?) : pw_hp G (pw_up M H.size e) H1 := by
  refine ⟨Nat.le_trans h.1 z, fun q hq => (oq q (Nat.lt_of_lt_of_le hq h.1)).trans (h.2.1 q hq), fun b e1 hb => ?_⟩
  by_cases hba : b = H.size
  · subst hba
    rw [pw_us] at hb
    cases hb
    exact ⟨h.1, he⟩
  · rw [pw_un hba] at hb
    obtain ⟨g1, g2⟩ := h.2.2 b e1 hb
    exact ⟨g1, g2.kept (oq b g2.lt)⟩
theorem pw_hp.more {G : pw_G} {M : pw_M} {H H1 : Heap} (h : pw_hp G M H) (z : H.size ≤ H1.size) (oq : ∀ q : Nat, q < H.size → H1[q]? = H[q]?) : pw_hp G M H1 := by
  refine ⟨Nat.le_trans h.1 z, fun q hq => (oq q (Nat.lt_of_lt_of_le hq h.1)).trans (h.2.1 q hq), fun b e1 hb => ?_⟩
  obtain ⟨g1, g2⟩ := h.2.2 b e1 hb
  exact ⟨g1, g2.kept (oq b g2.lt)⟩
theorem pw_hp.S {G : pw_G} {M : pw_M} {H : Heap} {locs : List Loc} (h : pw_hp G M H) (hl : ∀ z ∈ locs, pw_A G z.base) : va_S (pw_A G) G.2.1 H locs := ⟨h.1, fun q hq _ => h.2.1 q hq, hl⟩
theorem pw_loc {G : pw_G} {locs : List Loc} {a k : Nat} (hl : ∀ z ∈ locs, pw_A G z.base) (ha : pw_A G a) : ∀ z ∈ locs ++ [⟨a, k⟩], pw_A G z.base := by
  intro z hz
  rcases List.mem_append.mp hz with h | h
  · exact hl z h
  · rw [List.mem_singleton.mp h]; exact ha
/-! ===== what a state's tables say, besides the words ===== -/
abbrev pw_strs : List (Nat × String) := [(58, "no room for another order"), (108, "nothing to undo"), (125, "the cell is free"), (152, "nothing of that kind is told of an order"), (155, "nothing of that kind is told of a line"), (169, "no such order"), (174, "no such cell"), (177, "a number outside its range"), (179, "no line of this good"), (181, "not as it is now")]
abbrev pw_ncs : List (String × String) := [("java/lang/IllegalArgumentException", "java/util/NoSuchElementException"), ("java/lang/IllegalStateException", "java/util/NoSuchElementException"), ("java/lang/IllegalStateException", "java/lang/IllegalArgumentException"), ("java/lang/IllegalArgumentException", "java/lang/ArrayIndexOutOfBoundsException"), ("java/lang/IllegalStateException", "java/lang/ArrayIndexOutOfBoundsException")]
abbrev pw_ex : List String := ["java/lang/IllegalArgumentException", "java/lang/IllegalStateException", "java/util/NoSuchElementException", "java/lang/UnsupportedOperationException", "java/lang/ArrayIndexOutOfBoundsException"]
abbrev pw_dc : List String := ["java/lang/RuntimeException", "java/lang/Exception", "java/lang/Throwable", "java/lang/IndexOutOfBoundsException"]
abbrev pw_T : List Cond := lw_tbl.filter goodWord
def pw_K (G : pw_G) (U : State) : Prop :=
  va_K G.1 pw_cl (pw_tys G) U ∧ va_AO RX0 U ∧ va_Nw (.methodLinkNest RX0 49 yX1_sum RX1) U ∧
  vx_Zq Bundle.tN "UNASSIGNED_STACK" Bundle.steD (pw_A G) U G.2.1 ∧ vx_Zq Bundle.tN "SUPPRESSED_SENTINEL" Bundle.listD (pw_A G) U G.2.1 ∧
  (∀ q ∈ pw_strs, ∃ sa : Nat, vk_R RX1 q.1 q.2 sa U) ∧ (∀ q ∈ pw_ncs, va_Nc q.1 q.2 U) ∧ va_X G.2.2.2.1 G.2.2.2.2.1 G.2.2.2.2.2 U G.2.1 ∧ G.2.2.2.1 < G.2.1.size ∧ (∀ E ∈ pw_ex, va_Nw (.castable E E) U) ∧ ∀ Y ∈ pw_dc, va_Nw (.declares ⟨Y, "<init>", "(Ljava/lang/String;)V"⟩) U
theorem pw_K.warm {G : pw_G} {s U : State} (hW : s.WarmedH U.vm) (h : pw_K G s) : pw_K G U := by
  obtain ⟨h1, h2, h3, h4, h5, h6, h7, h8, h9, h10, h11⟩ := h
  exact ⟨va_K.moved hW.alike h1, va_AO.moved hW.alike h2, va_Nw.warmM hW h3, vx_Zq.moved hW.alike h4, vx_Zq.moved hW.alike h5, fun q hq => (h6 q hq).elim fun sa hs => ⟨sa, vk_R.warm hW hs⟩, fun q hq => va_Nc.moved hW.alike (h7 q hq), va_X.moved hW.alike h8, h9, fun E hE => va_Nw.warmC hW (h10 E hE), fun Y hY => va_Nw.warmD hW (h11 Y hY)⟩
theorem pw_K.same {G : pw_G} {s U : State} (hv : U.vm = s.vm) (h : pw_K G s) : pw_K G U := pw_K.warm (by rw [hv]; exact State.WarmedH.refl s) h
/-- a method's own facts: the machine, its code, its class, the words, the tables -/
def pw_Cx (p : Program) (l : Launch) (s : State) (m : MethodId) (args : Array Value) (meth : Method) (c : Code) (G : pw_G) (cc : ByteArray) (nL : Nat) (own : String) : Prop :=
  p.tables.exec = Jvm.exec ∧ c.code = cc ∧ c.maxLocals = nL ∧ s.vm.findClass own = some m.cls ∧ (∀ w ∈ pw_T, w.before args s = true) ∧ pw_K G s ∧ l.stackTraces = false ∧ meth.locks = false ∧ G.2.1.size ≤ s.heap.size ∧ ∀ q : Nat, q < G.2.1.size → s.heap[q]? = G.2.1[q]?
section PWW
variable {p : Program} {l : Launch} {e : Env} {R : Room} {s : State} {m : MethodId} {args : Array Value} {below : List Frame} {meth : Method} {c : Code} {Q : State → Prop} {G : pw_G} {cc : ByteArray} {nL : Nat} {own : String} {M : pw_M} {cells slots pc : Nat} {lv lv' : List (Nat × Value)} {st : List Value}
/-- the machine, at pc with the locals lv, the stack st, in any heap that holds the map M, comes to Q -/
def pw_W (p : Program) (l : Launch) (e : Env) (R : Room) (s : State) (m : MethodId) (args : Array Value) (below : List Frame) (meth : Method) (c : Code) (Q : State → Prop) (G : pw_G) (nL : Nat) (M : pw_M) (cells slots pc : Nat) (lv : List (Nat × Value)) (st : List Value) : Prop :=
  ∀ (H : Heap) (locs : List Loc) (ls : Array Slot), pw_hp G M H → (∀ z ∈ locs, pw_A G z.base) → lv_has ls nL lv → W p l e R s m args below meth c H locs cells slots Q (F0 m pc ls st)
/-- .. with an exception of the class E thrown over the frame -/
def pw_X (p : Program) (l : Launch) (e : Env) (R : Room) (s : State) (m : MethodId) (args : Array Value) (below : List Frame) (meth : Method) (c : Code) (Q : State → Prop) (G : pw_G) (nL : Nat) (M : pw_M) (cells slots pc : Nat) (lv : List (Nat × Value)) (E : String) : Prop :=
  ∀ (H : Heap) (locs : List Loc) (ls : Array Slot) (q : Addr) (ce : Cell) (st : List Value), pw_hp G M H → (∀ z ∈ locs, pw_A G z.base) → lv_has ls nL lv → H[q]? = some ce → ce.vm = .none → s.vm.findClass E = some ce.cls → vx_W p l e R s m args below meth c H locs cells slots Q (F0 m pc ls st) q
theorem pw_iconst (X : pw_Cx p l s m args meth c G cc nL own) {n : Int} {v : Int32} (hd : decode cc pc = .ok (.iconst n, 1)) (hv : Int32.ofInt n = v) (kk : pw_W p l e R s m args below meth c Q G nL M cells slots (pc + 1) lv (.int v :: st)) : pw_W p l e R s m args below meth c Q G nL M cells slots pc lv st := fun H locs ls h1 h2 h3 => lv_iconst X.1 X.2.1 hd hv (kk H locs ls h1 h2 h3)
theorem pw_bipush (X : pw_Cx p l s m args meth c G cc nL own) {n : Int} {v : Int32} (hd : decode cc pc = .ok (.bipush n, 2)) (hv : (Int8.ofInt n).toInt32 = v) (kk : pw_W p l e R s m args below meth c Q G nL M cells slots (pc + 2) lv (.int v :: st)) : pw_W p l e R s m args below meth c Q G nL M cells slots pc lv st := fun H locs ls h1 h2 h3 => lv_bipush X.1 X.2.1 hd hv (kk H locs ls h1 h2 h3)
theorem pw_sipush (X : pw_Cx p l s m args meth c G cc nL own) {n : Int} {v : Int32} (hd : decode cc pc = .ok (.sipush n, 3)) (hv : (Int16.ofInt n).toInt32 = v) (kk : pw_W p l e R s m args below meth c Q G nL M cells slots (pc + 3) lv (.int v :: st)) : pw_W p l e R s m args below meth c Q G nL M cells slots pc lv st := fun H locs ls h1 h2 h3 => lv_sipush X.1 X.2.1 hd hv (kk H locs ls h1 h2 h3)
theorem pw_lconst (X : pw_Cx p l s m args meth c G cc nL own) {n : Fin 2} {v : Int64} (hd : decode cc pc = .ok (.lconst n, 1)) (hv : Int64.ofNat (n : Nat) = v) (kk : pw_W p l e R s m args below meth c Q G nL M cells slots (pc + 1) lv (.long v :: st)) : pw_W p l e R s m args below meth c Q G nL M cells slots pc lv st := fun H locs ls h1 h2 h3 => lv_lconst X.1 X.2.1 hd hv (kk H locs ls h1 h2 h3)
theorem pw_iload_n (X : pw_Cx p l s m args meth c G cc nL own) {k : Fin 4} {x : Int32} (hd : decode cc pc = .ok (.iload_n k, 1)) (j : Nat) (hj : lv[j]? = some ((k : Nat), .int x)) (kk : pw_W p l e R s m args below meth c Q G nL M cells slots (pc + 1) lv (.int x :: st)) : pw_W p l e R s m args below meth c Q G nL M cells slots pc lv st := fun H locs ls h1 h2 h3 => lv_iload_n X.1 X.2.1 hd rfl (lv_at h3 j hj) (kk H locs ls h1 h2 h3)
theorem pw_iload (X : pw_Cx p l s m args meth c G cc nL own) {i : Nat} {x : Int32} (hd : decode cc pc = .ok (.iload i, 2)) (j : Nat) (hj : lv[j]? = some (i, .int x)) (kk : pw_W p l e R s m args below meth c Q G nL M cells slots (pc + 2) lv (.int x :: st)) : pw_W p l e R s m args below meth c Q G nL M cells slots pc lv st := fun H locs ls h1 h2 h3 => lv_iload X.1 X.2.1 hd (lv_at h3 j hj) (kk H locs ls h1 h2 h3)
theorem pw_aload_n (X : pw_Cx p l s m args meth c G cc nL own) {k : Fin 4} {x : Nat} (hd : decode cc pc = .ok (.aload_n k, 1)) (j : Nat) (hj : lv[j]? = some ((k : Nat), .ref x)) (kk : pw_W p l e R s m args below meth c Q G nL M cells slots (pc + 1) lv (.ref x :: st)) : pw_W p l e R s m args below meth c Q G nL M cells slots pc lv st := fun H locs ls h1 h2 h3 => lv_aload_n X.1 X.2.1 hd rfl (lv_at h3 j hj) (kk H locs ls h1 h2 h3)
theorem pw_aload (X : pw_Cx p l s m args meth c G cc nL own) {i : Nat} {x : Nat} (hd : decode cc pc = .ok (.aload i, 2)) (j : Nat) (hj : lv[j]? = some (i, .ref x)) (kk : pw_W p l e R s m args below meth c Q G nL M cells slots (pc + 2) lv (.ref x :: st)) : pw_W p l e R s m args below meth c Q G nL M cells slots pc lv st := fun H locs ls h1 h2 h3 => lv_aload X.1 X.2.1 hd (lv_at h3 j hj) (kk H locs ls h1 h2 h3)
theorem pw_aload_nN (X : pw_Cx p l s m args meth c G cc nL own) {k : Fin 4} (hd : decode cc pc = .ok (.aload_n k, 1)) (j : Nat) (hj : lv[j]? = some ((k : Nat), .null)) (kk : pw_W p l e R s m args below meth c Q G nL M cells slots (pc + 1) lv (.null :: st)) : pw_W p l e R s m args below meth c Q G nL M cells slots pc lv st := fun H locs ls h1 h2 h3 => lv_aload_nN X.1 X.2.1 hd rfl (lv_at h3 j hj) (kk H locs ls h1 h2 h3)
theorem pw_aloadN (X : pw_Cx p l s m args meth c G cc nL own) {i : Nat} (hd : decode cc pc = .ok (.aload i, 2)) (j : Nat) (hj : lv[j]? = some (i, .null)) (kk : pw_W p l e R s m args below meth c Q G nL M cells slots (pc + 2) lv (.null :: st)) : pw_W p l e R s m args below meth c Q G nL M cells slots pc lv st := fun H locs ls h1 h2 h3 => lv_aloadN X.1 X.2.1 hd (lv_at h3 j hj) (kk H locs ls h1 h2 h3)
theorem pw_iadd (X : pw_Cx p l s m args meth c G cc nL own) {x y z : Int32} (hd : decode cc pc = .ok (.iadd, 1)) (hz : x + y = z) (kk : pw_W p l e R s m args below meth c Q G nL M cells slots (pc + 1) lv (.int z :: st)) : pw_W p l e R s m args below meth c Q G nL M cells slots pc lv (.int y :: .int x :: st) := fun H locs ls h1 h2 h3 => lv_iadd X.1 X.2.1 hd (by rw [hz]; exact kk H locs ls h1 h2 h3)
theorem pw_isub (X : pw_Cx p l s m args meth c G cc nL own) {x y z : Int32} (hd : decode cc pc = .ok (.isub, 1)) (hz : x - y = z) (kk : pw_W p l e R s m args below meth c Q G nL M cells slots (pc + 1) lv (.int z :: st)) : pw_W p l e R s m args below meth c Q G nL M cells slots pc lv (.int y :: .int x :: st) := fun H locs ls h1 h2 h3 => lv_isub X.1 X.2.1 hd (by rw [hz]; exact kk H locs ls h1 h2 h3)
theorem pw_imul (X : pw_Cx p l s m args meth c G cc nL own) {x y z : Int32} (hd : decode cc pc = .ok (.imul, 1)) (hz : x * y = z) (kk : pw_W p l e R s m args below meth c Q G nL M cells slots (pc + 1) lv (.int z :: st)) : pw_W p l e R s m args below meth c Q G nL M cells slots pc lv (.int y :: .int x :: st) := fun H locs ls h1 h2 h3 => lv_imul X.1 X.2.1 hd (by rw [hz]; exact kk H locs ls h1 h2 h3)
theorem pw_iand (X : pw_Cx p l s m args meth c G cc nL own) {x y z : Int32} (hd : decode cc pc = .ok (.iand, 1)) (hz : x &&& y = z) (kk : pw_W p l e R s m args below meth c Q G nL M cells slots (pc + 1) lv (.int z :: st)) : pw_W p l e R s m args below meth c Q G nL M cells slots pc lv (.int y :: .int x :: st) := fun H locs ls h1 h2 h3 => lv_iand X.1 X.2.1 hd (by rw [hz]; exact kk H locs ls h1 h2 h3)
theorem pw_idiv (X : pw_Cx p l s m args meth c G cc nL own) {x y z : Int32} (hd : decode cc pc = .ok (.idiv, 1)) (hy : ¬ y = 0) (hz : x / y = z) (kk : pw_W p l e R s m args below meth c Q G nL M cells slots (pc + 1) lv (.int z :: st)) : pw_W p l e R s m args below meth c Q G nL M cells slots pc lv (.int y :: .int x :: st) := fun H locs ls h1 h2 h3 => lv_idiv X.1 X.2.1 hd hy (by rw [hz]; exact kk H locs ls h1 h2 h3)
theorem pw_irem (X : pw_Cx p l s m args meth c G cc nL own) {x y z : Int32} (hd : decode cc pc = .ok (.irem, 1)) (hy : ¬ y = 0) (hz : x - x / y * y = z) (kk : pw_W p l e R s m args below meth c Q G nL M cells slots (pc + 1) lv (.int z :: st)) : pw_W p l e R s m args below meth c Q G nL M cells slots pc lv (.int y :: .int x :: st) := fun H locs ls h1 h2 h3 => lv_irem X.1 X.2.1 hd hy (by rw [hz]; exact kk H locs ls h1 h2 h3)
theorem pw_ladd (X : pw_Cx p l s m args meth c G cc nL own) {x y z : Int64} (hd : decode cc pc = .ok (.ladd, 1)) (hz : x + y = z) (kk : pw_W p l e R s m args below meth c Q G nL M cells slots (pc + 1) lv (.long z :: st)) : pw_W p l e R s m args below meth c Q G nL M cells slots pc lv (.long y :: .long x :: st) := fun H locs ls h1 h2 h3 => lv_ladd X.1 X.2.1 hd (by rw [hz]; exact kk H locs ls h1 h2 h3)
theorem pw_lmul (X : pw_Cx p l s m args meth c G cc nL own) {x y z : Int64} (hd : decode cc pc = .ok (.lmul, 1)) (hz : x * y = z) (kk : pw_W p l e R s m args below meth c Q G nL M cells slots (pc + 1) lv (.long z :: st)) : pw_W p l e R s m args below meth c Q G nL M cells slots pc lv (.long y :: .long x :: st) := fun H locs ls h1 h2 h3 => lv_lmul X.1 X.2.1 hd (by rw [hz]; exact kk H locs ls h1 h2 h3)
theorem pw_ldiv (X : pw_Cx p l s m args meth c G cc nL own) {x y z : Int64} (hd : decode cc pc = .ok (.ldiv, 1)) (hy : ¬ y = 0) (hz : x / y = z) (kk : pw_W p l e R s m args below meth c Q G nL M cells slots (pc + 1) lv (.long z :: st)) : pw_W p l e R s m args below meth c Q G nL M cells slots pc lv (.long y :: .long x :: st) := fun H locs ls h1 h2 h3 => lv_ldiv X.1 X.2.1 hd hy (by rw [hz]; exact kk H locs ls h1 h2 h3)
theorem pw_lrem (X : pw_Cx p l s m args meth c G cc nL own) {x y z : Int64} (hd : decode cc pc = .ok (.lrem, 1)) (hy : ¬ y = 0) (hz : x - x / y * y = z) (kk : pw_W p l e R s m args below meth c Q G nL M cells slots (pc + 1) lv (.long z :: st)) : pw_W p l e R s m args below meth c Q G nL M cells slots pc lv (.long y :: .long x :: st) := fun H locs ls h1 h2 h3 => lv_lrem X.1 X.2.1 hd hy (by rw [hz]; exact kk H locs ls h1 h2 h3)
theorem pw_lcmp (X : pw_Cx p l s m args meth c G cc nL own) {x y : Int64} {z : Int32} (hd : decode cc pc = .ok (.lcmp, 1)) (hz : lg_cmp x y = z) (kk : pw_W p l e R s m args below meth c Q G nL M cells slots (pc + 1) lv (.int z :: st)) : pw_W p l e R s m args below meth c Q G nL M cells slots pc lv (.long y :: .long x :: st) := fun H locs ls h1 h2 h3 => W.lcmp X.1 X.2.1 hd (by rw [hz]; exact kk H locs ls h1 h2 h3)
theorem pw_i2l (X : pw_Cx p l s m args meth c G cc nL own) {x : Int32} {v : Int64} (hd : decode cc pc = .ok (.i2l, 1)) (hv : x.toInt64 = v) (kk : pw_W p l e R s m args below meth c Q G nL M cells slots (pc + 1) lv (.long v :: st)) : pw_W p l e R s m args below meth c Q G nL M cells slots pc lv (.int x :: st) := fun H locs ls h1 h2 h3 => lv_i2l X.1 X.2.1 hd hv (kk H locs ls h1 h2 h3)
theorem pw_l2i (X : pw_Cx p l s m args meth c G cc nL own) {x : Int64} {v : Int32} (hd : decode cc pc = .ok (.l2i, 1)) (hv : x.toInt32 = v) (kk : pw_W p l e R s m args below meth c Q G nL M cells slots (pc + 1) lv (.int v :: st)) : pw_W p l e R s m args below meth c Q G nL M cells slots pc lv (.long x :: st) := fun H locs ls h1 h2 h3 => lv_l2i X.1 X.2.1 hd hv (kk H locs ls h1 h2 h3)
theorem pw_dup (X : pw_Cx p l s m args meth c G cc nL own) {va : Value} (hd : decode cc pc = .ok (.dup, 1)) (ha : va.category = 1) (kk : pw_W p l e R s m args below meth c Q G nL M cells slots (pc + 1) lv (va :: va :: st)) : pw_W p l e R s m args below meth c Q G nL M cells slots pc lv (va :: st) := fun H locs ls h1 h2 h3 => lv_dup X.1 X.2.1 hd ha (kk H locs ls h1 h2 h3)
theorem pw_pop (X : pw_Cx p l s m args meth c G cc nL own) {va : Value} (hd : decode cc pc = .ok (.pop, 1)) (ha : va.category = 1) (kk : pw_W p l e R s m args below meth c Q G nL M cells slots (pc + 1) lv st) : pw_W p l e R s m args below meth c Q G nL M cells slots pc lv (va :: st) := fun H locs ls h1 h2 h3 => lv_pop X.1 X.2.1 hd ha (kk H locs ls h1 h2 h3)
theorem pw_dup2 (X : pw_Cx p l s m args meth c G cc nL own) {va vb : Value} (hd : decode cc pc = .ok (.dup2, 1)) (ha : va.category = 1) (hb : vb.category = 1) (kk : pw_W p l e R s m args below meth c Q G nL M cells slots (pc + 1) lv (va :: vb :: va :: vb :: st)) : pw_W p l e R s m args below meth c Q G nL M cells slots pc lv (va :: vb :: st) := fun H locs ls h1 h2 h3 => lv_dup2_11 X.1 X.2.1 hd ha hb (kk H locs ls h1 h2 h3)
theorem pw_null (X : pw_Cx p l s m args meth c G cc nL own)  (hd : decode cc pc = .ok (.aconst_null, 1))  (kk : pw_W p l e R s m args below meth c Q G nL M cells slots (pc + 1) lv (.null :: st)) : pw_W p l e R s m args below meth c Q G nL M cells slots pc lv st := fun H locs ls h1 h2 h3 => lv_null X.1 X.2.1 hd (kk H locs ls h1 h2 h3)
theorem pw_istore_n (X : pw_Cx p l s m args meth c G cc nL own) {k : Fin 4} {x : Int32} (lv' : List (Nat × Value)) (hd : decode cc pc = .ok (.istore_n k, 1))  (hn : (k : Nat) < nL) (hl : ((k : Nat), Value.int x) :: lv.filter (fun q => !(q.1 == (k : Nat)) && !(q.1 + 1 == (k : Nat) && q.2.category == 2)) = lv') (kk : pw_W p l e R s m args below meth c Q G nL M cells slots (pc + 1) lv' st) : pw_W p l e R s m args below meth c Q G nL M cells slots pc lv (Value.int x :: st) := fun H locs ls h1 h2 h3 => lv_istore_n X.1 X.2.1 hd rfl h3 hn hl (fun ls9 h9 => kk H locs ls9 h1 h2 h9)
theorem pw_istore (X : pw_Cx p l s m args meth c G cc nL own) {i : Nat} {x : Int32} (lv' : List (Nat × Value)) (hd : decode cc pc = .ok (.istore i, 2))  (hn : i < nL) (hl : (i, Value.int x) :: lv.filter (fun q => !(q.1 == i) && !(q.1 + 1 == i && q.2.category == 2)) = lv') (kk : pw_W p l e R s m args below meth c Q G nL M cells slots (pc + 2) lv' st) : pw_W p l e R s m args below meth c Q G nL M cells slots pc lv (Value.int x :: st) := fun H locs ls h1 h2 h3 => lv_istore X.1 X.2.1 hd h3 hn hl (fun ls9 h9 => kk H locs ls9 h1 h2 h9)
theorem pw_astore_n (X : pw_Cx p l s m args meth c G cc nL own) {k : Fin 4} {x : Nat} (lv' : List (Nat × Value)) (hd : decode cc pc = .ok (.astore_n k, 1))  (hn : (k : Nat) < nL) (hl : ((k : Nat), Value.ref x) :: lv.filter (fun q => !(q.1 == (k : Nat)) && !(q.1 + 1 == (k : Nat) && q.2.category == 2)) = lv') (kk : pw_W p l e R s m args below meth c Q G nL M cells slots (pc + 1) lv' st) : pw_W p l e R s m args below meth c Q G nL M cells slots pc lv (Value.ref x :: st) := fun H locs ls h1 h2 h3 => lv_astore_n X.1 X.2.1 hd rfl h3 hn hl (fun ls9 h9 => kk H locs ls9 h1 h2 h9)
theorem pw_astore (X : pw_Cx p l s m args meth c G cc nL own) {i : Nat} {x : Nat} (lv' : List (Nat × Value)) (hd : decode cc pc = .ok (.astore i, 2))  (hn : i < nL) (hl : (i, Value.ref x) :: lv.filter (fun q => !(q.1 == i) && !(q.1 + 1 == i && q.2.category == 2)) = lv') (kk : pw_W p l e R s m args below meth c Q G nL M cells slots (pc + 2) lv' st) : pw_W p l e R s m args below meth c Q G nL M cells slots pc lv (Value.ref x :: st) := fun H locs ls h1 h2 h3 => lv_astore X.1 X.2.1 hd h3 hn hl (fun ls9 h9 => kk H locs ls9 h1 h2 h9)
theorem pw_astore_nN (X : pw_Cx p l s m args meth c G cc nL own) {k : Fin 4} (lv' : List (Nat × Value)) (hd : decode cc pc = .ok (.astore_n k, 1))  (hn : (k : Nat) < nL) (hl : ((k : Nat), Value.null) :: lv.filter (fun q => !(q.1 == (k : Nat)) && !(q.1 + 1 == (k : Nat) && q.2.category == 2)) = lv') (kk : pw_W p l e R s m args below meth c Q G nL M cells slots (pc + 1) lv' st) : pw_W p l e R s m args below meth c Q G nL M cells slots pc lv (Value.null :: st) := fun H locs ls h1 h2 h3 => lv_astore_nN X.1 X.2.1 hd rfl h3 hn hl (fun ls9 h9 => kk H locs ls9 h1 h2 h9)
theorem pw_astoreN (X : pw_Cx p l s m args meth c G cc nL own) {i : Nat} (lv' : List (Nat × Value)) (hd : decode cc pc = .ok (.astore i, 2))  (hn : i < nL) (hl : (i, Value.null) :: lv.filter (fun q => !(q.1 == i) && !(q.1 + 1 == i && q.2.category == 2)) = lv') (kk : pw_W p l e R s m args below meth c Q G nL M cells slots (pc + 2) lv' st) : pw_W p l e R s m args below meth c Q G nL M cells slots pc lv (Value.null :: st) := fun H locs ls h1 h2 h3 => lv_astoreN X.1 X.2.1 hd h3 hn hl (fun ls9 h9 => kk H locs ls9 h1 h2 h9)
theorem pw_iinc (X : pw_Cx p l s m args meth c G cc nL own) {i j : Nat} {n : Int} {x v : Int32} (lv' : List (Nat × Value)) (hd : decode cc pc = .ok (.iinc i n, 3)) (hj : lv[j]? = some (i, .int x)) (hv : x + Int32.ofInt n = v) (hn : i < nL) (hl : (i, Value.int v) :: lv.filter (fun q => !(q.1 == i) && !(q.1 + 1 == i && q.2.category == 2)) = lv') (kk : pw_W p l e R s m args below meth c Q G nL M cells slots (pc + 3) lv' st) : pw_W p l e R s m args below meth c Q G nL M cells slots pc lv st := fun H locs ls h1 h2 h3 => lv_iinc X.1 X.2.1 hd h3 hj hv hn hl (fun ls9 h9 => kk H locs ls9 h1 h2 h9)
theorem pw_lv (ks : List Nat) (lv' : List (Nat × Value)) (hl : lv_pick lv ks = lv') (kk : pw_W p l e R s m args below meth c Q G nL M cells slots pc lv' st) : pw_W p l e R s m args below meth c Q G nL M cells slots pc lv st := fun H locs ls h1 h2 h3 => kk H locs ls h1 h2 (lv_sub h3 ks hl)
theorem pw_if_eq (X : pw_Cx p l s m args meth c G cc nL own) {x : Int32} {off : Int} (tgt : Nat) (hd : decode cc pc = .ok (.ifCond .eq off, 3)) (ht : (pc : Int) + off = (tgt : Int)) (kt : x = 0 → pw_W p l e R s m args below meth c Q G nL M cells slots tgt lv st) (kf : ¬ x = 0 → pw_W p l e R s m args below meth c Q G nL M cells slots (pc + 3) lv st) : pw_W p l e R s m args below meth c Q G nL M cells slots pc lv (.int x :: st) := fun H locs ls h1 h2 h3 => lv_if_eq X.1 X.2.1 hd ht (fun h9 => kt h9 H locs ls h1 h2 h3) (fun h9 => kf h9 H locs ls h1 h2 h3)
theorem pw_icmp_eq (X : pw_Cx p l s m args meth c G cc nL own) {x y : Int32} {off : Int} (tgt : Nat) (hd : decode cc pc = .ok (.if_icmp .eq off, 3)) (ht : (pc : Int) + off = (tgt : Int)) (kt : x = y → pw_W p l e R s m args below meth c Q G nL M cells slots tgt lv st) (kf : ¬ x = y → pw_W p l e R s m args below meth c Q G nL M cells slots (pc + 3) lv st) : pw_W p l e R s m args below meth c Q G nL M cells slots pc lv (.int y :: .int x :: st) := fun H locs ls h1 h2 h3 => lv_icmp_eq X.1 X.2.1 hd ht (fun h9 => kt h9 H locs ls h1 h2 h3) (fun h9 => kf h9 H locs ls h1 h2 h3)
theorem pw_if_ne (X : pw_Cx p l s m args meth c G cc nL own) {x : Int32} {off : Int} (tgt : Nat) (hd : decode cc pc = .ok (.ifCond .ne off, 3)) (ht : (pc : Int) + off = (tgt : Int)) (kt : ¬ x = 0 → pw_W p l e R s m args below meth c Q G nL M cells slots tgt lv st) (kf : x = 0 → pw_W p l e R s m args below meth c Q G nL M cells slots (pc + 3) lv st) : pw_W p l e R s m args below meth c Q G nL M cells slots pc lv (.int x :: st) := fun H locs ls h1 h2 h3 => lv_if_ne X.1 X.2.1 hd ht (fun h9 => kt h9 H locs ls h1 h2 h3) (fun h9 => kf h9 H locs ls h1 h2 h3)
theorem pw_icmp_ne (X : pw_Cx p l s m args meth c G cc nL own) {x y : Int32} {off : Int} (tgt : Nat) (hd : decode cc pc = .ok (.if_icmp .ne off, 3)) (ht : (pc : Int) + off = (tgt : Int)) (kt : ¬ x = y → pw_W p l e R s m args below meth c Q G nL M cells slots tgt lv st) (kf : x = y → pw_W p l e R s m args below meth c Q G nL M cells slots (pc + 3) lv st) : pw_W p l e R s m args below meth c Q G nL M cells slots pc lv (.int y :: .int x :: st) := fun H locs ls h1 h2 h3 => lv_icmp_ne X.1 X.2.1 hd ht (fun h9 => kt h9 H locs ls h1 h2 h3) (fun h9 => kf h9 H locs ls h1 h2 h3)
theorem pw_if_lt (X : pw_Cx p l s m args meth c G cc nL own) {x : Int32} {off : Int} (tgt : Nat) (hd : decode cc pc = .ok (.ifCond .lt off, 3)) (ht : (pc : Int) + off = (tgt : Int)) (kt : x < 0 → pw_W p l e R s m args below meth c Q G nL M cells slots tgt lv st) (kf : ¬ x < 0 → pw_W p l e R s m args below meth c Q G nL M cells slots (pc + 3) lv st) : pw_W p l e R s m args below meth c Q G nL M cells slots pc lv (.int x :: st) := fun H locs ls h1 h2 h3 => lv_if_lt X.1 X.2.1 hd ht (fun h9 => kt h9 H locs ls h1 h2 h3) (fun h9 => kf h9 H locs ls h1 h2 h3)
theorem pw_icmp_lt (X : pw_Cx p l s m args meth c G cc nL own) {x y : Int32} {off : Int} (tgt : Nat) (hd : decode cc pc = .ok (.if_icmp .lt off, 3)) (ht : (pc : Int) + off = (tgt : Int)) (kt : x < y → pw_W p l e R s m args below meth c Q G nL M cells slots tgt lv st) (kf : ¬ x < y → pw_W p l e R s m args below meth c Q G nL M cells slots (pc + 3) lv st) : pw_W p l e R s m args below meth c Q G nL M cells slots pc lv (.int y :: .int x :: st) := fun H locs ls h1 h2 h3 => lv_icmp_lt X.1 X.2.1 hd ht (fun h9 => kt h9 H locs ls h1 h2 h3) (fun h9 => kf h9 H locs ls h1 h2 h3)
theorem pw_if_ge (X : pw_Cx p l s m args meth c G cc nL own) {x : Int32} {off : Int} (tgt : Nat) (hd : decode cc pc = .ok (.ifCond .ge off, 3)) (ht : (pc : Int) + off = (tgt : Int)) (kt : 0 ≤ x → pw_W p l e R s m args below meth c Q G nL M cells slots tgt lv st) (kf : ¬ 0 ≤ x → pw_W p l e R s m args below meth c Q G nL M cells slots (pc + 3) lv st) : pw_W p l e R s m args below meth c Q G nL M cells slots pc lv (.int x :: st) := fun H locs ls h1 h2 h3 => lv_if_ge X.1 X.2.1 hd ht (fun h9 => kt h9 H locs ls h1 h2 h3) (fun h9 => kf h9 H locs ls h1 h2 h3)
theorem pw_icmp_ge (X : pw_Cx p l s m args meth c G cc nL own) {x y : Int32} {off : Int} (tgt : Nat) (hd : decode cc pc = .ok (.if_icmp .ge off, 3)) (ht : (pc : Int) + off = (tgt : Int)) (kt : y ≤ x → pw_W p l e R s m args below meth c Q G nL M cells slots tgt lv st) (kf : ¬ y ≤ x → pw_W p l e R s m args below meth c Q G nL M cells slots (pc + 3) lv st) : pw_W p l e R s m args below meth c Q G nL M cells slots pc lv (.int y :: .int x :: st) := fun H locs ls h1 h2 h3 => lv_icmp_ge X.1 X.2.1 hd ht (fun h9 => kt h9 H locs ls h1 h2 h3) (fun h9 => kf h9 H locs ls h1 h2 h3)
theorem pw_if_gt (X : pw_Cx p l s m args meth c G cc nL own) {x : Int32} {off : Int} (tgt : Nat) (hd : decode cc pc = .ok (.ifCond .gt off, 3)) (ht : (pc : Int) + off = (tgt : Int)) (kt : 0 < x → pw_W p l e R s m args below meth c Q G nL M cells slots tgt lv st) (kf : ¬ 0 < x → pw_W p l e R s m args below meth c Q G nL M cells slots (pc + 3) lv st) : pw_W p l e R s m args below meth c Q G nL M cells slots pc lv (.int x :: st) := fun H locs ls h1 h2 h3 => lv_if_gt X.1 X.2.1 hd ht (fun h9 => kt h9 H locs ls h1 h2 h3) (fun h9 => kf h9 H locs ls h1 h2 h3)
theorem pw_icmp_gt (X : pw_Cx p l s m args meth c G cc nL own) {x y : Int32} {off : Int} (tgt : Nat) (hd : decode cc pc = .ok (.if_icmp .gt off, 3)) (ht : (pc : Int) + off = (tgt : Int)) (kt : y < x → pw_W p l e R s m args below meth c Q G nL M cells slots tgt lv st) (kf : ¬ y < x → pw_W p l e R s m args below meth c Q G nL M cells slots (pc + 3) lv st) : pw_W p l e R s m args below meth c Q G nL M cells slots pc lv (.int y :: .int x :: st) := fun H locs ls h1 h2 h3 => lv_icmp_gt X.1 X.2.1 hd ht (fun h9 => kt h9 H locs ls h1 h2 h3) (fun h9 => kf h9 H locs ls h1 h2 h3)
theorem pw_if_le (X : pw_Cx p l s m args meth c G cc nL own) {x : Int32} {off : Int} (tgt : Nat) (hd : decode cc pc = .ok (.ifCond .le off, 3)) (ht : (pc : Int) + off = (tgt : Int)) (kt : x ≤ 0 → pw_W p l e R s m args below meth c Q G nL M cells slots tgt lv st) (kf : ¬ x ≤ 0 → pw_W p l e R s m args below meth c Q G nL M cells slots (pc + 3) lv st) : pw_W p l e R s m args below meth c Q G nL M cells slots pc lv (.int x :: st) := fun H locs ls h1 h2 h3 => lv_if_le X.1 X.2.1 hd ht (fun h9 => kt h9 H locs ls h1 h2 h3) (fun h9 => kf h9 H locs ls h1 h2 h3)
theorem pw_icmp_le (X : pw_Cx p l s m args meth c G cc nL own) {x y : Int32} {off : Int} (tgt : Nat) (hd : decode cc pc = .ok (.if_icmp .le off, 3)) (ht : (pc : Int) + off = (tgt : Int)) (kt : x ≤ y → pw_W p l e R s m args below meth c Q G nL M cells slots tgt lv st) (kf : ¬ x ≤ y → pw_W p l e R s m args below meth c Q G nL M cells slots (pc + 3) lv st) : pw_W p l e R s m args below meth c Q G nL M cells slots pc lv (.int y :: .int x :: st) := fun H locs ls h1 h2 h3 => lv_icmp_le X.1 X.2.1 hd ht (fun h9 => kt h9 H locs ls h1 h2 h3) (fun h9 => kf h9 H locs ls h1 h2 h3)
theorem pw_goto (X : pw_Cx p l s m args meth c G cc nL own) {off : Int} (tgt : Nat) (hd : decode cc pc = .ok (.goto off, 3)) (ht : (pc : Int) + off = (tgt : Int)) (kk : pw_W p l e R s m args below meth c Q G nL M cells slots tgt lv st) : pw_W p l e R s m args below meth c Q G nL M cells slots pc lv st := fun H locs ls h1 h2 h3 => lv_goto X.1 X.2.1 hd ht (kk H locs ls h1 h2 h3)
theorem pw_ifnonnull (X : pw_Cx p l s m args meth c G cc nL own) {x : Nat} {off : Int} (tgt : Nat) (hd : decode cc pc = .ok (.ifnonnull off, 3)) (ht : (pc : Int) + off = (tgt : Int)) (kk : pw_W p l e R s m args below meth c Q G nL M cells slots tgt lv st) : pw_W p l e R s m args below meth c Q G nL M cells slots pc lv (.ref x :: st) := fun H locs ls h1 h2 h3 => lv_ifnonnull X.1 X.2.1 hd ht (kk H locs ls h1 h2 h3)
theorem pw_ifnonnullN (X : pw_Cx p l s m args meth c G cc nL own) {off : Int} (hd : decode cc pc = .ok (.ifnonnull off, 3)) (kk : pw_W p l e R s m args below meth c Q G nL M cells slots (pc + 3) lv st) : pw_W p l e R s m args below meth c Q G nL M cells slots pc lv (.null :: st) := fun H locs ls h1 h2 h3 => lv_ifnonnullN X.1 X.2.1 hd (kk H locs ls h1 h2 h3)
theorem pw_ifnull (X : pw_Cx p l s m args meth c G cc nL own) {x : Nat} {off : Int} (hd : decode cc pc = .ok (.ifnull off, 3)) (kk : pw_W p l e R s m args below meth c Q G nL M cells slots (pc + 3) lv st) : pw_W p l e R s m args below meth c Q G nL M cells slots pc lv (.ref x :: st) := fun H locs ls h1 h2 h3 => lv_ifnull X.1 X.2.1 hd (kk H locs ls h1 h2 h3)
theorem pw_ifnullN (X : pw_Cx p l s m args meth c G cc nL own) {off : Int} (tgt : Nat) (hd : decode cc pc = .ok (.ifnull off, 3)) (ht : (pc : Int) + off = (tgt : Int)) (kk : pw_W p l e R s m args below meth c Q G nL M cells slots tgt lv st) : pw_W p l e R s m args below meth c Q G nL M cells slots pc lv (.null :: st) := fun H locs ls h1 h2 h3 => lv_ifnullN X.1 X.2.1 hd ht (kk H locs ls h1 h2 h3)
theorem pw_swOut (X : pw_Cx p l s m args meth c G cc nL own) {dflt lo hi : Int} {offs : Array Int} {len : Nat} {x : Int32} (tgt : Nat) (hd : decode cc pc = .ok (.tableswitch dflt lo hi offs, len)) (h : x.toInt < lo ∨ hi < x.toInt) (ht : (pc : Int) + dflt = (tgt : Int)) (kk : pw_W p l e R s m args below meth c Q G nL M cells slots tgt lv st) : pw_W p l e R s m args below meth c Q G nL M cells slots pc lv (.int x :: st) := fun H locs ls h1 h2 h3 => lv_tableOut X.1 X.2.1 hd h ht (kk H locs ls h1 h2 h3)
theorem pw_swIn (X : pw_Cx p l s m args meth c G cc nL own) {dflt lo hi : Int} {offs : Array Int} {len : Nat} {x : Int32} {off : Int} (tgt : Nat) (hd : decode cc pc = .ok (.tableswitch dflt lo hi offs, len)) (h1 : ¬ x.toInt < lo) (h2 : ¬ hi < x.toInt) (ho : offs[(x.toInt - lo).toNat]? = some off) (ht : (pc : Int) + off = (tgt : Int)) (kk : pw_W p l e R s m args below meth c Q G nL M cells slots tgt lv st) : pw_W p l e R s m args below meth c Q G nL M cells slots pc lv (.int x :: st) := fun H locs ls g1 g2 g3 => lv_tableIn X.1 X.2.1 hd h1 h2 ho ht (kk H locs ls g1 g2 g3)
theorem pw_ldc2 (X : pw_Cx p l s m args meth c G cc nL own) {index : Nat} {v : Int64} (hd : decode cc pc = .ok (.ldc2_w index, 3)) (hw : Cond.constantLong own index v ∈ pw_T) (kk : pw_W p l e R s m args below meth c Q G nL M cells slots (pc + 3) lv (.long v :: st)) : pw_W p l e R s m args below meth c Q G nL M cells slots pc lv st := fun H locs ls h1 h2 h3 => lv_ldc2 X.1 X.2.1 X.2.2.2.1 (X.2.2.2.2.1 _ hw) hd (kk H locs ls h1 h2 h3)
theorem pw_cg {va vb : Value} (h : va = vb) (kk : pw_W p l e R s m args below meth c Q G nL M cells slots pc lv (vb :: st)) : pw_W p l e R s m args below meth c Q G nL M cells slots pc lv (va :: st) := by rw [h]; exact kk
theorem pw_widen {k n : Nat} (h1 : cells ≤ k) (h2 : slots ≤ n) (kk : pw_W p l e R s m args below meth c Q G nL M k n pc lv st) : pw_W p l e R s m args below meth c Q G nL M cells slots pc lv st := fun H locs ls g1 g2 g3 => W.widen h1 h2 (kk H locs ls g1 g2 g3)
theorem pw_get (X : pw_Cx p l s m args meth c G cc nL own) {C : String} {T : u_T} {N ci index : Nat} {a : Nat} {fs : List Value} {v : Value} (hd : decode cc pc = .ok (.getfield index, 3)) (ha : M a = some (.inr (ci, fs))) (hc : pw_cl[ci]? = some (C, T, N)) (hin : ∀ w ∈ u_ws C T N, w ∈ pw_T) (k : Nat) (hk : k < N) (hw : Cond.fieldLink own index (T k).1 (T k).2.1 (T k).2.2.1 ∈ pw_T) (hv : fs[k]? = some v) (kk : pw_W p l e R s m args below meth c Q G nL M cells slots (pc + 3) lv (v :: st)) : pw_W p l e R s m args below meth c Q G nL M cells slots pc lv (.ref a :: st) := fun H locs ls h1 h2 h3 => va_get (D := G.1) (ci := ci) (v := v) (C := C) (T := T) (N := N) X.1 X.2.1 X.2.2.2.2.1 hin X.2.2.2.1 X.2.2.2.2.2.1.1 (h1.P ha) 0 rfl hc k hk (X.2.2.2.2.1 _ hw) (fun _ h9 => h9) hv hd (kk H locs ls h1 h2 h3)
theorem pw_put (X : pw_Cx p l s m args meth c G cc nL own) {C : String} {T : u_T} {N ci index : Nat} {a : Nat} {fs : List Value} {v : Value} {ty : FieldType} (hd : decode cc pc = .ok (.putfield index, 3)) (ha : M a = some (.inr (ci, fs))) (hc : pw_cl[ci]? = some (C, T, N)) (hin : ∀ w ∈ u_ws C T N, w ∈ pw_T) (ty0 : Nat → FieldType) (hty : ∀ k, k < N → parseFieldDescriptor (T k).2.2.1 = some (ty0 k)) (hnm : ∀ a, a < N → ∀ b, b < N → a ≠ b → (T a).2.1 ≠ (T b).2.1) (k : Nat) (hk : k < N) (hw : Cond.fieldLink own index (T k).1 (T k).2.1 (T k).2.2.1 ∈ pw_T) (hfin : (T k).2.2.2 = false) (hpd : parseFieldDescriptor (T k).2.2.1 = some ty) (hn : narrow ty v = v) (hfit : fits ty v = true) (hl : k < fs.length) (fs9 : List Value) (hs : fs.set k v = fs9) (kk : pw_W p l e R s m args below meth c Q G nL (pw_up M a (.inr (ci, fs9))) cells slots (pc + 3) lv st) : pw_W p l e R s m args below meth c Q G nL M cells slots pc lv (v :: .ref a :: st) := by
  subst hs
  intro H locs ls h1 h2 h3
  have hA : pw_A G a := (h1.2.2 a _ ha).1
  have hK := X.2.2.2.2.2.1.1
  have hts := X.2.2.2.2.1
  have hap := va_apart (own := own) hts hin ty0 hty hnm hK hc
  obtain ⟨r, g1, cell, q1, q2, q3, q4⟩ := h1.at ha
  have hr : r = (C, T, N) := Option.some.inj (g1.symm.trans hc)
  subst hr
  obtain ⟨hS, hfc, kC, hkC, hkind⟩ := hK.1 ci _ hc
  obtain ⟨cf, kf, fi, f, hi, hsl⟩ := hS k hk
  have hlay := hts _ (hin _ (u_in_lay hk))
  unfold u_lay at hlay
  rw [if_neg (by rw [hfin]; decide)] at hlay
  have hst := (u_facts hfc hkC (u_lays hts hin hk) hi).1
  have h6 := u_store hfc hkC hkind hlay hi hpd hn hfit
  refine W.putK X.1 X.2.1 (f := f) ⟨X.2.2.2.1, hts _ hw, ⟨_, _, _, hi⟩, hst⟩ (by rw [q2]; exact h6) q1 q3 (by rw [hsl]; exact k2_hasslot (q4 k hk)) rfl rfl hd fun H9 e1 e2 e3 => ?_
  rw [hsl] at e1 ⊢
  exact kk H9 _ ls (h1.put ha ⟨_, hc, t_OB.to (V := updV (vp_V fs) k v) ⟨_, e1, q2, q3, t_set q4 hap hk v⟩ (fun j _ => vp_updV_set hl v j)⟩ e2 e3) (pw_loc h2 hA) h3
theorem pw_putF (X : pw_Cx p l s m args meth c G cc nL own) {C : String} {T : u_T} {N ci index : Nat} {a : Nat} {fs : List Value} {v : Value} {ty : FieldType} (hd : decode cc pc = .ok (.putfield index, 3)) (ha : M a = some (.inr (ci, fs))) (hc : pw_cl[ci]? = some (C, T, N)) (hin : ∀ w ∈ u_ws C T N, w ∈ pw_T) (ty0 : Nat → FieldType) (hty : ∀ k, k < N → parseFieldDescriptor (T k).2.2.1 = some (ty0 k)) (hnm : ∀ a, a < N → ∀ b, b < N → a ≠ b → (T a).2.1 ≠ (T b).2.1) (k : Nat) (hk : k < N) (hw : Cond.fieldLink own index (T k).1 (T k).2.1 (T k).2.2.1 ∈ pw_T) (hfin : (T k).2.2.2 = true) (hinit : meth.name = "<init>") (hdecl : (T k).1 = own) (hpd : parseFieldDescriptor (T k).2.2.1 = some ty) (hn : narrow ty v = v) (hfit : fits ty v = true) (hl : k < fs.length) (fs9 : List Value) (hs : fs.set k v = fs9) (kk : pw_W p l e R s m args below meth c Q G nL (pw_up M a (.inr (ci, fs9))) cells slots (pc + 3) lv st) : pw_W p l e R s m args below meth c Q G nL M cells slots pc lv (v :: .ref a :: st) := by
  subst hs
  intro H locs ls h1 h2 h3
  have hA : pw_A G a := (h1.2.2 a _ ha).1
  have hK := X.2.2.2.2.2.1.1
  have hts := X.2.2.2.2.1
  have hown := X.2.2.2.1
  have hap := va_apart (own := own) hts hin ty0 hty hnm hK hc
  obtain ⟨r, g1, cell, q1, q2, q3, q4⟩ := h1.at ha
  have hr : r = (C, T, N) := Option.some.inj (g1.symm.trans hc)
  subst hr
  obtain ⟨hS, hfc, kC, hkC, hkind⟩ := hK.1 ci _ hc
  obtain ⟨cf, kf, fi, f, hi, hsl⟩ := hS k hk
  have hlay := hts _ (hin _ (u_in_lay hk))
  unfold u_lay at hlay
  rw [if_pos hfin] at hlay
  have hst := (u_facts hfc hkC (u_lays hts hin hk) hi).1
  have hcf : m.cls = cf := by
    obtain ⟨_, _, c9, _, _, _, -, -, hf9, -, -, -, hown2, -⟩ := Cond.laysFinal_spec hlay
    have e1 : c9 = cf := by have := hi.symm.trans hf9; simp at this; exact this.1.symm
    rw [hdecl] at hown2
    rw [← e1]; exact Option.some.inj (hown.symm.trans hown2)
  have h6 := u_fits hfc hkC hkind (Or.inr hlay) hi hpd hn hfit
  refine W.putFinK X.1 X.2.1 hown (hts _ hw) hi hst hcf hinit (by rw [q2]; exact h6) q1 q3 (by rw [hsl]; exact k2_hasslot (q4 k hk)) rfl rfl hd fun H9 e1 e2 e3 => ?_
  rw [hsl] at e1 ⊢
  exact kk H9 _ ls (h1.put ha ⟨_, hc, t_OB.to (V := updV (vp_V fs) k v) ⟨_, e1, q2, q3, t_set q4 hap hk v⟩ (fun j _ => vp_updV_set hl v j)⟩ e2 e3) (pw_loc h2 hA) h3
theorem pw_iald (X : pw_Cx p l s m args meth c G cc nL own) {a n j : Nat} {f : Nat → Int32} (hd : decode cc pc = .ok (.iaload, 1)) (ha : M a = some (.inl (G.2.2.1 0, n, .inl f))) (hj : j < n) (hn : n < 2 ^ 31) (kk : pw_W p l e R s m args below meth c Q G nL M cells slots (pc + 1) lv (.int (f j) :: st)) : pw_W p l e R s m args below meth c Q G nL M cells slots pc lv (.int (nI j) :: .ref a :: st) := fun H locs ls h1 h2 h3 => va_iald (D := G.1) (tys := pw_tys G) X.1 X.2.1 X.2.2.2.2.2.1.1 (h1.P ha) 0 0 rfl rfl (vp_in_nI hj hn) hd (by rw [nI_clamp (Nat.lt_trans hj hn)]; exact kk H locs ls h1 h2 h3)
theorem pw_zald (X : pw_Cx p l s m args meth c G cc nL own) {a n j : Nat} {f : Nat → Int32} (hd : decode cc pc = .ok (.baload, 1)) (ha : M a = some (.inl (G.2.2.1 1, n, .inl f))) (hj : j < n) (hn : n < 2 ^ 31) (kk : pw_W p l e R s m args below meth c Q G nL M cells slots (pc + 1) lv (.int (f j) :: st)) : pw_W p l e R s m args below meth c Q G nL M cells slots pc lv (.int (nI j) :: .ref a :: st) := fun H locs ls h1 h2 h3 => va_zald (D := G.1) (tys := pw_tys G) X.1 X.2.1 X.2.2.2.2.2.1.1 (h1.P ha) 0 1 rfl rfl (vp_in_nI hj hn) hd (by rw [nI_clamp (Nat.lt_trans hj hn)]; exact kk H locs ls h1 h2 h3)
theorem pw_aald (X : pw_Cx p l s m args meth c G cc nL own) {a n j : Nat} {f : Nat → Option Nat} (hd : decode cc pc = .ok (.aaload, 1)) (ha : M a = some (.inl (G.2.2.1 2, n, .inr (.inr (.inr (.inr f)))))) (hj : j < n) (hn : n < 2 ^ 31) (kk : pw_W p l e R s m args below meth c Q G nL M cells slots (pc + 1) lv (va_rf (f j) :: st)) : pw_W p l e R s m args below meth c Q G nL M cells slots pc lv (.int (nI j) :: .ref a :: st) := fun H locs ls h1 h2 h3 => va_aldq (D := G.1) (tys := pw_tys G) X.1 X.2.1 X.2.2.2.2.2.1.1 (h1.P ha) 0 2 rfl rfl (vp_in_nI hj hn) hd (by rw [nI_clamp (Nat.lt_trans hj hn)]; exact kk H locs ls h1 h2 h3)
theorem pw_lald (X : pw_Cx p l s m args meth c G cc nL own) {a n j : Nat} {f : Nat → Int64} (hd : decode cc pc = .ok (.laload, 1)) (ha : M a = some (.inl (G.2.2.1 3, n, .inr (.inl f)))) (hj : j < n) (hn : n < 2 ^ 31) (kk : pw_W p l e R s m args below meth c Q G nL M cells slots (pc + 1) lv (.long (f j) :: st)) : pw_W p l e R s m args below meth c Q G nL M cells slots pc lv (.int (nI j) :: .ref a :: st) := fun H locs ls h1 h2 h3 => va_lald (D := G.1) (tys := pw_tys G) X.1 X.2.1 X.2.2.2.2.2.1.1 (h1.P ha) 0 3 rfl rfl (vp_in_nI hj hn) hd (by rw [nI_clamp (Nat.lt_trans hj hn)]; exact kk H locs ls h1 h2 h3)
theorem pw_alen0 (X : pw_Cx p l s m args meth c G cc nL own) {a n : Nat} {x : _} {v : Int32} (hd : decode cc pc = .ok (.arraylength, 1)) (ha : M a = some (.inl (G.2.2.1 0, n, x))) (hv : nI n = v) (kk : pw_W p l e R s m args below meth c Q G nL M cells slots (pc + 1) lv (.int v :: st)) : pw_W p l e R s m args below meth c Q G nL M cells slots pc lv (.ref a :: st) := fun H locs ls h1 h2 h3 => by
  subst hv
  exact va_alen (D := G.1) (tys := pw_tys G) X.1 X.2.1 X.2.2.2.2.2.1.1 (h1.P ha) 0 0 rfl rfl rfl hd (kk H locs ls h1 h2 h3)
theorem pw_alen1 (X : pw_Cx p l s m args meth c G cc nL own) {a n : Nat} {x : _} {v : Int32} (hd : decode cc pc = .ok (.arraylength, 1)) (ha : M a = some (.inl (G.2.2.1 1, n, x))) (hv : nI n = v) (kk : pw_W p l e R s m args below meth c Q G nL M cells slots (pc + 1) lv (.int v :: st)) : pw_W p l e R s m args below meth c Q G nL M cells slots pc lv (.ref a :: st) := fun H locs ls h1 h2 h3 => by
  subst hv
  exact va_alen (D := G.1) (tys := pw_tys G) X.1 X.2.1 X.2.2.2.2.2.1.1 (h1.P ha) 0 1 rfl rfl rfl hd (kk H locs ls h1 h2 h3)
theorem pw_alen2 (X : pw_Cx p l s m args meth c G cc nL own) {a n : Nat} {x : _} {v : Int32} (hd : decode cc pc = .ok (.arraylength, 1)) (ha : M a = some (.inl (G.2.2.1 2, n, x))) (hv : nI n = v) (kk : pw_W p l e R s m args below meth c Q G nL M cells slots (pc + 1) lv (.int v :: st)) : pw_W p l e R s m args below meth c Q G nL M cells slots pc lv (.ref a :: st) := fun H locs ls h1 h2 h3 => by
  subst hv
  exact va_alen (D := G.1) (tys := pw_tys G) X.1 X.2.1 X.2.2.2.2.2.1.1 (h1.P ha) 0 2 rfl rfl rfl hd (kk H locs ls h1 h2 h3)
theorem pw_alen3 (X : pw_Cx p l s m args meth c G cc nL own) {a n : Nat} {x : _} {v : Int32} (hd : decode cc pc = .ok (.arraylength, 1)) (ha : M a = some (.inl (G.2.2.1 3, n, x))) (hv : nI n = v) (kk : pw_W p l e R s m args below meth c Q G nL M cells slots (pc + 1) lv (.int v :: st)) : pw_W p l e R s m args below meth c Q G nL M cells slots pc lv (.ref a :: st) := fun H locs ls h1 h2 h3 => by
  subst hv
  exact va_alen (D := G.1) (tys := pw_tys G) X.1 X.2.1 X.2.2.2.2.2.1.1 (h1.P ha) 0 3 rfl rfl rfl hd (kk H locs ls h1 h2 h3)
theorem pw_iast (X : pw_Cx p l s m args meth c G cc nL own) {a n j : Nat} {f : Nat → Int32} {x : Int32} (hd : decode cc pc = .ok (.iastore, 1)) (ha : M a = some (.inl (G.2.2.1 0, n, .inl f))) (hj : j < n) (hn : n < 2 ^ 31)  (kk : pw_W p l e R s m args below meth c Q G nL (pw_up M a (.inl (G.2.2.1 0, n, .inl (upd f j x)))) cells slots (pc + 1) lv st) : pw_W p l e R s m args below meth c Q G nL M cells slots pc lv (.int x :: .int (nI j) :: .ref a :: st) := by
  intro H locs ls h1 h2 h3
  have hA : pw_A G a := (h1.2.2 a _ ha).1
  refine W.iast X.1 X.2.1 (h1.at ha) ((X.2.2.2.2.2.1.1.2 0 _ rfl).1 n (fun j => .int (f j))) (fun q => by cases q) (by show ¬ (nI j < 0 ∨ (arrV _ _ _).slots.size ≤ _); rw [arrV_size]; exact vp_in_nI hj hn) rfl rfl hd fun H9 e9 z9 oq => ?_
  refine kk H9 _ ls (h1.put ha ?_ z9 oq) (pw_loc h2 hA) h3
  show H9[a]? = some (vp_cell _ _)
  rw [e9, nI_clamp (Nat.lt_trans hj hn)]
  rw [vp_cell_i, vp_cell_i, arrV_store]
  congr 2
  funext q
  by_cases hq : q = j
  · subst hq
    simp [updV, upd]
    try rfl
  · simp [updV, upd, hq]
theorem pw_zast (X : pw_Cx p l s m args meth c G cc nL own) {a n j : Nat} {f : Nat → Int32} {x : Int32} (hd : decode cc pc = .ok (.bastore, 1)) (ha : M a = some (.inl (G.2.2.1 1, n, .inl f))) (hj : j < n) (hn : n < 2 ^ 31)  (kk : pw_W p l e R s m args below meth c Q G nL (pw_up M a (.inl (G.2.2.1 1, n, .inl (upd f j (vp_nar .boolean x))))) cells slots (pc + 1) lv st) : pw_W p l e R s m args below meth c Q G nL M cells slots pc lv (.int x :: .int (nI j) :: .ref a :: st) := by
  intro H locs ls h1 h2 h3
  have hA : pw_A G a := (h1.2.2 a _ ha).1
  refine W.zast X.1 X.2.1 (h1.at ha) ((X.2.2.2.2.2.1.1.2 1 _ rfl).1 n (fun j => .int (f j))) (fun q => by cases q) (by show ¬ (nI j < 0 ∨ (arrV _ _ _).slots.size ≤ _); rw [arrV_size]; exact vp_in_nI hj hn) rfl rfl hd fun H9 e9 z9 oq => ?_
  refine kk H9 _ ls (h1.put ha ?_ z9 oq) (pw_loc h2 hA) h3
  show H9[a]? = some (vp_cell _ _)
  rw [e9, nI_clamp (Nat.lt_trans hj hn)]
  rw [vp_cell_i, vp_cell_i, arrV_store]
  congr 2
  funext q
  by_cases hq : q = j
  · subst hq
    simp [updV, upd, vp_nar]
    try rfl
  · simp [updV, upd, vp_nar, hq]
theorem pw_last (X : pw_Cx p l s m args meth c G cc nL own) {a n j : Nat} {f : Nat → Int64} {x : Int64} (hd : decode cc pc = .ok (.lastore, 1)) (ha : M a = some (.inl (G.2.2.1 3, n, .inr (.inl f)))) (hj : j < n) (hn : n < 2 ^ 31)  (kk : pw_W p l e R s m args below meth c Q G nL (pw_up M a (.inl (G.2.2.1 3, n, .inr (.inl (vp_updL f j x))))) cells slots (pc + 1) lv st) : pw_W p l e R s m args below meth c Q G nL M cells slots pc lv (.long x :: .int (nI j) :: .ref a :: st) := by
  intro H locs ls h1 h2 h3
  have hA : pw_A G a := (h1.2.2 a _ ha).1
  refine W.last X.1 X.2.1 (h1.at ha) ((X.2.2.2.2.2.1.1.2 3 _ rfl).1 n (fun j => .long (f j))) (fun q => by cases q) (by show ¬ (nI j < 0 ∨ (arrV _ _ _).slots.size ≤ _); rw [arrV_size]; exact vp_in_nI hj hn) rfl rfl hd fun H9 e9 z9 oq => ?_
  refine kk H9 _ ls (h1.put ha ?_ z9 oq) (pw_loc h2 hA) h3
  show H9[a]? = some (vp_cell _ _)
  rw [e9, nI_clamp (Nat.lt_trans hj hn)]
  rw [vp_cell_l, vp_cell_l, arrV_store]
  congr 2
  funext q
  by_cases hq : q = j
  · subst hq
    simp [updV, vp_updL]
    try rfl
  · simp [updV, vp_updL, hq]
theorem pw_aast (X : pw_Cx p l s m args meth c G cc nL own) {a n j v ci : Nat} {vs : List Value} {f : Nat → Option Nat} {r : vw_C} (hd : decode cc pc = .ok (.aastore, 1)) (ha : M a = some (.inl (G.2.2.1 2, n, .inr (.inr (.inr (.inr f)))))) (hv : M v = some (.inr (ci, vs))) (hc : pw_cl[ci]? = some r) (hr : r.1 = RX0) (hj : j < n) (hn : n < 2 ^ 31) (kk : pw_W p l e R s m args below meth c Q G nL (pw_up M a (.inl (G.2.2.1 2, n, .inr (.inr (.inr (.inr (va_up f j (some v)))))))) cells slots (pc + 1) lv st) : pw_W p l e R s m args below meth c Q G nL M cells slots pc lv (.ref v :: .int (nI j) :: .ref a :: st) := by
  intro H locs ls h1 h2 h3
  have hA : pw_A G a := (h1.2.2 a _ ha).1
  have hK := X.2.2.2.2.2.1.1
  have hlt : (nI j).toNatClampNeg < n := by rw [nI_clamp (Nat.lt_trans hj hn)]; exact hj
  have h0 : ¬ nI j < 0 := nI_pos (Nat.lt_trans hj hn)
  obtain ⟨r9, hr9, cellV, g1, g2, g3, -⟩ := h1.at hv
  have hcls := (hK.1 ci r hc).2
  rw [hr] at hcls
  obtain ⟨kA, comp, k1, k2, k3, -⟩ := (hK.2 2 _ rfl).2
  have hcomp : comp = G.1.1 ci := Option.some.inj (k3.symm.trans hcls.1)
  subst hcomp
  obtain ⟨kC, hkC, -⟩ := hcls.2
  refine W.aast X.1 X.2.1 (h1.at ha) (fun q h => by cases h) (fun h => by cases h) k1 k2 rfl hkC ⟨h0, by show _ < (arrV _ _ _).slots.size; rw [arrV_size]; exact hlt⟩ g1 (fun q h => by rw [g3] at h; cases h) (by rw [g2]; exact hkC) (by rw [g2]; exact va_assign hcls) rfl rfl hd fun H9 e9 z9 oq => ?_
  refine kk H9 _ ls (h1.put ha ?_ z9 oq) (pw_loc h2 hA) h3
  show H9[a]? = some (vp_cell _ _)
  rw [e9, nI_clamp (Nat.lt_trans hj hn)]
  rw [vp_cell_q, vp_cell_q, arrV_store]
  congr 2
  funext q
  by_cases hq : q = j
  · subst hq
    simp [updV, va_up, va_rf]
  · simp [updV, va_up, hq]
theorem pw_aastN (X : pw_Cx p l s m args meth c G cc nL own) {a n j : Nat} {f : Nat → Option Nat} (hd : decode cc pc = .ok (.aastore, 1)) (ha : M a = some (.inl (G.2.2.1 2, n, .inr (.inr (.inr (.inr f)))))) (hj : j < n) (hn : n < 2 ^ 31) (kk : pw_W p l e R s m args below meth c Q G nL (pw_up M a (.inl (G.2.2.1 2, n, .inr (.inr (.inr (.inr (va_up f j none))))))) cells slots (pc + 1) lv st) : pw_W p l e R s m args below meth c Q G nL M cells slots pc lv (.null :: .int (nI j) :: .ref a :: st) := by
  intro H locs ls h1 h2 h3
  have hA : pw_A G a := (h1.2.2 a _ ha).1
  refine va_WaastN (C := RX0) X.1 X.2.1 (h1.at ha) ((X.2.2.2.2.2.1.1.2 2 _ rfl).1 n (fun j => va_rf (f j))) (fun h => by cases h) (by show ¬ (nI j < 0 ∨ (arrV _ _ _).slots.size ≤ _); rw [arrV_size]; exact vp_in_nI hj hn) rfl rfl hd fun H9 e9 z9 oq => ?_
  refine kk H9 _ ls (h1.put ha ?_ z9 oq) (pw_loc h2 hA) h3
  show H9[a]? = some (vp_cell _ _)
  rw [e9, nI_clamp (Nat.lt_trans hj hn)]
  rw [vp_cell_q, vp_cell_q, arrV_store]
  congr 2
  funext q
  by_cases hq : q = j
  · subst hq
    simp [updV, va_up, va_rf]
  · simp [updV, va_up, hq]
def pw_fr (G : pw_G) (M : pw_M) (q : Nat) : Prop := G.2.1.size ≤ q ∧ ∀ (a : Nat) (e : va_E), M a = some e → a < q
theorem pw_fr.ne {a q : Nat} {x : va_E} (h : pw_fr G M q) (ha : M a = some x) : a ≠ q := Nat.ne_of_lt (h.2 a x ha)
theorem pw_new (X : pw_Cx p l s m args meth c G cc nL own) {C : String} {T : u_T} {N ci index : Nat} (hd : decode cc pc = .ok (.new index, 3)) (hc : pw_cl[ci]? = some (C, T, N)) (hin : ∀ w ∈ u_ws C T N, w ∈ pw_T) (ty : Nat → FieldType) (hty : ∀ k, k < N → parseFieldDescriptor (T k).2.2.1 = some (ty k)) (hw : Cond.classLink own index C ∈ pw_T ∧ Cond.instantiable C N ∈ pw_T ∧ Cond.initialized C ∈ pw_T) {fs : List Value} (hfs : ∀ j, j < N → defaultValue (ty j) = vp_V fs j) (hcells : cells + 1 ≤ R.cells) (hslots : slots + N ≤ R.slots) (kk : ∀ q : Nat, pw_fr G M q → pw_W p l e R s m args below meth c Q G nL (pw_up M q (.inr (ci, fs))) (cells + 1) (slots + N) (pc + 3) lv (.ref q :: st)) : pw_W p l e R s m args below meth c Q G nL M cells slots pc lv st := by
  intro H locs ls h1 h2 h3
  have hts := X.2.2.2.2.1
  have hKn := X.2.2.2.2.2.1.1.1 ci _ hc
  refine W.newcK X.1 X.2.1 X.2.2.2.1 (hts _ hw.1) (hts _ hw.2.1) (hts _ hw.2.2) rfl hd hcells hslots hKn.2.1 rfl fun H9 kC hkC e9 z9 o9 => ?_
  exact kk H.size ⟨h1.1, fun a x ha => h1.lt ha⟩ H9 locs ls (h1.push ⟨_, hc, (u_born ty hts hin hKn hkC e9 hty).to hfs⟩ (by omega) o9) h2 h3
theorem pw_newa (X : pw_Cx p l s m args meth c G cc nL own) {atype : ArrayType} {ty : FieldType} (t0 : Nat) (hd : decode cc pc = .ok (.newarray atype, 2)) (hty : newarray.typeOf atype = ty) (ht : (pw_tys G)[t0]? = some (G.2.2.1 t0, ty)) (hra : ∀ cA, va_RA s cA ty → va_RA s (G.2.2.1 t0) ty → cA = G.2.2.1 t0) (hRA : ∀ cA, s.vm.findClass ("[" ++ ty.toString) = some cA → va_RA s cA ty) (hw : Cond.arrayClass ty ∈ pw_T) {n : Nat} {a0 : vp_A} (ha0 : ∀ cA : ClassId, vp_cell cA a0 = arrV cA n (fun _ => defaultValue ty)) (hn : n < 2 ^ 31) (hbytes : n * componentBytes ty ≤ 536870912) (hcells : cells + 1 ≤ R.cells) (hslots : slots + n ≤ R.slots) (kk : ∀ q : Nat, pw_fr G M q → pw_W p l e R s m args below meth c Q G nL (pw_up M q (.inl (G.2.2.1 t0, a0))) (cells + 1) (slots + n) (pc + 2) lv (.ref q :: st)) : pw_W p l e R s m args below meth c Q G nL M cells slots pc lv (.int (nI n) :: st) := by
  intro H locs ls h1 h2 h3
  subst hty
  refine va_newaK X.1 X.2.1 (X.2.2.2.2.1 _ hw) rfl hd rfl (nI_pos hn) (nI_clamp hn) hbytes hcells hslots rfl fun H9 cA e9 z9 o9 hAr hNm => ?_
  have hcA : cA = G.2.2.1 t0 := hra cA (hRA cA hNm) (X.2.2.2.2.2.1.1.2 t0 _ ht).2
  subst hcA
  refine kk H.size ⟨h1.1, fun a x ha => h1.lt ha⟩ H9 locs ls (h1.push ?_ (by omega) o9) h2 h3
  show H9[H.size]? = some (vp_cell _ _)
  rw [ha0]
  exact e9
theorem pw_newi (X : pw_Cx p l s m args meth c G cc nL own) (hd : decode cc pc = .ok (.newarray .int, 2)) (hw : Cond.arrayClass .int ∈ pw_T) {n : Nat} (hn : n ≤ 1000) (hcells : cells + 1 ≤ R.cells) (hslots : slots + n ≤ R.slots) (kk : ∀ q : Nat, pw_fr G M q → pw_W p l e R s m args below meth c Q G nL (pw_up M q (.inl (G.2.2.1 0, n, .inl (fun _ => 0)))) (cells + 1) (slots + n) (pc + 2) lv (.ref q :: st)) : pw_W p l e R s m args below meth c Q G nL M cells slots pc lv (.int (nI n) :: st) :=
  pw_newa X 0 hd rfl rfl (fun cA h h9 => Option.some.inj ((va_nm_int h).symm.trans (va_nm_int h9))) (fun cA h => h) hw (fun cA => rfl) (by omega) (by show n * 4 ≤ _; omega) hcells hslots kk
theorem pw_newz (X : pw_Cx p l s m args meth c G cc nL own) (hd : decode cc pc = .ok (.newarray .boolean, 2)) (hw : Cond.arrayClass .boolean ∈ pw_T) {n : Nat} (hn : n ≤ 1000) (hcells : cells + 1 ≤ R.cells) (hslots : slots + n ≤ R.slots) (kk : ∀ q : Nat, pw_fr G M q → pw_W p l e R s m args below meth c Q G nL (pw_up M q (.inl (G.2.2.1 1, n, .inl (fun _ => 0)))) (cells + 1) (slots + n) (pc + 2) lv (.ref q :: st)) : pw_W p l e R s m args below meth c Q G nL M cells slots pc lv (.int (nI n) :: st) :=
  pw_newa X 1 hd rfl rfl (fun cA h h9 => Option.some.inj ((va_nm_boolean h).symm.trans (va_nm_boolean h9))) (fun cA h => h) hw (fun cA => rfl) (by omega) (by show n * 1 ≤ _; omega) hcells hslots kk
theorem pw_newl (X : pw_Cx p l s m args meth c G cc nL own) (hd : decode cc pc = .ok (.newarray .long, 2)) (hw : Cond.arrayClass .long ∈ pw_T) {n : Nat} (hn : n ≤ 1000) (hcells : cells + 1 ≤ R.cells) (hslots : slots + n ≤ R.slots) (kk : ∀ q : Nat, pw_fr G M q → pw_W p l e R s m args below meth c Q G nL (pw_up M q (.inl (G.2.2.1 3, n, .inr (.inl (fun _ => 0))))) (cells + 1) (slots + n) (pc + 2) lv (.ref q :: st)) : pw_W p l e R s m args below meth c Q G nL M cells slots pc lv (.int (nI n) :: st) :=
  pw_newa X 3 hd rfl rfl (fun cA h h9 => Option.some.inj ((va_nm_long h).symm.trans (va_nm_long h9))) (fun cA h => h) hw (fun cA => rfl) (by omega) (by show n * 8 ≤ _; omega) hcells hslots kk
theorem pw_newq (X : pw_Cx p l s m args meth c G cc nL own) {index : Nat} (hd : decode cc pc = .ok (.anewarray index, 3)) (hw : Cond.classLink own index RX0 ∈ pw_T) {n : Nat} (hn : n ≤ 1000) (hcells : cells + 1 ≤ R.cells) (hslots : slots + n ≤ R.slots) (kk : ∀ q : Nat, pw_fr G M q → pw_W p l e R s m args below meth c Q G nL (pw_up M q (.inl (G.2.2.1 2, n, .inr (.inr (.inr (.inr (fun _ => none))))))) (cells + 1) (slots + n) (pc + 3) lv (.ref q :: st)) : pw_W p l e R s m args below meth c Q G nL M cells slots pc lv (.int (nI n) :: st) := by
  intro H locs ls h1 h2 h3
  have hn9 : n < 2 ^ 31 := by omega
  have hcl : (nI n).toNatClampNeg = n := nI_clamp hn9
  refine W.anew X.1 X.2.1 X.2.2.2.1 (X.2.2.2.2.1 _ hw) (va_AO.use X.2.2.2.2.2.1.2.1) rfl hd rfl (nI_pos hn9) (by rw [hcl]; omega) hcells (by rw [hcl]; exact hslots) fun cA kA comp f1 f2 f3 f4 => ?_
  obtain ⟨kA9, comp9, k1, k2, k3, k4⟩ := (X.2.2.2.2.2.1.1.2 2 _ rfl).2
  have hcA : cA = G.2.2.1 2 := Option.some.inj (f1.symm.trans k4)
  subst hcA
  rw [hcl]
  generalize hH9 : H.push ({ cls := G.2.2.1 2, slots := Array.replicate n .null, vm := .none } : Cell) = H9
  have z9 : H9.size = H.size + 1 := by rw [← hH9, Array.size_push]
  have e9 : H9[H.size]? = some (arrV (G.2.2.1 2) n (fun _ => .null)) := by rw [← hH9, Array.getElem?_push_size, ← arrV_new]
  have o9 : ∀ q : Nat, q < H.size → H9[q]? = H[q]? := fun q hq => by rw [← hH9, Array.getElem?_push, if_neg (Nat.ne_of_lt hq)]
  refine kk H.size ⟨h1.1, fun a x ha => h1.lt ha⟩ H9 locs ls (h1.push ?_ (by omega) o9) h2 h3
  show H9[H.size]? = some (vp_cell _ _)
  rw [vp_cell_q]
  exact e9
theorem pw_objInit (X : pw_Cx p l s m args meth c G cc nL own) {index : Nat} {a : Nat} (hd : decode cc pc = .ok (.invokespecial index, 3)) (hw : Cond.methodLink own index objectInit ∈ pw_T ∧ Cond.instanceMethod objectInit ∈ pw_T ∧ Cond.code objectInit ⟨#[0xb1]⟩ 1 none ∈ pw_T) (hR : 1 ≤ R.frames ∧ (st.map fun v => v.category).sum + 12 ≤ R.locals) (kk : pw_W p l e R s m args below meth c Q G nL M cells slots (pc + 3) lv st) : pw_W p l e R s m args below meth c Q G nL M cells slots pc lv (.ref a :: st) := by
  intro H locs ls h1 h2 h3
  refine W.objInit X.1 X.2.1 X.2.2.2.1 (X.2.2.2.2.1 _ hw.1) (X.2.2.2.2.1 _ hw.2.1) (X.2.2.2.2.1 _ hw.2.2) rfl (by rw [X.2.2.1]; exact h3.1) rfl hd hR.1 (by show 2 * 0 + _ + 12 ≤ _; omega) ?_
  exact W.eq (g2 := F0 m (pc + 3) ls st) rfl (kk H locs ls h1 h2 h3)
theorem pw_mmax (X : pw_Cx p l s m args meth c G cc nL own) {index : Nat} {x y : Int32} (hd : decode cc pc = .ok (.invokestatic index, 3)) (hw : Cond.methodLink own index Lib.Math.max.name ∈ pw_T ∧ Cond.static Lib.Math.max.name ∈ pw_T ∧ Cond.initialized "java/lang/Math" ∈ pw_T ∧ Cond.code Lib.Math.max.name Lib.Math.max.code 2 (some .int) ∈ pw_T) (hR : 1 ≤ R.frames ∧ (st.map fun v => v.category).sum + 13 ≤ R.locals ∧ cells ≤ R.cells ∧ slots ≤ R.slots) (kk : pw_W p l e R s m args below meth c Q G nL M cells slots (pc + 3) lv (.int (if x < y then y else x) :: st)) : pw_W p l e R s m args below meth c Q G nL M cells slots pc lv (.int y :: .int x :: st) := fun H locs ls h1 h2 h3 =>
  va_mmax X.1 X.2.1 (by rw [X.2.2.1]; exact h3.1.symm) X.2.2.2.1 (X.2.2.2.2.1 _ hw.1) (X.2.2.2.2.1 _ hw.2.1) (X.2.2.2.2.1 _ hw.2.2.1) (X.2.2.2.2.1 _ hw.2.2.2) hR.1 hR.2.1 hR.2.2.1 hR.2.2.2 hd (kk H locs ls h1 h2 h3)
theorem pw_mmin (X : pw_Cx p l s m args meth c G cc nL own) {index : Nat} {x y : Int32} (hd : decode cc pc = .ok (.invokestatic index, 3)) (hw : Cond.methodLink own index Lib.Math.min.name ∈ pw_T ∧ Cond.static Lib.Math.min.name ∈ pw_T ∧ Cond.initialized "java/lang/Math" ∈ pw_T ∧ Cond.code Lib.Math.min.name Lib.Math.min.code 2 (some .int) ∈ pw_T) (hR : 1 ≤ R.frames ∧ (st.map fun v => v.category).sum + 13 ≤ R.locals ∧ cells ≤ R.cells ∧ slots ≤ R.slots) (kk : pw_W p l e R s m args below meth c Q G nL M cells slots (pc + 3) lv (.int (if y < x then y else x) :: st)) : pw_W p l e R s m args below meth c Q G nL M cells slots pc lv (.int y :: .int x :: st) := fun H locs ls h1 h2 h3 =>
  va_mmin X.1 X.2.1 (by rw [X.2.2.1]; exact h3.1.symm) X.2.2.2.1 (X.2.2.2.2.1 _ hw.1) (X.2.2.2.2.1 _ hw.2.1) (X.2.2.2.2.1 _ hw.2.2.1) (X.2.2.2.2.1 _ hw.2.2.2) hR.1 hR.2.1 hR.2.2.1 hR.2.2.2 hd (kk H locs ls h1 h2 h3)
theorem pw_sld (X : pw_Cx p l s m args meth c G cc nL own) {j : Nat} (hd : decode cc pc = .ok (.iaload, 1)) (hj : j < G.2.2.2.2.1) (hn : G.2.2.2.2.1 < 2 ^ 31) (kk : pw_W p l e R s m args below meth c Q G nL M cells slots (pc + 1) lv (.int (G.2.2.2.2.2 j) :: st)) : pw_W p l e R s m args below meth c Q G nL M cells slots pc lv (.int (nI j) :: .ref G.2.2.2.1 :: st) := fun H locs ls h1 h2 h3 =>
  va_sld X.1 X.2.1 X.2.2.2.2.2.1.2.2.2.2.2.2.2.1 X.2.2.2.2.2.1.2.2.2.2.2.2.2.2.1 (Nat.not_le.mpr X.2.2.2.2.2.1.2.2.2.2.2.2.2.2.1) (h1.S h2) (vp_in_nI hj hn) hd (by rw [nI_clamp (Nat.lt_trans hj hn)]; exact kk H locs ls h1 h2 h3)
theorem pw_slen (X : pw_Cx p l s m args meth c G cc nL own) {v : Int32} (hd : decode cc pc = .ok (.arraylength, 1)) (hv : nI G.2.2.2.2.1 = v) (kk : pw_W p l e R s m args below meth c Q G nL M cells slots (pc + 1) lv (.int v :: st)) : pw_W p l e R s m args below meth c Q G nL M cells slots pc lv (.ref G.2.2.2.1 :: st) := fun H locs ls h1 h2 h3 => by
  subst hv
  exact va_slen X.1 X.2.1 X.2.2.2.2.2.1.2.2.2.2.2.2.2.1 X.2.2.2.2.2.1.2.2.2.2.2.2.2.2.1 (Nat.not_le.mpr X.2.2.2.2.2.1.2.2.2.2.2.2.2.2.1) (h1.S h2) hd (kk H locs ls h1 h2 h3)
end PWW
end
section
/-! ===== contracts over the map, calls, throws, catches, ends ===== -/
abbrev pw_wd (y : MethodName) (cc : ByteArray) (n : Nat) (ret : Option FieldType) : List Cond := Cond.code y cc n ret :: pw_T
abbrev pw_wh (y : MethodName) (cc : ByteArray) (n : Nat) (ret : Option FieldType) (hh : List (Nat × Nat × Nat × Nat)) : List Cond := Cond.codeWith y cc n ret hh :: pw_T
/-- the room of a method at depth d -/
def pw_rm (d mc ms : Nat) : Room := { frames := 13 - d, cells := mc, slots := ms, locals := 476 - 40 * d }
def pw_pre (G : pw_G) (as : List Value) (M : pw_M) : Array Value → State → Prop := va_Pc as (fun U => pw_hp G M U.heap ∧ pw_K G U)
def pw_po (G : pw_G) (post : Option Value → pw_M → Prop) : Array Value → State → Outcome → State → Prop := fun _ _ oc t => ∃ (v : Option Value) (M9 : pw_M), oc = .returned v ∧ post v M9 ∧ pw_hp G M9 t.heap
def pw_px (G : pw_G) (px : String → pw_M → Prop) : String → State → State → Prop := fun E _ t => ∃ M9 : pw_M, px E M9 ∧ pw_hp G M9 t.heap
/-- a method that returns -/
def pw_Met (l : Launch) (y : MethodName) (cc : ByteArray) (n : Nat) (ret : Option FieldType) (d mc ms : Nat) (G : pw_G) (as : List Value) (M : pw_M) (post : Option Value → pw_M → Prop) : Prop :=
  Met l y (pw_wd y cc n ret) (pw_rm d mc ms) (pw_pre G as M) (pw_po G post) mc ms (pw_A G)
/-- a method that returns or throws -/
def pw_XMet (l : Launch) (y : MethodName) (cc : ByteArray) (n : Nat) (ret : Option FieldType) (d mc ms : Nat) (G : pw_G) (as : List Value) (M : pw_M) (post : Option Value → pw_M → Prop) (px : String → pw_M → Prop) : Prop :=
  vx_Met l y (pw_wd y cc n ret) (pw_rm d mc ms) (pw_pre G as M) (pw_po G post) (pw_px G px) mc ms (pw_A G)
/-- a method with handlers, that returns -/
def pw_HMet (l : Launch) (y : MethodName) (cc : ByteArray) (n : Nat) (ret : Option FieldType) (hh : List (Nat × Nat × Nat × Nat)) (d mc ms : Nat) (G : pw_G) (as : List Value) (M : pw_M) (post : Option Value → pw_M → Prop) : Prop :=
  vx_Met l y (pw_wh y cc n ret hh) (pw_rm d mc ms) (pw_pre G as M) (pw_po G post) (pw_px G (fun _ _ => False)) mc ms (pw_A G)
theorem pw_blind {G : pw_G} {as : List Value} {M : pw_M} : FrameBlind (pw_pre G as M) := fun a U g mk h => ⟨h.1, h.2.1, pw_K.same (s := U) (U := U.calling g mk a) rfl h.2.2⟩
/-- what is said once of a method -/
def pw_ok (y : MethodName) (cc : ByteArray) (n : Nat) (ret : Option FieldType) (k : Nat) : Prop := Cond.code y cc n ret ∈ pw_T ∧ Cond.initialized y.cls ∈ pw_T ∧ y.cls ≠ "java/lang/invoke/MethodHandle" ∧ y.cls ≠ "java/lang/invoke/VarHandle" ∧ (parseMethodDescriptor y.desc).map (fun d => d.parameters.length) = some k ∧ plainName y.cls = true
def pw_okh (y : MethodName) (cc : ByteArray) (n : Nat) (ret : Option FieldType) (hh : List (Nat × Nat × Nat × Nat)) (k : Nat) : Prop := Cond.codeWith y cc n ret hh ∈ pw_T ∧ Cond.initialized y.cls ∈ pw_T ∧ y.cls ≠ "java/lang/invoke/MethodHandle" ∧ y.cls ≠ "java/lang/invoke/VarHandle" ∧ (parseMethodDescriptor y.desc).map (fun d => d.parameters.length) = some k ∧ plainName y.cls = true
theorem pw_len {y : MethodName} {k : Nat} (h : (parseMethodDescriptor y.desc).map (fun d => d.parameters.length) = some k) : ∀ sig, parseMethodDescriptor y.desc = some sig → k = sig.parameters.length := fun sig h9 => by
  rw [h9] at h
  exact (Option.some.inj h).symm
theorem pw_pay {args : Array Value} {s : State} (hts : ∀ w ∈ pw_T, w.before args s = true) {w0 : Cond} (h0 : w0 ∈ pw_T) : ∀ w ∈ w0 :: pw_T, ∀ (a9 : Array Value) (U : State), s.WarmedH U.vm → w.before a9 U = true := by
  intro w hw a9 U hW
  have hw9 : w ∈ pw_T := (List.mem_cons.mp hw).elim (fun e => by rw [e]; exact h0) id
  exact word_at hW (good_of_word (List.mem_filter.mp hw9).2) (hts w hw9)
theorem pw_memT {w : Cond} (h : w ∈ lw_tbl) (g : goodWord w = true) : w ∈ pw_T := List.mem_filter.mpr ⟨h, g⟩
section PWC
variable {p : Program} {l : Launch} {e : Env} {R : Room} {s : State} {m : MethodId} {args : Array Value} {below : List Frame} {meth : Method} {c : Code} {Q : State → Prop} {G : pw_G} {cc : ByteArray} {nL : Nat} {own : String} {M : pw_M} {cells slots pc : Nat} {lv lv' : List (Nat × Value)} {st : List Value}
variable {y : MethodName} {bytes : ByteArray} {maxL d mc ms n index : Nat} {ret : Option FieldType} {post : Option Value → pw_M → Prop} {px : String → pw_M → Prop} {As : List Value} {H : Heap} {locs : List Loc} {ls : Array Slot} {a : Array Value} {st0 : List Value}
theorem pw_fix (X : pw_Cx p l s m args meth c G cc nL own) : CallFix p m c cc nL s args pw_T own := ⟨X.1, X.2.1, X.2.2.1, X.2.2.2.1, X.2.2.2.2.1⟩
theorem pw_cb (X : pw_Cx p l s m args meth c G cc nL own) (hy : pw_ok y bytes maxL ret n) (hl : Cond.methodLink own index y ∈ pw_T) (hR : (pw_rm d mc ms).frames + 1 ≤ R.frames ∧ 8 + (maxL + 11) + (pw_rm d mc ms).locals ≤ R.locals) : CallB R s args own index y bytes maxL ret (pw_wd y bytes maxL ret) (pw_rm d mc ms) mc ms n :=
  ⟨rfl, rfl, hR.1, hR.2, pw_pay X.2.2.2.2.1 hy.1, List.mem_cons_self, X.2.2.2.2.1 _ hy.1, X.2.2.2.2.1 _ hy.2.1, ⟨hy.2.2.1, hy.2.2.2.1⟩, pw_len hy.2.2.2.2.1, X.2.2.2.2.1 _ hl⟩
theorem pw_locs {L : List Loc} (h : ∀ z ∈ locs, pw_A G z.base) (h9 : ∀ z ∈ L, pw_A G z.base) : ∀ z ∈ locs ++ L, pw_A G z.base := fun z hz => (List.mem_append.mp hz).elim (h z) (h9 z)
/-- behind a call that returns -/
theorem pw_go (h2 : ∀ z ∈ locs, pw_A G z.base) (h3 : lv_has ls nL lv) (hr : va_Run p l e R s m args below meth c H locs cells slots mc ms (F0 m pc ls st0) st (pw_po G post a) (pw_A G))
    (kk : ∀ (v : Option Value) (M9 : pw_M), post v M9 → pw_W p l e R s m args below meth c Q G nL M9 (cells + mc) (slots + ms) (pc + 3) lv (v.toList ++ st)) : W p l e R s m args below meth c H locs cells slots Q (F0 m pc ls st0) := by
  intro T hT X
  obtain ⟨v, st₀, t, T9, L, h0, X9, hL, e1, e2, ⟨v9, M9, hv, hp, hh⟩, go⟩ := hr T hT X
  cases hv
  obtain ⟨t2, a1, b1⟩ := kk v M9 hp T9.heap (locs ++ L) ls (by rw [e1]; exact hh) (pw_locs h2 hL) h3 T9 rfl X9
  exact ⟨t2, go t2 a1, b1⟩
/-- behind a call that returns or throws -/
theorem pw_gox (h2 : ∀ z ∈ locs, pw_A G z.base) (h3 : lv_has ls nL lv) (hr : vx_Run p l e R s m args below meth c H locs cells slots mc ms (F0 m pc ls st0) st (pw_po G post a) (pw_px G px) (pw_A G))
    (kx : ∀ (E : String) (M9 : pw_M), px E M9 → pw_X p l e R s m args below meth c Q G nL M9 (cells + mc) (slots + ms) pc lv E)
    (kk : ∀ (v : Option Value) (M9 : pw_M), post v M9 → pw_W p l e R s m args below meth c Q G nL M9 (cells + mc) (slots + ms) (pc + 3) lv (v.toList ++ st)) : W p l e R s m args below meth c H locs cells slots Q (F0 m pc ls st0) := by
  intro T hT X
  rcases hr T hT X with ⟨v, st₀, t, T9, L, h0, X9, hL, e1, e2, ⟨v9, M9, hv, hp, hh⟩, go⟩ | ⟨q, st₀, t, T9, L, E, ce, h0, X9, hL, e1, e2, ⟨M9, hp, hh⟩, hce, hcv, hcl, go⟩
  · cases hv
    obtain ⟨t2, a1, b1⟩ := kk v M9 hp T9.heap (locs ++ L) ls (by rw [e1]; exact hh) (pw_locs h2 hL) h3 T9 rfl X9
    exact ⟨t2, go t2 a1, b1⟩
  · obtain ⟨t2, a1, b1⟩ := kx E M9 hp T9.heap (locs ++ L) ls q ce st (by rw [e1]; exact hh) (pw_locs h2 hL) h3 (by rw [e1]; exact hce) hcv hcl T9 rfl X9
    exact ⟨t2, go.trans a1, b1⟩
theorem pw_recv (X : pw_Cx p l s m args meth c G cc nL own) {b ci : Nat} {fs : List Value} {r : vw_C} (h1 : pw_hp G M H) (hb : M b = some (.inr (ci, fs))) (hc : pw_cl[ci]? = some r) : ∃ cellB : Cell, H[b]? = some cellB ∧ cellB.vm.isStatics = false ∧ s.vm.findClass r.1 = some cellB.cls :=
  va_recv X.2.2.2.2.2.1.1 (h1.P hb) (ci := ci) (q0 := 0) hc rfl
abbrev pw_R9 (R : Room) (d mc ms maxL cells slots : Nat) (st : List Value) : Prop := ((pw_rm d mc ms).frames + 1 ≤ R.frames ∧ 8 + (maxL + 11) + (pw_rm d mc ms).locals ≤ R.locals) ∧ (st.map fun v => v.category).sum ≤ 8 ∧ cells + mc ≤ R.cells ∧ slots + ms ≤ R.slots
/-- a static method of ours -/
theorem pw_callS (X : pw_Cx p l s m args meth c G cc nL own) (hM : pw_Met l y bytes maxL ret d mc ms G As M post) (hy : pw_ok y bytes maxL ret n) (hw : Cond.methodLink own index y ∈ pw_T ∧ Cond.static y ∈ pw_T) (hd : decode cc pc = .ok (.invokestatic index, 3)) (hn : As.length = n) (hR : pw_R9 R d mc ms maxL cells slots st) (hst : st0 = As.reverse ++ st)
    (kk : ∀ (v : Option Value) (M9 : pw_M), post v M9 → pw_W p l e R s m args below meth c Q G nL M9 (cells + mc) (slots + ms) (pc + 3) lv (v.toList ++ st)) : pw_W p l e R s m args below meth c Q G nL M cells slots pc lv st0 := fun H locs ls h1 h2 h3 =>
  pw_go h2 h3 (va_runS (g := F0 m pc ls st0) (pw_fix X) hM ⟨pw_cb X hy hw.1 hR.1, X.2.2.2.2.1 _ hw.2⟩ ⟨pw_blind, fun U hU hW => ⟨rfl, by rw [hU]; exact h1, pw_K.warm hW X.2.2.2.2.2.1⟩⟩ rfl hn h3.1 hst (by show 2 * 0 + _ ≤ 8; have := hR.2.1; omega) hd hR.2.2) kk
theorem pw_callSx (X : pw_Cx p l s m args meth c G cc nL own) (hM : pw_XMet l y bytes maxL ret d mc ms G As M post px) (hy : pw_ok y bytes maxL ret n) (hw : Cond.methodLink own index y ∈ pw_T ∧ Cond.static y ∈ pw_T) (hd : decode cc pc = .ok (.invokestatic index, 3)) (hn : As.length = n) (hR : pw_R9 R d mc ms maxL cells slots st) (hst : st0 = As.reverse ++ st)
    (kx : ∀ (E : String) (M9 : pw_M), px E M9 → pw_X p l e R s m args below meth c Q G nL M9 (cells + mc) (slots + ms) pc lv E)
    (kk : ∀ (v : Option Value) (M9 : pw_M), post v M9 → pw_W p l e R s m args below meth c Q G nL M9 (cells + mc) (slots + ms) (pc + 3) lv (v.toList ++ st)) : pw_W p l e R s m args below meth c Q G nL M cells slots pc lv st0 := fun H locs ls h1 h2 h3 =>
  pw_gox h2 h3 (vx_runS (g := F0 m pc ls st0) (pw_fix X) hM ⟨pw_cb X hy hw.1 hR.1, X.2.2.2.2.1 _ hw.2⟩ ⟨pw_blind, fun U hU hW => ⟨rfl, by rw [hU]; exact h1, pw_K.warm hW X.2.2.2.2.2.1⟩⟩ rfl hn h3.1 hst (by show 2 * 0 + _ ≤ 8; have := hR.2.1; omega) hd hR.2.2) kx kk
/-- a static method with handlers -/
theorem pw_callSh (X : pw_Cx p l s m args meth c G cc nL own) {hh : List (Nat × Nat × Nat × Nat)} (hM : pw_HMet l y bytes maxL ret hh d mc ms G As M post) (hy : pw_okh y bytes maxL ret hh n) (hw : Cond.methodLink own index y ∈ pw_T ∧ Cond.static y ∈ pw_T) (hd : decode cc pc = .ok (.invokestatic index, 3)) (hn : As.length = n) (hR : pw_R9 R d mc ms maxL cells slots st) (hst : st0 = As.reverse ++ st)
    (kk : ∀ (v : Option Value) (M9 : pw_M), post v M9 → pw_W p l e R s m args below meth c Q G nL M9 (cells + mc) (slots + ms) (pc + 3) lv (v.toList ++ st)) : pw_W p l e R s m args below meth c Q G nL M cells slots pc lv st0 := fun H locs ls h1 h2 h3 =>
  pw_gox h2 h3 (vx_runSX (hh := hh) (g := F0 m pc ls st0) (pw_fix X) hM ⟨⟨rfl, rfl, hR.1.1, hR.1.2, pw_pay X.2.2.2.2.1 hy.1, List.mem_cons_self⟩, X.2.2.2.2.1 _ hy.1, X.2.2.2.2.1 _ hy.2.1, ⟨hy.2.2.1, hy.2.2.2.1⟩, pw_len hy.2.2.2.2.1, X.2.2.2.2.1 _ hw.1, X.2.2.2.2.1 _ hw.2⟩ ⟨pw_blind, fun U hU hW => ⟨rfl, by rw [hU]; exact h1, pw_K.warm hW X.2.2.2.2.2.1⟩⟩ rfl hn h3.1 hst (by show 2 * 0 + _ ≤ 8; have := hR.2.1; omega) hd hR.2.2) (fun _ _ h => h.elim) kk
/-- a static method of a nest mate -/
theorem pw_callSN (X : pw_Cx p l s m args meth c G cc nL own) {host : String} (hM : pw_Met l y bytes maxL ret d mc ms G As M post) (hy : pw_ok y bytes maxL ret n) (hl : va_Nw (.methodLinkNest own index y host) s) (hw : Cond.static y ∈ pw_T) (hd : decode cc pc = .ok (.invokestatic index, 3)) (hn : As.length = n) (hR : pw_R9 R d mc ms maxL cells slots st) (hst : st0 = As.reverse ++ st)
    (kk : ∀ (v : Option Value) (M9 : pw_M), post v M9 → pw_W p l e R s m args below meth c Q G nL M9 (cells + mc) (slots + ms) (pc + 3) lv (v.toList ++ st)) : pw_W p l e R s m args below meth c Q G nL M cells slots pc lv st0 := fun H locs ls h1 h2 h3 =>
  pw_go h2 h3 (va_runSN (g := F0 m pc ls st0) (pw_fix X) hM ⟨⟨⟨rfl, rfl, hR.1.1, hR.1.2, pw_pay X.2.2.2.2.1 hy.1, List.mem_cons_self⟩, X.2.2.2.2.1 _ hy.1, X.2.2.2.2.1 _ hy.2.1, ⟨hy.2.2.1, hy.2.2.2.1⟩, pw_len hy.2.2.2.2.1, va_Nw.use rfl hl⟩, X.2.2.2.2.1 _ hw, trivial⟩ ⟨pw_blind, fun U hU hW => ⟨rfl, by rw [hU]; exact h1, pw_K.warm hW X.2.2.2.2.2.1⟩⟩ rfl hn h3.1 hst (by show 2 * 0 + _ ≤ 8; have := hR.2.1; omega) hd hR.2.2) kk
/-- a method of an object -/
theorem pw_callV (X : pw_Cx p l s m args meth c G cc nL own) {b ci : Nat} {fs : List Value} {r : vw_C} (hM : pw_Met l y bytes maxL ret d mc ms G (.ref b :: As) M post) (hb : M b = some (.inr (ci, fs))) (hc : pw_cl[ci]? = some r) (hy : pw_ok y bytes maxL ret n) (hw : Cond.methodLink own index y ∈ pw_T ∧ Cond.instanceMethod y ∈ pw_T ∧ Cond.selects r.1 y y ∈ pw_T) (hd : decode cc pc = .ok (.invokevirtual index, 3)) (hn : As.length = n) (hR : pw_R9 R d mc ms maxL cells slots st) (hst : st0 = As.reverse ++ .ref b :: st)
    (kk : ∀ (v : Option Value) (M9 : pw_M), post v M9 → pw_W p l e R s m args below meth c Q G nL M9 (cells + mc) (slots + ms) (pc + 3) lv (v.toList ++ st)) : pw_W p l e R s m args below meth c Q G nL M cells slots pc lv st0 := fun H locs ls h1 h2 h3 =>
  pw_go h2 h3 (va_runV (g := F0 m pc ls st0) (C := r.1) (b := b) (pw_fix X) hM ⟨pw_cb X hy hw.1 hR.1, X.2.2.2.2.1 _ hw.2.1, X.2.2.2.2.1 _ hw.2.2⟩ ⟨pw_blind, pw_recv X h1 hb hc, fun U hU hW => ⟨rfl, by rw [hU]; exact h1, pw_K.warm hW X.2.2.2.2.2.1⟩⟩ rfl hn h3.1 hst (by show 2 * 0 + _ ≤ 8; have := hR.2.1; omega) hd hR.2.2) kk
theorem pw_callVx (X : pw_Cx p l s m args meth c G cc nL own) {b ci : Nat} {fs : List Value} {r : vw_C} (hM : pw_XMet l y bytes maxL ret d mc ms G (.ref b :: As) M post px) (hb : M b = some (.inr (ci, fs))) (hc : pw_cl[ci]? = some r) (hy : pw_ok y bytes maxL ret n) (hw : Cond.methodLink own index y ∈ pw_T ∧ Cond.instanceMethod y ∈ pw_T ∧ Cond.selects r.1 y y ∈ pw_T) (hd : decode cc pc = .ok (.invokevirtual index, 3)) (hn : As.length = n) (hR : pw_R9 R d mc ms maxL cells slots st) (hst : st0 = As.reverse ++ .ref b :: st)
    (kx : ∀ (E : String) (M9 : pw_M), px E M9 → pw_X p l e R s m args below meth c Q G nL M9 (cells + mc) (slots + ms) pc lv E)
    (kk : ∀ (v : Option Value) (M9 : pw_M), post v M9 → pw_W p l e R s m args below meth c Q G nL M9 (cells + mc) (slots + ms) (pc + 3) lv (v.toList ++ st)) : pw_W p l e R s m args below meth c Q G nL M cells slots pc lv st0 := fun H locs ls h1 h2 h3 =>
  pw_gox h2 h3 (vx_runV (g := F0 m pc ls st0) (C := r.1) (b := b) (pw_fix X) hM ⟨pw_cb X hy hw.1 hR.1, X.2.2.2.2.1 _ hw.2.1, X.2.2.2.2.1 _ hw.2.2⟩ ⟨pw_blind, pw_recv X h1 hb hc, fun U hU hW => ⟨rfl, by rw [hU]; exact h1, pw_K.warm hW X.2.2.2.2.2.1⟩⟩ rfl hn h3.1 hst (by show 2 * 0 + _ ≤ 8; have := hR.2.1; omega) hd hR.2.2) kx kk
/-- a constructor -/
theorem pw_callI (X : pw_Cx p l s m args meth c G cc nL own) {b : Nat} (hM : pw_Met l y bytes maxL none d mc ms G (.ref b :: As) M post) (hy : pw_ok y bytes maxL none n) (hi : y.name = "<init>") (hw : Cond.methodLink own index y ∈ pw_T ∧ Cond.instanceMethod y ∈ pw_T) (hd : decode cc pc = .ok (.invokespecial index, 3)) (hn : As.length = n) (hR : pw_R9 R d mc ms maxL cells slots st) (hst : st0 = As.reverse ++ .ref b :: st)
    (kk : ∀ (v : Option Value) (M9 : pw_M), post v M9 → pw_W p l e R s m args below meth c Q G nL M9 (cells + mc) (slots + ms) (pc + 3) lv (v.toList ++ st)) : pw_W p l e R s m args below meth c Q G nL M cells slots pc lv st0 := fun H locs ls h1 h2 h3 =>
  pw_go h2 h3 (va_runI (g := F0 m pc ls st0) (b := b) (pw_fix X) hM ⟨pw_cb X hy hw.1 hR.1, hi, X.2.2.2.2.1 _ hw.2⟩ ⟨pw_blind, fun U hU hW => ⟨rfl, by rw [hU]; exact h1, pw_K.warm hW X.2.2.2.2.2.1⟩⟩ rfl hn h3.1 hst (by show 2 * 0 + _ ≤ 8; have := hR.2.1; omega) hd hR.2.2) kk
theorem pw_iret (X : pw_Cx p l s m args meth c G cc nL own) {v : Int32} (hd : decode cc pc = .ok (.ireturn, 1)) (hr : meth.sig.returnType = some .int) (hc : cells ≤ mc ∧ slots ≤ ms) (hp : post (some (.int v)) M) : pw_W p l e R s m args below meth c (MQ below (pw_po G post) args s mc ms (pw_A G)) G nL M cells slots pc lv [.int v] := fun H locs ls h1 h2 h3 => W.widen hc.1 hc.2 (W.iret X.1 X.2.1 hr (fun t ht _ => ⟨_, M, rfl, hp, by rw [ht]; exact h1⟩) h2 hd X.2.2.2.2.2.2.2.1)
theorem pw_iretx (X : pw_Cx p l s m args meth c G cc nL own) {v : Int32} (hd : decode cc pc = .ok (.ireturn, 1)) (hr : meth.sig.returnType = some .int) (hc : cells ≤ mc ∧ slots ≤ ms) (hp : post (some (.int v)) M) : pw_W p l e R s m args below meth c (vx_MQ below (pw_po G post) (pw_px G px) args s mc ms (pw_A G)) G nL M cells slots pc lv [.int v] := fun H locs ls h1 h2 h3 => vx_ret (W.widen hc.1 hc.2 (W.iret X.1 X.2.1 hr (fun t ht _ => ⟨_, M, rfl, hp, by rw [ht]; exact h1⟩) h2 hd X.2.2.2.2.2.2.2.1))
theorem pw_zret (X : pw_Cx p l s m args meth c G cc nL own) {v : Int32} (hd : decode cc pc = .ok (.ireturn, 1)) (hr : meth.sig.returnType = some .boolean) (hn : narrow .boolean (.int v) = .int v) (hc : cells ≤ mc ∧ slots ≤ ms) (hp : post (some (.int v)) M) : pw_W p l e R s m args below meth c (MQ below (pw_po G post) args s mc ms (pw_A G)) G nL M cells slots pc lv [.int v] := fun H locs ls h1 h2 h3 => W.widen hc.1 hc.2 (W.zret X.1 X.2.1 hr hn (fun t ht _ => ⟨_, M, rfl, hp, by rw [ht]; exact h1⟩) h2 hd X.2.2.2.2.2.2.2.1)
theorem pw_zretx (X : pw_Cx p l s m args meth c G cc nL own) {v : Int32} (hd : decode cc pc = .ok (.ireturn, 1)) (hr : meth.sig.returnType = some .boolean) (hn : narrow .boolean (.int v) = .int v) (hc : cells ≤ mc ∧ slots ≤ ms) (hp : post (some (.int v)) M) : pw_W p l e R s m args below meth c (vx_MQ below (pw_po G post) (pw_px G px) args s mc ms (pw_A G)) G nL M cells slots pc lv [.int v] := fun H locs ls h1 h2 h3 => vx_ret (W.widen hc.1 hc.2 (W.zret X.1 X.2.1 hr hn (fun t ht _ => ⟨_, M, rfl, hp, by rw [ht]; exact h1⟩) h2 hd X.2.2.2.2.2.2.2.1))
theorem pw_vret (X : pw_Cx p l s m args meth c G cc nL own)  (hd : decode cc pc = .ok (.return_, 1)) (hr : meth.sig.returnType = none) (hc : cells ≤ mc ∧ slots ≤ ms) (hp : post none M) : pw_W p l e R s m args below meth c (MQ below (pw_po G post) args s mc ms (pw_A G)) G nL M cells slots pc lv [] := fun H locs ls h1 h2 h3 => W.widen hc.1 hc.2 (W.vret X.1 X.2.1 hr (fun t ht _ => ⟨_, M, rfl, hp, by rw [ht]; exact h1⟩) h2 hd X.2.2.2.2.2.2.2.1)
theorem pw_vretx (X : pw_Cx p l s m args meth c G cc nL own)  (hd : decode cc pc = .ok (.return_, 1)) (hr : meth.sig.returnType = none) (hc : cells ≤ mc ∧ slots ≤ ms) (hp : post none M) : pw_W p l e R s m args below meth c (vx_MQ below (pw_po G post) (pw_px G px) args s mc ms (pw_A G)) G nL M cells slots pc lv [] := fun H locs ls h1 h2 h3 => vx_ret (W.widen hc.1 hc.2 (W.vret X.1 X.2.1 hr (fun t ht _ => ⟨_, M, rfl, hp, by rw [ht]; exact h1⟩) h2 hd X.2.2.2.2.2.2.2.1))
theorem pw_aret (X : pw_Cx p l s m args meth c G cc nL own) {v : Value} (hd : decode cc pc = .ok (.areturn, 1)) {C : String} (hr : meth.sig.returnType = some (.object C)) (hv : v = .null ∨ ∃ a, v = .ref a) (hc : cells ≤ mc ∧ slots ≤ ms) (hp : post (some v) M) : pw_W p l e R s m args below meth c (MQ below (pw_po G post) args s mc ms (pw_A G)) G nL M cells slots pc lv [v] := fun H locs ls h1 h2 h3 => W.widen hc.1 hc.2 (W.aret X.1 X.2.1 hr (Or.inl ⟨_, rfl⟩) hv (fun t ht _ => ⟨_, M, rfl, hp, by rw [ht]; exact h1⟩) h2 hd X.2.2.2.2.2.2.2.1)
theorem pw_aretx (X : pw_Cx p l s m args meth c G cc nL own) {v : Value} (hd : decode cc pc = .ok (.areturn, 1)) {C : String} (hr : meth.sig.returnType = some (.object C)) (hv : v = .null ∨ ∃ a, v = .ref a) (hc : cells ≤ mc ∧ slots ≤ ms) (hp : post (some v) M) : pw_W p l e R s m args below meth c (vx_MQ below (pw_po G post) (pw_px G px) args s mc ms (pw_A G)) G nL M cells slots pc lv [v] := fun H locs ls h1 h2 h3 => vx_ret (W.widen hc.1 hc.2 (W.aret X.1 X.2.1 hr (Or.inl ⟨_, rfl⟩) hv (fun t ht _ => ⟨_, M, rfl, hp, by rw [ht]; exact h1⟩) h2 hd X.2.2.2.2.2.2.2.1))
/-- an exception that goes on to the caller, out of a method without handlers -/
theorem pw_out (X : pw_Cx p l s m args meth c G cc nL own) {E : String} (hout : ∀ x ∈ c.exceptionTable.toList, False) (hc : cells ≤ mc ∧ slots ≤ ms) (hp : px E M) : pw_X p l e R s m args below meth c (vx_MQ below (pw_po G post) (pw_px G px) args s mc ms (pw_A G)) G nL M cells slots pc lv E := fun H locs ls q ce st h1 h2 h3 h4 h5 h6 =>
  vx_out (fun x hx => (hout x hx).elim) X.2.2.2.2.2.2.2.1 h4 h5 h6 (fun t ht _ => ⟨M, hp, by rw [ht]; exact h1⟩) h2 hc.1 hc.2
/-- caught by the row x of the table -/
theorem pw_catch (X : pw_Cx p l s m args meth c G cc nL own) {E name : String} (pre : List ExceptionTableEntry) (x : ExceptionTableEntry) (suf : List ExceptionTableEntry) (hsplit : c.exceptionTable.toList = pre ++ x :: suf)
    (hpass : ∀ z ∈ pre, covers z pc = false ∨ (z.catchType ≠ 0 ∧ ∃ nm : String, Cond.classLink own z.catchType nm ∈ pw_T ∧ (E, nm) ∈ pw_ncs)) (hx : covers x pc = true) (h0 : x.catchType ≠ 0) (hw : Cond.classLink own x.catchType E ∈ pw_T) (hE : E ∈ pw_ex)
    (kk : ∀ q : Nat, pw_W p l e R s m args below meth c Q G nL M cells slots x.handlerPc lv [.ref q]) : pw_X p l e R s m args below meth c Q G nL M cells slots pc lv E := fun H locs ls q ce st h1 h2 h3 h4 h5 h6 =>
  vx_catch X.2.2.2.1 pre x suf hsplit (fun z hz => (hpass z hz).elim Or.inl (fun h => Or.inr ⟨h.1, h.2.choose, X.2.2.2.2.1 _ h.2.choose_spec.1, X.2.2.2.2.2.1.2.2.2.2.2.2.1 _ h.2.choose_spec.2⟩)) hx h0 (X.2.2.2.2.1 _ hw) (va_Nw.use rfl (X.2.2.2.2.2.1.2.2.2.2.2.2.2.2.2.1 E hE)) h4 h5 h6 (kk q H locs ls h1 h2 h3)
/-- throw new E("text") -/
theorem pw_throw (X : pw_Cx p l s m args meth c G cc nL own) {E text : String} {names : List String} {ik is ic : Nat} (hout : ∀ x ∈ c.exceptionTable.toList, False)
    (d0 : decode cc pc = .ok (.new ik, 3)) (d3 : decode cc (pc + 3) = .ok (.dup, 1)) (d4 : decode cc (pc + 4) = .ok (.ldc is, 2)) (d6 : decode cc (pc + 6) = .ok (.invokespecial ic, 3)) (d9 : decode cc (pc + 9) = .ok (.athrow, 1))
    (ho : own = RX1) (hf : Bundle.fit E = true ∧ ∀ n ∈ names, Bundle.fit n = true) (hw : Cond.classLink own ik E ∈ pw_T ∧ Cond.initialized E ∈ pw_T) (hs : (is, text) ∈ pw_strs)
    (hat : (vx_atS own ic E names).all (fun w => decide (w ∈ pw_T) || pw_ex.any (fun x => decide (w = .castable x x)) || pw_dc.any (fun x => decide (w = .declares ⟨x, "<init>", "(Ljava/lang/String;)V"⟩))) = true)
    (hgood : (Cond.classLink own ik E :: Cond.initialized E :: vx_atS own ic E names).all vx_ot = true)
    (hR : names.length + 3 < R.frames ∧ (st.map fun v => v.category).sum + (13 * (names.length + 1) + 43) ≤ R.locals ∧ cells + 1 ≤ R.cells ∧ slots + 6 ≤ R.slots) (hc : cells + 1 ≤ mc ∧ slots + 6 ≤ ms) (hp : px E M) : pw_W p l e R s m args below meth c (vx_MQ below (pw_po G post) (pw_px G px) args s mc ms (pw_A G)) G nL M cells slots pc lv st := by
  intro H locs ls h1 h2 h3
  have hK := X.2.2.2.2.2.1
  have hts := X.2.2.2.2.1
  obtain ⟨sa, hsa⟩ := hK.2.2.2.2.2.1 _ hs
  have hk : ∀ q : Nat, q < G.2.1.size → ¬ pw_A G q → s.heap[q]? = G.2.1[q]? := fun q hq _ => X.2.2.2.2.2.2.2.2.2 q hq
  have hU : vx_Zq Bundle.tN "UNASSIGNED_STACK" Bundle.steD (pw_A G) s s.heap := hK.2.2.2.1.kept hk
  have hN : vx_Zq Bundle.tN "SUPPRESSED_SENTINEL" Bundle.listD (pw_A G) s s.heap := hK.2.2.2.2.1.kept hk
  intro T hT X9
  have hz : s.heap.size ≤ H.size := by
    have h9 := (vx_frame X9.same).1
    rw [← hT]; exact h9
  have hS : va_S (pw_A G) s.heap H locs := ⟨hz, fun q _ hA => by
    have hq : q < G.2.1.size := Nat.not_le.mp hA
    rw [h1.2.1 q hq, X.2.2.2.2.2.2.2.2.2 q hq], h2⟩
  have hat9 : ∀ w ∈ vx_atS own ic E names, w.before args s = true := by
    intro w hw9
    have h9 := List.all_eq_true.mp hat w hw9
    simp only [Bool.or_eq_true, decide_eq_true_eq, List.any_eq_true] at h9
    rcases h9 with (h9 | ⟨x, hx, h9⟩) | ⟨x, hx, h9⟩
    · exact hts w h9
    · rw [h9]; exact va_Nw.use rfl (hK.2.2.2.2.2.2.2.2.2.1 x hx)
    · rw [h9]; exact va_Nw.use rfl (hK.2.2.2.2.2.2.2.2.2.2 x hx)
  subst ho
  exact vx_throwS X.1 X.2.1 X.2.2.2.2.2.2.1 X.2.2.2.1 hf.1 hf.2 (hts _ hw.1) (hts _ hw.2) hsa hat9 (fun w hw9 => List.all_eq_true.mp hgood w hw9) hU hN hS (h3.1.trans X.2.2.1.symm) d0 d3 d4 d6 d9 (fun x hx => (hout x hx).elim) hR.1 hR.2.1 hR.2.2.1 hR.2.2.2 X.2.2.2.2.2.2.2.1 (fun t _ hz9 ho9 => ⟨M, hp, h1.more hz9 ho9⟩) h2 hc.1 hc.2 T hT X9
end PWC
section PWB
variable {l : Launch} {G : pw_G} {y : MethodName} {cc : ByteArray} {n d mc ms : Nat} {ret : Option FieldType} {as : List Value} {M : pw_M} {post : Option Value → pw_M → Prop} {px : String → pw_M → Prop}
/-- the body of a method that returns -/
theorem pw_of (hl : l.stackTraces = false) (hy : plainName y.cls = true) (hin : (lg_sl as).length ≤ n) (lv : List (Nat × Value)) (hlv : lv_args 0 as = lv)
    (body : ∀ (p : Program) (e : Env) (s : State) (m : MethodId) (args : Array Value) (below : List Frame) (meth : Method) (c : Code), pw_Cx p l s m args meth c G cc n y.cls → meth.sig.returnType = ret → meth.name = y.name → pw_W p l e (pw_rm d mc ms) s m args below meth c (MQ below (pw_po G post) args s mc ms (pw_A G)) G n M 0 0 0 lv []) : pw_Met l y cc n ret d mc ms G as M post := by
  refine Met.ofW (cc := cc) (maxL := n) (ret := ret) hy rfl ?_
  intro p e s m args below meth c s₁ B hml hv
  obtain ⟨rfl, hP, hK⟩ := hv
  have hts := atoms_spec (ws := pw_wd y cc n ret) B.pre
  have hnm := name_of_methodNamed B.named B.method
  have hX : pw_Cx p l s m as.toArray meth c G cc n y.cls := ⟨B.exec, B.bytes, hml, findClass_of_methodNamed B.named, fun w hw => hts w (List.mem_cons_of_mem _ hw), hK, hl, B.notSynchronized, hP.1, hP.2.1⟩
  have hlv9 := lv_entry as (n := n) hin
  rw [lg_entry_eq]
  rw [hlv] at hlv9
  exact body p e s m as.toArray below meth c hX B.returns hnm.1 s.heap [] _ hP (fun _ h => by cases h) hlv9
/-- the body of a method that returns or throws -/
theorem pw_ofx (hl : l.stackTraces = false) (hy : plainName y.cls = true) (hin : (lg_sl as).length ≤ n) (lv : List (Nat × Value)) (hlv : lv_args 0 as = lv)
    (body : ∀ (p : Program) (e : Env) (s : State) (m : MethodId) (args : Array Value) (below : List Frame) (meth : Method) (c : Code), pw_Cx p l s m args meth c G cc n y.cls → meth.sig.returnType = ret → (∀ x ∈ c.exceptionTable.toList, False) → pw_W p l e (pw_rm d mc ms) s m args below meth c (vx_MQ below (pw_po G post) (pw_px G px) args s mc ms (pw_A G)) G n M 0 0 0 lv []) : pw_XMet l y cc n ret d mc ms G as M post px := by
  refine vx_ofW (cc := cc) (maxL := n) (ret := ret) hy rfl ?_
  intro p e s m args below meth c s₁ B hml hex hv
  obtain ⟨rfl, hP, hK⟩ := hv
  have hts := atoms_spec (ws := pw_wd y cc n ret) B.pre
  have hX : pw_Cx p l s m as.toArray meth c G cc n y.cls := ⟨B.exec, B.bytes, hml, findClass_of_methodNamed B.named, fun w hw => hts w (List.mem_cons_of_mem _ hw), hK, hl, B.notSynchronized, hP.1, hP.2.1⟩
  have hlv9 := lv_entry as (n := n) hin
  rw [lg_entry_eq]
  rw [hlv] at hlv9
  exact body p e s m as.toArray below meth c hX B.returns hex s.heap [] _ hP (fun _ h => by cases h) hlv9
/-- the body of a method with handlers -/
theorem pw_ofh {hh : List (Nat × Nat × Nat × Nat)} (hl : l.stackTraces = false) (hy : plainName y.cls = true) (hin : (lg_sl as).length ≤ n) (lv : List (Nat × Value)) (hlv : lv_args 0 as = lv)
    (body : ∀ (p : Program) (e : Env) (s : State) (m : MethodId) (args : Array Value) (below : List Frame) (meth : Method) (c : Code), pw_Cx p l s m args meth c G cc n y.cls → meth.sig.returnType = ret → c.exceptionTable.toList = tableOf hh → pw_W p l e (pw_rm d mc ms) s m args below meth c (vx_MQ below (pw_po G post) (pw_px G (fun _ _ => False)) args s mc ms (pw_A G)) G n M 0 0 0 lv []) : pw_HMet l y cc n ret hh d mc ms G as M post := by
  refine vx_ofWH (cc := cc) (maxL := n) (ret := ret) hy rfl ?_
  intro p e s m args below meth c s₁ B hml hv
  obtain ⟨rfl, hP, hK⟩ := hv
  have hts := atoms_spec (ws := pw_wh y cc n ret hh) B.pre
  have hX : pw_Cx p l s m as.toArray meth c G cc n y.cls := ⟨B.exec, B.bytes, hml, findClass_of_methodNamed B.named, fun w hw => hts w (List.mem_cons_of_mem _ hw), hK, hl, B.notSynchronized, hP.1, hP.2.1⟩
  have hlv9 := lv_entry as (n := n) hin
  rw [lg_entry_eq]
  rw [hlv] at hlv9
  exact body p e s m as.toArray below meth c hX B.returns (vx_table (x := y) B (hts _ List.mem_cons_self)) s.heap [] _ hP (fun _ h => by cases h) hlv9
end PWB
end
section
/-! ===== throw new E("text"), where E's constructor calls its superclass's by another pool number ===== -/
def nx_own (own : String) (ic : Nat) (X Y : String) (r : List String) (idx : Nat) (bytes : ByteArray) : List Cond :=
  Bundle.throwableAtoms ++ Bundle.throwableSAtoms ++ Bundle.passSAtoms X Y idx bytes ++ Bundle.chainSAtoms Y r ++
  [.methodLink own ic (Bundle.initS X), .instantiable X 6, .castable X X, .selects X Bundle.tFill0 Bundle.tFill0, .selects X Bundle.tFill Bundle.tFill,
   .lays X Bundle.tN "cause" "Ljava/lang/Throwable;", .lays X Bundle.tN "stackTrace" Bundle.steD, .lays X Bundle.tN "suppressedExceptions" Bundle.listD, .lays X Bundle.tN "detailMessage" "Ljava/lang/String;",
   .isRef (.static Bundle.tN "UNASSIGNED_STACK" Bundle.steD), .isRef (.static Bundle.tN "SUPPRESSED_SENTINEL" Bundle.listD),
   .fieldLink Bundle.tN 198 Bundle.tN "backtrace" "Ljava/lang/Object;", .lays Bundle.tN Bundle.tN "backtrace" "Ljava/lang/Object;", .lays X Bundle.tN "backtrace" "Ljava/lang/Object;"]
set_option maxHeartbeats 1000000 in
theorem nx_ctor {p : Program} {l : Launch} {e : Env} {R : Room} {s : State} {m₀ : MethodId} {args : Array Value} {below : List Frame} {meth : Method} {c : Code} {W : State} {locs : List Loc} {cells slots : Nat}
    (X : Stand p l e R s m₀ args below meth c W locs cells slots) (hexec : p.tables.exec = Jvm.exec) (htr : e.platform.stackTraces = false) {own cls up9 : String} {r : List String} {ic idx : Nat} {bytes : ByteArray}
    (b0 : decode bytes 0 = .ok (.aload_n 0, 1)) (b1 : decode bytes 1 = .ok (.aload_n 1, 1)) (b2 : decode bytes 2 = .ok (.invokespecial idx, 3)) (b5 : decode bytes 5 = .ok (.return_, 1))
    (hown : s.vm.findClass own = some m₀.cls) (hcls : Bundle.fit cls = true) (hY : Bundle.fit up9 = true) (hr : ∀ n ∈ r, Bundle.fit n = true)
    (h : ∀ a ∈ nx_own own ic cls up9 r idx bytes, a.before args s = true)
    (hlocs : ∀ x ∈ locs, ∀ cell, s.heap[x.base]? = some cell → cell.vm.isStatics = false)
    {a : Addr} {cX : ClassId} {kX : Class} (hfoundX : s.vm.findClass cls = some cX) (hkX : s.vm.classes[cX]? = some kX) (hcell : W.heap[a]? = some (freshCell cX kX)) (hnew : s.heap.size ≤ a)
    {msg : Value} (hmsg : msg.isRef = true)
    {g : JFrame} (hg : g.method = m₀) (hsize : g.locals.size = c.maxLocals) (hlocked : g.locked = none) (hentered : g.entered = []) {rest : List Value} (hstack : g.stack = msg :: .ref a :: .ref a :: rest)
    (hd6 : decode c.code g.pc = .ok (.invokespecial ic, 3)) (hd9 : decode c.code (g.pc + 3) = .ok (.athrow, 1)) (hout : ∀ x ∈ c.exceptionTable.toList, covers x (g.pc + 3) = false)
    (hRframes : r.length + 1 + 3 < R.frames) (hRlocals : 2 * g.monitorRoom + ((Value.ref a :: rest).map fun v => v.category).sum + (13 * (r.length + 1 + 1) + 42) ≤ R.locals) (hlocks : meth.locks = false) :
    ∃ U : State, Steps p.tables e below (W.setTop g) U ∧ U.status = .running ∧ Ended U below (.threw a) ∧ s.WarmedH U.vm ∧ s.sameButNew ({ U with vm := s.vm } : State) locs cells slots ∧
      ∃ ce, U.heap[a]? = some ce ∧ s.vm.findClass cls = some ce.cls ∧ ce.vm = .none := by
  have howns : e.platform.frameOwnsMonitors = true := by rw [X.admits.platform]
  have hfin : e.platform.finalization = false := by rw [X.admits.platform]
  have hpl : e.platform.magicAccessors = ({} : Platform).magicAccessors := by rw [X.admits.platform]
  have a' : ∀ x, x ∈ nx_own own ic cls up9 r idx bytes → x.holds args s none s [] = true := fun x hx => h x hx
  obtain ⟨T, Z0, L, -, Y⟩ := ThrowableC.of_atoms (args := args) howns hfin hpl (fun x hx => h x (by simp [nx_own, hx]))
  obtain ⟨Z, M, LZ, LM, hnZ⟩ := Init0T.ofS_atoms (args := args) hpl L Y (fun x hx => h x (by simp [nx_own, hx]))
  obtain ⟨P1, L1, hP1m, hs1⟩ := PassC.ofS_atoms (args := args) (s := s) hpl (X := cls) (Y := up9) (Bundle.fit_spec hcls).1 (Bundle.fit_spec hY).2 b0 b1 b2 b5 (fun x hx => h x (by simp [nx_own, hx]))
  obtain ⟨P2, Ps2, hlen2, L2, hL2, hm2, hsup2, hpass2⟩ := Bundle.chainS (args := args) hpl hnZ r up9 hY hr (fun x hx => h x (by simp [nx_own, hx]))
  obtain ⟨Ps, hPs⟩ : ∃ z, z = P2 :: Ps2 := ⟨_, rfl⟩
  have hlen : Ps.length = r.length + 1 := by rw [hPs]; simp [hlen2]
  have hL : ∀ P, P ∈ Ps → P.LinksS e.platform s := by
    intro P hP
    rw [hPs] at hP
    rcases List.mem_cons.mp hP with rfl | hP
    · exact L2
    · exact hL2 P hP
  have hlink1 : P1.sup = firstOf (Z.m T.toThrowableT) (Ps.map (·.toPassT)) := by
    rw [hPs]
    exact Option.some.inj (hs1.symm.trans hm2)
  have hlink : PassesOn (Z.m T.toThrowableT) (Ps.map (·.toPassT)) := by
    rw [hPs]
    exact ⟨hsup2, hpass2⟩
  have hfound : s.vm.findClass cls = some P1.m.cls := findClass_of_methodNamed hP1m
  cases Option.some.inj (hfoundX.symm.trans hfound)
  obtain ⟨c1, kX', hc1, hk, hord, -, -, hn6⟩ := Cond.instantiable_spec (a' (.instantiable cls 6) (by simp [nx_own]))
  cases Option.some.inj (hc1.symm.trans hfound)
  cases Option.some.inj (hkX.symm.trans hk)
  have hsel0 : selectMethod e.platform s.vm P1.m.cls T.fill0 = .method T.fill0 := by
    obtain ⟨c2, r2, m2, q1, q2, q3, q4, -⟩ := Cond.selects_spec (a' (.selects cls Bundle.tFill0 Bundle.tFill0) (by simp [nx_own]))
    cases Option.some.inj (q1.symm.trans hfound)
    cases Option.some.inj (q2.symm.trans (State.methodFound?_of_named Y.fill0 (by decide)))
    cases Option.some.inj (q3.symm.trans Y.fill0)
    rw [Launch.admits_selectMethod X.admits]; exact q4
  have hselF : selectMethod e.platform s.vm P1.m.cls T.fill = .method T.fill := by
    obtain ⟨c2, r2, m2, q1, q2, q3, q4, -⟩ := Cond.selects_spec (a' (.selects cls Bundle.tFill Bundle.tFill) (by simp [nx_own]))
    cases Option.some.inj (q1.symm.trans hfound)
    cases Option.some.inj (q2.symm.trans (State.methodFound?_of_named Y.fill (by decide)))
    cases Option.some.inj (q3.symm.trans Y.fill)
    rw [Launch.admits_selectMethod X.admits]; exact q4
  obtain ⟨cellS0, hcS0, hiss⟩ := Y.statics
  obtain ⟨u0, hu0⟩ := Cond.staticRefV Y.unassigned L.unassignedStatic L.statics hcS0 hiss (a' (.isRef (.static Bundle.tN "UNASSIGNED_STACK" Bundle.steD)) (by simp [nx_own]))
  obtain ⟨sen, hsen⟩ := Cond.staticRefV Y.sentinel L.sentinelStatic L.statics hcS0 hiss (a' (.isRef (.static Bundle.tN "SUPPRESSED_SENTINEL" Bundle.listD)) (by simp [nx_own]))
  obtain ⟨ci198, i198, fB, hk198, hg198, ha198, hsB, -, hnB, htB, hffB⟩ := Cond.ownField (t := .object "java/lang/Object") Y.found L.cls (by decide +kernel) (a' (.fieldLink Bundle.tN 198 Bundle.tN "backtrace" "Ljava/lang/Object;") (by simp [nx_own])) (a' (.lays Bundle.tN Bundle.tN "backtrace" "Ljava/lang/Object;") (by simp [nx_own])) e.platform hpl
  obtain ⟨cellS, hcS', heS, -, hkeep⟩ := X.same.2.2.2.2.2 T.aS cellS0 hcS0
  have hcellS : W.heap[T.aS]? = some cellS := hcS'
  have hout' : ∀ i, (⟨T.aS, i⟩ : Loc) ∉ locs := fun i hmem => by
    have := hlocs _ hmem cellS0 hcS0
    rw [hiss] at this; cases this
  have hknownS : cellS.vm ≠ .unknown := by
    rw [heS]; intro hu
    rw [show cellS0.vm = .unknown from hu] at hiss
    cases hiss
  have hneS : T.aS ≠ a := Nat.ne_of_lt (Nat.lt_of_lt_of_le (Array.getElem?_eq_some_iff.mp hcS0).1 hnew)
  obtain ⟨iM, hffM⟩ := Y.msg
  obtain ⟨tyC, dC, hdC, hdnC⟩ := Cond.laysAt hfound hk Y.cause (a' (.lays cls Bundle.tN "cause" "Ljava/lang/Throwable;") (by simp [nx_own]))
  obtain ⟨tyS, dS, hdS, hdnS⟩ := Cond.laysAt hfound hk Y.stack (a' (.lays cls Bundle.tN "stackTrace" Bundle.steD) (by simp [nx_own]))
  obtain ⟨tyP, dP, hdP, hdnP⟩ := Cond.laysAt hfound hk Y.supp (a' (.lays cls Bundle.tN "suppressedExceptions" Bundle.listD) (by simp [nx_own]))
  obtain ⟨tyM, dM, hdM, hdnM⟩ := Cond.laysAt hfound hk hffM (a' (.lays cls Bundle.tN "detailMessage" "Ljava/lang/String;") (by simp [nx_own]))
  obtain ⟨tyB, dB, hdB, hdnB⟩ := Cond.laysAt hfound hk hffB (a' (.lays cls Bundle.tN "backtrace" "Ljava/lang/Object;") (by simp [nx_own]))
  have bC := Cond.laysApart hdB hdC hdnB hdnC (by rw [hnB, Y.causeName]; decide)
  have bS := Cond.laysApart hdB hdS hdnB hdnS (by rw [hnB, Y.stackName]; decide)
  have bP := Cond.laysApart hdB hdP hdnB hdnP (by rw [hnB, Y.suppName]; decide)
  have hskip : SkipFacts T e.platform s (fun u => u) u0 ((preparedCellV T.toThrowableT (freshCell P1.m.cls kX) a u0 sen).withEntry W.cur) :=
    ⟨{ ci198 := ci198, i198 := i198, fBack := fB }, ⟨hk198, hg198, ha198, hsB⟩, by
      have := fresh_default (c := P1.m.cls) tyB
      rw [htB] at this
      simpa [preparedCellV, Cell.setSlot, Cell.withEntry, Array.getElem?_setIfInBounds, bC, bS, bP, bC.symm, bS.symm, bP.symm, defaultValue] using this, fun _ _ => rfl⟩
  obtain ⟨tm, methC, cdC, kC, vm₁, hnC, -, -, -, -, -, -, -, hW₁, st1⟩ := Steps.initColdS (tb := p.tables) (e := e) (below := below) (s := s) (U := W) X.here hexec X.warmed hpl hown (t := Bundle.initS cls) rfl rfl (Bundle.fit_spec hcls).2
    (a' (.methodLink own ic (Bundle.initS cls)) (by simp [nx_own])) (h (.instanceMethod (Bundle.initS cls)) (by simp [nx_own, Bundle.passSAtoms])) (bytes := bytes) (maxL := 2) (h (.code (Bundle.initS cls) bytes 2 none) (by simp [nx_own, Bundle.passSAtoms]))
    (f := g) hg (a := a) (msg := msg) (rest := .ref a :: rest) hstack hd6
  cases Option.some.inj (hnC.symm.trans hP1m)
  have X₁ := X.noted hW₁
  obtain ⟨vm₂, X₂, st2⟩ := X₁.ctorMessageOffV hexec (g := { g with stack := .ref a :: rest }) hg hsize T L Z LZ M LM (P1 :: Ps)
    (fun P hP => by rcases List.mem_cons.mp hP with rfl | hP; exact L1; exact hL P hP) ⟨hlink1, hlink⟩ (u0 := u0) (sen := sen) (self := a) hmsg (cell := freshCell P1.m.cls kX) (cellS := cellS)
    hcell (fun _ => by simp) (by simp) rfl rfl hsel0 hselF hcellS hneS hknownS (by rw [hkeep _ (hout' _)]; exact hu0) (by rw [hkeep _ (hout' _)]; exact hsen)
    (Takes.of_laid hk hord tyC (by rw [Y.causeType]; rfl)) (Takes.of_laid hk hord tyS (by rw [Y.stackType]; exact fits_refV_array _ u0)) (Takes.of_laid hk hord tyP (by rw [Y.suppType]; exact fits_refV_object _ sen))
    (Takes.of_laid hk hord tyM (by rw [Y.msgType]; exact fits_refV_object _ ⟨msg, hmsg⟩)) Y.objLocals hskip htr [] hd6
    (by simp only [List.length_cons, hlen]; omega) (by simp only [List.length_cons, hlen]; exact hRlocals)
  obtain ⟨hwalk, hrun, hended, hWU, hsame⟩ := X₂.athrowLeaves hexec (g := { g with stack := .ref a :: rest, pc := g.pc + 3 }) hg hlocked hentered hout (a := a) (rest := rest) rfl hd9
  obtain ⟨c3, c4, hc3, hc4, hasg⟩ := Cond.castable_spec (a' (.castable cls cls) (by simp [nx_own]))
  cases Option.some.inj (hc3.symm.trans hfound)
  cases Option.some.inj (hc4.symm.trans hfound)
  have hlt : a < ((W.setVm vm₁).setVm vm₂).heap.size := (Array.getElem?_eq_some_iff.mp hcell).1
  have hU := heapAt_setCell_self (s := (W.setVm vm₁).setVm vm₂) (plainBareV T.toThrowableT (freshCell P1.m.cls kX) a u0 sen msg) hlt
  have hnM : T.fMsg.name = "detailMessage" := (State.fieldFound?_type hffM (t := .object "java/lang/String") (by decide +kernel)).1
  refine ⟨_, st1 _ (fun acts => ?_), hrun, hended, hWU, hsame.weaken (fun y hy hlt' => ?_) (Nat.le_refl _) (Nat.le_refl _), _, hU, hfound, rfl⟩
  · rw [doInvoke_state]
    exact st2 _ hwalk
  · rcases List.mem_append.mp hy with h1 | h1
    · exact h1
    · exfalso
      have hb : y.base = a := by
        simp only [List.mem_cons, List.not_mem_nil, or_false] at h1
        rcases h1 with rfl | rfl | rfl | rfl | rfl <;> rfl
      rw [hb] at hlt'
      exact Nat.not_lt.mpr hnew hlt'
def nx_atS (own : String) (ic : Nat) (X Y : String) (r : List String) (idx : Nat) (bytes : ByteArray) : List Cond := (nx_own own ic X Y r idx bytes).filter vx_no
section NXE
variable {p : Program} {l : Launch} {e : Env} {R : Room} {s : State} {m : MethodId} {args : Array Value} {below : List Frame} {meth : Method} {c : Code} {H : Heap} {locs : List Loc} {cells slots : Nat} {Q : State → Prop}
variable {mc ms : Nat} {free : Addr → Prop} {A0 A1 : Nat → Prop} {H0 : Heap} {a : Array Value} {ls : Array Slot} {st0 rest : List Value}
variable {Qc : Array Value → State → Outcome → State → Prop} {XC : String → State → State → Prop}
theorem nx_throwS {cc : ByteArray} {pc : Nat} (hexec : p.tables.exec = Jvm.exec) (hb : c.code = cc) (hl : l.stackTraces = false) {own cls text : String} {up9 : String} {r : List String} {bytes : ByteArray} {idx ik is ic mc ms sa : Nat} {A : Nat → Prop}
    (hown : s.vm.findClass own = some m.cls) (hcls : Bundle.fit cls = true) (hY : Bundle.fit up9 = true) (hr : ∀ n ∈ r, Bundle.fit n = true) (b0 : decode bytes 0 = .ok (.aload_n 0, 1)) (b1 : decode bytes 1 = .ok (.aload_n 1, 1)) (b2 : decode bytes 2 = .ok (.invokespecial idx, 3)) (b5 : decode bytes 5 = .ok (.return_, 1))
    (hk : (Cond.classLink own ik cls).before args s = true) (hini : (Cond.initialized cls).before args s = true) (hstr : vk_R own is text sa s) (hat : ∀ w ∈ nx_atS own ic cls up9 r idx bytes, w.before args s = true)
    (hgood : ∀ w ∈ Cond.classLink own ik cls :: Cond.initialized cls :: nx_atS own ic cls up9 r idx bytes, vx_ot w = true)
    (hU : vx_Zq Bundle.tN "UNASSIGNED_STACK" Bundle.steD A s s.heap) (hN : vx_Zq Bundle.tN "SUPPRESSED_SENTINEL" Bundle.listD A s s.heap) (hS : va_S A s.heap H locs) (hsize : ls.size = c.maxLocals)
    (d0 : decode cc pc = .ok (.new ik, 3)) (d3 : decode cc (pc + 3) = .ok (.dup, 1)) (d4 : decode cc (pc + 4) = .ok (.ldc is, 2)) (d6 : decode cc (pc + 6) = .ok (.invokespecial ic, 3)) (d9 : decode cc (pc + 9) = .ok (.athrow, 1))
    (hout : ∀ x ∈ c.exceptionTable.toList, covers x (pc + 9) = false)
    (hRframes : (r.length + 1) + 3 < R.frames) (hRlocals : (rest.map fun v => v.category).sum + (13 * ((r.length + 1) + 1) + 43) ≤ R.locals) (hRcells : cells + 1 ≤ R.cells) (hRslots : slots + 6 ≤ R.slots) (hlocks : meth.locks = false)
    (hx : ∀ t : State, s.vm.Alike t.vm → H.size ≤ t.heap.size → (∀ q : Nat, q < H.size → t.heap[q]? = H[q]?) → XC cls s t)
    (hf : ∀ z ∈ locs, free z.base) (hc : cells + 1 ≤ mc) (hs : slots + 6 ≤ ms) :
    W p l e R s m args below meth c H locs cells slots (vx_MQ below Qc XC args s mc ms free) (F0 m pc ls rest) := by
  intro T hT X
  have htr : e.platform.stackTraces = false := (show e.platform.stackTraces = l.stackTraces by rw [X.admits.platform]).trans hl
  have Y := vx_rebase X (R' := { frames := R.frames, locals := R.locals, cells := 1, slots := 6 }) (Nat.le_refl _) (Nat.le_refl _) hRcells hRslots
  obtain ⟨s', hA⟩ : ∃ z, z = (T.setVm s.vm).setFrames (.invoking m args :: below) := ⟨_, rfl⟩
  rw [← hA] at Y
  have hvm : s'.vm = s.vm := by rw [hA]; rfl
  have hhp : s'.heap = H := by rw [hA]; exact hT
  have hW0 : s.WarmedH s'.vm := by rw [hvm]; exact State.WarmedH.refl s
  have hat' : ∀ w ∈ nx_atS own ic cls up9 r idx bytes, w.before args s' = true := fun w hw => vx_ot_at hW0 hvm.symm (hgood w (List.mem_cons_of_mem _ (List.mem_cons_of_mem _ hw))) (hat w hw)
  have hk' : (Cond.classLink own ik cls).before args s' = true := vx_ot_at hW0 hvm.symm (hgood _ List.mem_cons_self) hk
  have hini' : (Cond.initialized cls).before args s' = true := vx_ot_at hW0 hvm.symm (hgood _ (List.mem_cons_of_mem _ List.mem_cons_self)) hini
  have hU' : vx_Zq Bundle.tN "UNASSIGNED_STACK" Bundle.steD A s' s'.heap := by rw [hhp]; exact vx_Zq.moved hW0.alike (hU.kept hS.2.1)
  have hN' : vx_Zq Bundle.tN "SUPPRESSED_SENTINEL" Bundle.listD A s' s'.heap := by rw [hhp]; exact vx_Zq.moved hW0.alike (hN.kept hS.2.1)
  have h : ∀ w ∈ nx_own own ic cls up9 r idx bytes, w.before args s' = true := vx_own hat' (vx_isRefq hU'.1) (vx_isRefq hN'.1) hU'.2.word hN'.2.word
  have hown' : s'.vm.findClass own = some m.cls := by rw [hvm]; exact hown
  have hins : (Cond.instantiable cls 6).before args s' = true := h _ (by simp [nx_own])
  obtain ⟨vm₁, cX, kX, hfX, hkX, -, -, X₁, st1⟩ := Y.newCold hexec (own := own) (C := cls) (index := ik) (n := 6) hown' hk' hins hini'
    (g := F0 m pc ls rest) rfl (by rw [hb]; exact d0) (Nat.le_refl _) (Nat.le_refl _)
  generalize hT1 : (T.setVm vm₁).pushCell { cls := cX, slots := kX.instanceTypes.map defaultValue, vm := .none } = T1 at X₁ st1
  have hcat : (Value.ref T.heap.size).category = 1 := rfl
  have hcellA : T1.heap[T.heap.size]? = some (freshCell cX kX) := by rw [← hT1]; exact State.heap_pushCell_size _ _
  have d3' : decode c.code (pc + 3) = .ok (.dup, 1) := by rw [hb]; exact d3
  have d4' : decode c.code (pc + 4) = .ok (.ldc is, 2) := by rw [hb]; exact d4
  have hstr' : vk_R own is text sa s' := vk_R.warm hW0 hstr
  obtain ⟨U, hsteps, hrun, hend, hW, hsame, ce, hce, hO1, hO2⟩ := nx_ctor X₁ hexec htr (own := own) (cls := cls) (up9 := up9) (r := r) (ic := ic) b0 b1 b2 b5 hown' hcls hY hr h (fun x hx => nomatch hx) hfX hkX hcellA (by rw [hhp, hT]; exact Nat.le_refl _) (msg := .ref sa) rfl
    (g := { method := m, pc := pc + 6, locals := ls, stack := .ref sa :: .ref T.heap.size :: .ref T.heap.size :: rest, locked := none }) rfl hsize rfl rfl (rest := rest) rfl
    (by rw [hb]; exact d6) (by rw [hb]; exact d9) hout hRframes (by simp only [List.map_cons, List.sum_cons, hcat]; omega) hlocks
  obtain ⟨f1, f2⟩ := vx_frame hsame
  rw [hhp] at f1 f2
  have hWs : s.WarmedH U.vm := State.WarmedH.trans hW0 hW
  have hcl : s.vm.findClass cls = some ce.cls := by
    have h9 := hO1
    rw [hvm] at h9
    exact h9
  have hall : s.sameButNew ({ U with vm := s.vm } : State) locs mc ms := by
    subst hA
    obtain ⟨e1, e2⟩ := hsame
    rw [State.setFrames_setFrames] at e1
    have h2 : (T.setVm s.vm).sameButNew ({ U with vm := s.vm } : State) [] (0 + 1) (0 + 6) := ⟨e1, e2⟩
    have h3 := X.same.trans h2
    rw [List.append_nil] at h3
    exact h3.mono hc hs
  refine ⟨U, ?_, .threw T.heap.size, hrun, hend, Or.inr ⟨T.heap.size, rfl, cls, ce, locs, hx U hWs.alike f1 (fun q hq => f2 q hq (fun z hz => nomatch hz)), hce, hO2, hcl, hWs, hall, hf⟩⟩
  refine st1 _ ?_
  show Steps p.tables e below (T1.setTop { method := m, pc := pc + 3, locals := ls, stack := .ref T.heap.size :: rest, locked := none }) _
  jvm_step X₁.here [X₁.here.top, hexec, d3', Value.category]
  exact X₁.ldcString hexec (own := own) (text := text) (index := is) (a := sa) hown' hstr'.1 hstr'.2
    (g := { method := m, pc := pc + 4, locals := ls, stack := .ref T.heap.size :: .ref T.heap.size :: rest, locked := none }) rfl d4' _ hsteps
end NXE
section NXP
variable {p : Program} {l : Launch} {e : Env} {R : Room} {s : State} {m : MethodId} {args : Array Value} {below : List Frame} {meth : Method} {c : Code} {Q : State → Prop} {G : pw_G} {cc : ByteArray} {nL : Nat} {own : String} {M : pw_M} {cells slots pc : Nat} {lv lv' : List (Nat × Value)} {st : List Value}
variable {y : MethodName} {bytes : ByteArray} {maxL d mc ms n index : Nat} {ret : Option FieldType} {post : Option Value → pw_M → Prop} {px : String → pw_M → Prop} {As : List Value} {H : Heap} {locs : List Loc} {ls : Array Slot} {a : Array Value} {st0 : List Value}
theorem pw_throwN (X : pw_Cx p l s m args meth c G cc nL own) {E text : String} {up9 : String} {r : List String} {bytes : ByteArray} {idx : Nat} {ik is ic : Nat} (hout : ∀ x ∈ c.exceptionTable.toList, False)
    (d0 : decode cc pc = .ok (.new ik, 3)) (d3 : decode cc (pc + 3) = .ok (.dup, 1)) (d4 : decode cc (pc + 4) = .ok (.ldc is, 2)) (d6 : decode cc (pc + 6) = .ok (.invokespecial ic, 3)) (d9 : decode cc (pc + 9) = .ok (.athrow, 1))
    (ho : own = RX1) (hf : Bundle.fit E = true ∧ Bundle.fit up9 = true ∧ ∀ n ∈ r, Bundle.fit n = true) (hb : decode bytes 0 = .ok (.aload_n 0, 1) ∧ decode bytes 1 = .ok (.aload_n 1, 1) ∧ decode bytes 2 = .ok (.invokespecial idx, 3) ∧ decode bytes 5 = .ok (.return_, 1)) (hw : Cond.classLink own ik E ∈ pw_T ∧ Cond.initialized E ∈ pw_T) (hs : (is, text) ∈ pw_strs)
    (hat : (nx_atS own ic E up9 r idx bytes).all (fun w => decide (w ∈ pw_T) || pw_ex.any (fun x => decide (w = .castable x x)) || pw_dc.any (fun x => decide (w = .declares ⟨x, "<init>", "(Ljava/lang/String;)V"⟩))) = true)
    (hgood : (Cond.classLink own ik E :: Cond.initialized E :: nx_atS own ic E up9 r idx bytes).all vx_ot = true)
    (hR : (r.length + 1) + 3 < R.frames ∧ (st.map fun v => v.category).sum + (13 * ((r.length + 1) + 1) + 43) ≤ R.locals ∧ cells + 1 ≤ R.cells ∧ slots + 6 ≤ R.slots) (hc : cells + 1 ≤ mc ∧ slots + 6 ≤ ms) (hp : px E M) : pw_W p l e R s m args below meth c (vx_MQ below (pw_po G post) (pw_px G px) args s mc ms (pw_A G)) G nL M cells slots pc lv st := by
  intro H locs ls h1 h2 h3
  have hK := X.2.2.2.2.2.1
  have hts := X.2.2.2.2.1
  obtain ⟨sa, hsa⟩ := hK.2.2.2.2.2.1 _ hs
  have hk : ∀ q : Nat, q < G.2.1.size → ¬ pw_A G q → s.heap[q]? = G.2.1[q]? := fun q hq _ => X.2.2.2.2.2.2.2.2.2 q hq
  have hU : vx_Zq Bundle.tN "UNASSIGNED_STACK" Bundle.steD (pw_A G) s s.heap := hK.2.2.2.1.kept hk
  have hN : vx_Zq Bundle.tN "SUPPRESSED_SENTINEL" Bundle.listD (pw_A G) s s.heap := hK.2.2.2.2.1.kept hk
  intro T hT X9
  have hz : s.heap.size ≤ H.size := by
    have h9 := (vx_frame X9.same).1
    rw [← hT]; exact h9
  have hS : va_S (pw_A G) s.heap H locs := ⟨hz, fun q _ hA => by
    have hq : q < G.2.1.size := Nat.not_le.mp hA
    rw [h1.2.1 q hq, X.2.2.2.2.2.2.2.2.2 q hq], h2⟩
  have hat9 : ∀ w ∈ nx_atS own ic E up9 r idx bytes, w.before args s = true := by
    intro w hw9
    have h9 := List.all_eq_true.mp hat w hw9
    simp only [Bool.or_eq_true, decide_eq_true_eq, List.any_eq_true] at h9
    rcases h9 with (h9 | ⟨x, hx, h9⟩) | ⟨x, hx, h9⟩
    · exact hts w h9
    · rw [h9]; exact va_Nw.use rfl (hK.2.2.2.2.2.2.2.2.2.1 x hx)
    · rw [h9]; exact va_Nw.use rfl (hK.2.2.2.2.2.2.2.2.2.2 x hx)
  subst ho
  exact nx_throwS X.1 X.2.1 X.2.2.2.2.2.2.1 X.2.2.2.1 hf.1 hf.2.1 hf.2.2 hb.1 hb.2.1 hb.2.2.1 hb.2.2.2 (hts _ hw.1) (hts _ hw.2) hsa hat9 (fun w hw9 => List.all_eq_true.mp hgood w hw9) hU hN hS (h3.1.trans X.2.2.1.symm) d0 d3 d4 d6 d9 (fun x hx => (hout x hx).elim) hR.1 hR.2.1 hR.2.2.1 hR.2.2.2 X.2.2.2.2.2.2.2.1 (fun t _ hz9 ho9 => ⟨M, hp, h1.more hz9 ho9⟩) h2 hc.1 hc.2 T hT X9
end NXP
end
section
theorem fl_RX0_18 : Cond.fieldLink RX0 18 (TX0 3).1 (TX0 3).2.1 (TX0 3).2.2.1 ∈ pw_T := pw_memT (by decide +kernel) (by decide +kernel)
theorem inT_0 : ∀ w ∈ u_ws RX0 TX0 6, w ∈ pw_T := by decide +kernel
theorem fl_RX0_22 : Cond.fieldLink RX0 22 (TX0 4).1 (TX0 4).2.1 (TX0 4).2.2.1 ∈ pw_T := pw_memT (by decide +kernel) (by decide +kernel)
theorem fl_RX0_25 : Cond.fieldLink RX0 25 (TX0 5).1 (TX0 5).2.1 (TX0 5).2.2.1 ∈ pw_T := pw_memT (by decide +kernel) (by decide +kernel)
theorem ok_X0_missing : pw_ok yX0_missing cX0_missing 2 (some .int) 1 := ⟨pw_memT (by decide +kernel) (by decide +kernel), pw_memT (by decide +kernel) (by decide +kernel), by decide +kernel, by decide +kernel, by decide +kernel, by decide +kernel⟩
theorem lk_RX0_37 : Cond.methodLink RX0 37 yX0_missing ∈ pw_T ∧ Cond.instanceMethod yX0_missing ∈ pw_T ∧ Cond.selects RX0 yX0_missing yX0_missing ∈ pw_T := ⟨pw_memT (by decide +kernel) (by decide +kernel), pw_memT (by decide +kernel) (by decide +kernel), pw_memT (by decide +kernel) (by decide +kernel)⟩
theorem ok_X0_hasLine : pw_ok yX0_hasLine cX0_hasLine 2 (some .boolean) 1 := ⟨pw_memT (by decide +kernel) (by decide +kernel), pw_memT (by decide +kernel) (by decide +kernel), by decide +kernel, by decide +kernel, by decide +kernel, by decide +kernel⟩
theorem lk_RX0_41 : Cond.methodLink RX0 41 yX0_hasLine ∈ pw_T ∧ Cond.instanceMethod yX0_hasLine ∈ pw_T ∧ Cond.selects RX0 yX0_hasLine yX0_hasLine ∈ pw_T := ⟨pw_memT (by decide +kernel) (by decide +kernel), pw_memT (by decide +kernel) (by decide +kernel), pw_memT (by decide +kernel) (by decide +kernel)⟩
theorem ok_X0_givenUp : pw_ok yX0_givenUp cX0_givenUp 3 (some .int) 2 := ⟨pw_memT (by decide +kernel) (by decide +kernel), pw_memT (by decide +kernel) (by decide +kernel), by decide +kernel, by decide +kernel, by decide +kernel, by decide +kernel⟩
theorem lk_RX0_45 : Cond.methodLink RX0 45 yX0_givenUp ∈ pw_T ∧ Cond.instanceMethod yX0_givenUp ∈ pw_T ∧ Cond.selects RX0 yX0_givenUp yX0_givenUp ∈ pw_T := ⟨pw_memT (by decide +kernel) (by decide +kernel), pw_memT (by decide +kernel) (by decide +kernel), pw_memT (by decide +kernel) (by decide +kernel)⟩
theorem st_X1_sum : Cond.static yX1_sum ∈ pw_T := pw_memT (by decide +kernel) (by decide +kernel)
theorem ok_X1_sum : pw_ok yX1_sum cX1_sum 3 (some .int) 1 := ⟨pw_memT (by decide +kernel) (by decide +kernel), pw_memT (by decide +kernel) (by decide +kernel), by decide +kernel, by decide +kernel, by decide +kernel, by decide +kernel⟩
theorem th_RX1_150 : Cond.classLink RX1 150 "java/lang/IllegalArgumentException" ∈ pw_T ∧ Cond.initialized "java/lang/IllegalArgumentException" ∈ pw_T := ⟨pw_memT (by decide +kernel) (by decide +kernel), pw_memT (by decide +kernel) (by decide +kernel)⟩
theorem ta_RX1_154 : (vx_atS RX1 154 "java/lang/IllegalArgumentException" ["java/lang/RuntimeException", "java/lang/Exception"]).all (fun w => decide (w ∈ pw_T) || pw_ex.any (fun x => decide (w = .castable x x)) || pw_dc.any (fun x => decide (w = .declares ⟨x, "<init>", "(Ljava/lang/String;)V"⟩))) = true := by decide +kernel
theorem tg_RX1_154 : (Cond.classLink RX1 150 "java/lang/IllegalArgumentException" :: Cond.initialized "java/lang/IllegalArgumentException" :: vx_atS RX1 154 "java/lang/IllegalArgumentException" ["java/lang/RuntimeException", "java/lang/Exception"]).all vx_ot = true := by decide +kernel
theorem ok_X1_requireRange : pw_ok yX1_requireRange cX1_requireRange 3 none 3 := ⟨pw_memT (by decide +kernel) (by decide +kernel), pw_memT (by decide +kernel) (by decide +kernel), by decide +kernel, by decide +kernel, by decide +kernel, by decide +kernel⟩
theorem lk_RX1_52 : Cond.methodLink RX1 52 yX1_requireRange ∈ pw_T ∧ Cond.static yX1_requireRange ∈ pw_T := ⟨pw_memT (by decide +kernel) (by decide +kernel), pw_memT (by decide +kernel) (by decide +kernel)⟩
theorem th_RX1_106 : Cond.classLink RX1 106 "java/lang/IllegalStateException" ∈ pw_T ∧ Cond.initialized "java/lang/IllegalStateException" ∈ pw_T := ⟨pw_memT (by decide +kernel) (by decide +kernel), pw_memT (by decide +kernel) (by decide +kernel)⟩
theorem ta_RX1_110 : (vx_atS RX1 110 "java/lang/IllegalStateException" ["java/lang/RuntimeException", "java/lang/Exception"]).all (fun w => decide (w ∈ pw_T) || pw_ex.any (fun x => decide (w = .castable x x)) || pw_dc.any (fun x => decide (w = .declares ⟨x, "<init>", "(Ljava/lang/String;)V"⟩))) = true := by decide +kernel
theorem tg_RX1_110 : (Cond.classLink RX1 106 "java/lang/IllegalStateException" :: Cond.initialized "java/lang/IllegalStateException" :: vx_atS RX1 110 "java/lang/IllegalStateException" ["java/lang/RuntimeException", "java/lang/Exception"]).all vx_ot = true := by decide +kernel
theorem ok_X1_requireGood : pw_ok yX1_requireGood cX1_requireGood 1 none 1 := ⟨pw_memT (by decide +kernel) (by decide +kernel), pw_memT (by decide +kernel) (by decide +kernel), by decide +kernel, by decide +kernel, by decide +kernel, by decide +kernel⟩
theorem lk_RX1_48 : Cond.methodLink RX1 48 yX1_requireGood ∈ pw_T ∧ Cond.static yX1_requireGood ∈ pw_T := ⟨pw_memT (by decide +kernel) (by decide +kernel), pw_memT (by decide +kernel) (by decide +kernel)⟩
theorem lk_RX1_72 : Cond.methodLink RX1 72 yX0_hasLine ∈ pw_T ∧ Cond.instanceMethod yX0_hasLine ∈ pw_T ∧ Cond.selects RX0 yX0_hasLine yX0_hasLine ∈ pw_T := ⟨pw_memT (by decide +kernel) (by decide +kernel), pw_memT (by decide +kernel) (by decide +kernel), pw_memT (by decide +kernel) (by decide +kernel)⟩
theorem th_RX1_167 : Cond.classLink RX1 167 "java/util/NoSuchElementException" ∈ pw_T ∧ Cond.initialized "java/util/NoSuchElementException" ∈ pw_T := ⟨pw_memT (by decide +kernel) (by decide +kernel), pw_memT (by decide +kernel) (by decide +kernel)⟩
theorem tn_RX1_171 : (nx_atS RX1 171 "java/util/NoSuchElementException" "java/lang/RuntimeException" ["java/lang/Exception"] 13 prog_16_method_4_code).all (fun w => decide (w ∈ pw_T) || pw_ex.any (fun x => decide (w = .castable x x)) || pw_dc.any (fun x => decide (w = .declares ⟨x, "<init>", "(Ljava/lang/String;)V"⟩))) = true := by decide +kernel
theorem th9_RX1_171 : (Cond.classLink RX1 167 "java/util/NoSuchElementException" :: Cond.initialized "java/util/NoSuchElementException" :: nx_atS RX1 171 "java/util/NoSuchElementException" "java/lang/RuntimeException" ["java/lang/Exception"] 13 prog_16_method_4_code).all vx_ot = true := by decide +kernel
theorem th_RX1_172 : Cond.classLink RX1 172 "java/lang/ArrayIndexOutOfBoundsException" ∈ pw_T ∧ Cond.initialized "java/lang/ArrayIndexOutOfBoundsException" ∈ pw_T := ⟨pw_memT (by decide +kernel) (by decide +kernel), pw_memT (by decide +kernel) (by decide +kernel)⟩
theorem ta_RX1_176 : (vx_atS RX1 176 "java/lang/ArrayIndexOutOfBoundsException" ["java/lang/IndexOutOfBoundsException", "java/lang/RuntimeException", "java/lang/Exception"]).all (fun w => decide (w ∈ pw_T) || pw_ex.any (fun x => decide (w = .castable x x)) || pw_dc.any (fun x => decide (w = .declares ⟨x, "<init>", "(Ljava/lang/String;)V"⟩))) = true := by decide +kernel
theorem tg_RX1_176 : (Cond.classLink RX1 172 "java/lang/ArrayIndexOutOfBoundsException" :: Cond.initialized "java/lang/ArrayIndexOutOfBoundsException" :: vx_atS RX1 176 "java/lang/ArrayIndexOutOfBoundsException" ["java/lang/IndexOutOfBoundsException", "java/lang/RuntimeException", "java/lang/Exception"]).all vx_ot = true := by decide +kernel
theorem fl_RX1_41 : Cond.fieldLink RX1 41 (TX1 2).1 (TX1 2).2.1 (TX1 2).2.2.1 ∈ pw_T := pw_memT (by decide +kernel) (by decide +kernel)
theorem inT_1 : ∀ w ∈ u_ws RX1 TX1 8, w ∈ pw_T := by decide +kernel
theorem fl_RX1_15 : Cond.fieldLink RX1 15 (TX1 1).1 (TX1 1).2.1 (TX1 1).2.2.1 ∈ pw_T := pw_memT (by decide +kernel) (by decide +kernel)
theorem fl_RX1_11 : Cond.fieldLink RX1 11 (TX1 0).1 (TX1 0).2.1 (TX1 0).2.2.1 ∈ pw_T := pw_memT (by decide +kernel) (by decide +kernel)
end
section
/-! ===== what a state of the wall is ===== -/
def ir (x : Int32) (N : Nat) : Prop := ∃ j : Nat, j < N ∧ x = nI j
noncomputable def pc_if (P : Prop) (a b : Int32) : Int32 := @ite _ P (Classical.propDecidable P) a b
theorem pc_t {P : Prop} {a b : Int32} (h : P) : pc_if P a b = a := @if_pos P (Classical.propDecidable P) h _ _ _
theorem pc_f {P : Prop} {a b : Int32} (h : ¬ P) : pc_if P a b = b := @if_neg P (Classical.propDecidable P) h _ _ _
theorem ir_of {x M : Int32} {N : Nat} (hM : M.toInt = N) (h0 : 0 ≤ x) (h1 : x ≤ M) : ir x (N + 1) := by
  obtain ⟨j, hj, hx⟩ := nI_of2 hM (Int32.not_lt.mpr h0) h1
  exact ⟨j, by omega, hx⟩
theorem ir_lt {x : Int32} {N : Nat} (hN : N < 2 ^ 31) (h0 : 0 ≤ x) (h1 : x < nI N) : ir x N := by
  obtain ⟨j, hj, hx⟩ := nI_of (Int32.not_lt.mpr h0)
  subst hx
  exact ⟨j, (nI_ltI hj hN).mp h1, rfl⟩
theorem ir_pos {x : Int32} {N : Nat} (hN : N < 2 ^ 31) (h : ir x N) : 0 ≤ x := by
  obtain ⟨j, hj, rfl⟩ := h
  exact nI_pos' (by omega)
theorem ir_up {x : Int32} {N : Nat} (hN : N < 2 ^ 31) (h : ir x N) : x < nI N := by
  obtain ⟨j, hj, rfl⟩ := h
  exact nI_lt hj hN
theorem ir_le {x M : Int32} {N : Nat} (hM : M.toInt = N) (hN : N < 2 ^ 31) (h : ir x (N + 1)) : x ≤ M := by
  obtain ⟨j, hj, rfl⟩ := h
  rw [Int32.le_iff_toInt_le, nI_toInt (by omega), hM]
  omega
theorem ir_nI {j N : Nat} (h : j < N) : ir (nI j) N := ⟨j, h, rfl⟩
def od_at (G : pw_G) (M : pw_M) (a aw ap ae : Nat) (i s pl : Int32) (w p d : Nat → Int32) : Prop :=
  M a = some (.inr (0, [.int i, .int s, .int pl, .ref aw, .ref ap, .ref ae])) ∧ M aw = some (.inl (G.2.2.1 0, 10, .inl w)) ∧ M ap = some (.inl (G.2.2.1 0, 10, .inl p)) ∧ M ae = some (.inl (G.2.2.1 0, 10, .inl d))
def cw (G : pw_G) (ad : Nat → Nat) (n oc : Nat) (td sd : Int32) (dk to er : Nat → Int32) (os pl : Nat → Int32) (oo : Nat → Option Nat) (wa pr de : Nat → Nat → Int32) (M : pw_M) : Prop :=
  M (ad 0) = some (.inr (1, [.ref (ad 1), .int (nI oc), .ref (ad 2), .ref (ad 3), .ref (ad 4), .ref (ad 5), .int td, .int sd])) ∧
  M (ad 1) = some (.inl (G.2.2.1 2, 20, .inr (.inr (.inr (.inr (fun i => if i < oc then some (ad (6 + 4 * i)) else none)))))) ∧
  M (ad 2) = some (.inl (G.2.2.1 2, n, .inr (.inr (.inr (.inr (fun i => (oo i).map (fun j => ad (6 + 4 * j)))))))) ∧
  M (ad 3) = some (.inl (G.2.2.1 1, n, .inl dk)) ∧ M (ad 4) = some (.inl (G.2.2.1 0, 10, .inl to)) ∧ M (ad 5) = some (.inl (G.2.2.1 0, 8, .inl er)) ∧
  (∀ i : Nat, i < oc → od_at G M (ad (6 + 4 * i)) (ad (7 + 4 * i)) (ad (8 + 4 * i)) (ad (9 + 4 * i)) (nI i) (os i) (pl i) (wa i) (pr i) (de i)) ∧
  (∀ x y : Nat, x < 6 + 4 * oc → y < 6 + 4 * oc → ad x = ad y → x = y) ∧ n ≤ 16 ∧ oc ≤ 20 ∧ ∀ i j : Nat, oo i = some j → j < oc
section CW
variable {G : pw_G} {ad : Nat → Nat} {n oc : Nat} {td sd : Int32} {dk to er : Nat → Int32} {os pl : Nat → Int32} {oo : Nat → Option Nat} {wa pr de : Nat → Nat → Int32} {M : pw_M}
theorem cw_o (h : cw G ad n oc td sd dk to er os pl oo wa pr de M) (i : Nat) (hi : i < oc) : od_at G M (ad (6 + 4 * i)) (ad (7 + 4 * i)) (ad (8 + 4 * i)) (ad (9 + 4 * i)) (nI i) (os i) (pl i) (wa i) (pr i) (de i) := h.2.2.2.2.2.2.1 i hi
theorem cw_i (h : cw G ad n oc td sd dk to er os pl oo wa pr de M) : ∀ x y : Nat, x < 6 + 4 * oc → y < 6 + 4 * oc → ad x = ad y → x = y := h.2.2.2.2.2.2.2.1
theorem cw_ne (h : cw G ad n oc td sd dk to er os pl oo wa pr de M) {x y : Nat} (hx : x < 6 + 4 * oc) (hy : y < 6 + 4 * oc) (hn : x ≠ y) : ad x ≠ ad y := fun e => hn (cw_i h x y hx hy e)
theorem cw_n (h : cw G ad n oc td sd dk to er os pl oo wa pr de M) : n ≤ 16 := h.2.2.2.2.2.2.2.2.1
theorem cw_oc (h : cw G ad n oc td sd dk to er os pl oo wa pr de M) : oc ≤ 20 := h.2.2.2.2.2.2.2.2.2.1
theorem cw_ooA (h : cw G ad n oc td sd dk to er os pl oo wa pr de M) : ∀ i j : Nat, oo i = some j → j < oc := h.2.2.2.2.2.2.2.2.2.2
theorem cw_oo (h : cw G ad n oc td sd dk to er os pl oo wa pr de M) : ∀ i j : Nat, i < n → oo i = some j → j < oc := fun i j _ => cw_ooA h i j
end CW
/-- what isn't the wall's stays -/
def fm (ad : Nat → Nat) (N : Nat) (M M9 : pw_M) : Prop := ∀ (q : Nat) (e : va_E), M q = some e → (∀ x, x < N → ad x ≠ q) → M9 q = some e
theorem fm_rf {ad : Nat → Nat} {N : Nat} {M : pw_M} : fm ad N M M := fun _ _ h _ => h
theorem fm_up {ad : Nat → Nat} {N : Nat} {M M9 : pw_M} (h : fm ad N M M9) {x : Nat} (hx : x < N) (e : va_E) : fm ad N M (pw_up M9 (ad x) e) := fun q e1 h1 h2 => pw_ke (h q e1 h1 h2) (fun hq => h2 x hx hq.symm)
end
section
/-! ===== the order's methods ===== -/
def od_gu (td : Int32) (w p d : Nat → Int32) (g : Nat) : Int32 := if ¬ d g = -1 ∧ d g < td then w g - p g else 0
def od_ct (b : Nat → Bool) : Nat → Nat
  | 0 => 0
  | n + 1 => od_ct b n + (if b n = true then 1 else 0)
theorem od_ct_le (b : Nat → Bool) : ∀ n, od_ct b n ≤ n
  | 0 => Nat.le_refl 0
  | n + 1 => by
    have := od_ct_le b n
    unfold od_ct
    split <;> omega
def od_has (w : Nat → Int32) (g : Nat) : Bool := decide (0 < w g)
/-- a loop that counts up: at its end, and from each step the one before -/
theorem pw_lp {P : Nat → Prop} (N : Nat) (h0 : P N) (hs : ∀ i, i < N → P (i + 1) → P i) : ∀ i, i ≤ N → P i := by
  intro i hi
  obtain ⟨k, hk⟩ : ∃ k, k = N - i := ⟨_, rfl⟩
  induction k generalizing i with
  | zero => rw [show i = N by omega]; exact h0
  | succ k ih => exact hs i (by omega) (ih (i + 1) (by omega) (by omega))
theorem pw_ltN {a b : Nat} (ha : a < 2 ^ 31) (hb : b < 2 ^ 31) (h : ¬ nI b ≤ nI a) : a < b := Nat.not_le.mp (fun h9 => h (nI_le h9 ha))
theorem pw_leN {a b : Nat} (ha : a < 2 ^ 31) (hb : b < 2 ^ 31) (h : nI b ≤ nI a) : b ≤ a := (nI_leI hb ha).mp h
set_option maxHeartbeats 4000000 in
set_option maxRecDepth 100000 in
theorem ct_hasLine (l : Launch) (hl : l.stackTraces = false) (G : pw_G) (M : pw_M) (a aw ap ae : Nat) (i s pl : Int32) (w p d : Nat → Int32) (ho : od_at G M a aw ap ae i s pl w p d) (g : Nat) (hg : g < 10) : pw_Met l yX0_hasLine cX0_hasLine 2 (some .boolean) 6 0 0 G [.ref a, .int (nI g)] M (fun v9 M9 => v9 = some (.int (if 0 < w g then 1 else 0)) ∧ M = M9) := by
  refine pw_of hl (by decide +kernel) (Nat.le_of_ble_eq_true rfl) [(0, .ref a), (1, .int (nI g))] rfl ?_
  intro p9 e9 s9 m9 args9 below9 meth9 c9 hX hrt hmi
  refine pw_aload_n (pc := 0) hX dX0_hasLine_0 0 rfl ?_
  refine pw_get (pc := 1) hX dX0_hasLine_1 ho.1 rfl inT_0 3 (by decide) fl_RX0_18 rfl ?_
  refine pw_iload_n (pc := 4) hX dX0_hasLine_4 1 rfl ?_
  refine pw_iald (pc := 5) (j := g) hX dX0_hasLine_5 ho.2.1 hg (by decide) ?_
  refine pw_if_le (pc := 6) hX 13 dX0_hasLine_6 (by decide) (fun hc_1 => ?_) (fun hc_1 => ?_)
  · refine pw_iconst (pc := 13) (v := 0) hX dX0_hasLine_13 (by decide) ?_
    exact pw_zret hX dX0_hasLine_14 hrt rfl ⟨by decide, by decide⟩ ⟨by rw [if_neg (Int32.not_lt.mpr hc_1)], rfl⟩
  · refine pw_iconst (pc := 9) (v := 1) hX dX0_hasLine_9 (by decide) ?_
    refine pw_goto (pc := 10) hX 14 dX0_hasLine_10 (by decide) ?_
    exact pw_zret hX dX0_hasLine_14 hrt rfl ⟨by decide, by decide⟩ ⟨by rw [if_pos (Int32.not_le.mp hc_1)], rfl⟩
set_option maxHeartbeats 4000000 in
set_option maxRecDepth 100000 in
theorem ct_missing (l : Launch) (hl : l.stackTraces = false) (G : pw_G) (M : pw_M) (a aw ap ae : Nat) (i s pl : Int32) (w p d : Nat → Int32) (ho : od_at G M a aw ap ae i s pl w p d) (g : Nat) (hg : g < 10) : pw_Met l yX0_missing cX0_missing 2 (some .int) 6 0 0 G [.ref a, .int (nI g)] M (fun v9 M9 => v9 = some (.int (w g - p g)) ∧ M = M9) := by
  refine pw_of hl (by decide +kernel) (Nat.le_of_ble_eq_true rfl) [(0, .ref a), (1, .int (nI g))] rfl ?_
  intro p9 e9 s9 m9 args9 below9 meth9 c9 hX hrt hmi
  refine pw_aload_n (pc := 0) hX dX0_missing_0 0 rfl ?_
  refine pw_get (pc := 1) hX dX0_missing_1 ho.1 rfl inT_0 3 (by decide) fl_RX0_18 rfl ?_
  refine pw_iload_n (pc := 4) hX dX0_missing_4 1 rfl ?_
  refine pw_iald (pc := 5) (j := g) hX dX0_missing_5 ho.2.1 hg (by decide) ?_
  refine pw_aload_n (pc := 6) hX dX0_missing_6 0 rfl ?_
  refine pw_get (pc := 7) hX dX0_missing_7 ho.1 rfl inT_0 4 (by decide) fl_RX0_22 rfl ?_
  refine pw_iload_n (pc := 10) hX dX0_missing_10 1 rfl ?_
  refine pw_iald (pc := 11) (j := g) hX dX0_missing_11 ho.2.2.1 hg (by decide) ?_
  refine pw_isub (pc := 12) (z := (w g) - (p g)) hX dX0_missing_12 rfl ?_
  exact pw_iret hX dX0_missing_13 hrt ⟨by decide, by decide⟩ ⟨rfl, rfl⟩
set_option maxHeartbeats 4000000 in
set_option maxRecDepth 100000 in
theorem ct_givenUp (l : Launch) (hl : l.stackTraces = false) (G : pw_G) (M : pw_M) (a aw ap ae : Nat) (i s pl : Int32) (w p d : Nat → Int32) (ho : od_at G M a aw ap ae i s pl w p d) (g : Nat) (hg : g < 10) (td : Int32) : pw_Met l yX0_givenUp cX0_givenUp 3 (some .int) 5 0 0 G [.ref a, .int (nI g), .int td] M (fun v9 M9 => v9 = some (.int (od_gu td w p d g)) ∧ M = M9) := by
  refine pw_of hl (by decide +kernel) (Nat.le_of_ble_eq_true rfl) [(0, .ref a), (1, .int (nI g)), (2, .int td)] rfl ?_
  intro p9 e9 s9 m9 args9 below9 meth9 c9 hX hrt hmi
  refine pw_aload_n (pc := 0) hX dX0_givenUp_0 0 rfl ?_
  refine pw_get (pc := 1) hX dX0_givenUp_1 ho.1 rfl inT_0 5 (by decide) fl_RX0_25 rfl ?_
  refine pw_iload_n (pc := 4) hX dX0_givenUp_4 1 rfl ?_
  refine pw_iald (pc := 5) (j := g) hX dX0_givenUp_5 ho.2.2.2 hg (by decide) ?_
  refine pw_iconst (pc := 6) (v := (-1)) hX dX0_givenUp_6 (by decide) ?_
  refine pw_icmp_eq (pc := 7) hX 28 dX0_givenUp_7 (by decide) (fun hc_1 => ?_) (fun hc_1 => ?_)
  · refine pw_iconst (pc := 28) (v := 0) hX dX0_givenUp_28 (by decide) ?_
    exact pw_iret hX dX0_givenUp_29 hrt ⟨by decide, by decide⟩ ⟨by unfold od_gu; rw [if_neg (fun h => h.1 hc_1)], rfl⟩
  · refine pw_iload_n (pc := 10) hX dX0_givenUp_10 2 rfl ?_
    refine pw_aload_n (pc := 11) hX dX0_givenUp_11 0 rfl ?_
    refine pw_get (pc := 12) hX dX0_givenUp_12 ho.1 rfl inT_0 5 (by decide) fl_RX0_25 rfl ?_
    refine pw_iload_n (pc := 15) hX dX0_givenUp_15 1 rfl ?_
    refine pw_iald (pc := 16) (j := g) hX dX0_givenUp_16 ho.2.2.2 hg (by decide) ?_
    refine pw_icmp_le (pc := 17) hX 28 dX0_givenUp_17 (by decide) (fun hc_2 => ?_) (fun hc_2 => ?_)
    · refine pw_iconst (pc := 28) (v := 0) hX dX0_givenUp_28 (by decide) ?_
      exact pw_iret hX dX0_givenUp_29 hrt ⟨by decide, by decide⟩ ⟨by unfold od_gu; rw [if_neg (fun h => absurd h.2 (Int32.not_lt.mpr hc_2))], rfl⟩
    · refine pw_aload_n (pc := 20) hX dX0_givenUp_20 0 rfl ?_
      refine pw_iload_n (pc := 21) hX dX0_givenUp_21 1 rfl ?_
      refine pw_callV (pc := 22) (st := []) hX (ct_missing l hl G M a aw ap ae i s pl w p d ho g hg) ho.1 rfl ok_X0_missing lk_RX0_37 dX0_givenUp_22 rfl ⟨⟨by decide, by decide⟩, Nat.le_of_ble_eq_true rfl, Nat.le_of_ble_eq_true rfl, Nat.le_of_ble_eq_true rfl⟩ rfl (fun v9 M9 hp9 => ?_)
      obtain ⟨rfl, rfl⟩ := hp9
      refine pw_goto (pc := 25) hX 29 dX0_givenUp_25 (by decide) ?_
      exact pw_iret hX dX0_givenUp_29 hrt ⟨by decide, by decide⟩ ⟨by unfold od_gu; rw [if_pos ⟨hc_1, Int32.not_le.mp hc_2⟩], rfl⟩
theorem od_ct_t {b : Nat → Bool} {k : Nat} (h : b k = true) : od_ct b (k + 1) = od_ct b k + 1 := by
  show od_ct b k + (if b k = true then 1 else 0) = _
  rw [if_pos h]
theorem od_ct_f {b : Nat → Bool} {k : Nat} (h : b k = false) : od_ct b (k + 1) = od_ct b k := by
  show od_ct b k + (if b k = true then 1 else 0) = _
  rw [if_neg (by rw [h]; decide)]
  rfl
theorem pw_ite0 {q : Prop} {h : Decidable q} (hz : (if q then (1 : Int32) else 0) = 0) : ¬ q := fun h9 => by
  rw [if_pos h9] at hz
  exact absurd hz (by decide)
theorem pw_ite1 {q : Prop} {h : Decidable q} (hz : ¬ (if q then (1 : Int32) else 0) = 0) : q := Decidable.byContradiction fun h9 => hz (if_neg h9)
set_option maxHeartbeats 4000000 in
set_option maxRecDepth 100000 in
theorem ct_sum (l : Launch) (hl : l.stackTraces = false) (G : pw_G) (M : pw_M) (x n : Nat) (f : Nat → Int32) (hx : M x = some (.inl (G.2.2.1 0, n, .inl f))) (hn : n ≤ 1000) : pw_Met l yX1_sum cX1_sum 3 (some .int) 6 0 0 G [.ref x] M (fun v9 M9 => v9 = some (.int (bx_sum f n)) ∧ M = M9) := by
  refine pw_of hl (by decide +kernel) (Nat.le_of_ble_eq_true rfl) [(0, .ref x)] rfl ?_
  intro p9 e9 s9 m9 args9 below9 meth9 c9 hX hrt hmi
  generalize hQ9 : MQ below9 _ args9 s9 _ _ _ = Q9
  refine pw_iconst (pc := 0) (v := 0) hX dX1_sum_0 (by decide) ?_
  refine pw_istore_n (pc := 1) hX [(1, .int 0), (0, .ref x)] dX1_sum_1 (by decide) rfl ?_
  refine pw_iconst (pc := 2) (v := 0) hX dX1_sum_2 (by decide) ?_
  refine pw_istore_n (pc := 3) hX [(2, .int 0), (1, .int 0), (0, .ref x)] dX1_sum_3 (by decide) rfl ?_
  refine pw_lp (P := fun k_1 => pw_W p9 l e9 (pw_rm 6 0 0) s9 m9 args9 below9 meth9 c9 Q9 G 3 M 0 0 4 [(2, .int (nI (k_1))), (1, .int (bx_sum f (k_1))), (0, .ref x)] []) n ?_ ?_ 0 (Nat.zero_le _)
  · refine pw_iload_n (pc := 4) hX dX1_sum_4 0 rfl ?_
    refine pw_aload_n (pc := 5) hX dX1_sum_5 2 rfl ?_
    refine pw_alen0 (pc := 6) hX dX1_sum_6 hx rfl ?_
    refine pw_icmp_ge (pc := 7) hX 22 dX1_sum_7 (by decide) (fun hc_2 => ?_) (fun hc_2 => absurd (Int32.le_refl _) hc_2)
    refine pw_iload_n (pc := 22) hX dX1_sum_22 1 rfl ?_
    subst hQ9
    exact pw_iret hX dX1_sum_23 hrt ⟨by decide, by decide⟩ ⟨rfl, rfl⟩
  · intro k_1 hk_1 ih_k_1
    refine pw_iload_n (pc := 4) hX dX1_sum_4 0 rfl ?_
    refine pw_aload_n (pc := 5) hX dX1_sum_5 2 rfl ?_
    refine pw_alen0 (pc := 6) hX dX1_sum_6 hx rfl ?_
    refine pw_icmp_ge (pc := 7) hX 22 dX1_sum_7 (by decide) (fun hc_3 => absurd hc_3 (nI_ge (b := n) hk_1 (by omega))) (fun hc_3 => ?_)
    refine pw_iload_n (pc := 10) hX dX1_sum_10 1 rfl ?_
    refine pw_aload_n (pc := 11) hX dX1_sum_11 2 rfl ?_
    refine pw_iload_n (pc := 12) hX dX1_sum_12 0 rfl ?_
    refine pw_iald (pc := 13) (j := k_1) hX dX1_sum_13 hx hk_1 (by omega) ?_
    refine pw_iadd (pc := 14) (z := bx_sum f (k_1 + 1)) hX dX1_sum_14 rfl ?_
    refine pw_istore_n (pc := 15) hX [(1, .int (bx_sum f (k_1 + 1))), (2, .int (nI (k_1))), (0, .ref x)] dX1_sum_15 (by decide) rfl ?_
    refine pw_iinc (pc := 16) (v := nI ((k_1) + 1)) (j := 1) hX [(2, .int (nI ((k_1) + 1))), (1, .int (bx_sum f (k_1 + 1))), (0, .ref x)] dX1_sum_16 rfl (nI_1 _) (by decide) rfl ?_
    refine pw_goto (pc := 19) hX 4 dX1_sum_19 (by decide) ?_
    exact pw_lv [0, 1, 2] _ rfl (ih_k_1)
set_option maxHeartbeats 4000000 in
set_option maxRecDepth 100000 in
theorem ct_lineCount (l : Launch) (hl : l.stackTraces = false) (G : pw_G) (M : pw_M) (a aw ap ae : Nat) (i s pl : Int32) (w p d : Nat → Int32) (ho : od_at G M a aw ap ae i s pl w p d) : pw_Met l yX0_lineCount cX0_lineCount 3 (some .int) 5 0 0 G [.ref a] M (fun v9 M9 => v9 = some (.int (nI (od_ct (od_has w) 10))) ∧ M = M9) := by
  refine pw_of hl (by decide +kernel) (Nat.le_of_ble_eq_true rfl) [(0, .ref a)] rfl ?_
  intro p9 e9 s9 m9 args9 below9 meth9 c9 hX hrt hmi
  generalize hQ9 : MQ below9 _ args9 s9 _ _ _ = Q9
  refine pw_iconst (pc := 0) (v := 0) hX dX0_lineCount_0 (by decide) ?_
  refine pw_istore_n (pc := 1) hX [(1, .int 0), (0, .ref a)] dX0_lineCount_1 (by decide) rfl ?_
  refine pw_iconst (pc := 2) (v := 0) hX dX0_lineCount_2 (by decide) ?_
  refine pw_istore_n (pc := 3) hX [(2, .int 0), (1, .int 0), (0, .ref a)] dX0_lineCount_3 (by decide) rfl ?_
  refine pw_lp (P := fun k_1 => pw_W p9 l e9 (pw_rm 5 0 0) s9 m9 args9 below9 meth9 c9 Q9 G 3 M 0 0 4 [(2, .int (nI (k_1))), (1, .int (nI (od_ct (od_has w) (k_1)))), (0, .ref a)] []) 10 ?_ ?_ 0 (Nat.zero_le _)
  · refine pw_iload_n (pc := 4) hX dX0_lineCount_4 0 rfl ?_
    refine pw_bipush (pc := 5) (v := 10) hX dX0_lineCount_5 (by decide) ?_
    refine pw_icmp_ge (pc := 7) hX 27 dX0_lineCount_7 (by decide) (fun hc_2 => ?_) (fun hc_2 => absurd (by decide) hc_2)
    refine pw_iload_n (pc := 27) hX dX0_lineCount_27 1 rfl ?_
    subst hQ9
    exact pw_iret hX dX0_lineCount_28 hrt ⟨by decide, by decide⟩ ⟨rfl, rfl⟩
  · intro k_1 hk_1 ih_k_1
    refine pw_iload_n (pc := 4) hX dX0_lineCount_4 0 rfl ?_
    refine pw_bipush (pc := 5) (v := 10) hX dX0_lineCount_5 (by decide) ?_
    refine pw_icmp_ge (pc := 7) hX 27 dX0_lineCount_7 (by decide) (fun hc_3 => absurd hc_3 (nI_ge (b := 10) hk_1 (by decide))) (fun hc_3 => ?_)
    refine pw_aload_n (pc := 10) hX dX0_lineCount_10 2 rfl ?_
    refine pw_iload_n (pc := 11) hX dX0_lineCount_11 0 rfl ?_
    refine pw_callV (pc := 12) (st := []) hX (ct_hasLine l hl G M a aw ap ae i s pl w p d ho k_1 hk_1) ho.1 rfl ok_X0_hasLine lk_RX0_41 dX0_lineCount_12 rfl ⟨⟨by decide, by decide⟩, Nat.le_of_ble_eq_true rfl, Nat.le_of_ble_eq_true rfl, Nat.le_of_ble_eq_true rfl⟩ rfl (fun v9 M9 hp9 => ?_)
    obtain ⟨rfl, rfl⟩ := hp9
    refine pw_if_eq (pc := 15) hX 21 dX0_lineCount_15 (by decide) (fun hc_4 => ?_) (fun hc_4 => ?_)
    · refine pw_iinc (pc := 21) (v := nI ((k_1) + 1)) (j := 0) hX [(2, .int (nI ((k_1) + 1))), (1, .int (nI (od_ct (od_has w) (k_1)))), (0, .ref a)] dX0_lineCount_21 rfl (nI_1 _) (by decide) rfl ?_
      refine pw_goto (pc := 24) hX 4 dX0_lineCount_24 (by decide) ?_
      rw [od_ct_f (b := od_has w) (k := k_1) (decide_eq_false (pw_ite0 hc_4))] at ih_k_1
      exact pw_lv [0, 1, 2] _ rfl (ih_k_1)
    · refine pw_iinc (pc := 18) (v := nI ((od_ct (od_has w) (k_1)) + 1)) (j := 1) hX [(1, .int (nI ((od_ct (od_has w) (k_1)) + 1))), (2, .int (nI (k_1))), (0, .ref a)] dX0_lineCount_18 rfl (nI_1 _) (by decide) rfl ?_
      refine pw_iinc (pc := 21) (v := nI ((k_1) + 1)) (j := 1) hX [(2, .int (nI ((k_1) + 1))), (1, .int (nI ((od_ct (od_has w) (k_1)) + 1))), (0, .ref a)] dX0_lineCount_21 rfl (nI_1 _) (by decide) rfl ?_
      refine pw_goto (pc := 24) hX 4 dX0_lineCount_24 (by decide) ?_
      rw [od_ct_t (b := od_has w) (k := k_1) (decide_eq_true (pw_ite1 hc_4))] at ih_k_1
      exact pw_lv [0, 1, 2] _ rfl (ih_k_1)
set_option maxHeartbeats 4000000 in
set_option maxRecDepth 100000 in
theorem ct_allGivenUp (l : Launch) (hl : l.stackTraces = false) (G : pw_G) (M : pw_M) (a aw ap ae : Nat) (i s pl : Int32) (w p d : Nat → Int32) (ho : od_at G M a aw ap ae i s pl w p d) (td : Int32) : pw_Met l yX0_allGivenUp cX0_allGivenUp 4 (some .int) 4 0 0 G [.ref a, .int td] M (fun v9 M9 => v9 = some (.int (bx_sum (od_gu td w p d) 10)) ∧ M = M9) := by
  refine pw_of hl (by decide +kernel) (Nat.le_of_ble_eq_true rfl) [(0, .ref a), (1, .int td)] rfl ?_
  intro p9 e9 s9 m9 args9 below9 meth9 c9 hX hrt hmi
  generalize hQ9 : MQ below9 _ args9 s9 _ _ _ = Q9
  refine pw_iconst (pc := 0) (v := 0) hX dX0_allGivenUp_0 (by decide) ?_
  refine pw_istore_n (pc := 1) hX [(2, .int 0), (0, .ref a), (1, .int td)] dX0_allGivenUp_1 (by decide) rfl ?_
  refine pw_iconst (pc := 2) (v := 0) hX dX0_allGivenUp_2 (by decide) ?_
  refine pw_istore_n (pc := 3) hX [(3, .int 0), (2, .int 0), (0, .ref a), (1, .int td)] dX0_allGivenUp_3 (by decide) rfl ?_
  refine pw_lp (P := fun k_1 => pw_W p9 l e9 (pw_rm 4 0 0) s9 m9 args9 below9 meth9 c9 Q9 G 4 M 0 0 4 [(3, .int (nI (k_1))), (2, .int (bx_sum (od_gu td w p d) (k_1))), (0, .ref a), (1, .int td)] []) 10 ?_ ?_ 0 (Nat.zero_le _)
  · refine pw_iload_n (pc := 4) hX dX0_allGivenUp_4 0 rfl ?_
    refine pw_bipush (pc := 5) (v := 10) hX dX0_allGivenUp_5 (by decide) ?_
    refine pw_icmp_ge (pc := 7) hX 25 dX0_allGivenUp_7 (by decide) (fun hc_2 => ?_) (fun hc_2 => absurd (by decide) hc_2)
    refine pw_iload_n (pc := 25) hX dX0_allGivenUp_25 1 rfl ?_
    subst hQ9
    exact pw_iret hX dX0_allGivenUp_26 hrt ⟨by decide, by decide⟩ ⟨rfl, rfl⟩
  · intro k_1 hk_1 ih_k_1
    refine pw_iload_n (pc := 4) hX dX0_allGivenUp_4 0 rfl ?_
    refine pw_bipush (pc := 5) (v := 10) hX dX0_allGivenUp_5 (by decide) ?_
    refine pw_icmp_ge (pc := 7) hX 25 dX0_allGivenUp_7 (by decide) (fun hc_3 => absurd hc_3 (nI_ge (b := 10) hk_1 (by decide))) (fun hc_3 => ?_)
    refine pw_iload_n (pc := 10) hX dX0_allGivenUp_10 1 rfl ?_
    refine pw_aload_n (pc := 11) hX dX0_allGivenUp_11 2 rfl ?_
    refine pw_iload_n (pc := 12) hX dX0_allGivenUp_12 0 rfl ?_
    refine pw_iload_n (pc := 13) hX dX0_allGivenUp_13 3 rfl ?_
    refine pw_callV (pc := 14) (st := [.int (bx_sum (od_gu td w p d) (k_1))]) hX (ct_givenUp l hl G M a aw ap ae i s pl w p d ho k_1 hk_1 td) ho.1 rfl ok_X0_givenUp lk_RX0_45 dX0_allGivenUp_14 rfl ⟨⟨by decide, by decide⟩, Nat.le_of_ble_eq_true rfl, Nat.le_of_ble_eq_true rfl, Nat.le_of_ble_eq_true rfl⟩ rfl (fun v9 M9 hp9 => ?_)
    obtain ⟨rfl, rfl⟩ := hp9
    refine pw_iadd (pc := 17) (z := bx_sum (od_gu td w p d) (k_1 + 1)) hX dX0_allGivenUp_17 rfl ?_
    refine pw_istore_n (pc := 18) hX [(2, .int (bx_sum (od_gu td w p d) (k_1 + 1))), (3, .int (nI (k_1))), (0, .ref a), (1, .int td)] dX0_allGivenUp_18 (by decide) rfl ?_
    refine pw_iinc (pc := 19) (v := nI ((k_1) + 1)) (j := 1) hX [(3, .int (nI ((k_1) + 1))), (2, .int (bx_sum (od_gu td w p d) (k_1 + 1))), (0, .ref a), (1, .int td)] dX0_allGivenUp_19 rfl (nI_1 _) (by decide) rfl ?_
    refine pw_goto (pc := 22) hX 4 dX0_allGivenUp_22 (by decide) ?_
    exact pw_lv [0, 1, 2, 3] _ rfl (ih_k_1)
set_option maxHeartbeats 4000000 in
set_option maxRecDepth 100000 in
theorem ct_allWanted (l : Launch) (hl : l.stackTraces = false) (G : pw_G) (M : pw_M) (a aw ap ae : Nat) (i s pl : Int32) (w p d : Nat → Int32) (ho : od_at G M a aw ap ae i s pl w p d) : pw_Met l yX0_allWanted cX0_allWanted 1 (some .int) 5 0 0 G [.ref a] M (fun v9 M9 => v9 = some (.int (bx_sum w 10)) ∧ M = M9) := by
  refine pw_of hl (by decide +kernel) (Nat.le_of_ble_eq_true rfl) [(0, .ref a)] rfl ?_
  intro p9 e9 s9 m9 args9 below9 meth9 c9 hX hrt hmi
  refine pw_aload_n (pc := 0) hX dX0_allWanted_0 0 rfl ?_
  refine pw_get (pc := 1) hX dX0_allWanted_1 ho.1 rfl inT_0 3 (by decide) fl_RX0_18 rfl ?_
  refine pw_callSN (pc := 4) (st := []) hX (ct_sum l hl G M aw 10 w ho.2.1 (by decide)) ok_X1_sum hX.2.2.2.2.2.1.2.2.1 st_X1_sum dX0_allWanted_4 rfl ⟨⟨by decide, by decide⟩, Nat.le_of_ble_eq_true rfl, Nat.le_of_ble_eq_true rfl, Nat.le_of_ble_eq_true rfl⟩ rfl (fun v9 M9 hp9 => ?_)
  obtain ⟨rfl, rfl⟩ := hp9
  exact pw_iret hX dX0_allWanted_7 hrt ⟨by decide, by decide⟩ ⟨rfl, rfl⟩
set_option maxHeartbeats 4000000 in
set_option maxRecDepth 100000 in
theorem ct_allPresent (l : Launch) (hl : l.stackTraces = false) (G : pw_G) (M : pw_M) (a aw ap ae : Nat) (i s pl : Int32) (w p d : Nat → Int32) (ho : od_at G M a aw ap ae i s pl w p d) : pw_Met l yX0_allPresent cX0_allPresent 1 (some .int) 5 0 0 G [.ref a] M (fun v9 M9 => v9 = some (.int (bx_sum p 10)) ∧ M = M9) := by
  refine pw_of hl (by decide +kernel) (Nat.le_of_ble_eq_true rfl) [(0, .ref a)] rfl ?_
  intro p9 e9 s9 m9 args9 below9 meth9 c9 hX hrt hmi
  refine pw_aload_n (pc := 0) hX dX0_allPresent_0 0 rfl ?_
  refine pw_get (pc := 1) hX dX0_allPresent_1 ho.1 rfl inT_0 4 (by decide) fl_RX0_22 rfl ?_
  refine pw_callSN (pc := 4) (st := []) hX (ct_sum l hl G M ap 10 p ho.2.2.1 (by decide)) ok_X1_sum hX.2.2.2.2.2.1.2.2.1 st_X1_sum dX0_allPresent_4 rfl ⟨⟨by decide, by decide⟩, Nat.le_of_ble_eq_true rfl, Nat.le_of_ble_eq_true rfl, Nat.le_of_ble_eq_true rfl⟩ rfl (fun v9 M9 hp9 => ?_)
  obtain ⟨rfl, rfl⟩ := hp9
  exact pw_iret hX dX0_allPresent_7 hrt ⟨by decide, by decide⟩ ⟨rfl, rfl⟩
set_option maxHeartbeats 4000000 in
set_option maxRecDepth 100000 in
theorem ct_lacksNothing (l : Launch) (hl : l.stackTraces = false) (G : pw_G) (M : pw_M) (a aw ap ae : Nat) (i s pl : Int32) (w p d : Nat → Int32) (ho : od_at G M a aw ap ae i s pl w p d) (td : Int32) : pw_Met l yX0_lacksNothing cX0_lacksNothing 3 (some .boolean) 4 0 0 G [.ref a, .int td] M (fun v9 M9 => (∃ z : Int32, v9 = some (.int z) ∧ (z = 1 ∧ (∀ g, g < 10 → ¬ od_gu td w p d g < w g - p g) ∨ z = 0 ∧ ∃ g, g < 10 ∧ od_gu td w p d g < w g - p g)) ∧ M = M9) := by
  refine pw_of hl (by decide +kernel) (Nat.le_of_ble_eq_true rfl) [(0, .ref a), (1, .int td)] rfl ?_
  intro p9 e9 s9 m9 args9 below9 meth9 c9 hX hrt hmi
  generalize hQ9 : MQ below9 _ args9 s9 _ _ _ = Q9
  refine pw_iconst (pc := 0) (v := 0) hX dX0_lacksNothing_0 (by decide) ?_
  refine pw_istore_n (pc := 1) hX [(2, .int 0), (0, .ref a), (1, .int td)] dX0_lacksNothing_1 (by decide) rfl ?_
  refine pw_lp (P := fun k_1 => (∀ g, g < k_1 → ¬ od_gu td w p d g < w g - p g) → pw_W p9 l e9 (pw_rm 4 0 0) s9 m9 args9 below9 meth9 c9 Q9 G 3 M 0 0 2 [(2, .int (nI (k_1))), (0, .ref a), (1, .int td)] []) 10 ?_ ?_ 0 (Nat.zero_le _) (fun g hg => absurd hg (Nat.not_lt_zero g))
  · intro hy_k_1
    refine pw_iload_n (pc := 2) hX dX0_lacksNothing_2 0 rfl ?_
    refine pw_bipush (pc := 3) (v := 10) hX dX0_lacksNothing_3 (by decide) ?_
    refine pw_icmp_ge (pc := 5) hX 30 dX0_lacksNothing_5 (by decide) (fun hc_2 => ?_) (fun hc_2 => absurd (by decide) hc_2)
    refine pw_iconst (pc := 30) (v := 1) hX dX0_lacksNothing_30 (by decide) ?_
    subst hQ9
    exact pw_zret hX dX0_lacksNothing_31 hrt rfl ⟨by decide, by decide⟩ ⟨⟨_, rfl, Or.inl ⟨rfl, hy_k_1⟩⟩, rfl⟩
  · intro k_1 hk_1 ih_k_1
    intro hy_k_1
    refine pw_iload_n (pc := 2) hX dX0_lacksNothing_2 0 rfl ?_
    refine pw_bipush (pc := 3) (v := 10) hX dX0_lacksNothing_3 (by decide) ?_
    refine pw_icmp_ge (pc := 5) hX 30 dX0_lacksNothing_5 (by decide) (fun hc_3 => absurd hc_3 (nI_ge (b := 10) hk_1 (by decide))) (fun hc_3 => ?_)
    refine pw_aload_n (pc := 8) hX dX0_lacksNothing_8 1 rfl ?_
    refine pw_iload_n (pc := 9) hX dX0_lacksNothing_9 0 rfl ?_
    refine pw_callV (pc := 10) (st := []) hX (ct_missing l hl G M a aw ap ae i s pl w p d ho k_1 hk_1) ho.1 rfl ok_X0_missing lk_RX0_37 dX0_lacksNothing_10 rfl ⟨⟨by decide, by decide⟩, Nat.le_of_ble_eq_true rfl, Nat.le_of_ble_eq_true rfl, Nat.le_of_ble_eq_true rfl⟩ rfl (fun v9 M9 hp9 => ?_)
    obtain ⟨rfl, rfl⟩ := hp9
    refine pw_aload_n (pc := 13) hX dX0_lacksNothing_13 1 rfl ?_
    refine pw_iload_n (pc := 14) hX dX0_lacksNothing_14 0 rfl ?_
    refine pw_iload_n (pc := 15) hX dX0_lacksNothing_15 2 rfl ?_
    refine pw_callV (pc := 16) (st := [.int (w k_1 - p k_1)]) hX (ct_givenUp l hl G M a aw ap ae i s pl w p d ho k_1 hk_1 td) ho.1 rfl ok_X0_givenUp lk_RX0_45 dX0_lacksNothing_16 rfl ⟨⟨by decide, by decide⟩, Nat.le_of_ble_eq_true rfl, Nat.le_of_ble_eq_true rfl, Nat.le_of_ble_eq_true rfl⟩ rfl (fun v9 M9 hp9 => ?_)
    obtain ⟨rfl, rfl⟩ := hp9
    refine pw_icmp_le (pc := 19) hX 24 dX0_lacksNothing_19 (by decide) (fun hc_4 => ?_) (fun hc_4 => ?_)
    · refine pw_iinc (pc := 24) (v := nI ((k_1) + 1)) (j := 0) hX [(2, .int (nI ((k_1) + 1))), (0, .ref a), (1, .int td)] dX0_lacksNothing_24 rfl (nI_1 _) (by decide) rfl ?_
      refine pw_goto (pc := 27) hX 2 dX0_lacksNothing_27 (by decide) ?_
      exact pw_lv [0, 1, 2] _ rfl (ih_k_1 (lt_s hy_k_1 (Int32.not_lt.mpr hc_4)))
    · refine pw_iconst (pc := 22) (v := 0) hX dX0_lacksNothing_22 (by decide) ?_
      subst hQ9
      exact pw_zret hX dX0_lacksNothing_23 hrt rfl ⟨by decide, by decide⟩ ⟨⟨_, rfl, Or.inr ⟨rfl, k_1, hk_1, Int32.not_le.mp hc_4⟩⟩, rfl⟩
end
section
set_option maxHeartbeats 4000000 in
set_option maxRecDepth 100000 in
theorem ct_requireRange (l : Launch) (hl : l.stackTraces = false) (G : pw_G) (M : pw_M) (x lo hi : Int32) : pw_XMet l yX1_requireRange cX1_requireRange 3 none 7 1 6 G [.int x, .int lo, .int hi] M (fun v9 M9 => v9 = none ∧ M = M9 ∧ lo ≤ x ∧ x ≤ hi) (fun E9 M9 => E9 = "java/lang/IllegalArgumentException" ∧ M = M9 ∧ ¬ (lo ≤ x ∧ x ≤ hi)) := by
  refine pw_ofx hl (by decide +kernel) (Nat.le_of_ble_eq_true rfl) [(0, .int x), (1, .int lo), (2, .int hi)] rfl ?_
  intro p9 e9 s9 m9 args9 below9 meth9 c9 hX hrt hex
  refine pw_iload_n (pc := 0) hX dX1_requireRange_0 0 rfl ?_
  refine pw_iload_n (pc := 1) hX dX1_requireRange_1 1 rfl ?_
  refine pw_icmp_lt (pc := 2) hX 10 dX1_requireRange_2 (by decide) (fun hc_1 => ?_) (fun hc_1 => ?_)
  · exact pw_throw (pc := 10) (names := ["java/lang/RuntimeException", "java/lang/Exception"]) (text := "a number outside its range") hX hex dX1_requireRange_10 dX1_requireRange_13 dX1_requireRange_14 dX1_requireRange_16 dX1_requireRange_19 rfl ⟨by decide +kernel, by decide +kernel⟩ th_RX1_150 (by decide +kernel) ta_RX1_154 tg_RX1_154 ⟨by decide, Nat.le_of_ble_eq_true rfl, Nat.le_of_ble_eq_true rfl, Nat.le_of_ble_eq_true rfl⟩ ⟨Nat.le_of_ble_eq_true rfl, Nat.le_of_ble_eq_true rfl⟩ ⟨rfl, rfl, fun h => absurd h.1 (Int32.not_le.mpr hc_1)⟩
  · refine pw_iload_n (pc := 5) hX dX1_requireRange_5 0 rfl ?_
    refine pw_iload_n (pc := 6) hX dX1_requireRange_6 2 rfl ?_
    refine pw_icmp_le (pc := 7) hX 20 dX1_requireRange_7 (by decide) (fun hc_2 => ?_) (fun hc_2 => ?_)
    · exact pw_vretx hX dX1_requireRange_20 hrt ⟨by decide, by decide⟩ ⟨rfl, rfl, Int32.not_lt.mp hc_1, hc_2⟩
    · exact pw_throw (pc := 10) (names := ["java/lang/RuntimeException", "java/lang/Exception"]) (text := "a number outside its range") hX hex dX1_requireRange_10 dX1_requireRange_13 dX1_requireRange_14 dX1_requireRange_16 dX1_requireRange_19 rfl ⟨by decide +kernel, by decide +kernel⟩ th_RX1_150 (by decide +kernel) ta_RX1_154 tg_RX1_154 ⟨by decide, Nat.le_of_ble_eq_true rfl, Nat.le_of_ble_eq_true rfl, Nat.le_of_ble_eq_true rfl⟩ ⟨Nat.le_of_ble_eq_true rfl, Nat.le_of_ble_eq_true rfl⟩ ⟨rfl, rfl, fun h => hc_2 h.2⟩
set_option maxHeartbeats 4000000 in
set_option maxRecDepth 100000 in
theorem ct_requireGood (l : Launch) (hl : l.stackTraces = false) (G : pw_G) (M : pw_M) (x : Int32) : pw_XMet l yX1_requireGood cX1_requireGood 1 none 6 1 6 G [.int x] M (fun v9 M9 => v9 = none ∧ M = M9 ∧ ir x 10) (fun E9 M9 => E9 = "java/lang/IllegalArgumentException" ∧ M = M9 ∧ ¬ ir x 10) := by
  refine pw_ofx hl (by decide +kernel) (Nat.le_of_ble_eq_true rfl) [(0, .int x)] rfl ?_
  intro p9 e9 s9 m9 args9 below9 meth9 c9 hX hrt hex
  refine pw_iload_n (pc := 0) hX dX1_requireGood_0 0 rfl ?_
  refine pw_iconst (pc := 1) (v := 0) hX dX1_requireGood_1 (by decide) ?_
  refine pw_bipush (pc := 2) (v := 9) hX dX1_requireGood_2 (by decide) ?_
  refine pw_callSx (pc := 4) (st := []) hX (ct_requireRange l hl G M x 0 9) ok_X1_requireRange lk_RX1_52 dX1_requireGood_4 rfl ⟨⟨by decide, by decide⟩, Nat.le_of_ble_eq_true rfl, Nat.le_of_ble_eq_true rfl, Nat.le_of_ble_eq_true rfl⟩ rfl (fun E9 M9 hx9 => ?_) (fun v9 M9 hp9 => ?_)
  · obtain ⟨rfl, rfl, hno⟩ := hx9
    exact pw_out hX hex ⟨Nat.le_of_ble_eq_true rfl, Nat.le_of_ble_eq_true rfl⟩ (⟨rfl, rfl, fun h => hno ⟨ir_pos (by decide) h, ir_le (N := 9) (by decide) (by decide) h⟩⟩)
  obtain ⟨rfl, rfl, h1, h2⟩ := hp9
  exact pw_vretx hX dX1_requireGood_7 hrt ⟨by decide, by decide⟩ ⟨rfl, rfl, ir_of (by decide) h1 h2⟩
set_option maxHeartbeats 4000000 in
set_option maxRecDepth 100000 in
theorem ct_requirePerson (l : Launch) (hl : l.stackTraces = false) (G : pw_G) (M : pw_M) (x : Int32) : pw_XMet l yX1_requirePerson cX1_requirePerson 1 none 6 1 6 G [.int x] M (fun v9 M9 => v9 = none ∧ M = M9 ∧ ir x 8) (fun E9 M9 => E9 = "java/lang/IllegalArgumentException" ∧ M = M9 ∧ ¬ ir x 8) := by
  refine pw_ofx hl (by decide +kernel) (Nat.le_of_ble_eq_true rfl) [(0, .int x)] rfl ?_
  intro p9 e9 s9 m9 args9 below9 meth9 c9 hX hrt hex
  refine pw_iload_n (pc := 0) hX dX1_requirePerson_0 0 rfl ?_
  refine pw_iconst (pc := 1) (v := 0) hX dX1_requirePerson_1 (by decide) ?_
  refine pw_bipush (pc := 2) (v := 7) hX dX1_requirePerson_2 (by decide) ?_
  refine pw_callSx (pc := 4) (st := []) hX (ct_requireRange l hl G M x 0 7) ok_X1_requireRange lk_RX1_52 dX1_requirePerson_4 rfl ⟨⟨by decide, by decide⟩, Nat.le_of_ble_eq_true rfl, Nat.le_of_ble_eq_true rfl, Nat.le_of_ble_eq_true rfl⟩ rfl (fun E9 M9 hx9 => ?_) (fun v9 M9 hp9 => ?_)
  · obtain ⟨rfl, rfl, hno⟩ := hx9
    exact pw_out hX hex ⟨Nat.le_of_ble_eq_true rfl, Nat.le_of_ble_eq_true rfl⟩ (⟨rfl, rfl, fun h => hno ⟨ir_pos (by decide) h, ir_le (N := 7) (by decide) (by decide) h⟩⟩)
  obtain ⟨rfl, rfl, h1, h2⟩ := hp9
  exact pw_vretx hX dX1_requirePerson_7 hrt ⟨by decide, by decide⟩ ⟨rfl, rfl, ir_of (by decide) h1 h2⟩
set_option maxHeartbeats 4000000 in
set_option maxRecDepth 100000 in
theorem ct_requireState (l : Launch) (hl : l.stackTraces = false) (G : pw_G) (M : pw_M) (x : Int32) : pw_XMet l yX1_requireState cX1_requireState 1 none 6 1 6 G [.int x] M (fun v9 M9 => v9 = none ∧ M = M9 ∧ ¬ x = 0) (fun E9 M9 => E9 = "java/lang/IllegalStateException" ∧ M = M9 ∧ x = 0) := by
  refine pw_ofx hl (by decide +kernel) (Nat.le_of_ble_eq_true rfl) [(0, .int x)] rfl ?_
  intro p9 e9 s9 m9 args9 below9 meth9 c9 hX hrt hex
  refine pw_iload_n (pc := 0) hX dX1_requireState_0 0 rfl ?_
  refine pw_if_ne (pc := 1) hX 14 dX1_requireState_1 (by decide) (fun hc_1 => ?_) (fun hc_1 => ?_)
  · exact pw_vretx hX dX1_requireState_14 hrt ⟨by decide, by decide⟩ ⟨rfl, rfl, hc_1⟩
  · exact pw_throw (pc := 4) (names := ["java/lang/RuntimeException", "java/lang/Exception"]) (text := "not as it is now") hX hex dX1_requireState_4 dX1_requireState_7 dX1_requireState_8 dX1_requireState_10 dX1_requireState_13 rfl ⟨by decide +kernel, by decide +kernel⟩ th_RX1_106 (by decide +kernel) ta_RX1_110 tg_RX1_110 ⟨by decide, Nat.le_of_ble_eq_true rfl, Nat.le_of_ble_eq_true rfl, Nat.le_of_ble_eq_true rfl⟩ ⟨Nat.le_of_ble_eq_true rfl, Nat.le_of_ble_eq_true rfl⟩ ⟨rfl, rfl, hc_1⟩
set_option maxHeartbeats 4000000 in
set_option maxRecDepth 100000 in
theorem ct_requireLine (l : Launch) (hl : l.stackTraces = false) (G : pw_G) (M : pw_M) (a aw ap ae : Nat) (i s pl : Int32) (w p d : Nat → Int32) (ho : od_at G M a aw ap ae i s pl w p d) (x : Int32) : pw_XMet l yX1_requireLine cX1_requireLine 2 none 5 2 12 G [.ref a, .int x] M (fun v9 M9 => v9 = none ∧ M = M9 ∧ ∃ g, g < 10 ∧ x = nI g ∧ 0 < w g) (fun E9 M9 => M = M9 ∧ (E9 = "java/lang/IllegalArgumentException" ∧ ¬ ir x 10 ∨ E9 = "java/util/NoSuchElementException" ∧ ∃ g, g < 10 ∧ x = nI g ∧ ¬ 0 < w g)) := by
  refine pw_ofx hl (by decide +kernel) (Nat.le_of_ble_eq_true rfl) [(0, .ref a), (1, .int x)] rfl ?_
  intro p9 e9 s9 m9 args9 below9 meth9 c9 hX hrt hex
  refine pw_iload_n (pc := 0) hX dX1_requireLine_0 1 rfl ?_
  refine pw_callSx (pc := 1) (st := []) hX (ct_requireGood l hl G M x) ok_X1_requireGood lk_RX1_48 dX1_requireLine_1 rfl ⟨⟨by decide, by decide⟩, Nat.le_of_ble_eq_true rfl, Nat.le_of_ble_eq_true rfl, Nat.le_of_ble_eq_true rfl⟩ rfl (fun E9 M9 hx9 => ?_) (fun v9 M9 hp9 => ?_)
  · obtain ⟨rfl, rfl, hno⟩ := hx9
    exact pw_out hX hex ⟨Nat.le_of_ble_eq_true rfl, Nat.le_of_ble_eq_true rfl⟩ (⟨rfl, Or.inl ⟨rfl, hno⟩⟩)
  obtain ⟨rfl, rfl, g, hg, rfl⟩ := hp9
  refine pw_aload_n (pc := 4) hX dX1_requireLine_4 0 rfl ?_
  refine pw_iload_n (pc := 5) hX dX1_requireLine_5 1 rfl ?_
  refine pw_callV (pc := 6) (st := []) hX (ct_hasLine l hl G M a aw ap ae i s pl w p d ho g hg) ho.1 rfl ok_X0_hasLine lk_RX1_72 dX1_requireLine_6 rfl ⟨⟨by decide, by decide⟩, Nat.le_of_ble_eq_true rfl, Nat.le_of_ble_eq_true rfl, Nat.le_of_ble_eq_true rfl⟩ rfl (fun v9 M9 hp9 => ?_)
  obtain ⟨rfl, rfl⟩ := hp9
  refine pw_if_ne (pc := 9) hX 22 dX1_requireLine_9 (by decide) (fun hc_1 => ?_) (fun hc_1 => ?_)
  · exact pw_vretx hX dX1_requireLine_22 hrt ⟨by decide, by decide⟩ ⟨rfl, rfl, g, hg, rfl, pw_ite1 hc_1⟩
  · exact pw_throwN (pc := 12) (up9 := "java/lang/RuntimeException") (r := ["java/lang/Exception"]) (bytes := prog_16_method_4_code) (idx := 13) (text := "no line of this good") hX hex dX1_requireLine_12 dX1_requireLine_15 dX1_requireLine_16 dX1_requireLine_18 dX1_requireLine_21 rfl ⟨by decide +kernel, by decide +kernel, by decide +kernel⟩ ⟨by decide +kernel, by decide +kernel, by decide +kernel, by decide +kernel⟩ th_RX1_167 (by decide +kernel) tn_RX1_171 th9_RX1_171 ⟨by decide, Nat.le_of_ble_eq_true rfl, Nat.le_of_ble_eq_true rfl, Nat.le_of_ble_eq_true rfl⟩ ⟨Nat.le_of_ble_eq_true rfl, Nat.le_of_ble_eq_true rfl⟩ ⟨rfl, Or.inr ⟨rfl, g, hg, rfl, pw_ite0 hc_1⟩⟩
set_option maxHeartbeats 4000000 in
set_option maxRecDepth 100000 in
theorem ct_requireCell (l : Launch) (hl : l.stackTraces = false) (G : pw_G) (M : pw_M) (ad : Nat → Nat) (n oc : Nat) (td sd : Int32) (dk to er : Nat → Int32) (os pl : Nat → Int32) (oo : Nat → Option Nat) (wa pr de : Nat → Nat → Int32) (hc : cw G ad n oc td sd dk to er os pl oo wa pr de M) (p0 : Int32) : pw_XMet l yX1_requireCell cX1_requireCell 2 none 6 1 6 G [.ref (ad 0), .int p0] M (fun v9 M9 => v9 = none ∧ M = M9 ∧ ir p0 n) (fun E9 M9 => E9 = "java/lang/ArrayIndexOutOfBoundsException" ∧ M = M9 ∧ ¬ ir p0 n) := by
  refine pw_ofx hl (by decide +kernel) (Nat.le_of_ble_eq_true rfl) [(0, .ref (ad 0)), (1, .int p0)] rfl ?_
  intro p9 e9 s9 m9 args9 below9 meth9 c9 hX hrt hex
  refine pw_iload_n (pc := 0) hX dX1_requireCell_0 1 rfl ?_
  refine pw_if_lt (pc := 1) hX 13 dX1_requireCell_1 (by decide) (fun hc_1 => ?_) (fun hc_1 => ?_)
  · exact pw_throw (pc := 13) (names := ["java/lang/IndexOutOfBoundsException", "java/lang/RuntimeException", "java/lang/Exception"]) (text := "no such cell") hX hex dX1_requireCell_13 dX1_requireCell_16 dX1_requireCell_17 dX1_requireCell_19 dX1_requireCell_22 rfl ⟨by decide +kernel, by decide +kernel⟩ th_RX1_172 (by decide +kernel) ta_RX1_176 tg_RX1_176 ⟨by decide, Nat.le_of_ble_eq_true rfl, Nat.le_of_ble_eq_true rfl, Nat.le_of_ble_eq_true rfl⟩ ⟨Nat.le_of_ble_eq_true rfl, Nat.le_of_ble_eq_true rfl⟩ ⟨rfl, rfl, fun h => absurd (ir_pos (Nat.lt_of_le_of_lt (cw_n hc) (by decide)) h) (Int32.not_le.mpr hc_1)⟩
  · refine pw_iload_n (pc := 4) hX dX1_requireCell_4 1 rfl ?_
    refine pw_aload_n (pc := 5) hX dX1_requireCell_5 0 rfl ?_
    refine pw_get (pc := 6) hX dX1_requireCell_6 hc.1 rfl inT_1 2 (by decide) fl_RX1_41 rfl ?_
    refine pw_alen2 (pc := 9) hX dX1_requireCell_9 hc.2.2.1 rfl ?_
    refine pw_icmp_lt (pc := 10) hX 23 dX1_requireCell_10 (by decide) (fun hc_2 => ?_) (fun hc_2 => ?_)
    · exact pw_vretx hX dX1_requireCell_23 hrt ⟨by decide, by decide⟩ ⟨rfl, rfl, ir_lt (Nat.lt_of_le_of_lt (cw_n hc) (by decide)) (Int32.not_lt.mp hc_1) hc_2⟩
    · exact pw_throw (pc := 13) (names := ["java/lang/IndexOutOfBoundsException", "java/lang/RuntimeException", "java/lang/Exception"]) (text := "no such cell") hX hex dX1_requireCell_13 dX1_requireCell_16 dX1_requireCell_17 dX1_requireCell_19 dX1_requireCell_22 rfl ⟨by decide +kernel, by decide +kernel⟩ th_RX1_172 (by decide +kernel) ta_RX1_176 tg_RX1_176 ⟨by decide, Nat.le_of_ble_eq_true rfl, Nat.le_of_ble_eq_true rfl, Nat.le_of_ble_eq_true rfl⟩ ⟨Nat.le_of_ble_eq_true rfl, Nat.le_of_ble_eq_true rfl⟩ ⟨rfl, rfl, fun h => hc_2 (ir_up (Nat.lt_of_le_of_lt (cw_n hc) (by decide)) h)⟩
set_option maxHeartbeats 4000000 in
set_option maxRecDepth 100000 in
theorem ct_existing (l : Launch) (hl : l.stackTraces = false) (G : pw_G) (M : pw_M) (ad : Nat → Nat) (n oc : Nat) (td sd : Int32) (dk to er : Nat → Int32) (os pl : Nat → Int32) (oo : Nat → Option Nat) (wa pr de : Nat → Nat → Int32) (hc : cw G ad n oc td sd dk to er os pl oo wa pr de M) (p0 : Int32) : pw_XMet l yX1_existing cX1_existing 3 (some (.object "PutWall$Order")) 6 1 6 G [.ref (ad 0), .int p0] M (fun v9 M9 => M = M9 ∧ ∃ j, j < oc ∧ p0 = nI j ∧ v9 = some (.ref (ad (6 + 4 * j)))) (fun E9 M9 => E9 = "java/util/NoSuchElementException" ∧ M = M9 ∧ ¬ ir p0 oc) := by
  refine pw_ofx hl (by decide +kernel) (Nat.le_of_ble_eq_true rfl) [(0, .ref (ad 0)), (1, .int p0)] rfl ?_
  intro p9 e9 s9 m9 args9 below9 meth9 c9 hX hrt hex
  refine pw_iload_n (pc := 0) hX dX1_existing_0 1 rfl ?_
  refine pw_if_lt (pc := 1) hX 21 dX1_existing_1 (by decide) (fun hc_1 => ?_) (fun hc_1 => ?_)
  · exact pw_throwN (pc := 21) (up9 := "java/lang/RuntimeException") (r := ["java/lang/Exception"]) (bytes := prog_16_method_4_code) (idx := 13) (text := "no such order") hX hex dX1_existing_21 dX1_existing_24 dX1_existing_25 dX1_existing_27 dX1_existing_30 rfl ⟨by decide +kernel, by decide +kernel, by decide +kernel⟩ ⟨by decide +kernel, by decide +kernel, by decide +kernel, by decide +kernel⟩ th_RX1_167 (by decide +kernel) tn_RX1_171 th9_RX1_171 ⟨by decide, Nat.le_of_ble_eq_true rfl, Nat.le_of_ble_eq_true rfl, Nat.le_of_ble_eq_true rfl⟩ ⟨Nat.le_of_ble_eq_true rfl, Nat.le_of_ble_eq_true rfl⟩ ⟨rfl, rfl, fun h => absurd (ir_pos (Nat.lt_of_le_of_lt (cw_oc hc) (by decide)) h) (Int32.not_le.mpr hc_1)⟩
  · refine pw_iload_n (pc := 4) hX dX1_existing_4 1 rfl ?_
    refine pw_aload_n (pc := 5) hX dX1_existing_5 0 rfl ?_
    refine pw_get (pc := 6) hX dX1_existing_6 hc.1 rfl inT_1 1 (by decide) fl_RX1_15 rfl ?_
    refine pw_icmp_ge (pc := 9) hX 21 dX1_existing_9 (by decide) (fun hc_2 => ?_) (fun hc_2 => ?_)
    · exact pw_throwN (pc := 21) (up9 := "java/lang/RuntimeException") (r := ["java/lang/Exception"]) (bytes := prog_16_method_4_code) (idx := 13) (text := "no such order") hX hex dX1_existing_21 dX1_existing_24 dX1_existing_25 dX1_existing_27 dX1_existing_30 rfl ⟨by decide +kernel, by decide +kernel, by decide +kernel⟩ ⟨by decide +kernel, by decide +kernel, by decide +kernel, by decide +kernel⟩ th_RX1_167 (by decide +kernel) tn_RX1_171 th9_RX1_171 ⟨by decide, Nat.le_of_ble_eq_true rfl, Nat.le_of_ble_eq_true rfl, Nat.le_of_ble_eq_true rfl⟩ ⟨Nat.le_of_ble_eq_true rfl, Nat.le_of_ble_eq_true rfl⟩ ⟨rfl, rfl, fun h => absurd (ir_up (Nat.lt_of_le_of_lt (cw_oc hc) (by decide)) h) (Int32.not_lt.mpr hc_2)⟩
    · refine pw_iload_n (pc := 12) hX dX1_existing_12 1 rfl ?_
      refine pw_aload_n (pc := 13) hX dX1_existing_13 0 rfl ?_
      refine pw_get (pc := 14) hX dX1_existing_14 hc.1 rfl inT_1 0 (by decide) fl_RX1_11 rfl ?_
      refine pw_alen2 (pc := 17) hX dX1_existing_17 hc.2.1 rfl ?_
      refine pw_icmp_lt (pc := 18) hX 31 dX1_existing_18 (by decide) (fun hc_3 => ?_) (fun hc_3 => absurd (Int32.lt_of_lt_of_le (Int32.not_le.mp hc_2) (nI_le (b := 20) (cw_oc hc) (by decide))) hc_3)
      have hir : ir p0 oc := ir_lt (Nat.lt_of_le_of_lt (cw_oc hc) (by decide)) (Int32.not_lt.mp hc_1) (Int32.not_le.mp hc_2)
      refine pw_aload_n (pc := 31) hX dX1_existing_31 0 rfl ?_
      refine pw_get (pc := 32) hX dX1_existing_32 hc.1 rfl inT_1 0 (by decide) fl_RX1_11 rfl ?_
      refine pw_iload_n (pc := 35) hX dX1_existing_35 1 rfl ?_
      obtain ⟨j, hj, rfl⟩ := hir
      refine pw_aald (pc := 36) (j := j) hX dX1_existing_36 hc.2.1 (Nat.lt_of_lt_of_le hj (cw_oc hc)) (by decide) ?_
      refine pw_cg (vb := .ref (ad (6 + 4 * j))) (by show va_rf (if j < oc then _ else _) = _; rw [if_pos hj]; rfl) ?_
      refine pw_astore_n (pc := 37) hX [(2, .ref (ad (6 + 4 * j))), (0, .ref (ad 0)), (1, .int (nI j))] dX1_existing_37 (by decide) rfl ?_
      refine pw_aload_n (pc := 38) hX dX1_existing_38 0 rfl ?_
      refine pw_ifnonnull (pc := 39) hX 52 dX1_existing_39 (by decide) ?_
      refine pw_aload_n (pc := 52) hX dX1_existing_52 0 rfl ?_
      exact pw_aretx hX dX1_existing_53 hrt (Or.inr ⟨_, rfl⟩) ⟨by decide, by decide⟩ ⟨rfl, j, hj, rfl, rfl⟩
end
section
theorem fl_RX1_44 : Cond.fieldLink RX1 44 (TX1 3).1 (TX1 3).2.1 (TX1 3).2.2.1 ∈ pw_T := pw_memT (by decide +kernel) (by decide +kernel)
theorem fl_RX1_69 : Cond.fieldLink RX1 69 (TX0 1).1 (TX0 1).2.1 (TX0 1).2.2.1 ∈ pw_T := pw_memT (by decide +kernel) (by decide +kernel)
theorem fl_RX1_183 : Cond.fieldLink RX1 183 (TX0 0).1 (TX0 0).2.1 (TX0 0).2.2.1 ∈ pw_T := pw_memT (by decide +kernel) (by decide +kernel)
theorem ok_X0_allPresent : pw_ok yX0_allPresent cX0_allPresent 1 (some .int) 0 := ⟨pw_memT (by decide +kernel) (by decide +kernel), pw_memT (by decide +kernel) (by decide +kernel), by decide +kernel, by decide +kernel, by decide +kernel, by decide +kernel⟩
theorem lk_RX1_141 : Cond.methodLink RX1 141 yX0_allPresent ∈ pw_T ∧ Cond.instanceMethod yX0_allPresent ∈ pw_T ∧ Cond.selects RX0 yX0_allPresent yX0_allPresent ∈ pw_T := ⟨pw_memT (by decide +kernel) (by decide +kernel), pw_memT (by decide +kernel) (by decide +kernel), pw_memT (by decide +kernel) (by decide +kernel)⟩
end
section
/-! ===== the state after a store ===== -/
section CWU
variable {G : pw_G} {ad : Nat → Nat} {n oc : Nat} {td sd : Int32} {dk to er : Nat → Int32} {os pl : Nat → Int32} {oo : Nat → Option Nat} {wa pr de : Nat → Nat → Int32} {M : pw_M}
theorem cw_to (h : cw G ad n oc td sd dk to er os pl oo wa pr de M) (f : Nat → Int32) : cw G ad n oc td sd dk f er os pl oo wa pr de (pw_up M (ad 4) (.inl (G.2.2.1 0, 10, .inl f))) := ⟨pw_ke h.1 (cw_ne h (x := 0) (y := 4) (by omega) (by omega) (by omega)), pw_ke h.2.1 (cw_ne h (x := 1) (y := 4) (by omega) (by omega) (by omega)), pw_ke h.2.2.1 (cw_ne h (x := 2) (y := 4) (by omega) (by omega) (by omega)), pw_ke h.2.2.2.1 (cw_ne h (x := 3) (y := 4) (by omega) (by omega) (by omega)), pw_us, pw_ke h.2.2.2.2.2.1 (cw_ne h (x := 5) (y := 4) (by omega) (by omega) (by omega)), (fun i hi => ⟨pw_ke (cw_o h i hi).1 (cw_ne h (x := 6 + 4 * i) (y := 4) (by omega) (by omega) (by omega)), pw_ke (cw_o h i hi).2.1 (cw_ne h (x := 7 + 4 * i) (y := 4) (by omega) (by omega) (by omega)), pw_ke (cw_o h i hi).2.2.1 (cw_ne h (x := 8 + 4 * i) (y := 4) (by omega) (by omega) (by omega)), pw_ke (cw_o h i hi).2.2.2 (cw_ne h (x := 9 + 4 * i) (y := 4) (by omega) (by omega) (by omega))⟩), cw_i h, cw_n h, cw_oc h, cw_ooA h⟩
theorem cw_to_fm (h : cw G ad n oc td sd dk to er os pl oo wa pr de M) (f : Nat → Int32) : fm ad (6 + 4 * oc) M (pw_up M (ad (4)) (.inl (G.2.2.1 0, 10, .inl f))) := fm_up fm_rf (by omega) _
theorem cw_er (h : cw G ad n oc td sd dk to er os pl oo wa pr de M) (f : Nat → Int32) : cw G ad n oc td sd dk to f os pl oo wa pr de (pw_up M (ad 5) (.inl (G.2.2.1 0, 8, .inl f))) := ⟨pw_ke h.1 (cw_ne h (x := 0) (y := 5) (by omega) (by omega) (by omega)), pw_ke h.2.1 (cw_ne h (x := 1) (y := 5) (by omega) (by omega) (by omega)), pw_ke h.2.2.1 (cw_ne h (x := 2) (y := 5) (by omega) (by omega) (by omega)), pw_ke h.2.2.2.1 (cw_ne h (x := 3) (y := 5) (by omega) (by omega) (by omega)), pw_ke h.2.2.2.2.1 (cw_ne h (x := 4) (y := 5) (by omega) (by omega) (by omega)), pw_us, (fun i hi => ⟨pw_ke (cw_o h i hi).1 (cw_ne h (x := 6 + 4 * i) (y := 5) (by omega) (by omega) (by omega)), pw_ke (cw_o h i hi).2.1 (cw_ne h (x := 7 + 4 * i) (y := 5) (by omega) (by omega) (by omega)), pw_ke (cw_o h i hi).2.2.1 (cw_ne h (x := 8 + 4 * i) (y := 5) (by omega) (by omega) (by omega)), pw_ke (cw_o h i hi).2.2.2 (cw_ne h (x := 9 + 4 * i) (y := 5) (by omega) (by omega) (by omega))⟩), cw_i h, cw_n h, cw_oc h, cw_ooA h⟩
theorem cw_er_fm (h : cw G ad n oc td sd dk to er os pl oo wa pr de M) (f : Nat → Int32) : fm ad (6 + 4 * oc) M (pw_up M (ad (5)) (.inl (G.2.2.1 0, 8, .inl f))) := fm_up fm_rf (by omega) _
theorem cw_dk (h : cw G ad n oc td sd dk to er os pl oo wa pr de M) (f : Nat → Int32) : cw G ad n oc td sd f to er os pl oo wa pr de (pw_up M (ad 3) (.inl (G.2.2.1 1, n, .inl f))) := ⟨pw_ke h.1 (cw_ne h (x := 0) (y := 3) (by omega) (by omega) (by omega)), pw_ke h.2.1 (cw_ne h (x := 1) (y := 3) (by omega) (by omega) (by omega)), pw_ke h.2.2.1 (cw_ne h (x := 2) (y := 3) (by omega) (by omega) (by omega)), pw_us, pw_ke h.2.2.2.2.1 (cw_ne h (x := 4) (y := 3) (by omega) (by omega) (by omega)), pw_ke h.2.2.2.2.2.1 (cw_ne h (x := 5) (y := 3) (by omega) (by omega) (by omega)), (fun i hi => ⟨pw_ke (cw_o h i hi).1 (cw_ne h (x := 6 + 4 * i) (y := 3) (by omega) (by omega) (by omega)), pw_ke (cw_o h i hi).2.1 (cw_ne h (x := 7 + 4 * i) (y := 3) (by omega) (by omega) (by omega)), pw_ke (cw_o h i hi).2.2.1 (cw_ne h (x := 8 + 4 * i) (y := 3) (by omega) (by omega) (by omega)), pw_ke (cw_o h i hi).2.2.2 (cw_ne h (x := 9 + 4 * i) (y := 3) (by omega) (by omega) (by omega))⟩), cw_i h, cw_n h, cw_oc h, cw_ooA h⟩
theorem cw_dk_fm (h : cw G ad n oc td sd dk to er os pl oo wa pr de M) (f : Nat → Int32) : fm ad (6 + 4 * oc) M (pw_up M (ad (3)) (.inl (G.2.2.1 1, n, .inl f))) := fm_up fm_rf (by omega) _
theorem cw_td (h : cw G ad n oc td sd dk to er os pl oo wa pr de M) (t : Int32) : cw G ad n oc t sd dk to er os pl oo wa pr de (pw_up M (ad 0) (.inr (1, [.ref (ad 1), .int (nI oc), .ref (ad 2), .ref (ad 3), .ref (ad 4), .ref (ad 5), .int t, .int sd]))) := ⟨pw_us, pw_ke h.2.1 (cw_ne h (x := 1) (y := 0) (by omega) (by omega) (by omega)), pw_ke h.2.2.1 (cw_ne h (x := 2) (y := 0) (by omega) (by omega) (by omega)), pw_ke h.2.2.2.1 (cw_ne h (x := 3) (y := 0) (by omega) (by omega) (by omega)), pw_ke h.2.2.2.2.1 (cw_ne h (x := 4) (y := 0) (by omega) (by omega) (by omega)), pw_ke h.2.2.2.2.2.1 (cw_ne h (x := 5) (y := 0) (by omega) (by omega) (by omega)), (fun i hi => ⟨pw_ke (cw_o h i hi).1 (cw_ne h (x := 6 + 4 * i) (y := 0) (by omega) (by omega) (by omega)), pw_ke (cw_o h i hi).2.1 (cw_ne h (x := 7 + 4 * i) (y := 0) (by omega) (by omega) (by omega)), pw_ke (cw_o h i hi).2.2.1 (cw_ne h (x := 8 + 4 * i) (y := 0) (by omega) (by omega) (by omega)), pw_ke (cw_o h i hi).2.2.2 (cw_ne h (x := 9 + 4 * i) (y := 0) (by omega) (by omega) (by omega))⟩), cw_i h, cw_n h, cw_oc h, cw_ooA h⟩
theorem cw_td_fm (h : cw G ad n oc td sd dk to er os pl oo wa pr de M) (t : Int32) : fm ad (6 + 4 * oc) M (pw_up M (ad (0)) (.inr (1, [.ref (ad 1), .int (nI oc), .ref (ad 2), .ref (ad 3), .ref (ad 4), .ref (ad 5), .int t, .int sd]))) := fm_up fm_rf (by omega) _
theorem cw_sd (h : cw G ad n oc td sd dk to er os pl oo wa pr de M) (t : Int32) : cw G ad n oc td t dk to er os pl oo wa pr de (pw_up M (ad 0) (.inr (1, [.ref (ad 1), .int (nI oc), .ref (ad 2), .ref (ad 3), .ref (ad 4), .ref (ad 5), .int td, .int t]))) := ⟨pw_us, pw_ke h.2.1 (cw_ne h (x := 1) (y := 0) (by omega) (by omega) (by omega)), pw_ke h.2.2.1 (cw_ne h (x := 2) (y := 0) (by omega) (by omega) (by omega)), pw_ke h.2.2.2.1 (cw_ne h (x := 3) (y := 0) (by omega) (by omega) (by omega)), pw_ke h.2.2.2.2.1 (cw_ne h (x := 4) (y := 0) (by omega) (by omega) (by omega)), pw_ke h.2.2.2.2.2.1 (cw_ne h (x := 5) (y := 0) (by omega) (by omega) (by omega)), (fun i hi => ⟨pw_ke (cw_o h i hi).1 (cw_ne h (x := 6 + 4 * i) (y := 0) (by omega) (by omega) (by omega)), pw_ke (cw_o h i hi).2.1 (cw_ne h (x := 7 + 4 * i) (y := 0) (by omega) (by omega) (by omega)), pw_ke (cw_o h i hi).2.2.1 (cw_ne h (x := 8 + 4 * i) (y := 0) (by omega) (by omega) (by omega)), pw_ke (cw_o h i hi).2.2.2 (cw_ne h (x := 9 + 4 * i) (y := 0) (by omega) (by omega) (by omega))⟩), cw_i h, cw_n h, cw_oc h, cw_ooA h⟩
theorem cw_sd_fm (h : cw G ad n oc td sd dk to er os pl oo wa pr de M) (t : Int32) : fm ad (6 + 4 * oc) M (pw_up M (ad (0)) (.inr (1, [.ref (ad 1), .int (nI oc), .ref (ad 2), .ref (ad 3), .ref (ad 4), .ref (ad 5), .int td, .int t]))) := fm_up fm_rf (by omega) _
theorem cw_wa (h : cw G ad n oc td sd dk to er os pl oo wa pr de M) (j : Nat) (hj : j < oc) (f : Nat → Int32) : cw G ad n oc td sd dk to er os pl oo (va_up wa j f) pr de (pw_up M (ad (7 + 4 * j)) (.inl (G.2.2.1 0, 10, .inl f))) := by
  refine ⟨pw_ke h.1 (cw_ne h (x := 0) (y := 7 + 4 * j) (by omega) (by omega) (by omega)), pw_ke h.2.1 (cw_ne h (x := 1) (y := 7 + 4 * j) (by omega) (by omega) (by omega)), pw_ke h.2.2.1 (cw_ne h (x := 2) (y := 7 + 4 * j) (by omega) (by omega) (by omega)), pw_ke h.2.2.2.1 (cw_ne h (x := 3) (y := 7 + 4 * j) (by omega) (by omega) (by omega)), pw_ke h.2.2.2.2.1 (cw_ne h (x := 4) (y := 7 + 4 * j) (by omega) (by omega) (by omega)), pw_ke h.2.2.2.2.2.1 (cw_ne h (x := 5) (y := 7 + 4 * j) (by omega) (by omega) (by omega)), ?_, cw_i h, cw_n h, cw_oc h, cw_ooA h⟩
  intro i hi
  by_cases hij : i = j
  · subst hij
    rw [show va_up wa i f i = f from va_up_self _ _ _]
    exact ⟨pw_ke (cw_o h i hi).1 (cw_ne h (x := 6 + 4 * i) (y := 7 + 4 * i) (by omega) (by omega) (by omega)), pw_us, pw_ke (cw_o h i hi).2.2.1 (cw_ne h (x := 8 + 4 * i) (y := 7 + 4 * i) (by omega) (by omega) (by omega)), pw_ke (cw_o h i hi).2.2.2 (cw_ne h (x := 9 + 4 * i) (y := 7 + 4 * i) (by omega) (by omega) (by omega))⟩
  · rw [show va_up wa j f i = wa i from va_up_ne _ _ hij]
    exact ⟨pw_ke (cw_o h i hi).1 (cw_ne h (x := 6 + 4 * i) (y := 7 + 4 * j) (by omega) (by omega) (by omega)), pw_ke (cw_o h i hi).2.1 (cw_ne h (x := 7 + 4 * i) (y := 7 + 4 * j) (by omega) (by omega) (by omega)), pw_ke (cw_o h i hi).2.2.1 (cw_ne h (x := 8 + 4 * i) (y := 7 + 4 * j) (by omega) (by omega) (by omega)), pw_ke (cw_o h i hi).2.2.2 (cw_ne h (x := 9 + 4 * i) (y := 7 + 4 * j) (by omega) (by omega) (by omega))⟩
theorem cw_wa_fm (h : cw G ad n oc td sd dk to er os pl oo wa pr de M) (j : Nat) (hj : j < oc) (f : Nat → Int32) : fm ad (6 + 4 * oc) M (pw_up M (ad (7 + 4 * j)) (.inl (G.2.2.1 0, 10, .inl f))) := fm_up fm_rf (by omega) _
theorem cw_pr (h : cw G ad n oc td sd dk to er os pl oo wa pr de M) (j : Nat) (hj : j < oc) (f : Nat → Int32) : cw G ad n oc td sd dk to er os pl oo wa (va_up pr j f) de (pw_up M (ad (8 + 4 * j)) (.inl (G.2.2.1 0, 10, .inl f))) := by
  refine ⟨pw_ke h.1 (cw_ne h (x := 0) (y := 8 + 4 * j) (by omega) (by omega) (by omega)), pw_ke h.2.1 (cw_ne h (x := 1) (y := 8 + 4 * j) (by omega) (by omega) (by omega)), pw_ke h.2.2.1 (cw_ne h (x := 2) (y := 8 + 4 * j) (by omega) (by omega) (by omega)), pw_ke h.2.2.2.1 (cw_ne h (x := 3) (y := 8 + 4 * j) (by omega) (by omega) (by omega)), pw_ke h.2.2.2.2.1 (cw_ne h (x := 4) (y := 8 + 4 * j) (by omega) (by omega) (by omega)), pw_ke h.2.2.2.2.2.1 (cw_ne h (x := 5) (y := 8 + 4 * j) (by omega) (by omega) (by omega)), ?_, cw_i h, cw_n h, cw_oc h, cw_ooA h⟩
  intro i hi
  by_cases hij : i = j
  · subst hij
    rw [show va_up pr i f i = f from va_up_self _ _ _]
    exact ⟨pw_ke (cw_o h i hi).1 (cw_ne h (x := 6 + 4 * i) (y := 8 + 4 * i) (by omega) (by omega) (by omega)), pw_ke (cw_o h i hi).2.1 (cw_ne h (x := 7 + 4 * i) (y := 8 + 4 * i) (by omega) (by omega) (by omega)), pw_us, pw_ke (cw_o h i hi).2.2.2 (cw_ne h (x := 9 + 4 * i) (y := 8 + 4 * i) (by omega) (by omega) (by omega))⟩
  · rw [show va_up pr j f i = pr i from va_up_ne _ _ hij]
    exact ⟨pw_ke (cw_o h i hi).1 (cw_ne h (x := 6 + 4 * i) (y := 8 + 4 * j) (by omega) (by omega) (by omega)), pw_ke (cw_o h i hi).2.1 (cw_ne h (x := 7 + 4 * i) (y := 8 + 4 * j) (by omega) (by omega) (by omega)), pw_ke (cw_o h i hi).2.2.1 (cw_ne h (x := 8 + 4 * i) (y := 8 + 4 * j) (by omega) (by omega) (by omega)), pw_ke (cw_o h i hi).2.2.2 (cw_ne h (x := 9 + 4 * i) (y := 8 + 4 * j) (by omega) (by omega) (by omega))⟩
theorem cw_pr_fm (h : cw G ad n oc td sd dk to er os pl oo wa pr de M) (j : Nat) (hj : j < oc) (f : Nat → Int32) : fm ad (6 + 4 * oc) M (pw_up M (ad (8 + 4 * j)) (.inl (G.2.2.1 0, 10, .inl f))) := fm_up fm_rf (by omega) _
theorem cw_de (h : cw G ad n oc td sd dk to er os pl oo wa pr de M) (j : Nat) (hj : j < oc) (f : Nat → Int32) : cw G ad n oc td sd dk to er os pl oo wa pr (va_up de j f) (pw_up M (ad (9 + 4 * j)) (.inl (G.2.2.1 0, 10, .inl f))) := by
  refine ⟨pw_ke h.1 (cw_ne h (x := 0) (y := 9 + 4 * j) (by omega) (by omega) (by omega)), pw_ke h.2.1 (cw_ne h (x := 1) (y := 9 + 4 * j) (by omega) (by omega) (by omega)), pw_ke h.2.2.1 (cw_ne h (x := 2) (y := 9 + 4 * j) (by omega) (by omega) (by omega)), pw_ke h.2.2.2.1 (cw_ne h (x := 3) (y := 9 + 4 * j) (by omega) (by omega) (by omega)), pw_ke h.2.2.2.2.1 (cw_ne h (x := 4) (y := 9 + 4 * j) (by omega) (by omega) (by omega)), pw_ke h.2.2.2.2.2.1 (cw_ne h (x := 5) (y := 9 + 4 * j) (by omega) (by omega) (by omega)), ?_, cw_i h, cw_n h, cw_oc h, cw_ooA h⟩
  intro i hi
  by_cases hij : i = j
  · subst hij
    rw [show va_up de i f i = f from va_up_self _ _ _]
    exact ⟨pw_ke (cw_o h i hi).1 (cw_ne h (x := 6 + 4 * i) (y := 9 + 4 * i) (by omega) (by omega) (by omega)), pw_ke (cw_o h i hi).2.1 (cw_ne h (x := 7 + 4 * i) (y := 9 + 4 * i) (by omega) (by omega) (by omega)), pw_ke (cw_o h i hi).2.2.1 (cw_ne h (x := 8 + 4 * i) (y := 9 + 4 * i) (by omega) (by omega) (by omega)), pw_us⟩
  · rw [show va_up de j f i = de i from va_up_ne _ _ hij]
    exact ⟨pw_ke (cw_o h i hi).1 (cw_ne h (x := 6 + 4 * i) (y := 9 + 4 * j) (by omega) (by omega) (by omega)), pw_ke (cw_o h i hi).2.1 (cw_ne h (x := 7 + 4 * i) (y := 9 + 4 * j) (by omega) (by omega) (by omega)), pw_ke (cw_o h i hi).2.2.1 (cw_ne h (x := 8 + 4 * i) (y := 9 + 4 * j) (by omega) (by omega) (by omega)), pw_ke (cw_o h i hi).2.2.2 (cw_ne h (x := 9 + 4 * i) (y := 9 + 4 * j) (by omega) (by omega) (by omega))⟩
theorem cw_de_fm (h : cw G ad n oc td sd dk to er os pl oo wa pr de M) (j : Nat) (hj : j < oc) (f : Nat → Int32) : fm ad (6 + 4 * oc) M (pw_up M (ad (9 + 4 * j)) (.inl (G.2.2.1 0, 10, .inl f))) := fm_up fm_rf (by omega) _
theorem cw_os (h : cw G ad n oc td sd dk to er os pl oo wa pr de M) (j : Nat) (hj : j < oc) (x y : Int32) : cw G ad n oc td sd dk to er (va_up os j x) (va_up pl j y) oo wa pr de (pw_up M (ad (6 + 4 * j)) (.inr (0, [.int (nI j), .int x, .int y, .ref (ad (7 + 4 * j)), .ref (ad (8 + 4 * j)), .ref (ad (9 + 4 * j))]))) := by
  refine ⟨pw_ke h.1 (cw_ne h (x := 0) (y := 6 + 4 * j) (by omega) (by omega) (by omega)), pw_ke h.2.1 (cw_ne h (x := 1) (y := 6 + 4 * j) (by omega) (by omega) (by omega)), pw_ke h.2.2.1 (cw_ne h (x := 2) (y := 6 + 4 * j) (by omega) (by omega) (by omega)), pw_ke h.2.2.2.1 (cw_ne h (x := 3) (y := 6 + 4 * j) (by omega) (by omega) (by omega)), pw_ke h.2.2.2.2.1 (cw_ne h (x := 4) (y := 6 + 4 * j) (by omega) (by omega) (by omega)), pw_ke h.2.2.2.2.2.1 (cw_ne h (x := 5) (y := 6 + 4 * j) (by omega) (by omega) (by omega)), ?_, cw_i h, cw_n h, cw_oc h, cw_ooA h⟩
  intro i hi
  by_cases hij : i = j
  · subst hij
    rw [show va_up os i x i = x from va_up_self _ _ _]; rw [show va_up pl i y i = y from va_up_self _ _ _]
    exact ⟨pw_us, pw_ke (cw_o h i hi).2.1 (cw_ne h (x := 7 + 4 * i) (y := 6 + 4 * i) (by omega) (by omega) (by omega)), pw_ke (cw_o h i hi).2.2.1 (cw_ne h (x := 8 + 4 * i) (y := 6 + 4 * i) (by omega) (by omega) (by omega)), pw_ke (cw_o h i hi).2.2.2 (cw_ne h (x := 9 + 4 * i) (y := 6 + 4 * i) (by omega) (by omega) (by omega))⟩
  · rw [show va_up os j x i = os i from va_up_ne _ _ hij]; rw [show va_up pl j y i = pl i from va_up_ne _ _ hij]
    exact ⟨pw_ke (cw_o h i hi).1 (cw_ne h (x := 6 + 4 * i) (y := 6 + 4 * j) (by omega) (by omega) (by omega)), pw_ke (cw_o h i hi).2.1 (cw_ne h (x := 7 + 4 * i) (y := 6 + 4 * j) (by omega) (by omega) (by omega)), pw_ke (cw_o h i hi).2.2.1 (cw_ne h (x := 8 + 4 * i) (y := 6 + 4 * j) (by omega) (by omega) (by omega)), pw_ke (cw_o h i hi).2.2.2 (cw_ne h (x := 9 + 4 * i) (y := 6 + 4 * j) (by omega) (by omega) (by omega))⟩
theorem cw_os_fm (h : cw G ad n oc td sd dk to er os pl oo wa pr de M) (j : Nat) (hj : j < oc) (x y : Int32) : fm ad (6 + 4 * oc) M (pw_up M (ad (6 + 4 * j)) (.inr (0, [.int (nI j), .int x, .int y, .ref (ad (7 + 4 * j)), .ref (ad (8 + 4 * j)), .ref (ad (9 + 4 * j))]))) := fm_up fm_rf (by omega) _
theorem cw_ooS (h : cw G ad n oc td sd dk to er os pl oo wa pr de M) (i j : Nat) (hj : j < oc) : cw G ad n oc td sd dk to er os pl (va_up oo i (some j)) wa pr de (pw_up M (ad 2) (.inl (G.2.2.1 2, n, .inr (.inr (.inr (.inr (va_up (fun i => (oo i).map (fun j => ad (6 + 4 * j))) i (some (ad (6 + 4 * j)))))))))) := by
  have e : va_up (fun i => (oo i).map (fun j => ad (6 + 4 * j))) i (some (ad (6 + 4 * j))) = fun k => (va_up oo i (some j) k).map (fun j => ad (6 + 4 * j)) := by
    funext k
    by_cases hk : k = i
    · subst hk; rw [va_up_self, va_up_self]; rfl
    · rw [va_up_ne _ _ hk, va_up_ne _ _ hk]
  rw [e]
  refine ⟨pw_ke h.1 (cw_ne h (x := 0) (y := 2) (by omega) (by omega) (by omega)), pw_ke h.2.1 (cw_ne h (x := 1) (y := 2) (by omega) (by omega) (by omega)), pw_us, pw_ke h.2.2.2.1 (cw_ne h (x := 3) (y := 2) (by omega) (by omega) (by omega)), pw_ke h.2.2.2.2.1 (cw_ne h (x := 4) (y := 2) (by omega) (by omega) (by omega)), pw_ke h.2.2.2.2.2.1 (cw_ne h (x := 5) (y := 2) (by omega) (by omega) (by omega)), (fun i hi => ⟨pw_ke (cw_o h i hi).1 (cw_ne h (x := 6 + 4 * i) (y := 2) (by omega) (by omega) (by omega)), pw_ke (cw_o h i hi).2.1 (cw_ne h (x := 7 + 4 * i) (y := 2) (by omega) (by omega) (by omega)), pw_ke (cw_o h i hi).2.2.1 (cw_ne h (x := 8 + 4 * i) (y := 2) (by omega) (by omega) (by omega)), pw_ke (cw_o h i hi).2.2.2 (cw_ne h (x := 9 + 4 * i) (y := 2) (by omega) (by omega) (by omega))⟩), cw_i h, cw_n h, cw_oc h, ?_⟩
  intro k m hm
  by_cases hki : k = i
  · subst hki; rw [va_up_self] at hm; cases hm; exact hj
  · rw [va_up_ne _ _ hki] at hm; exact cw_ooA h k m hm
theorem cw_ooN (h : cw G ad n oc td sd dk to er os pl oo wa pr de M) (i : Nat) : cw G ad n oc td sd dk to er os pl (va_up oo i none) wa pr de (pw_up M (ad 2) (.inl (G.2.2.1 2, n, .inr (.inr (.inr (.inr (va_up (fun i => (oo i).map (fun j => ad (6 + 4 * j))) i none))))))) := by
  have e : va_up (fun i => (oo i).map (fun j => ad (6 + 4 * j))) i none = fun k => (va_up oo i none k).map (fun j => ad (6 + 4 * j)) := by
    funext k
    by_cases hk : k = i
    · subst hk; rw [va_up_self, va_up_self]; rfl
    · rw [va_up_ne _ _ hk, va_up_ne _ _ hk]
  rw [e]
  refine ⟨pw_ke h.1 (cw_ne h (x := 0) (y := 2) (by omega) (by omega) (by omega)), pw_ke h.2.1 (cw_ne h (x := 1) (y := 2) (by omega) (by omega) (by omega)), pw_us, pw_ke h.2.2.2.1 (cw_ne h (x := 3) (y := 2) (by omega) (by omega) (by omega)), pw_ke h.2.2.2.2.1 (cw_ne h (x := 4) (y := 2) (by omega) (by omega) (by omega)), pw_ke h.2.2.2.2.2.1 (cw_ne h (x := 5) (y := 2) (by omega) (by omega) (by omega)), (fun i hi => ⟨pw_ke (cw_o h i hi).1 (cw_ne h (x := 6 + 4 * i) (y := 2) (by omega) (by omega) (by omega)), pw_ke (cw_o h i hi).2.1 (cw_ne h (x := 7 + 4 * i) (y := 2) (by omega) (by omega) (by omega)), pw_ke (cw_o h i hi).2.2.1 (cw_ne h (x := 8 + 4 * i) (y := 2) (by omega) (by omega) (by omega)), pw_ke (cw_o h i hi).2.2.2 (cw_ne h (x := 9 + 4 * i) (y := 2) (by omega) (by omega) (by omega))⟩), cw_i h, cw_n h, cw_oc h, ?_⟩
  intro k m hm
  by_cases hki : k = i
  · subst hki; rw [va_up_self] at hm; cases hm
  · rw [va_up_ne _ _ hki] at hm; exact cw_ooA h k m hm
end CWU
theorem op_two (o : Option Nat) : o = none ∨ ∃ j, o = some j := by cases o <;> simp
def cc_b (oo : Nat → Option Nat) (os : Nat → Int32) (c : Nat) : Bool := match oo c with
  | none => false
  | some j => decide (os j = 2)
theorem cc_bn {oo : Nat → Option Nat} {os : Nat → Int32} {c : Nat} (h : oo c = none) : cc_b oo os c = false := by unfold cc_b; rw [h]
theorem cc_bs {oo : Nat → Option Nat} {os : Nat → Int32} {c j : Nat} (h : oo c = some j) : cc_b oo os c = decide (os j = 2) := by unfold cc_b; rw [h]
def cc_f (oo : Nat → Option Nat) (c : Nat) : Bool := (oo c).isNone
def cc_s (oo : Nat → Option Nat) (pr : Nat → Nat → Int32) (c : Nat) : Int32 := match oo c with
  | none => 0
  | some j => bx_sum (pr j) 10
theorem cc_sn {oo : Nat → Option Nat} {pr : Nat → Nat → Int32} {c : Nat} (h : oo c = none) : cc_s oo pr c = 0 := by unfold cc_s; rw [h]
theorem cc_ss {oo : Nat → Option Nat} {pr : Nat → Nat → Int32} {c j : Nat} (h : oo c = some j) : cc_s oo pr c = bx_sum (pr j) 10 := by unfold cc_s; rw [h]
end
section
set_option maxHeartbeats 4000000 in
set_option maxRecDepth 100000 in
theorem ct_lowest (l : Launch) (hl : l.stackTraces = false) (G : pw_G) (M : pw_M) (ad : Nat → Nat) (n oc : Nat) (td sd : Int32) (dk to er : Nat → Int32) (os pl : Nat → Int32) (oo : Nat → Option Nat) (wa pr de : Nat → Nat → Int32) (hc : cw G ad n oc td sd dk to er os pl oo wa pr de M) : pw_Met l yX1_lowestUsableCell cX1_lowestUsableCell 2 (some .int) 6 0 0 G [.ref (ad 0)] M (fun v9 M9 => M = M9 ∧ ((∃ i, i < n ∧ v9 = some (.int (nI i)) ∧ oo i = none ∧ dk i = 0 ∧ ∀ k, k < i → ¬ (oo k = none ∧ dk k = 0)) ∨ v9 = some (.int (-1)) ∧ ∀ i, i < n → ¬ (oo i = none ∧ dk i = 0))) := by
  refine pw_of hl (by decide +kernel) (Nat.le_of_ble_eq_true rfl) [(0, .ref (ad 0))] rfl ?_
  intro p9 e9 s9 m9 args9 below9 meth9 c9 hX hrt hmi
  generalize hQ9 : MQ below9 _ args9 s9 _ _ _ = Q9
  refine pw_iconst (pc := 0) (v := 0) hX dX1_lowestUsableCell_0 (by decide) ?_
  refine pw_istore_n (pc := 1) hX [(1, .int 0), (0, .ref (ad 0))] dX1_lowestUsableCell_1 (by decide) rfl ?_
  refine pw_lp (P := fun k_1 => (∀ i, i < k_1 → ¬ (oo i = none ∧ dk i = 0)) → pw_W p9 l e9 (pw_rm 6 0 0) s9 m9 args9 below9 meth9 c9 Q9 G 2 M 0 0 2 [(1, .int (nI (k_1))), (0, .ref (ad 0))] []) n ?_ ?_ 0 (Nat.zero_le _) (fun g hg => absurd hg (Nat.not_lt_zero g))
  · intro hy_k_1
    refine pw_iload_n (pc := 2) hX dX1_lowestUsableCell_2 0 rfl ?_
    refine pw_aload_n (pc := 3) hX dX1_lowestUsableCell_3 1 rfl ?_
    refine pw_get (pc := 4) hX dX1_lowestUsableCell_4 hc.1 rfl inT_1 2 (by decide) fl_RX1_41 rfl ?_
    refine pw_alen2 (pc := 7) hX dX1_lowestUsableCell_7 hc.2.2.1 rfl ?_
    refine pw_icmp_ge (pc := 8) hX 37 dX1_lowestUsableCell_8 (by decide) (fun hc_2 => ?_) (fun hc_2 => absurd (Int32.le_refl _) hc_2)
    refine pw_iconst (pc := 37) (v := (-1)) hX dX1_lowestUsableCell_37 (by decide) ?_
    subst hQ9
    exact pw_iret hX dX1_lowestUsableCell_38 hrt ⟨by decide, by decide⟩ ⟨rfl, Or.inr ⟨rfl, hy_k_1⟩⟩
  · intro k_1 hk_1 ih_k_1
    intro hy_k_1
    refine pw_iload_n (pc := 2) hX dX1_lowestUsableCell_2 0 rfl ?_
    refine pw_aload_n (pc := 3) hX dX1_lowestUsableCell_3 1 rfl ?_
    refine pw_get (pc := 4) hX dX1_lowestUsableCell_4 hc.1 rfl inT_1 2 (by decide) fl_RX1_41 rfl ?_
    refine pw_alen2 (pc := 7) hX dX1_lowestUsableCell_7 hc.2.2.1 rfl ?_
    refine pw_icmp_ge (pc := 8) hX 37 dX1_lowestUsableCell_8 (by decide) (fun hc_3 => absurd hc_3 (nI_ge (b := n) hk_1 (Nat.lt_of_le_of_lt (cw_n hc) (by decide)))) (fun hc_3 => ?_)
    refine pw_aload_n (pc := 11) hX dX1_lowestUsableCell_11 1 rfl ?_
    refine pw_get (pc := 12) hX dX1_lowestUsableCell_12 hc.1 rfl inT_1 2 (by decide) fl_RX1_41 rfl ?_
    refine pw_iload_n (pc := 15) hX dX1_lowestUsableCell_15 0 rfl ?_
    refine pw_aald (pc := 16) (j := k_1) hX dX1_lowestUsableCell_16 hc.2.2.1 hk_1 (Nat.lt_of_le_of_lt (cw_n hc) (by decide)) ?_
    rcases op_two (oo k_1) with ho_4 | ⟨j_5, ho_4⟩
    · refine pw_cg (vb := .null) (by show va_rf ((oo k_1).map _) = _; rw [ho_4]; rfl) ?_
      refine pw_ifnonnullN (pc := 17) hX dX1_lowestUsableCell_17  ?_
      refine pw_aload_n (pc := 20) hX dX1_lowestUsableCell_20 1 rfl ?_
      refine pw_get (pc := 21) hX dX1_lowestUsableCell_21 hc.1 rfl inT_1 3 (by decide) fl_RX1_44 rfl ?_
      refine pw_iload_n (pc := 24) hX dX1_lowestUsableCell_24 0 rfl ?_
      refine pw_zald (pc := 25) (j := k_1) hX dX1_lowestUsableCell_25 hc.2.2.2.1 hk_1 (Nat.lt_of_le_of_lt (cw_n hc) (by decide)) ?_
      refine pw_if_ne (pc := 26) hX 31 dX1_lowestUsableCell_26 (by decide) (fun hc_6 => ?_) (fun hc_6 => ?_)
      · refine pw_iinc (pc := 31) (v := nI ((k_1) + 1)) (j := 0) hX [(1, .int (nI ((k_1) + 1))), (0, .ref (ad 0))] dX1_lowestUsableCell_31 rfl (nI_1 _) (by decide) rfl ?_
        refine pw_goto (pc := 34) hX 2 dX1_lowestUsableCell_34 (by decide) ?_
        exact pw_lv [0, 1] _ rfl (ih_k_1 (lt_s hy_k_1 (fun h => hc_6 h.2)))
      · refine pw_iload_n (pc := 29) hX dX1_lowestUsableCell_29 0 rfl ?_
        subst hQ9
        exact pw_iret hX dX1_lowestUsableCell_30 hrt ⟨by decide, by decide⟩ ⟨rfl, Or.inl ⟨k_1, hk_1, rfl, ho_4, hc_6, hy_k_1⟩⟩
    · have hj_5 : j_5 < oc := cw_oo hc k_1 j_5 hk_1 ho_4
      refine pw_cg (vb := .ref (ad (6 + 4 * j_5))) (by show va_rf ((oo k_1).map _) = _; rw [ho_4]; rfl) ?_
      refine pw_ifnonnull (pc := 17) hX 31 dX1_lowestUsableCell_17 (by decide) ?_
      refine pw_iinc (pc := 31) (v := nI ((k_1) + 1)) (j := 0) hX [(1, .int (nI ((k_1) + 1))), (0, .ref (ad 0))] dX1_lowestUsableCell_31 rfl (nI_1 _) (by decide) rfl ?_
      refine pw_goto (pc := 34) hX 2 dX1_lowestUsableCell_34 (by decide) ?_
      exact pw_lv [0, 1] _ rfl (ih_k_1 (lt_s hy_k_1 (fun h => by rw [h.1] at ho_4; cases ho_4)))
set_option maxHeartbeats 4000000 in
set_option maxRecDepth 100000 in
theorem ct_completeCount (l : Launch) (hl : l.stackTraces = false) (G : pw_G) (M : pw_M) (ad : Nat → Nat) (n oc : Nat) (td sd : Int32) (dk to er : Nat → Int32) (os pl : Nat → Int32) (oo : Nat → Option Nat) (wa pr de : Nat → Nat → Int32) (hc : cw G ad n oc td sd dk to er os pl oo wa pr de M) : pw_Met l yX1_completeCount cX1_completeCount 4 (some .int) 6 0 0 G [.ref (ad 0)] M (fun v9 M9 => M = M9 ∧ v9 = some (.int (nI (od_ct (cc_b oo os) n)))) := by
  refine pw_of hl (by decide +kernel) (Nat.le_of_ble_eq_true rfl) [(0, .ref (ad 0))] rfl ?_
  intro p9 e9 s9 m9 args9 below9 meth9 c9 hX hrt hmi
  generalize hQ9 : MQ below9 _ args9 s9 _ _ _ = Q9
  refine pw_iconst (pc := 0) (v := 0) hX dX1_completeCount_0 (by decide) ?_
  refine pw_istore_n (pc := 1) hX [(1, .int 0), (0, .ref (ad 0))] dX1_completeCount_1 (by decide) rfl ?_
  refine pw_iconst (pc := 2) (v := 0) hX dX1_completeCount_2 (by decide) ?_
  refine pw_istore_n (pc := 3) hX [(2, .int 0), (1, .int 0), (0, .ref (ad 0))] dX1_completeCount_3 (by decide) rfl ?_
  refine pw_lp (P := fun k_1 => pw_W p9 l e9 (pw_rm 6 0 0) s9 m9 args9 below9 meth9 c9 Q9 G 4 M 0 0 4 [(2, .int (nI (k_1))), (1, .int (nI (od_ct (cc_b oo os) (k_1)))), (0, .ref (ad 0))] []) n ?_ ?_ 0 (Nat.zero_le _)
  · refine pw_iload_n (pc := 4) hX dX1_completeCount_4 0 rfl ?_
    refine pw_aload_n (pc := 5) hX dX1_completeCount_5 2 rfl ?_
    refine pw_get (pc := 6) hX dX1_completeCount_6 hc.1 rfl inT_1 2 (by decide) fl_RX1_41 rfl ?_
    refine pw_alen2 (pc := 9) hX dX1_completeCount_9 hc.2.2.1 rfl ?_
    refine pw_icmp_ge (pc := 10) hX 41 dX1_completeCount_10 (by decide) (fun hc_2 => ?_) (fun hc_2 => absurd (Int32.le_refl _) hc_2)
    refine pw_iload_n (pc := 41) hX dX1_completeCount_41 1 rfl ?_
    subst hQ9
    exact pw_iret hX dX1_completeCount_42 hrt ⟨by decide, by decide⟩ ⟨rfl, rfl⟩
  · intro k_1 hk_1 ih_k_1
    refine pw_iload_n (pc := 4) hX dX1_completeCount_4 0 rfl ?_
    refine pw_aload_n (pc := 5) hX dX1_completeCount_5 2 rfl ?_
    refine pw_get (pc := 6) hX dX1_completeCount_6 hc.1 rfl inT_1 2 (by decide) fl_RX1_41 rfl ?_
    refine pw_alen2 (pc := 9) hX dX1_completeCount_9 hc.2.2.1 rfl ?_
    refine pw_icmp_ge (pc := 10) hX 41 dX1_completeCount_10 (by decide) (fun hc_3 => absurd hc_3 (nI_ge (b := n) hk_1 (Nat.lt_of_le_of_lt (cw_n hc) (by decide)))) (fun hc_3 => ?_)
    refine pw_aload_n (pc := 13) hX dX1_completeCount_13 2 rfl ?_
    refine pw_get (pc := 14) hX dX1_completeCount_14 hc.1 rfl inT_1 2 (by decide) fl_RX1_41 rfl ?_
    refine pw_iload_n (pc := 17) hX dX1_completeCount_17 0 rfl ?_
    refine pw_aald (pc := 18) (j := k_1) hX dX1_completeCount_18 hc.2.2.1 hk_1 (Nat.lt_of_le_of_lt (cw_n hc) (by decide)) ?_
    rcases op_two (oo k_1) with ho_4 | ⟨j_5, ho_4⟩
    · refine pw_cg (vb := .null) (by show va_rf ((oo k_1).map _) = _; rw [ho_4]; rfl) ?_
      refine pw_astore_nN (pc := 19) hX [(3, .null), (2, .int (nI (k_1))), (1, .int (nI (od_ct (cc_b oo os) (k_1)))), (0, .ref (ad 0))] dX1_completeCount_19 (by decide) rfl ?_
      refine pw_aload_nN (pc := 20) hX dX1_completeCount_20 0 rfl ?_
      refine pw_ifnullN (pc := 21) hX 35 dX1_completeCount_21 (by decide) ?_
      refine pw_iinc (pc := 35) (v := nI ((k_1) + 1)) (j := 1) hX [(2, .int (nI ((k_1) + 1))), (3, .null), (1, .int (nI (od_ct (cc_b oo os) (k_1)))), (0, .ref (ad 0))] dX1_completeCount_35 rfl (nI_1 _) (by decide) rfl ?_
      refine pw_goto (pc := 38) hX 4 dX1_completeCount_38 (by decide) ?_
      rw [od_ct_f (b := cc_b oo os) (k := k_1) (cc_bn ho_4)] at ih_k_1
      exact pw_lv [0, 2, 3] _ rfl (ih_k_1)
    · have hj_5 : j_5 < oc := cw_oo hc k_1 j_5 hk_1 ho_4
      refine pw_cg (vb := .ref (ad (6 + 4 * j_5))) (by show va_rf ((oo k_1).map _) = _; rw [ho_4]; rfl) ?_
      refine pw_astore_n (pc := 19) hX [(3, .ref (ad (6 + 4 * j_5))), (2, .int (nI (k_1))), (1, .int (nI (od_ct (cc_b oo os) (k_1)))), (0, .ref (ad 0))] dX1_completeCount_19 (by decide) rfl ?_
      refine pw_aload_n (pc := 20) hX dX1_completeCount_20 0 rfl ?_
      refine pw_ifnull (pc := 21) hX dX1_completeCount_21  ?_
      refine pw_aload_n (pc := 24) hX dX1_completeCount_24 0 rfl ?_
      refine pw_get (pc := 25) hX dX1_completeCount_25 (cw_o hc j_5 hj_5).1 rfl inT_0 1 (by decide) fl_RX1_69 rfl ?_
      refine pw_iconst (pc := 28) (v := 2) hX dX1_completeCount_28 (by decide) ?_
      refine pw_icmp_ne (pc := 29) hX 35 dX1_completeCount_29 (by decide) (fun hc_6 => ?_) (fun hc_6 => ?_)
      · refine pw_iinc (pc := 35) (v := nI ((k_1) + 1)) (j := 1) hX [(2, .int (nI ((k_1) + 1))), (3, .ref (ad (6 + 4 * j_5))), (1, .int (nI (od_ct (cc_b oo os) (k_1)))), (0, .ref (ad 0))] dX1_completeCount_35 rfl (nI_1 _) (by decide) rfl ?_
        refine pw_goto (pc := 38) hX 4 dX1_completeCount_38 (by decide) ?_
        rw [od_ct_f (b := cc_b oo os) (k := k_1) ((cc_bs ho_4).trans (decide_eq_false hc_6))] at ih_k_1
        exact pw_lv [0, 2, 3] _ rfl (ih_k_1)
      · refine pw_iinc (pc := 32) (v := nI ((od_ct (cc_b oo os) (k_1)) + 1)) (j := 2) hX [(1, .int (nI ((od_ct (cc_b oo os) (k_1)) + 1))), (3, .ref (ad (6 + 4 * j_5))), (2, .int (nI (k_1))), (0, .ref (ad 0))] dX1_completeCount_32 rfl (nI_1 _) (by decide) rfl ?_
        refine pw_iinc (pc := 35) (v := nI ((k_1) + 1)) (j := 2) hX [(2, .int (nI ((k_1) + 1))), (1, .int (nI ((od_ct (cc_b oo os) (k_1)) + 1))), (3, .ref (ad (6 + 4 * j_5))), (0, .ref (ad 0))] dX1_completeCount_35 rfl (nI_1 _) (by decide) rfl ?_
        refine pw_goto (pc := 38) hX 4 dX1_completeCount_38 (by decide) ?_
        rw [od_ct_t (b := cc_b oo os) (k := k_1) ((cc_bs ho_4).trans (decide_eq_true hc_6))] at ih_k_1
        exact pw_lv [0, 1, 3] _ rfl (ih_k_1)
set_option maxHeartbeats 4000000 in
set_option maxRecDepth 100000 in
theorem ct_completeByCell (l : Launch) (hl : l.stackTraces = false) (G : pw_G) (M : pw_M) (ad : Nat → Nat) (n oc : Nat) (td sd : Int32) (dk to er : Nat → Int32) (os pl : Nat → Int32) (oo : Nat → Option Nat) (wa pr de : Nat → Nat → Int32) (hc : cw G ad n oc td sd dk to er os pl oo wa pr de M) (x : Nat) (hx : x < 2 ^ 31) : pw_Met l yX1_completeByCell cX1_completeByCell 5 (some .int) 6 0 0 G [.ref (ad 0), .int (nI x)] M (fun v9 M9 => M = M9 ∧ ((∃ i j, i < n ∧ oo i = some j ∧ os j = 2 ∧ od_ct (cc_b oo os) i = x ∧ v9 = some (.int (nI j))) ∨ v9 = some (.int (-1)) ∧ ∀ i, i < n → cc_b oo os i = true → ¬ od_ct (cc_b oo os) i = x)) := by
  refine pw_of hl (by decide +kernel) (Nat.le_of_ble_eq_true rfl) [(0, .ref (ad 0)), (1, .int (nI x))] rfl ?_
  intro p9 e9 s9 m9 args9 below9 meth9 c9 hX hrt hmi
  generalize hQ9 : MQ below9 _ args9 s9 _ _ _ = Q9
  refine pw_iconst (pc := 0) (v := 0) hX dX1_completeByCell_0 (by decide) ?_
  refine pw_istore_n (pc := 1) hX [(2, .int 0), (0, .ref (ad 0)), (1, .int (nI x))] dX1_completeByCell_1 (by decide) rfl ?_
  refine pw_iconst (pc := 2) (v := 0) hX dX1_completeByCell_2 (by decide) ?_
  refine pw_istore_n (pc := 3) hX [(3, .int 0), (2, .int 0), (0, .ref (ad 0)), (1, .int (nI x))] dX1_completeByCell_3 (by decide) rfl ?_
  refine pw_lp (P := fun k_1 => (∀ i, i < k_1 → cc_b oo os i = true → ¬ od_ct (cc_b oo os) i = x) → pw_W p9 l e9 (pw_rm 6 0 0) s9 m9 args9 below9 meth9 c9 Q9 G 5 M 0 0 4 [(3, .int (nI (k_1))), (2, .int (nI (od_ct (cc_b oo os) (k_1)))), (0, .ref (ad 0)), (1, .int (nI x))] []) n ?_ ?_ 0 (Nat.zero_le _) (fun g hg => absurd hg (Nat.not_lt_zero g))
  · intro hy_k_1
    refine pw_iload_n (pc := 4) hX dX1_completeByCell_4 0 rfl ?_
    refine pw_aload_n (pc := 5) hX dX1_completeByCell_5 2 rfl ?_
    refine pw_get (pc := 6) hX dX1_completeByCell_6 hc.1 rfl inT_1 2 (by decide) fl_RX1_41 rfl ?_
    refine pw_alen2 (pc := 9) hX dX1_completeByCell_9 hc.2.2.1 rfl ?_
    refine pw_icmp_ge (pc := 10) hX 55 dX1_completeByCell_10 (by decide) (fun hc_2 => ?_) (fun hc_2 => absurd (Int32.le_refl _) hc_2)
    refine pw_iconst (pc := 55) (v := (-1)) hX dX1_completeByCell_55 (by decide) ?_
    subst hQ9
    exact pw_iret hX dX1_completeByCell_56 hrt ⟨by decide, by decide⟩ ⟨rfl, Or.inr ⟨rfl, hy_k_1⟩⟩
  · intro k_1 hk_1 ih_k_1
    intro hy_k_1
    refine pw_iload_n (pc := 4) hX dX1_completeByCell_4 0 rfl ?_
    refine pw_aload_n (pc := 5) hX dX1_completeByCell_5 2 rfl ?_
    refine pw_get (pc := 6) hX dX1_completeByCell_6 hc.1 rfl inT_1 2 (by decide) fl_RX1_41 rfl ?_
    refine pw_alen2 (pc := 9) hX dX1_completeByCell_9 hc.2.2.1 rfl ?_
    refine pw_icmp_ge (pc := 10) hX 55 dX1_completeByCell_10 (by decide) (fun hc_3 => absurd hc_3 (nI_ge (b := n) hk_1 (Nat.lt_of_le_of_lt (cw_n hc) (by decide)))) (fun hc_3 => ?_)
    refine pw_aload_n (pc := 13) hX dX1_completeByCell_13 2 rfl ?_
    refine pw_get (pc := 14) hX dX1_completeByCell_14 hc.1 rfl inT_1 2 (by decide) fl_RX1_41 rfl ?_
    refine pw_iload_n (pc := 17) hX dX1_completeByCell_17 0 rfl ?_
    refine pw_aald (pc := 18) (j := k_1) hX dX1_completeByCell_18 hc.2.2.1 hk_1 (Nat.lt_of_le_of_lt (cw_n hc) (by decide)) ?_
    rcases op_two (oo k_1) with ho_4 | ⟨j_5, ho_4⟩
    · refine pw_cg (vb := .null) (by show va_rf ((oo k_1).map _) = _; rw [ho_4]; rfl) ?_
      refine pw_astoreN (pc := 19) hX [(4, .null), (3, .int (nI (k_1))), (2, .int (nI (od_ct (cc_b oo os) (k_1)))), (0, .ref (ad 0)), (1, .int (nI x))] dX1_completeByCell_19 (by decide) rfl ?_
      refine pw_aloadN (pc := 21) hX dX1_completeByCell_21 0 rfl ?_
      refine pw_ifnullN (pc := 23) hX 49 dX1_completeByCell_23 (by decide) ?_
      refine pw_iinc (pc := 49) (v := nI ((k_1) + 1)) (j := 1) hX [(3, .int (nI ((k_1) + 1))), (4, .null), (2, .int (nI (od_ct (cc_b oo os) (k_1)))), (0, .ref (ad 0)), (1, .int (nI x))] dX1_completeByCell_49 rfl (nI_1 _) (by decide) rfl ?_
      refine pw_goto (pc := 52) hX 4 dX1_completeByCell_52 (by decide) ?_
      rw [od_ct_f (b := cc_b oo os) (k := k_1) (cc_bn ho_4)] at ih_k_1
      exact pw_lv [0, 2, 3, 4] _ rfl (ih_k_1 (lt_s hy_k_1 (fun h => by rw [cc_bn ho_4] at h; cases h)))
    · have hj_5 : j_5 < oc := cw_oo hc k_1 j_5 hk_1 ho_4
      refine pw_cg (vb := .ref (ad (6 + 4 * j_5))) (by show va_rf ((oo k_1).map _) = _; rw [ho_4]; rfl) ?_
      refine pw_astore (pc := 19) hX [(4, .ref (ad (6 + 4 * j_5))), (3, .int (nI (k_1))), (2, .int (nI (od_ct (cc_b oo os) (k_1)))), (0, .ref (ad 0)), (1, .int (nI x))] dX1_completeByCell_19 (by decide) rfl ?_
      refine pw_aload (pc := 21) hX dX1_completeByCell_21 0 rfl ?_
      refine pw_ifnull (pc := 23) hX dX1_completeByCell_23  ?_
      refine pw_aload (pc := 26) hX dX1_completeByCell_26 0 rfl ?_
      refine pw_get (pc := 28) hX dX1_completeByCell_28 (cw_o hc j_5 hj_5).1 rfl inT_0 1 (by decide) fl_RX1_69 rfl ?_
      refine pw_iconst (pc := 31) (v := 2) hX dX1_completeByCell_31 (by decide) ?_
      refine pw_icmp_ne (pc := 32) hX 49 dX1_completeByCell_32 (by decide) (fun hc_6 => ?_) (fun hc_6 => ?_)
      · refine pw_iinc (pc := 49) (v := nI ((k_1) + 1)) (j := 1) hX [(3, .int (nI ((k_1) + 1))), (4, .ref (ad (6 + 4 * j_5))), (2, .int (nI (od_ct (cc_b oo os) (k_1)))), (0, .ref (ad 0)), (1, .int (nI x))] dX1_completeByCell_49 rfl (nI_1 _) (by decide) rfl ?_
        refine pw_goto (pc := 52) hX 4 dX1_completeByCell_52 (by decide) ?_
        rw [od_ct_f (b := cc_b oo os) (k := k_1) ((cc_bs ho_4).trans (decide_eq_false hc_6))] at ih_k_1
        exact pw_lv [0, 2, 3, 4] _ rfl (ih_k_1 (lt_s hy_k_1 (fun h => absurd (of_decide_eq_true ((cc_bs ho_4).symm.trans h)) hc_6)))
      · refine pw_iload_n (pc := 35) hX dX1_completeByCell_35 2 rfl ?_
        refine pw_iload_n (pc := 36) hX dX1_completeByCell_36 4 rfl ?_
        refine pw_icmp_ne (pc := 37) hX 46 dX1_completeByCell_37 (by decide) (fun hc_7 => ?_) (fun hc_7 => ?_)
        · refine pw_iinc (pc := 46) (v := nI ((od_ct (cc_b oo os) (k_1)) + 1)) (j := 2) hX [(2, .int (nI ((od_ct (cc_b oo os) (k_1)) + 1))), (4, .ref (ad (6 + 4 * j_5))), (3, .int (nI (k_1))), (0, .ref (ad 0)), (1, .int (nI x))] dX1_completeByCell_46 rfl (nI_1 _) (by decide) rfl ?_
          refine pw_iinc (pc := 49) (v := nI ((k_1) + 1)) (j := 2) hX [(3, .int (nI ((k_1) + 1))), (2, .int (nI ((od_ct (cc_b oo os) (k_1)) + 1))), (4, .ref (ad (6 + 4 * j_5))), (0, .ref (ad 0)), (1, .int (nI x))] dX1_completeByCell_49 rfl (nI_1 _) (by decide) rfl ?_
          refine pw_goto (pc := 52) hX 4 dX1_completeByCell_52 (by decide) ?_
          rw [od_ct_t (b := cc_b oo os) (k := k_1) ((cc_bs ho_4).trans (decide_eq_true hc_6))] at ih_k_1
          exact pw_lv [0, 1, 3, 4] _ rfl (ih_k_1 (lt_s hy_k_1 (fun _ h => hc_7 (by rw [h]))))
        · refine pw_aload (pc := 40) hX dX1_completeByCell_40 0 rfl ?_
          refine pw_get (pc := 42) hX dX1_completeByCell_42 (cw_o hc j_5 hj_5).1 rfl inT_0 0 (by decide) fl_RX1_183 rfl ?_
          subst hQ9
          exact pw_iret hX dX1_completeByCell_45 hrt ⟨by decide, by decide⟩ ⟨rfl, Or.inl ⟨k_1, j_5, hk_1, ho_4, hc_6, (nI_eq (Nat.lt_of_le_of_lt (od_ct_le _ _) (Nat.lt_trans hk_1 (Nat.lt_of_le_of_lt (cw_n hc) (by decide)))) hx).mp hc_7, rfl⟩⟩
set_option maxHeartbeats 4000000 in
set_option maxRecDepth 100000 in
theorem ct_freeCells (l : Launch) (hl : l.stackTraces = false) (G : pw_G) (M : pw_M) (ad : Nat → Nat) (n oc : Nat) (td sd : Int32) (dk to er : Nat → Int32) (os pl : Nat → Int32) (oo : Nat → Option Nat) (wa pr de : Nat → Nat → Int32) (hc : cw G ad n oc td sd dk to er os pl oo wa pr de M) : pw_Met l yX1_freeCells cX1_freeCells 3 (some .int) 6 0 0 G [.ref (ad 0)] M (fun v9 M9 => M = M9 ∧ v9 = some (.int (nI (od_ct (cc_f oo) n)))) := by
  refine pw_of hl (by decide +kernel) (Nat.le_of_ble_eq_true rfl) [(0, .ref (ad 0))] rfl ?_
  intro p9 e9 s9 m9 args9 below9 meth9 c9 hX hrt hmi
  generalize hQ9 : MQ below9 _ args9 s9 _ _ _ = Q9
  refine pw_iconst (pc := 0) (v := 0) hX dX1_freeCells_0 (by decide) ?_
  refine pw_istore_n (pc := 1) hX [(1, .int 0), (0, .ref (ad 0))] dX1_freeCells_1 (by decide) rfl ?_
  refine pw_iconst (pc := 2) (v := 0) hX dX1_freeCells_2 (by decide) ?_
  refine pw_istore_n (pc := 3) hX [(2, .int 0), (1, .int 0), (0, .ref (ad 0))] dX1_freeCells_3 (by decide) rfl ?_
  refine pw_lp (P := fun k_1 => pw_W p9 l e9 (pw_rm 6 0 0) s9 m9 args9 below9 meth9 c9 Q9 G 3 M 0 0 4 [(2, .int (nI (k_1))), (1, .int (nI (od_ct (cc_f oo) (k_1)))), (0, .ref (ad 0))] []) n ?_ ?_ 0 (Nat.zero_le _)
  · refine pw_iload_n (pc := 4) hX dX1_freeCells_4 0 rfl ?_
    refine pw_aload_n (pc := 5) hX dX1_freeCells_5 2 rfl ?_
    refine pw_get (pc := 6) hX dX1_freeCells_6 hc.1 rfl inT_1 2 (by decide) fl_RX1_41 rfl ?_
    refine pw_alen2 (pc := 9) hX dX1_freeCells_9 hc.2.2.1 rfl ?_
    refine pw_icmp_ge (pc := 10) hX 31 dX1_freeCells_10 (by decide) (fun hc_2 => ?_) (fun hc_2 => absurd (Int32.le_refl _) hc_2)
    refine pw_iload_n (pc := 31) hX dX1_freeCells_31 1 rfl ?_
    subst hQ9
    exact pw_iret hX dX1_freeCells_32 hrt ⟨by decide, by decide⟩ ⟨rfl, rfl⟩
  · intro k_1 hk_1 ih_k_1
    refine pw_iload_n (pc := 4) hX dX1_freeCells_4 0 rfl ?_
    refine pw_aload_n (pc := 5) hX dX1_freeCells_5 2 rfl ?_
    refine pw_get (pc := 6) hX dX1_freeCells_6 hc.1 rfl inT_1 2 (by decide) fl_RX1_41 rfl ?_
    refine pw_alen2 (pc := 9) hX dX1_freeCells_9 hc.2.2.1 rfl ?_
    refine pw_icmp_ge (pc := 10) hX 31 dX1_freeCells_10 (by decide) (fun hc_3 => absurd hc_3 (nI_ge (b := n) hk_1 (Nat.lt_of_le_of_lt (cw_n hc) (by decide)))) (fun hc_3 => ?_)
    refine pw_aload_n (pc := 13) hX dX1_freeCells_13 2 rfl ?_
    refine pw_get (pc := 14) hX dX1_freeCells_14 hc.1 rfl inT_1 2 (by decide) fl_RX1_41 rfl ?_
    refine pw_iload_n (pc := 17) hX dX1_freeCells_17 0 rfl ?_
    refine pw_aald (pc := 18) (j := k_1) hX dX1_freeCells_18 hc.2.2.1 hk_1 (Nat.lt_of_le_of_lt (cw_n hc) (by decide)) ?_
    rcases op_two (oo k_1) with ho_4 | ⟨j_5, ho_4⟩
    · refine pw_cg (vb := .null) (by show va_rf ((oo k_1).map _) = _; rw [ho_4]; rfl) ?_
      refine pw_ifnonnullN (pc := 19) hX dX1_freeCells_19  ?_
      refine pw_iinc (pc := 22) (v := nI ((od_ct (cc_f oo) (k_1)) + 1)) (j := 1) hX [(1, .int (nI ((od_ct (cc_f oo) (k_1)) + 1))), (2, .int (nI (k_1))), (0, .ref (ad 0))] dX1_freeCells_22 rfl (nI_1 _) (by decide) rfl ?_
      refine pw_iinc (pc := 25) (v := nI ((k_1) + 1)) (j := 1) hX [(2, .int (nI ((k_1) + 1))), (1, .int (nI ((od_ct (cc_f oo) (k_1)) + 1))), (0, .ref (ad 0))] dX1_freeCells_25 rfl (nI_1 _) (by decide) rfl ?_
      refine pw_goto (pc := 28) hX 4 dX1_freeCells_28 (by decide) ?_
      rw [od_ct_t (b := cc_f oo) (k := k_1) (by unfold cc_f; rw [ho_4]; rfl)] at ih_k_1
      exact pw_lv [0, 1, 2] _ rfl (ih_k_1)
    · have hj_5 : j_5 < oc := cw_oo hc k_1 j_5 hk_1 ho_4
      refine pw_cg (vb := .ref (ad (6 + 4 * j_5))) (by show va_rf ((oo k_1).map _) = _; rw [ho_4]; rfl) ?_
      refine pw_ifnonnull (pc := 19) hX 25 dX1_freeCells_19 (by decide) ?_
      refine pw_iinc (pc := 25) (v := nI ((k_1) + 1)) (j := 0) hX [(2, .int (nI ((k_1) + 1))), (1, .int (nI (od_ct (cc_f oo) (k_1)))), (0, .ref (ad 0))] dX1_freeCells_25 rfl (nI_1 _) (by decide) rfl ?_
      refine pw_goto (pc := 28) hX 4 dX1_freeCells_28 (by decide) ?_
      rw [od_ct_f (b := cc_f oo) (k := k_1) (by unfold cc_f; rw [ho_4]; rfl)] at ih_k_1
      exact pw_lv [0, 1, 2] _ rfl (ih_k_1)
set_option maxHeartbeats 4000000 in
set_option maxRecDepth 100000 in
theorem ct_piecesInCells (l : Launch) (hl : l.stackTraces = false) (G : pw_G) (M : pw_M) (ad : Nat → Nat) (n oc : Nat) (td sd : Int32) (dk to er : Nat → Int32) (os pl : Nat → Int32) (oo : Nat → Option Nat) (wa pr de : Nat → Nat → Int32) (hc : cw G ad n oc td sd dk to er os pl oo wa pr de M) : pw_Met l yX1_piecesInCells cX1_piecesInCells 4 (some .int) 4 0 0 G [.ref (ad 0)] M (fun v9 M9 => M = M9 ∧ v9 = some (.int (bx_sum (cc_s oo pr) n))) := by
  refine pw_of hl (by decide +kernel) (Nat.le_of_ble_eq_true rfl) [(0, .ref (ad 0))] rfl ?_
  intro p9 e9 s9 m9 args9 below9 meth9 c9 hX hrt hmi
  generalize hQ9 : MQ below9 _ args9 s9 _ _ _ = Q9
  refine pw_iconst (pc := 0) (v := 0) hX dX1_piecesInCells_0 (by decide) ?_
  refine pw_istore_n (pc := 1) hX [(1, .int 0), (0, .ref (ad 0))] dX1_piecesInCells_1 (by decide) rfl ?_
  refine pw_iconst (pc := 2) (v := 0) hX dX1_piecesInCells_2 (by decide) ?_
  refine pw_istore_n (pc := 3) hX [(2, .int 0), (1, .int 0), (0, .ref (ad 0))] dX1_piecesInCells_3 (by decide) rfl ?_
  refine pw_lp (P := fun k_1 => pw_W p9 l e9 (pw_rm 4 0 0) s9 m9 args9 below9 meth9 c9 Q9 G 4 M 0 0 4 [(2, .int (nI (k_1))), (1, .int (bx_sum (cc_s oo pr) (k_1))), (0, .ref (ad 0))] []) n ?_ ?_ 0 (Nat.zero_le _)
  · refine pw_iload_n (pc := 4) hX dX1_piecesInCells_4 0 rfl ?_
    refine pw_aload_n (pc := 5) hX dX1_piecesInCells_5 2 rfl ?_
    refine pw_get (pc := 6) hX dX1_piecesInCells_6 hc.1 rfl inT_1 2 (by decide) fl_RX1_41 rfl ?_
    refine pw_alen2 (pc := 9) hX dX1_piecesInCells_9 hc.2.2.1 rfl ?_
    refine pw_icmp_ge (pc := 10) hX 37 dX1_piecesInCells_10 (by decide) (fun hc_2 => ?_) (fun hc_2 => absurd (Int32.le_refl _) hc_2)
    refine pw_iload_n (pc := 37) hX dX1_piecesInCells_37 1 rfl ?_
    subst hQ9
    exact pw_iret hX dX1_piecesInCells_38 hrt ⟨by decide, by decide⟩ ⟨rfl, rfl⟩
  · intro k_1 hk_1 ih_k_1
    refine pw_iload_n (pc := 4) hX dX1_piecesInCells_4 0 rfl ?_
    refine pw_aload_n (pc := 5) hX dX1_piecesInCells_5 2 rfl ?_
    refine pw_get (pc := 6) hX dX1_piecesInCells_6 hc.1 rfl inT_1 2 (by decide) fl_RX1_41 rfl ?_
    refine pw_alen2 (pc := 9) hX dX1_piecesInCells_9 hc.2.2.1 rfl ?_
    refine pw_icmp_ge (pc := 10) hX 37 dX1_piecesInCells_10 (by decide) (fun hc_3 => absurd hc_3 (nI_ge (b := n) hk_1 (Nat.lt_of_le_of_lt (cw_n hc) (by decide)))) (fun hc_3 => ?_)
    refine pw_aload_n (pc := 13) hX dX1_piecesInCells_13 2 rfl ?_
    refine pw_get (pc := 14) hX dX1_piecesInCells_14 hc.1 rfl inT_1 2 (by decide) fl_RX1_41 rfl ?_
    refine pw_iload_n (pc := 17) hX dX1_piecesInCells_17 0 rfl ?_
    refine pw_aald (pc := 18) (j := k_1) hX dX1_piecesInCells_18 hc.2.2.1 hk_1 (Nat.lt_of_le_of_lt (cw_n hc) (by decide)) ?_
    rcases op_two (oo k_1) with ho_4 | ⟨j_5, ho_4⟩
    · refine pw_cg (vb := .null) (by show va_rf ((oo k_1).map _) = _; rw [ho_4]; rfl) ?_
      refine pw_astore_nN (pc := 19) hX [(3, .null), (2, .int (nI (k_1))), (1, .int (bx_sum (cc_s oo pr) (k_1))), (0, .ref (ad 0))] dX1_piecesInCells_19 (by decide) rfl ?_
      refine pw_aload_nN (pc := 20) hX dX1_piecesInCells_20 0 rfl ?_
      refine pw_ifnullN (pc := 21) hX 31 dX1_piecesInCells_21 (by decide) ?_
      refine pw_iinc (pc := 31) (v := nI ((k_1) + 1)) (j := 1) hX [(2, .int (nI ((k_1) + 1))), (3, .null), (1, .int (bx_sum (cc_s oo pr) (k_1))), (0, .ref (ad 0))] dX1_piecesInCells_31 rfl (nI_1 _) (by decide) rfl ?_
      refine pw_goto (pc := 34) hX 4 dX1_piecesInCells_34 (by decide) ?_
      rw [show bx_sum (cc_s oo pr) (k_1 + 1) = bx_sum (cc_s oo pr) k_1 from by show _ + cc_s oo pr k_1 = _; rw [cc_sn ho_4, Int32.add_zero]] at ih_k_1
      exact pw_lv [0, 2, 3] _ rfl (ih_k_1)
    · have hj_5 : j_5 < oc := cw_oo hc k_1 j_5 hk_1 ho_4
      refine pw_cg (vb := .ref (ad (6 + 4 * j_5))) (by show va_rf ((oo k_1).map _) = _; rw [ho_4]; rfl) ?_
      refine pw_astore_n (pc := 19) hX [(3, .ref (ad (6 + 4 * j_5))), (2, .int (nI (k_1))), (1, .int (bx_sum (cc_s oo pr) (k_1))), (0, .ref (ad 0))] dX1_piecesInCells_19 (by decide) rfl ?_
      refine pw_aload_n (pc := 20) hX dX1_piecesInCells_20 0 rfl ?_
      refine pw_ifnull (pc := 21) hX dX1_piecesInCells_21  ?_
      refine pw_iload_n (pc := 24) hX dX1_piecesInCells_24 2 rfl ?_
      refine pw_aload_n (pc := 25) hX dX1_piecesInCells_25 0 rfl ?_
      refine pw_callV (pc := 26) (st := [.int (bx_sum (cc_s oo pr) (k_1))]) hX (ct_allPresent l hl G M (ad (6 + 4 * j_5)) (ad (7 + 4 * j_5)) (ad (8 + 4 * j_5)) (ad (9 + 4 * j_5)) (nI j_5) (os j_5) (pl j_5) (wa j_5) (pr j_5) (de j_5) (cw_o hc j_5 hj_5)) (cw_o hc j_5 hj_5).1 rfl ok_X0_allPresent lk_RX1_141 dX1_piecesInCells_26 rfl ⟨⟨by decide, by decide⟩, Nat.le_of_ble_eq_true rfl, Nat.le_of_ble_eq_true rfl, Nat.le_of_ble_eq_true rfl⟩ rfl (fun v9 M9 hp9 => ?_)
      obtain ⟨rfl, rfl⟩ := hp9
      refine pw_iadd (pc := 29) (z := bx_sum (cc_s oo pr) (k_1 + 1)) hX dX1_piecesInCells_29 (by show _ = _ + cc_s oo pr _; rw [cc_ss ho_4]) ?_
      refine pw_istore_n (pc := 30) hX [(1, .int (bx_sum (cc_s oo pr) (k_1 + 1))), (3, .ref (ad (6 + 4 * j_5))), (2, .int (nI (k_1))), (0, .ref (ad 0))] dX1_piecesInCells_30 (by decide) rfl ?_
      refine pw_iinc (pc := 31) (v := nI ((k_1) + 1)) (j := 2) hX [(2, .int (nI ((k_1) + 1))), (1, .int (bx_sum (cc_s oo pr) (k_1 + 1))), (3, .ref (ad (6 + 4 * j_5))), (0, .ref (ad 0))] dX1_piecesInCells_31 rfl (nI_1 _) (by decide) rfl ?_
      refine pw_goto (pc := 34) hX 4 dX1_piecesInCells_34 (by decide) ?_
      exact pw_lv [0, 1, 3] _ rfl (ih_k_1)
end
section
theorem fl_RX1_19 : Cond.fieldLink RX1 19 (TX1 4).1 (TX1 4).2.1 (TX1 4).2.2.1 ∈ pw_T := pw_memT (by decide +kernel) (by decide +kernel)
theorem ok_X1_existing : pw_ok yX1_existing cX1_existing 3 (some (.object "PutWall$Order")) 1 := ⟨pw_memT (by decide +kernel) (by decide +kernel), pw_memT (by decide +kernel) (by decide +kernel), by decide +kernel, by decide +kernel, by decide +kernel, by decide +kernel⟩
theorem lk_RX1_65 : Cond.methodLink RX1 65 yX1_existing ∈ pw_T ∧ Cond.instanceMethod yX1_existing ∈ pw_T ∧ Cond.selects RX1 yX1_existing yX1_existing ∈ pw_T := ⟨pw_memT (by decide +kernel) (by decide +kernel), pw_memT (by decide +kernel) (by decide +kernel), pw_memT (by decide +kernel) (by decide +kernel)⟩
theorem ok_X1_requireState : pw_ok yX1_requireState cX1_requireState 1 none 1 := ⟨pw_memT (by decide +kernel) (by decide +kernel), pw_memT (by decide +kernel) (by decide +kernel), by decide +kernel, by decide +kernel, by decide +kernel, by decide +kernel⟩
theorem lk_RX1_76 : Cond.methodLink RX1 76 yX1_requireState ∈ pw_T ∧ Cond.static yX1_requireState ∈ pw_T := ⟨pw_memT (by decide +kernel) (by decide +kernel), pw_memT (by decide +kernel) (by decide +kernel)⟩
theorem fl_RX1_80 : Cond.fieldLink RX1 80 (TX0 3).1 (TX0 3).2.1 (TX0 3).2.2.1 ∈ pw_T := pw_memT (by decide +kernel) (by decide +kernel)
end
section
/-! ===== the wall's public methods: when each is refused ===== -/
section PWL
variable {p : Program} {l : Launch} {e : Env} {R : Room} {s : State} {m : MethodId} {args : Array Value} {below : List Frame} {meth : Method} {c : Code} {Q : State → Prop} {G : pw_G} {cc : ByteArray} {nL : Nat} {own : String} {M : pw_M} {cells slots pc : Nat} {lv : List (Nat × Value)} {st : List Value}
theorem pw_ldc (X : pw_Cx p l s m args meth c G cc nL own) {index : Nat} {v : Int32} (hd : decode cc pc = .ok (.ldc index, 2)) (hw : Cond.constant own index v ∈ pw_T) (kk : pw_W p l e R s m args below meth c Q G nL M cells slots (pc + 2) lv (.int v :: st)) : pw_W p l e R s m args below meth c Q G nL M cells slots pc lv st := fun H locs ls h1 h2 h3 => lv_ldc X.1 X.2.1 X.2.2.2.1 (X.2.2.2.2.1 _ hw) hd (kk H locs ls h1 h2 h3)
end PWL
def ix (x : Int32) : Nat := x.toNatClampNeg
theorem ix_nI {j : Nat} (h : j < 2 ^ 31) : ix (nI j) = j := nI_clamp h
theorem pc1_0 {A : Prop} (a : ¬ A) : pc_if A 1 0 = 0 := pc_f a
theorem pc1_1 {A : Prop} (a : A) : pc_if A 1 0 = 1 := pc_t a
theorem pc2_0 {A B : Prop} (a : ¬ A) (b : ¬ B) : pc_if A 1 (pc_if B 2 0) = 0 := by rw [pc_f a, pc_f b]
theorem pc2_2 {A B : Prop} (a : ¬ A) (b : B) : pc_if A 1 (pc_if B 2 0) = 2 := by rw [pc_f a, pc_t b]
theorem pc3_0 {A B C : Prop} (a : ¬ A) (b : ¬ B) (c : ¬ C) : pc_if A 1 (pc_if B 2 (pc_if C 3 0)) = 0 := by rw [pc_f a, pc_f b, pc_f c]
theorem pc3_2 {A B : Prop} {x : Int32} (a : ¬ A) (b : B) : pc_if A 1 (pc_if B 2 x) = 2 := by rw [pc_f a, pc_t b]
theorem pc3_3 {A B C : Prop} (a : ¬ A) (b : ¬ B) (c : C) : pc_if A 1 (pc_if B 2 (pc_if C 3 0)) = 3 := by rw [pc_f a, pc_f b, pc_t c]
theorem pc5_0 {A B C D F : Prop} (a : ¬ A) (b : ¬ B) (c : ¬ C) (d : ¬ D) (f : ¬ F) : pc_if A 1 (pc_if B 2 (pc_if C 1 (pc_if D 2 (pc_if F 3 0)))) = 0 := by rw [pc_f a, pc_f b, pc_f c, pc_f d, pc_f f]
theorem pc5_3 {A B C : Prop} {x : Int32} (a : ¬ A) (b : ¬ B) (c : C) : pc_if A 1 (pc_if B 2 (pc_if C 1 x)) = 1 := by rw [pc_f a, pc_f b, pc_t c]
theorem pc5_4 {A B C D : Prop} {x : Int32} (a : ¬ A) (b : ¬ B) (c : ¬ C) (d : D) : pc_if A 1 (pc_if B 2 (pc_if C 1 (pc_if D 2 x))) = 2 := by rw [pc_f a, pc_f b, pc_f c, pc_t d]
theorem pc5_5 {A B C D F : Prop} (a : ¬ A) (b : ¬ B) (c : ¬ C) (d : ¬ D) (f : F) : pc_if A 1 (pc_if B 2 (pc_if C 1 (pc_if D 2 (pc_if F 3 0)))) = 3 := by rw [pc_f a, pc_f b, pc_f c, pc_f d, pc_t f]
noncomputable def cd_tote (p0 p1 : Int32) : Int32 := pc_if (¬ (ir p0 10 ∧ 1 ≤ p1 ∧ p1 ≤ 100)) 1 0
noncomputable def cd_order (oc : Nat) : Int32 := pc_if (oc = 20) 1 0
noncomputable def cd_line (oc : Nat) (os : Nat → Int32) (wa : Nat → Nat → Int32) (p0 p1 p2 : Int32) : Int32 := pc_if (¬ ir p0 oc) 1 (pc_if (¬ (ir p1 10 ∧ 1 ≤ p2 ∧ p2 ≤ 9)) 2 (pc_if (¬ (os (ix p0) = 0 ∧ ¬ 0 < wa (ix p0) (ix p1))) 3 0))
noncomputable def cd_cell (oc : Nat) (os : Nat → Int32) (wa : Nat → Nat → Int32) (p0 : Int32) : Int32 := pc_if (¬ ir p0 oc) 1 (pc_if (¬ (os (ix p0) = 0 ∧ 0 < od_ct (od_has (wa (ix p0))) 10)) 2 0)
noncomputable def cd_light (n : Nat) (p0 : Int32) : Int32 := pc_if (¬ ir p0 n) 1 0
noncomputable def cd_scan (n : Nat) (p0 p1 p2 : Int32) : Int32 := pc_if (¬ ir p0 n) 1 (pc_if (¬ (ir p1 10 ∧ ir p2 8)) 2 0)
def ud (oo : Nat → Option Nat) (os : Nat → Int32) (pr : Nat → Nat → Int32) (c g : Nat) : Prop := ∀ j, oo c = some j → os j = 2 ∨ pr j g = 0
noncomputable def cd_undo (n : Nat) (oo : Nat → Option Nat) (os : Nat → Int32) (pr : Nat → Nat → Int32) (p0 p1 : Int32) : Int32 := pc_if (¬ ir p0 n) 1 (pc_if (¬ ir p1 10) 2 (pc_if (ud oo os pr (ix p0) (ix p1)) 3 0))
noncomputable def cd_miss (oc : Nat) (os : Nat → Int32) (wa pr : Nat → Nat → Int32) (p0 p1 p2 : Int32) : Int32 := pc_if (¬ ir p0 oc) 1 (pc_if (¬ ir p1 10) 2 (pc_if (¬ 0 < wa (ix p0) (ix p1)) 1 (pc_if (¬ (0 ≤ p2 ∧ p2 ≤ 10000)) 2 (pc_if (¬ (os (ix p0) = 1 ∧ 0 < wa (ix p0) (ix p1) - pr (ix p0) (ix p1))) 3 0))))
noncomputable def cd_day (td p0 : Int32) : Int32 := pc_if (¬ (0 ≤ p0 ∧ p0 ≤ 10000)) 1 (pc_if (p0 < td) 2 0)
noncomputable def cd_change (oc : Nat) (os : Nat → Int32) (wa : Nat → Nat → Int32) (p0 p1 p2 : Int32) : Int32 := pc_if (¬ ir p0 oc) 1 (pc_if (¬ ir p1 10) 2 (pc_if (¬ 0 < wa (ix p0) (ix p1)) 1 (pc_if (¬ (0 ≤ p2 ∧ p2 ≤ 9)) 2 (pc_if (¬ ((os (ix p0) = 0 ∨ os (ix p0) = 1) ∧ ¬ (p2 = 0 ∧ os (ix p0) = 1 ∧ od_ct (od_has (wa (ix p0))) 10 = 1))) 3 0))))
noncomputable def cd_complete (oc : Nat) (os : Nat → Int32) (p0 : Int32) : Int32 := pc_if (¬ ir p0 oc) 1 (pc_if (¬ os (ix p0) = 1) 2 0)
noncomputable def cd_release (n : Nat) (oo : Nat → Option Nat) (p0 : Int32) : Int32 := pc_if (¬ ir p0 n) 1 (pc_if (oo (ix p0) = none) 2 0)
noncomputable def cd_seed (p0 : Int32) : Int32 := pc_if (¬ 0 ≤ p0) 1 0
noncomputable def cd_told (oc : Nat) (p0 p1 : Int32) : Int32 := pc_if (¬ ir p0 oc) 1 (pc_if (¬ ir p1 6) 2 0)
noncomputable def cd_piece (oc : Nat) (wa : Nat → Nat → Int32) (p0 p1 p2 : Int32) : Int32 := pc_if (¬ ir p0 oc) 1 (pc_if (¬ ir p1 10) 2 (pc_if (¬ 0 < wa (ix p0) (ix p1)) 1 (pc_if (¬ ir p2 3) 2 0)))
noncomputable def cd_errors (p0 : Int32) : Int32 := pc_if (¬ ir p0 8) 1 0
/-- the answer of a scan into the cell of the order j -/
noncomputable def sc_r (dkc w p s t : Int32) : Int32 := pc_if (¬ dkc = 0) (-2) (pc_if (¬ 0 < w) (-3) (pc_if (w - p = 0 ∨ s = 2) (-4) (pc_if (t = 0) (-5) 1)))
theorem pw_ld (f : Nat → Int32) (k : Nat) (x : Int32) : upd f k x k = x := if_pos rfl
set_option maxHeartbeats 4000000 in
set_option maxRecDepth 100000 in
theorem cp_tote (l : Launch) (hl : l.stackTraces = false) (G : pw_G) (M : pw_M) (ad : Nat → Nat) (n oc : Nat) (td sd : Int32) (dk to er : Nat → Int32) (os pl : Nat → Int32) (oo : Nat → Option Nat) (wa pr de : Nat → Nat → Int32) (hc : cw G ad n oc td sd dk to er os pl oo wa pr de M) (p0 p1 : Int32) : pw_XMet l yX1_tote cX1_tote 3 (some .int) 3 2 12 G [.ref (ad 0), .int p0, .int p1] M (fun v9 M9 => cd_tote p0 p1 = 0 ∧ v9 = some (.int (to (ix p0) + p1)) ∧ cw G ad n oc td sd dk (upd to (ix p0) (to (ix p0) + p1)) er os pl oo wa pr de M9 ∧ fm ad (6 + 4 * oc) M M9) (fun E9 M9 => M = M9 ∧ (E9 = "java/lang/IllegalArgumentException" ∧ cd_tote p0 p1 = 1)) := by
  refine pw_ofx hl (by decide +kernel) (Nat.le_of_ble_eq_true rfl) [(0, .ref (ad 0)), (1, .int p0), (2, .int p1)] rfl ?_
  intro p9 e9 s9 m9 args9 below9 meth9 c9 hX hrt hex
  refine pw_iload_n (pc := 0) hX dX1_tote_0 1 rfl ?_
  refine pw_callSx (pc := 1) (st := []) hX (ct_requireGood l hl G M p0) ok_X1_requireGood lk_RX1_48 dX1_tote_1 rfl ⟨⟨by decide, by decide⟩, Nat.le_of_ble_eq_true rfl, Nat.le_of_ble_eq_true rfl, Nat.le_of_ble_eq_true rfl⟩ rfl (fun E9 M9 hx9 => ?_) (fun v9 M9 hp9 => ?_)
  · obtain ⟨rfl, rfl, hno⟩ := hx9
    exact pw_out hX hex ⟨Nat.le_of_ble_eq_true rfl, Nat.le_of_ble_eq_true rfl⟩ (⟨rfl, rfl, pc1_1 (fun h => hno h.1)⟩)
  obtain ⟨rfl, rfl, g, hg, rfl⟩ := hp9
  have hgB : g < 2 ^ 31 := Nat.lt_of_lt_of_le hg (by decide)
  refine pw_iload_n (pc := 4) hX dX1_tote_4 2 rfl ?_
  refine pw_iconst (pc := 5) (v := 1) hX dX1_tote_5 (by decide) ?_
  refine pw_bipush (pc := 6) (v := 100) hX dX1_tote_6 (by decide) ?_
  refine pw_callSx (pc := 8) (st := []) hX (ct_requireRange l hl G M p1 1 100) ok_X1_requireRange lk_RX1_52 dX1_tote_8 rfl ⟨⟨by decide, by decide⟩, Nat.le_of_ble_eq_true rfl, Nat.le_of_ble_eq_true rfl, Nat.le_of_ble_eq_true rfl⟩ rfl (fun E9 M9 hx9 => ?_) (fun v9 M9 hp9 => ?_)
  · obtain ⟨rfl, rfl, hno⟩ := hx9
    exact pw_out hX hex ⟨Nat.le_of_ble_eq_true rfl, Nat.le_of_ble_eq_true rfl⟩ (⟨rfl, rfl, pc1_1 (fun h => hno h.2)⟩)
  obtain ⟨rfl, rfl, hlo, hhi⟩ := hp9
  refine pw_aload_n (pc := 11) hX dX1_tote_11 0 rfl ?_
  refine pw_get (pc := 12) hX dX1_tote_12 hc.1 rfl inT_1 4 (by decide) fl_RX1_19 rfl ?_
  refine pw_iload_n (pc := 15) hX dX1_tote_15 1 rfl ?_
  refine pw_dup2 (pc := 16) hX dX1_tote_16 rfl rfl ?_
  refine pw_iald (pc := 17) (j := g) hX dX1_tote_17 hc.2.2.2.2.1 hg (by decide) ?_
  refine pw_iload_n (pc := 18) hX dX1_tote_18 2 rfl ?_
  refine pw_iadd (pc := 19) (z := (to g) + p1) hX dX1_tote_19 rfl ?_
  refine pw_iast (pc := 20) (j := g) hX dX1_tote_20 hc.2.2.2.2.1 hg (by decide) ?_
  have hm_1 := pw_ke (a := ad 4) (e := .inl (G.2.2.1 0, 10, .inl (upd to g ((to g) + p1)))) hc.1 (cw_ne hc (x := 0) (y := 4) (by omega) (by omega) (by omega))
  have hm_2 := pw_ke (a := ad 4) (e := .inl (G.2.2.1 0, 10, .inl (upd to g ((to g) + p1)))) hc.2.1 (cw_ne hc (x := 1) (y := 4) (by omega) (by omega) (by omega))
  have hm_3 := pw_ke (a := ad 4) (e := .inl (G.2.2.1 0, 10, .inl (upd to g ((to g) + p1)))) hc.2.2.1 (cw_ne hc (x := 2) (y := 4) (by omega) (by omega) (by omega))
  have hm_4 := pw_ke (a := ad 4) (e := .inl (G.2.2.1 0, 10, .inl (upd to g ((to g) + p1)))) hc.2.2.2.1 (cw_ne hc (x := 3) (y := 4) (by omega) (by omega) (by omega))
  have hm_5 := pw_ke (a := ad 4) (e := .inl (G.2.2.1 0, 10, .inl (upd to g ((to g) + p1)))) hc.2.2.2.2.2.1 (cw_ne hc (x := 5) (y := 4) (by omega) (by omega) (by omega))
  have hm_6 : pw_up M (ad 4) (.inl (G.2.2.1 0, 10, .inl (upd to g ((to g) + p1)))) (ad 4) = some (.inl (G.2.2.1 0, 10, .inl (upd to g ((to g) + p1)))) := pw_us
  refine pw_aload_n (pc := 21) hX dX1_tote_21 0 rfl ?_
  refine pw_get (pc := 22) hX dX1_tote_22 hm_1 rfl inT_1 4 (by decide) fl_RX1_19 rfl ?_
  refine pw_iload_n (pc := 25) hX dX1_tote_25 1 rfl ?_
  refine pw_iald (pc := 26) (j := g) hX dX1_tote_26 hm_6 hg (by decide) ?_
  exact pw_iretx hX dX1_tote_27 hrt ⟨by decide, by decide⟩ (by rw [ix_nI hgB]; exact ⟨pc1_0 (fun h => h ⟨ir_nI hg, hlo, hhi⟩), congrArg some (congrArg Value.int (pw_ld _ _ _)), (cw_to hc _), (fm_up fm_rf (x := 4) (by omega) _)⟩)
set_option maxHeartbeats 4000000 in
set_option maxRecDepth 100000 in
theorem cp_line (l : Launch) (hl : l.stackTraces = false) (G : pw_G) (M : pw_M) (ad : Nat → Nat) (n oc : Nat) (td sd : Int32) (dk to er : Nat → Int32) (os pl : Nat → Int32) (oo : Nat → Option Nat) (wa pr de : Nat → Nat → Int32) (hc : cw G ad n oc td sd dk to er os pl oo wa pr de M) (p0 p1 p2 : Int32) : pw_XMet l yX1_line cX1_line 5 none 3 4 24 G [.ref (ad 0), .int p0, .int p1, .int p2] M (fun v9 M9 => cd_line oc os wa p0 p1 p2 = 0 ∧ v9 = none ∧ cw G ad n oc td sd dk to er os pl oo (va_up wa (ix p0) (upd (wa (ix p0)) (ix p1) p2)) pr de M9 ∧ fm ad (6 + 4 * oc) M M9) (fun E9 M9 => M = M9 ∧ (E9 = "java/util/NoSuchElementException" ∧ cd_line oc os wa p0 p1 p2 = 1 ∨ E9 = "java/lang/IllegalArgumentException" ∧ cd_line oc os wa p0 p1 p2 = 2 ∨ E9 = "java/lang/IllegalStateException" ∧ cd_line oc os wa p0 p1 p2 = 3)) := by
  refine pw_ofx hl (by decide +kernel) (Nat.le_of_ble_eq_true rfl) [(0, .ref (ad 0)), (1, .int p0), (2, .int p1), (3, .int p2)] rfl ?_
  intro p9 e9 s9 m9 args9 below9 meth9 c9 hX hrt hex
  refine pw_aload_n (pc := 0) hX dX1_line_0 0 rfl ?_
  refine pw_iload_n (pc := 1) hX dX1_line_1 1 rfl ?_
  refine pw_callVx (pc := 2) (st := []) hX (ct_existing l hl G M ad n oc td sd dk to er os pl oo wa pr de hc p0) hc.1 rfl ok_X1_existing lk_RX1_65 dX1_line_2 rfl ⟨⟨by decide, by decide⟩, Nat.le_of_ble_eq_true rfl, Nat.le_of_ble_eq_true rfl, Nat.le_of_ble_eq_true rfl⟩ rfl (fun E9 M9 hx9 => ?_) (fun v9 M9 hp9 => ?_)
  · obtain ⟨rfl, rfl, hno⟩ := hx9
    exact pw_out hX hex ⟨Nat.le_of_ble_eq_true rfl, Nat.le_of_ble_eq_true rfl⟩ (⟨rfl, Or.inl (⟨rfl, pc_t hno⟩)⟩)
  obtain ⟨rfl, j, hj, rfl, rfl⟩ := hp9
  have hjB : j < 2 ^ 31 := Nat.lt_of_lt_of_le hj (Nat.le_trans (cw_oc hc) (by decide))
  refine pw_astore (pc := 5) hX [(4, .ref (ad (6 + 4 * j))), (0, .ref (ad 0)), (1, .int (nI j)), (2, .int p1), (3, .int p2)] dX1_line_5 (by decide) rfl ?_
  refine pw_iload_n (pc := 7) hX dX1_line_7 3 rfl ?_
  refine pw_callSx (pc := 8) (st := []) hX (ct_requireGood l hl G M p1) ok_X1_requireGood lk_RX1_48 dX1_line_8 rfl ⟨⟨by decide, by decide⟩, Nat.le_of_ble_eq_true rfl, Nat.le_of_ble_eq_true rfl, Nat.le_of_ble_eq_true rfl⟩ rfl (fun E9 M9 hx9 => ?_) (fun v9 M9 hp9 => ?_)
  · obtain ⟨rfl, rfl, hno⟩ := hx9
    exact pw_out hX hex ⟨Nat.le_of_ble_eq_true rfl, Nat.le_of_ble_eq_true rfl⟩ (⟨rfl, Or.inr (Or.inl (⟨rfl, pc3_2 (fun h => h (ir_nI hj)) (fun h => hno h.1)⟩))⟩)
  obtain ⟨rfl, rfl, g, hg, rfl⟩ := hp9
  have hgB : g < 2 ^ 31 := Nat.lt_of_lt_of_le hg (by decide)
  refine pw_iload_n (pc := 11) hX dX1_line_11 4 rfl ?_
  refine pw_iconst (pc := 12) (v := 1) hX dX1_line_12 (by decide) ?_
  refine pw_bipush (pc := 13) (v := 9) hX dX1_line_13 (by decide) ?_
  refine pw_callSx (pc := 15) (st := []) hX (ct_requireRange l hl G M p2 1 9) ok_X1_requireRange lk_RX1_52 dX1_line_15 rfl ⟨⟨by decide, by decide⟩, Nat.le_of_ble_eq_true rfl, Nat.le_of_ble_eq_true rfl, Nat.le_of_ble_eq_true rfl⟩ rfl (fun E9 M9 hx9 => ?_) (fun v9 M9 hp9 => ?_)
  · obtain ⟨rfl, rfl, hno⟩ := hx9
    exact pw_out hX hex ⟨Nat.le_of_ble_eq_true rfl, Nat.le_of_ble_eq_true rfl⟩ (⟨rfl, Or.inr (Or.inl (⟨rfl, pc3_2 (fun h => h (ir_nI hj)) (fun h => hno h.2)⟩))⟩)
  obtain ⟨rfl, rfl, hlo, hhi⟩ := hp9
  refine pw_aload (pc := 18) hX dX1_line_18 0 rfl ?_
  refine pw_get (pc := 20) hX dX1_line_20 (cw_o hc j hj).1 rfl inT_0 1 (by decide) fl_RX1_69 rfl ?_
  refine pw_if_ne (pc := 23) hX 39 dX1_line_23 (by decide) (fun hc_1 => ?_) (fun hc_1 => ?_)
  · refine pw_iconst (pc := 39) (v := 0) hX dX1_line_39 (by decide) ?_
    refine pw_callSx (pc := 40) (st := []) hX (ct_requireState l hl G M 0) ok_X1_requireState lk_RX1_76 dX1_line_40 rfl ⟨⟨by decide, by decide⟩, Nat.le_of_ble_eq_true rfl, Nat.le_of_ble_eq_true rfl, Nat.le_of_ble_eq_true rfl⟩ rfl (fun E9 M9 hx9 => ?_) (fun v9 M9 hp9 => absurd rfl hp9.2.2)
    obtain ⟨rfl, rfl, -⟩ := hx9
    exact pw_out hX hex ⟨Nat.le_of_ble_eq_true rfl, Nat.le_of_ble_eq_true rfl⟩ ⟨rfl, Or.inr (Or.inr (⟨rfl, pc3_3 (fun h => h (ir_nI hj)) (fun h => h ⟨ir_nI hg, hlo, hhi⟩) (fun h => by rw [ix_nI hjB, ix_nI hgB] at h; exact hc_1 h.1)⟩))⟩
  · refine pw_aload (pc := 26) hX dX1_line_26 0 rfl ?_
    refine pw_iload_n (pc := 28) hX dX1_line_28 3 rfl ?_
    refine pw_callV (pc := 29) (st := []) hX (ct_hasLine l hl G M (ad (6 + 4 * j)) (ad (7 + 4 * j)) (ad (8 + 4 * j)) (ad (9 + 4 * j)) (nI j) (os j) (pl j) (wa j) (pr j) (de j) (cw_o hc j hj) g hg) (cw_o hc j hj).1 rfl ok_X0_hasLine lk_RX1_72 dX1_line_29 rfl ⟨⟨by decide, by decide⟩, Nat.le_of_ble_eq_true rfl, Nat.le_of_ble_eq_true rfl, Nat.le_of_ble_eq_true rfl⟩ rfl (fun v9 M9 hp9 => ?_)
    obtain ⟨rfl, rfl⟩ := hp9
    refine pw_if_ne (pc := 32) hX 39 dX1_line_32 (by decide) (fun hc_2 => ?_) (fun hc_2 => ?_)
    · refine pw_iconst (pc := 39) (v := 0) hX dX1_line_39 (by decide) ?_
      refine pw_callSx (pc := 40) (st := []) hX (ct_requireState l hl G M 0) ok_X1_requireState lk_RX1_76 dX1_line_40 rfl ⟨⟨by decide, by decide⟩, Nat.le_of_ble_eq_true rfl, Nat.le_of_ble_eq_true rfl, Nat.le_of_ble_eq_true rfl⟩ rfl (fun E9 M9 hx9 => ?_) (fun v9 M9 hp9 => absurd rfl hp9.2.2)
      obtain ⟨rfl, rfl, -⟩ := hx9
      exact pw_out hX hex ⟨Nat.le_of_ble_eq_true rfl, Nat.le_of_ble_eq_true rfl⟩ ⟨rfl, Or.inr (Or.inr (⟨rfl, pc3_3 (fun h => h (ir_nI hj)) (fun h => h ⟨ir_nI hg, hlo, hhi⟩) (fun h => by rw [ix_nI hjB, ix_nI hgB] at h; exact h.2 (pw_ite1 hc_2))⟩))⟩
    · refine pw_iconst (pc := 35) (v := 1) hX dX1_line_35 (by decide) ?_
      refine pw_goto (pc := 36) hX 40 dX1_line_36 (by decide) ?_
      refine pw_callSx (pc := 40) (st := []) hX (ct_requireState l hl G M 1) ok_X1_requireState lk_RX1_76 dX1_line_40 rfl ⟨⟨by decide, by decide⟩, Nat.le_of_ble_eq_true rfl, Nat.le_of_ble_eq_true rfl, Nat.le_of_ble_eq_true rfl⟩ rfl (fun E9 M9 hx9 => ?_) (fun v9 M9 hp9 => ?_)
      · obtain ⟨rfl, rfl, hz⟩ := hx9
        exact absurd hz (by decide)
      obtain ⟨rfl, rfl, -⟩ := hp9
      refine pw_aload (pc := 43) hX dX1_line_43 0 rfl ?_
      refine pw_get (pc := 45) hX dX1_line_45 (cw_o hc j hj).1 rfl inT_0 3 (by decide) fl_RX1_80 rfl ?_
      refine pw_iload_n (pc := 48) hX dX1_line_48 3 rfl ?_
      refine pw_iload_n (pc := 49) hX dX1_line_49 4 rfl ?_
      refine pw_iast (pc := 50) (j := g) hX dX1_line_50 (cw_o hc j hj).2.1 hg (by decide) ?_
      have hm_3 := pw_ke (a := ad (7 + 4 * j)) (e := .inl (G.2.2.1 0, 10, .inl (upd (wa j) g p2))) hc.1 (cw_ne hc (x := 0) (y := 7 + 4 * j) (by omega) (by omega) (by omega))
      have hm_4 := pw_ke (a := ad (7 + 4 * j)) (e := .inl (G.2.2.1 0, 10, .inl (upd (wa j) g p2))) hc.2.1 (cw_ne hc (x := 1) (y := 7 + 4 * j) (by omega) (by omega) (by omega))
      have hm_5 := pw_ke (a := ad (7 + 4 * j)) (e := .inl (G.2.2.1 0, 10, .inl (upd (wa j) g p2))) hc.2.2.1 (cw_ne hc (x := 2) (y := 7 + 4 * j) (by omega) (by omega) (by omega))
      have hm_6 := pw_ke (a := ad (7 + 4 * j)) (e := .inl (G.2.2.1 0, 10, .inl (upd (wa j) g p2))) hc.2.2.2.1 (cw_ne hc (x := 3) (y := 7 + 4 * j) (by omega) (by omega) (by omega))
      have hm_7 := pw_ke (a := ad (7 + 4 * j)) (e := .inl (G.2.2.1 0, 10, .inl (upd (wa j) g p2))) hc.2.2.2.2.1 (cw_ne hc (x := 4) (y := 7 + 4 * j) (by omega) (by omega) (by omega))
      have hm_8 := pw_ke (a := ad (7 + 4 * j)) (e := .inl (G.2.2.1 0, 10, .inl (upd (wa j) g p2))) hc.2.2.2.2.2.1 (cw_ne hc (x := 5) (y := 7 + 4 * j) (by omega) (by omega) (by omega))
      have hm_9 := pw_ke (a := ad (7 + 4 * j)) (e := .inl (G.2.2.1 0, 10, .inl (upd (wa j) g p2))) (cw_o hc j hj).1 (cw_ne hc (x := 6 + 4 * j) (y := 7 + 4 * j) (by omega) (by omega) (by omega))
      have hm_10 := pw_ke (a := ad (7 + 4 * j)) (e := .inl (G.2.2.1 0, 10, .inl (upd (wa j) g p2))) (cw_o hc j hj).2.2.1 (cw_ne hc (x := 8 + 4 * j) (y := 7 + 4 * j) (by omega) (by omega) (by omega))
      have hm_11 := pw_ke (a := ad (7 + 4 * j)) (e := .inl (G.2.2.1 0, 10, .inl (upd (wa j) g p2))) (cw_o hc j hj).2.2.2 (cw_ne hc (x := 9 + 4 * j) (y := 7 + 4 * j) (by omega) (by omega) (by omega))
      have hm_12 : pw_up M (ad (7 + 4 * j)) (.inl (G.2.2.1 0, 10, .inl (upd (wa j) g p2))) (ad (7 + 4 * j)) = some (.inl (G.2.2.1 0, 10, .inl (upd (wa j) g p2))) := pw_us
      exact pw_vretx hX dX1_line_51 hrt ⟨by decide, by decide⟩ (by rw [ix_nI hjB, ix_nI hgB]; exact ⟨pc3_0 (fun h => h (ir_nI hj)) (fun h => h ⟨ir_nI hg, hlo, hhi⟩) (fun h => h (by rw [ix_nI hjB, ix_nI hgB]; exact ⟨hc_1, pw_ite0 hc_2⟩)), rfl, (cw_wa hc j hj _), (fm_up fm_rf (x := 7 + 4 * j) (by omega) _)⟩)
end
section
theorem lk_RX1_115 : Cond.methodLink RX1 115 yX0_missing ∈ pw_T ∧ Cond.instanceMethod yX0_missing ∈ pw_T ∧ Cond.selects RX0 yX0_missing yX0_missing ∈ pw_T := ⟨pw_memT (by decide +kernel) (by decide +kernel), pw_memT (by decide +kernel) (by decide +kernel), pw_memT (by decide +kernel) (by decide +kernel)⟩
theorem fl_RX1_103 : Cond.fieldLink RX1 103 (TX0 4).1 (TX0 4).2.1 (TX0 4).2.2.1 ∈ pw_T := pw_memT (by decide +kernel) (by decide +kernel)
theorem ok_X0_lineCount : pw_ok yX0_lineCount cX0_lineCount 3 (some .int) 0 := ⟨pw_memT (by decide +kernel) (by decide +kernel), pw_memT (by decide +kernel) (by decide +kernel), by decide +kernel, by decide +kernel, by decide +kernel, by decide +kernel⟩
theorem lk_RX1_83 : Cond.methodLink RX1 83 yX0_lineCount ∈ pw_T ∧ Cond.instanceMethod yX0_lineCount ∈ pw_T ∧ Cond.selects RX0 yX0_lineCount yX0_lineCount ∈ pw_T := ⟨pw_memT (by decide +kernel) (by decide +kernel), pw_memT (by decide +kernel) (by decide +kernel), pw_memT (by decide +kernel) (by decide +kernel)⟩
theorem ok_X1_lowestUsableCell : pw_ok yX1_lowestUsableCell cX1_lowestUsableCell 2 (some .int) 0 := ⟨pw_memT (by decide +kernel) (by decide +kernel), pw_memT (by decide +kernel) (by decide +kernel), by decide +kernel, by decide +kernel, by decide +kernel, by decide +kernel⟩
theorem lk_RX1_87 : Cond.methodLink RX1 87 yX1_lowestUsableCell ∈ pw_T ∧ Cond.instanceMethod yX1_lowestUsableCell ∈ pw_T ∧ Cond.selects RX1 yX1_lowestUsableCell yX1_lowestUsableCell ∈ pw_T := ⟨pw_memT (by decide +kernel) (by decide +kernel), pw_memT (by decide +kernel) (by decide +kernel), pw_memT (by decide +kernel) (by decide +kernel)⟩
theorem fl_RX1_90 : Cond.fieldLink RX1 90 (TX0 2).1 (TX0 2).2.1 (TX0 2).2.2.1 ∈ pw_T := pw_memT (by decide +kernel) (by decide +kernel)
theorem ok_X1_requireCell : pw_ok yX1_requireCell cX1_requireCell 2 none 1 := ⟨pw_memT (by decide +kernel) (by decide +kernel), pw_memT (by decide +kernel) (by decide +kernel), by decide +kernel, by decide +kernel, by decide +kernel, by decide +kernel⟩
theorem lk_RX1_93 : Cond.methodLink RX1 93 yX1_requireCell ∈ pw_T ∧ Cond.instanceMethod yX1_requireCell ∈ pw_T ∧ Cond.selects RX1 yX1_requireCell yX1_requireCell ∈ pw_T := ⟨pw_memT (by decide +kernel) (by decide +kernel), pw_memT (by decide +kernel) (by decide +kernel), pw_memT (by decide +kernel) (by decide +kernel)⟩
theorem ok_X1_requirePerson : pw_ok yX1_requirePerson cX1_requirePerson 1 none 1 := ⟨pw_memT (by decide +kernel) (by decide +kernel), pw_memT (by decide +kernel) (by decide +kernel), by decide +kernel, by decide +kernel, by decide +kernel, by decide +kernel⟩
theorem lk_RX1_96 : Cond.methodLink RX1 96 yX1_requirePerson ∈ pw_T ∧ Cond.static yX1_requirePerson ∈ pw_T := ⟨pw_memT (by decide +kernel) (by decide +kernel), pw_memT (by decide +kernel) (by decide +kernel)⟩
theorem ok_X1_put : pw_ok yX1_put cX1_put 4 (some .int) 3 := ⟨pw_memT (by decide +kernel) (by decide +kernel), pw_memT (by decide +kernel) (by decide +kernel), by decide +kernel, by decide +kernel, by decide +kernel, by decide +kernel⟩
theorem lk_RX1_99 : Cond.methodLink RX1 99 yX1_put ∈ pw_T ∧ Cond.instanceMethod yX1_put ∈ pw_T ∧ Cond.selects RX1 yX1_put yX1_put ∈ pw_T := ⟨pw_memT (by decide +kernel) (by decide +kernel), pw_memT (by decide +kernel) (by decide +kernel), pw_memT (by decide +kernel) (by decide +kernel)⟩
theorem fl_RX1_23 : Cond.fieldLink RX1 23 (TX1 5).1 (TX1 5).2.1 (TX1 5).2.2.1 ∈ pw_T := pw_memT (by decide +kernel) (by decide +kernel)
end
section
theorem sc_2 {x w p s t : Int32} (h : ¬ x = 0) : sc_r x w p s t = -2 := pc_t h
theorem sc_3 {x w p s t : Int32} (h : x = 0) (h2 : ¬ 0 < w) : sc_r x w p s t = -3 := by unfold sc_r; rw [pc_f (fun z => z h), pc_t h2]
theorem sc_4 {x w p s t : Int32} (h : x = 0) (h2 : 0 < w) (h3 : w - p = 0 ∨ s = 2) : sc_r x w p s t = -4 := by unfold sc_r; rw [pc_f (fun z => z h), pc_f (fun z => z h2), pc_t h3]
theorem sc_5 {x w p s t : Int32} (h : x = 0) (h2 : 0 < w) (h3 : ¬ w - p = 0) (h4 : ¬ s = 2) (h5 : t = 0) : sc_r x w p s t = -5 := by unfold sc_r; rw [pc_f (fun z => z h), pc_f (fun z => z h2), pc_f (fun z => z.elim h3 h4), pc_t h5]
theorem sc_1 {x w p s t : Int32} (h : x = 0) (h2 : 0 < w) (h3 : ¬ w - p = 0) (h4 : ¬ s = 2) (h5 : ¬ t = 0) : sc_r x w p s t = 1 := by unfold sc_r; rw [pc_f (fun z => z h), pc_f (fun z => z h2), pc_f (fun z => z.elim h3 h4), pc_f h5]
theorem ct_pos {k : Nat} (h : ¬ nI k ≤ 0) : 0 < k := Nat.pos_of_ne_zero (fun e => h (by rw [e]; decide))
theorem ct_non {b : Nat → Bool} (h : nI (od_ct b 10) ≤ 0) : ¬ 0 < od_ct b 10 := fun h9 => nI_nle h9 (Nat.lt_of_le_of_lt (od_ct_le b 10) (by decide)) h
theorem up_id {α : Type} (f : Nat → α) (k : Nat) : va_up f k (f k) = f := by
  funext j
  by_cases h : j = k
  · subst h; exact va_up_self _ _ _
  · exact va_up_ne _ _ h
theorem nar_1 : vp_nar .boolean 1 = 1 := by decide +kernel
theorem nar_0 : vp_nar .boolean 0 = 0 := by decide +kernel
theorem le_max (x : Int32) : x ≤ 2147483647 := by
  rw [Int32.le_iff_toInt_le]
  have := Int32.toInt_lt x
  have h : (2147483647 : Int32).toInt = 2147483647 := by decide
  omega
theorem sw_out {x : Int32} {N : Nat} (hN : N < 2 ^ 31 - 1) (h : ¬ ir x (N + 1)) : x.toInt < 0 ∨ (N : Int) < x.toInt := by
  by_cases h0 : x.toInt < 0
  · exact Or.inl h0
  · by_cases h1 : (N : Int) < x.toInt
    · exact Or.inr h1
    · exfalso
      apply h
      obtain ⟨j, hj, hx⟩ := nI_of (x := x) (fun h9 => h0 (by rw [Int32.lt_iff_toInt_lt] at h9; exact h9))
      subst hx
      rw [nI_toInt hj] at h1
      exact ⟨j, by omega, rfl⟩
noncomputable def td_r (td : Int32) (os pl : Nat → Int32) (wa pr de : Nat → Nat → Int32) (j : Nat) (x : Int32) : Int32 := pc_if (x = 0) (os j) (pc_if (x = 1) (pl j) (pc_if (x = 2) (nI (od_ct (od_has (wa j)) 10)) (pc_if (x = 3) (bx_sum (pr j) 10) (pc_if (x = 4) (bx_sum (wa j) 10) (bx_sum (od_gu td (wa j) (pr j) (de j)) 10)))))
noncomputable def pi_r (wa pr de : Nat → Nat → Int32) (j g : Nat) (x : Int32) : Int32 := pc_if (x = 0) (wa j g) (pc_if (x = 1) (pr j g) (de j g))
noncomputable def co_r (n oc : Nat) (td : Int32) (to : Nat → Int32) (oo : Nat → Option Nat) (pr : Nat → Nat → Int32) (x : Int32) : Int32 := pc_if (x = 0) (nI n) (pc_if (x = 1) (nI oc) (pc_if (x = 2) (nI (od_ct (cc_f oo) n)) (pc_if (x = 3) (bx_sum (cc_s oo pr) n) (pc_if (x = 4) (bx_sum to 10) (pc_if (x = 5) td (-1))))))
def sd_n (s : Nat) : Nat := (s * 1103515245 + 12345) % 2147483648
theorem sd_lt (s : Nat) : sd_n s < 2 ^ 31 := Nat.mod_lt _ (by decide)
set_option maxHeartbeats 4000000 in
set_option maxRecDepth 100000 in
theorem ct_putN (l : Launch) (hl : l.stackTraces = false) (G : pw_G) (M : pw_M) (ad : Nat → Nat) (n oc : Nat) (td sd : Int32) (dk to er : Nat → Int32) (os pl : Nat → Int32) (oo : Nat → Option Nat) (wa pr de : Nat → Nat → Int32) (hc : cw G ad n oc td sd dk to er os pl oo wa pr de M) (x : Int32) (g : Nat) : pw_Met l yX1_put cX1_put 4 (some .int) 5 0 0 G [.ref (ad 0), .null, .int x, .int (nI g)] M (fun v9 M9 => M = M9 ∧ v9 = some (.int (-1))) := by
  refine pw_of hl (by decide +kernel) (Nat.le_of_ble_eq_true rfl) [(0, .ref (ad 0)), (1, .null), (2, .int x), (3, .int (nI g))] rfl ?_
  intro p9 e9 s9 m9 args9 below9 meth9 c9 hX hrt hmi
  refine pw_aload_nN (pc := 0) hX dX1_put_0 1 rfl ?_
  refine pw_ifnonnullN (pc := 1) hX dX1_put_1  ?_
  refine pw_iconst (pc := 4) (v := (-1)) hX dX1_put_4 (by decide) ?_
  exact pw_iret hX dX1_put_5 hrt ⟨by decide, by decide⟩ ⟨rfl, rfl⟩
set_option maxHeartbeats 4000000 in
set_option maxRecDepth 100000 in
theorem ct_putS (l : Launch) (hl : l.stackTraces = false) (G : pw_G) (M : pw_M) (ad : Nat → Nat) (n oc : Nat) (td sd : Int32) (dk to er : Nat → Int32) (os pl : Nat → Int32) (oo : Nat → Option Nat) (wa pr de : Nat → Nat → Int32) (hc : cw G ad n oc td sd dk to er os pl oo wa pr de M) (j : Nat) (hj : j < oc) (x : Int32) (g : Nat) (hg : g < 10) : pw_Met l yX1_put cX1_put 4 (some .int) 5 0 0 G [.ref (ad 0), .ref (ad (6 + 4 * j)), .int x, .int (nI g)] M (fun v9 M9 => ∃ r : Int32, v9 = some (.int r) ∧ r = sc_r x (wa j g) (pr j g) (os j) (to g) ∧ (r = 1 ∧ cw G ad n oc td sd dk (upd to g (to g - 1)) er os pl oo wa (va_up pr j (upd (pr j) g (pr j g + 1))) de M9 ∧ fm ad (6 + 4 * oc) M M9 ∨ r < 0 ∧ M = M9)) := by
  refine pw_of hl (by decide +kernel) (Nat.le_of_ble_eq_true rfl) [(0, .ref (ad 0)), (1, .ref (ad (6 + 4 * j))), (2, .int x), (3, .int (nI g))] rfl ?_
  intro p9 e9 s9 m9 args9 below9 meth9 c9 hX hrt hmi
  refine pw_aload_n (pc := 0) hX dX1_put_0 1 rfl ?_
  refine pw_ifnonnull (pc := 1) hX 6 dX1_put_1 (by decide) ?_
  refine pw_iload_n (pc := 6) hX dX1_put_6 2 rfl ?_
  refine pw_if_eq (pc := 7) hX 13 dX1_put_7 (by decide) (fun hc_1 => ?_) (fun hc_1 => ?_)
  · refine pw_aload_n (pc := 13) hX dX1_put_13 1 rfl ?_
    refine pw_iload_n (pc := 14) hX dX1_put_14 3 rfl ?_
    refine pw_callV (pc := 15) (st := []) hX (ct_hasLine l hl G M (ad (6 + 4 * j)) (ad (7 + 4 * j)) (ad (8 + 4 * j)) (ad (9 + 4 * j)) (nI j) (os j) (pl j) (wa j) (pr j) (de j) (cw_o hc j hj) g hg) (cw_o hc j hj).1 rfl ok_X0_hasLine lk_RX1_72 dX1_put_15 rfl ⟨⟨by decide, by decide⟩, Nat.le_of_ble_eq_true rfl, Nat.le_of_ble_eq_true rfl, Nat.le_of_ble_eq_true rfl⟩ rfl (fun v9 M9 hp9 => ?_)
    obtain ⟨rfl, rfl⟩ := hp9
    refine pw_if_ne (pc := 18) hX 24 dX1_put_18 (by decide) (fun hc_2 => ?_) (fun hc_2 => ?_)
    · refine pw_aload_n (pc := 24) hX dX1_put_24 1 rfl ?_
      refine pw_iload_n (pc := 25) hX dX1_put_25 3 rfl ?_
      refine pw_callV (pc := 26) (st := []) hX (ct_missing l hl G M (ad (6 + 4 * j)) (ad (7 + 4 * j)) (ad (8 + 4 * j)) (ad (9 + 4 * j)) (nI j) (os j) (pl j) (wa j) (pr j) (de j) (cw_o hc j hj) g hg) (cw_o hc j hj).1 rfl ok_X0_missing lk_RX1_115 dX1_put_26 rfl ⟨⟨by decide, by decide⟩, Nat.le_of_ble_eq_true rfl, Nat.le_of_ble_eq_true rfl, Nat.le_of_ble_eq_true rfl⟩ rfl (fun v9 M9 hp9 => ?_)
      obtain ⟨rfl, rfl⟩ := hp9
      refine pw_if_eq (pc := 29) hX 40 dX1_put_29 (by decide) (fun hc_3 => ?_) (fun hc_3 => ?_)
      · refine pw_bipush (pc := 40) (v := (-4)) hX dX1_put_40 (by decide) ?_
        exact pw_iret hX dX1_put_42 hrt ⟨by decide, by decide⟩ ⟨_, rfl, (sc_4 hc_1 (pw_ite1 hc_2) (Or.inl hc_3)).symm, Or.inr ⟨by decide, rfl⟩⟩
      · refine pw_aload_n (pc := 32) hX dX1_put_32 1 rfl ?_
        refine pw_get (pc := 33) hX dX1_put_33 (cw_o hc j hj).1 rfl inT_0 1 (by decide) fl_RX1_69 rfl ?_
        refine pw_iconst (pc := 36) (v := 2) hX dX1_put_36 (by decide) ?_
        refine pw_icmp_ne (pc := 37) hX 43 dX1_put_37 (by decide) (fun hc_4 => ?_) (fun hc_4 => ?_)
        · refine pw_aload_n (pc := 43) hX dX1_put_43 0 rfl ?_
          refine pw_get (pc := 44) hX dX1_put_44 hc.1 rfl inT_1 4 (by decide) fl_RX1_19 rfl ?_
          refine pw_iload_n (pc := 47) hX dX1_put_47 3 rfl ?_
          refine pw_iald (pc := 48) (j := g) hX dX1_put_48 hc.2.2.2.2.1 hg (by decide) ?_
          refine pw_if_ne (pc := 49) hX 55 dX1_put_49 (by decide) (fun hc_5 => ?_) (fun hc_5 => ?_)
          · refine pw_aload_n (pc := 55) hX dX1_put_55 0 rfl ?_
            refine pw_get (pc := 56) hX dX1_put_56 hc.1 rfl inT_1 4 (by decide) fl_RX1_19 rfl ?_
            refine pw_iload_n (pc := 59) hX dX1_put_59 3 rfl ?_
            refine pw_dup2 (pc := 60) hX dX1_put_60 rfl rfl ?_
            refine pw_iald (pc := 61) (j := g) hX dX1_put_61 hc.2.2.2.2.1 hg (by decide) ?_
            refine pw_iconst (pc := 62) (v := 1) hX dX1_put_62 (by decide) ?_
            refine pw_isub (pc := 63) (z := (to g) - 1) hX dX1_put_63 rfl ?_
            refine pw_iast (pc := 64) (j := g) hX dX1_put_64 hc.2.2.2.2.1 hg (by decide) ?_
            have hm_6 := pw_ke (a := ad 4) (e := .inl (G.2.2.1 0, 10, .inl (upd to g ((to g) - 1)))) hc.1 (cw_ne hc (x := 0) (y := 4) (by omega) (by omega) (by omega))
            have hm_7 := pw_ke (a := ad 4) (e := .inl (G.2.2.1 0, 10, .inl (upd to g ((to g) - 1)))) hc.2.1 (cw_ne hc (x := 1) (y := 4) (by omega) (by omega) (by omega))
            have hm_8 := pw_ke (a := ad 4) (e := .inl (G.2.2.1 0, 10, .inl (upd to g ((to g) - 1)))) hc.2.2.1 (cw_ne hc (x := 2) (y := 4) (by omega) (by omega) (by omega))
            have hm_9 := pw_ke (a := ad 4) (e := .inl (G.2.2.1 0, 10, .inl (upd to g ((to g) - 1)))) hc.2.2.2.1 (cw_ne hc (x := 3) (y := 4) (by omega) (by omega) (by omega))
            have hm_10 := pw_ke (a := ad 4) (e := .inl (G.2.2.1 0, 10, .inl (upd to g ((to g) - 1)))) hc.2.2.2.2.2.1 (cw_ne hc (x := 5) (y := 4) (by omega) (by omega) (by omega))
            have hm_11 := pw_ke (a := ad 4) (e := .inl (G.2.2.1 0, 10, .inl (upd to g ((to g) - 1)))) (cw_o hc j hj).1 (cw_ne hc (x := 6 + 4 * j) (y := 4) (by omega) (by omega) (by omega))
            have hm_12 := pw_ke (a := ad 4) (e := .inl (G.2.2.1 0, 10, .inl (upd to g ((to g) - 1)))) (cw_o hc j hj).2.1 (cw_ne hc (x := 7 + 4 * j) (y := 4) (by omega) (by omega) (by omega))
            have hm_13 := pw_ke (a := ad 4) (e := .inl (G.2.2.1 0, 10, .inl (upd to g ((to g) - 1)))) (cw_o hc j hj).2.2.1 (cw_ne hc (x := 8 + 4 * j) (y := 4) (by omega) (by omega) (by omega))
            have hm_14 := pw_ke (a := ad 4) (e := .inl (G.2.2.1 0, 10, .inl (upd to g ((to g) - 1)))) (cw_o hc j hj).2.2.2 (cw_ne hc (x := 9 + 4 * j) (y := 4) (by omega) (by omega) (by omega))
            have hm_15 : pw_up M (ad 4) (.inl (G.2.2.1 0, 10, .inl (upd to g ((to g) - 1)))) (ad 4) = some (.inl (G.2.2.1 0, 10, .inl (upd to g ((to g) - 1)))) := pw_us
            refine pw_aload_n (pc := 65) hX dX1_put_65 1 rfl ?_
            refine pw_get (pc := 66) hX dX1_put_66 hm_11 rfl inT_0 4 (by decide) fl_RX1_103 rfl ?_
            refine pw_iload_n (pc := 69) hX dX1_put_69 3 rfl ?_
            refine pw_dup2 (pc := 70) hX dX1_put_70 rfl rfl ?_
            refine pw_iald (pc := 71) (j := g) hX dX1_put_71 hm_13 hg (by decide) ?_
            refine pw_iconst (pc := 72) (v := 1) hX dX1_put_72 (by decide) ?_
            refine pw_iadd (pc := 73) (z := ((pr j) g) + 1) hX dX1_put_73 rfl ?_
            refine pw_iast (pc := 74) (j := g) hX dX1_put_74 hm_13 hg (by decide) ?_
            have hm_16 := pw_ke (a := ad (8 + 4 * j)) (e := .inl (G.2.2.1 0, 10, .inl (upd (pr j) g (((pr j) g) + 1)))) hm_6 (cw_ne hc (x := 0) (y := 8 + 4 * j) (by omega) (by omega) (by omega))
            have hm_17 := pw_ke (a := ad (8 + 4 * j)) (e := .inl (G.2.2.1 0, 10, .inl (upd (pr j) g (((pr j) g) + 1)))) hm_7 (cw_ne hc (x := 1) (y := 8 + 4 * j) (by omega) (by omega) (by omega))
            have hm_18 := pw_ke (a := ad (8 + 4 * j)) (e := .inl (G.2.2.1 0, 10, .inl (upd (pr j) g (((pr j) g) + 1)))) hm_8 (cw_ne hc (x := 2) (y := 8 + 4 * j) (by omega) (by omega) (by omega))
            have hm_19 := pw_ke (a := ad (8 + 4 * j)) (e := .inl (G.2.2.1 0, 10, .inl (upd (pr j) g (((pr j) g) + 1)))) hm_9 (cw_ne hc (x := 3) (y := 8 + 4 * j) (by omega) (by omega) (by omega))
            have hm_20 := pw_ke (a := ad (8 + 4 * j)) (e := .inl (G.2.2.1 0, 10, .inl (upd (pr j) g (((pr j) g) + 1)))) hm_15 (cw_ne hc (x := 4) (y := 8 + 4 * j) (by omega) (by omega) (by omega))
            have hm_21 := pw_ke (a := ad (8 + 4 * j)) (e := .inl (G.2.2.1 0, 10, .inl (upd (pr j) g (((pr j) g) + 1)))) hm_10 (cw_ne hc (x := 5) (y := 8 + 4 * j) (by omega) (by omega) (by omega))
            have hm_22 := pw_ke (a := ad (8 + 4 * j)) (e := .inl (G.2.2.1 0, 10, .inl (upd (pr j) g (((pr j) g) + 1)))) hm_11 (cw_ne hc (x := 6 + 4 * j) (y := 8 + 4 * j) (by omega) (by omega) (by omega))
            have hm_23 := pw_ke (a := ad (8 + 4 * j)) (e := .inl (G.2.2.1 0, 10, .inl (upd (pr j) g (((pr j) g) + 1)))) hm_12 (cw_ne hc (x := 7 + 4 * j) (y := 8 + 4 * j) (by omega) (by omega) (by omega))
            have hm_24 := pw_ke (a := ad (8 + 4 * j)) (e := .inl (G.2.2.1 0, 10, .inl (upd (pr j) g (((pr j) g) + 1)))) hm_14 (cw_ne hc (x := 9 + 4 * j) (y := 8 + 4 * j) (by omega) (by omega) (by omega))
            have hm_25 : pw_up (pw_up M (ad 4) (.inl (G.2.2.1 0, 10, .inl (upd to g ((to g) - 1))))) (ad (8 + 4 * j)) (.inl (G.2.2.1 0, 10, .inl (upd (pr j) g (((pr j) g) + 1)))) (ad (8 + 4 * j)) = some (.inl (G.2.2.1 0, 10, .inl (upd (pr j) g (((pr j) g) + 1)))) := pw_us
            refine pw_iconst (pc := 75) (v := 1) hX dX1_put_75 (by decide) ?_
            exact pw_iret hX dX1_put_76 hrt ⟨by decide, by decide⟩ ⟨_, rfl, (sc_1 hc_1 (pw_ite1 hc_2) hc_3 hc_4 hc_5).symm, Or.inl ⟨rfl, (cw_pr (cw_to hc _) j hj _), (fm_up (fm_up fm_rf (x := 4) (by omega) _) (x := 8 + 4 * j) (by omega) _)⟩⟩
          · refine pw_bipush (pc := 52) (v := (-5)) hX dX1_put_52 (by decide) ?_
            exact pw_iret hX dX1_put_54 hrt ⟨by decide, by decide⟩ ⟨_, rfl, (sc_5 hc_1 (pw_ite1 hc_2) hc_3 hc_4 hc_5).symm, Or.inr ⟨by decide, rfl⟩⟩
        · refine pw_bipush (pc := 40) (v := (-4)) hX dX1_put_40 (by decide) ?_
          exact pw_iret hX dX1_put_42 hrt ⟨by decide, by decide⟩ ⟨_, rfl, (sc_4 hc_1 (pw_ite1 hc_2) (Or.inr hc_4)).symm, Or.inr ⟨by decide, rfl⟩⟩
    · refine pw_bipush (pc := 21) (v := (-3)) hX dX1_put_21 (by decide) ?_
      exact pw_iret hX dX1_put_23 hrt ⟨by decide, by decide⟩ ⟨_, rfl, (sc_3 hc_1 (pw_ite0 hc_2)).symm, Or.inr ⟨by decide, rfl⟩⟩
  · refine pw_bipush (pc := 10) (v := (-2)) hX dX1_put_10 (by decide) ?_
    exact pw_iret hX dX1_put_12 hrt ⟨by decide, by decide⟩ ⟨_, rfl, (sc_2 hc_1).symm, Or.inr ⟨by decide, rfl⟩⟩
set_option maxHeartbeats 4000000 in
set_option maxRecDepth 100000 in
theorem cp_cell (l : Launch) (hl : l.stackTraces = false) (G : pw_G) (M : pw_M) (ad : Nat → Nat) (n oc : Nat) (td sd : Int32) (dk to er : Nat → Int32) (os pl : Nat → Int32) (oo : Nat → Option Nat) (wa pr de : Nat → Nat → Int32) (hc : cw G ad n oc td sd dk to er os pl oo wa pr de M) (p0 : Int32) : pw_XMet l yX1_cell cX1_cell 4 (some .int) 3 2 12 G [.ref (ad 0), .int p0] M (fun v9 M9 => cd_cell oc os wa p0 = 0 ∧ ((∃ i, i < n ∧ v9 = some (.int (nI i)) ∧ oo i = none ∧ dk i = 0 ∧ (∀ k, k < i → ¬ (oo k = none ∧ dk k = 0)) ∧ cw G ad n oc td sd dk to er (va_up os (ix p0) 1) (va_up pl (ix p0) (nI i)) (va_up oo i (some (ix p0))) wa pr de M9) ∨ v9 = some (.int (-1)) ∧ (∀ i, i < n → ¬ (oo i = none ∧ dk i = 0)) ∧ M = M9) ∧ fm ad (6 + 4 * oc) M M9) (fun E9 M9 => M = M9 ∧ (E9 = "java/util/NoSuchElementException" ∧ cd_cell oc os wa p0 = 1 ∨ E9 = "java/lang/IllegalStateException" ∧ cd_cell oc os wa p0 = 2)) := by
  refine pw_ofx hl (by decide +kernel) (Nat.le_of_ble_eq_true rfl) [(0, .ref (ad 0)), (1, .int p0)] rfl ?_
  intro p9 e9 s9 m9 args9 below9 meth9 c9 hX hrt hex
  refine pw_aload_n (pc := 0) hX dX1_cell_0 0 rfl ?_
  refine pw_iload_n (pc := 1) hX dX1_cell_1 1 rfl ?_
  refine pw_callVx (pc := 2) (st := []) hX (ct_existing l hl G M ad n oc td sd dk to er os pl oo wa pr de hc p0) hc.1 rfl ok_X1_existing lk_RX1_65 dX1_cell_2 rfl ⟨⟨by decide, by decide⟩, Nat.le_of_ble_eq_true rfl, Nat.le_of_ble_eq_true rfl, Nat.le_of_ble_eq_true rfl⟩ rfl (fun E9 M9 hx9 => ?_) (fun v9 M9 hp9 => ?_)
  · obtain ⟨rfl, rfl, hno⟩ := hx9
    exact pw_out hX hex ⟨Nat.le_of_ble_eq_true rfl, Nat.le_of_ble_eq_true rfl⟩ (⟨rfl, Or.inl (⟨rfl, pc_t hno⟩)⟩)
  obtain ⟨rfl, j, hj, rfl, rfl⟩ := hp9
  have hjB : j < 2 ^ 31 := Nat.lt_of_lt_of_le hj (Nat.le_trans (cw_oc hc) (by decide))
  refine pw_astore_n (pc := 5) hX [(2, .ref (ad (6 + 4 * j))), (0, .ref (ad 0)), (1, .int (nI j))] dX1_cell_5 (by decide) rfl ?_
  refine pw_aload_n (pc := 6) hX dX1_cell_6 0 rfl ?_
  refine pw_get (pc := 7) hX dX1_cell_7 (cw_o hc j hj).1 rfl inT_0 1 (by decide) fl_RX1_69 rfl ?_
  refine pw_if_ne (pc := 10) hX 24 dX1_cell_10 (by decide) (fun hc_1 => ?_) (fun hc_1 => ?_)
  · refine pw_iconst (pc := 24) (v := 0) hX dX1_cell_24 (by decide) ?_
    refine pw_callSx (pc := 25) (st := []) hX (ct_requireState l hl G M 0) ok_X1_requireState lk_RX1_76 dX1_cell_25 rfl ⟨⟨by decide, by decide⟩, Nat.le_of_ble_eq_true rfl, Nat.le_of_ble_eq_true rfl, Nat.le_of_ble_eq_true rfl⟩ rfl (fun E9 M9 hx9 => ?_) (fun v9 M9 hp9 => absurd rfl hp9.2.2)
    obtain ⟨rfl, rfl, -⟩ := hx9
    exact pw_out hX hex ⟨Nat.le_of_ble_eq_true rfl, Nat.le_of_ble_eq_true rfl⟩ ⟨rfl, Or.inr (⟨rfl, pc2_2 (fun h => h (ir_nI hj)) (fun h => by rw [ix_nI hjB] at h; exact hc_1 h.1)⟩)⟩
  · refine pw_aload_n (pc := 13) hX dX1_cell_13 0 rfl ?_
    refine pw_callV (pc := 14) (st := []) hX (ct_lineCount l hl G M (ad (6 + 4 * j)) (ad (7 + 4 * j)) (ad (8 + 4 * j)) (ad (9 + 4 * j)) (nI j) (os j) (pl j) (wa j) (pr j) (de j) (cw_o hc j hj)) (cw_o hc j hj).1 rfl ok_X0_lineCount lk_RX1_83 dX1_cell_14 rfl ⟨⟨by decide, by decide⟩, Nat.le_of_ble_eq_true rfl, Nat.le_of_ble_eq_true rfl, Nat.le_of_ble_eq_true rfl⟩ rfl (fun v9 M9 hp9 => ?_)
    obtain ⟨rfl, rfl⟩ := hp9
    refine pw_if_le (pc := 17) hX 24 dX1_cell_17 (by decide) (fun hc_2 => ?_) (fun hc_2 => ?_)
    · refine pw_iconst (pc := 24) (v := 0) hX dX1_cell_24 (by decide) ?_
      refine pw_callSx (pc := 25) (st := []) hX (ct_requireState l hl G M 0) ok_X1_requireState lk_RX1_76 dX1_cell_25 rfl ⟨⟨by decide, by decide⟩, Nat.le_of_ble_eq_true rfl, Nat.le_of_ble_eq_true rfl, Nat.le_of_ble_eq_true rfl⟩ rfl (fun E9 M9 hx9 => ?_) (fun v9 M9 hp9 => absurd rfl hp9.2.2)
      obtain ⟨rfl, rfl, -⟩ := hx9
      exact pw_out hX hex ⟨Nat.le_of_ble_eq_true rfl, Nat.le_of_ble_eq_true rfl⟩ ⟨rfl, Or.inr (⟨rfl, pc2_2 (fun h => h (ir_nI hj)) (fun h => by rw [ix_nI hjB] at h; exact ct_non hc_2 h.2)⟩)⟩
    · refine pw_iconst (pc := 20) (v := 1) hX dX1_cell_20 (by decide) ?_
      refine pw_goto (pc := 21) hX 25 dX1_cell_21 (by decide) ?_
      refine pw_callSx (pc := 25) (st := []) hX (ct_requireState l hl G M 1) ok_X1_requireState lk_RX1_76 dX1_cell_25 rfl ⟨⟨by decide, by decide⟩, Nat.le_of_ble_eq_true rfl, Nat.le_of_ble_eq_true rfl, Nat.le_of_ble_eq_true rfl⟩ rfl (fun E9 M9 hx9 => ?_) (fun v9 M9 hp9 => ?_)
      · obtain ⟨rfl, rfl, hz⟩ := hx9
        exact absurd hz (by decide)
      obtain ⟨rfl, rfl, -⟩ := hp9
      refine pw_aload_n (pc := 28) hX dX1_cell_28 1 rfl ?_
      refine pw_callV (pc := 29) (st := []) hX (ct_lowest l hl G M ad n oc td sd dk to er os pl oo wa pr de hc) hc.1 rfl ok_X1_lowestUsableCell lk_RX1_87 dX1_cell_29 rfl ⟨⟨by decide, by decide⟩, Nat.le_of_ble_eq_true rfl, Nat.le_of_ble_eq_true rfl, Nat.le_of_ble_eq_true rfl⟩ rfl (fun v9 M9 hp9 => ?_)
      obtain ⟨rfl, ⟨i, hi, rfl, hoi, hdi, hfi⟩ | ⟨rfl, hnone⟩⟩ := hp9
      · refine pw_istore_n (pc := 32) hX [(3, .int (nI i)), (2, .ref (ad (6 + 4 * j))), (0, .ref (ad 0)), (1, .int (nI j))] dX1_cell_32 (by decide) rfl ?_
        refine pw_iload_n (pc := 33) hX dX1_cell_33 0 rfl ?_
        refine pw_if_lt (pc := 34) hX 63 dX1_cell_34 (by decide) (fun hc_3 => absurd hc_3 (nI_pos (Nat.lt_trans hi (Nat.lt_of_le_of_lt (cw_n hc) (by decide))))) (fun hc_3 => ?_)
        refine pw_iload_n (pc := 37) hX dX1_cell_37 0 rfl ?_
        refine pw_aload_n (pc := 38) hX dX1_cell_38 2 rfl ?_
        refine pw_get (pc := 39) hX dX1_cell_39 hc.1 rfl inT_1 2 (by decide) fl_RX1_41 rfl ?_
        refine pw_alen2 (pc := 42) hX dX1_cell_42 hc.2.2.1 rfl ?_
        refine pw_icmp_ge (pc := 43) hX 63 dX1_cell_43 (by decide) (fun hc_4 => absurd hc_4 (nI_ge hi (Nat.lt_of_le_of_lt (cw_n hc) (by decide)))) (fun hc_4 => ?_)
        refine pw_aload_n (pc := 46) hX dX1_cell_46 2 rfl ?_
        refine pw_get (pc := 47) hX dX1_cell_47 hc.1 rfl inT_1 2 (by decide) fl_RX1_41 rfl ?_
        refine pw_iload_n (pc := 50) hX dX1_cell_50 0 rfl ?_
        refine pw_aload_n (pc := 51) hX dX1_cell_51 1 rfl ?_
        refine pw_aast (pc := 52) (j := i) hX dX1_cell_52 hc.2.2.1 (cw_o hc j hj).1 rfl rfl hi (Nat.lt_of_le_of_lt (cw_n hc) (by decide)) ?_
        have hm_5 := pw_ke (a := ad 2) (e := .inl (G.2.2.1 2, n, .inr (.inr (.inr (.inr (va_up (fun i => (oo i).map (fun j => ad (6 + 4 * j))) i (some (ad (6 + 4 * j))))))))) hc.1 (cw_ne hc (x := 0) (y := 2) (by omega) (by omega) (by omega))
        have hm_6 := pw_ke (a := ad 2) (e := .inl (G.2.2.1 2, n, .inr (.inr (.inr (.inr (va_up (fun i => (oo i).map (fun j => ad (6 + 4 * j))) i (some (ad (6 + 4 * j))))))))) hc.2.1 (cw_ne hc (x := 1) (y := 2) (by omega) (by omega) (by omega))
        have hm_7 := pw_ke (a := ad 2) (e := .inl (G.2.2.1 2, n, .inr (.inr (.inr (.inr (va_up (fun i => (oo i).map (fun j => ad (6 + 4 * j))) i (some (ad (6 + 4 * j))))))))) hc.2.2.2.1 (cw_ne hc (x := 3) (y := 2) (by omega) (by omega) (by omega))
        have hm_8 := pw_ke (a := ad 2) (e := .inl (G.2.2.1 2, n, .inr (.inr (.inr (.inr (va_up (fun i => (oo i).map (fun j => ad (6 + 4 * j))) i (some (ad (6 + 4 * j))))))))) hc.2.2.2.2.1 (cw_ne hc (x := 4) (y := 2) (by omega) (by omega) (by omega))
        have hm_9 := pw_ke (a := ad 2) (e := .inl (G.2.2.1 2, n, .inr (.inr (.inr (.inr (va_up (fun i => (oo i).map (fun j => ad (6 + 4 * j))) i (some (ad (6 + 4 * j))))))))) hc.2.2.2.2.2.1 (cw_ne hc (x := 5) (y := 2) (by omega) (by omega) (by omega))
        have hm_10 := pw_ke (a := ad 2) (e := .inl (G.2.2.1 2, n, .inr (.inr (.inr (.inr (va_up (fun i => (oo i).map (fun j => ad (6 + 4 * j))) i (some (ad (6 + 4 * j))))))))) (cw_o hc j hj).1 (cw_ne hc (x := 6 + 4 * j) (y := 2) (by omega) (by omega) (by omega))
        have hm_11 := pw_ke (a := ad 2) (e := .inl (G.2.2.1 2, n, .inr (.inr (.inr (.inr (va_up (fun i => (oo i).map (fun j => ad (6 + 4 * j))) i (some (ad (6 + 4 * j))))))))) (cw_o hc j hj).2.1 (cw_ne hc (x := 7 + 4 * j) (y := 2) (by omega) (by omega) (by omega))
        have hm_12 := pw_ke (a := ad 2) (e := .inl (G.2.2.1 2, n, .inr (.inr (.inr (.inr (va_up (fun i => (oo i).map (fun j => ad (6 + 4 * j))) i (some (ad (6 + 4 * j))))))))) (cw_o hc j hj).2.2.1 (cw_ne hc (x := 8 + 4 * j) (y := 2) (by omega) (by omega) (by omega))
        have hm_13 := pw_ke (a := ad 2) (e := .inl (G.2.2.1 2, n, .inr (.inr (.inr (.inr (va_up (fun i => (oo i).map (fun j => ad (6 + 4 * j))) i (some (ad (6 + 4 * j))))))))) (cw_o hc j hj).2.2.2 (cw_ne hc (x := 9 + 4 * j) (y := 2) (by omega) (by omega) (by omega))
        have hm_14 : pw_up M (ad 2) (.inl (G.2.2.1 2, n, .inr (.inr (.inr (.inr (va_up (fun i => (oo i).map (fun j => ad (6 + 4 * j))) i (some (ad (6 + 4 * j))))))))) (ad 2) = some (.inl (G.2.2.1 2, n, .inr (.inr (.inr (.inr (va_up (fun i => (oo i).map (fun j => ad (6 + 4 * j))) i (some (ad (6 + 4 * j))))))))) := pw_us
        refine pw_aload_n (pc := 53) hX dX1_cell_53 1 rfl ?_
        refine pw_iload_n (pc := 54) hX dX1_cell_54 0 rfl ?_
        refine pw_put (pc := 55) (v := .int (nI i)) hX dX1_cell_55 hm_10 rfl inT_0 tyX0 tyX0_ok nmX0 2 (by decide) fl_RX1_90 rfl (tyX0_ok 2 (by decide)) rfl rfl (Nat.le_of_ble_eq_true rfl) [.int (nI j), .int (os j), .int (nI i), .ref (ad (7 + 4 * j)), .ref (ad (8 + 4 * j)), .ref (ad (9 + 4 * j))] rfl ?_
        have hm_15 := pw_ke (a := ad (6 + 4 * j)) (e := .inr (0, [.int (nI j), .int (os j), .int (nI i), .ref (ad (7 + 4 * j)), .ref (ad (8 + 4 * j)), .ref (ad (9 + 4 * j))])) hm_5 (cw_ne hc (x := 0) (y := 6 + 4 * j) (by omega) (by omega) (by omega))
        have hm_16 := pw_ke (a := ad (6 + 4 * j)) (e := .inr (0, [.int (nI j), .int (os j), .int (nI i), .ref (ad (7 + 4 * j)), .ref (ad (8 + 4 * j)), .ref (ad (9 + 4 * j))])) hm_6 (cw_ne hc (x := 1) (y := 6 + 4 * j) (by omega) (by omega) (by omega))
        have hm_17 := pw_ke (a := ad (6 + 4 * j)) (e := .inr (0, [.int (nI j), .int (os j), .int (nI i), .ref (ad (7 + 4 * j)), .ref (ad (8 + 4 * j)), .ref (ad (9 + 4 * j))])) hm_14 (cw_ne hc (x := 2) (y := 6 + 4 * j) (by omega) (by omega) (by omega))
        have hm_18 := pw_ke (a := ad (6 + 4 * j)) (e := .inr (0, [.int (nI j), .int (os j), .int (nI i), .ref (ad (7 + 4 * j)), .ref (ad (8 + 4 * j)), .ref (ad (9 + 4 * j))])) hm_7 (cw_ne hc (x := 3) (y := 6 + 4 * j) (by omega) (by omega) (by omega))
        have hm_19 := pw_ke (a := ad (6 + 4 * j)) (e := .inr (0, [.int (nI j), .int (os j), .int (nI i), .ref (ad (7 + 4 * j)), .ref (ad (8 + 4 * j)), .ref (ad (9 + 4 * j))])) hm_8 (cw_ne hc (x := 4) (y := 6 + 4 * j) (by omega) (by omega) (by omega))
        have hm_20 := pw_ke (a := ad (6 + 4 * j)) (e := .inr (0, [.int (nI j), .int (os j), .int (nI i), .ref (ad (7 + 4 * j)), .ref (ad (8 + 4 * j)), .ref (ad (9 + 4 * j))])) hm_9 (cw_ne hc (x := 5) (y := 6 + 4 * j) (by omega) (by omega) (by omega))
        have hm_21 := pw_ke (a := ad (6 + 4 * j)) (e := .inr (0, [.int (nI j), .int (os j), .int (nI i), .ref (ad (7 + 4 * j)), .ref (ad (8 + 4 * j)), .ref (ad (9 + 4 * j))])) hm_11 (cw_ne hc (x := 7 + 4 * j) (y := 6 + 4 * j) (by omega) (by omega) (by omega))
        have hm_22 := pw_ke (a := ad (6 + 4 * j)) (e := .inr (0, [.int (nI j), .int (os j), .int (nI i), .ref (ad (7 + 4 * j)), .ref (ad (8 + 4 * j)), .ref (ad (9 + 4 * j))])) hm_12 (cw_ne hc (x := 8 + 4 * j) (y := 6 + 4 * j) (by omega) (by omega) (by omega))
        have hm_23 := pw_ke (a := ad (6 + 4 * j)) (e := .inr (0, [.int (nI j), .int (os j), .int (nI i), .ref (ad (7 + 4 * j)), .ref (ad (8 + 4 * j)), .ref (ad (9 + 4 * j))])) hm_13 (cw_ne hc (x := 9 + 4 * j) (y := 6 + 4 * j) (by omega) (by omega) (by omega))
        have hm_24 : pw_up (pw_up M (ad 2) (.inl (G.2.2.1 2, n, .inr (.inr (.inr (.inr (va_up (fun i => (oo i).map (fun j => ad (6 + 4 * j))) i (some (ad (6 + 4 * j)))))))))) (ad (6 + 4 * j)) (.inr (0, [.int (nI j), .int (os j), .int (nI i), .ref (ad (7 + 4 * j)), .ref (ad (8 + 4 * j)), .ref (ad (9 + 4 * j))])) (ad (6 + 4 * j)) = some (.inr (0, [.int (nI j), .int (os j), .int (nI i), .ref (ad (7 + 4 * j)), .ref (ad (8 + 4 * j)), .ref (ad (9 + 4 * j))])) := pw_us
        refine pw_aload_n (pc := 58) hX dX1_cell_58 1 rfl ?_
        refine pw_iconst (pc := 59) (v := 1) hX dX1_cell_59 (by decide) ?_
        refine pw_put (pc := 60) (v := .int 1) hX dX1_cell_60 hm_24 rfl inT_0 tyX0 tyX0_ok nmX0 1 (by decide) fl_RX1_69 rfl (tyX0_ok 1 (by decide)) rfl rfl (Nat.le_of_ble_eq_true rfl) [.int (nI j), .int 1, .int (nI i), .ref (ad (7 + 4 * j)), .ref (ad (8 + 4 * j)), .ref (ad (9 + 4 * j))] rfl ?_
        have hm_25 := pw_ke (a := ad (6 + 4 * j)) (e := .inr (0, [.int (nI j), .int 1, .int (nI i), .ref (ad (7 + 4 * j)), .ref (ad (8 + 4 * j)), .ref (ad (9 + 4 * j))])) hm_15 (cw_ne hc (x := 0) (y := 6 + 4 * j) (by omega) (by omega) (by omega))
        have hm_26 := pw_ke (a := ad (6 + 4 * j)) (e := .inr (0, [.int (nI j), .int 1, .int (nI i), .ref (ad (7 + 4 * j)), .ref (ad (8 + 4 * j)), .ref (ad (9 + 4 * j))])) hm_16 (cw_ne hc (x := 1) (y := 6 + 4 * j) (by omega) (by omega) (by omega))
        have hm_27 := pw_ke (a := ad (6 + 4 * j)) (e := .inr (0, [.int (nI j), .int 1, .int (nI i), .ref (ad (7 + 4 * j)), .ref (ad (8 + 4 * j)), .ref (ad (9 + 4 * j))])) hm_17 (cw_ne hc (x := 2) (y := 6 + 4 * j) (by omega) (by omega) (by omega))
        have hm_28 := pw_ke (a := ad (6 + 4 * j)) (e := .inr (0, [.int (nI j), .int 1, .int (nI i), .ref (ad (7 + 4 * j)), .ref (ad (8 + 4 * j)), .ref (ad (9 + 4 * j))])) hm_18 (cw_ne hc (x := 3) (y := 6 + 4 * j) (by omega) (by omega) (by omega))
        have hm_29 := pw_ke (a := ad (6 + 4 * j)) (e := .inr (0, [.int (nI j), .int 1, .int (nI i), .ref (ad (7 + 4 * j)), .ref (ad (8 + 4 * j)), .ref (ad (9 + 4 * j))])) hm_19 (cw_ne hc (x := 4) (y := 6 + 4 * j) (by omega) (by omega) (by omega))
        have hm_30 := pw_ke (a := ad (6 + 4 * j)) (e := .inr (0, [.int (nI j), .int 1, .int (nI i), .ref (ad (7 + 4 * j)), .ref (ad (8 + 4 * j)), .ref (ad (9 + 4 * j))])) hm_20 (cw_ne hc (x := 5) (y := 6 + 4 * j) (by omega) (by omega) (by omega))
        have hm_31 := pw_ke (a := ad (6 + 4 * j)) (e := .inr (0, [.int (nI j), .int 1, .int (nI i), .ref (ad (7 + 4 * j)), .ref (ad (8 + 4 * j)), .ref (ad (9 + 4 * j))])) hm_21 (cw_ne hc (x := 7 + 4 * j) (y := 6 + 4 * j) (by omega) (by omega) (by omega))
        have hm_32 := pw_ke (a := ad (6 + 4 * j)) (e := .inr (0, [.int (nI j), .int 1, .int (nI i), .ref (ad (7 + 4 * j)), .ref (ad (8 + 4 * j)), .ref (ad (9 + 4 * j))])) hm_22 (cw_ne hc (x := 8 + 4 * j) (y := 6 + 4 * j) (by omega) (by omega) (by omega))
        have hm_33 := pw_ke (a := ad (6 + 4 * j)) (e := .inr (0, [.int (nI j), .int 1, .int (nI i), .ref (ad (7 + 4 * j)), .ref (ad (8 + 4 * j)), .ref (ad (9 + 4 * j))])) hm_23 (cw_ne hc (x := 9 + 4 * j) (y := 6 + 4 * j) (by omega) (by omega) (by omega))
        have hm_34 : pw_up (pw_up (pw_up M (ad 2) (.inl (G.2.2.1 2, n, .inr (.inr (.inr (.inr (va_up (fun i => (oo i).map (fun j => ad (6 + 4 * j))) i (some (ad (6 + 4 * j)))))))))) (ad (6 + 4 * j)) (.inr (0, [.int (nI j), .int (os j), .int (nI i), .ref (ad (7 + 4 * j)), .ref (ad (8 + 4 * j)), .ref (ad (9 + 4 * j))]))) (ad (6 + 4 * j)) (.inr (0, [.int (nI j), .int 1, .int (nI i), .ref (ad (7 + 4 * j)), .ref (ad (8 + 4 * j)), .ref (ad (9 + 4 * j))])) (ad (6 + 4 * j)) = some (.inr (0, [.int (nI j), .int 1, .int (nI i), .ref (ad (7 + 4 * j)), .ref (ad (8 + 4 * j)), .ref (ad (9 + 4 * j))])) := pw_us
        refine pw_iload_n (pc := 63) hX dX1_cell_63 0 rfl ?_
        exact pw_iretx hX dX1_cell_64 hrt ⟨by decide, by decide⟩ (by rw [ix_nI hjB]; exact ⟨pc2_0 (fun h => h (ir_nI hj)) (fun h => h (by rw [ix_nI hjB]; exact ⟨hc_1, ct_pos hc_2⟩)), Or.inl ⟨i, hi, rfl, hoi, hdi, hfi, by have h9 := (cw_os (cw_os (cw_ooS hc i j hj) j hj (os j) (nI i)) j hj 1 (nI i)); rw [bx_uu, bx_uu] at h9; exact h9⟩, (fm_up (fm_up (fm_up fm_rf (x := 2) (by omega) _) (x := 6 + 4 * j) (by omega) _) (x := 6 + 4 * j) (by omega) _)⟩)
      · refine pw_istore_n (pc := 32) hX [(3, .int ((-1))), (2, .ref (ad (6 + 4 * j))), (0, .ref (ad 0)), (1, .int (nI j))] dX1_cell_32 (by decide) rfl ?_
        refine pw_iload_n (pc := 33) hX dX1_cell_33 0 rfl ?_
        refine pw_if_lt (pc := 34) hX 63 dX1_cell_34 (by decide) (fun _ => ?_) (fun h => absurd h (by decide))
        refine pw_iload_n (pc := 63) hX dX1_cell_63 0 rfl ?_
        exact pw_iretx hX dX1_cell_64 hrt ⟨by decide, by decide⟩ ⟨pc2_0 (fun h => h (ir_nI hj)) (fun h => h (by rw [ix_nI hjB]; exact ⟨hc_1, ct_pos hc_2⟩)), Or.inr ⟨rfl, hnone, rfl⟩, fm_rf⟩
set_option maxHeartbeats 4000000 in
set_option maxRecDepth 100000 in
theorem cp_light (l : Launch) (hl : l.stackTraces = false) (G : pw_G) (M : pw_M) (ad : Nat → Nat) (n oc : Nat) (td sd : Int32) (dk to er : Nat → Int32) (os pl : Nat → Int32) (oo : Nat → Option Nat) (wa pr de : Nat → Nat → Int32) (hc : cw G ad n oc td sd dk to er os pl oo wa pr de M) (p0 p1 : Int32) : pw_XMet l yX1_light cX1_light 4 (some .boolean) 3 1 6 G [.ref (ad 0), .int p0, .int p1] M (fun v9 M9 => cd_light n p0 = 0 ∧ v9 = some (.int (if dk (ix p0) = 0 then 1 else 0)) ∧ cw G ad n oc td sd (upd dk (ix p0) (if p1 = 0 then 1 else 0)) to er os pl oo wa pr de M9 ∧ fm ad (6 + 4 * oc) M M9) (fun E9 M9 => M = M9 ∧ (E9 = "java/lang/ArrayIndexOutOfBoundsException" ∧ cd_light n p0 = 1)) := by
  refine pw_ofx hl (by decide +kernel) (Nat.le_of_ble_eq_true rfl) [(0, .ref (ad 0)), (1, .int p0), (2, .int p1)] rfl ?_
  intro p9 e9 s9 m9 args9 below9 meth9 c9 hX hrt hex
  refine pw_aload_n (pc := 0) hX dX1_light_0 0 rfl ?_
  refine pw_iload_n (pc := 1) hX dX1_light_1 1 rfl ?_
  refine pw_callVx (pc := 2) (st := []) hX (ct_requireCell l hl G M ad n oc td sd dk to er os pl oo wa pr de hc p0) hc.1 rfl ok_X1_requireCell lk_RX1_93 dX1_light_2 rfl ⟨⟨by decide, by decide⟩, Nat.le_of_ble_eq_true rfl, Nat.le_of_ble_eq_true rfl, Nat.le_of_ble_eq_true rfl⟩ rfl (fun E9 M9 hx9 => ?_) (fun v9 M9 hp9 => ?_)
  · obtain ⟨rfl, rfl, hno⟩ := hx9
    exact pw_out hX hex ⟨Nat.le_of_ble_eq_true rfl, Nat.le_of_ble_eq_true rfl⟩ (⟨rfl, rfl, pc1_1 hno⟩)
  obtain ⟨rfl, rfl, t, ht, rfl⟩ := hp9
  have htB : t < 2 ^ 31 := Nat.lt_trans ht (Nat.lt_of_le_of_lt (cw_n hc) (by decide))
  refine pw_aload_n (pc := 5) hX dX1_light_5 0 rfl ?_
  refine pw_get (pc := 6) hX dX1_light_6 hc.1 rfl inT_1 3 (by decide) fl_RX1_44 rfl ?_
  refine pw_iload_n (pc := 9) hX dX1_light_9 1 rfl ?_
  refine pw_zald (pc := 10) (j := t) hX dX1_light_10 hc.2.2.2.1 ht (Nat.lt_of_le_of_lt (cw_n hc) (by decide)) ?_
  refine pw_if_ne (pc := 11) hX 18 dX1_light_11 (by decide) (fun hc_1 => ?_) (fun hc_1 => ?_)
  · refine pw_iconst (pc := 18) (v := 0) hX dX1_light_18 (by decide) ?_
    refine pw_istore_n (pc := 19) hX [(3, .int 0), (0, .ref (ad 0)), (1, .int (nI t)), (2, .int p1)] dX1_light_19 (by decide) rfl ?_
    refine pw_aload_n (pc := 20) hX dX1_light_20 1 rfl ?_
    refine pw_get (pc := 21) hX dX1_light_21 hc.1 rfl inT_1 3 (by decide) fl_RX1_44 rfl ?_
    refine pw_iload_n (pc := 24) hX dX1_light_24 2 rfl ?_
    refine pw_iload_n (pc := 25) hX dX1_light_25 3 rfl ?_
    refine pw_if_ne (pc := 26) hX 33 dX1_light_26 (by decide) (fun hc_2 => ?_) (fun hc_2 => ?_)
    · refine pw_iconst (pc := 33) (v := 0) hX dX1_light_33 (by decide) ?_
      refine pw_zast (pc := 34) (j := t) hX dX1_light_34 hc.2.2.2.1 ht (Nat.lt_of_le_of_lt (cw_n hc) (by decide)) ?_
      have hm_3 := pw_ke (a := ad 3) (e := .inl (G.2.2.1 1, n, .inl (upd dk t (vp_nar .boolean 0)))) hc.1 (cw_ne hc (x := 0) (y := 3) (by omega) (by omega) (by omega))
      have hm_4 := pw_ke (a := ad 3) (e := .inl (G.2.2.1 1, n, .inl (upd dk t (vp_nar .boolean 0)))) hc.2.1 (cw_ne hc (x := 1) (y := 3) (by omega) (by omega) (by omega))
      have hm_5 := pw_ke (a := ad 3) (e := .inl (G.2.2.1 1, n, .inl (upd dk t (vp_nar .boolean 0)))) hc.2.2.1 (cw_ne hc (x := 2) (y := 3) (by omega) (by omega) (by omega))
      have hm_6 := pw_ke (a := ad 3) (e := .inl (G.2.2.1 1, n, .inl (upd dk t (vp_nar .boolean 0)))) hc.2.2.2.2.1 (cw_ne hc (x := 4) (y := 3) (by omega) (by omega) (by omega))
      have hm_7 := pw_ke (a := ad 3) (e := .inl (G.2.2.1 1, n, .inl (upd dk t (vp_nar .boolean 0)))) hc.2.2.2.2.2.1 (cw_ne hc (x := 5) (y := 3) (by omega) (by omega) (by omega))
      have hm_8 : pw_up M (ad 3) (.inl (G.2.2.1 1, n, .inl (upd dk t (vp_nar .boolean 0)))) (ad 3) = some (.inl (G.2.2.1 1, n, .inl (upd dk t (vp_nar .boolean 0)))) := pw_us
      refine pw_iload_n (pc := 35) hX dX1_light_35 0 rfl ?_
      exact pw_zretx hX dX1_light_36 hrt rfl ⟨by decide, by decide⟩ (by rw [ix_nI htB]; exact ⟨pc1_0 (fun h => h (ir_nI ht)), by rw [if_neg hc_1], by rw [show (if p1 = 0 then (1 : Int32) else 0) = vp_nar .boolean 0 from by rw [if_neg hc_2]; exact nar_0.symm]; exact (cw_dk hc _), (fm_up fm_rf (x := 3) (by omega) _)⟩)
    · refine pw_iconst (pc := 29) (v := 1) hX dX1_light_29 (by decide) ?_
      refine pw_goto (pc := 30) hX 34 dX1_light_30 (by decide) ?_
      refine pw_zast (pc := 34) (j := t) hX dX1_light_34 hc.2.2.2.1 ht (Nat.lt_of_le_of_lt (cw_n hc) (by decide)) ?_
      have hm_9 := pw_ke (a := ad 3) (e := .inl (G.2.2.1 1, n, .inl (upd dk t (vp_nar .boolean 1)))) hc.1 (cw_ne hc (x := 0) (y := 3) (by omega) (by omega) (by omega))
      have hm_10 := pw_ke (a := ad 3) (e := .inl (G.2.2.1 1, n, .inl (upd dk t (vp_nar .boolean 1)))) hc.2.1 (cw_ne hc (x := 1) (y := 3) (by omega) (by omega) (by omega))
      have hm_11 := pw_ke (a := ad 3) (e := .inl (G.2.2.1 1, n, .inl (upd dk t (vp_nar .boolean 1)))) hc.2.2.1 (cw_ne hc (x := 2) (y := 3) (by omega) (by omega) (by omega))
      have hm_12 := pw_ke (a := ad 3) (e := .inl (G.2.2.1 1, n, .inl (upd dk t (vp_nar .boolean 1)))) hc.2.2.2.2.1 (cw_ne hc (x := 4) (y := 3) (by omega) (by omega) (by omega))
      have hm_13 := pw_ke (a := ad 3) (e := .inl (G.2.2.1 1, n, .inl (upd dk t (vp_nar .boolean 1)))) hc.2.2.2.2.2.1 (cw_ne hc (x := 5) (y := 3) (by omega) (by omega) (by omega))
      have hm_14 : pw_up M (ad 3) (.inl (G.2.2.1 1, n, .inl (upd dk t (vp_nar .boolean 1)))) (ad 3) = some (.inl (G.2.2.1 1, n, .inl (upd dk t (vp_nar .boolean 1)))) := pw_us
      refine pw_iload_n (pc := 35) hX dX1_light_35 0 rfl ?_
      exact pw_zretx hX dX1_light_36 hrt rfl ⟨by decide, by decide⟩ (by rw [ix_nI htB]; exact ⟨pc1_0 (fun h => h (ir_nI ht)), by rw [if_neg hc_1], by rw [show (if p1 = 0 then (1 : Int32) else 0) = vp_nar .boolean 1 from by rw [if_pos hc_2]; exact nar_1.symm]; exact (cw_dk hc _), (fm_up fm_rf (x := 3) (by omega) _)⟩)
  · refine pw_iconst (pc := 14) (v := 1) hX dX1_light_14 (by decide) ?_
    refine pw_goto (pc := 15) hX 19 dX1_light_15 (by decide) ?_
    refine pw_istore_n (pc := 19) hX [(3, .int 1), (0, .ref (ad 0)), (1, .int (nI t)), (2, .int p1)] dX1_light_19 (by decide) rfl ?_
    refine pw_aload_n (pc := 20) hX dX1_light_20 1 rfl ?_
    refine pw_get (pc := 21) hX dX1_light_21 hc.1 rfl inT_1 3 (by decide) fl_RX1_44 rfl ?_
    refine pw_iload_n (pc := 24) hX dX1_light_24 2 rfl ?_
    refine pw_iload_n (pc := 25) hX dX1_light_25 3 rfl ?_
    refine pw_if_ne (pc := 26) hX 33 dX1_light_26 (by decide) (fun hc_15 => ?_) (fun hc_15 => ?_)
    · refine pw_iconst (pc := 33) (v := 0) hX dX1_light_33 (by decide) ?_
      refine pw_zast (pc := 34) (j := t) hX dX1_light_34 hc.2.2.2.1 ht (Nat.lt_of_le_of_lt (cw_n hc) (by decide)) ?_
      have hm_16 := pw_ke (a := ad 3) (e := .inl (G.2.2.1 1, n, .inl (upd dk t (vp_nar .boolean 0)))) hc.1 (cw_ne hc (x := 0) (y := 3) (by omega) (by omega) (by omega))
      have hm_17 := pw_ke (a := ad 3) (e := .inl (G.2.2.1 1, n, .inl (upd dk t (vp_nar .boolean 0)))) hc.2.1 (cw_ne hc (x := 1) (y := 3) (by omega) (by omega) (by omega))
      have hm_18 := pw_ke (a := ad 3) (e := .inl (G.2.2.1 1, n, .inl (upd dk t (vp_nar .boolean 0)))) hc.2.2.1 (cw_ne hc (x := 2) (y := 3) (by omega) (by omega) (by omega))
      have hm_19 := pw_ke (a := ad 3) (e := .inl (G.2.2.1 1, n, .inl (upd dk t (vp_nar .boolean 0)))) hc.2.2.2.2.1 (cw_ne hc (x := 4) (y := 3) (by omega) (by omega) (by omega))
      have hm_20 := pw_ke (a := ad 3) (e := .inl (G.2.2.1 1, n, .inl (upd dk t (vp_nar .boolean 0)))) hc.2.2.2.2.2.1 (cw_ne hc (x := 5) (y := 3) (by omega) (by omega) (by omega))
      have hm_21 : pw_up M (ad 3) (.inl (G.2.2.1 1, n, .inl (upd dk t (vp_nar .boolean 0)))) (ad 3) = some (.inl (G.2.2.1 1, n, .inl (upd dk t (vp_nar .boolean 0)))) := pw_us
      refine pw_iload_n (pc := 35) hX dX1_light_35 0 rfl ?_
      exact pw_zretx hX dX1_light_36 hrt rfl ⟨by decide, by decide⟩ (by rw [ix_nI htB]; exact ⟨pc1_0 (fun h => h (ir_nI ht)), by rw [if_pos hc_1], by rw [show (if p1 = 0 then (1 : Int32) else 0) = vp_nar .boolean 0 from by rw [if_neg hc_15]; exact nar_0.symm]; exact (cw_dk hc _), (fm_up fm_rf (x := 3) (by omega) _)⟩)
    · refine pw_iconst (pc := 29) (v := 1) hX dX1_light_29 (by decide) ?_
      refine pw_goto (pc := 30) hX 34 dX1_light_30 (by decide) ?_
      refine pw_zast (pc := 34) (j := t) hX dX1_light_34 hc.2.2.2.1 ht (Nat.lt_of_le_of_lt (cw_n hc) (by decide)) ?_
      have hm_22 := pw_ke (a := ad 3) (e := .inl (G.2.2.1 1, n, .inl (upd dk t (vp_nar .boolean 1)))) hc.1 (cw_ne hc (x := 0) (y := 3) (by omega) (by omega) (by omega))
      have hm_23 := pw_ke (a := ad 3) (e := .inl (G.2.2.1 1, n, .inl (upd dk t (vp_nar .boolean 1)))) hc.2.1 (cw_ne hc (x := 1) (y := 3) (by omega) (by omega) (by omega))
      have hm_24 := pw_ke (a := ad 3) (e := .inl (G.2.2.1 1, n, .inl (upd dk t (vp_nar .boolean 1)))) hc.2.2.1 (cw_ne hc (x := 2) (y := 3) (by omega) (by omega) (by omega))
      have hm_25 := pw_ke (a := ad 3) (e := .inl (G.2.2.1 1, n, .inl (upd dk t (vp_nar .boolean 1)))) hc.2.2.2.2.1 (cw_ne hc (x := 4) (y := 3) (by omega) (by omega) (by omega))
      have hm_26 := pw_ke (a := ad 3) (e := .inl (G.2.2.1 1, n, .inl (upd dk t (vp_nar .boolean 1)))) hc.2.2.2.2.2.1 (cw_ne hc (x := 5) (y := 3) (by omega) (by omega) (by omega))
      have hm_27 : pw_up M (ad 3) (.inl (G.2.2.1 1, n, .inl (upd dk t (vp_nar .boolean 1)))) (ad 3) = some (.inl (G.2.2.1 1, n, .inl (upd dk t (vp_nar .boolean 1)))) := pw_us
      refine pw_iload_n (pc := 35) hX dX1_light_35 0 rfl ?_
      exact pw_zretx hX dX1_light_36 hrt rfl ⟨by decide, by decide⟩ (by rw [ix_nI htB]; exact ⟨pc1_0 (fun h => h (ir_nI ht)), by rw [if_pos hc_1], by rw [show (if p1 = 0 then (1 : Int32) else 0) = vp_nar .boolean 1 from by rw [if_pos hc_15]; exact nar_1.symm]; exact (cw_dk hc _), (fm_up fm_rf (x := 3) (by omega) _)⟩)
set_option maxHeartbeats 4000000 in
set_option maxRecDepth 100000 in
theorem cp_scan (l : Launch) (hl : l.stackTraces = false) (G : pw_G) (M : pw_M) (ad : Nat → Nat) (n oc : Nat) (td sd : Int32) (dk to er : Nat → Int32) (os pl : Nat → Int32) (oo : Nat → Option Nat) (wa pr de : Nat → Nat → Int32) (hc : cw G ad n oc td sd dk to er os pl oo wa pr de M) (p0 p1 p2 : Int32) : pw_XMet l yX1_scan cX1_scan 5 (some .int) 3 3 18 G [.ref (ad 0), .int p0, .int p1, .int p2] M (fun v9 M9 => cd_scan n p0 p1 p2 = 0 ∧ (oo (ix p0) = none ∧ v9 = some (.int (-1)) ∧ cw G ad n oc td sd dk to (upd er (ix p2) (er (ix p2) + 1)) os pl oo wa pr de M9 ∨ ∃ j r, oo (ix p0) = some j ∧ j < oc ∧ v9 = some (.int r) ∧ r = sc_r (dk (ix p0)) (wa j (ix p1)) (pr j (ix p1)) (os j) (to (ix p1)) ∧ (r = 1 ∧ cw G ad n oc td sd dk (upd to (ix p1) (to (ix p1) - 1)) er os pl oo wa (va_up pr j (upd (pr j) (ix p1) (pr j (ix p1) + 1))) de M9 ∨ r < 0 ∧ cw G ad n oc td sd dk to (upd er (ix p2) (er (ix p2) + 1)) os pl oo wa pr de M9)) ∧ fm ad (6 + 4 * oc) M M9) (fun E9 M9 => M = M9 ∧ (E9 = "java/lang/ArrayIndexOutOfBoundsException" ∧ cd_scan n p0 p1 p2 = 1 ∨ E9 = "java/lang/IllegalArgumentException" ∧ cd_scan n p0 p1 p2 = 2)) := by
  refine pw_ofx hl (by decide +kernel) (Nat.le_of_ble_eq_true rfl) [(0, .ref (ad 0)), (1, .int p0), (2, .int p1), (3, .int p2)] rfl ?_
  intro p9 e9 s9 m9 args9 below9 meth9 c9 hX hrt hex
  refine pw_aload_n (pc := 0) hX dX1_scan_0 0 rfl ?_
  refine pw_iload_n (pc := 1) hX dX1_scan_1 1 rfl ?_
  refine pw_callVx (pc := 2) (st := []) hX (ct_requireCell l hl G M ad n oc td sd dk to er os pl oo wa pr de hc p0) hc.1 rfl ok_X1_requireCell lk_RX1_93 dX1_scan_2 rfl ⟨⟨by decide, by decide⟩, Nat.le_of_ble_eq_true rfl, Nat.le_of_ble_eq_true rfl, Nat.le_of_ble_eq_true rfl⟩ rfl (fun E9 M9 hx9 => ?_) (fun v9 M9 hp9 => ?_)
  · obtain ⟨rfl, rfl, hno⟩ := hx9
    exact pw_out hX hex ⟨Nat.le_of_ble_eq_true rfl, Nat.le_of_ble_eq_true rfl⟩ (⟨rfl, Or.inl (⟨rfl, pc_t hno⟩)⟩)
  obtain ⟨rfl, rfl, t, ht, rfl⟩ := hp9
  have htB : t < 2 ^ 31 := Nat.lt_trans ht (Nat.lt_of_le_of_lt (cw_n hc) (by decide))
  refine pw_iload_n (pc := 5) hX dX1_scan_5 2 rfl ?_
  refine pw_callSx (pc := 6) (st := []) hX (ct_requireGood l hl G M p1) ok_X1_requireGood lk_RX1_48 dX1_scan_6 rfl ⟨⟨by decide, by decide⟩, Nat.le_of_ble_eq_true rfl, Nat.le_of_ble_eq_true rfl, Nat.le_of_ble_eq_true rfl⟩ rfl (fun E9 M9 hx9 => ?_) (fun v9 M9 hp9 => ?_)
  · obtain ⟨rfl, rfl, hno⟩ := hx9
    exact pw_out hX hex ⟨Nat.le_of_ble_eq_true rfl, Nat.le_of_ble_eq_true rfl⟩ (⟨rfl, Or.inr (⟨rfl, pc2_2 (fun h => h (ir_nI ht)) (fun h => hno h.1)⟩)⟩)
  obtain ⟨rfl, rfl, g, hg, rfl⟩ := hp9
  have hgB : g < 2 ^ 31 := Nat.lt_of_lt_of_le hg (by decide)
  refine pw_iload_n (pc := 9) hX dX1_scan_9 3 rfl ?_
  refine pw_callSx (pc := 10) (st := []) hX (ct_requirePerson l hl G M p2) ok_X1_requirePerson lk_RX1_96 dX1_scan_10 rfl ⟨⟨by decide, by decide⟩, Nat.le_of_ble_eq_true rfl, Nat.le_of_ble_eq_true rfl, Nat.le_of_ble_eq_true rfl⟩ rfl (fun E9 M9 hx9 => ?_) (fun v9 M9 hp9 => ?_)
  · obtain ⟨rfl, rfl, hno⟩ := hx9
    exact pw_out hX hex ⟨Nat.le_of_ble_eq_true rfl, Nat.le_of_ble_eq_true rfl⟩ (⟨rfl, Or.inr (⟨rfl, pc2_2 (fun h => h (ir_nI ht)) (fun h => hno h.2)⟩)⟩)
  obtain ⟨rfl, rfl, q, hq, rfl⟩ := hp9
  have hqB : q < 2 ^ 31 := Nat.lt_of_lt_of_le hq (by decide)
  refine pw_aload_n (pc := 13) hX dX1_scan_13 0 rfl ?_
  refine pw_aload_n (pc := 14) hX dX1_scan_14 0 rfl ?_
  refine pw_get (pc := 15) hX dX1_scan_15 hc.1 rfl inT_1 2 (by decide) fl_RX1_41 rfl ?_
  refine pw_iload_n (pc := 18) hX dX1_scan_18 1 rfl ?_
  refine pw_aald (pc := 19) (j := t) hX dX1_scan_19 hc.2.2.1 ht (Nat.lt_of_le_of_lt (cw_n hc) (by decide)) ?_
  rcases op_two (oo t) with ho_1 | ⟨j_2, ho_1⟩
  · refine pw_cg (vb := .null) (by show va_rf ((oo t).map _) = _; rw [ho_1]; rfl) ?_
    refine pw_aload_n (pc := 20) hX dX1_scan_20 0 rfl ?_
    refine pw_get (pc := 21) hX dX1_scan_21 hc.1 rfl inT_1 3 (by decide) fl_RX1_44 rfl ?_
    refine pw_iload_n (pc := 24) hX dX1_scan_24 1 rfl ?_
    refine pw_zald (pc := 25) (j := t) hX dX1_scan_25 hc.2.2.2.1 ht (Nat.lt_of_le_of_lt (cw_n hc) (by decide)) ?_
    refine pw_iload_n (pc := 26) hX dX1_scan_26 2 rfl ?_
    refine pw_callV (pc := 27) (st := []) hX (ct_putN l hl G M ad n oc td sd dk to er os pl oo wa pr de hc (dk t) g) hc.1 rfl ok_X1_put lk_RX1_99 dX1_scan_27 rfl ⟨⟨by decide, by decide⟩, Nat.le_of_ble_eq_true rfl, Nat.le_of_ble_eq_true rfl, Nat.le_of_ble_eq_true rfl⟩ rfl (fun v9 M9 hp9 => ?_)
    obtain ⟨rfl, rfl⟩ := hp9
    refine pw_istore (pc := 30) hX [(4, .int ((-1))), (0, .ref (ad 0)), (1, .int (nI t)), (2, .int (nI g)), (3, .int (nI q))] dX1_scan_30 (by decide) rfl ?_
    refine pw_iload (pc := 32) hX dX1_scan_32 0 rfl ?_
    refine pw_if_ge (pc := 34) hX 47 dX1_scan_34 (by decide) (fun h => absurd h (by decide)) (fun _ => ?_)
    refine pw_aload_n (pc := 37) hX dX1_scan_37 1 rfl ?_
    refine pw_get (pc := 38) hX dX1_scan_38 hc.1 rfl inT_1 5 (by decide) fl_RX1_23 rfl ?_
    refine pw_iload_n (pc := 41) hX dX1_scan_41 4 rfl ?_
    refine pw_dup2 (pc := 42) hX dX1_scan_42 rfl rfl ?_
    refine pw_iald (pc := 43) (j := q) hX dX1_scan_43 hc.2.2.2.2.2.1 hq (by decide) ?_
    refine pw_iconst (pc := 44) (v := 1) hX dX1_scan_44 (by decide) ?_
    refine pw_iadd (pc := 45) (z := (er q) + 1) hX dX1_scan_45 rfl ?_
    refine pw_iast (pc := 46) (j := q) hX dX1_scan_46 hc.2.2.2.2.2.1 hq (by decide) ?_
    have hm_4 := pw_ke (a := ad 5) (e := .inl (G.2.2.1 0, 8, .inl (upd er q ((er q) + 1)))) hc.1 (cw_ne hc (x := 0) (y := 5) (by omega) (by omega) (by omega))
    have hm_5 := pw_ke (a := ad 5) (e := .inl (G.2.2.1 0, 8, .inl (upd er q ((er q) + 1)))) hc.2.1 (cw_ne hc (x := 1) (y := 5) (by omega) (by omega) (by omega))
    have hm_6 := pw_ke (a := ad 5) (e := .inl (G.2.2.1 0, 8, .inl (upd er q ((er q) + 1)))) hc.2.2.1 (cw_ne hc (x := 2) (y := 5) (by omega) (by omega) (by omega))
    have hm_7 := pw_ke (a := ad 5) (e := .inl (G.2.2.1 0, 8, .inl (upd er q ((er q) + 1)))) hc.2.2.2.1 (cw_ne hc (x := 3) (y := 5) (by omega) (by omega) (by omega))
    have hm_8 := pw_ke (a := ad 5) (e := .inl (G.2.2.1 0, 8, .inl (upd er q ((er q) + 1)))) hc.2.2.2.2.1 (cw_ne hc (x := 4) (y := 5) (by omega) (by omega) (by omega))
    have hm_9 : pw_up M (ad 5) (.inl (G.2.2.1 0, 8, .inl (upd er q ((er q) + 1)))) (ad 5) = some (.inl (G.2.2.1 0, 8, .inl (upd er q ((er q) + 1)))) := pw_us
    refine pw_iload (pc := 47) hX dX1_scan_47 0 rfl ?_
    exact pw_iretx hX dX1_scan_49 hrt ⟨by decide, by decide⟩ (by rw [ix_nI htB, ix_nI hgB, ix_nI hqB]; exact ⟨pc2_0 (fun h => h (ir_nI ht)) (fun h => h ⟨ir_nI hg, ir_nI hq⟩), Or.inl ⟨ho_1, rfl, (cw_er hc _)⟩, (fm_up fm_rf (x := 5) (by omega) _)⟩)
  · have hj_2 : j_2 < oc := cw_oo hc t j_2 ht ho_1
    refine pw_cg (vb := .ref (ad (6 + 4 * j_2))) (by show va_rf ((oo t).map _) = _; rw [ho_1]; rfl) ?_
    refine pw_aload_n (pc := 20) hX dX1_scan_20 0 rfl ?_
    refine pw_get (pc := 21) hX dX1_scan_21 hc.1 rfl inT_1 3 (by decide) fl_RX1_44 rfl ?_
    refine pw_iload_n (pc := 24) hX dX1_scan_24 1 rfl ?_
    refine pw_zald (pc := 25) (j := t) hX dX1_scan_25 hc.2.2.2.1 ht (Nat.lt_of_le_of_lt (cw_n hc) (by decide)) ?_
    refine pw_iload_n (pc := 26) hX dX1_scan_26 2 rfl ?_
    refine pw_callV (pc := 27) (st := []) hX (ct_putS l hl G M ad n oc td sd dk to er os pl oo wa pr de hc j_2 hj_2 (dk t) g hg) hc.1 rfl ok_X1_put lk_RX1_99 dX1_scan_27 rfl ⟨⟨by decide, by decide⟩, Nat.le_of_ble_eq_true rfl, Nat.le_of_ble_eq_true rfl, Nat.le_of_ble_eq_true rfl⟩ rfl (fun v9 M9 hp9 => ?_)
    obtain ⟨r, rfl, hr, ⟨rfl, hcw, hfm⟩ | ⟨hlt, rfl⟩⟩ := hp9
    · refine pw_istore (pc := 30) hX [(4, .int 1), (0, .ref (ad 0)), (1, .int (nI t)), (2, .int (nI g)), (3, .int (nI q))] dX1_scan_30 (by decide) rfl ?_
      refine pw_iload (pc := 32) hX dX1_scan_32 0 rfl ?_
      refine pw_if_ge (pc := 34) hX 47 dX1_scan_34 (by decide) (fun _ => ?_) (fun h => absurd h (by decide))
      refine pw_iload (pc := 47) hX dX1_scan_47 0 rfl ?_
      exact pw_iretx hX dX1_scan_49 hrt ⟨by decide, by decide⟩ (by rw [ix_nI htB, ix_nI hgB, ix_nI hqB]; exact ⟨pc2_0 (fun h => h (ir_nI ht)) (fun h => h ⟨ir_nI hg, ir_nI hq⟩), Or.inr ⟨j_2, _, ho_1, hj_2, rfl, hr, Or.inl ⟨rfl, hcw⟩⟩, hfm⟩)
    · refine pw_istore (pc := 30) hX [(4, .int r), (0, .ref (ad 0)), (1, .int (nI t)), (2, .int (nI g)), (3, .int (nI q))] dX1_scan_30 (by decide) rfl ?_
      refine pw_iload (pc := 32) hX dX1_scan_32 0 rfl ?_
      refine pw_if_ge (pc := 34) hX 47 dX1_scan_34 (by decide) (fun hc_11 => absurd hc_11 (Int32.not_le.mpr hlt)) (fun hc_11 => ?_)
      refine pw_aload_n (pc := 37) hX dX1_scan_37 1 rfl ?_
      refine pw_get (pc := 38) hX dX1_scan_38 hc.1 rfl inT_1 5 (by decide) fl_RX1_23 rfl ?_
      refine pw_iload_n (pc := 41) hX dX1_scan_41 4 rfl ?_
      refine pw_dup2 (pc := 42) hX dX1_scan_42 rfl rfl ?_
      refine pw_iald (pc := 43) (j := q) hX dX1_scan_43 hc.2.2.2.2.2.1 hq (by decide) ?_
      refine pw_iconst (pc := 44) (v := 1) hX dX1_scan_44 (by decide) ?_
      refine pw_iadd (pc := 45) (z := (er q) + 1) hX dX1_scan_45 rfl ?_
      refine pw_iast (pc := 46) (j := q) hX dX1_scan_46 hc.2.2.2.2.2.1 hq (by decide) ?_
      have hm_12 := pw_ke (a := ad 5) (e := .inl (G.2.2.1 0, 8, .inl (upd er q ((er q) + 1)))) hc.1 (cw_ne hc (x := 0) (y := 5) (by omega) (by omega) (by omega))
      have hm_13 := pw_ke (a := ad 5) (e := .inl (G.2.2.1 0, 8, .inl (upd er q ((er q) + 1)))) hc.2.1 (cw_ne hc (x := 1) (y := 5) (by omega) (by omega) (by omega))
      have hm_14 := pw_ke (a := ad 5) (e := .inl (G.2.2.1 0, 8, .inl (upd er q ((er q) + 1)))) hc.2.2.1 (cw_ne hc (x := 2) (y := 5) (by omega) (by omega) (by omega))
      have hm_15 := pw_ke (a := ad 5) (e := .inl (G.2.2.1 0, 8, .inl (upd er q ((er q) + 1)))) hc.2.2.2.1 (cw_ne hc (x := 3) (y := 5) (by omega) (by omega) (by omega))
      have hm_16 := pw_ke (a := ad 5) (e := .inl (G.2.2.1 0, 8, .inl (upd er q ((er q) + 1)))) hc.2.2.2.2.1 (cw_ne hc (x := 4) (y := 5) (by omega) (by omega) (by omega))
      have hm_17 := pw_ke (a := ad 5) (e := .inl (G.2.2.1 0, 8, .inl (upd er q ((er q) + 1)))) (cw_o hc j_2 hj_2).1 (cw_ne hc (x := 6 + 4 * j_2) (y := 5) (by omega) (by omega) (by omega))
      have hm_18 := pw_ke (a := ad 5) (e := .inl (G.2.2.1 0, 8, .inl (upd er q ((er q) + 1)))) (cw_o hc j_2 hj_2).2.1 (cw_ne hc (x := 7 + 4 * j_2) (y := 5) (by omega) (by omega) (by omega))
      have hm_19 := pw_ke (a := ad 5) (e := .inl (G.2.2.1 0, 8, .inl (upd er q ((er q) + 1)))) (cw_o hc j_2 hj_2).2.2.1 (cw_ne hc (x := 8 + 4 * j_2) (y := 5) (by omega) (by omega) (by omega))
      have hm_20 := pw_ke (a := ad 5) (e := .inl (G.2.2.1 0, 8, .inl (upd er q ((er q) + 1)))) (cw_o hc j_2 hj_2).2.2.2 (cw_ne hc (x := 9 + 4 * j_2) (y := 5) (by omega) (by omega) (by omega))
      have hm_21 : pw_up M (ad 5) (.inl (G.2.2.1 0, 8, .inl (upd er q ((er q) + 1)))) (ad 5) = some (.inl (G.2.2.1 0, 8, .inl (upd er q ((er q) + 1)))) := pw_us
      refine pw_iload (pc := 47) hX dX1_scan_47 0 rfl ?_
      exact pw_iretx hX dX1_scan_49 hrt ⟨by decide, by decide⟩ (by rw [ix_nI htB, ix_nI hgB, ix_nI hqB]; exact ⟨pc2_0 (fun h => h (ir_nI ht)) (fun h => h ⟨ir_nI hg, ir_nI hq⟩), Or.inr ⟨j_2, _, ho_1, hj_2, rfl, hr, Or.inr ⟨hlt, (cw_er hc _)⟩⟩, (fm_up fm_rf (x := 5) (by omega) _)⟩)
set_option maxHeartbeats 4000000 in
set_option maxRecDepth 100000 in
theorem cp_undo (l : Launch) (hl : l.stackTraces = false) (G : pw_G) (M : pw_M) (ad : Nat → Nat) (n oc : Nat) (td sd : Int32) (dk to er : Nat → Int32) (os pl : Nat → Int32) (oo : Nat → Option Nat) (wa pr de : Nat → Nat → Int32) (hc : cw G ad n oc td sd dk to er os pl oo wa pr de M) (p0 p1 : Int32) : pw_XMet l yX1_undo cX1_undo 4 (some .int) 3 3 18 G [.ref (ad 0), .int p0, .int p1] M (fun v9 M9 => cd_undo n oo os pr p0 p1 = 0 ∧ ∃ j, oo (ix p0) = some j ∧ j < oc ∧ v9 = some (.int (pr j (ix p1) - 1)) ∧ cw G ad n oc td sd dk (upd to (ix p1) (to (ix p1) + 1)) er os pl oo wa (va_up pr j (upd (pr j) (ix p1) (pr j (ix p1) - 1))) de M9 ∧ fm ad (6 + 4 * oc) M M9) (fun E9 M9 => M = M9 ∧ (E9 = "java/lang/ArrayIndexOutOfBoundsException" ∧ cd_undo n oo os pr p0 p1 = 1 ∨ E9 = "java/lang/IllegalArgumentException" ∧ cd_undo n oo os pr p0 p1 = 2 ∨ E9 = "java/lang/IllegalStateException" ∧ cd_undo n oo os pr p0 p1 = 3)) := by
  refine pw_ofx hl (by decide +kernel) (Nat.le_of_ble_eq_true rfl) [(0, .ref (ad 0)), (1, .int p0), (2, .int p1)] rfl ?_
  intro p9 e9 s9 m9 args9 below9 meth9 c9 hX hrt hex
  refine pw_aload_n (pc := 0) hX dX1_undo_0 0 rfl ?_
  refine pw_iload_n (pc := 1) hX dX1_undo_1 1 rfl ?_
  refine pw_callVx (pc := 2) (st := []) hX (ct_requireCell l hl G M ad n oc td sd dk to er os pl oo wa pr de hc p0) hc.1 rfl ok_X1_requireCell lk_RX1_93 dX1_undo_2 rfl ⟨⟨by decide, by decide⟩, Nat.le_of_ble_eq_true rfl, Nat.le_of_ble_eq_true rfl, Nat.le_of_ble_eq_true rfl⟩ rfl (fun E9 M9 hx9 => ?_) (fun v9 M9 hp9 => ?_)
  · obtain ⟨rfl, rfl, hno⟩ := hx9
    exact pw_out hX hex ⟨Nat.le_of_ble_eq_true rfl, Nat.le_of_ble_eq_true rfl⟩ (⟨rfl, Or.inl (⟨rfl, pc_t hno⟩)⟩)
  obtain ⟨rfl, rfl, t, ht, rfl⟩ := hp9
  have htB : t < 2 ^ 31 := Nat.lt_trans ht (Nat.lt_of_le_of_lt (cw_n hc) (by decide))
  refine pw_iload_n (pc := 5) hX dX1_undo_5 2 rfl ?_
  refine pw_callSx (pc := 6) (st := []) hX (ct_requireGood l hl G M p1) ok_X1_requireGood lk_RX1_48 dX1_undo_6 rfl ⟨⟨by decide, by decide⟩, Nat.le_of_ble_eq_true rfl, Nat.le_of_ble_eq_true rfl, Nat.le_of_ble_eq_true rfl⟩ rfl (fun E9 M9 hx9 => ?_) (fun v9 M9 hp9 => ?_)
  · obtain ⟨rfl, rfl, hno⟩ := hx9
    exact pw_out hX hex ⟨Nat.le_of_ble_eq_true rfl, Nat.le_of_ble_eq_true rfl⟩ (⟨rfl, Or.inr (Or.inl (⟨rfl, pc3_2 (fun h => h (ir_nI ht)) hno⟩))⟩)
  obtain ⟨rfl, rfl, g, hg, rfl⟩ := hp9
  have hgB : g < 2 ^ 31 := Nat.lt_of_lt_of_le hg (by decide)
  refine pw_aload_n (pc := 9) hX dX1_undo_9 0 rfl ?_
  refine pw_get (pc := 10) hX dX1_undo_10 hc.1 rfl inT_1 2 (by decide) fl_RX1_41 rfl ?_
  refine pw_iload_n (pc := 13) hX dX1_undo_13 1 rfl ?_
  refine pw_aald (pc := 14) (j := t) hX dX1_undo_14 hc.2.2.1 ht (Nat.lt_of_le_of_lt (cw_n hc) (by decide)) ?_
  rcases op_two (oo t) with ho_1 | ⟨j_2, ho_1⟩
  · refine pw_cg (vb := .null) (by show va_rf ((oo t).map _) = _; rw [ho_1]; rfl) ?_
    refine pw_astore_nN (pc := 15) hX [(3, .null), (0, .ref (ad 0)), (1, .int (nI t)), (2, .int (nI g))] dX1_undo_15 (by decide) rfl ?_
    refine pw_aload_nN (pc := 16) hX dX1_undo_16 0 rfl ?_
    refine pw_ifnullN (pc := 17) hX 37 dX1_undo_17 (by decide) ?_
    exact pw_throw (pc := 37) (names := ["java/lang/RuntimeException", "java/lang/Exception"]) (text := "nothing to undo") hX hex dX1_undo_37 dX1_undo_40 dX1_undo_41 dX1_undo_43 dX1_undo_46 rfl ⟨by decide +kernel, by decide +kernel⟩ th_RX1_106 (by decide +kernel) ta_RX1_110 tg_RX1_110 ⟨by decide, Nat.le_of_ble_eq_true rfl, Nat.le_of_ble_eq_true rfl, Nat.le_of_ble_eq_true rfl⟩ ⟨Nat.le_of_ble_eq_true rfl, Nat.le_of_ble_eq_true rfl⟩ ⟨rfl, Or.inr (Or.inr (⟨rfl, pc3_3 (fun h => h (ir_nI ht)) (fun h => h (ir_nI hg)) (by rw [ix_nI htB]; intro j hj; rw [ho_1] at hj; cases hj)⟩))⟩
  · have hj_2 : j_2 < oc := cw_oo hc t j_2 ht ho_1
    refine pw_cg (vb := .ref (ad (6 + 4 * j_2))) (by show va_rf ((oo t).map _) = _; rw [ho_1]; rfl) ?_
    refine pw_astore_n (pc := 15) hX [(3, .ref (ad (6 + 4 * j_2))), (0, .ref (ad 0)), (1, .int (nI t)), (2, .int (nI g))] dX1_undo_15 (by decide) rfl ?_
    refine pw_aload_n (pc := 16) hX dX1_undo_16 0 rfl ?_
    refine pw_ifnull (pc := 17) hX dX1_undo_17  ?_
    refine pw_aload_n (pc := 20) hX dX1_undo_20 0 rfl ?_
    refine pw_get (pc := 21) hX dX1_undo_21 (cw_o hc j_2 hj_2).1 rfl inT_0 1 (by decide) fl_RX1_69 rfl ?_
    refine pw_iconst (pc := 24) (v := 2) hX dX1_undo_24 (by decide) ?_
    refine pw_icmp_eq (pc := 25) hX 37 dX1_undo_25 (by decide) (fun hc_3 => ?_) (fun hc_3 => ?_)
    · exact pw_throw (pc := 37) (names := ["java/lang/RuntimeException", "java/lang/Exception"]) (text := "nothing to undo") hX hex dX1_undo_37 dX1_undo_40 dX1_undo_41 dX1_undo_43 dX1_undo_46 rfl ⟨by decide +kernel, by decide +kernel⟩ th_RX1_106 (by decide +kernel) ta_RX1_110 tg_RX1_110 ⟨by decide, Nat.le_of_ble_eq_true rfl, Nat.le_of_ble_eq_true rfl, Nat.le_of_ble_eq_true rfl⟩ ⟨Nat.le_of_ble_eq_true rfl, Nat.le_of_ble_eq_true rfl⟩ ⟨rfl, Or.inr (Or.inr (⟨rfl, pc3_3 (fun h => h (ir_nI ht)) (fun h => h (ir_nI hg)) (by rw [ix_nI htB]; intro j hj; rw [ho_1] at hj; cases hj; exact Or.inl hc_3)⟩))⟩
    · refine pw_aload_n (pc := 28) hX dX1_undo_28 0 rfl ?_
      refine pw_get (pc := 29) hX dX1_undo_29 (cw_o hc j_2 hj_2).1 rfl inT_0 4 (by decide) fl_RX1_103 rfl ?_
      refine pw_iload_n (pc := 32) hX dX1_undo_32 3 rfl ?_
      refine pw_iald (pc := 33) (j := g) hX dX1_undo_33 (cw_o hc j_2 hj_2).2.2.1 hg (by decide) ?_
      refine pw_if_ne (pc := 34) hX 47 dX1_undo_34 (by decide) (fun hc_4 => ?_) (fun hc_4 => ?_)
      · refine pw_aload_n (pc := 47) hX dX1_undo_47 0 rfl ?_
        refine pw_get (pc := 48) hX dX1_undo_48 (cw_o hc j_2 hj_2).1 rfl inT_0 4 (by decide) fl_RX1_103 rfl ?_
        refine pw_iload_n (pc := 51) hX dX1_undo_51 3 rfl ?_
        refine pw_dup2 (pc := 52) hX dX1_undo_52 rfl rfl ?_
        refine pw_iald (pc := 53) (j := g) hX dX1_undo_53 (cw_o hc j_2 hj_2).2.2.1 hg (by decide) ?_
        refine pw_iconst (pc := 54) (v := 1) hX dX1_undo_54 (by decide) ?_
        refine pw_isub (pc := 55) (z := ((pr j_2) g) - 1) hX dX1_undo_55 rfl ?_
        refine pw_iast (pc := 56) (j := g) hX dX1_undo_56 (cw_o hc j_2 hj_2).2.2.1 hg (by decide) ?_
        have hm_5 := pw_ke (a := ad (8 + 4 * j_2)) (e := .inl (G.2.2.1 0, 10, .inl (upd (pr j_2) g (((pr j_2) g) - 1)))) hc.1 (cw_ne hc (x := 0) (y := 8 + 4 * j_2) (by omega) (by omega) (by omega))
        have hm_6 := pw_ke (a := ad (8 + 4 * j_2)) (e := .inl (G.2.2.1 0, 10, .inl (upd (pr j_2) g (((pr j_2) g) - 1)))) hc.2.1 (cw_ne hc (x := 1) (y := 8 + 4 * j_2) (by omega) (by omega) (by omega))
        have hm_7 := pw_ke (a := ad (8 + 4 * j_2)) (e := .inl (G.2.2.1 0, 10, .inl (upd (pr j_2) g (((pr j_2) g) - 1)))) hc.2.2.1 (cw_ne hc (x := 2) (y := 8 + 4 * j_2) (by omega) (by omega) (by omega))
        have hm_8 := pw_ke (a := ad (8 + 4 * j_2)) (e := .inl (G.2.2.1 0, 10, .inl (upd (pr j_2) g (((pr j_2) g) - 1)))) hc.2.2.2.1 (cw_ne hc (x := 3) (y := 8 + 4 * j_2) (by omega) (by omega) (by omega))
        have hm_9 := pw_ke (a := ad (8 + 4 * j_2)) (e := .inl (G.2.2.1 0, 10, .inl (upd (pr j_2) g (((pr j_2) g) - 1)))) hc.2.2.2.2.1 (cw_ne hc (x := 4) (y := 8 + 4 * j_2) (by omega) (by omega) (by omega))
        have hm_10 := pw_ke (a := ad (8 + 4 * j_2)) (e := .inl (G.2.2.1 0, 10, .inl (upd (pr j_2) g (((pr j_2) g) - 1)))) hc.2.2.2.2.2.1 (cw_ne hc (x := 5) (y := 8 + 4 * j_2) (by omega) (by omega) (by omega))
        have hm_11 := pw_ke (a := ad (8 + 4 * j_2)) (e := .inl (G.2.2.1 0, 10, .inl (upd (pr j_2) g (((pr j_2) g) - 1)))) (cw_o hc j_2 hj_2).1 (cw_ne hc (x := 6 + 4 * j_2) (y := 8 + 4 * j_2) (by omega) (by omega) (by omega))
        have hm_12 := pw_ke (a := ad (8 + 4 * j_2)) (e := .inl (G.2.2.1 0, 10, .inl (upd (pr j_2) g (((pr j_2) g) - 1)))) (cw_o hc j_2 hj_2).2.1 (cw_ne hc (x := 7 + 4 * j_2) (y := 8 + 4 * j_2) (by omega) (by omega) (by omega))
        have hm_13 := pw_ke (a := ad (8 + 4 * j_2)) (e := .inl (G.2.2.1 0, 10, .inl (upd (pr j_2) g (((pr j_2) g) - 1)))) (cw_o hc j_2 hj_2).2.2.2 (cw_ne hc (x := 9 + 4 * j_2) (y := 8 + 4 * j_2) (by omega) (by omega) (by omega))
        have hm_14 : pw_up M (ad (8 + 4 * j_2)) (.inl (G.2.2.1 0, 10, .inl (upd (pr j_2) g (((pr j_2) g) - 1)))) (ad (8 + 4 * j_2)) = some (.inl (G.2.2.1 0, 10, .inl (upd (pr j_2) g (((pr j_2) g) - 1)))) := pw_us
        refine pw_aload_n (pc := 57) hX dX1_undo_57 1 rfl ?_
        refine pw_get (pc := 58) hX dX1_undo_58 hm_5 rfl inT_1 4 (by decide) fl_RX1_19 rfl ?_
        refine pw_iload_n (pc := 61) hX dX1_undo_61 3 rfl ?_
        refine pw_dup2 (pc := 62) hX dX1_undo_62 rfl rfl ?_
        refine pw_iald (pc := 63) (j := g) hX dX1_undo_63 hm_9 hg (by decide) ?_
        refine pw_iconst (pc := 64) (v := 1) hX dX1_undo_64 (by decide) ?_
        refine pw_iadd (pc := 65) (z := (to g) + 1) hX dX1_undo_65 rfl ?_
        refine pw_iast (pc := 66) (j := g) hX dX1_undo_66 hm_9 hg (by decide) ?_
        have hm_15 := pw_ke (a := ad 4) (e := .inl (G.2.2.1 0, 10, .inl (upd to g ((to g) + 1)))) hm_5 (cw_ne hc (x := 0) (y := 4) (by omega) (by omega) (by omega))
        have hm_16 := pw_ke (a := ad 4) (e := .inl (G.2.2.1 0, 10, .inl (upd to g ((to g) + 1)))) hm_6 (cw_ne hc (x := 1) (y := 4) (by omega) (by omega) (by omega))
        have hm_17 := pw_ke (a := ad 4) (e := .inl (G.2.2.1 0, 10, .inl (upd to g ((to g) + 1)))) hm_7 (cw_ne hc (x := 2) (y := 4) (by omega) (by omega) (by omega))
        have hm_18 := pw_ke (a := ad 4) (e := .inl (G.2.2.1 0, 10, .inl (upd to g ((to g) + 1)))) hm_8 (cw_ne hc (x := 3) (y := 4) (by omega) (by omega) (by omega))
        have hm_19 := pw_ke (a := ad 4) (e := .inl (G.2.2.1 0, 10, .inl (upd to g ((to g) + 1)))) hm_10 (cw_ne hc (x := 5) (y := 4) (by omega) (by omega) (by omega))
        have hm_20 := pw_ke (a := ad 4) (e := .inl (G.2.2.1 0, 10, .inl (upd to g ((to g) + 1)))) hm_11 (cw_ne hc (x := 6 + 4 * j_2) (y := 4) (by omega) (by omega) (by omega))
        have hm_21 := pw_ke (a := ad 4) (e := .inl (G.2.2.1 0, 10, .inl (upd to g ((to g) + 1)))) hm_12 (cw_ne hc (x := 7 + 4 * j_2) (y := 4) (by omega) (by omega) (by omega))
        have hm_22 := pw_ke (a := ad 4) (e := .inl (G.2.2.1 0, 10, .inl (upd to g ((to g) + 1)))) hm_14 (cw_ne hc (x := 8 + 4 * j_2) (y := 4) (by omega) (by omega) (by omega))
        have hm_23 := pw_ke (a := ad 4) (e := .inl (G.2.2.1 0, 10, .inl (upd to g ((to g) + 1)))) hm_13 (cw_ne hc (x := 9 + 4 * j_2) (y := 4) (by omega) (by omega) (by omega))
        have hm_24 : pw_up (pw_up M (ad (8 + 4 * j_2)) (.inl (G.2.2.1 0, 10, .inl (upd (pr j_2) g (((pr j_2) g) - 1))))) (ad 4) (.inl (G.2.2.1 0, 10, .inl (upd to g ((to g) + 1)))) (ad 4) = some (.inl (G.2.2.1 0, 10, .inl (upd to g ((to g) + 1)))) := pw_us
        refine pw_aload_n (pc := 67) hX dX1_undo_67 0 rfl ?_
        refine pw_get (pc := 68) hX dX1_undo_68 hm_20 rfl inT_0 4 (by decide) fl_RX1_103 rfl ?_
        refine pw_iload_n (pc := 71) hX dX1_undo_71 3 rfl ?_
        refine pw_iald (pc := 72) (j := g) hX dX1_undo_72 hm_22 hg (by decide) ?_
        exact pw_iretx hX dX1_undo_73 hrt ⟨by decide, by decide⟩ (by rw [ix_nI htB, ix_nI hgB]; exact ⟨pc3_0 (fun h => h (ir_nI ht)) (fun h => h (ir_nI hg)) (by rw [ix_nI htB, ix_nI hgB]; intro h; exact (h j_2 ho_1).elim hc_3 hc_4), j_2, ho_1, hj_2, congrArg some (congrArg Value.int (pw_ld _ _ _)), (cw_to (cw_pr hc j_2 hj_2 _) _), (fm_up (fm_up fm_rf (x := 8 + 4 * j_2) (by omega) _) (x := 4) (by omega) _)⟩)
      · exact pw_throw (pc := 37) (names := ["java/lang/RuntimeException", "java/lang/Exception"]) (text := "nothing to undo") hX hex dX1_undo_37 dX1_undo_40 dX1_undo_41 dX1_undo_43 dX1_undo_46 rfl ⟨by decide +kernel, by decide +kernel⟩ th_RX1_106 (by decide +kernel) ta_RX1_110 tg_RX1_110 ⟨by decide, Nat.le_of_ble_eq_true rfl, Nat.le_of_ble_eq_true rfl, Nat.le_of_ble_eq_true rfl⟩ ⟨Nat.le_of_ble_eq_true rfl, Nat.le_of_ble_eq_true rfl⟩ ⟨rfl, Or.inr (Or.inr (⟨rfl, pc3_3 (fun h => h (ir_nI ht)) (fun h => h (ir_nI hg)) (by rw [ix_nI htB, ix_nI hgB]; intro j hj; rw [ho_1] at hj; cases hj; exact Or.inr hc_4)⟩))⟩
end
section
theorem ok_X1_requireLine : pw_ok yX1_requireLine cX1_requireLine 2 none 2 := ⟨pw_memT (by decide +kernel) (by decide +kernel), pw_memT (by decide +kernel) (by decide +kernel), by decide +kernel, by decide +kernel, by decide +kernel, by decide +kernel⟩
theorem lk_RX1_111 : Cond.methodLink RX1 111 yX1_requireLine ∈ pw_T ∧ Cond.static yX1_requireLine ∈ pw_T := ⟨pw_memT (by decide +kernel) (by decide +kernel), pw_memT (by decide +kernel) (by decide +kernel)⟩
theorem fl_RX1_119 : Cond.fieldLink RX1 119 (TX0 5).1 (TX0 5).2.1 (TX0 5).2.2.1 ∈ pw_T := pw_memT (by decide +kernel) (by decide +kernel)
theorem fl_RX1_26 : Cond.fieldLink RX1 26 (TX1 6).1 (TX1 6).2.1 (TX1 6).2.2.1 ∈ pw_T := pw_memT (by decide +kernel) (by decide +kernel)
theorem ok_X0_lacksNothing : pw_ok yX0_lacksNothing cX0_lacksNothing 3 (some .boolean) 1 := ⟨pw_memT (by decide +kernel) (by decide +kernel), pw_memT (by decide +kernel) (by decide +kernel), by decide +kernel, by decide +kernel, by decide +kernel, by decide +kernel⟩
theorem lk_RX1_122 : Cond.methodLink RX1 122 yX0_lacksNothing ∈ pw_T ∧ Cond.instanceMethod yX0_lacksNothing ∈ pw_T ∧ Cond.selects RX0 yX0_lacksNothing yX0_lacksNothing ∈ pw_T := ⟨pw_memT (by decide +kernel) (by decide +kernel), pw_memT (by decide +kernel) (by decide +kernel), pw_memT (by decide +kernel) (by decide +kernel)⟩
theorem ck_RX1_140 : Cond.constant RX1 140 2147483647 ∈ pw_T := pw_memT (by decide +kernel) (by decide +kernel)
theorem fl_RX1_29 : Cond.fieldLink RX1 29 (TX1 7).1 (TX1 7).2.1 (TX1 7).2.2.1 ∈ pw_T := pw_memT (by decide +kernel) (by decide +kernel)
theorem ok_X0_allWanted : pw_ok yX0_allWanted cX0_allWanted 1 (some .int) 0 := ⟨pw_memT (by decide +kernel) (by decide +kernel), pw_memT (by decide +kernel) (by decide +kernel), by decide +kernel, by decide +kernel, by decide +kernel, by decide +kernel⟩
theorem lk_RX1_144 : Cond.methodLink RX1 144 yX0_allWanted ∈ pw_T ∧ Cond.instanceMethod yX0_allWanted ∈ pw_T ∧ Cond.selects RX0 yX0_allWanted yX0_allWanted ∈ pw_T := ⟨pw_memT (by decide +kernel) (by decide +kernel), pw_memT (by decide +kernel) (by decide +kernel), pw_memT (by decide +kernel) (by decide +kernel)⟩
theorem ok_X0_allGivenUp : pw_ok yX0_allGivenUp cX0_allGivenUp 4 (some .int) 1 := ⟨pw_memT (by decide +kernel) (by decide +kernel), pw_memT (by decide +kernel) (by decide +kernel), by decide +kernel, by decide +kernel, by decide +kernel, by decide +kernel⟩
theorem lk_RX1_147 : Cond.methodLink RX1 147 yX0_allGivenUp ∈ pw_T ∧ Cond.instanceMethod yX0_allGivenUp ∈ pw_T ∧ Cond.selects RX0 yX0_allGivenUp yX0_allGivenUp ∈ pw_T := ⟨pw_memT (by decide +kernel) (by decide +kernel), pw_memT (by decide +kernel) (by decide +kernel), pw_memT (by decide +kernel) (by decide +kernel)⟩
theorem ok_X1_freeCells : pw_ok yX1_freeCells cX1_freeCells 3 (some .int) 0 := ⟨pw_memT (by decide +kernel) (by decide +kernel), pw_memT (by decide +kernel) (by decide +kernel), by decide +kernel, by decide +kernel, by decide +kernel, by decide +kernel⟩
theorem lk_RX1_157 : Cond.methodLink RX1 157 yX1_freeCells ∈ pw_T ∧ Cond.instanceMethod yX1_freeCells ∈ pw_T ∧ Cond.selects RX1 yX1_freeCells yX1_freeCells ∈ pw_T := ⟨pw_memT (by decide +kernel) (by decide +kernel), pw_memT (by decide +kernel) (by decide +kernel), pw_memT (by decide +kernel) (by decide +kernel)⟩
theorem ok_X1_piecesInCells : pw_ok yX1_piecesInCells cX1_piecesInCells 4 (some .int) 0 := ⟨pw_memT (by decide +kernel) (by decide +kernel), pw_memT (by decide +kernel) (by decide +kernel), by decide +kernel, by decide +kernel, by decide +kernel, by decide +kernel⟩
theorem lk_RX1_160 : Cond.methodLink RX1 160 yX1_piecesInCells ∈ pw_T ∧ Cond.instanceMethod yX1_piecesInCells ∈ pw_T ∧ Cond.selects RX1 yX1_piecesInCells yX1_piecesInCells ∈ pw_T := ⟨pw_memT (by decide +kernel) (by decide +kernel), pw_memT (by decide +kernel) (by decide +kernel), pw_memT (by decide +kernel) (by decide +kernel)⟩
theorem lk_RX1_163 : Cond.methodLink RX1 163 yX1_sum ∈ pw_T ∧ Cond.static yX1_sum ∈ pw_T := ⟨pw_memT (by decide +kernel) (by decide +kernel), pw_memT (by decide +kernel) (by decide +kernel)⟩
end
section
set_option maxHeartbeats 4000000 in
set_option maxRecDepth 100000 in
theorem cp_miss (l : Launch) (hl : l.stackTraces = false) (G : pw_G) (M : pw_M) (ad : Nat → Nat) (n oc : Nat) (td sd : Int32) (dk to er : Nat → Int32) (os pl : Nat → Int32) (oo : Nat → Option Nat) (wa pr de : Nat → Nat → Int32) (hc : cw G ad n oc td sd dk to er os pl oo wa pr de M) (p0 p1 p2 : Int32) : pw_XMet l yX1_miss cX1_miss 5 (some .int) 3 5 30 G [.ref (ad 0), .int p0, .int p1, .int p2] M (fun v9 M9 => cd_miss oc os wa pr p0 p1 p2 = 0 ∧ v9 = some (.int (wa (ix p0) (ix p1) - pr (ix p0) (ix p1))) ∧ cw G ad n oc td sd dk to er os pl oo wa pr (va_up de (ix p0) (upd (de (ix p0)) (ix p1) p2)) M9 ∧ fm ad (6 + 4 * oc) M M9) (fun E9 M9 => M = M9 ∧ (E9 = "java/util/NoSuchElementException" ∧ cd_miss oc os wa pr p0 p1 p2 = 1 ∨ E9 = "java/lang/IllegalArgumentException" ∧ cd_miss oc os wa pr p0 p1 p2 = 2 ∨ E9 = "java/lang/IllegalStateException" ∧ cd_miss oc os wa pr p0 p1 p2 = 3)) := by
  refine pw_ofx hl (by decide +kernel) (Nat.le_of_ble_eq_true rfl) [(0, .ref (ad 0)), (1, .int p0), (2, .int p1), (3, .int p2)] rfl ?_
  intro p9 e9 s9 m9 args9 below9 meth9 c9 hX hrt hex
  refine pw_aload_n (pc := 0) hX dX1_miss_0 0 rfl ?_
  refine pw_iload_n (pc := 1) hX dX1_miss_1 1 rfl ?_
  refine pw_callVx (pc := 2) (st := []) hX (ct_existing l hl G M ad n oc td sd dk to er os pl oo wa pr de hc p0) hc.1 rfl ok_X1_existing lk_RX1_65 dX1_miss_2 rfl ⟨⟨by decide, by decide⟩, Nat.le_of_ble_eq_true rfl, Nat.le_of_ble_eq_true rfl, Nat.le_of_ble_eq_true rfl⟩ rfl (fun E9 M9 hx9 => ?_) (fun v9 M9 hp9 => ?_)
  · obtain ⟨rfl, rfl, hno⟩ := hx9
    exact pw_out hX hex ⟨Nat.le_of_ble_eq_true rfl, Nat.le_of_ble_eq_true rfl⟩ (⟨rfl, Or.inl (⟨rfl, pc_t hno⟩)⟩)
  obtain ⟨rfl, j, hj, rfl, rfl⟩ := hp9
  have hjB : j < 2 ^ 31 := Nat.lt_of_lt_of_le hj (Nat.le_trans (cw_oc hc) (by decide))
  refine pw_astore (pc := 5) hX [(4, .ref (ad (6 + 4 * j))), (0, .ref (ad 0)), (1, .int (nI j)), (2, .int p1), (3, .int p2)] dX1_miss_5 (by decide) rfl ?_
  refine pw_aload (pc := 7) hX dX1_miss_7 0 rfl ?_
  refine pw_iload_n (pc := 9) hX dX1_miss_9 3 rfl ?_
  refine pw_callSx (pc := 10) (st := []) hX (ct_requireLine l hl G M (ad (6 + 4 * j)) (ad (7 + 4 * j)) (ad (8 + 4 * j)) (ad (9 + 4 * j)) (nI j) (os j) (pl j) (wa j) (pr j) (de j) (cw_o hc j hj) p1) ok_X1_requireLine lk_RX1_111 dX1_miss_10 rfl ⟨⟨by decide, by decide⟩, Nat.le_of_ble_eq_true rfl, Nat.le_of_ble_eq_true rfl, Nat.le_of_ble_eq_true rfl⟩ rfl (fun E9 M9 hx9 => ?_) (fun v9 M9 hp9 => ?_)
  · obtain ⟨rfl, ⟨rfl, hno⟩ | ⟨rfl, g, hg, rfl, hno⟩⟩ := hx9
    · exact pw_out hX hex ⟨Nat.le_of_ble_eq_true rfl, Nat.le_of_ble_eq_true rfl⟩ (⟨rfl, Or.inr (Or.inl (⟨rfl, pc3_2 (fun h => h (ir_nI hj)) hno⟩))⟩)
    · have hgB : g < 2 ^ 31 := Nat.lt_of_lt_of_le hg (by decide)
      exact pw_out hX hex ⟨Nat.le_of_ble_eq_true rfl, Nat.le_of_ble_eq_true rfl⟩ (⟨rfl, Or.inl (⟨rfl, pc5_3 (fun h => h (ir_nI hj)) (fun h => h (ir_nI hg)) (by rw [ix_nI hjB, ix_nI hgB]; exact hno)⟩)⟩)
  obtain ⟨rfl, rfl, g, hg, rfl, hwg⟩ := hp9
  have hgB : g < 2 ^ 31 := Nat.lt_of_lt_of_le hg (by decide)
  refine pw_iload_n (pc := 13) hX dX1_miss_13 4 rfl ?_
  refine pw_iconst (pc := 14) (v := 0) hX dX1_miss_14 (by decide) ?_
  refine pw_sipush (pc := 15) (v := 10000) hX dX1_miss_15 (by decide) ?_
  refine pw_callSx (pc := 18) (st := []) hX (ct_requireRange l hl G M p2 0 10000) ok_X1_requireRange lk_RX1_52 dX1_miss_18 rfl ⟨⟨by decide, by decide⟩, Nat.le_of_ble_eq_true rfl, Nat.le_of_ble_eq_true rfl, Nat.le_of_ble_eq_true rfl⟩ rfl (fun E9 M9 hx9 => ?_) (fun v9 M9 hp9 => ?_)
  · obtain ⟨rfl, rfl, hno⟩ := hx9
    exact pw_out hX hex ⟨Nat.le_of_ble_eq_true rfl, Nat.le_of_ble_eq_true rfl⟩ (⟨rfl, Or.inr (Or.inl (⟨rfl, pc5_4 (fun h => h (ir_nI hj)) (fun h => h (ir_nI hg)) (by rw [ix_nI hjB, ix_nI hgB]; exact fun h => h hwg) hno⟩))⟩)
  obtain ⟨rfl, rfl, hlo, hhi⟩ := hp9
  refine pw_aload (pc := 21) hX dX1_miss_21 0 rfl ?_
  refine pw_get (pc := 23) hX dX1_miss_23 (cw_o hc j hj).1 rfl inT_0 1 (by decide) fl_RX1_69 rfl ?_
  refine pw_iconst (pc := 26) (v := 1) hX dX1_miss_26 (by decide) ?_
  refine pw_icmp_ne (pc := 27) hX 43 dX1_miss_27 (by decide) (fun hc_1 => ?_) (fun hc_1 => ?_)
  · refine pw_iconst (pc := 43) (v := 0) hX dX1_miss_43 (by decide) ?_
    refine pw_callSx (pc := 44) (st := []) hX (ct_requireState l hl G M 0) ok_X1_requireState lk_RX1_76 dX1_miss_44 rfl ⟨⟨by decide, by decide⟩, Nat.le_of_ble_eq_true rfl, Nat.le_of_ble_eq_true rfl, Nat.le_of_ble_eq_true rfl⟩ rfl (fun E9 M9 hx9 => ?_) (fun v9 M9 hp9 => absurd rfl hp9.2.2)
    obtain ⟨rfl, rfl, -⟩ := hx9
    exact pw_out hX hex ⟨Nat.le_of_ble_eq_true rfl, Nat.le_of_ble_eq_true rfl⟩ ⟨rfl, Or.inr (Or.inr (⟨rfl, pc5_5 (fun h => h (ir_nI hj)) (fun h => h (ir_nI hg)) (by rw [ix_nI hjB, ix_nI hgB]; exact fun h => h hwg) (fun h => h ⟨hlo, hhi⟩) (by rw [ix_nI hjB, ix_nI hgB]; intro h; exact hc_1 h.1)⟩))⟩
  · refine pw_aload (pc := 30) hX dX1_miss_30 0 rfl ?_
    refine pw_iload_n (pc := 32) hX dX1_miss_32 3 rfl ?_
    refine pw_callV (pc := 33) (st := []) hX (ct_missing l hl G M (ad (6 + 4 * j)) (ad (7 + 4 * j)) (ad (8 + 4 * j)) (ad (9 + 4 * j)) (nI j) (os j) (pl j) (wa j) (pr j) (de j) (cw_o hc j hj) g hg) (cw_o hc j hj).1 rfl ok_X0_missing lk_RX1_115 dX1_miss_33 rfl ⟨⟨by decide, by decide⟩, Nat.le_of_ble_eq_true rfl, Nat.le_of_ble_eq_true rfl, Nat.le_of_ble_eq_true rfl⟩ rfl (fun v9 M9 hp9 => ?_)
    obtain ⟨rfl, rfl⟩ := hp9
    refine pw_if_le (pc := 36) hX 43 dX1_miss_36 (by decide) (fun hc_2 => ?_) (fun hc_2 => ?_)
    · refine pw_iconst (pc := 43) (v := 0) hX dX1_miss_43 (by decide) ?_
      refine pw_callSx (pc := 44) (st := []) hX (ct_requireState l hl G M 0) ok_X1_requireState lk_RX1_76 dX1_miss_44 rfl ⟨⟨by decide, by decide⟩, Nat.le_of_ble_eq_true rfl, Nat.le_of_ble_eq_true rfl, Nat.le_of_ble_eq_true rfl⟩ rfl (fun E9 M9 hx9 => ?_) (fun v9 M9 hp9 => absurd rfl hp9.2.2)
      obtain ⟨rfl, rfl, -⟩ := hx9
      exact pw_out hX hex ⟨Nat.le_of_ble_eq_true rfl, Nat.le_of_ble_eq_true rfl⟩ ⟨rfl, Or.inr (Or.inr (⟨rfl, pc5_5 (fun h => h (ir_nI hj)) (fun h => h (ir_nI hg)) (by rw [ix_nI hjB, ix_nI hgB]; exact fun h => h hwg) (fun h => h ⟨hlo, hhi⟩) (by rw [ix_nI hjB, ix_nI hgB]; intro h; exact absurd h.2 (Int32.not_lt.mpr hc_2))⟩))⟩
    · refine pw_iconst (pc := 39) (v := 1) hX dX1_miss_39 (by decide) ?_
      refine pw_goto (pc := 40) hX 44 dX1_miss_40 (by decide) ?_
      refine pw_callSx (pc := 44) (st := []) hX (ct_requireState l hl G M 1) ok_X1_requireState lk_RX1_76 dX1_miss_44 rfl ⟨⟨by decide, by decide⟩, Nat.le_of_ble_eq_true rfl, Nat.le_of_ble_eq_true rfl, Nat.le_of_ble_eq_true rfl⟩ rfl (fun E9 M9 hx9 => ?_) (fun v9 M9 hp9 => ?_)
      · obtain ⟨rfl, rfl, hz⟩ := hx9
        exact absurd hz (by decide)
      obtain ⟨rfl, rfl, -⟩ := hp9
      refine pw_aload (pc := 47) hX dX1_miss_47 0 rfl ?_
      refine pw_get (pc := 49) hX dX1_miss_49 (cw_o hc j hj).1 rfl inT_0 5 (by decide) fl_RX1_119 rfl ?_
      refine pw_iload_n (pc := 52) hX dX1_miss_52 3 rfl ?_
      refine pw_iload_n (pc := 53) hX dX1_miss_53 4 rfl ?_
      refine pw_iast (pc := 54) (j := g) hX dX1_miss_54 (cw_o hc j hj).2.2.2 hg (by decide) ?_
      have hm_3 := pw_ke (a := ad (9 + 4 * j)) (e := .inl (G.2.2.1 0, 10, .inl (upd (de j) g p2))) hc.1 (cw_ne hc (x := 0) (y := 9 + 4 * j) (by omega) (by omega) (by omega))
      have hm_4 := pw_ke (a := ad (9 + 4 * j)) (e := .inl (G.2.2.1 0, 10, .inl (upd (de j) g p2))) hc.2.1 (cw_ne hc (x := 1) (y := 9 + 4 * j) (by omega) (by omega) (by omega))
      have hm_5 := pw_ke (a := ad (9 + 4 * j)) (e := .inl (G.2.2.1 0, 10, .inl (upd (de j) g p2))) hc.2.2.1 (cw_ne hc (x := 2) (y := 9 + 4 * j) (by omega) (by omega) (by omega))
      have hm_6 := pw_ke (a := ad (9 + 4 * j)) (e := .inl (G.2.2.1 0, 10, .inl (upd (de j) g p2))) hc.2.2.2.1 (cw_ne hc (x := 3) (y := 9 + 4 * j) (by omega) (by omega) (by omega))
      have hm_7 := pw_ke (a := ad (9 + 4 * j)) (e := .inl (G.2.2.1 0, 10, .inl (upd (de j) g p2))) hc.2.2.2.2.1 (cw_ne hc (x := 4) (y := 9 + 4 * j) (by omega) (by omega) (by omega))
      have hm_8 := pw_ke (a := ad (9 + 4 * j)) (e := .inl (G.2.2.1 0, 10, .inl (upd (de j) g p2))) hc.2.2.2.2.2.1 (cw_ne hc (x := 5) (y := 9 + 4 * j) (by omega) (by omega) (by omega))
      have hm_9 := pw_ke (a := ad (9 + 4 * j)) (e := .inl (G.2.2.1 0, 10, .inl (upd (de j) g p2))) (cw_o hc j hj).1 (cw_ne hc (x := 6 + 4 * j) (y := 9 + 4 * j) (by omega) (by omega) (by omega))
      have hm_10 := pw_ke (a := ad (9 + 4 * j)) (e := .inl (G.2.2.1 0, 10, .inl (upd (de j) g p2))) (cw_o hc j hj).2.1 (cw_ne hc (x := 7 + 4 * j) (y := 9 + 4 * j) (by omega) (by omega) (by omega))
      have hm_11 := pw_ke (a := ad (9 + 4 * j)) (e := .inl (G.2.2.1 0, 10, .inl (upd (de j) g p2))) (cw_o hc j hj).2.2.1 (cw_ne hc (x := 8 + 4 * j) (y := 9 + 4 * j) (by omega) (by omega) (by omega))
      have hm_12 : pw_up M (ad (9 + 4 * j)) (.inl (G.2.2.1 0, 10, .inl (upd (de j) g p2))) (ad (9 + 4 * j)) = some (.inl (G.2.2.1 0, 10, .inl (upd (de j) g p2))) := pw_us
      refine pw_aload (pc := 55) hX dX1_miss_55 0 rfl ?_
      refine pw_iload_n (pc := 57) hX dX1_miss_57 3 rfl ?_
      refine pw_callV (pc := 58) (st := []) hX (ct_missing l hl G (pw_up M (ad (9 + 4 * j)) (.inl (G.2.2.1 0, 10, .inl (upd (de j) g p2)))) (ad (6 + 4 * j)) (ad (7 + 4 * j)) (ad (8 + 4 * j)) (ad (9 + 4 * j)) (nI j) (os j) (pl j) (wa j) (pr j) (va_up de j (upd (de j) g p2) j) (cw_o (cw_de hc j hj (upd (de j) g p2)) j hj) g hg) hm_9 rfl ok_X0_missing lk_RX1_115 dX1_miss_58 rfl ⟨⟨by decide, by decide⟩, Nat.le_of_ble_eq_true rfl, Nat.le_of_ble_eq_true rfl, Nat.le_of_ble_eq_true rfl⟩ rfl (fun v9 M9 hp9 => ?_)
      obtain ⟨rfl, rfl⟩ := hp9
      exact pw_iretx hX dX1_miss_61 hrt ⟨by decide, by decide⟩ (by rw [ix_nI hjB, ix_nI hgB]; exact ⟨pc5_0 (fun h => h (ir_nI hj)) (fun h => h (ir_nI hg)) (by rw [ix_nI hjB, ix_nI hgB]; exact fun h => h hwg) (fun h => h ⟨hlo, hhi⟩) (by rw [ix_nI hjB, ix_nI hgB]; exact fun h => h ⟨hc_1, Int32.not_le.mp hc_2⟩), rfl, (cw_de hc j hj _), (fm_up fm_rf (x := 9 + 4 * j) (by omega) _)⟩)
set_option maxHeartbeats 4000000 in
set_option maxRecDepth 100000 in
theorem cp_day (l : Launch) (hl : l.stackTraces = false) (G : pw_G) (M : pw_M) (ad : Nat → Nat) (n oc : Nat) (td sd : Int32) (dk to er : Nat → Int32) (os pl : Nat → Int32) (oo : Nat → Option Nat) (wa pr de : Nat → Nat → Int32) (hc : cw G ad n oc td sd dk to er os pl oo wa pr de M) (p0 : Int32) : pw_XMet l yX1_day cX1_day 2 none 3 2 12 G [.ref (ad 0), .int p0] M (fun v9 M9 => cd_day td p0 = 0 ∧ v9 = none ∧ cw G ad n oc p0 sd dk to er os pl oo wa pr de M9 ∧ fm ad (6 + 4 * oc) M M9) (fun E9 M9 => M = M9 ∧ (E9 = "java/lang/IllegalArgumentException" ∧ cd_day td p0 = 1 ∨ E9 = "java/lang/IllegalStateException" ∧ cd_day td p0 = 2)) := by
  refine pw_ofx hl (by decide +kernel) (Nat.le_of_ble_eq_true rfl) [(0, .ref (ad 0)), (1, .int p0)] rfl ?_
  intro p9 e9 s9 m9 args9 below9 meth9 c9 hX hrt hex
  refine pw_iload_n (pc := 0) hX dX1_day_0 1 rfl ?_
  refine pw_iconst (pc := 1) (v := 0) hX dX1_day_1 (by decide) ?_
  refine pw_sipush (pc := 2) (v := 10000) hX dX1_day_2 (by decide) ?_
  refine pw_callSx (pc := 5) (st := []) hX (ct_requireRange l hl G M p0 0 10000) ok_X1_requireRange lk_RX1_52 dX1_day_5 rfl ⟨⟨by decide, by decide⟩, Nat.le_of_ble_eq_true rfl, Nat.le_of_ble_eq_true rfl, Nat.le_of_ble_eq_true rfl⟩ rfl (fun E9 M9 hx9 => ?_) (fun v9 M9 hp9 => ?_)
  · obtain ⟨rfl, rfl, hno⟩ := hx9
    exact pw_out hX hex ⟨Nat.le_of_ble_eq_true rfl, Nat.le_of_ble_eq_true rfl⟩ (⟨rfl, Or.inl (⟨rfl, pc_t hno⟩)⟩)
  obtain ⟨rfl, rfl, hlo, hhi⟩ := hp9
  refine pw_iload_n (pc := 8) hX dX1_day_8 1 rfl ?_
  refine pw_aload_n (pc := 9) hX dX1_day_9 0 rfl ?_
  refine pw_get (pc := 10) hX dX1_day_10 hc.1 rfl inT_1 6 (by decide) fl_RX1_26 rfl ?_
  refine pw_icmp_lt (pc := 13) hX 20 dX1_day_13 (by decide) (fun hc_1 => ?_) (fun hc_1 => ?_)
  · refine pw_iconst (pc := 20) (v := 0) hX dX1_day_20 (by decide) ?_
    refine pw_callSx (pc := 21) (st := []) hX (ct_requireState l hl G M 0) ok_X1_requireState lk_RX1_76 dX1_day_21 rfl ⟨⟨by decide, by decide⟩, Nat.le_of_ble_eq_true rfl, Nat.le_of_ble_eq_true rfl, Nat.le_of_ble_eq_true rfl⟩ rfl (fun E9 M9 hx9 => ?_) (fun v9 M9 hp9 => absurd rfl hp9.2.2)
    obtain ⟨rfl, rfl, -⟩ := hx9
    exact pw_out hX hex ⟨Nat.le_of_ble_eq_true rfl, Nat.le_of_ble_eq_true rfl⟩ ⟨rfl, Or.inr (⟨rfl, pc2_2 (fun h => h ⟨hlo, hhi⟩) hc_1⟩)⟩
  · refine pw_iconst (pc := 16) (v := 1) hX dX1_day_16 (by decide) ?_
    refine pw_goto (pc := 17) hX 21 dX1_day_17 (by decide) ?_
    refine pw_callSx (pc := 21) (st := []) hX (ct_requireState l hl G M 1) ok_X1_requireState lk_RX1_76 dX1_day_21 rfl ⟨⟨by decide, by decide⟩, Nat.le_of_ble_eq_true rfl, Nat.le_of_ble_eq_true rfl, Nat.le_of_ble_eq_true rfl⟩ rfl (fun E9 M9 hx9 => ?_) (fun v9 M9 hp9 => ?_)
    · obtain ⟨rfl, rfl, hz⟩ := hx9
      exact absurd hz (by decide)
    obtain ⟨rfl, rfl, -⟩ := hp9
    refine pw_aload_n (pc := 24) hX dX1_day_24 0 rfl ?_
    refine pw_iload_n (pc := 25) hX dX1_day_25 1 rfl ?_
    refine pw_put (pc := 26) (v := .int p0) hX dX1_day_26 hc.1 rfl inT_1 tyX1 tyX1_ok nmX1 6 (by decide) fl_RX1_26 rfl (tyX1_ok 6 (by decide)) rfl rfl (Nat.le_of_ble_eq_true rfl) [.ref (ad 1), .int (nI oc), .ref (ad 2), .ref (ad 3), .ref (ad 4), .ref (ad 5), .int p0, .int sd] rfl ?_
    have hm_2 := pw_ke (a := ad 0) (e := .inr (1, [.ref (ad 1), .int (nI oc), .ref (ad 2), .ref (ad 3), .ref (ad 4), .ref (ad 5), .int p0, .int sd])) hc.2.1 (cw_ne hc (x := 1) (y := 0) (by omega) (by omega) (by omega))
    have hm_3 := pw_ke (a := ad 0) (e := .inr (1, [.ref (ad 1), .int (nI oc), .ref (ad 2), .ref (ad 3), .ref (ad 4), .ref (ad 5), .int p0, .int sd])) hc.2.2.1 (cw_ne hc (x := 2) (y := 0) (by omega) (by omega) (by omega))
    have hm_4 := pw_ke (a := ad 0) (e := .inr (1, [.ref (ad 1), .int (nI oc), .ref (ad 2), .ref (ad 3), .ref (ad 4), .ref (ad 5), .int p0, .int sd])) hc.2.2.2.1 (cw_ne hc (x := 3) (y := 0) (by omega) (by omega) (by omega))
    have hm_5 := pw_ke (a := ad 0) (e := .inr (1, [.ref (ad 1), .int (nI oc), .ref (ad 2), .ref (ad 3), .ref (ad 4), .ref (ad 5), .int p0, .int sd])) hc.2.2.2.2.1 (cw_ne hc (x := 4) (y := 0) (by omega) (by omega) (by omega))
    have hm_6 := pw_ke (a := ad 0) (e := .inr (1, [.ref (ad 1), .int (nI oc), .ref (ad 2), .ref (ad 3), .ref (ad 4), .ref (ad 5), .int p0, .int sd])) hc.2.2.2.2.2.1 (cw_ne hc (x := 5) (y := 0) (by omega) (by omega) (by omega))
    have hm_7 : pw_up M (ad 0) (.inr (1, [.ref (ad 1), .int (nI oc), .ref (ad 2), .ref (ad 3), .ref (ad 4), .ref (ad 5), .int p0, .int sd])) (ad 0) = some (.inr (1, [.ref (ad 1), .int (nI oc), .ref (ad 2), .ref (ad 3), .ref (ad 4), .ref (ad 5), .int p0, .int sd])) := pw_us
    exact pw_vretx hX dX1_day_29 hrt ⟨by decide, by decide⟩ ⟨pc2_0 (fun h => h ⟨hlo, hhi⟩) hc_1, rfl, (cw_td hc _), (fm_up fm_rf (x := 0) (by omega) _)⟩
set_option maxHeartbeats 4000000 in
set_option maxRecDepth 100000 in
theorem cp_change (l : Launch) (hl : l.stackTraces = false) (G : pw_G) (M : pw_M) (ad : Nat → Nat) (n oc : Nat) (td sd : Int32) (dk to er : Nat → Int32) (os pl : Nat → Int32) (oo : Nat → Option Nat) (wa pr de : Nat → Nat → Int32) (hc : cw G ad n oc td sd dk to er os pl oo wa pr de M) (p0 p1 p2 : Int32) : pw_XMet l yX1_change cX1_change 6 (some .boolean) 3 5 30 G [.ref (ad 0), .int p0, .int p1, .int p2] M (fun v9 M9 => cd_change oc os wa p0 p1 p2 = 0 ∧ (v9 = some (.int 0) ∧ p2 < pr (ix p0) (ix p1) ∧ M = M9 ∨ v9 = some (.int 1) ∧ pr (ix p0) (ix p1) ≤ p2 ∧ cw G ad n oc td sd dk to er os pl oo (va_up wa (ix p0) (upd (wa (ix p0)) (ix p1) p2)) pr de M9) ∧ fm ad (6 + 4 * oc) M M9) (fun E9 M9 => M = M9 ∧ (E9 = "java/util/NoSuchElementException" ∧ cd_change oc os wa p0 p1 p2 = 1 ∨ E9 = "java/lang/IllegalArgumentException" ∧ cd_change oc os wa p0 p1 p2 = 2 ∨ E9 = "java/lang/IllegalStateException" ∧ cd_change oc os wa p0 p1 p2 = 3)) := by
  refine pw_ofx hl (by decide +kernel) (Nat.le_of_ble_eq_true rfl) [(0, .ref (ad 0)), (1, .int p0), (2, .int p1), (3, .int p2)] rfl ?_
  intro p9 e9 s9 m9 args9 below9 meth9 c9 hX hrt hex
  refine pw_aload_n (pc := 0) hX dX1_change_0 0 rfl ?_
  refine pw_iload_n (pc := 1) hX dX1_change_1 1 rfl ?_
  refine pw_callVx (pc := 2) (st := []) hX (ct_existing l hl G M ad n oc td sd dk to er os pl oo wa pr de hc p0) hc.1 rfl ok_X1_existing lk_RX1_65 dX1_change_2 rfl ⟨⟨by decide, by decide⟩, Nat.le_of_ble_eq_true rfl, Nat.le_of_ble_eq_true rfl, Nat.le_of_ble_eq_true rfl⟩ rfl (fun E9 M9 hx9 => ?_) (fun v9 M9 hp9 => ?_)
  · obtain ⟨rfl, rfl, hno⟩ := hx9
    exact pw_out hX hex ⟨Nat.le_of_ble_eq_true rfl, Nat.le_of_ble_eq_true rfl⟩ (⟨rfl, Or.inl (⟨rfl, pc_t hno⟩)⟩)
  obtain ⟨rfl, j, hj, rfl, rfl⟩ := hp9
  have hjB : j < 2 ^ 31 := Nat.lt_of_lt_of_le hj (Nat.le_trans (cw_oc hc) (by decide))
  refine pw_astore (pc := 5) hX [(4, .ref (ad (6 + 4 * j))), (0, .ref (ad 0)), (1, .int (nI j)), (2, .int p1), (3, .int p2)] dX1_change_5 (by decide) rfl ?_
  refine pw_aload (pc := 7) hX dX1_change_7 0 rfl ?_
  refine pw_iload_n (pc := 9) hX dX1_change_9 3 rfl ?_
  refine pw_callSx (pc := 10) (st := []) hX (ct_requireLine l hl G M (ad (6 + 4 * j)) (ad (7 + 4 * j)) (ad (8 + 4 * j)) (ad (9 + 4 * j)) (nI j) (os j) (pl j) (wa j) (pr j) (de j) (cw_o hc j hj) p1) ok_X1_requireLine lk_RX1_111 dX1_change_10 rfl ⟨⟨by decide, by decide⟩, Nat.le_of_ble_eq_true rfl, Nat.le_of_ble_eq_true rfl, Nat.le_of_ble_eq_true rfl⟩ rfl (fun E9 M9 hx9 => ?_) (fun v9 M9 hp9 => ?_)
  · obtain ⟨rfl, ⟨rfl, hno⟩ | ⟨rfl, g, hg, rfl, hno⟩⟩ := hx9
    · exact pw_out hX hex ⟨Nat.le_of_ble_eq_true rfl, Nat.le_of_ble_eq_true rfl⟩ (⟨rfl, Or.inr (Or.inl (⟨rfl, pc3_2 (fun h => h (ir_nI hj)) hno⟩))⟩)
    · have hgB : g < 2 ^ 31 := Nat.lt_of_lt_of_le hg (by decide)
      exact pw_out hX hex ⟨Nat.le_of_ble_eq_true rfl, Nat.le_of_ble_eq_true rfl⟩ (⟨rfl, Or.inl (⟨rfl, pc5_3 (fun h => h (ir_nI hj)) (fun h => h (ir_nI hg)) (by rw [ix_nI hjB, ix_nI hgB]; exact hno)⟩)⟩)
  obtain ⟨rfl, rfl, g, hg, rfl, hwg⟩ := hp9
  have hgB : g < 2 ^ 31 := Nat.lt_of_lt_of_le hg (by decide)
  refine pw_iload_n (pc := 13) hX dX1_change_13 4 rfl ?_
  refine pw_iconst (pc := 14) (v := 0) hX dX1_change_14 (by decide) ?_
  refine pw_bipush (pc := 15) (v := 9) hX dX1_change_15 (by decide) ?_
  refine pw_callSx (pc := 17) (st := []) hX (ct_requireRange l hl G M p2 0 9) ok_X1_requireRange lk_RX1_52 dX1_change_17 rfl ⟨⟨by decide, by decide⟩, Nat.le_of_ble_eq_true rfl, Nat.le_of_ble_eq_true rfl, Nat.le_of_ble_eq_true rfl⟩ rfl (fun E9 M9 hx9 => ?_) (fun v9 M9 hp9 => ?_)
  · obtain ⟨rfl, rfl, hno⟩ := hx9
    exact pw_out hX hex ⟨Nat.le_of_ble_eq_true rfl, Nat.le_of_ble_eq_true rfl⟩ (⟨rfl, Or.inr (Or.inl (⟨rfl, pc5_4 (fun h => h (ir_nI hj)) (fun h => h (ir_nI hg)) (by rw [ix_nI hjB, ix_nI hgB]; exact fun h => h hwg) hno⟩))⟩)
  obtain ⟨rfl, rfl, hlo, hhi⟩ := hp9
  refine pw_iload_n (pc := 20) hX dX1_change_20 4 rfl ?_
  refine pw_if_ne (pc := 21) hX 46 dX1_change_21 (by decide) (fun hc_1 => ?_) (fun hc_1 => ?_)
  · refine pw_iconst (pc := 46) (v := 0) hX dX1_change_46 (by decide) ?_
    refine pw_istore (pc := 47) hX [(5, .int 0), (4, .ref (ad (6 + 4 * j))), (0, .ref (ad 0)), (1, .int (nI j)), (2, .int (nI g)), (3, .int p2)] dX1_change_47 (by decide) rfl ?_
    refine pw_aload (pc := 49) hX dX1_change_49 1 rfl ?_
    refine pw_get (pc := 51) hX dX1_change_51 (cw_o hc j hj).1 rfl inT_0 1 (by decide) fl_RX1_69 rfl ?_
    refine pw_if_eq (pc := 54) hX 66 dX1_change_54 (by decide) (fun hc_2 => ?_) (fun hc_2 => ?_)
    · refine pw_iload (pc := 66) hX dX1_change_66 0 rfl ?_
      refine pw_if_ne (pc := 68) hX 75 dX1_change_68 (by decide) (fun h => absurd h (by decide)) (fun _ => ?_)
      refine pw_iconst (pc := 71) (v := 1) hX dX1_change_71 (by decide) ?_
      refine pw_goto (pc := 72) hX 76 dX1_change_72 (by decide) ?_
      refine pw_callSx (pc := 76) (st := []) hX (ct_requireState l hl G M 1) ok_X1_requireState lk_RX1_76 dX1_change_76 rfl ⟨⟨by decide, by decide⟩, Nat.le_of_ble_eq_true rfl, Nat.le_of_ble_eq_true rfl, Nat.le_of_ble_eq_true rfl⟩ rfl (fun E9 M9 hx9 => ?_) (fun v9 M9 hp9 => ?_)
      · obtain ⟨rfl, rfl, hz⟩ := hx9
        exact absurd hz (by decide)
      obtain ⟨rfl, rfl, -⟩ := hp9
      refine pw_aload (pc := 79) hX dX1_change_79 1 rfl ?_
      refine pw_get (pc := 81) hX dX1_change_81 (cw_o hc j hj).1 rfl inT_0 4 (by decide) fl_RX1_103 rfl ?_
      refine pw_iload_n (pc := 84) hX dX1_change_84 4 rfl ?_
      refine pw_iald (pc := 85) (j := g) hX dX1_change_85 (cw_o hc j hj).2.2.1 hg (by decide) ?_
      refine pw_iload_n (pc := 86) hX dX1_change_86 5 rfl ?_
      refine pw_icmp_le (pc := 87) hX 92 dX1_change_87 (by decide) (fun hc_4 => ?_) (fun hc_4 => ?_)
      · refine pw_aload (pc := 92) hX dX1_change_92 1 rfl ?_
        refine pw_get (pc := 94) hX dX1_change_94 (cw_o hc j hj).1 rfl inT_0 3 (by decide) fl_RX1_80 rfl ?_
        refine pw_iload_n (pc := 97) hX dX1_change_97 4 rfl ?_
        refine pw_iload_n (pc := 98) hX dX1_change_98 5 rfl ?_
        refine pw_iast (pc := 99) (j := g) hX dX1_change_99 (cw_o hc j hj).2.1 hg (by decide) ?_
        have hm_5 := pw_ke (a := ad (7 + 4 * j)) (e := .inl (G.2.2.1 0, 10, .inl (upd (wa j) g p2))) hc.1 (cw_ne hc (x := 0) (y := 7 + 4 * j) (by omega) (by omega) (by omega))
        have hm_6 := pw_ke (a := ad (7 + 4 * j)) (e := .inl (G.2.2.1 0, 10, .inl (upd (wa j) g p2))) hc.2.1 (cw_ne hc (x := 1) (y := 7 + 4 * j) (by omega) (by omega) (by omega))
        have hm_7 := pw_ke (a := ad (7 + 4 * j)) (e := .inl (G.2.2.1 0, 10, .inl (upd (wa j) g p2))) hc.2.2.1 (cw_ne hc (x := 2) (y := 7 + 4 * j) (by omega) (by omega) (by omega))
        have hm_8 := pw_ke (a := ad (7 + 4 * j)) (e := .inl (G.2.2.1 0, 10, .inl (upd (wa j) g p2))) hc.2.2.2.1 (cw_ne hc (x := 3) (y := 7 + 4 * j) (by omega) (by omega) (by omega))
        have hm_9 := pw_ke (a := ad (7 + 4 * j)) (e := .inl (G.2.2.1 0, 10, .inl (upd (wa j) g p2))) hc.2.2.2.2.1 (cw_ne hc (x := 4) (y := 7 + 4 * j) (by omega) (by omega) (by omega))
        have hm_10 := pw_ke (a := ad (7 + 4 * j)) (e := .inl (G.2.2.1 0, 10, .inl (upd (wa j) g p2))) hc.2.2.2.2.2.1 (cw_ne hc (x := 5) (y := 7 + 4 * j) (by omega) (by omega) (by omega))
        have hm_11 := pw_ke (a := ad (7 + 4 * j)) (e := .inl (G.2.2.1 0, 10, .inl (upd (wa j) g p2))) (cw_o hc j hj).1 (cw_ne hc (x := 6 + 4 * j) (y := 7 + 4 * j) (by omega) (by omega) (by omega))
        have hm_12 := pw_ke (a := ad (7 + 4 * j)) (e := .inl (G.2.2.1 0, 10, .inl (upd (wa j) g p2))) (cw_o hc j hj).2.2.1 (cw_ne hc (x := 8 + 4 * j) (y := 7 + 4 * j) (by omega) (by omega) (by omega))
        have hm_13 := pw_ke (a := ad (7 + 4 * j)) (e := .inl (G.2.2.1 0, 10, .inl (upd (wa j) g p2))) (cw_o hc j hj).2.2.2 (cw_ne hc (x := 9 + 4 * j) (y := 7 + 4 * j) (by omega) (by omega) (by omega))
        have hm_14 : pw_up M (ad (7 + 4 * j)) (.inl (G.2.2.1 0, 10, .inl (upd (wa j) g p2))) (ad (7 + 4 * j)) = some (.inl (G.2.2.1 0, 10, .inl (upd (wa j) g p2))) := pw_us
        refine pw_iconst (pc := 100) (v := 1) hX dX1_change_100 (by decide) ?_
        exact pw_zretx hX dX1_change_101 hrt rfl ⟨by decide, by decide⟩ (by rw [ix_nI hjB, ix_nI hgB]; exact ⟨pc5_0 (fun h => h (ir_nI hj)) (fun h => h (ir_nI hg)) (by rw [ix_nI hjB, ix_nI hgB]; exact fun h => h hwg) (fun h => h ⟨hlo, hhi⟩) (by rw [ix_nI hjB]; exact fun h => h ⟨Or.inl hc_2, (fun h => hc_1 h.1)⟩), Or.inr ⟨rfl, hc_4, (cw_wa hc j hj _)⟩, (fm_up fm_rf (x := 7 + 4 * j) (by omega) _)⟩)
      · refine pw_iconst (pc := 90) (v := 0) hX dX1_change_90 (by decide) ?_
        exact pw_zretx hX dX1_change_91 hrt rfl ⟨by decide, by decide⟩ (by rw [ix_nI hjB, ix_nI hgB]; exact ⟨pc5_0 (fun h => h (ir_nI hj)) (fun h => h (ir_nI hg)) (by rw [ix_nI hjB, ix_nI hgB]; exact fun h => h hwg) (fun h => h ⟨hlo, hhi⟩) (by rw [ix_nI hjB]; exact fun h => h ⟨Or.inl hc_2, (fun h => hc_1 h.1)⟩), Or.inl ⟨rfl, Int32.not_le.mp hc_4, rfl⟩, fm_rf⟩)
    · refine pw_aload (pc := 57) hX dX1_change_57 1 rfl ?_
      refine pw_get (pc := 59) hX dX1_change_59 (cw_o hc j hj).1 rfl inT_0 1 (by decide) fl_RX1_69 rfl ?_
      refine pw_iconst (pc := 62) (v := 1) hX dX1_change_62 (by decide) ?_
      refine pw_icmp_ne (pc := 63) hX 75 dX1_change_63 (by decide) (fun hc_15 => ?_) (fun hc_15 => ?_)
      · refine pw_iconst (pc := 75) (v := 0) hX dX1_change_75 (by decide) ?_
        refine pw_callSx (pc := 76) (st := []) hX (ct_requireState l hl G M 0) ok_X1_requireState lk_RX1_76 dX1_change_76 rfl ⟨⟨by decide, by decide⟩, Nat.le_of_ble_eq_true rfl, Nat.le_of_ble_eq_true rfl, Nat.le_of_ble_eq_true rfl⟩ rfl (fun E9 M9 hx9 => ?_) (fun v9 M9 hp9 => absurd rfl hp9.2.2)
        obtain ⟨rfl, rfl, -⟩ := hx9
        exact pw_out hX hex ⟨Nat.le_of_ble_eq_true rfl, Nat.le_of_ble_eq_true rfl⟩ ⟨rfl, Or.inr (Or.inr (⟨rfl, pc5_5 (fun h => h (ir_nI hj)) (fun h => h (ir_nI hg)) (by rw [ix_nI hjB, ix_nI hgB]; exact fun h => h hwg) (fun h => h ⟨hlo, hhi⟩) (by rw [ix_nI hjB]; intro h; exact h.1.elim hc_2 hc_15)⟩))⟩
      · refine pw_iload (pc := 66) hX dX1_change_66 0 rfl ?_
        refine pw_if_ne (pc := 68) hX 75 dX1_change_68 (by decide) (fun h => absurd h (by decide)) (fun _ => ?_)
        refine pw_iconst (pc := 71) (v := 1) hX dX1_change_71 (by decide) ?_
        refine pw_goto (pc := 72) hX 76 dX1_change_72 (by decide) ?_
        refine pw_callSx (pc := 76) (st := []) hX (ct_requireState l hl G M 1) ok_X1_requireState lk_RX1_76 dX1_change_76 rfl ⟨⟨by decide, by decide⟩, Nat.le_of_ble_eq_true rfl, Nat.le_of_ble_eq_true rfl, Nat.le_of_ble_eq_true rfl⟩ rfl (fun E9 M9 hx9 => ?_) (fun v9 M9 hp9 => ?_)
        · obtain ⟨rfl, rfl, hz⟩ := hx9
          exact absurd hz (by decide)
        obtain ⟨rfl, rfl, -⟩ := hp9
        refine pw_aload (pc := 79) hX dX1_change_79 1 rfl ?_
        refine pw_get (pc := 81) hX dX1_change_81 (cw_o hc j hj).1 rfl inT_0 4 (by decide) fl_RX1_103 rfl ?_
        refine pw_iload_n (pc := 84) hX dX1_change_84 4 rfl ?_
        refine pw_iald (pc := 85) (j := g) hX dX1_change_85 (cw_o hc j hj).2.2.1 hg (by decide) ?_
        refine pw_iload_n (pc := 86) hX dX1_change_86 5 rfl ?_
        refine pw_icmp_le (pc := 87) hX 92 dX1_change_87 (by decide) (fun hc_17 => ?_) (fun hc_17 => ?_)
        · refine pw_aload (pc := 92) hX dX1_change_92 1 rfl ?_
          refine pw_get (pc := 94) hX dX1_change_94 (cw_o hc j hj).1 rfl inT_0 3 (by decide) fl_RX1_80 rfl ?_
          refine pw_iload_n (pc := 97) hX dX1_change_97 4 rfl ?_
          refine pw_iload_n (pc := 98) hX dX1_change_98 5 rfl ?_
          refine pw_iast (pc := 99) (j := g) hX dX1_change_99 (cw_o hc j hj).2.1 hg (by decide) ?_
          have hm_18 := pw_ke (a := ad (7 + 4 * j)) (e := .inl (G.2.2.1 0, 10, .inl (upd (wa j) g p2))) hc.1 (cw_ne hc (x := 0) (y := 7 + 4 * j) (by omega) (by omega) (by omega))
          have hm_19 := pw_ke (a := ad (7 + 4 * j)) (e := .inl (G.2.2.1 0, 10, .inl (upd (wa j) g p2))) hc.2.1 (cw_ne hc (x := 1) (y := 7 + 4 * j) (by omega) (by omega) (by omega))
          have hm_20 := pw_ke (a := ad (7 + 4 * j)) (e := .inl (G.2.2.1 0, 10, .inl (upd (wa j) g p2))) hc.2.2.1 (cw_ne hc (x := 2) (y := 7 + 4 * j) (by omega) (by omega) (by omega))
          have hm_21 := pw_ke (a := ad (7 + 4 * j)) (e := .inl (G.2.2.1 0, 10, .inl (upd (wa j) g p2))) hc.2.2.2.1 (cw_ne hc (x := 3) (y := 7 + 4 * j) (by omega) (by omega) (by omega))
          have hm_22 := pw_ke (a := ad (7 + 4 * j)) (e := .inl (G.2.2.1 0, 10, .inl (upd (wa j) g p2))) hc.2.2.2.2.1 (cw_ne hc (x := 4) (y := 7 + 4 * j) (by omega) (by omega) (by omega))
          have hm_23 := pw_ke (a := ad (7 + 4 * j)) (e := .inl (G.2.2.1 0, 10, .inl (upd (wa j) g p2))) hc.2.2.2.2.2.1 (cw_ne hc (x := 5) (y := 7 + 4 * j) (by omega) (by omega) (by omega))
          have hm_24 := pw_ke (a := ad (7 + 4 * j)) (e := .inl (G.2.2.1 0, 10, .inl (upd (wa j) g p2))) (cw_o hc j hj).1 (cw_ne hc (x := 6 + 4 * j) (y := 7 + 4 * j) (by omega) (by omega) (by omega))
          have hm_25 := pw_ke (a := ad (7 + 4 * j)) (e := .inl (G.2.2.1 0, 10, .inl (upd (wa j) g p2))) (cw_o hc j hj).2.2.1 (cw_ne hc (x := 8 + 4 * j) (y := 7 + 4 * j) (by omega) (by omega) (by omega))
          have hm_26 := pw_ke (a := ad (7 + 4 * j)) (e := .inl (G.2.2.1 0, 10, .inl (upd (wa j) g p2))) (cw_o hc j hj).2.2.2 (cw_ne hc (x := 9 + 4 * j) (y := 7 + 4 * j) (by omega) (by omega) (by omega))
          have hm_27 : pw_up M (ad (7 + 4 * j)) (.inl (G.2.2.1 0, 10, .inl (upd (wa j) g p2))) (ad (7 + 4 * j)) = some (.inl (G.2.2.1 0, 10, .inl (upd (wa j) g p2))) := pw_us
          refine pw_iconst (pc := 100) (v := 1) hX dX1_change_100 (by decide) ?_
          exact pw_zretx hX dX1_change_101 hrt rfl ⟨by decide, by decide⟩ (by rw [ix_nI hjB, ix_nI hgB]; exact ⟨pc5_0 (fun h => h (ir_nI hj)) (fun h => h (ir_nI hg)) (by rw [ix_nI hjB, ix_nI hgB]; exact fun h => h hwg) (fun h => h ⟨hlo, hhi⟩) (by rw [ix_nI hjB]; exact fun h => h ⟨Or.inr hc_15, (fun h => hc_1 h.1)⟩), Or.inr ⟨rfl, hc_17, (cw_wa hc j hj _)⟩, (fm_up fm_rf (x := 7 + 4 * j) (by omega) _)⟩)
        · refine pw_iconst (pc := 90) (v := 0) hX dX1_change_90 (by decide) ?_
          exact pw_zretx hX dX1_change_91 hrt rfl ⟨by decide, by decide⟩ (by rw [ix_nI hjB, ix_nI hgB]; exact ⟨pc5_0 (fun h => h (ir_nI hj)) (fun h => h (ir_nI hg)) (by rw [ix_nI hjB, ix_nI hgB]; exact fun h => h hwg) (fun h => h ⟨hlo, hhi⟩) (by rw [ix_nI hjB]; exact fun h => h ⟨Or.inr hc_15, (fun h => hc_1 h.1)⟩), Or.inl ⟨rfl, Int32.not_le.mp hc_17, rfl⟩, fm_rf⟩)
  · refine pw_aload (pc := 24) hX dX1_change_24 0 rfl ?_
    refine pw_get (pc := 26) hX dX1_change_26 (cw_o hc j hj).1 rfl inT_0 1 (by decide) fl_RX1_69 rfl ?_
    refine pw_iconst (pc := 29) (v := 1) hX dX1_change_29 (by decide) ?_
    refine pw_icmp_ne (pc := 30) hX 46 dX1_change_30 (by decide) (fun hc_28 => ?_) (fun hc_28 => ?_)
    · refine pw_iconst (pc := 46) (v := 0) hX dX1_change_46 (by decide) ?_
      refine pw_istore (pc := 47) hX [(5, .int 0), (4, .ref (ad (6 + 4 * j))), (0, .ref (ad 0)), (1, .int (nI j)), (2, .int (nI g)), (3, .int p2)] dX1_change_47 (by decide) rfl ?_
      refine pw_aload (pc := 49) hX dX1_change_49 1 rfl ?_
      refine pw_get (pc := 51) hX dX1_change_51 (cw_o hc j hj).1 rfl inT_0 1 (by decide) fl_RX1_69 rfl ?_
      refine pw_if_eq (pc := 54) hX 66 dX1_change_54 (by decide) (fun hc_29 => ?_) (fun hc_29 => ?_)
      · refine pw_iload (pc := 66) hX dX1_change_66 0 rfl ?_
        refine pw_if_ne (pc := 68) hX 75 dX1_change_68 (by decide) (fun h => absurd h (by decide)) (fun _ => ?_)
        refine pw_iconst (pc := 71) (v := 1) hX dX1_change_71 (by decide) ?_
        refine pw_goto (pc := 72) hX 76 dX1_change_72 (by decide) ?_
        refine pw_callSx (pc := 76) (st := []) hX (ct_requireState l hl G M 1) ok_X1_requireState lk_RX1_76 dX1_change_76 rfl ⟨⟨by decide, by decide⟩, Nat.le_of_ble_eq_true rfl, Nat.le_of_ble_eq_true rfl, Nat.le_of_ble_eq_true rfl⟩ rfl (fun E9 M9 hx9 => ?_) (fun v9 M9 hp9 => ?_)
        · obtain ⟨rfl, rfl, hz⟩ := hx9
          exact absurd hz (by decide)
        obtain ⟨rfl, rfl, -⟩ := hp9
        refine pw_aload (pc := 79) hX dX1_change_79 1 rfl ?_
        refine pw_get (pc := 81) hX dX1_change_81 (cw_o hc j hj).1 rfl inT_0 4 (by decide) fl_RX1_103 rfl ?_
        refine pw_iload_n (pc := 84) hX dX1_change_84 4 rfl ?_
        refine pw_iald (pc := 85) (j := g) hX dX1_change_85 (cw_o hc j hj).2.2.1 hg (by decide) ?_
        refine pw_iload_n (pc := 86) hX dX1_change_86 5 rfl ?_
        refine pw_icmp_le (pc := 87) hX 92 dX1_change_87 (by decide) (fun hc_31 => ?_) (fun hc_31 => ?_)
        · refine pw_aload (pc := 92) hX dX1_change_92 1 rfl ?_
          refine pw_get (pc := 94) hX dX1_change_94 (cw_o hc j hj).1 rfl inT_0 3 (by decide) fl_RX1_80 rfl ?_
          refine pw_iload_n (pc := 97) hX dX1_change_97 4 rfl ?_
          refine pw_iload_n (pc := 98) hX dX1_change_98 5 rfl ?_
          refine pw_iast (pc := 99) (j := g) hX dX1_change_99 (cw_o hc j hj).2.1 hg (by decide) ?_
          have hm_32 := pw_ke (a := ad (7 + 4 * j)) (e := .inl (G.2.2.1 0, 10, .inl (upd (wa j) g p2))) hc.1 (cw_ne hc (x := 0) (y := 7 + 4 * j) (by omega) (by omega) (by omega))
          have hm_33 := pw_ke (a := ad (7 + 4 * j)) (e := .inl (G.2.2.1 0, 10, .inl (upd (wa j) g p2))) hc.2.1 (cw_ne hc (x := 1) (y := 7 + 4 * j) (by omega) (by omega) (by omega))
          have hm_34 := pw_ke (a := ad (7 + 4 * j)) (e := .inl (G.2.2.1 0, 10, .inl (upd (wa j) g p2))) hc.2.2.1 (cw_ne hc (x := 2) (y := 7 + 4 * j) (by omega) (by omega) (by omega))
          have hm_35 := pw_ke (a := ad (7 + 4 * j)) (e := .inl (G.2.2.1 0, 10, .inl (upd (wa j) g p2))) hc.2.2.2.1 (cw_ne hc (x := 3) (y := 7 + 4 * j) (by omega) (by omega) (by omega))
          have hm_36 := pw_ke (a := ad (7 + 4 * j)) (e := .inl (G.2.2.1 0, 10, .inl (upd (wa j) g p2))) hc.2.2.2.2.1 (cw_ne hc (x := 4) (y := 7 + 4 * j) (by omega) (by omega) (by omega))
          have hm_37 := pw_ke (a := ad (7 + 4 * j)) (e := .inl (G.2.2.1 0, 10, .inl (upd (wa j) g p2))) hc.2.2.2.2.2.1 (cw_ne hc (x := 5) (y := 7 + 4 * j) (by omega) (by omega) (by omega))
          have hm_38 := pw_ke (a := ad (7 + 4 * j)) (e := .inl (G.2.2.1 0, 10, .inl (upd (wa j) g p2))) (cw_o hc j hj).1 (cw_ne hc (x := 6 + 4 * j) (y := 7 + 4 * j) (by omega) (by omega) (by omega))
          have hm_39 := pw_ke (a := ad (7 + 4 * j)) (e := .inl (G.2.2.1 0, 10, .inl (upd (wa j) g p2))) (cw_o hc j hj).2.2.1 (cw_ne hc (x := 8 + 4 * j) (y := 7 + 4 * j) (by omega) (by omega) (by omega))
          have hm_40 := pw_ke (a := ad (7 + 4 * j)) (e := .inl (G.2.2.1 0, 10, .inl (upd (wa j) g p2))) (cw_o hc j hj).2.2.2 (cw_ne hc (x := 9 + 4 * j) (y := 7 + 4 * j) (by omega) (by omega) (by omega))
          have hm_41 : pw_up M (ad (7 + 4 * j)) (.inl (G.2.2.1 0, 10, .inl (upd (wa j) g p2))) (ad (7 + 4 * j)) = some (.inl (G.2.2.1 0, 10, .inl (upd (wa j) g p2))) := pw_us
          refine pw_iconst (pc := 100) (v := 1) hX dX1_change_100 (by decide) ?_
          exact pw_zretx hX dX1_change_101 hrt rfl ⟨by decide, by decide⟩ (by rw [ix_nI hjB, ix_nI hgB]; exact ⟨pc5_0 (fun h => h (ir_nI hj)) (fun h => h (ir_nI hg)) (by rw [ix_nI hjB, ix_nI hgB]; exact fun h => h hwg) (fun h => h ⟨hlo, hhi⟩) (by rw [ix_nI hjB]; exact fun h => h ⟨Or.inl hc_29, (fun h => hc_28 h.2.1)⟩), Or.inr ⟨rfl, hc_31, (cw_wa hc j hj _)⟩, (fm_up fm_rf (x := 7 + 4 * j) (by omega) _)⟩)
        · refine pw_iconst (pc := 90) (v := 0) hX dX1_change_90 (by decide) ?_
          exact pw_zretx hX dX1_change_91 hrt rfl ⟨by decide, by decide⟩ (by rw [ix_nI hjB, ix_nI hgB]; exact ⟨pc5_0 (fun h => h (ir_nI hj)) (fun h => h (ir_nI hg)) (by rw [ix_nI hjB, ix_nI hgB]; exact fun h => h hwg) (fun h => h ⟨hlo, hhi⟩) (by rw [ix_nI hjB]; exact fun h => h ⟨Or.inl hc_29, (fun h => hc_28 h.2.1)⟩), Or.inl ⟨rfl, Int32.not_le.mp hc_31, rfl⟩, fm_rf⟩)
      · refine pw_aload (pc := 57) hX dX1_change_57 1 rfl ?_
        refine pw_get (pc := 59) hX dX1_change_59 (cw_o hc j hj).1 rfl inT_0 1 (by decide) fl_RX1_69 rfl ?_
        refine pw_iconst (pc := 62) (v := 1) hX dX1_change_62 (by decide) ?_
        refine pw_icmp_ne (pc := 63) hX 75 dX1_change_63 (by decide) (fun hc_42 => ?_) (fun hc_42 => ?_)
        · refine pw_iconst (pc := 75) (v := 0) hX dX1_change_75 (by decide) ?_
          refine pw_callSx (pc := 76) (st := []) hX (ct_requireState l hl G M 0) ok_X1_requireState lk_RX1_76 dX1_change_76 rfl ⟨⟨by decide, by decide⟩, Nat.le_of_ble_eq_true rfl, Nat.le_of_ble_eq_true rfl, Nat.le_of_ble_eq_true rfl⟩ rfl (fun E9 M9 hx9 => ?_) (fun v9 M9 hp9 => absurd rfl hp9.2.2)
          obtain ⟨rfl, rfl, -⟩ := hx9
          exact pw_out hX hex ⟨Nat.le_of_ble_eq_true rfl, Nat.le_of_ble_eq_true rfl⟩ ⟨rfl, Or.inr (Or.inr (⟨rfl, pc5_5 (fun h => h (ir_nI hj)) (fun h => h (ir_nI hg)) (by rw [ix_nI hjB, ix_nI hgB]; exact fun h => h hwg) (fun h => h ⟨hlo, hhi⟩) (by rw [ix_nI hjB]; intro h; exact h.1.elim hc_29 hc_42)⟩))⟩
        · refine pw_iload (pc := 66) hX dX1_change_66 0 rfl ?_
          refine pw_if_ne (pc := 68) hX 75 dX1_change_68 (by decide) (fun h => absurd h (by decide)) (fun _ => ?_)
          refine pw_iconst (pc := 71) (v := 1) hX dX1_change_71 (by decide) ?_
          refine pw_goto (pc := 72) hX 76 dX1_change_72 (by decide) ?_
          refine pw_callSx (pc := 76) (st := []) hX (ct_requireState l hl G M 1) ok_X1_requireState lk_RX1_76 dX1_change_76 rfl ⟨⟨by decide, by decide⟩, Nat.le_of_ble_eq_true rfl, Nat.le_of_ble_eq_true rfl, Nat.le_of_ble_eq_true rfl⟩ rfl (fun E9 M9 hx9 => ?_) (fun v9 M9 hp9 => ?_)
          · obtain ⟨rfl, rfl, hz⟩ := hx9
            exact absurd hz (by decide)
          obtain ⟨rfl, rfl, -⟩ := hp9
          refine pw_aload (pc := 79) hX dX1_change_79 1 rfl ?_
          refine pw_get (pc := 81) hX dX1_change_81 (cw_o hc j hj).1 rfl inT_0 4 (by decide) fl_RX1_103 rfl ?_
          refine pw_iload_n (pc := 84) hX dX1_change_84 4 rfl ?_
          refine pw_iald (pc := 85) (j := g) hX dX1_change_85 (cw_o hc j hj).2.2.1 hg (by decide) ?_
          refine pw_iload_n (pc := 86) hX dX1_change_86 5 rfl ?_
          refine pw_icmp_le (pc := 87) hX 92 dX1_change_87 (by decide) (fun hc_44 => ?_) (fun hc_44 => ?_)
          · refine pw_aload (pc := 92) hX dX1_change_92 1 rfl ?_
            refine pw_get (pc := 94) hX dX1_change_94 (cw_o hc j hj).1 rfl inT_0 3 (by decide) fl_RX1_80 rfl ?_
            refine pw_iload_n (pc := 97) hX dX1_change_97 4 rfl ?_
            refine pw_iload_n (pc := 98) hX dX1_change_98 5 rfl ?_
            refine pw_iast (pc := 99) (j := g) hX dX1_change_99 (cw_o hc j hj).2.1 hg (by decide) ?_
            have hm_45 := pw_ke (a := ad (7 + 4 * j)) (e := .inl (G.2.2.1 0, 10, .inl (upd (wa j) g p2))) hc.1 (cw_ne hc (x := 0) (y := 7 + 4 * j) (by omega) (by omega) (by omega))
            have hm_46 := pw_ke (a := ad (7 + 4 * j)) (e := .inl (G.2.2.1 0, 10, .inl (upd (wa j) g p2))) hc.2.1 (cw_ne hc (x := 1) (y := 7 + 4 * j) (by omega) (by omega) (by omega))
            have hm_47 := pw_ke (a := ad (7 + 4 * j)) (e := .inl (G.2.2.1 0, 10, .inl (upd (wa j) g p2))) hc.2.2.1 (cw_ne hc (x := 2) (y := 7 + 4 * j) (by omega) (by omega) (by omega))
            have hm_48 := pw_ke (a := ad (7 + 4 * j)) (e := .inl (G.2.2.1 0, 10, .inl (upd (wa j) g p2))) hc.2.2.2.1 (cw_ne hc (x := 3) (y := 7 + 4 * j) (by omega) (by omega) (by omega))
            have hm_49 := pw_ke (a := ad (7 + 4 * j)) (e := .inl (G.2.2.1 0, 10, .inl (upd (wa j) g p2))) hc.2.2.2.2.1 (cw_ne hc (x := 4) (y := 7 + 4 * j) (by omega) (by omega) (by omega))
            have hm_50 := pw_ke (a := ad (7 + 4 * j)) (e := .inl (G.2.2.1 0, 10, .inl (upd (wa j) g p2))) hc.2.2.2.2.2.1 (cw_ne hc (x := 5) (y := 7 + 4 * j) (by omega) (by omega) (by omega))
            have hm_51 := pw_ke (a := ad (7 + 4 * j)) (e := .inl (G.2.2.1 0, 10, .inl (upd (wa j) g p2))) (cw_o hc j hj).1 (cw_ne hc (x := 6 + 4 * j) (y := 7 + 4 * j) (by omega) (by omega) (by omega))
            have hm_52 := pw_ke (a := ad (7 + 4 * j)) (e := .inl (G.2.2.1 0, 10, .inl (upd (wa j) g p2))) (cw_o hc j hj).2.2.1 (cw_ne hc (x := 8 + 4 * j) (y := 7 + 4 * j) (by omega) (by omega) (by omega))
            have hm_53 := pw_ke (a := ad (7 + 4 * j)) (e := .inl (G.2.2.1 0, 10, .inl (upd (wa j) g p2))) (cw_o hc j hj).2.2.2 (cw_ne hc (x := 9 + 4 * j) (y := 7 + 4 * j) (by omega) (by omega) (by omega))
            have hm_54 : pw_up M (ad (7 + 4 * j)) (.inl (G.2.2.1 0, 10, .inl (upd (wa j) g p2))) (ad (7 + 4 * j)) = some (.inl (G.2.2.1 0, 10, .inl (upd (wa j) g p2))) := pw_us
            refine pw_iconst (pc := 100) (v := 1) hX dX1_change_100 (by decide) ?_
            exact pw_zretx hX dX1_change_101 hrt rfl ⟨by decide, by decide⟩ (by rw [ix_nI hjB, ix_nI hgB]; exact ⟨pc5_0 (fun h => h (ir_nI hj)) (fun h => h (ir_nI hg)) (by rw [ix_nI hjB, ix_nI hgB]; exact fun h => h hwg) (fun h => h ⟨hlo, hhi⟩) (by rw [ix_nI hjB]; exact fun h => h ⟨Or.inr hc_42, (fun h => hc_28 h.2.1)⟩), Or.inr ⟨rfl, hc_44, (cw_wa hc j hj _)⟩, (fm_up fm_rf (x := 7 + 4 * j) (by omega) _)⟩)
          · refine pw_iconst (pc := 90) (v := 0) hX dX1_change_90 (by decide) ?_
            exact pw_zretx hX dX1_change_91 hrt rfl ⟨by decide, by decide⟩ (by rw [ix_nI hjB, ix_nI hgB]; exact ⟨pc5_0 (fun h => h (ir_nI hj)) (fun h => h (ir_nI hg)) (by rw [ix_nI hjB, ix_nI hgB]; exact fun h => h hwg) (fun h => h ⟨hlo, hhi⟩) (by rw [ix_nI hjB]; exact fun h => h ⟨Or.inr hc_42, (fun h => hc_28 h.2.1)⟩), Or.inl ⟨rfl, Int32.not_le.mp hc_44, rfl⟩, fm_rf⟩)
    · refine pw_aload (pc := 33) hX dX1_change_33 0 rfl ?_
      refine pw_callV (pc := 35) (st := []) hX (ct_lineCount l hl G M (ad (6 + 4 * j)) (ad (7 + 4 * j)) (ad (8 + 4 * j)) (ad (9 + 4 * j)) (nI j) (os j) (pl j) (wa j) (pr j) (de j) (cw_o hc j hj)) (cw_o hc j hj).1 rfl ok_X0_lineCount lk_RX1_83 dX1_change_35 rfl ⟨⟨by decide, by decide⟩, Nat.le_of_ble_eq_true rfl, Nat.le_of_ble_eq_true rfl, Nat.le_of_ble_eq_true rfl⟩ rfl (fun v9 M9 hp9 => ?_)
      obtain ⟨rfl, rfl⟩ := hp9
      refine pw_iconst (pc := 38) (v := 1) hX dX1_change_38 (by decide) ?_
      refine pw_icmp_ne (pc := 39) hX 46 dX1_change_39 (by decide) (fun hc_55 => ?_) (fun hc_55 => ?_)
      · refine pw_iconst (pc := 46) (v := 0) hX dX1_change_46 (by decide) ?_
        refine pw_istore (pc := 47) hX [(5, .int 0), (4, .ref (ad (6 + 4 * j))), (0, .ref (ad 0)), (1, .int (nI j)), (2, .int (nI g)), (3, .int p2)] dX1_change_47 (by decide) rfl ?_
        refine pw_aload (pc := 49) hX dX1_change_49 1 rfl ?_
        refine pw_get (pc := 51) hX dX1_change_51 (cw_o hc j hj).1 rfl inT_0 1 (by decide) fl_RX1_69 rfl ?_
        refine pw_if_eq (pc := 54) hX 66 dX1_change_54 (by decide) (fun hc_56 => ?_) (fun hc_56 => ?_)
        · refine pw_iload (pc := 66) hX dX1_change_66 0 rfl ?_
          refine pw_if_ne (pc := 68) hX 75 dX1_change_68 (by decide) (fun h => absurd h (by decide)) (fun _ => ?_)
          refine pw_iconst (pc := 71) (v := 1) hX dX1_change_71 (by decide) ?_
          refine pw_goto (pc := 72) hX 76 dX1_change_72 (by decide) ?_
          refine pw_callSx (pc := 76) (st := []) hX (ct_requireState l hl G M 1) ok_X1_requireState lk_RX1_76 dX1_change_76 rfl ⟨⟨by decide, by decide⟩, Nat.le_of_ble_eq_true rfl, Nat.le_of_ble_eq_true rfl, Nat.le_of_ble_eq_true rfl⟩ rfl (fun E9 M9 hx9 => ?_) (fun v9 M9 hp9 => ?_)
          · obtain ⟨rfl, rfl, hz⟩ := hx9
            exact absurd hz (by decide)
          obtain ⟨rfl, rfl, -⟩ := hp9
          refine pw_aload (pc := 79) hX dX1_change_79 1 rfl ?_
          refine pw_get (pc := 81) hX dX1_change_81 (cw_o hc j hj).1 rfl inT_0 4 (by decide) fl_RX1_103 rfl ?_
          refine pw_iload_n (pc := 84) hX dX1_change_84 4 rfl ?_
          refine pw_iald (pc := 85) (j := g) hX dX1_change_85 (cw_o hc j hj).2.2.1 hg (by decide) ?_
          refine pw_iload_n (pc := 86) hX dX1_change_86 5 rfl ?_
          refine pw_icmp_le (pc := 87) hX 92 dX1_change_87 (by decide) (fun hc_58 => ?_) (fun hc_58 => ?_)
          · refine pw_aload (pc := 92) hX dX1_change_92 1 rfl ?_
            refine pw_get (pc := 94) hX dX1_change_94 (cw_o hc j hj).1 rfl inT_0 3 (by decide) fl_RX1_80 rfl ?_
            refine pw_iload_n (pc := 97) hX dX1_change_97 4 rfl ?_
            refine pw_iload_n (pc := 98) hX dX1_change_98 5 rfl ?_
            refine pw_iast (pc := 99) (j := g) hX dX1_change_99 (cw_o hc j hj).2.1 hg (by decide) ?_
            have hm_59 := pw_ke (a := ad (7 + 4 * j)) (e := .inl (G.2.2.1 0, 10, .inl (upd (wa j) g p2))) hc.1 (cw_ne hc (x := 0) (y := 7 + 4 * j) (by omega) (by omega) (by omega))
            have hm_60 := pw_ke (a := ad (7 + 4 * j)) (e := .inl (G.2.2.1 0, 10, .inl (upd (wa j) g p2))) hc.2.1 (cw_ne hc (x := 1) (y := 7 + 4 * j) (by omega) (by omega) (by omega))
            have hm_61 := pw_ke (a := ad (7 + 4 * j)) (e := .inl (G.2.2.1 0, 10, .inl (upd (wa j) g p2))) hc.2.2.1 (cw_ne hc (x := 2) (y := 7 + 4 * j) (by omega) (by omega) (by omega))
            have hm_62 := pw_ke (a := ad (7 + 4 * j)) (e := .inl (G.2.2.1 0, 10, .inl (upd (wa j) g p2))) hc.2.2.2.1 (cw_ne hc (x := 3) (y := 7 + 4 * j) (by omega) (by omega) (by omega))
            have hm_63 := pw_ke (a := ad (7 + 4 * j)) (e := .inl (G.2.2.1 0, 10, .inl (upd (wa j) g p2))) hc.2.2.2.2.1 (cw_ne hc (x := 4) (y := 7 + 4 * j) (by omega) (by omega) (by omega))
            have hm_64 := pw_ke (a := ad (7 + 4 * j)) (e := .inl (G.2.2.1 0, 10, .inl (upd (wa j) g p2))) hc.2.2.2.2.2.1 (cw_ne hc (x := 5) (y := 7 + 4 * j) (by omega) (by omega) (by omega))
            have hm_65 := pw_ke (a := ad (7 + 4 * j)) (e := .inl (G.2.2.1 0, 10, .inl (upd (wa j) g p2))) (cw_o hc j hj).1 (cw_ne hc (x := 6 + 4 * j) (y := 7 + 4 * j) (by omega) (by omega) (by omega))
            have hm_66 := pw_ke (a := ad (7 + 4 * j)) (e := .inl (G.2.2.1 0, 10, .inl (upd (wa j) g p2))) (cw_o hc j hj).2.2.1 (cw_ne hc (x := 8 + 4 * j) (y := 7 + 4 * j) (by omega) (by omega) (by omega))
            have hm_67 := pw_ke (a := ad (7 + 4 * j)) (e := .inl (G.2.2.1 0, 10, .inl (upd (wa j) g p2))) (cw_o hc j hj).2.2.2 (cw_ne hc (x := 9 + 4 * j) (y := 7 + 4 * j) (by omega) (by omega) (by omega))
            have hm_68 : pw_up M (ad (7 + 4 * j)) (.inl (G.2.2.1 0, 10, .inl (upd (wa j) g p2))) (ad (7 + 4 * j)) = some (.inl (G.2.2.1 0, 10, .inl (upd (wa j) g p2))) := pw_us
            refine pw_iconst (pc := 100) (v := 1) hX dX1_change_100 (by decide) ?_
            exact pw_zretx hX dX1_change_101 hrt rfl ⟨by decide, by decide⟩ (by rw [ix_nI hjB, ix_nI hgB]; exact ⟨pc5_0 (fun h => h (ir_nI hj)) (fun h => h (ir_nI hg)) (by rw [ix_nI hjB, ix_nI hgB]; exact fun h => h hwg) (fun h => h ⟨hlo, hhi⟩) (by rw [ix_nI hjB]; exact fun h => h ⟨Or.inl hc_56, (fun h => hc_55 (by rw [h.2.2]; rfl))⟩), Or.inr ⟨rfl, hc_58, (cw_wa hc j hj _)⟩, (fm_up fm_rf (x := 7 + 4 * j) (by omega) _)⟩)
          · refine pw_iconst (pc := 90) (v := 0) hX dX1_change_90 (by decide) ?_
            exact pw_zretx hX dX1_change_91 hrt rfl ⟨by decide, by decide⟩ (by rw [ix_nI hjB, ix_nI hgB]; exact ⟨pc5_0 (fun h => h (ir_nI hj)) (fun h => h (ir_nI hg)) (by rw [ix_nI hjB, ix_nI hgB]; exact fun h => h hwg) (fun h => h ⟨hlo, hhi⟩) (by rw [ix_nI hjB]; exact fun h => h ⟨Or.inl hc_56, (fun h => hc_55 (by rw [h.2.2]; rfl))⟩), Or.inl ⟨rfl, Int32.not_le.mp hc_58, rfl⟩, fm_rf⟩)
        · refine pw_aload (pc := 57) hX dX1_change_57 1 rfl ?_
          refine pw_get (pc := 59) hX dX1_change_59 (cw_o hc j hj).1 rfl inT_0 1 (by decide) fl_RX1_69 rfl ?_
          refine pw_iconst (pc := 62) (v := 1) hX dX1_change_62 (by decide) ?_
          refine pw_icmp_ne (pc := 63) hX 75 dX1_change_63 (by decide) (fun hc_69 => ?_) (fun hc_69 => ?_)
          · refine pw_iconst (pc := 75) (v := 0) hX dX1_change_75 (by decide) ?_
            refine pw_callSx (pc := 76) (st := []) hX (ct_requireState l hl G M 0) ok_X1_requireState lk_RX1_76 dX1_change_76 rfl ⟨⟨by decide, by decide⟩, Nat.le_of_ble_eq_true rfl, Nat.le_of_ble_eq_true rfl, Nat.le_of_ble_eq_true rfl⟩ rfl (fun E9 M9 hx9 => ?_) (fun v9 M9 hp9 => absurd rfl hp9.2.2)
            obtain ⟨rfl, rfl, -⟩ := hx9
            exact pw_out hX hex ⟨Nat.le_of_ble_eq_true rfl, Nat.le_of_ble_eq_true rfl⟩ ⟨rfl, Or.inr (Or.inr (⟨rfl, pc5_5 (fun h => h (ir_nI hj)) (fun h => h (ir_nI hg)) (by rw [ix_nI hjB, ix_nI hgB]; exact fun h => h hwg) (fun h => h ⟨hlo, hhi⟩) (by rw [ix_nI hjB]; intro h; exact h.1.elim hc_56 hc_69)⟩))⟩
          · refine pw_iload (pc := 66) hX dX1_change_66 0 rfl ?_
            refine pw_if_ne (pc := 68) hX 75 dX1_change_68 (by decide) (fun h => absurd h (by decide)) (fun _ => ?_)
            refine pw_iconst (pc := 71) (v := 1) hX dX1_change_71 (by decide) ?_
            refine pw_goto (pc := 72) hX 76 dX1_change_72 (by decide) ?_
            refine pw_callSx (pc := 76) (st := []) hX (ct_requireState l hl G M 1) ok_X1_requireState lk_RX1_76 dX1_change_76 rfl ⟨⟨by decide, by decide⟩, Nat.le_of_ble_eq_true rfl, Nat.le_of_ble_eq_true rfl, Nat.le_of_ble_eq_true rfl⟩ rfl (fun E9 M9 hx9 => ?_) (fun v9 M9 hp9 => ?_)
            · obtain ⟨rfl, rfl, hz⟩ := hx9
              exact absurd hz (by decide)
            obtain ⟨rfl, rfl, -⟩ := hp9
            refine pw_aload (pc := 79) hX dX1_change_79 1 rfl ?_
            refine pw_get (pc := 81) hX dX1_change_81 (cw_o hc j hj).1 rfl inT_0 4 (by decide) fl_RX1_103 rfl ?_
            refine pw_iload_n (pc := 84) hX dX1_change_84 4 rfl ?_
            refine pw_iald (pc := 85) (j := g) hX dX1_change_85 (cw_o hc j hj).2.2.1 hg (by decide) ?_
            refine pw_iload_n (pc := 86) hX dX1_change_86 5 rfl ?_
            refine pw_icmp_le (pc := 87) hX 92 dX1_change_87 (by decide) (fun hc_71 => ?_) (fun hc_71 => ?_)
            · refine pw_aload (pc := 92) hX dX1_change_92 1 rfl ?_
              refine pw_get (pc := 94) hX dX1_change_94 (cw_o hc j hj).1 rfl inT_0 3 (by decide) fl_RX1_80 rfl ?_
              refine pw_iload_n (pc := 97) hX dX1_change_97 4 rfl ?_
              refine pw_iload_n (pc := 98) hX dX1_change_98 5 rfl ?_
              refine pw_iast (pc := 99) (j := g) hX dX1_change_99 (cw_o hc j hj).2.1 hg (by decide) ?_
              have hm_72 := pw_ke (a := ad (7 + 4 * j)) (e := .inl (G.2.2.1 0, 10, .inl (upd (wa j) g p2))) hc.1 (cw_ne hc (x := 0) (y := 7 + 4 * j) (by omega) (by omega) (by omega))
              have hm_73 := pw_ke (a := ad (7 + 4 * j)) (e := .inl (G.2.2.1 0, 10, .inl (upd (wa j) g p2))) hc.2.1 (cw_ne hc (x := 1) (y := 7 + 4 * j) (by omega) (by omega) (by omega))
              have hm_74 := pw_ke (a := ad (7 + 4 * j)) (e := .inl (G.2.2.1 0, 10, .inl (upd (wa j) g p2))) hc.2.2.1 (cw_ne hc (x := 2) (y := 7 + 4 * j) (by omega) (by omega) (by omega))
              have hm_75 := pw_ke (a := ad (7 + 4 * j)) (e := .inl (G.2.2.1 0, 10, .inl (upd (wa j) g p2))) hc.2.2.2.1 (cw_ne hc (x := 3) (y := 7 + 4 * j) (by omega) (by omega) (by omega))
              have hm_76 := pw_ke (a := ad (7 + 4 * j)) (e := .inl (G.2.2.1 0, 10, .inl (upd (wa j) g p2))) hc.2.2.2.2.1 (cw_ne hc (x := 4) (y := 7 + 4 * j) (by omega) (by omega) (by omega))
              have hm_77 := pw_ke (a := ad (7 + 4 * j)) (e := .inl (G.2.2.1 0, 10, .inl (upd (wa j) g p2))) hc.2.2.2.2.2.1 (cw_ne hc (x := 5) (y := 7 + 4 * j) (by omega) (by omega) (by omega))
              have hm_78 := pw_ke (a := ad (7 + 4 * j)) (e := .inl (G.2.2.1 0, 10, .inl (upd (wa j) g p2))) (cw_o hc j hj).1 (cw_ne hc (x := 6 + 4 * j) (y := 7 + 4 * j) (by omega) (by omega) (by omega))
              have hm_79 := pw_ke (a := ad (7 + 4 * j)) (e := .inl (G.2.2.1 0, 10, .inl (upd (wa j) g p2))) (cw_o hc j hj).2.2.1 (cw_ne hc (x := 8 + 4 * j) (y := 7 + 4 * j) (by omega) (by omega) (by omega))
              have hm_80 := pw_ke (a := ad (7 + 4 * j)) (e := .inl (G.2.2.1 0, 10, .inl (upd (wa j) g p2))) (cw_o hc j hj).2.2.2 (cw_ne hc (x := 9 + 4 * j) (y := 7 + 4 * j) (by omega) (by omega) (by omega))
              have hm_81 : pw_up M (ad (7 + 4 * j)) (.inl (G.2.2.1 0, 10, .inl (upd (wa j) g p2))) (ad (7 + 4 * j)) = some (.inl (G.2.2.1 0, 10, .inl (upd (wa j) g p2))) := pw_us
              refine pw_iconst (pc := 100) (v := 1) hX dX1_change_100 (by decide) ?_
              exact pw_zretx hX dX1_change_101 hrt rfl ⟨by decide, by decide⟩ (by rw [ix_nI hjB, ix_nI hgB]; exact ⟨pc5_0 (fun h => h (ir_nI hj)) (fun h => h (ir_nI hg)) (by rw [ix_nI hjB, ix_nI hgB]; exact fun h => h hwg) (fun h => h ⟨hlo, hhi⟩) (by rw [ix_nI hjB]; exact fun h => h ⟨Or.inr hc_69, (fun h => hc_55 (by rw [h.2.2]; rfl))⟩), Or.inr ⟨rfl, hc_71, (cw_wa hc j hj _)⟩, (fm_up fm_rf (x := 7 + 4 * j) (by omega) _)⟩)
            · refine pw_iconst (pc := 90) (v := 0) hX dX1_change_90 (by decide) ?_
              exact pw_zretx hX dX1_change_91 hrt rfl ⟨by decide, by decide⟩ (by rw [ix_nI hjB, ix_nI hgB]; exact ⟨pc5_0 (fun h => h (ir_nI hj)) (fun h => h (ir_nI hg)) (by rw [ix_nI hjB, ix_nI hgB]; exact fun h => h hwg) (fun h => h ⟨hlo, hhi⟩) (by rw [ix_nI hjB]; exact fun h => h ⟨Or.inr hc_69, (fun h => hc_55 (by rw [h.2.2]; rfl))⟩), Or.inl ⟨rfl, Int32.not_le.mp hc_71, rfl⟩, fm_rf⟩)
      · refine pw_iconst (pc := 42) (v := 1) hX dX1_change_42 (by decide) ?_
        refine pw_goto (pc := 43) hX 47 dX1_change_43 (by decide) ?_
        refine pw_istore (pc := 47) hX [(5, .int 1), (4, .ref (ad (6 + 4 * j))), (0, .ref (ad 0)), (1, .int (nI j)), (2, .int (nI g)), (3, .int p2)] dX1_change_47 (by decide) rfl ?_
        refine pw_aload (pc := 49) hX dX1_change_49 1 rfl ?_
        refine pw_get (pc := 51) hX dX1_change_51 (cw_o hc j hj).1 rfl inT_0 1 (by decide) fl_RX1_69 rfl ?_
        refine pw_if_eq (pc := 54) hX 66 dX1_change_54 (by decide) (fun hc_82 => ?_) (fun hc_82 => ?_)
        · refine pw_iload (pc := 66) hX dX1_change_66 0 rfl ?_
          refine pw_if_ne (pc := 68) hX 75 dX1_change_68 (by decide) (fun _ => ?_) (fun h => absurd h (by decide))
          refine pw_iconst (pc := 75) (v := 0) hX dX1_change_75 (by decide) ?_
          refine pw_callSx (pc := 76) (st := []) hX (ct_requireState l hl G M 0) ok_X1_requireState lk_RX1_76 dX1_change_76 rfl ⟨⟨by decide, by decide⟩, Nat.le_of_ble_eq_true rfl, Nat.le_of_ble_eq_true rfl, Nat.le_of_ble_eq_true rfl⟩ rfl (fun E9 M9 hx9 => ?_) (fun v9 M9 hp9 => absurd rfl hp9.2.2)
          obtain ⟨rfl, rfl, -⟩ := hx9
          exact pw_out hX hex ⟨Nat.le_of_ble_eq_true rfl, Nat.le_of_ble_eq_true rfl⟩ ⟨rfl, Or.inr (Or.inr (⟨rfl, pc5_5 (fun h => h (ir_nI hj)) (fun h => h (ir_nI hg)) (by rw [ix_nI hjB, ix_nI hgB]; exact fun h => h hwg) (fun h => h ⟨hlo, hhi⟩) (by rw [ix_nI hjB]; intro h; exact h.2 ⟨hc_1, hc_28, (nI_eq (b := 1) (Nat.lt_of_le_of_lt (od_ct_le _ 10) (by decide)) (by decide)).mp hc_55⟩)⟩))⟩
        · refine pw_aload (pc := 57) hX dX1_change_57 1 rfl ?_
          refine pw_get (pc := 59) hX dX1_change_59 (cw_o hc j hj).1 rfl inT_0 1 (by decide) fl_RX1_69 rfl ?_
          refine pw_iconst (pc := 62) (v := 1) hX dX1_change_62 (by decide) ?_
          refine pw_icmp_ne (pc := 63) hX 75 dX1_change_63 (by decide) (fun hc_84 => ?_) (fun hc_84 => ?_)
          · refine pw_iconst (pc := 75) (v := 0) hX dX1_change_75 (by decide) ?_
            refine pw_callSx (pc := 76) (st := []) hX (ct_requireState l hl G M 0) ok_X1_requireState lk_RX1_76 dX1_change_76 rfl ⟨⟨by decide, by decide⟩, Nat.le_of_ble_eq_true rfl, Nat.le_of_ble_eq_true rfl, Nat.le_of_ble_eq_true rfl⟩ rfl (fun E9 M9 hx9 => ?_) (fun v9 M9 hp9 => absurd rfl hp9.2.2)
            obtain ⟨rfl, rfl, -⟩ := hx9
            exact pw_out hX hex ⟨Nat.le_of_ble_eq_true rfl, Nat.le_of_ble_eq_true rfl⟩ ⟨rfl, Or.inr (Or.inr (⟨rfl, pc5_5 (fun h => h (ir_nI hj)) (fun h => h (ir_nI hg)) (by rw [ix_nI hjB, ix_nI hgB]; exact fun h => h hwg) (fun h => h ⟨hlo, hhi⟩) (by rw [ix_nI hjB]; intro h; exact h.1.elim hc_82 hc_84)⟩))⟩
          · refine pw_iload (pc := 66) hX dX1_change_66 0 rfl ?_
            refine pw_if_ne (pc := 68) hX 75 dX1_change_68 (by decide) (fun _ => ?_) (fun h => absurd h (by decide))
            refine pw_iconst (pc := 75) (v := 0) hX dX1_change_75 (by decide) ?_
            refine pw_callSx (pc := 76) (st := []) hX (ct_requireState l hl G M 0) ok_X1_requireState lk_RX1_76 dX1_change_76 rfl ⟨⟨by decide, by decide⟩, Nat.le_of_ble_eq_true rfl, Nat.le_of_ble_eq_true rfl, Nat.le_of_ble_eq_true rfl⟩ rfl (fun E9 M9 hx9 => ?_) (fun v9 M9 hp9 => absurd rfl hp9.2.2)
            obtain ⟨rfl, rfl, -⟩ := hx9
            exact pw_out hX hex ⟨Nat.le_of_ble_eq_true rfl, Nat.le_of_ble_eq_true rfl⟩ ⟨rfl, Or.inr (Or.inr (⟨rfl, pc5_5 (fun h => h (ir_nI hj)) (fun h => h (ir_nI hg)) (by rw [ix_nI hjB, ix_nI hgB]; exact fun h => h hwg) (fun h => h ⟨hlo, hhi⟩) (by rw [ix_nI hjB]; intro h; exact h.2 ⟨hc_1, hc_28, (nI_eq (b := 1) (Nat.lt_of_le_of_lt (od_ct_le _ 10) (by decide)) (by decide)).mp hc_55⟩)⟩))⟩
set_option maxHeartbeats 4000000 in
set_option maxRecDepth 100000 in
theorem cp_complete (l : Launch) (hl : l.stackTraces = false) (G : pw_G) (M : pw_M) (ad : Nat → Nat) (n oc : Nat) (td sd : Int32) (dk to er : Nat → Int32) (os pl : Nat → Int32) (oo : Nat → Option Nat) (wa pr de : Nat → Nat → Int32) (hc : cw G ad n oc td sd dk to er os pl oo wa pr de M) (p0 : Int32) : pw_XMet l yX1_complete cX1_complete 3 (some .boolean) 3 2 12 G [.ref (ad 0), .int p0] M (fun v9 M9 => cd_complete oc os p0 = 0 ∧ (v9 = some (.int 1) ∧ (∀ g, g < 10 → ¬ od_gu td (wa (ix p0)) (pr (ix p0)) (de (ix p0)) g < wa (ix p0) g - pr (ix p0) g) ∧ cw G ad n oc td sd dk to er (va_up os (ix p0) 2) pl oo wa pr de M9 ∨ v9 = some (.int 0) ∧ (∃ g, g < 10 ∧ od_gu td (wa (ix p0)) (pr (ix p0)) (de (ix p0)) g < wa (ix p0) g - pr (ix p0) g) ∧ M = M9) ∧ fm ad (6 + 4 * oc) M M9) (fun E9 M9 => M = M9 ∧ (E9 = "java/util/NoSuchElementException" ∧ cd_complete oc os p0 = 1 ∨ E9 = "java/lang/IllegalStateException" ∧ cd_complete oc os p0 = 2)) := by
  refine pw_ofx hl (by decide +kernel) (Nat.le_of_ble_eq_true rfl) [(0, .ref (ad 0)), (1, .int p0)] rfl ?_
  intro p9 e9 s9 m9 args9 below9 meth9 c9 hX hrt hex
  refine pw_aload_n (pc := 0) hX dX1_complete_0 0 rfl ?_
  refine pw_iload_n (pc := 1) hX dX1_complete_1 1 rfl ?_
  refine pw_callVx (pc := 2) (st := []) hX (ct_existing l hl G M ad n oc td sd dk to er os pl oo wa pr de hc p0) hc.1 rfl ok_X1_existing lk_RX1_65 dX1_complete_2 rfl ⟨⟨by decide, by decide⟩, Nat.le_of_ble_eq_true rfl, Nat.le_of_ble_eq_true rfl, Nat.le_of_ble_eq_true rfl⟩ rfl (fun E9 M9 hx9 => ?_) (fun v9 M9 hp9 => ?_)
  · obtain ⟨rfl, rfl, hno⟩ := hx9
    exact pw_out hX hex ⟨Nat.le_of_ble_eq_true rfl, Nat.le_of_ble_eq_true rfl⟩ (⟨rfl, Or.inl (⟨rfl, pc_t hno⟩)⟩)
  obtain ⟨rfl, j, hj, rfl, rfl⟩ := hp9
  have hjB : j < 2 ^ 31 := Nat.lt_of_lt_of_le hj (Nat.le_trans (cw_oc hc) (by decide))
  refine pw_astore_n (pc := 5) hX [(2, .ref (ad (6 + 4 * j))), (0, .ref (ad 0)), (1, .int (nI j))] dX1_complete_5 (by decide) rfl ?_
  refine pw_aload_n (pc := 6) hX dX1_complete_6 0 rfl ?_
  refine pw_get (pc := 7) hX dX1_complete_7 (cw_o hc j hj).1 rfl inT_0 1 (by decide) fl_RX1_69 rfl ?_
  refine pw_iconst (pc := 10) (v := 1) hX dX1_complete_10 (by decide) ?_
  refine pw_icmp_ne (pc := 11) hX 18 dX1_complete_11 (by decide) (fun hc_1 => ?_) (fun hc_1 => ?_)
  · refine pw_iconst (pc := 18) (v := 0) hX dX1_complete_18 (by decide) ?_
    refine pw_callSx (pc := 19) (st := []) hX (ct_requireState l hl G M 0) ok_X1_requireState lk_RX1_76 dX1_complete_19 rfl ⟨⟨by decide, by decide⟩, Nat.le_of_ble_eq_true rfl, Nat.le_of_ble_eq_true rfl, Nat.le_of_ble_eq_true rfl⟩ rfl (fun E9 M9 hx9 => ?_) (fun v9 M9 hp9 => absurd rfl hp9.2.2)
    obtain ⟨rfl, rfl, -⟩ := hx9
    exact pw_out hX hex ⟨Nat.le_of_ble_eq_true rfl, Nat.le_of_ble_eq_true rfl⟩ ⟨rfl, Or.inr (⟨rfl, pc2_2 (fun h => h (ir_nI hj)) (by rw [ix_nI hjB]; exact hc_1)⟩)⟩
  · refine pw_iconst (pc := 14) (v := 1) hX dX1_complete_14 (by decide) ?_
    refine pw_goto (pc := 15) hX 19 dX1_complete_15 (by decide) ?_
    refine pw_callSx (pc := 19) (st := []) hX (ct_requireState l hl G M 1) ok_X1_requireState lk_RX1_76 dX1_complete_19 rfl ⟨⟨by decide, by decide⟩, Nat.le_of_ble_eq_true rfl, Nat.le_of_ble_eq_true rfl, Nat.le_of_ble_eq_true rfl⟩ rfl (fun E9 M9 hx9 => ?_) (fun v9 M9 hp9 => ?_)
    · obtain ⟨rfl, rfl, hz⟩ := hx9
      exact absurd hz (by decide)
    obtain ⟨rfl, rfl, -⟩ := hp9
    refine pw_aload_n (pc := 22) hX dX1_complete_22 0 rfl ?_
    refine pw_aload_n (pc := 23) hX dX1_complete_23 1 rfl ?_
    refine pw_get (pc := 24) hX dX1_complete_24 hc.1 rfl inT_1 6 (by decide) fl_RX1_26 rfl ?_
    refine pw_callV (pc := 27) (st := []) hX (ct_lacksNothing l hl G M (ad (6 + 4 * j)) (ad (7 + 4 * j)) (ad (8 + 4 * j)) (ad (9 + 4 * j)) (nI j) (os j) (pl j) (wa j) (pr j) (de j) (cw_o hc j hj) td) (cw_o hc j hj).1 rfl ok_X0_lacksNothing lk_RX1_122 dX1_complete_27 rfl ⟨⟨by decide, by decide⟩, Nat.le_of_ble_eq_true rfl, Nat.le_of_ble_eq_true rfl, Nat.le_of_ble_eq_true rfl⟩ rfl (fun v9 M9 hp9 => ?_)
    obtain ⟨⟨z, rfl, ⟨rfl, hall⟩ | ⟨rfl, g, hg, hlt⟩⟩, rfl⟩ := hp9
    · refine pw_if_ne (pc := 30) hX 35 dX1_complete_30 (by decide) (fun _ => ?_) (fun h => absurd h (by decide))
      refine pw_aload_n (pc := 35) hX dX1_complete_35 0 rfl ?_
      refine pw_iconst (pc := 36) (v := 2) hX dX1_complete_36 (by decide) ?_
      refine pw_put (pc := 37) (v := .int 2) hX dX1_complete_37 (cw_o hc j hj).1 rfl inT_0 tyX0 tyX0_ok nmX0 1 (by decide) fl_RX1_69 rfl (tyX0_ok 1 (by decide)) rfl rfl (Nat.le_of_ble_eq_true rfl) [.int (nI j), .int 2, .int (pl j), .ref (ad (7 + 4 * j)), .ref (ad (8 + 4 * j)), .ref (ad (9 + 4 * j))] rfl ?_
      have hm_3 := pw_ke (a := ad (6 + 4 * j)) (e := .inr (0, [.int (nI j), .int 2, .int (pl j), .ref (ad (7 + 4 * j)), .ref (ad (8 + 4 * j)), .ref (ad (9 + 4 * j))])) hc.1 (cw_ne hc (x := 0) (y := 6 + 4 * j) (by omega) (by omega) (by omega))
      have hm_4 := pw_ke (a := ad (6 + 4 * j)) (e := .inr (0, [.int (nI j), .int 2, .int (pl j), .ref (ad (7 + 4 * j)), .ref (ad (8 + 4 * j)), .ref (ad (9 + 4 * j))])) hc.2.1 (cw_ne hc (x := 1) (y := 6 + 4 * j) (by omega) (by omega) (by omega))
      have hm_5 := pw_ke (a := ad (6 + 4 * j)) (e := .inr (0, [.int (nI j), .int 2, .int (pl j), .ref (ad (7 + 4 * j)), .ref (ad (8 + 4 * j)), .ref (ad (9 + 4 * j))])) hc.2.2.1 (cw_ne hc (x := 2) (y := 6 + 4 * j) (by omega) (by omega) (by omega))
      have hm_6 := pw_ke (a := ad (6 + 4 * j)) (e := .inr (0, [.int (nI j), .int 2, .int (pl j), .ref (ad (7 + 4 * j)), .ref (ad (8 + 4 * j)), .ref (ad (9 + 4 * j))])) hc.2.2.2.1 (cw_ne hc (x := 3) (y := 6 + 4 * j) (by omega) (by omega) (by omega))
      have hm_7 := pw_ke (a := ad (6 + 4 * j)) (e := .inr (0, [.int (nI j), .int 2, .int (pl j), .ref (ad (7 + 4 * j)), .ref (ad (8 + 4 * j)), .ref (ad (9 + 4 * j))])) hc.2.2.2.2.1 (cw_ne hc (x := 4) (y := 6 + 4 * j) (by omega) (by omega) (by omega))
      have hm_8 := pw_ke (a := ad (6 + 4 * j)) (e := .inr (0, [.int (nI j), .int 2, .int (pl j), .ref (ad (7 + 4 * j)), .ref (ad (8 + 4 * j)), .ref (ad (9 + 4 * j))])) hc.2.2.2.2.2.1 (cw_ne hc (x := 5) (y := 6 + 4 * j) (by omega) (by omega) (by omega))
      have hm_9 := pw_ke (a := ad (6 + 4 * j)) (e := .inr (0, [.int (nI j), .int 2, .int (pl j), .ref (ad (7 + 4 * j)), .ref (ad (8 + 4 * j)), .ref (ad (9 + 4 * j))])) (cw_o hc j hj).2.1 (cw_ne hc (x := 7 + 4 * j) (y := 6 + 4 * j) (by omega) (by omega) (by omega))
      have hm_10 := pw_ke (a := ad (6 + 4 * j)) (e := .inr (0, [.int (nI j), .int 2, .int (pl j), .ref (ad (7 + 4 * j)), .ref (ad (8 + 4 * j)), .ref (ad (9 + 4 * j))])) (cw_o hc j hj).2.2.1 (cw_ne hc (x := 8 + 4 * j) (y := 6 + 4 * j) (by omega) (by omega) (by omega))
      have hm_11 := pw_ke (a := ad (6 + 4 * j)) (e := .inr (0, [.int (nI j), .int 2, .int (pl j), .ref (ad (7 + 4 * j)), .ref (ad (8 + 4 * j)), .ref (ad (9 + 4 * j))])) (cw_o hc j hj).2.2.2 (cw_ne hc (x := 9 + 4 * j) (y := 6 + 4 * j) (by omega) (by omega) (by omega))
      have hm_12 : pw_up M (ad (6 + 4 * j)) (.inr (0, [.int (nI j), .int 2, .int (pl j), .ref (ad (7 + 4 * j)), .ref (ad (8 + 4 * j)), .ref (ad (9 + 4 * j))])) (ad (6 + 4 * j)) = some (.inr (0, [.int (nI j), .int 2, .int (pl j), .ref (ad (7 + 4 * j)), .ref (ad (8 + 4 * j)), .ref (ad (9 + 4 * j))])) := pw_us
      refine pw_iconst (pc := 40) (v := 1) hX dX1_complete_40 (by decide) ?_
      exact pw_zretx hX dX1_complete_41 hrt rfl ⟨by decide, by decide⟩ (by rw [ix_nI hjB]; exact ⟨pc2_0 (fun h => h (ir_nI hj)) (by rw [ix_nI hjB]; exact fun h => h hc_1), Or.inl ⟨rfl, hall, by have h9 := (cw_os hc j hj 2 (pl j)); rw [up_id] at h9; exact h9⟩, (fm_up fm_rf (x := 6 + 4 * j) (by omega) _)⟩)
    · refine pw_if_ne (pc := 30) hX 35 dX1_complete_30 (by decide) (fun h => absurd h (by decide)) (fun _ => ?_)
      refine pw_iconst (pc := 33) (v := 0) hX dX1_complete_33 (by decide) ?_
      exact pw_zretx hX dX1_complete_34 hrt rfl ⟨by decide, by decide⟩ (by rw [ix_nI hjB]; exact ⟨pc2_0 (fun h => h (ir_nI hj)) (by rw [ix_nI hjB]; exact fun h => h hc_1), Or.inr ⟨rfl, ⟨g, hg, hlt⟩, rfl⟩, fm_rf⟩)
set_option maxHeartbeats 4000000 in
set_option maxRecDepth 100000 in
theorem cp_release (l : Launch) (hl : l.stackTraces = false) (G : pw_G) (M : pw_M) (ad : Nat → Nat) (n oc : Nat) (td sd : Int32) (dk to er : Nat → Int32) (os pl : Nat → Int32) (oo : Nat → Option Nat) (wa pr de : Nat → Nat → Int32) (hc : cw G ad n oc td sd dk to er os pl oo wa pr de M) (p0 : Int32) : pw_XMet l yX1_release cX1_release 3 (some .boolean) 3 2 12 G [.ref (ad 0), .int p0] M (fun v9 M9 => cd_release n oo p0 = 0 ∧ (∃ j, oo (ix p0) = some j ∧ j < oc ∧ (v9 = some (.int 0) ∧ ¬ os j = 2 ∧ M = M9 ∨ v9 = some (.int 1) ∧ os j = 2 ∧ cw G ad n oc td sd dk to er (va_up os j 3) (va_up pl j (-1)) (va_up oo (ix p0) none) wa pr de M9)) ∧ fm ad (6 + 4 * oc) M M9) (fun E9 M9 => M = M9 ∧ (E9 = "java/lang/ArrayIndexOutOfBoundsException" ∧ cd_release n oo p0 = 1 ∨ E9 = "java/lang/IllegalStateException" ∧ cd_release n oo p0 = 2)) := by
  refine pw_ofx hl (by decide +kernel) (Nat.le_of_ble_eq_true rfl) [(0, .ref (ad 0)), (1, .int p0)] rfl ?_
  intro p9 e9 s9 m9 args9 below9 meth9 c9 hX hrt hex
  refine pw_aload_n (pc := 0) hX dX1_release_0 0 rfl ?_
  refine pw_iload_n (pc := 1) hX dX1_release_1 1 rfl ?_
  refine pw_callVx (pc := 2) (st := []) hX (ct_requireCell l hl G M ad n oc td sd dk to er os pl oo wa pr de hc p0) hc.1 rfl ok_X1_requireCell lk_RX1_93 dX1_release_2 rfl ⟨⟨by decide, by decide⟩, Nat.le_of_ble_eq_true rfl, Nat.le_of_ble_eq_true rfl, Nat.le_of_ble_eq_true rfl⟩ rfl (fun E9 M9 hx9 => ?_) (fun v9 M9 hp9 => ?_)
  · obtain ⟨rfl, rfl, hno⟩ := hx9
    exact pw_out hX hex ⟨Nat.le_of_ble_eq_true rfl, Nat.le_of_ble_eq_true rfl⟩ (⟨rfl, Or.inl (⟨rfl, pc_t hno⟩)⟩)
  obtain ⟨rfl, rfl, t, ht, rfl⟩ := hp9
  have htB : t < 2 ^ 31 := Nat.lt_trans ht (Nat.lt_of_le_of_lt (cw_n hc) (by decide))
  refine pw_aload_n (pc := 5) hX dX1_release_5 0 rfl ?_
  refine pw_get (pc := 6) hX dX1_release_6 hc.1 rfl inT_1 2 (by decide) fl_RX1_41 rfl ?_
  refine pw_iload_n (pc := 9) hX dX1_release_9 1 rfl ?_
  refine pw_aald (pc := 10) (j := t) hX dX1_release_10 hc.2.2.1 ht (Nat.lt_of_le_of_lt (cw_n hc) (by decide)) ?_
  rcases op_two (oo t) with ho_1 | ⟨j_2, ho_1⟩
  · refine pw_cg (vb := .null) (by show va_rf ((oo t).map _) = _; rw [ho_1]; rfl) ?_
    refine pw_astore_nN (pc := 11) hX [(2, .null), (0, .ref (ad 0)), (1, .int (nI t))] dX1_release_11 (by decide) rfl ?_
    refine pw_aload_nN (pc := 12) hX dX1_release_12 0 rfl ?_
    refine pw_ifnonnullN (pc := 13) hX dX1_release_13  ?_
    exact pw_throw (pc := 16) (names := ["java/lang/RuntimeException", "java/lang/Exception"]) (text := "the cell is free") hX hex dX1_release_16 dX1_release_19 dX1_release_20 dX1_release_22 dX1_release_25 rfl ⟨by decide +kernel, by decide +kernel⟩ th_RX1_106 (by decide +kernel) ta_RX1_110 tg_RX1_110 ⟨by decide, Nat.le_of_ble_eq_true rfl, Nat.le_of_ble_eq_true rfl, Nat.le_of_ble_eq_true rfl⟩ ⟨Nat.le_of_ble_eq_true rfl, Nat.le_of_ble_eq_true rfl⟩ ⟨rfl, Or.inr (⟨rfl, pc2_2 (fun h => h (ir_nI ht)) (by rw [ix_nI htB]; exact ho_1)⟩)⟩
  · have hj_2 : j_2 < oc := cw_oo hc t j_2 ht ho_1
    refine pw_cg (vb := .ref (ad (6 + 4 * j_2))) (by show va_rf ((oo t).map _) = _; rw [ho_1]; rfl) ?_
    refine pw_astore_n (pc := 11) hX [(2, .ref (ad (6 + 4 * j_2))), (0, .ref (ad 0)), (1, .int (nI t))] dX1_release_11 (by decide) rfl ?_
    refine pw_aload_n (pc := 12) hX dX1_release_12 0 rfl ?_
    refine pw_ifnonnull (pc := 13) hX 26 dX1_release_13 (by decide) ?_
    refine pw_aload_n (pc := 26) hX dX1_release_26 0 rfl ?_
    refine pw_get (pc := 27) hX dX1_release_27 (cw_o hc j_2 hj_2).1 rfl inT_0 1 (by decide) fl_RX1_69 rfl ?_
    refine pw_iconst (pc := 30) (v := 2) hX dX1_release_30 (by decide) ?_
    refine pw_icmp_eq (pc := 31) hX 36 dX1_release_31 (by decide) (fun hc_3 => ?_) (fun hc_3 => ?_)
    · refine pw_aload_n (pc := 36) hX dX1_release_36 0 rfl ?_
      refine pw_iconst (pc := 37) (v := 3) hX dX1_release_37 (by decide) ?_
      refine pw_put (pc := 38) (v := .int 3) hX dX1_release_38 (cw_o hc j_2 hj_2).1 rfl inT_0 tyX0 tyX0_ok nmX0 1 (by decide) fl_RX1_69 rfl (tyX0_ok 1 (by decide)) rfl rfl (Nat.le_of_ble_eq_true rfl) [.int (nI j_2), .int 3, .int (pl j_2), .ref (ad (7 + 4 * j_2)), .ref (ad (8 + 4 * j_2)), .ref (ad (9 + 4 * j_2))] rfl ?_
      have hm_4 := pw_ke (a := ad (6 + 4 * j_2)) (e := .inr (0, [.int (nI j_2), .int 3, .int (pl j_2), .ref (ad (7 + 4 * j_2)), .ref (ad (8 + 4 * j_2)), .ref (ad (9 + 4 * j_2))])) hc.1 (cw_ne hc (x := 0) (y := 6 + 4 * j_2) (by omega) (by omega) (by omega))
      have hm_5 := pw_ke (a := ad (6 + 4 * j_2)) (e := .inr (0, [.int (nI j_2), .int 3, .int (pl j_2), .ref (ad (7 + 4 * j_2)), .ref (ad (8 + 4 * j_2)), .ref (ad (9 + 4 * j_2))])) hc.2.1 (cw_ne hc (x := 1) (y := 6 + 4 * j_2) (by omega) (by omega) (by omega))
      have hm_6 := pw_ke (a := ad (6 + 4 * j_2)) (e := .inr (0, [.int (nI j_2), .int 3, .int (pl j_2), .ref (ad (7 + 4 * j_2)), .ref (ad (8 + 4 * j_2)), .ref (ad (9 + 4 * j_2))])) hc.2.2.1 (cw_ne hc (x := 2) (y := 6 + 4 * j_2) (by omega) (by omega) (by omega))
      have hm_7 := pw_ke (a := ad (6 + 4 * j_2)) (e := .inr (0, [.int (nI j_2), .int 3, .int (pl j_2), .ref (ad (7 + 4 * j_2)), .ref (ad (8 + 4 * j_2)), .ref (ad (9 + 4 * j_2))])) hc.2.2.2.1 (cw_ne hc (x := 3) (y := 6 + 4 * j_2) (by omega) (by omega) (by omega))
      have hm_8 := pw_ke (a := ad (6 + 4 * j_2)) (e := .inr (0, [.int (nI j_2), .int 3, .int (pl j_2), .ref (ad (7 + 4 * j_2)), .ref (ad (8 + 4 * j_2)), .ref (ad (9 + 4 * j_2))])) hc.2.2.2.2.1 (cw_ne hc (x := 4) (y := 6 + 4 * j_2) (by omega) (by omega) (by omega))
      have hm_9 := pw_ke (a := ad (6 + 4 * j_2)) (e := .inr (0, [.int (nI j_2), .int 3, .int (pl j_2), .ref (ad (7 + 4 * j_2)), .ref (ad (8 + 4 * j_2)), .ref (ad (9 + 4 * j_2))])) hc.2.2.2.2.2.1 (cw_ne hc (x := 5) (y := 6 + 4 * j_2) (by omega) (by omega) (by omega))
      have hm_10 := pw_ke (a := ad (6 + 4 * j_2)) (e := .inr (0, [.int (nI j_2), .int 3, .int (pl j_2), .ref (ad (7 + 4 * j_2)), .ref (ad (8 + 4 * j_2)), .ref (ad (9 + 4 * j_2))])) (cw_o hc j_2 hj_2).2.1 (cw_ne hc (x := 7 + 4 * j_2) (y := 6 + 4 * j_2) (by omega) (by omega) (by omega))
      have hm_11 := pw_ke (a := ad (6 + 4 * j_2)) (e := .inr (0, [.int (nI j_2), .int 3, .int (pl j_2), .ref (ad (7 + 4 * j_2)), .ref (ad (8 + 4 * j_2)), .ref (ad (9 + 4 * j_2))])) (cw_o hc j_2 hj_2).2.2.1 (cw_ne hc (x := 8 + 4 * j_2) (y := 6 + 4 * j_2) (by omega) (by omega) (by omega))
      have hm_12 := pw_ke (a := ad (6 + 4 * j_2)) (e := .inr (0, [.int (nI j_2), .int 3, .int (pl j_2), .ref (ad (7 + 4 * j_2)), .ref (ad (8 + 4 * j_2)), .ref (ad (9 + 4 * j_2))])) (cw_o hc j_2 hj_2).2.2.2 (cw_ne hc (x := 9 + 4 * j_2) (y := 6 + 4 * j_2) (by omega) (by omega) (by omega))
      have hm_13 : pw_up M (ad (6 + 4 * j_2)) (.inr (0, [.int (nI j_2), .int 3, .int (pl j_2), .ref (ad (7 + 4 * j_2)), .ref (ad (8 + 4 * j_2)), .ref (ad (9 + 4 * j_2))])) (ad (6 + 4 * j_2)) = some (.inr (0, [.int (nI j_2), .int 3, .int (pl j_2), .ref (ad (7 + 4 * j_2)), .ref (ad (8 + 4 * j_2)), .ref (ad (9 + 4 * j_2))])) := pw_us
      refine pw_aload_n (pc := 41) hX dX1_release_41 0 rfl ?_
      refine pw_iconst (pc := 42) (v := (-1)) hX dX1_release_42 (by decide) ?_
      refine pw_put (pc := 43) (v := .int ((-1))) hX dX1_release_43 hm_13 rfl inT_0 tyX0 tyX0_ok nmX0 2 (by decide) fl_RX1_90 rfl (tyX0_ok 2 (by decide)) rfl rfl (Nat.le_of_ble_eq_true rfl) [.int (nI j_2), .int 3, .int ((-1)), .ref (ad (7 + 4 * j_2)), .ref (ad (8 + 4 * j_2)), .ref (ad (9 + 4 * j_2))] rfl ?_
      have hm_14 := pw_ke (a := ad (6 + 4 * j_2)) (e := .inr (0, [.int (nI j_2), .int 3, .int ((-1)), .ref (ad (7 + 4 * j_2)), .ref (ad (8 + 4 * j_2)), .ref (ad (9 + 4 * j_2))])) hm_4 (cw_ne hc (x := 0) (y := 6 + 4 * j_2) (by omega) (by omega) (by omega))
      have hm_15 := pw_ke (a := ad (6 + 4 * j_2)) (e := .inr (0, [.int (nI j_2), .int 3, .int ((-1)), .ref (ad (7 + 4 * j_2)), .ref (ad (8 + 4 * j_2)), .ref (ad (9 + 4 * j_2))])) hm_5 (cw_ne hc (x := 1) (y := 6 + 4 * j_2) (by omega) (by omega) (by omega))
      have hm_16 := pw_ke (a := ad (6 + 4 * j_2)) (e := .inr (0, [.int (nI j_2), .int 3, .int ((-1)), .ref (ad (7 + 4 * j_2)), .ref (ad (8 + 4 * j_2)), .ref (ad (9 + 4 * j_2))])) hm_6 (cw_ne hc (x := 2) (y := 6 + 4 * j_2) (by omega) (by omega) (by omega))
      have hm_17 := pw_ke (a := ad (6 + 4 * j_2)) (e := .inr (0, [.int (nI j_2), .int 3, .int ((-1)), .ref (ad (7 + 4 * j_2)), .ref (ad (8 + 4 * j_2)), .ref (ad (9 + 4 * j_2))])) hm_7 (cw_ne hc (x := 3) (y := 6 + 4 * j_2) (by omega) (by omega) (by omega))
      have hm_18 := pw_ke (a := ad (6 + 4 * j_2)) (e := .inr (0, [.int (nI j_2), .int 3, .int ((-1)), .ref (ad (7 + 4 * j_2)), .ref (ad (8 + 4 * j_2)), .ref (ad (9 + 4 * j_2))])) hm_8 (cw_ne hc (x := 4) (y := 6 + 4 * j_2) (by omega) (by omega) (by omega))
      have hm_19 := pw_ke (a := ad (6 + 4 * j_2)) (e := .inr (0, [.int (nI j_2), .int 3, .int ((-1)), .ref (ad (7 + 4 * j_2)), .ref (ad (8 + 4 * j_2)), .ref (ad (9 + 4 * j_2))])) hm_9 (cw_ne hc (x := 5) (y := 6 + 4 * j_2) (by omega) (by omega) (by omega))
      have hm_20 := pw_ke (a := ad (6 + 4 * j_2)) (e := .inr (0, [.int (nI j_2), .int 3, .int ((-1)), .ref (ad (7 + 4 * j_2)), .ref (ad (8 + 4 * j_2)), .ref (ad (9 + 4 * j_2))])) hm_10 (cw_ne hc (x := 7 + 4 * j_2) (y := 6 + 4 * j_2) (by omega) (by omega) (by omega))
      have hm_21 := pw_ke (a := ad (6 + 4 * j_2)) (e := .inr (0, [.int (nI j_2), .int 3, .int ((-1)), .ref (ad (7 + 4 * j_2)), .ref (ad (8 + 4 * j_2)), .ref (ad (9 + 4 * j_2))])) hm_11 (cw_ne hc (x := 8 + 4 * j_2) (y := 6 + 4 * j_2) (by omega) (by omega) (by omega))
      have hm_22 := pw_ke (a := ad (6 + 4 * j_2)) (e := .inr (0, [.int (nI j_2), .int 3, .int ((-1)), .ref (ad (7 + 4 * j_2)), .ref (ad (8 + 4 * j_2)), .ref (ad (9 + 4 * j_2))])) hm_12 (cw_ne hc (x := 9 + 4 * j_2) (y := 6 + 4 * j_2) (by omega) (by omega) (by omega))
      have hm_23 : pw_up (pw_up M (ad (6 + 4 * j_2)) (.inr (0, [.int (nI j_2), .int 3, .int (pl j_2), .ref (ad (7 + 4 * j_2)), .ref (ad (8 + 4 * j_2)), .ref (ad (9 + 4 * j_2))]))) (ad (6 + 4 * j_2)) (.inr (0, [.int (nI j_2), .int 3, .int ((-1)), .ref (ad (7 + 4 * j_2)), .ref (ad (8 + 4 * j_2)), .ref (ad (9 + 4 * j_2))])) (ad (6 + 4 * j_2)) = some (.inr (0, [.int (nI j_2), .int 3, .int ((-1)), .ref (ad (7 + 4 * j_2)), .ref (ad (8 + 4 * j_2)), .ref (ad (9 + 4 * j_2))])) := pw_us
      refine pw_aload_n (pc := 46) hX dX1_release_46 1 rfl ?_
      refine pw_get (pc := 47) hX dX1_release_47 hm_14 rfl inT_1 2 (by decide) fl_RX1_41 rfl ?_
      refine pw_iload_n (pc := 50) hX dX1_release_50 2 rfl ?_
      refine pw_null (pc := 51) hX dX1_release_51  ?_
      refine pw_aastN (pc := 52) (j := t) hX dX1_release_52 hm_16 ht (Nat.lt_of_le_of_lt (cw_n hc) (by decide)) ?_
      have hm_24 := pw_ke (a := ad 2) (e := .inl (G.2.2.1 2, n, .inr (.inr (.inr (.inr (va_up (fun i => (oo i).map (fun j => ad (6 + 4 * j))) t none)))))) hm_14 (cw_ne hc (x := 0) (y := 2) (by omega) (by omega) (by omega))
      have hm_25 := pw_ke (a := ad 2) (e := .inl (G.2.2.1 2, n, .inr (.inr (.inr (.inr (va_up (fun i => (oo i).map (fun j => ad (6 + 4 * j))) t none)))))) hm_15 (cw_ne hc (x := 1) (y := 2) (by omega) (by omega) (by omega))
      have hm_26 := pw_ke (a := ad 2) (e := .inl (G.2.2.1 2, n, .inr (.inr (.inr (.inr (va_up (fun i => (oo i).map (fun j => ad (6 + 4 * j))) t none)))))) hm_17 (cw_ne hc (x := 3) (y := 2) (by omega) (by omega) (by omega))
      have hm_27 := pw_ke (a := ad 2) (e := .inl (G.2.2.1 2, n, .inr (.inr (.inr (.inr (va_up (fun i => (oo i).map (fun j => ad (6 + 4 * j))) t none)))))) hm_18 (cw_ne hc (x := 4) (y := 2) (by omega) (by omega) (by omega))
      have hm_28 := pw_ke (a := ad 2) (e := .inl (G.2.2.1 2, n, .inr (.inr (.inr (.inr (va_up (fun i => (oo i).map (fun j => ad (6 + 4 * j))) t none)))))) hm_19 (cw_ne hc (x := 5) (y := 2) (by omega) (by omega) (by omega))
      have hm_29 := pw_ke (a := ad 2) (e := .inl (G.2.2.1 2, n, .inr (.inr (.inr (.inr (va_up (fun i => (oo i).map (fun j => ad (6 + 4 * j))) t none)))))) hm_23 (cw_ne hc (x := 6 + 4 * j_2) (y := 2) (by omega) (by omega) (by omega))
      have hm_30 := pw_ke (a := ad 2) (e := .inl (G.2.2.1 2, n, .inr (.inr (.inr (.inr (va_up (fun i => (oo i).map (fun j => ad (6 + 4 * j))) t none)))))) hm_20 (cw_ne hc (x := 7 + 4 * j_2) (y := 2) (by omega) (by omega) (by omega))
      have hm_31 := pw_ke (a := ad 2) (e := .inl (G.2.2.1 2, n, .inr (.inr (.inr (.inr (va_up (fun i => (oo i).map (fun j => ad (6 + 4 * j))) t none)))))) hm_21 (cw_ne hc (x := 8 + 4 * j_2) (y := 2) (by omega) (by omega) (by omega))
      have hm_32 := pw_ke (a := ad 2) (e := .inl (G.2.2.1 2, n, .inr (.inr (.inr (.inr (va_up (fun i => (oo i).map (fun j => ad (6 + 4 * j))) t none)))))) hm_22 (cw_ne hc (x := 9 + 4 * j_2) (y := 2) (by omega) (by omega) (by omega))
      have hm_33 : pw_up (pw_up (pw_up M (ad (6 + 4 * j_2)) (.inr (0, [.int (nI j_2), .int 3, .int (pl j_2), .ref (ad (7 + 4 * j_2)), .ref (ad (8 + 4 * j_2)), .ref (ad (9 + 4 * j_2))]))) (ad (6 + 4 * j_2)) (.inr (0, [.int (nI j_2), .int 3, .int ((-1)), .ref (ad (7 + 4 * j_2)), .ref (ad (8 + 4 * j_2)), .ref (ad (9 + 4 * j_2))]))) (ad 2) (.inl (G.2.2.1 2, n, .inr (.inr (.inr (.inr (va_up (fun i => (oo i).map (fun j => ad (6 + 4 * j))) t none)))))) (ad 2) = some (.inl (G.2.2.1 2, n, .inr (.inr (.inr (.inr (va_up (fun i => (oo i).map (fun j => ad (6 + 4 * j))) t none)))))) := pw_us
      refine pw_iconst (pc := 53) (v := 1) hX dX1_release_53 (by decide) ?_
      exact pw_zretx hX dX1_release_54 hrt rfl ⟨by decide, by decide⟩ (by rw [ix_nI htB]; exact ⟨pc2_0 (fun h => h (ir_nI ht)) (by rw [ix_nI htB, ho_1]; exact fun h => nomatch h), ⟨j_2, ho_1, hj_2, Or.inr ⟨rfl, hc_3, by have h9 := (cw_ooN (cw_os (cw_os hc j_2 hj_2 3 (pl j_2)) j_2 hj_2 3 ((-1))) t); rw [bx_uu, bx_uu] at h9; exact h9⟩⟩, (fm_up (fm_up (fm_up fm_rf (x := 6 + 4 * j_2) (by omega) _) (x := 6 + 4 * j_2) (by omega) _) (x := 2) (by omega) _)⟩)
    · refine pw_iconst (pc := 34) (v := 0) hX dX1_release_34 (by decide) ?_
      exact pw_zretx hX dX1_release_35 hrt rfl ⟨by decide, by decide⟩ (by rw [ix_nI htB]; exact ⟨pc2_0 (fun h => h (ir_nI ht)) (by rw [ix_nI htB, ho_1]; exact fun h => nomatch h), ⟨j_2, ho_1, hj_2, Or.inl ⟨rfl, hc_3, rfl⟩⟩, fm_rf⟩)
set_option maxHeartbeats 4000000 in
set_option maxRecDepth 100000 in
theorem cp_seed (l : Launch) (hl : l.stackTraces = false) (G : pw_G) (M : pw_M) (ad : Nat → Nat) (n oc : Nat) (td sd : Int32) (dk to er : Nat → Int32) (os pl : Nat → Int32) (oo : Nat → Option Nat) (wa pr de : Nat → Nat → Int32) (hc : cw G ad n oc td sd dk to er os pl oo wa pr de M) (p0 : Int32) : pw_XMet l yX1_seed cX1_seed 2 none 3 1 6 G [.ref (ad 0), .int p0] M (fun v9 M9 => cd_seed p0 = 0 ∧ v9 = none ∧ cw G ad n oc td p0 dk to er os pl oo wa pr de M9 ∧ fm ad (6 + 4 * oc) M M9) (fun E9 M9 => M = M9 ∧ (E9 = "java/lang/IllegalArgumentException" ∧ cd_seed p0 = 1)) := by
  refine pw_ofx hl (by decide +kernel) (Nat.le_of_ble_eq_true rfl) [(0, .ref (ad 0)), (1, .int p0)] rfl ?_
  intro p9 e9 s9 m9 args9 below9 meth9 c9 hX hrt hex
  refine pw_iload_n (pc := 0) hX dX1_seed_0 1 rfl ?_
  refine pw_iconst (pc := 1) (v := 0) hX dX1_seed_1 (by decide) ?_
  refine pw_ldc (pc := 2) (v := 2147483647) hX dX1_seed_2 ck_RX1_140 ?_
  refine pw_callSx (pc := 4) (st := []) hX (ct_requireRange l hl G M p0 0 2147483647) ok_X1_requireRange lk_RX1_52 dX1_seed_4 rfl ⟨⟨by decide, by decide⟩, Nat.le_of_ble_eq_true rfl, Nat.le_of_ble_eq_true rfl, Nat.le_of_ble_eq_true rfl⟩ rfl (fun E9 M9 hx9 => ?_) (fun v9 M9 hp9 => ?_)
  · obtain ⟨rfl, rfl, hno⟩ := hx9
    exact pw_out hX hex ⟨Nat.le_of_ble_eq_true rfl, Nat.le_of_ble_eq_true rfl⟩ (⟨rfl, rfl, pc1_1 (fun h => hno ⟨h, le_max _⟩)⟩)
  obtain ⟨rfl, rfl, hlo, hhi⟩ := hp9
  refine pw_aload_n (pc := 7) hX dX1_seed_7 0 rfl ?_
  refine pw_iload_n (pc := 8) hX dX1_seed_8 1 rfl ?_
  refine pw_put (pc := 9) (v := .int p0) hX dX1_seed_9 hc.1 rfl inT_1 tyX1 tyX1_ok nmX1 7 (by decide) fl_RX1_29 rfl (tyX1_ok 7 (by decide)) rfl rfl (Nat.le_of_ble_eq_true rfl) [.ref (ad 1), .int (nI oc), .ref (ad 2), .ref (ad 3), .ref (ad 4), .ref (ad 5), .int td, .int p0] rfl ?_
  have hm_1 := pw_ke (a := ad 0) (e := .inr (1, [.ref (ad 1), .int (nI oc), .ref (ad 2), .ref (ad 3), .ref (ad 4), .ref (ad 5), .int td, .int p0])) hc.2.1 (cw_ne hc (x := 1) (y := 0) (by omega) (by omega) (by omega))
  have hm_2 := pw_ke (a := ad 0) (e := .inr (1, [.ref (ad 1), .int (nI oc), .ref (ad 2), .ref (ad 3), .ref (ad 4), .ref (ad 5), .int td, .int p0])) hc.2.2.1 (cw_ne hc (x := 2) (y := 0) (by omega) (by omega) (by omega))
  have hm_3 := pw_ke (a := ad 0) (e := .inr (1, [.ref (ad 1), .int (nI oc), .ref (ad 2), .ref (ad 3), .ref (ad 4), .ref (ad 5), .int td, .int p0])) hc.2.2.2.1 (cw_ne hc (x := 3) (y := 0) (by omega) (by omega) (by omega))
  have hm_4 := pw_ke (a := ad 0) (e := .inr (1, [.ref (ad 1), .int (nI oc), .ref (ad 2), .ref (ad 3), .ref (ad 4), .ref (ad 5), .int td, .int p0])) hc.2.2.2.2.1 (cw_ne hc (x := 4) (y := 0) (by omega) (by omega) (by omega))
  have hm_5 := pw_ke (a := ad 0) (e := .inr (1, [.ref (ad 1), .int (nI oc), .ref (ad 2), .ref (ad 3), .ref (ad 4), .ref (ad 5), .int td, .int p0])) hc.2.2.2.2.2.1 (cw_ne hc (x := 5) (y := 0) (by omega) (by omega) (by omega))
  have hm_6 : pw_up M (ad 0) (.inr (1, [.ref (ad 1), .int (nI oc), .ref (ad 2), .ref (ad 3), .ref (ad 4), .ref (ad 5), .int td, .int p0])) (ad 0) = some (.inr (1, [.ref (ad 1), .int (nI oc), .ref (ad 2), .ref (ad 3), .ref (ad 4), .ref (ad 5), .int td, .int p0])) := pw_us
  exact pw_vretx hX dX1_seed_12 hrt ⟨by decide, by decide⟩ ⟨pc1_0 (fun h => h hlo), rfl, (cw_sd hc _), (fm_up fm_rf (x := 0) (by omega) _)⟩
set_option maxHeartbeats 4000000 in
set_option maxRecDepth 100000 in
theorem cp_errors (l : Launch) (hl : l.stackTraces = false) (G : pw_G) (M : pw_M) (ad : Nat → Nat) (n oc : Nat) (td sd : Int32) (dk to er : Nat → Int32) (os pl : Nat → Int32) (oo : Nat → Option Nat) (wa pr de : Nat → Nat → Int32) (hc : cw G ad n oc td sd dk to er os pl oo wa pr de M) (p0 : Int32) : pw_XMet l yX1_errors cX1_errors 2 (some .int) 3 1 6 G [.ref (ad 0), .int p0] M (fun v9 M9 => cd_errors p0 = 0 ∧ v9 = some (.int (er (ix p0))) ∧ M = M9) (fun E9 M9 => M = M9 ∧ (E9 = "java/lang/IllegalArgumentException" ∧ cd_errors p0 = 1)) := by
  refine pw_ofx hl (by decide +kernel) (Nat.le_of_ble_eq_true rfl) [(0, .ref (ad 0)), (1, .int p0)] rfl ?_
  intro p9 e9 s9 m9 args9 below9 meth9 c9 hX hrt hex
  refine pw_iload_n (pc := 0) hX dX1_errors_0 1 rfl ?_
  refine pw_callSx (pc := 1) (st := []) hX (ct_requirePerson l hl G M p0) ok_X1_requirePerson lk_RX1_96 dX1_errors_1 rfl ⟨⟨by decide, by decide⟩, Nat.le_of_ble_eq_true rfl, Nat.le_of_ble_eq_true rfl, Nat.le_of_ble_eq_true rfl⟩ rfl (fun E9 M9 hx9 => ?_) (fun v9 M9 hp9 => ?_)
  · obtain ⟨rfl, rfl, hno⟩ := hx9
    exact pw_out hX hex ⟨Nat.le_of_ble_eq_true rfl, Nat.le_of_ble_eq_true rfl⟩ (⟨rfl, rfl, pc1_1 hno⟩)
  obtain ⟨rfl, rfl, q, hq, rfl⟩ := hp9
  have hqB : q < 2 ^ 31 := Nat.lt_of_lt_of_le hq (by decide)
  refine pw_aload_n (pc := 4) hX dX1_errors_4 0 rfl ?_
  refine pw_get (pc := 5) hX dX1_errors_5 hc.1 rfl inT_1 5 (by decide) fl_RX1_23 rfl ?_
  refine pw_iload_n (pc := 8) hX dX1_errors_8 1 rfl ?_
  refine pw_iald (pc := 9) (j := q) hX dX1_errors_9 hc.2.2.2.2.2.1 hq (by decide) ?_
  exact pw_iretx hX dX1_errors_10 hrt ⟨by decide, by decide⟩ (by rw [ix_nI hqB]; exact ⟨pc1_0 (fun h => h (ir_nI hq)), rfl, rfl⟩)
set_option maxHeartbeats 4000000 in
set_option maxRecDepth 100000 in
theorem cp_told (l : Launch) (hl : l.stackTraces = false) (G : pw_G) (M : pw_M) (ad : Nat → Nat) (n oc : Nat) (td sd : Int32) (dk to er : Nat → Int32) (os pl : Nat → Int32) (oo : Nat → Option Nat) (wa pr de : Nat → Nat → Int32) (hc : cw G ad n oc td sd dk to er os pl oo wa pr de M) (p0 p1 : Int32) : pw_XMet l yX1_told cX1_told 4 (some .int) 3 2 12 G [.ref (ad 0), .int p0, .int p1] M (fun v9 M9 => cd_told oc p0 p1 = 0 ∧ v9 = some (.int (td_r td os pl wa pr de (ix p0) p1)) ∧ M = M9) (fun E9 M9 => M = M9 ∧ (E9 = "java/util/NoSuchElementException" ∧ cd_told oc p0 p1 = 1 ∨ E9 = "java/lang/IllegalArgumentException" ∧ cd_told oc p0 p1 = 2)) := by
  refine pw_ofx hl (by decide +kernel) (Nat.le_of_ble_eq_true rfl) [(0, .ref (ad 0)), (1, .int p0), (2, .int p1)] rfl ?_
  intro p9 e9 s9 m9 args9 below9 meth9 c9 hX hrt hex
  refine pw_aload_n (pc := 0) hX dX1_told_0 0 rfl ?_
  refine pw_iload_n (pc := 1) hX dX1_told_1 1 rfl ?_
  refine pw_callVx (pc := 2) (st := []) hX (ct_existing l hl G M ad n oc td sd dk to er os pl oo wa pr de hc p0) hc.1 rfl ok_X1_existing lk_RX1_65 dX1_told_2 rfl ⟨⟨by decide, by decide⟩, Nat.le_of_ble_eq_true rfl, Nat.le_of_ble_eq_true rfl, Nat.le_of_ble_eq_true rfl⟩ rfl (fun E9 M9 hx9 => ?_) (fun v9 M9 hp9 => ?_)
  · obtain ⟨rfl, rfl, hno⟩ := hx9
    exact pw_out hX hex ⟨Nat.le_of_ble_eq_true rfl, Nat.le_of_ble_eq_true rfl⟩ (⟨rfl, Or.inl (⟨rfl, pc_t hno⟩)⟩)
  obtain ⟨rfl, j, hj, rfl, rfl⟩ := hp9
  have hjB : j < 2 ^ 31 := Nat.lt_of_lt_of_le hj (Nat.le_trans (cw_oc hc) (by decide))
  refine pw_astore_n (pc := 5) hX [(3, .ref (ad (6 + 4 * j))), (0, .ref (ad 0)), (1, .int (nI j)), (2, .int p1)] dX1_told_5 (by decide) rfl ?_
  refine pw_iload_n (pc := 6) hX dX1_told_6 3 rfl ?_
  by_cases hsw : ir p1 6
  · obtain ⟨k, hk, rfl⟩ := hsw
    rcases (show k = 0 ∨ k = 1 ∨ k = 2 ∨ k = 3 ∨ k = 4 ∨ k = 5 by omega) with rfl | rfl | rfl | rfl | rfl | rfl
    · refine pw_swIn (pc := 7) hX 44 dX1_told_7 (by decide) (by decide) (off := 37) (by decide) (by decide) ?_
      refine pw_aload_n (pc := 44) hX dX1_told_44 0 rfl ?_
      refine pw_get (pc := 45) hX dX1_told_45 (cw_o hc j hj).1 rfl inT_0 1 (by decide) fl_RX1_69 rfl ?_
      exact pw_iretx hX dX1_told_48 hrt ⟨by decide, by decide⟩ (by rw [ix_nI hjB]; exact ⟨pc2_0 (fun h => h (ir_nI hj)) (fun h => h (ir_nI (by decide))), by unfold td_r; rw [pc_t (by decide)], rfl⟩)
    · refine pw_swIn (pc := 7) hX 49 dX1_told_7 (by decide) (by decide) (off := 42) (by decide) (by decide) ?_
      refine pw_aload_n (pc := 49) hX dX1_told_49 0 rfl ?_
      refine pw_get (pc := 50) hX dX1_told_50 (cw_o hc j hj).1 rfl inT_0 2 (by decide) fl_RX1_90 rfl ?_
      exact pw_iretx hX dX1_told_53 hrt ⟨by decide, by decide⟩ (by rw [ix_nI hjB]; exact ⟨pc2_0 (fun h => h (ir_nI hj)) (fun h => h (ir_nI (by decide))), by unfold td_r; rw [pc_f (by decide), pc_t (by decide)], rfl⟩)
    · refine pw_swIn (pc := 7) hX 54 dX1_told_7 (by decide) (by decide) (off := 47) (by decide) (by decide) ?_
      refine pw_aload_n (pc := 54) hX dX1_told_54 0 rfl ?_
      refine pw_callV (pc := 55) (st := []) hX (ct_lineCount l hl G M (ad (6 + 4 * j)) (ad (7 + 4 * j)) (ad (8 + 4 * j)) (ad (9 + 4 * j)) (nI j) (os j) (pl j) (wa j) (pr j) (de j) (cw_o hc j hj)) (cw_o hc j hj).1 rfl ok_X0_lineCount lk_RX1_83 dX1_told_55 rfl ⟨⟨by decide, by decide⟩, Nat.le_of_ble_eq_true rfl, Nat.le_of_ble_eq_true rfl, Nat.le_of_ble_eq_true rfl⟩ rfl (fun v9 M9 hp9 => ?_)
      obtain ⟨rfl, rfl⟩ := hp9
      exact pw_iretx hX dX1_told_58 hrt ⟨by decide, by decide⟩ (by rw [ix_nI hjB]; exact ⟨pc2_0 (fun h => h (ir_nI hj)) (fun h => h (ir_nI (by decide))), by unfold td_r; rw [pc_f (by decide), pc_f (by decide), pc_t (by decide)], rfl⟩)
    · refine pw_swIn (pc := 7) hX 59 dX1_told_7 (by decide) (by decide) (off := 52) (by decide) (by decide) ?_
      refine pw_aload_n (pc := 59) hX dX1_told_59 0 rfl ?_
      refine pw_callV (pc := 60) (st := []) hX (ct_allPresent l hl G M (ad (6 + 4 * j)) (ad (7 + 4 * j)) (ad (8 + 4 * j)) (ad (9 + 4 * j)) (nI j) (os j) (pl j) (wa j) (pr j) (de j) (cw_o hc j hj)) (cw_o hc j hj).1 rfl ok_X0_allPresent lk_RX1_141 dX1_told_60 rfl ⟨⟨by decide, by decide⟩, Nat.le_of_ble_eq_true rfl, Nat.le_of_ble_eq_true rfl, Nat.le_of_ble_eq_true rfl⟩ rfl (fun v9 M9 hp9 => ?_)
      obtain ⟨rfl, rfl⟩ := hp9
      exact pw_iretx hX dX1_told_63 hrt ⟨by decide, by decide⟩ (by rw [ix_nI hjB]; exact ⟨pc2_0 (fun h => h (ir_nI hj)) (fun h => h (ir_nI (by decide))), by unfold td_r; rw [pc_f (by decide), pc_f (by decide), pc_f (by decide), pc_t (by decide)], rfl⟩)
    · refine pw_swIn (pc := 7) hX 64 dX1_told_7 (by decide) (by decide) (off := 57) (by decide) (by decide) ?_
      refine pw_aload_n (pc := 64) hX dX1_told_64 0 rfl ?_
      refine pw_callV (pc := 65) (st := []) hX (ct_allWanted l hl G M (ad (6 + 4 * j)) (ad (7 + 4 * j)) (ad (8 + 4 * j)) (ad (9 + 4 * j)) (nI j) (os j) (pl j) (wa j) (pr j) (de j) (cw_o hc j hj)) (cw_o hc j hj).1 rfl ok_X0_allWanted lk_RX1_144 dX1_told_65 rfl ⟨⟨by decide, by decide⟩, Nat.le_of_ble_eq_true rfl, Nat.le_of_ble_eq_true rfl, Nat.le_of_ble_eq_true rfl⟩ rfl (fun v9 M9 hp9 => ?_)
      obtain ⟨rfl, rfl⟩ := hp9
      exact pw_iretx hX dX1_told_68 hrt ⟨by decide, by decide⟩ (by rw [ix_nI hjB]; exact ⟨pc2_0 (fun h => h (ir_nI hj)) (fun h => h (ir_nI (by decide))), by unfold td_r; rw [pc_f (by decide), pc_f (by decide), pc_f (by decide), pc_f (by decide), pc_t (by decide)], rfl⟩)
    · refine pw_swIn (pc := 7) hX 69 dX1_told_7 (by decide) (by decide) (off := 62) (by decide) (by decide) ?_
      refine pw_aload_n (pc := 69) hX dX1_told_69 0 rfl ?_
      refine pw_aload_n (pc := 70) hX dX1_told_70 1 rfl ?_
      refine pw_get (pc := 71) hX dX1_told_71 hc.1 rfl inT_1 6 (by decide) fl_RX1_26 rfl ?_
      refine pw_callV (pc := 74) (st := []) hX (ct_allGivenUp l hl G M (ad (6 + 4 * j)) (ad (7 + 4 * j)) (ad (8 + 4 * j)) (ad (9 + 4 * j)) (nI j) (os j) (pl j) (wa j) (pr j) (de j) (cw_o hc j hj) td) (cw_o hc j hj).1 rfl ok_X0_allGivenUp lk_RX1_147 dX1_told_74 rfl ⟨⟨by decide, by decide⟩, Nat.le_of_ble_eq_true rfl, Nat.le_of_ble_eq_true rfl, Nat.le_of_ble_eq_true rfl⟩ rfl (fun v9 M9 hp9 => ?_)
      obtain ⟨rfl, rfl⟩ := hp9
      exact pw_iretx hX dX1_told_77 hrt ⟨by decide, by decide⟩ (by rw [ix_nI hjB]; exact ⟨pc2_0 (fun h => h (ir_nI hj)) (fun h => h (ir_nI (by decide))), by unfold td_r; rw [pc_f (by decide), pc_f (by decide), pc_f (by decide), pc_f (by decide), pc_f (by decide)], rfl⟩)
  · refine pw_swOut (pc := 7) hX 78 dX1_told_7 (sw_out (N := 5) (by decide) hsw) (by decide) ?_
    exact pw_throw (pc := 78) (names := ["java/lang/RuntimeException", "java/lang/Exception"]) (text := "nothing of that kind is told of an order") hX hex dX1_told_78 dX1_told_81 dX1_told_82 dX1_told_84 dX1_told_87 rfl ⟨by decide +kernel, by decide +kernel⟩ th_RX1_150 (by decide +kernel) ta_RX1_154 tg_RX1_154 ⟨by decide, Nat.le_of_ble_eq_true rfl, Nat.le_of_ble_eq_true rfl, Nat.le_of_ble_eq_true rfl⟩ ⟨Nat.le_of_ble_eq_true rfl, Nat.le_of_ble_eq_true rfl⟩ ⟨rfl, Or.inr (⟨rfl, pc2_2 (fun h => h (ir_nI hj)) hsw⟩)⟩
set_option maxHeartbeats 4000000 in
set_option maxRecDepth 100000 in
theorem cp_piece (l : Launch) (hl : l.stackTraces = false) (G : pw_G) (M : pw_M) (ad : Nat → Nat) (n oc : Nat) (td sd : Int32) (dk to er : Nat → Int32) (os pl : Nat → Int32) (oo : Nat → Option Nat) (wa pr de : Nat → Nat → Int32) (hc : cw G ad n oc td sd dk to er os pl oo wa pr de M) (p0 p1 p2 : Int32) : pw_XMet l yX1_piece cX1_piece 5 (some .int) 3 4 24 G [.ref (ad 0), .int p0, .int p1, .int p2] M (fun v9 M9 => cd_piece oc wa p0 p1 p2 = 0 ∧ v9 = some (.int (pi_r wa pr de (ix p0) (ix p1) p2)) ∧ M = M9) (fun E9 M9 => M = M9 ∧ (E9 = "java/util/NoSuchElementException" ∧ cd_piece oc wa p0 p1 p2 = 1 ∨ E9 = "java/lang/IllegalArgumentException" ∧ cd_piece oc wa p0 p1 p2 = 2)) := by
  refine pw_ofx hl (by decide +kernel) (Nat.le_of_ble_eq_true rfl) [(0, .ref (ad 0)), (1, .int p0), (2, .int p1), (3, .int p2)] rfl ?_
  intro p9 e9 s9 m9 args9 below9 meth9 c9 hX hrt hex
  refine pw_aload_n (pc := 0) hX dX1_piece_0 0 rfl ?_
  refine pw_iload_n (pc := 1) hX dX1_piece_1 1 rfl ?_
  refine pw_callVx (pc := 2) (st := []) hX (ct_existing l hl G M ad n oc td sd dk to er os pl oo wa pr de hc p0) hc.1 rfl ok_X1_existing lk_RX1_65 dX1_piece_2 rfl ⟨⟨by decide, by decide⟩, Nat.le_of_ble_eq_true rfl, Nat.le_of_ble_eq_true rfl, Nat.le_of_ble_eq_true rfl⟩ rfl (fun E9 M9 hx9 => ?_) (fun v9 M9 hp9 => ?_)
  · obtain ⟨rfl, rfl, hno⟩ := hx9
    exact pw_out hX hex ⟨Nat.le_of_ble_eq_true rfl, Nat.le_of_ble_eq_true rfl⟩ (⟨rfl, Or.inl (⟨rfl, pc_t hno⟩)⟩)
  obtain ⟨rfl, j, hj, rfl, rfl⟩ := hp9
  have hjB : j < 2 ^ 31 := Nat.lt_of_lt_of_le hj (Nat.le_trans (cw_oc hc) (by decide))
  refine pw_astore (pc := 5) hX [(4, .ref (ad (6 + 4 * j))), (0, .ref (ad 0)), (1, .int (nI j)), (2, .int p1), (3, .int p2)] dX1_piece_5 (by decide) rfl ?_
  refine pw_aload (pc := 7) hX dX1_piece_7 0 rfl ?_
  refine pw_iload_n (pc := 9) hX dX1_piece_9 3 rfl ?_
  refine pw_callSx (pc := 10) (st := []) hX (ct_requireLine l hl G M (ad (6 + 4 * j)) (ad (7 + 4 * j)) (ad (8 + 4 * j)) (ad (9 + 4 * j)) (nI j) (os j) (pl j) (wa j) (pr j) (de j) (cw_o hc j hj) p1) ok_X1_requireLine lk_RX1_111 dX1_piece_10 rfl ⟨⟨by decide, by decide⟩, Nat.le_of_ble_eq_true rfl, Nat.le_of_ble_eq_true rfl, Nat.le_of_ble_eq_true rfl⟩ rfl (fun E9 M9 hx9 => ?_) (fun v9 M9 hp9 => ?_)
  · obtain ⟨rfl, ⟨rfl, hno⟩ | ⟨rfl, g, hg, rfl, hno⟩⟩ := hx9
    · exact pw_out hX hex ⟨Nat.le_of_ble_eq_true rfl, Nat.le_of_ble_eq_true rfl⟩ (⟨rfl, Or.inr (⟨rfl, pc3_2 (fun h => h (ir_nI hj)) hno⟩)⟩)
    · have hgB : g < 2 ^ 31 := Nat.lt_of_lt_of_le hg (by decide)
      exact pw_out hX hex ⟨Nat.le_of_ble_eq_true rfl, Nat.le_of_ble_eq_true rfl⟩ (⟨rfl, Or.inl (⟨rfl, pc5_3 (fun h => h (ir_nI hj)) (fun h => h (ir_nI hg)) (by rw [ix_nI hjB, ix_nI hgB]; exact hno)⟩)⟩)
  obtain ⟨rfl, rfl, g, hg, rfl, hwg⟩ := hp9
  have hgB : g < 2 ^ 31 := Nat.lt_of_lt_of_le hg (by decide)
  refine pw_iload_n (pc := 13) hX dX1_piece_13 4 rfl ?_
  by_cases hsw : ir p2 3
  · obtain ⟨k, hk, rfl⟩ := hsw
    rcases (show k = 0 ∨ k = 1 ∨ k = 2 by omega) with rfl | rfl | rfl
    · refine pw_swIn (pc := 14) hX 40 dX1_piece_14 (by decide) (by decide) (off := 26) (by decide) (by decide) ?_
      refine pw_aload (pc := 40) hX dX1_piece_40 0 rfl ?_
      refine pw_get (pc := 42) hX dX1_piece_42 (cw_o hc j hj).1 rfl inT_0 3 (by decide) fl_RX1_80 rfl ?_
      refine pw_iload_n (pc := 45) hX dX1_piece_45 3 rfl ?_
      refine pw_iald (pc := 46) (j := g) hX dX1_piece_46 (cw_o hc j hj).2.1 hg (by decide) ?_
      exact pw_iretx hX dX1_piece_47 hrt ⟨by decide, by decide⟩ (by rw [ix_nI hjB, ix_nI hgB]; exact ⟨by unfold cd_piece; rw [pc_f (fun h => h (ir_nI hj)), pc_f (fun h => h (ir_nI hg)), pc_f (by rw [ix_nI hjB, ix_nI hgB]; exact fun h => h hwg), pc_f (fun h => h (ir_nI (by decide)))], by unfold pi_r; rw [pc_t (by decide)], rfl⟩)
    · refine pw_swIn (pc := 14) hX 48 dX1_piece_14 (by decide) (by decide) (off := 34) (by decide) (by decide) ?_
      refine pw_aload (pc := 48) hX dX1_piece_48 0 rfl ?_
      refine pw_get (pc := 50) hX dX1_piece_50 (cw_o hc j hj).1 rfl inT_0 4 (by decide) fl_RX1_103 rfl ?_
      refine pw_iload_n (pc := 53) hX dX1_piece_53 3 rfl ?_
      refine pw_iald (pc := 54) (j := g) hX dX1_piece_54 (cw_o hc j hj).2.2.1 hg (by decide) ?_
      exact pw_iretx hX dX1_piece_55 hrt ⟨by decide, by decide⟩ (by rw [ix_nI hjB, ix_nI hgB]; exact ⟨by unfold cd_piece; rw [pc_f (fun h => h (ir_nI hj)), pc_f (fun h => h (ir_nI hg)), pc_f (by rw [ix_nI hjB, ix_nI hgB]; exact fun h => h hwg), pc_f (fun h => h (ir_nI (by decide)))], by unfold pi_r; rw [pc_f (by decide), pc_t (by decide)], rfl⟩)
    · refine pw_swIn (pc := 14) hX 56 dX1_piece_14 (by decide) (by decide) (off := 42) (by decide) (by decide) ?_
      refine pw_aload (pc := 56) hX dX1_piece_56 0 rfl ?_
      refine pw_get (pc := 58) hX dX1_piece_58 (cw_o hc j hj).1 rfl inT_0 5 (by decide) fl_RX1_119 rfl ?_
      refine pw_iload_n (pc := 61) hX dX1_piece_61 3 rfl ?_
      refine pw_iald (pc := 62) (j := g) hX dX1_piece_62 (cw_o hc j hj).2.2.2 hg (by decide) ?_
      exact pw_iretx hX dX1_piece_63 hrt ⟨by decide, by decide⟩ (by rw [ix_nI hjB, ix_nI hgB]; exact ⟨by unfold cd_piece; rw [pc_f (fun h => h (ir_nI hj)), pc_f (fun h => h (ir_nI hg)), pc_f (by rw [ix_nI hjB, ix_nI hgB]; exact fun h => h hwg), pc_f (fun h => h (ir_nI (by decide)))], by unfold pi_r; rw [pc_f (by decide), pc_f (by decide)], rfl⟩)
  · refine pw_swOut (pc := 14) hX 64 dX1_piece_14 (sw_out (N := 2) (by decide) hsw) (by decide) ?_
    exact pw_throw (pc := 64) (names := ["java/lang/RuntimeException", "java/lang/Exception"]) (text := "nothing of that kind is told of a line") hX hex dX1_piece_64 dX1_piece_67 dX1_piece_68 dX1_piece_70 dX1_piece_73 rfl ⟨by decide +kernel, by decide +kernel⟩ th_RX1_150 (by decide +kernel) ta_RX1_154 tg_RX1_154 ⟨by decide, Nat.le_of_ble_eq_true rfl, Nat.le_of_ble_eq_true rfl, Nat.le_of_ble_eq_true rfl⟩ ⟨Nat.le_of_ble_eq_true rfl, Nat.le_of_ble_eq_true rfl⟩ ⟨rfl, Or.inr (⟨rfl, pc5_4 (fun h => h (ir_nI hj)) (fun h => h (ir_nI hg)) (by rw [ix_nI hjB, ix_nI hgB]; exact fun h => h hwg) hsw⟩)⟩
set_option maxHeartbeats 4000000 in
set_option maxRecDepth 100000 in
theorem cp_count (l : Launch) (hl : l.stackTraces = false) (G : pw_G) (M : pw_M) (ad : Nat → Nat) (n oc : Nat) (td sd : Int32) (dk to er : Nat → Int32) (os pl : Nat → Int32) (oo : Nat → Option Nat) (wa pr de : Nat → Nat → Int32) (hc : cw G ad n oc td sd dk to er os pl oo wa pr de M) (p0 : Int32) : pw_Met l yX1_count cX1_count 2 (some .int) 3 0 0 G [.ref (ad 0), .int p0] M (fun v9 M9 => v9 = some (.int (co_r n oc td to oo pr p0)) ∧ M = M9) := by
  refine pw_of hl (by decide +kernel) (Nat.le_of_ble_eq_true rfl) [(0, .ref (ad 0)), (1, .int p0)] rfl ?_
  intro p9 e9 s9 m9 args9 below9 meth9 c9 hX hrt hmi
  refine pw_iload_n (pc := 0) hX dX1_count_0 1 rfl ?_
  by_cases hsw : ir p0 6
  · obtain ⟨k, hk, rfl⟩ := hsw
    rcases (show k = 0 ∨ k = 1 ∨ k = 2 ∨ k = 3 ∨ k = 4 ∨ k = 5 by omega) with rfl | rfl | rfl | rfl | rfl | rfl
    · refine pw_swIn (pc := 1) hX 40 dX1_count_1 (by decide) (by decide) (off := 39) (by decide) (by decide) ?_
      refine pw_aload_n (pc := 40) hX dX1_count_40 0 rfl ?_
      refine pw_get (pc := 41) hX dX1_count_41 hc.1 rfl inT_1 2 (by decide) fl_RX1_41 rfl ?_
      refine pw_alen2 (pc := 44) hX dX1_count_44 hc.2.2.1 rfl ?_
      exact pw_iret hX dX1_count_45 hrt ⟨by decide, by decide⟩ ⟨by unfold co_r; rw [pc_t (by decide)], rfl⟩
    · refine pw_swIn (pc := 1) hX 46 dX1_count_1 (by decide) (by decide) (off := 45) (by decide) (by decide) ?_
      refine pw_aload_n (pc := 46) hX dX1_count_46 0 rfl ?_
      refine pw_get (pc := 47) hX dX1_count_47 hc.1 rfl inT_1 1 (by decide) fl_RX1_15 rfl ?_
      exact pw_iret hX dX1_count_50 hrt ⟨by decide, by decide⟩ ⟨by unfold co_r; rw [pc_f (by decide), pc_t (by decide)], rfl⟩
    · refine pw_swIn (pc := 1) hX 51 dX1_count_1 (by decide) (by decide) (off := 50) (by decide) (by decide) ?_
      refine pw_aload_n (pc := 51) hX dX1_count_51 0 rfl ?_
      refine pw_callV (pc := 52) (st := []) hX (ct_freeCells l hl G M ad n oc td sd dk to er os pl oo wa pr de hc) hc.1 rfl ok_X1_freeCells lk_RX1_157 dX1_count_52 rfl ⟨⟨by decide, by decide⟩, Nat.le_of_ble_eq_true rfl, Nat.le_of_ble_eq_true rfl, Nat.le_of_ble_eq_true rfl⟩ rfl (fun v9 M9 hp9 => ?_)
      obtain ⟨rfl, rfl⟩ := hp9
      exact pw_iret hX dX1_count_55 hrt ⟨by decide, by decide⟩ ⟨by unfold co_r; rw [pc_f (by decide), pc_f (by decide), pc_t (by decide)], rfl⟩
    · refine pw_swIn (pc := 1) hX 56 dX1_count_1 (by decide) (by decide) (off := 55) (by decide) (by decide) ?_
      refine pw_aload_n (pc := 56) hX dX1_count_56 0 rfl ?_
      refine pw_callV (pc := 57) (st := []) hX (ct_piecesInCells l hl G M ad n oc td sd dk to er os pl oo wa pr de hc) hc.1 rfl ok_X1_piecesInCells lk_RX1_160 dX1_count_57 rfl ⟨⟨by decide, by decide⟩, Nat.le_of_ble_eq_true rfl, Nat.le_of_ble_eq_true rfl, Nat.le_of_ble_eq_true rfl⟩ rfl (fun v9 M9 hp9 => ?_)
      obtain ⟨rfl, rfl⟩ := hp9
      exact pw_iret hX dX1_count_60 hrt ⟨by decide, by decide⟩ ⟨by unfold co_r; rw [pc_f (by decide), pc_f (by decide), pc_f (by decide), pc_t (by decide)], rfl⟩
    · refine pw_swIn (pc := 1) hX 61 dX1_count_1 (by decide) (by decide) (off := 60) (by decide) (by decide) ?_
      refine pw_aload_n (pc := 61) hX dX1_count_61 0 rfl ?_
      refine pw_get (pc := 62) hX dX1_count_62 hc.1 rfl inT_1 4 (by decide) fl_RX1_19 rfl ?_
      refine pw_callS (pc := 65) (st := []) hX (ct_sum l hl G M (ad 4) 10 to hc.2.2.2.2.1 (by decide)) ok_X1_sum lk_RX1_163 dX1_count_65 rfl ⟨⟨by decide, by decide⟩, Nat.le_of_ble_eq_true rfl, Nat.le_of_ble_eq_true rfl, Nat.le_of_ble_eq_true rfl⟩ rfl (fun v9 M9 hp9 => ?_)
      obtain ⟨rfl, rfl⟩ := hp9
      exact pw_iret hX dX1_count_68 hrt ⟨by decide, by decide⟩ ⟨by unfold co_r; rw [pc_f (by decide), pc_f (by decide), pc_f (by decide), pc_f (by decide), pc_t (by decide)], rfl⟩
    · refine pw_swIn (pc := 1) hX 69 dX1_count_1 (by decide) (by decide) (off := 68) (by decide) (by decide) ?_
      refine pw_aload_n (pc := 69) hX dX1_count_69 0 rfl ?_
      refine pw_get (pc := 70) hX dX1_count_70 hc.1 rfl inT_1 6 (by decide) fl_RX1_26 rfl ?_
      exact pw_iret hX dX1_count_73 hrt ⟨by decide, by decide⟩ ⟨by unfold co_r; rw [pc_f (by decide), pc_f (by decide), pc_f (by decide), pc_f (by decide), pc_f (by decide), pc_t (by decide)], rfl⟩
  · refine pw_swOut (pc := 1) hX 74 dX1_count_1 (sw_out (N := 5) (by decide) hsw) (by decide) ?_
    refine pw_iconst (pc := 74) (v := (-1)) hX dX1_count_74 (by decide) ?_
    exact pw_iret hX dX1_count_75 hrt ⟨by decide, by decide⟩ ⟨by unfold co_r; rw [pc_f (P := p0 = 0) (fun h => hsw ⟨0, by decide, h⟩), pc_f (P := p0 = 1) (fun h => hsw ⟨1, by decide, h⟩), pc_f (P := p0 = 2) (fun h => hsw ⟨2, by decide, h⟩), pc_f (P := p0 = 3) (fun h => hsw ⟨3, by decide, h⟩), pc_f (P := p0 = 4) (fun h => hsw ⟨4, by decide, h⟩), pc_f (P := p0 = 5) (fun h => hsw ⟨5, by decide, h⟩)], rfl⟩
end
section
theorem ok_X1_completeCount : pw_ok yX1_completeCount cX1_completeCount 4 (some .int) 0 := ⟨pw_memT (by decide +kernel) (by decide +kernel), pw_memT (by decide +kernel) (by decide +kernel), by decide +kernel, by decide +kernel, by decide +kernel, by decide +kernel⟩
theorem lk_RX1_127 : Cond.methodLink RX1 127 yX1_completeCount ∈ pw_T ∧ Cond.instanceMethod yX1_completeCount ∈ pw_T ∧ Cond.selects RX1 yX1_completeCount yX1_completeCount ∈ pw_T := ⟨pw_memT (by decide +kernel) (by decide +kernel), pw_memT (by decide +kernel) (by decide +kernel), pw_memT (by decide +kernel) (by decide +kernel)⟩
theorem cl_RX1_130 : Cond.constantLong RX1 130 1103515245 ∈ pw_T := pw_memT (by decide +kernel) (by decide +kernel)
theorem cl_RX1_132 : Cond.constantLong RX1 132 12345 ∈ pw_T := pw_memT (by decide +kernel) (by decide +kernel)
theorem cl_RX1_134 : Cond.constantLong RX1 134 2147483648 ∈ pw_T := pw_memT (by decide +kernel) (by decide +kernel)
theorem ck_RX1_136 : Cond.constant RX1 136 65536 ∈ pw_T := pw_memT (by decide +kernel) (by decide +kernel)
theorem ok_X1_completeByCell : pw_ok yX1_completeByCell cX1_completeByCell 5 (some .int) 1 := ⟨pw_memT (by decide +kernel) (by decide +kernel), pw_memT (by decide +kernel) (by decide +kernel), by decide +kernel, by decide +kernel, by decide +kernel, by decide +kernel⟩
theorem lk_RX1_137 : Cond.methodLink RX1 137 yX1_completeByCell ∈ pw_T ∧ Cond.instanceMethod yX1_completeByCell ∈ pw_T ∧ Cond.selects RX1 yX1_completeByCell yX1_completeByCell ∈ pw_T := ⟨pw_memT (by decide +kernel) (by decide +kernel), pw_memT (by decide +kernel) (by decide +kernel), pw_memT (by decide +kernel) (by decide +kernel)⟩
end
section
theorem ct_find (b : Nat → Bool) : ∀ (n x : Nat), x < od_ct b n → ∃ i, i < n ∧ b i = true ∧ od_ct b i = x
  | 0, x, h => absurd h (Nat.not_lt_zero x)
  | n + 1, x, h => by
    by_cases hx : x < od_ct b n
    · obtain ⟨i, h1, h2, h3⟩ := ct_find b n x hx
      exact ⟨i, Nat.lt_succ_of_lt h1, h2, h3⟩
    · cases hb : b n with
      | false => rw [od_ct_f hb] at h; exact absurd h hx
      | true => rw [od_ct_t hb] at h; exact ⟨n, Nat.lt_succ_self n, hb, by omega⟩
theorem fi_s {f : Nat → Int32} {v : Int32} {k : Nat} (h : ∀ i, i < k → f i = v) : ∀ i, i < k + 1 → upd f k v i = v := by
  intro i hi
  by_cases hik : i = k
  · subst hik; exact if_pos rfl
  · exact (if_neg hik).trans (h i (by omega))
set_option maxHeartbeats 4000000 in
set_option maxRecDepth 100000 in
theorem cp_sample (l : Launch) (hl : l.stackTraces = false) (G : pw_G) (M : pw_M) (ad : Nat → Nat) (n oc : Nat) (td : Int32) (sn : Nat) (hsn : sn < 2 ^ 31) (dk to er : Nat → Int32) (os pl : Nat → Int32) (oo : Nat → Option Nat) (wa pr de : Nat → Nat → Int32) (hc : cw G ad n oc td (nI sn) dk to er os pl oo wa pr de M) : pw_Met l yX1_sample cX1_sample 2 (some .int) 3 0 0 G [.ref (ad 0)] M (fun v9 M9 => (od_ct (cc_b oo os) n = 0 ∧ v9 = some (.int (-1)) ∧ M = M9 ∨ 0 < od_ct (cc_b oo os) n ∧ cw G ad n oc td (nI (sd_n sn)) dk to er os pl oo wa pr de M9 ∧ ∃ i j, i < n ∧ oo i = some j ∧ os j = 2 ∧ od_ct (cc_b oo os) i = sd_n sn / 65536 % od_ct (cc_b oo os) n ∧ v9 = some (.int (nI j))) ∧ fm ad (6 + 4 * oc) M M9) := by
  refine pw_of hl (by decide +kernel) (Nat.le_of_ble_eq_true rfl) [(0, .ref (ad 0))] rfl ?_
  intro p9 e9 s9 m9 args9 below9 meth9 c9 hX hrt hmi
  refine pw_aload_n (pc := 0) hX dX1_sample_0 0 rfl ?_
  refine pw_callV (pc := 1) (st := []) hX (ct_completeCount l hl G M ad n oc td (nI sn) dk to er os pl oo wa pr de hc) hc.1 rfl ok_X1_completeCount lk_RX1_127 dX1_sample_1 rfl ⟨⟨by decide, by decide⟩, Nat.le_of_ble_eq_true rfl, Nat.le_of_ble_eq_true rfl, Nat.le_of_ble_eq_true rfl⟩ rfl (fun v9 M9 hp9 => ?_)
  obtain ⟨rfl, rfl⟩ := hp9
  refine pw_istore_n (pc := 4) hX [(1, .int (nI (od_ct (cc_b oo os) n))), (0, .ref (ad 0))] dX1_sample_4 (by decide) rfl ?_
  refine pw_iload_n (pc := 5) hX dX1_sample_5 0 rfl ?_
  refine pw_if_ne (pc := 6) hX 11 dX1_sample_6 (by decide) (fun hc_1 => ?_) (fun hc_1 => ?_)
  · have hct : 0 < od_ct (cc_b oo os) n := Nat.pos_of_ne_zero (fun h => hc_1 (by rw [h]; rfl))
    refine pw_aload_n (pc := 11) hX dX1_sample_11 1 rfl ?_
    refine pw_aload_n (pc := 12) hX dX1_sample_12 1 rfl ?_
    refine pw_get (pc := 13) hX dX1_sample_13 hc.1 rfl inT_1 7 (by decide) fl_RX1_29 rfl ?_
    refine pw_i2l (pc := 16) (v := lN sn) hX dX1_sample_16 (nI_l hsn) ?_
    refine pw_ldc2 (pc := 17) (v := 1103515245) hX dX1_sample_17 cl_RX1_130 ?_
    refine pw_lmul (pc := 20) (z := lN (sn * 1103515245)) hX dX1_sample_20 (lN_mul sn 1103515245) ?_
    refine pw_ldc2 (pc := 21) (v := 12345) hX dX1_sample_21 cl_RX1_132 ?_
    refine pw_ladd (pc := 24) (z := lN (sn * 1103515245 + 12345)) hX dX1_sample_24 (lN_add _ 12345) ?_
    refine pw_ldc2 (pc := 25) (v := 2147483648) hX dX1_sample_25 cl_RX1_134 ?_
    refine pw_lrem (pc := 28) (z := lN (sd_n sn)) hX dX1_sample_28 (by decide) (pk_lRem (a := sn * 1103515245 + 12345) (b := 2147483648) (by omega) (by decide) (by decide)) ?_
    refine pw_l2i (pc := 29) (v := nI (sd_n sn)) hX dX1_sample_29 (lN_i _) ?_
    refine pw_put (pc := 30) (v := .int (nI (sd_n sn))) hX dX1_sample_30 hc.1 rfl inT_1 tyX1 tyX1_ok nmX1 7 (by decide) fl_RX1_29 rfl (tyX1_ok 7 (by decide)) rfl rfl (Nat.le_of_ble_eq_true rfl) [.ref (ad 1), .int (nI oc), .ref (ad 2), .ref (ad 3), .ref (ad 4), .ref (ad 5), .int td, .int (nI (sd_n sn))] rfl ?_
    have hm_2 := pw_ke (a := ad 0) (e := .inr (1, [.ref (ad 1), .int (nI oc), .ref (ad 2), .ref (ad 3), .ref (ad 4), .ref (ad 5), .int td, .int (nI (sd_n sn))])) hc.2.1 (cw_ne hc (x := 1) (y := 0) (by omega) (by omega) (by omega))
    have hm_3 := pw_ke (a := ad 0) (e := .inr (1, [.ref (ad 1), .int (nI oc), .ref (ad 2), .ref (ad 3), .ref (ad 4), .ref (ad 5), .int td, .int (nI (sd_n sn))])) hc.2.2.1 (cw_ne hc (x := 2) (y := 0) (by omega) (by omega) (by omega))
    have hm_4 := pw_ke (a := ad 0) (e := .inr (1, [.ref (ad 1), .int (nI oc), .ref (ad 2), .ref (ad 3), .ref (ad 4), .ref (ad 5), .int td, .int (nI (sd_n sn))])) hc.2.2.2.1 (cw_ne hc (x := 3) (y := 0) (by omega) (by omega) (by omega))
    have hm_5 := pw_ke (a := ad 0) (e := .inr (1, [.ref (ad 1), .int (nI oc), .ref (ad 2), .ref (ad 3), .ref (ad 4), .ref (ad 5), .int td, .int (nI (sd_n sn))])) hc.2.2.2.2.1 (cw_ne hc (x := 4) (y := 0) (by omega) (by omega) (by omega))
    have hm_6 := pw_ke (a := ad 0) (e := .inr (1, [.ref (ad 1), .int (nI oc), .ref (ad 2), .ref (ad 3), .ref (ad 4), .ref (ad 5), .int td, .int (nI (sd_n sn))])) hc.2.2.2.2.2.1 (cw_ne hc (x := 5) (y := 0) (by omega) (by omega) (by omega))
    have hm_7 : pw_up M (ad 0) (.inr (1, [.ref (ad 1), .int (nI oc), .ref (ad 2), .ref (ad 3), .ref (ad 4), .ref (ad 5), .int td, .int (nI (sd_n sn))])) (ad 0) = some (.inr (1, [.ref (ad 1), .int (nI oc), .ref (ad 2), .ref (ad 3), .ref (ad 4), .ref (ad 5), .int td, .int (nI (sd_n sn))])) := pw_us
    refine pw_aload_n (pc := 33) hX dX1_sample_33 1 rfl ?_
    refine pw_aload_n (pc := 34) hX dX1_sample_34 1 rfl ?_
    refine pw_get (pc := 35) hX dX1_sample_35 hm_7 rfl inT_1 7 (by decide) fl_RX1_29 rfl ?_
    refine pw_ldc (pc := 38) (v := 65536) hX dX1_sample_38 ck_RX1_136 ?_
    refine pw_idiv (pc := 40) (z := nI (sd_n sn / 65536)) hX dX1_sample_40 (by decide) (pk_div (d := 65536) (sd_lt sn) (by decide) (by decide)) ?_
    refine pw_iload_n (pc := 41) hX dX1_sample_41 0 rfl ?_
    refine pw_irem (pc := 42) (z := nI (sd_n sn / 65536 % od_ct (cc_b oo os) n)) hX dX1_sample_42 (fun h => absurd hct (by rw [(nI_eq (b := 0) (Nat.lt_of_le_of_lt (od_ct_le _ _) (Nat.lt_of_le_of_lt (cw_n hc) (by decide))) (by decide)).mp h]; decide)) (pk_rem (Nat.lt_of_le_of_lt (Nat.div_le_self _ _) (sd_lt sn)) hct (Nat.lt_of_le_of_lt (od_ct_le _ _) (Nat.lt_of_le_of_lt (cw_n hc) (by decide)))) ?_
    refine pw_callV (pc := 43) (st := []) hX (ct_completeByCell l hl G (pw_up M (ad 0) (.inr (1, [.ref (ad 1), .int (nI oc), .ref (ad 2), .ref (ad 3), .ref (ad 4), .ref (ad 5), .int td, .int (nI (sd_n sn))]))) ad n oc td (nI (sd_n sn)) dk to er os pl oo wa pr de (cw_sd hc (nI (sd_n sn))) (sd_n sn / 65536 % od_ct (cc_b oo os) n) (Nat.lt_of_le_of_lt (Nat.mod_le _ _) (Nat.lt_of_le_of_lt (Nat.div_le_self _ _) (sd_lt sn)))) hm_7 rfl ok_X1_completeByCell lk_RX1_137 dX1_sample_43 rfl ⟨⟨by decide, by decide⟩, Nat.le_of_ble_eq_true rfl, Nat.le_of_ble_eq_true rfl, Nat.le_of_ble_eq_true rfl⟩ rfl (fun v9 M9 hp9 => ?_)
    obtain ⟨rfl, ⟨i, j, hi, hoi, hj2, hsi, rfl⟩ | ⟨rfl, hno⟩⟩ := hp9
    rotate_left
    · obtain ⟨i, h1, h2, h3⟩ := ct_find (cc_b oo os) n (sd_n sn / 65536 % od_ct (cc_b oo os) n) (Nat.mod_lt _ hct)
      exact absurd h3 (hno i h1 h2)
    exact pw_iret hX dX1_sample_46 hrt ⟨by decide, by decide⟩ ⟨Or.inr ⟨hct, (cw_sd hc _), i, j, hi, hoi, hj2, hsi, rfl⟩, (fm_up fm_rf (x := 0) (by omega) _)⟩
  · refine pw_iconst (pc := 9) (v := (-1)) hX dX1_sample_9 (by decide) ?_
    exact pw_iret hX dX1_sample_10 hrt ⟨by decide, by decide⟩ ⟨Or.inl ⟨(nI_eq (b := 0) (Nat.lt_of_le_of_lt (od_ct_le _ _) (Nat.lt_of_le_of_lt (cw_n hc) (by decide))) (by decide)).mp hc_1, rfl, rfl⟩, fm_rf⟩
set_option maxHeartbeats 4000000 in
set_option maxRecDepth 100000 in
theorem ct_fill (l : Launch) (hl : l.stackTraces = false) (G : pw_G) (M : pw_M) (x n : Nat) (f : Nat → Int32) (hx : M x = some (.inl (G.2.2.1 0, n, .inl f))) (hn : n ≤ 1000) (v : Int32) : pw_Met l yJ7_fill_53178 cJ7_fill_53178 4 none 6 0 0 G [.ref x, .int v] M (fun v9 M9 => v9 = none ∧ ∃ f9 : Nat → Int32, (∀ i, i < n → f9 i = v) ∧ M9 x = some (.inl (G.2.2.1 0, n, .inl f9)) ∧ ∀ q, q ≠ x → M9 q = M q) := by
  refine pw_of hl (by decide +kernel) (Nat.le_of_ble_eq_true rfl) [(0, .ref x), (1, .int v)] rfl ?_
  intro p9 e9 s9 m9 args9 below9 meth9 c9 hX hrt hmi
  generalize hQ9 : MQ below9 _ args9 s9 _ _ _ = Q9
  refine pw_iconst (pc := 0) (v := 0) hX dJ7_fill_53178_0 (by decide) ?_
  refine pw_istore_n (pc := 1) hX [(2, .int 0), (0, .ref x), (1, .int v)] dJ7_fill_53178_1 (by decide) rfl ?_
  refine pw_aload_n (pc := 2) hX dJ7_fill_53178_2 1 rfl ?_
  refine pw_alen0 (pc := 3) hX dJ7_fill_53178_3 hx rfl ?_
  refine pw_istore_n (pc := 4) hX [(3, .int (nI n)), (2, .int 0), (0, .ref x), (1, .int v)] dJ7_fill_53178_4 (by decide) rfl ?_
  refine pw_lp (P := fun k_1 => ∀ (Mk : pw_M) (fk : Nat → Int32), Mk x = some (.inl (G.2.2.1 0, n, .inl fk)) → (∀ i, i < k_1 → fk i = v) → (∀ q, q ≠ x → Mk q = M q) → pw_W p9 l e9 (pw_rm 6 0 0) s9 m9 args9 below9 meth9 c9 Q9 G 4 Mk 0 0 5 [(3, .int (nI n)), (2, .int (nI (k_1))), (0, .ref x), (1, .int v)] []) n ?_ ?_ 0 (Nat.zero_le _) M f hx (fun i hi => absurd hi (Nat.not_lt_zero i)) (fun _ _ => rfl)
  · intro Mk fk hMk hfk hok
    refine pw_iload_n (pc := 5) hX dJ7_fill_53178_5 1 rfl ?_
    refine pw_iload_n (pc := 6) hX dJ7_fill_53178_6 0 rfl ?_
    refine pw_icmp_ge (pc := 7) hX 20 dJ7_fill_53178_7 (by decide) (fun hc_2 => ?_) (fun hc_2 => absurd (Int32.le_refl _) hc_2)
    subst hQ9
    exact pw_vret hX dJ7_fill_53178_20 hrt ⟨by decide, by decide⟩ ⟨rfl, fk, hfk, hMk, hok⟩
  · intro k_1 hk_1 ih_k_1
    intro Mk fk hMk hfk hok
    refine pw_iload_n (pc := 5) hX dJ7_fill_53178_5 1 rfl ?_
    refine pw_iload_n (pc := 6) hX dJ7_fill_53178_6 0 rfl ?_
    refine pw_icmp_ge (pc := 7) hX 20 dJ7_fill_53178_7 (by decide) (fun hc_3 => absurd hc_3 (nI_ge (b := n) hk_1 (by omega))) (fun hc_3 => ?_)
    refine pw_aload_n (pc := 10) hX dJ7_fill_53178_10 2 rfl ?_
    refine pw_iload_n (pc := 11) hX dJ7_fill_53178_11 1 rfl ?_
    refine pw_iload_n (pc := 12) hX dJ7_fill_53178_12 3 rfl ?_
    refine pw_iast (pc := 13) (j := k_1) hX dJ7_fill_53178_13 hMk hk_1 (by omega) ?_
    have hm_4 : pw_up Mk x (.inl (G.2.2.1 0, n, .inl (upd fk k_1 v))) x = some (.inl (G.2.2.1 0, n, .inl (upd fk k_1 v))) := pw_us
    refine pw_iinc (pc := 14) (v := nI ((k_1) + 1)) (j := 1) hX [(2, .int (nI ((k_1) + 1))), (3, .int (nI n)), (0, .ref x), (1, .int v)] dJ7_fill_53178_14 rfl (nI_1 _) (by decide) rfl ?_
    refine pw_goto (pc := 17) hX 5 dJ7_fill_53178_17 (by decide) ?_
    exact pw_lv [1, 0, 2, 3] _ rfl (ih_k_1 _ (upd fk k_1 v) hm_4 (fi_s hfk) (fun q hq => (pw_un hq).trans (hok q hq)))
end
section
theorem oi_RX0_3 : Cond.methodLink RX0 3 objectInit ∈ pw_T ∧ Cond.instanceMethod objectInit ∈ pw_T ∧ Cond.code objectInit ⟨#[0xb1]⟩ 1 none ∈ pw_T := ⟨pw_memT (by decide +kernel) (by decide +kernel), pw_memT (by decide +kernel) (by decide +kernel), pw_memT (by decide +kernel) (by decide +kernel)⟩
theorem fl_RX0_9 : Cond.fieldLink RX0 9 (TX0 1).1 (TX0 1).2.1 (TX0 1).2.2.1 ∈ pw_T := pw_memT (by decide +kernel) (by decide +kernel)
theorem fl_RX0_15 : Cond.fieldLink RX0 15 (TX0 2).1 (TX0 2).2.1 (TX0 2).2.2.1 ∈ pw_T := pw_memT (by decide +kernel) (by decide +kernel)
theorem ac_int : Cond.arrayClass .int ∈ pw_T := pw_memT (by decide +kernel) (by decide +kernel)
theorem fl_RX0_28 : Cond.fieldLink RX0 28 (TX0 0).1 (TX0 0).2.1 (TX0 0).2.2.1 ∈ pw_T := pw_memT (by decide +kernel) (by decide +kernel)
theorem ok_J7_fill_53178 : pw_ok yJ7_fill_53178 cJ7_fill_53178 4 none 2 := ⟨pw_memT (by decide +kernel) (by decide +kernel), pw_memT (by decide +kernel) (by decide +kernel), by decide +kernel, by decide +kernel, by decide +kernel, by decide +kernel⟩
theorem lk_RX0_31 : Cond.methodLink RX0 31 yJ7_fill_53178 ∈ pw_T ∧ Cond.static yJ7_fill_53178 ∈ pw_T := ⟨pw_memT (by decide +kernel) (by decide +kernel), pw_memT (by decide +kernel) (by decide +kernel)⟩
theorem cn_RX1_9 : Cond.classLink RX1 9 RX0 ∈ pw_T ∧ Cond.instantiable RX0 6 ∈ pw_T ∧ Cond.initialized RX0 ∈ pw_T := ⟨pw_memT (by decide +kernel) (by decide +kernel), pw_memT (by decide +kernel) (by decide +kernel), pw_memT (by decide +kernel) (by decide +kernel)⟩
theorem ok_X0_init : pw_ok yX0_init cX0_init 2 none 1 := ⟨pw_memT (by decide +kernel) (by decide +kernel), pw_memT (by decide +kernel) (by decide +kernel), by decide +kernel, by decide +kernel, by decide +kernel, by decide +kernel⟩
theorem lk_RX1_63 : Cond.methodLink RX1 63 yX0_init ∈ pw_T ∧ Cond.instanceMethod yX0_init ∈ pw_T := ⟨pw_memT (by decide +kernel) (by decide +kernel), pw_memT (by decide +kernel) (by decide +kernel)⟩
theorem th_RX1_56 : Cond.classLink RX1 56 "java/lang/UnsupportedOperationException" ∈ pw_T ∧ Cond.initialized "java/lang/UnsupportedOperationException" ∈ pw_T := ⟨pw_memT (by decide +kernel) (by decide +kernel), pw_memT (by decide +kernel) (by decide +kernel)⟩
theorem ta_RX1_60 : (vx_atS RX1 60 "java/lang/UnsupportedOperationException" ["java/lang/RuntimeException", "java/lang/Exception"]).all (fun w => decide (w ∈ pw_T) || pw_ex.any (fun x => decide (w = .castable x x)) || pw_dc.any (fun x => decide (w = .declares ⟨x, "<init>", "(Ljava/lang/String;)V"⟩))) = true := by decide +kernel
theorem tg_RX1_60 : (Cond.classLink RX1 56 "java/lang/UnsupportedOperationException" :: Cond.initialized "java/lang/UnsupportedOperationException" :: vx_atS RX1 60 "java/lang/UnsupportedOperationException" ["java/lang/RuntimeException", "java/lang/Exception"]).all vx_ot = true := by decide +kernel
theorem oi_RX1_1 : Cond.methodLink RX1 1 objectInit ∈ pw_T ∧ Cond.instanceMethod objectInit ∈ pw_T ∧ Cond.code objectInit ⟨#[0xb1]⟩ 1 none ∈ pw_T := ⟨pw_memT (by decide +kernel) (by decide +kernel), pw_memT (by decide +kernel) (by decide +kernel), pw_memT (by decide +kernel) (by decide +kernel)⟩
theorem cq_RX1_9 : Cond.classLink RX1 9 RX0 ∈ pw_T := pw_memT (by decide +kernel) (by decide +kernel)
theorem mm_RX1_32 : Cond.methodLink RX1 32 Lib.Math.min.name ∈ pw_T ∧ Cond.static Lib.Math.min.name ∈ pw_T ∧ Cond.initialized "java/lang/Math" ∈ pw_T ∧ Cond.code Lib.Math.min.name Lib.Math.min.code 2 (some .int) ∈ pw_T := ⟨pw_memT (by decide +kernel) (by decide +kernel), pw_memT (by decide +kernel) (by decide +kernel), pw_memT (by decide +kernel) (by decide +kernel), pw_memT (by decide +kernel) (by decide +kernel)⟩
theorem mm_RX1_38 : Cond.methodLink RX1 38 Lib.Math.max.name ∈ pw_T ∧ Cond.static Lib.Math.max.name ∈ pw_T ∧ Cond.initialized "java/lang/Math" ∈ pw_T ∧ Cond.code Lib.Math.max.name Lib.Math.max.code 2 (some .int) ∈ pw_T := ⟨pw_memT (by decide +kernel) (by decide +kernel), pw_memT (by decide +kernel) (by decide +kernel), pw_memT (by decide +kernel) (by decide +kernel), pw_memT (by decide +kernel) (by decide +kernel)⟩
theorem ac_boolean : Cond.arrayClass .boolean ∈ pw_T := pw_memT (by decide +kernel) (by decide +kernel)
end
section
/-- new addresses lie above the old ones -/
def ab (M : pw_M) (q : Nat) : Prop := ∀ (b : Nat) (e : va_E), M b = some e → b < q
/-- all cells but the one at a stay -/
def kp (a : Nat) (M M9 : pw_M) : Prop := ∀ (b : Nat) (e : va_E), M b = some e → b ≠ a → M9 b = some e
theorem kp_rf {a : Nat} {M : pw_M} : kp a M M := fun _ _ h _ => h
theorem kp_up {a : Nat} {M M9 : pw_M} (h : kp a M M9) (e : va_E) : kp a M (pw_up M9 a e) := fun b e1 h1 h2 => pw_ke (h b e1 h1 h2) h2
theorem kp_new {G : pw_G} {a q : Nat} {M M9 : pw_M} (h : kp a M M9) (hf : pw_fr G M9 q) (e : va_E) : kp a M (pw_up M9 q e) := fun b e1 h1 h2 => pw_ke (h b e1 h1 h2) (pw_fr.ne hf (h b e1 h1 h2))
theorem ab_of {G : pw_G} {a q : Nat} {M M9 : pw_M} {e : va_E} (h : kp a M M9) (hf : pw_fr G M9 q) (ha : M9 a = some e) : ab M q := fun b e1 h1 => by
  by_cases hb : b = a
  · subst hb; exact hf.2 _ _ ha
  · exact hf.2 _ _ (h b e1 h1 hb)
set_option maxHeartbeats 4000000 in
set_option maxRecDepth 100000 in
theorem ct_oinit (l : Launch) (hl : l.stackTraces = false) (G : pw_G) (M : pw_M) (a : Nat) (num : Int32) (ha : M a = some (.inr (0, [.int 0, .int 0, .int 0, .null, .null, .null]))) : pw_Met l yX0_init cX0_init 2 none 5 3 30 G [.ref a, .int num] M (fun v9 M9 => v9 = none ∧ ∃ (aw ap ae : Nat) (f9 : Nat → Int32), od_at G M9 a aw ap ae num 0 (-1) (fun _ => 0) (fun _ => 0) f9 ∧ (∀ g, g < 10 → f9 g = -1) ∧ ab M aw ∧ a < aw ∧ aw < ap ∧ ap < ae ∧ kp a M M9) := by
  refine pw_of hl (by decide +kernel) (Nat.le_of_ble_eq_true rfl) [(0, .ref a), (1, .int num)] rfl ?_
  intro p9 e9 s9 m9 args9 below9 meth9 c9 hX hrt hmi
  refine pw_aload_n (pc := 0) hX dX0_init_0 0 rfl ?_
  refine pw_objInit (pc := 1) hX dX0_init_1 oi_RX0_3 ⟨by decide, Nat.le_of_ble_eq_true rfl⟩ ?_
  refine pw_aload_n (pc := 4) hX dX0_init_4 0 rfl ?_
  refine pw_iconst (pc := 5) (v := 0) hX dX0_init_5 (by decide) ?_
  refine pw_put (pc := 6) (v := .int 0) hX dX0_init_6 ha rfl inT_0 tyX0 tyX0_ok nmX0 1 (by decide) fl_RX0_9 rfl (tyX0_ok 1 (by decide)) rfl rfl (Nat.le_of_ble_eq_true rfl) [.int 0, .int 0, .int 0, .null, .null, .null] rfl ?_
  have hm_1 : pw_up M a (.inr (0, [.int 0, .int 0, .int 0, .null, .null, .null])) a = some (.inr (0, [.int 0, .int 0, .int 0, .null, .null, .null])) := pw_us
  refine pw_aload_n (pc := 9) hX dX0_init_9 0 rfl ?_
  refine pw_iconst (pc := 10) (v := (-1)) hX dX0_init_10 (by decide) ?_
  refine pw_put (pc := 11) (v := .int ((-1))) hX dX0_init_11 hm_1 rfl inT_0 tyX0 tyX0_ok nmX0 2 (by decide) fl_RX0_15 rfl (tyX0_ok 2 (by decide)) rfl rfl (Nat.le_of_ble_eq_true rfl) [.int 0, .int 0, .int ((-1)), .null, .null, .null] rfl ?_
  have hm_2 : pw_up (pw_up M a (.inr (0, [.int 0, .int 0, .int 0, .null, .null, .null]))) a (.inr (0, [.int 0, .int 0, .int ((-1)), .null, .null, .null])) a = some (.inr (0, [.int 0, .int 0, .int ((-1)), .null, .null, .null])) := pw_us
  refine pw_aload_n (pc := 14) hX dX0_init_14 0 rfl ?_
  refine pw_bipush (pc := 15) (v := 10) hX dX0_init_15 (by decide) ?_
  refine pw_newi (pc := 17) (n := 10) hX dX0_init_17 ac_int (by decide) (Nat.le_of_ble_eq_true rfl) (Nat.le_of_ble_eq_true rfl) (fun q_3 hf_q_3 => ?_)
  have ha1 : a < q_3 := hf_q_3.2 _ _ hm_2
  have hab : ab M q_3 := ab_of (a := a) (kp_up (kp_up kp_rf _) _) hf_q_3 hm_2
  have hm_4 := pw_ke (a := q_3) (e := .inl (G.2.2.1 0, 10, .inl (fun _ => 0))) hm_2 (pw_fr.ne hf_q_3 hm_2)
  have hm_5 : pw_up (pw_up (pw_up M a (.inr (0, [.int 0, .int 0, .int 0, .null, .null, .null]))) a (.inr (0, [.int 0, .int 0, .int ((-1)), .null, .null, .null]))) q_3 (.inl (G.2.2.1 0, 10, .inl (fun _ => 0))) q_3 = some (.inl (G.2.2.1 0, 10, .inl (fun _ => 0))) := pw_us
  refine pw_putF (pc := 19) (v := .ref q_3) hX dX0_init_19 hm_4 rfl inT_0 tyX0 tyX0_ok nmX0 3 (by decide) fl_RX0_18 rfl hmi rfl (tyX0_ok 3 (by decide)) rfl rfl (Nat.le_of_ble_eq_true rfl) [.int 0, .int 0, .int ((-1)), .ref q_3, .null, .null] rfl ?_
  have hm_6 := pw_ke (a := a) (e := .inr (0, [.int 0, .int 0, .int ((-1)), .ref q_3, .null, .null])) hm_5 (by omega)
  have hm_7 : pw_up (pw_up (pw_up (pw_up M a (.inr (0, [.int 0, .int 0, .int 0, .null, .null, .null]))) a (.inr (0, [.int 0, .int 0, .int ((-1)), .null, .null, .null]))) q_3 (.inl (G.2.2.1 0, 10, .inl (fun _ => 0)))) a (.inr (0, [.int 0, .int 0, .int ((-1)), .ref q_3, .null, .null])) a = some (.inr (0, [.int 0, .int 0, .int ((-1)), .ref q_3, .null, .null])) := pw_us
  refine pw_aload_n (pc := 22) hX dX0_init_22 0 rfl ?_
  refine pw_bipush (pc := 23) (v := 10) hX dX0_init_23 (by decide) ?_
  refine pw_newi (pc := 25) (n := 10) hX dX0_init_25 ac_int (by decide) (Nat.le_of_ble_eq_true rfl) (Nat.le_of_ble_eq_true rfl) (fun q_8 hf_q_8 => ?_)
  have h12 : q_3 < q_8 := hf_q_8.2 _ _ hm_6
  have hm_9 := pw_ke (a := q_8) (e := .inl (G.2.2.1 0, 10, .inl (fun _ => 0))) hm_7 (pw_fr.ne hf_q_8 hm_7)
  have hm_10 := pw_ke (a := q_8) (e := .inl (G.2.2.1 0, 10, .inl (fun _ => 0))) hm_6 (pw_fr.ne hf_q_8 hm_6)
  have hm_11 : pw_up (pw_up (pw_up (pw_up (pw_up M a (.inr (0, [.int 0, .int 0, .int 0, .null, .null, .null]))) a (.inr (0, [.int 0, .int 0, .int ((-1)), .null, .null, .null]))) q_3 (.inl (G.2.2.1 0, 10, .inl (fun _ => 0)))) a (.inr (0, [.int 0, .int 0, .int ((-1)), .ref q_3, .null, .null]))) q_8 (.inl (G.2.2.1 0, 10, .inl (fun _ => 0))) q_8 = some (.inl (G.2.2.1 0, 10, .inl (fun _ => 0))) := pw_us
  refine pw_putF (pc := 27) (v := .ref q_8) hX dX0_init_27 hm_9 rfl inT_0 tyX0 tyX0_ok nmX0 4 (by decide) fl_RX0_22 rfl hmi rfl (tyX0_ok 4 (by decide)) rfl rfl (Nat.le_of_ble_eq_true rfl) [.int 0, .int 0, .int ((-1)), .ref q_3, .ref q_8, .null] rfl ?_
  have hm_12 := pw_ke (a := a) (e := .inr (0, [.int 0, .int 0, .int ((-1)), .ref q_3, .ref q_8, .null])) hm_10 (by omega)
  have hm_13 := pw_ke (a := a) (e := .inr (0, [.int 0, .int 0, .int ((-1)), .ref q_3, .ref q_8, .null])) hm_11 (by omega)
  have hm_14 : pw_up (pw_up (pw_up (pw_up (pw_up (pw_up M a (.inr (0, [.int 0, .int 0, .int 0, .null, .null, .null]))) a (.inr (0, [.int 0, .int 0, .int ((-1)), .null, .null, .null]))) q_3 (.inl (G.2.2.1 0, 10, .inl (fun _ => 0)))) a (.inr (0, [.int 0, .int 0, .int ((-1)), .ref q_3, .null, .null]))) q_8 (.inl (G.2.2.1 0, 10, .inl (fun _ => 0)))) a (.inr (0, [.int 0, .int 0, .int ((-1)), .ref q_3, .ref q_8, .null])) a = some (.inr (0, [.int 0, .int 0, .int ((-1)), .ref q_3, .ref q_8, .null])) := pw_us
  refine pw_aload_n (pc := 30) hX dX0_init_30 0 rfl ?_
  refine pw_bipush (pc := 31) (v := 10) hX dX0_init_31 (by decide) ?_
  refine pw_newi (pc := 33) (n := 10) hX dX0_init_33 ac_int (by decide) (Nat.le_of_ble_eq_true rfl) (Nat.le_of_ble_eq_true rfl) (fun q_15 hf_q_15 => ?_)
  have h23 : q_8 < q_15 := hf_q_15.2 _ _ hm_13
  have hm_16 := pw_ke (a := q_15) (e := .inl (G.2.2.1 0, 10, .inl (fun _ => 0))) hm_14 (pw_fr.ne hf_q_15 hm_14)
  have hm_17 := pw_ke (a := q_15) (e := .inl (G.2.2.1 0, 10, .inl (fun _ => 0))) hm_12 (pw_fr.ne hf_q_15 hm_12)
  have hm_18 := pw_ke (a := q_15) (e := .inl (G.2.2.1 0, 10, .inl (fun _ => 0))) hm_13 (pw_fr.ne hf_q_15 hm_13)
  have hm_19 : pw_up (pw_up (pw_up (pw_up (pw_up (pw_up (pw_up M a (.inr (0, [.int 0, .int 0, .int 0, .null, .null, .null]))) a (.inr (0, [.int 0, .int 0, .int ((-1)), .null, .null, .null]))) q_3 (.inl (G.2.2.1 0, 10, .inl (fun _ => 0)))) a (.inr (0, [.int 0, .int 0, .int ((-1)), .ref q_3, .null, .null]))) q_8 (.inl (G.2.2.1 0, 10, .inl (fun _ => 0)))) a (.inr (0, [.int 0, .int 0, .int ((-1)), .ref q_3, .ref q_8, .null]))) q_15 (.inl (G.2.2.1 0, 10, .inl (fun _ => 0))) q_15 = some (.inl (G.2.2.1 0, 10, .inl (fun _ => 0))) := pw_us
  refine pw_putF (pc := 35) (v := .ref q_15) hX dX0_init_35 hm_16 rfl inT_0 tyX0 tyX0_ok nmX0 5 (by decide) fl_RX0_25 rfl hmi rfl (tyX0_ok 5 (by decide)) rfl rfl (Nat.le_of_ble_eq_true rfl) [.int 0, .int 0, .int ((-1)), .ref q_3, .ref q_8, .ref q_15] rfl ?_
  have hm_20 := pw_ke (a := a) (e := .inr (0, [.int 0, .int 0, .int ((-1)), .ref q_3, .ref q_8, .ref q_15])) hm_17 (by omega)
  have hm_21 := pw_ke (a := a) (e := .inr (0, [.int 0, .int 0, .int ((-1)), .ref q_3, .ref q_8, .ref q_15])) hm_18 (by omega)
  have hm_22 := pw_ke (a := a) (e := .inr (0, [.int 0, .int 0, .int ((-1)), .ref q_3, .ref q_8, .ref q_15])) hm_19 (by omega)
  have hm_23 : pw_up (pw_up (pw_up (pw_up (pw_up (pw_up (pw_up (pw_up M a (.inr (0, [.int 0, .int 0, .int 0, .null, .null, .null]))) a (.inr (0, [.int 0, .int 0, .int ((-1)), .null, .null, .null]))) q_3 (.inl (G.2.2.1 0, 10, .inl (fun _ => 0)))) a (.inr (0, [.int 0, .int 0, .int ((-1)), .ref q_3, .null, .null]))) q_8 (.inl (G.2.2.1 0, 10, .inl (fun _ => 0)))) a (.inr (0, [.int 0, .int 0, .int ((-1)), .ref q_3, .ref q_8, .null]))) q_15 (.inl (G.2.2.1 0, 10, .inl (fun _ => 0)))) a (.inr (0, [.int 0, .int 0, .int ((-1)), .ref q_3, .ref q_8, .ref q_15])) a = some (.inr (0, [.int 0, .int 0, .int ((-1)), .ref q_3, .ref q_8, .ref q_15])) := pw_us
  refine pw_aload_n (pc := 38) hX dX0_init_38 0 rfl ?_
  refine pw_iload_n (pc := 39) hX dX0_init_39 1 rfl ?_
  refine pw_putF (pc := 40) (v := .int num) hX dX0_init_40 hm_23 rfl inT_0 tyX0 tyX0_ok nmX0 0 (by decide) fl_RX0_28 rfl hmi rfl (tyX0_ok 0 (by decide)) rfl rfl (Nat.le_of_ble_eq_true rfl) [.int num, .int 0, .int ((-1)), .ref q_3, .ref q_8, .ref q_15] rfl ?_
  have hm_24 := pw_ke (a := a) (e := .inr (0, [.int num, .int 0, .int ((-1)), .ref q_3, .ref q_8, .ref q_15])) hm_20 (by omega)
  have hm_25 := pw_ke (a := a) (e := .inr (0, [.int num, .int 0, .int ((-1)), .ref q_3, .ref q_8, .ref q_15])) hm_21 (by omega)
  have hm_26 := pw_ke (a := a) (e := .inr (0, [.int num, .int 0, .int ((-1)), .ref q_3, .ref q_8, .ref q_15])) hm_22 (by omega)
  have hm_27 : pw_up (pw_up (pw_up (pw_up (pw_up (pw_up (pw_up (pw_up (pw_up M a (.inr (0, [.int 0, .int 0, .int 0, .null, .null, .null]))) a (.inr (0, [.int 0, .int 0, .int ((-1)), .null, .null, .null]))) q_3 (.inl (G.2.2.1 0, 10, .inl (fun _ => 0)))) a (.inr (0, [.int 0, .int 0, .int ((-1)), .ref q_3, .null, .null]))) q_8 (.inl (G.2.2.1 0, 10, .inl (fun _ => 0)))) a (.inr (0, [.int 0, .int 0, .int ((-1)), .ref q_3, .ref q_8, .null]))) q_15 (.inl (G.2.2.1 0, 10, .inl (fun _ => 0)))) a (.inr (0, [.int 0, .int 0, .int ((-1)), .ref q_3, .ref q_8, .ref q_15]))) a (.inr (0, [.int num, .int 0, .int ((-1)), .ref q_3, .ref q_8, .ref q_15])) a = some (.inr (0, [.int num, .int 0, .int ((-1)), .ref q_3, .ref q_8, .ref q_15])) := pw_us
  refine pw_aload_n (pc := 43) hX dX0_init_43 0 rfl ?_
  refine pw_get (pc := 44) hX dX0_init_44 hm_27 rfl inT_0 5 (by decide) fl_RX0_25 rfl ?_
  refine pw_iconst (pc := 47) (v := (-1)) hX dX0_init_47 (by decide) ?_
  refine pw_callS (pc := 48) (st := []) hX (ct_fill l hl G (pw_up (pw_up (pw_up (pw_up (pw_up (pw_up (pw_up (pw_up (pw_up M a (.inr (0, [.int 0, .int 0, .int 0, .null, .null, .null]))) a (.inr (0, [.int 0, .int 0, .int ((-1)), .null, .null, .null]))) q_3 (.inl (G.2.2.1 0, 10, .inl (fun _ => 0)))) a (.inr (0, [.int 0, .int 0, .int ((-1)), .ref q_3, .null, .null]))) q_8 (.inl (G.2.2.1 0, 10, .inl (fun _ => 0)))) a (.inr (0, [.int 0, .int 0, .int ((-1)), .ref q_3, .ref q_8, .null]))) q_15 (.inl (G.2.2.1 0, 10, .inl (fun _ => 0)))) a (.inr (0, [.int 0, .int 0, .int ((-1)), .ref q_3, .ref q_8, .ref q_15]))) a (.inr (0, [.int num, .int 0, .int ((-1)), .ref q_3, .ref q_8, .ref q_15]))) q_15 10 (fun _ => 0) hm_26 (by decide) (-1)) ok_J7_fill_53178 lk_RX0_31 dX0_init_48 rfl ⟨⟨by decide, by decide⟩, Nat.le_of_ble_eq_true rfl, Nat.le_of_ble_eq_true rfl, Nat.le_of_ble_eq_true rfl⟩ rfl (fun v9 M9 hp9 => ?_)
  obtain ⟨rfl, f9, hf9, h9, ho9⟩ := hp9
  have hm_28 := (ho9 a (by omega)).trans hm_27
  have hm_29 := (ho9 q_3 (by omega)).trans hm_24
  have hm_30 := (ho9 q_8 (by omega)).trans hm_25
  exact pw_vret hX dX0_init_51 hrt ⟨by decide, by decide⟩ ⟨rfl, q_3, q_8, q_15, f9, ⟨hm_28, hm_29, hm_30, h9⟩, hf9, hab, ha1, h12, h23, fun b e1 h1 h2 => (ho9 b (by have := hab b e1 h1; omega)).trans ((kp_up (kp_up (kp_new (kp_up (kp_new (kp_up (kp_new (kp_up (kp_up kp_rf _) _) hf_q_3 _) _) hf_q_8 _) _) hf_q_15 _) _) _) b e1 h1 h2)⟩
def ad_n (ad : Nat → Nat) (oc a aw ap ae : Nat) : Nat → Nat := fun x => if x < 6 + 4 * oc then ad x else if x = 6 + 4 * oc then a else if x = 7 + 4 * oc then aw else if x = 8 + 4 * oc then ap else ae
section CWN
variable {G : pw_G} {ad : Nat → Nat} {n oc : Nat} {td sd : Int32} {dk to er : Nat → Int32} {os pl : Nat → Int32} {oo : Nat → Option Nat} {wa pr de : Nat → Nat → Int32} {M : pw_M}
theorem cw_new {M9 : pw_M} {a aw ap ae : Nat} {f : Nat → Int32} (h : cw G ad n oc td sd dk to er os pl oo wa pr de M) (hoc : oc < 20)
    (hk : ∀ (b : Nat) (e : va_E), M b = some e → b ≠ ad 0 → b ≠ ad 1 → M9 b = some e)
    (h0 : M9 (ad 0) = some (.inr (1, [.ref (ad 1), .int (nI (oc + 1)), .ref (ad 2), .ref (ad 3), .ref (ad 4), .ref (ad 5), .int td, .int sd])))
    (h1 : M9 (ad 1) = some (.inl (G.2.2.1 2, 20, .inr (.inr (.inr (.inr (va_up (fun i => if i < oc then some (ad (6 + 4 * i)) else none) oc (some a))))))))
    (ho : od_at G M9 a aw ap ae (nI oc) 0 (-1) (fun _ => 0) (fun _ => 0) f) (hab : ab M a) (ha : a < aw) (hb : aw < ap) (hd : ap < ae) :
    cw G (ad_n ad oc a aw ap ae) n (oc + 1) td sd dk to er (va_up os oc 0) (va_up pl oc (-1)) oo (va_up wa oc (fun _ => 0)) (va_up pr oc (fun _ => 0)) (va_up de oc f) M9 := by
  have e : ∀ x, x < 6 + 4 * oc → ad_n ad oc a aw ap ae x = ad x := fun x hx => if_pos hx
  have e6 : ad_n ad oc a aw ap ae (6 + 4 * oc) = a := by unfold ad_n; rw [if_neg (by omega), if_pos rfl]
  have e7 : ad_n ad oc a aw ap ae (7 + 4 * oc) = aw := by unfold ad_n; rw [if_neg (by omega), if_neg (by omega), if_pos rfl]
  have e8 : ad_n ad oc a aw ap ae (8 + 4 * oc) = ap := by unfold ad_n; rw [if_neg (by omega), if_neg (by omega), if_neg (by omega), if_pos rfl]
  have e9 : ad_n ad oc a aw ap ae (9 + 4 * oc) = ae := by unfold ad_n; rw [if_neg (by omega), if_neg (by omega), if_neg (by omega), if_neg (by omega)]
  have hlt : ∀ x, x < 6 + 4 * oc → ad x < a := by
    intro x hx
    by_cases h6 : x < 6
    · rcases (show x = 0 ∨ x = 1 ∨ x = 2 ∨ x = 3 ∨ x = 4 ∨ x = 5 by omega) with rfl | rfl | rfl | rfl | rfl | rfl
      · exact hab _ _ h.1
      · exact hab _ _ h.2.1
      · exact hab _ _ h.2.2.1
      · exact hab _ _ h.2.2.2.1
      · exact hab _ _ h.2.2.2.2.1
      · exact hab _ _ h.2.2.2.2.2.1
    · obtain ⟨i, k, hi, hk4, rfl⟩ : ∃ i k, i < oc ∧ k < 4 ∧ x = 6 + k + 4 * i := ⟨(x - 6) / 4, (x - 6) % 4, by omega, by omega, by omega⟩
      have hO := cw_o h i hi
      rcases (show k = 0 ∨ k = 1 ∨ k = 2 ∨ k = 3 by omega) with rfl | rfl | rfl | rfl
      · exact hab _ _ hO.1
      · exact hab _ _ hO.2.1
      · exact hab _ _ hO.2.2.1
      · exact hab _ _ hO.2.2.2
  have ke : ∀ (x : Nat) (e1 : va_E), x < 6 + 4 * oc → 2 ≤ x → M (ad x) = some e1 → M9 (ad_n ad oc a aw ap ae x) = some e1 := fun x e1 hx h2 hm => by
    rw [e x hx]
    exact hk _ _ hm (cw_ne h hx (by omega) (by omega)) (cw_ne h hx (by omega) (by omega))
  have r : ∀ x, x < 6 → ad_n ad oc a aw ap ae x = ad x := fun x hx => e x (by omega)
  refine ⟨?_, ?_, ?_, ke 3 _ (by omega) (by omega) h.2.2.2.1, ke 4 _ (by omega) (by omega) h.2.2.2.2.1, ke 5 _ (by omega) (by omega) h.2.2.2.2.2.1, ?_, ?_, cw_n h, hoc, ?_⟩
  · rw [r 0 (by decide), r 1 (by decide), r 2 (by decide), r 3 (by decide), r 4 (by decide), r 5 (by decide)]; exact h0
  · rw [r 1 (by decide), h1]
    congr 8
    funext i
    by_cases hi : i = oc
    · subst hi; rw [va_up_self, if_pos (by omega), e6]
    · rw [va_up_ne _ _ hi]
      by_cases hi2 : i < oc
      · rw [if_pos hi2, if_pos (by omega), e _ (by omega)]
      · rw [if_neg hi2, if_neg (by omega)]
  · rw [ke 2 _ (by omega) (by omega) h.2.2.1]
    congr 8
    funext i
    rcases op_two (oo i) with hi | ⟨j, hi⟩
    · rw [hi]; rfl
    · rw [hi]; exact congrArg some (e (6 + 4 * j) (by have := cw_ooA h i j hi; omega)).symm
  · intro i hi
    by_cases hij : i = oc
    · subst hij
      rw [va_up_self, va_up_self, va_up_self, va_up_self, va_up_self, e6, e7, e8, e9]
      exact ho
    · have hi2 : i < oc := by omega
      have hO := cw_o h i hi2
      rw [va_up_ne _ _ hij, va_up_ne _ _ hij, va_up_ne _ _ hij, va_up_ne _ _ hij, va_up_ne _ _ hij, e (6 + 4 * i) (by omega), e (7 + 4 * i) (by omega), e (8 + 4 * i) (by omega), e (9 + 4 * i) (by omega)]
      exact ⟨hk _ _ hO.1 (cw_ne h (by omega) (by omega) (by omega)) (cw_ne h (by omega) (by omega) (by omega)), hk _ _ hO.2.1 (cw_ne h (by omega) (by omega) (by omega)) (cw_ne h (by omega) (by omega) (by omega)), hk _ _ hO.2.2.1 (cw_ne h (by omega) (by omega) (by omega)) (cw_ne h (by omega) (by omega) (by omega)), hk _ _ hO.2.2.2 (cw_ne h (by omega) (by omega) (by omega)) (cw_ne h (by omega) (by omega) (by omega))⟩
  · have up : ∀ x, x < 6 + 4 * (oc + 1) → ¬ x < 6 + 4 * oc → a ≤ ad_n ad oc a aw ap ae x := by
      intro x hx hx2
      rcases (show x = 6 + 4 * oc ∨ x = 7 + 4 * oc ∨ x = 8 + 4 * oc ∨ x = 9 + 4 * oc by omega) with rfl | rfl | rfl | rfl
      · rw [e6]; exact Nat.le_refl _
      · rw [e7]; omega
      · rw [e8]; omega
      · rw [e9]; omega
    intro x y hx hy hxy
    by_cases hx2 : x < 6 + 4 * oc
    · by_cases hy2 : y < 6 + 4 * oc
      · rw [e x hx2, e y hy2] at hxy; exact cw_i h x y hx2 hy2 hxy
      · rw [e x hx2] at hxy; have := hlt x hx2; have := up y hy hy2; omega
    · by_cases hy2 : y < 6 + 4 * oc
      · rw [e y hy2] at hxy; have := hlt y hy2; have := up x hx hx2; omega
      · rcases (show x = 6 + 4 * oc ∨ x = 7 + 4 * oc ∨ x = 8 + 4 * oc ∨ x = 9 + 4 * oc by omega) with rfl | rfl | rfl | rfl <;> rcases (show y = 6 + 4 * oc ∨ y = 7 + 4 * oc ∨ y = 8 + 4 * oc ∨ y = 9 + 4 * oc by omega) with rfl | rfl | rfl | rfl <;> simp only [e6, e7, e8, e9] at hxy <;> omega
  · intro i j hj
    have := cw_ooA h i j hj
    omega
end CWN
set_option maxHeartbeats 4000000 in
set_option maxRecDepth 100000 in
theorem cp_order (l : Launch) (hl : l.stackTraces = false) (G : pw_G) (M : pw_M) (ad : Nat → Nat) (n oc : Nat) (td sd : Int32) (dk to er : Nat → Int32) (os pl : Nat → Int32) (oo : Nat → Option Nat) (wa pr de : Nat → Nat → Int32) (hc : cw G ad n oc td sd dk to er os pl oo wa pr de M) : pw_XMet l yX1_order cX1_order 2 (some .int) 3 4 36 G [.ref (ad 0)] M (fun v9 M9 => cd_order oc = 0 ∧ v9 = some (.int (nI oc)) ∧ ∃ (ad9 : Nat → Nat) (f9 : Nat → Int32) (b9 : Nat), (∀ x, x < 6 + 4 * oc → ad9 x = ad x) ∧ ab M b9 ∧ (∀ g, g < 10 → f9 g = -1) ∧ (∀ x, 6 + 4 * oc ≤ x → x < 6 + 4 * (oc + 1) → b9 ≤ ad9 x) ∧ cw G ad9 n (oc + 1) td sd dk to er (va_up os oc 0) (va_up pl oc (-1)) oo (va_up wa oc (fun _ => 0)) (va_up pr oc (fun _ => 0)) (va_up de oc f9) M9 ∧ fm ad (6 + 4 * oc) M M9) (fun E9 M9 => M = M9 ∧ (E9 = "java/lang/UnsupportedOperationException" ∧ cd_order oc = 1)) := by
  refine pw_ofx hl (by decide +kernel) (Nat.le_of_ble_eq_true rfl) [(0, .ref (ad 0))] rfl ?_
  intro p9 e9 s9 m9 args9 below9 meth9 c9 hX hrt hex
  refine pw_aload_n (pc := 0) hX dX1_order_0 0 rfl ?_
  refine pw_get (pc := 1) hX dX1_order_1 hc.1 rfl inT_1 1 (by decide) fl_RX1_15 rfl ?_
  refine pw_bipush (pc := 4) (v := 20) hX dX1_order_4 (by decide) ?_
  refine pw_icmp_lt (pc := 6) hX 19 dX1_order_6 (by decide) (fun hc_1 => ?_) (fun hc_1 => ?_)
  · have hlt : oc < 20 := (nI_ltI (b := 20) (Nat.lt_of_le_of_lt (cw_oc hc) (by decide)) (by decide)).mp hc_1
    refine pw_aload_n (pc := 19) hX dX1_order_19 0 rfl ?_
    refine pw_get (pc := 20) hX dX1_order_20 hc.1 rfl inT_1 1 (by decide) fl_RX1_15 rfl ?_
    refine pw_istore_n (pc := 23) hX [(1, .int (nI oc)), (0, .ref (ad 0))] dX1_order_23 (by decide) rfl ?_
    refine pw_aload_n (pc := 24) hX dX1_order_24 1 rfl ?_
    refine pw_get (pc := 25) hX dX1_order_25 hc.1 rfl inT_1 0 (by decide) fl_RX1_11 rfl ?_
    refine pw_iload_n (pc := 28) hX dX1_order_28 0 rfl ?_
    refine pw_new (pc := 29) (fs := [.int 0, .int 0, .int 0, .null, .null, .null]) hX dX1_order_29 (ci := 0) rfl inT_0 tyX0 tyX0_ok cn_RX1_9 (by decide +kernel) (Nat.le_of_ble_eq_true rfl) (Nat.le_of_ble_eq_true rfl) (fun q_2 hf_q_2 => ?_)
    have hm_3 := pw_ke (a := q_2) (e := .inr (0, [.int 0, .int 0, .int 0, .null, .null, .null])) hc.1 (pw_fr.ne hf_q_2 hc.1)
    have hm_4 := pw_ke (a := q_2) (e := .inr (0, [.int 0, .int 0, .int 0, .null, .null, .null])) hc.2.1 (pw_fr.ne hf_q_2 hc.2.1)
    have hm_5 : pw_up M q_2 (.inr (0, [.int 0, .int 0, .int 0, .null, .null, .null])) q_2 = some (.inr (0, [.int 0, .int 0, .int 0, .null, .null, .null])) := pw_us
    have hbq : ab M q_2 := hf_q_2.2
    refine pw_dup (pc := 32) hX dX1_order_32 rfl ?_
    refine pw_iload_n (pc := 33) hX dX1_order_33 0 rfl ?_
    refine pw_callI (pc := 34) (st := [.ref q_2, .int (nI oc), .ref (ad 1)]) hX (ct_oinit l hl G (pw_up M q_2 (.inr (0, [.int 0, .int 0, .int 0, .null, .null, .null]))) q_2 (nI oc) hm_5) ok_X0_init rfl lk_RX1_63 dX1_order_34 rfl ⟨⟨by decide, by decide⟩, Nat.le_of_ble_eq_true rfl, Nat.le_of_ble_eq_true rfl, Nat.le_of_ble_eq_true rfl⟩ rfl (fun v9 M9 hp9 => ?_)
    obtain ⟨rfl, aw, ap, ae, f9, hod, hf9, hab, h01, h12, h23, hkp⟩ := hp9
    have hm_6 := hkp _ _ hm_3 (pw_fr.ne hf_q_2 hc.1)
    have hm_7 := hkp _ _ hm_4 (pw_fr.ne hf_q_2 hc.2.1)
    refine pw_aast (pc := 37) (j := oc) hX dX1_order_37 hm_7 hod.1 rfl rfl hlt (by decide) ?_
    have hm_8 := pw_ke (a := ad 1) (e := .inl (G.2.2.1 2, 20, .inr (.inr (.inr (.inr (va_up (fun i => if i < oc then some (ad (6 + 4 * i)) else none) oc (some q_2))))))) hm_6 (cw_ne hc (x := 0) (y := 1) (by omega) (by omega) (by omega))
    have hm_9 := pw_ke (a := ad 1) (e := .inl (G.2.2.1 2, 20, .inr (.inr (.inr (.inr (va_up (fun i => if i < oc then some (ad (6 + 4 * i)) else none) oc (some q_2))))))) hod.1 (by have := hbq _ _ hc.1; have := hbq _ _ hc.2.1; omega)
    have hm_10 := pw_ke (a := ad 1) (e := .inl (G.2.2.1 2, 20, .inr (.inr (.inr (.inr (va_up (fun i => if i < oc then some (ad (6 + 4 * i)) else none) oc (some q_2))))))) hod.2.1 (by have := hbq _ _ hc.1; have := hbq _ _ hc.2.1; omega)
    have hm_11 := pw_ke (a := ad 1) (e := .inl (G.2.2.1 2, 20, .inr (.inr (.inr (.inr (va_up (fun i => if i < oc then some (ad (6 + 4 * i)) else none) oc (some q_2))))))) hod.2.2.1 (by have := hbq _ _ hc.1; have := hbq _ _ hc.2.1; omega)
    have hm_12 := pw_ke (a := ad 1) (e := .inl (G.2.2.1 2, 20, .inr (.inr (.inr (.inr (va_up (fun i => if i < oc then some (ad (6 + 4 * i)) else none) oc (some q_2))))))) hod.2.2.2 (by have := hbq _ _ hc.1; have := hbq _ _ hc.2.1; omega)
    have hm_13 : pw_up M9 (ad 1) (.inl (G.2.2.1 2, 20, .inr (.inr (.inr (.inr (va_up (fun i => if i < oc then some (ad (6 + 4 * i)) else none) oc (some q_2))))))) (ad 1) = some (.inl (G.2.2.1 2, 20, .inr (.inr (.inr (.inr (va_up (fun i => if i < oc then some (ad (6 + 4 * i)) else none) oc (some q_2))))))) := pw_us
    refine pw_aload_n (pc := 38) hX dX1_order_38 1 rfl ?_
    refine pw_dup (pc := 39) hX dX1_order_39 rfl ?_
    refine pw_get (pc := 40) hX dX1_order_40 hm_8 rfl inT_1 1 (by decide) fl_RX1_15 rfl ?_
    refine pw_iconst (pc := 43) (v := 1) hX dX1_order_43 (by decide) ?_
    refine pw_iadd (pc := 44) (z := nI (oc + 1)) hX dX1_order_44 (nI_1 _) ?_
    refine pw_put (pc := 45) (v := .int (nI (oc + 1))) hX dX1_order_45 hm_8 rfl inT_1 tyX1 tyX1_ok nmX1 1 (by decide) fl_RX1_15 rfl (tyX1_ok 1 (by decide)) rfl rfl (Nat.le_of_ble_eq_true rfl) [.ref (ad 1), .int (nI (oc + 1)), .ref (ad 2), .ref (ad 3), .ref (ad 4), .ref (ad 5), .int td, .int sd] rfl ?_
    have hm_14 := pw_ke (a := ad 0) (e := .inr (1, [.ref (ad 1), .int (nI (oc + 1)), .ref (ad 2), .ref (ad 3), .ref (ad 4), .ref (ad 5), .int td, .int sd])) hm_13 (cw_ne hc (x := 1) (y := 0) (by omega) (by omega) (by omega))
    have hm_15 := pw_ke (a := ad 0) (e := .inr (1, [.ref (ad 1), .int (nI (oc + 1)), .ref (ad 2), .ref (ad 3), .ref (ad 4), .ref (ad 5), .int td, .int sd])) hm_9 (by have := hbq _ _ hc.1; have := hbq _ _ hc.2.1; omega)
    have hm_16 := pw_ke (a := ad 0) (e := .inr (1, [.ref (ad 1), .int (nI (oc + 1)), .ref (ad 2), .ref (ad 3), .ref (ad 4), .ref (ad 5), .int td, .int sd])) hm_10 (by have := hbq _ _ hc.1; have := hbq _ _ hc.2.1; omega)
    have hm_17 := pw_ke (a := ad 0) (e := .inr (1, [.ref (ad 1), .int (nI (oc + 1)), .ref (ad 2), .ref (ad 3), .ref (ad 4), .ref (ad 5), .int td, .int sd])) hm_11 (by have := hbq _ _ hc.1; have := hbq _ _ hc.2.1; omega)
    have hm_18 := pw_ke (a := ad 0) (e := .inr (1, [.ref (ad 1), .int (nI (oc + 1)), .ref (ad 2), .ref (ad 3), .ref (ad 4), .ref (ad 5), .int td, .int sd])) hm_12 (by have := hbq _ _ hc.1; have := hbq _ _ hc.2.1; omega)
    have hm_19 : pw_up (pw_up M9 (ad 1) (.inl (G.2.2.1 2, 20, .inr (.inr (.inr (.inr (va_up (fun i => if i < oc then some (ad (6 + 4 * i)) else none) oc (some q_2)))))))) (ad 0) (.inr (1, [.ref (ad 1), .int (nI (oc + 1)), .ref (ad 2), .ref (ad 3), .ref (ad 4), .ref (ad 5), .int td, .int sd])) (ad 0) = some (.inr (1, [.ref (ad 1), .int (nI (oc + 1)), .ref (ad 2), .ref (ad 3), .ref (ad 4), .ref (ad 5), .int td, .int sd])) := pw_us
    refine pw_iload_n (pc := 48) hX dX1_order_48 0 rfl ?_
    exact pw_iretx hX dX1_order_49 hrt ⟨by decide, by decide⟩ ⟨pc1_0 (fun h => absurd hlt (by rw [h]; decide)), rfl, _, f9, q_2, fun x hx => if_pos hx, hbq, hf9, fun x h1 h2 => by rcases (show x = 6 + 4 * oc ∨ x = 7 + 4 * oc ∨ x = 8 + 4 * oc ∨ x = 9 + 4 * oc by omega) with rfl | rfl | rfl | rfl <;> simp [ad_n] <;> omega, cw_new hc hlt (fun b e1 h1 n0 n1 => pw_ke (pw_ke (hkp _ _ (pw_ke h1 (pw_fr.ne hf_q_2 h1)) (pw_fr.ne hf_q_2 h1)) n1) n0) hm_19 hm_14 ⟨hm_15, hm_16, hm_17, hm_18⟩ hbq h01 h12 h23, fun b e1 h1 h2 => (fun b e1 h1 n0 n1 => pw_ke (pw_ke (hkp _ _ (pw_ke h1 (pw_fr.ne hf_q_2 h1)) (pw_fr.ne hf_q_2 h1)) n1) n0) b e1 h1 (fun h => h2 0 (by omega) h.symm) (fun h => h2 1 (by omega) h.symm)⟩
  · exact pw_throw (pc := 9) (names := ["java/lang/RuntimeException", "java/lang/Exception"]) (text := "no room for another order") hX hex dX1_order_9 dX1_order_12 dX1_order_13 dX1_order_15 dX1_order_18 rfl ⟨by decide +kernel, by decide +kernel⟩ th_RX1_56 (by decide +kernel) ta_RX1_60 tg_RX1_60 ⟨by decide, Nat.le_of_ble_eq_true rfl, Nat.le_of_ble_eq_true rfl, Nat.le_of_ble_eq_true rfl⟩ ⟨Nat.le_of_ble_eq_true rfl, Nat.le_of_ble_eq_true rfl⟩ ⟨rfl, rfl, pc1_1 (Nat.le_antisymm (cw_oc hc) (Nat.not_lt.mp (fun h => hc_1 (nI_lt (b := 20) h (by decide)))))⟩
def wn (x : Int32) : Nat := if x < 0 then 0 else if 16 < x then 16 else ix x
theorem wn_le (x : Int32) : wn x ≤ 16 := by
  unfold wn
  split
  · decide
  · split
    · decide
    · rename_i h1 h2
      obtain ⟨j, hj, hx⟩ := nI_of2 (M := 16) (n := 16) (by decide) h1 (Int32.not_lt.mp h2)
      rw [hx, ix_nI (by omega)]
      exact hj
theorem wn_nI {x : Int32} (h1 : ¬ x < 0) (h2 : ¬ 16 < x) : nI (wn x) = x := by
  unfold wn
  rw [if_neg h1, if_neg h2]
  obtain ⟨j, hj, hx⟩ := nI_of2 (M := 16) (n := 16) (by decide) h1 (Int32.not_lt.mp h2)
  rw [hx, ix_nI (by omega)]
theorem wn_eq (x : Int32) : (if 0 < (if x < 16 then x else 16) then (if x < 16 then x else 16) else 0) = nI (wn x) := by
  by_cases h1 : x < 0
  · have h16 : x < 16 := Int32.lt_trans h1 (by decide)
    rw [if_pos h16, if_neg (Int32.not_lt.mpr (Int32.le_of_lt h1))]
    unfold wn
    rw [if_pos h1]
    rfl
  · by_cases h2 : x < 16
    · rw [if_pos h2, wn_nI h1 (Int32.not_lt.mpr (Int32.le_of_lt h2))]
      by_cases h3 : 0 < x
      · rw [if_pos h3]
      · rw [if_neg h3]
        exact Int32.le_antisymm (Int32.not_lt.mp h1) (Int32.not_lt.mp h3)
    · rw [if_neg h2, if_pos (by decide)]
      unfold wn
      rw [if_neg h1]
      by_cases h3 : 16 < x
      · rw [if_pos h3]; rfl
      · rw [if_neg h3]
        have h4 : x = 16 := Int32.le_antisymm (Int32.not_lt.mp h3) (Int32.not_lt.mp h2)
        rw [h4]
        rfl
def ad_0 (a q1 q2 q3 q4 q5 : Nat) : Nat → Nat := fun x => if x = 0 then a else if x = 1 then q1 else if x = 2 then q4 else if x = 3 then q5 else if x = 4 then q2 else q3
theorem cw_init {G : pw_G} {M : pw_M} {a q1 q2 q3 q4 q5 n : Nat} (hn : n ≤ 16) (g1 : a < q1) (g2 : q1 < q2) (g3 : q2 < q3) (g4 : q3 < q4) (g5 : q4 < q5)
    (h0 : M a = some (.inr (1, [.ref q1, .int 0, .ref q4, .ref q5, .ref q2, .ref q3, .int 0, .int 1]))) (h1 : M q1 = some (.inl (G.2.2.1 2, 20, .inr (.inr (.inr (.inr (fun _ => none)))))))
    (h2 : M q2 = some (.inl (G.2.2.1 0, 10, .inl (fun _ => 0)))) (h3 : M q3 = some (.inl (G.2.2.1 0, 8, .inl (fun _ => 0)))) (h4 : M q4 = some (.inl (G.2.2.1 2, n, .inr (.inr (.inr (.inr (fun _ => none))))))) (h5 : M q5 = some (.inl (G.2.2.1 1, n, .inl (fun _ => 0))))
    (os pl : Nat → Int32) (wa pr de : Nat → Nat → Int32) : cw G (ad_0 a q1 q2 q3 q4 q5) n 0 0 1 (fun _ => 0) (fun _ => 0) (fun _ => 0) os pl (fun _ => none) wa pr de M := by
  refine ⟨h0, ?_, h4, h5, h2, h3, fun i hi => absurd hi (Nat.not_lt_zero i), ?_, hn, by decide, fun i j h => by cases h⟩
  · rw [show (fun i => if i < 0 then some (ad_0 a q1 q2 q3 q4 q5 (6 + 4 * i)) else none) = fun _ => none from funext (fun i => if_neg (Nat.not_lt_zero i))]
    exact h1
  · intro x y hx hy hxy
    have hx : x < 6 := hx
    have hy : y < 6 := hy
    rcases (show x = 0 ∨ x = 1 ∨ x = 2 ∨ x = 3 ∨ x = 4 ∨ x = 5 by omega) with rfl | rfl | rfl | rfl | rfl | rfl <;> rcases (show y = 0 ∨ y = 1 ∨ y = 2 ∨ y = 3 ∨ y = 4 ∨ y = 5 by omega) with rfl | rfl | rfl | rfl | rfl | rfl <;> simp [ad_0] at hxy <;> omega
set_option maxHeartbeats 4000000 in
set_option maxRecDepth 100000 in
theorem cp_init (l : Launch) (hl : l.stackTraces = false) (G : pw_G) (M : pw_M) (a : Nat) (p0 : Int32) (ha : M a = some (.inr (1, [.null, .int 0, .null, .null, .null, .null, .int 0, .int 0]))) : pw_Met l yX1_init cX1_init 3 none 3 5 70 G [.ref a, .int p0] M (fun v9 M9 => v9 = none ∧ ∃ (ad9 : Nat → Nat) (b9 : Nat), ad9 0 = a ∧ ab M b9 ∧ (∀ x, 1 ≤ x → x < 6 → b9 ≤ ad9 x) ∧ (∀ (os pl : Nat → Int32) (wa pr de : Nat → Nat → Int32), cw G ad9 (wn p0) 0 0 1 (fun _ => 0) (fun _ => 0) (fun _ => 0) os pl (fun _ => none) wa pr de M9) ∧ kp a M M9) := by
  refine pw_of hl (by decide +kernel) (Nat.le_of_ble_eq_true rfl) [(0, .ref a), (1, .int p0)] rfl ?_
  intro p9 e9 s9 m9 args9 below9 meth9 c9 hX hrt hmi
  refine pw_aload_n (pc := 0) hX dX1_init_0 0 rfl ?_
  refine pw_objInit (pc := 1) hX dX1_init_1 oi_RX1_1 ⟨by decide, Nat.le_of_ble_eq_true rfl⟩ ?_
  refine pw_aload_n (pc := 4) hX dX1_init_4 0 rfl ?_
  refine pw_bipush (pc := 5) (v := 20) hX dX1_init_5 (by decide) ?_
  refine pw_newq (pc := 7) (n := 20) hX dX1_init_7 cq_RX1_9 (by decide) (Nat.le_of_ble_eq_true rfl) (Nat.le_of_ble_eq_true rfl) (fun q_1 hf_q_1 => ?_)
  have ha1 : a < q_1 := hf_q_1.2 _ _ ha
  have hab : ab M q_1 := ab_of (a := a) kp_rf hf_q_1 ha
  have hm_2 := pw_ke (a := q_1) (e := .inl (G.2.2.1 2, 20, .inr (.inr (.inr (.inr (fun _ => none)))))) ha (pw_fr.ne hf_q_1 ha)
  have hm_3 : pw_up M q_1 (.inl (G.2.2.1 2, 20, .inr (.inr (.inr (.inr (fun _ => none)))))) q_1 = some (.inl (G.2.2.1 2, 20, .inr (.inr (.inr (.inr (fun _ => none)))))) := pw_us
  refine pw_putF (pc := 10) (v := .ref q_1) hX dX1_init_10 hm_2 rfl inT_1 tyX1 tyX1_ok nmX1 0 (by decide) fl_RX1_11 rfl hmi rfl (tyX1_ok 0 (by decide)) rfl rfl (Nat.le_of_ble_eq_true rfl) [.ref q_1, .int 0, .null, .null, .null, .null, .int 0, .int 0] rfl ?_
  have hm_4 := pw_ke (a := a) (e := .inr (1, [.ref q_1, .int 0, .null, .null, .null, .null, .int 0, .int 0])) hm_3 (by omega)
  have hm_5 : pw_up (pw_up M q_1 (.inl (G.2.2.1 2, 20, .inr (.inr (.inr (.inr (fun _ => none))))))) a (.inr (1, [.ref q_1, .int 0, .null, .null, .null, .null, .int 0, .int 0])) a = some (.inr (1, [.ref q_1, .int 0, .null, .null, .null, .null, .int 0, .int 0])) := pw_us
  refine pw_aload_n (pc := 13) hX dX1_init_13 0 rfl ?_
  refine pw_iconst (pc := 14) (v := 0) hX dX1_init_14 (by decide) ?_
  refine pw_put (pc := 15) (v := .int 0) hX dX1_init_15 hm_5 rfl inT_1 tyX1 tyX1_ok nmX1 1 (by decide) fl_RX1_15 rfl (tyX1_ok 1 (by decide)) rfl rfl (Nat.le_of_ble_eq_true rfl) [.ref q_1, .int 0, .null, .null, .null, .null, .int 0, .int 0] rfl ?_
  have hm_6 := pw_ke (a := a) (e := .inr (1, [.ref q_1, .int 0, .null, .null, .null, .null, .int 0, .int 0])) hm_4 (by omega)
  have hm_7 : pw_up (pw_up (pw_up M q_1 (.inl (G.2.2.1 2, 20, .inr (.inr (.inr (.inr (fun _ => none))))))) a (.inr (1, [.ref q_1, .int 0, .null, .null, .null, .null, .int 0, .int 0]))) a (.inr (1, [.ref q_1, .int 0, .null, .null, .null, .null, .int 0, .int 0])) a = some (.inr (1, [.ref q_1, .int 0, .null, .null, .null, .null, .int 0, .int 0])) := pw_us
  refine pw_aload_n (pc := 18) hX dX1_init_18 0 rfl ?_
  refine pw_bipush (pc := 19) (v := 10) hX dX1_init_19 (by decide) ?_
  refine pw_newi (pc := 21) (n := 10) hX dX1_init_21 ac_int (by decide) (Nat.le_of_ble_eq_true rfl) (Nat.le_of_ble_eq_true rfl) (fun q_8 hf_q_8 => ?_)
  have h12 : q_1 < q_8 := hf_q_8.2 _ _ hm_6
  have hm_9 := pw_ke (a := q_8) (e := .inl (G.2.2.1 0, 10, .inl (fun _ => 0))) hm_7 (pw_fr.ne hf_q_8 hm_7)
  have hm_10 := pw_ke (a := q_8) (e := .inl (G.2.2.1 0, 10, .inl (fun _ => 0))) hm_6 (pw_fr.ne hf_q_8 hm_6)
  have hm_11 : pw_up (pw_up (pw_up (pw_up M q_1 (.inl (G.2.2.1 2, 20, .inr (.inr (.inr (.inr (fun _ => none))))))) a (.inr (1, [.ref q_1, .int 0, .null, .null, .null, .null, .int 0, .int 0]))) a (.inr (1, [.ref q_1, .int 0, .null, .null, .null, .null, .int 0, .int 0]))) q_8 (.inl (G.2.2.1 0, 10, .inl (fun _ => 0))) q_8 = some (.inl (G.2.2.1 0, 10, .inl (fun _ => 0))) := pw_us
  refine pw_putF (pc := 23) (v := .ref q_8) hX dX1_init_23 hm_9 rfl inT_1 tyX1 tyX1_ok nmX1 4 (by decide) fl_RX1_19 rfl hmi rfl (tyX1_ok 4 (by decide)) rfl rfl (Nat.le_of_ble_eq_true rfl) [.ref q_1, .int 0, .null, .null, .ref q_8, .null, .int 0, .int 0] rfl ?_
  have hm_12 := pw_ke (a := a) (e := .inr (1, [.ref q_1, .int 0, .null, .null, .ref q_8, .null, .int 0, .int 0])) hm_10 (by omega)
  have hm_13 := pw_ke (a := a) (e := .inr (1, [.ref q_1, .int 0, .null, .null, .ref q_8, .null, .int 0, .int 0])) hm_11 (by omega)
  have hm_14 : pw_up (pw_up (pw_up (pw_up (pw_up M q_1 (.inl (G.2.2.1 2, 20, .inr (.inr (.inr (.inr (fun _ => none))))))) a (.inr (1, [.ref q_1, .int 0, .null, .null, .null, .null, .int 0, .int 0]))) a (.inr (1, [.ref q_1, .int 0, .null, .null, .null, .null, .int 0, .int 0]))) q_8 (.inl (G.2.2.1 0, 10, .inl (fun _ => 0)))) a (.inr (1, [.ref q_1, .int 0, .null, .null, .ref q_8, .null, .int 0, .int 0])) a = some (.inr (1, [.ref q_1, .int 0, .null, .null, .ref q_8, .null, .int 0, .int 0])) := pw_us
  refine pw_aload_n (pc := 26) hX dX1_init_26 0 rfl ?_
  refine pw_bipush (pc := 27) (v := 8) hX dX1_init_27 (by decide) ?_
  refine pw_newi (pc := 29) (n := 8) hX dX1_init_29 ac_int (by decide) (Nat.le_of_ble_eq_true rfl) (Nat.le_of_ble_eq_true rfl) (fun q_15 hf_q_15 => ?_)
  have h23 : q_8 < q_15 := hf_q_15.2 _ _ hm_13
  have hm_16 := pw_ke (a := q_15) (e := .inl (G.2.2.1 0, 8, .inl (fun _ => 0))) hm_14 (pw_fr.ne hf_q_15 hm_14)
  have hm_17 := pw_ke (a := q_15) (e := .inl (G.2.2.1 0, 8, .inl (fun _ => 0))) hm_12 (pw_fr.ne hf_q_15 hm_12)
  have hm_18 := pw_ke (a := q_15) (e := .inl (G.2.2.1 0, 8, .inl (fun _ => 0))) hm_13 (pw_fr.ne hf_q_15 hm_13)
  have hm_19 : pw_up (pw_up (pw_up (pw_up (pw_up (pw_up M q_1 (.inl (G.2.2.1 2, 20, .inr (.inr (.inr (.inr (fun _ => none))))))) a (.inr (1, [.ref q_1, .int 0, .null, .null, .null, .null, .int 0, .int 0]))) a (.inr (1, [.ref q_1, .int 0, .null, .null, .null, .null, .int 0, .int 0]))) q_8 (.inl (G.2.2.1 0, 10, .inl (fun _ => 0)))) a (.inr (1, [.ref q_1, .int 0, .null, .null, .ref q_8, .null, .int 0, .int 0]))) q_15 (.inl (G.2.2.1 0, 8, .inl (fun _ => 0))) q_15 = some (.inl (G.2.2.1 0, 8, .inl (fun _ => 0))) := pw_us
  refine pw_putF (pc := 31) (v := .ref q_15) hX dX1_init_31 hm_16 rfl inT_1 tyX1 tyX1_ok nmX1 5 (by decide) fl_RX1_23 rfl hmi rfl (tyX1_ok 5 (by decide)) rfl rfl (Nat.le_of_ble_eq_true rfl) [.ref q_1, .int 0, .null, .null, .ref q_8, .ref q_15, .int 0, .int 0] rfl ?_
  have hm_20 := pw_ke (a := a) (e := .inr (1, [.ref q_1, .int 0, .null, .null, .ref q_8, .ref q_15, .int 0, .int 0])) hm_17 (by omega)
  have hm_21 := pw_ke (a := a) (e := .inr (1, [.ref q_1, .int 0, .null, .null, .ref q_8, .ref q_15, .int 0, .int 0])) hm_18 (by omega)
  have hm_22 := pw_ke (a := a) (e := .inr (1, [.ref q_1, .int 0, .null, .null, .ref q_8, .ref q_15, .int 0, .int 0])) hm_19 (by omega)
  have hm_23 : pw_up (pw_up (pw_up (pw_up (pw_up (pw_up (pw_up M q_1 (.inl (G.2.2.1 2, 20, .inr (.inr (.inr (.inr (fun _ => none))))))) a (.inr (1, [.ref q_1, .int 0, .null, .null, .null, .null, .int 0, .int 0]))) a (.inr (1, [.ref q_1, .int 0, .null, .null, .null, .null, .int 0, .int 0]))) q_8 (.inl (G.2.2.1 0, 10, .inl (fun _ => 0)))) a (.inr (1, [.ref q_1, .int 0, .null, .null, .ref q_8, .null, .int 0, .int 0]))) q_15 (.inl (G.2.2.1 0, 8, .inl (fun _ => 0)))) a (.inr (1, [.ref q_1, .int 0, .null, .null, .ref q_8, .ref q_15, .int 0, .int 0])) a = some (.inr (1, [.ref q_1, .int 0, .null, .null, .ref q_8, .ref q_15, .int 0, .int 0])) := pw_us
  refine pw_aload_n (pc := 34) hX dX1_init_34 0 rfl ?_
  refine pw_iconst (pc := 35) (v := 0) hX dX1_init_35 (by decide) ?_
  refine pw_put (pc := 36) (v := .int 0) hX dX1_init_36 hm_23 rfl inT_1 tyX1 tyX1_ok nmX1 6 (by decide) fl_RX1_26 rfl (tyX1_ok 6 (by decide)) rfl rfl (Nat.le_of_ble_eq_true rfl) [.ref q_1, .int 0, .null, .null, .ref q_8, .ref q_15, .int 0, .int 0] rfl ?_
  have hm_24 := pw_ke (a := a) (e := .inr (1, [.ref q_1, .int 0, .null, .null, .ref q_8, .ref q_15, .int 0, .int 0])) hm_20 (by omega)
  have hm_25 := pw_ke (a := a) (e := .inr (1, [.ref q_1, .int 0, .null, .null, .ref q_8, .ref q_15, .int 0, .int 0])) hm_21 (by omega)
  have hm_26 := pw_ke (a := a) (e := .inr (1, [.ref q_1, .int 0, .null, .null, .ref q_8, .ref q_15, .int 0, .int 0])) hm_22 (by omega)
  have hm_27 : pw_up (pw_up (pw_up (pw_up (pw_up (pw_up (pw_up (pw_up M q_1 (.inl (G.2.2.1 2, 20, .inr (.inr (.inr (.inr (fun _ => none))))))) a (.inr (1, [.ref q_1, .int 0, .null, .null, .null, .null, .int 0, .int 0]))) a (.inr (1, [.ref q_1, .int 0, .null, .null, .null, .null, .int 0, .int 0]))) q_8 (.inl (G.2.2.1 0, 10, .inl (fun _ => 0)))) a (.inr (1, [.ref q_1, .int 0, .null, .null, .ref q_8, .null, .int 0, .int 0]))) q_15 (.inl (G.2.2.1 0, 8, .inl (fun _ => 0)))) a (.inr (1, [.ref q_1, .int 0, .null, .null, .ref q_8, .ref q_15, .int 0, .int 0]))) a (.inr (1, [.ref q_1, .int 0, .null, .null, .ref q_8, .ref q_15, .int 0, .int 0])) a = some (.inr (1, [.ref q_1, .int 0, .null, .null, .ref q_8, .ref q_15, .int 0, .int 0])) := pw_us
  refine pw_aload_n (pc := 39) hX dX1_init_39 0 rfl ?_
  refine pw_iconst (pc := 40) (v := 1) hX dX1_init_40 (by decide) ?_
  refine pw_put (pc := 41) (v := .int 1) hX dX1_init_41 hm_27 rfl inT_1 tyX1 tyX1_ok nmX1 7 (by decide) fl_RX1_29 rfl (tyX1_ok 7 (by decide)) rfl rfl (Nat.le_of_ble_eq_true rfl) [.ref q_1, .int 0, .null, .null, .ref q_8, .ref q_15, .int 0, .int 1] rfl ?_
  have hm_28 := pw_ke (a := a) (e := .inr (1, [.ref q_1, .int 0, .null, .null, .ref q_8, .ref q_15, .int 0, .int 1])) hm_24 (by omega)
  have hm_29 := pw_ke (a := a) (e := .inr (1, [.ref q_1, .int 0, .null, .null, .ref q_8, .ref q_15, .int 0, .int 1])) hm_25 (by omega)
  have hm_30 := pw_ke (a := a) (e := .inr (1, [.ref q_1, .int 0, .null, .null, .ref q_8, .ref q_15, .int 0, .int 1])) hm_26 (by omega)
  have hm_31 : pw_up (pw_up (pw_up (pw_up (pw_up (pw_up (pw_up (pw_up (pw_up M q_1 (.inl (G.2.2.1 2, 20, .inr (.inr (.inr (.inr (fun _ => none))))))) a (.inr (1, [.ref q_1, .int 0, .null, .null, .null, .null, .int 0, .int 0]))) a (.inr (1, [.ref q_1, .int 0, .null, .null, .null, .null, .int 0, .int 0]))) q_8 (.inl (G.2.2.1 0, 10, .inl (fun _ => 0)))) a (.inr (1, [.ref q_1, .int 0, .null, .null, .ref q_8, .null, .int 0, .int 0]))) q_15 (.inl (G.2.2.1 0, 8, .inl (fun _ => 0)))) a (.inr (1, [.ref q_1, .int 0, .null, .null, .ref q_8, .ref q_15, .int 0, .int 0]))) a (.inr (1, [.ref q_1, .int 0, .null, .null, .ref q_8, .ref q_15, .int 0, .int 0]))) a (.inr (1, [.ref q_1, .int 0, .null, .null, .ref q_8, .ref q_15, .int 0, .int 1])) a = some (.inr (1, [.ref q_1, .int 0, .null, .null, .ref q_8, .ref q_15, .int 0, .int 1])) := pw_us
  refine pw_iconst (pc := 44) (v := 0) hX dX1_init_44 (by decide) ?_
  refine pw_bipush (pc := 45) (v := 16) hX dX1_init_45 (by decide) ?_
  refine pw_iload_n (pc := 47) hX dX1_init_47 1 rfl ?_
  refine pw_mmin (pc := 48) hX dX1_init_48 mm_RX1_32 ⟨by decide, Nat.le_of_ble_eq_true rfl, Nat.le_of_ble_eq_true rfl, Nat.le_of_ble_eq_true rfl⟩ ?_
  refine pw_mmax (pc := 51) hX dX1_init_51 mm_RX1_38 ⟨by decide, Nat.le_of_ble_eq_true rfl, Nat.le_of_ble_eq_true rfl, Nat.le_of_ble_eq_true rfl⟩ ?_
  refine pw_cg (vb := .int (nI (wn p0))) (congrArg Value.int (wn_eq p0)) ?_
  refine pw_istore_n (pc := 54) hX [(2, .int (nI (wn p0))), (0, .ref a), (1, .int p0)] dX1_init_54 (by decide) rfl ?_
  refine pw_aload_n (pc := 55) hX dX1_init_55 1 rfl ?_
  refine pw_iload_n (pc := 56) hX dX1_init_56 0 rfl ?_
  refine pw_newq (pc := 57) (n := wn p0) hX dX1_init_57 cq_RX1_9 (Nat.le_trans (wn_le p0) (by decide)) (Nat.le_of_ble_eq_true rfl) (by have := wn_le p0; show 0 + 20 + 10 + 8 + wn p0 ≤ _; simp only [pw_rm]; omega) (fun q_32 hf_q_32 => ?_)
  have h34 : q_15 < q_32 := hf_q_32.2 _ _ hm_30
  have hm_33 := pw_ke (a := q_32) (e := .inl (G.2.2.1 2, wn p0, .inr (.inr (.inr (.inr (fun _ => none)))))) hm_31 (pw_fr.ne hf_q_32 hm_31)
  have hm_34 := pw_ke (a := q_32) (e := .inl (G.2.2.1 2, wn p0, .inr (.inr (.inr (.inr (fun _ => none)))))) hm_28 (pw_fr.ne hf_q_32 hm_28)
  have hm_35 := pw_ke (a := q_32) (e := .inl (G.2.2.1 2, wn p0, .inr (.inr (.inr (.inr (fun _ => none)))))) hm_29 (pw_fr.ne hf_q_32 hm_29)
  have hm_36 := pw_ke (a := q_32) (e := .inl (G.2.2.1 2, wn p0, .inr (.inr (.inr (.inr (fun _ => none)))))) hm_30 (pw_fr.ne hf_q_32 hm_30)
  have hm_37 : pw_up (pw_up (pw_up (pw_up (pw_up (pw_up (pw_up (pw_up (pw_up (pw_up M q_1 (.inl (G.2.2.1 2, 20, .inr (.inr (.inr (.inr (fun _ => none))))))) a (.inr (1, [.ref q_1, .int 0, .null, .null, .null, .null, .int 0, .int 0]))) a (.inr (1, [.ref q_1, .int 0, .null, .null, .null, .null, .int 0, .int 0]))) q_8 (.inl (G.2.2.1 0, 10, .inl (fun _ => 0)))) a (.inr (1, [.ref q_1, .int 0, .null, .null, .ref q_8, .null, .int 0, .int 0]))) q_15 (.inl (G.2.2.1 0, 8, .inl (fun _ => 0)))) a (.inr (1, [.ref q_1, .int 0, .null, .null, .ref q_8, .ref q_15, .int 0, .int 0]))) a (.inr (1, [.ref q_1, .int 0, .null, .null, .ref q_8, .ref q_15, .int 0, .int 0]))) a (.inr (1, [.ref q_1, .int 0, .null, .null, .ref q_8, .ref q_15, .int 0, .int 1]))) q_32 (.inl (G.2.2.1 2, wn p0, .inr (.inr (.inr (.inr (fun _ => none)))))) q_32 = some (.inl (G.2.2.1 2, wn p0, .inr (.inr (.inr (.inr (fun _ => none)))))) := pw_us
  refine pw_putF (pc := 60) (v := .ref q_32) hX dX1_init_60 hm_33 rfl inT_1 tyX1 tyX1_ok nmX1 2 (by decide) fl_RX1_41 rfl hmi rfl (tyX1_ok 2 (by decide)) rfl rfl (Nat.le_of_ble_eq_true rfl) [.ref q_1, .int 0, .ref q_32, .null, .ref q_8, .ref q_15, .int 0, .int 1] rfl ?_
  have hm_38 := pw_ke (a := a) (e := .inr (1, [.ref q_1, .int 0, .ref q_32, .null, .ref q_8, .ref q_15, .int 0, .int 1])) hm_34 (by omega)
  have hm_39 := pw_ke (a := a) (e := .inr (1, [.ref q_1, .int 0, .ref q_32, .null, .ref q_8, .ref q_15, .int 0, .int 1])) hm_35 (by omega)
  have hm_40 := pw_ke (a := a) (e := .inr (1, [.ref q_1, .int 0, .ref q_32, .null, .ref q_8, .ref q_15, .int 0, .int 1])) hm_36 (by omega)
  have hm_41 := pw_ke (a := a) (e := .inr (1, [.ref q_1, .int 0, .ref q_32, .null, .ref q_8, .ref q_15, .int 0, .int 1])) hm_37 (by omega)
  have hm_42 : pw_up (pw_up (pw_up (pw_up (pw_up (pw_up (pw_up (pw_up (pw_up (pw_up (pw_up M q_1 (.inl (G.2.2.1 2, 20, .inr (.inr (.inr (.inr (fun _ => none))))))) a (.inr (1, [.ref q_1, .int 0, .null, .null, .null, .null, .int 0, .int 0]))) a (.inr (1, [.ref q_1, .int 0, .null, .null, .null, .null, .int 0, .int 0]))) q_8 (.inl (G.2.2.1 0, 10, .inl (fun _ => 0)))) a (.inr (1, [.ref q_1, .int 0, .null, .null, .ref q_8, .null, .int 0, .int 0]))) q_15 (.inl (G.2.2.1 0, 8, .inl (fun _ => 0)))) a (.inr (1, [.ref q_1, .int 0, .null, .null, .ref q_8, .ref q_15, .int 0, .int 0]))) a (.inr (1, [.ref q_1, .int 0, .null, .null, .ref q_8, .ref q_15, .int 0, .int 0]))) a (.inr (1, [.ref q_1, .int 0, .null, .null, .ref q_8, .ref q_15, .int 0, .int 1]))) q_32 (.inl (G.2.2.1 2, wn p0, .inr (.inr (.inr (.inr (fun _ => none))))))) a (.inr (1, [.ref q_1, .int 0, .ref q_32, .null, .ref q_8, .ref q_15, .int 0, .int 1])) a = some (.inr (1, [.ref q_1, .int 0, .ref q_32, .null, .ref q_8, .ref q_15, .int 0, .int 1])) := pw_us
  refine pw_aload_n (pc := 63) hX dX1_init_63 1 rfl ?_
  refine pw_iload_n (pc := 64) hX dX1_init_64 0 rfl ?_
  refine pw_newz (pc := 65) (n := wn p0) hX dX1_init_65 ac_boolean (Nat.le_trans (wn_le p0) (by decide)) (Nat.le_of_ble_eq_true rfl) (by have := wn_le p0; show 0 + 20 + 10 + 8 + (wn p0) + wn p0 ≤ _; simp only [pw_rm]; omega) (fun q_43 hf_q_43 => ?_)
  have h45 : q_32 < q_43 := hf_q_43.2 _ _ hm_41
  have hm_44 := pw_ke (a := q_43) (e := .inl (G.2.2.1 1, wn p0, .inl (fun _ => 0))) hm_42 (pw_fr.ne hf_q_43 hm_42)
  have hm_45 := pw_ke (a := q_43) (e := .inl (G.2.2.1 1, wn p0, .inl (fun _ => 0))) hm_38 (pw_fr.ne hf_q_43 hm_38)
  have hm_46 := pw_ke (a := q_43) (e := .inl (G.2.2.1 1, wn p0, .inl (fun _ => 0))) hm_39 (pw_fr.ne hf_q_43 hm_39)
  have hm_47 := pw_ke (a := q_43) (e := .inl (G.2.2.1 1, wn p0, .inl (fun _ => 0))) hm_40 (pw_fr.ne hf_q_43 hm_40)
  have hm_48 := pw_ke (a := q_43) (e := .inl (G.2.2.1 1, wn p0, .inl (fun _ => 0))) hm_41 (pw_fr.ne hf_q_43 hm_41)
  have hm_49 : pw_up (pw_up (pw_up (pw_up (pw_up (pw_up (pw_up (pw_up (pw_up (pw_up (pw_up (pw_up M q_1 (.inl (G.2.2.1 2, 20, .inr (.inr (.inr (.inr (fun _ => none))))))) a (.inr (1, [.ref q_1, .int 0, .null, .null, .null, .null, .int 0, .int 0]))) a (.inr (1, [.ref q_1, .int 0, .null, .null, .null, .null, .int 0, .int 0]))) q_8 (.inl (G.2.2.1 0, 10, .inl (fun _ => 0)))) a (.inr (1, [.ref q_1, .int 0, .null, .null, .ref q_8, .null, .int 0, .int 0]))) q_15 (.inl (G.2.2.1 0, 8, .inl (fun _ => 0)))) a (.inr (1, [.ref q_1, .int 0, .null, .null, .ref q_8, .ref q_15, .int 0, .int 0]))) a (.inr (1, [.ref q_1, .int 0, .null, .null, .ref q_8, .ref q_15, .int 0, .int 0]))) a (.inr (1, [.ref q_1, .int 0, .null, .null, .ref q_8, .ref q_15, .int 0, .int 1]))) q_32 (.inl (G.2.2.1 2, wn p0, .inr (.inr (.inr (.inr (fun _ => none))))))) a (.inr (1, [.ref q_1, .int 0, .ref q_32, .null, .ref q_8, .ref q_15, .int 0, .int 1]))) q_43 (.inl (G.2.2.1 1, wn p0, .inl (fun _ => 0))) q_43 = some (.inl (G.2.2.1 1, wn p0, .inl (fun _ => 0))) := pw_us
  refine pw_putF (pc := 67) (v := .ref q_43) hX dX1_init_67 hm_44 rfl inT_1 tyX1 tyX1_ok nmX1 3 (by decide) fl_RX1_44 rfl hmi rfl (tyX1_ok 3 (by decide)) rfl rfl (Nat.le_of_ble_eq_true rfl) [.ref q_1, .int 0, .ref q_32, .ref q_43, .ref q_8, .ref q_15, .int 0, .int 1] rfl ?_
  have hm_50 := pw_ke (a := a) (e := .inr (1, [.ref q_1, .int 0, .ref q_32, .ref q_43, .ref q_8, .ref q_15, .int 0, .int 1])) hm_45 (by omega)
  have hm_51 := pw_ke (a := a) (e := .inr (1, [.ref q_1, .int 0, .ref q_32, .ref q_43, .ref q_8, .ref q_15, .int 0, .int 1])) hm_46 (by omega)
  have hm_52 := pw_ke (a := a) (e := .inr (1, [.ref q_1, .int 0, .ref q_32, .ref q_43, .ref q_8, .ref q_15, .int 0, .int 1])) hm_47 (by omega)
  have hm_53 := pw_ke (a := a) (e := .inr (1, [.ref q_1, .int 0, .ref q_32, .ref q_43, .ref q_8, .ref q_15, .int 0, .int 1])) hm_48 (by omega)
  have hm_54 := pw_ke (a := a) (e := .inr (1, [.ref q_1, .int 0, .ref q_32, .ref q_43, .ref q_8, .ref q_15, .int 0, .int 1])) hm_49 (by omega)
  have hm_55 : pw_up (pw_up (pw_up (pw_up (pw_up (pw_up (pw_up (pw_up (pw_up (pw_up (pw_up (pw_up (pw_up M q_1 (.inl (G.2.2.1 2, 20, .inr (.inr (.inr (.inr (fun _ => none))))))) a (.inr (1, [.ref q_1, .int 0, .null, .null, .null, .null, .int 0, .int 0]))) a (.inr (1, [.ref q_1, .int 0, .null, .null, .null, .null, .int 0, .int 0]))) q_8 (.inl (G.2.2.1 0, 10, .inl (fun _ => 0)))) a (.inr (1, [.ref q_1, .int 0, .null, .null, .ref q_8, .null, .int 0, .int 0]))) q_15 (.inl (G.2.2.1 0, 8, .inl (fun _ => 0)))) a (.inr (1, [.ref q_1, .int 0, .null, .null, .ref q_8, .ref q_15, .int 0, .int 0]))) a (.inr (1, [.ref q_1, .int 0, .null, .null, .ref q_8, .ref q_15, .int 0, .int 0]))) a (.inr (1, [.ref q_1, .int 0, .null, .null, .ref q_8, .ref q_15, .int 0, .int 1]))) q_32 (.inl (G.2.2.1 2, wn p0, .inr (.inr (.inr (.inr (fun _ => none))))))) a (.inr (1, [.ref q_1, .int 0, .ref q_32, .null, .ref q_8, .ref q_15, .int 0, .int 1]))) q_43 (.inl (G.2.2.1 1, wn p0, .inl (fun _ => 0)))) a (.inr (1, [.ref q_1, .int 0, .ref q_32, .ref q_43, .ref q_8, .ref q_15, .int 0, .int 1])) a = some (.inr (1, [.ref q_1, .int 0, .ref q_32, .ref q_43, .ref q_8, .ref q_15, .int 0, .int 1])) := pw_us
  exact pw_vret hX dX1_init_70 hrt ⟨by decide, by have := wn_le p0; show 0 + 20 + 10 + 8 + (wn p0) + (wn p0) ≤ 70; omega⟩ ⟨rfl, ad_0 a q_1 q_8 q_15 q_32 q_43, q_1, rfl, hab, (by intro x h1 h2; rcases (show x = 1 ∨ x = 2 ∨ x = 3 ∨ x = 4 ∨ x = 5 by omega) with rfl | rfl | rfl | rfl | rfl <;> simp [ad_0] <;> omega), fun os pl wa pr de => cw_init (wn_le p0) ha1 h12 h23 h34 h45 hm_55 hm_50 hm_51 hm_52 hm_53 hm_54 os pl wa pr de, (kp_up (kp_new (kp_up (kp_new (kp_up (kp_up (kp_up (kp_new (kp_up (kp_new (kp_up (kp_up (kp_new kp_rf hf_q_1 _) _) _) hf_q_8 _) _) hf_q_15 _) _) _) _) hf_q_32 _) _) hf_q_43 _) _)⟩
end
section
theorem fl_RX2_27 : Cond.fieldLink RX2 27 (TX2 9).1 (TX2 9).2.1 (TX2 9).2.2.1 ∈ pw_T := pw_memT (by decide +kernel) (by decide +kernel)
theorem inT_2 : ∀ w ∈ u_ws RX2 TX2 13, w ∈ pw_T := by decide +kernel
theorem fl_RX2_30 : Cond.fieldLink RX2 30 (TX2 10).1 (TX2 10).2.1 (TX2 10).2.2.1 ∈ pw_T := pw_memT (by decide +kernel) (by decide +kernel)
theorem fl_RX2_33 : Cond.fieldLink RX2 33 (TX2 11).1 (TX2 11).2.1 (TX2 11).2.2.1 ∈ pw_T := pw_memT (by decide +kernel) (by decide +kernel)
theorem fl_RX2_73 : Cond.fieldLink RX2 73 (TX2 4).1 (TX2 4).2.1 (TX2 4).2.2.1 ∈ pw_T := pw_memT (by decide +kernel) (by decide +kernel)
theorem ok_X2_hasLine : pw_ok yX2_hasLine cX2_hasLine 3 (some .boolean) 2 := ⟨pw_memT (by decide +kernel) (by decide +kernel), pw_memT (by decide +kernel) (by decide +kernel), by decide +kernel, by decide +kernel, by decide +kernel, by decide +kernel⟩
theorem lk_RX2_46 : Cond.methodLink RX2 46 yX2_hasLine ∈ pw_T ∧ Cond.instanceMethod yX2_hasLine ∈ pw_T ∧ Cond.selects RX2 yX2_hasLine yX2_hasLine ∈ pw_T := ⟨pw_memT (by decide +kernel) (by decide +kernel), pw_memT (by decide +kernel) (by decide +kernel), pw_memT (by decide +kernel) (by decide +kernel)⟩
theorem fl_RX2_50 : Cond.fieldLink RX2 50 (TX2 3).1 (TX2 3).2.1 (TX2 3).2.2.1 ∈ pw_T := pw_memT (by decide +kernel) (by decide +kernel)
theorem fl_RX2_24 : Cond.fieldLink RX2 24 (TX2 8).1 (TX2 8).2.1 (TX2 8).2.2.1 ∈ pw_T := pw_memT (by decide +kernel) (by decide +kernel)
theorem fl_RX2_43 : Cond.fieldLink RX2 43 (TX2 5).1 (TX2 5).2.1 (TX2 5).2.2.1 ∈ pw_T := pw_memT (by decide +kernel) (by decide +kernel)
end
section
/-! ===== the model's state: the same words, its goods in rows of ten ===== -/
def fl (f : Nat → Nat → Int32) : Nat → Int32 := fun k => f (k / 10) (k % 10)
theorem fl_at (f : Nat → Nat → Int32) (j : Nat) {g : Nat} (hg : g < 10) : fl f (10 * j + g) = f j g := by
  unfold fl
  rw [show (10 * j + g) / 10 = j by omega, show (10 * j + g) % 10 = g by omega]
theorem fl_up (f : Nat → Nat → Int32) (j : Nat) {g : Nat} (hg : g < 10) (v : Int32) : upd (fl f) (10 * j + g) v = fl (va_up f j (upd (f j) g v)) := by
  funext k
  unfold fl
  by_cases hk : k = 10 * j + g
  · subst hk
    rw [show (10 * j + g) / 10 = j by omega, show (10 * j + g) % 10 = g by omega, va_up_self]
    exact (if_pos rfl).trans (if_pos rfl).symm
  · refine (if_neg hk).trans ?_
    show f (k / 10) (k % 10) = va_up f j (upd (f j) g v) (k / 10) (k % 10)
    by_cases h1 : k / 10 = j
    · rw [h1, va_up_self, pk_un (fun h2 => hk (by omega))]
    · rw [va_up_ne _ _ h1]
def mw (G : pw_G) (am : Nat → Nat) (n oc : Nat) (td th : Int32) (sL : Int64) (dk to er os pl : Nat → Int32) (wa pr la : Nat → Nat → Int32) (M : pw_M) : Prop :=
  M (am 0) = some (.inr (2, [.int (nI n), .ref (am 1), .ref (am 2), .int (nI oc), .int td, .int th, .long sL, .ref (am 3), .ref (am 4), .ref (am 5), .ref (am 6), .ref (am 7), .ref (am 8)])) ∧
  M (am 1) = some (.inl (G.2.2.1 1, 16, .inl (dk))) ∧
  M (am 2) = some (.inl (G.2.2.1 0, 10, .inl (to))) ∧
  M (am 3) = some (.inl (G.2.2.1 0, 20, .inl (os))) ∧
  M (am 4) = some (.inl (G.2.2.1 0, 20, .inl (pl))) ∧
  M (am 5) = some (.inl (G.2.2.1 0, 200, .inl (fl wa))) ∧
  M (am 6) = some (.inl (G.2.2.1 0, 200, .inl (fl pr))) ∧
  M (am 7) = some (.inl (G.2.2.1 0, 200, .inl (fl la))) ∧
  M (am 8) = some (.inl (G.2.2.1 0, 8, .inl (er))) ∧
  (∀ x y : Nat, x < 9 → y < 9 → am x = am y → x = y) ∧ n ≤ 16 ∧ oc ≤ 20
section MWU
variable {G : pw_G} {am : Nat → Nat} {n oc : Nat} {td th : Int32} {sL : Int64} {dk to er os pl : Nat → Int32} {wa pr la : Nat → Nat → Int32} {M : pw_M}
theorem mw_i (h : mw G am n oc td th sL dk to er os pl wa pr la M) : ∀ x y : Nat, x < 9 → y < 9 → am x = am y → x = y := h.2.2.2.2.2.2.2.2.2.1
theorem mw_n (h : mw G am n oc td th sL dk to er os pl wa pr la M) : n ≤ 16 := h.2.2.2.2.2.2.2.2.2.2.1
theorem mw_oc (h : mw G am n oc td th sL dk to er os pl wa pr la M) : oc ≤ 20 := h.2.2.2.2.2.2.2.2.2.2.2
theorem mw_ne (h : mw G am n oc td th sL dk to er os pl wa pr la M) {x y : Nat} (hx : x < 9) (hy : y < 9) (hn : x ≠ y) : am x ≠ am y := fun e => hn (mw_i h x y hx hy e)
theorem mw_dk (h : mw G am n oc td th sL dk to er os pl wa pr la M) (f : Nat → Int32) : mw G am n oc td th sL f to er os pl wa pr la (pw_up M (am 1) (.inl (G.2.2.1 1, 16, .inl f))) := by
  exact ⟨pw_ke h.1 (mw_ne h (x := 0) (y := 1) (by decide) (by decide) (by decide)), pw_us, pw_ke h.2.2.1 (mw_ne h (x := 2) (y := 1) (by decide) (by decide) (by decide)), pw_ke h.2.2.2.1 (mw_ne h (x := 3) (y := 1) (by decide) (by decide) (by decide)), pw_ke h.2.2.2.2.1 (mw_ne h (x := 4) (y := 1) (by decide) (by decide) (by decide)), pw_ke h.2.2.2.2.2.1 (mw_ne h (x := 5) (y := 1) (by decide) (by decide) (by decide)), pw_ke h.2.2.2.2.2.2.1 (mw_ne h (x := 6) (y := 1) (by decide) (by decide) (by decide)), pw_ke h.2.2.2.2.2.2.2.1 (mw_ne h (x := 7) (y := 1) (by decide) (by decide) (by decide)), pw_ke h.2.2.2.2.2.2.2.2.1 (mw_ne h (x := 8) (y := 1) (by decide) (by decide) (by decide)), mw_i h, mw_n h, mw_oc h⟩
theorem mw_to (h : mw G am n oc td th sL dk to er os pl wa pr la M) (f : Nat → Int32) : mw G am n oc td th sL dk f er os pl wa pr la (pw_up M (am 2) (.inl (G.2.2.1 0, 10, .inl f))) := by
  exact ⟨pw_ke h.1 (mw_ne h (x := 0) (y := 2) (by decide) (by decide) (by decide)), pw_ke h.2.1 (mw_ne h (x := 1) (y := 2) (by decide) (by decide) (by decide)), pw_us, pw_ke h.2.2.2.1 (mw_ne h (x := 3) (y := 2) (by decide) (by decide) (by decide)), pw_ke h.2.2.2.2.1 (mw_ne h (x := 4) (y := 2) (by decide) (by decide) (by decide)), pw_ke h.2.2.2.2.2.1 (mw_ne h (x := 5) (y := 2) (by decide) (by decide) (by decide)), pw_ke h.2.2.2.2.2.2.1 (mw_ne h (x := 6) (y := 2) (by decide) (by decide) (by decide)), pw_ke h.2.2.2.2.2.2.2.1 (mw_ne h (x := 7) (y := 2) (by decide) (by decide) (by decide)), pw_ke h.2.2.2.2.2.2.2.2.1 (mw_ne h (x := 8) (y := 2) (by decide) (by decide) (by decide)), mw_i h, mw_n h, mw_oc h⟩
theorem mw_os (h : mw G am n oc td th sL dk to er os pl wa pr la M) (f : Nat → Int32) : mw G am n oc td th sL dk to er f pl wa pr la (pw_up M (am 3) (.inl (G.2.2.1 0, 20, .inl f))) := by
  exact ⟨pw_ke h.1 (mw_ne h (x := 0) (y := 3) (by decide) (by decide) (by decide)), pw_ke h.2.1 (mw_ne h (x := 1) (y := 3) (by decide) (by decide) (by decide)), pw_ke h.2.2.1 (mw_ne h (x := 2) (y := 3) (by decide) (by decide) (by decide)), pw_us, pw_ke h.2.2.2.2.1 (mw_ne h (x := 4) (y := 3) (by decide) (by decide) (by decide)), pw_ke h.2.2.2.2.2.1 (mw_ne h (x := 5) (y := 3) (by decide) (by decide) (by decide)), pw_ke h.2.2.2.2.2.2.1 (mw_ne h (x := 6) (y := 3) (by decide) (by decide) (by decide)), pw_ke h.2.2.2.2.2.2.2.1 (mw_ne h (x := 7) (y := 3) (by decide) (by decide) (by decide)), pw_ke h.2.2.2.2.2.2.2.2.1 (mw_ne h (x := 8) (y := 3) (by decide) (by decide) (by decide)), mw_i h, mw_n h, mw_oc h⟩
theorem mw_pl (h : mw G am n oc td th sL dk to er os pl wa pr la M) (f : Nat → Int32) : mw G am n oc td th sL dk to er os f wa pr la (pw_up M (am 4) (.inl (G.2.2.1 0, 20, .inl f))) := by
  exact ⟨pw_ke h.1 (mw_ne h (x := 0) (y := 4) (by decide) (by decide) (by decide)), pw_ke h.2.1 (mw_ne h (x := 1) (y := 4) (by decide) (by decide) (by decide)), pw_ke h.2.2.1 (mw_ne h (x := 2) (y := 4) (by decide) (by decide) (by decide)), pw_ke h.2.2.2.1 (mw_ne h (x := 3) (y := 4) (by decide) (by decide) (by decide)), pw_us, pw_ke h.2.2.2.2.2.1 (mw_ne h (x := 5) (y := 4) (by decide) (by decide) (by decide)), pw_ke h.2.2.2.2.2.2.1 (mw_ne h (x := 6) (y := 4) (by decide) (by decide) (by decide)), pw_ke h.2.2.2.2.2.2.2.1 (mw_ne h (x := 7) (y := 4) (by decide) (by decide) (by decide)), pw_ke h.2.2.2.2.2.2.2.2.1 (mw_ne h (x := 8) (y := 4) (by decide) (by decide) (by decide)), mw_i h, mw_n h, mw_oc h⟩
theorem mw_wa (h : mw G am n oc td th sL dk to er os pl wa pr la M) (j g : Nat) (hg : g < 10) (v : Int32) : mw G am n oc td th sL dk to er os pl (va_up wa j (upd (wa j) g v)) pr la (pw_up M (am 5) (.inl (G.2.2.1 0, 200, .inl (upd (fl wa) (10 * j + g) v)))) := by
  rw [fl_up wa j hg v]
  exact ⟨pw_ke h.1 (mw_ne h (x := 0) (y := 5) (by decide) (by decide) (by decide)), pw_ke h.2.1 (mw_ne h (x := 1) (y := 5) (by decide) (by decide) (by decide)), pw_ke h.2.2.1 (mw_ne h (x := 2) (y := 5) (by decide) (by decide) (by decide)), pw_ke h.2.2.2.1 (mw_ne h (x := 3) (y := 5) (by decide) (by decide) (by decide)), pw_ke h.2.2.2.2.1 (mw_ne h (x := 4) (y := 5) (by decide) (by decide) (by decide)), pw_us, pw_ke h.2.2.2.2.2.2.1 (mw_ne h (x := 6) (y := 5) (by decide) (by decide) (by decide)), pw_ke h.2.2.2.2.2.2.2.1 (mw_ne h (x := 7) (y := 5) (by decide) (by decide) (by decide)), pw_ke h.2.2.2.2.2.2.2.2.1 (mw_ne h (x := 8) (y := 5) (by decide) (by decide) (by decide)), mw_i h, mw_n h, mw_oc h⟩
theorem mw_pr (h : mw G am n oc td th sL dk to er os pl wa pr la M) (j g : Nat) (hg : g < 10) (v : Int32) : mw G am n oc td th sL dk to er os pl wa (va_up pr j (upd (pr j) g v)) la (pw_up M (am 6) (.inl (G.2.2.1 0, 200, .inl (upd (fl pr) (10 * j + g) v)))) := by
  rw [fl_up pr j hg v]
  exact ⟨pw_ke h.1 (mw_ne h (x := 0) (y := 6) (by decide) (by decide) (by decide)), pw_ke h.2.1 (mw_ne h (x := 1) (y := 6) (by decide) (by decide) (by decide)), pw_ke h.2.2.1 (mw_ne h (x := 2) (y := 6) (by decide) (by decide) (by decide)), pw_ke h.2.2.2.1 (mw_ne h (x := 3) (y := 6) (by decide) (by decide) (by decide)), pw_ke h.2.2.2.2.1 (mw_ne h (x := 4) (y := 6) (by decide) (by decide) (by decide)), pw_ke h.2.2.2.2.2.1 (mw_ne h (x := 5) (y := 6) (by decide) (by decide) (by decide)), pw_us, pw_ke h.2.2.2.2.2.2.2.1 (mw_ne h (x := 7) (y := 6) (by decide) (by decide) (by decide)), pw_ke h.2.2.2.2.2.2.2.2.1 (mw_ne h (x := 8) (y := 6) (by decide) (by decide) (by decide)), mw_i h, mw_n h, mw_oc h⟩
theorem mw_la (h : mw G am n oc td th sL dk to er os pl wa pr la M) (j g : Nat) (hg : g < 10) (v : Int32) : mw G am n oc td th sL dk to er os pl wa pr (va_up la j (upd (la j) g v)) (pw_up M (am 7) (.inl (G.2.2.1 0, 200, .inl (upd (fl la) (10 * j + g) v)))) := by
  rw [fl_up la j hg v]
  exact ⟨pw_ke h.1 (mw_ne h (x := 0) (y := 7) (by decide) (by decide) (by decide)), pw_ke h.2.1 (mw_ne h (x := 1) (y := 7) (by decide) (by decide) (by decide)), pw_ke h.2.2.1 (mw_ne h (x := 2) (y := 7) (by decide) (by decide) (by decide)), pw_ke h.2.2.2.1 (mw_ne h (x := 3) (y := 7) (by decide) (by decide) (by decide)), pw_ke h.2.2.2.2.1 (mw_ne h (x := 4) (y := 7) (by decide) (by decide) (by decide)), pw_ke h.2.2.2.2.2.1 (mw_ne h (x := 5) (y := 7) (by decide) (by decide) (by decide)), pw_ke h.2.2.2.2.2.2.1 (mw_ne h (x := 6) (y := 7) (by decide) (by decide) (by decide)), pw_us, pw_ke h.2.2.2.2.2.2.2.2.1 (mw_ne h (x := 8) (y := 7) (by decide) (by decide) (by decide)), mw_i h, mw_n h, mw_oc h⟩
theorem mw_er (h : mw G am n oc td th sL dk to er os pl wa pr la M) (f : Nat → Int32) : mw G am n oc td th sL dk to f os pl wa pr la (pw_up M (am 8) (.inl (G.2.2.1 0, 8, .inl f))) := by
  exact ⟨pw_ke h.1 (mw_ne h (x := 0) (y := 8) (by decide) (by decide) (by decide)), pw_ke h.2.1 (mw_ne h (x := 1) (y := 8) (by decide) (by decide) (by decide)), pw_ke h.2.2.1 (mw_ne h (x := 2) (y := 8) (by decide) (by decide) (by decide)), pw_ke h.2.2.2.1 (mw_ne h (x := 3) (y := 8) (by decide) (by decide) (by decide)), pw_ke h.2.2.2.2.1 (mw_ne h (x := 4) (y := 8) (by decide) (by decide) (by decide)), pw_ke h.2.2.2.2.2.1 (mw_ne h (x := 5) (y := 8) (by decide) (by decide) (by decide)), pw_ke h.2.2.2.2.2.2.1 (mw_ne h (x := 6) (y := 8) (by decide) (by decide) (by decide)), pw_ke h.2.2.2.2.2.2.2.1 (mw_ne h (x := 7) (y := 8) (by decide) (by decide) (by decide)), pw_us, mw_i h, mw_n h, mw_oc h⟩
theorem mw_ob (h : mw G am n oc td th sL dk to er os pl wa pr la M) (oc9 : Nat) (ho : oc9 ≤ 20) (td9 th9 : Int32) (sL9 : Int64) : mw G am n oc9 td9 th9 sL9 dk to er os pl wa pr la (pw_up M (am 0) (.inr (2, [.int (nI n), .ref (am 1), .ref (am 2), .int (nI oc9), .int td9, .int th9, .long sL9, .ref (am 3), .ref (am 4), .ref (am 5), .ref (am 6), .ref (am 7), .ref (am 8)]))) := by
  exact ⟨pw_us, pw_ke h.2.1 (mw_ne h (x := 1) (y := 0) (by decide) (by decide) (by decide)), pw_ke h.2.2.1 (mw_ne h (x := 2) (y := 0) (by decide) (by decide) (by decide)), pw_ke h.2.2.2.1 (mw_ne h (x := 3) (y := 0) (by decide) (by decide) (by decide)), pw_ke h.2.2.2.2.1 (mw_ne h (x := 4) (y := 0) (by decide) (by decide) (by decide)), pw_ke h.2.2.2.2.2.1 (mw_ne h (x := 5) (y := 0) (by decide) (by decide) (by decide)), pw_ke h.2.2.2.2.2.2.1 (mw_ne h (x := 6) (y := 0) (by decide) (by decide) (by decide)), pw_ke h.2.2.2.2.2.2.2.1 (mw_ne h (x := 7) (y := 0) (by decide) (by decide) (by decide)), pw_ke h.2.2.2.2.2.2.2.2.1 (mw_ne h (x := 8) (y := 0) (by decide) (by decide) (by decide)), mw_i h, mw_n h, ho⟩
end MWU
theorem nI_m1 {j : Nat} (h : j < 2 ^ 31) : ¬ nI j = -1 := fun e => absurd (nI_pos' h) (by rw [e]; decide)
set_option maxHeartbeats 4000000 in
set_option maxRecDepth 100000 in
theorem mt_below (l : Launch) (hl : l.stackTraces = false) (G : pw_G) (M : pw_M) (x : Int32) (N : Nat) (hN : N < 2 ^ 31) : pw_Met l yX2_below cX2_below 2 (some .boolean) 6 0 0 G [.int x, .int (nI N)] M (fun v9 M9 => M = M9 ∧ (v9 = some (.int 1) ∧ ir x N ∨ v9 = some (.int 0) ∧ ¬ ir x N)) := by
  refine pw_of hl (by decide +kernel) (Nat.le_of_ble_eq_true rfl) [(0, .int x), (1, .int (nI N))] rfl ?_
  intro p9 e9 s9 m9 args9 below9 meth9 c9 hX hrt hmi
  refine pw_iload_n (pc := 0) hX dX2_below_0 0 rfl ?_
  refine pw_if_lt (pc := 1) hX 13 dX2_below_1 (by decide) (fun hc_1 => ?_) (fun hc_1 => ?_)
  · refine pw_iconst (pc := 13) (v := 0) hX dX2_below_13 (by decide) ?_
    exact pw_zret hX dX2_below_14 hrt rfl ⟨by decide, by decide⟩ ⟨rfl, Or.inr ⟨rfl, fun h => absurd (ir_pos hN h) (Int32.not_le.mpr hc_1)⟩⟩
  · refine pw_iload_n (pc := 4) hX dX2_below_4 0 rfl ?_
    refine pw_iload_n (pc := 5) hX dX2_below_5 1 rfl ?_
    refine pw_icmp_ge (pc := 6) hX 13 dX2_below_6 (by decide) (fun hc_2 => ?_) (fun hc_2 => ?_)
    · refine pw_iconst (pc := 13) (v := 0) hX dX2_below_13 (by decide) ?_
      exact pw_zret hX dX2_below_14 hrt rfl ⟨by decide, by decide⟩ ⟨rfl, Or.inr ⟨rfl, fun h => absurd (ir_up hN h) (Int32.not_lt.mpr hc_2)⟩⟩
    · refine pw_iconst (pc := 9) (v := 1) hX dX2_below_9 (by decide) ?_
      refine pw_goto (pc := 10) hX 14 dX2_below_10 (by decide) ?_
      exact pw_zret hX dX2_below_14 hrt rfl ⟨by decide, by decide⟩ ⟨rfl, Or.inl ⟨rfl, ir_lt hN (Int32.not_lt.mp hc_1) (Int32.not_le.mp hc_2)⟩⟩
set_option maxHeartbeats 4000000 in
set_option maxRecDepth 100000 in
theorem mt_hasLine (l : Launch) (hl : l.stackTraces = false) (G : pw_G) (M : pw_M) (am : Nat → Nat) (n oc : Nat) (td th : Int32) (sL : Int64) (dk to er os pl : Nat → Int32) (wa pr la : Nat → Nat → Int32) (hm : mw G am n oc td th sL dk to er os pl wa pr la M) (j g : Nat) (hj : j < oc) (hg : g < 10) : pw_Met l yX2_hasLine cX2_hasLine 3 (some .boolean) 6 0 0 G [.ref (am 0), .int (nI j), .int (nI g)] M (fun v9 M9 => v9 = some (.int (if 0 < wa j g then 1 else 0)) ∧ M = M9) := by
  refine pw_of hl (by decide +kernel) (Nat.le_of_ble_eq_true rfl) [(0, .ref (am 0)), (1, .int (nI j)), (2, .int (nI g))] rfl ?_
  intro p9 e9 s9 m9 args9 below9 meth9 c9 hX hrt hmi
  have hoc := mw_oc hm
  refine pw_aload_n (pc := 0) hX dX2_hasLine_0 0 rfl ?_
  refine pw_get (pc := 1) hX dX2_hasLine_1 hm.1 rfl inT_2 9 (by decide) fl_RX2_27 rfl ?_
  refine pw_bipush (pc := 4) (v := 10) hX dX2_hasLine_4 (by decide) ?_
  refine pw_iload_n (pc := 6) hX dX2_hasLine_6 1 rfl ?_
  refine pw_imul (pc := 7) (z := nI (10 * j)) hX dX2_hasLine_7 (pk_mul 10 _) ?_
  refine pw_iload_n (pc := 8) hX dX2_hasLine_8 2 rfl ?_
  refine pw_iadd (pc := 9) (z := nI (10 * j + g)) hX dX2_hasLine_9 (nI_add _ _) ?_
  refine pw_iald (pc := 10) (j := 10 * j + g) hX dX2_hasLine_10 hm.2.2.2.2.2.1 (by omega) (by decide) ?_
  refine pw_cg (vb := .int (wa j g)) (congrArg Value.int (fl_at wa j hg)) ?_
  refine pw_if_le (pc := 11) hX 18 dX2_hasLine_11 (by decide) (fun hc_1 => ?_) (fun hc_1 => ?_)
  · refine pw_iconst (pc := 18) (v := 0) hX dX2_hasLine_18 (by decide) ?_
    exact pw_zret hX dX2_hasLine_19 hrt rfl ⟨by decide, by decide⟩ ⟨by rw [if_neg (Int32.not_lt.mpr hc_1)], rfl⟩
  · refine pw_iconst (pc := 14) (v := 1) hX dX2_hasLine_14 (by decide) ?_
    refine pw_goto (pc := 15) hX 19 dX2_hasLine_15 (by decide) ?_
    exact pw_zret hX dX2_hasLine_19 hrt rfl ⟨by decide, by decide⟩ ⟨by rw [if_pos (Int32.not_le.mp hc_1)], rfl⟩
set_option maxHeartbeats 4000000 in
set_option maxRecDepth 100000 in
theorem mt_missing (l : Launch) (hl : l.stackTraces = false) (G : pw_G) (M : pw_M) (am : Nat → Nat) (n oc : Nat) (td th : Int32) (sL : Int64) (dk to er os pl : Nat → Int32) (wa pr la : Nat → Nat → Int32) (hm : mw G am n oc td th sL dk to er os pl wa pr la M) (j g : Nat) (hj : j < oc) (hg : g < 10) : pw_Met l yX2_missing cX2_missing 3 (some .int) 6 0 0 G [.ref (am 0), .int (nI j), .int (nI g)] M (fun v9 M9 => v9 = some (.int (wa j g - pr j g)) ∧ M = M9) := by
  refine pw_of hl (by decide +kernel) (Nat.le_of_ble_eq_true rfl) [(0, .ref (am 0)), (1, .int (nI j)), (2, .int (nI g))] rfl ?_
  intro p9 e9 s9 m9 args9 below9 meth9 c9 hX hrt hmi
  have hoc := mw_oc hm
  refine pw_aload_n (pc := 0) hX dX2_missing_0 0 rfl ?_
  refine pw_get (pc := 1) hX dX2_missing_1 hm.1 rfl inT_2 9 (by decide) fl_RX2_27 rfl ?_
  refine pw_bipush (pc := 4) (v := 10) hX dX2_missing_4 (by decide) ?_
  refine pw_iload_n (pc := 6) hX dX2_missing_6 1 rfl ?_
  refine pw_imul (pc := 7) (z := nI (10 * j)) hX dX2_missing_7 (pk_mul 10 _) ?_
  refine pw_iload_n (pc := 8) hX dX2_missing_8 2 rfl ?_
  refine pw_iadd (pc := 9) (z := nI (10 * j + g)) hX dX2_missing_9 (nI_add _ _) ?_
  refine pw_iald (pc := 10) (j := 10 * j + g) hX dX2_missing_10 hm.2.2.2.2.2.1 (by omega) (by decide) ?_
  refine pw_cg (vb := .int (wa j g)) (congrArg Value.int (fl_at wa j hg)) ?_
  refine pw_aload_n (pc := 11) hX dX2_missing_11 0 rfl ?_
  refine pw_get (pc := 12) hX dX2_missing_12 hm.1 rfl inT_2 10 (by decide) fl_RX2_30 rfl ?_
  refine pw_bipush (pc := 15) (v := 10) hX dX2_missing_15 (by decide) ?_
  refine pw_iload_n (pc := 17) hX dX2_missing_17 1 rfl ?_
  refine pw_imul (pc := 18) (z := nI (10 * j)) hX dX2_missing_18 (pk_mul 10 _) ?_
  refine pw_iload_n (pc := 19) hX dX2_missing_19 2 rfl ?_
  refine pw_iadd (pc := 20) (z := nI (10 * j + g)) hX dX2_missing_20 (nI_add _ _) ?_
  refine pw_iald (pc := 21) (j := 10 * j + g) hX dX2_missing_21 hm.2.2.2.2.2.2.1 (by omega) (by decide) ?_
  refine pw_cg (vb := .int (pr j g)) (congrArg Value.int (fl_at pr j hg)) ?_
  refine pw_isub (pc := 22) (z := (wa j g) - (pr j g)) hX dX2_missing_22 rfl ?_
  exact pw_iret hX dX2_missing_23 hrt ⟨by decide, by decide⟩ ⟨rfl, rfl⟩
set_option maxHeartbeats 4000000 in
set_option maxRecDepth 100000 in
theorem mt_givenUp (l : Launch) (hl : l.stackTraces = false) (G : pw_G) (M : pw_M) (am : Nat → Nat) (n oc : Nat) (td th : Int32) (sL : Int64) (dk to er os pl : Nat → Int32) (wa pr la : Nat → Nat → Int32) (hm : mw G am n oc td th sL dk to er os pl wa pr la M) (j g : Nat) (hj : j < oc) (hg : g < 10) : pw_Met l yX2_givenUp cX2_givenUp 3 (some .boolean) 6 0 0 G [.ref (am 0), .int (nI j), .int (nI g)] M (fun v9 M9 => M = M9 ∧ (v9 = some (.int 1) ∧ (¬ la j g = -1 ∧ la j g < td) ∨ v9 = some (.int 0) ∧ ¬ (¬ la j g = -1 ∧ la j g < td))) := by
  refine pw_of hl (by decide +kernel) (Nat.le_of_ble_eq_true rfl) [(0, .ref (am 0)), (1, .int (nI j)), (2, .int (nI g))] rfl ?_
  intro p9 e9 s9 m9 args9 below9 meth9 c9 hX hrt hmi
  have hoc := mw_oc hm
  refine pw_aload_n (pc := 0) hX dX2_givenUp_0 0 rfl ?_
  refine pw_get (pc := 1) hX dX2_givenUp_1 hm.1 rfl inT_2 11 (by decide) fl_RX2_33 rfl ?_
  refine pw_bipush (pc := 4) (v := 10) hX dX2_givenUp_4 (by decide) ?_
  refine pw_iload_n (pc := 6) hX dX2_givenUp_6 1 rfl ?_
  refine pw_imul (pc := 7) (z := nI (10 * j)) hX dX2_givenUp_7 (pk_mul 10 _) ?_
  refine pw_iload_n (pc := 8) hX dX2_givenUp_8 2 rfl ?_
  refine pw_iadd (pc := 9) (z := nI (10 * j + g)) hX dX2_givenUp_9 (nI_add _ _) ?_
  refine pw_iald (pc := 10) (j := 10 * j + g) hX dX2_givenUp_10 hm.2.2.2.2.2.2.2.1 (by omega) (by decide) ?_
  refine pw_cg (vb := .int (la j g)) (congrArg Value.int (fl_at la j hg)) ?_
  refine pw_iconst (pc := 11) (v := (-1)) hX dX2_givenUp_11 (by decide) ?_
  refine pw_icmp_eq (pc := 12) hX 37 dX2_givenUp_12 (by decide) (fun hc_1 => ?_) (fun hc_1 => ?_)
  · refine pw_iconst (pc := 37) (v := 0) hX dX2_givenUp_37 (by decide) ?_
    exact pw_zret hX dX2_givenUp_38 hrt rfl ⟨by decide, by decide⟩ ⟨rfl, Or.inr ⟨rfl, fun h => h.1 hc_1⟩⟩
  · refine pw_aload_n (pc := 15) hX dX2_givenUp_15 0 rfl ?_
    refine pw_get (pc := 16) hX dX2_givenUp_16 hm.1 rfl inT_2 4 (by decide) fl_RX2_73 rfl ?_
    refine pw_aload_n (pc := 19) hX dX2_givenUp_19 0 rfl ?_
    refine pw_get (pc := 20) hX dX2_givenUp_20 hm.1 rfl inT_2 11 (by decide) fl_RX2_33 rfl ?_
    refine pw_bipush (pc := 23) (v := 10) hX dX2_givenUp_23 (by decide) ?_
    refine pw_iload_n (pc := 25) hX dX2_givenUp_25 1 rfl ?_
    refine pw_imul (pc := 26) (z := nI (10 * j)) hX dX2_givenUp_26 (pk_mul 10 _) ?_
    refine pw_iload_n (pc := 27) hX dX2_givenUp_27 2 rfl ?_
    refine pw_iadd (pc := 28) (z := nI (10 * j + g)) hX dX2_givenUp_28 (nI_add _ _) ?_
    refine pw_iald (pc := 29) (j := 10 * j + g) hX dX2_givenUp_29 hm.2.2.2.2.2.2.2.1 (by omega) (by decide) ?_
    refine pw_cg (vb := .int (la j g)) (congrArg Value.int (fl_at la j hg)) ?_
    refine pw_icmp_le (pc := 30) hX 37 dX2_givenUp_30 (by decide) (fun hc_2 => ?_) (fun hc_2 => ?_)
    · refine pw_iconst (pc := 37) (v := 0) hX dX2_givenUp_37 (by decide) ?_
      exact pw_zret hX dX2_givenUp_38 hrt rfl ⟨by decide, by decide⟩ ⟨rfl, Or.inr ⟨rfl, fun h => absurd h.2 (Int32.not_lt.mpr hc_2)⟩⟩
    · refine pw_iconst (pc := 33) (v := 1) hX dX2_givenUp_33 (by decide) ?_
      refine pw_goto (pc := 34) hX 38 dX2_givenUp_34 (by decide) ?_
      exact pw_zret hX dX2_givenUp_38 hrt rfl ⟨by decide, by decide⟩ ⟨rfl, Or.inl ⟨rfl, hc_1, Int32.not_le.mp hc_2⟩⟩
set_option maxHeartbeats 4000000 in
set_option maxRecDepth 100000 in
theorem mt_linesOf (l : Launch) (hl : l.stackTraces = false) (G : pw_G) (M : pw_M) (am : Nat → Nat) (n oc : Nat) (td th : Int32) (sL : Int64) (dk to er os pl : Nat → Int32) (wa pr la : Nat → Nat → Int32) (hm : mw G am n oc td th sL dk to er os pl wa pr la M) (j : Nat) (hj : j < oc) : pw_Met l yX2_linesOf cX2_linesOf 4 (some .int) 5 0 0 G [.ref (am 0), .int (nI j)] M (fun v9 M9 => v9 = some (.int (nI (od_ct (od_has (wa j)) 10))) ∧ M = M9) := by
  refine pw_of hl (by decide +kernel) (Nat.le_of_ble_eq_true rfl) [(0, .ref (am 0)), (1, .int (nI j))] rfl ?_
  intro p9 e9 s9 m9 args9 below9 meth9 c9 hX hrt hmi
  generalize hQ9 : MQ below9 _ args9 s9 _ _ _ = Q9
  refine pw_iconst (pc := 0) (v := 0) hX dX2_linesOf_0 (by decide) ?_
  refine pw_istore_n (pc := 1) hX [(2, .int 0), (0, .ref (am 0)), (1, .int (nI j))] dX2_linesOf_1 (by decide) rfl ?_
  refine pw_iconst (pc := 2) (v := 0) hX dX2_linesOf_2 (by decide) ?_
  refine pw_istore_n (pc := 3) hX [(3, .int 0), (2, .int 0), (0, .ref (am 0)), (1, .int (nI j))] dX2_linesOf_3 (by decide) rfl ?_
  refine pw_lp (P := fun k_1 => pw_W p9 l e9 (pw_rm 5 0 0) s9 m9 args9 below9 meth9 c9 Q9 G 4 M 0 0 4 [(3, .int (nI (k_1))), (2, .int (nI (od_ct (od_has (wa j)) (k_1)))), (0, .ref (am 0)), (1, .int (nI j))] []) 10 ?_ ?_ 0 (Nat.zero_le _)
  · refine pw_iload_n (pc := 4) hX dX2_linesOf_4 0 rfl ?_
    refine pw_bipush (pc := 5) (v := 10) hX dX2_linesOf_5 (by decide) ?_
    refine pw_icmp_ge (pc := 7) hX 28 dX2_linesOf_7 (by decide) (fun hc_2 => ?_) (fun hc_2 => absurd (by decide) hc_2)
    refine pw_iload_n (pc := 28) hX dX2_linesOf_28 1 rfl ?_
    subst hQ9
    exact pw_iret hX dX2_linesOf_29 hrt ⟨by decide, by decide⟩ ⟨rfl, rfl⟩
  · intro k_1 hk_1 ih_k_1
    refine pw_iload_n (pc := 4) hX dX2_linesOf_4 0 rfl ?_
    refine pw_bipush (pc := 5) (v := 10) hX dX2_linesOf_5 (by decide) ?_
    refine pw_icmp_ge (pc := 7) hX 28 dX2_linesOf_7 (by decide) (fun hc_3 => absurd hc_3 (nI_ge (b := 10) hk_1 (by decide))) (fun hc_3 => ?_)
    refine pw_aload_n (pc := 10) hX dX2_linesOf_10 2 rfl ?_
    refine pw_iload_n (pc := 11) hX dX2_linesOf_11 3 rfl ?_
    refine pw_iload_n (pc := 12) hX dX2_linesOf_12 0 rfl ?_
    refine pw_callV (pc := 13) (st := []) hX (mt_hasLine l hl G M am n oc td th sL dk to er os pl wa pr la hm j k_1 hj hk_1) hm.1 rfl ok_X2_hasLine lk_RX2_46 dX2_linesOf_13 rfl ⟨⟨by decide, by decide⟩, Nat.le_of_ble_eq_true rfl, Nat.le_of_ble_eq_true rfl, Nat.le_of_ble_eq_true rfl⟩ rfl (fun v9 M9 hp9 => ?_)
    obtain ⟨rfl, rfl⟩ := hp9
    refine pw_if_eq (pc := 16) hX 22 dX2_linesOf_16 (by decide) (fun hc_4 => ?_) (fun hc_4 => ?_)
    · refine pw_iinc (pc := 22) (v := nI ((k_1) + 1)) (j := 0) hX [(3, .int (nI ((k_1) + 1))), (2, .int (nI (od_ct (od_has (wa j)) (k_1)))), (0, .ref (am 0)), (1, .int (nI j))] dX2_linesOf_22 rfl (nI_1 _) (by decide) rfl ?_
      refine pw_goto (pc := 25) hX 4 dX2_linesOf_25 (by decide) ?_
      rw [od_ct_f (b := od_has (wa j)) (k := k_1) (decide_eq_false (pw_ite0 hc_4))] at ih_k_1
      exact pw_lv [0, 1, 2, 3] _ rfl (ih_k_1)
    · refine pw_iinc (pc := 19) (v := nI ((od_ct (od_has (wa j)) (k_1)) + 1)) (j := 1) hX [(2, .int (nI ((od_ct (od_has (wa j)) (k_1)) + 1))), (3, .int (nI (k_1))), (0, .ref (am 0)), (1, .int (nI j))] dX2_linesOf_19 rfl (nI_1 _) (by decide) rfl ?_
      refine pw_iinc (pc := 22) (v := nI ((k_1) + 1)) (j := 1) hX [(3, .int (nI ((k_1) + 1))), (2, .int (nI ((od_ct (od_has (wa j)) (k_1)) + 1))), (0, .ref (am 0)), (1, .int (nI j))] dX2_linesOf_22 rfl (nI_1 _) (by decide) rfl ?_
      refine pw_goto (pc := 25) hX 4 dX2_linesOf_25 (by decide) ?_
      rw [od_ct_t (b := od_has (wa j)) (k := k_1) (decide_eq_true (pw_ite1 hc_4))] at ih_k_1
      exact pw_lv [0, 1, 2, 3] _ rfl (ih_k_1)
set_option maxHeartbeats 4000000 in
set_option maxRecDepth 100000 in
theorem mt_at (l : Launch) (hl : l.stackTraces = false) (G : pw_G) (M : pw_M) (am : Nat → Nat) (n oc : Nat) (td th : Int32) (sL : Int64) (dk to er os pl : Nat → Int32) (wa pr la : Nat → Nat → Int32) (hm : mw G am n oc td th sL dk to er os pl wa pr la M) (oo : Nat → Option Nat) (hO : ∀ c, c < n → ∀ j, oo c = some j ↔ j < oc ∧ pl j = nI c) (t : Nat) (ht : t < n) : pw_Met l yX2_at cX2_at 3 (some .int) 6 0 0 G [.ref (am 0), .int (nI t)] M (fun v9 M9 => M = M9 ∧ ((∃ j, oo t = some j ∧ j < oc ∧ v9 = some (.int (nI j))) ∨ oo t = none ∧ v9 = some (.int (-1)))) := by
  refine pw_of hl (by decide +kernel) (Nat.le_of_ble_eq_true rfl) [(0, .ref (am 0)), (1, .int (nI t))] rfl ?_
  intro p9 e9 s9 m9 args9 below9 meth9 c9 hX hrt hmi
  generalize hQ9 : MQ below9 _ args9 s9 _ _ _ = Q9
  refine pw_iconst (pc := 0) (v := 0) hX dX2_at_0 (by decide) ?_
  refine pw_istore_n (pc := 1) hX [(2, .int 0), (0, .ref (am 0)), (1, .int (nI t))] dX2_at_1 (by decide) rfl ?_
  refine pw_lp (P := fun k_1 => (∀ i, i < k_1 → ¬ pl i = nI t) → pw_W p9 l e9 (pw_rm 6 0 0) s9 m9 args9 below9 meth9 c9 Q9 G 3 M 0 0 2 [(2, .int (nI (k_1))), (0, .ref (am 0)), (1, .int (nI t))] []) oc ?_ ?_ 0 (Nat.zero_le _) (fun g hg => absurd hg (Nat.not_lt_zero g))
  · intro hy_k_1
    refine pw_iload_n (pc := 2) hX dX2_at_2 0 rfl ?_
    refine pw_aload_n (pc := 3) hX dX2_at_3 1 rfl ?_
    refine pw_get (pc := 4) hX dX2_at_4 hm.1 rfl inT_2 3 (by decide) fl_RX2_50 rfl ?_
    refine pw_icmp_ge (pc := 7) hX 28 dX2_at_7 (by decide) (fun hc_2 => ?_) (fun hc_2 => absurd (Int32.le_refl _) hc_2)
    refine pw_iconst (pc := 28) (v := (-1)) hX dX2_at_28 (by decide) ?_
    subst hQ9
    exact pw_iret hX dX2_at_29 hrt ⟨by decide, by decide⟩ ⟨rfl, Or.inr ⟨(op_two (oo t)).elim id (fun ⟨j, hj⟩ => absurd ((hO t ht j).mp hj).2 (hy_k_1 j ((hO t ht j).mp hj).1)), rfl⟩⟩
  · intro k_1 hk_1 ih_k_1
    intro hy_k_1
    refine pw_iload_n (pc := 2) hX dX2_at_2 0 rfl ?_
    refine pw_aload_n (pc := 3) hX dX2_at_3 1 rfl ?_
    refine pw_get (pc := 4) hX dX2_at_4 hm.1 rfl inT_2 3 (by decide) fl_RX2_50 rfl ?_
    refine pw_icmp_ge (pc := 7) hX 28 dX2_at_7 (by decide) (fun hc_3 => absurd hc_3 (nI_ge (b := oc) hk_1 (Nat.lt_of_le_of_lt (mw_oc hm) (by decide)))) (fun hc_3 => ?_)
    refine pw_aload_n (pc := 10) hX dX2_at_10 1 rfl ?_
    refine pw_get (pc := 11) hX dX2_at_11 hm.1 rfl inT_2 8 (by decide) fl_RX2_24 rfl ?_
    refine pw_iload_n (pc := 14) hX dX2_at_14 0 rfl ?_
    refine pw_iald (pc := 15) (j := k_1) hX dX2_at_15 hm.2.2.2.2.1 (Nat.lt_of_lt_of_le hk_1 (mw_oc hm)) (by decide) ?_
    refine pw_iload_n (pc := 16) hX dX2_at_16 2 rfl ?_
    refine pw_icmp_ne (pc := 17) hX 22 dX2_at_17 (by decide) (fun hc_4 => ?_) (fun hc_4 => ?_)
    · refine pw_iinc (pc := 22) (v := nI ((k_1) + 1)) (j := 0) hX [(2, .int (nI ((k_1) + 1))), (0, .ref (am 0)), (1, .int (nI t))] dX2_at_22 rfl (nI_1 _) (by decide) rfl ?_
      refine pw_goto (pc := 25) hX 2 dX2_at_25 (by decide) ?_
      exact pw_lv [0, 1, 2] _ rfl (ih_k_1 (lt_s hy_k_1 hc_4))
    · refine pw_iload_n (pc := 20) hX dX2_at_20 0 rfl ?_
      subst hQ9
      exact pw_iret hX dX2_at_21 hrt ⟨by decide, by decide⟩ ⟨rfl, Or.inl ⟨k_1, (hO t ht k_1).mpr ⟨hk_1, hc_4⟩, hk_1, rfl⟩⟩
set_option maxHeartbeats 4000000 in
set_option maxRecDepth 100000 in
theorem mt_thrown (l : Launch) (hl : l.stackTraces = false) (G : pw_G) (M : pw_M) (am : Nat → Nat) (n oc : Nat) (td th : Int32) (sL : Int64) (dk to er os pl : Nat → Int32) (wa pr la : Nat → Nat → Int32) (hm : mw G am n oc td th sL dk to er os pl wa pr la M) : pw_Met l yX2_thrown cX2_thrown 1 (some .int) 3 0 0 G [.ref (am 0)] M (fun v9 M9 => v9 = some (.int th) ∧ M = M9) := by
  refine pw_of hl (by decide +kernel) (Nat.le_of_ble_eq_true rfl) [(0, .ref (am 0))] rfl ?_
  intro p9 e9 s9 m9 args9 below9 meth9 c9 hX hrt hmi
  refine pw_aload_n (pc := 0) hX dX2_thrown_0 0 rfl ?_
  refine pw_get (pc := 1) hX dX2_thrown_1 hm.1 rfl inT_2 5 (by decide) fl_RX2_43 rfl ?_
  exact pw_iret hX dX2_thrown_4 hrt ⟨by decide, by decide⟩ ⟨rfl, rfl⟩
end
section
theorem ok_X2_below : pw_ok yX2_below cX2_below 2 (some .boolean) 2 := ⟨pw_memT (by decide +kernel) (by decide +kernel), pw_memT (by decide +kernel) (by decide +kernel), by decide +kernel, by decide +kernel, by decide +kernel, by decide +kernel⟩
theorem lk_RX2_53 : Cond.methodLink RX2 53 yX2_below ∈ pw_T ∧ Cond.static yX2_below ∈ pw_T := ⟨pw_memT (by decide +kernel) (by decide +kernel), pw_memT (by decide +kernel) (by decide +kernel)⟩
theorem fl_RX2_13 : Cond.fieldLink RX2 13 (TX2 2).1 (TX2 2).2.1 (TX2 2).2.2.1 ∈ pw_T := pw_memT (by decide +kernel) (by decide +kernel)
theorem fl_RX2_21 : Cond.fieldLink RX2 21 (TX2 7).1 (TX2 7).2.1 (TX2 7).2.2.1 ∈ pw_T := pw_memT (by decide +kernel) (by decide +kernel)
end
section
set_option maxHeartbeats 4000000 in
set_option maxRecDepth 100000 in
theorem mp_tote (l : Launch) (hl : l.stackTraces = false) (G : pw_G) (M : pw_M) (am : Nat → Nat) (n oc : Nat) (td th : Int32) (sL : Int64) (dk to er os pl : Nat → Int32) (wa pr la : Nat → Nat → Int32) (hm : mw G am n oc td th sL dk to er os pl wa pr la M) (p0 p1 : Int32) : pw_Met l yX2_tote cX2_tote 3 (some .int) 3 0 0 G [.ref (am 0), .int p0, .int p1] M (fun v9 M9 => (cd_tote p0 p1 = 0 ∧ v9 = some (.int (to (ix p0) + p1)) ∧ mw G am n oc td 0 sL dk (upd to (ix p0) (to (ix p0) + p1)) er os pl wa pr la M9 ∨ ¬ cd_tote p0 p1 = 0 ∧ (∃ z, v9 = some (.int z)) ∧ mw G am n oc td (cd_tote p0 p1) sL dk to er os pl wa pr la M9) ∧ fm am 9 M M9) := by
  refine pw_of hl (by decide +kernel) (Nat.le_of_ble_eq_true rfl) [(0, .ref (am 0)), (1, .int p0), (2, .int p1)] rfl ?_
  intro p9 e9 s9 m9 args9 below9 meth9 c9 hX hrt hmi
  refine pw_aload_n (pc := 0) hX dX2_tote_0 0 rfl ?_
  refine pw_iload_n (pc := 1) hX dX2_tote_1 1 rfl ?_
  refine pw_bipush (pc := 2) (v := 10) hX dX2_tote_2 (by decide) ?_
  refine pw_callS (pc := 4) (st := [.ref (am 0)]) hX (mt_below l hl G M p0 10 (by decide)) ok_X2_below lk_RX2_53 dX2_tote_4 rfl ⟨⟨by decide, by decide⟩, Nat.le_of_ble_eq_true rfl, Nat.le_of_ble_eq_true rfl, Nat.le_of_ble_eq_true rfl⟩ rfl (fun v9 M9 hp9 => ?_)
  obtain ⟨rfl, ⟨rfl, g, hg, rfl⟩ | ⟨rfl, hno_p0⟩⟩ := hp9
  · have hgB : g < 2 ^ 31 := Nat.lt_of_lt_of_le hg (by decide)
    refine pw_if_eq (pc := 7) hX 25 dX2_tote_7 (by decide) (fun h => absurd h (by decide)) (fun _ => ?_)
    refine pw_iload_n (pc := 10) hX dX2_tote_10 2 rfl ?_
    refine pw_iconst (pc := 11) (v := 1) hX dX2_tote_11 (by decide) ?_
    refine pw_icmp_lt (pc := 12) hX 25 dX2_tote_12 (by decide) (fun hc_2 => ?_) (fun hc_2 => ?_)
    · refine pw_iconst (pc := 25) (v := 1) hX dX2_tote_25 (by decide) ?_
      refine pw_put (pc := 26) (v := .int 1) hX dX2_tote_26 hm.1 rfl inT_2 tyX2 tyX2_ok nmX2 5 (by decide) fl_RX2_43 rfl (tyX2_ok 5 (by decide)) rfl rfl (Nat.le_of_ble_eq_true rfl) [.int (nI n), .ref (am 1), .ref (am 2), .int (nI oc), .int td, .int 1, .long sL, .ref (am 3), .ref (am 4), .ref (am 5), .ref (am 6), .ref (am 7), .ref (am 8)] rfl ?_
      have hm_3 := pw_ke (a := am 0) (e := .inr (2, [.int (nI n), .ref (am 1), .ref (am 2), .int (nI oc), .int td, .int 1, .long sL, .ref (am 3), .ref (am 4), .ref (am 5), .ref (am 6), .ref (am 7), .ref (am 8)])) hm.2.1 (mw_ne hm (x := 1) (y := 0) (by decide) (by decide) (by decide))
      have hm_4 := pw_ke (a := am 0) (e := .inr (2, [.int (nI n), .ref (am 1), .ref (am 2), .int (nI oc), .int td, .int 1, .long sL, .ref (am 3), .ref (am 4), .ref (am 5), .ref (am 6), .ref (am 7), .ref (am 8)])) hm.2.2.1 (mw_ne hm (x := 2) (y := 0) (by decide) (by decide) (by decide))
      have hm_5 := pw_ke (a := am 0) (e := .inr (2, [.int (nI n), .ref (am 1), .ref (am 2), .int (nI oc), .int td, .int 1, .long sL, .ref (am 3), .ref (am 4), .ref (am 5), .ref (am 6), .ref (am 7), .ref (am 8)])) hm.2.2.2.1 (mw_ne hm (x := 3) (y := 0) (by decide) (by decide) (by decide))
      have hm_6 := pw_ke (a := am 0) (e := .inr (2, [.int (nI n), .ref (am 1), .ref (am 2), .int (nI oc), .int td, .int 1, .long sL, .ref (am 3), .ref (am 4), .ref (am 5), .ref (am 6), .ref (am 7), .ref (am 8)])) hm.2.2.2.2.1 (mw_ne hm (x := 4) (y := 0) (by decide) (by decide) (by decide))
      have hm_7 := pw_ke (a := am 0) (e := .inr (2, [.int (nI n), .ref (am 1), .ref (am 2), .int (nI oc), .int td, .int 1, .long sL, .ref (am 3), .ref (am 4), .ref (am 5), .ref (am 6), .ref (am 7), .ref (am 8)])) hm.2.2.2.2.2.1 (mw_ne hm (x := 5) (y := 0) (by decide) (by decide) (by decide))
      have hm_8 := pw_ke (a := am 0) (e := .inr (2, [.int (nI n), .ref (am 1), .ref (am 2), .int (nI oc), .int td, .int 1, .long sL, .ref (am 3), .ref (am 4), .ref (am 5), .ref (am 6), .ref (am 7), .ref (am 8)])) hm.2.2.2.2.2.2.1 (mw_ne hm (x := 6) (y := 0) (by decide) (by decide) (by decide))
      have hm_9 := pw_ke (a := am 0) (e := .inr (2, [.int (nI n), .ref (am 1), .ref (am 2), .int (nI oc), .int td, .int 1, .long sL, .ref (am 3), .ref (am 4), .ref (am 5), .ref (am 6), .ref (am 7), .ref (am 8)])) hm.2.2.2.2.2.2.2.1 (mw_ne hm (x := 7) (y := 0) (by decide) (by decide) (by decide))
      have hm_10 := pw_ke (a := am 0) (e := .inr (2, [.int (nI n), .ref (am 1), .ref (am 2), .int (nI oc), .int td, .int 1, .long sL, .ref (am 3), .ref (am 4), .ref (am 5), .ref (am 6), .ref (am 7), .ref (am 8)])) hm.2.2.2.2.2.2.2.2.1 (mw_ne hm (x := 8) (y := 0) (by decide) (by decide) (by decide))
      have hm_11 : pw_up M (am 0) (.inr (2, [.int (nI n), .ref (am 1), .ref (am 2), .int (nI oc), .int td, .int 1, .long sL, .ref (am 3), .ref (am 4), .ref (am 5), .ref (am 6), .ref (am 7), .ref (am 8)])) (am 0) = some (.inr (2, [.int (nI n), .ref (am 1), .ref (am 2), .int (nI oc), .int td, .int 1, .long sL, .ref (am 3), .ref (am 4), .ref (am 5), .ref (am 6), .ref (am 7), .ref (am 8)])) := pw_us
      refine pw_aload_n (pc := 29) hX dX2_tote_29 0 rfl ?_
      refine pw_get (pc := 30) hX dX2_tote_30 hm_11 rfl inT_2 5 (by decide) fl_RX2_43 rfl ?_
      refine pw_if_eq (pc := 33) hX 38 dX2_tote_33 (by decide) (fun h => absurd h (by decide)) (fun _ => ?_)
      refine pw_iconst (pc := 36) (v := 0) hX dX2_tote_36 (by decide) ?_
      exact pw_iret hX dX2_tote_37 hrt ⟨by decide, by decide⟩ ⟨Or.inr ⟨by rw [show cd_tote (nI g) p1 = 1 from pc1_1 (fun h => absurd h.2.1 (Int32.not_le.mpr hc_2))]; decide, ⟨_, rfl⟩, by rw [show cd_tote (nI g) p1 = 1 from pc1_1 (fun h => absurd h.2.1 (Int32.not_le.mpr hc_2))]; exact (mw_ob hm (oc) (mw_oc hm) td 1 sL)⟩, (fm_up fm_rf (x := 0) (by decide) _)⟩
    · refine pw_iload_n (pc := 15) hX dX2_tote_15 2 rfl ?_
      refine pw_bipush (pc := 16) (v := 100) hX dX2_tote_16 (by decide) ?_
      refine pw_icmp_gt (pc := 18) hX 25 dX2_tote_18 (by decide) (fun hc_13 => ?_) (fun hc_13 => ?_)
      · refine pw_iconst (pc := 25) (v := 1) hX dX2_tote_25 (by decide) ?_
        refine pw_put (pc := 26) (v := .int 1) hX dX2_tote_26 hm.1 rfl inT_2 tyX2 tyX2_ok nmX2 5 (by decide) fl_RX2_43 rfl (tyX2_ok 5 (by decide)) rfl rfl (Nat.le_of_ble_eq_true rfl) [.int (nI n), .ref (am 1), .ref (am 2), .int (nI oc), .int td, .int 1, .long sL, .ref (am 3), .ref (am 4), .ref (am 5), .ref (am 6), .ref (am 7), .ref (am 8)] rfl ?_
        have hm_14 := pw_ke (a := am 0) (e := .inr (2, [.int (nI n), .ref (am 1), .ref (am 2), .int (nI oc), .int td, .int 1, .long sL, .ref (am 3), .ref (am 4), .ref (am 5), .ref (am 6), .ref (am 7), .ref (am 8)])) hm.2.1 (mw_ne hm (x := 1) (y := 0) (by decide) (by decide) (by decide))
        have hm_15 := pw_ke (a := am 0) (e := .inr (2, [.int (nI n), .ref (am 1), .ref (am 2), .int (nI oc), .int td, .int 1, .long sL, .ref (am 3), .ref (am 4), .ref (am 5), .ref (am 6), .ref (am 7), .ref (am 8)])) hm.2.2.1 (mw_ne hm (x := 2) (y := 0) (by decide) (by decide) (by decide))
        have hm_16 := pw_ke (a := am 0) (e := .inr (2, [.int (nI n), .ref (am 1), .ref (am 2), .int (nI oc), .int td, .int 1, .long sL, .ref (am 3), .ref (am 4), .ref (am 5), .ref (am 6), .ref (am 7), .ref (am 8)])) hm.2.2.2.1 (mw_ne hm (x := 3) (y := 0) (by decide) (by decide) (by decide))
        have hm_17 := pw_ke (a := am 0) (e := .inr (2, [.int (nI n), .ref (am 1), .ref (am 2), .int (nI oc), .int td, .int 1, .long sL, .ref (am 3), .ref (am 4), .ref (am 5), .ref (am 6), .ref (am 7), .ref (am 8)])) hm.2.2.2.2.1 (mw_ne hm (x := 4) (y := 0) (by decide) (by decide) (by decide))
        have hm_18 := pw_ke (a := am 0) (e := .inr (2, [.int (nI n), .ref (am 1), .ref (am 2), .int (nI oc), .int td, .int 1, .long sL, .ref (am 3), .ref (am 4), .ref (am 5), .ref (am 6), .ref (am 7), .ref (am 8)])) hm.2.2.2.2.2.1 (mw_ne hm (x := 5) (y := 0) (by decide) (by decide) (by decide))
        have hm_19 := pw_ke (a := am 0) (e := .inr (2, [.int (nI n), .ref (am 1), .ref (am 2), .int (nI oc), .int td, .int 1, .long sL, .ref (am 3), .ref (am 4), .ref (am 5), .ref (am 6), .ref (am 7), .ref (am 8)])) hm.2.2.2.2.2.2.1 (mw_ne hm (x := 6) (y := 0) (by decide) (by decide) (by decide))
        have hm_20 := pw_ke (a := am 0) (e := .inr (2, [.int (nI n), .ref (am 1), .ref (am 2), .int (nI oc), .int td, .int 1, .long sL, .ref (am 3), .ref (am 4), .ref (am 5), .ref (am 6), .ref (am 7), .ref (am 8)])) hm.2.2.2.2.2.2.2.1 (mw_ne hm (x := 7) (y := 0) (by decide) (by decide) (by decide))
        have hm_21 := pw_ke (a := am 0) (e := .inr (2, [.int (nI n), .ref (am 1), .ref (am 2), .int (nI oc), .int td, .int 1, .long sL, .ref (am 3), .ref (am 4), .ref (am 5), .ref (am 6), .ref (am 7), .ref (am 8)])) hm.2.2.2.2.2.2.2.2.1 (mw_ne hm (x := 8) (y := 0) (by decide) (by decide) (by decide))
        have hm_22 : pw_up M (am 0) (.inr (2, [.int (nI n), .ref (am 1), .ref (am 2), .int (nI oc), .int td, .int 1, .long sL, .ref (am 3), .ref (am 4), .ref (am 5), .ref (am 6), .ref (am 7), .ref (am 8)])) (am 0) = some (.inr (2, [.int (nI n), .ref (am 1), .ref (am 2), .int (nI oc), .int td, .int 1, .long sL, .ref (am 3), .ref (am 4), .ref (am 5), .ref (am 6), .ref (am 7), .ref (am 8)])) := pw_us
        refine pw_aload_n (pc := 29) hX dX2_tote_29 0 rfl ?_
        refine pw_get (pc := 30) hX dX2_tote_30 hm_22 rfl inT_2 5 (by decide) fl_RX2_43 rfl ?_
        refine pw_if_eq (pc := 33) hX 38 dX2_tote_33 (by decide) (fun h => absurd h (by decide)) (fun _ => ?_)
        refine pw_iconst (pc := 36) (v := 0) hX dX2_tote_36 (by decide) ?_
        exact pw_iret hX dX2_tote_37 hrt ⟨by decide, by decide⟩ ⟨Or.inr ⟨by rw [show cd_tote (nI g) p1 = 1 from pc1_1 (fun h => absurd h.2.2 (Int32.not_le.mpr hc_13))]; decide, ⟨_, rfl⟩, by rw [show cd_tote (nI g) p1 = 1 from pc1_1 (fun h => absurd h.2.2 (Int32.not_le.mpr hc_13))]; exact (mw_ob hm (oc) (mw_oc hm) td 1 sL)⟩, (fm_up fm_rf (x := 0) (by decide) _)⟩
      · refine pw_iconst (pc := 21) (v := 0) hX dX2_tote_21 (by decide) ?_
        refine pw_goto (pc := 22) hX 26 dX2_tote_22 (by decide) ?_
        refine pw_put (pc := 26) (v := .int 0) hX dX2_tote_26 hm.1 rfl inT_2 tyX2 tyX2_ok nmX2 5 (by decide) fl_RX2_43 rfl (tyX2_ok 5 (by decide)) rfl rfl (Nat.le_of_ble_eq_true rfl) [.int (nI n), .ref (am 1), .ref (am 2), .int (nI oc), .int td, .int 0, .long sL, .ref (am 3), .ref (am 4), .ref (am 5), .ref (am 6), .ref (am 7), .ref (am 8)] rfl ?_
        have hm_24 := pw_ke (a := am 0) (e := .inr (2, [.int (nI n), .ref (am 1), .ref (am 2), .int (nI oc), .int td, .int 0, .long sL, .ref (am 3), .ref (am 4), .ref (am 5), .ref (am 6), .ref (am 7), .ref (am 8)])) hm.2.1 (mw_ne hm (x := 1) (y := 0) (by decide) (by decide) (by decide))
        have hm_25 := pw_ke (a := am 0) (e := .inr (2, [.int (nI n), .ref (am 1), .ref (am 2), .int (nI oc), .int td, .int 0, .long sL, .ref (am 3), .ref (am 4), .ref (am 5), .ref (am 6), .ref (am 7), .ref (am 8)])) hm.2.2.1 (mw_ne hm (x := 2) (y := 0) (by decide) (by decide) (by decide))
        have hm_26 := pw_ke (a := am 0) (e := .inr (2, [.int (nI n), .ref (am 1), .ref (am 2), .int (nI oc), .int td, .int 0, .long sL, .ref (am 3), .ref (am 4), .ref (am 5), .ref (am 6), .ref (am 7), .ref (am 8)])) hm.2.2.2.1 (mw_ne hm (x := 3) (y := 0) (by decide) (by decide) (by decide))
        have hm_27 := pw_ke (a := am 0) (e := .inr (2, [.int (nI n), .ref (am 1), .ref (am 2), .int (nI oc), .int td, .int 0, .long sL, .ref (am 3), .ref (am 4), .ref (am 5), .ref (am 6), .ref (am 7), .ref (am 8)])) hm.2.2.2.2.1 (mw_ne hm (x := 4) (y := 0) (by decide) (by decide) (by decide))
        have hm_28 := pw_ke (a := am 0) (e := .inr (2, [.int (nI n), .ref (am 1), .ref (am 2), .int (nI oc), .int td, .int 0, .long sL, .ref (am 3), .ref (am 4), .ref (am 5), .ref (am 6), .ref (am 7), .ref (am 8)])) hm.2.2.2.2.2.1 (mw_ne hm (x := 5) (y := 0) (by decide) (by decide) (by decide))
        have hm_29 := pw_ke (a := am 0) (e := .inr (2, [.int (nI n), .ref (am 1), .ref (am 2), .int (nI oc), .int td, .int 0, .long sL, .ref (am 3), .ref (am 4), .ref (am 5), .ref (am 6), .ref (am 7), .ref (am 8)])) hm.2.2.2.2.2.2.1 (mw_ne hm (x := 6) (y := 0) (by decide) (by decide) (by decide))
        have hm_30 := pw_ke (a := am 0) (e := .inr (2, [.int (nI n), .ref (am 1), .ref (am 2), .int (nI oc), .int td, .int 0, .long sL, .ref (am 3), .ref (am 4), .ref (am 5), .ref (am 6), .ref (am 7), .ref (am 8)])) hm.2.2.2.2.2.2.2.1 (mw_ne hm (x := 7) (y := 0) (by decide) (by decide) (by decide))
        have hm_31 := pw_ke (a := am 0) (e := .inr (2, [.int (nI n), .ref (am 1), .ref (am 2), .int (nI oc), .int td, .int 0, .long sL, .ref (am 3), .ref (am 4), .ref (am 5), .ref (am 6), .ref (am 7), .ref (am 8)])) hm.2.2.2.2.2.2.2.2.1 (mw_ne hm (x := 8) (y := 0) (by decide) (by decide) (by decide))
        have hm_32 : pw_up M (am 0) (.inr (2, [.int (nI n), .ref (am 1), .ref (am 2), .int (nI oc), .int td, .int 0, .long sL, .ref (am 3), .ref (am 4), .ref (am 5), .ref (am 6), .ref (am 7), .ref (am 8)])) (am 0) = some (.inr (2, [.int (nI n), .ref (am 1), .ref (am 2), .int (nI oc), .int td, .int 0, .long sL, .ref (am 3), .ref (am 4), .ref (am 5), .ref (am 6), .ref (am 7), .ref (am 8)])) := pw_us
        refine pw_aload_n (pc := 29) hX dX2_tote_29 0 rfl ?_
        refine pw_get (pc := 30) hX dX2_tote_30 hm_32 rfl inT_2 5 (by decide) fl_RX2_43 rfl ?_
        refine pw_if_eq (pc := 33) hX 38 dX2_tote_33 (by decide) (fun _ => ?_) (fun h => absurd h (by decide))
        refine pw_aload_n (pc := 38) hX dX2_tote_38 0 rfl ?_
        refine pw_get (pc := 39) hX dX2_tote_39 hm_32 rfl inT_2 2 (by decide) fl_RX2_13 rfl ?_
        refine pw_iload_n (pc := 42) hX dX2_tote_42 1 rfl ?_
        refine pw_dup2 (pc := 43) hX dX2_tote_43 rfl rfl ?_
        refine pw_iald (pc := 44) (j := g) hX dX2_tote_44 hm_25 hg (by decide) ?_
        refine pw_iload_n (pc := 45) hX dX2_tote_45 2 rfl ?_
        refine pw_iadd (pc := 46) (z := (to g) + p1) hX dX2_tote_46 rfl ?_
        refine pw_iast (pc := 47) (j := g) hX dX2_tote_47 hm_25 hg (by decide) ?_
        have hm_34 := pw_ke (a := am 2) (e := .inl (G.2.2.1 0, 10, .inl (upd to g ((to g) + p1)))) hm_32 (mw_ne hm (x := 0) (y := 2) (by decide) (by decide) (by decide))
        have hm_35 := pw_ke (a := am 2) (e := .inl (G.2.2.1 0, 10, .inl (upd to g ((to g) + p1)))) hm_24 (mw_ne hm (x := 1) (y := 2) (by decide) (by decide) (by decide))
        have hm_36 := pw_ke (a := am 2) (e := .inl (G.2.2.1 0, 10, .inl (upd to g ((to g) + p1)))) hm_26 (mw_ne hm (x := 3) (y := 2) (by decide) (by decide) (by decide))
        have hm_37 := pw_ke (a := am 2) (e := .inl (G.2.2.1 0, 10, .inl (upd to g ((to g) + p1)))) hm_27 (mw_ne hm (x := 4) (y := 2) (by decide) (by decide) (by decide))
        have hm_38 := pw_ke (a := am 2) (e := .inl (G.2.2.1 0, 10, .inl (upd to g ((to g) + p1)))) hm_28 (mw_ne hm (x := 5) (y := 2) (by decide) (by decide) (by decide))
        have hm_39 := pw_ke (a := am 2) (e := .inl (G.2.2.1 0, 10, .inl (upd to g ((to g) + p1)))) hm_29 (mw_ne hm (x := 6) (y := 2) (by decide) (by decide) (by decide))
        have hm_40 := pw_ke (a := am 2) (e := .inl (G.2.2.1 0, 10, .inl (upd to g ((to g) + p1)))) hm_30 (mw_ne hm (x := 7) (y := 2) (by decide) (by decide) (by decide))
        have hm_41 := pw_ke (a := am 2) (e := .inl (G.2.2.1 0, 10, .inl (upd to g ((to g) + p1)))) hm_31 (mw_ne hm (x := 8) (y := 2) (by decide) (by decide) (by decide))
        have hm_42 : pw_up (pw_up M (am 0) (.inr (2, [.int (nI n), .ref (am 1), .ref (am 2), .int (nI oc), .int td, .int 0, .long sL, .ref (am 3), .ref (am 4), .ref (am 5), .ref (am 6), .ref (am 7), .ref (am 8)]))) (am 2) (.inl (G.2.2.1 0, 10, .inl (upd to g ((to g) + p1)))) (am 2) = some (.inl (G.2.2.1 0, 10, .inl (upd to g ((to g) + p1)))) := pw_us
        refine pw_aload_n (pc := 48) hX dX2_tote_48 0 rfl ?_
        refine pw_get (pc := 49) hX dX2_tote_49 hm_34 rfl inT_2 2 (by decide) fl_RX2_13 rfl ?_
        refine pw_iload_n (pc := 52) hX dX2_tote_52 1 rfl ?_
        refine pw_iald (pc := 53) (j := g) hX dX2_tote_53 hm_42 hg (by decide) ?_
        exact pw_iret hX dX2_tote_54 hrt ⟨by decide, by decide⟩ (by rw [ix_nI hgB]; exact ⟨Or.inl ⟨pc1_0 (fun h => h ⟨ir_nI hg, Int32.not_lt.mp hc_2, Int32.not_lt.mp hc_13⟩), congrArg some (congrArg Value.int (pw_ld _ _ _)), (mw_to (mw_ob hm (oc) (mw_oc hm) td 0 sL) _)⟩, (fm_up (fm_up fm_rf (x := 0) (by decide) _) (x := 2) (by decide) _)⟩)
  · refine pw_if_eq (pc := 7) hX 25 dX2_tote_7 (by decide) (fun _ => ?_) (fun h => absurd h (by decide))
    refine pw_iconst (pc := 25) (v := 1) hX dX2_tote_25 (by decide) ?_
    refine pw_put (pc := 26) (v := .int 1) hX dX2_tote_26 hm.1 rfl inT_2 tyX2 tyX2_ok nmX2 5 (by decide) fl_RX2_43 rfl (tyX2_ok 5 (by decide)) rfl rfl (Nat.le_of_ble_eq_true rfl) [.int (nI n), .ref (am 1), .ref (am 2), .int (nI oc), .int td, .int 1, .long sL, .ref (am 3), .ref (am 4), .ref (am 5), .ref (am 6), .ref (am 7), .ref (am 8)] rfl ?_
    have hm_44 := pw_ke (a := am 0) (e := .inr (2, [.int (nI n), .ref (am 1), .ref (am 2), .int (nI oc), .int td, .int 1, .long sL, .ref (am 3), .ref (am 4), .ref (am 5), .ref (am 6), .ref (am 7), .ref (am 8)])) hm.2.1 (mw_ne hm (x := 1) (y := 0) (by decide) (by decide) (by decide))
    have hm_45 := pw_ke (a := am 0) (e := .inr (2, [.int (nI n), .ref (am 1), .ref (am 2), .int (nI oc), .int td, .int 1, .long sL, .ref (am 3), .ref (am 4), .ref (am 5), .ref (am 6), .ref (am 7), .ref (am 8)])) hm.2.2.1 (mw_ne hm (x := 2) (y := 0) (by decide) (by decide) (by decide))
    have hm_46 := pw_ke (a := am 0) (e := .inr (2, [.int (nI n), .ref (am 1), .ref (am 2), .int (nI oc), .int td, .int 1, .long sL, .ref (am 3), .ref (am 4), .ref (am 5), .ref (am 6), .ref (am 7), .ref (am 8)])) hm.2.2.2.1 (mw_ne hm (x := 3) (y := 0) (by decide) (by decide) (by decide))
    have hm_47 := pw_ke (a := am 0) (e := .inr (2, [.int (nI n), .ref (am 1), .ref (am 2), .int (nI oc), .int td, .int 1, .long sL, .ref (am 3), .ref (am 4), .ref (am 5), .ref (am 6), .ref (am 7), .ref (am 8)])) hm.2.2.2.2.1 (mw_ne hm (x := 4) (y := 0) (by decide) (by decide) (by decide))
    have hm_48 := pw_ke (a := am 0) (e := .inr (2, [.int (nI n), .ref (am 1), .ref (am 2), .int (nI oc), .int td, .int 1, .long sL, .ref (am 3), .ref (am 4), .ref (am 5), .ref (am 6), .ref (am 7), .ref (am 8)])) hm.2.2.2.2.2.1 (mw_ne hm (x := 5) (y := 0) (by decide) (by decide) (by decide))
    have hm_49 := pw_ke (a := am 0) (e := .inr (2, [.int (nI n), .ref (am 1), .ref (am 2), .int (nI oc), .int td, .int 1, .long sL, .ref (am 3), .ref (am 4), .ref (am 5), .ref (am 6), .ref (am 7), .ref (am 8)])) hm.2.2.2.2.2.2.1 (mw_ne hm (x := 6) (y := 0) (by decide) (by decide) (by decide))
    have hm_50 := pw_ke (a := am 0) (e := .inr (2, [.int (nI n), .ref (am 1), .ref (am 2), .int (nI oc), .int td, .int 1, .long sL, .ref (am 3), .ref (am 4), .ref (am 5), .ref (am 6), .ref (am 7), .ref (am 8)])) hm.2.2.2.2.2.2.2.1 (mw_ne hm (x := 7) (y := 0) (by decide) (by decide) (by decide))
    have hm_51 := pw_ke (a := am 0) (e := .inr (2, [.int (nI n), .ref (am 1), .ref (am 2), .int (nI oc), .int td, .int 1, .long sL, .ref (am 3), .ref (am 4), .ref (am 5), .ref (am 6), .ref (am 7), .ref (am 8)])) hm.2.2.2.2.2.2.2.2.1 (mw_ne hm (x := 8) (y := 0) (by decide) (by decide) (by decide))
    have hm_52 : pw_up M (am 0) (.inr (2, [.int (nI n), .ref (am 1), .ref (am 2), .int (nI oc), .int td, .int 1, .long sL, .ref (am 3), .ref (am 4), .ref (am 5), .ref (am 6), .ref (am 7), .ref (am 8)])) (am 0) = some (.inr (2, [.int (nI n), .ref (am 1), .ref (am 2), .int (nI oc), .int td, .int 1, .long sL, .ref (am 3), .ref (am 4), .ref (am 5), .ref (am 6), .ref (am 7), .ref (am 8)])) := pw_us
    refine pw_aload_n (pc := 29) hX dX2_tote_29 0 rfl ?_
    refine pw_get (pc := 30) hX dX2_tote_30 hm_52 rfl inT_2 5 (by decide) fl_RX2_43 rfl ?_
    refine pw_if_eq (pc := 33) hX 38 dX2_tote_33 (by decide) (fun h => absurd h (by decide)) (fun _ => ?_)
    refine pw_iconst (pc := 36) (v := 0) hX dX2_tote_36 (by decide) ?_
    exact pw_iret hX dX2_tote_37 hrt ⟨by decide, by decide⟩ ⟨Or.inr ⟨by rw [show cd_tote p0 p1 = 1 from pc1_1 (fun h => hno_p0 h.1)]; decide, ⟨_, rfl⟩, by rw [show cd_tote p0 p1 = 1 from pc1_1 (fun h => hno_p0 h.1)]; exact (mw_ob hm (oc) (mw_oc hm) td 1 sL)⟩, (fm_up fm_rf (x := 0) (by decide) _)⟩
set_option maxHeartbeats 4000000 in
set_option maxRecDepth 100000 in
theorem mp_order (l : Launch) (hl : l.stackTraces = false) (G : pw_G) (M : pw_M) (am : Nat → Nat) (n oc : Nat) (td th : Int32) (sL : Int64) (dk to er os pl : Nat → Int32) (wa pr la : Nat → Nat → Int32) (hm : mw G am n oc td th sL dk to er os pl wa pr la M) : pw_Met l yX2_order cX2_order 1 (some .int) 3 0 0 G [.ref (am 0)] M (fun v9 M9 => (cd_order oc = 0 ∧ v9 = some (.int (nI oc)) ∧ mw G am n (oc + 1) td 0 sL dk to er (upd os oc 0) (upd pl oc (-1)) wa pr la M9 ∨ ¬ cd_order oc = 0 ∧ (∃ z, v9 = some (.int z)) ∧ mw G am n oc td (cd_order oc) sL dk to er os pl wa pr la M9) ∧ fm am 9 M M9) := by
  refine pw_of hl (by decide +kernel) (Nat.le_of_ble_eq_true rfl) [(0, .ref (am 0))] rfl ?_
  intro p9 e9 s9 m9 args9 below9 meth9 c9 hX hrt hmi
  refine pw_aload_n (pc := 0) hX dX2_order_0 0 rfl ?_
  refine pw_aload_n (pc := 1) hX dX2_order_1 0 rfl ?_
  refine pw_get (pc := 2) hX dX2_order_2 hm.1 rfl inT_2 3 (by decide) fl_RX2_50 rfl ?_
  refine pw_bipush (pc := 5) (v := 20) hX dX2_order_5 (by decide) ?_
  refine pw_icmp_ne (pc := 7) hX 14 dX2_order_7 (by decide) (fun hc_1 => ?_) (fun hc_1 => ?_)
  · have hlt : oc < 20 := Nat.lt_of_le_of_ne (mw_oc hm) (fun h => hc_1 (by rw [h]; rfl))
    refine pw_iconst (pc := 14) (v := 0) hX dX2_order_14 (by decide) ?_
    refine pw_put (pc := 15) (v := .int 0) hX dX2_order_15 hm.1 rfl inT_2 tyX2 tyX2_ok nmX2 5 (by decide) fl_RX2_43 rfl (tyX2_ok 5 (by decide)) rfl rfl (Nat.le_of_ble_eq_true rfl) [.int (nI n), .ref (am 1), .ref (am 2), .int (nI oc), .int td, .int 0, .long sL, .ref (am 3), .ref (am 4), .ref (am 5), .ref (am 6), .ref (am 7), .ref (am 8)] rfl ?_
    have hm_2 := pw_ke (a := am 0) (e := .inr (2, [.int (nI n), .ref (am 1), .ref (am 2), .int (nI oc), .int td, .int 0, .long sL, .ref (am 3), .ref (am 4), .ref (am 5), .ref (am 6), .ref (am 7), .ref (am 8)])) hm.2.1 (mw_ne hm (x := 1) (y := 0) (by decide) (by decide) (by decide))
    have hm_3 := pw_ke (a := am 0) (e := .inr (2, [.int (nI n), .ref (am 1), .ref (am 2), .int (nI oc), .int td, .int 0, .long sL, .ref (am 3), .ref (am 4), .ref (am 5), .ref (am 6), .ref (am 7), .ref (am 8)])) hm.2.2.1 (mw_ne hm (x := 2) (y := 0) (by decide) (by decide) (by decide))
    have hm_4 := pw_ke (a := am 0) (e := .inr (2, [.int (nI n), .ref (am 1), .ref (am 2), .int (nI oc), .int td, .int 0, .long sL, .ref (am 3), .ref (am 4), .ref (am 5), .ref (am 6), .ref (am 7), .ref (am 8)])) hm.2.2.2.1 (mw_ne hm (x := 3) (y := 0) (by decide) (by decide) (by decide))
    have hm_5 := pw_ke (a := am 0) (e := .inr (2, [.int (nI n), .ref (am 1), .ref (am 2), .int (nI oc), .int td, .int 0, .long sL, .ref (am 3), .ref (am 4), .ref (am 5), .ref (am 6), .ref (am 7), .ref (am 8)])) hm.2.2.2.2.1 (mw_ne hm (x := 4) (y := 0) (by decide) (by decide) (by decide))
    have hm_6 := pw_ke (a := am 0) (e := .inr (2, [.int (nI n), .ref (am 1), .ref (am 2), .int (nI oc), .int td, .int 0, .long sL, .ref (am 3), .ref (am 4), .ref (am 5), .ref (am 6), .ref (am 7), .ref (am 8)])) hm.2.2.2.2.2.1 (mw_ne hm (x := 5) (y := 0) (by decide) (by decide) (by decide))
    have hm_7 := pw_ke (a := am 0) (e := .inr (2, [.int (nI n), .ref (am 1), .ref (am 2), .int (nI oc), .int td, .int 0, .long sL, .ref (am 3), .ref (am 4), .ref (am 5), .ref (am 6), .ref (am 7), .ref (am 8)])) hm.2.2.2.2.2.2.1 (mw_ne hm (x := 6) (y := 0) (by decide) (by decide) (by decide))
    have hm_8 := pw_ke (a := am 0) (e := .inr (2, [.int (nI n), .ref (am 1), .ref (am 2), .int (nI oc), .int td, .int 0, .long sL, .ref (am 3), .ref (am 4), .ref (am 5), .ref (am 6), .ref (am 7), .ref (am 8)])) hm.2.2.2.2.2.2.2.1 (mw_ne hm (x := 7) (y := 0) (by decide) (by decide) (by decide))
    have hm_9 := pw_ke (a := am 0) (e := .inr (2, [.int (nI n), .ref (am 1), .ref (am 2), .int (nI oc), .int td, .int 0, .long sL, .ref (am 3), .ref (am 4), .ref (am 5), .ref (am 6), .ref (am 7), .ref (am 8)])) hm.2.2.2.2.2.2.2.2.1 (mw_ne hm (x := 8) (y := 0) (by decide) (by decide) (by decide))
    have hm_10 : pw_up M (am 0) (.inr (2, [.int (nI n), .ref (am 1), .ref (am 2), .int (nI oc), .int td, .int 0, .long sL, .ref (am 3), .ref (am 4), .ref (am 5), .ref (am 6), .ref (am 7), .ref (am 8)])) (am 0) = some (.inr (2, [.int (nI n), .ref (am 1), .ref (am 2), .int (nI oc), .int td, .int 0, .long sL, .ref (am 3), .ref (am 4), .ref (am 5), .ref (am 6), .ref (am 7), .ref (am 8)])) := pw_us
    refine pw_aload_n (pc := 18) hX dX2_order_18 0 rfl ?_
    refine pw_get (pc := 19) hX dX2_order_19 hm_10 rfl inT_2 5 (by decide) fl_RX2_43 rfl ?_
    refine pw_if_eq (pc := 22) hX 27 dX2_order_22 (by decide) (fun _ => ?_) (fun h => absurd h (by decide))
    refine pw_aload_n (pc := 27) hX dX2_order_27 0 rfl ?_
    refine pw_get (pc := 28) hX dX2_order_28 hm_10 rfl inT_2 7 (by decide) fl_RX2_21 rfl ?_
    refine pw_aload_n (pc := 31) hX dX2_order_31 0 rfl ?_
    refine pw_get (pc := 32) hX dX2_order_32 hm_10 rfl inT_2 3 (by decide) fl_RX2_50 rfl ?_
    refine pw_iconst (pc := 35) (v := 0) hX dX2_order_35 (by decide) ?_
    refine pw_iast (pc := 36) (j := oc) hX dX2_order_36 hm_4 hlt (by decide) ?_
    have hm_12 := pw_ke (a := am 3) (e := .inl (G.2.2.1 0, 20, .inl (upd os oc 0))) hm_10 (mw_ne hm (x := 0) (y := 3) (by decide) (by decide) (by decide))
    have hm_13 := pw_ke (a := am 3) (e := .inl (G.2.2.1 0, 20, .inl (upd os oc 0))) hm_2 (mw_ne hm (x := 1) (y := 3) (by decide) (by decide) (by decide))
    have hm_14 := pw_ke (a := am 3) (e := .inl (G.2.2.1 0, 20, .inl (upd os oc 0))) hm_3 (mw_ne hm (x := 2) (y := 3) (by decide) (by decide) (by decide))
    have hm_15 := pw_ke (a := am 3) (e := .inl (G.2.2.1 0, 20, .inl (upd os oc 0))) hm_5 (mw_ne hm (x := 4) (y := 3) (by decide) (by decide) (by decide))
    have hm_16 := pw_ke (a := am 3) (e := .inl (G.2.2.1 0, 20, .inl (upd os oc 0))) hm_6 (mw_ne hm (x := 5) (y := 3) (by decide) (by decide) (by decide))
    have hm_17 := pw_ke (a := am 3) (e := .inl (G.2.2.1 0, 20, .inl (upd os oc 0))) hm_7 (mw_ne hm (x := 6) (y := 3) (by decide) (by decide) (by decide))
    have hm_18 := pw_ke (a := am 3) (e := .inl (G.2.2.1 0, 20, .inl (upd os oc 0))) hm_8 (mw_ne hm (x := 7) (y := 3) (by decide) (by decide) (by decide))
    have hm_19 := pw_ke (a := am 3) (e := .inl (G.2.2.1 0, 20, .inl (upd os oc 0))) hm_9 (mw_ne hm (x := 8) (y := 3) (by decide) (by decide) (by decide))
    have hm_20 : pw_up (pw_up M (am 0) (.inr (2, [.int (nI n), .ref (am 1), .ref (am 2), .int (nI oc), .int td, .int 0, .long sL, .ref (am 3), .ref (am 4), .ref (am 5), .ref (am 6), .ref (am 7), .ref (am 8)]))) (am 3) (.inl (G.2.2.1 0, 20, .inl (upd os oc 0))) (am 3) = some (.inl (G.2.2.1 0, 20, .inl (upd os oc 0))) := pw_us
    refine pw_aload_n (pc := 37) hX dX2_order_37 0 rfl ?_
    refine pw_get (pc := 38) hX dX2_order_38 hm_12 rfl inT_2 8 (by decide) fl_RX2_24 rfl ?_
    refine pw_aload_n (pc := 41) hX dX2_order_41 0 rfl ?_
    refine pw_get (pc := 42) hX dX2_order_42 hm_12 rfl inT_2 3 (by decide) fl_RX2_50 rfl ?_
    refine pw_iconst (pc := 45) (v := (-1)) hX dX2_order_45 (by decide) ?_
    refine pw_iast (pc := 46) (j := oc) hX dX2_order_46 hm_15 hlt (by decide) ?_
    have hm_21 := pw_ke (a := am 4) (e := .inl (G.2.2.1 0, 20, .inl (upd pl oc ((-1))))) hm_12 (mw_ne hm (x := 0) (y := 4) (by decide) (by decide) (by decide))
    have hm_22 := pw_ke (a := am 4) (e := .inl (G.2.2.1 0, 20, .inl (upd pl oc ((-1))))) hm_13 (mw_ne hm (x := 1) (y := 4) (by decide) (by decide) (by decide))
    have hm_23 := pw_ke (a := am 4) (e := .inl (G.2.2.1 0, 20, .inl (upd pl oc ((-1))))) hm_14 (mw_ne hm (x := 2) (y := 4) (by decide) (by decide) (by decide))
    have hm_24 := pw_ke (a := am 4) (e := .inl (G.2.2.1 0, 20, .inl (upd pl oc ((-1))))) hm_20 (mw_ne hm (x := 3) (y := 4) (by decide) (by decide) (by decide))
    have hm_25 := pw_ke (a := am 4) (e := .inl (G.2.2.1 0, 20, .inl (upd pl oc ((-1))))) hm_16 (mw_ne hm (x := 5) (y := 4) (by decide) (by decide) (by decide))
    have hm_26 := pw_ke (a := am 4) (e := .inl (G.2.2.1 0, 20, .inl (upd pl oc ((-1))))) hm_17 (mw_ne hm (x := 6) (y := 4) (by decide) (by decide) (by decide))
    have hm_27 := pw_ke (a := am 4) (e := .inl (G.2.2.1 0, 20, .inl (upd pl oc ((-1))))) hm_18 (mw_ne hm (x := 7) (y := 4) (by decide) (by decide) (by decide))
    have hm_28 := pw_ke (a := am 4) (e := .inl (G.2.2.1 0, 20, .inl (upd pl oc ((-1))))) hm_19 (mw_ne hm (x := 8) (y := 4) (by decide) (by decide) (by decide))
    have hm_29 : pw_up (pw_up (pw_up M (am 0) (.inr (2, [.int (nI n), .ref (am 1), .ref (am 2), .int (nI oc), .int td, .int 0, .long sL, .ref (am 3), .ref (am 4), .ref (am 5), .ref (am 6), .ref (am 7), .ref (am 8)]))) (am 3) (.inl (G.2.2.1 0, 20, .inl (upd os oc 0)))) (am 4) (.inl (G.2.2.1 0, 20, .inl (upd pl oc ((-1))))) (am 4) = some (.inl (G.2.2.1 0, 20, .inl (upd pl oc ((-1))))) := pw_us
    refine pw_aload_n (pc := 47) hX dX2_order_47 0 rfl ?_
    refine pw_dup (pc := 48) hX dX2_order_48 rfl ?_
    refine pw_get (pc := 49) hX dX2_order_49 hm_21 rfl inT_2 3 (by decide) fl_RX2_50 rfl ?_
    refine pw_iconst (pc := 52) (v := 1) hX dX2_order_52 (by decide) ?_
    refine pw_iadd (pc := 53) (z := nI (oc + 1)) hX dX2_order_53 (nI_1 _) ?_
    refine pw_put (pc := 54) (v := .int (nI (oc + 1))) hX dX2_order_54 hm_21 rfl inT_2 tyX2 tyX2_ok nmX2 3 (by decide) fl_RX2_50 rfl (tyX2_ok 3 (by decide)) rfl rfl (Nat.le_of_ble_eq_true rfl) [.int (nI n), .ref (am 1), .ref (am 2), .int (nI (oc + 1)), .int td, .int 0, .long sL, .ref (am 3), .ref (am 4), .ref (am 5), .ref (am 6), .ref (am 7), .ref (am 8)] rfl ?_
    have hm_30 := pw_ke (a := am 0) (e := .inr (2, [.int (nI n), .ref (am 1), .ref (am 2), .int (nI (oc + 1)), .int td, .int 0, .long sL, .ref (am 3), .ref (am 4), .ref (am 5), .ref (am 6), .ref (am 7), .ref (am 8)])) hm_22 (mw_ne hm (x := 1) (y := 0) (by decide) (by decide) (by decide))
    have hm_31 := pw_ke (a := am 0) (e := .inr (2, [.int (nI n), .ref (am 1), .ref (am 2), .int (nI (oc + 1)), .int td, .int 0, .long sL, .ref (am 3), .ref (am 4), .ref (am 5), .ref (am 6), .ref (am 7), .ref (am 8)])) hm_23 (mw_ne hm (x := 2) (y := 0) (by decide) (by decide) (by decide))
    have hm_32 := pw_ke (a := am 0) (e := .inr (2, [.int (nI n), .ref (am 1), .ref (am 2), .int (nI (oc + 1)), .int td, .int 0, .long sL, .ref (am 3), .ref (am 4), .ref (am 5), .ref (am 6), .ref (am 7), .ref (am 8)])) hm_24 (mw_ne hm (x := 3) (y := 0) (by decide) (by decide) (by decide))
    have hm_33 := pw_ke (a := am 0) (e := .inr (2, [.int (nI n), .ref (am 1), .ref (am 2), .int (nI (oc + 1)), .int td, .int 0, .long sL, .ref (am 3), .ref (am 4), .ref (am 5), .ref (am 6), .ref (am 7), .ref (am 8)])) hm_29 (mw_ne hm (x := 4) (y := 0) (by decide) (by decide) (by decide))
    have hm_34 := pw_ke (a := am 0) (e := .inr (2, [.int (nI n), .ref (am 1), .ref (am 2), .int (nI (oc + 1)), .int td, .int 0, .long sL, .ref (am 3), .ref (am 4), .ref (am 5), .ref (am 6), .ref (am 7), .ref (am 8)])) hm_25 (mw_ne hm (x := 5) (y := 0) (by decide) (by decide) (by decide))
    have hm_35 := pw_ke (a := am 0) (e := .inr (2, [.int (nI n), .ref (am 1), .ref (am 2), .int (nI (oc + 1)), .int td, .int 0, .long sL, .ref (am 3), .ref (am 4), .ref (am 5), .ref (am 6), .ref (am 7), .ref (am 8)])) hm_26 (mw_ne hm (x := 6) (y := 0) (by decide) (by decide) (by decide))
    have hm_36 := pw_ke (a := am 0) (e := .inr (2, [.int (nI n), .ref (am 1), .ref (am 2), .int (nI (oc + 1)), .int td, .int 0, .long sL, .ref (am 3), .ref (am 4), .ref (am 5), .ref (am 6), .ref (am 7), .ref (am 8)])) hm_27 (mw_ne hm (x := 7) (y := 0) (by decide) (by decide) (by decide))
    have hm_37 := pw_ke (a := am 0) (e := .inr (2, [.int (nI n), .ref (am 1), .ref (am 2), .int (nI (oc + 1)), .int td, .int 0, .long sL, .ref (am 3), .ref (am 4), .ref (am 5), .ref (am 6), .ref (am 7), .ref (am 8)])) hm_28 (mw_ne hm (x := 8) (y := 0) (by decide) (by decide) (by decide))
    have hm_38 : pw_up (pw_up (pw_up (pw_up M (am 0) (.inr (2, [.int (nI n), .ref (am 1), .ref (am 2), .int (nI oc), .int td, .int 0, .long sL, .ref (am 3), .ref (am 4), .ref (am 5), .ref (am 6), .ref (am 7), .ref (am 8)]))) (am 3) (.inl (G.2.2.1 0, 20, .inl (upd os oc 0)))) (am 4) (.inl (G.2.2.1 0, 20, .inl (upd pl oc ((-1)))))) (am 0) (.inr (2, [.int (nI n), .ref (am 1), .ref (am 2), .int (nI (oc + 1)), .int td, .int 0, .long sL, .ref (am 3), .ref (am 4), .ref (am 5), .ref (am 6), .ref (am 7), .ref (am 8)])) (am 0) = some (.inr (2, [.int (nI n), .ref (am 1), .ref (am 2), .int (nI (oc + 1)), .int td, .int 0, .long sL, .ref (am 3), .ref (am 4), .ref (am 5), .ref (am 6), .ref (am 7), .ref (am 8)])) := pw_us
    refine pw_aload_n (pc := 57) hX dX2_order_57 0 rfl ?_
    refine pw_get (pc := 58) hX dX2_order_58 hm_38 rfl inT_2 3 (by decide) fl_RX2_50 rfl ?_
    refine pw_iconst (pc := 61) (v := 1) hX dX2_order_61 (by decide) ?_
    refine pw_isub (pc := 62) (z := (nI (oc + 1)) - 1) hX dX2_order_62 rfl ?_
    exact pw_iret hX dX2_order_63 hrt ⟨by decide, by decide⟩ ⟨Or.inl ⟨pc1_0 (fun h => hc_1 (by rw [h]; rfl)), congrArg some (congrArg Value.int (show nI (oc + 1) - 1 = nI oc from nI_pred oc)), (mw_ob (mw_pl (mw_os (mw_ob hm (oc) (mw_oc hm) td 0 sL) _) _) (oc + 1) (by omega) td 0 sL)⟩, (fm_up (fm_up (fm_up (fm_up fm_rf (x := 0) (by decide) _) (x := 3) (by decide) _) (x := 4) (by decide) _) (x := 0) (by decide) _)⟩
  · refine pw_iconst (pc := 10) (v := 1) hX dX2_order_10 (by decide) ?_
    refine pw_goto (pc := 11) hX 15 dX2_order_11 (by decide) ?_
    refine pw_put (pc := 15) (v := .int 1) hX dX2_order_15 hm.1 rfl inT_2 tyX2 tyX2_ok nmX2 5 (by decide) fl_RX2_43 rfl (tyX2_ok 5 (by decide)) rfl rfl (Nat.le_of_ble_eq_true rfl) [.int (nI n), .ref (am 1), .ref (am 2), .int (nI oc), .int td, .int 1, .long sL, .ref (am 3), .ref (am 4), .ref (am 5), .ref (am 6), .ref (am 7), .ref (am 8)] rfl ?_
    have hm_39 := pw_ke (a := am 0) (e := .inr (2, [.int (nI n), .ref (am 1), .ref (am 2), .int (nI oc), .int td, .int 1, .long sL, .ref (am 3), .ref (am 4), .ref (am 5), .ref (am 6), .ref (am 7), .ref (am 8)])) hm.2.1 (mw_ne hm (x := 1) (y := 0) (by decide) (by decide) (by decide))
    have hm_40 := pw_ke (a := am 0) (e := .inr (2, [.int (nI n), .ref (am 1), .ref (am 2), .int (nI oc), .int td, .int 1, .long sL, .ref (am 3), .ref (am 4), .ref (am 5), .ref (am 6), .ref (am 7), .ref (am 8)])) hm.2.2.1 (mw_ne hm (x := 2) (y := 0) (by decide) (by decide) (by decide))
    have hm_41 := pw_ke (a := am 0) (e := .inr (2, [.int (nI n), .ref (am 1), .ref (am 2), .int (nI oc), .int td, .int 1, .long sL, .ref (am 3), .ref (am 4), .ref (am 5), .ref (am 6), .ref (am 7), .ref (am 8)])) hm.2.2.2.1 (mw_ne hm (x := 3) (y := 0) (by decide) (by decide) (by decide))
    have hm_42 := pw_ke (a := am 0) (e := .inr (2, [.int (nI n), .ref (am 1), .ref (am 2), .int (nI oc), .int td, .int 1, .long sL, .ref (am 3), .ref (am 4), .ref (am 5), .ref (am 6), .ref (am 7), .ref (am 8)])) hm.2.2.2.2.1 (mw_ne hm (x := 4) (y := 0) (by decide) (by decide) (by decide))
    have hm_43 := pw_ke (a := am 0) (e := .inr (2, [.int (nI n), .ref (am 1), .ref (am 2), .int (nI oc), .int td, .int 1, .long sL, .ref (am 3), .ref (am 4), .ref (am 5), .ref (am 6), .ref (am 7), .ref (am 8)])) hm.2.2.2.2.2.1 (mw_ne hm (x := 5) (y := 0) (by decide) (by decide) (by decide))
    have hm_44 := pw_ke (a := am 0) (e := .inr (2, [.int (nI n), .ref (am 1), .ref (am 2), .int (nI oc), .int td, .int 1, .long sL, .ref (am 3), .ref (am 4), .ref (am 5), .ref (am 6), .ref (am 7), .ref (am 8)])) hm.2.2.2.2.2.2.1 (mw_ne hm (x := 6) (y := 0) (by decide) (by decide) (by decide))
    have hm_45 := pw_ke (a := am 0) (e := .inr (2, [.int (nI n), .ref (am 1), .ref (am 2), .int (nI oc), .int td, .int 1, .long sL, .ref (am 3), .ref (am 4), .ref (am 5), .ref (am 6), .ref (am 7), .ref (am 8)])) hm.2.2.2.2.2.2.2.1 (mw_ne hm (x := 7) (y := 0) (by decide) (by decide) (by decide))
    have hm_46 := pw_ke (a := am 0) (e := .inr (2, [.int (nI n), .ref (am 1), .ref (am 2), .int (nI oc), .int td, .int 1, .long sL, .ref (am 3), .ref (am 4), .ref (am 5), .ref (am 6), .ref (am 7), .ref (am 8)])) hm.2.2.2.2.2.2.2.2.1 (mw_ne hm (x := 8) (y := 0) (by decide) (by decide) (by decide))
    have hm_47 : pw_up M (am 0) (.inr (2, [.int (nI n), .ref (am 1), .ref (am 2), .int (nI oc), .int td, .int 1, .long sL, .ref (am 3), .ref (am 4), .ref (am 5), .ref (am 6), .ref (am 7), .ref (am 8)])) (am 0) = some (.inr (2, [.int (nI n), .ref (am 1), .ref (am 2), .int (nI oc), .int td, .int 1, .long sL, .ref (am 3), .ref (am 4), .ref (am 5), .ref (am 6), .ref (am 7), .ref (am 8)])) := pw_us
    refine pw_aload_n (pc := 18) hX dX2_order_18 0 rfl ?_
    refine pw_get (pc := 19) hX dX2_order_19 hm_47 rfl inT_2 5 (by decide) fl_RX2_43 rfl ?_
    refine pw_if_eq (pc := 22) hX 27 dX2_order_22 (by decide) (fun h => absurd h (by decide)) (fun _ => ?_)
    refine pw_iconst (pc := 25) (v := 0) hX dX2_order_25 (by decide) ?_
    exact pw_iret hX dX2_order_26 hrt ⟨by decide, by decide⟩ ⟨Or.inr ⟨by rw [show cd_order oc = 1 from pc1_1 ((nI_eq (b := 20) (Nat.lt_of_le_of_lt (mw_oc hm) (by decide)) (by decide)).mp hc_1)]; decide, ⟨_, rfl⟩, by rw [show cd_order oc = 1 from pc1_1 ((nI_eq (b := 20) (Nat.lt_of_le_of_lt (mw_oc hm) (by decide)) (by decide)).mp hc_1)]; exact (mw_ob hm (oc) (mw_oc hm) td 1 sL)⟩, (fm_up fm_rf (x := 0) (by decide) _)⟩
set_option maxHeartbeats 4000000 in
set_option maxRecDepth 100000 in
theorem mp_line (l : Launch) (hl : l.stackTraces = false) (G : pw_G) (M : pw_M) (am : Nat → Nat) (n oc : Nat) (td th : Int32) (sL : Int64) (dk to er os pl : Nat → Int32) (wa pr la : Nat → Nat → Int32) (hm : mw G am n oc td th sL dk to er os pl wa pr la M) (p0 p1 p2 : Int32) : pw_Met l yX2_line cX2_line 5 none 3 0 0 G [.ref (am 0), .int p0, .int p1, .int p2] M (fun v9 M9 => (cd_line oc os wa p0 p1 p2 = 0 ∧ v9 = none ∧ mw G am n oc td 0 sL dk to er os pl (va_up wa (ix p0) (upd (wa (ix p0)) (ix p1) p2)) (va_up pr (ix p0) (upd (pr (ix p0)) (ix p1) 0)) (va_up la (ix p0) (upd (la (ix p0)) (ix p1) (-1))) M9 ∨ ¬ cd_line oc os wa p0 p1 p2 = 0 ∧ v9 = none ∧ mw G am n oc td (cd_line oc os wa p0 p1 p2) sL dk to er os pl wa pr la M9) ∧ fm am 9 M M9) := by
  refine pw_of hl (by decide +kernel) (Nat.le_of_ble_eq_true rfl) [(0, .ref (am 0)), (1, .int p0), (2, .int p1), (3, .int p2)] rfl ?_
  intro p9 e9 s9 m9 args9 below9 meth9 c9 hX hrt hmi
  have hoc := mw_oc hm
  refine pw_iload_n (pc := 0) hX dX2_line_0 2 rfl ?_
  refine pw_bipush (pc := 1) (v := 10) hX dX2_line_1 (by decide) ?_
  refine pw_callS (pc := 3) (st := []) hX (mt_below l hl G M p1 10 (by decide)) ok_X2_below lk_RX2_53 dX2_line_3 rfl ⟨⟨by decide, by decide⟩, Nat.le_of_ble_eq_true rfl, Nat.le_of_ble_eq_true rfl, Nat.le_of_ble_eq_true rfl⟩ rfl (fun v9 M9 hp9 => ?_)
  obtain ⟨rfl, ⟨rfl, g, hg, rfl⟩ | ⟨rfl, hno_p1⟩⟩ := hp9
  · have hgB : g < 2 ^ 31 := Nat.lt_of_lt_of_le hg (by decide)
    refine pw_if_eq (pc := 6) hX 24 dX2_line_6 (by decide) (fun h => absurd h (by decide)) (fun _ => ?_)
    refine pw_iload_n (pc := 9) hX dX2_line_9 3 rfl ?_
    refine pw_iconst (pc := 10) (v := 1) hX dX2_line_10 (by decide) ?_
    refine pw_icmp_lt (pc := 11) hX 24 dX2_line_11 (by decide) (fun hc_2 => ?_) (fun hc_2 => ?_)
    · refine pw_iconst (pc := 24) (v := 0) hX dX2_line_24 (by decide) ?_
      refine pw_istore (pc := 25) hX [(4, .int 0), (0, .ref (am 0)), (1, .int p0), (2, .int (nI g)), (3, .int p2)] dX2_line_25 (by decide) rfl ?_
      refine pw_aload_n (pc := 27) hX dX2_line_27 1 rfl ?_
      refine pw_iload_n (pc := 28) hX dX2_line_28 2 rfl ?_
      refine pw_aload_n (pc := 29) hX dX2_line_29 1 rfl ?_
      refine pw_get (pc := 30) hX dX2_line_30 hm.1 rfl inT_2 3 (by decide) fl_RX2_50 rfl ?_
      refine pw_callS (pc := 33) (st := [.ref (am 0)]) hX (mt_below l hl G M p0 oc (Nat.lt_of_le_of_lt (mw_oc hm) (by decide))) ok_X2_below lk_RX2_53 dX2_line_33 rfl ⟨⟨by decide, by decide⟩, Nat.le_of_ble_eq_true rfl, Nat.le_of_ble_eq_true rfl, Nat.le_of_ble_eq_true rfl⟩ rfl (fun v9 M9 hp9 => ?_)
      obtain ⟨rfl, ⟨rfl, j, hj, rfl⟩ | ⟨rfl, hno_p0⟩⟩ := hp9
      · have hjB : j < 2 ^ 31 := Nat.lt_of_lt_of_le hj (Nat.le_trans (mw_oc hm) (by decide))
        refine pw_if_ne (pc := 36) hX 43 dX2_line_36 (by decide) (fun _ => ?_) (fun h => absurd h (by decide))
        refine pw_iload (pc := 43) hX dX2_line_43 0 rfl ?_
        refine pw_if_ne (pc := 45) hX 52 dX2_line_45 (by decide) (fun h => absurd h (by decide)) (fun _ => ?_)
        refine pw_iconst (pc := 48) (v := 2) hX dX2_line_48 (by decide) ?_
        refine pw_goto (pc := 49) hX 75 dX2_line_49 (by decide) ?_
        refine pw_put (pc := 75) (v := .int 2) hX dX2_line_75 hm.1 rfl inT_2 tyX2 tyX2_ok nmX2 5 (by decide) fl_RX2_43 rfl (tyX2_ok 5 (by decide)) rfl rfl (Nat.le_of_ble_eq_true rfl) [.int (nI n), .ref (am 1), .ref (am 2), .int (nI oc), .int td, .int 2, .long sL, .ref (am 3), .ref (am 4), .ref (am 5), .ref (am 6), .ref (am 7), .ref (am 8)] rfl ?_
        have hm_5 := pw_ke (a := am 0) (e := .inr (2, [.int (nI n), .ref (am 1), .ref (am 2), .int (nI oc), .int td, .int 2, .long sL, .ref (am 3), .ref (am 4), .ref (am 5), .ref (am 6), .ref (am 7), .ref (am 8)])) hm.2.1 (mw_ne hm (x := 1) (y := 0) (by decide) (by decide) (by decide))
        have hm_6 := pw_ke (a := am 0) (e := .inr (2, [.int (nI n), .ref (am 1), .ref (am 2), .int (nI oc), .int td, .int 2, .long sL, .ref (am 3), .ref (am 4), .ref (am 5), .ref (am 6), .ref (am 7), .ref (am 8)])) hm.2.2.1 (mw_ne hm (x := 2) (y := 0) (by decide) (by decide) (by decide))
        have hm_7 := pw_ke (a := am 0) (e := .inr (2, [.int (nI n), .ref (am 1), .ref (am 2), .int (nI oc), .int td, .int 2, .long sL, .ref (am 3), .ref (am 4), .ref (am 5), .ref (am 6), .ref (am 7), .ref (am 8)])) hm.2.2.2.1 (mw_ne hm (x := 3) (y := 0) (by decide) (by decide) (by decide))
        have hm_8 := pw_ke (a := am 0) (e := .inr (2, [.int (nI n), .ref (am 1), .ref (am 2), .int (nI oc), .int td, .int 2, .long sL, .ref (am 3), .ref (am 4), .ref (am 5), .ref (am 6), .ref (am 7), .ref (am 8)])) hm.2.2.2.2.1 (mw_ne hm (x := 4) (y := 0) (by decide) (by decide) (by decide))
        have hm_9 := pw_ke (a := am 0) (e := .inr (2, [.int (nI n), .ref (am 1), .ref (am 2), .int (nI oc), .int td, .int 2, .long sL, .ref (am 3), .ref (am 4), .ref (am 5), .ref (am 6), .ref (am 7), .ref (am 8)])) hm.2.2.2.2.2.1 (mw_ne hm (x := 5) (y := 0) (by decide) (by decide) (by decide))
        have hm_10 := pw_ke (a := am 0) (e := .inr (2, [.int (nI n), .ref (am 1), .ref (am 2), .int (nI oc), .int td, .int 2, .long sL, .ref (am 3), .ref (am 4), .ref (am 5), .ref (am 6), .ref (am 7), .ref (am 8)])) hm.2.2.2.2.2.2.1 (mw_ne hm (x := 6) (y := 0) (by decide) (by decide) (by decide))
        have hm_11 := pw_ke (a := am 0) (e := .inr (2, [.int (nI n), .ref (am 1), .ref (am 2), .int (nI oc), .int td, .int 2, .long sL, .ref (am 3), .ref (am 4), .ref (am 5), .ref (am 6), .ref (am 7), .ref (am 8)])) hm.2.2.2.2.2.2.2.1 (mw_ne hm (x := 7) (y := 0) (by decide) (by decide) (by decide))
        have hm_12 := pw_ke (a := am 0) (e := .inr (2, [.int (nI n), .ref (am 1), .ref (am 2), .int (nI oc), .int td, .int 2, .long sL, .ref (am 3), .ref (am 4), .ref (am 5), .ref (am 6), .ref (am 7), .ref (am 8)])) hm.2.2.2.2.2.2.2.2.1 (mw_ne hm (x := 8) (y := 0) (by decide) (by decide) (by decide))
        have hm_13 : pw_up M (am 0) (.inr (2, [.int (nI n), .ref (am 1), .ref (am 2), .int (nI oc), .int td, .int 2, .long sL, .ref (am 3), .ref (am 4), .ref (am 5), .ref (am 6), .ref (am 7), .ref (am 8)])) (am 0) = some (.inr (2, [.int (nI n), .ref (am 1), .ref (am 2), .int (nI oc), .int td, .int 2, .long sL, .ref (am 3), .ref (am 4), .ref (am 5), .ref (am 6), .ref (am 7), .ref (am 8)])) := pw_us
        refine pw_aload_n (pc := 78) hX dX2_line_78 1 rfl ?_
        refine pw_get (pc := 79) hX dX2_line_79 hm_13 rfl inT_2 5 (by decide) fl_RX2_43 rfl ?_
        refine pw_if_eq (pc := 82) hX 86 dX2_line_82 (by decide) (fun h => absurd h (by decide)) (fun _ => ?_)
        exact pw_vret hX dX2_line_85 hrt ⟨by decide, by decide⟩ ⟨Or.inr ⟨by rw [show cd_line oc os wa (nI j) (nI g) p2 = 2 from pc3_2 (fun h => h (ir_nI hj)) (fun h => absurd h.2.1 (Int32.not_le.mpr hc_2))]; decide, rfl, by rw [show cd_line oc os wa (nI j) (nI g) p2 = 2 from pc3_2 (fun h => h (ir_nI hj)) (fun h => absurd h.2.1 (Int32.not_le.mpr hc_2))]; exact (mw_ob hm (oc) (mw_oc hm) td 2 sL)⟩, (fm_up fm_rf (x := 0) (by decide) _)⟩
      · refine pw_if_ne (pc := 36) hX 43 dX2_line_36 (by decide) (fun h => absurd h (by decide)) (fun _ => ?_)
        refine pw_iconst (pc := 39) (v := 1) hX dX2_line_39 (by decide) ?_
        refine pw_goto (pc := 40) hX 75 dX2_line_40 (by decide) ?_
        refine pw_put (pc := 75) (v := .int 1) hX dX2_line_75 hm.1 rfl inT_2 tyX2 tyX2_ok nmX2 5 (by decide) fl_RX2_43 rfl (tyX2_ok 5 (by decide)) rfl rfl (Nat.le_of_ble_eq_true rfl) [.int (nI n), .ref (am 1), .ref (am 2), .int (nI oc), .int td, .int 1, .long sL, .ref (am 3), .ref (am 4), .ref (am 5), .ref (am 6), .ref (am 7), .ref (am 8)] rfl ?_
        have hm_16 := pw_ke (a := am 0) (e := .inr (2, [.int (nI n), .ref (am 1), .ref (am 2), .int (nI oc), .int td, .int 1, .long sL, .ref (am 3), .ref (am 4), .ref (am 5), .ref (am 6), .ref (am 7), .ref (am 8)])) hm.2.1 (mw_ne hm (x := 1) (y := 0) (by decide) (by decide) (by decide))
        have hm_17 := pw_ke (a := am 0) (e := .inr (2, [.int (nI n), .ref (am 1), .ref (am 2), .int (nI oc), .int td, .int 1, .long sL, .ref (am 3), .ref (am 4), .ref (am 5), .ref (am 6), .ref (am 7), .ref (am 8)])) hm.2.2.1 (mw_ne hm (x := 2) (y := 0) (by decide) (by decide) (by decide))
        have hm_18 := pw_ke (a := am 0) (e := .inr (2, [.int (nI n), .ref (am 1), .ref (am 2), .int (nI oc), .int td, .int 1, .long sL, .ref (am 3), .ref (am 4), .ref (am 5), .ref (am 6), .ref (am 7), .ref (am 8)])) hm.2.2.2.1 (mw_ne hm (x := 3) (y := 0) (by decide) (by decide) (by decide))
        have hm_19 := pw_ke (a := am 0) (e := .inr (2, [.int (nI n), .ref (am 1), .ref (am 2), .int (nI oc), .int td, .int 1, .long sL, .ref (am 3), .ref (am 4), .ref (am 5), .ref (am 6), .ref (am 7), .ref (am 8)])) hm.2.2.2.2.1 (mw_ne hm (x := 4) (y := 0) (by decide) (by decide) (by decide))
        have hm_20 := pw_ke (a := am 0) (e := .inr (2, [.int (nI n), .ref (am 1), .ref (am 2), .int (nI oc), .int td, .int 1, .long sL, .ref (am 3), .ref (am 4), .ref (am 5), .ref (am 6), .ref (am 7), .ref (am 8)])) hm.2.2.2.2.2.1 (mw_ne hm (x := 5) (y := 0) (by decide) (by decide) (by decide))
        have hm_21 := pw_ke (a := am 0) (e := .inr (2, [.int (nI n), .ref (am 1), .ref (am 2), .int (nI oc), .int td, .int 1, .long sL, .ref (am 3), .ref (am 4), .ref (am 5), .ref (am 6), .ref (am 7), .ref (am 8)])) hm.2.2.2.2.2.2.1 (mw_ne hm (x := 6) (y := 0) (by decide) (by decide) (by decide))
        have hm_22 := pw_ke (a := am 0) (e := .inr (2, [.int (nI n), .ref (am 1), .ref (am 2), .int (nI oc), .int td, .int 1, .long sL, .ref (am 3), .ref (am 4), .ref (am 5), .ref (am 6), .ref (am 7), .ref (am 8)])) hm.2.2.2.2.2.2.2.1 (mw_ne hm (x := 7) (y := 0) (by decide) (by decide) (by decide))
        have hm_23 := pw_ke (a := am 0) (e := .inr (2, [.int (nI n), .ref (am 1), .ref (am 2), .int (nI oc), .int td, .int 1, .long sL, .ref (am 3), .ref (am 4), .ref (am 5), .ref (am 6), .ref (am 7), .ref (am 8)])) hm.2.2.2.2.2.2.2.2.1 (mw_ne hm (x := 8) (y := 0) (by decide) (by decide) (by decide))
        have hm_24 : pw_up M (am 0) (.inr (2, [.int (nI n), .ref (am 1), .ref (am 2), .int (nI oc), .int td, .int 1, .long sL, .ref (am 3), .ref (am 4), .ref (am 5), .ref (am 6), .ref (am 7), .ref (am 8)])) (am 0) = some (.inr (2, [.int (nI n), .ref (am 1), .ref (am 2), .int (nI oc), .int td, .int 1, .long sL, .ref (am 3), .ref (am 4), .ref (am 5), .ref (am 6), .ref (am 7), .ref (am 8)])) := pw_us
        refine pw_aload_n (pc := 78) hX dX2_line_78 1 rfl ?_
        refine pw_get (pc := 79) hX dX2_line_79 hm_24 rfl inT_2 5 (by decide) fl_RX2_43 rfl ?_
        refine pw_if_eq (pc := 82) hX 86 dX2_line_82 (by decide) (fun h => absurd h (by decide)) (fun _ => ?_)
        exact pw_vret hX dX2_line_85 hrt ⟨by decide, by decide⟩ ⟨Or.inr ⟨by rw [show cd_line oc os wa p0 (nI g) p2 = 1 from pc_t hno_p0]; decide, rfl, by rw [show cd_line oc os wa p0 (nI g) p2 = 1 from pc_t hno_p0]; exact (mw_ob hm (oc) (mw_oc hm) td 1 sL)⟩, (fm_up fm_rf (x := 0) (by decide) _)⟩
    · refine pw_iload_n (pc := 14) hX dX2_line_14 3 rfl ?_
      refine pw_bipush (pc := 15) (v := 9) hX dX2_line_15 (by decide) ?_
      refine pw_icmp_gt (pc := 17) hX 24 dX2_line_17 (by decide) (fun hc_26 => ?_) (fun hc_26 => ?_)
      · refine pw_iconst (pc := 24) (v := 0) hX dX2_line_24 (by decide) ?_
        refine pw_istore (pc := 25) hX [(4, .int 0), (0, .ref (am 0)), (1, .int p0), (2, .int (nI g)), (3, .int p2)] dX2_line_25 (by decide) rfl ?_
        refine pw_aload_n (pc := 27) hX dX2_line_27 1 rfl ?_
        refine pw_iload_n (pc := 28) hX dX2_line_28 2 rfl ?_
        refine pw_aload_n (pc := 29) hX dX2_line_29 1 rfl ?_
        refine pw_get (pc := 30) hX dX2_line_30 hm.1 rfl inT_2 3 (by decide) fl_RX2_50 rfl ?_
        refine pw_callS (pc := 33) (st := [.ref (am 0)]) hX (mt_below l hl G M p0 oc (Nat.lt_of_le_of_lt (mw_oc hm) (by decide))) ok_X2_below lk_RX2_53 dX2_line_33 rfl ⟨⟨by decide, by decide⟩, Nat.le_of_ble_eq_true rfl, Nat.le_of_ble_eq_true rfl, Nat.le_of_ble_eq_true rfl⟩ rfl (fun v9 M9 hp9 => ?_)
        obtain ⟨rfl, ⟨rfl, j, hj, rfl⟩ | ⟨rfl, hno_p0⟩⟩ := hp9
        · have hjB : j < 2 ^ 31 := Nat.lt_of_lt_of_le hj (Nat.le_trans (mw_oc hm) (by decide))
          refine pw_if_ne (pc := 36) hX 43 dX2_line_36 (by decide) (fun _ => ?_) (fun h => absurd h (by decide))
          refine pw_iload (pc := 43) hX dX2_line_43 0 rfl ?_
          refine pw_if_ne (pc := 45) hX 52 dX2_line_45 (by decide) (fun h => absurd h (by decide)) (fun _ => ?_)
          refine pw_iconst (pc := 48) (v := 2) hX dX2_line_48 (by decide) ?_
          refine pw_goto (pc := 49) hX 75 dX2_line_49 (by decide) ?_
          refine pw_put (pc := 75) (v := .int 2) hX dX2_line_75 hm.1 rfl inT_2 tyX2 tyX2_ok nmX2 5 (by decide) fl_RX2_43 rfl (tyX2_ok 5 (by decide)) rfl rfl (Nat.le_of_ble_eq_true rfl) [.int (nI n), .ref (am 1), .ref (am 2), .int (nI oc), .int td, .int 2, .long sL, .ref (am 3), .ref (am 4), .ref (am 5), .ref (am 6), .ref (am 7), .ref (am 8)] rfl ?_
          have hm_29 := pw_ke (a := am 0) (e := .inr (2, [.int (nI n), .ref (am 1), .ref (am 2), .int (nI oc), .int td, .int 2, .long sL, .ref (am 3), .ref (am 4), .ref (am 5), .ref (am 6), .ref (am 7), .ref (am 8)])) hm.2.1 (mw_ne hm (x := 1) (y := 0) (by decide) (by decide) (by decide))
          have hm_30 := pw_ke (a := am 0) (e := .inr (2, [.int (nI n), .ref (am 1), .ref (am 2), .int (nI oc), .int td, .int 2, .long sL, .ref (am 3), .ref (am 4), .ref (am 5), .ref (am 6), .ref (am 7), .ref (am 8)])) hm.2.2.1 (mw_ne hm (x := 2) (y := 0) (by decide) (by decide) (by decide))
          have hm_31 := pw_ke (a := am 0) (e := .inr (2, [.int (nI n), .ref (am 1), .ref (am 2), .int (nI oc), .int td, .int 2, .long sL, .ref (am 3), .ref (am 4), .ref (am 5), .ref (am 6), .ref (am 7), .ref (am 8)])) hm.2.2.2.1 (mw_ne hm (x := 3) (y := 0) (by decide) (by decide) (by decide))
          have hm_32 := pw_ke (a := am 0) (e := .inr (2, [.int (nI n), .ref (am 1), .ref (am 2), .int (nI oc), .int td, .int 2, .long sL, .ref (am 3), .ref (am 4), .ref (am 5), .ref (am 6), .ref (am 7), .ref (am 8)])) hm.2.2.2.2.1 (mw_ne hm (x := 4) (y := 0) (by decide) (by decide) (by decide))
          have hm_33 := pw_ke (a := am 0) (e := .inr (2, [.int (nI n), .ref (am 1), .ref (am 2), .int (nI oc), .int td, .int 2, .long sL, .ref (am 3), .ref (am 4), .ref (am 5), .ref (am 6), .ref (am 7), .ref (am 8)])) hm.2.2.2.2.2.1 (mw_ne hm (x := 5) (y := 0) (by decide) (by decide) (by decide))
          have hm_34 := pw_ke (a := am 0) (e := .inr (2, [.int (nI n), .ref (am 1), .ref (am 2), .int (nI oc), .int td, .int 2, .long sL, .ref (am 3), .ref (am 4), .ref (am 5), .ref (am 6), .ref (am 7), .ref (am 8)])) hm.2.2.2.2.2.2.1 (mw_ne hm (x := 6) (y := 0) (by decide) (by decide) (by decide))
          have hm_35 := pw_ke (a := am 0) (e := .inr (2, [.int (nI n), .ref (am 1), .ref (am 2), .int (nI oc), .int td, .int 2, .long sL, .ref (am 3), .ref (am 4), .ref (am 5), .ref (am 6), .ref (am 7), .ref (am 8)])) hm.2.2.2.2.2.2.2.1 (mw_ne hm (x := 7) (y := 0) (by decide) (by decide) (by decide))
          have hm_36 := pw_ke (a := am 0) (e := .inr (2, [.int (nI n), .ref (am 1), .ref (am 2), .int (nI oc), .int td, .int 2, .long sL, .ref (am 3), .ref (am 4), .ref (am 5), .ref (am 6), .ref (am 7), .ref (am 8)])) hm.2.2.2.2.2.2.2.2.1 (mw_ne hm (x := 8) (y := 0) (by decide) (by decide) (by decide))
          have hm_37 : pw_up M (am 0) (.inr (2, [.int (nI n), .ref (am 1), .ref (am 2), .int (nI oc), .int td, .int 2, .long sL, .ref (am 3), .ref (am 4), .ref (am 5), .ref (am 6), .ref (am 7), .ref (am 8)])) (am 0) = some (.inr (2, [.int (nI n), .ref (am 1), .ref (am 2), .int (nI oc), .int td, .int 2, .long sL, .ref (am 3), .ref (am 4), .ref (am 5), .ref (am 6), .ref (am 7), .ref (am 8)])) := pw_us
          refine pw_aload_n (pc := 78) hX dX2_line_78 1 rfl ?_
          refine pw_get (pc := 79) hX dX2_line_79 hm_37 rfl inT_2 5 (by decide) fl_RX2_43 rfl ?_
          refine pw_if_eq (pc := 82) hX 86 dX2_line_82 (by decide) (fun h => absurd h (by decide)) (fun _ => ?_)
          exact pw_vret hX dX2_line_85 hrt ⟨by decide, by decide⟩ ⟨Or.inr ⟨by rw [show cd_line oc os wa (nI j) (nI g) p2 = 2 from pc3_2 (fun h => h (ir_nI hj)) (fun h => absurd h.2.2 (Int32.not_le.mpr hc_26))]; decide, rfl, by rw [show cd_line oc os wa (nI j) (nI g) p2 = 2 from pc3_2 (fun h => h (ir_nI hj)) (fun h => absurd h.2.2 (Int32.not_le.mpr hc_26))]; exact (mw_ob hm (oc) (mw_oc hm) td 2 sL)⟩, (fm_up fm_rf (x := 0) (by decide) _)⟩
        · refine pw_if_ne (pc := 36) hX 43 dX2_line_36 (by decide) (fun h => absurd h (by decide)) (fun _ => ?_)
          refine pw_iconst (pc := 39) (v := 1) hX dX2_line_39 (by decide) ?_
          refine pw_goto (pc := 40) hX 75 dX2_line_40 (by decide) ?_
          refine pw_put (pc := 75) (v := .int 1) hX dX2_line_75 hm.1 rfl inT_2 tyX2 tyX2_ok nmX2 5 (by decide) fl_RX2_43 rfl (tyX2_ok 5 (by decide)) rfl rfl (Nat.le_of_ble_eq_true rfl) [.int (nI n), .ref (am 1), .ref (am 2), .int (nI oc), .int td, .int 1, .long sL, .ref (am 3), .ref (am 4), .ref (am 5), .ref (am 6), .ref (am 7), .ref (am 8)] rfl ?_
          have hm_40 := pw_ke (a := am 0) (e := .inr (2, [.int (nI n), .ref (am 1), .ref (am 2), .int (nI oc), .int td, .int 1, .long sL, .ref (am 3), .ref (am 4), .ref (am 5), .ref (am 6), .ref (am 7), .ref (am 8)])) hm.2.1 (mw_ne hm (x := 1) (y := 0) (by decide) (by decide) (by decide))
          have hm_41 := pw_ke (a := am 0) (e := .inr (2, [.int (nI n), .ref (am 1), .ref (am 2), .int (nI oc), .int td, .int 1, .long sL, .ref (am 3), .ref (am 4), .ref (am 5), .ref (am 6), .ref (am 7), .ref (am 8)])) hm.2.2.1 (mw_ne hm (x := 2) (y := 0) (by decide) (by decide) (by decide))
          have hm_42 := pw_ke (a := am 0) (e := .inr (2, [.int (nI n), .ref (am 1), .ref (am 2), .int (nI oc), .int td, .int 1, .long sL, .ref (am 3), .ref (am 4), .ref (am 5), .ref (am 6), .ref (am 7), .ref (am 8)])) hm.2.2.2.1 (mw_ne hm (x := 3) (y := 0) (by decide) (by decide) (by decide))
          have hm_43 := pw_ke (a := am 0) (e := .inr (2, [.int (nI n), .ref (am 1), .ref (am 2), .int (nI oc), .int td, .int 1, .long sL, .ref (am 3), .ref (am 4), .ref (am 5), .ref (am 6), .ref (am 7), .ref (am 8)])) hm.2.2.2.2.1 (mw_ne hm (x := 4) (y := 0) (by decide) (by decide) (by decide))
          have hm_44 := pw_ke (a := am 0) (e := .inr (2, [.int (nI n), .ref (am 1), .ref (am 2), .int (nI oc), .int td, .int 1, .long sL, .ref (am 3), .ref (am 4), .ref (am 5), .ref (am 6), .ref (am 7), .ref (am 8)])) hm.2.2.2.2.2.1 (mw_ne hm (x := 5) (y := 0) (by decide) (by decide) (by decide))
          have hm_45 := pw_ke (a := am 0) (e := .inr (2, [.int (nI n), .ref (am 1), .ref (am 2), .int (nI oc), .int td, .int 1, .long sL, .ref (am 3), .ref (am 4), .ref (am 5), .ref (am 6), .ref (am 7), .ref (am 8)])) hm.2.2.2.2.2.2.1 (mw_ne hm (x := 6) (y := 0) (by decide) (by decide) (by decide))
          have hm_46 := pw_ke (a := am 0) (e := .inr (2, [.int (nI n), .ref (am 1), .ref (am 2), .int (nI oc), .int td, .int 1, .long sL, .ref (am 3), .ref (am 4), .ref (am 5), .ref (am 6), .ref (am 7), .ref (am 8)])) hm.2.2.2.2.2.2.2.1 (mw_ne hm (x := 7) (y := 0) (by decide) (by decide) (by decide))
          have hm_47 := pw_ke (a := am 0) (e := .inr (2, [.int (nI n), .ref (am 1), .ref (am 2), .int (nI oc), .int td, .int 1, .long sL, .ref (am 3), .ref (am 4), .ref (am 5), .ref (am 6), .ref (am 7), .ref (am 8)])) hm.2.2.2.2.2.2.2.2.1 (mw_ne hm (x := 8) (y := 0) (by decide) (by decide) (by decide))
          have hm_48 : pw_up M (am 0) (.inr (2, [.int (nI n), .ref (am 1), .ref (am 2), .int (nI oc), .int td, .int 1, .long sL, .ref (am 3), .ref (am 4), .ref (am 5), .ref (am 6), .ref (am 7), .ref (am 8)])) (am 0) = some (.inr (2, [.int (nI n), .ref (am 1), .ref (am 2), .int (nI oc), .int td, .int 1, .long sL, .ref (am 3), .ref (am 4), .ref (am 5), .ref (am 6), .ref (am 7), .ref (am 8)])) := pw_us
          refine pw_aload_n (pc := 78) hX dX2_line_78 1 rfl ?_
          refine pw_get (pc := 79) hX dX2_line_79 hm_48 rfl inT_2 5 (by decide) fl_RX2_43 rfl ?_
          refine pw_if_eq (pc := 82) hX 86 dX2_line_82 (by decide) (fun h => absurd h (by decide)) (fun _ => ?_)
          exact pw_vret hX dX2_line_85 hrt ⟨by decide, by decide⟩ ⟨Or.inr ⟨by rw [show cd_line oc os wa p0 (nI g) p2 = 1 from pc_t hno_p0]; decide, rfl, by rw [show cd_line oc os wa p0 (nI g) p2 = 1 from pc_t hno_p0]; exact (mw_ob hm (oc) (mw_oc hm) td 1 sL)⟩, (fm_up fm_rf (x := 0) (by decide) _)⟩
      · refine pw_iconst (pc := 20) (v := 1) hX dX2_line_20 (by decide) ?_
        refine pw_goto (pc := 21) hX 25 dX2_line_21 (by decide) ?_
        refine pw_istore (pc := 25) hX [(4, .int 1), (0, .ref (am 0)), (1, .int p0), (2, .int (nI g)), (3, .int p2)] dX2_line_25 (by decide) rfl ?_
        refine pw_aload_n (pc := 27) hX dX2_line_27 1 rfl ?_
        refine pw_iload_n (pc := 28) hX dX2_line_28 2 rfl ?_
        refine pw_aload_n (pc := 29) hX dX2_line_29 1 rfl ?_
        refine pw_get (pc := 30) hX dX2_line_30 hm.1 rfl inT_2 3 (by decide) fl_RX2_50 rfl ?_
        refine pw_callS (pc := 33) (st := [.ref (am 0)]) hX (mt_below l hl G M p0 oc (Nat.lt_of_le_of_lt (mw_oc hm) (by decide))) ok_X2_below lk_RX2_53 dX2_line_33 rfl ⟨⟨by decide, by decide⟩, Nat.le_of_ble_eq_true rfl, Nat.le_of_ble_eq_true rfl, Nat.le_of_ble_eq_true rfl⟩ rfl (fun v9 M9 hp9 => ?_)
        obtain ⟨rfl, ⟨rfl, j, hj, rfl⟩ | ⟨rfl, hno_p0⟩⟩ := hp9
        · have hjB : j < 2 ^ 31 := Nat.lt_of_lt_of_le hj (Nat.le_trans (mw_oc hm) (by decide))
          refine pw_if_ne (pc := 36) hX 43 dX2_line_36 (by decide) (fun _ => ?_) (fun h => absurd h (by decide))
          refine pw_iload (pc := 43) hX dX2_line_43 0 rfl ?_
          refine pw_if_ne (pc := 45) hX 52 dX2_line_45 (by decide) (fun _ => ?_) (fun h => absurd h (by decide))
          refine pw_aload_n (pc := 52) hX dX2_line_52 1 rfl ?_
          refine pw_get (pc := 53) hX dX2_line_53 hm.1 rfl inT_2 7 (by decide) fl_RX2_21 rfl ?_
          refine pw_iload_n (pc := 56) hX dX2_line_56 2 rfl ?_
          refine pw_iald (pc := 57) (j := j) hX dX2_line_57 hm.2.2.2.1 (by omega) (by decide) ?_
          refine pw_if_ne (pc := 58) hX 70 dX2_line_58 (by decide) (fun hc_52 => ?_) (fun hc_52 => ?_)
          · refine pw_iconst (pc := 70) (v := 3) hX dX2_line_70 (by decide) ?_
            refine pw_goto (pc := 71) hX 75 dX2_line_71 (by decide) ?_
            refine pw_put (pc := 75) (v := .int 3) hX dX2_line_75 hm.1 rfl inT_2 tyX2 tyX2_ok nmX2 5 (by decide) fl_RX2_43 rfl (tyX2_ok 5 (by decide)) rfl rfl (Nat.le_of_ble_eq_true rfl) [.int (nI n), .ref (am 1), .ref (am 2), .int (nI oc), .int td, .int 3, .long sL, .ref (am 3), .ref (am 4), .ref (am 5), .ref (am 6), .ref (am 7), .ref (am 8)] rfl ?_
            have hm_53 := pw_ke (a := am 0) (e := .inr (2, [.int (nI n), .ref (am 1), .ref (am 2), .int (nI oc), .int td, .int 3, .long sL, .ref (am 3), .ref (am 4), .ref (am 5), .ref (am 6), .ref (am 7), .ref (am 8)])) hm.2.1 (mw_ne hm (x := 1) (y := 0) (by decide) (by decide) (by decide))
            have hm_54 := pw_ke (a := am 0) (e := .inr (2, [.int (nI n), .ref (am 1), .ref (am 2), .int (nI oc), .int td, .int 3, .long sL, .ref (am 3), .ref (am 4), .ref (am 5), .ref (am 6), .ref (am 7), .ref (am 8)])) hm.2.2.1 (mw_ne hm (x := 2) (y := 0) (by decide) (by decide) (by decide))
            have hm_55 := pw_ke (a := am 0) (e := .inr (2, [.int (nI n), .ref (am 1), .ref (am 2), .int (nI oc), .int td, .int 3, .long sL, .ref (am 3), .ref (am 4), .ref (am 5), .ref (am 6), .ref (am 7), .ref (am 8)])) hm.2.2.2.1 (mw_ne hm (x := 3) (y := 0) (by decide) (by decide) (by decide))
            have hm_56 := pw_ke (a := am 0) (e := .inr (2, [.int (nI n), .ref (am 1), .ref (am 2), .int (nI oc), .int td, .int 3, .long sL, .ref (am 3), .ref (am 4), .ref (am 5), .ref (am 6), .ref (am 7), .ref (am 8)])) hm.2.2.2.2.1 (mw_ne hm (x := 4) (y := 0) (by decide) (by decide) (by decide))
            have hm_57 := pw_ke (a := am 0) (e := .inr (2, [.int (nI n), .ref (am 1), .ref (am 2), .int (nI oc), .int td, .int 3, .long sL, .ref (am 3), .ref (am 4), .ref (am 5), .ref (am 6), .ref (am 7), .ref (am 8)])) hm.2.2.2.2.2.1 (mw_ne hm (x := 5) (y := 0) (by decide) (by decide) (by decide))
            have hm_58 := pw_ke (a := am 0) (e := .inr (2, [.int (nI n), .ref (am 1), .ref (am 2), .int (nI oc), .int td, .int 3, .long sL, .ref (am 3), .ref (am 4), .ref (am 5), .ref (am 6), .ref (am 7), .ref (am 8)])) hm.2.2.2.2.2.2.1 (mw_ne hm (x := 6) (y := 0) (by decide) (by decide) (by decide))
            have hm_59 := pw_ke (a := am 0) (e := .inr (2, [.int (nI n), .ref (am 1), .ref (am 2), .int (nI oc), .int td, .int 3, .long sL, .ref (am 3), .ref (am 4), .ref (am 5), .ref (am 6), .ref (am 7), .ref (am 8)])) hm.2.2.2.2.2.2.2.1 (mw_ne hm (x := 7) (y := 0) (by decide) (by decide) (by decide))
            have hm_60 := pw_ke (a := am 0) (e := .inr (2, [.int (nI n), .ref (am 1), .ref (am 2), .int (nI oc), .int td, .int 3, .long sL, .ref (am 3), .ref (am 4), .ref (am 5), .ref (am 6), .ref (am 7), .ref (am 8)])) hm.2.2.2.2.2.2.2.2.1 (mw_ne hm (x := 8) (y := 0) (by decide) (by decide) (by decide))
            have hm_61 : pw_up M (am 0) (.inr (2, [.int (nI n), .ref (am 1), .ref (am 2), .int (nI oc), .int td, .int 3, .long sL, .ref (am 3), .ref (am 4), .ref (am 5), .ref (am 6), .ref (am 7), .ref (am 8)])) (am 0) = some (.inr (2, [.int (nI n), .ref (am 1), .ref (am 2), .int (nI oc), .int td, .int 3, .long sL, .ref (am 3), .ref (am 4), .ref (am 5), .ref (am 6), .ref (am 7), .ref (am 8)])) := pw_us
            refine pw_aload_n (pc := 78) hX dX2_line_78 1 rfl ?_
            refine pw_get (pc := 79) hX dX2_line_79 hm_61 rfl inT_2 5 (by decide) fl_RX2_43 rfl ?_
            refine pw_if_eq (pc := 82) hX 86 dX2_line_82 (by decide) (fun h => absurd h (by decide)) (fun _ => ?_)
            exact pw_vret hX dX2_line_85 hrt ⟨by decide, by decide⟩ ⟨Or.inr ⟨by rw [show cd_line oc os wa (nI j) (nI g) p2 = 3 from pc3_3 (fun h => h (ir_nI hj)) (fun h => h ⟨ir_nI hg, Int32.not_lt.mp hc_2, Int32.not_lt.mp hc_26⟩) (by rw [ix_nI hjB]; exact fun h => hc_52 h.1)]; decide, rfl, by rw [show cd_line oc os wa (nI j) (nI g) p2 = 3 from pc3_3 (fun h => h (ir_nI hj)) (fun h => h ⟨ir_nI hg, Int32.not_lt.mp hc_2, Int32.not_lt.mp hc_26⟩) (by rw [ix_nI hjB]; exact fun h => hc_52 h.1)]; exact (mw_ob hm (oc) (mw_oc hm) td 3 sL)⟩, (fm_up fm_rf (x := 0) (by decide) _)⟩
          · refine pw_aload_n (pc := 61) hX dX2_line_61 1 rfl ?_
            refine pw_iload_n (pc := 62) hX dX2_line_62 2 rfl ?_
            refine pw_iload_n (pc := 63) hX dX2_line_63 3 rfl ?_
            refine pw_callV (pc := 64) (st := [.ref (am 0)]) hX (mt_hasLine l hl G M am n oc td th sL dk to er os pl wa pr la hm j g hj hg) hm.1 rfl ok_X2_hasLine lk_RX2_46 dX2_line_64 rfl ⟨⟨by decide, by decide⟩, Nat.le_of_ble_eq_true rfl, Nat.le_of_ble_eq_true rfl, Nat.le_of_ble_eq_true rfl⟩ rfl (fun v9 M9 hp9 => ?_)
            obtain ⟨rfl, rfl⟩ := hp9
            refine pw_if_eq (pc := 67) hX 74 dX2_line_67 (by decide) (fun hc_63 => ?_) (fun hc_63 => ?_)
            · refine pw_iconst (pc := 74) (v := 0) hX dX2_line_74 (by decide) ?_
              refine pw_put (pc := 75) (v := .int 0) hX dX2_line_75 hm.1 rfl inT_2 tyX2 tyX2_ok nmX2 5 (by decide) fl_RX2_43 rfl (tyX2_ok 5 (by decide)) rfl rfl (Nat.le_of_ble_eq_true rfl) [.int (nI n), .ref (am 1), .ref (am 2), .int (nI oc), .int td, .int 0, .long sL, .ref (am 3), .ref (am 4), .ref (am 5), .ref (am 6), .ref (am 7), .ref (am 8)] rfl ?_
              have hm_64 := pw_ke (a := am 0) (e := .inr (2, [.int (nI n), .ref (am 1), .ref (am 2), .int (nI oc), .int td, .int 0, .long sL, .ref (am 3), .ref (am 4), .ref (am 5), .ref (am 6), .ref (am 7), .ref (am 8)])) hm.2.1 (mw_ne hm (x := 1) (y := 0) (by decide) (by decide) (by decide))
              have hm_65 := pw_ke (a := am 0) (e := .inr (2, [.int (nI n), .ref (am 1), .ref (am 2), .int (nI oc), .int td, .int 0, .long sL, .ref (am 3), .ref (am 4), .ref (am 5), .ref (am 6), .ref (am 7), .ref (am 8)])) hm.2.2.1 (mw_ne hm (x := 2) (y := 0) (by decide) (by decide) (by decide))
              have hm_66 := pw_ke (a := am 0) (e := .inr (2, [.int (nI n), .ref (am 1), .ref (am 2), .int (nI oc), .int td, .int 0, .long sL, .ref (am 3), .ref (am 4), .ref (am 5), .ref (am 6), .ref (am 7), .ref (am 8)])) hm.2.2.2.1 (mw_ne hm (x := 3) (y := 0) (by decide) (by decide) (by decide))
              have hm_67 := pw_ke (a := am 0) (e := .inr (2, [.int (nI n), .ref (am 1), .ref (am 2), .int (nI oc), .int td, .int 0, .long sL, .ref (am 3), .ref (am 4), .ref (am 5), .ref (am 6), .ref (am 7), .ref (am 8)])) hm.2.2.2.2.1 (mw_ne hm (x := 4) (y := 0) (by decide) (by decide) (by decide))
              have hm_68 := pw_ke (a := am 0) (e := .inr (2, [.int (nI n), .ref (am 1), .ref (am 2), .int (nI oc), .int td, .int 0, .long sL, .ref (am 3), .ref (am 4), .ref (am 5), .ref (am 6), .ref (am 7), .ref (am 8)])) hm.2.2.2.2.2.1 (mw_ne hm (x := 5) (y := 0) (by decide) (by decide) (by decide))
              have hm_69 := pw_ke (a := am 0) (e := .inr (2, [.int (nI n), .ref (am 1), .ref (am 2), .int (nI oc), .int td, .int 0, .long sL, .ref (am 3), .ref (am 4), .ref (am 5), .ref (am 6), .ref (am 7), .ref (am 8)])) hm.2.2.2.2.2.2.1 (mw_ne hm (x := 6) (y := 0) (by decide) (by decide) (by decide))
              have hm_70 := pw_ke (a := am 0) (e := .inr (2, [.int (nI n), .ref (am 1), .ref (am 2), .int (nI oc), .int td, .int 0, .long sL, .ref (am 3), .ref (am 4), .ref (am 5), .ref (am 6), .ref (am 7), .ref (am 8)])) hm.2.2.2.2.2.2.2.1 (mw_ne hm (x := 7) (y := 0) (by decide) (by decide) (by decide))
              have hm_71 := pw_ke (a := am 0) (e := .inr (2, [.int (nI n), .ref (am 1), .ref (am 2), .int (nI oc), .int td, .int 0, .long sL, .ref (am 3), .ref (am 4), .ref (am 5), .ref (am 6), .ref (am 7), .ref (am 8)])) hm.2.2.2.2.2.2.2.2.1 (mw_ne hm (x := 8) (y := 0) (by decide) (by decide) (by decide))
              have hm_72 : pw_up M (am 0) (.inr (2, [.int (nI n), .ref (am 1), .ref (am 2), .int (nI oc), .int td, .int 0, .long sL, .ref (am 3), .ref (am 4), .ref (am 5), .ref (am 6), .ref (am 7), .ref (am 8)])) (am 0) = some (.inr (2, [.int (nI n), .ref (am 1), .ref (am 2), .int (nI oc), .int td, .int 0, .long sL, .ref (am 3), .ref (am 4), .ref (am 5), .ref (am 6), .ref (am 7), .ref (am 8)])) := pw_us
              refine pw_aload_n (pc := 78) hX dX2_line_78 1 rfl ?_
              refine pw_get (pc := 79) hX dX2_line_79 hm_72 rfl inT_2 5 (by decide) fl_RX2_43 rfl ?_
              refine pw_if_eq (pc := 82) hX 86 dX2_line_82 (by decide) (fun _ => ?_) (fun h => absurd h (by decide))
              refine pw_aload_n (pc := 86) hX dX2_line_86 1 rfl ?_
              refine pw_get (pc := 87) hX dX2_line_87 hm_72 rfl inT_2 9 (by decide) fl_RX2_27 rfl ?_
              refine pw_bipush (pc := 90) (v := 10) hX dX2_line_90 (by decide) ?_
              refine pw_iload_n (pc := 92) hX dX2_line_92 2 rfl ?_
              refine pw_imul (pc := 93) (z := nI (10 * j)) hX dX2_line_93 (pk_mul 10 _) ?_
              refine pw_iload_n (pc := 94) hX dX2_line_94 3 rfl ?_
              refine pw_iadd (pc := 95) (z := nI (10 * j + g)) hX dX2_line_95 (nI_add _ _) ?_
              refine pw_iload_n (pc := 96) hX dX2_line_96 4 rfl ?_
              refine pw_iast (pc := 97) (j := 10 * j + g) hX dX2_line_97 hm_68 (by omega) (by decide) ?_
              have hm_74 := pw_ke (a := am 5) (e := .inl (G.2.2.1 0, 200, .inl (upd (fl wa) (10 * j + g) p2))) hm_72 (mw_ne hm (x := 0) (y := 5) (by decide) (by decide) (by decide))
              have hm_75 := pw_ke (a := am 5) (e := .inl (G.2.2.1 0, 200, .inl (upd (fl wa) (10 * j + g) p2))) hm_64 (mw_ne hm (x := 1) (y := 5) (by decide) (by decide) (by decide))
              have hm_76 := pw_ke (a := am 5) (e := .inl (G.2.2.1 0, 200, .inl (upd (fl wa) (10 * j + g) p2))) hm_65 (mw_ne hm (x := 2) (y := 5) (by decide) (by decide) (by decide))
              have hm_77 := pw_ke (a := am 5) (e := .inl (G.2.2.1 0, 200, .inl (upd (fl wa) (10 * j + g) p2))) hm_66 (mw_ne hm (x := 3) (y := 5) (by decide) (by decide) (by decide))
              have hm_78 := pw_ke (a := am 5) (e := .inl (G.2.2.1 0, 200, .inl (upd (fl wa) (10 * j + g) p2))) hm_67 (mw_ne hm (x := 4) (y := 5) (by decide) (by decide) (by decide))
              have hm_79 := pw_ke (a := am 5) (e := .inl (G.2.2.1 0, 200, .inl (upd (fl wa) (10 * j + g) p2))) hm_69 (mw_ne hm (x := 6) (y := 5) (by decide) (by decide) (by decide))
              have hm_80 := pw_ke (a := am 5) (e := .inl (G.2.2.1 0, 200, .inl (upd (fl wa) (10 * j + g) p2))) hm_70 (mw_ne hm (x := 7) (y := 5) (by decide) (by decide) (by decide))
              have hm_81 := pw_ke (a := am 5) (e := .inl (G.2.2.1 0, 200, .inl (upd (fl wa) (10 * j + g) p2))) hm_71 (mw_ne hm (x := 8) (y := 5) (by decide) (by decide) (by decide))
              have hm_82 : pw_up (pw_up M (am 0) (.inr (2, [.int (nI n), .ref (am 1), .ref (am 2), .int (nI oc), .int td, .int 0, .long sL, .ref (am 3), .ref (am 4), .ref (am 5), .ref (am 6), .ref (am 7), .ref (am 8)]))) (am 5) (.inl (G.2.2.1 0, 200, .inl (upd (fl wa) (10 * j + g) p2))) (am 5) = some (.inl (G.2.2.1 0, 200, .inl (upd (fl wa) (10 * j + g) p2))) := pw_us
              refine pw_aload_n (pc := 98) hX dX2_line_98 1 rfl ?_
              refine pw_get (pc := 99) hX dX2_line_99 hm_74 rfl inT_2 10 (by decide) fl_RX2_30 rfl ?_
              refine pw_bipush (pc := 102) (v := 10) hX dX2_line_102 (by decide) ?_
              refine pw_iload_n (pc := 104) hX dX2_line_104 2 rfl ?_
              refine pw_imul (pc := 105) (z := nI (10 * j)) hX dX2_line_105 (pk_mul 10 _) ?_
              refine pw_iload_n (pc := 106) hX dX2_line_106 3 rfl ?_
              refine pw_iadd (pc := 107) (z := nI (10 * j + g)) hX dX2_line_107 (nI_add _ _) ?_
              refine pw_iconst (pc := 108) (v := 0) hX dX2_line_108 (by decide) ?_
              refine pw_iast (pc := 109) (j := 10 * j + g) hX dX2_line_109 hm_79 (by omega) (by decide) ?_
              have hm_83 := pw_ke (a := am 6) (e := .inl (G.2.2.1 0, 200, .inl (upd (fl pr) (10 * j + g) 0))) hm_74 (mw_ne hm (x := 0) (y := 6) (by decide) (by decide) (by decide))
              have hm_84 := pw_ke (a := am 6) (e := .inl (G.2.2.1 0, 200, .inl (upd (fl pr) (10 * j + g) 0))) hm_75 (mw_ne hm (x := 1) (y := 6) (by decide) (by decide) (by decide))
              have hm_85 := pw_ke (a := am 6) (e := .inl (G.2.2.1 0, 200, .inl (upd (fl pr) (10 * j + g) 0))) hm_76 (mw_ne hm (x := 2) (y := 6) (by decide) (by decide) (by decide))
              have hm_86 := pw_ke (a := am 6) (e := .inl (G.2.2.1 0, 200, .inl (upd (fl pr) (10 * j + g) 0))) hm_77 (mw_ne hm (x := 3) (y := 6) (by decide) (by decide) (by decide))
              have hm_87 := pw_ke (a := am 6) (e := .inl (G.2.2.1 0, 200, .inl (upd (fl pr) (10 * j + g) 0))) hm_78 (mw_ne hm (x := 4) (y := 6) (by decide) (by decide) (by decide))
              have hm_88 := pw_ke (a := am 6) (e := .inl (G.2.2.1 0, 200, .inl (upd (fl pr) (10 * j + g) 0))) hm_82 (mw_ne hm (x := 5) (y := 6) (by decide) (by decide) (by decide))
              have hm_89 := pw_ke (a := am 6) (e := .inl (G.2.2.1 0, 200, .inl (upd (fl pr) (10 * j + g) 0))) hm_80 (mw_ne hm (x := 7) (y := 6) (by decide) (by decide) (by decide))
              have hm_90 := pw_ke (a := am 6) (e := .inl (G.2.2.1 0, 200, .inl (upd (fl pr) (10 * j + g) 0))) hm_81 (mw_ne hm (x := 8) (y := 6) (by decide) (by decide) (by decide))
              have hm_91 : pw_up (pw_up (pw_up M (am 0) (.inr (2, [.int (nI n), .ref (am 1), .ref (am 2), .int (nI oc), .int td, .int 0, .long sL, .ref (am 3), .ref (am 4), .ref (am 5), .ref (am 6), .ref (am 7), .ref (am 8)]))) (am 5) (.inl (G.2.2.1 0, 200, .inl (upd (fl wa) (10 * j + g) p2)))) (am 6) (.inl (G.2.2.1 0, 200, .inl (upd (fl pr) (10 * j + g) 0))) (am 6) = some (.inl (G.2.2.1 0, 200, .inl (upd (fl pr) (10 * j + g) 0))) := pw_us
              refine pw_aload_n (pc := 110) hX dX2_line_110 1 rfl ?_
              refine pw_get (pc := 111) hX dX2_line_111 hm_83 rfl inT_2 11 (by decide) fl_RX2_33 rfl ?_
              refine pw_bipush (pc := 114) (v := 10) hX dX2_line_114 (by decide) ?_
              refine pw_iload_n (pc := 116) hX dX2_line_116 2 rfl ?_
              refine pw_imul (pc := 117) (z := nI (10 * j)) hX dX2_line_117 (pk_mul 10 _) ?_
              refine pw_iload_n (pc := 118) hX dX2_line_118 3 rfl ?_
              refine pw_iadd (pc := 119) (z := nI (10 * j + g)) hX dX2_line_119 (nI_add _ _) ?_
              refine pw_iconst (pc := 120) (v := (-1)) hX dX2_line_120 (by decide) ?_
              refine pw_iast (pc := 121) (j := 10 * j + g) hX dX2_line_121 hm_89 (by omega) (by decide) ?_
              have hm_92 := pw_ke (a := am 7) (e := .inl (G.2.2.1 0, 200, .inl (upd (fl la) (10 * j + g) ((-1))))) hm_83 (mw_ne hm (x := 0) (y := 7) (by decide) (by decide) (by decide))
              have hm_93 := pw_ke (a := am 7) (e := .inl (G.2.2.1 0, 200, .inl (upd (fl la) (10 * j + g) ((-1))))) hm_84 (mw_ne hm (x := 1) (y := 7) (by decide) (by decide) (by decide))
              have hm_94 := pw_ke (a := am 7) (e := .inl (G.2.2.1 0, 200, .inl (upd (fl la) (10 * j + g) ((-1))))) hm_85 (mw_ne hm (x := 2) (y := 7) (by decide) (by decide) (by decide))
              have hm_95 := pw_ke (a := am 7) (e := .inl (G.2.2.1 0, 200, .inl (upd (fl la) (10 * j + g) ((-1))))) hm_86 (mw_ne hm (x := 3) (y := 7) (by decide) (by decide) (by decide))
              have hm_96 := pw_ke (a := am 7) (e := .inl (G.2.2.1 0, 200, .inl (upd (fl la) (10 * j + g) ((-1))))) hm_87 (mw_ne hm (x := 4) (y := 7) (by decide) (by decide) (by decide))
              have hm_97 := pw_ke (a := am 7) (e := .inl (G.2.2.1 0, 200, .inl (upd (fl la) (10 * j + g) ((-1))))) hm_88 (mw_ne hm (x := 5) (y := 7) (by decide) (by decide) (by decide))
              have hm_98 := pw_ke (a := am 7) (e := .inl (G.2.2.1 0, 200, .inl (upd (fl la) (10 * j + g) ((-1))))) hm_91 (mw_ne hm (x := 6) (y := 7) (by decide) (by decide) (by decide))
              have hm_99 := pw_ke (a := am 7) (e := .inl (G.2.2.1 0, 200, .inl (upd (fl la) (10 * j + g) ((-1))))) hm_90 (mw_ne hm (x := 8) (y := 7) (by decide) (by decide) (by decide))
              have hm_100 : pw_up (pw_up (pw_up (pw_up M (am 0) (.inr (2, [.int (nI n), .ref (am 1), .ref (am 2), .int (nI oc), .int td, .int 0, .long sL, .ref (am 3), .ref (am 4), .ref (am 5), .ref (am 6), .ref (am 7), .ref (am 8)]))) (am 5) (.inl (G.2.2.1 0, 200, .inl (upd (fl wa) (10 * j + g) p2)))) (am 6) (.inl (G.2.2.1 0, 200, .inl (upd (fl pr) (10 * j + g) 0)))) (am 7) (.inl (G.2.2.1 0, 200, .inl (upd (fl la) (10 * j + g) ((-1))))) (am 7) = some (.inl (G.2.2.1 0, 200, .inl (upd (fl la) (10 * j + g) ((-1))))) := pw_us
              exact pw_vret hX dX2_line_122 hrt ⟨by decide, by decide⟩ (by rw [ix_nI hjB, ix_nI hgB]; exact ⟨Or.inl ⟨pc3_0 (fun h => h (ir_nI hj)) (fun h => h ⟨ir_nI hg, Int32.not_lt.mp hc_2, Int32.not_lt.mp hc_26⟩) (fun h => h (by rw [ix_nI hjB, ix_nI hgB]; exact ⟨hc_52, pw_ite0 hc_63⟩)), rfl, (mw_la (mw_pr (mw_wa (mw_ob hm (oc) (mw_oc hm) td 0 sL) j g hg _) j g hg _) j g hg _)⟩, (fm_up (fm_up (fm_up (fm_up fm_rf (x := 0) (by decide) _) (x := 5) (by decide) _) (x := 6) (by decide) _) (x := 7) (by decide) _)⟩)
            · refine pw_iconst (pc := 70) (v := 3) hX dX2_line_70 (by decide) ?_
              refine pw_goto (pc := 71) hX 75 dX2_line_71 (by decide) ?_
              refine pw_put (pc := 75) (v := .int 3) hX dX2_line_75 hm.1 rfl inT_2 tyX2 tyX2_ok nmX2 5 (by decide) fl_RX2_43 rfl (tyX2_ok 5 (by decide)) rfl rfl (Nat.le_of_ble_eq_true rfl) [.int (nI n), .ref (am 1), .ref (am 2), .int (nI oc), .int td, .int 3, .long sL, .ref (am 3), .ref (am 4), .ref (am 5), .ref (am 6), .ref (am 7), .ref (am 8)] rfl ?_
              have hm_101 := pw_ke (a := am 0) (e := .inr (2, [.int (nI n), .ref (am 1), .ref (am 2), .int (nI oc), .int td, .int 3, .long sL, .ref (am 3), .ref (am 4), .ref (am 5), .ref (am 6), .ref (am 7), .ref (am 8)])) hm.2.1 (mw_ne hm (x := 1) (y := 0) (by decide) (by decide) (by decide))
              have hm_102 := pw_ke (a := am 0) (e := .inr (2, [.int (nI n), .ref (am 1), .ref (am 2), .int (nI oc), .int td, .int 3, .long sL, .ref (am 3), .ref (am 4), .ref (am 5), .ref (am 6), .ref (am 7), .ref (am 8)])) hm.2.2.1 (mw_ne hm (x := 2) (y := 0) (by decide) (by decide) (by decide))
              have hm_103 := pw_ke (a := am 0) (e := .inr (2, [.int (nI n), .ref (am 1), .ref (am 2), .int (nI oc), .int td, .int 3, .long sL, .ref (am 3), .ref (am 4), .ref (am 5), .ref (am 6), .ref (am 7), .ref (am 8)])) hm.2.2.2.1 (mw_ne hm (x := 3) (y := 0) (by decide) (by decide) (by decide))
              have hm_104 := pw_ke (a := am 0) (e := .inr (2, [.int (nI n), .ref (am 1), .ref (am 2), .int (nI oc), .int td, .int 3, .long sL, .ref (am 3), .ref (am 4), .ref (am 5), .ref (am 6), .ref (am 7), .ref (am 8)])) hm.2.2.2.2.1 (mw_ne hm (x := 4) (y := 0) (by decide) (by decide) (by decide))
              have hm_105 := pw_ke (a := am 0) (e := .inr (2, [.int (nI n), .ref (am 1), .ref (am 2), .int (nI oc), .int td, .int 3, .long sL, .ref (am 3), .ref (am 4), .ref (am 5), .ref (am 6), .ref (am 7), .ref (am 8)])) hm.2.2.2.2.2.1 (mw_ne hm (x := 5) (y := 0) (by decide) (by decide) (by decide))
              have hm_106 := pw_ke (a := am 0) (e := .inr (2, [.int (nI n), .ref (am 1), .ref (am 2), .int (nI oc), .int td, .int 3, .long sL, .ref (am 3), .ref (am 4), .ref (am 5), .ref (am 6), .ref (am 7), .ref (am 8)])) hm.2.2.2.2.2.2.1 (mw_ne hm (x := 6) (y := 0) (by decide) (by decide) (by decide))
              have hm_107 := pw_ke (a := am 0) (e := .inr (2, [.int (nI n), .ref (am 1), .ref (am 2), .int (nI oc), .int td, .int 3, .long sL, .ref (am 3), .ref (am 4), .ref (am 5), .ref (am 6), .ref (am 7), .ref (am 8)])) hm.2.2.2.2.2.2.2.1 (mw_ne hm (x := 7) (y := 0) (by decide) (by decide) (by decide))
              have hm_108 := pw_ke (a := am 0) (e := .inr (2, [.int (nI n), .ref (am 1), .ref (am 2), .int (nI oc), .int td, .int 3, .long sL, .ref (am 3), .ref (am 4), .ref (am 5), .ref (am 6), .ref (am 7), .ref (am 8)])) hm.2.2.2.2.2.2.2.2.1 (mw_ne hm (x := 8) (y := 0) (by decide) (by decide) (by decide))
              have hm_109 : pw_up M (am 0) (.inr (2, [.int (nI n), .ref (am 1), .ref (am 2), .int (nI oc), .int td, .int 3, .long sL, .ref (am 3), .ref (am 4), .ref (am 5), .ref (am 6), .ref (am 7), .ref (am 8)])) (am 0) = some (.inr (2, [.int (nI n), .ref (am 1), .ref (am 2), .int (nI oc), .int td, .int 3, .long sL, .ref (am 3), .ref (am 4), .ref (am 5), .ref (am 6), .ref (am 7), .ref (am 8)])) := pw_us
              refine pw_aload_n (pc := 78) hX dX2_line_78 1 rfl ?_
              refine pw_get (pc := 79) hX dX2_line_79 hm_109 rfl inT_2 5 (by decide) fl_RX2_43 rfl ?_
              refine pw_if_eq (pc := 82) hX 86 dX2_line_82 (by decide) (fun h => absurd h (by decide)) (fun _ => ?_)
              exact pw_vret hX dX2_line_85 hrt ⟨by decide, by decide⟩ ⟨Or.inr ⟨by rw [show cd_line oc os wa (nI j) (nI g) p2 = 3 from pc3_3 (fun h => h (ir_nI hj)) (fun h => h ⟨ir_nI hg, Int32.not_lt.mp hc_2, Int32.not_lt.mp hc_26⟩) (by rw [ix_nI hjB, ix_nI hgB]; exact fun h => h.2 (pw_ite1 hc_63))]; decide, rfl, by rw [show cd_line oc os wa (nI j) (nI g) p2 = 3 from pc3_3 (fun h => h (ir_nI hj)) (fun h => h ⟨ir_nI hg, Int32.not_lt.mp hc_2, Int32.not_lt.mp hc_26⟩) (by rw [ix_nI hjB, ix_nI hgB]; exact fun h => h.2 (pw_ite1 hc_63))]; exact (mw_ob hm (oc) (mw_oc hm) td 3 sL)⟩, (fm_up fm_rf (x := 0) (by decide) _)⟩
        · refine pw_if_ne (pc := 36) hX 43 dX2_line_36 (by decide) (fun h => absurd h (by decide)) (fun _ => ?_)
          refine pw_iconst (pc := 39) (v := 1) hX dX2_line_39 (by decide) ?_
          refine pw_goto (pc := 40) hX 75 dX2_line_40 (by decide) ?_
          refine pw_put (pc := 75) (v := .int 1) hX dX2_line_75 hm.1 rfl inT_2 tyX2 tyX2_ok nmX2 5 (by decide) fl_RX2_43 rfl (tyX2_ok 5 (by decide)) rfl rfl (Nat.le_of_ble_eq_true rfl) [.int (nI n), .ref (am 1), .ref (am 2), .int (nI oc), .int td, .int 1, .long sL, .ref (am 3), .ref (am 4), .ref (am 5), .ref (am 6), .ref (am 7), .ref (am 8)] rfl ?_
          have hm_112 := pw_ke (a := am 0) (e := .inr (2, [.int (nI n), .ref (am 1), .ref (am 2), .int (nI oc), .int td, .int 1, .long sL, .ref (am 3), .ref (am 4), .ref (am 5), .ref (am 6), .ref (am 7), .ref (am 8)])) hm.2.1 (mw_ne hm (x := 1) (y := 0) (by decide) (by decide) (by decide))
          have hm_113 := pw_ke (a := am 0) (e := .inr (2, [.int (nI n), .ref (am 1), .ref (am 2), .int (nI oc), .int td, .int 1, .long sL, .ref (am 3), .ref (am 4), .ref (am 5), .ref (am 6), .ref (am 7), .ref (am 8)])) hm.2.2.1 (mw_ne hm (x := 2) (y := 0) (by decide) (by decide) (by decide))
          have hm_114 := pw_ke (a := am 0) (e := .inr (2, [.int (nI n), .ref (am 1), .ref (am 2), .int (nI oc), .int td, .int 1, .long sL, .ref (am 3), .ref (am 4), .ref (am 5), .ref (am 6), .ref (am 7), .ref (am 8)])) hm.2.2.2.1 (mw_ne hm (x := 3) (y := 0) (by decide) (by decide) (by decide))
          have hm_115 := pw_ke (a := am 0) (e := .inr (2, [.int (nI n), .ref (am 1), .ref (am 2), .int (nI oc), .int td, .int 1, .long sL, .ref (am 3), .ref (am 4), .ref (am 5), .ref (am 6), .ref (am 7), .ref (am 8)])) hm.2.2.2.2.1 (mw_ne hm (x := 4) (y := 0) (by decide) (by decide) (by decide))
          have hm_116 := pw_ke (a := am 0) (e := .inr (2, [.int (nI n), .ref (am 1), .ref (am 2), .int (nI oc), .int td, .int 1, .long sL, .ref (am 3), .ref (am 4), .ref (am 5), .ref (am 6), .ref (am 7), .ref (am 8)])) hm.2.2.2.2.2.1 (mw_ne hm (x := 5) (y := 0) (by decide) (by decide) (by decide))
          have hm_117 := pw_ke (a := am 0) (e := .inr (2, [.int (nI n), .ref (am 1), .ref (am 2), .int (nI oc), .int td, .int 1, .long sL, .ref (am 3), .ref (am 4), .ref (am 5), .ref (am 6), .ref (am 7), .ref (am 8)])) hm.2.2.2.2.2.2.1 (mw_ne hm (x := 6) (y := 0) (by decide) (by decide) (by decide))
          have hm_118 := pw_ke (a := am 0) (e := .inr (2, [.int (nI n), .ref (am 1), .ref (am 2), .int (nI oc), .int td, .int 1, .long sL, .ref (am 3), .ref (am 4), .ref (am 5), .ref (am 6), .ref (am 7), .ref (am 8)])) hm.2.2.2.2.2.2.2.1 (mw_ne hm (x := 7) (y := 0) (by decide) (by decide) (by decide))
          have hm_119 := pw_ke (a := am 0) (e := .inr (2, [.int (nI n), .ref (am 1), .ref (am 2), .int (nI oc), .int td, .int 1, .long sL, .ref (am 3), .ref (am 4), .ref (am 5), .ref (am 6), .ref (am 7), .ref (am 8)])) hm.2.2.2.2.2.2.2.2.1 (mw_ne hm (x := 8) (y := 0) (by decide) (by decide) (by decide))
          have hm_120 : pw_up M (am 0) (.inr (2, [.int (nI n), .ref (am 1), .ref (am 2), .int (nI oc), .int td, .int 1, .long sL, .ref (am 3), .ref (am 4), .ref (am 5), .ref (am 6), .ref (am 7), .ref (am 8)])) (am 0) = some (.inr (2, [.int (nI n), .ref (am 1), .ref (am 2), .int (nI oc), .int td, .int 1, .long sL, .ref (am 3), .ref (am 4), .ref (am 5), .ref (am 6), .ref (am 7), .ref (am 8)])) := pw_us
          refine pw_aload_n (pc := 78) hX dX2_line_78 1 rfl ?_
          refine pw_get (pc := 79) hX dX2_line_79 hm_120 rfl inT_2 5 (by decide) fl_RX2_43 rfl ?_
          refine pw_if_eq (pc := 82) hX 86 dX2_line_82 (by decide) (fun h => absurd h (by decide)) (fun _ => ?_)
          exact pw_vret hX dX2_line_85 hrt ⟨by decide, by decide⟩ ⟨Or.inr ⟨by rw [show cd_line oc os wa p0 (nI g) p2 = 1 from pc_t hno_p0]; decide, rfl, by rw [show cd_line oc os wa p0 (nI g) p2 = 1 from pc_t hno_p0]; exact (mw_ob hm (oc) (mw_oc hm) td 1 sL)⟩, (fm_up fm_rf (x := 0) (by decide) _)⟩
  · refine pw_if_eq (pc := 6) hX 24 dX2_line_6 (by decide) (fun _ => ?_) (fun h => absurd h (by decide))
    refine pw_iconst (pc := 24) (v := 0) hX dX2_line_24 (by decide) ?_
    refine pw_istore (pc := 25) hX [(4, .int 0), (0, .ref (am 0)), (1, .int p0), (2, .int p1), (3, .int p2)] dX2_line_25 (by decide) rfl ?_
    refine pw_aload_n (pc := 27) hX dX2_line_27 1 rfl ?_
    refine pw_iload_n (pc := 28) hX dX2_line_28 2 rfl ?_
    refine pw_aload_n (pc := 29) hX dX2_line_29 1 rfl ?_
    refine pw_get (pc := 30) hX dX2_line_30 hm.1 rfl inT_2 3 (by decide) fl_RX2_50 rfl ?_
    refine pw_callS (pc := 33) (st := [.ref (am 0)]) hX (mt_below l hl G M p0 oc (Nat.lt_of_le_of_lt (mw_oc hm) (by decide))) ok_X2_below lk_RX2_53 dX2_line_33 rfl ⟨⟨by decide, by decide⟩, Nat.le_of_ble_eq_true rfl, Nat.le_of_ble_eq_true rfl, Nat.le_of_ble_eq_true rfl⟩ rfl (fun v9 M9 hp9 => ?_)
    obtain ⟨rfl, ⟨rfl, j, hj, rfl⟩ | ⟨rfl, hno_p0⟩⟩ := hp9
    · have hjB : j < 2 ^ 31 := Nat.lt_of_lt_of_le hj (Nat.le_trans (mw_oc hm) (by decide))
      refine pw_if_ne (pc := 36) hX 43 dX2_line_36 (by decide) (fun _ => ?_) (fun h => absurd h (by decide))
      refine pw_iload (pc := 43) hX dX2_line_43 0 rfl ?_
      refine pw_if_ne (pc := 45) hX 52 dX2_line_45 (by decide) (fun h => absurd h (by decide)) (fun _ => ?_)
      refine pw_iconst (pc := 48) (v := 2) hX dX2_line_48 (by decide) ?_
      refine pw_goto (pc := 49) hX 75 dX2_line_49 (by decide) ?_
      refine pw_put (pc := 75) (v := .int 2) hX dX2_line_75 hm.1 rfl inT_2 tyX2 tyX2_ok nmX2 5 (by decide) fl_RX2_43 rfl (tyX2_ok 5 (by decide)) rfl rfl (Nat.le_of_ble_eq_true rfl) [.int (nI n), .ref (am 1), .ref (am 2), .int (nI oc), .int td, .int 2, .long sL, .ref (am 3), .ref (am 4), .ref (am 5), .ref (am 6), .ref (am 7), .ref (am 8)] rfl ?_
      have hm_125 := pw_ke (a := am 0) (e := .inr (2, [.int (nI n), .ref (am 1), .ref (am 2), .int (nI oc), .int td, .int 2, .long sL, .ref (am 3), .ref (am 4), .ref (am 5), .ref (am 6), .ref (am 7), .ref (am 8)])) hm.2.1 (mw_ne hm (x := 1) (y := 0) (by decide) (by decide) (by decide))
      have hm_126 := pw_ke (a := am 0) (e := .inr (2, [.int (nI n), .ref (am 1), .ref (am 2), .int (nI oc), .int td, .int 2, .long sL, .ref (am 3), .ref (am 4), .ref (am 5), .ref (am 6), .ref (am 7), .ref (am 8)])) hm.2.2.1 (mw_ne hm (x := 2) (y := 0) (by decide) (by decide) (by decide))
      have hm_127 := pw_ke (a := am 0) (e := .inr (2, [.int (nI n), .ref (am 1), .ref (am 2), .int (nI oc), .int td, .int 2, .long sL, .ref (am 3), .ref (am 4), .ref (am 5), .ref (am 6), .ref (am 7), .ref (am 8)])) hm.2.2.2.1 (mw_ne hm (x := 3) (y := 0) (by decide) (by decide) (by decide))
      have hm_128 := pw_ke (a := am 0) (e := .inr (2, [.int (nI n), .ref (am 1), .ref (am 2), .int (nI oc), .int td, .int 2, .long sL, .ref (am 3), .ref (am 4), .ref (am 5), .ref (am 6), .ref (am 7), .ref (am 8)])) hm.2.2.2.2.1 (mw_ne hm (x := 4) (y := 0) (by decide) (by decide) (by decide))
      have hm_129 := pw_ke (a := am 0) (e := .inr (2, [.int (nI n), .ref (am 1), .ref (am 2), .int (nI oc), .int td, .int 2, .long sL, .ref (am 3), .ref (am 4), .ref (am 5), .ref (am 6), .ref (am 7), .ref (am 8)])) hm.2.2.2.2.2.1 (mw_ne hm (x := 5) (y := 0) (by decide) (by decide) (by decide))
      have hm_130 := pw_ke (a := am 0) (e := .inr (2, [.int (nI n), .ref (am 1), .ref (am 2), .int (nI oc), .int td, .int 2, .long sL, .ref (am 3), .ref (am 4), .ref (am 5), .ref (am 6), .ref (am 7), .ref (am 8)])) hm.2.2.2.2.2.2.1 (mw_ne hm (x := 6) (y := 0) (by decide) (by decide) (by decide))
      have hm_131 := pw_ke (a := am 0) (e := .inr (2, [.int (nI n), .ref (am 1), .ref (am 2), .int (nI oc), .int td, .int 2, .long sL, .ref (am 3), .ref (am 4), .ref (am 5), .ref (am 6), .ref (am 7), .ref (am 8)])) hm.2.2.2.2.2.2.2.1 (mw_ne hm (x := 7) (y := 0) (by decide) (by decide) (by decide))
      have hm_132 := pw_ke (a := am 0) (e := .inr (2, [.int (nI n), .ref (am 1), .ref (am 2), .int (nI oc), .int td, .int 2, .long sL, .ref (am 3), .ref (am 4), .ref (am 5), .ref (am 6), .ref (am 7), .ref (am 8)])) hm.2.2.2.2.2.2.2.2.1 (mw_ne hm (x := 8) (y := 0) (by decide) (by decide) (by decide))
      have hm_133 : pw_up M (am 0) (.inr (2, [.int (nI n), .ref (am 1), .ref (am 2), .int (nI oc), .int td, .int 2, .long sL, .ref (am 3), .ref (am 4), .ref (am 5), .ref (am 6), .ref (am 7), .ref (am 8)])) (am 0) = some (.inr (2, [.int (nI n), .ref (am 1), .ref (am 2), .int (nI oc), .int td, .int 2, .long sL, .ref (am 3), .ref (am 4), .ref (am 5), .ref (am 6), .ref (am 7), .ref (am 8)])) := pw_us
      refine pw_aload_n (pc := 78) hX dX2_line_78 1 rfl ?_
      refine pw_get (pc := 79) hX dX2_line_79 hm_133 rfl inT_2 5 (by decide) fl_RX2_43 rfl ?_
      refine pw_if_eq (pc := 82) hX 86 dX2_line_82 (by decide) (fun h => absurd h (by decide)) (fun _ => ?_)
      exact pw_vret hX dX2_line_85 hrt ⟨by decide, by decide⟩ ⟨Or.inr ⟨by rw [show cd_line oc os wa (nI j) p1 p2 = 2 from pc3_2 (fun h => h (ir_nI hj)) (fun h => hno_p1 h.1)]; decide, rfl, by rw [show cd_line oc os wa (nI j) p1 p2 = 2 from pc3_2 (fun h => h (ir_nI hj)) (fun h => hno_p1 h.1)]; exact (mw_ob hm (oc) (mw_oc hm) td 2 sL)⟩, (fm_up fm_rf (x := 0) (by decide) _)⟩
    · refine pw_if_ne (pc := 36) hX 43 dX2_line_36 (by decide) (fun h => absurd h (by decide)) (fun _ => ?_)
      refine pw_iconst (pc := 39) (v := 1) hX dX2_line_39 (by decide) ?_
      refine pw_goto (pc := 40) hX 75 dX2_line_40 (by decide) ?_
      refine pw_put (pc := 75) (v := .int 1) hX dX2_line_75 hm.1 rfl inT_2 tyX2 tyX2_ok nmX2 5 (by decide) fl_RX2_43 rfl (tyX2_ok 5 (by decide)) rfl rfl (Nat.le_of_ble_eq_true rfl) [.int (nI n), .ref (am 1), .ref (am 2), .int (nI oc), .int td, .int 1, .long sL, .ref (am 3), .ref (am 4), .ref (am 5), .ref (am 6), .ref (am 7), .ref (am 8)] rfl ?_
      have hm_136 := pw_ke (a := am 0) (e := .inr (2, [.int (nI n), .ref (am 1), .ref (am 2), .int (nI oc), .int td, .int 1, .long sL, .ref (am 3), .ref (am 4), .ref (am 5), .ref (am 6), .ref (am 7), .ref (am 8)])) hm.2.1 (mw_ne hm (x := 1) (y := 0) (by decide) (by decide) (by decide))
      have hm_137 := pw_ke (a := am 0) (e := .inr (2, [.int (nI n), .ref (am 1), .ref (am 2), .int (nI oc), .int td, .int 1, .long sL, .ref (am 3), .ref (am 4), .ref (am 5), .ref (am 6), .ref (am 7), .ref (am 8)])) hm.2.2.1 (mw_ne hm (x := 2) (y := 0) (by decide) (by decide) (by decide))
      have hm_138 := pw_ke (a := am 0) (e := .inr (2, [.int (nI n), .ref (am 1), .ref (am 2), .int (nI oc), .int td, .int 1, .long sL, .ref (am 3), .ref (am 4), .ref (am 5), .ref (am 6), .ref (am 7), .ref (am 8)])) hm.2.2.2.1 (mw_ne hm (x := 3) (y := 0) (by decide) (by decide) (by decide))
      have hm_139 := pw_ke (a := am 0) (e := .inr (2, [.int (nI n), .ref (am 1), .ref (am 2), .int (nI oc), .int td, .int 1, .long sL, .ref (am 3), .ref (am 4), .ref (am 5), .ref (am 6), .ref (am 7), .ref (am 8)])) hm.2.2.2.2.1 (mw_ne hm (x := 4) (y := 0) (by decide) (by decide) (by decide))
      have hm_140 := pw_ke (a := am 0) (e := .inr (2, [.int (nI n), .ref (am 1), .ref (am 2), .int (nI oc), .int td, .int 1, .long sL, .ref (am 3), .ref (am 4), .ref (am 5), .ref (am 6), .ref (am 7), .ref (am 8)])) hm.2.2.2.2.2.1 (mw_ne hm (x := 5) (y := 0) (by decide) (by decide) (by decide))
      have hm_141 := pw_ke (a := am 0) (e := .inr (2, [.int (nI n), .ref (am 1), .ref (am 2), .int (nI oc), .int td, .int 1, .long sL, .ref (am 3), .ref (am 4), .ref (am 5), .ref (am 6), .ref (am 7), .ref (am 8)])) hm.2.2.2.2.2.2.1 (mw_ne hm (x := 6) (y := 0) (by decide) (by decide) (by decide))
      have hm_142 := pw_ke (a := am 0) (e := .inr (2, [.int (nI n), .ref (am 1), .ref (am 2), .int (nI oc), .int td, .int 1, .long sL, .ref (am 3), .ref (am 4), .ref (am 5), .ref (am 6), .ref (am 7), .ref (am 8)])) hm.2.2.2.2.2.2.2.1 (mw_ne hm (x := 7) (y := 0) (by decide) (by decide) (by decide))
      have hm_143 := pw_ke (a := am 0) (e := .inr (2, [.int (nI n), .ref (am 1), .ref (am 2), .int (nI oc), .int td, .int 1, .long sL, .ref (am 3), .ref (am 4), .ref (am 5), .ref (am 6), .ref (am 7), .ref (am 8)])) hm.2.2.2.2.2.2.2.2.1 (mw_ne hm (x := 8) (y := 0) (by decide) (by decide) (by decide))
      have hm_144 : pw_up M (am 0) (.inr (2, [.int (nI n), .ref (am 1), .ref (am 2), .int (nI oc), .int td, .int 1, .long sL, .ref (am 3), .ref (am 4), .ref (am 5), .ref (am 6), .ref (am 7), .ref (am 8)])) (am 0) = some (.inr (2, [.int (nI n), .ref (am 1), .ref (am 2), .int (nI oc), .int td, .int 1, .long sL, .ref (am 3), .ref (am 4), .ref (am 5), .ref (am 6), .ref (am 7), .ref (am 8)])) := pw_us
      refine pw_aload_n (pc := 78) hX dX2_line_78 1 rfl ?_
      refine pw_get (pc := 79) hX dX2_line_79 hm_144 rfl inT_2 5 (by decide) fl_RX2_43 rfl ?_
      refine pw_if_eq (pc := 82) hX 86 dX2_line_82 (by decide) (fun h => absurd h (by decide)) (fun _ => ?_)
      exact pw_vret hX dX2_line_85 hrt ⟨by decide, by decide⟩ ⟨Or.inr ⟨by rw [show cd_line oc os wa p0 p1 p2 = 1 from pc_t hno_p0]; decide, rfl, by rw [show cd_line oc os wa p0 p1 p2 = 1 from pc_t hno_p0]; exact (mw_ob hm (oc) (mw_oc hm) td 1 sL)⟩, (fm_up fm_rf (x := 0) (by decide) _)⟩
end
