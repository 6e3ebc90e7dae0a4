/-! Methods that throw. A contract of a throw speaks of the calls that throw, and of those alone: nothing old is written, the thrown object is new. The returning calls have contracts of their own (Met). -/
/-- what holds from here on, whatever is called -/
def yc (P : State → Prop) (A : Nat → Prop) (U : State) (H : Heap) : Prop := ∀ U' : State, U.WarmedH U'.vm → (∀ a : Nat, a < H.size → ¬ A a → U'.heap[a]? = H[a]?) → P U'
theorem yc_zk (P : State → Prop) : zk (yc P) := by
  refine ⟨fun A u U H hv h U' hW hq => h U' (State.WarmedH.trans hv hW) hq, fun A U H H1 h hq U' hW hq' => h U' hW (fun a ha hA => ?_), fun A B U H h hAB U' hW hq => h U' hW (fun a ha hA => hq a ha (fun z => hA (hAB a z)))⟩
  have e := hq a ha hA
  exact (hq' a (Array.getElem?_eq_some_iff.mp (e.trans (Array.getElem?_eq_getElem ha))).1 hA).trans e
theorem yc_now {P : State → Prop} {A : Nat → Prop} {s : State} (h : yc P A s s.heap) : P s := h s (State.WarmedH.refl s) (fun _ _ _ => rfl)
/-- the object q is thrown, of the class E; the old cells are as they were -/
def xT (E : String) (st : State) (q : Addr) (t : State) : Prop := (∃ ce : Cell, t.heap[q]? = some ce ∧ ce.vm = .none ∧ st.vm.findClass E = some ce.cls) ∧ ∀ a : Nat, a < st.heap.size → t.heap[a]? = st.heap[a]?
def xMet (l : Launch) (y : MethodName) (ws : List Cond) (rm : Room) (Pc : Array Value → State → Prop) (xp : String → Prop) (mc ms : Nat) : Prop :=
  MetFree l y (headSpec ws rm) Pc (fun _ _ _ _ _ => True) (fun _ st o t => FrameEndT st o t [] mc ms ∧ ∃ (E : String) (q : Addr), o = .threw q ∧ xp E ∧ xT E st q t)
/-- what a body that throws owes -/
def XQ (below : List Frame) (xp : String → Prop) (s : State) (mc ms : Nat) : State → Prop := fun t => ∃ (E : String) (q : Addr), t.status = .running ∧ Ended t below (.threw q) ∧ xp E ∧ xT E s q t ∧ FrameEndT s (.threw q) t [] mc ms
theorem x_old {s U : State} {k n : Nat} (h : s.sameButNew ({ U with vm := s.vm } : State) [] k n) : ∀ a : Nat, a < s.heap.size → U.heap[a]? = s.heap[a]? := fun a ha => by
  have := h.old_cell (Array.getElem?_eq_getElem ha)
  exact this.trans (Array.getElem?_eq_getElem ha).symm
section XBODY
variable {l : Launch} {y : MethodName} {ws ws' : List Cond} {rm : Room} {Pc : Array Value → State → Prop} {xp : String → Prop} {mc ms : Nat} {cc : ByteArray} {maxL : Nat} {ret : Option FieldType}
theorem xMet.ofW (hy : plainName y.cls = true) (hw : ws = Cond.code y cc maxL ret :: ws')
    (body : ∀ p e s m args below meth c s₁, BodyLoose p l y (headSpec ws rm) cc maxL ret e s m args below meth c s₁ → c.maxLocals = maxL → (∀ x ∈ c.exceptionTable.toList, False) → Pc args s →
      W p l e (headSpec ws rm).room s m args below meth c s.heap [] 0 0 (XQ below xp s mc ms) (entryFrame m args maxL)) : xMet l y ws rm Pc xp mc ms := by
  refine MetFree.of_bodyS (code := cc) (maxLocals := maxL) (ret := ret) hy ?_ ?_
  · intro args s m h hn
    obtain ⟨meth, c, h1, h2, h3, h4, h5, h6, -, -⟩ := Cond.code_spec hn (atoms_spec (ws := ws) h _ (by rw [hw]; exact List.mem_cons_self))
    exact ⟨meth, c, h1, h2, h3, h4, h5, h6⟩
  · intro p e s m args below meth c s₁ B hml hP _
    have hno : ∀ x ∈ c.exceptionTable.toList, False := by
      obtain ⟨m9, c9, h1, h2, -, -, -, -, h7, -⟩ := Cond.code_spec B.named (atoms_spec (ws := ws) B.pre _ (by rw [hw]; exact List.mem_cons_self))
      have e1 : m9 = meth := Option.some.inj (h1.symm.trans B.method)
      subst e1
      have e2 : c9 = c := Option.some.inj (h2.symm.trans (Stand.of_body B).code)
      subst e2
      intro x hx
      rw [Array.isEmpty_iff.mp h7] at hx
      cases hx
    obtain ⟨t, a1, E, q, b1, b2, b3, b4, b5⟩ := body p e s m args below meth c s₁ B hml hno hP s₁ (by rw [B.state]; rfl) (Stand.of_body B)
    exact ⟨t, .threw q, a1, b1, b2, b5, E, q, rfl, b3, b4⟩
end XBODY
section XROWS
variable {p : Program} {l : Launch} {e : Env} {R : Room} {s : State} {m : MethodId} {args : Array Value} {below : List Frame} {meth : Method} {c : Code} {H : Heap} {locs : List Loc} {cells slots : Nat} {Q : State → Prop}
variable {Ts ws : List Cond} {cc bytes : ByteArray} {nL maxL index n mc ms pc : Nat} {own C : String} {y : MethodName} {ret : Option FieldType} {rm : Room} {Pc : Array Value → State → Prop} {xp : String → Prop} {ls : Array Slot} {st0 As rest : List Value} {b : Nat}
/-- 'throw new E(text)', uncaught in its method -/
theorem x_throw (hexec : p.tables.exec = Jvm.exec) (hb : c.code = cc) (hst : l.stackTraces = false) {cls text : String} {names : List String} {ik is ic sa : Nat}
    (hown : s.vm.findClass own = some m.cls) (hcls : Bundle.fit cls = true) (hnames : ∀ n ∈ names, Bundle.fit n = true) (hk : (Cond.classLink own ik cls).before args s = true) (hini : (Cond.initialized cls).before args s = true)
    (hstr : vk_R own is text sa s) (hat : ∀ w ∈ Bundle.ownAtoms own ic cls names, w.before args s = true) (hsize : ls.size = c.maxLocals)
    (d0 : decode cc pc = .ok (.new ik, 3)) (d3 : decode cc (pc + 3) = .ok (.dup, 1)) (d4 : decode cc (pc + 4) = .ok (.ldc is, 2)) (d6 : decode cc (pc + 6) = .ok (.invokespecial ic, 3)) (d9 : decode cc (pc + 9) = .ok (.athrow, 1))
    (hno : ∀ x ∈ c.exceptionTable.toList, False) (hRf : names.length + 3 < R.frames) (hRl : (rest.map fun v => v.category).sum + (13 * (names.length + 1) + 43) ≤ R.locals) (hRc : 1 ≤ R.cells) (hRs : 6 ≤ R.slots) (hlocks : meth.locks = false) (hxp : xp cls) :
    W p l e R s m args below meth c s.heap [] 0 0 (XQ below xp s 1 6) (F0 m pc ls rest) := by
  intro T hT X
  have htr : e.platform.stackTraces = false := (show e.platform.stackTraces = l.stackTraces by rw [X.admits.platform]).trans hst
  have hins : (Cond.instantiable cls 6).before args s = true := hat _ (by simp [Bundle.ownAtoms])
  obtain ⟨vm₁, cX, kX, hfX, hkX, -, -, X₁, st1⟩ := X.newCold hexec (own := own) (C := cls) (index := ik) (n := 6) hown hk hins hini (g := F0 m pc ls rest) rfl (by rw [hb]; exact d0) (by omega) (by omega)
  have main : W p l e R s m args below meth c ((T.setVm vm₁).pushCell { cls := cX, slots := kX.instanceTypes.map defaultValue, vm := .none }).heap [] (0 + 1) (0 + 6) (XQ below xp s 1 6) (F0 m (pc + 3) ls (.ref T.heap.size :: rest)) := by
    refine lv_dup hexec hb d3 rfl ?_
    refine va_ldcS hexec hb hown hstr d4 ?_
    intro T2 hT2 X2
    have hcell : T2.heap[T.heap.size]? = some (freshCell cX kX) := by rw [hT2]; exact State.heap_pushCell_size _ _
    obtain ⟨U, hsteps, hrun, hend, hW, hsame, ce, hce, hO⟩ := X2.ctorThrowS hexec htr (own := own) (cls := cls) (names := names) (ic := ic) hown hcls hnames hat (fun x hx => nomatch hx) hfX hkX hcell (by rw [hT]; exact Nat.le_refl _) (msg := .ref sa) rfl
      (g := F0 m (pc + 3 + 1 + 2) ls (.ref sa :: .ref T.heap.size :: .ref T.heap.size :: rest)) rfl hsize rfl rfl (rest := rest) rfl (by rw [hb]; exact d6) (by rw [hb]; exact d9) (fun x hx => (hno x hx).elim) hRf (by
        have hcat : (Value.ref T.heap.size).category = 1 := rfl
        have hmr : (F0 m (pc + 3 + 1 + 2) ls (.ref sa :: .ref T.heap.size :: .ref T.heap.size :: rest)).monitorRoom = 0 := rfl
        rw [hmr]
        simp only [List.map_cons, List.sum_cons, hcat]
        omega) hlocks
    exact ⟨U, hsteps, cls, T.heap.size, hrun, hend, hxp, ⟨⟨ce, hce, hO.vm, hO.cls⟩, x_old hsame⟩, ⟨_, rfl⟩, hW, hsame⟩
  obtain ⟨t, a1, b1⟩ := main _ rfl X₁
  exact ⟨t, st1 _ a1, b1⟩
/-- the premise on a callee that throws, out of its contract -/
theorem x_back {len W9 : Nat} (hM : xMet l y ws rm Pc xp mc ms) (hblind : FrameBlind Pc) (hrc : rm.cells = mc) (hrs : rm.slots = ms) (hframes : rm.frames + 1 ≤ R.frames) (hlocals : W9 + (maxL + 11) + rm.locals ≤ R.locals)
    (hws : ∀ w ∈ ws, ∀ (a' : Array Value) (U : State), s.WarmedH U.vm → w.before a' U = true) (hcode : Cond.code y bytes maxL ret ∈ ws) (hinit : ∀ (a' : Array Value) (U : State), s.WarmedH U.vm → (Cond.initialized y.cls).before a' U = true) :
    BackT l R p e below s args y len W9 (PreOf R mc ms Pc) (fun A a q B => ∃ (g : JFrame) (mk : MethodId) (t : State) (E : String), B.U.heap = t.heap ∧ xp E ∧ xT E (A.U.calling g mk a) q t ∧ B.locs = A.locs ++ [] ∧ B.cells = A.cells + mc ∧ B.slots = A.slots + ms) := by
  refine BackT.of_free (S := headSpec ws rm) (P := Pc) (K := fun _ _ _ _ _ => True) (Q := fun _ st o t => FrameEndT st o t [] mc ms ∧ ∃ (E : String) (q : Addr), o = .threw q ∧ xp E ∧ xT E st q t) (bytes := bytes) (maxL := maxL) (ret := ret)
    (E := fun _ _ _ _ L k n => L = [] ∧ k = mc ∧ n = ms) hM hframes hlocals ?_ ?_ (fun _ _ _ _ _ _ _ _ _ => trivial) ?_ ?_
  · intro m meth c A a X hp
    exact ⟨atoms_intro fun w hw => hws w hw _ _ X.warmed, hws _ hcode _ _ X.warmed, hinit _ _ X.warmed, by rw [show (headSpec ws rm).room.cells = mc from hrc]; exact hp.1, by rw [show (headSpec ws rm).room.slots = ms from hrs]; exact hp.2.1⟩
  · intro m meth c A a g mk X hp
    exact hblind _ _ _ _ hp.2.2
  · intro a st o t hq
    exact ⟨[], mc, ms, hq.1, rfl, rfl, rfl⟩
  · intro m meth c A a g mk v t L k n X hp hq hF hE
    obtain ⟨rfl, rfl, rfl⟩ := hE
    obtain ⟨-, E, q, e1, h1, h2⟩ := hq
    cases e1
    exact ⟨g, mk, t, E, rfl, h1, h2, rfl, rfl, rfl⟩
/-- a frame with q thrown over it -/
def xW (p : Program) (l : Launch) (e : Env) (R : Room) (s : State) (m : MethodId) (args : Array Value) (below : List Frame) (meth : Method) (c : Code) (H : Heap) (locs : List Loc) (cells slots : Nat) (Q : State → Prop) (g : JFrame) (q : Addr) : Prop :=
  ∀ T : State, T.heap = H → Stand p l e R s m args below meth c T locs cells slots → ∃ t, Steps p.tables e below ((T.setTop g).pushFrame (.throwing q)) t ∧ Q t
/-- a static call that throws -/
theorem x_callS (S : CallFix p m c cc nL s args Ts own) (hM : xMet l y ws rm Pc xp mc ms) (cw : CallB R s args own index y bytes maxL ret ws rm mc ms n ∧ (Cond.static y).before args s = true) (hp : PreS s H Pc As)
    (hn : As.length = n) (hsize : ls.size = nL) (hst : st0 = As.reverse ++ rest) (hW : (rest.map fun v => v.category).sum ≤ 8) (hdg : decode cc pc = .ok (.invokestatic index, 3)) (hf : cells + mc ≤ R.cells ∧ slots + ms ≤ R.slots)
    (kk : ∀ (E : String) (q : Addr) (H1 : Heap) (ce : Cell), xp E → (∀ a : Nat, a < H.size → H1[a]? = H[a]?) → H1[q]? = some ce → ce.vm = .none → s.vm.findClass E = some ce.cls → xW p l e R s m args below meth c H1 locs (cells + mc) (slots + ms) Q (F0 m pc ls rest) q) : W p l e R s m args below meth c H locs cells slots Q (F0 m pc ls st0) := by
  obtain ⟨⟨hrc, hrs, hfr, hlo, hws, hcw, hcode, hini, hy, hlen, hl⟩, hstt⟩ := cw
  obtain ⟨hx, hb, hml, ho, -⟩ := S
  have hK := x_back (p := p) (e := e) (R := R) (s := s) (args := args) (below := below) (len := 3) (W9 := 8) (bytes := bytes) (maxL := maxL) (ret := ret) hM hp.1 hrc hrs hfr hlo hws hcw (fun a' U hW => word_at hW (Or.inl (by first | rfl | simp [Cond.onTables, Cond.keeps, Cond.steady])) hini)
  intro T hT X
  obtain ⟨mk, hnamed⟩ := Cond.code_named hcode
  obtain ⟨methM, cM, hmethM, -, -, -, -, -, -, hsigM⟩ := Cond.code_spec hnamed hcode
  obtain ⟨v, vm₁, ⟨U', l2, c2, s2⟩, hW₁, X', ⟨g', mk', t, E, e1, h1, h2, e2, e3, e4⟩, st⟩ := X.staticThrows hx ho hl hstt hini hnamed hmethM hsigM hy hK (g := F0 m pc ls st0) rfl (hsize.trans hml.symm) (Steps.refl _) (argsL := As) (rest := rest) (fun sig h => hn.trans (hlen sig h)) hst (lv_room (m := m) (pc := pc) (ls := ls) (rest := rest) hW) (by rw [hb]; exact hdg)
    (fun vm₁ hW₁ => ⟨hf.1, hf.2, hp.2 (T.setVm vm₁) hT hW₁⟩)
  dsimp only [Pt.U, Pt.locs, Pt.cells, Pt.slots] at X' e1 e2 e3 e4 st
  rw [List.append_nil] at e2
  subst e2; subst e3; subst e4
  obtain ⟨⟨ce, c1, c2, c3⟩, hold⟩ := h2
  have hcl : s.vm.findClass E = some ce.cls := by rw [← hW₁.alike.findClass]; exact c3
  obtain ⟨t2, a2, b2⟩ := kk E v U'.heap ce h1 (fun a ha => by rw [e1]; exact (hold a (by show a < T.heap.size; rw [hT]; exact ha)).trans (by show T.heap[a]? = _; rw [hT])) (by rw [e1]; exact c1) c2 hcl U' rfl X'
  exact ⟨t2, st.trans a2, b2⟩
/-- a call of an object's method that throws -/
theorem x_callV (S : CallFix p m c cc nL s args Ts own) (hM : xMet l y ws rm Pc xp mc ms) (cw : CallW R s args own C index y bytes maxL ret ws rm mc ms n) (hp : PreV s H C b Pc As)
    (hn : As.length = n) (hsize : ls.size = nL) (hst : st0 = As.reverse ++ .ref b :: rest) (hW : (rest.map fun v => v.category).sum ≤ 8) (hdg : decode cc pc = .ok (.invokevirtual index, 3)) (hf : cells + mc ≤ R.cells ∧ slots + ms ≤ R.slots)
    (kk : ∀ (E : String) (q : Addr) (H1 : Heap) (ce : Cell), xp E → (∀ a : Nat, a < H.size → H1[a]? = H[a]?) → H1[q]? = some ce → ce.vm = .none → s.vm.findClass E = some ce.cls → xW p l e R s m args below meth c H1 locs (cells + mc) (slots + ms) Q (F0 m pc ls rest) q) : W p l e R s m args below meth c H locs cells slots Q (F0 m pc ls st0) := by
  obtain ⟨⟨hrc, hrs, hfr, hlo, hws, hcw, hcode, hini, hy, hlen, hl⟩, hinst, hsel⟩ := cw
  obtain ⟨hx, hb, hml, ho, -⟩ := S
  obtain ⟨hbl, ⟨cellB, hcB, hoB, hclB⟩, hPc⟩ := hp
  have hK := x_back (p := p) (e := e) (R := R) (s := s) (args := args) (below := below) (len := 3) (W9 := 8) (bytes := bytes) (maxL := maxL) (ret := ret) hM hbl hrc hrs hfr hlo hws hcw (fun a' U hW => word_at hW (Or.inl (by first | rfl | simp [Cond.onTables, Cond.keeps, Cond.steady])) hini)
  intro T hT X
  obtain ⟨mk, methM, hnamed, hmethM, hstM, habM⟩ := Cond.instanceMethod_spec hinst
  obtain ⟨methM', cM, hmethM', -, -, -, -, -, -, hsigM⟩ := Cond.code_spec hnamed hcode
  have em : methM = methM' := Option.some.inj (hmethM.symm.trans hmethM')
  subst em
  obtain ⟨c2, r2, m2, q1, q2, q3, q4, kP, hkP, hkPi⟩ := Cond.selects_spec hsel
  cases hclB.symm.trans q1
  cases (State.methodFound?_of_named hnamed hy).symm.trans q2
  cases hnamed.symm.trans q3
  have hselP : selectMethod e.platform s.vm cellB.cls mk = .method mk := by rw [Launch.admits_selectMethod X.admits]; exact q4
  obtain ⟨vm₁, X₁, hstep₁⟩ := X.invokevirtual hx ho hl hnamed hmethM hstM hkP hkPi hy (a := b) (cell := cellB) (by rw [hT]; exact hcB) (fun z h => by rw [h] at hoB; cases hoB) hselP hmethM habM hkP hkPi (g := F0 m pc ls st0) rfl (argsL := As) (rest := rest) (hn.trans (hlen _ hsigM)) hst (by rw [hb]; exact hdg)
  obtain ⟨v, ⟨U', l2, c2', s2⟩, X', ⟨g', mk', t, E, e1, h1, h2, e2, e3, e4⟩, st⟩ := hK m meth c ⟨T.setVm vm₁, locs, cells, slots⟩ (F0 m pc ls rest) (.invokevirtual index) mk (Value.ref b :: As).toArray X₁ rfl (hsize.trans hml.symm) (by rw [hb]; exact hdg) (lv_room (m := m) (pc := pc) (ls := ls) (rest := rest) hW) (X₁.named hnamed) ⟨hf.1, hf.2, hPc (T.setVm vm₁) hT X₁.warmed⟩
  dsimp only [Pt.U, Pt.locs, Pt.cells, Pt.slots] at X' e1 e2 e3 e4 st
  rw [List.append_nil] at e2
  subst e2; subst e3; subst e4
  obtain ⟨⟨ce, c1, c2, c3⟩, hold⟩ := h2
  have hcl : s.vm.findClass E = some ce.cls := by rw [← X₁.warmed.alike.findClass]; exact c3
  obtain ⟨t2, a2, b2⟩ := kk E v U'.heap ce h1 (fun a ha => by rw [e1]; exact (hold a (by show a < T.heap.size; rw [hT]; exact ha)).trans (by show T.heap[a]? = _; rw [hT])) (by rw [e1]; exact c1) c2 hcl U' rfl X'
  exact ⟨t2, hstep₁ _ (fun acts => by rw [doInvoke_state]; exact st.trans a2), b2⟩
/-- not caught: it goes on to the caller -/
theorem x_out {E : String} {q : Addr} {ce : Cell} (hno : ∀ x ∈ c.exceptionTable.toList, False) (hlocks : meth.locks = false) (hxp : xp E) (hold : ∀ a : Nat, a < s.heap.size → H[a]? = s.heap[a]?) (hce : H[q]? = some ce) (hv : ce.vm = .none) (hcl : s.vm.findClass E = some ce.cls) :
    xW p l e R s m args below meth c H [] cells slots (XQ below xp s cells slots) (F0 m pc ls rest) q := by
  intro T hT X
  obtain ⟨st, hrun, hend, hW, hsame⟩ := X.leaveThrown q (g := F0 m pc ls rest) rfl rfl rfl (fun x hx => (hno x hx).elim) hlocks
  exact ⟨_, st, E, q, hrun, hend, hxp, ⟨⟨ce, by show T.heap[q]? = _; rw [hT]; exact hce, hv, hcl⟩, fun a ha => by show T.heap[a]? = _; rw [hT]; exact hold a ha⟩, ⟨_, rfl⟩, hW, hsame⟩
/-- caught by the row x of the method's own table, past rows that name other classes -/
theorem x_catch {E name : String} {q : Addr} {ce : Cell} (hown : s.vm.findClass own = some m.cls) (pre : List ExceptionTableEntry) (x : ExceptionTableEntry) (suf : List ExceptionTableEntry) (hsplit : c.exceptionTable.toList = pre ++ x :: suf)
    (hpass : ∀ z ∈ pre, z.catchType ≠ 0 ∧ ∃ nm : String, (Cond.classLink own z.catchType nm).before args s = true ∧ (Cond.not (.castable E nm)).before args s = true) (hx : covers x pc = true) (h0 : x.catchType ≠ 0)
    (hlink : (Cond.classLink own x.catchType name).before args s = true) (hcast : (Cond.castable E name).before args s = true) (hce : H[q]? = some ce) (hv : ce.vm = .none) (hcl : s.vm.findClass E = some ce.cls)
    (kk : W p l e R s m args below meth c H locs cells slots Q (F0 m x.handlerPc ls [.ref q])) : xW p l e R s m args below meth c H locs cells slots Q (F0 m pc ls rest) q := by
  intro T hT X
  have hpl : e.platform.magicAccessors = ({} : Platform).magicAccessors := by rw [X.admits.platform]
  obtain ⟨c3, c4, hc3, hc4, hasg⟩ := Cond.castable_spec hcast
  cases Option.some.inj (hc3.symm.trans hcl)
  obtain ⟨hend, hk0⟩ := X.catches_of_link hown h0 hlink hc4 hasg
  obtain ⟨vm', X', st⟩ := X.thenCaughtThrough q (g := F0 m pc ls rest) rfl (Steps.refl _) (by rw [hT]; exact hce) (by rw [hv]; rfl) hk0 pre x suf hsplit
    (fun z hz => by
      obtain ⟨z0, nm, hl1, hn1⟩ := hpass z hz
      exact RowPassed.of_words hpl hown z0 hl1 hcl hn1) hx hend
  obtain ⟨t, a1, b1⟩ := kk (T.setVm vm') hT X'
  exact ⟨t, st.trans a1, b1⟩
end XROWS
/-- the table of a body with handlers -/
theorem x_table {l : Launch} {p : Program} {y : MethodName} {S : Spec} {cc bytes : ByteArray} {maxL maxL' : Nat} {ret ret' : Option FieldType} {e : Env} {s s₁ : State} {m : MethodId} {args : Array Value} {below : List Frame} {meth : Method} {c : Code} {hh : List (Nat × Nat × Nat × Nat)}
    (B : BodyLoose p l y S cc maxL ret e s m args below meth c s₁) (h : (Cond.codeWith y bytes maxL' ret' hh).before args s = true) : c.exceptionTable.toList = tableOf hh := by
  obtain ⟨m9, meth9, c9, hn9, h1, h2, -, -, h6, -⟩ := Cond.codeWith_spec h
  have e0 : m9 = m := Option.some.inj (hn9.symm.trans B.named)
  subst e0
  have e1 : meth9 = meth := Option.some.inj (h1.symm.trans B.method)
  subst e1
  have e2 : c9 = c := Option.some.inj (h2.symm.trans (Stand.of_body B).code)
  subst e2
  rw [← h6, table_eq]
/-- a heap that has grown alone -/
theorem x_size {H H1 : Heap} (h : ∀ a : Nat, a < H.size → H1[a]? = H[a]?) : H.size ≤ H1.size := by
  rcases Nat.eq_zero_or_pos H.size with h0 | h0
  · omega
  · have e := h (H.size - 1) (by omega)
    have := (Array.getElem?_eq_some_iff.mp (e.trans (Array.getElem?_eq_getElem (by omega)))).1
    omega
theorem x_keep {D : va_G} {cl : List vw_C} {ws : va_W} {A : Nat → Prop} {H0 H H1 : Heap} {locs : List Loc} (hP : va_P D cl ws H) (hS : va_S A H0 H locs) (h : ∀ a : Nat, a < H.size → H1[a]? = H[a]?) : va_P D cl ws H1 ∧ va_S A H0 H1 locs :=
  ⟨hP.kept (fun k q hq => h q.1 (hP k q hq).lt), Nat.le_trans hS.1 (x_size h), fun q h1 h2 => (h q (Nat.lt_of_lt_of_le h1 hS.1)).trans (hS.2.1 q h1 h2), hS.2.2⟩
/-- what the class's throws ask of the start: words on Throwable and the exceptions' classes, and the texts' places -/
def strL : List (Nat × String) := [(145, "n is not 1 .. 8"), (53, "a sign is above 128"), (147, "module is not 1 .. 50"), (81, "there is no row"), (151, "twelve is not 0 .. 999999999999"), (115, "a width is 0"), (119, "there is no width i"), (122, "width is not 1 .. 2000")]
def excN : List String := ["java/lang/RuntimeException", "java/lang/Exception"]
def thrW : List Cond := (Bundle.ownAtoms R_Lc 55 "java/lang/IllegalArgumentException" ["java/lang/RuntimeException", "java/lang/Exception"] ++ (Bundle.ownAtoms R_Lc 83 "java/lang/IllegalStateException" ["java/lang/RuntimeException", "java/lang/Exception"] ++ Bundle.ownAtoms R_Lc 121 "java/lang/IndexOutOfBoundsException" ["java/lang/RuntimeException", "java/lang/Exception"])) ++ [Cond.not (.castable "java/lang/IllegalStateException" "java/lang/IllegalArgumentException"), Cond.not (.castable "java/lang/IllegalArgumentException" "java/lang/IndexOutOfBoundsException")]
def yP (sd : Nat → Nat) (U : State) : Prop := (∀ (a : Array Value) (w : Cond), w ∈ thrW → w.before a U = true) ∧ ∀ q ∈ strL, vk_R R_Lc q.1 q.2 (sd q.1) U
def ys (Z : (Nat → Prop) → State → Heap → Prop) (sd : Nat → Nat) : Prop := ∀ (A : Nat → Prop) (U : State) (H : Heap), Z A U H → yc (yP sd) A U H
theorem thr_str {sd : Nat → Nat} {A : Nat → Prop} {s : State} (h : yc (yP sd) A s s.heap) (q : Nat × String) (hq : q ∈ strL) : vk_R R_Lc q.1 q.2 (sd q.1) s := (yc_now h).2 q hq
theorem thr_at {sd : Nat → Nat} {A : Nat → Prop} {s : State} {args : Array Value} {ws : List Cond} (h : yc (yP sd) A s s.heap) (hw : ∀ w ∈ ws, w ∈ thrW) : ∀ w ∈ ws, w.before args s = true := fun w hm => (yc_now h).1 args w (hw w hm)
theorem thr_no {sd : Nat → Nat} {A : Nat → Prop} {s : State} {args : Array Value} {w : Cond} (h : yc (yP sd) A s s.heap) (hw : w ∈ thrW) : w.before args s = true := (yc_now h).1 args w hw
