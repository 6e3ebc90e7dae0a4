/-! Methods that throw. A contract of a throw speaks of the calls that throw, and of those alone: nothing old is written, the thrown object is new. The returning calls have contracts of their own (Met). -/
/-- what holds from here on, whatever is called -/
def yc (P : State → Prop) (A : Nat → Prop) (U : State) (H : Heap) : Prop := ∀ U' : State, U.WarmedH U'.vm → (∀ a : Nat, a < H.size → ¬ A a → U'.heap[a]? = H[a]?) → P U'
theorem yc_zk (P : State → Prop) : zk (yc P) := by
  refine ⟨fun A u U H hv h U' hW hq => h U' (State.WarmedH.trans hv hW) hq, fun A U H H1 h hq U' hW hq' => h U' hW (fun a ha hA => ?_), fun A B U H h hAB U' hW hq => h U' hW (fun a ha hA => hq a ha (fun z => hA (hAB a z)))⟩
  have e := hq a ha hA
  exact (hq' a (Array.getElem?_eq_some_iff.mp (e.trans (Array.getElem?_eq_getElem ha))).1 hA).trans e
theorem yc_now {P : State → Prop} {A : Nat → Prop} {s : State} (h : yc P A s s.heap) : P s := h s (State.WarmedH.refl s) (fun _ _ _ => rfl)
/-- the object q is thrown, of the class E; the old cells are as they were -/
def xT (E : String) (st : State) (q : Addr) (t : State) : Prop := (∃ ce : Cell, t.heap[q]? = some ce ∧ ce.vm = .none ∧ st.vm.findClass E = some ce.cls) ∧ ∀ a : Nat, a < st.heap.size → t.heap[a]? = st.heap[a]?
/-- how a call that throws leaves things: the tables warmer at most, nothing old written, at most k new objects of n slots together -/
def xEnd (st t : State) (k n : Nat) : Prop := st.WarmedH t.vm ∧ st.sameButNew ({ t with vm := st.vm } : State) [] k n
def xMet (l : Launch) (y : MethodName) (ws : List Cond) (rm : Room) (Pc : Array Value → State → Prop) (xp : String → Prop) (mc ms : Nat) : Prop :=
  MetFree l y (headSpec ws rm) Pc (fun _ _ _ _ _ => True) (fun _ st o t => ∃ (E : String) (q : Addr), o = .threw q ∧ xp E ∧ xT E st q t ∧ xEnd st t mc ms)
/-- what a body that throws owes -/
def XQ (below : List Frame) (xp : String → Prop) (s : State) (mc ms : Nat) : State → Prop := fun t => ∃ (E : String) (q : Addr), t.status = .running ∧ Ended t below (.threw q) ∧ xp E ∧ xT E s q t ∧ xEnd s t mc ms
theorem x_old {s U : State} {k n : Nat} (h : s.sameButNew ({ U with vm := s.vm } : State) [] k n) : ∀ a : Nat, a < s.heap.size → U.heap[a]? = s.heap[a]? := fun a ha => by
  have := h.old_cell (Array.getElem?_eq_getElem ha)
  exact this.trans (Array.getElem?_eq_getElem ha).symm
section XBODY
variable {l : Launch} {y : MethodName} {ws ws' : List Cond} {rm : Room} {Pc : Array Value → State → Prop} {xp : String → Prop} {mc ms : Nat} {cc : ByteArray} {maxL : Nat} {ret : Option FieldType}
theorem xMet.ofW (hy : plainName y.cls = true) (hw : ws = Cond.code y cc maxL ret :: ws')
    (body : ∀ p e s m args below meth c s₁, BodyLoose p l y (headSpec ws rm) cc maxL ret e s m args below meth c s₁ → c.maxLocals = maxL → (∀ x ∈ c.exceptionTable.toList, False) → Pc args s →
      W p l e (headSpec ws rm).room s m args below meth c s.heap [] 0 0 (XQ below xp s mc ms) (entryFrame m args maxL)) : xMet l y ws rm Pc xp mc ms := by
  refine MetFree.of_bodyS (code := cc) (maxLocals := maxL) (ret := ret) hy ?_ ?_
  · intro args s m h hn
    obtain ⟨meth, c, h1, h2, h3, h4, h5, h6, -, -⟩ := Cond.code_spec hn (atoms_spec (ws := ws) h _ (by rw [hw]; exact List.mem_cons_self))
    exact ⟨meth, c, h1, h2, h3, h4, h5, h6⟩
  · intro p e s m args below meth c s₁ B hml hP _
    have hno : ∀ x ∈ c.exceptionTable.toList, False := by
      obtain ⟨m9, c9, h1, h2, -, -, -, -, h7, -⟩ := Cond.code_spec B.named (atoms_spec (ws := ws) B.pre _ (by rw [hw]; exact List.mem_cons_self))
      have e1 : m9 = meth := Option.some.inj (h1.symm.trans B.method)
      subst e1
      have e2 : c9 = c := Option.some.inj (h2.symm.trans (Stand.of_body B).code)
      subst e2
      intro x hx
      rw [Array.isEmpty_iff.mp h7] at hx
      cases hx
    obtain ⟨t, a1, E, q, b1, b2, b3, b4, b5⟩ := body p e s m args below meth c s₁ B hml hno hP s₁ (by rw [B.state]; rfl) (Stand.of_body B)
    exact ⟨t, .threw q, a1, b1, b2, E, q, rfl, b3, b4, b5⟩
end XBODY
section XROWS
variable {p : Program} {l : Launch} {e : Env} {R : Room} {s : State} {m : MethodId} {args : Array Value} {below : List Frame} {meth : Method} {c : Code} {H : Heap} {locs : List Loc} {cells slots : Nat} {Q : State → Prop}
variable {Ts ws : List Cond} {cc bytes : ByteArray} {nL maxL index n mc ms pc : Nat} {own C : String} {y : MethodName} {ret : Option FieldType} {rm : Room} {Pc : Array Value → State → Prop} {xp : String → Prop} {ls : Array Slot} {st0 As rest : List Value} {b : Nat}
/-- 'throw new E(text)', uncaught in its method -/
theorem x_throw (hexec : p.tables.exec = Jvm.exec) (hb : c.code = cc) (hst : l.stackTraces = false) {cls text : String} {names : List String} {ik is ic sa : Nat}
    (hown : s.vm.findClass own = some m.cls) (hcls : Bundle.fit cls = true) (hnames : ∀ n ∈ names, Bundle.fit n = true) (hk : (Cond.classLink own ik cls).before args s = true) (hini : (Cond.initialized cls).before args s = true)
    (hstr : vk_R own is text sa s) (hat : ∀ w ∈ Bundle.ownAtoms own ic cls names, w.before args s = true) (hsize : ls.size = c.maxLocals)
    (d0 : decode cc pc = .ok (.new ik, 3)) (d3 : decode cc (pc + 3) = .ok (.dup, 1)) (d4 : decode cc (pc + 4) = .ok (.ldc is, 2)) (d6 : decode cc (pc + 6) = .ok (.invokespecial ic, 3)) (d9 : decode cc (pc + 9) = .ok (.athrow, 1))
    (hno : ∀ x ∈ c.exceptionTable.toList, False) (hRf : names.length + 3 < R.frames) (hRl : (rest.map fun v => v.category).sum + (13 * (names.length + 1) + 43) ≤ R.locals) (hRc : 1 ≤ R.cells) (hRs : 6 ≤ R.slots) (hlocks : meth.locks = false) (hxp : xp cls) :
    W p l e R s m args below meth c s.heap [] 0 0 (XQ below xp s 1 6) (F0 m pc ls rest) := by
  intro T hT X
  have htr : e.platform.stackTraces = false := (show e.platform.stackTraces = l.stackTraces by rw [X.admits.platform]).trans hst
  have hins : (Cond.instantiable cls 6).before args s = true := hat _ (by simp [Bundle.ownAtoms])
  obtain ⟨vm₁, cX, kX, hfX, hkX, -, -, X₁, st1⟩ := X.newCold hexec (own := own) (C := cls) (index := ik) (n := 6) hown hk hins hini (g := F0 m pc ls rest) rfl (by rw [hb]; exact d0) (by omega) (by omega)
  have main : W p l e R s m args below meth c ((T.setVm vm₁).pushCell { cls := cX, slots := kX.instanceTypes.map defaultValue, vm := .none }).heap [] (0 + 1) (0 + 6) (XQ below xp s 1 6) (F0 m (pc + 3) ls (.ref T.heap.size :: rest)) := by
    refine lv_dup hexec hb d3 rfl ?_
    refine va_ldcS hexec hb hown hstr d4 ?_
    intro T2 hT2 X2
    have hcell : T2.heap[T.heap.size]? = some (freshCell cX kX) := by rw [hT2]; exact State.heap_pushCell_size _ _
    obtain ⟨U, hsteps, hrun, hend, hW, hsame, ce, hce, hO⟩ := X2.ctorThrowS hexec htr (own := own) (cls := cls) (names := names) (ic := ic) hown hcls hnames hat (fun x hx => nomatch hx) hfX hkX hcell (by rw [hT]; exact Nat.le_refl _) (msg := .ref sa) rfl
      (g := F0 m (pc + 3 + 1 + 2) ls (.ref sa :: .ref T.heap.size :: .ref T.heap.size :: rest)) rfl hsize rfl rfl (rest := rest) rfl (by rw [hb]; exact d6) (by rw [hb]; exact d9) (fun x hx => (hno x hx).elim) hRf (by
        have hcat : (Value.ref T.heap.size).category = 1 := rfl
        have hmr : (F0 m (pc + 3 + 1 + 2) ls (.ref sa :: .ref T.heap.size :: .ref T.heap.size :: rest)).monitorRoom = 0 := rfl
        rw [hmr]
        simp only [List.map_cons, List.sum_cons, hcat]
        omega) hlocks
    exact ⟨U, hsteps, cls, T.heap.size, hrun, hend, hxp, ⟨⟨ce, hce, hO.vm, hO.cls⟩, x_old hsame⟩, hW, hsame⟩
  obtain ⟨t, a1, b1⟩ := main _ rfl X₁
  exact ⟨t, st1 _ a1, b1⟩
/-- a method that throws, entered from the frame g: the thrown lies over g, and the caller still stands there -/
theorem x_go {len W9 : Nat} {ig : Instr} {U : State} {g : JFrame} {mk : MethodId} {aa : Array Value} (hM : xMet l y ws rm Pc xp mc ms) (hrc : rm.cells = mc) (hrs : rm.slots = ms) (hframes : rm.frames + 1 ≤ R.frames) (hlocals : W9 + (maxL + 11) + rm.locals ≤ R.locals)
    (hws : ∀ w ∈ ws, w.before aa U = true) (hcode : Cond.code y bytes maxL ret ∈ ws) (hinit : (Cond.initialized y.cls).before aa U = true) (X : Stand p l e R s m args below meth c U locs cells slots)
    (hg : g.method = m) (hsize : g.locals.size = c.maxLocals) (hdg : decode c.code g.pc = .ok (ig, len)) (hW : 2 * g.monitorRoom + (g.stack.map fun v => v.category).sum ≤ W9) (hn : U.methodNamed? y = some mk)
    (hf : cells + mc ≤ R.cells ∧ slots + ms ≤ R.slots) (hp : Pc aa (U.calling g mk aa)) :
    ∃ (q : Addr) (E : String) (U' : State), Stand p l e R s m args below meth c U' locs (cells + mc) (slots + ms) ∧ xp E ∧ (∃ ce : Cell, U'.heap[q]? = some ce ∧ ce.vm = .none ∧ U.vm.findClass E = some ce.cls) ∧ (∀ a : Nat, a < U.heap.size → U'.heap[a]? = U.heap[a]?) ∧
      Steps p.tables e below (doInvoke e (U.setTop g) [] mk aa).1 ((U'.setTop g).pushFrame (.throwing q)) := by
  subst hg
  obtain ⟨g1, hfr⟩ := X.frames_eq
  obtain ⟨methY, cY, hmY, hcY, -, hlY, -, -, -, -⟩ := Cond.code_spec hn (hws _ hcode)
  obtain ⟨kY, hkY, -⟩ := className_of_methodNamed hn
  have hroom : (U.calling g mk aa).hasRoom e.platform (headSpec ws rm).room = true := X.room_calling (g := g) (R' := (headSpec ws rm).room) hsize hmY hcY hframes (by rw [hlY]; show _ + rm.locals ≤ _; omega) (by show _ + rm.cells ≤ _; omega) (by show _ + rm.slots ≤ _; omega)
  have happ : (headSpec ws rm).appliesLoose y e.platform (U.calling g mk aa) = true := Spec.appliesLoose_calling (g := g) X.here hdg hn hkY (Cond.initialized_spec (findClass_of_methodNamed hn) hkY hinit) hroom (atoms_intro hws)
  have hF : (U.setTop g).frames = [.java g] ++ below := by rw [State.frames_setTop _ hfr]; rfl
  obtain ⟨o, t, hgo, -, hfin, E, q, ho, hE, ⟨⟨ce, c1, c2, c3⟩, hold⟩, hwarm, hsame⟩ := Steps.callFree hM p X.admits X.cas X.clock (acts := []) hF happ hp trivial
  subst ho
  rw [hF] at hfin
  have hT : t.frames = .throwing q :: .java g :: below := hfin
  have hcal : U.calling g mk aa = U.setFrames (.invoking mk aa :: .java g :: below) := by rw [State.calling_eq X.here.top, X.tail]
  have h1 : t = ({ (U.calling g mk aa).setFrames t.frames with heap := t.heap, slotsUsed := t.slotsUsed } : State).setVm t.vm := by
    have h := congrArg (fun z : State => z.setVm t.vm) hsame.1
    exact h
  have h2 : ({ (U.calling g mk aa).setFrames t.frames with heap := t.heap, slotsUsed := t.slotsUsed } : State).setVm t.vm = (((({ U with heap := t.heap, slotsUsed := t.slotsUsed } : State).setVm t.vm).setTop g).pushFrame (.throwing q)) := by
    have hfr' : (({ U with heap := t.heap, slotsUsed := t.slotsUsed } : State).setVm t.vm).frames = .java g1 :: below := hfr
    rw [hT, hcal, State.setFrames_setFrames, State.pushFrame, State.frames_setTop _ hfr', State.setTop_of_frames _ hfr', State.setFrames_setFrames]
    rfl
  have hU : U.sameButNew ((({ U with heap := t.heap, slotsUsed := t.slotsUsed } : State).setVm t.vm).setVm U.vm) [] mc ms := by
    obtain ⟨th, hth, -⟩ := State.frames_cons hfr
    refine ⟨?_, hsame.2⟩
    show ({ U with heap := t.heap, slotsUsed := t.slotsUsed } : State) = { U.setFrames U.frames with heap := t.heap, slotsUsed := t.slotsUsed }
    rw [State.setFrames_self hth]
  have hV : U.WarmedH t.vm := hwarm
  have X' := X.moved (T₂ := ({ U with heap := t.heap, slotsUsed := t.slotsUsed } : State).setVm t.vm) ((X.here.setHeapUsed t.heap t.slotsUsed).setVm hV.alike) X.tail rfl rfl hV hU
  rw [List.append_nil] at X'
  refine ⟨q, E, _, X', hE, ⟨ce, c1, c2, c3⟩, hold, ?_⟩
  rw [← h2, ← h1]
  exact hgo
/-- a frame with q thrown over it -/
def xW (p : Program) (l : Launch) (e : Env) (R : Room) (s : State) (m : MethodId) (args : Array Value) (below : List Frame) (meth : Method) (c : Code) (H : Heap) (locs : List Loc) (cells slots : Nat) (Q : State → Prop) (g : JFrame) (q : Addr) : Prop :=
  ∀ T : State, T.heap = H → Stand p l e R s m args below meth c T locs cells slots → ∃ t, Steps p.tables e below ((T.setTop g).pushFrame (.throwing q)) t ∧ Q t
/-- a static call that throws -/
theorem x_callS (S : CallFix p m c cc nL s args Ts own) (hM : xMet l y ws rm Pc xp mc ms) (cw : CallB R s args own index y bytes maxL ret ws rm mc ms n ∧ (Cond.static y).before args s = true) (hp : PreS s H Pc As)
    (hn : As.length = n) (hsize : ls.size = nL) (hst : st0 = As.reverse ++ rest) (hW : (rest.map fun v => v.category).sum ≤ 8) (hdg : decode cc pc = .ok (.invokestatic index, 3)) (hf : cells + mc ≤ R.cells ∧ slots + ms ≤ R.slots)
    (kk : ∀ (E : String) (q : Addr) (H1 : Heap) (ce : Cell), xp E → (∀ a : Nat, a < H.size → H1[a]? = H[a]?) → H1[q]? = some ce → ce.vm = .none → s.vm.findClass E = some ce.cls → xW p l e R s m args below meth c H1 locs (cells + mc) (slots + ms) Q (F0 m pc ls rest) q) : W p l e R s m args below meth c H locs cells slots Q (F0 m pc ls st0) := by
  obtain ⟨⟨hrc, hrs, hfr, hlo, hws, hcw, hcode, hini, hy, hlen, hl⟩, hstt⟩ := cw
  obtain ⟨hx, hb, hml, ho, -⟩ := S
  intro T hT X
  obtain ⟨mk, hnamed⟩ := Cond.code_named hcode
  obtain ⟨methM, cM, hmethM, -, -, -, -, -, -, hsigM⟩ := Cond.code_spec hnamed hcode
  obtain ⟨kP, hkP, -⟩ := className_of_methodNamed hnamed
  obtain ⟨vm₁, X₁, hstep₁⟩ := X.invokestatic hx ho hl hnamed hmethM (Cond.static_spec hnamed hmethM hstt) hkP (Cond.initialized_spec (findClass_of_methodNamed hnamed) hkP hini) hy (g := F0 m pc ls st0) rfl (argsL := As) (rest := rest) (hn.trans (hlen _ hsigM)) hst (by rw [hb]; exact hdg)
  obtain ⟨q, E, U', X', h1, ⟨ce, c1, c2, c3⟩, hold, go⟩ := x_go (U := T.setVm vm₁) (g := F0 m pc ls rest) (ig := .invokestatic index) (mk := mk) (aa := As.toArray) (W9 := 8) hM hrc hrs hfr hlo (fun w hw => hws w hw _ _ X₁.warmed) hcw
    (word_at X₁.warmed (Or.inl (by first | rfl | simp [Cond.onTables, Cond.keeps, Cond.steady])) hini) X₁ rfl (hsize.trans hml.symm) (by rw [hb]; exact hdg) (lv_room (m := m) (pc := pc) (ls := ls) (rest := rest) hW) (X₁.named hnamed) hf (hp.1 _ _ _ _ (hp.2 (T.setVm vm₁) hT X₁.warmed))
  have hcl : s.vm.findClass E = some ce.cls := by rw [← X₁.warmed.alike.findClass]; exact c3
  obtain ⟨t2, a2, b2⟩ := kk E q U'.heap ce h1 (fun a ha => (hold a (by show a < T.heap.size; rw [hT]; exact ha)).trans (by show T.heap[a]? = _; rw [hT])) c1 c2 hcl U' rfl X'
  exact ⟨t2, hstep₁ _ (fun acts => by rw [doInvoke_state]; exact go.trans a2), b2⟩
/-- a call of an object's method that throws -/
theorem x_callV (S : CallFix p m c cc nL s args Ts own) (hM : xMet l y ws rm Pc xp mc ms) (cw : CallW R s args own C index y bytes maxL ret ws rm mc ms n) (hp : PreV s H C b Pc As)
    (hn : As.length = n) (hsize : ls.size = nL) (hst : st0 = As.reverse ++ .ref b :: rest) (hW : (rest.map fun v => v.category).sum ≤ 8) (hdg : decode cc pc = .ok (.invokevirtual index, 3)) (hf : cells + mc ≤ R.cells ∧ slots + ms ≤ R.slots)
    (kk : ∀ (E : String) (q : Addr) (H1 : Heap) (ce : Cell), xp E → (∀ a : Nat, a < H.size → H1[a]? = H[a]?) → H1[q]? = some ce → ce.vm = .none → s.vm.findClass E = some ce.cls → xW p l e R s m args below meth c H1 locs (cells + mc) (slots + ms) Q (F0 m pc ls rest) q) : W p l e R s m args below meth c H locs cells slots Q (F0 m pc ls st0) := by
  obtain ⟨⟨hrc, hrs, hfr, hlo, hws, hcw, hcode, hini, hy, hlen, hl⟩, hinst, hsel⟩ := cw
  obtain ⟨hx, hb, hml, ho, -⟩ := S
  obtain ⟨hbl, ⟨cellB, hcB, hoB, hclB⟩, hPc⟩ := hp
  intro T hT X
  obtain ⟨mk, methM, hnamed, hmethM, hstM, habM⟩ := Cond.instanceMethod_spec hinst
  obtain ⟨methM', cM, hmethM', -, -, -, -, -, -, hsigM⟩ := Cond.code_spec hnamed hcode
  have em : methM = methM' := Option.some.inj (hmethM.symm.trans hmethM')
  subst em
  obtain ⟨c2, r2, m2, q1, q2, q3, q4, kP, hkP, hkPi⟩ := Cond.selects_spec hsel
  cases hclB.symm.trans q1
  cases (State.methodFound?_of_named hnamed hy).symm.trans q2
  cases hnamed.symm.trans q3
  have hselP : selectMethod e.platform s.vm cellB.cls mk = .method mk := by rw [Launch.admits_selectMethod X.admits]; exact q4
  obtain ⟨vm₁, X₁, hstep₁⟩ := X.invokevirtual hx ho hl hnamed hmethM hstM hkP hkPi hy (a := b) (cell := cellB) (by rw [hT]; exact hcB) (fun z h => by rw [h] at hoB; cases hoB) hselP hmethM habM hkP hkPi (g := F0 m pc ls st0) rfl (argsL := As) (rest := rest) (hn.trans (hlen _ hsigM)) hst (by rw [hb]; exact hdg)
  obtain ⟨q, E, U', X', h1, ⟨ce, c1, c2, c3⟩, hold, go⟩ := x_go (U := T.setVm vm₁) (g := F0 m pc ls rest) (ig := .invokevirtual index) (mk := mk) (aa := (Value.ref b :: As).toArray) (W9 := 8) hM hrc hrs hfr hlo (fun w hw => hws w hw _ _ X₁.warmed) hcw
    (word_at X₁.warmed (Or.inl (by first | rfl | simp [Cond.onTables, Cond.keeps, Cond.steady])) hini) X₁ rfl (hsize.trans hml.symm) (by rw [hb]; exact hdg) (lv_room (m := m) (pc := pc) (ls := ls) (rest := rest) hW) (X₁.named hnamed) hf (hbl _ _ _ _ (hPc (T.setVm vm₁) hT X₁.warmed))
  have hcl : s.vm.findClass E = some ce.cls := by rw [← X₁.warmed.alike.findClass]; exact c3
  obtain ⟨t2, a2, b2⟩ := kk E q U'.heap ce h1 (fun a ha => (hold a (by show a < T.heap.size; rw [hT]; exact ha)).trans (by show T.heap[a]? = _; rw [hT])) c1 c2 hcl U' rfl X'
  exact ⟨t2, hstep₁ _ (fun acts => by rw [doInvoke_state]; exact go.trans a2), b2⟩
/-- not caught: it goes on to the caller -/
theorem x_out {E : String} {q : Addr} {ce : Cell} (hno : ∀ x ∈ c.exceptionTable.toList, False) (hlocks : meth.locks = false) (hxp : xp E) (hold : ∀ a : Nat, a < s.heap.size → H[a]? = s.heap[a]?) (hce : H[q]? = some ce) (hv : ce.vm = .none) (hcl : s.vm.findClass E = some ce.cls) :
    xW p l e R s m args below meth c H [] cells slots (XQ below xp s cells slots) (F0 m pc ls rest) q := by
  intro T hT X
  obtain ⟨st, hrun, hend, hW, hsame⟩ := X.leaveThrown q (g := F0 m pc ls rest) rfl rfl rfl (fun x hx => (hno x hx).elim) hlocks
  exact ⟨_, st, E, q, hrun, hend, hxp, ⟨⟨ce, by show T.heap[q]? = _; rw [hT]; exact hce, hv, hcl⟩, fun a ha => by show T.heap[a]? = _; rw [hT]; exact hold a ha⟩, hW, hsame⟩
/-- a row of the table that names a class: the name is linked, then the thrown's class is asked -/
theorem x_ask {U : State} {f : JFrame} {q : Addr} {z : ExceptionTableEntry} {zs : List ExceptionTableEntry} {k : ClassId} {ce : Cell} {K1 K2 : Class} {Qh : Handler → Pre} {Ec : CtlPost} {d : Bool} {acts : List Action}
    (hz : covers z f.pc = true) (h0 : z.catchType ≠ 0) (hl : U.vm.ClassLinks e.platform f.method.cls z.catchType k) (hc : U.heap[q]? = some ce) (hv : ce.vm = .none) (hk1 : U.vm.classes[ce.cls]? = some K1) (hk2 : U.vm.classes[k]? = some K2) :
    wp (findHandler.go f q (z :: zs)) Qh Ec e d acts U ↔ if U.vm.assignable ce.cls k = true then Qh (.found z.handlerPc) d acts (U.setVm (U.vm.noted f.method.cls z.catchType (.cls k))) else wp (findHandler.go f q zs) Qh Ec e d acts (U.setVm (U.vm.noted f.method.cls z.catchType (.cls k))) := by
  obtain ⟨r1, r2⟩ := (resolveClass_links e.toSetting hl).op (op := VmOp.resolveClass f.method.cls z.catchType) rfl
  have al : U.vm.Alike (U.vm.noted f.method.cls z.catchType (.cls k)) := (Vm.Alike.refl U.vm).noted _ _ _
  obtain ⟨L1, hL1, -⟩ := al.2.2 _ _ hk1
  obtain ⟨L2, hL2, -⟩ := al.2.2 _ _ hk2
  have ho : ∀ j, ce.vm ≠ .statics j := fun j h => by rw [hv] at h; cases h
  have ha : (U.vm.noted f.method.cls z.catchType (.cls k)).assignable ce.cls k = U.vm.assignable ce.cls k := by rw [al.assignable]
  simp only [covers] at hz
  cases hb : U.vm.assignable ce.cls k <;> rw [hb] at ha <;> simp [findHandler.go, hz, h0, r1, r2, hc, ho, hL1, hL2, ha, VmOp.dirties, VmOp.acts]
/-- what a row's word says in a later state -/
theorem x_named {U : State} {d i : Nat} {nm : String} (hpl : e.platform.magicAccessors = ({} : Platform).magicAccessors) (hown : s.vm.findClass own = some d) (hlink : (Cond.classLink own i nm).before args s = true) (hW : s.WarmedH U.vm) :
    ∃ k, s.vm.findClass nm = some k ∧ (∃ K, s.vm.classes[k]? = some K) ∧ U.vm.ClassLinks e.platform d i k ∧ s.WarmedH (U.vm.noted d i (.cls k)) := by
  obtain ⟨k, hk, hcl⟩ := Cond.classLink_spec hown hlink e.platform hpl
  obtain ⟨dk, _, _, K, hd, _, _, _, _, hK, _, hopen⟩ := hcl.here
  exact ⟨k, hk, ⟨K, hK⟩, hW.classLinks hcl, hW.noted hd hopen (State.rightAt_cls hcl)⟩
/-- the search comes to the row x, past rows that name other classes -/
theorem x_seek {E name : String} {q : Addr} {ce : Cell} {f : JFrame} {x : ExceptionTableEntry} {suf : List ExceptionTableEntry} (hpl : e.platform.magicAccessors = ({} : Platform).magicAccessors) (hown : s.vm.findClass own = some f.method.cls) (hx : covers x f.pc = true) (h0 : x.catchType ≠ 0)
    (hlink : (Cond.classLink own x.catchType name).before args s = true) (hcast : (Cond.castable E name).before args s = true) (hv : ce.vm = .none) (hcl : s.vm.findClass E = some ce.cls) :
    ∀ (pre : List ExceptionTableEntry) (U : State), (∀ z ∈ pre, z.catchType ≠ 0 ∧ ∃ nm : String, (Cond.classLink own z.catchType nm).before args s = true ∧ (Cond.not (.castable E nm)).before args s = true) → s.WarmedH U.vm → U.heap[q]? = some ce →
      ∃ vm' : Vm, s.WarmedH vm' ∧ ∀ (Qh : Handler → Pre) (Ec : CtlPost) (d : Bool) (acts : List Action), wp (findHandler.go f q (pre ++ x :: suf)) Qh Ec e d acts U ↔ Qh (.found x.handlerPc) d acts (U.setVm vm') := by
  obtain ⟨K0, hK0⟩ := Vm.classAt_of_findClass hcl
  intro pre
  induction pre with
  | nil =>
    intro U _ hW hc
    obtain ⟨k, hk, ⟨K, hK⟩, hl, hW'⟩ := x_named (e := e) (own := own) hpl hown hlink hW
    obtain ⟨K0', hK0', -⟩ := hW.alike.2.2 _ _ hK0
    obtain ⟨K', hK', -⟩ := hW.alike.2.2 _ _ hK
    obtain ⟨c3, c4, hc3, hc4, hasg⟩ := Cond.castable_spec hcast
    cases Option.some.inj (hc3.symm.trans hcl)
    cases Option.some.inj (hc4.symm.trans hk)
    have hyes : U.vm.assignable ce.cls k = true := by rw [hW.alike.assignable]; exact hasg
    refine ⟨_, hW', fun Qh Ec d acts => ?_⟩
    rw [List.nil_append, x_ask hx h0 hl hc hv hK0' hK', if_pos hyes]
  | cons z zs ih =>
    intro U hpass hW hc
    obtain ⟨z0, nm, hl1, hn1⟩ := hpass z (List.mem_cons_self ..)
    have hrest := fun w hw => hpass w (List.mem_cons_of_mem _ hw)
    cases hcov : covers z f.pc with
    | false =>
      obtain ⟨vm', hW', hq⟩ := ih U hrest hW hc
      refine ⟨vm', hW', fun Qh Ec d acts => ?_⟩
      rw [List.cons_append, Jvm.W.findHandler_go_skip hcov]
      exact hq Qh Ec d acts
    | true =>
      obtain ⟨k, hk, ⟨K, hK⟩, hl, hW1⟩ := x_named (e := e) (own := own) hpl hown hl1 hW
      obtain ⟨K0', hK0', -⟩ := hW.alike.2.2 _ _ hK0
      obtain ⟨K', hK', -⟩ := hW.alike.2.2 _ _ hK
      have hno := Cond.holds_not_iff.mp hn1
      simp only [Cond.value, hcl, hk] at hno
      have hno' : ¬ U.vm.assignable ce.cls k = true := by rw [hW.alike.assignable, Option.some.inj hno]; exact Bool.false_ne_true
      obtain ⟨vm', hW', hq⟩ := ih (U.setVm (U.vm.noted f.method.cls z.catchType (.cls k))) hrest hW1 hc
      refine ⟨vm', hW', fun Qh Ec d acts => ?_⟩
      rw [List.cons_append, x_ask hcov z0 hl hc hv hK0' hK', if_neg hno']
      exact hq Qh Ec d acts
/-- the step from the thrown to the handler -/
theorem x_land {T : State} {q : Addr} {vm' : Vm} {g : JFrame} {hpc : Nat} (X : Stand p l e R s m args below meth c T locs cells slots) (hg : g.method = m)
    (hfind : ∀ (Qh : Handler → Pre) (Ec : CtlPost) (d : Bool) (acts : List Action), wp (findHandler g q) Qh Ec e d acts ((T.setTop g).pushFrame (.throwing q)) ↔ Qh (.found hpc) d acts (((T.setTop g).pushFrame (.throwing q)).setVm vm')) :
    Steps p.tables e below ((T.setTop g).pushFrame (.throwing q)) ((T.setVm vm').setTop { g with pc := hpc, stack := [.ref q] }) := by
  subst hg
  obtain ⟨g1, hfr⟩ := X.frames_eq
  have hfr' : (T.setVm vm').frames = .java g1 :: below := hfr
  obtain ⟨hon, hin⟩ := X.here.throwing q
  have hone : (stepThrowing e ((T.setTop g).pushFrame (.throwing q)) q (.java g :: T.frames.tail)).1 = (T.setVm vm').setTop { g with pc := hpc, stack := [.ref q] } := by
    simp only [stepThrowing, searchFrame, vmDo]
    generalize hr : Sem.go _ e false [] _ = res
    obtain ⟨as, rfl, -⟩ := Sem.eq_ok_of hr (a := Handler.found hpc) (s' := ((T.setTop g).pushFrame (.throwing q)).setVm vm') (acts' := []) (by simp [hfind _ _ _ _])
    show (((T.setTop g).pushFrame (.throwing q)).setVm vm').setFrames (.java { g with pc := hpc, stack := [.ref q] } :: T.frames.tail) = _
    have hpush : ((T.setTop g).pushFrame (.throwing q)).setVm vm' = (T.setVm vm').setFrames (.throwing q :: .java g :: below) := by
      rw [State.pushFrame, State.frames_setTop _ hfr, State.setTop_of_frames _ hfr, State.setFrames_setFrames]
      rfl
    rw [hpush, State.setFrames_setFrames, State.setTop_of_frames _ hfr', hfr]
    rfl
  refine Steps.head hon hin ?_
  rw [stepThread_throwing (frames_entered X.here.top _), hone]
  exact Steps.refl _
/-- caught by the row x of the method's own table, past rows that name other classes -/
theorem x_catch {E name : String} {q : Addr} {ce : Cell} (hown : s.vm.findClass own = some m.cls) (pre : List ExceptionTableEntry) (x : ExceptionTableEntry) (suf : List ExceptionTableEntry) (hsplit : c.exceptionTable.toList = pre ++ x :: suf)
    (hpass : ∀ z ∈ pre, z.catchType ≠ 0 ∧ ∃ nm : String, (Cond.classLink own z.catchType nm).before args s = true ∧ (Cond.not (.castable E nm)).before args s = true) (hx : covers x pc = true) (h0 : x.catchType ≠ 0)
    (hlink : (Cond.classLink own x.catchType name).before args s = true) (hcast : (Cond.castable E name).before args s = true) (hce : H[q]? = some ce) (hv : ce.vm = .none) (hcl : s.vm.findClass E = some ce.cls)
    (kk : W p l e R s m args below meth c H locs cells slots Q (F0 m x.handlerPc ls [.ref q])) : xW p l e R s m args below meth c H locs cells slots Q (F0 m pc ls rest) q := by
  intro T hT X
  have hpl : e.platform.magicAccessors = ({} : Platform).magicAccessors := by rw [X.admits.platform]
  obtain ⟨vm', hW', hq⟩ := x_seek (e := e) (f := F0 m pc ls rest) (q := q) (suf := suf) hpl hown hx h0 hlink hcast hv hcl pre ((T.setTop (F0 m pc ls rest)).pushFrame (.throwing q)) hpass X.warmed (by show T.heap[q]? = _; rw [hT]; exact hce)
  have hland := x_land (g := F0 m pc ls rest) (q := q) (vm' := vm') (hpc := x.handlerPc) X rfl (fun Qh Ec d acts => by rw [Jvm.W.findHandler_eq (meth := meth) (code := c) X.method' X.code, hsplit]; exact hq Qh Ec d acts)
  obtain ⟨t, a1, b1⟩ := kk (T.setVm vm') hT (X.noted hW')
  exact ⟨t, hland.trans a1, b1⟩
end XROWS
/-- the table of a body with handlers -/
theorem x_table {l : Launch} {p : Program} {y : MethodName} {S : Spec} {cc bytes : ByteArray} {maxL maxL' : Nat} {ret ret' : Option FieldType} {e : Env} {s s₁ : State} {m : MethodId} {args : Array Value} {below : List Frame} {meth : Method} {c : Code} {hh : List (Nat × Nat × Nat × Nat)}
    (B : BodyLoose p l y S cc maxL ret e s m args below meth c s₁) (h : (Cond.codeWith y bytes maxL' ret' hh).before args s = true) : c.exceptionTable.toList = tableOf hh := by
  obtain ⟨m9, meth9, c9, hn9, h1, h2, -, -, h6, -⟩ := Cond.codeWith_spec h
  have e0 : m9 = m := Option.some.inj (hn9.symm.trans B.named)
  subst e0
  have e1 : meth9 = meth := Option.some.inj (h1.symm.trans B.method)
  subst e1
  have e2 : c9 = c := Option.some.inj (h2.symm.trans (Stand.of_body B).code)
  subst e2
  rw [← h6, table_eq]
/-- a heap that has grown alone -/
theorem x_size {H H1 : Heap} (h : ∀ a : Nat, a < H.size → H1[a]? = H[a]?) : H.size ≤ H1.size := by
  rcases Nat.eq_zero_or_pos H.size with h0 | h0
  · omega
  · have e := h (H.size - 1) (by omega)
    have := (Array.getElem?_eq_some_iff.mp (e.trans (Array.getElem?_eq_getElem (by omega)))).1
    omega
theorem x_keep {D : va_G} {cl : List vw_C} {ws : va_W} {A : Nat → Prop} {H0 H H1 : Heap} {locs : List Loc} (hP : va_P D cl ws H) (hS : va_S A H0 H locs) (h : ∀ a : Nat, a < H.size → H1[a]? = H[a]?) : va_P D cl ws H1 ∧ va_S A H0 H1 locs :=
  ⟨hP.kept (fun k q hq => h q.1 (hP k q hq).lt), Nat.le_trans hS.1 (x_size h), fun q h1 h2 => (h q (Nat.lt_of_lt_of_le h1 hS.1)).trans (hS.2.1 q h1 h2), hS.2.2⟩
/-- what the class's throws ask of the start: words on Throwable and the exceptions' classes, and the texts' places -/
def strL : List (Nat × String) := [(145, "n is not 1 .. 8"), (53, "a sign is above 128"), (147, "module is not 1 .. 50"), (81, "there is no row"), (151, "twelve is not 0 .. 999999999999"), (115, "a width is 0"), (119, "there is no width i"), (122, "width is not 1 .. 2000")]
def excN : List String := ["java/lang/RuntimeException", "java/lang/Exception"]
def thrW : List Cond := (Bundle.ownAtoms R_Lc 55 "java/lang/IllegalArgumentException" ["java/lang/RuntimeException", "java/lang/Exception"] ++ (Bundle.ownAtoms R_Lc 83 "java/lang/IllegalStateException" ["java/lang/RuntimeException", "java/lang/Exception"] ++ Bundle.ownAtoms R_Lc 121 "java/lang/IndexOutOfBoundsException" ["java/lang/RuntimeException", "java/lang/Exception"])) ++ [Cond.not (.castable "java/lang/IllegalStateException" "java/lang/IllegalArgumentException"), Cond.not (.castable "java/lang/IllegalArgumentException" "java/lang/IndexOutOfBoundsException")]
def yP (sd : Nat → Nat) (U : State) : Prop := (∀ (a : Array Value) (w : Cond), w ∈ thrW → w.before a U = true) ∧ ∀ q ∈ strL, vk_R R_Lc q.1 q.2 (sd q.1) U
def ys (Z : (Nat → Prop) → State → Heap → Prop) (sd : Nat → Nat) : Prop := ∀ (A : Nat → Prop) (U : State) (H : Heap), Z A U H → yc (yP sd) A U H
theorem thr_str {sd : Nat → Nat} {A : Nat → Prop} {s : State} (h : yc (yP sd) A s s.heap) (q : Nat × String) (hq : q ∈ strL) : vk_R R_Lc q.1 q.2 (sd q.1) s := (yc_now h).2 q hq
theorem thr_at {sd : Nat → Nat} {A : Nat → Prop} {s : State} {args : Array Value} {ws : List Cond} (h : yc (yP sd) A s s.heap) (hw : ∀ w ∈ ws, w ∈ thrW) : ∀ w ∈ ws, w.before args s = true := fun w hm => (yc_now h).1 args w (hw w hm)
theorem thr_no {sd : Nat → Nat} {A : Nat → Prop} {s : State} {args : Array Value} {w : Cond} (h : yc (yP sd) A s s.heap) (hw : w ∈ thrW) : w.before args s = true := (yc_now h).1 args w hw
