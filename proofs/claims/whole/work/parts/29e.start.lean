/-! What the start gives: the class's tables, what a throw wants, the strings. -/
def zq (ad sd : Nat → Nat) (A : Nat → Prop) (U : State) (H : Heap) : Prop := sk ad A U H ∧ yc (yP sd) A U H
theorem zq_zk (ad sd : Nat → Nat) : zk (zq ad sd) := by
  have hy := yc_zk (yP sd)
  refine ⟨fun A u U H hv h => ⟨?_, hy.1 A u U H hv h.2⟩, fun A U H H1 h hq => ⟨?_, hy.2.1 A U H H1 h.2 hq⟩, fun A B U H h hAB => ⟨?_, hy.2.2 A B U H h.2 hAB⟩⟩
  · obtain ⟨h1, h2, h3, h4, h5, h6⟩ := h.1
    exact ⟨va_Z.moved hv.alike h1, va_T.moved hv.alike h2, va_Z.moved hv.alike h3, va_T.moved hv.alike h4, va_Z.moved hv.alike h5, va_T.moved hv.alike h6⟩
  · obtain ⟨h1, h2, h3, h4, h5, h6⟩ := h.1
    exact ⟨h1.kept hq, h2.kept hq, h3.kept hq, h4.kept hq, h5.kept hq, h6.kept hq⟩
  · obtain ⟨h1, h2, h3, h4, h5, h6⟩ := h.1
    exact ⟨h1.narrow hAB, h2.narrow hAB, h3.narrow hAB, h4.narrow hAB, h5.narrow hAB, h6.narrow hAB⟩
theorem isref_Z {C n d : String} {v : Value} {A : Nat → Prop} {U : State} (h : va_Z C n d v A U U.heap) (a : Array Value) : (Term.static C n d).eval a U none [] U = some v := by
  obtain ⟨cf, kf, fi, f, a9, cell, h1, h2, h3, h4, h5, h6, h7, h8⟩ := h
  exact Term.static_eval h1 h2 h4 h5 h6 h7
theorem isref_of {C n d : String} {A : Nat → Prop} {U : State} (h : va_Zq C n d A U U.heap) (a : Array Value) : (Cond.isRef (.static C n d)).before a U = true := by
  rcases h with h | ⟨t, h⟩
  · simp only [Cond.before, Cond.holds, Cond.value, isref_Z h a]
    simp
  · simp only [Cond.before, Cond.holds, Cond.value, isref_Z h a]
    simp
theorem notcast_at {s U : State} {a a' : Array Value} {C T : String} (hW : s.WarmedH U.vm) (h : (Cond.not (.castable C T)).before a s = true) : (Cond.not (.castable C T)).before a' U = true := by
  simp only [Cond.before, Cond.holds, Cond.value] at h ⊢
  rw [hW.alike.findClass, hW.alike.findClass]
  simpa only [hW.alike.assignable] using h
theorem lays_at {s U : State} {a a' : Array Value} {C n d : String} (hW : s.WarmedH U.vm) (hq : ∀ a : Nat, a < s.heap.size → U.heap[a]? = s.heap[a]?) (h : (Cond.laysStatic C n d).before a s = true) : (Cond.laysStatic C n d).before a' U = true := by
  obtain ⟨c, k, i, f, ad, cell, hc, hi, hst, ha, hcell, hs, hcls, hlt, hty⟩ := Cond.laysStatic_spec (Cond.laysStatic_setVm hW.alike h)
  have hc2 : s.heap[ad]? = some cell := hcell
  have hU : U.heap[ad]? = some cell := (hq ad (Array.getElem?_eq_some_iff.mp hc2).1).trans hc2
  exact Cond.laysStatic_of (s := U) hc hi hst ha hU hs hcls hlt hty
def thrD : Cond → Bool
  | .declares _ => true
  | .castable _ _ => true
  | _ => false
theorem thrD_at {s U : State} {a a' : Array Value} {w : Cond} (hW : s.WarmedH U.vm) (hd : thrD w = true) (h : w.before a s = true) : w.before a' U = true := by
  have h1 : ∀ c : Cond, c.onTables = true → c.before a (s.setVm U.vm) = true → c.before a' U = true := fun c hc h9 => by
    have h2 := Cond.onTables_vm (A := a) (A' := a') (U := s) (U' := U) U.vm c hc
    rw [State.setVm_self] at h2
    exact h2 ▸ h9
  cases w <;> first | (simp [thrD] at hd; done) | (exact h1 _ rfl (by rw [Cond.declares_setVm hW.alike]; exact h)) | (exact h1 _ rfl (by rw [Cond.castable_setVm hW.alike]; exact h))
def thrOK (w : Cond) : Bool := decide (w ∈ lw_tbl) && (goodWord w || thrD w)
def isrL : List Cond := [.laysStatic "java/lang/Throwable" "UNASSIGNED_STACK" "[Ljava/lang/StackTraceElement;", .laysStatic "java/lang/Throwable" "SUPPRESSED_SENTINEL" "Ljava/util/List;", .isRef (.static "java/lang/Throwable" "UNASSIGNED_STACK" "[Ljava/lang/StackTraceElement;"), .isRef (.static "java/lang/Throwable" "SUPPRESSED_SENTINEL" "Ljava/util/List;"), Cond.not (.castable "java/lang/IllegalStateException" "java/lang/IllegalArgumentException"), Cond.not (.castable "java/lang/IllegalArgumentException" "java/lang/IndexOutOfBoundsException")]
set_option maxRecDepth 100000 in
theorem thr_sort : thrW.all (fun w => decide (w ∈ isrL) || thrOK w) = true := by decide +kernel
def nrwF : List Cond := flatC (Jvm.Cond.and given_1 narrow_1)
set_option maxRecDepth 100000 in
theorem nrw_S : ((List.range 106).all fun j => decide (Cond.eq (.elem (.static "LineCodes$Widths" "SYMBOLS" "[I") (.int (Int32.ofNat j))) (.int (tabS j)) ∈ nrwF)) = true := by decide +kernel
set_option maxRecDepth 100000 in
theorem nrw_F : ((List.range 10).all fun j => decide (Cond.eq (.elem (.static "LineCodes$Widths" "FIGURES" "[I") (.int (Int32.ofNat j))) (.int (tabF j)) ∈ nrwF)) = true := by decide +kernel
set_option maxRecDepth 100000 in
theorem nrw_T : ((List.range 10).all fun j => decide (Cond.eq (.elem (.static "LineCodes$Widths" "TURNS" "[I") (.int (Int32.ofNat j))) (.int (tabT j)) ∈ nrwF)) = true := by decide +kernel
theorem nrw_at {P : Nat → Cond} {N : Nat} (h : ((List.range N).all fun j => decide (P j ∈ nrwF)) = true) {j : Nat} (hj : j < N) : P j ∈ nrwF := by
  have h1 := List.all_eq_true.mp h j (List.mem_range.mpr hj)
  simpa using h1
set_option maxRecDepth 100000 in
theorem start_Z {p : Program} {s : State} {m : MethodId} {meth : Method} {c : Code} {b L : Nat} {xs : Nat → Int32} (C0 : lw_At p s m meth c b L xs) : ∃ ad sd : Nat → Nat, zq ad sd (fun q : Nat => s.heap.size ≤ q) s s.heap := by
  obtain ⟨hx, hb, hr, hml, hown, hts, hX, hbl, hlocks, hgv⟩ := C0
  have hs : ∀ c ∈ nrwF, c.before #[Value.ref b] s = true := flat_of_before _ hgv
  have hA : ∀ a : Nat, a < s.heap.size → ¬ (fun q : Nat => s.heap.size ≤ q) a := fun a h => Nat.not_le.mpr h
  have hini : (Cond.initialized "LineCodes$Widths").before #[Value.ref b] s = true := hts _ (by decide +kernel)
  obtain ⟨t0, e0, hT0⟩ := va_Tof (args := #[Value.ref b]) (s := s) (tm := .static "LineCodes$Widths" "SYMBOLS" "[I") (ty := .int) (N := 106) (f := fun j => .int (tabS j)) (A := fun q : Nat => s.heap.size ≤ q) (by decide) (hs _ (by decide +kernel)) (va_eqt (hs _ (by decide +kernel))) (fun j hj => va_eqt (hs _ (nrw_at nrw_S hj))) hA
  obtain ⟨t1, e1, hT1⟩ := va_Tof (args := #[Value.ref b]) (s := s) (tm := .static "LineCodes$Widths" "FIGURES" "[I") (ty := .int) (N := 10) (f := fun j => .int (tabF j)) (A := fun q : Nat => s.heap.size ≤ q) (by decide) (hs _ (by decide +kernel)) (va_eqt (hs _ (by decide +kernel))) (fun j hj => va_eqt (hs _ (nrw_at nrw_F hj))) hA
  obtain ⟨t2, e2, hT2⟩ := va_Tof (args := #[Value.ref b]) (s := s) (tm := .static "LineCodes$Widths" "TURNS" "[I") (ty := .int) (N := 10) (f := fun j => .int (tabT j)) (A := fun q : Nat => s.heap.size ≤ q) (by decide) (hs _ (by decide +kernel)) (va_eqt (hs _ (by decide +kernel))) (fun j hj => va_eqt (hs _ (nrw_at nrw_T hj))) hA
  have hZ0 := va_Zref (hts (Cond.laysStatic "LineCodes$Widths" "SYMBOLS" "[I") (by decide +kernel)) hini e0 hA
  have hZ1 := va_Zref (hts (Cond.laysStatic "LineCodes$Widths" "FIGURES" "[I") (by decide +kernel)) hini e1 hA
  have hZ2 := va_Zref (hts (Cond.laysStatic "LineCodes$Widths" "TURNS" "[I") (by decide +kernel)) hini e2 hA
  have hiT : (Cond.initialized "java/lang/Throwable").before #[Value.ref b] s = true := hts _ (by decide +kernel)
  have hQ0 := va_Zqof (A := fun q : Nat => s.heap.size ≤ q) (hts (Cond.laysStatic "java/lang/Throwable" "UNASSIGNED_STACK" "[Ljava/lang/StackTraceElement;") (by decide +kernel)) hiT (hs _ (by decide +kernel)) hA
  have hQ1 := va_Zqof (A := fun q : Nat => s.heap.size ≤ q) (hts (Cond.laysStatic "java/lang/Throwable" "SUPPRESSED_SENTINEL" "Ljava/util/List;") (by decide +kernel)) hiT (hs _ (by decide +kernel)) hA
  have hN0 : (Cond.not (.castable "java/lang/IllegalStateException" "java/lang/IllegalArgumentException")).before #[Value.ref b] s = true := hs _ (by decide +kernel)
  have hN1 : (Cond.not (.castable "java/lang/IllegalArgumentException" "java/lang/IndexOutOfBoundsException")).before #[Value.ref b] s = true := hs _ (by decide +kernel)
  have hstr : ∀ q ∈ strL, (Cond.stringRef R_Lc q.1 q.2 ∈ lw_tbl) ∧ (Cond.exactly (.string R_Lc q.1) "java/lang/String" ∈ nrwF) := by decide +kernel
  have hstr2 : ∀ q ∈ strL, ∃ a : Nat, vk_R R_Lc q.1 q.2 a s := by
    intro q hq
    obtain ⟨h1, h2⟩ := hstr q hq
    obtain ⟨a, -, -, -, e9, -⟩ := Cond.exactly_spec (hs _ h2)
    exact ⟨a, vk_R.of (hts _ h1) e9⟩
  refine ⟨fun k => if k = 0 then t0 else if k = 1 then t1 else t2, fun k => Classical.epsilon (fun a => ∃ tx, vk_R R_Lc k tx a s), ⟨hZ0, hT0, hZ1, hT1, hZ2, hT2⟩, ?_⟩
  intro U hW hq
  refine ⟨?_, ?_⟩
  · intro a w hw
    have h1 := List.all_eq_true.mp thr_sort w hw
    rw [Bool.or_eq_true] at h1
    rcases h1 with h1 | h1
    · have h2 : w ∈ isrL := by simpa using h1
      unfold isrL at h2
      simp only [List.mem_cons, List.not_mem_nil, or_false] at h2
      rcases h2 with rfl | rfl | rfl | rfl | rfl | rfl
      · exact lays_at hW (fun a h => hq a h (Nat.not_le.mpr h)) (hts (Cond.laysStatic "java/lang/Throwable" "UNASSIGNED_STACK" "[Ljava/lang/StackTraceElement;") (by decide +kernel))
      · exact lays_at hW (fun a h => hq a h (Nat.not_le.mpr h)) (hts (Cond.laysStatic "java/lang/Throwable" "SUPPRESSED_SENTINEL" "Ljava/util/List;") (by decide +kernel))
      · exact isref_of (A := fun q : Nat => s.heap.size ≤ q) ((va_Zq.moved hW.alike hQ0).kept (fun a h1 h2 => hq a h1 h2)) a
      · exact isref_of (A := fun q : Nat => s.heap.size ≤ q) ((va_Zq.moved hW.alike hQ1).kept (fun a h1 h2 => hq a h1 h2)) a
      · exact notcast_at hW hN0
      · exact notcast_at hW hN1
    · unfold thrOK at h1
      rw [Bool.and_eq_true] at h1
      have h2 : w ∈ lw_tbl := by simpa using h1.1
      have h3 := h1.2
      rw [Bool.or_eq_true] at h3
      rcases h3 with h3 | h3
      · exact word_at hW (good_of_word h3) (hts w h2)
      · exact thrD_at hW h3 (hts w h2)
  · intro q hq9
    obtain ⟨a, ha⟩ := hstr2 q hq9
    have h3 : ∃ a : Nat, ∃ tx, vk_R R_Lc q.1 tx a s := ⟨a, q.2, ha⟩
    obtain ⟨tx, h4⟩ := Classical.epsilon_spec h3
    have h5 : vk_R R_Lc q.1 q.2 (Classical.epsilon (fun a => ∃ tx, vk_R R_Lc q.1 tx a s)) s := ⟨ha.1, h4.2⟩
    exact vk_R.warm hW h5
