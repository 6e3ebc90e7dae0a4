/-! Calls in one row: the callee's cells are cut out of the world, the contract is used, what came back is joined. -/
/-- facts of the tables and statics that outlive every call: they move with alike machines, stay where their cells stay, and hold of fewer places -/
def zk (Z : (Nat → Prop) → State → Heap → Prop) : Prop := (∀ (A : Nat → Prop) (u U : State) (H : Heap), u.WarmedH U.vm → Z A u H → Z A U H) ∧ (∀ (A : Nat → Prop) (U : State) (H H1 : Heap), Z A U H → (∀ a : Nat, a < H.size → ¬ A a → H1[a]? = H[a]?) → Z A U H1) ∧ (∀ (A B : Nat → Prop) (U : State) (H : Heap), Z A U H → (∀ q, B q → A q) → Z B U H)
theorem zk_to {Z : (Nat → Prop) → State → Heap → Prop} (hz : zk Z) {A B : Nat → Prop} {s U : State} {H : Heap} {locs : List Loc} (h : Z A s s.heap) (hS : va_S A s.heap H locs) (hAB : ∀ q, B q → A q) (hU : U.heap = H) (hv : s.WarmedH U.vm) : Z B U U.heap := by
  rw [hU]
  exact hz.2.2 _ _ _ _ (hz.1 _ _ _ _ hv (hz.2.1 _ _ _ _ h hS.2.1)) hAB
/-- a start of a method that only reads: the world, the array classes, the statics -/
def ro_ (D : va_G) (cl : List vw_C) (tys : List (ClassId × FieldType)) (ws : va_W) (Z : (Nat → Prop) → State → Heap → Prop) : State → Prop := fun U => va_P D cl ws U.heap ∧ va_K D cl tys U ∧ Z (fun _ => False) U U.heap
/-- a start of a method that writes -/
def rw_ (D : va_G) (cl : List vw_C) (tys : List (ClassId × FieldType)) (ws : va_W) (Z : (Nat → Prop) → State → Heap → Prop) (sz : Nat) : State → Prop := fun U => U.heap.size = sz ∧ va_P D cl ws U.heap ∧ va_K D cl tys U ∧ va_D (fun _ => True) ws ∧ Z (va_A ws sz) U U.heap
/-- the world behind a method -/
def at_ (D : va_G) (cl : List vw_C) (tys : List (ClassId × FieldType)) (A : Nat → Prop) (ws : va_W) (t : State) : Prop := va_P D cl ws t.heap ∧ va_K D cl tys t ∧ va_D A ws
theorem ro_blind {Z : (Nat → Prop) → State → Heap → Prop} (hz : zk Z) {D : va_G} {cl : List vw_C} {tys : List (ClassId × FieldType)} {ws : va_W} {av : List Value} : FrameBlind (va_Pc av (ro_ D cl tys ws Z)) := by
  intro a U g mk q
  obtain ⟨q0, qP, qK, qZ⟩ := q
  exact ⟨q0, qP, va_K.moved (u := U) (U := U.calling g mk a) (Vm.Alike.refl U.vm) qK, hz.1 _ U (U.calling g mk a) _ (State.WarmedH.refl U) qZ⟩
theorem rw_blind {Z : (Nat → Prop) → State → Heap → Prop} (hz : zk Z) {D : va_G} {cl : List vw_C} {tys : List (ClassId × FieldType)} {ws : va_W} {av : List Value} {sz : Nat} : FrameBlind (va_Pc av (rw_ D cl tys ws Z sz)) := by
  intro a U g mk q
  obtain ⟨q0, q1, qP, qK, qD, qZ⟩ := q
  exact ⟨q0, q1, qP, va_K.moved (u := U) (U := U.calling g mk a) (Vm.Alike.refl U.vm) qK, qD, hz.1 _ U (U.calling g mk a) _ (State.WarmedH.refl U) qZ⟩
section KCALLS
variable {p : Program} {l : Launch} {e : Env} {R : Room} {s : State} {m : MethodId} {args : Array Value} {below : List Frame} {meth : Method} {c : Code} {H : Heap} {locs : List Loc} {cells slots : Nat} {Q : State → Prop}
variable {cc : ByteArray} {pc nL n index : Nat} {ls : Array Slot} {st0 rest As : List Value} {Ts wsy : List Cond} {own C : String} {y : MethodName} {bytes : ByteArray} {maxL : Nat} {ret : Option FieldType} {rm : Room}
variable {D : va_G} {cl : List vw_C} {tys tysc : List (ClassId × FieldType)} {ws wc wr : va_W} {A : Nat → Prop} {Z : (Nat → Prop) → State → Heap → Prop} {b : Nat}
theorem ro_pre {av : List Value} (hz : zk Z) (isC isT : List Nat) (hP : va_P D cl ws H) (hK : va_K D cl tys s) (hZ : Z A s s.heap) (hS : va_S A s.heap H locs) (hC : isC.filterMap (fun i => ws[i]?) = wc) (hT : isT.filterMap (fun i => tys[i]?) = tysc) : ∀ U : State, U.heap = H → s.WarmedH U.vm → va_Pc av (ro_ D cl tysc wc Z) av.toArray U := by
  intro U hU hW
  exact ⟨rfl, by rw [hU]; exact hP.sub isC hC, va_K.moved hW.alike (hK.sub isT hT), zk_to hz hZ hS (fun _ h => h.elim) hU hW⟩
/-- a reader of an object: int answer -/
theorem k_roVi {post : Int32 → Prop} (hz : zk Z) (isC isT : List Nat) (q0 ci : Nat) (S : CallFix p m c cc nL s args Ts own) (hM : Met l y wsy rm (va_Pc (.ref b :: As) (ro_ D cl tysc wc Z)) (vp_Si post) 0 0 (fun _ => False)) (cw : CallW R s args own C index y bytes maxL ret wsy rm 0 0 n)
    (hP : va_P D cl ws H) (hK : va_K D cl tys s) (hZ : Z A s s.heap) (hS : va_S A s.heap H locs) (hC : isC.filterMap (fun i => ws[i]?) = wc) (hT : isT.filterMap (fun i => tys[i]?) = tysc) {fs : List Value} {T : u_T} {N : Nat} (he : ws[q0]? = some (b, .inr (ci, fs))) (hc : cl[ci]? = some (C, T, N))
    (hn : As.length = n) (hsize : ls.size = nL) (hst : st0 = As.reverse ++ .ref b :: rest) (hW : (rest.map fun v => v.category).sum ≤ 8) (hdg : decode cc pc = .ok (.invokevirtual index, 3)) (hf : cells ≤ R.cells ∧ slots ≤ R.slots)
    (kk : ∀ r : Int32, post r → W p l e R s m args below meth c H locs cells slots Q (F0 m (pc + 3) ls (.int r :: rest))) : W p l e R s m args below meth c H locs cells slots Q (F0 m pc ls st0) :=
  vp_callSi (va_runV (As := As) (rest := rest) S hM cw ⟨ro_blind hz, va_recv hK hP hc he, ro_pre hz isC isT hP hK hZ hS hC hT⟩ rfl hn hsize hst (lv_room hW) hdg hf).run kk
/-- a static reader: int answer -/
theorem k_roSi {post : Int32 → Prop} (hz : zk Z) (isC isT : List Nat) (S : CallFix p m c cc nL s args Ts own) (hM : Met l y wsy rm (va_Pc As (ro_ D cl tysc wc Z)) (vp_Si post) 0 0 (fun _ => False)) (cw : CallB R s args own index y bytes maxL ret wsy rm 0 0 n ∧ (Cond.static y).before args s = true)
    (hP : va_P D cl ws H) (hK : va_K D cl tys s) (hZ : Z A s s.heap) (hS : va_S A s.heap H locs) (hC : isC.filterMap (fun i => ws[i]?) = wc) (hT : isT.filterMap (fun i => tys[i]?) = tysc)
    (hn : As.length = n) (hsize : ls.size = nL) (hst : st0 = As.reverse ++ rest) (hW : (rest.map fun v => v.category).sum ≤ 8) (hdg : decode cc pc = .ok (.invokestatic index, 3)) (hf : cells ≤ R.cells ∧ slots ≤ R.slots)
    (kk : ∀ r : Int32, post r → W p l e R s m args below meth c H locs cells slots Q (F0 m (pc + 3) ls (.int r :: rest))) : W p l e R s m args below meth c H locs cells slots Q (F0 m pc ls st0) :=
  vp_callSi (va_runS (As := As) (rest := rest) S hM cw ⟨ro_blind hz, ro_pre hz isC isT hP hK hZ hS hC hT⟩ rfl hn hsize hst (lv_room hW) hdg hf).run kk
/-- a static reader without an answer -/
theorem k_roSv {post : Prop} (hz : zk Z) (isC isT : List Nat) (S : CallFix p m c cc nL s args Ts own) (hM : Met l y wsy rm (va_Pc As (ro_ D cl tysc wc Z)) (va_Sv (fun _ => post)) 0 0 (fun _ => False)) (cw : CallB R s args own index y bytes maxL ret wsy rm 0 0 n ∧ (Cond.static y).before args s = true)
    (hP : va_P D cl ws H) (hK : va_K D cl tys s) (hZ : Z A s s.heap) (hS : va_S A s.heap H locs) (hC : isC.filterMap (fun i => ws[i]?) = wc) (hT : isT.filterMap (fun i => tys[i]?) = tysc)
    (hn : As.length = n) (hsize : ls.size = nL) (hst : st0 = As.reverse ++ rest) (hW : (rest.map fun v => v.category).sum ≤ 8) (hdg : decode cc pc = .ok (.invokestatic index, 3)) (hf : cells ≤ R.cells ∧ slots ≤ R.slots)
    (kk : post → W p l e R s m args below meth c H locs cells slots Q (F0 m (pc + 3) ls rest)) : W p l e R s m args below meth c H locs cells slots Q (F0 m pc ls st0) :=
  va_csv (va_runS (As := As) (rest := rest) S hM cw ⟨ro_blind hz, ro_pre hz isC isT hP hK hZ hS hC hT⟩ rfl hn hsize hst (lv_room hW) hdg hf).run kk
theorem rw_pre {av : List Value} (hz : zk Z) (isC isT : List Nat) (hP : va_P D cl ws H) (hD : va_D A ws) (hK : va_K D cl tys s) (hZ : Z A s s.heap) (hS : va_S A s.heap H locs) (hA : ∀ q, s.heap.size ≤ q → A q) (hC : isC.map (fun i => ws[i]?) = wc.map some) (hC' : isC.filterMap (fun i => ws[i]?) = wc) (hn : va_nd isC = true) (hT : isT.filterMap (fun i => tys[i]?) = tysc) : ∀ U : State, U.heap = H → s.WarmedH U.vm → va_Pc av (rw_ D cl tysc wc Z H.size) av.toArray U := by
  intro U hU hW
  exact ⟨rfl, by rw [hU], by rw [hU]; exact hP.sub isC hC', va_K.moved hW.alike (hK.sub isT hT), (hD.sub isC hn hC).weaken (fun _ _ _ _ => trivial), zk_to hz hZ hS (va_free hD hS hA isC hC) hU hW⟩
/-- a writer of an object: int answer -/
theorem k_rwVi {S1 : Type} {post : Int32 → S1 → Prop} {wn : S1 → va_W} (hz : zk Z) (isC isR isT : List Nat) (q0 ci : Nat) (S : CallFix p m c cc nL s args Ts own) (hM : Met l y wsy rm (va_Pc (.ref b :: As) (rw_ D cl tysc wc Z H.size)) (va_Qi post (fun u t => at_ D cl tysc (va_A wc H.size) (wn u) t) (va_A wc H.size)) 0 0 (va_A wc H.size)) (cw : CallW R s args own C index y bytes maxL ret wsy rm 0 0 n)
    (hP : va_P D cl ws H) (hD : va_D A ws) (hK : va_K D cl tys s) (hZ : Z A s s.heap) (hS : va_S A s.heap H locs) (hA : ∀ q, s.heap.size ≤ q → A q) (hC : isC.map (fun i => ws[i]?) = wc.map some) (hC' : isC.filterMap (fun i => ws[i]?) = wc) (hR : isR.map (fun i => ws[i]?) = wr.map some) (hnC : va_nd isC = true) (hnR : va_nd isR = true) (hdis : ∀ i ∈ isR, i ∉ isC) (hT : isT.filterMap (fun i => tys[i]?) = tysc) {fs : List Value} {T : u_T} {N : Nat} (he : ws[q0]? = some (b, .inr (ci, fs))) (hc : cl[ci]? = some (C, T, N))
    (hn : As.length = n) (hsize : ls.size = nL) (hst : st0 = As.reverse ++ .ref b :: rest) (hW : (rest.map fun v => v.category).sum ≤ 8) (hdg : decode cc pc = .ok (.invokevirtual index, 3)) (hf : cells ≤ R.cells ∧ slots ≤ R.slots)
    (kk : ∀ (r : Int32) (u : S1) (H1 : Heap) (locs1 : List Loc), post r u → va_P D cl (wr ++ wn u) H1 → va_D A (wr ++ wn u) → va_S A s.heap H1 locs1 → W p l e R s m args below meth c H1 locs1 cells slots Q (F0 m (pc + 3) ls (.int r :: rest))) : W p l e R s m args below meth c H locs cells slots Q (F0 m pc ls st0) := by
  have hFc := va_free (wc := wc) hD hS hA isC hC
  refine va_calli (va_runV (As := As) (rest := rest) S hM cw ⟨rw_blind hz, va_recv hK hP hc he, rw_pre hz isC isT hP hD hK hZ hS hA hC hC' hnC hT⟩ rfl hn hsize hst (lv_room hW) hdg hf) hS (fun q _ h => hFc q h) hFc (fun r u t H1 locs1 ht hvm hw hB hz1 hk1 hS1 => ?_)
  obtain ⟨hP1, hK1, hD1⟩ := hB
  rw [ht] at hP1
  obtain ⟨hP2, hD2⟩ := va_join (wr := wr) (w1 := wn u) hP hD isC isR hC hR hnR hdis hk1 hFc hP1 hD1
  exact kk r u H1 locs1 hw hP2 hD2 hS1
/-- a writer of an object: no answer -/
theorem k_rwVv {S1 : Type} {post : S1 → Prop} {wn : S1 → va_W} (hz : zk Z) (isC isR isT : List Nat) (q0 ci : Nat) (S : CallFix p m c cc nL s args Ts own) (hM : Met l y wsy rm (va_Pc (.ref b :: As) (rw_ D cl tysc wc Z H.size)) (va_Qv post (fun u t => at_ D cl tysc (va_A wc H.size) (wn u) t) (va_A wc H.size)) 0 0 (va_A wc H.size)) (cw : CallW R s args own C index y bytes maxL ret wsy rm 0 0 n)
    (hP : va_P D cl ws H) (hD : va_D A ws) (hK : va_K D cl tys s) (hZ : Z A s s.heap) (hS : va_S A s.heap H locs) (hA : ∀ q, s.heap.size ≤ q → A q) (hC : isC.map (fun i => ws[i]?) = wc.map some) (hC' : isC.filterMap (fun i => ws[i]?) = wc) (hR : isR.map (fun i => ws[i]?) = wr.map some) (hnC : va_nd isC = true) (hnR : va_nd isR = true) (hdis : ∀ i ∈ isR, i ∉ isC) (hT : isT.filterMap (fun i => tys[i]?) = tysc) {fs : List Value} {T : u_T} {N : Nat} (he : ws[q0]? = some (b, .inr (ci, fs))) (hc : cl[ci]? = some (C, T, N))
    (hn : As.length = n) (hsize : ls.size = nL) (hst : st0 = As.reverse ++ .ref b :: rest) (hW : (rest.map fun v => v.category).sum ≤ 8) (hdg : decode cc pc = .ok (.invokevirtual index, 3)) (hf : cells ≤ R.cells ∧ slots ≤ R.slots)
    (kk : ∀ (u : S1) (H1 : Heap) (locs1 : List Loc), post u → va_P D cl (wr ++ wn u) H1 → va_D A (wr ++ wn u) → va_S A s.heap H1 locs1 → W p l e R s m args below meth c H1 locs1 cells slots Q (F0 m (pc + 3) ls rest)) : W p l e R s m args below meth c H locs cells slots Q (F0 m pc ls st0) := by
  have hFc := va_free (wc := wc) hD hS hA isC hC
  refine va_callv (va_runV (As := As) (rest := rest) S hM cw ⟨rw_blind hz, va_recv hK hP hc he, rw_pre hz isC isT hP hD hK hZ hS hA hC hC' hnC hT⟩ rfl hn hsize hst (lv_room hW) hdg hf) hS (fun q _ h => hFc q h) hFc (fun u t H1 locs1 ht hvm hw hB hz1 hk1 hS1 => ?_)
  obtain ⟨hP1, hK1, hD1⟩ := hB
  rw [ht] at hP1
  obtain ⟨hP2, hD2⟩ := va_join (wr := wr) (w1 := wn u) hP hD isC isR hC hR hnR hdis hk1 hFc hP1 hD1
  exact kk u H1 locs1 hw hP2 hD2 hS1
/-- a static writer: int answer -/
theorem k_rwSi {S1 : Type} {post : Int32 → S1 → Prop} {wn : S1 → va_W} (hz : zk Z) (isC isR isT : List Nat) (S : CallFix p m c cc nL s args Ts own) (hM : Met l y wsy rm (va_Pc As (rw_ D cl tysc wc Z H.size)) (va_Qi post (fun u t => at_ D cl tysc (va_A wc H.size) (wn u) t) (va_A wc H.size)) 0 0 (va_A wc H.size)) (cw : CallB R s args own index y bytes maxL ret wsy rm 0 0 n ∧ (Cond.static y).before args s = true)
    (hP : va_P D cl ws H) (hD : va_D A ws) (hK : va_K D cl tys s) (hZ : Z A s s.heap) (hS : va_S A s.heap H locs) (hA : ∀ q, s.heap.size ≤ q → A q) (hC : isC.map (fun i => ws[i]?) = wc.map some) (hC' : isC.filterMap (fun i => ws[i]?) = wc) (hR : isR.map (fun i => ws[i]?) = wr.map some) (hnC : va_nd isC = true) (hnR : va_nd isR = true) (hdis : ∀ i ∈ isR, i ∉ isC) (hT : isT.filterMap (fun i => tys[i]?) = tysc)
    (hn : As.length = n) (hsize : ls.size = nL) (hst : st0 = As.reverse ++ rest) (hW : (rest.map fun v => v.category).sum ≤ 8) (hdg : decode cc pc = .ok (.invokestatic index, 3)) (hf : cells ≤ R.cells ∧ slots ≤ R.slots)
    (kk : ∀ (r : Int32) (u : S1) (H1 : Heap) (locs1 : List Loc), post r u → va_P D cl (wr ++ wn u) H1 → va_D A (wr ++ wn u) → va_S A s.heap H1 locs1 → W p l e R s m args below meth c H1 locs1 cells slots Q (F0 m (pc + 3) ls (.int r :: rest))) : W p l e R s m args below meth c H locs cells slots Q (F0 m pc ls st0) := by
  have hFc := va_free (wc := wc) hD hS hA isC hC
  refine va_calli (va_runS (As := As) (rest := rest) S hM cw ⟨rw_blind hz, rw_pre hz isC isT hP hD hK hZ hS hA hC hC' hnC hT⟩ rfl hn hsize hst (lv_room hW) hdg hf) hS (fun q _ h => hFc q h) hFc (fun r u t H1 locs1 ht hvm hw hB hz1 hk1 hS1 => ?_)
  obtain ⟨hP1, hK1, hD1⟩ := hB
  rw [ht] at hP1
  obtain ⟨hP2, hD2⟩ := va_join (wr := wr) (w1 := wn u) hP hD isC isR hC hR hnR hdis hk1 hFc hP1 hD1
  exact kk r u H1 locs1 hw hP2 hD2 hS1
/-- a constructor: new cells, new array classes -/
theorem k_Iv {S1 : Type} {post : S1 → Prop} {wn : S1 → va_W} {tn : S1 → List (ClassId × FieldType)} {mc ms : Nat} (hz : zk Z) (isC isR isT : List Nat) (S : CallFix p m c cc nL s args Ts own) (hM : Met l y wsy rm (va_Pc (.ref b :: As) (rw_ D cl tysc wc Z H.size)) (va_Qv post (fun u t => at_ D cl (tn u) (va_A wc H.size) (wn u) t) (va_A wc H.size)) mc ms (va_A wc H.size)) (cw : CallB R s args own index y bytes maxL none wsy rm mc ms n ∧ y.name = "<init>" ∧ (Cond.instanceMethod y).before args s = true)
    (hP : va_P D cl ws H) (hD : va_D A ws) (hK : va_K D cl tys s) (hZ : Z A s s.heap) (hS : va_S A s.heap H locs) (hA : ∀ q, s.heap.size ≤ q → A q) (hC : isC.map (fun i => ws[i]?) = wc.map some) (hC' : isC.filterMap (fun i => ws[i]?) = wc) (hR : isR.map (fun i => ws[i]?) = wr.map some) (hnC : va_nd isC = true) (hnR : va_nd isR = true) (hdis : ∀ i ∈ isR, i ∉ isC) (hT : isT.filterMap (fun i => tys[i]?) = tysc)
    (hn : As.length = n) (hsize : ls.size = nL) (hst : st0 = As.reverse ++ .ref b :: rest) (hW : (rest.map fun v => v.category).sum ≤ 8) (hdg : decode cc pc = .ok (.invokespecial index, 3)) (hf : cells + mc ≤ R.cells ∧ slots + ms ≤ R.slots)
    (kk : ∀ (u : S1) (H1 : Heap) (locs1 : List Loc), post u → va_P D cl (wr ++ wn u) H1 → va_D A (wr ++ wn u) → va_S A s.heap H1 locs1 → va_K D cl (tys ++ tn u) s → W p l e R s m args below meth c H1 locs1 (cells + mc) (slots + ms) Q (F0 m (pc + 3) ls rest)) : W p l e R s m args below meth c H locs cells slots Q (F0 m pc ls st0) := by
  have hFc := va_free (wc := wc) hD hS hA isC hC
  refine va_callv (va_runI (As := As) (rest := rest) S hM cw ⟨rw_blind hz, rw_pre hz isC isT hP hD hK hZ hS hA hC hC' hnC hT⟩ rfl hn hsize hst (lv_room hW) hdg hf) hS (fun q _ h => hFc q h) hFc (fun u t H1 locs1 ht hvm hw hB hz1 hk1 hS1 => ?_)
  obtain ⟨hP1, hK1, hD1⟩ := hB
  rw [ht] at hP1
  have hK2 := va_K.moved hvm.symm hK1
  obtain ⟨hP2, hD2⟩ := va_join (wr := wr) (w1 := wn u) hP hD isC isR hC hR hnR hdis hk1 hFc hP1 hD1
  exact kk u H1 locs1 hw hP2 hD2 hS1 (hK.app hK2)
end KCALLS
/-- 0 or 1: what a boolean is -/
def vz (x : Int32) : Prop := x = 0 ∨ x = 1
theorem vz_n {x : Int32} (h : vz x) : narrow .boolean (.int x) = .int x := by rcases h with rfl | rfl <;> rfl
theorem vz_f {x : Int32} (h : vz x) : fits .boolean (.int x) = true := by rcases h with rfl | rfl <;> rfl
/-- with one static table more -/
def zt (Z : (Nat → Prop) → State → Heap → Prop) (t N : Nat) (f : Nat → Int32) : (Nat → Prop) → State → Heap → Prop := fun A U H => Z A U H ∧ va_T .int t N (fun j => .int (f j)) A U H
theorem zt_zk {Z : (Nat → Prop) → State → Heap → Prop} {t N : Nat} {f : Nat → Int32} (hz : zk Z) : zk (zt Z t N f) :=
  ⟨fun A u U H hv h => ⟨hz.1 A u U H hv h.1, va_T.moved hv.alike h.2⟩, fun A U H H1 h hq => ⟨hz.2.1 A U H H1 h.1 hq, va_T.kept h.2 hq⟩, fun A B U H h hAB => ⟨hz.2.2 A B U H h.1 hAB, va_T.narrow h.2 hAB⟩⟩
