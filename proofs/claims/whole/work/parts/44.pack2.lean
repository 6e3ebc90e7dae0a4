/-! The reference's row of a text. -/
/-- the first symbol of what the class adds at place p in set s -/
def fstY (tx : Nat → Nat) (n : Nat) (K : Nat → Nat → Nat) (p s : Nat) : Nat := if nxtN tx n K p s = s then (tlSym tx p s).getD 0 0 else 101 - nxtN tx n K p s
theorem pick_no {K : Nat → Nat → Nat} {p s s' : Nat} (hs' : s' < 3) (h : ¬ s' = s) (hlt : pickN K p s < s' ∨ pickN K p s = s) : ¬ 1 + K p s' = K p s := by
  unfold pickN at hlt
  intro e
  have c : s' = 0 ∨ s' = 1 ∨ s' = 2 := by omega
  rcases c with rfl | rfl | rfl
  · by_cases d2 : ¬ 2 = s ∧ 1 + K p 2 = K p s
    · rw [if_pos d2] at hlt; omega
    · rw [if_neg d2] at hlt
      by_cases d1 : ¬ 1 = s ∧ 1 + K p 1 = K p s
      · rw [if_pos d1] at hlt; omega
      · rw [if_neg d1, if_pos ⟨h, e⟩] at hlt
        omega
  · by_cases d2 : ¬ 2 = s ∧ 1 + K p 2 = K p s
    · rw [if_pos d2] at hlt; omega
    · rw [if_neg d2, if_pos ⟨h, e⟩] at hlt
      omega
  · rw [if_pos ⟨h, e⟩] at hlt
    omega
theorem fst_ok {tx : Nat → Nat} {n p s : Nat} {K : Nat → Nat → Nat} (hn : n ≤ 64) (h : Kok tx n K) (hc : ∀ j, j < n → tx j ≤ 128) (hp : p < n) (hs : s < 3) : wthN tx n K p s (fstY tx n K p s) = K p s ∧ (∀ y, y < fstY tx n K p s → ¬ wthN tx n K p s y = K p s) ∧ fstY tx n K p s < 103 := by
  obtain ⟨a1, a2, a3⟩ := nxtN_ok hn h hp hs
  have hcp := hc p hp
  have kb := (Kok_le h (n - p) p (by omega)).2 s hs
  have kt := Kok_tell h hp hs
  unfold fstY
  by_cases st : nxtN tx n K p s = s
  · rw [if_pos st]
    have et := a2 st
    obtain ⟨b1, -, -, -⟩ := tell_len hn h hp hs et
    unfold tlSym
    by_cases c1 : tx p = 128
    · rw [if_pos c1]
      refine ⟨(wth_mark c1).trans et, fun y hy e => ?_, by show 102 < 103; omega⟩
      have hy : y < 102 := hy
      rcases wth_cases (y := y) (L := K) hs hp hc with ⟨-, q, -⟩ | ⟨q, -⟩ | ⟨q, -⟩ | ⟨s', hs', q1, q2, q3⟩ | ⟨-, -, q, -⟩ | q
      · omega
      · exact q c1
      · exact q c1
      · have epk : nxtN tx n K p s = pickN K p s := by
          unfold nxtN
          rw [if_neg (fun z => z.1 c1)]
        exact pick_no hs' q1 (Or.inr (by rw [← epk]; exact st)) (by omega)
      · exact q c1
      · omega
    · rw [if_neg c1]
      by_cases c2 : s = 2
      · rw [if_pos c2]
        have hpr := b1 c1 c2
        refine ⟨by rw [c2]; exact (wth_pair hpr).trans (by rw [c2] at et; exact et), fun y hy e => ?_, ?_⟩
        · have hy : y < 10 * (tx p - 48) + (tx (p + 1) - 48) := hy
          obtain ⟨⟨f1, f2⟩, -, f3, f4⟩ := hpr
          rcases wth_cases (y := y) (L := K) hs hp hc with ⟨q, -, -⟩ | ⟨-, q, -⟩ | ⟨-, -, q, -⟩ | ⟨s', hs', q1, q2, q3⟩ | ⟨-, q, -, -⟩ | q
          · exact c1 q
          · exact q c2
          · omega
          · omega
          · exact q c2
          · omega
        · obtain ⟨⟨f1, f2⟩, -, f3, f4⟩ := hpr
          show 10 * (tx p - 48) + (tx (p + 1) - 48) < 103
          omega
      · rw [if_neg c2]
        cases hv : symN s (tx p) with
        | some v =>
          have hv96 := symN_lt96 hv
          refine ⟨(wth_sym (by omega) hcp hv).trans et, fun y hy e => ?_, by show v < 103; omega⟩
          have hy : y < v := hy
          rcases wth_cases (y := y) (L := K) hs hp hc with ⟨q, -, -⟩ | ⟨-, -, q, -⟩ | ⟨-, q, -⟩ | ⟨s', hs', q1, q2, q3⟩ | ⟨q, -, -, -⟩ | q
          · exact c1 q
          · rw [hv, Option.some.injEq] at q
            omega
          · exact c2 q
          · omega
          · omega
          · omega
        | none =>
          refine ⟨(wth_98 (by omega) hcp c1 hv).trans et, fun y hy e => ?_, by show 98 < 103; omega⟩
          have hy : y < 98 := hy
          rcases wth_cases (y := y) (L := K) hs hp hc with ⟨q, -, -⟩ | ⟨-, -, q, -⟩ | ⟨-, q, -⟩ | ⟨s', hs', q1, q2, q3⟩ | ⟨q, -, -, -⟩ | q
          · exact c1 q
          · rw [hv] at q
            cases q
          · exact c2 q
          · omega
          · omega
          · omega
  · rw [if_neg st]
    have e1 := a3 st
    have epk : nxtN tx n K p s = pickN K p s := by
      unfold nxtN
      by_cases c : ¬ tx p = 128 ∧ tellN tx n K p s = K p s
      · exfalso
        apply st
        unfold nxtN
        rw [if_pos c]
      · rw [if_neg c]
    have ntell : ¬ tx p = 128 → ¬ tellN tx n K p s = K p s := by
      intro c e
      apply st
      unfold nxtN
      rw [if_pos ⟨c, e⟩]
    refine ⟨(wth_go hs a1 st).trans e1, fun y hy e => ?_, by omega⟩
    rcases wth_cases (y := y) (L := K) hs hp hc with ⟨-, q, -⟩ | ⟨q1, -, -, q2⟩ | ⟨q1, -, -, q2, -⟩ | ⟨s', hs', q1, q2, q3⟩ | ⟨-, q1, q2, q3⟩ | q
    · omega
    · exact ntell q1 (by omega)
    · exact ntell q1 (by omega)
    · exact pick_no hs' q1 (Or.inl (by rw [← epk]; omega)) (by omega)
    · have := ntell q2
      unfold tellN at this kt
      rw [if_neg q2, if_neg q1] at this kt
      by_cases e9 : (symN s (tx p)).isSome = true
      · rw [if_pos e9] at this kt
        omega
      · rw [if_neg e9] at this kt
        omega
    · omega
theorem Kok_pos {tx : Nat → Nat} {n p s : Nat} {K : Nat → Nat → Nat} (hn : n ≤ 64) (h : Kok tx n K) (hp : p < n) (hs : s < 3) : 1 ≤ K p s := by
  obtain ⟨a1, a2, a3⟩ := nxtN_ok hn h hp hs
  by_cases st : nxtN tx n K p s = s
  · obtain ⟨-, -, b3, b4⟩ := tell_len hn h hp hs (a2 st)
    omega
  · have := a3 st
    omega
theorem s_Md_add {post : Int32 → (Nat → Int32) → Prop} {v : Nat} {f : Nat → Int32} {R : List Nat} (hR : isL f R) (hl : R.length < 200) (h : ∀ f', isL f' (R ++ [v]) → post (nI (R ++ [v]).length) f') : w_Md_add post (nI R.length) f (nI v) := by
  unfold w_Md_add
  have := h _ (isL_upd hR)
  rw [List.length_append, List.length_singleton] at this
  rw [nI_1, nI_clamp (by omega)]
  exact ⟨pk_in R.length 200 (by omega), this⟩
theorem s_Md_check {post : Int32 → Prop} {N : Nat} {fr : Nat → Int32} {R : List Nat} (hR : isL fr R) (h0 : 0 < R.length) (hl : R.length ≤ N) (hN : N ≤ 200) (h6 : ∀ j, j < R.length → R.getD j 0 ≤ 106) (h : post (nI (chkS R))) : w_Md_check post N fr (nI R.length) := by
  have main : ∀ r i, i + 1 + r = R.length → w_Md_check_6 post N fr (nI R.length) (r + 1) (nI (sumS R i)) (nI (i + 1)) := by
    intro r
    induction r with
    | zero =>
      intro i hi
      have := sumS_le h6 i (by omega) (by omega)
      unfold w_Md_check_6
      refine ⟨fun _ => ?_, fun a => absurd (nI_le (by omega) (by omega)) a⟩
      rw [show (103 : Int32) = nI 103 from rfl, pk_rem (by omega) (by omega) (by omega)]
      unfold chkS at h
      rw [show R.length - 1 = i by omega] at h
      exact h
    | succ r ih =>
      intro i hi
      unfold w_Md_check_6
      refine ⟨fun a => absurd a (nI_ge (by omega) (by omega)), fun _ => ⟨pk_in (i + 1) N (by omega), ?_⟩⟩
      rw [nI_clamp (by omega), hR (i + 1) (by omega), pk_mul, nI_add, nI_1]
      exact ih (i + 1) (by omega)
  unfold w_Md_check
  refine ⟨pk_in 0 N (by omega), ⟨R.length, ?_⟩⟩
  have := main (R.length - 1) 0 (by omega)
  rw [show R.length - 1 + 1 = R.length by omega] at this
  have e0 : fr (0 : Int32).toNatClampNeg = nI (sumS R 0) := hR 0 h0
  rw [e0]
  exact this
theorem emit_zero {tx : Nat → Nat} {n : Nat} {K : Nat → Nat → Nat} {m p s : Nat} (h : n ≤ p) : emitN tx n K m p s = [] := by
  cases m with
  | zero => rfl
  | succ m => 
    show (if n ≤ p then [] else _) = []
    rw [if_pos h]
theorem emit_step {tx : Nat → Nat} {n : Nat} {K : Nat → Nat → Nat} {m p s : Nat} (h : p < n) : emitN tx n K (m + 1) p s = if nxtN tx n K p s = s then tlSym tx p s ++ emitN tx n K m (p + tlLen tx p s) s else (101 - nxtN tx n K p s) :: emitN tx n K m p (nxtN tx n K p s) := by
  show (if n ≤ p then [] else _) = _
  rw [if_neg (by omega)]
theorem s_Md_pack60 {post : Int32 → Int32 → Int32 → (Nat → Int32) → (Nat → Int32) → Prop} {tx : Nat → Nat} {n : Nat} {K L : Nat → Nat → Nat} {ft f : Nat → Int32} (hn : n ≤ 64) (h : Kok tx n K) (hT : okT ft n tx) (hf : rI f L) (hLK : ∀ p s, p ≤ n → s < 3 → L p s = K p s) :
    ∀ m p s (R : List Nat) (fr : Nat → Int32), p ≤ n → s < 3 → K p s ≤ m → isL fr R → 0 < R.length → R.length + K p s ≤ 99 → (∀ j, j < (R ++ emitN tx n K m p s).length → (R ++ emitN tx n K m p s).getD j 0 ≤ 106) → (∀ f', isL f' (R ++ emitN tx n K m p s ++ [chkS (R ++ emitN tx n K m p s)] ++ [106]) → post (nI (R ++ emitN tx n K m p s ++ [chkS (R ++ emitN tx n K m p s)] ++ [106]).length) 0 (nI (R ++ emitN tx n K m p s ++ [chkS (R ++ emitN tx n K m p s)] ++ [106]).length) f f') → w_Md_pack_60 post 0 (nI n) ft f (m + 1) (nI R.length) fr (nI s) (nI p) := by
  have hc : ∀ j, j < n → tx j ≤ 128 := fun j hj => (hT j hj).2
  intro m
  induction m with
  | zero =>
    intro p s R fr hp hs hm hR h0 hl h6 hpost
    have hpn : n ≤ p := by
      by_cases c : p < n
      · have := Kok_pos hn h c hs; omega
      · omega
    rw [emit_zero hpn, List.append_nil] at h6 hpost
    unfold w_Md_pack_60
    refine s_Md_leastAt (by omega) ?_
    rw [hf p s (by omega) hs, hLK p s hp hs]
    refine pk_le (K p s) 0 (fun _ => ?_) (fun z => absurd z (by omega))
    refine s_Md_check hR h0 (by omega) (by omega) h6 ?_
    refine s_Md_add hR (by omega) (fun f1 h1 => ?_)
    exact s_Md_add (v := 106) h1 (by rw [List.length_append, List.length_singleton]; omega) (fun f2 h2 => hpost f2 h2)
  | succ m ih =>
    intro p s R fr hp hs hm hR h0 hl h6 hpost
    by_cases c : p < n
    · rw [emit_step c] at h6 hpost
      have hkp := Kok_pos hn h c hs
      have kb := (Kok_le h (n - p) p (by omega)).2 s hs
      obtain ⟨y1, y2, y3⟩ := fst_ok hn h hc c hs
      obtain ⟨a1, a2, a3⟩ := nxtN_ok hn h c hs
      have hbt : ∀ y, p + tlsN tx n p s y ≤ n := by
        intro y
        have hle := tlsN_le tx n p s y
        by_cases t2 : tlsN tx n p s y = 2
        · rw [t2]
          unfold tlsN at t2
          split at t2
          · split at t2 <;> omega
          · split at t2
            · split at t2
              · omega
              · omega
            · split at t2 <;> omega
        · omega
      have ewL : ∀ y, y < 103 → wthN tx n L p s y = wthN tx n K p s y := by
        intro y hy
        unfold wthN
        by_cases t : 1 ≤ tlsN tx n p s y
        · rw [if_pos t, if_pos t, hLK _ s (hbt y) hs]
        · rw [if_neg t, if_neg t]
          by_cases g : gosN s y < 3
          · rw [if_pos g, if_pos g, hLK p _ hp g]
          · rw [if_neg g, if_neg g, hLK (p + 1) s (by omega) hs]
      unfold w_Md_pack_60
      refine s_Md_leastAt (by omega) ?_
      rw [hf p s (by omega) hs, hLK p s hp hs]
      refine pk_le (K p s) 0 (fun z => absurd z (by omega)) (fun _ => ⟨fstY tx n K p s + 1, ?_⟩)
      have hw9 : ∀ y, wthN tx n K p s y ≤ 10001 := by
        intro y
        unfold wthN
        by_cases t : 1 ≤ tlsN tx n p s y
        · rw [if_pos t]
          have := (Kok_le h (n - (p + tlsN tx n p s y)) (p + tlsN tx n p s y) (by have := hbt y; omega)).2 s hs
          omega
        · rw [if_neg t]
          by_cases g : gosN s y < 3
          · rw [if_pos g]
            have := (Kok_le h (n - p) p (by omega)).2 _ g
            omega
          · rw [if_neg g]
            have := (Kok_le h (n - (p + 1)) (p + 1) (by omega)).2 s hs
            split <;> omega
      have m71 : ∀ r y, y + r = fstY tx n K p s → w_Md_pack_71 post (fun v_symbols f_row y1 y2 => w_Md_pack_60 post 0 (nI n) ft f (m + 1) v_symbols f_row y1 y2) (nI n) (nI R.length) ft f fr (nI s) (nI p) (r + 1) (nI y) := by
        intro r
        induction r with
        | zero =>
          intro y hy
          have hy' : y = fstY tx n K p s := by omega
          unfold w_Md_pack_71
          refine s_Md_with hn c hs (by omega) hT hf ?_
          refine s_Md_leastAt (by omega) ?_
          rw [hf p s (by omega) hs, hLK p s hp hs, ewL y (by omega)]
          have hwy := hw9 y
          refine pk_eq (wthN tx n K p s y) (K p s) (fun _ => ?_) (fun z => absurd (by rw [hy']; exact y1) z)
          refine s_Md_add hR (by omega) (fun f1 h1 => ?_)
          have hl1 : (R ++ [y]).length = R.length + 1 := by rw [List.length_append]; rfl
          unfold fstY at hy'
          by_cases st : nxtN tx n K p s = s
          · rw [if_pos st] at hy' h6 hpost
            obtain ⟨b1, b2, b3, b4⟩ := tell_len hn h c hs (a2 st)
            have hcp := hc p c
            by_cases c1 : tx p = 128
            · have ets : tlSym tx p s = [102] := by unfold tlSym; rw [if_pos c1]
              have etl : tlLen tx p s = 1 := by unfold tlLen; rw [if_neg (fun z => z.1 c1)]
              have e102 : y = 102 := by rw [hy', ets]; rfl
              have t1 : tlsN tx n p s y = 1 := by unfold tlsN; rw [if_pos e102, if_pos c1]
              refine s_Md_tells hn c hs (by omega) hT (fun _ => ⟨fun z => absurd z (nI_nle (by omega) (by omega)), fun _ => ?_⟩) (fun q => by omega)
              refine s_Md_tells hn c hs (by omega) hT (fun _ => ?_) (fun q => by omega)
              rw [t1, nI_add]
              rw [ets, etl, ← e102] at h6 hpost
              rw [ets, etl] at b4
              rw [← List.append_assoc] at h6 hpost
              exact ih (p + 1) s (R ++ [y]) f1 (by omega) hs (by simp at b4; omega) h1 (by omega) (by simp at b4; omega) h6 hpost
            · by_cases c2 : s = 2
              · have ets : tlSym tx p s = [10 * (tx p - 48) + (tx (p + 1) - 48)] := by unfold tlSym; rw [if_neg c1, if_pos c2]
                have etl : tlLen tx p s = 2 := by unfold tlLen; rw [if_pos ⟨c1, c2⟩]
                have ey : y = 10 * (tx p - 48) + (tx (p + 1) - 48) := by rw [hy', ets]; rfl
                obtain ⟨⟨g1, g2⟩, g3, g4, g5⟩ := b1 c1 c2
                have t1 : tlsN tx n p s y = 2 := by unfold tlsN; rw [if_neg (by omega), if_pos c2, if_pos ⟨by omega, by omega, g3, by omega⟩]
                refine s_Md_tells hn c hs (by omega) hT (fun _ => ⟨fun z => absurd z (nI_nle (by omega) (by omega)), fun _ => ?_⟩) (fun q => by omega)
                refine s_Md_tells hn c hs (by omega) hT (fun _ => ?_) (fun q => by omega)
                rw [t1, nI_add]
                rw [ets, etl, ← ey] at h6 hpost
                rw [ets, etl] at b4
                rw [← List.append_assoc] at h6 hpost
                exact ih (p + 2) s (R ++ [y]) f1 (by omega) hs (by simp at b4; omega) h1 (by omega) (by simp at b4; omega) h6 hpost
              · have etl : tlLen tx p s = 1 := by unfold tlLen; rw [if_neg (fun z => c2 z.2)]
                cases hv : symN s (tx p) with
                | some v =>
                  have ets : tlSym tx p s = [v] := by unfold tlSym; rw [if_neg c1, if_neg c2, hv]
                  have ey : y = v := by rw [hy', ets]; rfl
                  have t1 : tlsN tx n p s y = 1 := (tls_sym (by omega) hcp (by rw [ey]; exact symN_lt96 hv)).mpr (by rw [ey]; exact hv)
                  refine s_Md_tells hn c hs (by omega) hT (fun _ => ⟨fun z => absurd z (nI_nle (by omega) (by omega)), fun _ => ?_⟩) (fun q => by omega)
                  refine s_Md_tells hn c hs (by omega) hT (fun _ => ?_) (fun q => by omega)
                  rw [t1, nI_add]
                  rw [ets, etl, ← ey] at h6 hpost
                  rw [ets, etl] at b4
                  rw [← List.append_assoc] at h6 hpost
                  exact ih (p + 1) s (R ++ [y]) f1 (by omega) hs (by simp at b4; omega) h1 (by omega) (by simp at b4; omega) h6 hpost
                | none =>
                  obtain ⟨v, hv2⟩ := symN_oth (s := s) (by omega) (by omega) hv
                  have ets : tlSym tx p s = [98, v] := by unfold tlSym; rw [if_neg c1, if_neg c2, hv, hv2]; rfl
                  have ey : y = 98 := by rw [hy', ets]; rfl
                  have t1 : tlsN tx n p s y = 0 := by unfold tlsN; rw [if_neg (by omega), if_neg c2, if_neg (by omega)]
                  have ho : othN s < 2 := by unfold othN; split <;> omega
                  have e1 : (1 : Int32) - nI s = nI (othN s) := by
                    unfold othN
                    have hs' : s = 0 ∨ s = 1 := by omega
                    rcases hs' with rfl | rfl
                    · rfl
                    · rfl
                  have hv96 := symN_lt96 hv2
                  refine s_Md_tells hn c hs (by omega) hT (fun q => by omega) (fun _ => ⟨fun _ => ?_, fun z => absurd (by decide) z⟩)
                  refine And.symm (pk_eq y 98 (fun _ => ⟨v + 1, ?_⟩) (fun z => absurd ey z))
                  rw [ets, etl] at h6 hpost b4
                  have m130 : ∀ r t, t + r = v → w_Md_pack_130 post (fun v_symbols f_row y1 y2 => w_Md_pack_60 post 0 (nI n) ft f (m + 1) v_symbols f_row y1 y2) (nI n) (nI (R ++ [y]).length) ft f1 (nI s) (nI p) (r + 1) (nI t) := by
                    intro r
                    induction r with
                    | zero =>
                      intro t ht
                      have etv : t = v := by omega
                      unfold w_Md_pack_130
                      rw [e1]
                      have tt : tlsN tx n p (othN s) t = 1 := (tls_sym ho hcp (by omega)).mpr (by rw [etv]; exact hv2)
                      refine s_Md_tells hn c (by omega) (by omega) hT (fun _ => pk_eq (tlsN tx n p (othN s) t) 1 (fun _ => ?_) (fun z => absurd tt z)) (fun q => by omega)
                      refine s_Md_add h1 (by omega) (fun f2 h2 => ?_)
                      rw [nI_1]
                      have el : R ++ [y] ++ [t] = R ++ [98, v] := by rw [ey, etv]; simp
                      have hln : (R ++ [y] ++ [t]).length = R.length + 2 := by rw [el]; simp
                      rw [← List.append_assoc, ← el] at h6 hpost
                      exact ih (p + 1) s (R ++ [y] ++ [t]) f2 (by omega) hs (by simp at b4; omega) h2 (by omega) (by simp at b4; omega) h6 hpost
                    | succ r ih2 =>
                      intro t ht
                      unfold w_Md_pack_130
                      rw [e1, nI_1, nI_1]
                      have tt : ¬ tlsN tx n p (othN s) t = 1 := fun z => by
                        have := (tls_sym ho hcp (by omega)).mp z
                        rw [hv2, Option.some.injEq] at this
                        omega
                      have hle := tlsN_le tx n p (othN s) t
                      exact s_Md_tells hn c (by omega) (by omega) hT (fun _ => pk_eq (tlsN tx n p (othN s) t) 1 (fun z => absurd z tt) (fun _ => ih2 (t + 1) (by omega))) (fun q => ⟨fun z => absurd z (by decide), fun _ => ih2 (t + 1) (by omega)⟩)
                  exact m130 v 0 (by omega)
          · rw [if_neg st] at hy' h6 hpost
            have b4 := a3 st
            have t1 : tlsN tx n p s y = 0 := by
              unfold tlsN
              rw [if_neg (by omega)]
              by_cases c2 : s = 2
              · rw [if_pos c2, if_neg (by omega)]
              · rw [if_neg c2, if_neg (by omega)]
            have hg : gosN s y = nxtN tx n K p s := by
              unfold gosN
              repeat' split
              all_goals omega
            refine s_Md_tells hn c hs (by omega) hT (fun q => by omega) (fun _ => ⟨fun _ => ?_, fun z => absurd (by decide) z⟩)
            refine And.symm (pk_eq y 98 (fun z => absurd z (by omega)) (fun _ => ?_))
            refine s_Md_goes hs (by omega) (fun _ => ?_) (fun z => by omega)
            rw [hg]
            have el : ∀ X : List Nat, R ++ (101 - nxtN tx n K p s) :: X = R ++ [y] ++ X := fun X => by rw [hy']; simp
            rw [el] at h6 hpost
            exact ih p (nxtN tx n K p s) (R ++ [y]) f1 hp a1 (by omega) h1 (by omega) (by omega) h6 hpost
        | succ r ih2 =>
          intro y hy
          unfold w_Md_pack_71
          refine s_Md_with hn c hs (by omega) hT hf ?_
          refine s_Md_leastAt (by omega) ?_
          rw [hf p s (by omega) hs, hLK p s hp hs, ewL y (by omega), nI_1]
          have hwy := hw9 y
          exact pk_eq (wthN tx n K p s y) (K p s) (fun z => absurd z (y2 y (by omega))) (fun _ => ih2 (y + 1) (by omega))
      exact m71 (fstY tx n K p s) 0 (by omega)
    · have hpn : n ≤ p := by omega
      have hk0 : K p s = 0 := by rw [show p = n by omega]; exact h.1 s hs
      rw [emit_zero hpn, List.append_nil] at h6 hpost
      unfold w_Md_pack_60
      refine s_Md_leastAt (by omega) ?_
      rw [hf p s (by omega) hs, hLK p s hp hs]
      refine pk_le (K p s) 0 (fun _ => ?_) (fun z => absurd z (by omega))
      refine s_Md_check hR h0 (by omega) (by omega) h6 ?_
      refine s_Md_add hR (by omega) (fun f1 h1 => ?_)
      exact s_Md_add (v := 106) h1 (by rw [List.length_append, List.length_singleton]; omega) (fun f2 h2 => hpost f2 h2)
theorem row0_le {tx : Nat → Nat} {n : Nat} {K : Nat → Nat → Nat} (hn : n ≤ 64) (h : Kok tx n K) (htx : ∀ j, j < n → tx j ≤ 128) : ∀ x ∈ row0 tx n K, x ≤ 106 := by
  intro x hx
  unfold row0 at hx
  rcases List.mem_cons.mp hx with hx | hx
  · have := bstN_lt K; omega
  · exact emit_le hn h htx 99 0 (bstN K) (by omega) (bstN_lt K) x hx
theorem s_Md_pack {post : Int32 → Int32 → Int32 → (Nat → Int32) → (Nat → Int32) → Prop} {tx : Nat → Nat} {n : Nat} {K : Nat → Nat → Nat} {ft f fr : Nat → Int32} (hn : n ≤ 64) (h : Kok tx n K) (hT : okT ft n tx) (hpost : ∀ f' fr', isL fr' (rowN tx n K) → post (nI (rowN tx n K).length) 0 (nI (rowN tx n K).length) f' fr') : w_Md_pack post (nI n) ft f fr := by
  have htx : ∀ j, j < n → tx j ≤ 128 := fun j hj => (hT j hj).2
  have hb := bst_le hn h htx
  have hl0 := row0_len hn h htx
  unfold w_Md_pack
  refine s_Md_relax hn h hT (fun f' L hf hLK => ⟨3, ?_⟩)
  have kb : ∀ s, s < 3 → K 0 s ≤ 1000001 := fun s hs => by have := (Kok_le h n 0 (by omega)).2 s hs; omega
  have one : ∀ (b y m : Nat), b < 3 → y < 3 → w_Md_pack_13 post 0 (nI n) ft f' fr m (nI (if K 0 y < K 0 b then y else b)) (nI (y + 1)) → w_Md_pack_13 post 0 (nI n) ft f' fr (m + 1) (nI b) (nI y) := by
    intro b y m hb' hy hw
    have k1 := kb b hb'
    have k2 := kb y hy
    unfold w_Md_pack_13
    refine pk_lt 2 y (fun z => absurd z (by omega)) (fun _ => ?_)
    refine s_Md_leastAt (p := 0) (by omega) ?_
    refine s_Md_leastAt (p := 0) (by omega) ?_
    rw [hf 0 y (by omega) hy, hf 0 b (by omega) hb', hLK 0 y (by omega) hy, hLK 0 b (by omega) hb', nI_1]
    refine pk_le (K 0 b) (K 0 y) (fun z => ?_) (fun z => ?_)
    · rw [if_neg (by omega)] at hw
      exact hw
    · rw [if_pos z] at hw
      exact hw
  refine one 0 1 2 (by omega) (by omega) ?_
  refine one _ 2 1 (by split <;> omega) (by omega) ?_
  unfold w_Md_pack_13
  refine pk_lt 2 (2 + 1) (fun _ => ?_) (fun z => absurd z (by omega))
  have eb : (if K 0 2 < K 0 (if K 0 1 < K 0 0 then 1 else 0) then 2 else if K 0 1 < K 0 0 then 1 else 0) = bstN K := rfl
  rw [eb, show (103 : Int32) = nI 103 from rfl, nI_add]
  refine s_Md_add (R := []) (fun j hj => absurd hj (by simp)) (by simp) (fun f1 h1 => ⟨100, ?_⟩)
  have e0 : [] ++ [103 + bstN K] ++ emitN tx n K 99 0 (bstN K) = row0 tx n K := rfl
  refine s_Md_pack60 hn h hT hf hLK 99 0 (bstN K) _ f1 (by omega) (bstN_lt K) (by omega) h1 (by simp) (by simp; omega) ?_ ?_
  · rw [e0]
    exact getD_le (row0_le hn h htx)
  · rw [e0]
    exact fun fr' hfr' => hpost f' fr' hfr'
