/-! The class's packer, in numbers: tx the text's signs, n of them; K p s the cost from place p on in set s. -/
theorem s_Pa_cost {post : Int32 → Prop} {f : Nat → Int32} {p s : Nat} (hi : 3 * p + s < 195) (h : post (f (3 * p + s))) : w_Pa_cost post f (nI p) (nI s) := by
  unfold w_Pa_cost
  rw [show (3 : Int32) = nI 3 from rfl, pk_mul, nI_add, show (195 : Int32) = nI 195 from rfl]
  refine ⟨fun a => absurd a (nI_pos (by omega)), fun _ => ⟨fun a => absurd a (nI_ge hi (by omega)), fun _ => ⟨vp_in_nI hi (by omega), ?_⟩⟩⟩
  rw [nI_clamp (by omega)]
  exact h
theorem s_Pa_setCost {post : (Nat → Int32) → Prop} {f : Nat → Int32} {p s : Nat} {x : Int32} (hi : 3 * p + s < 195) (h : post (upd f (3 * p + s) x)) : w_Pa_setCost post f (nI p) (nI s) x := by
  unfold w_Pa_setCost
  rw [show (3 : Int32) = nI 3 from rfl, pk_mul, nI_add, show (195 : Int32) = nI 195 from rfl]
  refine ⟨fun a => absurd a (nI_pos (by omega)), fun _ => ⟨fun a => absurd a (nI_ge hi (by omega)), fun _ => ⟨vp_in_nI hi (by omega), ?_⟩⟩⟩
  rw [nI_clamp (by omega)]
  exact h
abbrev figB (c : Nat) : Prop := 48 ≤ c ∧ c ≤ 57
theorem s_Se_isFigure {post : Int32 → Prop} {c : Nat} (hc : c < 2 ^ 31) (h1 : figB c → post 1) (h0 : ¬ figB c → post 0) : w_Se_isFigure post (nI c) := by
  unfold w_Se_isFigure
  rw [show (48 : Int32) = nI 48 from rfl, show (57 : Int32) = nI 57 from rfl, nI_ltI hc (by omega), nI_ltI (by omega) hc]
  refine ⟨fun a => h0 (fun z => absurd z.1 (by omega)), fun a => ⟨fun b => h0 (fun z => absurd z.2 (by omega)), fun b => h1 ⟨by omega, by omega⟩⟩⟩
theorem s_Se_isFigure_m1 {post : Int32 → Prop} (h0 : post 0) : w_Se_isFigure post (-1) := by
  unfold w_Se_isFigure
  exact ⟨fun _ => h0, fun a => absurd (by decide) a⟩
theorem s_Se_pairOf {post : Int32 → Prop} {a b : Nat} (ha : a < 2 ^ 31) (hb : b < 2 ^ 31) (h1 : figB a → figB b → post (nI (10 * (a - 48) + (b - 48)))) (h0 : ¬ (figB a ∧ figB b) → post (-1)) : w_Se_pairOf post (nI a) (nI b) := by
  unfold w_Se_pairOf
  refine s_Se_isFigure ha (fun fa => ⟨fun z => absurd z (by decide), fun _ => ?_⟩) (fun fa => ⟨fun _ => h0 (fun z => fa z.1), fun z => absurd rfl z⟩)
  refine s_Se_isFigure hb (fun fb => ⟨fun z => absurd z (by decide), fun _ => ?_⟩) (fun fb => ⟨fun _ => h0 (fun z => fb z.2), fun z => absurd rfl z⟩)
  have h := h1 fa fb
  obtain ⟨a1, a2⟩ := fa
  obtain ⟨b1, b2⟩ := fb
  rw [show (48 : Int32) = nI 48 from rfl, show (10 : Int32) = nI 10 from rfl, pk_sub a1, pk_mul, nI_add, pk_sub (by omega), show 10 * (a - 48) + b - 48 = 10 * (a - 48) + (b - 48) by omega]
  exact h
theorem s_Se_pairOf_m1 {post : Int32 → Prop} {a : Nat} (ha : a < 2 ^ 31) (h0 : post (-1)) : w_Se_pairOf post (nI a) (-1) := by
  unfold w_Se_pairOf
  refine s_Se_isFigure ha (fun fa => ⟨fun z => absurd z (by decide), fun _ => ?_⟩) (fun fa => ⟨fun _ => h0, fun z => absurd rfl z⟩)
  exact s_Se_isFigure_m1 ⟨fun _ => h0, fun z => absurd rfl z⟩
/-- the symbol of a sign in A (0) or B (1) -/
def symN (s c : Nat) : Option Nat := if 128 ≤ c then none else if 32 ≤ c then (if s = 1 ∨ c ≤ 95 then some (c - 32) else none) else (if s = 0 then some (c + 64) else none)
theorem s_Se_symbolOf {post : Int32 → Prop} {s c : Nat} (hs : s < 2 ^ 31) (hc : c < 2 ^ 31) (h1 : ∀ v, symN s c = some v → post (nI v)) (h0 : symN s c = none → post (-1)) : w_Se_symbolOf post (nI s) (nI c) := by
  unfold w_Se_symbolOf
  unfold symN at h1 h0
  rw [show (128 : Int32) = nI 128 from rfl, show (32 : Int32) = nI 32 from rfl, show (95 : Int32) = nI 95 from rfl, show (64 : Int32) = nI 64 from rfl, show (1 : Int32) = nI 1 from rfl, nI_ltI hc (by omega), nI_ltI hc (by omega), nI_ltI (by omega) hc, nI_eq hs (by omega), show (nI s = 0) = (nI s = nI 0) from rfl, nI_eq hs (by omega)]
  refine ⟨fun a => absurd a (nI_pos hc), fun _ => ⟨fun a => ⟨fun b => ⟨fun z => ?_, fun z => ?_⟩, fun b => ⟨fun z => ?_, fun z => ⟨fun q => ?_, fun q => ?_⟩⟩⟩, fun a => ?_⟩⟩
  · rw [if_neg (by omega), if_neg (by omega), if_neg z] at h0
    exact h0 rfl
  · rw [if_neg (by omega), if_neg (by omega), if_pos z] at h1
    rw [nI_add]
    exact h1 _ rfl
  · rw [if_neg (by omega), if_pos (by omega), if_pos (Or.inl z)] at h1
    rw [pk_sub (by omega)]
    exact h1 _ rfl
  · rw [if_neg (by omega), if_pos (by omega), if_neg (by omega)] at h0
    exact h0 rfl
  · rw [if_neg (by omega), if_pos (by omega), if_pos (by omega)] at h1
    rw [pk_sub (by omega)]
    exact h1 _ rfl
  · rw [if_pos (by omega)] at h0
    exact h0 rfl
theorem nI_nm1 {v : Nat} (h : v < 2 ^ 31) : ¬ nI v = -1 := by
  intro e
  have h1 := nI_toInt h
  rw [e] at h1
  have h2 : (-1 : Int32).toInt = -1 := rfl
  omega
theorem symN_lt {s c v : Nat} (h : symN s c = some v) : v < 128 := by
  unfold symN at h
  split at h
  · cases h
  · split at h
    · split at h
      · cases h; omega
      · cases h
    · split at h
      · cases h; omega
      · cases h
/-- what telling at place p costs in set s, by the costs K behind it -/
def tellN (tx : Nat → Nat) (n : Nat) (K : Nat → Nat → Nat) (p s : Nat) : Nat :=
  if tx p = 128 then 1 + K (p + 1) s
  else if s = 2 then (if figB (tx p) ∧ p + 1 < n ∧ figB (tx (p + 1)) then 1 + K (p + 2) 2 else 1000000)
  else (if (symN s (tx p)).isSome then 1 else 2) + K (p + 1) s
/-- the table f holds the costs K from place p on -/
def okC (f : Nat → Int32) (n : Nat) (K : Nat → Nat → Nat) (p : Nat) : Prop := ∀ p' s' : Nat, p ≤ p' → p' ≤ n → s' < 3 → f (3 * p' + s') = nI (K p' s')
/-- the text: its signs tx -/
def okT (f : Nat → Int32) (n : Nat) (tx : Nat → Nat) : Prop := ∀ j, j < n → f j = nI (tx j) ∧ tx j ≤ 128
theorem s_Pa_costOfTelling {post : Int32 → Prop} {tx : Nat → Nat} {n p s : Nat} {K : Nat → Nat → Nat} {ft f : Nat → Int32} (hn : n ≤ 64) (hp : p < n) (hs : s < 3) (hT : okT ft n tx) (hK : okC f n K (p + 1)) (h : post (nI (tellN tx n K p s))) : w_Pa_costOfTelling post (nI n) ft f (nI p) (nI s) := by
  unfold w_Pa_costOfTelling
  refine s_It_at_in hp hn (by omega) ?_
  obtain ⟨hc1, hc⟩ := hT p hp
  rw [hc1]
  have e128 : nI (tx p) = 128 ↔ tx p = 128 := nI_eq (b := 128) (by omega) (by omega)
  have e2 : nI s = 2 ↔ s = 2 := nI_eq (b := 2) (by omega) (by omega)
  have o1 : (1 : Int32) = nI 1 := rfl
  have o2 : (2 : Int32) = nI 2 := rfl
  have hcost : ∀ {post' : Int32 → Prop}, post' (nI (K (p + 1) s)) → w_Pa_cost post' f (nI p + 1) (nI s) := fun {post'} h9 => by
    rw [nI_1]
    exact s_Pa_cost (by omega) (by rw [hK (p + 1) s (by omega) (by omega) hs]; exact h9)
  unfold tellN at h
  refine ⟨fun a => ⟨fun b => ?_, fun b => ?_⟩, fun a => ?_⟩
  · rw [if_neg (mt e128.mpr a), if_neg (mt e2.mpr b)] at h
    refine s_Se_symbolOf (by omega) (by omega) (fun v hv => ⟨fun z => absurd z (nI_nm1 (by have := symN_lt hv; omega)), fun _ => ?_⟩) (fun hv => ⟨fun _ => ?_, fun z => absurd rfl z⟩)
    · rw [hv] at h
      refine hcost ?_
      rw [o1, nI_add]
      exact h
    · rw [hv] at h
      refine hcost ?_
      rw [o2, nI_add]
      exact h
  · rw [if_neg (mt e128.mpr a), if_pos (e2.mp b)] at h
    have hs2 := e2.mp b
    rw [nI_1]
    by_cases hq : p + 1 < n
    · refine s_It_at_in hq hn (by omega) ?_
      obtain ⟨hd1, hd⟩ := hT (p + 1) hq
      rw [hd1]
      refine s_Se_pairOf (by omega) (by omega) (fun fa fb => ⟨fun z => absurd z (nI_nm1 (by omega)), fun _ => ?_⟩) (fun fab => ⟨fun _ => ?_, fun z => absurd rfl z⟩)
      · rw [if_pos ⟨fa, hq, fb⟩] at h
        rw [o2, nI_add, hs2]
        refine s_Pa_cost (by omega) ?_
        rw [hK (p + 2) 2 (by omega) (by omega) (by omega), o1, nI_add]
        exact h
      · rw [if_neg (fun z => fab ⟨z.1, z.2.2⟩)] at h
        exact h
    · refine s_It_at_no (Or.inr (nI_le (by omega) (by omega))) ?_
      rw [if_neg (fun z => hq z.2.1)] at h
      exact s_Se_pairOf_m1 (by omega) ⟨fun _ => h, fun z => absurd rfl z⟩
  · rw [if_pos (e128.mp a)] at h
    refine hcost ?_
    rw [o1, nI_add]
    exact h
/-- the least of the first s of c, 1000000 among them -/
def lstN (c : Nat → Nat) : Nat → Nat
  | 0 => 1000000
  | s + 1 => if c s < lstN c s then c s else lstN c s
theorem lstN_le (c : Nat → Nat) : ∀ s, lstN c s ≤ 1000000
  | 0 => by unfold lstN; omega
  | s + 1 => by
    have := lstN_le c s
    unfold lstN
    split <;> omega
/-- the costs at place p: telling at once, or one change of the set ahead of the cheapest -/
def newN (c : Nat → Nat) (s : Nat) : Nat := if lstN c 3 + 1 < c s then lstN c 3 + 1 else c s
theorem okC_upd {f : Nat → Int32} {n p s : Nat} {K : Nat → Nat → Nat} {x : Int32} (hs : s < 3) (h : okC f n K (p + 1)) : okC (upd f (3 * p + s) x) n K (p + 1) := by
  intro p' s' h1 h2 h3
  unfold upd
  rw [if_neg (by omega)]
  exact h p' s' h1 h2 h3
/-- the costs of telling at p: nothing is left to tell at the text's end -/
def tell0 (tx : Nat → Nat) (n : Nat) (K : Nat → Nat → Nat) (p s : Nat) : Nat := if p = n then 0 else tellN tx n K p s
theorem s_Pa_fillCosts {post : (Nat → Int32) → Prop} {tx : Nat → Nat} {n p : Nat} {K : Nat → Nat → Nat} {ft f : Nat → Int32} (hn : n ≤ 64) (hp : p ≤ n) (hT : okT ft n tx) (hK : okC f n K (p + 1)) (hb : ∀ s, s < 3 → tell0 tx n K p s ≤ 1000000) (hKp : ∀ s, s < 3 → K p s = newN (tell0 tx n K p) s) (h : ∀ f', okC f' n K p → post f') : w_Pa_fillCosts post (nI n) ft f (nI p) := by
  have o1 : (1 : Int32) = nI 1 := rfl
  have o3 : (3 : Int32) = nI 3 := rfl
  have hl := lstN_le (tell0 tx n K p)
  have second : ∀ (r s : Nat) (f : Nat → Int32), s + r = 3 → okC f n K (p + 1) → (∀ s', s' < s → f (3 * p + s') = nI (K p s')) → (∀ s', s ≤ s' → s' < 3 → f (3 * p + s') = nI (tell0 tx n K p s')) → w_Pa_fillCosts_56 post (nI p) (nI (lstN (tell0 tx n K p) 3)) (r + 1) f (nI s) := by
    intro r
    induction r with
    | zero =>
      intro s f hs hk h1 h2
      unfold w_Pa_fillCosts_56
      rw [o3]
      refine ⟨fun _ => h f (fun p' s' a b c => ?_), fun a => absurd (nI_le (by omega) (by omega)) a⟩
      by_cases e : p' = p
      · rw [e]; exact h1 s' (by omega)
      · exact hk p' s' (by omega) b c
    | succ r ih =>
      intro s f hs hk h1 h2
      unfold w_Pa_fillCosts_56
      rw [o3]
      refine ⟨fun a => absurd a (nI_ge (by omega) (by omega)), fun _ => ?_⟩
      refine s_Pa_cost (by omega) ?_
      rw [h2 s (by omega) (by omega)]
      refine s_Pa_setCost (by omega) ?_
      have hbs := hb s (by omega)
      have hl3 := hl 3
      have ev : (if nI (lstN (tell0 tx n K p) 3) + 1 < nI (tell0 tx n K p s) then nI (lstN (tell0 tx n K p) 3) + 1 else nI (tell0 tx n K p s)) = nI (K p s) := by
        rw [hKp s (by omega), nI_1, ite_nI (by omega) (by omega)]
        unfold newN
        split <;> rfl
      rw [ev, nI_1]
      refine ih (s + 1) _ (by omega) (okC_upd (by omega) hk) (fun s' a => ?_) (fun s' a b => ?_)
      · unfold upd
        by_cases e : s' = s
        · rw [if_pos (by omega), e]
        · rw [if_neg (by omega)]
          exact h1 s' (by omega)
      · unfold upd
        rw [if_neg (by omega)]
        exact h2 s' (by omega) b
  have first : ∀ (r s : Nat) (f : Nat → Int32), s + r = 3 → okC f n K (p + 1) → (∀ s', s' < s → f (3 * p + s') = nI (tell0 tx n K p s')) → w_Pa_fillCosts_5 post (nI n) ft (nI p) (r + 1) f (nI (lstN (tell0 tx n K p) s)) (nI s) := by
    intro r
    induction r with
    | zero =>
      intro s f hs hk h1
      unfold w_Pa_fillCosts_5
      rw [o3]
      refine ⟨fun _ => ⟨4, ?_⟩, fun a => absurd (nI_le (by omega) (by omega)) a⟩
      rw [show s = 3 by omega]
      exact second 3 0 f (by omega) hk (fun s' a => absurd a (by omega)) (fun s' _ b => h1 s' (by omega))
    | succ r ih =>
      intro s f hs hk h1
      have hbs := hb s (by omega)
      have hls := hl s
      have step : ∀ f', f' = upd f (3 * p + s) (nI (tell0 tx n K p s)) → w_Pa_fillCosts_5 post (nI n) ft (nI p) (r + 1) f' (if nI (tell0 tx n K p s) < nI (lstN (tell0 tx n K p) s) then nI (tell0 tx n K p s) else nI (lstN (tell0 tx n K p) s)) (nI s + 1) := by
        intro f' e
        rw [e]
        have ev : (if nI (tell0 tx n K p s) < nI (lstN (tell0 tx n K p) s) then nI (tell0 tx n K p s) else nI (lstN (tell0 tx n K p) s)) = nI (lstN (tell0 tx n K p) (s + 1)) := by
          rw [ite_nI (by omega) (by omega)]
          show _ = nI (if tell0 tx n K p s < lstN (tell0 tx n K p) s then tell0 tx n K p s else lstN (tell0 tx n K p) s)
          split <;> rfl
        rw [ev, nI_1]
        refine ih (s + 1) _ (by omega) (okC_upd (by omega) hk) (fun s' a => ?_)
        unfold upd
        by_cases e9 : s' = s
        · rw [if_pos (by omega), e9]
        · rw [if_neg (by omega)]
          exact h1 s' (by omega)
      unfold w_Pa_fillCosts_5
      rw [o3]
      refine ⟨fun a => absurd a (nI_ge (by omega) (by omega)), fun _ => ?_⟩
      refine s_It_count ?_
      rw [nI_eq (by omega) (by omega)]
      refine ⟨fun a => ?_, fun a => ?_⟩
      · have et : tell0 tx n K p s = tellN tx n K p s := by unfold tell0; rw [if_neg a]
        refine s_Pa_costOfTelling hn (by omega) (by omega) hT hk ?_
        rw [← et]
        exact s_Pa_setCost (by omega) (step _ rfl)
      · have et : tell0 tx n K p s = 0 := by unfold tell0; rw [if_pos a]
        refine s_Pa_setCost (by omega) ?_
        have := step _ rfl
        rw [et] at this
        exact this
  unfold w_Pa_fillCosts
  exact ⟨4, first 3 0 f (by omega) hK (fun s' a => absurd a (by omega))⟩
