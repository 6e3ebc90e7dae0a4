/-! The costs' equations, and what the class's loop emits. -/
/-- K is the table of costs of the text tx of n signs -/
def Kok (tx : Nat → Nat) (n : Nat) (K : Nat → Nat → Nat) : Prop := (∀ s, s < 3 → K n s = 0) ∧ ∀ p s, p < n → s < 3 → K p s = newN (tellN tx n K p) s
theorem tellN_congr {tx : Nat → Nat} {n p s : Nat} {K K' : Nat → Nat → Nat} (hs : s < 3) (h : ∀ p' s', p < p' → s' < 3 → K' p' s' = K p' s') : tellN tx n K' p s = tellN tx n K p s := by
  unfold tellN
  rw [h (p + 1) s (by omega) hs, h (p + 2) 2 (by omega) (by omega)]
theorem lstN_congr {c c' : Nat → Nat} (h : ∀ s', s' < 3 → c' s' = c s') : ∀ k, k ≤ 3 → lstN c' k = lstN c k
  | 0, _ => rfl
  | k + 1, hk => by
    have ih := lstN_congr h k (by omega)
    have e := h k (by omega)
    show (if c' k < lstN c' k then c' k else lstN c' k) = (if c k < lstN c k then c k else lstN c k)
    rw [ih, e]
theorem newN_congr {c c' : Nat → Nat} {s : Nat} (hs : s < 3) (h : ∀ s', s' < 3 → c' s' = c s') : newN c' s = newN c s := by
  unfold newN
  have hl : lstN c' 3 = lstN c 3 := lstN_congr h 3 (by omega)
  rw [hl, h s hs]
theorem Kok_ex (tx : Nat → Nat) (n : Nat) : ∃ K, Kok tx n K := by
  have main : ∀ d : Nat, d ≤ n → ∃ K : Nat → Nat → Nat, (∀ s, K n s = 0) ∧ ∀ p s, n - d ≤ p → p < n → s < 3 → K p s = newN (tellN tx n K p) s := by
    intro d
    induction d with
    | zero => intro _; exact ⟨fun _ _ => 0, fun _ => rfl, fun p s h1 h2 => by omega⟩
    | succ d ih =>
      intro hd
      obtain ⟨K, h0, hK⟩ := ih (by omega)
      refine ⟨fun p s => if p = n - (d + 1) then newN (tellN tx n K p) s else K p s, fun s => ?_, fun p s h1 h2 hs => ?_⟩
      · show (if n = n - (d + 1) then _ else K n s) = 0
        rw [if_neg (by omega)]
        exact h0 s
      · have hc : ∀ s', s' < 3 → tellN tx n (fun p s => if p = n - (d + 1) then newN (tellN tx n K p) s else K p s) p s' = tellN tx n K p s' := fun s' hs' => tellN_congr hs' (fun p' s'' hp' _ => by
          show (if p' = n - (d + 1) then _ else K p' s'') = _
          rw [if_neg (by omega)])
        rw [newN_congr hs hc]
        show (if p = n - (d + 1) then _ else K p s) = _
        by_cases e : p = n - (d + 1)
        · rw [if_pos e]
        · rw [if_neg e]
          exact hK p s (by omega) h2 hs
  obtain ⟨K, h0, hK⟩ := main n (Nat.le_refl _)
  exact ⟨K, fun s _ => h0 s, fun p s h1 h2 => hK p s (by omega) h1 h2⟩
theorem lstN_3 (c : Nat → Nat) : lstN c 3 ≤ c 0 ∧ lstN c 3 ≤ c 1 ∧ lstN c 3 ≤ c 2 ∧ (lstN c 3 = 1000000 ∨ lstN c 3 = c 0 ∨ lstN c 3 = c 1 ∨ lstN c 3 = c 2) := by
  have e1 : lstN c 1 = if c 0 < 1000000 then c 0 else 1000000 := rfl
  have e2 : lstN c 2 = if c 1 < lstN c 1 then c 1 else lstN c 1 := rfl
  have e3 : lstN c 3 = if c 2 < lstN c 2 then c 2 else lstN c 2 := rfl
  have h1 : lstN c 1 ≤ c 0 ∨ lstN c 1 = 1000000 := by rw [e1]; split <;> omega
  have h1' : lstN c 1 ≤ 1000000 ∧ (lstN c 1 = c 0 ∨ (lstN c 1 = 1000000 ∧ 1000000 ≤ c 0)) := by rw [e1]; split <;> omega
  have h2 : (lstN c 2 = c 1 ∧ c 1 < lstN c 1) ∨ (lstN c 2 = lstN c 1 ∧ lstN c 1 ≤ c 1) := by rw [e2]; split <;> omega
  have h3 : (lstN c 3 = c 2 ∧ c 2 < lstN c 2) ∨ (lstN c 3 = lstN c 2 ∧ lstN c 2 ≤ c 2) := by rw [e3]; split <;> omega
  omega
theorem newN_le {c : Nat → Nat} {s : Nat} : newN c s ≤ c s := by
  unfold newN
  split <;> omega
theorem newN_le0 {c : Nat → Nat} {s : Nat} : newN c s ≤ c 0 + 1 := by
  have := (lstN_3 c).1
  unfold newN
  split <;> omega
theorem tellN_0 {tx : Nat → Nat} {n p : Nat} {K : Nat → Nat → Nat} : tellN tx n K p 0 ≤ 2 + K (p + 1) 0 := by
  unfold tellN
  split
  · omega
  · rw [if_neg (by omega)]
    split <;> omega
/-- the costs are small -/
theorem Kok_le {tx : Nat → Nat} {n : Nat} {K : Nat → Nat → Nat} (h : Kok tx n K) : ∀ d p, p + d = n → K p 0 ≤ 2 * d ∧ ∀ s, s < 3 → K p s ≤ 2 * d + 1 := by
  intro d
  induction d with
  | zero =>
    intro p hp
    rw [show p = n by omega]
    exact ⟨by rw [h.1 0 (by omega)]; omega, fun s hs => by rw [h.1 s hs]; omega⟩
  | succ d ih =>
    intro p hp
    have h1 := (ih (p + 1) (by omega)).1
    have h2 := tellN_0 (tx := tx) (n := n) (p := p) (K := K)
    refine ⟨?_, fun s hs => ?_⟩
    · rw [h.2 p 0 (by omega) (by omega)]
      have := newN_le (c := tellN tx n K p) (s := 0)
      omega
    · rw [h.2 p s (by omega) hs]
      have := newN_le0 (c := tellN tx n K p) (s := s)
      omega
/-- the set that the class goes to: if it stays, telling is what the costs say; else one symbol is paid -/
theorem nxtN_ok {tx : Nat → Nat} {n p s : Nat} {K : Nat → Nat → Nat} (hn : n ≤ 64) (h : Kok tx n K) (hp : p < n) (hs : s < 3) : nxtN tx n K p s < 3 ∧ (nxtN tx n K p s = s → tellN tx n K p s = K p s) ∧ (¬ nxtN tx n K p s = s → 1 + K p (nxtN tx n K p s) = K p s) := by
  have k0 := h.2 p 0 hp (by omega)
  have k1 := h.2 p 1 hp (by omega)
  have k2 := h.2 p 2 hp (by omega)
  have ks := h.2 p s hp hs
  have kb := (Kok_le h (n - (p + 1)) (p + 1) (by omega)).1
  have t0 := tellN_0 (tx := tx) (n := n) (p := p) (K := K)
  obtain ⟨l0, l1, l2, l3⟩ := lstN_3 (tellN tx n K p)
  have hs' : s = 0 ∨ s = 1 ∨ s = 2 := by omega
  unfold newN at k0 k1 k2 ks
  unfold nxtN
  by_cases c1 : ¬ tx p = 128 ∧ tellN tx n K p s = K p s
  · rw [if_pos c1]
    exact ⟨hs, fun _ => c1.2, fun z => absurd rfl z⟩
  · rw [if_neg c1]
    unfold pickN
    by_cases d2 : ¬ 2 = s ∧ 1 + K p 2 = K p s
    · rw [if_pos d2]
      exact ⟨by omega, fun z => absurd z d2.1, fun _ => d2.2⟩
    · rw [if_neg d2]
      by_cases d1 : ¬ 1 = s ∧ 1 + K p 1 = K p s
      · rw [if_pos d1]
        exact ⟨by omega, fun z => absurd z d1.1, fun _ => d1.2⟩
      · rw [if_neg d1]
        by_cases d0 : ¬ 0 = s ∧ 1 + K p 0 = K p s
        · rw [if_pos d0]
          exact ⟨by omega, fun z => absurd z d0.1, fun _ => d0.2⟩
        · rw [if_neg d0]
          refine ⟨hs, fun _ => ?_, fun z => absurd rfl z⟩
          rcases hs' with rfl | rfl | rfl <;> (split at k0 <;> split at k1 <;> split at k2 <;> omega)
/-- what the class's loop emits, at most m rounds from place p in set s -/
def emitN (tx : Nat → Nat) (n : Nat) (K : Nat → Nat → Nat) : Nat → Nat → Nat → List Nat
  | 0, _, _ => []
  | m + 1, p, s => if n ≤ p then [] else if nxtN tx n K p s = s then tlSym tx p s ++ emitN tx n K m (p + tlLen tx p s) s else (101 - nxtN tx n K p s) :: emitN tx n K m p (nxtN tx n K p s)
/-- telling, in numbers -/
theorem tell_len {tx : Nat → Nat} {n p s : Nat} {K : Nat → Nat → Nat} (hn : n ≤ 64) (h : Kok tx n K) (hp : p < n) (hs : s < 3) (ht : tellN tx n K p s = K p s) : (¬ tx p = 128 → s = 2 → figB (tx p) ∧ p + 1 < n ∧ figB (tx (p + 1))) ∧ p + tlLen tx p s ≤ n ∧ 1 ≤ (tlSym tx p s).length ∧ (tlSym tx p s).length + K (p + tlLen tx p s) s = K p s := by
  have kb := (Kok_le h (n - p) p (by omega)).2 s hs
  unfold tellN at ht
  unfold tlSym tlLen
  by_cases c1 : tx p = 128
  · rw [if_pos c1] at ht
    rw [if_pos c1, if_neg (fun z => z.1 c1)]
    exact ⟨fun z => absurd c1 z, by omega, by simp, by simpa using ht⟩
  · rw [if_neg c1] at ht
    rw [if_neg c1]
    by_cases c2 : s = 2
    · rw [if_pos c2] at ht
      rw [if_pos c2, if_pos ⟨c1, c2⟩]
      by_cases c3 : figB (tx p) ∧ p + 1 < n ∧ figB (tx (p + 1))
      · rw [if_pos c3] at ht
        exact ⟨fun _ _ => c3, by omega, by simp, by rw [c2] at ht ⊢; simpa using ht⟩
      · rw [if_neg c3] at ht
        omega
    · rw [if_neg c2] at ht
      rw [if_neg c2, if_neg (fun z => c2 z.2)]
      refine ⟨fun _ z => absurd z c2, by omega, ?_, ?_⟩
      · cases symN s (tx p) <;> simp
      · cases hv : symN s (tx p) with
        | none => rw [hv] at ht; simpa using ht
        | some v => rw [hv] at ht; simpa using ht
theorem emit_len {tx : Nat → Nat} {n : Nat} {K : Nat → Nat → Nat} (hn : n ≤ 64) (h : Kok tx n K) : ∀ m p s, p ≤ n → s < 3 → K p s ≤ m → (emitN tx n K m p s).length = K p s := by
  intro m
  induction m with
  | zero =>
    intro p s hp hs hk
    unfold emitN
    simp
    omega
  | succ m ih =>
    intro p s hp hs hk
    unfold emitN
    by_cases c1 : n ≤ p
    · rw [if_pos c1, show p = n by omega, h.1 s hs]
      rfl
    · rw [if_neg c1]
      obtain ⟨a1, a2, a3⟩ := nxtN_ok hn h (by omega) hs (p := p) (tx := tx)
      by_cases c2 : nxtN tx n K p s = s
      · rw [if_pos c2]
        obtain ⟨b1, b2, b3, b4⟩ := tell_len hn h (by omega) hs (a2 c2)
        rw [List.length_append, ih _ _ b2 hs (by omega)]
        exact b4
      · rw [if_neg c2]
        have := a3 c2
        rw [List.length_cons, ih _ _ hp a1 (by omega)]
        omega
theorem tellN_le {tx : Nat → Nat} {n p s : Nat} {K : Nat → Nat → Nat} (hn : n ≤ 64) (h : Kok tx n K) (hp : p < n) (hs : s < 3) : tellN tx n K p s ≤ 1000000 := by
  have k1 := (Kok_le h (n - (p + 1)) (p + 1) (by omega)).2 s hs
  unfold tellN
  split
  · omega
  · split
    · split
      · rename_i q
        have k2 := (Kok_le h (n - (p + 2)) (p + 2) (by omega)).2 2 (by omega)
        omega
      · omega
    · split <;> omega
theorem s_Pa_addSymbols_21 {post : Int32 → (Nat → Int32) → Prop} {tx : Nat → Nat} {n : Nat} {K : Nat → Nat → Nat} {ft f : Nat → Int32} (hn : n ≤ 64) (h : Kok tx n K) (hT : okT ft n tx) (hC : okC f n K 0) : ∀ (r step p s : Nat) (R : List Nat) (fr : Nat → Int32), step + r = 99 → p ≤ n → s < 3 → isL fr R → R.length + (emitN tx n K r p s).length ≤ 99 → (∀ f', isL f' (R ++ emitN tx n K r p s) → post (nI (R ++ emitN tx n K r p s).length) f') → w_Pa_addSymbols_21 post (nI n) ft f (r + 1) (nI R.length) fr (nI s) (nI p) (nI step) := by
  intro r
  induction r with
  | zero =>
    intro step p s R fr hst hp hs hR hl hpost
    unfold w_Pa_addSymbols_21
    rw [show (99 : Int32) = nI 99 from rfl]
    refine ⟨fun _ => ?_, fun a => absurd (nI_le (by omega) (by omega)) a⟩
    have := hpost fr (by unfold emitN; rw [List.append_nil]; exact hR)
    unfold emitN at this
    rw [List.append_nil] at this
    exact this
  | succ r ih =>
    intro step p s R fr hst hp hs hR hl hpost
    unfold w_Pa_addSymbols_21
    rw [show (99 : Int32) = nI 99 from rfl]
    refine ⟨fun a => absurd a (nI_ge (by omega) (by omega)), fun _ => ?_⟩
    refine s_It_count ?_
    rw [nI_leI (by omega) (by omega)]
    unfold emitN at hl hpost
    refine ⟨fun c1 => ?_, fun c1 => ?_⟩
    · rw [if_pos c1, List.append_nil] at hpost
      exact hpost fr hR
    · rw [if_neg c1] at hl hpost
      obtain ⟨a1, a2, a3⟩ := nxtN_ok hn h (by omega) hs (p := p) (tx := tx)
      have kb : ∀ s, s < 3 → K p s ≤ 1000001 := fun s hs => by have := (Kok_le h (n - p) p (by omega)).2 s hs; omega
      refine s_Pa_nextSet hn (by omega) hs hT (fun p' s' _ b c => hC p' s' (by omega) b c) kb (by have := tellN_le hn h (show p < n by omega) hs; omega) ?_
      rw [nI_eq (by omega) (by omega)]
      refine ⟨fun c2 => ?_, fun c2 => ?_⟩
      · rw [if_neg c2] at hl hpost
        unfold w_Se_switchTo
        rw [show (101 : Int32) = nI 101 from rfl, pk_sub (by omega)]
        rw [List.length_cons] at hl
        refine s_add_L hR (by omega) (by omega) (fun f1 h1 => ?_)
        rw [nI_1]
        have e : ∀ X : List Nat, R ++ [101 - nxtN tx n K p s] ++ X = R ++ (101 - nxtN tx n K p s) :: X := fun X => by simp
        refine ih (step + 1) p (nxtN tx n K p s) (R ++ [101 - nxtN tx n K p s]) f1 (by omega) hp a1 h1 (by rw [List.length_append, List.length_singleton]; omega) (fun f2 h2 => ?_)
        rw [e] at h2 ⊢
        exact hpost f2 h2
      · rw [if_pos c2] at hl hpost
        rw [List.length_append] at hl
        obtain ⟨b1, b2, b3, b4⟩ := tell_len hn h (show p < n by omega) hs (a2 c2)
        refine s_Pa_addTold hn (by omega) hs hT hR (by omega) b1 (fun f1 h1 => ?_)
        rw [nI_add, nI_1]
        refine ih (step + 1) (p + tlLen tx p s) s (R ++ tlSym tx p s) f1 (by omega) b2 hs h1 (by rw [List.length_append]; omega) (fun f2 h2 => ?_)
        rw [List.append_assoc] at h2 ⊢
        exact hpost f2 h2
/-- the cheapest set to begin with -/
def bstN (K : Nat → Nat → Nat) : Nat := if K 0 2 < K 0 (if K 0 1 < K 0 0 then 1 else 0) then 2 else if K 0 1 < K 0 0 then 1 else 0
theorem bstN_lt (K : Nat → Nat → Nat) : bstN K < 3 := by
  unfold bstN
  by_cases c1 : K 0 1 < K 0 0
  · rw [if_pos c1]
    split <;> omega
  · rw [if_neg c1]
    split <;> omega
theorem s_Pa_cheapestFirstSet {post : Int32 → Prop} {n : Nat} {K : Nat → Nat → Nat} {f : Nat → Int32} (hC : okC f n K 0) (hb : ∀ s, s < 3 → K 0 s ≤ 1000001) (h : post (nI (bstN K))) : w_Pa_cheapestFirstSet post f := by
  have one : ∀ (b y m : Nat), b < 3 → y < 3 → w_Pa_cheapestFirstSet_4 post f m (nI (if K 0 y < K 0 b then y else b)) (nI (y + 1)) → w_Pa_cheapestFirstSet_4 post f (m + 1) (nI b) (nI y) := by
    intro b y m hb' hy hw
    have kb := hb b hb'
    have ky := hb y hy
    unfold w_Pa_cheapestFirstSet_4
    rw [show (3 : Int32) = nI 3 from rfl]
    refine ⟨fun a => absurd a (nI_ge (by omega) (by omega)), fun _ => ?_⟩
    rw [show (0 : Int32) = nI 0 from rfl]
    refine s_Pa_cost (by omega) ?_
    refine s_Pa_cost (by omega) ?_
    rw [hC 0 y (by omega) (by omega) hy, hC 0 b (by omega) (by omega) hb', nI_leI (by omega) (by omega), nI_1]
    refine ⟨fun a => ?_, fun a => ?_⟩
    · rw [if_neg (by omega)] at hw
      exact hw
    · rw [if_pos (by omega)] at hw
      exact hw
  unfold w_Pa_cheapestFirstSet
  refine ⟨3, ?_⟩
  refine one 0 1 2 (by omega) (by omega) ?_
  refine one _ 2 1 (by split <;> omega) (by omega) ?_
  unfold w_Pa_cheapestFirstSet_4
  refine ⟨fun _ => ?_, fun a => absurd (by decide) a⟩
  unfold bstN at h
  exact h
/-- the first symbol and each other one times its place -/
def sumS (R : List Nat) : Nat → Nat
  | 0 => R.getD 0 0
  | i + 1 => sumS R i + (i + 1) * R.getD (i + 1) 0
def chkS (R : List Nat) : Nat := sumS R (R.length - 1) % 103
theorem sumS_le {R : List Nat} (h : ∀ j, j < R.length → R.getD j 0 ≤ 106) : ∀ i, i < R.length → i < 200 → sumS R i ≤ 106 + 106 * 200 * i := by
  intro i
  induction i with
  | zero => intro hi _; have := h 0 hi; unfold sumS; omega
  | succ i ih =>
    intro hi h2
    have h1 := ih (by omega) (by omega)
    have h3 := h (i + 1) hi
    have h4 : (i + 1) * R.getD (i + 1) 0 ≤ 200 * 106 := Nat.mul_le_mul (by omega) h3
    unfold sumS
    omega
theorem s_Pa_checkSymbol {post : Int32 → Prop} {fr : Nat → Int32} {R : List Nat} (hR : isL fr R) (h0 : 0 < R.length) (hl : R.length ≤ 99) (h6 : ∀ j, j < R.length → R.getD j 0 ≤ 106) (h : post (nI (chkS R))) : w_Pa_checkSymbol post (nI R.length) fr := by
  unfold w_Pa_checkSymbol
  rw [show (0 : Int32) = nI 0 from rfl]
  refine s_It_at_in h0 hl (by omega) ?_
  rw [hR 0 h0]
  have main : ∀ r i, i + 1 + r = R.length → w_Pa_checkSymbol_11 post (nI R.length) fr (r + 1) (nI (sumS R i)) (nI (i + 1)) := by
    intro r
    induction r with
    | zero =>
      intro i hi
      have := sumS_le h6 i (by omega) (by omega)
      unfold w_Pa_checkSymbol_11
      refine s_It_count ?_
      refine ⟨fun _ => ?_, fun a => absurd (nI_le (by omega) (by omega)) a⟩
      rw [show (103 : Int32) = nI 103 from rfl, pk_rem (by omega) (by omega) (by omega)]
      unfold chkS at h
      rw [show R.length - 1 = i by omega] at h
      exact h
    | succ r ih =>
      intro i hi
      unfold w_Pa_checkSymbol_11
      refine s_It_count ?_
      refine ⟨fun a => absurd a (nI_ge (by omega) (by omega)), fun _ => ?_⟩
      refine s_It_at_in (by omega) hl (by omega) ?_
      rw [hR (i + 1) (by omega), pk_mul, nI_add, nI_1]
      exact ih (i + 1) (by omega)
  refine ⟨R.length, ?_⟩
  have := main (R.length - 1) 0 (by omega)
  rw [show R.length - 1 + 1 = R.length by omega] at this
  exact this
