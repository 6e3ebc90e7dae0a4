/-! The class's row: which set next, which symbols, the row as a list. -/
def pickN (K : Nat → Nat → Nat) (p s : Nat) : Nat := if ¬ 2 = s ∧ 1 + K p 2 = K p s then 2 else if ¬ 1 = s ∧ 1 + K p 1 = K p s then 1 else if ¬ 0 = s ∧ 1 + K p 0 = K p s then 0 else s
def nxtN (tx : Nat → Nat) (n : Nat) (K : Nat → Nat → Nat) (p s : Nat) : Nat := if ¬ tx p = 128 ∧ tellN tx n K p s = K p s then s else pickN K p s
theorem s_Pa_next44 {post : Int32 → Prop} {n p s : Nat} {K : Nat → Nat → Nat} {f : Nat → Int32} (hn : n ≤ 64) (hp : p ≤ n) (hs : s < 3) (hK : okC f n K p) (hb : ∀ s, s < 3 → K p s ≤ 1000001) (h : post (nI (pickN K p s))) : ∃ m, w_Pa_nextSet_44 post f (nI p) (nI s) m 2 := by
  refine ⟨4, ?_⟩
  have hbs := hb s hs
  have one : ∀ (y m : Nat), y < 3 → (¬ y = s ∧ 1 + K p y = K p s → post (nI y)) → (¬ (¬ y = s ∧ 1 + K p y = K p s) → w_Pa_nextSet_44 post f (nI p) (nI s) m (nI y + (-1))) → w_Pa_nextSet_44 post f (nI p) (nI s) (m + 1) (nI y) := by
    intro y m hy h1 h2
    have hby := hb y hy
    unfold w_Pa_nextSet_44
    refine ⟨fun a => absurd a (nI_pos (by omega)), fun _ => ?_⟩
    rw [nI_eq (by omega) (by omega)]
    refine ⟨fun a => h2 (fun z => z.1 a), fun a => ?_⟩
    refine s_Pa_cost (by omega) ?_
    refine s_Pa_cost (by omega) ?_
    rw [hK p y (by omega) hp hy, hK p s (by omega) hp hs, show (1 : Int32) = nI 1 from rfl, nI_add, nI_eq (by omega) (by omega)]
    exact ⟨fun b => h2 (fun z => b z.2), fun b => h1 ⟨a, b⟩⟩
  unfold pickN at h
  refine one 2 3 (by omega) (fun c => by rw [if_pos c] at h; exact h) (fun c => ?_)
  rw [if_neg c] at h
  rw [show nI 2 + (-1) = nI 1 from rfl]
  refine one 1 2 (by omega) (fun c => by rw [if_pos c] at h; exact h) (fun c => ?_)
  rw [if_neg c] at h
  rw [show nI 1 + (-1) = nI 0 from rfl]
  refine one 0 1 (by omega) (fun c => by rw [if_pos c] at h; exact h) (fun c => ?_)
  rw [if_neg c] at h
  unfold w_Pa_nextSet_44
  exact ⟨fun _ => h, fun a => absurd (by decide) a⟩
theorem s_Pa_nextSet {post : Int32 → Prop} {tx : Nat → Nat} {n p s : Nat} {K : Nat → Nat → Nat} {ft f : Nat → Int32} (hn : n ≤ 64) (hp : p < n) (hs : s < 3) (hT : okT ft n tx) (hK : okC f n K p) (hb : ∀ s, s < 3 → K p s ≤ 1000001) (hbt : tellN tx n K p s ≤ 1000001) (h : post (nI (nxtN tx n K p s))) : w_Pa_nextSet post (nI n) ft f (nI p) (nI s) := by
  unfold w_Pa_nextSet
  refine s_It_at_in hp hn (by omega) ?_
  obtain ⟨hc1, hc⟩ := hT p hp
  rw [hc1]
  have e128 : nI (tx p) = 128 ↔ tx p = 128 := nI_eq (b := 128) (by omega) (by omega)
  have hbs := hb s hs
  unfold nxtN at h
  refine ⟨fun a => ?_, fun a => ?_⟩
  · have a' := mt e128.mpr a
    refine s_Pa_costOfTelling hn hp hs hT (fun p' s' h1 h2 h3 => hK p' s' (by omega) h2 h3) ?_
    refine s_Pa_cost (by omega) ?_
    rw [hK p s (by omega) (by omega) hs, nI_eq (by omega) (by omega)]
    refine ⟨fun b => ?_, fun b => ?_⟩
    · rw [if_neg (fun z => b z.2)] at h
      exact s_Pa_next44 hn (by omega) hs hK hb h
    · rw [if_pos ⟨a', b⟩] at h
      exact h
  · rw [if_neg (fun z => z.1 (e128.mp a))] at h
    exact s_Pa_next44 hn (by omega) hs hK hb h
theorem getD_l {l r : List Nat} {j : Nat} (h : j < l.length) : (l ++ r).getD j 0 = l.getD j 0 := by
  rw [List.getD_eq_getElem?_getD, List.getD_eq_getElem?_getD, List.getElem?_append_left h]
theorem getD_r {l r : List Nat} {j : Nat} (h : l.length ≤ j) : (l ++ r).getD j 0 = r.getD (j - l.length) 0 := by
  rw [List.getD_eq_getElem?_getD, List.getD_eq_getElem?_getD, List.getElem?_append_right h]
theorem getD_at {l : List Nat} {j : Nat} (h : j < l.length) : l.getD j 0 = l[j] := by
  rw [List.getD_eq_getElem?_getD, List.getElem?_eq_getElem h]
  rfl
/-- the first k places of f are the list R -/
def isL (f : Nat → Int32) (R : List Nat) : Prop := ∀ j, j < R.length → f j = nI (R.getD j 0)
theorem isL_upd {f : Nat → Int32} {R : List Nat} {v : Nat} (h : isL f R) : isL (upd f R.length (nI v)) (R ++ [v]) := by
  intro j hj
  rw [List.length_append, List.length_singleton] at hj
  unfold upd
  by_cases e : j = R.length
  · rw [if_pos e, e, getD_r (Nat.le_refl _), Nat.sub_self]
    rfl
  · rw [if_neg e, getD_l (by omega)]
    exact h j (by omega)
theorem s_add_L {post : Int32 → Int32 → (Nat → Int32) → Prop} {N v : Nat} {f : Nat → Int32} {R : List Nat} (hR : isL f R) (hl : R.length < N) (hN : N < 2 ^ 31) (h : ∀ f', isL f' (R ++ [v]) → post 1 (nI (R ++ [v]).length) f') : w_It_add post N (nI R.length) f (nI v) := by
  refine s_It_add hl hN ?_
  have := h _ (isL_upd hR)
  rw [List.length_append, List.length_singleton] at this
  exact this
/-- the other one of A and B -/
def othN (s : Nat) : Nat := if s = 0 then 1 else 0
/-- the symbols that tell at place p in set s -/
def tlSym (tx : Nat → Nat) (p s : Nat) : List Nat :=
  if tx p = 128 then [102]
  else if s = 2 then [10 * (tx p - 48) + (tx (p + 1) - 48)]
  else match symN s (tx p) with
    | some v => [v]
    | none => [98, (symN (othN s) (tx p)).getD 0]
def tlLen (tx : Nat → Nat) (p s : Nat) : Nat := if ¬ tx p = 128 ∧ s = 2 then 2 else 1
theorem symN_oth {s c : Nat} (hs : s < 2) (hc : c < 128) (h : symN s c = none) : ∃ v, symN (othN s) c = some v := by
  unfold symN othN at *
  have hs' : s = 0 ∨ s = 1 := by omega
  rcases hs' with rfl | rfl
  · rw [if_neg (by omega)] at h
    by_cases h32 : 32 ≤ c
    · rw [if_pos h32] at h
      refine ⟨c - 32, ?_⟩
      rw [if_neg (by omega), if_pos h32, if_pos (Or.inl (by decide))]
    · rw [if_neg h32, if_pos rfl] at h
      cases h
  · rw [if_neg (by omega)] at h
    by_cases h32 : 32 ≤ c
    · rw [if_pos h32, if_pos (Or.inl rfl)] at h
      cases h
    · refine ⟨c + 64, ?_⟩
      rw [if_neg (by omega), if_neg h32, if_pos (by decide)]
theorem s_Se_otherOfAB {post : Int32 → Prop} {s : Nat} (hs : s < 2 ^ 31) (h : post (nI (othN s))) : w_Se_otherOfAB post (nI s) := by
  unfold w_Se_otherOfAB
  rw [show (nI s = 0) = (nI s = nI 0) from rfl, nI_eq hs (by omega)]
  unfold othN at h
  exact ⟨fun a => by rw [if_neg a] at h; exact h, fun a => by rw [if_pos a] at h; exact h⟩
theorem s_Pa_addTold {post : Int32 → Int32 → (Nat → Int32) → Prop} {tx : Nat → Nat} {n p s : Nat} {ft fr : Nat → Int32} {R : List Nat} (hn : n ≤ 64) (hp : p < n) (hs : s < 3) (hT : okT ft n tx) (hR : isL fr R) (hl : R.length + (tlSym tx p s).length ≤ 99) (hpair : ¬ tx p = 128 → s = 2 → figB (tx p) ∧ p + 1 < n ∧ figB (tx (p + 1))) (h : ∀ f', isL f' (R ++ tlSym tx p s) → post (nI (tlLen tx p s)) (nI (R ++ tlSym tx p s).length) f') : w_Pa_addTold post (nI n) ft (nI R.length) fr (nI p) (nI s) := by
  unfold w_Pa_addTold
  refine s_It_at_in hp hn (by omega) ?_
  obtain ⟨hc1, hc⟩ := hT p hp
  rw [hc1]
  have e128 : nI (tx p) = 128 ↔ tx p = 128 := nI_eq (b := 128) (by omega) (by omega)
  have e2 : nI s = 2 ↔ s = 2 := nI_eq (b := 2) (by omega) (by omega)
  unfold tlSym tlLen at h
  unfold tlSym at hl
  refine ⟨fun a => ?_, fun a => ?_⟩
  · have a' := mt e128.mpr a
    rw [if_neg a'] at hl
    rw [if_neg a'] at h
    refine ⟨fun b => ?_, fun b => ?_⟩
    · have b' := mt e2.mpr b
      rw [if_neg b'] at hl
      rw [if_neg b', if_neg (fun z => b' z.2)] at h
      refine s_Se_symbolOf (by omega) (by omega) (fun v hv => ⟨fun _ => ?_, fun z => absurd z (nI_nm1 (by have := symN_lt hv; omega))⟩) (fun hv => ⟨fun z => absurd rfl z, fun _ => ?_⟩)
      · rw [hv] at hl h
        exact s_add_L hR (by simp at hl; omega) (by omega) h
      · rw [hv] at hl h
        obtain ⟨v, hv2⟩ := symN_oth (s := s) (by omega) (by omega) hv
        rw [hv2] at hl h
        refine s_add_L (v := 98) hR (by simp at hl; omega) (by omega) (fun f1 h1 => ?_)
        refine s_Se_otherOfAB (by omega) ?_
        refine s_Se_symbolOf (by unfold othN; split <;> omega) (by omega) (fun v' hv' => ?_) (fun hv' => by rw [hv2] at hv'; cases hv')
        rw [hv2] at hv'
        cases hv'
        refine s_add_L h1 (by simp at hl ⊢; omega) (by omega) (fun f2 h2 => ?_)
        have e : R ++ [98] ++ [v] = R ++ [98, v] := by simp
        rw [e] at h2 ⊢
        exact h f2 h2
    · have b' := e2.mp b
      rw [if_pos b'] at hl
      rw [if_pos b', if_pos ⟨a', b'⟩] at h
      obtain ⟨fa, hq, fb⟩ := hpair a' b'
      rw [nI_1]
      refine s_It_at_in hq hn (by omega) ?_
      obtain ⟨hd1, hd⟩ := hT (p + 1) hq
      rw [hd1]
      refine s_Se_pairOf (by omega) (by omega) (fun _ _ => ?_) (fun z => absurd ⟨fa, fb⟩ z)
      exact s_add_L hR (by simp at hl; omega) (by omega) h
  · have a' := e128.mp a
    rw [if_pos a'] at hl
    rw [if_pos a', if_neg (fun z => z.1 a')] at h
    exact s_add_L (v := 102) hR (by simp at hl; omega) (by omega) h
