/-! What the class's rows of numbers do, in numbers: k of n places are in use. -/
theorem s_It_at_in {post : Int32 → Prop} {n k j : Nat} {f : Nat → Int32} (hj : j < k) (hk : k ≤ n) (hn : n < 2 ^ 31) (h : post (f j)) : w_It_at post n (nI k) f (nI j) := by
  unfold w_It_at
  refine ⟨fun a => absurd a (nI_pos (by omega)), fun _ => ⟨fun a => absurd a (nI_ge hj (by omega)), fun _ => ⟨fun a => absurd a (nI_ge (by omega) hn), fun _ => ⟨vp_in_nI (by omega) hn, ?_⟩⟩⟩⟩
  rw [nI_clamp (by omega)]
  exact h
theorem s_It_at_no {post : Int32 → Prop} {n k : Nat} {f : Nat → Int32} {i : Int32} (hi : i < 0 ∨ nI k ≤ i) (h : post (-1)) : w_It_at post n (nI k) f i := by
  unfold w_It_at
  refine ⟨fun _ => h, fun a => ⟨fun _ => h, fun b => ?_⟩⟩
  rcases hi with hi | hi
  · exact absurd hi a
  · exact absurd hi b
/-- entry i of the first k, -1 where there is none -/
def atN (k : Nat) (f : Nat → Int32) (i : Int32) : Int32 := if i < 0 then -1 else if nI k ≤ i then -1 else f i.toNatClampNeg
theorem atN_in {k j : Nat} {f : Nat → Int32} (hj : j < k) (hk : k < 2 ^ 31) : atN k f (nI j) = f j := by
  unfold atN
  rw [if_neg (nI_pos (by omega)), if_neg (nI_ge hj hk), nI_clamp (by omega)]
theorem s_It_at {post : Int32 → Prop} {n k : Nat} {f : Nat → Int32} {i : Int32} (hk : k ≤ n) (hn : n < 2 ^ 31) (h : post (atN k f i)) : w_It_at post n (nI k) f i := by
  rcases pk_ix i (n := k) (by omega) with a | a | ⟨j, hj, rfl⟩
  · unfold atN at h
    rw [if_pos a] at h
    exact s_It_at_no (Or.inl a) h
  · unfold atN at h
    rw [if_pos a, ite_self] at h
    exact s_It_at_no (Or.inr a) h
  · rw [atN_in hj (by omega)] at h
    exact s_It_at_in hj hk hn h
theorem s_It_add {post : Int32 → Int32 → (Nat → Int32) → Prop} {n k : Nat} {f : Nat → Int32} {x : Int32} (hk : k < n) (hn : n < 2 ^ 31) (h : post 1 (nI (k + 1)) (upd f k x)) : w_It_add post n (nI k) f x := by
  unfold w_It_add
  refine ⟨fun a => absurd a (nI_pos (by omega)), fun _ => ⟨fun _ => ⟨vp_in_nI hk hn, ?_⟩, fun a => absurd (nI_lt hk hn) a⟩⟩
  rw [nI_clamp (by omega), nI_1]
  exact h
theorem s_It_replace_in {post : Int32 → (Nat → Int32) → Prop} {n k j : Nat} {f : Nat → Int32} {x : Int32} (hj : j < k) (hk : k ≤ n) (hn : n < 2 ^ 31) (h : post (f j) (upd f j x)) : w_It_replace post n (nI k) f (nI j) x := by
  unfold w_It_replace
  refine ⟨fun a => absurd a (nI_pos (by omega)), fun _ => ⟨fun a => absurd a (nI_ge hj (by omega)), fun _ => ⟨fun _ => ⟨vp_in_nI (by omega) hn, vp_in_nI (by omega) hn, ?_⟩, fun a => absurd (nI_lt (by omega) hn) a⟩⟩⟩
  rw [nI_clamp (by omega)]
  exact h
theorem s_It_hasRoomFor {post : Int32 → Prop} {n k q : Nat} (hk : k ≤ n) (hn : n < 2 ^ 30) (hq : q < 2 ^ 30) (h : post (if k + q ≤ n then 1 else 0)) : w_It_hasRoomFor post n (nI k) (nI q) := by
  unfold w_It_hasRoomFor
  rw [pk_sub hk]
  refine ⟨fun a => ?_, fun a => ?_⟩
  · rw [nI_ltI (by omega) (by omega)] at a
    rw [if_neg (by omega)] at h
    exact h
  · rw [nI_ltI (by omega) (by omega)] at a
    rw [if_pos (by omega)] at h
    exact h
/-- the first k the other way round -/
def revN (k : Nat) (f : Nat → Int32) : Nat → Int32 := fun j => if j < k then f (k - 1 - j) else f j
/-- the first i and the last i of k are changed for each other -/
def revI (k i : Nat) (f : Nat → Int32) : Nat → Int32 := fun j => if j < i ∨ (k - i ≤ j ∧ j < k) then f (k - 1 - j) else f j
theorem revI_0 (k : Nat) (f : Nat → Int32) : revI k 0 f = f := by
  funext j
  unfold revI
  by_cases h : j < 0 ∨ (k - 0 ≤ j ∧ j < k)
  · omega
  · rw [if_neg h]
theorem revI_half (k : Nat) (f : Nat → Int32) : revI k (k / 2) f = revN k f := by
  funext j
  unfold revI revN
  by_cases h : j < k
  · rw [if_pos h]
    by_cases h2 : j < k / 2 ∨ (k - k / 2 ≤ j ∧ j < k)
    · rw [if_pos h2]
    · rw [if_neg h2, show k - 1 - j = j by omega]
  · rw [if_neg h, if_neg (by omega)]
theorem revI_step {k i : Nat} (f : Nat → Int32) (hi : i < k / 2) : upd (upd (revI k i f) (k - 1 - i) (revI k i f i)) i (revI k i f (k - 1 - i)) = revI k (i + 1) f := by
  funext j
  have e1 : revI k i f i = f i := by unfold revI; rw [if_neg (by omega)]
  have e2 : revI k i f (k - 1 - i) = f (k - 1 - i) := by unfold revI; rw [if_neg (by omega)]
  rw [e1, e2]
  unfold upd
  by_cases h1 : j = i
  · rw [if_pos h1]
    unfold revI
    rw [if_pos (by omega), h1]
  · rw [if_neg h1]
    by_cases h2 : j = k - 1 - i
    · rw [if_pos h2]
      unfold revI
      rw [if_pos (by omega), show k - 1 - j = i by omega]
    · rw [if_neg h2]
      unfold revI
      by_cases h3 : j < i ∨ (k - i ≤ j ∧ j < k)
      · rw [if_pos h3, if_pos (by omega)]
      · rw [if_neg h3, if_neg (by omega)]
theorem s_It_reverse {post : (Nat → Int32) → Prop} {n k : Nat} {f : Nat → Int32} (hk : k ≤ n) (hn : n < 2 ^ 30) (h : post (revN k f)) : w_It_reverse post n (nI k) f := by
  have main : ∀ (r i : Nat), i + r = k / 2 → w_It_reverse_2 post n (nI k) (r + 1) (revI k i f) (nI i) := by
    intro r
    induction r with
    | zero =>
      intro i hi
      unfold w_It_reverse_2
      refine ⟨fun _ => ?_, fun a => absurd ?_ a⟩
      · rw [show i = k / 2 by omega, revI_half]
        exact h
      · rw [show (2 : Int32) = nI 2 from rfl, pk_div (by omega) (by omega) (by omega)]
        exact nI_le (by omega) (by omega)
    | succ r ih =>
      intro i hi
      unfold w_It_reverse_2
      refine ⟨fun a => absurd a ?_, fun _ => ?_⟩
      · rw [show (2 : Int32) = nI 2 from rfl, pk_div (by omega) (by omega) (by omega)]
        exact nI_ge (by omega) (by omega)
      · refine s_It_at_in (j := i) (by omega) hk (by omega) ?_
        rw [show nI k - 1 - nI i = nI (k - 1 - i) by rw [show (1 : Int32) = nI 1 from rfl, pk_sub (by omega), pk_sub (by omega)]]
        refine s_It_replace_in (by omega) hk (by omega) ?_
        refine s_It_replace_in (by omega) hk (by omega) ?_
        rw [revI_step f (by omega), nI_1]
        exact ih (i + 1) (by omega)
  unfold w_It_reverse
  refine ⟨k / 2 + 1, ?_⟩
  have := main (k / 2) 0 (by omega)
  rw [revI_0] at this
  exact this
theorem s_It_count {post : Int32 → Prop} {c : Int32} (h : post c) : w_It_count post c := h
theorem s_It_empty {post : Int32 → Int32 → Prop} {c : Int32} (h : post c 0) : w_It_empty post c := h
theorem ite_nI {α : Type} {a b : Nat} {x y : α} (ha : a < 2 ^ 31) (hb : b < 2 ^ 31) : (if nI a < nI b then x else y) = if a < b then x else y := by
  by_cases h : a < b
  · rw [if_pos h, if_pos ((nI_ltI ha hb).mpr h)]
  · rw [if_neg h, if_neg (fun z => h ((nI_ltI ha hb).mp z))]
