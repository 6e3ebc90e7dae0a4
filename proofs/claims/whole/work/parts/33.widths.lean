/-! Tables, and widths written figure by figure. -/
theorem s_Wi_entry {post : Int32 → Prop} {N i : Nat} {t : Nat → Int32} (hi : i < N) (hN : N < 2 ^ 31) (h : post (t i)) : w_Wi_entry post N t (nI i) := by
  unfold w_Wi_entry
  refine ⟨fun a => absurd a (nI_pos (by omega)), fun _ => ⟨fun a => absurd a (nI_ge hi hN), fun _ => ⟨vp_in_nI hi hN, ?_⟩⟩⟩
  rw [nI_clamp (by omega)]
  exact h
theorem s_Wi_placeOf {post : Int32 → Prop} {N : Nat} {t : Nat → Int32} {x : Int32} (hN : N < 2 ^ 31) (h1 : ∀ i, i < N → t i = x → (∀ j, j < i → ¬ t j = x) → post (nI i)) (h2 : (∀ i, i < N → ¬ t i = x) → post (-1)) : w_Wi_placeOf post N t x := by
  have main : ∀ (r i : Nat), i + r = N → (∀ j, j < i → ¬ t j = x) → w_Wi_placeOf_2 post N t x (r + 1) (nI i) := by
    intro r
    induction r with
    | zero =>
      intro i hi hb
      unfold w_Wi_placeOf_2
      refine ⟨fun _ => h2 (fun j hj => hb j (by omega)), fun a => absurd (nI_le (by omega) (by omega)) a⟩
    | succ r ih =>
      intro i hi hb
      unfold w_Wi_placeOf_2
      refine ⟨fun a => absurd a (nI_ge (by omega) (by omega)), fun _ => ⟨vp_in_nI (by omega) hN, fun a => ?_, fun a => ?_⟩⟩
      · rw [nI_clamp (by omega)] at a
        rw [nI_1]
        refine ih (i + 1) (by omega) (fun j hj => ?_)
        by_cases e : j = i
        · rw [e]; exact a
        · exact hb j (by omega)
      · rw [nI_clamp (by omega)] at a
        exact h1 i (by omega) a hb
  unfold w_Wi_placeOf
  exact ⟨N + 1, main N 0 (by omega) (fun j hj => absurd hj (by omega))⟩
/-- the first a of the d figures of w, each times md, behind the first k -/
def appD (f : Nat → Int32) (k a d w md : Nat) : Nat → Int32 := fun j => if k ≤ j ∧ j < k + a then nI (w / 10 ^ (d - 1 - (j - k)) % 10 * md) else f j
theorem appD_0 (f : Nat → Int32) (k d w md : Nat) : appD f k 0 d w md = f := by
  funext j
  unfold appD
  rw [if_neg (by omega)]
theorem appD_s (f : Nat → Int32) {k a d w md s : Nat} (hs : d - 1 - a = s) : upd (appD f k a d w md) (k + a) (nI (w / 10 ^ s % 10 * md)) = appD f k (a + 1) d w md := by
  funext j
  unfold upd appD
  by_cases h : j = k + a
  · rw [if_pos h, if_pos (by omega), h, Nat.add_sub_cancel_left, hs]
  · rw [if_neg h]
    by_cases h2 : k ≤ j ∧ j < k + a
    · rw [if_pos h2, if_pos (by omega)]
    · rw [if_neg h2, if_neg (by omega)]
def tenN (r : Nat) : Nat := if r = 0 then 0 else 10 ^ (r - 1)
theorem tenN_div (s : Nat) : 10 ^ s / 10 = tenN s := by
  unfold tenN
  by_cases h : s = 0
  · rw [if_pos h, h]
  · rw [if_neg h]
    obtain ⟨s', rfl⟩ : ∃ s', s = s' + 1 := ⟨s - 1, by omega⟩
    rw [Nat.pow_succ, Nat.mul_div_cancel _ (by omega), Nat.add_sub_cancel]
theorem ten_le {s : Nat} (h : s ≤ 6) : 10 ^ s ≤ 1000000 := by
  have := Nat.pow_le_pow_right (n := 10) (by omega) h
  exact this
theorem s_Lc_addWidths {post : Int32 → (Nat → Int32) → Prop} {k d w md : Nat} {f : Nat → Int32} (hw : w < 10000000) (hd : ∀ e, e ≤ 6 → (w < 10 ^ e ↔ d ≤ e)) (hd7 : d ≤ 7) (hk : k + d ≤ 800) (h : post (nI (k + d)) (appD f k d d w md)) : w_Lc_addWidths post (nI k) f (nI w) (nI md) := by
  have main : ∀ r : Nat, r ≤ 7 → w_Lc_addWidths_3 post (nI w) (nI md) (r + 1) (nI (k + (d - r))) (appD f k (d - r) d w md) (nI (tenN r)) := by
    intro r
    induction r with
    | zero =>
      intro _
      unfold w_Lc_addWidths_3
      refine ⟨fun _ => ?_, fun a => absurd ?_ a⟩
      · rw [Nat.sub_zero]
        exact h
      · show nI 0 ≤ 0
        exact Int32.le_refl _
    | succ s ih =>
      intro hr
      have hs : s ≤ 6 := by omega
      have h10 := ten_le hs
      have hpos : 0 < 10 ^ s := Nat.pow_pos (by omega)
      have et : tenN (s + 1) = 10 ^ s := by unfold tenN; rw [if_neg (by omega), Nat.add_sub_cancel]
      rw [et]
      unfold w_Lc_addWidths_3
      refine ⟨fun a => absurd a (nI_nle hpos (by omega)), fun _ => ⟨fun a => ?_, fun a => ⟨nI_ne0 hpos (by omega), ?_⟩⟩⟩
      · rw [nI_ltI (by omega) (by omega), hd s hs] at a
        rw [show (10 : Int32) = nI 10 from rfl, pk_div (by omega) (by omega) (by omega), tenN_div]
        have := ih (by omega)
        rw [show d - s = 0 by omega] at this
        rw [show d - (s + 1) = 0 by omega]
        exact this
      · rw [nI_ltI (by omega) (by omega), hd s hs] at a
        refine s_It_add (by omega) (by omega) ?_
        have hq : w / 10 ^ s ≤ w := Nat.div_le_self _ _
        rw [show (10 : Int32) = nI 10 from rfl, pk_div (by omega) hpos (by omega), pk_rem (by omega) (by omega) (by omega), pk_mul, appD_s f (by omega), pk_div (by omega) (by omega) (by omega), tenN_div]
        have := ih (by omega)
        rw [show d - s = d - (s + 1) + 1 by omega] at this
        rw [show k + (d - (s + 1)) + 1 = k + (d - (s + 1) + 1) by omega]
        exact this
  unfold w_Lc_addWidths
  refine ⟨8, ?_⟩
  have := main 7 (by omega)
  rw [show d - 7 = 0 by omega, appD_0, Nat.add_zero] at this
  exact this
