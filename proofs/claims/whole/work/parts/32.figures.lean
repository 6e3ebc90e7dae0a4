/-! Figures of a number of twelve, by place. -/
def figN (t pl : Nat) : Nat := t / 10 ^ (11 - pl) % 10
def wtN (pl : Nat) : Nat := if pl % 2 = 0 then 1 else 3
def sumW (t : Nat) : Nat → Nat
  | 0 => 0
  | i + 1 => sumW t i + wtN i * figN t i
def chkN (t : Nat) : Nat := (10 - sumW t 12 % 10) % 10
theorem figN_lt (t pl : Nat) : figN t pl < 10 := Nat.mod_lt _ (by omega)
theorem sumW_le (t : Nat) : ∀ i : Nat, sumW t i ≤ 27 * i
  | 0 => by unfold sumW; omega
  | i + 1 => by
    have h1 := sumW_le t i
    have h2 := figN_lt t i
    unfold sumW wtN
    split <;> omega
theorem l10 : (10 : Int64) = lN 10 := rfl
theorem lN_rem10 {a : Nat} (h : a < 2 ^ 63) : (lN a - lN a / 10 * 10).toInt32 = nI (a % 10) := by
  rw [l10, pk_lRem h (by omega) (by omega), lN_i]
theorem s_Fi_figureOf {post : Int32 → Prop} {t pl : Nat} (ht : t < 2 ^ 62) (hp : pl ≤ 11) (h : post (nI (figN t pl))) : w_Fi_figureOf post (lN t) (nI pl) := by
  have main : ∀ (r i : Nat), i = pl + r → i ≤ 11 → w_Fi_figureOf_6 post (nI pl) (r + 1) (lN (t / 10 ^ (11 - i))) (nI i) := by
    intro r
    induction r with
    | zero =>
      intro i hi h11
      unfold w_Fi_figureOf_6
      refine ⟨fun _ => ?_, fun a => absurd (nI_le (by omega) (by omega)) a⟩
      have : t / 10 ^ (11 - i) ≤ t := Nat.div_le_self _ _
      rw [lN_rem10 (by omega), show i = pl by omega]
      exact h
    | succ r ih =>
      intro i hi h11
      unfold w_Fi_figureOf_6
      refine ⟨fun a => absurd a (nI_ge (by omega) (by omega)), fun _ => ?_⟩
      have : t / 10 ^ (11 - i) ≤ t := Nat.div_le_self _ _
      obtain ⟨i', rfl⟩ : ∃ i', i = i' + 1 := ⟨i - 1, by omega⟩
      rw [l10, pk_lDiv (by omega) (by omega) (by omega), pk_m1, Nat.div_div_eq_div_mul, ← Nat.pow_succ, show (11 - (i' + 1)).succ = 11 - i' by omega]
      exact ih i' (by omega) (by omega)
  unfold w_Fi_figureOf
  refine ⟨11 - pl + 1, ?_⟩
  have := main (11 - pl) 11 (by omega) (by omega)
  rw [show 11 - 11 = 0 from rfl, Nat.pow_zero, Nat.div_one] at this
  exact this
theorem s_Fi_weightOf {post : Int32 → Prop} {pl : Nat} (hp : pl < 2 ^ 31) (h : post (nI (wtN pl))) : w_Fi_weightOf post (nI pl) := by
  unfold w_Fi_weightOf
  rw [show (2 : Int32) = nI 2 from rfl, pk_rem hp (by omega) (by omega), show (0 : Int32) = nI 0 from rfl, nI_eq (by omega) (by omega)]
  unfold wtN at h
  refine ⟨fun a => ?_, fun a => ?_⟩
  · rw [if_neg a] at h
    exact h
  · rw [if_pos a] at h
    exact h
theorem s_Fi_checkOf {post : Int32 → Prop} {t : Nat} (ht : t < 2 ^ 62) (h : post (nI (chkN t))) : w_Fi_checkOf post (lN t) := by
  have main : ∀ (r i : Nat), i + r = 12 → w_Fi_checkOf_4 post (lN t) (r + 1) (nI (sumW t i)) (nI i) := by
    intro r
    induction r with
    | zero =>
      intro i hi
      unfold w_Fi_checkOf_4
      refine ⟨fun _ => ?_, fun a => absurd ?_ a⟩
      · have := sumW_le t i
        rw [show (10 : Int32) = nI 10 from rfl, pk_rem (by omega) (by omega) (by omega), pk_sub (by omega), pk_rem (by omega) (by omega) (by omega), show i = 12 by omega]
        exact h
      · rw [show (12 : Int32) = nI 12 from rfl]
        exact nI_le (by omega) (by omega)
    | succ r ih =>
      intro i hi
      unfold w_Fi_checkOf_4
      refine ⟨fun a => absurd a ?_, fun _ => ?_⟩
      · rw [show (12 : Int32) = nI 12 from rfl]
        exact nI_ge (by omega) (by omega)
      · refine s_Fi_weightOf (by omega) ?_
        refine s_Fi_figureOf ht (by omega) ?_
        rw [pk_mul, nI_add, nI_1]
        exact ih (i + 1) (by omega)
  unfold w_Fi_checkOf
  exact ⟨13, main 12 0 (by omega)⟩
