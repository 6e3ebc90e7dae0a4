/-! The reference's table of costs. -/
theorem s_Md_at {post : Int32 → Prop} {tx : Nat → Nat} {n p : Nat} {ft : Nat → Int32} (hn : n ≤ 64) (hp : p ≤ 65) (hT : okT ft n tx) (h1 : p < n → post (nI (tx p))) (h0 : ¬ p < n → post (-1)) : w_Md_at post (nI n) ft (nI p) := by
  unfold w_Md_at
  refine pk_le n p (fun c => h0 (by omega)) (fun c => ⟨pk_in p 64 (by omega), ?_⟩)
  rw [nI_clamp (by omega), (hT p c).1]
  exact h1 c
/-- the sign that symbol y tells in set s, A or B -/
def sgnN (s y : Nat) : Nat := if s = 1 then y + 32 else if 64 ≤ y then y - 64 else y + 32
theorem s_Md_signOf {post : Int32 → Prop} {s y : Nat} (hs : s < 2 ^ 31) (hy : y < 2 ^ 30) (h : post (nI (sgnN s y))) : w_Md_signOf post (nI s) (nI y) := by
  unfold w_Md_signOf
  unfold sgnN at h
  refine pk_eq s 1 (fun c => ?_) (fun c => pk_le 64 y (fun d => ?_) (fun d => ?_))
  · rw [if_pos c] at h
    rw [show (32 : Int32) = nI 32 from rfl, nI_add]
    exact h
  · rw [if_neg c, if_pos d] at h
    rw [show (64 : Int32) = nI 64 from rfl, pk_sub d]
    exact h
  · rw [if_neg c, if_neg (by omega)] at h
    rw [show (32 : Int32) = nI 32 from rfl, nI_add]
    exact h
theorem sgn_sym {s c y : Nat} (hs : s < 2) (hc : c ≤ 128) (hy : y < 96) : c = sgnN s y ↔ symN s c = some y := by
  unfold sgnN symN
  have hs' : s = 0 ∨ s = 1 := by omega
  rcases hs' with rfl | rfl
  · rw [if_neg (by omega)]
    by_cases c1 : 128 ≤ c
    · rw [if_pos c1]
      refine ⟨fun z => ?_, fun z => by cases z⟩
      split at z <;> omega
    · rw [if_neg c1]
      by_cases c2 : 32 ≤ c
      · rw [if_pos c2]
        by_cases c3 : c ≤ 95
        · rw [if_pos (Or.inr c3), Option.some.injEq]
          split <;> omega
        · rw [if_neg (show ¬ (0 = 1 ∨ c ≤ 95) by omega)]
          refine ⟨fun z => ?_, fun z => by cases z⟩
          split at z <;> omega
      · rw [if_neg c2, if_pos rfl, Option.some.injEq]
        split <;> omega
  · rw [if_pos rfl]
    by_cases c1 : 128 ≤ c
    · rw [if_pos c1]
      refine ⟨fun z => ?_, fun z => by cases z⟩
      omega
    · rw [if_neg c1]
      by_cases c2 : 32 ≤ c
      · rw [if_pos c2, if_pos (Or.inl rfl), Option.some.injEq]
        omega
      · rw [if_neg c2, if_neg (by omega)]
        refine ⟨fun z => ?_, fun z => by cases z⟩
        omega
theorem symN_lt96 {s c v : Nat} (h : symN s c = some v) : v < 96 := by
  unfold symN at h
  split at h
  · cases h
  · split at h
    · split at h
      · cases h; omega
      · cases h
    · split at h
      · cases h; omega
      · cases h
theorem symN_128 {s v : Nat} : ¬ symN s 128 = some v := by
  unfold symN
  rw [if_pos (by omega)]
  exact fun z => by cases z
/-- how many signs symbol y tells at place p in set s -/
def tlsN (tx : Nat → Nat) (n p s y : Nat) : Nat :=
  if y = 102 then (if tx p = 128 then 1 else 0)
  else if s = 2 then (if y < 100 ∧ tx p = 48 + y / 10 ∧ p + 1 < n ∧ tx (p + 1) = 48 + y % 10 then 2 else 0)
  else if y < 96 ∧ tx p = sgnN s y then 1 else 0
theorem tlsN_le (tx : Nat → Nat) (n p s y : Nat) : tlsN tx n p s y ≤ 2 := by
  unfold tlsN
  split
  · split <;> omega
  · split
    · split <;> omega
    · split <;> omega
theorem s_Md_tells {post : Int32 → Prop} {tx : Nat → Nat} {n p s y : Nat} {ft : Nat → Int32} (hn : n ≤ 64) (hp : p < n) (hs : s < 3) (hy : y < 2 ^ 30) (hT : okT ft n tx) (h1 : 1 ≤ tlsN tx n p s y → post (nI (tlsN tx n p s y))) (h0 : tlsN tx n p s y = 0 → post (-1)) : w_Md_tells post (nI n) ft (nI p) (nI s) (nI y) := by
  unfold w_Md_tells
  have htp := (hT p hp).2
  have hd : nI y / 10 = nI (y / 10) := by rw [show (10 : Int32) = nI 10 from rfl, pk_div (by omega) (by omega) (by omega)]
  unfold tlsN at h1 h0
  refine And.symm (pk_eq y 102 (fun c => ?_) (fun c => And.symm (pk_eq s 2 (fun d => pk_le 100 y (fun e => ?_) (fun e => ?_)) (fun d => pk_le 96 y (fun e => ?_) (fun e => pk_le n p (fun z => absurd z (by omega)) (fun _ => ?_)))))) 
  · rw [if_pos c] at h1 h0
    refine s_Md_at hn (by omega) hT (fun _ => And.symm (pk_eq (tx p) 128 (fun e => ?_) (fun e => ?_))) (fun z => absurd hp z)
    · rw [if_pos e] at h1
      exact h1 (by omega)
    · rw [if_neg e] at h0
      exact h0 rfl
  · rw [if_neg c, if_pos d, if_neg (fun z => by omega)] at h0
    exact h0 rfl
  · rw [if_neg c, if_pos d] at h1 h0
    have no : ¬ (y < 100 ∧ tx p = 48 + y / 10 ∧ p + 1 < n ∧ tx (p + 1) = 48 + y % 10) → post (-1) := fun z => by
      rw [if_neg z] at h0
      exact h0 rfl
    unfold w_Md_isPair
    rw [hd, show (48 : Int32) = nI 48 from rfl, nI_add, show (10 : Int32) = nI 10 from rfl, nI_1]
    have hr : nI y - nI (y / 10) * nI 10 = nI (y % 10) := by rw [← pk_div (a := y) (d := 10) (by omega) (by omega) (by omega), pk_rem (by omega) (by omega) (by omega)]
    rw [hr, nI_add]
    refine s_Md_at hn (by omega) hT (fun _ => And.symm (pk_eq (tx p) (48 + y / 10) (fun e1 => ?_) (fun e1 => ⟨fun _ => no (fun z => e1 z.2.1), fun z => absurd rfl z⟩))) (fun z => absurd hp z)
    refine s_Md_at hn (by omega) hT (fun q => And.symm (pk_eq (tx (p + 1)) (48 + y % 10) (fun e2 => ⟨fun z => absurd z (by decide), fun _ => ?_⟩) (fun e2 => ⟨fun _ => no (fun z => e2 z.2.2.2), fun z => absurd rfl z⟩) rfl rfl (by have := (hT (p + 1) q).2; omega))) (fun q => ⟨fun _ => ⟨fun _ => no (fun z => q z.2.2.1), fun z => absurd rfl z⟩, fun z => absurd z.symm (nI_nm1 (by omega))⟩)
    rw [if_pos ⟨e, e1, q, e2⟩] at h1
    exact h1 (by omega)
  · rw [if_neg c, if_neg d, if_neg (fun z => by omega)] at h0
    exact h0 rfl
  · rw [if_neg c, if_neg d] at h1 h0
    refine s_Md_at hn (by omega) hT (fun _ => s_Md_signOf (by omega) (by omega) ?_) (fun z => absurd hp z)
    refine And.symm (pk_eq (tx p) (sgnN s y) (fun e1 => ?_) (fun e1 => ?_) rfl rfl (by omega) (by unfold sgnN; split; omega; split <;> omega))
    · rw [if_pos ⟨e, e1⟩] at h1
      exact h1 (by omega)
    · rw [if_neg (fun z => e1 z.2)] at h0
      exact h0 rfl
/-- the set that symbol y changes to, 3 for none -/
def gosN (s y : Nat) : Nat := if y = 99 then (if s = 2 then 3 else 2) else if y = 100 then (if s = 1 then 3 else 1) else if y = 101 then (if s = 0 then 3 else 0) else 3
theorem s_Md_goes {post : Int32 → Prop} {s y : Nat} (hs : s < 3) (hy : y < 2 ^ 30) (h1 : gosN s y < 3 → post (nI (gosN s y))) (h0 : gosN s y = 3 → post (-1)) : w_Md_goes post (nI s) (nI y) := by
  unfold w_Md_goes
  unfold gosN at h1 h0
  refine And.symm (pk_eq y 99 (fun c => And.symm (pk_eq 2 s (fun d => ?_) (fun d => ?_))) (fun c => And.symm (pk_eq y 100 (fun c2 => And.symm (pk_eq 1 s (fun d => ?_) (fun d => ?_))) (fun c2 => And.symm (pk_eq y 101 (fun c3 => And.symm (pk_eq 0 s (fun d => ?_) (fun d => ?_))) (fun c3 => ?_)))))) 
  · rw [if_pos c, if_pos (by omega)] at h0
    exact h0 rfl
  · rw [if_pos c, if_neg (by omega)] at h1
    exact h1 (by omega)
  · rw [if_neg c, if_pos c2, if_pos (by omega)] at h0
    exact h0 rfl
  · rw [if_neg c, if_pos c2, if_neg (by omega)] at h1
    exact h1 (by omega)
  · rw [if_neg c, if_neg c2, if_pos c3, if_pos (by omega)] at h0
    exact h0 rfl
  · rw [if_neg c, if_neg c2, if_pos c3, if_neg (by omega)] at h1
    exact h1 (by omega)
  · rw [if_neg c, if_neg c2, if_neg c3] at h0
    exact ⟨fun _ => h0 rfl, fun _ => h0 rfl⟩
theorem s_Md_leastAt {post : Int32 → Prop} {f : Nat → Int32} {p s : Nat} (hi : 3 * p + s < 198) (h : post (f (3 * p + s))) : w_Md_leastAt post f (nI p) (nI s) := by
  unfold w_Md_leastAt
  rw [show (3 : Int32) = nI 3 from rfl, pk_mul, nI_add, nI_clamp (by omega)]
  exact ⟨pk_in (3 * p + s) 198 hi, h⟩
theorem tls_sym {tx : Nat → Nat} {n p s y : Nat} (hs : s < 2) (hc : tx p ≤ 128) (hy : y < 96) : tlsN tx n p s y = 1 ↔ symN s (tx p) = some y := by
  unfold tlsN
  rw [if_neg (by omega), if_neg (by omega), ← sgn_sym hs hc hy]
  constructor
  · intro h
    split at h
    · rename_i q
      exact q.2
    · omega
  · intro h
    rw [if_pos ⟨hy, h⟩]
theorem s_Md_isOther {post : Int32 → Prop} {tx : Nat → Nat} {n p s : Nat} {ft : Nat → Int32} (hn : n ≤ 64) (hp : p < n) (hs : s < 2) (hT : okT ft n tx) (h1 : ∀ v, symN (othN s) (tx p) = some v → post 1) (h0 : symN (othN s) (tx p) = none → post 0) : w_Md_isOther post (nI n) ft (nI p) (nI s) := by
  have htp := (hT p hp).2
  have ho : othN s < 2 := by unfold othN; split <;> omega
  have e1 : (1 : Int32) - nI s = nI (othN s) := by
    unfold othN
    have hs' : s = 0 ∨ s = 1 := by omega
    rcases hs' with rfl | rfl
    · rfl
    · rfl
  have m1 : ∀ r y, y + r = 96 → (∃ v, symN (othN s) (tx p) = some v) → w_Md_isOther_5 post (nI n) ft (nI p) (nI s) (r + 1) 1 (nI y) := by
    intro r
    induction r with
    | zero =>
      intro y hy hv
      obtain ⟨v, hv⟩ := hv
      unfold w_Md_isOther_5
      exact pk_le 96 y (fun _ => ⟨Or.inr rfl, h1 v hv⟩) (fun z => absurd z (by omega))
    | succ r ih =>
      intro y hy hv
      unfold w_Md_isOther_5
      refine pk_le 96 y (fun z => absurd z (by omega)) (fun _ => ⟨fun _ => ?_, fun z => absurd z (by decide)⟩)
      rw [nI_1]
      exact ih (y + 1) (by omega) hv
  have m0 : ∀ r y, y + r = 96 → (∀ y', y' < y → ¬ symN (othN s) (tx p) = some y') → w_Md_isOther_5 post (nI n) ft (nI p) (nI s) (r + 1) 0 (nI y) := by
    intro r
    induction r with
    | zero =>
      intro y hy hv
      unfold w_Md_isOther_5
      refine pk_le 96 y (fun _ => ⟨Or.inl rfl, h0 ?_⟩) (fun z => absurd z (by omega))
      cases hq : symN (othN s) (tx p) with
      | none => rfl
      | some v => exact absurd hq (hv v (by have := symN_lt96 hq; omega))
    | succ r ih =>
      intro y hy hv
      unfold w_Md_isOther_5
      refine pk_le 96 y (fun z => absurd z (by omega)) (fun _ => ⟨fun z => absurd rfl z, fun _ => ?_⟩)
      rw [e1, nI_1]
      have ht := tls_sym (n := n) ho htp (show y < 96 by omega)
      have hle := tlsN_le tx n p (othN s) y
      refine s_Md_tells hn hp (by omega) (by omega) hT (fun q => And.symm (pk_eq (tlsN tx n p (othN s) y) 1 (fun e => ?_) (fun e => ?_))) (fun q => ⟨fun _ => ?_, fun z => absurd z (by decide)⟩)
      · exact m1 r (y + 1) (by omega) ⟨y, ht.mp e⟩
      · refine ih (y + 1) (by omega) (fun y' hy' => ?_)
        by_cases ey : y' = y
        · rw [ey]; exact mt ht.mpr e
        · exact hv y' (by omega)
      · refine ih (y + 1) (by omega) (fun y' hy' => ?_)
        by_cases ey : y' = y
        · rw [ey]; exact mt ht.mpr (by omega)
        · exact hv y' (by omega)
  unfold w_Md_isOther
  exact ⟨97, m0 96 0 (by omega) (fun y' hy' => absurd hy' (by omega))⟩
/-- what the rest costs if symbol y comes next -/
def wthN (tx : Nat → Nat) (n : Nat) (L : Nat → Nat → Nat) (p s y : Nat) : Nat :=
  if 1 ≤ tlsN tx n p s y then 1 + L (p + tlsN tx n p s y) s
  else if gosN s y < 3 then 1 + L p (gosN s y)
  else if y = 98 ∧ ¬ s = 2 ∧ (symN (othN s) (tx p)).isSome = true then 2 + L (p + 1) s
  else 9999
def rI (f : Nat → Int32) (L : Nat → Nat → Nat) : Prop := ∀ p s, p ≤ 65 → s < 3 → f (3 * p + s) = nI (L p s)
theorem gosN_le (s y : Nat) : gosN s y ≤ 3 := by
  unfold gosN
  repeat' split
  all_goals omega
theorem s_Md_with {post : Int32 → Prop} {tx : Nat → Nat} {n p s y : Nat} {L : Nat → Nat → Nat} {ft f : Nat → Int32} (hn : n ≤ 64) (hp : p < n) (hs : s < 3) (hy : y < 2 ^ 30) (hT : okT ft n tx) (hL : rI f L) (h : post (nI (wthN tx n L p s y))) : w_Md_with post (nI n) ft f (nI p) (nI s) (nI y) := by
  unfold w_Md_with
  unfold wthN at h
  have hle := tlsN_le tx n p s y
  have hg := gosN_le s y
  refine s_Md_tells hn hp hs hy hT (fun q => ⟨fun z => absurd z (nI_nle (by omega) (by omega)), fun _ => ?_⟩) (fun q => ⟨fun _ => ?_, fun z => absurd (by decide) z⟩)
  · rw [if_pos q] at h
    rw [nI_add]
    refine s_Md_leastAt (by omega) ?_
    rw [hL _ s (by omega) hs, show (1 : Int32) = nI 1 from rfl, nI_add]
    exact h
  · rw [if_neg (by omega)] at h
    refine s_Md_goes hs hy (fun g => ⟨fun z => absurd z (nI_pos (by omega)), fun _ => ?_⟩) (fun g => ⟨fun _ => ?_, fun z => absurd (by decide) z⟩)
    · rw [if_pos g] at h
      refine s_Md_goes hs hy (fun _ => ?_) (fun g2 => by omega)
      refine s_Md_leastAt (by omega) ?_
      rw [hL _ _ (by omega) g, show (1 : Int32) = nI 1 from rfl, nI_add]
      exact h
    · rw [if_neg (by omega)] at h
      refine And.symm (pk_eq y 98 (fun c => pk_eq s 2 (fun d => ?_) (fun d => ?_)) (fun c => ?_))
      · rw [if_neg (fun z => z.2.1 d)] at h
        exact h
      · refine s_Md_isOther hn hp (by omega) hT (fun v hv => ⟨fun z => absurd z (by decide), fun _ => ?_⟩) (fun hv => ⟨fun _ => ?_, fun z => absurd rfl z⟩)
        · rw [if_pos ⟨c, d, by rw [hv]; rfl⟩] at h
          rw [nI_1]
          refine s_Md_leastAt (by omega) ?_
          rw [hL _ s (by omega) hs, show (2 : Int32) = nI 2 from rfl, nI_add]
          exact h
        · rw [hv, if_neg (fun z => by cases z.2.2)] at h
          exact h
      · rw [if_neg (fun z => c z.1)] at h
        exact h
/-! What a symbol can be. -/
theorem wth_cases {tx : Nat → Nat} {n p s y : Nat} {L : Nat → Nat → Nat} (hs : s < 3) (hp : p < n) (hc : ∀ j, j < n → tx j ≤ 128) :
    (tx p = 128 ∧ y = 102 ∧ wthN tx n L p s y = tellN tx n L p s) ∨
    (¬ tx p = 128 ∧ ¬ s = 2 ∧ symN s (tx p) = some y ∧ wthN tx n L p s y = tellN tx n L p s) ∨
    (¬ tx p = 128 ∧ s = 2 ∧ y = 10 * (tx p - 48) + (tx (p + 1) - 48) ∧ wthN tx n L p s y = tellN tx n L p s ∧ y < 100) ∨
    (∃ s', s' < 3 ∧ ¬ s' = s ∧ y = 101 - s' ∧ wthN tx n L p s y = 1 + L p s') ∨
    (y = 98 ∧ ¬ s = 2 ∧ ¬ tx p = 128 ∧ wthN tx n L p s y = 2 + L (p + 1) s) ∨
    wthN tx n L p s y = 9999 := by
  have htp := hc p hp
  by_cases t1 : 1 ≤ tlsN tx n p s y
  · have ew : wthN tx n L p s y = 1 + L (p + tlsN tx n p s y) s := by unfold wthN; rw [if_pos t1]
    unfold tlsN at t1 ew
    by_cases c : y = 102
    · rw [if_pos c] at t1 ew
      by_cases d : tx p = 128
      · rw [if_pos d] at ew
        refine Or.inl ⟨d, c, ?_⟩
        rw [ew]
        unfold tellN
        rw [if_pos d]
      · rw [if_neg d] at t1
        omega
    · rw [if_neg c] at t1 ew
      by_cases d : s = 2
      · rw [if_pos d] at t1 ew
        by_cases e : y < 100 ∧ tx p = 48 + y / 10 ∧ p + 1 < n ∧ tx (p + 1) = 48 + y % 10
        · rw [if_pos e] at ew
          obtain ⟨e1, e2, e3, e4⟩ := e
          refine Or.inr (Or.inr (Or.inl ⟨by omega, d, by omega, ?_, e1⟩))
          rw [ew, d]
          unfold tellN
          rw [if_neg (by omega), if_pos rfl, if_pos ⟨⟨by omega, by omega⟩, e3, by omega, by omega⟩]
        · rw [if_neg e] at t1
          omega
      · rw [if_neg d] at t1 ew
        by_cases e : y < 96 ∧ tx p = sgnN s y
        · rw [if_pos e] at ew
          have hsy := (sgn_sym (by omega) htp e.1).mp e.2
          have h128 : ¬ tx p = 128 := fun z => by rw [z] at hsy; exact symN_128 hsy
          refine Or.inr (Or.inl ⟨h128, d, hsy, ?_⟩)
          rw [ew]
          unfold tellN
          rw [if_neg h128, if_neg d, hsy]
          rfl
        · rw [if_neg e] at t1
          omega
  · by_cases g : gosN s y < 3
    · have ew : wthN tx n L p s y = 1 + L p (gosN s y) := by unfold wthN; rw [if_neg t1, if_pos g]
      refine Or.inr (Or.inr (Or.inr (Or.inl ⟨gosN s y, g, ?_, ?_, ew⟩)))
      · unfold gosN at g ⊢
        repeat' split at g
        all_goals (first | omega | skip)
        all_goals (repeat' split)
        all_goals omega
      · unfold gosN at g ⊢
        repeat' split at g
        all_goals (first | omega | skip)
        all_goals (repeat' split)
        all_goals omega
    · by_cases o : y = 98 ∧ ¬ s = 2 ∧ (symN (othN s) (tx p)).isSome = true
      · have ew : wthN tx n L p s y = 2 + L (p + 1) s := by unfold wthN; rw [if_neg t1, if_neg g, if_pos o]
        refine Or.inr (Or.inr (Or.inr (Or.inr (Or.inl ⟨o.1, o.2.1, fun z => ?_, ew⟩))))
        have o2 := o.2.2
        rw [z] at o2
        unfold symN at o2
        rw [if_pos (by omega)] at o2
        cases o2
      · exact Or.inr (Or.inr (Or.inr (Or.inr (Or.inr (by unfold wthN; rw [if_neg t1, if_neg g, if_neg o])))))
theorem wth_mark {tx : Nat → Nat} {n p s : Nat} {L : Nat → Nat → Nat} (h : tx p = 128) : wthN tx n L p s 102 = tellN tx n L p s := by
  have ht : tlsN tx n p s 102 = 1 := by unfold tlsN; rw [if_pos rfl, if_pos h]
  unfold wthN tellN
  rw [ht, if_pos (by omega), if_pos h]
theorem wth_sym {tx : Nat → Nat} {n p s y : Nat} {L : Nat → Nat → Nat} (hs : s < 2) (hc : tx p ≤ 128) (h : symN s (tx p) = some y) : wthN tx n L p s y = tellN tx n L p s := by
  have hy := symN_lt96 h
  have ht := (tls_sym (n := n) hs hc hy).mpr h
  have h128 : ¬ tx p = 128 := fun z => by rw [z] at h; exact symN_128 h
  unfold wthN tellN
  rw [ht, if_pos (by omega), if_neg h128, if_neg (by omega), h]
  rfl
theorem wth_pair {tx : Nat → Nat} {n p : Nat} {L : Nat → Nat → Nat} (h : figB (tx p) ∧ p + 1 < n ∧ figB (tx (p + 1))) : wthN tx n L p 2 (10 * (tx p - 48) + (tx (p + 1) - 48)) = tellN tx n L p 2 := by
  obtain ⟨⟨a1, a2⟩, q, b1, b2⟩ := h
  have ht : tlsN tx n p 2 (10 * (tx p - 48) + (tx (p + 1) - 48)) = 2 := by
    unfold tlsN
    rw [if_neg (by omega), if_pos rfl, if_pos ⟨by omega, by omega, q, by omega⟩]
  unfold wthN tellN
  rw [ht, if_pos (by omega), if_neg (by omega), if_pos rfl, if_pos ⟨⟨a1, a2⟩, q, b1, b2⟩]
theorem wth_98 {tx : Nat → Nat} {n p s : Nat} {L : Nat → Nat → Nat} (hs : s < 2) (hc : tx p ≤ 128) (h128 : ¬ tx p = 128) (h : symN s (tx p) = none) : wthN tx n L p s 98 = tellN tx n L p s := by
  have ht : tlsN tx n p s 98 = 0 := by unfold tlsN; rw [if_neg (by omega), if_neg (by omega), if_neg (by omega)]
  have hg : gosN s 98 = 3 := by unfold gosN; rw [if_neg (by omega), if_neg (by omega), if_neg (by omega)]
  obtain ⟨v, hv⟩ := symN_oth hs (by omega) h
  unfold wthN tellN
  rw [ht, hg, if_neg (by omega), if_neg (by omega), if_pos ⟨rfl, by omega, by rw [hv]; rfl⟩, if_neg h128, if_neg (by omega), h]
  rfl
theorem wth_go {tx : Nat → Nat} {n p s s' : Nat} {L : Nat → Nat → Nat} (hs : s < 3) (hs' : s' < 3) (h : ¬ s' = s) : wthN tx n L p s (101 - s') = 1 + L p s' := by
  have ht : tlsN tx n p s (101 - s') = 0 := by
    unfold tlsN
    rw [if_neg (by omega)]
    by_cases c : s = 2
    · rw [if_pos c, if_neg (by omega)]
    · rw [if_neg c, if_neg (by omega)]
  have hg : gosN s (101 - s') = s' := by
    unfold gosN
    repeat' split
    all_goals omega
  unfold wthN
  rw [ht, hg, if_neg (by omega), if_pos hs']
/-! The table of costs is the least one. -/
theorem Kok_sw {tx : Nat → Nat} {n p s s' : Nat} {K : Nat → Nat → Nat} (h : Kok tx n K) (hp : p < n) (hs : s < 3) (hs' : s' < 3) : K p s ≤ 1 + K p s' := by
  rw [h.2 p s hp hs, h.2 p s' hp hs']
  obtain ⟨l0, l1, l2, -⟩ := lstN_3 (tellN tx n K p)
  have e : s' = 0 ∨ s' = 1 ∨ s' = 2 := by omega
  have hl : lstN (tellN tx n K p) 3 ≤ tellN tx n K p s' := by
    rcases e with rfl | rfl | rfl
    · exact l0
    · exact l1
    · exact l2
  unfold newN
  split <;> split <;> omega
theorem Kok_tell {tx : Nat → Nat} {n p s : Nat} {K : Nat → Nat → Nat} (h : Kok tx n K) (hp : p < n) (hs : s < 3) : K p s ≤ tellN tx n K p s := by
  rw [h.2 p s hp hs]
  exact newN_le
def gI (n : Nat) (K L : Nat → Nat → Nat) : Prop := (∀ p s, p ≤ n → s < 3 → K p s ≤ L p s) ∧ (∀ p s, p ≤ 65 → s < 3 → L p s ≤ 9999) ∧ ∀ s, s < 3 → L n s = 0
theorem tellN_mono {tx : Nat → Nat} {n p s : Nat} {K L : Nat → Nat → Nat} (hp : p < n) (hs : s < 3) (h : ∀ p s, p ≤ n → s < 3 → K p s ≤ L p s) : tellN tx n K p s ≤ tellN tx n L p s := by
  have h1 := h (p + 1) s (by omega) hs
  unfold tellN
  split
  · omega
  · split
    · split
      · rename_i q
        have h2 := h (p + 2) 2 (by omega) (by omega)
        omega
      · omega
    · omega
theorem wth_ge {tx : Nat → Nat} {n p s y : Nat} {K L : Nat → Nat → Nat} (hn : n ≤ 64) (h : Kok tx n K) (hc : ∀ j, j < n → tx j ≤ 128) (hp : p < n) (hs : s < 3) (hL : gI n K L) : K p s ≤ wthN tx n L p s y := by
  have hm := tellN_mono (tx := tx) hp hs hL.1
  have hk := Kok_tell h hp hs
  rcases wth_cases (y := y) (L := L) hs hp hc with ⟨-, -, e⟩ | ⟨-, -, -, e⟩ | ⟨-, -, -, e, -⟩ | ⟨s', hs', -, -, e⟩ | ⟨-, c, d, e⟩ | e
  · omega
  · omega
  · omega
  · have := Kok_sw h hp hs hs'
    have := hL.1 p s' (by omega) hs'
    omega
  · have h1 := hL.1 (p + 1) s (by omega) hs
    unfold tellN at hk
    rw [if_neg d, if_neg c] at hk
    split at hk <;> omega
  · have := (Kok_le h (n - p) p (by omega)).2 s hs
    omega
theorem wth_le {tx : Nat → Nat} {n p s : Nat} {K L : Nat → Nat → Nat} (hn : n ≤ 64) (h : Kok tx n K) (hc : ∀ j, j < n → tx j ≤ 128) (hL : gI n K L) (hf : ∀ p s y, p < n → s < 3 → y < 103 → L p s ≤ wthN tx n L p s y) : ∀ d p, p + d = n → ∀ s, s < 3 → L p s = K p s := by
  have two : ∀ d p, p + d = n → (∀ s, s < 3 → L p s = K p s) ∧ ∀ s, s < 3 → p + 1 ≤ n → L (p + 1) s = K (p + 1) s := by
    intro d
    induction d with
    | zero =>
      intro p hp
      refine ⟨fun s hs => ?_, fun s hs q => by omega⟩
      rw [show p = n by omega, hL.2.2 s hs, h.1 s hs]
    | succ d ih =>
      intro p hp
      obtain ⟨i1, i2⟩ := ih (p + 1) (by omega)
      have hpn : p < n := by omega
      have hcp := hc p hpn
      have et : ∀ s, s < 3 → tellN tx n L p s = tellN tx n K p s := by
        intro s hs
        unfold tellN
        rw [i1 s hs]
        by_cases q : figB (tx p) ∧ p + 1 < n ∧ figB (tx (p + 1))
        · rw [if_pos q, if_pos q, i2 2 (by omega) (by omega)]
        · rw [if_neg q, if_neg q]
      have hlt : ∀ s, s < 3 → L p s ≤ tellN tx n K p s := by
        intro s hs
        rw [← et s hs]
        by_cases c1 : tx p = 128
        · rw [← wth_mark c1]
          exact hf p s 102 hpn hs (by omega)
        · by_cases c2 : s = 2
          · by_cases c3 : figB (tx p) ∧ p + 1 < n ∧ figB (tx (p + 1))
            · rw [c2, ← wth_pair c3]
              obtain ⟨⟨a1, a2⟩, q, b1, b2⟩ := c3
              exact hf p 2 _ hpn (by omega) (by omega)
            · have := hL.2.1 p s (by omega) hs
              unfold tellN
              rw [if_neg c1, if_pos c2, if_neg c3]
              omega
          · cases hv : symN s (tx p) with
            | some y =>
              rw [← wth_sym (by omega) hcp hv]
              exact hf p s y hpn hs (by have := symN_lt96 hv; omega)
            | none =>
              rw [← wth_98 (by omega) hcp c1 hv]
              exact hf p s 98 hpn hs (by omega)
      refine ⟨fun s hs => ?_, fun s hs _ => i1 s hs⟩
      have hge := hL.1 p s (by omega) hs
      have h9 := hL.2.1 p s (by omega) hs
      have hsw : ∀ s', s' < 3 → L p s ≤ 1 + tellN tx n K p s' := by
        intro s' hs'
        have := hlt s' hs'
        by_cases e : s' = s
        · rw [e] at this ⊢
          omega
        · have h2 := hf p s (101 - s') hpn hs (by omega)
          rw [wth_go hs hs' e] at h2
          omega
      have a0 := hsw 0 (by omega)
      have a1 := hsw 1 (by omega)
      have a2 := hsw 2 (by omega)
      have a3 := hlt s hs
      obtain ⟨-, -, -, l3⟩ := lstN_3 (tellN tx n K p)
      have hk := h.2 p s hpn hs
      unfold newN at hk
      split at hk <;> omega
  exact fun d p hp => (two d p hp).1
/-! relax -/
def updL (L : Nat → Nat → Nat) (p s v : Nat) : Nat → Nat → Nat := fun p' s' => if p' = p ∧ s' = s then v else L p' s'
theorem rI_upd {f : Nat → Int32} {L : Nat → Nat → Nat} {p s v : Nat} (hs : s < 3) (h : rI f L) : rI (upd f (3 * p + s) (nI v)) (updL L p s v) := by
  intro p' s' hp' hs'
  unfold upd updL
  by_cases e : p' = p ∧ s' = s
  · rw [if_pos e, if_pos (by omega)]
  · rw [if_neg e, if_neg (by omega)]
    exact h p' s' hp' hs'
def totN (L : Nat → Nat → Nat) : Nat → Nat
  | 0 => 0
  | p + 1 => totN L p + (L p 0 + L p 1 + L p 2)
theorem totN_s (L : Nat → Nat → Nat) (p : Nat) : totN L (p + 1) = totN L p + (L p 0 + L p 1 + L p 2) := rfl
theorem totN_le {L L' : Nat → Nat → Nat} : ∀ m, (∀ p s, p < m → s < 3 → L' p s ≤ L p s) → totN L' m ≤ totN L m
  | 0, _ => Nat.le_refl _
  | m + 1, h => by
    have := totN_le m (fun p s hp hs => h p s (by omega) hs)
    rw [totN_s, totN_s]
    have h0 := h m 0 (by omega) (by omega)
    have h1 := h m 1 (by omega) (by omega)
    have h2 := h m 2 (by omega) (by omega)
    omega
theorem totN_lt {L : Nat → Nat → Nat} {p s v : Nat} (hs : s < 3) (hv : v < L p s) : ∀ m, p < m → totN (updL L p s v) m < totN L m
  | 0, h => by omega
  | m + 1, h => by
    have hle : ∀ p' s', updL L p s v p' s' ≤ L p' s' := by
      intro p' s'
      unfold updL
      by_cases e : p' = p ∧ s' = s
      · rw [if_pos e, e.1, e.2]; omega
      · rw [if_neg e]; omega
    rw [totN_s, totN_s]
    have g0 := hle m 0
    have g1 := hle m 1
    have g2 := hle m 2
    by_cases e : p = m
    · have hl := totN_le (L := L) (L' := updL L p s v) m (fun p' s' _ _ => hle p' s')
      have ev : updL L p s v m s = v := by unfold updL; rw [if_pos ⟨e.symm, rfl⟩]
      rw [e] at hv
      have es : s = 0 ∨ s = 1 ∨ s = 2 := by omega
      rcases es with rfl | rfl | rfl <;> omega
    · have := totN_lt hs hv m (by omega)
      omega
theorem gI_upd {n p s v : Nat} {K L : Nat → Nat → Nat} (hp : p < n) (hk : K p s ≤ v) (hv : v ≤ 9999) (h : gI n K L) : gI n K (updL L p s v) := by
  refine ⟨fun p' s' h1 h2 => ?_, fun p' s' h1 h2 => ?_, fun s' h2 => ?_⟩
  · unfold updL
    by_cases e : p' = p ∧ s' = s
    · rw [if_pos e, e.1, e.2]; exact hk
    · rw [if_neg e]; exact h.1 p' s' h1 h2
  · unfold updL
    by_cases e : p' = p ∧ s' = s
    · rw [if_pos e]; exact hv
    · rw [if_neg e]; exact h.2.1 p' s' h1 h2
  · unfold updL
    rw [if_neg (by omega)]
    exact h.2.2 s' h2
/-- one pass: nothing changed yet and all so far is as it must be, or the whole is less than before -/
def paI (tx : Nat → Nat) (n : Nat) (K L0 L : Nat → Nat → Nat) (y1 : Int32) (D : Nat → Nat → Nat → Prop) : Prop := gI n K L ∧ ((y1 = 0 ∧ L = L0 ∧ ∀ p s y, D p s y → L0 p s ≤ wthN tx n L0 p s y) ∨ (y1 = 1 ∧ totN L n < totN L0 n))
theorem paI_mono {tx : Nat → Nat} {n : Nat} {K L0 L : Nat → Nat → Nat} {y1 : Int32} {D D' : Nat → Nat → Nat → Prop} (h : paI tx n K L0 L y1 D) (hD : ∀ p s y, D' p s y → D p s y) : paI tx n K L0 L y1 D' := by
  refine ⟨h.1, ?_⟩
  rcases h.2 with ⟨a, b, c⟩ | c
  · exact Or.inl ⟨a, b, fun p s y q => c p s y (hD p s y q)⟩
  · exact Or.inr c
theorem s_Md_relax67 {post : (Nat → Int32) → Prop} {kO40 : (Nat → Int32) → Int32 → Prop} {kO53 kO59 : (Nat → Int32) → Int32 → Int32 → Prop} {tx : Nat → Nat} {n p s : Nat} {K L0 : Nat → Nat → Nat} {ft : Nat → Int32} (hn : n ≤ 64) (h : Kok tx n K) (hT : okT ft n tx) (hp : p < n) (hs : s < 3) {D : Nat → Nat → Nat → Prop}
    (hk : ∀ f L y1, rI f L → paI tx n K L0 L y1 (fun p' s' y' => D p' s' y' ∨ (p' = p ∧ s' = s ∧ y' < 103)) → kO59 f y1 (nI (s + 1))) :
    ∀ r y f L y1, y + r = 103 → rI f L → paI tx n K L0 L y1 (fun p' s' y' => D p' s' y' ∨ (p' = p ∧ s' = s ∧ y' < y)) → w_Md_relax_67 post kO40 kO53 kO59 (nI n) ft (nI p) (nI s) (r + 1) f y1 (nI y) := by
  have hc : ∀ j, j < n → tx j ≤ 128 := fun j hj => (hT j hj).2
  intro r
  induction r with
  | zero =>
    intro y f L y1 hy hf hI
    unfold w_Md_relax_67
    refine pk_le 103 y (fun _ => ?_) (fun z => absurd z (by omega))
    rw [nI_1]
    exact hk f L y1 hf (paI_mono hI (fun p' s' y' q => by rcases q with q | q; exact Or.inl q; exact Or.inr ⟨q.1, q.2.1, by omega⟩))
  | succ r ih =>
    intro y f L y1 hy hf hI
    unfold w_Md_relax_67
    refine pk_le 103 y (fun z => absurd z (by omega)) (fun _ => ?_)
    refine s_Md_with hn hp hs (by omega) hT hf ?_
    have hge := wth_ge (y := y) hn h hc hp hs hI.1
    have h9 := hI.1.2.1 p s (by omega) hs
    have hw9 : wthN tx n L p s y ≤ 10001 := by
      unfold wthN
      have hle := tlsN_le tx n p s y
      split
      · have := hI.1.2.1 (p + tlsN tx n p s y) s (by omega) hs
        omega
      · split
        · rename_i g
          have := hI.1.2.1 p (gosN s y) (by omega) g
          omega
        · split
          · have := hI.1.2.1 (p + 1) s (by omega) hs
            omega
          · omega
    refine s_Md_leastAt (by omega) ?_
    rw [hf p s (by omega) hs, nI_1]
    refine pk_le (L p s) (wthN tx n L p s y) (fun c => ?_) (fun c => ?_)
    · refine ih (y + 1) f L y1 (by omega) hf ⟨hI.1, ?_⟩
      rcases hI.2 with ⟨a, b, e⟩ | e
      · refine Or.inl ⟨a, b, fun p' s' y' q => ?_⟩
        by_cases e2 : p' = p ∧ s' = s ∧ y' = y
        · rw [e2.1, e2.2.1, e2.2.2, ← b]
          exact c
        · refine e p' s' y' ?_
          rcases q with q | q
          · exact Or.inl q
          · exact Or.inr ⟨q.1, q.2.1, by omega⟩
      · exact Or.inr e
    · rw [show (3 : Int32) = nI 3 from rfl, pk_mul, nI_add, nI_clamp (by omega)]
      refine ⟨pk_in (3 * p + s) 198 (by omega), ?_⟩
      refine ih (y + 1) _ (updL L p s (wthN tx n L p s y)) 1 (by omega) (rI_upd hs hf) ⟨gI_upd hp hge (by omega) hI.1, Or.inr ⟨rfl, ?_⟩⟩
      have hlt := totN_lt hs c n hp
      rcases hI.2 with ⟨-, b, -⟩ | ⟨-, e⟩
      · rw [← b]
        exact hlt
      · omega
theorem s_Md_relax59 {post : (Nat → Int32) → Prop} {kO40 : (Nat → Int32) → Int32 → Prop} {kO53 : (Nat → Int32) → Int32 → Int32 → Prop} {tx : Nat → Nat} {n p : Nat} {K L0 : Nat → Nat → Nat} {ft : Nat → Int32} (hn : n ≤ 64) (h : Kok tx n K) (hT : okT ft n tx) (hp : p < n) {D : Nat → Nat → Nat → Prop}
    (hk : ∀ f L y1, rI f L → paI tx n K L0 L y1 (fun p' s' y' => D p' s' y' ∨ (p' = p ∧ s' < 3 ∧ y' < 103)) → kO53 f y1 (nI p + (-1))) :
    ∀ r s f L y1, s + r = 3 → rI f L → paI tx n K L0 L y1 (fun p' s' y' => D p' s' y' ∨ (p' = p ∧ s' < s ∧ y' < 103)) → w_Md_relax_59 post kO40 kO53 (nI n) ft (nI p) (r + 1) f y1 (nI s) := by
  intro r
  induction r with
  | zero =>
    intro s f L y1 hs hf hI
    unfold w_Md_relax_59
    refine pk_lt 2 s (fun _ => ?_) (fun z => absurd z (by omega))
    exact hk f L y1 hf (paI_mono hI (fun p' s' y' q => by rcases q with q | q; exact Or.inl q; exact Or.inr ⟨q.1, by omega, q.2.2⟩))
  | succ r ih =>
    intro s f L y1 hs hf hI
    unfold w_Md_relax_59
    refine pk_lt 2 s (fun z => absurd z (by omega)) (fun _ => ⟨104, ?_⟩)
    refine s_Md_relax67 hn h hT hp (by omega) (D := fun p' s' y' => D p' s' y' ∨ (p' = p ∧ s' < s ∧ y' < 103)) (fun f' L' y1' hf' hI' => ?_) 103 0 f L y1 (by omega) hf (paI_mono hI (fun p' s' y' q => by rcases q with q | q; exact q; omega))
    refine ih (s + 1) f' L' y1' (by omega) hf' (paI_mono hI' (fun p' s' y' q => ?_))
    rcases q with q | q
    · exact Or.inl (Or.inl q)
    · by_cases e : s' = s
      · exact Or.inr ⟨q.1, e, q.2.2⟩
      · exact Or.inl (Or.inr ⟨q.1, by omega, q.2.2⟩)
theorem s_Md_relax53 {post : (Nat → Int32) → Prop} {kO40 : (Nat → Int32) → Int32 → Prop} {tx : Nat → Nat} {n : Nat} {K L0 : Nat → Nat → Nat} {ft : Nat → Int32} (hn : n ≤ 64) (h : Kok tx n K) (hT : okT ft n tx)
    (hk : ∀ f L y1, rI f L → paI tx n K L0 L y1 (fun p' s' y' => p' < n ∧ s' < 3 ∧ y' < 103) → kO40 f y1) :
    ∀ r f L y1, r ≤ n → rI f L → paI tx n K L0 L y1 (fun p' s' y' => r ≤ p' ∧ p' < n ∧ s' < 3 ∧ y' < 103) → w_Md_relax_53 post kO40 (nI n) ft (r + 1) f y1 (nI r + (-1)) := by
  intro r
  induction r with
  | zero =>
    intro f L y1 hr hf hI
    unfold w_Md_relax_53
    refine ⟨fun _ => ?_, fun z => absurd (by decide) z⟩
    exact hk f L y1 hf (paI_mono hI (fun p' s' y' q => ⟨by omega, q⟩))
  | succ r ih =>
    intro f L y1 hr hf hI
    rw [pk_m1]
    unfold w_Md_relax_53
    refine ⟨fun z => absurd z (nI_pos (by omega)), fun _ => ⟨4, ?_⟩⟩
    refine s_Md_relax59 hn h hT (by omega) (D := fun p' s' y' => r + 1 ≤ p' ∧ p' < n ∧ s' < 3 ∧ y' < 103) (fun f' L' y1' hf' hI' => ?_) 3 0 f L y1 (by omega) hf (paI_mono hI (fun p' s' y' q => by rcases q with q | q; exact q; omega))
    refine ih f' L' y1' (by omega) hf' (paI_mono hI' (fun p' s' y' q => ?_))
    by_cases e : p' = r
    · exact Or.inr ⟨e, q.2.2⟩
    · exact Or.inl ⟨by omega, q.2⟩
theorem s_Md_relax {post : (Nat → Int32) → Prop} {tx : Nat → Nat} {n : Nat} {K : Nat → Nat → Nat} {ft f : Nat → Int32} (hn : n ≤ 64) (h : Kok tx n K) (hT : okT ft n tx) (hpost : ∀ f' L, rI f' L → (∀ p s, p ≤ n → s < 3 → L p s = K p s) → post f') : w_Md_relax post (nI n) ft f := by
  have hc : ∀ j, j < n → tx j ≤ 128 := fun j hj => (hT j hj).2
  have m40 : ∀ m f L, rI f L → gI n K L → totN L n ≤ m → w_Md_relax_40 post (nI n) ft (m + 2) f 1 := by
    intro m
    induction m with
    | zero =>
      intro f L hf hL ht
      unfold w_Md_relax_40
      refine ⟨fun z => absurd z (by decide), fun _ => ⟨n + 1, ?_⟩⟩
      have e1 : nI n - 1 = nI n + (-1) := by rw [Int32.sub_eq_add_neg]
      rw [e1]
      refine s_Md_relax53 (K := K) (L0 := L) hn h hT (fun f' L' y1' hf' hI' => ?_) n f L 0 (by omega) hf ⟨hL, Or.inl ⟨rfl, rfl, fun p s y q => by omega⟩⟩
      rcases hI'.2 with ⟨a, b, c⟩ | ⟨-, c⟩
      · rw [a]
        unfold w_Md_relax_40
        refine ⟨fun _ => ?_, fun z => absurd rfl z⟩
        rw [b] at hf' 
        refine hpost f' L hf' (fun p s hp hs => ?_)
        exact wth_le (s := 0) (p := 0) hn h hc hL (fun p s y a1 a2 a3 => c p s y ⟨a1, a2, a3⟩) (n - p) p (by omega) s hs
      · omega
    | succ m ih =>
      intro f L hf hL ht
      unfold w_Md_relax_40
      refine ⟨fun z => absurd z (by decide), fun _ => ⟨n + 1, ?_⟩⟩
      have e1 : nI n - 1 = nI n + (-1) := by rw [Int32.sub_eq_add_neg]
      rw [e1]
      refine s_Md_relax53 (K := K) (L0 := L) hn h hT (fun f' L' y1' hf' hI' => ?_) n f L 0 (by omega) hf ⟨hL, Or.inl ⟨rfl, rfl, fun p s y q => by omega⟩⟩
      rcases hI'.2 with ⟨a, b, c⟩ | ⟨a, c⟩
      · rw [a]
        unfold w_Md_relax_40
        refine ⟨fun _ => ?_, fun z => absurd rfl z⟩
        rw [b] at hf'
        refine hpost f' L hf' (fun p s hp hs => ?_)
        exact wth_le (s := 0) (p := 0) hn h hc hL (fun p s y a1 a2 a3 => c p s y ⟨a1, a2, a3⟩) (n - p) p (by omega) s hs
      · rw [a]
        exact ih f' L' hf' hI'.1 (by omega)
  have m2 : ∀ r y f, y + r = 198 → (∀ j, j < y → f j = nI (if j / 3 = n then 0 else 9999)) → w_Md_relax_2 post (nI n) ft (r + 1) f (nI y) := by
    intro r
    induction r with
    | zero =>
      intro y f hy hf
      unfold w_Md_relax_2
      refine pk_le 198 y (fun _ => ?_) (fun z => absurd z (by omega))
      refine ⟨_, m40 (totN (fun p s => if p = n then 0 else 9999) n) f (fun p s => if p = n then 0 else 9999) (fun p s hp hs => ?_) ⟨fun p s hp hs => ?_, fun p s hp hs => ?_, fun s hs => if_pos rfl⟩ (Nat.le_refl _)⟩
      · rw [hf (3 * p + s) (by omega), show (3 * p + s) / 3 = p by omega]
      · by_cases e : p = n
        · show K p s ≤ if p = n then 0 else 9999
          rw [if_pos e, e, h.1 s hs]
          omega
        · show K p s ≤ if p = n then 0 else 9999
          rw [if_neg e]
          have := (Kok_le h (n - p) p (by omega)).2 s hs
          omega
      · show (if p = n then 0 else 9999) ≤ 9999
        split <;> omega
    | succ r ih =>
      intro y f hy hf
      unfold w_Md_relax_2
      have hd : nI y / 3 = nI (y / 3) := by rw [show (3 : Int32) = nI 3 from rfl, pk_div (by omega) (by omega) (by omega)]
      rw [hd, nI_1, nI_clamp (by omega)]
      refine pk_le 198 y (fun z => absurd z (by omega)) (fun _ => And.symm (pk_eq (y / 3) n (fun c => ⟨pk_in y 198 (by omega), ?_⟩) (fun c => ⟨pk_in y 198 (by omega), ?_⟩)))
      · refine ih (y + 1) _ (by omega) (fun j hj => ?_)
        unfold upd
        by_cases e : j = y
        · rw [if_pos e, e, if_pos c]
          rfl
        · rw [if_neg e]
          exact hf j (by omega)
      · refine ih (y + 1) _ (by omega) (fun j hj => ?_)
        unfold upd
        by_cases e : j = y
        · rw [if_pos e, e, if_neg c]
          rfl
        · rw [if_neg e]
          exact hf j (by omega)
  unfold w_Md_relax
  exact ⟨199, m2 198 0 f (by omega) (fun j hj => absurd hj (by omega))⟩
