/-! Rows that both sides hold: looked up, turned, spoiled. -/
theorem atN_congr {k : Nat} {f f' : Nat → Int32} (hk : k < 2 ^ 31) (h : ∀ j, j < k → f j = f' j) (i : Int32) : atN k f i = atN k f' i := by
  unfold atN
  by_cases c1 : i < 0
  · rw [if_pos c1, if_pos c1]
  rw [if_neg c1, if_neg c1]
  by_cases c2 : nI k ≤ i
  · rw [if_pos c2, if_pos c2]
  rw [if_neg c2, if_neg c2]
  obtain ⟨j, hj, rfl⟩ := nI_of c1
  rw [nI_leI hk hj] at c2
  rw [nI_clamp hj]
  exact h j (by omega)
theorem isL_eq {f f' : Nat → Int32} {R : List Nat} (h : isL f R) (h' : isL f' R) : ∀ j, j < R.length → f j = f' j := fun j hj => (h j hj).trans (h' j hj).symm
theorem md_look {post : Int32 → Int32 → Prop} {N k : Nat} {f : Nat → Int32} {x : Int32} (hk : k ≤ N) (hN : N < 2 ^ 31) (h : post (atN k f x) 0) : (x < 0 → post (-1) 0) ∧ (¬ x < 0 → (x < nI k → vp_in x N ∧ post (f x.toNatClampNeg) 0) ∧ (¬ x < nI k → post (-1) 0)) := by
  unfold atN at h
  refine ⟨fun a => ?_, fun a => ⟨fun b => ?_, fun b => ?_⟩⟩
  · rw [if_pos a] at h
    exact h
  · obtain ⟨j, hj, rfl⟩ := nI_of a
    rw [nI_ltI hj (by omega)] at b
    rw [if_neg a, if_neg (nI_ge b (by omega))] at h
    exact ⟨pk_in j N (by omega), h⟩
  · obtain ⟨j, hj, rfl⟩ := nI_of a
    rw [nI_ltI hj (by omega)] at b
    rw [if_neg a, if_pos (nI_le (by omega) hj)] at h
    exact h
theorem s_Md_symbol {post : Int32 → Int32 → Prop} {k : Nat} {f : Nat → Int32} {x : Int32} (hk : k ≤ 200) (h : post (atN k f x) 0) : w_Md_symbol post (nI k) f x := md_look hk (by omega) h
theorem s_Md_width {post : Int32 → Int32 → Prop} {k : Nat} {f : Nat → Int32} {x : Int32} (hk : k ≤ 800) (h : post (atN k f x) 0) : w_Md_width post (nI k) f x := md_look hk (by omega) h
theorem s_Md_sign {post : Int32 → Int32 → Prop} {k : Nat} {f : Nat → Int32} {x : Int32} (hk : k ≤ 300) (h : post (atN k f x) 0) : w_Md_sign post (nI k) f x := md_look hk (by omega) h
/-- the first i of k turned, the rest as it was -/
def mixN (k i : Nat) (f : Nat → Int32) : Nat → Int32 := fun j => if j < i then f (k - 1 - j) else f j
theorem mixN_0 (k : Nat) (f : Nat → Int32) : mixN k 0 f = f := by
  funext j
  unfold mixN
  rw [if_neg (by omega)]
theorem mixN_s {k i : Nat} {f : Nat → Int32} {v : Int32} (hv : v = f (k - 1 - i)) : upd (mixN k i f) i v = mixN k (i + 1) f := by
  funext j
  unfold upd mixN
  by_cases h : j = i
  · rw [if_pos h, if_pos (by omega), h, hv]
  · rw [if_neg h]
    by_cases h2 : j < i
    · rw [if_pos h2, if_pos (by omega)]
    · rw [if_neg h2, if_neg (by omega)]
theorem s_Md_reverse {post : (Nat → Int32) → (Nat → Int32) → Prop} {k : Nat} {f t : Nat → Int32} (hk : k ≤ 800) (h : ∀ t', post (revN k f) t') : w_Md_reverse post (nI k) f t := by
  have m34 : ∀ t' : Nat → Int32, (∀ j, j < k → t' j = f (k - 1 - j)) → ∀ r i, i + r = k → w_Md_reverse_34 post (nI k) t' (r + 1) (mixN k i f) (nI i) := by
    intro t' ht r
    induction r with
    | zero =>
      intro i hi
      unfold w_Md_reverse_34
      refine ⟨fun _ => ?_, fun a => absurd (nI_le (by omega) (by omega)) a⟩
      rw [show i = k by omega]
      exact h t'
    | succ r ih =>
      intro i hi
      unfold w_Md_reverse_34
      refine ⟨fun a => absurd a (nI_ge (by omega) (by omega)), fun _ => ⟨pk_in i 800 (by omega), pk_in i 800 (by omega), ?_⟩⟩
      rw [nI_clamp (by omega), mixN_s (ht i (by omega)), nI_1]
      exact ih (i + 1) (by omega)
  have m2 : ∀ r i (t' : Nat → Int32), i + r = k → (∀ j, j < i → t' j = f (k - 1 - j)) → w_Md_reverse_2 post (nI k) f (r + 1) t' (nI i) := by
    intro r
    induction r with
    | zero =>
      intro i t' hi ht
      unfold w_Md_reverse_2
      refine ⟨fun _ => ⟨k + 1, ?_⟩, fun a => absurd (nI_le (by omega) (by omega)) a⟩
      have := m34 t' (fun j hj => ht j (by omega)) k 0 (by omega)
      rw [mixN_0] at this
      exact this
    | succ r ih =>
      intro i t' hi ht
      unfold w_Md_reverse_2
      have e1 : (nI k - 1) - nI i = nI (k - 1 - i) := by rw [show (1 : Int32) = nI 1 from rfl, pk_sub (by omega), pk_sub (by omega)]
      rw [e1]
      refine ⟨fun a => absurd a (nI_ge (by omega) (by omega)), fun _ => ⟨pk_in (k - 1 - i) 800 (by omega), pk_in i 800 (by omega), ?_⟩⟩
      rw [nI_clamp (by omega), nI_clamp (by omega), nI_1]
      refine ih (i + 1) _ (by omega) (fun j hj => ?_)
      unfold upd
      by_cases e : j = i
      · rw [if_pos e, e]
      · rw [if_neg e]
        exact ht j (by omega)
  unfold w_Md_reverse
  exact ⟨k + 1, m2 k 0 t (by omega) (fun j hj => absurd hj (by omega))⟩
theorem getD_rev {R : List Nat} {j : Nat} (h : j < R.length) : R.reverse.getD j 0 = R.getD (R.length - 1 - j) 0 := by
  rw [getD_at (by rw [List.length_reverse]; exact h), getD_at (by omega), List.getElem_reverse]
theorem isL_rev {f : Nat → Int32} {R : List Nat} (h : isL f R) : isL (revN R.length f) R.reverse := by
  intro j hj
  rw [List.length_reverse] at hj
  unfold revN
  rw [if_pos hj, h _ (by omega), getD_rev hj]
theorem isL_set {f : Nat → Int32} {R : List Nat} {i v : Nat} (h : isL f R) : isL (upd f i (nI v)) (R.set i v) := by
  intro j hj
  rw [List.length_set] at hj
  unfold upd
  by_cases e : j = i
  · subst e
    rw [if_pos rfl, getD_at (by rw [List.length_set]; exact hj), List.getElem_set_self]
  · rw [if_neg e, h j hj, getD_at hj, getD_at (by rw [List.length_set]; exact hj), List.getElem_set_ne (by omega)]
/-- q bytes of a long -/
def bytL (x : Int64) (q : Nat) : List Nat := (List.range q).map (byteN x)
theorem bytL_len (x : Int64) (q : Nat) : (bytL x q).length = q := by unfold bytL; rw [List.length_map, List.length_range]
theorem isL_appB {f : Nat → Int32} {R : List Nat} {q : Nat} {x : Int64} (h : isL f R) : isL (appB f R.length q x) (R ++ bytL x q) := by
  intro j hj
  rw [List.length_append, bytL_len] at hj
  unfold appB
  by_cases c : j < R.length
  · rw [if_neg (by omega), getD_l c]
    exact h j c
  · rw [if_pos (by omega), getD_r (by omega), getD_at (by rw [bytL_len]; omega)]
    unfold bytL
    rw [List.getElem_map, List.getElem_range]
/-- the strip's widths -/
def okS (S : List Nat) : Prop := ∀ x ∈ S, 1 ≤ x ∧ x ≤ 2000
theorem okS_W {f : Nat → Int32} {S : List Nat} (h : isL f S) (hS : okS S) : okW f S.length (fun j => S.getD j 0) := by
  intro j hj
  have h2 := hS (S.getD j 0) (by rw [getD_at hj]; exact List.getElem_mem hj)
  exact ⟨h j hj, h2.1, h2.2⟩
/-- the figures of a number, the module times -/
def digW (w d md : Nat) : List Nat := (List.range d).map (fun a => w / 10 ^ (d - 1 - a) % 10 * md)
theorem digW_len (w d md : Nat) : (digW w d md).length = d := by unfold digW; rw [List.length_map, List.length_range]
theorem isL_appD {f : Nat → Int32} {R : List Nat} {d w md : Nat} (h : isL f R) : isL (appD f R.length d d w md) (R ++ digW w d md) := by
  intro j hj
  rw [List.length_append, digW_len] at hj
  unfold appD
  by_cases c : j < R.length
  · rw [if_neg (by omega), getD_l c]
    exact h j c
  · rw [if_pos (by omega), getD_r (by omega), getD_at (by rw [digW_len]; omega)]
    unfold digW
    rw [List.getElem_map, List.getElem_range]
/-- a number of d figures, none of them 0 -/
def patB (w d : Nat) : Bool := decide (d = 3 ∨ d = 4 ∨ d = 5 ∨ d = 6 ∨ d = 7) && decide (10 ^ (d - 1) ≤ w) && decide (w < 10 ^ d) && (List.range d).all (fun a => decide (1 ≤ w / 10 ^ (d - 1 - a) % 10))
theorem patB_dig {w d : Nat} (h : patB w d = true) : (w < 10000000) ∧ (∀ e, e ≤ 6 → (w < 10 ^ e ↔ d ≤ e)) ∧ d ≤ 7 ∧ 1 ≤ d := by
  unfold patB at h
  simp only [Bool.and_eq_true, decide_eq_true_eq] at h
  obtain ⟨⟨⟨h1, h2⟩, h3⟩, -⟩ := h
  have h8 : ∀ e, e ≤ 6 → e = 0 ∨ e = 1 ∨ e = 2 ∨ e = 3 ∨ e = 4 ∨ e = 5 ∨ e = 6 := fun e he => by omega
  rcases h1 with rfl | rfl | rfl | rfl | rfl
  · exact ⟨by omega, fun e he => by rcases h8 e he with rfl | rfl | rfl | rfl | rfl | rfl | rfl <;> omega, by omega, by omega⟩
  · exact ⟨by omega, fun e he => by rcases h8 e he with rfl | rfl | rfl | rfl | rfl | rfl | rfl <;> omega, by omega, by omega⟩
  · exact ⟨by omega, fun e he => by rcases h8 e he with rfl | rfl | rfl | rfl | rfl | rfl | rfl <;> omega, by omega, by omega⟩
  · exact ⟨by omega, fun e he => by rcases h8 e he with rfl | rfl | rfl | rfl | rfl | rfl | rfl <;> omega, by omega, by omega⟩
  · exact ⟨by omega, fun e he => by rcases h8 e he with rfl | rfl | rfl | rfl | rfl | rfl | rfl <;> omega, by omega, by omega⟩
theorem patB_ok {w d md : Nat} (h : patB w d = true) (h1 : 1 ≤ md) (h50 : md ≤ 50) : okS (digW w d md) := by
  intro x hx
  unfold digW at hx
  obtain ⟨a, ha, rfl⟩ := List.mem_map.mp hx
  unfold patB at h
  rw [Bool.and_eq_true] at h
  have h2 := List.all_eq_true.mp h.2 a ha
  simp only [decide_eq_true_eq] at h2
  have h3 : w / 10 ^ (d - 1 - a) % 10 < 10 := Nat.mod_lt _ (by omega)
  refine ⟨Nat.mul_le_mul h2 h1, ?_⟩
  have := Nat.mul_le_mul (show w / 10 ^ (d - 1 - a) % 10 ≤ 9 by omega) h50
  omega
theorem s_addW {post : Int32 → (Nat → Int32) → Prop} {S : List Nat} {d w md : Nat} {f : Nat → Int32} (hp : patB w d = true) (hS : isL f S) (hk : S.length + d ≤ 800) (h : ∀ f', isL f' (S ++ digW w d md) → post (nI (S ++ digW w d md).length) f') : w_Lc_addWidths post (nI S.length) f (nI w) (nI md) := by
  obtain ⟨h1, h2, h3, -⟩ := patB_dig hp
  refine s_Lc_addWidths h1 h2 h3 hk ?_
  have := h _ (isL_appD hS)
  rw [List.length_append, digW_len] at this
  exact this
theorem s_Md_lay {post : Int32 → (Nat → Int32) → Prop} {k d w md : Nat} {f : Nat → Int32} (hw : w < 10000000) (hd1 : 1 ≤ d) (hd7 : d ≤ 7) (hk : k + d ≤ 800) (h : post (nI (k + d)) (appD f k d d w md)) : w_Md_lay post (nI k) f (nI w) (nI d) (nI md) := by
  have m29 : ∀ r : Nat, r ≤ d → w_Md_lay_29 post (nI w) (nI md) (r + 1) (nI (k + (d - r))) (appD f k (d - r) d w md) (nI (tenN r)) := by
    intro r
    induction r with
    | zero =>
      intro _
      unfold w_Md_lay_29
      refine ⟨fun _ => ?_, fun a => absurd ?_ a⟩
      · rw [Nat.sub_zero]
        exact h
      · show nI 0 ≤ 0
        exact Int32.le_refl _
    | succ s ih =>
      intro hr
      have hs : s ≤ 6 := by omega
      have h10 := ten_le hs
      have hpos : 0 < 10 ^ s := Nat.pow_pos (by omega)
      have et : tenN (s + 1) = 10 ^ s := by unfold tenN; rw [if_neg (by omega), Nat.add_sub_cancel]
      rw [et]
      unfold w_Md_lay_29
      refine ⟨fun a => absurd a (nI_nle hpos (by omega)), fun _ => ⟨nI_ne0 hpos (by omega), pk_in (k + (d - (s + 1))) 800 (by omega), ?_⟩⟩
      have hq : w / 10 ^ s ≤ w := Nat.div_le_self _ _
      rw [show (10 : Int32) = nI 10 from rfl, pk_div (by omega) hpos (by omega), pk_rem (by omega) (by omega) (by omega), pk_mul, nI_clamp (by omega), appD_s f (by omega), pk_div (by omega) (by omega) (by omega), tenN_div, nI_1]
      have := ih (by omega)
      rw [show d - s = d - (s + 1) + 1 by omega] at this
      rw [show k + (d - (s + 1)) + 1 = k + (d - (s + 1) + 1) by omega]
      exact this
  have m6 : ∀ r i : Nat, i + r = d → 1 ≤ i → w_Md_lay_6 post (nI k) f (nI w) (nI d) (nI md) (r + 1) (nI (10 ^ (i - 1))) (nI i) := by
    intro r
    induction r with
    | zero =>
      intro i hi h1
      unfold w_Md_lay_6
      refine ⟨fun _ => ⟨d + 1, ?_⟩, fun a => absurd (nI_le (by omega) (by omega)) a⟩
      have := m29 d (by omega)
      rw [Nat.sub_self, appD_0, Nat.add_zero] at this
      have et : tenN d = 10 ^ (i - 1) := by unfold tenN; rw [if_neg (by omega), show i = d by omega]
      rw [et] at this
      exact this
    | succ r ih =>
      intro i hi h1
      unfold w_Md_lay_6
      refine ⟨fun a => absurd a (nI_ge (by omega) (by omega)), fun _ => ?_⟩
      rw [show (10 : Int32) = nI 10 from rfl, pk_mul, nI_1, ← Nat.pow_succ, show (i - 1).succ = i + 1 - 1 by omega]
      exact ih (i + 1) (by omega) (by omega)
  unfold w_Md_lay
  exact ⟨d, by have := m6 (d - 1) 1 (by omega) (by omega); rw [show d - 1 + 1 = d by omega] at this; exact this⟩
theorem s_lay {post : Int32 → (Nat → Int32) → Prop} {S : List Nat} {d w md : Nat} {f : Nat → Int32} (hp : patB w d = true) (hS : isL f S) (hk : S.length + d ≤ 800) (h : ∀ f', isL f' (S ++ digW w d md) → post (nI (S ++ digW w d md).length) f') : w_Md_lay post (nI S.length) f (nI w) (nI d) (nI md) := by
  obtain ⟨h1, h2, h3, h4⟩ := patB_dig hp
  refine s_Md_lay h1 h4 h3 hk ?_
  have := h _ (isL_appD hS)
  rw [List.length_append, digW_len] at this
  exact this
