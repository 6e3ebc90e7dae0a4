/-! A strip read as a row: what it tells. -/
theorem upd_self (f : Nat → Int32) (i : Nat) (v : Int32) : upd f i v i = v := by
  unfold upd
  rw [if_pos rfl]
def Yg (g : Nat → Nat) (i : Nat) : Option Nat := symI (cntsG g (6 * i) 11 (sumG g (6 * i) 6) 6 0 0)
theorem Y_M (g : Nat → Nat) (i : Nat) : symI (cM g (6 * i) 11 (sumG g (6 * i) 6) 6) = Yg g i := find_eq symL_gd (by omega) (cnts_cM g (6 * i) 11 (sumG g (6 * i) 6) 6)
def yV (g : Nat → Nat) (i : Nat) : Nat := (Yg g i).getD 0
theorem yV_le (g : Nat → Nat) (i : Nat) : yV g i ≤ 105 := by
  unfold yV
  cases h : Yg g i with
  | none => show (0 : Nat) ≤ 105; omega
  | some v =>
    have := symI_lt h
    show v ≤ 105
    omega
theorem Y_opt {g : Nat → Nat} {i : Nat} (h : (Yg g i).isSome = true) : optI (Yg g i) = nI (yV g i) := by
  unfold yV
  cases e : Yg g i with
  | none => rw [e] at h; cases h
  | some v => rfl
theorem Y_no {g : Nat → Nat} {i : Nat} (h : ¬ (Yg g i).isSome = true) : optI (Yg g i) = -1 := by
  cases e : Yg g i with
  | none => rfl
  | some v => rw [e] at h; exact absurd rfl h
def sumY (g : Nat → Nat) : Nat → Nat
  | 0 => yV g 0
  | i + 1 => sumY g i + (i + 1) * yV g (i + 1)
theorem sumY_le (g : Nat → Nat) : ∀ i, i < 200 → sumY g i ≤ 106 + 106 * 200 * i
  | 0, _ => by have := yV_le g 0; show yV g 0 ≤ _; omega
  | i + 1, h => by
    have h1 := sumY_le g i (by omega)
    have h3 := yV_le g (i + 1)
    have h4 : (i + 1) * yV g (i + 1) ≤ 200 * 106 := Nat.mul_le_mul (by omega) (by omega)
    show sumY g i + (i + 1) * yV g (i + 1) ≤ _
    omega
def stepN (set sh x : Nat) (T : List Nat) : Option (Nat × Nat × List Nat) :=
  if sh = 1 then (if x ≤ 95 then some (set, 0, T ++ [sgnN (othN set) x]) else none)
  else if x = 102 then some (set, 0, T ++ [128])
  else if set = 2 ∧ x ≤ 99 then some (2, 0, T ++ [48 + x / 10] ++ [48 + x % 10])
  else if x ≤ 95 then some (set, 0, T ++ [sgnN set x])
  else if x = 98 then some (set, 1, T)
  else if gosN set x < 3 then some (gosN set x, 0, T) else none
def decR (g : Nat → Nat) : Nat → Nat → Nat → Nat → List Nat → Option (List Nat)
  | 0, _, _, sh, T => if sh = 0 then some T else none
  | r + 1, i, set, sh, T => match stepN set sh (yV g i) T with
    | none => none
    | some q => decR g r (i + 1) q.1 q.2.1 q.2.2
theorem decR_some {g : Nat → Nat} {r i set sh a b : Nat} {T c : List Nat} (h : stepN set sh (yV g i) T = some (a, b, c)) : decR g (r + 1) i set sh T = decR g r (i + 1) a b c := by
  show (match stepN set sh (yV g i) T with | none => none | some q => decR g r (i + 1) q.1 q.2.1 q.2.2) = _
  rw [h]
theorem decR_none {g : Nat → Nat} {r i set sh : Nat} {T : List Nat} (h : stepN set sh (yV g i) T = none) : decR g (r + 1) i set sh T = none := by
  show (match stepN set sh (yV g i) T with | none => none | some q => decR g r (i + 1) q.1 q.2.1 q.2.2) = _
  rw [h]
def rowOK (g : Nat → Nat) (n : Nat) (T : List Nat) : Prop := (∀ i, i < n → (Yg g i).isSome = true) ∧ cntsG g (6 * n) 13 (sumG g (6 * n) 7) 7 0 0 = 2331112 ∧ 103 ≤ yV g 0 ∧ decR g (n - 2) 1 (yV g 0 - 103) 0 [] = some T ∧ yV g (n - 1) = sumY g (n - 2) % 103
def rdRow (g : Nat → Nat) (k : Nat) (T : List Nat) : Prop := 19 ≤ k ∧ (k - 7) % 6 = 0 ∧ rowOK g ((k - 7) / 6) T
/-! The class. -/
theorem s_Se_signOf {post : Int32 → Prop} {s x : Nat} (hs : s < 2) (hx : x < 2 ^ 30) (h : post (nI (sgnN s x))) : w_Se_signOf post (nI s) (nI x) := by
  unfold w_Se_signOf
  unfold sgnN at h
  refine And.symm (pk_eq s 0 (fun c => pk_le x 63 (fun d => ?_) (fun d => ?_)) (fun c => ?_))
  · rw [if_neg (by omega), if_neg (by omega)] at h
    rw [show (32 : Int32) = nI 32 from rfl, nI_add]
    exact h
  · rw [if_neg (by omega), if_pos (by omega)] at h
    rw [show (64 : Int32) = nI 64 from rfl, pk_sub (by omega)]
    exact h
  · rw [if_pos (by omega)] at h
    rw [show (32 : Int32) = nI 32 from rfl, nI_add]
    exact h
theorem neg_set : ((List.range 4).all fun j => decide ((101 - nI (102 + j) : Int32) < 0)) = true := by decide +kernel
theorem s_Re_isSwitched {post : Int32 → Int32 → Prop} {s x : Nat} (hs : s < 3) (hx : 96 ≤ x) (hx2 : x ≤ 105) (h1 : gosN s x < 3 → post 1 (nI (gosN s x))) (h0 : gosN s x = 3 → ∀ v, post 0 v) : w_Re_isSwitched post (nI s) (nI x) := by
  unfold w_Re_isSwitched w_Se_setAfter
  unfold gosN at h1 h0
  by_cases c : x ≤ 101
  · have e : (101 : Int32) - nI x = nI (101 - x) := by rw [show (101 : Int32) = nI 101 from rfl, pk_sub c]
    rw [e]
    refine ⟨fun z => absurd z (nI_pos (by omega)), fun _ => pk_le 3 (101 - x) (fun d => ?_) (fun d => pk_eq (101 - x) s (fun q => ?_) (fun q => ⟨fun _ => ?_, fun z => absurd z (nI_nm1 (by omega))⟩))⟩
    · rw [if_neg (by omega), if_neg (by omega), if_neg (by omega)] at h0
      exact ⟨fun z => absurd rfl z, fun _ => h0 rfl _⟩
    · refine ⟨fun z => absurd rfl z, fun _ => ?_⟩
      have hx' : x = 99 ∨ x = 100 ∨ x = 101 := by omega
      rcases hx' with rfl | rfl | rfl
      · rw [if_pos rfl, if_pos (by omega)] at h0
        exact h0 rfl _
      · rw [if_neg (by omega), if_pos rfl, if_pos (by omega)] at h0
        exact h0 rfl _
      · rw [if_neg (by omega), if_neg (by omega), if_pos rfl, if_pos (by omega)] at h0
        exact h0 rfl _
    · have hx' : x = 99 ∨ x = 100 ∨ x = 101 := by omega
      rcases hx' with rfl | rfl | rfl
      · rw [if_pos rfl, if_neg (by omega)] at h1
        exact h1 (by omega)
      · rw [if_neg (by omega), if_pos rfl, if_neg (by omega)] at h1
        exact h1 (by omega)
      · rw [if_neg (by omega), if_neg (by omega), if_pos rfl, if_neg (by omega)] at h1
        exact h1 (by omega)
  · have e := of_decide_eq_true (List.all_eq_true.mp neg_set (x - 102) (List.mem_range.mpr (by omega)))
    rw [show 102 + (x - 102) = x by omega] at e
    rw [if_neg (by omega), if_neg (by omega), if_neg (by omega)] at h0
    exact ⟨fun _ => ⟨fun z => absurd rfl z, fun _ => h0 rfl _⟩, fun z => absurd e z⟩
theorem step_ok {set sh x a b : Nat} {T c : List Nat} (hs : set < 3) (hsh : sh = 1 → ¬ set = 2) (h : stepN set sh x T = some (a, b, c)) : a < 3 ∧ b < 2 ∧ (b = 1 → ¬ a = 2) ∧ c.length ≤ T.length + 2 := by
  unfold stepN at h
  split at h
  · split at h
    · cases h
      exact ⟨hs, by omega, fun z => by omega, by simp⟩
    · cases h
  · split at h
    · cases h
      exact ⟨hs, by omega, fun z => by omega, by simp⟩
    · split at h
      · cases h
        exact ⟨by omega, by omega, fun z => by omega, by simp⟩
      · split at h
        · cases h
          exact ⟨hs, by omega, fun z => by omega, by simp⟩
        · split at h
          · rename_i c1 c2 c3 c4 c5
            cases h
            exact ⟨hs, by omega, fun _ z => c3 ⟨z, by omega⟩, by omega⟩
          · split at h
            · rename_i c6
              cases h
              exact ⟨c6, by omega, fun z => by omega, by omega⟩
            · cases h
theorem s_Re_isTold {post : Int32 → Int32 → Int32 → Int32 → (Nat → Int32) → Prop} {set sh x : Nat} {T : List Nat} {f : Nat → Int32} (hs : set < 3) (hb : sh < 2) (hsh : sh = 1 → ¬ set = 2) (hx : x ≤ 105) (hT : T.length + 2 ≤ 260) (hf : isL f T)
    (h1 : ∀ a b c, stepN set sh x T = some (a, b, c) → ∀ f', isL f' c → post 1 (nI a) (nI b) (nI c.length) f') (h0 : stepN set sh x T = none → ∀ a b c f', post 0 a b c f') : w_Re_isTold post (nI set) (nI sh) (nI T.length) f (nI x) := by
  unfold w_Re_isTold
  unfold stepN at h1 h0
  refine pk_eq sh 0 (fun c0 => ?_) (fun c0 => ?_)
  · rw [if_neg (by omega)] at h1 h0
    subst c0
    refine And.symm (pk_eq x 102 (fun c => ?_) (fun c => ?_))
    · rw [if_pos c] at h1
      exact s_add_L (v := 128) hf (by omega) (by omega) (fun f' hf' => ⟨Or.inr rfl, h1 _ _ _ rfl f' hf'⟩)
    · rw [if_neg c] at h1 h0
      refine And.symm (pk_eq set 2 (fun d => pk_lt 99 x (fun e => ?_) (fun e => ?_)) (fun d => pk_lt 95 x (fun e => ?_) (fun e => ?_)))
      · rw [if_neg (fun z => by omega), if_neg (by omega), if_neg (by omega)] at h1 h0
        refine pk_lt 95 x (fun _ => ?_) (fun z => absurd z (by omega))
        refine And.symm (pk_eq x 98 (fun z => absurd z (by omega)) (fun _ => ?_))
        refine s_Re_isSwitched hs (by omega) hx (fun q => ⟨Or.inr rfl, ?_⟩) (fun q v => ⟨Or.inl rfl, ?_⟩)
        · rw [if_pos q] at h1
          exact h1 _ _ _ rfl f hf
        · rw [if_neg (by omega)] at h0
          exact h0 rfl _ _ _ _
      · rw [if_pos ⟨d, by omega⟩] at h1
        have hd : nI x / 10 = nI (x / 10) := by rw [show (10 : Int32) = nI 10 from rfl, pk_div (by omega) (by omega) (by omega)]
        have hr : nI x - nI x / 10 * 10 = nI (x % 10) := by rw [show (10 : Int32) = nI 10 from rfl, pk_rem (by omega) (by omega) (by omega)]
        rw [hr, hd, show (48 : Int32) = nI 48 from rfl, nI_add, nI_add, d]
        refine s_add_L hf (by omega) (by omega) (fun f1 hf1 => ⟨fun z => absurd z (by decide), fun _ => ?_⟩)
        refine s_add_L hf1 (by rw [List.length_append, List.length_singleton]; omega) (by omega) (fun f2 hf2 => ⟨fun z => absurd z (by decide), fun _ => ?_⟩)
        exact h1 _ _ _ rfl f2 hf2
      · rw [if_neg (fun z => d z.1), if_neg (by omega)] at h1 h0
        refine And.symm (pk_eq x 98 (fun e2 => ?_) (fun e2 => ?_))
        · rw [if_pos e2] at h1
          exact h1 _ _ _ rfl f hf
        · rw [if_neg e2] at h1 h0
          refine s_Re_isSwitched hs (by omega) hx (fun q => ⟨Or.inr rfl, ?_⟩) (fun q v => ⟨Or.inl rfl, ?_⟩)
          · rw [if_pos q] at h1
            exact h1 _ _ _ rfl f hf
          · rw [if_neg (by omega)] at h0
            exact h0 rfl _ _ _ _
      · rw [if_neg (fun z => d z.1), if_pos (by omega)] at h1
        refine s_Se_signOf (by omega) (by omega) ?_
        exact s_add_L hf (by omega) (by omega) (fun f' hf' => ⟨Or.inr rfl, h1 _ _ _ rfl f' hf'⟩)
  · have e1 : sh = 1 := by omega
    rw [if_pos e1] at h1 h0
    refine pk_lt 95 x (fun e => ?_) (fun e => ?_)
    · rw [if_neg (by omega)] at h0
      exact h0 rfl _ _ _ _
    · rw [if_pos (by omega)] at h1
      refine s_Se_otherOfAB (by omega) ?_
      refine s_Se_signOf (by unfold othN; split <;> omega) (by omega) ?_
      exact s_add_L hf (by omega) (by omega) (fun f' hf' => ⟨fun z => absurd z (by decide), fun _ => h1 _ _ _ rfl f' hf'⟩)
theorem s_Re_symbolAt {post : Int32 → Prop} {f : Nat → Int32} {g : Nat → Nat} {k i : Nat} (hk : k ≤ 800) (hg : okW f k g) (hi : 6 * i + 6 ≤ k) (h : post (optI (Yg g i))) : w_Re_symbolAt post (nI k) f (nI (6 * i)) := by
  unfold w_Re_symbolAt
  have hs := sumG_le hg 6 hi
  refine s_Re_sumOf (m := 6) hk hg hi ?_
  refine s_Re_countsOf (m := 6) (M := 11) hk hg hi (by omega) (by omega) (by omega) ?_
  exact s_symW (cnts_lt _ _ _ _ _ (by omega)) h
theorem s_Re_isLastAt {post : Int32 → Prop} {f : Nat → Int32} {g : Nat → Nat} {k a : Nat} (hk : k ≤ 800) (hg : okW f k g) (hi : a + 7 ≤ k) (h1 : cntsG g a 13 (sumG g a 7) 7 0 0 = 2331112 → post 1) (h0 : ¬ cntsG g a 13 (sumG g a 7) 7 0 0 = 2331112 → post 0) : w_Re_isLastAt post (nI k) f (nI a) := by
  unfold w_Re_isLastAt
  have hs := sumG_le hg 7 hi
  refine s_Re_sumOf (m := 7) hk hg hi ?_
  refine s_Re_countsOf (m := 7) (M := 13) hk hg hi (by omega) (by omega) (by omega) ?_
  exact And.symm (pk_eq (cntsG g a 13 (sumG g a 7) 7 0 0) 2331112 h1 h0 rfl rfl (cnts_lt _ _ _ _ _ (by omega)))
theorem low_row : ((List.range 7).all fun j => decide ((nI j - 7 : Int32) / 6 < 2)) = true := by decide +kernel
theorem s_Re_isRow {post : Int32 → Int32 → Int32 → Int32 → (Nat → Int32) → Prop} {k : Nat} {g : Nat → Nat} {f ft : Nat → Int32} {set0 sh0 : Int32} (hk : k ≤ 800) (hg : okW f k g) (h1 : ∀ T, rdRow g k T → T.length ≤ 260 → ∀ a b f', isL f' T → post 1 a b (nI T.length) f') (h0 : (∀ T, ¬ rdRow g k T) → ∀ a b c f', post 0 a b c f') : w_Re_isRow post set0 sh0 (nI k) f 0 ft := by
  unfold w_Re_isRow
  refine s_It_count ?_
  by_cases k7 : k < 7
  · have e := of_decide_eq_true (List.all_eq_true.mp low_row k (List.mem_range.mpr k7))
    exact ⟨fun _ => h0 (fun T z => by have := z.1; omega) _ _ _ _, fun z => absurd e z⟩
  · have e7 : nI k - 7 = nI (k - 7) := by rw [show (7 : Int32) = nI 7 from rfl, pk_sub (by omega)]
    have e6 : nI (k - 7) / 6 = nI ((k - 7) / 6) := by rw [show (6 : Int32) = nI 6 from rfl, pk_div (by omega) (by omega) (by omega)]
    rw [e7, e6]
    refine pk_lt ((k - 7) / 6) 2 (fun c => h0 (fun T z => by have := z.1; omega) _ _ _ _) (fun c => ?_)
    have em : nI ((k - 7) / 6) * 6 = nI ((k - 7) / 6 * 6) := by rw [show (6 : Int32) = nI 6 from rfl, pk_mul]
    rw [em]
    refine And.symm (pk_eq (k - 7) ((k - 7) / 6 * 6) (fun d => ?_) (fun d => h0 (fun T z => by have := z.2.1; omega) _ _ _ _))
    generalize hn : (k - 7) / 6 = n at *
    have hkn : k - 7 = 6 * n := by omega
    rw [hkn]
    have no : (∀ T, ¬ rowOK g n T) → ∀ T, ¬ rdRow g k T := fun z T q => z T (by have := q.2.2; rw [hn] at this; exact this)
    refine s_Re_isLastAt hk hg (by omega) (fun cl => ⟨fun _ => ?_, fun z => absurd z (by decide)⟩) (fun cl => ⟨fun z => absurd rfl z, fun _ => h0 (no (fun T z => cl z.2.1)) _ _ _ _⟩)
    refine s_Re_symbolAt (i := 0) hk hg (by omega) ?_
    have hy0 := yV_le g 0
    by_cases cy : (Yg g 0).isSome = true
    · rw [Y_opt cy]
      unfold w_Se_isFirst
      refine pk_lt (yV g 0) 103 (fun q => ⟨fun z => absurd rfl z, fun _ => h0 (no (fun T z => by have := z.2.2.1; omega)) _ _ _ _⟩) (fun q => pk_le 106 (yV g 0) (fun z => absurd z (by omega)) (fun _ => ⟨fun _ => ⟨n - 1, ?_⟩, fun z => absurd z (by decide)⟩))
      have e103 : nI (yV g 0) - 103 = nI (yV g 0 - 103) := by rw [show (103 : Int32) = nI 103 from rfl, pk_sub q]
      rw [e103]
      have main : ∀ r i set sh (T : List Nat) (ft : Nat → Int32), i + r = n - 1 → 1 ≤ i → set < 3 → sh < 2 → (sh = 1 → ¬ set = 2) → isL ft T → T.length ≤ 2 * (i - 1) → (∀ j, j < i → (Yg g j).isSome = true) → decR g (n - 2) 1 (yV g 0 - 103) 0 [] = decR g r i set sh T → w_Re_isRow_73 post (nI k) f (nI (6 * n)) (nI n) (r + 1) (nI set) (nI sh) (nI T.length) ft (nI (sumY g (i - 1))) (nI i) := by
        intro r
        induction r with
        | zero =>
          intro i set sh T ft hi h1i hs hb hsh hft hlen hall hdec
          have hin : i = n - 1 := by omega
          have e1 : nI n - 1 = nI (n - 1) := by rw [show (1 : Int32) = nI 1 from rfl, pk_sub (by omega)]
          unfold w_Re_isRow_73
          rw [e1]
          refine pk_le (n - 1) i (fun _ => ?_) (fun z => absurd z (by omega))
          refine And.symm (pk_eq sh 0 (fun cs => ?_) (fun cs => ?_))
          · have e6' : nI (6 * n) - 6 = nI (6 * (n - 1)) := by rw [show (6 : Int32) = nI 6 from rfl, pk_sub (by omega), show 6 * n - 6 = 6 * (n - 1) by omega]
            rw [e6']
            have hsum := sumY_le g (i - 1) (by omega)
            have er : nI (sumY g (i - 1)) - nI (sumY g (i - 1)) / 103 * 103 = nI (sumY g (i - 1) % 103) := by rw [show (103 : Int32) = nI 103 from rfl, pk_rem (by omega) (by omega) (by omega)]
            rw [er]
            refine s_Re_symbolAt hk hg (by omega) ?_
            have edec : decR g 0 i set sh T = some T := by
              show (if sh = 0 then some T else none) = some T
              rw [if_pos cs]
            rw [edec] at hdec
            by_cases cl2 : (Yg g (n - 1)).isSome = true
            · rw [Y_opt cl2]
              have hyl := yV_le g (n - 1)
              refine And.symm (pk_eq (yV g (n - 1)) (sumY g (i - 1) % 103) (fun q2 => ?_) (fun q2 => ?_))
              · refine h1 T ⟨by omega, by omega, ?_⟩ (by omega) _ _ ft hft
                rw [hn]
                refine ⟨fun j hj => ?_, cl, q, hdec, ?_⟩
                · by_cases ej : j = n - 1
                  · rw [ej]; exact cl2
                  · exact hall j (by omega)
                · rw [q2, hin, show n - 1 - 1 = n - 2 by omega]
              · refine h0 (no (fun T' z => q2 ?_)) _ _ _ _
                have := z.2.2.2.2
                rw [hin, show n - 1 - 1 = n - 2 by omega]
                exact this
            · rw [Y_no cl2]
              refine ⟨fun _ => h0 (no (fun T' z => cl2 (z.1 (n - 1) (by omega)))) _ _ _ _, fun z => absurd z.symm (nI_nm1 (by omega))⟩
          · refine h0 (no (fun T' z => ?_)) _ _ _ _
            have z4 := z.2.2.2.1
            rw [hdec] at z4
            have edec : decR g 0 i set sh T = none := by
              show (if sh = 0 then some T else none) = none
              rw [if_neg cs]
            rw [edec] at z4
            cases z4
        | succ r ih =>
          intro i set sh T ft hi h1i hs hb hsh hft hlen hall hdec
          have e1 : nI n - 1 = nI (n - 1) := by rw [show (1 : Int32) = nI 1 from rfl, pk_sub (by omega)]
          unfold w_Re_isRow_73
          rw [e1]
          refine pk_le (n - 1) i (fun z => absurd z (by omega)) (fun _ => ?_)
          have e6i : (6 : Int32) * nI i = nI (6 * i) := by rw [show (6 : Int32) = nI 6 from rfl, pk_mul]
          rw [e6i]
          refine s_Re_symbolAt hk hg (by omega) ?_
          by_cases ci : (Yg g i).isSome = true
          · rw [Y_opt ci]
            have hyi := yV_le g i
            refine ⟨fun z => absurd z (nI_nm1 (by omega)), fun _ => ?_⟩
            refine s_Re_isTold hs hb hsh hyi (by omega) hft (fun a b c hst f' hf' => ⟨fun _ => ?_, fun z => absurd z (by decide)⟩) (fun hst a b c f' => ⟨fun z => absurd rfl z, fun _ => ?_⟩)
            · obtain ⟨sa, sb, sc, sd⟩ := step_ok hs hsh hst
              rw [pk_mul, nI_add, nI_1]
              have esum : sumY g (i - 1) + i * yV g i = sumY g (i + 1 - 1) := by
                obtain ⟨i', rfl⟩ : ∃ i', i = i' + 1 := ⟨i - 1, by omega⟩
                rfl
              rw [esum]
              refine ih (i + 1) a b c f' (by omega) (by omega) sa sb sc hf' (by omega) (fun j hj => ?_) (by rw [hdec]; exact decR_some hst)
              by_cases ej : j = i
              · rw [ej]; exact ci
              · exact hall j (by omega)
            · refine h0 (no (fun T' z => ?_)) _ _ _ _
              have z4 := z.2.2.2.1
              rw [hdec, decR_none hst] at z4
              cases z4
          · rw [Y_no ci]
            exact ⟨fun _ => h0 (no (fun T' z => ci (z.1 i (by omega)))) _ _ _ _, fun z => absurd rfl z⟩
      have := main (n - 2) 1 (yV g 0 - 103) 0 [] ft (by omega) (by omega) (by omega) (by omega) (fun z => by omega) (fun j hj => absurd hj (by simp)) (by simp) (fun j hj => by rw [show j = 0 by omega]; exact cy) rfl
      rw [show n - 2 + 1 = n - 1 by omega] at this
      exact this
    · rw [Y_no cy]
      unfold w_Se_isFirst
      exact ⟨fun _ => ⟨fun z => absurd rfl z, fun _ => h0 (no (fun T z => cy (z.1 0 (by omega)))) _ _ _ _⟩, fun z => absurd (by decide) z⟩
