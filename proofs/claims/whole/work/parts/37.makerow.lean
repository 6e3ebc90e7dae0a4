/-! The class's row of a text, whole. -/
theorem tlSym_le {tx : Nat → Nat} {n p s : Nat} (htx : ∀ j, j < n → tx j ≤ 128) (hp : p < n) (hpair : ¬ tx p = 128 → s = 2 → figB (tx p) ∧ p + 1 < n ∧ figB (tx (p + 1))) : ∀ x ∈ tlSym tx p s, x ≤ 106 := by
  have hc := htx p hp
  have hsym : ∀ s' v, symN s' (tx p) = some v → v ≤ 95 := by
    intro s' v hv
    unfold symN at hv
    split at hv
    · cases hv
    · split at hv
      · split at hv
        · cases hv; omega
        · cases hv
      · split at hv
        · cases hv; omega
        · cases hv
  intro x hx
  unfold tlSym at hx
  by_cases c1 : tx p = 128
  · rw [if_pos c1] at hx
    simp at hx
    omega
  · rw [if_neg c1] at hx
    by_cases c2 : s = 2
    · rw [if_pos c2] at hx
      obtain ⟨⟨f1, f2⟩, -, f3, f4⟩ := hpair c1 c2
      simp at hx
      omega
    · rw [if_neg c2] at hx
      cases hv : symN s (tx p) with
      | some v =>
        rw [hv] at hx
        simp at hx
        have := hsym _ _ hv
        omega
      | none =>
        rw [hv] at hx
        simp at hx
        rcases hx with rfl | hx
        · omega
        · cases hw : symN (othN s) (tx p) with
          | none => rw [hw] at hx; simp at hx; omega
          | some v => rw [hw] at hx; simp at hx; have := hsym _ _ hw; omega
theorem emit_le {tx : Nat → Nat} {n : Nat} {K : Nat → Nat → Nat} (hn : n ≤ 64) (h : Kok tx n K) (htx : ∀ j, j < n → tx j ≤ 128) : ∀ m p s, p ≤ n → s < 3 → ∀ x ∈ emitN tx n K m p s, x ≤ 106 := by
  intro m
  induction m with
  | zero => intro p s hp hs x hx; unfold emitN at hx; cases hx
  | succ m ih =>
    intro p s hp hs x hx
    unfold emitN at hx
    by_cases c1 : n ≤ p
    · rw [if_pos c1] at hx; cases hx
    · rw [if_neg c1] at hx
      obtain ⟨a1, a2, a3⟩ := nxtN_ok hn h (by omega) hs (p := p) (tx := tx)
      by_cases c2 : nxtN tx n K p s = s
      · rw [if_pos c2] at hx
        obtain ⟨b1, b2, b3, b4⟩ := tell_len hn h (show p < n by omega) hs (a2 c2)
        rcases List.mem_append.mp hx with hx | hx
        · exact tlSym_le htx (by omega) b1 x hx
        · exact ih _ _ b2 hs x hx
      · rw [if_neg c2] at hx
        rcases List.mem_cons.mp hx with hx | hx
        · omega
        · exact ih _ _ hp a1 x hx
/-- in A and in B together at most one symbol more for each sign -/
theorem Kok_ab {tx : Nat → Nat} {n : Nat} {K : Nat → Nat → Nat} (h : Kok tx n K) (htx : ∀ j, j < n → tx j ≤ 128) : ∀ d p, p + d = n → ∃ a b, K p 0 ≤ d + a ∧ K p 1 ≤ d + b ∧ a + b ≤ d := by
  intro d
  induction d with
  | zero =>
    intro p hp
    rw [show p = n by omega]
    exact ⟨0, 0, by rw [h.1 0 (by omega)]; omega, by rw [h.1 1 (by omega)]; omega, by omega⟩
  | succ d ih =>
    intro p hp
    obtain ⟨a, b, h0, h1, hab⟩ := ih (p + 1) (by omega)
    have hc := htx p (by omega)
    have k0 : K p 0 ≤ tellN tx n K p 0 := by rw [h.2 p 0 (by omega) (by omega)]; exact newN_le
    have k1 : K p 1 ≤ tellN tx n K p 1 := by rw [h.2 p 1 (by omega) (by omega)]; exact newN_le
    unfold tellN at k0 k1
    by_cases c1 : tx p = 128
    · rw [if_pos c1] at k0 k1
      exact ⟨a, b, by omega, by omega, by omega⟩
    · rw [if_neg c1, if_neg (by omega)] at k0 k1
      by_cases c2 : tx p < 32
      · have e : (symN 0 (tx p)).isSome = true := by unfold symN; rw [if_neg (by omega), if_neg (by omega), if_pos rfl]; rfl
        rw [if_pos e] at k0
        refine ⟨a, b + 1, by omega, ?_, by omega⟩
        split at k1 <;> omega
      · have e : (symN 1 (tx p)).isSome = true := by unfold symN; rw [if_neg (by omega), if_pos (by omega), if_pos (Or.inl rfl)]; rfl
        rw [if_pos e] at k1
        refine ⟨a + 1, b, ?_, by omega, by omega⟩
        split at k0 <;> omega
theorem bst_le {tx : Nat → Nat} {n : Nat} {K : Nat → Nat → Nat} (hn : n ≤ 64) (h : Kok tx n K) (htx : ∀ j, j < n → tx j ≤ 128) : K 0 (bstN K) ≤ 96 := by
  obtain ⟨a, b, h0, h1, hab⟩ := Kok_ab h htx n 0 (by omega)
  unfold bstN
  by_cases c1 : K 0 1 < K 0 0
  · rw [if_pos c1]
    by_cases c2 : K 0 2 < K 0 1
    · rw [if_pos c2]; omega
    · rw [if_neg c2]; omega
  · rw [if_neg c1]
    by_cases c2 : K 0 2 < K 0 0
    · rw [if_pos c2]; omega
    · rw [if_neg c2]; omega
/-- the row without its last two symbols; the row -/
def row0 (tx : Nat → Nat) (n : Nat) (K : Nat → Nat → Nat) : List Nat := (103 + bstN K) :: emitN tx n K 99 0 (bstN K)
def rowN (tx : Nat → Nat) (n : Nat) (K : Nat → Nat → Nat) : List Nat := row0 tx n K ++ [chkS (row0 tx n K)] ++ [106]
theorem row0_len {tx : Nat → Nat} {n : Nat} {K : Nat → Nat → Nat} (hn : n ≤ 64) (h : Kok tx n K) (htx : ∀ j, j < n → tx j ≤ 128) : (row0 tx n K).length = 1 + K 0 (bstN K) := by
  have hb := bst_le hn h htx
  unfold row0
  rw [List.length_cons, emit_len hn h 99 0 (bstN K) (by omega) (bstN_lt K) (by omega)]
  omega
theorem getD_le {R : List Nat} {b : Nat} (h : ∀ x ∈ R, x ≤ b) : ∀ j, j < R.length → R.getD j 0 ≤ b := by
  intro j hj
  rw [getD_at hj]
  exact h _ (List.getElem_mem hj)
theorem s_Pa_makeRow {post : Int32 → (Nat → Int32) → (Nat → Int32) → Prop} {tx : Nat → Nat} {n : Nat} {K : Nat → Nat → Nat} {ft fr f : Nat → Int32} {cr : Int32} (hn : n ≤ 64) (h : Kok tx n K) (hT : okT ft n tx) (hpost : ∀ fr' f', isL fr' (rowN tx n K) → post (nI (rowN tx n K).length) fr' f') : w_Pa_makeRow post (nI n) ft cr fr f := by
  have htx : ∀ j, j < n → tx j ≤ 128 := fun j hj => (hT j hj).2
  have hb := bst_le hn h htx
  have hl0 := row0_len hn h htx
  have kb : ∀ s, s < 3 → K 0 s ≤ 1000001 := fun s hs => by have := (Kok_le h n 0 (by omega)).2 s hs; omega
  have last : ∀ f : Nat → Int32, okC f n K 0 → w_Pa_addSymbols (fun s5 s6 => w_Pa_checkSymbol (fun r7 => w_It_add (fun r8 s9 s10 => w_It_add (fun r11 s12 s13 => post s12 s13 f) 99 s9 s10 106) 99 s5 s6 r7) s5 s6) (nI n) ft 0 fr f := by
    intro f hC
    unfold w_Pa_addSymbols
    refine s_Pa_cheapestFirstSet hC kb ?_
    unfold w_Se_firstOf
    rw [show (103 : Int32) = nI 103 from rfl, nI_add, show (0 : Int32) = nI ([] : List Nat).length from rfl]
    refine s_add_L (fun j hj => absurd hj (by simp)) (by simp) (by omega) (fun f1 h1 => ⟨100, ?_⟩)
    have hlen : ([103 + bstN K] ++ emitN tx n K 99 0 (bstN K)).length = 1 + K 0 (bstN K) := hl0
    refine s_Pa_addSymbols_21 hn h hT hC 99 0 0 (bstN K) _ f1 (by omega) (by omega) (bstN_lt K) h1 (by rw [List.length_append] at hlen; exact Nat.le_trans (Nat.le_of_eq hlen) (by omega)) (fun f2 h2 => ?_)
    have e0 : ([] : List Nat) ++ [103 + bstN K] ++ emitN tx n K 99 0 (bstN K) = row0 tx n K := rfl
    rw [e0] at h2 ⊢
    refine s_Pa_checkSymbol h2 (by omega) (by omega) (getD_le (fun x hx => ?_)) ?_
    · unfold row0 at hx
      rcases List.mem_cons.mp hx with hx | hx
      · have := bstN_lt K; omega
      · exact emit_le hn h htx 99 0 (bstN K) (by omega) (bstN_lt K) x hx
    · refine s_add_L h2 (by omega) (by omega) (fun f3 h3 => ?_)
      rw [show (106 : Int32) = nI 106 from rfl]
      refine s_add_L h3 (by rw [List.length_append, List.length_singleton]; omega) (by omega) (fun f4 h4 => ?_)
      exact hpost f4 f h4
  have z1 : ∀ p s, p < n → s < 3 → tell0 tx n K p s = tellN tx n K p s := fun p s hp _ => by unfold tell0; rw [if_neg (by omega)]
  have loop : ∀ (p : Nat) (f : Nat → Int32), p ≤ n → okC f n K (p + 1) → w_Pa_makeRow_8 post (nI n) ft cr fr (p + 2) f (nI p) := by
    intro p
    induction p with
    | zero =>
      intro f hp hC
      unfold w_Pa_makeRow_8
      refine ⟨fun a => absurd a (nI_pos (by omega)), fun _ => ?_⟩
      refine s_Pa_fillCosts hn hp hT hC (fun s hs => ?_) (fun s hs => ?_) (fun f' hC' => ?_)
      · by_cases e : 0 = n
        · unfold tell0; rw [if_pos e]; omega
        · rw [z1 0 s (by omega) hs]; exact tellN_le hn h (by omega) hs
      · by_cases e : 0 = n
        · have hz : ∀ s', s' < 3 → tell0 tx n K 0 s' = (fun _ => 0) s' := fun s' _ => by unfold tell0; rw [if_pos e]
          have e0 : K 0 s = 0 := by have := h.1 s hs; rw [← e] at this; exact this
          rw [newN_congr hs hz, e0]
          rfl
        · rw [newN_congr hs (fun s' hs' => z1 0 s' (by omega) hs')]
          exact h.2 0 s (by omega) hs
      · unfold w_Pa_makeRow_8
        refine ⟨fun _ => ?_, fun a => absurd (by decide) a⟩
        exact s_It_empty (last f' hC')
    | succ p ih =>
      intro f hp hC
      unfold w_Pa_makeRow_8
      refine ⟨fun a => absurd a (nI_pos (by omega)), fun _ => ?_⟩
      refine s_Pa_fillCosts hn hp hT hC (fun s hs => ?_) (fun s hs => ?_) (fun f' hC' => ?_)
      · by_cases e : p + 1 = n
        · unfold tell0; rw [if_pos e]; omega
        · rw [z1 (p + 1) s (by omega) hs]; exact tellN_le hn h (by omega) hs
      · by_cases e : p + 1 = n
        · have hz : ∀ s', s' < 3 → tell0 tx n K (p + 1) s' = (fun _ => 0) s' := fun s' _ => by unfold tell0; rw [if_pos e]
          rw [newN_congr hs hz, e, h.1 s hs]
          rfl
        · rw [newN_congr hs (fun s' hs' => z1 (p + 1) s' (by omega) hs')]
          exact h.2 (p + 1) s (by omega) hs
      · rw [pk_m1]
        exact ih f' (by omega) hC'
  unfold w_Pa_makeRow
  refine s_It_count ?_
  exact ⟨n + 2, loop n f (Nat.le_refl _) (fun p' s' h1 h2 => by omega)⟩
theorem s_Lc_pack {post : Int32 → Int32 → (Nat → Int32) → (Nat → Int32) → Prop} {tx : Nat → Nat} {n : Nat} {K : Nat → Nat → Nat} {ft fr f : Nat → Int32} {cr : Int32} (hn : n ≤ 64) (h : Kok tx n K) (hT : okT ft n tx) (hpost : ∀ fr' f', isL fr' (rowN tx n K) → post (nI (rowN tx n K).length) (nI (rowN tx n K).length) fr' f') : w_Lc_pack post (nI n) ft cr fr f := by
  unfold w_Lc_pack
  refine s_Pa_makeRow hn h hT (fun fr' f' h' => ?_)
  exact s_It_count (hpost fr' f' h')
