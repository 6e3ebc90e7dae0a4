/-! A strip read as thirteen figures. -/
theorem opt_some {o : Option Nat} (h : o.isSome = true) : optI o = nI (o.getD 0) := by
  cases o with
  | none => cases h
  | some v => rfl
theorem opt_no {o : Option Nat} (h : ¬ o.isSome = true) : optI o = -1 := by
  cases o with
  | none => rfl
  | some v => exact absurd rfl h
def figC (g : Nat → Nat) (a : Nat) : Nat := cntsG g a 7 (sumG g a 4) 4 0 0
def figM (g : Nat → Nat) (a : Nat) : Nat := cM g a 7 (sumG g a 4) 4
theorem figC_M (g : Nat → Nat) (a : Nat) : figC g a = if gd 4 (figM g a) = true then figM g a else 0 := cnts_cM g a 7 (sumG g a 4) 4
theorem figM_lt (g : Nat → Nat) (a : Nat) : figM g a < 10000 := cM_lt g a 7 (sumG g a 4) 4
theorem figC_lt (g : Nat → Nat) (a : Nat) : figC g a < 10000 := by
  have := figM_lt g a
  rw [figC_M]
  split <;> omega
theorem figP_M (g : Nat → Nat) (a : Nat) : figP (figM g a) = figP (figC g a) := find_eq figL_gd (by omega) (figC_M g a)
theorem figP_R (g : Nat → Nat) (a : Nat) : figP (revF (figM g a)) = figP (revF (figC g a)) := by
  refine find_eq figL_gd (m := 4) (by omega) ?_
  rw [figC_M]
  exact rev_if (figM_lt g a)
theorem revF_lt (w : Nat) : revF w < 10000 := by
  unfold revF
  omega
def thA (i : Nat) : Nat := if i ≤ 6 then 3 + 4 * (i - 1) else 32 + 4 * (i - 7)
def thC (g : Nat → Nat) (i : Nat) : Nat := figC g (thA i)
def thO (g : Nat → Nat) (i : Nat) : Prop := (figP (thC g i)).isSome = true ∨ (i ≤ 6 ∧ (figP (revF (thC g i))).isSome = true)
def thT (g : Nat → Nat) (i : Nat) : Nat := if (figP (thC g i)).isSome = true then 0 else 1
def thV (g : Nat → Nat) (i : Nat) : Nat := if (figP (thC g i)).isSome = true then (figP (thC g i)).getD 0 else (figP (revF (thC g i))).getD 0
theorem figP_getD (c : Nat) : (figP c).getD 0 < 10 := by
  cases h : figP c with
  | none => show (0 : Nat) < 10; omega
  | some v => exact figP_lt h
theorem thV_lt (g : Nat → Nat) (i : Nat) : thV g i < 10 := by
  unfold thV
  split
  · exact figP_getD _
  · exact figP_getD _
def tuN (g : Nat → Nat) : Nat → Nat
  | 0 => 0
  | i + 1 => 2 * tuN g i + thT g (i + 1)
theorem tuN_lt (g : Nat → Nat) : ∀ i, tuN g i + 1 ≤ 2 ^ i
  | 0 => by show 0 + 1 ≤ 1; omega
  | i + 1 => by
    have := tuN_lt g i
    have h2 : thT g (i + 1) ≤ 1 := by unfold thT; split <;> omega
    show 2 * tuN g i + thT g (i + 1) + 1 ≤ 2 ^ (i + 1)
    rw [Nat.pow_succ]
    omega
theorem tuN_lt6 (g : Nat → Nat) {i : Nat} (h : i ≤ 6) : tuN g i < 64 := by
  have h1 := tuN_lt g i
  have h2 : 2 ^ i ≤ 2 ^ 6 := Nat.pow_le_pow_right (by omega) h
  omega
def thF (g : Nat → Nat) : Option Nat := fstP (tuN g 6)
def thW (g : Nat → Nat) (i : Nat) : Nat := if i = 0 then (thF g).getD 0 else thV g i
theorem thW_lt (g : Nat → Nat) (i : Nat) : thW g i < 10 := by
  unfold thW
  split
  · cases h : thF g with
    | none => show (0 : Nat) < 10; omega
    | some v => exact fstP_lt h
  · exact thV_lt g i
theorem thW_pos {g : Nat → Nat} {i : Nat} (h : 1 ≤ i) : thW g i = thV g i := by
  unfold thW
  rw [if_neg (by omega)]
def sumT (g : Nat → Nat) : Nat → Nat
  | 0 => 0
  | i + 1 => sumT g i + wtN i * thW g i
theorem sumT_s (g : Nat → Nat) (i : Nat) : sumT g (i + 1) = sumT g i + wtN i * thW g i := rfl
theorem sumT_le (g : Nat → Nat) : ∀ i : Nat, sumT g i ≤ 27 * i
  | 0 => by show 0 ≤ _; omega
  | i + 1 => by
    have h1 := sumT_le g i
    have h2 := thW_lt g i
    rw [sumT_s]
    unfold wtN
    split <;> omega
def thL (g : Nat → Nat) (m : Nat) : List Nat := (List.range m).map (fun i => 48 + thW g i)
theorem thL_len (g : Nat → Nat) (m : Nat) : (thL g m).length = m := by unfold thL; rw [List.length_map, List.length_range]
theorem thL_at {g : Nat → Nat} {m j : Nat} (h : j < m) : (thL g m).getD j 0 = 48 + thW g j := by
  rw [getD_at (by rw [thL_len]; exact h)]
  unfold thL
  rw [List.getElem_map, List.getElem_range]
theorem thL_s (g : Nat → Nat) (m : Nat) : thL g (m + 1) = thL g m ++ [48 + thW g m] := by
  unfold thL
  rw [List.range_succ, List.map_append]
  rfl
def thI (g : Nat → Nat) : Prop := cntsG g 0 95 (sumG g 0 59) 3 0 0 = 111 ∧ cntsG g 27 95 (sumG g 0 59) 5 0 0 = 11111 ∧ cntsG g 56 95 (sumG g 0 59) 3 0 0 = 111
def thOK (g : Nat → Nat) (T : List Nat) : Prop := thI g ∧ (∀ i, 1 ≤ i → i ≤ 12 → thO g i) ∧ (thF g).isSome = true ∧ sumT g 13 % 10 = 0 ∧ T = thL g 13
/-! The class. -/
theorem s_Re_figAt {post : Int32 → Prop} {f : Nat → Int32} {g : Nat → Nat} {k a : Nat} (hk : k ≤ 800) (hg : okW f k g) (hi : a + 4 ≤ k) (h : post (nI (figC g a))) : w_Re_figureCountsAt post (nI k) f (nI a) := by
  unfold w_Re_figureCountsAt
  have hs := sumG_le hg 4 hi
  refine s_Re_sumOf (m := 4) hk hg hi ?_
  exact s_Re_countsOf (m := 4) (M := 7) hk hg hi (by omega) (by omega) (by omega) h
theorem s_Re_sides {post : Int32 → Prop} {f : Nat → Int32} {g : Nat → Nat} (hg : okW f 59 g) (h1 : thI g → post 1) (h0 : ¬ thI g → post 0) : w_Re_areSidesAndMiddleRight post (nI 59) f := by
  unfold w_Re_areSidesAndMiddleRight
  have hs := sumG_le hg (a := 0) 59 (by omega)
  refine s_Re_sumOf (a := 0) (m := 59) (by omega) hg (by omega) ?_
  refine s_Re_countsOf (a := 0) (m := 3) (M := 95) (by omega) hg (by omega) (by omega) (by omega) (by omega) ?_
  refine And.symm (pk_eq (cntsG g 0 95 (sumG g 0 59) 3 0 0) 111 (fun c1 => ?_) (fun c1 => h0 (fun z => c1 z.1)) rfl rfl (cnts_lt _ _ _ _ _ (by omega)))
  refine s_Re_countsOf (a := 27) (m := 5) (M := 95) (by omega) hg (by omega) (by omega) (by omega) (by omega) ?_
  refine And.symm (pk_eq (cntsG g 27 95 (sumG g 0 59) 5 0 0) 11111 (fun c2 => ?_) (fun c2 => h0 (fun z => c2 z.2.1)) rfl rfl (cnts_lt _ _ _ _ _ (by omega)))
  refine s_Re_countsOf (a := 56) (m := 3) (M := 95) (by omega) hg (by omega) (by omega) (by omega) (by omega) ?_
  exact And.symm (pk_eq (cntsG g 56 95 (sumG g 0 59) 3 0 0) 111 (fun c3 => h1 ⟨c1, c2, c3⟩) (fun c3 => h0 (fun z => c3 z.2.2)) rfl rfl (cnts_lt _ _ _ _ _ (by omega)))
theorem s_Re_left {post : Int32 → Int32 → (Nat → Int32) → Prop} {f ft : Nat → Int32} {g : Nat → Nat} (hg : okW f 59 g) (h1 : (∀ i, 1 ≤ i → i ≤ 6 → thO g i) → (thF g).isSome = true → ∀ f', (∀ j, j ≤ 6 → f' j = nI (48 + thW g j)) → post 1 (nI 7) f') (h0 : ¬ ((∀ i, 1 ≤ i → i ≤ 6 → thO g i) ∧ (thF g).isSome = true) → ∀ c f', post 0 c f') : w_Re_isLeftHalf post (nI 59) f 0 ft := by
  have main : ∀ r i (ft : Nat → Int32), i + r = 6 → (∀ j, 1 ≤ j → j ≤ i → thO g j ∧ ft j = nI (48 + thV g j)) → w_Re_isLeftHalf_13 post (nI 59) f (r + 1) (nI (i + 1)) ft (nI (tuN g i)) (nI i) := by
    intro r
    induction r with
    | zero =>
      intro i ft hi hft
      have i6 : i = 6 := by omega
      subst i6
      unfold w_Re_isLeftHalf_13
      refine pk_le 6 6 (fun _ => ?_) (fun z => absurd z (by omega))
      have htu := tuN_lt6 g (i := 6) (by omega)
      refine s_fstW (by omega) ?_
      refine s_It_replace_in (j := 0) (by omega) (by omega) (by omega) ?_
      by_cases cf : (fstP (tuN g 6)).isSome = true
      · rw [opt_some cf]
        have hlt := thW_lt g 0
        have e0 : thW g 0 = (fstP (tuN g 6)).getD 0 := rfl
        rw [← e0]
        refine ⟨fun z => absurd z (nI_nm1 (by omega)), fun _ => h1 (fun j a b => (hft j a b).1) cf _ (fun j hj => ?_)⟩
        unfold upd
        by_cases ej : j = 0
        · rw [if_pos ej, ej, show (48 : Int32) = nI 48 from rfl, nI_add]
        · rw [if_neg ej, thW_pos (by omega)]
          exact (hft j (by omega) hj).2
      · rw [opt_no cf]
        exact ⟨fun _ => h0 (fun z => cf z.2) _ _, fun z => absurd rfl z⟩
    | succ r ih =>
      intro i ft hi hft
      unfold w_Re_isLeftHalf_13
      refine pk_le 6 i (fun z => absurd z (by omega)) (fun _ => ?_)
      have ea : (3 : Int32) + 4 * nI i = nI (3 + 4 * i) := by rw [show (4 : Int32) = nI 4 from rfl, pk_mul, show (3 : Int32) = nI 3 from rfl, nI_add]
      rw [ea]
      refine s_Re_figAt (by omega) hg (by omega) ?_
      have eC : figC g (3 + 4 * i) = thC g (i + 1) := by
        unfold thC thA
        rw [if_pos (by omega), Nat.add_sub_cancel]
      rw [eC]
      have hc := figC_lt g (thA (i + 1))
      have hc' : thC g (i + 1) < 10000 := hc
      have htu := tuN_lt6 g (i := i) (by omega)
      have hv := thV_lt g (i + 1)
      have step : ∀ b, thT g (i + 1) = b → thO g (i + 1) → w_It_add (fun r13 s14 s15 => w_Re_isLeftHalf_13 post (nI 59) f (r + 1) s14 s15 (2 * nI (tuN g i) + nI b) (nI i + 1)) 260 (nI (i + 1)) ft (48 + nI (thV g (i + 1))) := by
        intro b hb ho
        rw [show (48 : Int32) = nI 48 from rfl, nI_add]
        refine s_It_add (by omega) (by omega) ?_
        have et : (2 : Int32) * nI (tuN g i) + nI b = nI (tuN g (i + 1)) := by
          rw [show (2 : Int32) = nI 2 from rfl, pk_mul, nI_add, ← hb]
          rfl
        rw [et, nI_1]
        refine ih (i + 1) _ (by omega) (fun j a c => ?_)
        unfold upd
        by_cases ej : j = i + 1
        · rw [if_pos ej, ej]
          exact ⟨ho, rfl⟩
        · rw [if_neg ej]
          exact hft j a (by omega)
      refine s_figW (by omega) ?_
      by_cases cf : (figP (thC g (i + 1))).isSome = true
      · have ev : (figP (thC g (i + 1))).getD 0 = thV g (i + 1) := by unfold thV; rw [if_pos cf]
        rw [opt_some cf, ev]
        refine ⟨fun _ => ⟨fun _ => ?_, fun z => absurd z (nI_nm1 (by omega))⟩, fun z => absurd z (nI_nm1 (by omega))⟩
        exact step 0 (by unfold thT; rw [if_pos cf]) (Or.inl cf)
      · rw [opt_no cf]
        refine ⟨fun z => absurd rfl z, fun _ => ?_⟩
        refine s_Wi_turned (by omega) ?_
        have hrv := revF_lt (thC g (i + 1))
        refine s_figW (by omega) ?_
        by_cases cr : (figP (revF (thC g (i + 1)))).isSome = true
        · have ev : (figP (revF (thC g (i + 1)))).getD 0 = thV g (i + 1) := by unfold thV; rw [if_neg cf]
          rw [opt_some cr, ev]
          refine ⟨fun _ => ?_, fun z => absurd z (nI_nm1 (by omega))⟩
          exact step 1 (by unfold thT; rw [if_neg cf]) (Or.inr ⟨by omega, cr⟩)
        · rw [opt_no cr]
          refine ⟨fun z => absurd rfl z, fun _ => h0 (fun z => ?_) _ _⟩
          rcases z.1 (i + 1) (by omega) (by omega) with q | q
          · exact cf q
          · exact cr q.2
  unfold w_Re_isLeftHalf
  refine s_It_add (k := 0) (by omega) (by omega) ?_
  exact ⟨7, main 6 0 _ (by omega) (fun j a b => by omega)⟩
theorem s_Re_right {post : Int32 → Int32 → (Nat → Int32) → Prop} {f ft : Nat → Int32} {g : Nat → Nat} (hg : okW f 59 g) (hft : ∀ j, j ≤ 6 → ft j = nI (48 + thW g j)) (h1 : (∀ i, 7 ≤ i → i ≤ 12 → thO g i) → ∀ f', (∀ j, j ≤ 12 → f' j = nI (48 + thW g j)) → post 1 (nI 13) f') (h0 : ¬ (∀ i, 7 ≤ i → i ≤ 12 → thO g i) → ∀ c f', post 0 c f') : w_Re_isRightHalf post (nI 59) f (nI 7) ft := by
  have main : ∀ r i (ft : Nat → Int32), i + r = 6 → (∀ j, j ≤ 6 + i → ft j = nI (48 + thW g j)) → (∀ j, 7 ≤ j → j ≤ 6 + i → thO g j) → w_Re_isRightHalf_2 post (nI 59) f (r + 1) (nI (7 + i)) ft (nI i) := by
    intro r
    induction r with
    | zero =>
      intro i ft hi hft ho
      have i6 : i = 6 := by omega
      subst i6
      unfold w_Re_isRightHalf_2
      exact pk_le 6 6 (fun _ => h1 ho ft hft) (fun z => absurd z (by omega))
    | succ r ih =>
      intro i ft hi hft ho
      unfold w_Re_isRightHalf_2
      refine pk_le 6 i (fun z => absurd z (by omega)) (fun _ => ?_)
      have ea : (32 : Int32) + 4 * nI i = nI (32 + 4 * i) := by rw [show (4 : Int32) = nI 4 from rfl, pk_mul, show (32 : Int32) = nI 32 from rfl, nI_add]
      rw [ea]
      refine s_Re_figAt (by omega) hg (by omega) ?_
      have eC : figC g (32 + 4 * i) = thC g (7 + i) := by
        unfold thC thA
        rw [if_neg (by omega), Nat.add_sub_cancel_left]
      rw [eC]
      have hc := figC_lt g (thA (7 + i))
      have hc' : thC g (7 + i) < 10000 := hc
      have hv := thV_lt g (7 + i)
      refine s_figW (by omega) ?_
      by_cases cf : (figP (thC g (7 + i))).isSome = true
      · have ev : (figP (thC g (7 + i))).getD 0 = thV g (7 + i) := by unfold thV; rw [if_pos cf]
        rw [opt_some cf, ev]
        refine ⟨fun _ => ?_, fun z => absurd z (nI_nm1 (by omega))⟩
        rw [show (48 : Int32) = nI 48 from rfl, nI_add]
        refine s_It_add (by omega) (by omega) ?_
        rw [nI_1]
        refine ih (i + 1) _ (by omega) (fun j a => ?_) (fun j a b => ?_)
        · unfold upd
          by_cases ej : j = 7 + i
          · rw [if_pos ej, ej, thW_pos (by omega)]
          · rw [if_neg ej]
            exact hft j (by omega)
        · by_cases ej : j = 7 + i
          · rw [ej]; exact Or.inl cf
          · exact ho j a (by omega)
      · rw [opt_no cf]
        refine ⟨fun z => absurd rfl z, fun _ => h0 (fun z => ?_) _ _⟩
        rcases z (7 + i) (by omega) (by omega) with q | q
        · exact cf q
        · omega
  unfold w_Re_isRightHalf
  exact ⟨7, main 6 0 ft (by omega) hft (fun j a b => by omega)⟩
theorem s_Re_isThirteen {post : Int32 → Int32 → (Nat → Int32) → Prop} {f ft : Nat → Int32} {g : Nat → Nat} (hg : okW f 59 g) (h1 : ∀ T, thOK g T → T.length ≤ 260 → ∀ f', isL f' T → post 1 (nI T.length) f') (h0 : (∀ T, ¬ thOK g T) → ∀ c f', post 0 c f') : w_Re_isThirteen post (nI 59) f 0 ft := by
  unfold w_Re_isThirteen
  refine s_Re_sides hg (fun cs => ⟨fun z => absurd z (by decide), fun _ => ?_⟩) (fun cs => ⟨fun _ => h0 (fun T z => cs z.1) _ _, fun z => absurd rfl z⟩)
  refine s_Re_left hg (fun cl cf f1 hf1 => ⟨fun z => absurd z (by decide), fun _ => ?_⟩) (fun cl c f1 => ⟨fun _ => h0 (fun T z => cl ⟨fun i a b => z.2.1 i a (by omega), z.2.2.1⟩) _ _, fun z => absurd rfl z⟩)
  refine s_Re_right hg hf1 (fun cr f2 hf2 => ⟨fun _ => ?_, fun z => absurd z (by decide)⟩) (fun cr c f2 => ⟨fun z => absurd rfl z, fun _ => h0 (fun T z => cr (fun i a b => z.2.1 i (by omega) b)) _ _⟩)
  have hall : ∀ i, 1 ≤ i → i ≤ 12 → thO g i := fun i a b => by
    by_cases c : i ≤ 6
    · exact cl i a c
    · exact cr i (by omega) b
  have main : ∀ r i, i + r = 13 → w_Re_isThirteen_27 post (nI 13) f2 (r + 1) (nI (sumT g i)) (nI i) := by
    intro r
    induction r with
    | zero =>
      intro i hi
      have hs := sumT_le g i
      unfold w_Re_isThirteen_27
      refine pk_le 13 i (fun _ => ?_) (fun z => absurd z (by omega))
      rw [show (10 : Int32) = nI 10 from rfl, pk_rem (by omega) (by omega) (by omega)]
      have i13 : i = 13 := by omega
      subst i13
      refine And.symm (pk_eq (sumT g 13 % 10) 0 (fun c => ?_) (fun c => h0 (fun T z => c z.2.2.2.1) _ _))
      have := h1 (thL g 13) ⟨cs, hall, cf, c, rfl⟩ (by rw [thL_len]; omega) f2 (fun j hj => by rw [thL_len] at hj; rw [thL_at hj]; exact hf2 j (by omega))
      rw [thL_len] at this
      exact this
    | succ r ih =>
      intro i hi
      unfold w_Re_isThirteen_27
      refine pk_le 13 i (fun z => absurd z (by omega)) (fun _ => ?_)
      refine s_Fi_weightOf (by omega) ?_
      refine s_It_at_in (by omega) (by omega) (by omega) ?_
      have e48 : nI (48 + thW g i) - 48 = nI (thW g i) := by rw [show (48 : Int32) = nI 48 from rfl, pk_sub (by omega), Nat.add_sub_cancel_left]
      rw [hf2 i (by omega), e48, pk_mul, nI_add, nI_1]
      exact ih (i + 1) (by omega)
  exact ⟨14, main 13 0 (by omega)⟩
/-! The reference. -/
theorem s_Md_figAt {post : Int32 → Prop} {f : Nat → Int32} {g : Nat → Nat} {k a : Nat} (hk : k ≤ 800) (hg : okW f k g) (hi : a + 4 ≤ k) (h : post (nI (figM g a))) : w_Md_sumOf (fun r => w_Md_counts post f (nI a) 4 r 7) f (nI a) 4 := by
  have hs := sumG_le hg 4 hi
  refine s_Md_sumOf (m := 4) hk hg hi ?_
  exact s_Md_counts (m := 4) (M := 7) hk hg hi (by omega) (by omega) (by omega) h
theorem s_Md_isThirteen {post : Int32 → Int32 → (Nat → Int32) → (Nat → Int32) → Prop} {f fo0 dr0 : Nat → Int32} {g : Nat → Nat} {d0 : Int32} (hg : okW f 59 g) (h1 : ∀ T, thOK g T → T.length ≤ 260 → ∀ fo dr, isL dr T → post 1 (nI T.length) fo dr) (h0 : (∀ T, ¬ thOK g T) → ∀ d fo dr, post 0 d fo dr) : w_Md_isThirteen post d0 (tabU figL 10) (tabU trnL 10) f fo0 dr0 := by
  have o1 : (1 : Int32).toNatClampNeg = 1 := rfl
  have m303 : thI g → (∀ i, 1 ≤ i → i ≤ 12 → thO g i) → (thF g).isSome = true → sumT g 13 % 10 = 0 → ∀ fo : Nat → Int32, (∀ j, j ≤ 12 → fo (j + 1) = nI (thW g j)) → ∀ r i (dr : Nat → Int32), i + r = 13 → isL dr (thL g i) → w_Md_isThirteen_303 post fo (r + 1) (nI (thL g i).length) dr (nI (i + 1)) := by
    intro cs hall cf c10 fo hfo r
    induction r with
    | zero =>
      intro i dr hi hdr
      have i13 : i = 13 := by omega
      subst i13
      unfold w_Md_isThirteen_303
      exact pk_lt 13 (13 + 1) (fun _ => h1 (thL g 13) ⟨cs, hall, cf, c10, rfl⟩ (by rw [thL_len]; omega) fo dr hdr) (fun z => absurd z (by omega))
    | succ r ih =>
      intro i dr hi hdr
      unfold w_Md_isThirteen_303
      refine pk_lt 13 (i + 1) (fun z => absurd z (by omega)) (fun _ => ⟨pk_in (i + 1) 140 (by omega), ?_⟩)
      rw [nI_clamp (by omega), hfo i (by omega), show (48 : Int32) = nI 48 from rfl, nI_add, nI_1]
      refine s_Md_tell hdr (by rw [thL_len]; omega) (fun f' hf' => ?_)
      rw [← thL_s] at hf' ⊢
      exact ih (i + 1) f' (by omega) hf'
  have m240n : ¬ (thF g).isSome = true → ∀ fo : Nat → Int32, fo 1 = -1 → ∀ r i (y : Int32), i + r = 13 → 1 ≤ i → w_Md_isThirteen_240 post d0 fo dr0 (r + 1) y (nI (i + 1)) := by
    intro cf fo hfo r
    induction r with
    | zero =>
      intro i y hi h1i
      unfold w_Md_isThirteen_240
      refine pk_lt 13 (i + 1) (fun _ => ⟨pk_in 1 140 (by omega), ?_⟩) (fun z => absurd z (by omega))
      rw [o1, hfo]
      exact ⟨fun _ => h0 (fun T z => cf z.2.2.1) _ _ _, fun z => absurd (by decide) z⟩
    | succ r ih =>
      intro i y hi h1i
      unfold w_Md_isThirteen_240
      refine pk_lt 13 (i + 1) (fun z => absurd z (by omega)) (fun _ => ?_)
      rw [nI_1]
      exact ⟨fun _ => ⟨pk_in (i + 1) 140 (by omega), ih (i + 1) _ (by omega) (by omega)⟩, fun _ => ⟨pk_in (i + 1) 140 (by omega), ih (i + 1) _ (by omega) (by omega)⟩⟩
  have m240 : thI g → (∀ i, 1 ≤ i → i ≤ 12 → thO g i) → (thF g).isSome = true → ∀ fo : Nat → Int32, (∀ j, j ≤ 12 → fo (j + 1) = nI (thW g j)) → ∀ r i, i + r = 13 → 1 ≤ i → w_Md_isThirteen_240 post d0 fo dr0 (r + 1) (nI (sumT g i)) (nI (i + 1)) := by
    intro cs hall cf fo hfo r
    induction r with
    | zero =>
      intro i hi h1i
      have i13 : i = 13 := by omega
      subst i13
      have hs := sumT_le g 13
      have h9 := thW_lt g 0
      unfold w_Md_isThirteen_240
      refine pk_lt 13 (13 + 1) (fun _ => ⟨pk_in 1 140 (by omega), ?_⟩) (fun z => absurd z (by omega))
      rw [o1, hfo 0 (by omega), show (10 : Int32) = nI 10 from rfl, pk_rem (by omega) (by omega) (by omega)]
      refine ⟨fun z => absurd z (nI_pos (by omega)), fun _ => pk_eq (sumT g 13 % 10) 0 (fun c => ⟨14, ?_⟩) (fun c => h0 (fun T z => c z.2.2.2.1) _ _ _)⟩
      exact m303 cs hall cf c fo hfo 13 0 dr0 (by omega) (fun j hj => absurd hj (by rw [thL_len]; omega))
    | succ r ih =>
      intro i hi h1i
      unfold w_Md_isThirteen_240
      refine pk_lt 13 (i + 1) (fun z => absurd z (by omega)) (fun _ => ?_)
      have er : nI (i + 1) - nI (i + 1) / 2 * 2 = nI ((i + 1) % 2) := by rw [show (2 : Int32) = nI 2 from rfl, pk_rem (by omega) (by omega) (by omega)]
      rw [er, nI_1, nI_clamp (by omega), hfo i (by omega)]
      have := ih (i + 1) (by omega) (by omega)
      rw [sumT_s] at this
      refine And.symm (pk_eq ((i + 1) % 2) 1 (fun c => ⟨pk_in (i + 1) 140 (by omega), ?_⟩) (fun c => ⟨pk_in (i + 1) 140 (by omega), ?_⟩))
      · rw [show (1 : Int32) * nI (thW g i) = nI 1 * nI (thW g i) from rfl, pk_mul, nI_add]
        rw [show wtN i = 1 by unfold wtN; rw [if_pos (by omega)]] at this
        exact this
      · rw [show (3 : Int32) * nI (thW g i) = nI 3 * nI (thW g i) from rfl, pk_mul, nI_add]
        rw [show wtN i = 3 by unfold wtN; rw [if_neg (by omega)]] at this
        exact this
  have m59 : thI g → ∀ r i (fo : Nat → Int32), i + r = 13 → 1 ≤ i → (∀ j, 1 ≤ j → j < i → thO g j ∧ fo (j + 1) = nI (thV g j)) → w_Md_isThirteen_59 post d0 (tabU figL 10) (tabU trnL 10) f dr0 (r + 1) fo (nI (tuN g (if i ≤ 7 then i - 1 else 6))) (nI (i + 1)) := by
    intro cs r
    induction r with
    | zero =>
      intro i fo hi h1i hfo
      have i13 : i = 13 := by omega
      subst i13
      unfold w_Md_isThirteen_59
      refine pk_lt 13 (13 + 1) (fun _ => ?_) (fun z => absurd z (by omega))
      rw [if_neg (by omega)]
      have htu := tuN_lt6 g (i := 6) (by omega)
      refine s_fstM (by omega) ⟨pk_in 1 140 (by omega), pk_in 1 140 (by omega), ⟨13, ?_⟩⟩
      rw [o1, upd_self]
      have hall : ∀ i, 1 ≤ i → i ≤ 12 → thO g i := fun i a b => (hfo i a (by omega)).1
      by_cases cf : (fstP (tuN g 6)).isSome = true
      · have e0 : (fstP (tuN g 6)).getD 0 = thW g 0 := rfl
        rw [opt_some cf, e0]
        have := m240 cs hall cf (upd fo 1 (nI (thW g 0))) (fun j hj => by
          unfold upd
          by_cases ej : j = 0
          · rw [if_pos (by omega), ej]
          · rw [if_neg (by omega), thW_pos (by omega)]
            exact (hfo j (by omega) (by omega)).2) 12 1 (by omega) (by omega)
        have es : sumT g 1 = thW g 0 := by
          rw [sumT_s]
          show 0 + 1 * thW g 0 = _
          omega
        rw [es] at this
        exact this
      · rw [opt_no cf]
        exact m240n cf _ (upd_self _ _ _) 12 1 _ (by omega) (by omega)
    | succ r ih =>
      intro i fo hi h1i hfo
      unfold w_Md_isThirteen_59
      refine pk_lt 13 (i + 1) (fun z => absurd z (by omega)) (fun _ => ?_)
      have hm := figM_lt g (thA i)
      have hrv := revF_lt (figM g (thA i))
      have hv := thV_lt g i
      have bad : ¬ thO g i → ∀ d fo dr, post 0 d fo dr := fun z => h0 (fun T q => z (q.2.1 i h1i (by omega)))
      have hfo' : thO g i → ∀ j, 1 ≤ j → j < i + 1 → thO g j ∧ upd fo (i + 1) (nI (thV g i)) (j + 1) = nI (thV g j) := fun ho j a b => by
        unfold upd
        by_cases ej : j = i
        · rw [if_pos (by omega), ej]
          exact ⟨ho, rfl⟩
        · rw [if_neg (by omega)]
          exact hfo j a (by omega)
      have gR : 7 ≤ i → thO g i → w_Md_isThirteen_59 post d0 (tabU figL 10) (tabU trnL 10) f dr0 (r + 1) (upd fo (i + 1) (nI (thV g i))) (nI (tuN g (if i ≤ 7 then i - 1 else 6))) (nI (i + 1 + 1)) := fun h7 ho => by
        have := ih (i + 1) _ (by omega) (by omega) (hfo' ho)
        rw [if_neg (by omega)] at this
        have e : (if i ≤ 7 then i - 1 else 6) = 6 := by split <;> omega
        rw [e]
        exact this
      have gL : i ≤ 6 → thO g i → ∀ b, thT g i = b → w_Md_isThirteen_59 post d0 (tabU figL 10) (tabU trnL 10) f dr0 (r + 1) (upd fo (i + 1) (nI (thV g i))) (2 * nI (tuN g (if i ≤ 7 then i - 1 else 6)) + nI b) (nI (i + 1 + 1)) := fun h6 ho b hb => by
        have := ih (i + 1) _ (by omega) (by omega) (hfo' ho)
        rw [if_pos (by omega)] at this
        rw [if_pos (by omega), show (2 : Int32) = nI 2 from rfl, pk_mul, nI_add, ← hb]
        have e : 2 * tuN g (i - 1) + thT g i = tuN g (i + 1 - 1) := by
          obtain ⟨i', rfl⟩ : ∃ i', i = i' + 1 := ⟨i - 1, by omega⟩
          rfl
        rw [e]
        exact this
      have eP : figP (figM g (thA i)) = figP (thC g i) := figP_M g (thA i)
      have eR : figP (revF (figM g (thA i))) = figP (revF (thC g i)) := figP_R g (thA i)
      rw [nI_1, nI_clamp (by omega)]
      refine pk_le 8 (i + 1) (fun c8 => ?_) (fun c8 => ?_)
      · have ea : (32 : Int32) + 4 * (nI (i + 1) - 8) = nI (thA i) := by
          rw [show (8 : Int32) = nI 8 from rfl, pk_sub c8, show (4 : Int32) = nI 4 from rfl, pk_mul, show (32 : Int32) = nI 32 from rfl, nI_add]
          unfold thA
          rw [if_neg (by omega), show i + 1 - 8 = i - 7 by omega]
        rw [ea]
        refine s_Md_figAt (by omega) hg (by unfold thA; rw [if_neg (by omega)]; omega) ?_
        refine s_figM (by omega) ?_
        rw [eP]
        by_cases cf : (figP (thC g i)).isSome = true
        · have ev : (figP (thC g i)).getD 0 = thV g i := by unfold thV; rw [if_pos cf]
          rw [opt_some cf, ev]
          refine ⟨fun _ => ?_, fun z => absurd (nI_pos' (by omega)) z⟩
          refine s_figM (by omega) ?_
          rw [eP, opt_some cf, ev]
          exact ⟨pk_in (i + 1) 140 (by omega), pk_le 8 (i + 1) (fun _ => gR (by omega) (Or.inl cf)) (fun z => absurd z (by omega))⟩
        · rw [opt_no cf]
          refine ⟨fun z => absurd z (by decide), fun _ => pk_lt 7 (i + 1) (fun _ => bad (fun z => ?_) _ _ _) (fun z => absurd z (by omega))⟩
          rcases z with q | q
          · exact cf q
          · omega
      · have ea : (3 : Int32) + 4 * (nI (i + 1) - 2) = nI (thA i) := by
          rw [show (2 : Int32) = nI 2 from rfl, pk_sub (by omega), show (4 : Int32) = nI 4 from rfl, pk_mul, show (3 : Int32) = nI 3 from rfl, nI_add]
          unfold thA
          rw [if_pos (by omega), show i + 1 - 2 = i - 1 by omega]
        rw [ea]
        refine s_Md_figAt (by omega) hg (by unfold thA; rw [if_pos (by omega)]; omega) ?_
        refine s_figM (by omega) ?_
        rw [eP]
        by_cases cf : (figP (thC g i)).isSome = true
        · have ev : (figP (thC g i)).getD 0 = thV g i := by unfold thV; rw [if_pos cf]
          rw [opt_some cf, ev]
          refine ⟨fun _ => ?_, fun z => absurd (nI_pos' (by omega)) z⟩
          refine s_figM (by omega) ?_
          rw [eP, opt_some cf, ev]
          exact ⟨pk_in (i + 1) 140 (by omega), pk_le 8 (i + 1) (fun z => absurd z (by omega)) (fun _ => gL (by omega) (Or.inl cf) 0 (by unfold thT; rw [if_pos cf]))⟩
        · rw [opt_no cf]
          refine ⟨fun z => absurd z (by decide), fun _ => pk_lt 7 (i + 1) (fun z => absurd z (by omega)) (fun _ => ?_)⟩
          refine s_Md_reversed hm ?_
          refine s_figM (by omega) ?_
          rw [eR]
          by_cases cr : (figP (revF (thC g i))).isSome = true
          · have ev : (figP (revF (thC g i))).getD 0 = thV g i := by unfold thV; rw [if_neg cf]
            rw [opt_some cr, ev]
            refine ⟨fun _ => ?_, fun z => absurd (nI_pos' (by omega)) z⟩
            refine s_Md_reversed hm ?_
            refine s_figM (by omega) ?_
            rw [eR, opt_some cr, ev]
            exact ⟨pk_in (i + 1) 140 (by omega), pk_le 8 (i + 1) (fun z => absurd z (by omega)) (fun _ => gL (by omega) (Or.inr ⟨by omega, cr⟩) 1 (by unfold thT; rw [if_neg cf]))⟩
          · rw [opt_no cr]
            refine ⟨fun z => absurd z (by decide), fun _ => bad (fun z => ?_) _ _ _⟩
            rcases z with q | q
            · exact cf q
            · exact cr q.2
  unfold w_Md_isThirteen
  have hs := sumG_le hg (a := 0) 59 (by omega)
  refine s_Md_sumOf (a := 0) (m := 59) (by omega) hg (by omega) ?_
  refine s_Md_counts (a := 0) (m := 3) (M := 95) (by omega) hg (by omega) (by omega) (by omega) (by omega) ?_
  have q1 := cM_eq (g := g) (a := 0) (M := 95) (S := sumG g 0 59) (m := 3) (e := 111) (by decide +kernel) (by omega)
  have q2 := cM_eq (g := g) (a := 27) (M := 95) (S := sumG g 0 59) (m := 5) (e := 11111) (by decide +kernel) (by omega)
  have q3 := cM_eq (g := g) (a := 56) (M := 95) (S := sumG g 0 59) (m := 3) (e := 111) (by decide +kernel) (by omega)
  refine And.symm (pk_eq (cM g 0 95 (sumG g 0 59) 3) 111 (fun c1 => ?_) (fun c1 => h0 (fun T z => c1 (q1.mpr z.1.1)) _ _ _) rfl rfl (cM_lt7 _ _ _ _ _ (by omega)))
  refine s_Md_counts (a := 27) (m := 5) (M := 95) (by omega) hg (by omega) (by omega) (by omega) (by omega) ?_
  refine And.symm (pk_eq (cM g 27 95 (sumG g 0 59) 5) 11111 (fun c2 => ?_) (fun c2 => h0 (fun T z => c2 (q2.mpr z.1.2.1)) _ _ _) rfl rfl (cM_lt7 _ _ _ _ _ (by omega)))
  refine s_Md_counts (a := 56) (m := 3) (M := 95) (by omega) hg (by omega) (by omega) (by omega) (by omega) ?_
  refine pk_eq (cM g 56 95 (sumG g 0 59) 3) 111 (fun c3 => ⟨13, ?_⟩) (fun c3 => h0 (fun T z => c3 (q3.mpr z.1.2.2)) _ _ _) rfl rfl (cM_lt7 _ _ _ _ _ (by omega))
  exact m59 ⟨q1.mp c1, q2.mp c2, q3.mp c3⟩ 12 1 fo0 (by omega) (by omega) (fun j a b => by omega)
