/-! Figures, bars, the thirteen: both sides. -/
theorem tabU_at {l : List Nat} {k j : Nat} (h : j < k) : tabU l k j = nI (l.getD j 0) := by
  unfold tabU
  rw [if_pos h]
theorem s_Md_figure {post : Int32 → Prop} {t k : Nat} (ht : t < 2 ^ 62) (h1 : 1 ≤ k) (h12 : k ≤ 12) (h : post (nI (figN t (k - 1)))) : w_Md_figure post (lN t) (nI k) := by
  have main : ∀ (r i : Nat), i = k + r → i ≤ 12 → w_Md_figure_6 post (nI k) (r + 1) (lN (t / 10 ^ (12 - i))) (nI i) := by
    intro r
    induction r with
    | zero =>
      intro i hi h11
      unfold w_Md_figure_6
      refine ⟨fun _ => ?_, fun a => absurd (nI_le (by omega) (by omega)) a⟩
      have : t / 10 ^ (12 - i) ≤ t := Nat.div_le_self _ _
      rw [lN_rem10 (by omega), show 12 - i = 11 - (k - 1) by omega]
      exact h
    | succ r ih =>
      intro i hi h11
      unfold w_Md_figure_6
      refine ⟨fun a => absurd a (nI_ge (by omega) (by omega)), fun _ => ?_⟩
      have : t / 10 ^ (12 - i) ≤ t := Nat.div_le_self _ _
      obtain ⟨i', rfl⟩ : ∃ i', i = i' + 1 := ⟨i - 1, by omega⟩
      rw [l10, pk_lDiv (by omega) (by omega) (by omega), pk_m1, Nat.div_div_eq_div_mul, ← Nat.pow_succ, show (12 - (i' + 1)).succ = 12 - i' by omega]
      exact ih i' (by omega) (by omega)
  unfold w_Md_figure
  refine ⟨12 - k + 1, ?_⟩
  have := main (12 - k) 12 (by omega) (by omega)
  rw [show 12 - 12 = 0 from rfl, Nat.pow_zero, Nat.div_one] at this
  exact this
theorem twl (x : Int64) : (x < 0 ∨ (¬ x < 0 ∧ ¬ x ≤ 999999999999)) ∨ ∃ t : Nat, t ≤ 999999999999 ∧ x = lN t := by
  by_cases c1 : x < 0
  · exact Or.inl (Or.inl c1)
  by_cases c2 : x ≤ 999999999999
  · obtain ⟨k, hk, rfl⟩ := pk_lOf c1
    rw [show (999999999999 : Int64) = lN 999999999999 from rfl, pk_lLE hk (by omega)] at c2
    exact Or.inr ⟨k, c2, rfl⟩
  · exact Or.inl (Or.inr ⟨c1, c2⟩)
theorem twl_ok {t : Nat} (h : t ≤ 999999999999) : ¬ lN t < 0 ∧ lN t ≤ 999999999999 := by
  refine ⟨?_, ?_⟩
  · rw [show (0 : Int64) = lN 0 from rfl, pk_lLT (by omega) (by omega)]
    omega
  · rw [show (999999999999 : Int64) = lN 999999999999 from rfl, pk_lLE (by omega) (by omega)]
    exact h
theorem s_noTw_bad {post : Int32 → Prop} {x : Int64} (hx : x < 0 ∨ (¬ x < 0 ∧ ¬ x ≤ 999999999999)) (h : post 1) : w_Md_noTwelve post x := by
  unfold w_Md_noTwelve
  rw [lg_cmp_lt, lg_cmp_le]
  rcases hx with hx | ⟨h1, h2⟩
  · exact ⟨fun _ => h, fun a => absurd hx a⟩
  · exact ⟨fun a => absurd a h1, fun _ => ⟨fun a => absurd a h2, fun _ => h⟩⟩
theorem s_noTw_ok {post : Int32 → Prop} {t : Nat} (ht : t ≤ 999999999999) (h : post 0) : w_Md_noTwelve post (lN t) := by
  unfold w_Md_noTwelve
  rw [lg_cmp_lt, lg_cmp_le]
  obtain ⟨h1, h2⟩ := twl_ok ht
  exact ⟨fun a => absurd a h1, fun _ => ⟨fun _ => h, fun a => absurd h2 a⟩⟩
theorem s_refTw_ok {post : Prop} {t : Nat} (ht : t ≤ 999999999999) (h : post) : w_Lc_refuseTwelve post (lN t) := by
  unfold w_Lc_refuseTwelve
  rw [lg_cmp_lt, lg_cmp_le]
  obtain ⟨h1, h2⟩ := twl_ok ht
  exact ⟨fun a => absurd a h1, fun _ => ⟨fun _ => h, fun a => absurd h2 a⟩⟩
theorem s_refTw_bad {xp : String → Prop} {x : Int64} (hx : x < 0 ∨ (¬ x < 0 ∧ ¬ x ≤ 999999999999)) (h : xp "java/lang/IllegalArgumentException") : wx_Lc_refuseTwelve xp x := by
  unfold wx_Lc_refuseTwelve
  rw [lg_cmp_lt, lg_cmp_le]
  rcases hx with hx | ⟨h1, h2⟩
  · exact ⟨fun _ => h, fun a => absurd hx a⟩
  · exact ⟨fun a => absurd a h1, fun _ => ⟨fun a => absurd a h2, fun _ => h⟩⟩
theorem mdl (x : Int32) : (x < 1 ∨ (¬ x < 1 ∧ ¬ x ≤ 50)) ∨ ∃ q : Nat, 1 ≤ q ∧ q ≤ 50 ∧ x = nI q := by
  by_cases c1 : x < 1
  · exact Or.inl (Or.inl c1)
  by_cases c2 : x ≤ 50
  · rw [Int32.lt_iff_toInt_lt] at c1
    rw [Int32.le_iff_toInt_le] at c2
    have e1 : (1 : Int32).toInt = 1 := rfl
    have e8 : (50 : Int32).toInt = 50 := rfl
    obtain ⟨q, hq, rfl⟩ := nI_of (x := x) (by rw [Int32.lt_iff_toInt_lt, Int32.toInt_zero]; omega)
    rw [nI_toInt hq] at c1 c2
    exact Or.inr ⟨q, by omega, by omega, rfl⟩
  · exact Or.inl (Or.inr ⟨c1, c2⟩)
theorem mdl_ok {q : Nat} (h1 : 1 ≤ q) (h2 : q ≤ 50) : ¬ nI q < 1 ∧ nI q ≤ 50 := by
  refine ⟨?_, ?_⟩
  · rw [show (1 : Int32) = nI 1 from rfl, nI_ltI (by omega) (by omega)]
    omega
  · rw [show (50 : Int32) = nI 50 from rfl, nI_leI (by omega) (by omega)]
    exact h2
theorem s_noMo_bad {post : Int32 → Prop} {x : Int32} (hx : x < 1 ∨ (¬ x < 1 ∧ ¬ x ≤ 50)) (h : post 1) : w_Md_noModule post x := by
  unfold w_Md_noModule
  rcases hx with hx | ⟨h1, h2⟩
  · exact ⟨fun _ => h, fun a => absurd hx a⟩
  · exact ⟨fun a => absurd a h1, fun _ => ⟨fun a => absurd a h2, fun _ => h⟩⟩
theorem s_noMo_ok {post : Int32 → Prop} {q : Nat} (h1 : 1 ≤ q) (h2 : q ≤ 50) (h : post 0) : w_Md_noModule post (nI q) := by
  unfold w_Md_noModule
  obtain ⟨a1, a2⟩ := mdl_ok h1 h2
  exact ⟨fun a => absurd a a1, fun _ => ⟨fun _ => h, fun a => absurd a2 a⟩⟩
theorem s_refMo_ok {post : Prop} {q : Nat} (h1 : 1 ≤ q) (h2 : q ≤ 50) (h : post) : w_Lc_refuseModule post (nI q) := by
  unfold w_Lc_refuseModule
  obtain ⟨a1, a2⟩ := mdl_ok h1 h2
  exact ⟨fun a => absurd a a1, fun _ => ⟨fun _ => h, fun a => absurd a2 a⟩⟩
theorem s_refMo_bad {xp : String → Prop} {x : Int32} (hx : x < 1 ∨ (¬ x < 1 ∧ ¬ x ≤ 50)) (h : xp "java/lang/IllegalArgumentException") : wx_Lc_refuseModule xp x := by
  unfold wx_Lc_refuseModule
  rcases hx with hx | ⟨h1, h2⟩
  · exact ⟨fun _ => h, fun a => absurd hx a⟩
  · exact ⟨fun a => absurd a h1, fun _ => ⟨fun a => absurd a h2, fun _ => h⟩⟩
theorem s_Md_checkFigure {post : Int32 → Int32 → Prop} {t : Nat} (ht : t ≤ 999999999999) (h : post (nI (chkN t)) 0) : w_Md_checkFigure post (lN t) := by
  have hs := sumW_le t 12
  have m69 : ∀ r c : Nat, c + r = chkN t → w_Md_checkFigure_69 post 0 (nI (sumW t 12)) (r + 1) (nI c) := by
    intro r
    induction r with
    | zero =>
      intro c hc
      unfold w_Md_checkFigure_69
      unfold chkN at hc
      rw [nI_add, show (10 : Int32) = nI 10 from rfl, pk_rem (by omega) (by omega) (by omega)]
      refine pk_eq ((sumW t 12 + c) % 10) 0 (fun _ => ?_) (fun z => absurd (by omega) z)
      rw [show c = chkN t by unfold chkN; omega]
      exact h
    | succ r ih =>
      intro c hc
      have hc2 := hc
      unfold w_Md_checkFigure_69
      unfold chkN at hc
      rw [nI_add, show (10 : Int32) = nI 10 from rfl, pk_rem (by omega) (by omega) (by omega), nI_1]
      exact pk_eq ((sumW t 12 + c) % 10) 0 (fun z => absurd z (by omega)) (fun _ => ih (c + 1) (by omega))
  have m30 : ∀ r k : Nat, k + r = 13 → 1 ≤ k → w_Md_checkFigure_30 post 0 (lN t) (r + 1) (nI (sumW t (k - 1))) (nI k) := by
    intro r
    induction r with
    | zero =>
      intro k hk h1
      unfold w_Md_checkFigure_30
      refine pk_lt 12 k (fun _ => ⟨chkN t + 1, ?_⟩) (fun z => absurd z (by omega))
      rw [show k - 1 = 12 by omega]
      exact m69 (chkN t) 0 (by omega)
    | succ r ih =>
      intro k hk h1
      have hsk := sumW_le t (k - 1)
      have hf := figN_lt t (k - 1)
      have hst : sumW t (k + 1 - 1) = sumW t (k - 1) + wtN (k - 1) * figN t (k - 1) := by
        obtain ⟨k', rfl⟩ : ∃ k', k = k' + 1 := ⟨k - 1, by omega⟩
        rw [Nat.add_sub_cancel, Nat.add_sub_cancel]
        rfl
      unfold w_Md_checkFigure_30
      refine pk_lt 12 k (fun z => absurd z (by omega)) (fun _ => ?_)
      rw [show (2 : Int32) = nI 2 from rfl, pk_rem (by omega) (by omega) (by omega)]
      have := ih (k + 1) (by omega) (by omega)
      rw [hst] at this
      refine And.symm (pk_eq (k % 2) 1 (fun z => ?_) (fun z => ?_))
      · refine s_Md_figure (by omega) h1 (by omega) ?_
        rw [show (1 : Int32) * nI (figN t (k - 1)) = nI 1 * nI (figN t (k - 1)) from rfl, pk_mul, nI_add, nI_1]
        rw [show wtN (k - 1) = 1 by unfold wtN; rw [if_pos (by omega)]] at this
        exact this
      · refine s_Md_figure (by omega) h1 (by omega) ?_
        rw [show (3 : Int32) * nI (figN t (k - 1)) = nI 3 * nI (figN t (k - 1)) from rfl, pk_mul, nI_add, nI_1]
        rw [show wtN (k - 1) = 3 by unfold wtN; rw [if_neg (by omega)]] at this
        exact this
  unfold w_Md_checkFigure
  refine s_noTw_ok ht ⟨fun _ => ⟨13, ?_⟩, fun a => absurd rfl a⟩
  exact m30 12 1 (by omega) (by omega)
theorem chkN_lt (t : Nat) : chkN t < 10 := Nat.mod_lt _ (by omega)
/-! bars -/
theorem symL_pat : ((List.range 106).all fun x => patB (symL.getD x 0) 6) = true := by decide +kernel
theorem sym_pat {x : Nat} (h : x < 106) : patB (symL.getD x 0) 6 = true := List.all_eq_true.mp symL_pat x (List.mem_range.mpr h)
def symP (x : Nat) : Nat := if x = 106 then 2331112 else symL.getD x 0
def symD (x : Nat) : Nat := if x = 106 then 7 else 6
theorem symP_pat {x : Nat} (h : x ≤ 106) : patB (symP x) (symD x) = true := by
  unfold symP symD
  by_cases c : x = 106
  · rw [if_pos c, if_pos c]
    decide +kernel
  · rw [if_neg c, if_neg c]
    exact sym_pat (by omega)
theorem s_Wi_ofSymbol {post : Int32 → Prop} {x : Nat} (hx : x ≤ 106) (h : post (nI (symP x))) : w_Wi_ofSymbol post (nI x) := by
  unfold w_Wi_ofSymbol
  unfold symP at h
  refine And.symm (pk_eq x 106 (fun c => ?_) (fun c => ?_))
  · rw [if_pos c] at h
    exact h
  · rw [if_neg c] at h
    exact s_Wi_entry (by omega) (by omega) h
/-- the strip of a row -/
def barW (md : Nat) : List Nat → List Nat
  | [] => []
  | x :: r => digW (symP x) (symD x) md ++ barW md r
theorem barW_nil (md : Nat) : barW md [] = [] := rfl
theorem barW_cons (md x : Nat) (r : List Nat) : barW md (x :: r) = digW (symP x) (symD x) md ++ barW md r := rfl
theorem barW_len {md : Nat} : ∀ R : List Nat, (barW md R).length ≤ 7 * R.length
  | [] => by unfold barW; simp
  | x :: r => by
    have := barW_len (md := md) r
    unfold barW
    rw [List.length_append, digW_len, List.length_cons]
    have : symD x ≤ 7 := by unfold symD; split <;> omega
    omega
theorem barW_ok {md : Nat} (h1 : 1 ≤ md) (h50 : md ≤ 50) : ∀ R : List Nat, (∀ x ∈ R, x ≤ 106) → okS (barW md R)
  | [], _ => by
    intro x hx
    unfold barW at hx
    cases hx
  | x :: r, h => by
    intro y hy
    unfold barW at hy
    rcases List.mem_append.mp hy with hy | hy
    · exact patB_ok (symP_pat (h x List.mem_cons_self)) h1 h50 y hy
    · exact barW_ok h1 h50 r (fun z hz => h z (List.mem_cons_of_mem _ hz)) y hy
theorem drop_cons {R : List Nat} {i : Nat} (h : i < R.length) : R.drop i = R.getD i 0 :: R.drop (i + 1) := by
  rw [getD_at h]
  exact List.drop_eq_getElem_cons h
theorem s_Lc_bars {post : Int32 → Int32 → (Nat → Int32) → Prop} {R : List Nat} {fr f : Nat → Int32} {md : Nat} {c0 : Int32} (hR : isL fr R) (hl : R.length ≤ 99) (h0 : 0 < R.length) (h6 : ∀ x ∈ R, x ≤ 106) (h1 : 1 ≤ md) (h50 : md ≤ 50) (h : ∀ f', isL f' (barW md R) → post (nI (barW md R).length) (nI (barW md R).length) f') : w_Lc_bars post (nI R.length) fr c0 f (nI md) := by
  have main : ∀ r i (S : List Nat) (f : Nat → Int32), i + r = R.length → S ++ barW md (R.drop i) = barW md R → isL f S → w_Lc_bars_34 post (nI R.length) fr (nI md) (r + 1) (nI S.length) f (nI i) := by
    intro r
    induction r with
    | zero =>
      intro i S f hi hS hf
      unfold w_Lc_bars_34
      refine s_It_count ?_
      refine ⟨fun _ => s_It_count ?_, fun a => absurd (nI_le (by omega) (by omega)) a⟩
      rw [List.drop_eq_nil_of_le (by omega), barW_nil, List.append_nil] at hS
      rw [hS] at hf ⊢
      exact h f hf
    | succ r ih =>
      intro i S f hi hS hf
      unfold w_Lc_bars_34
      refine s_It_count ?_
      refine ⟨fun a => absurd a (nI_ge (by omega) (by omega)), fun _ => ?_⟩
      refine s_It_at_in (j := i) (by omega) hl (by omega) ?_
      have hm : R.getD i 0 ∈ R := by rw [getD_at (by omega)]; exact List.getElem_mem _
      rw [hR i (by omega)]
      refine s_Wi_ofSymbol (h6 _ hm) ?_
      rw [drop_cons (by omega), barW_cons] at hS
      have hlen := congrArg List.length hS
      have hb := barW_len (md := md) R
      have hsd : (digW (symP (R.getD i 0)) (symD (R.getD i 0)) md).length = symD (R.getD i 0) := digW_len _ _ _
      rw [List.length_append, List.length_append, hsd] at hlen
      refine s_addW (symP_pat (h6 _ hm)) hf (by omega) (fun f' hf' => ?_)
      rw [nI_1]
      refine ih (i + 1) _ f' (by omega) ?_ hf'
      rw [List.append_assoc]
      exact hS
  unfold w_Lc_bars
  refine s_refMo_ok h1 h50 (s_It_count ⟨fun _ => s_It_empty ⟨R.length + 1, ?_⟩, fun a => absurd a (nI_ne0 h0 (by omega))⟩)
  exact main R.length 0 [] f (by omega) rfl (fun j hj => absurd hj (by simp))
theorem s_Md_bars {post : Int32 → Int32 → Int32 → (Nat → Int32) → Prop} {R' : List Nat} {fr f : Nat → Int32} {md : Nat} {c0 : Int32} (hR : isL fr (R' ++ [106])) (hl : R'.length ≤ 98) (h6 : ∀ x ∈ R', x ≤ 105) (h1 : 1 ≤ md) (h50 : md ≤ 50) (h : ∀ f', isL f' (barW md (R' ++ [106])) → post (nI (barW md (R' ++ [106])).length) 0 (nI (barW md (R' ++ [106])).length) f') : w_Md_bars post (nI (R' ++ [106]).length) c0 (tabU symL 106) fr f (nI md) := by
  have hlen1 : (R' ++ [106]).length = R'.length + 1 := by rw [List.length_append]; rfl
  have hbl := barW_len (md := md) (R' ++ [106])
  have main : ∀ r i (S : List Nat) (f : Nat → Int32), i + r = R'.length → S ++ barW md ((R' ++ [106]).drop i) = barW md (R' ++ [106]) → isL f S → w_Md_bars_43 post 0 (nI (R' ++ [106]).length) (tabU symL 106) fr (nI md) (r + 1) (nI S.length) f (nI i) := by
    intro r
    induction r with
    | zero =>
      intro i S f hi hS hf
      unfold w_Md_bars_43
      have e1 : nI (R' ++ [106]).length - 1 = nI R'.length := by rw [hlen1]; exact nI_pred _
      rw [e1]
      refine ⟨fun _ => ?_, fun a => absurd (nI_le (by omega) (by omega)) a⟩
      rw [show i = R'.length by omega, List.drop_left] at hS
      have e2 : barW md [106] = digW 2331112 7 md := by
        unfold barW barW symP symD
        rw [if_pos rfl, if_pos rfl, List.append_nil]
      rw [e2] at hS
      have hln := congrArg List.length hS
      rw [List.length_append, digW_len] at hln
      refine s_lay (w := 2331112) (d := 7) (by decide +kernel) hf (by omega) (fun f' hf' => ?_)
      rw [hS] at hf' ⊢
      exact h f' hf'
    | succ r ih =>
      intro i S f hi hS hf
      unfold w_Md_bars_43
      have e1 : nI (R' ++ [106]).length - 1 = nI R'.length := by rw [hlen1]; exact nI_pred _
      rw [e1]
      refine ⟨fun a => absurd a (nI_ge (by omega) (by omega)), fun _ => ?_⟩
      have hgd : (R' ++ [106]).getD i 0 = R'.getD i 0 := getD_l (by omega)
      have hx : R'.getD i 0 ≤ 105 := h6 _ (by rw [getD_at (by omega)]; exact List.getElem_mem _)
      have hfi : fr i = nI (R'.getD i 0) := by rw [hR i (by rw [hlen1]; omega), hgd]
      rw [nI_clamp (by omega), hfi]
      refine ⟨pk_in i 200 (by omega), pk_in (R'.getD i 0) 106 (by omega), ?_⟩
      rw [nI_clamp (by omega), tabU_at (by omega)]
      rw [drop_cons (by rw [hlen1]; omega), hgd, barW_cons] at hS
      have ep : symP (R'.getD i 0) = symL.getD (R'.getD i 0) 0 := by unfold symP; rw [if_neg (by omega)]
      have ed : symD (R'.getD i 0) = 6 := by unfold symD; rw [if_neg (by omega)]
      rw [ep, ed] at hS
      have hln := congrArg List.length hS
      rw [List.length_append, List.length_append, digW_len] at hln
      refine s_lay (d := 6) (sym_pat (by omega)) hf (by omega) (fun f' hf' => ?_)
      rw [nI_1]
      refine ih (i + 1) _ f' (by omega) ?_ hf'
      rw [List.append_assoc]
      exact hS
  unfold w_Md_bars
  refine s_noMo_ok h1 h50 ⟨fun _ => ⟨fun _ => ⟨R'.length + 1, ?_⟩, fun a => absurd a (nI_ne0 (by rw [hlen1]; omega) (by rw [hlen1]; omega))⟩, fun a => absurd rfl a⟩
  exact main R'.length 0 [] f (by omega) rfl (fun j hj => absurd hj (by simp))
