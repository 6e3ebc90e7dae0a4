/-! The reference reads a row. -/
theorem s_Md_tell {post : Int32 → (Nat → Int32) → Prop} {v : Nat} {f : Nat → Int32} {R : List Nat} (hR : isL f R) (hl : R.length < 300) (h : ∀ f', isL f' (R ++ [v]) → post (nI (R ++ [v]).length) f') : w_Md_tell post (nI R.length) f (nI v) := by
  unfold w_Md_tell
  have := h _ (isL_upd hR)
  rw [List.length_append, List.length_singleton] at this
  rw [nI_1, nI_clamp (by omega)]
  exact ⟨pk_in R.length 300 (by omega), this⟩
/-- the first m symbols -/
def yL (g : Nat → Nat) (m : Nat) : List Nat := (List.range m).map (yV g)
theorem yL_len (g : Nat → Nat) (m : Nat) : (yL g m).length = m := by unfold yL; rw [List.length_map, List.length_range]
theorem yL_at {g : Nat → Nat} {m j : Nat} (h : j < m) : (yL g m).getD j 0 = yV g j := by
  rw [getD_at (by rw [yL_len]; exact h)]
  unfold yL
  rw [List.getElem_map, List.getElem_range]
theorem sumS_Y {g : Nat → Nat} {m : Nat} : ∀ i, i < m → sumS (yL g m) i = sumY g i
  | 0, h => yL_at h
  | i + 1, h => by
    have ih := sumS_Y (g := g) (m := m) i (by omega)
    show sumS (yL g m) i + (i + 1) * (yL g m).getD (i + 1) 0 = sumY g i + (i + 1) * yV g (i + 1)
    rw [ih, yL_at h]
theorem s_Md_isRow {post : Int32 → Int32 → (Nat → Int32) → (Nat → Int32) → Prop} {n k : Nat} {g : Nat → Nat} {f fo0 dr0 : Nat → Int32} {d0 : Int32} (h2 : 2 ≤ n) (hkn : k = 6 * n + 7) (hk : k ≤ 800) (hg : okW f k g) (h1 : ∀ T, rowOK g n T → T.length ≤ 260 → ∀ fo dr, isL dr T → post 1 (nI T.length) fo dr) (h0 : (∀ T, ¬ rowOK g n T) → ∀ d fo dr, post 0 d fo dr) : w_Md_isRow post d0 (tabU symL 106) f fo0 dr0 (nI n) := by
  have e1 : nI n - 1 = nI (n - 1) := by rw [show (1 : Int32) = nI 1 from rfl, pk_sub (by omega)]
  have m137 : ∀ fo : Nat → Int32, (∀ j, j < n → (Yg g j).isSome = true ∧ fo j = nI (yV g j)) → cntsG g (6 * n) 13 (sumG g (6 * n) 7) 7 0 0 = 2331112 → 103 ≤ yV g 0 → yV g (n - 1) = sumY g (n - 2) % 103 → ∀ m r i set (T : List Nat) (dr : Nat → Int32), r ≤ m → i + r = n - 1 → 1 ≤ i → set < 3 → isL dr T → T.length ≤ 2 * (i - 1) → decR g (n - 2) 1 (yV g 0 - 103) 0 [] = decR g r i set 0 T → w_Md_isRow_137 post fo (nI n) (m + 1) (nI T.length) dr (nI set) (nI i) := by
    intro fo hfo cl c103 cchk m
    have zero : ∀ m i set (T : List Nat) (dr : Nat → Int32), i = n - 1 → isL dr T → T.length ≤ 2 * (i - 1) → decR g (n - 2) 1 (yV g 0 - 103) 0 [] = decR g 0 i set 0 T → w_Md_isRow_137 post fo (nI n) (m + 1) (nI T.length) dr (nI set) (nI i) := by
      intro m i set T dr hi hdr hlen hdec
      unfold w_Md_isRow_137
      rw [e1]
      refine pk_le (n - 1) i (fun _ => ?_) (fun z => absurd z (by omega))
      exact h1 T ⟨fun j hj => (hfo j hj).1, cl, c103, hdec, cchk⟩ (by omega) fo dr hdr
    induction m with
    | zero =>
      intro r i set T dr hr hi h1i hs hdr hlen hdec
      rw [show r = 0 by omega] at hdec
      exact zero 0 i set T dr (by omega) hdr hlen hdec
    | succ m ih =>
      intro r i set T dr hr hi h1i hs hdr hlen hdec
      cases r with
      | zero => exact zero (m + 1) i set T dr (by omega) hdr hlen hdec
      | succ r =>
        have hx := yV_le g i
        have bad : stepN set 0 (yV g i) T = none → ∀ d fo dr, post 0 d fo dr := fun hst => h0 (fun T' z => by
          have z4 := z.2.2.2.1
          rw [hdec, decR_none hst] at z4
          cases z4)
        have go : ∀ a c (f' : Nat → Int32), stepN set 0 (yV g i) T = some (a, 0, c) → isL f' c → w_Md_isRow_137 post fo (nI n) (m + 1) (nI c.length) f' (nI a) (nI (i + 1)) := fun a c f' hst hf' => by
          obtain ⟨sa, -, -, sd⟩ := step_ok hs (fun z => by omega) hst
          exact ih r (i + 1) a c f' (by omega) (by omega) (by omega) sa hf' (by omega) (by rw [hdec]; exact decR_some hst)
        unfold w_Md_isRow_137
        rw [e1]
        refine pk_le (n - 1) i (fun z => absurd z (by omega)) (fun _ => ⟨pk_in i 140 (by omega), ?_⟩)
        have efi : fo (nI i).toNatClampNeg = nI (yV g i) := by rw [nI_clamp (by omega)]; exact (hfo i (by omega)).2
        have ei1 : nI i + 1 = nI (i + 1) := nI_1 _
        rw [efi, ei1]
        have estep : ¬ yV g i = 102 → stepN set 0 (yV g i) T = if set = 2 ∧ yV g i ≤ 99 then some (2, 0, T ++ [48 + yV g i / 10] ++ [48 + yV g i % 10]) else if yV g i ≤ 95 then some (set, 0, T ++ [sgnN set (yV g i)]) else if yV g i = 98 then some (set, 1, T) else if gosN set (yV g i) < 3 then some (gosN set (yV g i), 0, T) else none := fun z => by
          unfold stepN
          rw [if_neg (by omega), if_neg z]
        refine And.symm (pk_eq (yV g i) 102 (fun c => ?_) (fun c => ?_))
        · refine s_Md_tell (v := 128) hdr (by omega) (fun f' hf' => ?_)
          refine go set _ f' ?_ hf'
          unfold stepN
          rw [if_neg (by omega), if_pos c]
        · have est := estep c
          refine s_Md_goes hs (by omega) (fun q => ⟨fun z => absurd z (nI_pos (by omega)), fun _ => ?_⟩) (fun q => ⟨fun _ => ?_, fun z => absurd (by decide) z⟩)
          · have hq : 99 ≤ yV g i ∧ yV g i ≤ 101 ∧ (set = 2 → 100 ≤ yV g i) := by
              unfold gosN at q
              repeat' split at q
              all_goals omega
            have hst : stepN set 0 (yV g i) T = some (gosN set (yV g i), 0, T) := by
              rw [est, if_neg (fun z => by have := hq.2.2 z.1; omega), if_neg (by omega), if_neg (by omega), if_pos q]
            refine And.symm (pk_eq set 2 (fun d => ?_) (fun d => ?_))
            · refine pk_le (yV g i) 99 (fun z => absurd z (by have := hq.2.2 d; omega)) (fun _ => ?_)
              exact s_Md_goes hs (by omega) (fun _ => go _ T dr hst hdr) (fun z => by omega)
            · exact s_Md_goes hs (by omega) (fun _ => go _ T dr hst hdr) (fun z => by omega)
          · refine And.symm (pk_eq set 2 (fun d => ?_) (fun d => ?_))
            · refine pk_le (yV g i) 99 (fun e => ?_) (fun e => ?_)
              · have hd : nI (yV g i) / 10 = nI (yV g i / 10) := by rw [show (10 : Int32) = nI 10 from rfl, pk_div (by omega) (by omega) (by omega)]
                have hr9 : nI (yV g i) - nI (yV g i) / 10 * 10 = nI (yV g i % 10) := by rw [show (10 : Int32) = nI 10 from rfl, pk_rem (by omega) (by omega) (by omega)]
                rw [hr9, hd, show (48 : Int32) = nI 48 from rfl, nI_add, nI_add]
                refine s_Md_tell hdr (by omega) (fun f1 hf1 => ?_)
                refine s_Md_tell hf1 (by rw [List.length_append, List.length_singleton]; omega) (fun f2 hf2 => ?_)
                rw [d]
                refine go 2 _ f2 ?_ hf2
                rw [est, if_pos ⟨d, e⟩]
              · refine bad ?_ _ _ _
                rw [est, if_neg (fun z => by omega), if_neg (by omega), if_neg (by omega), if_neg (by omega)]
            · refine And.symm (pk_eq (yV g i) 98 (fun e => ?_) (fun e => pk_le (yV g i) 95 (fun e2 => ?_) (fun e2 => ?_)))
              · have hst : stepN set 0 (yV g i) T = some (set, 1, T) := by
                  rw [est, if_neg (fun z => d z.1), if_neg (by omega), if_pos e]
                have hdec2 : decR g (n - 2) 1 (yV g 0 - 103) 0 [] = decR g r (i + 1) set 1 T := by rw [hdec]; exact decR_some hst
                refine pk_eq (i + 1) (n - 1) (fun e3 => ?_) (fun e3 => ⟨pk_in (i + 1) 140 (by omega), ?_⟩)
                · refine h0 (fun T' z => ?_) _ _ _
                  have z4 := z.2.2.2.1
                  rw [hdec2, show r = 0 by omega] at z4
                  have edec : decR g 0 (i + 1) set 1 T = none := rfl
                  rw [edec] at z4
                  cases z4
                · cases r with
                  | zero => omega
                  | succ r =>
                    have efi2 : fo (nI (i + 1)).toNatClampNeg = nI (yV g (i + 1)) := by rw [nI_clamp (by omega)]; exact (hfo (i + 1) (by omega)).2
                    have hx2 := yV_le g (i + 1)
                    rw [efi2]
                    refine pk_le (yV g (i + 1)) 95 (fun e4 => ⟨pk_in (i + 1) 140 (by omega), ?_⟩) (fun e4 => ?_)
                    · have e1s : (1 : Int32) - nI set = nI (othN set) := by
                        unfold othN
                        have hs' : set = 0 ∨ set = 1 := by omega
                        rcases hs' with rfl | rfl
                        · rfl
                        · rfl
                      rw [e1s]
                      refine s_Md_signOf (by unfold othN; split <;> omega) (by omega) ?_
                      refine s_Md_tell hdr (by omega) (fun f' hf' => ?_)
                      rw [nI_1]
                      refine ih r (i + 1 + 1) set _ f' (by omega) (by omega) (by omega) hs hf' (by rw [List.length_append, List.length_singleton]; omega) ?_
                      rw [hdec2]
                      refine decR_some ?_
                      unfold stepN
                      rw [if_pos rfl, if_pos e4]
                    · refine h0 (fun T' z => ?_) _ _ _
                      have z4 := z.2.2.2.1
                      have hst2 : stepN set 1 (yV g (i + 1)) T = none := by
                        unfold stepN
                        rw [if_pos rfl, if_neg (by omega)]
                      rw [hdec2, decR_none hst2] at z4
                      cases z4
              · refine s_Md_signOf (by omega) (by omega) ?_
                refine s_Md_tell hdr (by omega) (fun f' hf' => ?_)
                refine go set _ f' ?_ hf'
                rw [est, if_neg (fun z => d z.1), if_pos e2]
              · refine bad ?_ _ _ _
                rw [est, if_neg (fun z => d z.1), if_neg (by omega), if_neg e, if_neg (by omega)]
  have m2 : ∀ r i (fo : Nat → Int32), i + r = n → (∀ j, j < i → (Yg g j).isSome = true ∧ fo j = nI (yV g j)) → w_Md_isRow_2 post d0 (tabU symL 106) f dr0 (nI n) (r + 1) fo (nI i) := by
    intro r
    induction r with
    | zero =>
      intro i fo hi hfo
      have hin : i = n := by omega
      subst hin
      unfold w_Md_isRow_2
      have e6 : (6 : Int32) * nI i = nI (6 * i) := by rw [show (6 : Int32) = nI 6 from rfl, pk_mul]
      rw [e6, e1]
      refine pk_le i i (fun _ => ?_) (fun z => absurd z (by omega))
      have hs := sumG_le hg (a := 6 * i) 7 (by omega)
      refine s_Md_sumOf (m := 7) hk hg (by omega) ?_
      refine s_Md_counts (m := 7) (M := 13) hk hg (by omega) (by omega) (by omega) (by omega) ?_
      have hce := cM_eq (g := g) (a := 6 * i) (M := 13) (S := sumG g (6 * i) 7) (m := 7) (e := 2331112) (by decide +kernel) (by omega)
      refine And.symm (pk_eq (cM g (6 * i) 13 (sumG g (6 * i) 7) 7) 2331112 (fun c => ⟨pk_in 0 140 (by omega), ?_⟩) (fun c => h0 (fun T z => c (hce.mpr z.2.1)) _ _ _) rfl rfl (cM_lt7 _ _ _ _ _ (by omega)))
      have hf0 : fo (0 : Int32).toNatClampNeg = nI (yV g 0) := (hfo 0 (by omega)).2
      have hy0 := yV_le g 0
      rw [hf0]
      refine pk_lt (yV g 0) 103 (fun q => h0 (fun T z => by have := z.2.2.1; omega) _ _ _) (fun q => ⟨pk_in (i - 1) 140 (by omega), ?_⟩)
      have hfn : fo (nI (i - 1)).toNatClampNeg = nI (yV g (i - 1)) := by rw [nI_clamp (by omega)]; exact (hfo (i - 1) (by omega)).2
      rw [hfn]
      have hyn := yV_le g (i - 1)
      have hR : isL fo (yL g (i - 1)) := by
        intro j hj
        rw [yL_len] at hj
        rw [yL_at hj]
        exact (hfo j (by omega)).2
      have hck := s_Md_check (N := 140) (post := fun r6 => (nI (yV g (i - 1)) = r6 → vp_in 0 140 ∧ ∃ k137, w_Md_isRow_137 post fo (nI i) k137 0 dr0 (nI (yV g 0) - 103) 1) ∧ (¬ nI (yV g (i - 1)) = r6 → post 0 d0 fo dr0)) hR (by rw [yL_len]; omega) (by rw [yL_len]; omega) (by omega) (fun j hj => by rw [yL_len] at hj; rw [yL_at hj]; have := yV_le g j; omega) (by
        have ech : chkS (yL g (i - 1)) = sumY g (i - 2) % 103 := by
          unfold chkS
          rw [yL_len, sumS_Y _ (by omega), show i - 1 - 1 = i - 2 by omega]
        rw [ech]
        refine pk_eq (yV g (i - 1)) (sumY g (i - 2) % 103) (fun q2 => ⟨pk_in 0 140 (by omega), ⟨i - 2 + 1, ?_⟩⟩) (fun q2 => h0 (fun T z => q2 z.2.2.2.2) _ _ _)
        have e103 : nI (yV g 0) - 103 = nI (yV g 0 - 103) := by rw [show (103 : Int32) = nI 103 from rfl, pk_sub q]
        rw [e103]
        exact m137 fo hfo (hce.mp c) q q2 (i - 2) (i - 2) 1 (yV g 0 - 103) [] dr0 (by omega) (by omega) (by omega) (by omega) (fun j hj => absurd hj (by simp)) (by simp) rfl)
      rw [yL_len] at hck
      exact hck
    | succ r ih =>
      intro i fo hi hfo
      unfold w_Md_isRow_2
      have e6 : (6 : Int32) * nI i = nI (6 * i) := by rw [show (6 : Int32) = nI 6 from rfl, pk_mul]
      rw [e6]
      refine pk_le n i (fun z => absurd z (by omega)) (fun _ => ?_)
      have hs := sumG_le hg (a := 6 * i) 6 (by omega)
      refine s_Md_sumOf (m := 6) hk hg (by omega) ?_
      refine s_Md_counts (m := 6) (M := 11) hk hg (by omega) (by omega) (by omega) (by omega) ?_
      refine s_symM (cM_lt7 _ _ _ _ _ (by omega)) ?_
      rw [Y_M, upd_self, nI_1, nI_clamp (by omega)]
      refine ⟨pk_in i 140 (by omega), pk_in i 140 (by omega), ?_⟩
      have hyi := yV_le g i
      by_cases ci : (Yg g i).isSome = true
      · rw [Y_opt ci]
        refine ⟨fun _ => ih (i + 1) _ (by omega) (fun j hj => ?_), fun z => absurd (nI_pos' (by omega)) z⟩
        unfold upd
        by_cases ej : j = i
        · rw [if_pos ej, ej]
          exact ⟨ci, rfl⟩
        · rw [if_neg ej]
          exact hfo j (by omega)
      · rw [Y_no ci]
        exact ⟨fun z => absurd z (by decide), fun _ => h0 (fun T z => ci (z.1 i (by omega))) _ _ _⟩
  unfold w_Md_isRow
  exact ⟨n + 1, m2 n 0 fo0 (by omega) (fun j hj => absurd hj (by omega))⟩
