/-! The cases of the law. -/
theorem ok_c0 {L : Nat} {xs : Nat → Int32} (hL : L ≤ 2048) (j : Nat) (v_x_text_count : Int32) (f_x_text_items : Nat → Int32) (v_x_row_count : Int32) (f_x_row_items : Nat → Int32) (v_x_strip_count : Int32) (f_x_strip_items : Nat → Int32) (f_x_packer_costs : Nat → Int32) (v_x_reader_fromBack : Int32) (v_x_reader_set : Int32) (v_x_reader_shifted : Int32) (v_x_reader_told_count : Int32) (f_x_reader_told_items : Nat → Int32) (v_m_thrown : Int32) (v_m_length : Int32) (v_m_symbols : Int32) (v_m_widths : Int32) (v_m_told : Int32) (v_m_back : Int32) (v_m_drafted : Int32) (f_m_text : Nat → Int32) (f_m_least : Nat → Int32) (f_m_row : Nat → Int32) (f_m_strip : Nat → Int32) (f_m_turned : Nat → Int32) (f_m_found : Nat → Int32) (f_m_signs : Nat → Int32) (f_m_draft : Nat → Int32) (f_o : Nat → Int64) (hj : 4 * j + 4 ≤ L) (hI : Iv v_x_text_count f_x_text_items v_x_row_count f_x_row_items v_x_strip_count f_x_strip_items f_x_packer_costs v_x_reader_fromBack v_x_reader_set v_x_reader_shifted v_x_reader_told_count f_x_reader_told_items v_m_thrown v_m_length v_m_symbols v_m_widths v_m_told v_m_back v_m_drafted f_m_text f_m_least f_m_row f_m_strip f_m_turned f_m_found f_m_signs f_m_draft f_o) : w_Lw_c0 Iv L xs (nI (4 * j)) v_x_text_count f_x_text_items v_x_row_count f_x_row_items v_x_strip_count f_x_strip_items f_x_packer_costs v_x_reader_fromBack v_x_reader_set v_x_reader_shifted v_x_reader_told_count f_x_reader_told_items v_m_length v_m_symbols v_m_widths v_m_told v_m_back v_m_drafted f_m_text f_m_least f_m_row f_m_strip f_m_turned f_m_found f_m_signs f_m_draft f_o := by
  obtain ⟨⟨n, tx, rfl, rfl, hn, t1, t2⟩, hR, hS, hO, hB⟩ := hI
  have v1 := vin1 hj hL
  have v2 := vin2 hj hL
  have v3 := vin3 hj hL
  have same : ∀ th fo, Iv (nI n) f_x_text_items v_x_row_count f_x_row_items v_x_strip_count f_x_strip_items f_x_packer_costs v_x_reader_fromBack v_x_reader_set v_x_reader_shifted v_x_reader_told_count f_x_reader_told_items th (nI n) v_m_symbols v_m_widths v_m_told v_m_back v_m_drafted f_m_text f_m_least f_m_row f_m_strip f_m_turned f_m_found f_m_signs f_m_draft fo := fun th fo => ⟨⟨n, tx, rfl, rfl, hn, t1, t2⟩, hR, hS, hO, hB⟩
  unfold w_Lw_c0
  refine ⟨v1, v2, v3, s_Lw_write hn (fun c => ?_) (fun q q1 q8 qe qb => ?_) (fun q q1 q8 qe qb qk => ?_) (fun q q1 q8 qe qb qk => ?_)⟩
  · refine ⟨v1, v2, v3, s_Md_write hn (fun _ => s_Md_thrown (end_th (by decide) (same _ _))) (fun q q1 q8 qe qb => s_Md_thrown (end_th (by decide) (same _ _))) (fun q q1 q8 qe qb qk => (bad_q c q1 q8 qe).elim) (fun q q1 q8 qe qb qk => (bad_q c q1 q8 qe).elim)⟩
  · refine ⟨v1, v2, v3, s_Md_write hn (fun _ => s_Md_thrown (end_th (by decide) (same _ _))) (fun q q1 q8 qe qb => s_Md_thrown (end_th (by decide) (same _ _))) (fun p p1 p8 pe pb pk => absurd ?_ qb) (fun p p1 p8 pe pb pk => absurd ?_ qb)⟩
    · rw [← same_q q8 p8 qe pe]; exact pb
    · rw [← same_q q8 p8 qe pe]; exact pb
  · refine ⟨v1, v2, v3, s_Md_write hn (fun c => (bad_q c q1 q8 qe).elim) (fun p p1 p8 pe pb => absurd ?_ pb) (fun p p1 p8 pe pb pk => ?_) (fun p p1 p8 pe pb pk => absurd ?_ pk)⟩
    · rw [same_q q8 p8 qe pe]; exact qb
    · have e := same_q q8 p8 qe pe
      subst e
      exact s_Md_thrown (end_ok ⟨⟨n + p, _, rfl, rfl, qk, okT_appB t1 qb, okT_appB t2 qb⟩, hR, hS, hO, hB⟩)
    · rw [same_q q8 p8 qe pe]; exact qk
  · refine ⟨v1, v2, v3, s_Md_write hn (fun c => (bad_q c q1 q8 qe).elim) (fun p p1 p8 pe pb => absurd ?_ pb) (fun p p1 p8 pe pb pk => absurd pk ?_) (fun p p1 p8 pe pb pk => s_Md_thrown (end_ok (same _ _)))⟩
    · rw [same_q q8 p8 qe pe]; exact qb
    · rw [same_q q8 p8 qe pe]; exact qk

theorem ok_c1 {L : Nat} {xs : Nat → Int32} (hL : L ≤ 2048) (j : Nat) (v_x_text_count : Int32) (f_x_text_items : Nat → Int32) (v_x_row_count : Int32) (f_x_row_items : Nat → Int32) (v_x_strip_count : Int32) (f_x_strip_items : Nat → Int32) (f_x_packer_costs : Nat → Int32) (v_x_reader_fromBack : Int32) (v_x_reader_set : Int32) (v_x_reader_shifted : Int32) (v_x_reader_told_count : Int32) (f_x_reader_told_items : Nat → Int32) (v_m_thrown : Int32) (v_m_length : Int32) (v_m_symbols : Int32) (v_m_widths : Int32) (v_m_told : Int32) (v_m_back : Int32) (v_m_drafted : Int32) (f_m_text : Nat → Int32) (f_m_least : Nat → Int32) (f_m_row : Nat → Int32) (f_m_strip : Nat → Int32) (f_m_turned : Nat → Int32) (f_m_found : Nat → Int32) (f_m_signs : Nat → Int32) (f_m_draft : Nat → Int32) (f_o : Nat → Int64) (hj : 4 * j + 4 ≤ L) (hI : Iv v_x_text_count f_x_text_items v_x_row_count f_x_row_items v_x_strip_count f_x_strip_items f_x_packer_costs v_x_reader_fromBack v_x_reader_set v_x_reader_shifted v_x_reader_told_count f_x_reader_told_items v_m_thrown v_m_length v_m_symbols v_m_widths v_m_told v_m_back v_m_drafted f_m_text f_m_least f_m_row f_m_strip f_m_turned f_m_found f_m_signs f_m_draft f_o) : w_Lw_c1 Iv L xs (nI (4 * j)) v_x_text_count f_x_text_items v_x_row_count f_x_row_items v_x_strip_count f_x_strip_items f_x_packer_costs v_x_reader_fromBack v_x_reader_set v_x_reader_shifted v_x_reader_told_count f_x_reader_told_items v_m_length v_m_symbols v_m_widths v_m_told v_m_back v_m_drafted f_m_text f_m_least f_m_row f_m_strip f_m_turned f_m_found f_m_signs f_m_draft f_o := by
  obtain ⟨⟨n, tx, rfl, rfl, hn, t1, t2⟩, hR, hS, hO, hB⟩ := hI
  unfold w_Lw_c1
  refine s_It_empty ⟨fun _ => ⟨⟨0, tx, rfl, rfl, by omega, fun j hj => absurd hj (by omega), fun j hj => absurd hj (by omega)⟩, hR, hS, hO, hB⟩, fun z => z rfl⟩

theorem ok_c2 {L : Nat} {xs : Nat → Int32} (hL : L ≤ 2048) (j : Nat) (v_x_text_count : Int32) (f_x_text_items : Nat → Int32) (v_x_row_count : Int32) (f_x_row_items : Nat → Int32) (v_x_strip_count : Int32) (f_x_strip_items : Nat → Int32) (f_x_packer_costs : Nat → Int32) (v_x_reader_fromBack : Int32) (v_x_reader_set : Int32) (v_x_reader_shifted : Int32) (v_x_reader_told_count : Int32) (f_x_reader_told_items : Nat → Int32) (v_m_thrown : Int32) (v_m_length : Int32) (v_m_symbols : Int32) (v_m_widths : Int32) (v_m_told : Int32) (v_m_back : Int32) (v_m_drafted : Int32) (f_m_text : Nat → Int32) (f_m_least : Nat → Int32) (f_m_row : Nat → Int32) (f_m_strip : Nat → Int32) (f_m_turned : Nat → Int32) (f_m_found : Nat → Int32) (f_m_signs : Nat → Int32) (f_m_draft : Nat → Int32) (f_o : Nat → Int64) (hj : 4 * j + 4 ≤ L) (hI : Iv v_x_text_count f_x_text_items v_x_row_count f_x_row_items v_x_strip_count f_x_strip_items f_x_packer_costs v_x_reader_fromBack v_x_reader_set v_x_reader_shifted v_x_reader_told_count f_x_reader_told_items v_m_thrown v_m_length v_m_symbols v_m_widths v_m_told v_m_back v_m_drafted f_m_text f_m_least f_m_row f_m_strip f_m_turned f_m_found f_m_signs f_m_draft f_o) : w_Lw_c2 Iv L xs (nI (4 * j)) v_x_text_count f_x_text_items v_x_row_count f_x_row_items v_x_strip_count f_x_strip_items f_x_packer_costs v_x_reader_fromBack v_x_reader_set v_x_reader_shifted v_x_reader_told_count f_x_reader_told_items v_m_length v_m_widths v_m_told v_m_back v_m_drafted f_m_text f_m_least f_m_row f_m_strip f_m_turned f_m_found f_m_signs f_m_draft f_o := by
  obtain ⟨⟨n, tx, rfl, rfl, hn, t1, t2⟩, hR, hS, hO, hB⟩ := hI
  obtain ⟨K, hK⟩ := Kok_ex tx n
  have hG := rowN_G hn hK (fun j hj => (t1 j hj).2)
  unfold w_Lw_c2
  refine s_Lc_pack hn hK t1 (fun fr' f' h1 => ?_)
  refine s_Md_pack hn hK t2 (fun f2 fr2 h2 => ⟨fun _ => ⟨⟨n, tx, rfl, rfl, hn, t1, t2⟩, ⟨rowN tx n K, rfl, rfl, hG.1, h1, h2, hG.2⟩, hS, hO, hB⟩, fun z => z rfl⟩)

theorem ok_c3 {L : Nat} {xs : Nat → Int32} (hL : L ≤ 2048) (j : Nat) (v_x_text_count : Int32) (f_x_text_items : Nat → Int32) (v_x_row_count : Int32) (f_x_row_items : Nat → Int32) (v_x_strip_count : Int32) (f_x_strip_items : Nat → Int32) (f_x_packer_costs : Nat → Int32) (v_x_reader_fromBack : Int32) (v_x_reader_set : Int32) (v_x_reader_shifted : Int32) (v_x_reader_told_count : Int32) (f_x_reader_told_items : Nat → Int32) (v_m_thrown : Int32) (v_m_length : Int32) (v_m_symbols : Int32) (v_m_widths : Int32) (v_m_told : Int32) (v_m_back : Int32) (v_m_drafted : Int32) (f_m_text : Nat → Int32) (f_m_least : Nat → Int32) (f_m_row : Nat → Int32) (f_m_strip : Nat → Int32) (f_m_turned : Nat → Int32) (f_m_found : Nat → Int32) (f_m_signs : Nat → Int32) (f_m_draft : Nat → Int32) (f_o : Nat → Int64) (hj : 4 * j + 4 ≤ L) (hI : Iv v_x_text_count f_x_text_items v_x_row_count f_x_row_items v_x_strip_count f_x_strip_items f_x_packer_costs v_x_reader_fromBack v_x_reader_set v_x_reader_shifted v_x_reader_told_count f_x_reader_told_items v_m_thrown v_m_length v_m_symbols v_m_widths v_m_told v_m_back v_m_drafted f_m_text f_m_least f_m_row f_m_strip f_m_turned f_m_found f_m_signs f_m_draft f_o) : w_Lw_c3 Iv L xs (nI (4 * j)) v_x_text_count f_x_text_items v_x_row_count f_x_row_items v_x_strip_count f_x_strip_items f_x_packer_costs v_x_reader_fromBack v_x_reader_set v_x_reader_shifted v_x_reader_told_count f_x_reader_told_items v_m_length v_m_symbols v_m_widths v_m_told v_m_back v_m_drafted f_m_text f_m_least f_m_row f_m_strip f_m_turned f_m_found f_m_signs f_m_draft f_o := by
  obtain ⟨hT, ⟨R, rfl, rfl, hl, r1, r2, rg⟩, hS, hO, hB⟩ := hI
  have v1 := vin1 hj hL
  unfold w_Lw_c3
  refine ⟨v1, s_It_at hl (by omega) ⟨v1, s_Md_symbol (by omega) ⟨fun _ => ⟨hT, ⟨R, rfl, rfl, hl, r1, r2, rg⟩, hS, hO, hB⟩, fun z => z ?_⟩⟩⟩
  exact atN_congr (by omega) (isL_eq r1 r2) _

theorem ok_c4 {L : Nat} {xs : Nat → Int32} (hL : L ≤ 2048) (j : Nat) (v_x_text_count : Int32) (f_x_text_items : Nat → Int32) (v_x_row_count : Int32) (f_x_row_items : Nat → Int32) (v_x_strip_count : Int32) (f_x_strip_items : Nat → Int32) (f_x_packer_costs : Nat → Int32) (v_x_reader_fromBack : Int32) (v_x_reader_set : Int32) (v_x_reader_shifted : Int32) (v_x_reader_told_count : Int32) (f_x_reader_told_items : Nat → Int32) (v_m_thrown : Int32) (v_m_length : Int32) (v_m_symbols : Int32) (v_m_widths : Int32) (v_m_told : Int32) (v_m_back : Int32) (v_m_drafted : Int32) (f_m_text : Nat → Int32) (f_m_least : Nat → Int32) (f_m_row : Nat → Int32) (f_m_strip : Nat → Int32) (f_m_turned : Nat → Int32) (f_m_found : Nat → Int32) (f_m_signs : Nat → Int32) (f_m_draft : Nat → Int32) (f_o : Nat → Int64) (hj : 4 * j + 4 ≤ L) (hI : Iv v_x_text_count f_x_text_items v_x_row_count f_x_row_items v_x_strip_count f_x_strip_items f_x_packer_costs v_x_reader_fromBack v_x_reader_set v_x_reader_shifted v_x_reader_told_count f_x_reader_told_items v_m_thrown v_m_length v_m_symbols v_m_widths v_m_told v_m_back v_m_drafted f_m_text f_m_least f_m_row f_m_strip f_m_turned f_m_found f_m_signs f_m_draft f_o) : w_Lw_c4 Iv L xs (nI (4 * j)) v_x_text_count f_x_text_items v_x_row_count f_x_row_items v_x_strip_count f_x_strip_items f_x_packer_costs v_x_reader_fromBack v_x_reader_set v_x_reader_shifted v_x_reader_told_count f_x_reader_told_items v_m_length v_m_symbols v_m_widths v_m_told v_m_back v_m_drafted (tabU symL 106) f_m_text f_m_least f_m_row f_m_strip f_m_turned f_m_found f_m_signs f_m_draft f_o := by
  obtain ⟨hT, ⟨R, rfl, rfl, hl, r1, r2, rg⟩, ⟨S, rfl, rfl, sl, s1, s2, sk⟩, hO, hB⟩ := hI
  have v1 := vin1 hj hL
  have same : ∀ th fo, Iv v_x_text_count f_x_text_items (nI R.length) f_x_row_items (nI S.length) f_x_strip_items f_x_packer_costs v_x_reader_fromBack v_x_reader_set v_x_reader_shifted v_x_reader_told_count f_x_reader_told_items th v_m_length (nI R.length) (nI S.length) v_m_told v_m_back v_m_drafted f_m_text f_m_least f_m_row f_m_strip f_m_turned f_m_found f_m_signs f_m_draft fo := fun th fo => ⟨hT, ⟨R, rfl, rfl, hl, r1, r2, rg⟩, ⟨S, rfl, rfl, sl, s1, s2, sk⟩, hO, hB⟩
  unfold w_Lw_c4
  generalize xs (nI (4 * j) + 1).toNatClampNeg = x
  refine ⟨v1, ?_⟩
  unfold w_Lw_bars
  rcases mdl x with c | ⟨q, q1, q50, rfl⟩
  · refine Or.inr (Or.inr (s_refMo_bad c (Or.inl ⟨rfl, v1, ?_⟩)))
    exact s_noMo_bad c ⟨fun z => absurd z (by decide), fun _ => s_Md_thrown (end_th (by decide) (same _ _))⟩
  · rcases rg with rfl | ⟨R', rfl, h5⟩
    · refine Or.inr (Or.inl (s_refMo_ok q1 q50 (s_It_count ⟨fun z => z rfl, fun _ => Or.inr ⟨rfl, v1, ?_⟩⟩)))
      exact s_noMo_ok q1 q50 ⟨fun _ => ⟨fun z => absurd rfl z, fun _ => s_Md_thrown (end_th (by decide) (same _ _))⟩, fun z => absurd rfl z⟩
    · have hlr : (R' ++ [106]).length = R'.length + 1 := by rw [List.length_append]; rfl
      have h6 : ∀ x ∈ R' ++ [106], x ≤ 106 := fun x hx => by
        rcases List.mem_append.mp hx with hx | hx
        · have := h5 x hx; omega
        · rw [List.mem_singleton] at hx; omega
      have hbl := barW_len (md := q) (R' ++ [106])
      refine Or.inl (s_Lc_bars r1 hl (by omega) h6 q1 q50 (fun f1 hf1 => ⟨pk_in 0 1 (by omega), v1, ?_⟩))
      exact s_Md_bars r2 (by omega) h5 q1 q50 (fun f2 hf2 => s_Md_thrown (end_ok ⟨hT, ⟨R' ++ [106], rfl, rfl, hl, r1, r2, Or.inr ⟨R', rfl, h5⟩⟩, ⟨barW q (R' ++ [106]), rfl, rfl, by omega, hf1, hf2, barW_ok q1 q50 _ h6⟩, hO, hB⟩))

theorem ok_c5 {L : Nat} {xs : Nat → Int32} (hL : L ≤ 2048) (j : Nat) (v_x_text_count : Int32) (f_x_text_items : Nat → Int32) (v_x_row_count : Int32) (f_x_row_items : Nat → Int32) (v_x_strip_count : Int32) (f_x_strip_items : Nat → Int32) (f_x_packer_costs : Nat → Int32) (v_x_reader_fromBack : Int32) (v_x_reader_set : Int32) (v_x_reader_shifted : Int32) (v_x_reader_told_count : Int32) (f_x_reader_told_items : Nat → Int32) (v_m_thrown : Int32) (v_m_length : Int32) (v_m_symbols : Int32) (v_m_widths : Int32) (v_m_told : Int32) (v_m_back : Int32) (v_m_drafted : Int32) (f_m_text : Nat → Int32) (f_m_least : Nat → Int32) (f_m_row : Nat → Int32) (f_m_strip : Nat → Int32) (f_m_turned : Nat → Int32) (f_m_found : Nat → Int32) (f_m_signs : Nat → Int32) (f_m_draft : Nat → Int32) (f_o : Nat → Int64) (hj : 4 * j + 4 ≤ L) (hI : Iv v_x_text_count f_x_text_items v_x_row_count f_x_row_items v_x_strip_count f_x_strip_items f_x_packer_costs v_x_reader_fromBack v_x_reader_set v_x_reader_shifted v_x_reader_told_count f_x_reader_told_items v_m_thrown v_m_length v_m_symbols v_m_widths v_m_told v_m_back v_m_drafted f_m_text f_m_least f_m_row f_m_strip f_m_turned f_m_found f_m_signs f_m_draft f_o) : w_Lw_c5 Iv L xs (nI (4 * j)) v_x_text_count f_x_text_items v_x_row_count f_x_row_items v_x_strip_count f_x_strip_items f_x_packer_costs v_x_reader_fromBack v_x_reader_set v_x_reader_shifted v_x_reader_told_count f_x_reader_told_items v_m_length v_m_symbols v_m_widths v_m_told v_m_back v_m_drafted f_m_text f_m_least f_m_row f_m_strip f_m_turned f_m_found f_m_signs f_m_draft f_o := by
  have v1 := vin1 hj hL
  have v2 := vin2 hj hL
  unfold w_Lw_c5
  generalize (((xs (nI (4 * j) + 1).toNatClampNeg).toInt64 <<< ((32 : Int32).toInt64 &&& 63)) ||| ((xs (nI (4 * j) + 2).toNatClampNeg).toInt64 &&& 4294967295)) = x
  refine ⟨v1, v2, ?_⟩
  unfold w_Lw_checkFigure
  rcases twl x with c | ⟨t, ht, rfl⟩
  · refine Or.inr (Or.inr (s_refTw_bad c ⟨rfl, v1, v2, ?_⟩))
    exact s_noTw_bad c ⟨fun z => absurd z (by decide), fun _ => s_Md_thrown (end_th (by decide) hI)⟩
  · refine Or.inl (s_refTw_ok ht (s_Fi_checkOf (by omega) ⟨pk_in 0 1 (by omega), v1, v2, ?_⟩))
    exact s_Md_checkFigure ht (s_Md_thrown (end_ok hI))

theorem ok_c6 {L : Nat} {xs : Nat → Int32} (hL : L ≤ 2048) (j : Nat) (v_x_text_count : Int32) (f_x_text_items : Nat → Int32) (v_x_row_count : Int32) (f_x_row_items : Nat → Int32) (v_x_strip_count : Int32) (f_x_strip_items : Nat → Int32) (f_x_packer_costs : Nat → Int32) (v_x_reader_fromBack : Int32) (v_x_reader_set : Int32) (v_x_reader_shifted : Int32) (v_x_reader_told_count : Int32) (f_x_reader_told_items : Nat → Int32) (v_m_thrown : Int32) (v_m_length : Int32) (v_m_symbols : Int32) (v_m_widths : Int32) (v_m_told : Int32) (v_m_back : Int32) (v_m_drafted : Int32) (f_m_text : Nat → Int32) (f_m_least : Nat → Int32) (f_m_row : Nat → Int32) (f_m_strip : Nat → Int32) (f_m_turned : Nat → Int32) (f_m_found : Nat → Int32) (f_m_signs : Nat → Int32) (f_m_draft : Nat → Int32) (f_o : Nat → Int64) (hj : 4 * j + 4 ≤ L) (hI : Iv v_x_text_count f_x_text_items v_x_row_count f_x_row_items v_x_strip_count f_x_strip_items f_x_packer_costs v_x_reader_fromBack v_x_reader_set v_x_reader_shifted v_x_reader_told_count f_x_reader_told_items v_m_thrown v_m_length v_m_symbols v_m_widths v_m_told v_m_back v_m_drafted f_m_text f_m_least f_m_row f_m_strip f_m_turned f_m_found f_m_signs f_m_draft f_o) : w_Lw_c6 Iv L xs (nI (4 * j)) v_x_text_count f_x_text_items v_x_row_count f_x_row_items v_x_strip_count f_x_strip_items f_x_packer_costs v_x_reader_fromBack v_x_reader_set v_x_reader_shifted v_x_reader_told_count f_x_reader_told_items v_m_length v_m_symbols v_m_widths v_m_told v_m_back v_m_drafted (tabU figL 10) (tabU trnL 10) f_m_text f_m_least f_m_row f_m_strip f_m_turned f_m_found f_m_signs f_m_draft f_o := by
  obtain ⟨hT, hR, ⟨S, rfl, rfl, sl, s1, s2, sk⟩, hO, hB⟩ := hI
  have v1 := vin1 hj hL
  have v2 := vin2 hj hL
  have v3 := vin3 hj hL
  have same : ∀ th fo, Iv v_x_text_count f_x_text_items v_x_row_count f_x_row_items (nI S.length) f_x_strip_items f_x_packer_costs v_x_reader_fromBack v_x_reader_set v_x_reader_shifted v_x_reader_told_count f_x_reader_told_items th v_m_length v_m_symbols (nI S.length) v_m_told v_m_back v_m_drafted f_m_text f_m_least f_m_row f_m_strip f_m_turned f_m_found f_m_signs f_m_draft fo := fun th fo => ⟨hT, hR, ⟨S, rfl, rfl, sl, s1, s2, sk⟩, hO, hB⟩
  unfold w_Lw_c6
  generalize (((xs (nI (4 * j) + 1).toNatClampNeg).toInt64 <<< ((32 : Int32).toInt64 &&& 63)) ||| ((xs (nI (4 * j) + 2).toNatClampNeg).toInt64 &&& 4294967295)) = x
  generalize xs (nI (4 * j) + 3).toNatClampNeg = y
  refine ⟨v1, v2, v3, ?_⟩
  unfold w_Lw_thirteen
  rcases twl x with c | ⟨t, ht, rfl⟩
  · refine Or.inr (Or.inr (s_refTw_bad c ⟨rfl, v1, v2, v3, ?_⟩))
    exact s_noTw_bad c ⟨fun _ => s_Md_thrown (end_th (by decide) (same _ _)), fun z => absurd z (by decide)⟩
  · rcases mdl y with c | ⟨q, q1, q50, rfl⟩
    · refine Or.inr (Or.inl (s_refTw_ok ht (Or.inr (s_refMo_bad c ⟨rfl, v1, v2, v3, ?_⟩))))
      exact s_noTw_ok ht ⟨fun z => absurd rfl z, fun _ => s_noMo_bad c ⟨fun z => absurd z (by decide), fun _ => s_Md_thrown (end_th (by decide) (same _ _))⟩⟩
    · refine Or.inl (s_Lc_thirteen ht q1 q50 (fun f1 hf1 => ⟨pk_in 0 1 (by omega), v1, v2, v3, ?_⟩))
      have h59 := thiS_len q t
      exact s_Md_thirteen ht q1 q50 (fun f2 hf2 => s_Md_thrown (end_ok ⟨hT, hR, ⟨thiS q t, rfl, rfl, by omega, hf1, hf2, thiS_ok q1 q50⟩, hO, hB⟩))

theorem ok_c7 {L : Nat} {xs : Nat → Int32} (hL : L ≤ 2048) (j : Nat) (v_x_text_count : Int32) (f_x_text_items : Nat → Int32) (v_x_row_count : Int32) (f_x_row_items : Nat → Int32) (v_x_strip_count : Int32) (f_x_strip_items : Nat → Int32) (f_x_packer_costs : Nat → Int32) (v_x_reader_fromBack : Int32) (v_x_reader_set : Int32) (v_x_reader_shifted : Int32) (v_x_reader_told_count : Int32) (f_x_reader_told_items : Nat → Int32) (v_m_thrown : Int32) (v_m_length : Int32) (v_m_symbols : Int32) (v_m_widths : Int32) (v_m_told : Int32) (v_m_back : Int32) (v_m_drafted : Int32) (f_m_text : Nat → Int32) (f_m_least : Nat → Int32) (f_m_row : Nat → Int32) (f_m_strip : Nat → Int32) (f_m_turned : Nat → Int32) (f_m_found : Nat → Int32) (f_m_signs : Nat → Int32) (f_m_draft : Nat → Int32) (f_o : Nat → Int64) (hj : 4 * j + 4 ≤ L) (hI : Iv v_x_text_count f_x_text_items v_x_row_count f_x_row_items v_x_strip_count f_x_strip_items f_x_packer_costs v_x_reader_fromBack v_x_reader_set v_x_reader_shifted v_x_reader_told_count f_x_reader_told_items v_m_thrown v_m_length v_m_symbols v_m_widths v_m_told v_m_back v_m_drafted f_m_text f_m_least f_m_row f_m_strip f_m_turned f_m_found f_m_signs f_m_draft f_o) : w_Lw_c7 Iv L xs (nI (4 * j)) v_x_text_count f_x_text_items v_x_row_count f_x_row_items v_x_strip_count f_x_strip_items f_x_packer_costs v_x_reader_fromBack v_x_reader_set v_x_reader_shifted v_x_reader_told_count f_x_reader_told_items v_m_length v_m_symbols v_m_widths v_m_told v_m_back v_m_drafted f_m_text f_m_least f_m_row f_m_strip f_m_turned f_m_found f_m_signs f_m_draft f_o := by
  obtain ⟨hT, hR, ⟨S, rfl, rfl, sl, s1, s2, sk⟩, hO, hB⟩ := hI
  have v1 := vin1 hj hL
  have v2 := vin2 hj hL
  have v3 := vin3 hj hL
  have same : ∀ th fo, Iv v_x_text_count f_x_text_items v_x_row_count f_x_row_items (nI S.length) f_x_strip_items f_x_packer_costs v_x_reader_fromBack v_x_reader_set v_x_reader_shifted v_x_reader_told_count f_x_reader_told_items th v_m_length v_m_symbols (nI S.length) v_m_told v_m_back v_m_drafted f_m_text f_m_least f_m_row f_m_strip f_m_turned f_m_found f_m_signs f_m_draft fo := fun th fo => ⟨hT, hR, ⟨S, rfl, rfl, sl, s1, s2, sk⟩, hO, hB⟩
  unfold w_Lw_c7
  refine ⟨v1, v2, v3, s_Lw_put sl (fun c => ?_) (fun q q1 q8 qe qb => ?_) (fun q q1 q8 qe qb qk => ?_) (fun q q1 q8 qe qb qk => ?_)⟩
  · refine ⟨v1, v2, v3, s_Md_put sl (fun _ => s_Md_thrown (end_th (by decide) (same _ _))) (fun q q1 q8 qe qb => s_Md_thrown (end_th (by decide) (same _ _))) (fun q q1 q8 qe qb qk => (bad_q c q1 q8 qe).elim) (fun q q1 q8 qe qb qk => (bad_q c q1 q8 qe).elim)⟩
  · refine ⟨v1, v2, v3, s_Md_put sl (fun _ => s_Md_thrown (end_th (by decide) (same _ _))) (fun q q1 q8 qe qb => s_Md_thrown (end_th (by decide) (same _ _))) (fun p p1 p8 pe pb pk => absurd ?_ qb) (fun p p1 p8 pe pb pk => absurd ?_ qb)⟩
    · rw [← same_q q8 p8 qe pe]; exact pb
    · rw [← same_q q8 p8 qe pe]; exact pb
  · refine ⟨v1, v2, v3, s_Md_put sl (fun c => (bad_q c q1 q8 qe).elim) (fun p p1 p8 pe pb => absurd ?_ pb) (fun p p1 p8 pe pb pk => ?_) (fun p p1 p8 pe pb pk => absurd ?_ pk)⟩
    · rw [same_q q8 p8 qe pe]; exact qb
    · have e := same_q q8 p8 qe pe
      subst e
      have a1 := isL_appB (q := p) (x := ((xs (nI (4 * j) + 2).toNatClampNeg).toInt64 <<< ((32 : Int32).toInt64 &&& 63)) ||| ((xs (nI (4 * j) + 3).toNatClampNeg).toInt64 &&& 4294967295)) s1
      have a2 := isL_appB (q := p) (x := ((xs (nI (4 * j) + 2).toNatClampNeg).toInt64 <<< ((32 : Int32).toInt64 &&& 63)) ||| ((xs (nI (4 * j) + 3).toNatClampNeg).toInt64 &&& 4294967295)) s2
      have el : ∀ x, (S ++ bytL x p).length = S.length + p := fun x => by rw [List.length_append, bytL_len]
      exact s_Md_thrown (end_ok ⟨hT, hR, ⟨_, congrArg nI (el _).symm, congrArg nI (el _).symm, by rw [el]; exact qk, a1, a2, okS_app sk (okS_bytL qb)⟩, hO, hB⟩)
    · rw [same_q q8 p8 qe pe]; exact qk
  · refine ⟨v1, v2, v3, s_Md_put sl (fun c => (bad_q c q1 q8 qe).elim) (fun p p1 p8 pe pb => absurd ?_ pb) (fun p p1 p8 pe pb pk => absurd pk ?_) (fun p p1 p8 pe pb pk => s_Md_thrown (end_ok (same _ _)))⟩
    · rw [same_q q8 p8 qe pe]; exact qb
    · rw [same_q q8 p8 qe pe]; exact qk

theorem ok_c8 {L : Nat} {xs : Nat → Int32} (hL : L ≤ 2048) (j : Nat) (v_x_text_count : Int32) (f_x_text_items : Nat → Int32) (v_x_row_count : Int32) (f_x_row_items : Nat → Int32) (v_x_strip_count : Int32) (f_x_strip_items : Nat → Int32) (f_x_packer_costs : Nat → Int32) (v_x_reader_fromBack : Int32) (v_x_reader_set : Int32) (v_x_reader_shifted : Int32) (v_x_reader_told_count : Int32) (f_x_reader_told_items : Nat → Int32) (v_m_thrown : Int32) (v_m_length : Int32) (v_m_symbols : Int32) (v_m_widths : Int32) (v_m_told : Int32) (v_m_back : Int32) (v_m_drafted : Int32) (f_m_text : Nat → Int32) (f_m_least : Nat → Int32) (f_m_row : Nat → Int32) (f_m_strip : Nat → Int32) (f_m_turned : Nat → Int32) (f_m_found : Nat → Int32) (f_m_signs : Nat → Int32) (f_m_draft : Nat → Int32) (f_o : Nat → Int64) (hj : 4 * j + 4 ≤ L) (hI : Iv v_x_text_count f_x_text_items v_x_row_count f_x_row_items v_x_strip_count f_x_strip_items f_x_packer_costs v_x_reader_fromBack v_x_reader_set v_x_reader_shifted v_x_reader_told_count f_x_reader_told_items v_m_thrown v_m_length v_m_symbols v_m_widths v_m_told v_m_back v_m_drafted f_m_text f_m_least f_m_row f_m_strip f_m_turned f_m_found f_m_signs f_m_draft f_o) : w_Lw_c8 Iv L xs (nI (4 * j)) v_x_text_count f_x_text_items v_x_row_count f_x_row_items v_x_strip_count f_x_strip_items f_x_packer_costs v_x_reader_fromBack v_x_reader_set v_x_reader_shifted v_x_reader_told_count f_x_reader_told_items v_m_length v_m_symbols v_m_widths v_m_told v_m_back v_m_drafted f_m_text f_m_least f_m_row f_m_strip f_m_turned f_m_found f_m_signs f_m_draft f_o := by
  obtain ⟨hT, hR, ⟨S, rfl, rfl, sl, s1, s2, sk⟩, hO, hB⟩ := hI
  unfold w_Lw_c8
  refine s_It_empty ⟨fun _ => ⟨hT, hR, ⟨[], rfl, rfl, by simp, isL_nil _, isL_nil _, okS_nil⟩, hO, hB⟩, fun z => z rfl⟩

theorem ok_c9 {L : Nat} {xs : Nat → Int32} (hL : L ≤ 2048) (j : Nat) (v_x_text_count : Int32) (f_x_text_items : Nat → Int32) (v_x_row_count : Int32) (f_x_row_items : Nat → Int32) (v_x_strip_count : Int32) (f_x_strip_items : Nat → Int32) (f_x_packer_costs : Nat → Int32) (v_x_reader_fromBack : Int32) (v_x_reader_set : Int32) (v_x_reader_shifted : Int32) (v_x_reader_told_count : Int32) (f_x_reader_told_items : Nat → Int32) (v_m_thrown : Int32) (v_m_length : Int32) (v_m_symbols : Int32) (v_m_widths : Int32) (v_m_told : Int32) (v_m_back : Int32) (v_m_drafted : Int32) (f_m_text : Nat → Int32) (f_m_least : Nat → Int32) (f_m_row : Nat → Int32) (f_m_strip : Nat → Int32) (f_m_turned : Nat → Int32) (f_m_found : Nat → Int32) (f_m_signs : Nat → Int32) (f_m_draft : Nat → Int32) (f_o : Nat → Int64) (hj : 4 * j + 4 ≤ L) (hI : Iv v_x_text_count f_x_text_items v_x_row_count f_x_row_items v_x_strip_count f_x_strip_items f_x_packer_costs v_x_reader_fromBack v_x_reader_set v_x_reader_shifted v_x_reader_told_count f_x_reader_told_items v_m_thrown v_m_length v_m_symbols v_m_widths v_m_told v_m_back v_m_drafted f_m_text f_m_least f_m_row f_m_strip f_m_turned f_m_found f_m_signs f_m_draft f_o) : w_Lw_c9 Iv L xs (nI (4 * j)) v_x_text_count f_x_text_items v_x_row_count f_x_row_items v_x_strip_count f_x_strip_items f_x_packer_costs v_x_reader_fromBack v_x_reader_set v_x_reader_shifted v_x_reader_told_count f_x_reader_told_items v_m_length v_m_symbols v_m_widths v_m_told v_m_back v_m_drafted f_m_text f_m_least f_m_row f_m_strip f_m_turned f_m_found f_m_signs f_m_draft f_o := by
  obtain ⟨hT, hR, ⟨S, rfl, rfl, sl, s1, s2, sk⟩, hO, hB⟩ := hI
  have v1 := vin1 hj hL
  unfold w_Lw_c9
  refine ⟨v1, s_It_at sl (by omega) ⟨v1, s_Md_width sl ⟨fun _ => ⟨hT, hR, ⟨S, rfl, rfl, sl, s1, s2, sk⟩, hO, hB⟩, fun z => z ?_⟩⟩⟩
  exact atN_congr (by omega) (isL_eq s1 s2) _

theorem ok_c10 {L : Nat} {xs : Nat → Int32} (hL : L ≤ 2048) (j : Nat) (v_x_text_count : Int32) (f_x_text_items : Nat → Int32) (v_x_row_count : Int32) (f_x_row_items : Nat → Int32) (v_x_strip_count : Int32) (f_x_strip_items : Nat → Int32) (f_x_packer_costs : Nat → Int32) (v_x_reader_fromBack : Int32) (v_x_reader_set : Int32) (v_x_reader_shifted : Int32) (v_x_reader_told_count : Int32) (f_x_reader_told_items : Nat → Int32) (v_m_thrown : Int32) (v_m_length : Int32) (v_m_symbols : Int32) (v_m_widths : Int32) (v_m_told : Int32) (v_m_back : Int32) (v_m_drafted : Int32) (f_m_text : Nat → Int32) (f_m_least : Nat → Int32) (f_m_row : Nat → Int32) (f_m_strip : Nat → Int32) (f_m_turned : Nat → Int32) (f_m_found : Nat → Int32) (f_m_signs : Nat → Int32) (f_m_draft : Nat → Int32) (f_o : Nat → Int64) (hj : 4 * j + 4 ≤ L) (hI : Iv v_x_text_count f_x_text_items v_x_row_count f_x_row_items v_x_strip_count f_x_strip_items f_x_packer_costs v_x_reader_fromBack v_x_reader_set v_x_reader_shifted v_x_reader_told_count f_x_reader_told_items v_m_thrown v_m_length v_m_symbols v_m_widths v_m_told v_m_back v_m_drafted f_m_text f_m_least f_m_row f_m_strip f_m_turned f_m_found f_m_signs f_m_draft f_o) : w_Lw_c10 Iv L xs (nI (4 * j)) v_x_text_count f_x_text_items v_x_row_count f_x_row_items v_x_strip_count f_x_strip_items f_x_packer_costs v_x_reader_fromBack v_x_reader_set v_x_reader_shifted v_x_reader_told_count f_x_reader_told_items v_m_length v_m_symbols v_m_widths v_m_told v_m_back v_m_drafted f_m_text f_m_least f_m_row f_m_strip f_m_turned f_m_found f_m_signs f_m_draft f_o := by
  obtain ⟨hT, hR, ⟨S, rfl, rfl, sl, s1, s2, sk⟩, hO, hB⟩ := hI
  have v1 := vin1 hj hL
  have v2 := vin2 hj hL
  have same : ∀ th fo, Iv v_x_text_count f_x_text_items v_x_row_count f_x_row_items (nI S.length) f_x_strip_items f_x_packer_costs v_x_reader_fromBack v_x_reader_set v_x_reader_shifted v_x_reader_told_count f_x_reader_told_items th v_m_length v_m_symbols (nI S.length) v_m_told v_m_back v_m_drafted f_m_text f_m_least f_m_row f_m_strip f_m_turned f_m_found f_m_signs f_m_draft fo := fun th fo => ⟨hT, hR, ⟨S, rfl, rfl, sl, s1, s2, sk⟩, hO, hB⟩
  unfold w_Lw_c10
  generalize xs (nI (4 * j) + 1).toNatClampNeg = x
  generalize xs (nI (4 * j) + 2).toNatClampNeg = y
  refine ⟨v1, v2, ?_⟩
  unfold w_Lw_spoil
  by_cases c0 : x < 0
  · refine Or.inr ⟨fun _ => Or.inr ⟨rfl, v1, v2, ?_⟩, fun z => absurd c0 z⟩
    exact ⟨fun _ => s_Md_thrown (end_th (by decide) (same _ _)), fun z => absurd c0 z⟩
  by_cases c1 : x < nI S.length
  · by_cases c2 : y < 1
    · refine Or.inr ⟨fun z => absurd z c0, fun _ => s_It_count ⟨fun _ => ⟨fun _ => Or.inl ⟨rfl, v1, v2, ?_⟩, fun z => absurd c2 z⟩, fun z => absurd c1 z⟩⟩
      exact ⟨fun z => absurd z c0, fun _ => ⟨fun _ => ⟨fun _ => s_Md_thrown (end_th (by decide) (same _ _)), fun z => absurd c2 z⟩, fun z => absurd c1 z⟩⟩
    by_cases c3 : y ≤ 2000
    · obtain ⟨a, ha, rfl⟩ := nI_of c0
      rw [nI_ltI ha (by omega)] at c1
      obtain ⟨v, hv1, hv2, rfl⟩ : ∃ v : Nat, 1 ≤ v ∧ v ≤ 2000 ∧ y = nI v := by
        rw [Int32.lt_iff_toInt_lt] at c2
        rw [Int32.le_iff_toInt_le] at c3
        have e1 : (1 : Int32).toInt = 1 := rfl
        have e8 : (2000 : Int32).toInt = 2000 := rfl
        obtain ⟨q, hq, rfl⟩ := nI_of (x := y) (by rw [Int32.lt_iff_toInt_lt, Int32.toInt_zero]; omega)
        rw [nI_toInt hq] at c2 c3
        exact ⟨q, by omega, by omega, rfl⟩
      have d1 : nI a < nI S.length := (nI_ltI ha (by omega)).mpr c1
      refine Or.inl ⟨fun z => absurd z c0, fun _ => s_It_count ⟨fun _ => ⟨fun z => absurd z c2, fun _ => ⟨fun _ => ?_, fun z => absurd c3 z⟩⟩, fun z => absurd d1 z⟩⟩
      refine s_It_replace_in c1 sl (by omega) ⟨pk_in 0 1 (by omega), v1, v2, ?_⟩
      refine ⟨fun z => absurd z c0, fun _ => ⟨fun _ => ⟨fun z => absurd z c2, fun _ => ⟨fun _ => ⟨pk_in a 800 (by omega), pk_in a 800 (by omega), ?_⟩, fun z => absurd c3 z⟩⟩, fun z => absurd d1 z⟩⟩
      rw [nI_clamp ha, isL_eq s1 s2 a c1]
      have el : (S.set a v).length = S.length := List.length_set
      exact s_Md_thrown (end_ok ⟨hT, hR, ⟨S.set a v, congrArg nI el.symm, congrArg nI el.symm, by rw [el]; exact sl, isL_set s1, isL_set s2, okS_set sk hv1 hv2⟩, hO, hB⟩)
    · refine Or.inr ⟨fun z => absurd z c0, fun _ => s_It_count ⟨fun _ => ⟨fun z => absurd z c2, fun _ => ⟨fun z => absurd z c3, fun _ => Or.inl ⟨rfl, v1, v2, ?_⟩⟩⟩, fun z => absurd c1 z⟩⟩
      exact ⟨fun z => absurd z c0, fun _ => ⟨fun _ => ⟨fun z => absurd z c2, fun _ => ⟨fun z => absurd z c3, fun _ => s_Md_thrown (end_th (by decide) (same _ _))⟩⟩, fun z => absurd c1 z⟩⟩
  · refine Or.inr ⟨fun z => absurd z c0, fun _ => s_It_count ⟨fun z => absurd z c1, fun _ => Or.inr ⟨rfl, v1, v2, ?_⟩⟩⟩
    exact ⟨fun z => absurd z c0, fun _ => ⟨fun z => absurd z c1, fun _ => s_Md_thrown (end_th (by decide) (same _ _))⟩⟩

theorem ok_c11 {L : Nat} {xs : Nat → Int32} (hL : L ≤ 2048) (j : Nat) (v_x_text_count : Int32) (f_x_text_items : Nat → Int32) (v_x_row_count : Int32) (f_x_row_items : Nat → Int32) (v_x_strip_count : Int32) (f_x_strip_items : Nat → Int32) (f_x_packer_costs : Nat → Int32) (v_x_reader_fromBack : Int32) (v_x_reader_set : Int32) (v_x_reader_shifted : Int32) (v_x_reader_told_count : Int32) (f_x_reader_told_items : Nat → Int32) (v_m_thrown : Int32) (v_m_length : Int32) (v_m_symbols : Int32) (v_m_widths : Int32) (v_m_told : Int32) (v_m_back : Int32) (v_m_drafted : Int32) (f_m_text : Nat → Int32) (f_m_least : Nat → Int32) (f_m_row : Nat → Int32) (f_m_strip : Nat → Int32) (f_m_turned : Nat → Int32) (f_m_found : Nat → Int32) (f_m_signs : Nat → Int32) (f_m_draft : Nat → Int32) (f_o : Nat → Int64) (hj : 4 * j + 4 ≤ L) (hI : Iv v_x_text_count f_x_text_items v_x_row_count f_x_row_items v_x_strip_count f_x_strip_items f_x_packer_costs v_x_reader_fromBack v_x_reader_set v_x_reader_shifted v_x_reader_told_count f_x_reader_told_items v_m_thrown v_m_length v_m_symbols v_m_widths v_m_told v_m_back v_m_drafted f_m_text f_m_least f_m_row f_m_strip f_m_turned f_m_found f_m_signs f_m_draft f_o) : w_Lw_c11 Iv L xs (nI (4 * j)) v_x_text_count f_x_text_items v_x_row_count f_x_row_items v_x_strip_count f_x_strip_items f_x_packer_costs v_x_reader_fromBack v_x_reader_set v_x_reader_shifted v_x_reader_told_count f_x_reader_told_items v_m_length v_m_symbols v_m_widths v_m_told v_m_back v_m_drafted f_m_text f_m_least f_m_row f_m_strip f_m_turned f_m_found f_m_signs f_m_draft f_o := by
  obtain ⟨hT, hR, ⟨S, rfl, rfl, sl, s1, s2, sk⟩, hO, hB⟩ := hI
  have el : S.reverse.length = S.length := List.length_reverse
  unfold w_Lw_c11
  refine s_It_reverse sl (by omega) (s_It_count ?_)
  exact s_Md_reverse sl (fun t' => ⟨fun _ => ⟨hT, hR, ⟨S.reverse, congrArg nI el.symm, congrArg nI el.symm, by rw [el]; exact sl, isL_rev s1, isL_rev s2, okS_rev sk⟩, hO, hB⟩, fun z => z rfl⟩)

theorem ok_c12 {L : Nat} {xs : Nat → Int32} (hL : L ≤ 2048) (j : Nat) (v_x_text_count : Int32) (f_x_text_items : Nat → Int32) (v_x_row_count : Int32) (f_x_row_items : Nat → Int32) (v_x_strip_count : Int32) (f_x_strip_items : Nat → Int32) (f_x_packer_costs : Nat → Int32) (v_x_reader_fromBack : Int32) (v_x_reader_set : Int32) (v_x_reader_shifted : Int32) (v_x_reader_told_count : Int32) (f_x_reader_told_items : Nat → Int32) (v_m_thrown : Int32) (v_m_length : Int32) (v_m_symbols : Int32) (v_m_widths : Int32) (v_m_told : Int32) (v_m_back : Int32) (v_m_drafted : Int32) (f_m_text : Nat → Int32) (f_m_least : Nat → Int32) (f_m_row : Nat → Int32) (f_m_strip : Nat → Int32) (f_m_turned : Nat → Int32) (f_m_found : Nat → Int32) (f_m_signs : Nat → Int32) (f_m_draft : Nat → Int32) (f_o : Nat → Int64) (hj : 4 * j + 4 ≤ L) (hI : Iv v_x_text_count f_x_text_items v_x_row_count f_x_row_items v_x_strip_count f_x_strip_items f_x_packer_costs v_x_reader_fromBack v_x_reader_set v_x_reader_shifted v_x_reader_told_count f_x_reader_told_items v_m_thrown v_m_length v_m_symbols v_m_widths v_m_told v_m_back v_m_drafted f_m_text f_m_least f_m_row f_m_strip f_m_turned f_m_found f_m_signs f_m_draft f_o) : w_Lw_c12 Iv L xs (nI (4 * j)) v_x_text_count f_x_text_items v_x_row_count f_x_row_items v_x_strip_count f_x_strip_items f_x_packer_costs v_x_reader_set v_x_reader_shifted v_x_reader_told_count f_x_reader_told_items v_m_length v_m_symbols v_m_widths v_m_drafted (tabU symL 106) (tabU figL 10) (tabU trnL 10) f_m_text f_m_least f_m_row f_m_strip f_m_turned f_m_found f_m_signs f_m_draft f_o := by
  obtain ⟨hT, hR, ⟨S, rfl, rfl, sl, s1, s2, sk⟩, hO, hB⟩ := hI
  unfold w_Lw_c12
  refine s_Lc_read sl s1 sk (fun c b T hr tl f' a s ft' hf' hft => ?_)
  refine s_Md_read sl s2 sk (fun c2 b2 T2 hr2 tl2 d g' tu fo' sg' dr' hg' hsg => ?_)
  obtain ⟨rfl, rfl, rfl⟩ := rdRes_one hr hr2
  refine ⟨fun _ => ⟨hT, hR, ⟨S, rfl, rfl, sl, hf', hg', sk⟩, ⟨T, rfl, rfl, tl, hft, hsg⟩, rfl, ?_⟩, fun z => z rfl⟩
  rcases hr with ⟨-, q, -⟩ | ⟨-, -, q, -⟩ | ⟨-, -, q, -, -⟩
  · exact Or.inl q
  · exact Or.inr q
  · exact Or.inl q

theorem ok_c13 {L : Nat} {xs : Nat → Int32} (hL : L ≤ 2048) (j : Nat) (v_x_text_count : Int32) (f_x_text_items : Nat → Int32) (v_x_row_count : Int32) (f_x_row_items : Nat → Int32) (v_x_strip_count : Int32) (f_x_strip_items : Nat → Int32) (f_x_packer_costs : Nat → Int32) (v_x_reader_fromBack : Int32) (v_x_reader_set : Int32) (v_x_reader_shifted : Int32) (v_x_reader_told_count : Int32) (f_x_reader_told_items : Nat → Int32) (v_m_thrown : Int32) (v_m_length : Int32) (v_m_symbols : Int32) (v_m_widths : Int32) (v_m_told : Int32) (v_m_back : Int32) (v_m_drafted : Int32) (f_m_text : Nat → Int32) (f_m_least : Nat → Int32) (f_m_row : Nat → Int32) (f_m_strip : Nat → Int32) (f_m_turned : Nat → Int32) (f_m_found : Nat → Int32) (f_m_signs : Nat → Int32) (f_m_draft : Nat → Int32) (f_o : Nat → Int64) (hj : 4 * j + 4 ≤ L) (hI : Iv v_x_text_count f_x_text_items v_x_row_count f_x_row_items v_x_strip_count f_x_strip_items f_x_packer_costs v_x_reader_fromBack v_x_reader_set v_x_reader_shifted v_x_reader_told_count f_x_reader_told_items v_m_thrown v_m_length v_m_symbols v_m_widths v_m_told v_m_back v_m_drafted f_m_text f_m_least f_m_row f_m_strip f_m_turned f_m_found f_m_signs f_m_draft f_o) : w_Lw_c13 Iv L xs (nI (4 * j)) v_x_text_count f_x_text_items v_x_row_count f_x_row_items v_x_strip_count f_x_strip_items f_x_packer_costs v_x_reader_fromBack v_x_reader_set v_x_reader_shifted v_x_reader_told_count f_x_reader_told_items v_m_length v_m_symbols v_m_widths v_m_told v_m_back v_m_drafted f_m_text f_m_least f_m_row f_m_strip f_m_turned f_m_found f_m_signs f_m_draft f_o := by
  obtain ⟨hT, hR, hS, ⟨T, rfl, rfl, tl, o1, o2⟩, hB⟩ := hI
  have v1 := vin1 hj hL
  unfold w_Lw_c13
  refine ⟨v1, s_It_at tl (by omega) ⟨v1, s_Md_sign (by omega) ⟨fun _ => ⟨hT, hR, hS, ⟨T, rfl, rfl, tl, o1, o2⟩, hB⟩, fun z => z ?_⟩⟩⟩
  exact atN_congr (by omega) (isL_eq o1 o2) _

theorem ok_c14 {L : Nat} {xs : Nat → Int32} (hL : L ≤ 2048) (j : Nat) (v_x_text_count : Int32) (f_x_text_items : Nat → Int32) (v_x_row_count : Int32) (f_x_row_items : Nat → Int32) (v_x_strip_count : Int32) (f_x_strip_items : Nat → Int32) (f_x_packer_costs : Nat → Int32) (v_x_reader_fromBack : Int32) (v_x_reader_set : Int32) (v_x_reader_shifted : Int32) (v_x_reader_told_count : Int32) (f_x_reader_told_items : Nat → Int32) (v_m_thrown : Int32) (v_m_length : Int32) (v_m_symbols : Int32) (v_m_widths : Int32) (v_m_told : Int32) (v_m_back : Int32) (v_m_drafted : Int32) (f_m_text : Nat → Int32) (f_m_least : Nat → Int32) (f_m_row : Nat → Int32) (f_m_strip : Nat → Int32) (f_m_turned : Nat → Int32) (f_m_found : Nat → Int32) (f_m_signs : Nat → Int32) (f_m_draft : Nat → Int32) (f_o : Nat → Int64) (hj : 4 * j + 4 ≤ L) (hI : Iv v_x_text_count f_x_text_items v_x_row_count f_x_row_items v_x_strip_count f_x_strip_items f_x_packer_costs v_x_reader_fromBack v_x_reader_set v_x_reader_shifted v_x_reader_told_count f_x_reader_told_items v_m_thrown v_m_length v_m_symbols v_m_widths v_m_told v_m_back v_m_drafted f_m_text f_m_least f_m_row f_m_strip f_m_turned f_m_found f_m_signs f_m_draft f_o) : w_Lw_c14 Iv L xs (nI (4 * j)) v_x_text_count f_x_text_items v_x_row_count f_x_row_items v_x_strip_count f_x_strip_items f_x_packer_costs v_x_reader_fromBack v_x_reader_set v_x_reader_shifted v_x_reader_told_count f_x_reader_told_items v_m_length v_m_symbols v_m_widths v_m_told v_m_back v_m_drafted f_m_text f_m_least f_m_row f_m_strip f_m_turned f_m_found f_m_signs f_m_draft f_o := by
  obtain ⟨hT, hR, hS, hO, ⟨rfl, hz⟩⟩ := hI
  unfold w_Lw_c14
  exact ⟨hz, hz, hz, ⟨fun _ => ⟨hT, hR, hS, hO, rfl, hz⟩, fun z => z rfl⟩⟩
