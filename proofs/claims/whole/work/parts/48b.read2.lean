/-! Reading, whole. -/
def rdOK (g : Nat → Nat) (k : Nat) (T : List Nat) : Prop := (k = 59 ∧ thOK g T) ∨ (¬ k = 59 ∧ rdRow g k T)
theorem rdOK_one {g : Nat → Nat} {k : Nat} {T T' : List Nat} (h : rdOK g k T) (h' : rdOK g k T') : T = T' := by
  rcases h with ⟨a, b⟩ | ⟨a, b⟩
  · rcases h' with ⟨a', b'⟩ | ⟨a', b'⟩
    · exact b.2.2.2.2.trans b'.2.2.2.2.symm
    · exact absurd a a'
  · rcases h' with ⟨a', b'⟩ | ⟨a', b'⟩
    · exact absurd a' a
    · have e := b.2.2.2.2.2.1.symm.trans b'.2.2.2.2.2.1
      exact Option.some.inj e
theorem s_Re_isReadable {post : Int32 → Int32 → Int32 → Int32 → Int32 → (Nat → Int32) → Prop} {k : Nat} {g : Nat → Nat} {f ft : Nat → Int32} {set0 sh0 tc : Int32} {x b : Int32} (hx : (x = 0 ∧ b = 0) ∨ (x = 1 ∧ b = 1)) (hk : k ≤ 800) (hg : okW f k g) (h1 : ∀ T, rdOK g k T → T.length ≤ 260 → ∀ a s f', isL f' T → post 1 b a s (nI T.length) f') (h0 : (∀ T, ¬ rdOK g k T) → ∀ a s f', post 0 0 a s 0 f') : w_Re_isReadable post set0 sh0 (nI k) f tc ft x := by
  have fin1 : ∀ a s c f', post 1 b a s c f' → (x = 0 → vz 1 ∧ post 1 0 a s c f') ∧ (¬ x = 0 → vz 1 ∧ post 1 1 a s c f') := fun a s c f' h => by
    rcases hx with ⟨e1, e2⟩ | ⟨e1, e2⟩
    · rw [e2] at h
      exact ⟨fun _ => ⟨Or.inr rfl, h⟩, fun z => absurd e1 z⟩
    · rw [e2] at h
      exact ⟨fun z => absurd (e1.symm.trans z) (by decide), fun _ => ⟨Or.inr rfl, h⟩⟩
  unfold w_Re_isReadable
  refine s_It_empty (s_It_count ?_)
  refine And.symm (pk_eq k 59 (fun c => ?_) (fun c => ?_))
  · subst c
    refine s_Re_isThirteen hg (fun T hT hl f' hf' => ⟨fun _ => ⟨fun z => absurd z (by decide), fun _ => fin1 _ _ _ _ (h1 T (Or.inl ⟨rfl, hT⟩) hl _ _ f' hf')⟩, fun z => absurd z (by decide)⟩) (fun hno c f' => ⟨fun z => absurd rfl z, fun _ => s_It_empty ⟨fun _ => ⟨Or.inl rfl, h0 (fun T z => ?_) _ _ _⟩, fun z => absurd rfl z⟩⟩)
    rcases z with z | z
    · exact hno T z.2
    · exact z.1 rfl
  · refine s_Re_isRow hk hg (fun T hT hl a s f' hf' => ⟨fun _ => ⟨fun z => absurd z (by decide), fun _ => fin1 _ _ _ _ (h1 T (Or.inr ⟨c, hT⟩) hl _ _ f' hf')⟩, fun z => absurd z (by decide)⟩) (fun hno a s c' f' => ⟨fun z => absurd rfl z, fun _ => s_It_empty ⟨fun _ => ⟨Or.inl rfl, h0 (fun T z => ?_) _ _ _⟩, fun z => absurd rfl z⟩⟩)
    rcases z with z | z
    · exact c z.1
    · exact hno T z.2
theorem s_Md_isSome {post : Int32 → Int32 → (Nat → Int32) → (Nat → Int32) → Prop} {k : Nat} {g : Nat → Nat} {f fo0 dr0 : Nat → Int32} {d0 : Int32} (hk : k ≤ 800) (hg : okW f k g) (h1 : ∀ T, rdOK g k T → T.length ≤ 260 → ∀ fo dr, isL dr T → post 1 (nI T.length) fo dr) (h0 : (∀ T, ¬ rdOK g k T) → ∀ d fo dr, post 0 d fo dr) : w_Md_isSome post (nI k) d0 (tabU symL 106) (tabU figL 10) (tabU trnL 10) f fo0 dr0 := by
  unfold w_Md_isSome
  refine And.symm (pk_eq k 59 (fun c => ?_) (fun c => ?_))
  · subst c
    refine s_Md_isThirteen hg (fun T hT hl fo dr hdr => ⟨Or.inr rfl, h1 T (Or.inl ⟨rfl, hT⟩) hl fo dr hdr⟩) (fun hno d fo dr => ⟨Or.inl rfl, h0 (fun T z => ?_) _ _ _⟩)
    rcases z with z | z
    · exact hno T z.2
    · exact z.1 rfl
  · have no : (∀ T, ¬ rdRow g k T) → ∀ T, ¬ rdOK g k T := fun q T z => by
      rcases z with z | z
      · exact c z.1
      · exact q T z.2
    refine pk_lt k 19 (fun d => h0 (no (fun T z => by have := z.1; omega)) _ _ _) (fun d => ?_)
    have e7 : nI k - 7 = nI (k - 7) := by rw [show (7 : Int32) = nI 7 from rfl, pk_sub (by omega)]
    have e6 : nI (k - 7) / 6 = nI ((k - 7) / 6) := by rw [show (6 : Int32) = nI 6 from rfl, pk_div (by omega) (by omega) (by omega)]
    have er : nI (k - 7) - nI (k - 7) / 6 * 6 = nI ((k - 7) % 6) := by rw [show (6 : Int32) = nI 6 from rfl, pk_rem (by omega) (by omega) (by omega)]
    rw [e7, er, e6]
    refine And.symm (pk_eq ((k - 7) % 6) 0 (fun e => ?_) (fun e => h0 (no (fun T z => e z.2.1)) _ _ _))
    exact s_Md_isRow (k := k) (by omega) (by omega) hk hg (fun T hT hl fo dr hdr => ⟨fun z => absurd z (by decide), fun _ => h1 T (Or.inr ⟨c, d, e, hT⟩) hl fo dr hdr⟩) (fun hno d' fo dr => ⟨fun _ => h0 (no (fun T z => hno T z.2.2)) _ _ _, fun z => absurd rfl z⟩)
def gL (S : List Nat) : Nat → Nat := fun j => S.getD j 0
/-- what reading the strip S answers: c, from the back b, told T -/
def rdRes (S : List Nat) (c b : Int32) (T : List Nat) : Prop :=
  (rdOK (gL S) S.length T ∧ b = 0 ∧ c = nI T.length) ∨
  ((∀ T, ¬ rdOK (gL S) S.length T) ∧ rdOK (gL S.reverse) S.length T ∧ b = 1 ∧ c = nI T.length) ∨
  ((∀ T, ¬ rdOK (gL S) S.length T) ∧ (∀ T, ¬ rdOK (gL S.reverse) S.length T) ∧ b = 0 ∧ c = -1 ∧ T = [])
theorem rdRes_one {S : List Nat} {c b c' b' : Int32} {T T' : List Nat} (h : rdRes S c b T) (h' : rdRes S c' b' T') : c = c' ∧ b = b' ∧ T = T' := by
  rcases h with ⟨a1, a2, a3⟩ | ⟨a1, a2, a3, a4⟩ | ⟨a1, a2, a3, a4, a5⟩
  · rcases h' with ⟨b1, b2, b3⟩ | ⟨b1, b2, b3, b4⟩ | ⟨b1, b2, b3, b4, b5⟩
    · have e := rdOK_one a1 b1
      subst e
      exact ⟨a3.trans b3.symm, a2.trans b2.symm, rfl⟩
    · exact absurd a1 (b1 T)
    · exact absurd a1 (b1 T)
  · rcases h' with ⟨b1, b2, b3⟩ | ⟨b1, b2, b3, b4⟩ | ⟨b1, b2, b3, b4, b5⟩
    · exact absurd b1 (a1 T')
    · have e := rdOK_one a2 b2
      subst e
      exact ⟨a4.trans b4.symm, a3.trans b3.symm, rfl⟩
    · exact absurd a2 (b2 T)
  · rcases h' with ⟨b1, b2, b3⟩ | ⟨b1, b2, b3, b4⟩ | ⟨b1, b2, b3, b4, b5⟩
    · exact absurd b1 (a1 T')
    · exact absurd b2 (a2 T')
    · exact ⟨a4.trans b4.symm, a3.trans b3.symm, a5.trans b5.symm⟩
theorem okS_rev {S : List Nat} (h : okS S) : okS S.reverse := fun x hx => h x (List.mem_reverse.mp hx)
theorem isL_rr {f : Nat → Int32} {S : List Nat} (h : isL f S) : isL (revN S.length (revN S.length f)) S := by
  have h1 := isL_rev (isL_rev h)
  rw [List.length_reverse, List.reverse_reverse] at h1
  exact h1
theorem s_Lc_read {post : Int32 → (Nat → Int32) → Int32 → Int32 → Int32 → Int32 → (Nat → Int32) → Prop} {S : List Nat} {f ft : Nat → Int32} {set0 sh0 tc : Int32} (hk : S.length ≤ 800) (hf : isL f S) (hS : okS S) (h : ∀ c b T, rdRes S c b T → T.length ≤ 260 → ∀ f' a s ft', isL f' S → isL ft' T → post c f' b a s (nI T.length) ft') : w_Lc_read post (nI S.length) f set0 sh0 tc ft := by
  have hW : okW f S.length (gL S) := okS_W hf hS
  have hfr := isL_rev hf
  have hWr : okW (revN S.length f) S.length (gL S.reverse) := by
    have := okS_W hfr (okS_rev hS)
    rw [List.length_reverse] at this
    exact this
  unfold w_Lc_read
  refine s_Re_isReadable (Or.inl ⟨rfl, rfl⟩) hk hW (fun T hT hl a s f' hf' => ⟨fun _ => ⟨fun z => absurd z (by decide), fun _ => ?_⟩, fun z => absurd z (by decide)⟩) (fun hno a s f' => ⟨fun z => absurd rfl z, fun _ => ?_⟩)
  · exact h _ _ T (Or.inl ⟨hT, rfl, rfl⟩) hl f a s f' hf hf'
  · refine s_It_reverse hk (by omega) ?_
    refine s_Re_isReadable (Or.inr ⟨rfl, rfl⟩) hk hWr (fun T hT hl a s f' hf' => ?_) (fun hno2 a s f' => ?_)
    · refine s_It_reverse hk (by omega) ⟨fun z => absurd z (by decide), fun _ => ?_⟩
      exact h _ _ T (Or.inr (Or.inl ⟨hno, hT, rfl, rfl⟩)) hl _ a s f' (isL_rr hf) hf'
    · refine s_It_reverse hk (by omega) ⟨fun _ => ?_, fun z => absurd rfl z⟩
      exact h _ _ [] (Or.inr (Or.inr ⟨hno, hno2, rfl, rfl, rfl⟩)) (by simp) _ a s f' (isL_rr hf) (fun j hj => absurd hj (by simp))
theorem s_Md_read67 {post : Int32 → Int32 → Int32 → Int32 → Int32 → (Nat → Int32) → (Nat → Int32) → (Nat → Int32) → (Nat → Int32) → (Nat → Int32) → Prop} {T : List Nat} {b : Int32} {fs ft fo dr sg : Nat → Int32} (hl : T.length ≤ 260) (hdr : isL dr T) (h : ∀ sg', isL sg' T → post (nI T.length) 0 (nI T.length) b (nI T.length) fs ft fo sg' dr) : ∃ k67, w_Md_read_67 post 0 b (nI T.length) fs ft fo dr k67 sg 0 := by
  have main : ∀ r i (sg : Nat → Int32), i + r = T.length → (∀ j, j < i → sg j = nI (T.getD j 0)) → w_Md_read_67 post 0 b (nI T.length) fs ft fo dr (r + 1) sg (nI i) := by
    intro r
    induction r with
    | zero =>
      intro i sg hi hsg
      unfold w_Md_read_67
      exact pk_le T.length i (fun _ => h sg (fun j hj => hsg j (by omega))) (fun z => absurd z (by omega))
    | succ r ih =>
      intro i sg hi hsg
      unfold w_Md_read_67
      refine pk_le T.length i (fun z => absurd z (by omega)) (fun _ => ⟨pk_in i 300 (by omega), pk_in i 300 (by omega), ?_⟩)
      rw [nI_clamp (by omega), nI_1]
      refine ih (i + 1) _ (by omega) (fun j hj => ?_)
      unfold upd
      by_cases e : j = i
      · rw [if_pos e, e]
        exact hdr i (by omega)
      · rw [if_neg e]
        exact hsg j (by omega)
  exact ⟨T.length + 1, main T.length 0 sg (by omega) (fun j hj => absurd hj (by omega))⟩
theorem s_Md_read {post : Int32 → Int32 → Int32 → Int32 → Int32 → (Nat → Int32) → (Nat → Int32) → (Nat → Int32) → (Nat → Int32) → (Nat → Int32) → Prop} {S : List Nat} {f ft fo sg dr : Nat → Int32} {d0 : Int32} (hk : S.length ≤ 800) (hf : isL f S) (hS : okS S) (h : ∀ c b T, rdRes S c b T → T.length ≤ 260 → ∀ d f' tu fo' sg' dr', isL f' S → isL sg' T → post c 0 (nI T.length) b d f' tu fo' sg' dr') : w_Md_read post (nI S.length) d0 (tabU symL 106) (tabU figL 10) (tabU trnL 10) f ft fo sg dr := by
  have hW : okW f S.length (gL S) := okS_W hf hS
  have hfr := isL_rev hf
  have hWr : okW (revN S.length f) S.length (gL S.reverse) := by
    have := okS_W hfr (okS_rev hS)
    rw [List.length_reverse] at this
    exact this
  unfold w_Md_read
  refine s_Md_isSome hk hW (fun T hT hl fo' dr' hdr => ⟨fun _ => ⟨fun _ => ?_, fun z => absurd z (by decide)⟩, fun z => absurd z (by decide)⟩) (fun hno d fo' dr' => ⟨fun z => absurd rfl z, fun _ => ?_⟩)
  · exact s_Md_read67 hl hdr (fun sg' hsg => h _ _ T (Or.inl ⟨hT, rfl, rfl⟩) hl _ f _ _ sg' _ hf hsg)
  · refine s_Md_reverse hk (fun t' => ?_)
    refine s_Md_isSome hk hWr (fun T hT hl fo2 dr2 hdr => ?_) (fun hno2 d2 fo2 dr2 => ?_)
    · refine s_Md_reverse hk (fun t2 => ⟨Or.inr rfl, fun z => absurd rfl z, fun _ => ⟨fun _ => ?_, fun z => absurd z (by decide)⟩⟩)
      exact s_Md_read67 hl hdr (fun sg' hsg => h _ _ T (Or.inr (Or.inl ⟨hno, hT, rfl, rfl⟩)) hl _ _ _ _ sg' _ (isL_rr hf) hsg)
    · refine s_Md_reverse hk (fun t2 => ⟨Or.inl rfl, fun z => absurd rfl z, fun _ => ⟨fun z => absurd rfl z, fun _ => ?_⟩⟩)
      exact h _ _ [] (Or.inr (Or.inr ⟨hno, hno2, rfl, rfl, rfl⟩)) (by simp) _ _ _ _ _ _ (isL_rr hf) (fun j hj => absurd hj (by simp))
