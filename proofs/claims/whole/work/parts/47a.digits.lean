/-! What widths count as: both sides. -/
def mC (c : Nat) : Nat := if c ≤ 9 then c else 9
def mB (d : Nat → Nat) : Nat → Nat
  | 0 => 0
  | k + 1 => 10 * mB d k + mC (d k)
theorem mB_s (d : Nat → Nat) (k : Nat) : mB d (k + 1) = 10 * mB d k + mC (d k) := rfl
theorem mC_le (c : Nat) : mC c ≤ 9 := by unfold mC; split <;> omega
theorem mB_lt (d : Nat → Nat) : ∀ k, mB d k < 10 ^ k
  | 0 => by unfold mB; omega
  | k + 1 => by
    have := mB_lt d k
    have := mC_le (d k)
    rw [mB_s, Nat.pow_succ]
    omega
/-- the last m figures are all 1 .. 4 -/
def gd : Nat → Nat → Bool
  | 0, _ => true
  | m + 1, e => decide (1 ≤ e % 10 ∧ e % 10 ≤ 4) && gd m (e / 10)
theorem gd_s (m e : Nat) : gd (m + 1) e = (decide (1 ≤ e % 10 ∧ e % 10 ≤ 4) && gd m (e / 10)) := rfl
theorem gd_mB (d : Nat → Nat) : ∀ m, gd m (mB d m) = true ↔ ∀ j, j < m → 1 ≤ d j ∧ d j ≤ 4
  | 0 => ⟨fun _ j hj => absurd hj (by omega), fun _ => rfl⟩
  | m + 1 => by
    have ih := gd_mB d m
    have hc := mC_le (d m)
    rw [mB_s, gd_s, show (10 * mB d m + mC (d m)) % 10 = mC (d m) by omega, show (10 * mB d m + mC (d m)) / 10 = mB d m by omega, Bool.and_eq_true, ih, decide_eq_true_eq]
    have e : (1 ≤ mC (d m) ∧ mC (d m) ≤ 4) ↔ (1 ≤ d m ∧ d m ≤ 4) := by
      unfold mC
      split <;> omega
    rw [e]
    constructor
    · intro h j hj
      by_cases q : j = m
      · rw [q]; exact h.1
      · exact h.2 j (by omega)
    · intro h
      exact ⟨h m (by omega), fun j hj => h j (by omega)⟩
theorem gd_0 {m : Nat} (h : 1 ≤ m) : gd m 0 = false := by
  cases m with
  | zero => omega
  | succ m => rfl
theorem cnts_mB (g : Nat → Nat) (a M S m : Nat) : ∀ r i, i + r = m → (∀ j, j < i → 1 ≤ cntW M S (g (a + j)) ∧ cntW M S (g (a + j)) ≤ 4) → cntsG g a M S r i (mB (fun j => cntW M S (g (a + j))) i) = if gd m (mB (fun j => cntW M S (g (a + j))) m) = true then mB (fun j => cntW M S (g (a + j))) m else 0 := by
  intro r
  induction r with
  | zero =>
    intro i hi hg
    have e : i = m := by omega
    subst e
    rw [if_pos ((gd_mB _ _).mpr hg)]
    rfl
  | succ r ih =>
    intro i hi hg
    show (if cntW M S (g (a + i)) < 1 then 0 else if cntW M S (g (a + i)) ≤ 4 then cntsG g a M S r (i + 1) (10 * mB (fun j => cntW M S (g (a + j))) i + cntW M S (g (a + i))) else 0) = _
    by_cases c1 : cntW M S (g (a + i)) < 1
    · rw [if_pos c1, if_neg (fun z => by have := (gd_mB _ _).mp z i (by omega); omega)]
    · rw [if_neg c1]
      by_cases c2 : cntW M S (g (a + i)) ≤ 4
      · rw [if_pos c2]
        have := ih (i + 1) (by omega) (fun j hj => by
          by_cases q : j = i
          · rw [q]; omega
          · exact hg j (by omega))
        rw [mB_s] at this
        have e9 : mC (cntW M S (g (a + i))) = cntW M S (g (a + i)) := by unfold mC; rw [if_pos (by omega)]
        rw [e9] at this
        exact this
      · rw [if_neg c2, if_neg (fun z => by have := (gd_mB _ _).mp z i (by omega); omega)]
/-- what the widths behind place a count as, each at most 9 -/
def cM (g : Nat → Nat) (a M S m : Nat) : Nat := mB (fun j => cntW M S (g (a + j))) m
theorem cM_lt (g : Nat → Nat) (a M S m : Nat) : cM g a M S m < 10 ^ m := mB_lt _ m
theorem cnts_cM (g : Nat → Nat) (a M S m : Nat) : cntsG g a M S m 0 0 = if gd m (cM g a M S m) = true then cM g a M S m else 0 := cnts_mB g a M S m m 0 (by omega) (fun j hj => absurd hj (by omega))
theorem cM_eq {g : Nat → Nat} {a M S m e : Nat} (he : gd m e = true) (hm : 1 ≤ m) : cM g a M S m = e ↔ cntsG g a M S m 0 0 = e := by
  rw [cnts_cM]
  by_cases c : gd m (cM g a M S m) = true
  · rw [if_pos c]
  · rw [if_neg c]
    constructor
    · intro z; rw [z] at c; exact absurd he c
    · intro z; rw [← z, gd_0 hm] at he; cases he
theorem find_eq {l : List Nat} {m x y : Nat} (hl : l.all (fun e => gd m e) = true) (hm : 1 ≤ m) (h : y = if gd m x = true then x else 0) : l.findIdx? (fun e => e == x) = l.findIdx? (fun e => e == y) := by
  by_cases c : gd m x = true
  · rw [if_pos c] at h
    rw [h]
  · rw [if_neg c] at h
    have e1 : l.findIdx? (fun e => e == x) = none := by
      rw [List.findIdx?_eq_none_iff]
      intro e he
      have := List.all_eq_true.mp hl e he
      simp only [beq_eq_false_iff_ne]
      intro z
      rw [z] at this
      exact c this
    have e2 : l.findIdx? (fun e => e == y) = none := by
      rw [List.findIdx?_eq_none_iff]
      intro e he
      have := List.all_eq_true.mp hl e he
      simp only [beq_eq_false_iff_ne]
      intro z
      rw [z, h, gd_0 hm] at this
      cases this
    rw [e1, e2]
theorem dig4 {A B C D x : Nat} (hA : A < 10) (hB : B < 10) (hC : C < 10) (hD : D < 10) (hx : x = A * 1000 + B * 100 + C * 10 + D) : x % 10 = D ∧ x / 10 % 10 = C ∧ x / 10 / 10 % 10 = B ∧ x / 10 / 10 / 10 % 10 = A := by
  subst hx
  omega
theorem gd_rev {w : Nat} (h : w < 10000) : gd 4 (revF w) = gd 4 w := by
  have e : revF w % 10 = w / 1000 % 10 ∧ revF w / 10 % 10 = w / 100 % 10 ∧ revF w / 10 / 10 % 10 = w / 10 % 10 ∧ revF w / 10 / 10 / 10 % 10 = w % 10 := dig4 (Nat.mod_lt _ (by omega)) (Nat.mod_lt _ (by omega)) (Nat.mod_lt _ (by omega)) (Nat.mod_lt _ (by omega)) rfl
  obtain ⟨e1, e2, e3, e4⟩ := e
  rw [gd_s, gd_s, gd_s, gd_s, gd_s, gd_s, gd_s, gd_s, e1, e2, e3, e4, show w / 10 / 10 = w / 100 by omega, show w / 100 / 10 = w / 1000 by omega]
  have e0 : ∀ x, gd 0 x = true := fun _ => rfl
  rw [e0, e0, Bool.and_true, Bool.and_true]
  cases decide (1 ≤ w / 1000 % 10 ∧ w / 1000 % 10 ≤ 4) <;> cases decide (1 ≤ w / 100 % 10 ∧ w / 100 % 10 ≤ 4) <;> cases decide (1 ≤ w / 10 % 10 ∧ w / 10 % 10 ≤ 4) <;> cases decide (1 ≤ w % 10 ∧ w % 10 ≤ 4) <;> rfl
theorem rev_if {w : Nat} (h : w < 10000) : revF (if gd 4 w = true then w else 0) = if gd 4 (revF w) = true then revF w else 0 := by
  rw [gd_rev h]
  by_cases c : gd 4 w = true
  · rw [if_pos c, if_pos c]
  · rw [if_neg c, if_neg c]
    rfl
theorem symL_gd : symL.all (fun e => gd 6 e) = true := by decide +kernel
theorem figL_gd : figL.all (fun e => gd 4 e) = true := by decide +kernel
/-! The reference's sums, counts and places. -/
theorem s_Md_sumOf {post : Int32 → Prop} {f : Nat → Int32} {g : Nat → Nat} {k a m : Nat} (hk : k ≤ 800) (hg : okW f k g) (ham : a + m ≤ k) (h : post (nI (sumG g a m))) : w_Md_sumOf post f (nI a) (nI m) := by
  have main : ∀ r i, i + r = m → w_Md_sumOf_5 post f (nI a) (nI m) (r + 1) (nI (sumG g a i)) (nI (a + i)) := by
    intro r
    induction r with
    | zero =>
      intro i hi
      unfold w_Md_sumOf_5
      rw [nI_add]
      refine pk_le (a + m) (a + i) (fun _ => ?_) (fun z => absurd z (by omega))
      rw [show i = m by omega]
      exact h
    | succ r ih =>
      intro i hi
      unfold w_Md_sumOf_5
      rw [nI_add]
      refine pk_le (a + m) (a + i) (fun z => absurd z (by omega)) (fun _ => ⟨pk_in (a + i) 800 (by omega), ?_⟩)
      rw [nI_clamp (by omega), (hg (a + i) (by omega)).1, nI_add, nI_1]
      exact ih (i + 1) (by omega)
  unfold w_Md_sumOf
  exact ⟨m + 1, main m 0 (by omega)⟩
theorem s_Md_counts {post : Int32 → Prop} {f : Nat → Int32} {g : Nat → Nat} {k a m M S : Nat} (hk : k ≤ 800) (hg : okW f k g) (ham : a + m ≤ k) (hM : M ≤ 100) (hS1 : 1 ≤ S) (hS : S ≤ 200000) (h : post (nI (cM g a M S m))) : w_Md_counts post f (nI a) (nI m) (nI S) (nI M) := by
  have main : ∀ r i, i + r = m → w_Md_counts_6 post f (nI a) (nI m) (nI S) (nI M) (r + 1) (nI (cM g a M S i)) (nI (a + i)) := by
    intro r
    induction r with
    | zero =>
      intro i hi
      unfold w_Md_counts_6
      rw [nI_add]
      refine pk_le (a + m) (a + i) (fun _ => ?_) (fun z => absurd z (by omega))
      rw [show i = m by omega]
      exact h
    | succ r ih =>
      intro i hi
      have hw := hg (a + i) (by omega)
      have hmul : 2 * M * g (a + i) ≤ 200 * 2000 := Nat.mul_le_mul (by omega) hw.2.2
      have hc : cntW M S (g (a + i)) ≤ 2 * M * g (a + i) + S := Nat.div_le_self _ _
      have em : 2 * g (a + i) * M = 2 * M * g (a + i) := by rw [Nat.mul_assoc, Nat.mul_comm (g (a + i)) M, ← Nat.mul_assoc]
      unfold w_Md_counts_6
      rw [nI_add]
      refine pk_le (a + m) (a + i) (fun z => absurd z (by omega)) (fun _ => ⟨pk_in (a + i) 800 (by omega), ?_⟩)
      rw [nI_clamp (by omega), hw.1, show (2 : Int32) = nI 2 from rfl, pk_mul, pk_mul, pk_mul, em, nI_add, pk_div (by omega) (by omega) (by omega), nI_1, show (10 : Int32) = nI 10 from rfl, pk_mul, nI_add]
      have hc' : (2 * M * g (a + i) + S) / (2 * S) = cntW M S (g (a + i)) := rfl
      rw [hc']
      have e0 : cM g a M S (i + 1) = 10 * cM g a M S i + mC (cntW M S (g (a + i))) := rfl
      have := ih (i + 1) (by omega)
      rw [e0] at this
      unfold mC at this
      refine ⟨nI_ne0 (by omega) (by omega), pk_le (cntW M S (g (a + i))) 9 (fun c => ?_) (fun c => ?_)⟩
      · rw [if_pos c] at this
        exact this
      · rw [if_neg (by omega)] at this
        rw [show (9 : Int32) = nI 9 from rfl, nI_add]
        exact this
  unfold w_Md_counts
  exact ⟨m + 1, main m 0 (by omega)⟩
theorem s_Md_place {post : Int32 → Prop} {l : List Nat} {c N : Nat} (hN : l.length = N) (hl : N < 2 ^ 31) (hb : ∀ j, j < N → l.getD j 0 < 2 ^ 31) (hc : c < 2 ^ 31) (h : post (optI (l.findIdx? (fun x => x == c)))) : w_Md_place post N (tabU l N) (nI c) := by
  subst hN
  have main : ∀ (r i : Nat), i + r = l.length → (∀ j, j < i → ¬ l.getD j 0 = c) → w_Md_place_2 post l.length (tabU l l.length) (nI c) (r + 1) (nI i) := by
    intro r
    induction r with
    | zero =>
      intro i hi hj
      unfold w_Md_place_2
      refine pk_le l.length i (fun _ => ?_) (fun z => absurd z (by omega))
      have e1 : l.findIdx? (fun x => x == c) = none := by
        rw [List.findIdx?_eq_none_iff]
        intro x hx
        obtain ⟨j, hj', e⟩ := List.getElem_of_mem hx
        have e2 := hj j (by omega)
        rw [getD_at hj', e] at e2
        simpa using e2
      rw [e1] at h
      exact h
    | succ r ih =>
      intro i hi hj
      unfold w_Md_place_2
      refine pk_le l.length i (fun z => absurd z (by omega)) (fun _ => ⟨pk_in i l.length (by omega), ?_⟩)
      rw [nI_clamp (by omega), tabU_at (by omega), nI_1]
      refine And.symm (pk_eq (l.getD i 0) c (fun e => ?_) (fun e => ?_) rfl rfl (hb i (by omega)))
      · have e1 : l.findIdx? (fun x => x == c) = some i := by
          rw [List.findIdx?_eq_some_iff_getElem]
          refine ⟨by omega, ?_, fun j hji => ?_⟩
          · rw [getD_at (by omega)] at e
            simpa using e
          · have e2 := hj j hji
            rw [getD_at (by omega)] at e2
            simpa using e2
        rw [e1] at h
        exact h
      · refine ih (i + 1) (by omega) (fun j hj2 => ?_)
        by_cases q : j = i
        · rw [q]; exact e
        · exact hj j (by omega)
  unfold w_Md_place
  exact ⟨l.length + 1, main l.length 0 (by omega) (fun j hj => absurd hj (by omega))⟩
theorem find_lt {l : List Nat} {c v : Nat} (h : l.findIdx? (fun x => x == c) = some v) : v < l.length := by
  rw [List.findIdx?_eq_some_iff_getElem] at h
  obtain ⟨h1, -⟩ := h
  exact h1
theorem symL_b : ((List.range 106).all fun j => decide (symL.getD j 0 < 2 ^ 31)) = true := by decide +kernel
theorem figL_b : ((List.range 10).all fun j => decide (figL.getD j 0 < 2 ^ 31)) = true := by decide +kernel
theorem trnL_b : ((List.range 10).all fun j => decide (trnL.getD j 0 < 2 ^ 31)) = true := by decide +kernel
theorem all_b {l : List Nat} {N : Nat} (h : ((List.range N).all fun j => decide (l.getD j 0 < 2 ^ 31)) = true) : ∀ j, j < N → l.getD j 0 < 2 ^ 31 := fun j hj => of_decide_eq_true (List.all_eq_true.mp h j (List.mem_range.mpr hj))
/-- the symbol, the figure, the first figure -/
def symI (c : Nat) : Option Nat := symL.findIdx? (fun x => x == c)
def figP (c : Nat) : Option Nat := figL.findIdx? (fun x => x == c)
def fstP (c : Nat) : Option Nat := trnL.findIdx? (fun x => x == c)
theorem s_symW {post : Int32 → Prop} {c : Nat} (hc : c < 2 ^ 31) (h : post (optI (symI c))) : w_Wi_symbolWith post (nI c) := s_place (l := symL) (by decide +kernel) (by omega) (all_b symL_b) hc h
theorem s_figW {post : Int32 → Prop} {c : Nat} (hc : c < 2 ^ 31) (h : post (optI (figP c))) : w_Wi_figureWith post (nI c) := s_place (l := figL) (by decide +kernel) (by omega) (all_b figL_b) hc h
theorem s_fstW {post : Int32 → Prop} {c : Nat} (hc : c < 2 ^ 31) (h : post (optI (fstP c))) : w_Wi_firstFigureWith post (nI c) := s_place (l := trnL) (by decide +kernel) (by omega) (all_b trnL_b) hc h
theorem s_symM {post : Int32 → Prop} {c : Nat} (hc : c < 2 ^ 31) (h : post (optI (symI c))) : w_Md_place post 106 (tabU symL 106) (nI c) := s_Md_place (l := symL) (by decide +kernel) (by omega) (all_b symL_b) hc h
theorem s_figM {post : Int32 → Prop} {c : Nat} (hc : c < 2 ^ 31) (h : post (optI (figP c))) : w_Md_place post 10 (tabU figL 10) (nI c) := s_Md_place (l := figL) (by decide +kernel) (by omega) (all_b figL_b) hc h
theorem s_fstM {post : Int32 → Prop} {c : Nat} (hc : c < 2 ^ 31) (h : post (optI (fstP c))) : w_Md_place post 10 (tabU trnL 10) (nI c) := s_Md_place (l := trnL) (by decide +kernel) (by omega) (all_b trnL_b) hc h
theorem symI_lt {c v : Nat} (h : symI c = some v) : v < 106 := by
  have := find_lt h
  have e : symL.length = 106 := by decide +kernel
  omega
theorem figP_lt {c v : Nat} (h : figP c = some v) : v < 10 := by
  have := find_lt h
  have e : figL.length = 10 := by decide +kernel
  omega
theorem fstP_lt {c v : Nat} (h : fstP c = some v) : v < 10 := by
  have := find_lt h
  have e : trnL.length = 10 := by decide +kernel
  omega
theorem cnts_lt (g : Nat → Nat) (a M S m : Nat) (hm : m ≤ 7) : cntsG g a M S m 0 0 < 2 ^ 31 := by
  have h1 := cM_lt g a M S m
  have h2 : 10 ^ m ≤ 10 ^ 7 := Nat.pow_le_pow_right (by omega) hm
  rw [cnts_cM]
  split <;> omega
theorem cM_lt7 (g : Nat → Nat) (a M S m : Nat) (hm : m ≤ 7) : cM g a M S m < 2 ^ 31 := by
  have h1 := cM_lt g a M S m
  have h2 : 10 ^ m ≤ 10 ^ 7 := Nat.pow_le_pow_right (by omega) hm
  omega
