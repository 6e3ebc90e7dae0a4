/-! The thirteen made: both sides. -/
def revF (w : Nat) : Nat := w % 10 * 1000 + w / 10 % 10 * 100 + w / 100 % 10 * 10 + w / 1000 % 10
theorem s_Wi_turned {post : Int32 → Prop} {w : Nat} (hw : w < 2 ^ 31) (h : post (nI (revF w))) : w_Wi_turned post (nI w) := by
  unfold w_Wi_turned
  rw [show (10 : Int32) = nI 10 from rfl, show (1000 : Int32) = nI 1000 from rfl, show (100 : Int32) = nI 100 from rfl, pk_rem hw (by omega) (by omega), pk_div hw (by omega) (by omega), pk_div hw (by omega) (by omega), pk_div hw (by omega) (by omega), pk_rem (by omega) (by omega) (by omega), pk_rem (by omega) (by omega) (by omega), pk_rem (by omega) (by omega) (by omega), pk_mul, pk_mul, pk_mul, nI_add, nI_add, nI_add]
  exact h
theorem s_Md_reversed {post : Int32 → Prop} {w : Nat} (hw : w < 10000) (h : post (nI (revF w))) : w_Md_reversed post (nI w) := by
  unfold w_Md_reversed
  rw [show (10 : Int32) = nI 10 from rfl, show (1000 : Int32) = nI 1000 from rfl, show (100 : Int32) = nI 100 from rfl, pk_rem (a := w) (by omega) (by omega) (by omega), pk_div (a := w) (by omega) (by omega) (by omega), pk_div (a := w) (by omega) (by omega) (by omega), pk_div (a := w) (by omega) (by omega) (by omega), pk_rem (by omega) (by omega) (by omega), pk_rem (by omega) (by omega) (by omega), pk_mul, pk_mul, pk_mul, nI_add, nI_add, nI_add]
  unfold revF at h
  rw [show w / 1000 % 10 = w / 1000 by omega] at h
  exact h
def trnB (a i : Nat) : Nat := trnL.getD a 0 / 2 ^ (6 - i) % 2
theorem bit_c : ((List.range 10).all fun a => (List.range 7).all fun i => decide ((nI (trnL.getD a 0) >>> ((6 - nI i) &&& 31)) &&& 1 = nI (trnB a i))) = true := by decide +kernel
theorem bit_m : ((List.range 10).all fun a => (List.range 6).all fun i => decide ((nI (trnL.getD a 0) >>> ((7 - nI (2 + i)) &&& 31)) &&& 1 = nI (trnB a (i + 1)))) = true := by decide +kernel
theorem bit_cL {a i : Nat} (ha : a < 10) (hi : i ≤ 6) : (nI (trnL.getD a 0) >>> ((6 - nI i) &&& 31)) &&& 1 = nI (trnB a i) := of_decide_eq_true (List.all_eq_true.mp (List.all_eq_true.mp bit_c a (List.mem_range.mpr ha)) i (List.mem_range.mpr (by omega)))
theorem bit_mL {a i : Nat} (ha : a < 10) (hi : i < 6) : (nI (trnL.getD a 0) >>> ((7 - nI (2 + i)) &&& 31)) &&& 1 = nI (trnB a (i + 1)) := of_decide_eq_true (List.all_eq_true.mp (List.all_eq_true.mp bit_m a (List.mem_range.mpr ha)) i (List.mem_range.mpr hi))
theorem trnB_lt (a i : Nat) : trnB a i < 2 := Nat.mod_lt _ (by omega)
theorem figL_pat : ((List.range 10).all fun x => patB (figL.getD x 0) 4 && patB (revF (figL.getD x 0)) 4 && decide (figL.getD x 0 < 10000)) = true := by decide +kernel
theorem fig_pat {x : Nat} (h : x < 10) : patB (figL.getD x 0) 4 = true ∧ patB (revF (figL.getD x 0)) 4 = true ∧ figL.getD x 0 < 10000 := by
  have := List.all_eq_true.mp figL_pat x (List.mem_range.mpr h)
  simp only [Bool.and_eq_true, decide_eq_true_eq] at this
  exact ⟨this.1.1, this.1.2, this.2⟩
/-- the figure at place i, 1 .. 12; its widths -/
def thiG (t i : Nat) : Nat := if i = 12 then chkN t else figN t i
theorem thiG_lt (t i : Nat) : thiG t i < 10 := by
  unfold thiG
  split
  · exact chkN_lt t
  · exact figN_lt t i
def thiP (t i : Nat) : Nat := if i ≤ 6 ∧ trnB (figN t 0) i = 1 then revF (figL.getD (thiG t i) 0) else figL.getD (thiG t i) 0
theorem thiP_pat (t i : Nat) : patB (thiP t i) 4 = true := by
  unfold thiP
  split
  · exact (fig_pat (thiG_lt t i)).2.1
  · exact (fig_pat (thiG_lt t i)).1
def thiA (md t : Nat) : Nat → List Nat
  | 0 => digW 111 3 md
  | i + 1 => thiA md t i ++ digW (thiP t (i + 1)) 4 md
def thiB (md t : Nat) : Nat → List Nat
  | 0 => thiA md t 6 ++ digW 11111 5 md
  | j + 1 => thiB md t j ++ digW (thiP t (7 + j)) 4 md
def thiS (md t : Nat) : List Nat := thiB md t 6 ++ digW 111 3 md
theorem thiA_len (md t : Nat) : ∀ i, (thiA md t i).length = 3 + 4 * i
  | 0 => digW_len _ _ _
  | i + 1 => by
    have := thiA_len md t i
    show (thiA md t i ++ digW (thiP t (i + 1)) 4 md).length = _
    rw [List.length_append, digW_len, this]
    omega
theorem thiB_len (md t : Nat) : ∀ i, (thiB md t i).length = 32 + 4 * i
  | 0 => by
    show (thiA md t 6 ++ digW 11111 5 md).length = _
    rw [List.length_append, digW_len, thiA_len]
  | i + 1 => by
    have := thiB_len md t i
    show (thiB md t i ++ digW (thiP t (7 + i)) 4 md).length = _
    rw [List.length_append, digW_len, this]
    omega
theorem thiS_len (md t : Nat) : (thiS md t).length = 59 := by
  unfold thiS
  rw [List.length_append, digW_len, thiB_len]
theorem okS_app {a b : List Nat} (ha : okS a) (hb : okS b) : okS (a ++ b) := by
  intro x hx
  rcases List.mem_append.mp hx with h | h
  · exact ha x h
  · exact hb x h
theorem thiS_ok {md t : Nat} (h1 : 1 ≤ md) (h50 : md ≤ 50) : okS (thiS md t) := by
  have h3 : okS (digW 111 3 md) := patB_ok (by decide +kernel) h1 h50
  have h5 : okS (digW 11111 5 md) := patB_ok (by decide +kernel) h1 h50
  have hA : ∀ i, okS (thiA md t i) := by
    intro i
    induction i with
    | zero => exact h3
    | succ i ih => exact okS_app ih (patB_ok (thiP_pat t (i + 1)) h1 h50)
  have hB : ∀ i, okS (thiB md t i) := by
    intro i
    induction i with
    | zero => exact okS_app (hA 6) h5
    | succ i ih => exact okS_app ih (patB_ok (thiP_pat t (7 + i)) h1 h50)
  exact okS_app (hB 6) h3
theorem s_Lc_thirteen {post : Int32 → Int32 → (Nat → Int32) → Prop} {t md : Nat} {c0 : Int32} {f : Nat → Int32} (ht : t ≤ 999999999999) (h1 : 1 ≤ md) (h50 : md ≤ 50) (h : ∀ f', isL f' (thiS md t) → post (nI (thiS md t).length) (nI (thiS md t).length) f') : w_Lc_thirteen post c0 f (lN t) (nI md) := by
  have e3 : patB 111 3 = true := by decide +kernel
  have e5 : patB 11111 5 = true := by decide +kernel
  have m113 : ∀ (r j : Nat) (f : Nat → Int32), j + r = 5 → isL f (thiB md t j) → w_Lc_thirteen_113 post (lN t) (nI md) (r + 1) (nI (thiB md t j).length) f (nI (7 + j)) := by
    intro r
    induction r with
    | zero =>
      intro j f hj hf
      unfold w_Lc_thirteen_113
      refine pk_le 12 (7 + j) (fun _ => ?_) (fun z => absurd z (by omega))
      refine s_Fi_checkOf (by omega) ?_
      refine s_Wi_entry (chkN_lt t) (by omega) ?_
      have ep : thiP t (7 + j) = figL.getD (chkN t) 0 := by
        unfold thiP thiG
        rw [if_neg (by omega), if_pos (by omega)]
      refine s_addW (w := figL.getD (chkN t) 0) (d := 4) (fig_pat (chkN_lt t)).1 hf (by rw [thiB_len]; omega) (fun f1 hf1 => ?_)
      have eb : thiB md t j ++ digW (figL.getD (chkN t) 0) 4 md = thiB md t 6 := by
        rw [← ep, show (6 : Nat) = j + 1 by omega]
        rfl
      rw [eb] at hf1 ⊢
      refine s_addW (w := 111) (d := 3) e3 hf1 (by rw [thiB_len]; omega) (fun f2 hf2 => ?_)
      exact s_It_count (h f2 hf2)
    | succ r ih =>
      intro j f hj hf
      unfold w_Lc_thirteen_113
      refine pk_le 12 (7 + j) (fun z => absurd z (by omega)) (fun _ => ?_)
      refine s_Fi_figureOf (by omega) (by omega) ?_
      refine s_Wi_entry (figN_lt t (7 + j)) (by omega) ?_
      have ep : thiP t (7 + j) = figL.getD (figN t (7 + j)) 0 := by
        unfold thiP thiG
        rw [if_neg (by omega), if_neg (by omega)]
      refine s_addW (w := figL.getD (figN t (7 + j)) 0) (d := 4) (fig_pat (figN_lt t (7 + j))).1 hf (by rw [thiB_len]; omega) (fun f1 hf1 => ?_)
      rw [← ep] at hf1 ⊢
      rw [nI_1]
      exact ih (j + 1) f1 (by omega) hf1
  have m36 : ∀ (r i : Nat) (f : Nat → Int32), i + r = 6 → isL f (thiA md t i) → w_Lc_thirteen_36 post (lN t) (nI md) (nI (trnL.getD (figN t 0) 0)) (r + 1) (nI (thiA md t i).length) f (nI (1 + i)) := by
    intro r
    induction r with
    | zero =>
      intro i f hi hf
      unfold w_Lc_thirteen_36
      refine pk_lt 6 (1 + i) (fun _ => ?_) (fun z => absurd z (by omega))
      refine s_addW (w := 11111) (d := 5) e5 hf (by rw [thiA_len]; omega) (fun f1 hf1 => ⟨6, ?_⟩)
      rw [show i = 6 by omega] at hf1 ⊢
      exact m113 5 0 f1 (by omega) hf1
    | succ r ih =>
      intro i f hi hf
      unfold w_Lc_thirteen_36
      refine pk_lt 6 (1 + i) (fun z => absurd z (by omega)) (fun _ => ?_)
      refine s_Fi_figureOf (by omega) (by omega) ?_
      refine s_Wi_entry (figN_lt t (1 + i)) (by omega) ?_
      have hb := trnB_lt (figN t 0) (1 + i)
      rw [bit_cL (figN_lt t 0) (by omega), nI_1]
      have eg : thiG t (i + 1) = figN t (1 + i) := by
        unfold thiG
        rw [if_neg (by omega), Nat.add_comm]
      refine And.symm (pk_eq (trnB (figN t 0) (1 + i)) 1 (fun c => ?_) (fun c => ?_))
      · have ep : thiP t (i + 1) = revF (figL.getD (figN t (1 + i)) 0) := by
          unfold thiP
          rw [if_pos ⟨by omega, by rw [Nat.add_comm]; exact c⟩, eg]
        refine s_Wi_turned (w := figL.getD (figN t (1 + i)) 0) (by have := (fig_pat (figN_lt t (1 + i))).2.2; omega) ?_
        refine s_addW (d := 4) (fig_pat (figN_lt t (1 + i))).2.1 hf (by rw [thiA_len]; omega) (fun f1 hf1 => ?_)
        rw [← ep] at hf1 ⊢
        exact ih (i + 1) f1 (by omega) hf1
      · have ep : thiP t (i + 1) = figL.getD (figN t (1 + i)) 0 := by
          unfold thiP
          rw [if_neg (fun z => c (by rw [Nat.add_comm]; exact z.2)), eg]
        refine s_addW (w := figL.getD (figN t (1 + i)) 0) (d := 4) (fig_pat (figN_lt t (1 + i))).1 hf (by rw [thiA_len]; omega) (fun f1 hf1 => ?_)
        rw [← ep] at hf1 ⊢
        exact ih (i + 1) f1 (by omega) hf1
  unfold w_Lc_thirteen
  refine s_refTw_ok ht (s_refMo_ok h1 h50 (s_It_empty ?_))
  refine s_Fi_figureOf (pl := 0) (by omega) (by omega) ?_
  refine s_Wi_entry (figN_lt t 0) (by omega) ?_
  refine s_addW (S := []) (w := 111) (d := 3) e3 (fun j hj => absurd hj (by simp)) (by simp) (fun f1 hf1 => ⟨7, ?_⟩)
  rw [List.nil_append] at hf1 ⊢
  exact m36 6 0 f1 (by omega) hf1
theorem s_Md_isTurned {post : Int32 → Prop} {a i : Nat} (ha : a < 10) (hi : i < 6) (h1 : trnB a (i + 1) = 1 → post 1) (h0 : ¬ trnB a (i + 1) = 1 → post 0) : w_Md_isTurned post (tabU trnL 10) (nI a) (nI (2 + i)) := by
  have hb := trnB_lt a (i + 1)
  unfold w_Md_isTurned
  rw [nI_clamp (by omega), tabU_at ha, bit_mL ha hi]
  exact ⟨pk_in a 10 (by omega), And.symm (pk_eq (trnB a (i + 1)) 1 h1 h0)⟩
theorem s_Md_thirteen {post : Int32 → Int32 → Int32 → (Nat → Int32) → Prop} {t md : Nat} {c0 : Int32} {f : Nat → Int32} (ht : t ≤ 999999999999) (h1 : 1 ≤ md) (h50 : md ≤ 50) (h : ∀ f', isL f' (thiS md t) → post (nI (thiS md t).length) 0 (nI (thiS md t).length) f') : w_Md_thirteen post c0 (tabU figL 10) (tabU trnL 10) f (lN t) (nI md) := by
  have e3 : patB 111 3 = true := by decide +kernel
  have e5 : patB 11111 5 = true := by decide +kernel
  have mR : ∀ (r j : Nat) (f : Nat → Int32), j + r = 6 → isL f (thiB md t j) → w_Md_thirteen_55 post 0 (tabU figL 10) (tabU trnL 10) (lN t) (nI md) (nI (chkN t)) (r + 1) (nI (thiB md t j).length) f (nI (8 + j)) := by
    intro r
    induction r with
    | zero =>
      intro j f hj hf
      unfold w_Md_thirteen_55
      refine pk_lt 13 (8 + j) (fun _ => ?_) (fun z => absurd z (by omega))
      rw [show j = 6 by omega] at hf ⊢
      exact s_lay (w := 111) (d := 3) e3 hf (by rw [thiB_len]; omega) (fun f2 hf2 => h f2 hf2)
    | succ r ih =>
      intro j f hj hf
      unfold w_Md_thirteen_55
      refine pk_lt 13 (8 + j) (fun z => absurd z (by omega)) (fun _ => ?_)
      refine And.symm (pk_eq (8 + j) 13 (fun c => ⟨pk_in (chkN t) 10 (by have := chkN_lt t; omega), pk_le 8 (8 + j) (fun _ => ?_) (fun z => absurd z (by omega))⟩) (fun c => ?_))
      · have ep : thiP t (7 + j) = figL.getD (chkN t) 0 := by
          unfold thiP thiG
          rw [if_neg (by omega), if_pos (by omega)]
        rw [nI_clamp (by have := chkN_lt t; omega), tabU_at (chkN_lt t), ← ep]
        refine s_lay (d := 4) (thiP_pat t (7 + j)) hf (by rw [thiB_len]; omega) (fun f1 hf1 => ?_)
        refine And.symm (pk_eq (8 + j) 7 (fun z => absurd z (by omega)) (fun _ => ?_))
        rw [nI_1]
        exact ih (j + 1) f1 (by omega) hf1
      · have ep : thiP t (7 + j) = figL.getD (figN t (7 + j)) 0 := by
          unfold thiP thiG
          rw [if_neg (by omega), if_neg (by omega)]
        refine s_Md_figure (by omega) (by omega) (by omega) ?_
        rw [show 8 + j - 1 = 7 + j by omega]
        have hf9 := figN_lt t (7 + j)
        refine ⟨pk_in (figN t (7 + j)) 10 (by omega), pk_le 8 (8 + j) (fun _ => ?_) (fun z => absurd z (by omega))⟩
        rw [nI_clamp (by omega), tabU_at hf9, ← ep]
        refine s_lay (d := 4) (thiP_pat t (7 + j)) hf (by rw [thiB_len]; omega) (fun f1 hf1 => ?_)
        refine And.symm (pk_eq (8 + j) 7 (fun z => absurd z (by omega)) (fun _ => ?_))
        rw [nI_1]
        exact ih (j + 1) f1 (by omega) hf1
  have mL : ∀ (r i : Nat) (f : Nat → Int32), i + r = 5 → isL f (thiA md t i) → w_Md_thirteen_55 post 0 (tabU figL 10) (tabU trnL 10) (lN t) (nI md) (nI (chkN t)) (r + 8) (nI (thiA md t i).length) f (nI (2 + i)) := by
    intro r
    induction r with
    | zero =>
      intro i f hi hf
      have i5 : i = 5 := by omega
      subst i5
      have hf9 := figN_lt t (1 + 5)
      have eg : thiG t (5 + 1) = figN t (1 + 5) := by
        unfold thiG
        rw [if_neg (by omega), Nat.add_comm]
      have fin : ∀ f1, isL f1 (thiA md t 6) → (¬ nI (2 + 5) = 7 → w_Md_thirteen_55 post 0 (tabU figL 10) (tabU trnL 10) (lN t) (nI md) (nI (chkN t)) 7 (nI (thiA md t 6).length) f1 (nI (2 + 5) + 1)) ∧ (nI (2 + 5) = 7 → w_Md_lay (fun s18 s19 => w_Md_thirteen_55 post 0 (tabU figL 10) (tabU trnL 10) (lN t) (nI md) (nI (chkN t)) 7 s18 s19 (nI (2 + 5) + 1)) (nI (thiA md t 6).length) f1 11111 5 (nI md)) := by
        intro f1 hf1
        refine And.symm (pk_eq (2 + 5) 7 (fun _ => ?_) (fun z => absurd rfl z))
        refine s_lay (w := 11111) (d := 5) e5 hf1 (by rw [thiA_len]; omega) (fun f2 hf2 => ?_)
        rw [nI_1]
        exact mR 6 0 f2 (by omega) hf2
      rw [show 0 + 8 = 7 + 1 from rfl]
      unfold w_Md_thirteen_55
      refine pk_lt 13 (2 + 5) (fun z => absurd z (by omega)) (fun _ => ?_)
      refine And.symm (pk_eq (2 + 5) 13 (fun z => absurd z (by omega)) (fun _ => ?_))
      refine s_Md_figure (by omega) (by omega) (by omega) ?_
      rw [show 2 + 5 - 1 = 1 + 5 from rfl]
      refine ⟨pk_in (figN t (1 + 5)) 10 (by omega), pk_le 8 (2 + 5) (fun z => absurd z (by omega)) (fun _ => ?_)⟩
      refine s_Md_figure (k := 1) (by omega) (by omega) (by omega) ?_
      rw [nI_clamp (by omega), tabU_at hf9]
      refine s_Md_isTurned (i := 5) (figN_lt t (1 - 1)) (by omega) (fun c => ?_) (fun c => ?_)
      · refine ⟨fun z => absurd z (by decide), fun _ => s_Md_reversed (fig_pat hf9).2.2 ?_⟩
        have ep : thiP t (5 + 1) = revF (figL.getD (figN t (1 + 5)) 0) := by
          unfold thiP
          rw [if_pos ⟨by omega, c⟩, eg]
        rw [← ep]
        exact s_lay (d := 4) (thiP_pat t (5 + 1)) hf (by rw [thiA_len]; omega) fin
      · refine ⟨fun _ => ?_, fun z => absurd rfl z⟩
        have ep : thiP t (5 + 1) = figL.getD (figN t (1 + 5)) 0 := by
          unfold thiP
          rw [if_neg (fun z => c z.2), eg]
        rw [← ep]
        exact s_lay (d := 4) (thiP_pat t (5 + 1)) hf (by rw [thiA_len]; omega) fin
    | succ r ih =>
      intro i f hi hf
      have hf9 := figN_lt t (1 + i)
      have eg : thiG t (i + 1) = figN t (1 + i) := by
        unfold thiG
        rw [if_neg (by omega), Nat.add_comm]
      have fin : ∀ f1, isL f1 (thiA md t (i + 1)) → (¬ nI (2 + i) = 7 → w_Md_thirteen_55 post 0 (tabU figL 10) (tabU trnL 10) (lN t) (nI md) (nI (chkN t)) (r + 8) (nI (thiA md t (i + 1)).length) f1 (nI (2 + i) + 1)) ∧ (nI (2 + i) = 7 → w_Md_lay (fun s18 s19 => w_Md_thirteen_55 post 0 (tabU figL 10) (tabU trnL 10) (lN t) (nI md) (nI (chkN t)) (r + 8) s18 s19 (nI (2 + i) + 1)) (nI (thiA md t (i + 1)).length) f1 11111 5 (nI md)) := by
        intro f1 hf1
        refine And.symm (pk_eq (2 + i) 7 (fun z => absurd z (by omega)) (fun _ => ?_))
        rw [nI_1]
        exact ih (i + 1) f1 (by omega) hf1
      rw [show r + 1 + 8 = (r + 8) + 1 by omega]
      unfold w_Md_thirteen_55
      refine pk_lt 13 (2 + i) (fun z => absurd z (by omega)) (fun _ => ?_)
      refine And.symm (pk_eq (2 + i) 13 (fun z => absurd z (by omega)) (fun _ => ?_))
      refine s_Md_figure (by omega) (by omega) (by omega) ?_
      rw [show 2 + i - 1 = 1 + i by omega]
      refine ⟨pk_in (figN t (1 + i)) 10 (by omega), pk_le 8 (2 + i) (fun z => absurd z (by omega)) (fun _ => ?_)⟩
      refine s_Md_figure (k := 1) (by omega) (by omega) (by omega) ?_
      rw [nI_clamp (by omega), tabU_at hf9]
      refine s_Md_isTurned (i := i) (figN_lt t (1 - 1)) (by omega) (fun c => ?_) (fun c => ?_)
      · refine ⟨fun z => absurd z (by decide), fun _ => s_Md_reversed (fig_pat hf9).2.2 ?_⟩
        have ep : thiP t (i + 1) = revF (figL.getD (figN t (1 + i)) 0) := by
          unfold thiP
          rw [if_pos ⟨by omega, c⟩, eg]
        rw [← ep]
        exact s_lay (d := 4) (thiP_pat t (i + 1)) hf (by rw [thiA_len]; omega) fin
      · refine ⟨fun _ => ?_, fun z => absurd rfl z⟩
        have ep : thiP t (i + 1) = figL.getD (figN t (1 + i)) 0 := by
          unfold thiP
          rw [if_neg (fun z => c z.2), eg]
        rw [← ep]
        exact s_lay (d := 4) (thiP_pat t (i + 1)) hf (by rw [thiA_len]; omega) fin
  unfold w_Md_thirteen
  refine s_noTw_ok ht ⟨fun a => absurd rfl a, fun _ => s_noMo_ok h1 h50 ⟨fun _ => s_Md_checkFigure ht ?_, fun a => absurd rfl a⟩⟩
  refine s_lay (S := []) (w := 111) (d := 3) e3 (fun j hj => absurd hj (by simp)) (by simp) (fun f1 hf1 => ⟨13, ?_⟩)
  rw [List.nil_append] at hf1 ⊢
  exact mL 5 0 f1 (by omega) hf1
