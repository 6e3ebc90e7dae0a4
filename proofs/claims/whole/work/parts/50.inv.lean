/-! What both sides hold between two calls. -/
def tI (tc : Int32) (ft : Nat → Int32) (ml : Int32) (mt : Nat → Int32) : Prop := ∃ (n : Nat) (tx : Nat → Nat), tc = nI n ∧ ml = nI n ∧ n ≤ 64 ∧ okT ft n tx ∧ okT mt n tx
def rowG (R : List Nat) : Prop := R = [] ∨ ∃ R', R = R' ++ [106] ∧ ∀ x ∈ R', x ≤ 105
def wI (rc : Int32) (fr : Nat → Int32) (ms : Int32) (mr : Nat → Int32) : Prop := ∃ R : List Nat, rc = nI R.length ∧ ms = nI R.length ∧ R.length ≤ 99 ∧ isL fr R ∧ isL mr R ∧ rowG R
def sI (sc : Int32) (fs : Nat → Int32) (mw : Int32) (mst : Nat → Int32) : Prop := ∃ S : List Nat, sc = nI S.length ∧ mw = nI S.length ∧ S.length ≤ 800 ∧ isL fs S ∧ isL mst S ∧ okS S
def oI (rc : Int32) (ft : Nat → Int32) (mt : Int32) (sg : Nat → Int32) : Prop := ∃ T : List Nat, rc = nI T.length ∧ mt = nI T.length ∧ T.length ≤ 260 ∧ isL ft T ∧ isL sg T
def bI (fb mb : Int32) : Prop := fb = mb ∧ vz fb
def Iv (v_x_text_count : Int32) (f_x_text_items : Nat → Int32) (v_x_row_count : Int32) (f_x_row_items : Nat → Int32) (v_x_strip_count : Int32) (f_x_strip_items : Nat → Int32) (_f_x_packer_costs : Nat → Int32) (v_x_reader_fromBack : Int32) (_v_x_reader_set : Int32) (_v_x_reader_shifted : Int32) (v_x_reader_told_count : Int32) (f_x_reader_told_items : Nat → Int32) (_v_m_thrown : Int32) (v_m_length : Int32) (v_m_symbols : Int32) (v_m_widths : Int32) (v_m_told : Int32) (v_m_back : Int32) (_v_m_drafted : Int32) (f_m_text : Nat → Int32) (_f_m_least : Nat → Int32) (f_m_row : Nat → Int32) (f_m_strip : Nat → Int32) (_f_m_turned : Nat → Int32) (_f_m_found : Nat → Int32) (f_m_signs : Nat → Int32) (_f_m_draft : Nat → Int32) (_f_o : Nat → Int64) : Prop :=
  tI v_x_text_count f_x_text_items v_m_length f_m_text ∧ wI v_x_row_count f_x_row_items v_m_symbols f_m_row ∧ sI v_x_strip_count f_x_strip_items v_m_widths f_m_strip ∧ oI v_x_reader_told_count f_x_reader_told_items v_m_told f_m_signs ∧ bI v_x_reader_fromBack v_m_back
theorem isL_nil (f : Nat → Int32) : isL f [] := fun j hj => absurd hj (by simp)
theorem okS_nil : okS [] := fun x hx => by cases hx
theorem Iv_0 : Iv 0 (fun _ => 0) 0 (fun _ => 0) 0 (fun _ => 0) (fun _ => 0) 0 0 0 0 (fun _ => 0) 0 0 0 0 0 0 0 (fun _ => 0) (fun _ => 0) (fun _ => 0) (fun _ => 0) (fun _ => 0) (fun _ => 0) (fun _ => 0) (fun _ => 0) (fun _ => 0) :=
  ⟨⟨0, fun _ => 0, rfl, rfl, by omega, fun j hj => absurd hj (by omega), fun j hj => absurd hj (by omega)⟩, ⟨[], rfl, rfl, by simp, isL_nil _, isL_nil _, Or.inl rfl⟩, ⟨[], rfl, rfl, by simp, isL_nil _, isL_nil _, okS_nil⟩, ⟨[], rfl, rfl, by simp, isL_nil _, isL_nil _⟩, rfl, Or.inl rfl⟩
theorem vin1 {j L : Nat} (h : 4 * j + 4 ≤ L) (hL : L ≤ 2048) : vp_in (nI (4 * j) + 1) L := by
  rw [nI_1]
  exact pk_in (4 * j + 1) L (by omega)
theorem vin2 {j L : Nat} (h : 4 * j + 4 ≤ L) (hL : L ≤ 2048) : vp_in (nI (4 * j) + 2) L := by
  rw [show (2 : Int32) = nI 2 from rfl, nI_add]
  exact pk_in (4 * j + 2) L (by omega)
theorem vin3 {j L : Nat} (h : 4 * j + 4 ≤ L) (hL : L ≤ 2048) : vp_in (nI (4 * j) + 3) L := by
  rw [show (3 : Int32) = nI 3 from rfl, nI_add]
  exact pk_in (4 * j + 3) L (by omega)
theorem end_th {t : Int32} {K P : Prop} (ht : ¬ t = 0) (h : K) : (t = t → (¬ t = 0 → K) ∧ (t = 0 → P)) ∧ (¬ t = t → False) := ⟨fun _ => ⟨fun _ => h, fun z => absurd z ht⟩, fun z => z rfl⟩
theorem end_ok {o : Nat → Int64} {v : Int64} {K : Prop} (h : K) : ((0 : Int32) = 0 → (¬ (0 : Int32) = 0 → K) ∧ ((0 : Int32) = 0 → vp_in 0 1 ∧ (lg_cmp ((vp_updL o (0 : Int32).toNatClampNeg v) (0 : Int32).toNatClampNeg) v = 0 → K) ∧ (¬ lg_cmp ((vp_updL o (0 : Int32).toNatClampNeg v) (0 : Int32).toNatClampNeg) v = 0 → False))) ∧ (¬ (0 : Int32) = 0 → False) := by
  have e : (vp_updL o (0 : Int32).toNatClampNeg v) (0 : Int32).toNatClampNeg = v := by
    unfold vp_updL
    rw [if_pos rfl]
  rw [e]
  refine ⟨fun _ => ⟨fun _ => h, fun _ => ⟨pk_in 0 1 (by omega), fun _ => h, fun z => z ?_⟩⟩, fun z => z rfl⟩
  rw [lg_cmp_eq]
theorem s_Md_thrown {post : Int32 → Prop} {v : Int32} (h : post v) : w_Md_thrown post v := h
theorem bad_q {x : Int32} {q : Nat} (h : x < 1 ∨ ¬ x ≤ 8) (h1 : 1 ≤ q) (h8 : q ≤ 8) (e : x = nI q) : False := by
  subst e
  rcases h with h | h
  · rw [show (1 : Int32) = nI 1 from rfl, nI_ltI (by omega) (by omega)] at h
    omega
  · exact h (by rw [show (8 : Int32) = nI 8 from rfl]; exact nI_le (by omega) (by omega))
theorem same_q {x : Int32} {q q' : Nat} (h8 : q ≤ 8) (h8' : q' ≤ 8) (e : x = nI q) (e' : x = nI q') : q' = q := by
  rw [e] at e'
  exact ((nI_eq (by omega) (by omega)).mp e').symm
theorem tlSym_5 {tx : Nat → Nat} {n p s : Nat} (htx : ∀ j, j < n → tx j ≤ 128) (hp : p < n) (hpair : ¬ tx p = 128 → s = 2 → figB (tx p) ∧ p + 1 < n ∧ figB (tx (p + 1))) : ∀ x ∈ tlSym tx p s, x ≤ 105 := by
  have hc := htx p hp
  intro x hx
  unfold tlSym at hx
  by_cases c1 : tx p = 128
  · rw [if_pos c1] at hx
    simp at hx
    omega
  · rw [if_neg c1] at hx
    by_cases c2 : s = 2
    · rw [if_pos c2] at hx
      obtain ⟨⟨f1, f2⟩, -, f3, f4⟩ := hpair c1 c2
      simp at hx
      omega
    · rw [if_neg c2] at hx
      cases hv : symN s (tx p) with
      | some v =>
        rw [hv] at hx
        simp at hx
        have := symN_lt96 hv
        omega
      | none =>
        rw [hv] at hx
        simp at hx
        rcases hx with rfl | hx
        · omega
        · cases hw : symN (othN s) (tx p) with
          | none => rw [hw] at hx; simp at hx; omega
          | some v => rw [hw] at hx; simp at hx; have := symN_lt96 hw; omega
theorem emit_5 {tx : Nat → Nat} {n : Nat} {K : Nat → Nat → Nat} (hn : n ≤ 64) (h : Kok tx n K) (htx : ∀ j, j < n → tx j ≤ 128) : ∀ m p s, p ≤ n → s < 3 → ∀ x ∈ emitN tx n K m p s, x ≤ 105 := by
  intro m
  induction m with
  | zero => intro p s hp hs x hx; unfold emitN at hx; cases hx
  | succ m ih =>
    intro p s hp hs x hx
    unfold emitN at hx
    by_cases c1 : n ≤ p
    · rw [if_pos c1] at hx; cases hx
    · rw [if_neg c1] at hx
      obtain ⟨a1, a2, a3⟩ := nxtN_ok hn h (by omega) hs (p := p) (tx := tx)
      by_cases c2 : nxtN tx n K p s = s
      · rw [if_pos c2] at hx
        obtain ⟨b1, b2, b3, b4⟩ := tell_len hn h (show p < n by omega) hs (a2 c2)
        rcases List.mem_append.mp hx with hx | hx
        · exact tlSym_5 htx (by omega) b1 x hx
        · exact ih _ _ b2 hs x hx
      · rw [if_neg c2] at hx
        rcases List.mem_cons.mp hx with hx | hx
        · omega
        · exact ih _ _ hp a1 x hx
theorem rowN_G {tx : Nat → Nat} {n : Nat} {K : Nat → Nat → Nat} (hn : n ≤ 64) (h : Kok tx n K) (htx : ∀ j, j < n → tx j ≤ 128) : (rowN tx n K).length ≤ 99 ∧ rowG (rowN tx n K) := by
  have hb := bst_le hn h htx
  have hl := row0_len hn h htx
  refine ⟨?_, Or.inr ⟨row0 tx n K ++ [chkS (row0 tx n K)], rfl, fun x hx => ?_⟩⟩
  · unfold rowN
    rw [List.length_append, List.length_append, List.length_singleton, List.length_singleton]
    omega
  · rcases List.mem_append.mp hx with hx | hx
    · unfold row0 at hx
      rcases List.mem_cons.mp hx with hx | hx
      · have := bstN_lt K; omega
      · exact emit_5 hn h htx 99 0 (bstN K) (by omega) (bstN_lt K) x hx
    · rw [List.mem_singleton] at hx
      have : chkS (row0 tx n K) < 103 := Nat.mod_lt _ (by omega)
      omega
theorem okT_appB {ft : Nat → Int32} {n q : Nat} {tx : Nat → Nat} {x : Int64} (h : okT ft n tx) (hb : ∀ i, i < q → byteN x i ≤ 128) : okT (appB ft n q x) (n + q) (fun j => if j < n then tx j else byteN x (j - n)) := by
  intro j hj
  show appB ft n q x j = nI (if j < n then tx j else byteN x (j - n)) ∧ (if j < n then tx j else byteN x (j - n)) ≤ 128
  unfold appB
  by_cases c : j < n
  · rw [if_neg (by omega), if_pos c]
    exact h j c
  · rw [if_pos (by omega), if_neg c]
    exact ⟨rfl, hb _ (by omega)⟩
theorem okS_bytL {x : Int64} {q : Nat} (hb : ∀ i, i < q → ¬ byteN x i = 0) : okS (bytL x q) := by
  intro y hy
  unfold bytL at hy
  obtain ⟨i, hi, rfl⟩ := List.mem_map.mp hy
  have := byteN_lt x i
  have := hb i (List.mem_range.mp hi)
  omega
theorem okS_set {S : List Nat} {i v : Nat} (h : okS S) (h1 : 1 ≤ v) (h2 : v ≤ 2000) : okS (S.set i v) := by
  intro y hy
  rcases List.mem_or_eq_of_mem_set hy with q | q
  · exact h y q
  · rw [q]; exact ⟨h1, h2⟩
