/-! The class's reader, in numbers: g the widths of the strip, k of them. -/
def okW (f : Nat → Int32) (k : Nat) (g : Nat → Nat) : Prop := ∀ j, j < k → f j = nI (g j) ∧ 1 ≤ g j ∧ g j ≤ 2000
def sumG (g : Nat → Nat) (a : Nat) : Nat → Nat
  | 0 => 0
  | m + 1 => sumG g a m + g (a + m)
theorem sumG_le {f : Nat → Int32} {g : Nat → Nat} {k a : Nat} (h : okW f k g) : ∀ m, a + m ≤ k → m ≤ sumG g a m ∧ sumG g a m ≤ 2000 * m := by
  intro m
  induction m with
  | zero => intro _; unfold sumG; omega
  | succ m ih =>
    intro hm
    have h1 := ih (by omega)
    have h2 := h (a + m) (by omega)
    unfold sumG
    omega
theorem s_Re_sumOf {post : Int32 → Prop} {f : Nat → Int32} {g : Nat → Nat} {k a m : Nat} (hk : k ≤ 800) (hg : okW f k g) (ham : a + m ≤ k) (h : post (nI (sumG g a m))) : w_Re_sumOf post (nI k) f (nI a) (nI m) := by
  have main : ∀ r i, i + r = m → w_Re_sumOf_5 post (nI k) f (nI a) (nI m) (r + 1) (nI (sumG g a i)) (nI i) := by
    intro r
    induction r with
    | zero =>
      intro i hi
      unfold w_Re_sumOf_5
      refine ⟨fun _ => ?_, fun a => absurd (nI_le (by omega) (by omega)) a⟩
      rw [show i = m by omega]
      exact h
    | succ r ih =>
      intro i hi
      unfold w_Re_sumOf_5
      refine ⟨fun a => absurd a (nI_ge (by omega) (by omega)), fun _ => ?_⟩
      rw [nI_add]
      refine s_It_at_in (by omega) hk (by omega) ?_
      rw [(hg (a + i) (by omega)).1, nI_add, nI_1]
      exact ih (i + 1) (by omega)
  unfold w_Re_sumOf
  exact ⟨m + 1, main m 0 (by omega)⟩
/-- what a width counts as -/
def cntW (M S w : Nat) : Nat := (2 * M * w + S) / (2 * S)
def cntsG (g : Nat → Nat) (a M S : Nat) : Nat → Nat → Nat → Nat
  | 0, _, acc => acc
  | r + 1, i, acc => if cntW M S (g (a + i)) < 1 then 0 else if cntW M S (g (a + i)) ≤ 4 then cntsG g a M S r (i + 1) (10 * acc + cntW M S (g (a + i))) else 0
theorem s_Re_countsOf {post : Int32 → Prop} {f : Nat → Int32} {g : Nat → Nat} {k a m M S : Nat} (hk : k ≤ 800) (hg : okW f k g) (ham : a + m ≤ k) (hM : M ≤ 100) (hS1 : 1 ≤ S) (hS : S ≤ 200000) (h : post (nI (cntsG g a M S m 0 0))) : w_Re_countsOf post (nI k) f (nI a) (nI m) (nI M) (nI S) := by
  have main : ∀ r i acc, i + r = m → post (nI (cntsG g a M S r i acc)) → w_Re_countsOf_14 post (nI k) f (nI a) (nI m) (nI M) (nI S) (r + 1) (nI acc) (nI i) := by
    intro r
    induction r with
    | zero =>
      intro i acc hi hp
      unfold w_Re_countsOf_14
      exact ⟨fun _ => hp, fun a => absurd (nI_le (by omega) (by omega)) a⟩
    | succ r ih =>
      intro i acc hi hp
      have hw := hg (a + i) (by omega)
      have hmul : 2 * M * g (a + i) ≤ 200 * 2000 := Nat.mul_le_mul (by omega) hw.2.2
      have hc : cntW M S (g (a + i)) ≤ 2 * M * g (a + i) + S := Nat.div_le_self _ _
      unfold cntsG at hp
      unfold w_Re_countsOf_14
      refine ⟨fun a => absurd a (nI_ge (by omega) (by omega)), fun _ => ?_⟩
      rw [nI_add]
      refine s_It_at_in (by omega) hk (by omega) ?_
      rw [hw.1, show (2 : Int32) = nI 2 from rfl, pk_mul, pk_mul, pk_mul, nI_add, pk_div (by omega) (by omega) (by omega), show (1 : Int32) = nI 1 from rfl, show (4 : Int32) = nI 4 from rfl, show (10 : Int32) = nI 10 from rfl, pk_mul, nI_add, nI_add]
      have hc' : (2 * M * g (a + i) + S) / (2 * S) = cntW M S (g (a + i)) := rfl
      rw [hc', nI_ltI (by omega) (by omega), nI_leI (by omega) (by omega)]
      refine ⟨nI_ne0 (by omega) (by omega), fun c1 => ?_, fun c1 => ⟨fun c2 => ?_, fun c2 => ?_⟩⟩
      · rw [if_pos c1] at hp
        exact hp
      · rw [if_neg c1, if_pos c2] at hp
        exact ih (i + 1) _ (by omega) hp
      · rw [if_neg c1, if_neg c2] at hp
        exact hp
  unfold w_Re_countsOf
  refine ⟨fun _ => ⟨m + 1, main m 0 0 (by omega) h⟩, fun a => absurd ?_ a⟩
  rw [show (1 : Int32) = nI 1 from rfl]
  exact nI_le hS1 (by omega)
/-- a place, -1 where there is none -/
def optI : Option Nat → Int32
  | none => -1
  | some v => nI v
theorem s_place {post : Int32 → Prop} {l : List Nat} {c N : Nat} (hN : l.length = N) (hl : N < 2 ^ 31) (hb : ∀ j, j < N → l.getD j 0 < 2 ^ 31) (hc : c < 2 ^ 31) (h : post (optI (l.findIdx? (fun x => x == c)))) : w_Wi_placeOf post N (tabL l) (nI c) := by
  subst hN
  refine s_Wi_placeOf hl (fun i hi e hj => ?_) (fun hj => ?_)
  · have e1 : l.findIdx? (fun x => x == c) = some i := by
      rw [List.findIdx?_eq_some_iff_getElem]
      refine ⟨hi, ?_, fun j hji => ?_⟩
      · have e2 : nI (l.getD i 0) = nI c := e
        rw [nI_eq (hb i hi) hc, getD_at hi] at e2
        simpa using e2
      · have e2 : ¬ nI (l.getD j 0) = nI c := hj j hji
        rw [nI_eq (hb j (by omega)) hc, getD_at (by omega)] at e2
        simpa using e2
    rw [e1] at h
    exact h
  · have e1 : l.findIdx? (fun x => x == c) = none := by
      rw [List.findIdx?_eq_none_iff]
      intro x hx
      obtain ⟨j, hj', e⟩ := List.getElem_of_mem hx
      have e2 : ¬ nI (l.getD j 0) = nI c := hj j hj'
      rw [nI_eq (hb j hj') hc, getD_at hj', e] at e2
      simpa using e2
    rw [e1] at h
    exact h
