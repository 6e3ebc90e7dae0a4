/-! A long's bytes. The rows uN .. uN_sk are the kit's (laws/BITS.to-paste), pasted. -/
def uN (x : Int64) : Nat := x.toUInt64.toNat
theorem uN_lt (x : Int64) : uN x < 18446744073709551616 := x.toUInt64.toNat_lt
theorem uN_inj {x y : Int64} (h : uN x = uN y) : x = y := congrArg UInt64.toInt64 (UInt64.toNat_inj.mp h)
theorem uN_shr (x : Int64) (s : UInt64) : uN (x.toUInt64 >>> s).toInt64 = uN x / 2 ^ (s.toNat % 64) := by
  show (x.toUInt64 >>> s).toNat = _
  rw [UInt64.toNat_shiftRight, Nat.shiftRight_eq_div_pow]
  rfl
theorem uN_sk (x : Int64) {k : Nat} (hk : k < 64) : uN (x.toUInt64 >>> ((nI k).toInt64.toUInt64 &&& Int64.toUInt64 63)).toInt64 = uN x / 2 ^ k := by
  have h : ((nI k).toInt64.toUInt64 &&& Int64.toUInt64 63).toNat % 64 = k := by
    rw [nI_l (by omega), UInt64.toNat_and]
    have e : (lN k).toUInt64.toNat = k % 2 ^ 64 := rfl
    have e2 : (Int64.toUInt64 63).toNat = 2 ^ 6 - 1 := by decide
    rw [e, e2, Nat.and_two_pow_sub_one_eq_mod]
    omega
  rw [uN_shr, h]
theorem uN_255 (x : Int64) : uN (x &&& 255) = uN x % 256 := by
  show (x.toUInt64 &&& Int64.toUInt64 255).toNat = _
  rw [UInt64.toNat_and]
  exact Nat.and_two_pow_sub_one_eq_mod _ 8
/-- byte i of a long -/
def byteN (x : Int64) (i : Nat) : Nat := uN x / 2 ^ (8 * i) % 256
theorem byteN_lt (x : Int64) (i : Nat) : byteN x i < 256 := Nat.mod_lt _ (by omega)
theorem uN_lN {m : Nat} (h : m < 2 ^ 64) : uN (lN m) = m := by
  show (lN m).toBitVec.toNat = m
  show (BitVec.ofNat 64 m).toNat = m
  rw [BitVec.toNat_ofNat]
  exact Nat.mod_eq_of_lt h
theorem byte_eq (x : Int64) {i : Nat} (hi : i < 8) : ((x.toUInt64 >>> ((8 * nI i).toInt64.toUInt64 &&& Int64.toUInt64 63)).toInt64 &&& 255).toInt32 = nI (byteN x i) := by
  have h8 : (8 : Int32) * nI i = nI (8 * i) := by rw [show (8 : Int32) = nI 8 from rfl, pk_mul]
  rw [h8]
  have h1 : uN ((x.toUInt64 >>> ((nI (8 * i)).toInt64.toUInt64 &&& Int64.toUInt64 63)).toInt64 &&& 255) = byteN x i := by
    rw [uN_255, uN_sk x (by omega)]
    rfl
  have h2 : (x.toUInt64 >>> ((nI (8 * i)).toInt64.toUInt64 &&& Int64.toUInt64 63)).toInt64 &&& 255 = lN (byteN x i) := by
    apply uN_inj
    have := byteN_lt x i
    rw [h1, uN_lN (by omega)]
  rw [h2, lN_i]
theorem s_Lc_byteOf {post : Int32 → Prop} {x : Int64} {i : Nat} (hi : i < 8) (h : post (nI (byteN x i))) : w_Lc_byteOf post x (nI i) := by
  unfold w_Lc_byteOf
  rw [byte_eq x hi]
  exact h
/-- q bytes behind the first k -/
def appB (f : Nat → Int32) (k q : Nat) (x : Int64) : Nat → Int32 := fun j => if k ≤ j ∧ j < k + q then nI (byteN x (j - k)) else f j
theorem appB_0 (f : Nat → Int32) (k : Nat) (x : Int64) : appB f k 0 x = f := by
  funext j
  unfold appB
  rw [if_neg (by omega)]
theorem appB_s (f : Nat → Int32) (k q : Nat) (x : Int64) : upd (appB f k q x) (k + q) (nI (byteN x q)) = appB f k (q + 1) x := by
  funext j
  unfold upd appB
  by_cases h : j = k + q
  · rw [if_pos h, if_pos (by omega), h, Nat.add_sub_cancel_left]
  · rw [if_neg h]
    by_cases h2 : k ≤ j ∧ j < k + q
    · rw [if_pos h2, if_pos (by omega)]
    · rw [if_neg h2, if_neg (by omega)]
theorem s_Lc_addBytes {post : Int32 → Int32 → (Nat → Int32) → Prop} {n k q : Nat} {f : Nat → Int32} {x : Int64} (hk : k ≤ n) (hn : n < 2 ^ 30) (hq : q ≤ 8) (h1 : k + q ≤ n → post (nI (k + q)) (nI (k + q)) (appB f k q x)) (h2 : ¬ k + q ≤ n → post (-1) (nI k) f) : w_Lc_addBytes post n (nI k) f (nI q) x := by
  unfold w_Lc_addBytes
  refine s_It_hasRoomFor hk hn (by omega) ?_
  by_cases hr : k + q ≤ n
  · rw [if_pos hr]
    refine ⟨fun _ => ⟨q + 1, ?_⟩, fun a => absurd a (by decide)⟩
    have main : ∀ (r i : Nat), i + r = q → w_Lc_addBytes_13 post n (nI q) x (r + 1) (nI (k + i)) (appB f k i x) (nI i) := by
      intro r
      induction r with
      | zero =>
        intro i hi
        unfold w_Lc_addBytes_13
        refine ⟨fun _ => ?_, fun a => absurd (nI_le (by omega) (by omega)) a⟩
        unfold w_It_count
        rw [show i = q by omega]
        exact h1 hr
      | succ r ih =>
        intro i hi
        unfold w_Lc_addBytes_13
        refine ⟨fun a => absurd a (nI_ge (by omega) (by omega)), fun _ => ?_⟩
        refine s_Lc_byteOf (by omega) ?_
        refine s_It_add (by omega) (by omega) ?_
        rw [appB_s, nI_1, show k + i + 1 = k + (i + 1) by omega]
        exact ih (i + 1) (by omega)
    have := main q 0 (by omega)
    rw [appB_0] at this
    exact this
  · rw [if_neg hr]
    exact ⟨fun a => absurd rfl a, fun _ => h2 hr⟩
/-- a number of bytes that is 1 .. 8 -/
theorem num8 {x : Int32} (h1 : ¬ x < 1) (h2 : x ≤ 8) : ∃ q : Nat, 1 ≤ q ∧ q ≤ 8 ∧ x = nI q := by
  rw [Int32.lt_iff_toInt_lt] at h1
  rw [Int32.le_iff_toInt_le] at h2
  have e1 : (1 : Int32).toInt = 1 := rfl
  have e8 : (8 : Int32).toInt = 8 := rfl
  obtain ⟨q, hq, rfl⟩ := nI_of (x := x) (by rw [Int32.lt_iff_toInt_lt, Int32.toInt_zero]; omega)
  rw [nI_toInt hq] at h1 h2
  exact ⟨q, by omega, by omega, rfl⟩
theorem s_Lc_write {post : Int32 → Int32 → (Nat → Int32) → Prop} {xp : String → Int32 → (Nat → Int32) → Prop} {k : Nat} {f : Nat → Int32} {x1 : Int32} {x2 : Int64} (hk : k ≤ 64)
    (h1 : x1 < 1 ∨ ¬ x1 ≤ 8 → xp "java/lang/IllegalArgumentException" (nI k) f)
    (h2 : ∀ q i : Nat, 1 ≤ q → q ≤ 8 → x1 = nI q → i < q → 128 < byteN x2 i → xp "java/lang/IllegalArgumentException" (nI k) f)
    (h3 : ∀ q : Nat, 1 ≤ q → q ≤ 8 → x1 = nI q → (∀ i, i < q → byteN x2 i ≤ 128) → k + q ≤ 64 → post (nI (k + q)) (nI (k + q)) (appB f k q x2))
    (h4 : ∀ q : Nat, 1 ≤ q → q ≤ 8 → x1 = nI q → (∀ i, i < q → byteN x2 i ≤ 128) → ¬ k + q ≤ 64 → post (-1) (nI k) f) : w_Lc_write post xp (nI k) f x1 x2 := by
  unfold w_Lc_write w_Lc_refuseByteCount
  refine ⟨fun a => h1 (Or.inl a), fun a => ⟨fun b => ?_, fun b => h1 (Or.inr b)⟩⟩
  obtain ⟨q, q1, q8, rfl⟩ := num8 a b
  have main : ∀ (r i : Nat), i + r = q → (∀ j, j < i → byteN x2 j ≤ 128) → w_Lc_write_7 post xp (nI k) f (nI q) x2 (r + 1) (nI i) := by
    intro r
    induction r with
    | zero =>
      intro i hi hb
      unfold w_Lc_write_7
      refine ⟨fun _ => ?_, fun a => absurd (nI_le (by omega) (by omega)) a⟩
      have hb' : ∀ j, j < q → byteN x2 j ≤ 128 := fun j hj => hb j (by omega)
      exact s_Lc_addBytes hk (by omega) q8 (fun z => h3 q q1 q8 rfl hb' z) (fun z => h4 q q1 q8 rfl hb' z)
    | succ r ih =>
      intro i hi hb
      unfold w_Lc_write_7
      refine ⟨fun a => absurd a (nI_ge (by omega) (by omega)), fun _ => ?_⟩
      refine s_Lc_byteOf (by omega) ?_
      have hlt := byteN_lt x2 i
      refine ⟨fun a => ?_, fun a => ?_⟩
      · rw [show (128 : Int32) = nI 128 from rfl, nI_leI (by omega) (by omega)] at a
        rw [nI_1]
        refine ih (i + 1) (by omega) (fun j hj => ?_)
        by_cases e : j = i
        · rw [e]; exact a
        · exact hb j (by omega)
      · rw [show (128 : Int32) = nI 128 from rfl, nI_leI (by omega) (by omega)] at a
        exact h2 q i q1 q8 rfl (by omega) (by omega)
  exact ⟨q + 1, main q 0 (by omega) (fun j hj => absurd hj (by omega))⟩
theorem s_Lc_put {post : Int32 → Int32 → (Nat → Int32) → Prop} {xp : String → Int32 → (Nat → Int32) → Prop} {k : Nat} {f : Nat → Int32} {x1 : Int32} {x2 : Int64} (hk : k ≤ 800)
    (h1 : x1 < 1 ∨ ¬ x1 ≤ 8 → xp "java/lang/IllegalArgumentException" (nI k) f)
    (h2 : ∀ q i : Nat, 1 ≤ q → q ≤ 8 → x1 = nI q → i < q → byteN x2 i = 0 → xp "java/lang/IllegalArgumentException" (nI k) f)
    (h3 : ∀ q : Nat, 1 ≤ q → q ≤ 8 → x1 = nI q → (∀ i, i < q → byteN x2 i ≠ 0) → k + q ≤ 800 → post (nI (k + q)) (nI (k + q)) (appB f k q x2))
    (h4 : ∀ q : Nat, 1 ≤ q → q ≤ 8 → x1 = nI q → (∀ i, i < q → byteN x2 i ≠ 0) → ¬ k + q ≤ 800 → post (-1) (nI k) f) : w_Lc_put post xp (nI k) f x1 x2 := by
  unfold w_Lc_put w_Lc_refuseByteCount
  refine ⟨fun a => h1 (Or.inl a), fun a => ⟨fun b => ?_, fun b => h1 (Or.inr b)⟩⟩
  obtain ⟨q, q1, q8, rfl⟩ := num8 a b
  have main : ∀ (r i : Nat), i + r = q → (∀ j, j < i → byteN x2 j ≠ 0) → w_Lc_put_7 post xp (nI k) f (nI q) x2 (r + 1) (nI i) := by
    intro r
    induction r with
    | zero =>
      intro i hi hb
      unfold w_Lc_put_7
      refine ⟨fun _ => ?_, fun a => absurd (nI_le (by omega) (by omega)) a⟩
      have hb' : ∀ j, j < q → byteN x2 j ≠ 0 := fun j hj => hb j (by omega)
      exact s_Lc_addBytes hk (by omega) q8 (fun z => h3 q q1 q8 rfl hb' z) (fun z => h4 q q1 q8 rfl hb' z)
    | succ r ih =>
      intro i hi hb
      unfold w_Lc_put_7
      refine ⟨fun a => absurd a (nI_ge (by omega) (by omega)), fun _ => ?_⟩
      refine s_Lc_byteOf (by omega) ?_
      have hlt := byteN_lt x2 i
      have e0 : nI (byteN x2 i) = 0 ↔ byteN x2 i = 0 := by
        rw [show (0 : Int32) = nI 0 from rfl, nI_eq (by omega) (by omega)]
      refine ⟨fun a => ?_, fun a => h2 q i q1 q8 rfl (by omega) (e0.mp a)⟩
      rw [nI_1]
      refine ih (i + 1) (by omega) (fun j hj => ?_)
      by_cases e : j = i
      · rw [e]; exact fun z => a (e0.mpr z)
      · exact hb j (by omega)
  exact ⟨q + 1, main q 0 (by omega) (fun j hj => absurd hj (by omega))⟩
