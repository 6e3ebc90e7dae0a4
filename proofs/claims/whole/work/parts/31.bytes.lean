/-! A long's bytes. The rows uN .. uN_sk are the kit's (laws/BITS.to-paste), pasted. -/
def uN (x : Int64) : Nat := x.toUInt64.toNat
theorem uN_lt (x : Int64) : uN x < 18446744073709551616 := x.toUInt64.toNat_lt
theorem uN_inj {x y : Int64} (h : uN x = uN y) : x = y := congrArg UInt64.toInt64 (UInt64.toNat_inj.mp h)
theorem uN_shr (x : Int64) (s : UInt64) : uN (x.toUInt64 >>> s).toInt64 = uN x / 2 ^ (s.toNat % 64) := by
  show (x.toUInt64 >>> s).toNat = _
  rw [UInt64.toNat_shiftRight, Nat.shiftRight_eq_div_pow]
  rfl
theorem uN_sk (x : Int64) {k : Nat} (hk : k < 64) : uN (x.toUInt64 >>> ((nI k).toInt64.toUInt64 &&& Int64.toUInt64 63)).toInt64 = uN x / 2 ^ k := by
  have h : ((nI k).toInt64.toUInt64 &&& Int64.toUInt64 63).toNat % 64 = k := by
    rw [nI_l (by omega), UInt64.toNat_and]
    have e : (lN k).toUInt64.toNat = k % 2 ^ 64 := rfl
    have e2 : (Int64.toUInt64 63).toNat = 2 ^ 6 - 1 := by decide
    rw [e, e2, Nat.and_two_pow_sub_one_eq_mod]
    omega
  rw [uN_shr, h]
theorem uN_255 (x : Int64) : uN (x &&& 255) = uN x % 256 := by
  show (x.toUInt64 &&& Int64.toUInt64 255).toNat = _
  rw [UInt64.toNat_and]
  exact Nat.and_two_pow_sub_one_eq_mod _ 8
/-- byte i of a long -/
def byteN (x : Int64) (i : Nat) : Nat := uN x / 2 ^ (8 * i) % 256
theorem byteN_lt (x : Int64) (i : Nat) : byteN x i < 256 := Nat.mod_lt _ (by omega)
theorem uN_lN {m : Nat} (h : m < 2 ^ 64) : uN (lN m) = m := by
  show (lN m).toBitVec.toNat = m
  show (BitVec.ofNat 64 m).toNat = m
  rw [BitVec.toNat_ofNat]
  exact Nat.mod_eq_of_lt h
theorem byte_eq (x : Int64) {i : Nat} (hi : i < 8) : ((x.toUInt64 >>> ((8 * nI i).toInt64.toUInt64 &&& Int64.toUInt64 63)).toInt64 &&& 255).toInt32 = nI (byteN x i) := by
  have h8 : (8 : Int32) * nI i = nI (8 * i) := by rw [show (8 : Int32) = nI 8 from rfl, pk_mul]
  rw [h8]
  have h1 : uN ((x.toUInt64 >>> ((nI (8 * i)).toInt64.toUInt64 &&& Int64.toUInt64 63)).toInt64 &&& 255) = byteN x i := by
    rw [uN_255, uN_sk x (by omega)]
    rfl
  have h2 : (x.toUInt64 >>> ((nI (8 * i)).toInt64.toUInt64 &&& Int64.toUInt64 63)).toInt64 &&& 255 = lN (byteN x i) := by
    apply uN_inj
    have := byteN_lt x i
    rw [h1, uN_lN (by omega)]
  rw [h2, lN_i]
theorem s_Lc_byteOf {post : Int32 → Prop} {x : Int64} {i : Nat} (hi : i < 8) (h : post (nI (byteN x i))) : w_Lc_byteOf post x (nI i) := by
  unfold w_Lc_byteOf
  rw [byte_eq x hi]
  exact h
/-- q bytes behind the first k -/
def appB (f : Nat → Int32) (k q : Nat) (x : Int64) : Nat → Int32 := fun j => if k ≤ j ∧ j < k + q then nI (byteN x (j - k)) else f j
theorem appB_0 (f : Nat → Int32) (k : Nat) (x : Int64) : appB f k 0 x = f := by
  funext j
  unfold appB
  rw [if_neg (by omega)]
theorem appB_s (f : Nat → Int32) (k q : Nat) (x : Int64) : upd (appB f k q x) (k + q) (nI (byteN x q)) = appB f k (q + 1) x := by
  funext j
  unfold upd appB
  by_cases h : j = k + q
  · rw [if_pos h, if_pos (by omega), h, Nat.add_sub_cancel_left]
  · rw [if_neg h]
    by_cases h2 : k ≤ j ∧ j < k + q
    · rw [if_pos h2, if_pos (by omega)]
    · rw [if_neg h2, if_neg (by omega)]
theorem s_Lc_addBytes {post : Int32 → Int32 → (Nat → Int32) → Prop} {n k q : Nat} {f : Nat → Int32} {x : Int64} (hk : k ≤ n) (hn : n < 2 ^ 30) (hq : q ≤ 8) (h1 : k + q ≤ n → post (nI (k + q)) (nI (k + q)) (appB f k q x)) (h2 : ¬ k + q ≤ n → post (-1) (nI k) f) : w_Lc_addBytes post n (nI k) f (nI q) x := by
  unfold w_Lc_addBytes
  refine s_It_hasRoomFor hk hn (by omega) ?_
  by_cases hr : k + q ≤ n
  · rw [if_pos hr]
    refine ⟨fun _ => ⟨q + 1, ?_⟩, fun a => absurd a (by decide)⟩
    have main : ∀ (r i : Nat), i + r = q → w_Lc_addBytes_13 post n (nI q) x (r + 1) (nI (k + i)) (appB f k i x) (nI i) := by
      intro r
      induction r with
      | zero =>
        intro i hi
        unfold w_Lc_addBytes_13
        refine ⟨fun _ => ?_, fun a => absurd (nI_le (by omega) (by omega)) a⟩
        unfold w_It_count
        rw [show i = q by omega]
        exact h1 hr
      | succ r ih =>
        intro i hi
        unfold w_Lc_addBytes_13
        refine ⟨fun a => absurd a (nI_ge (by omega) (by omega)), fun _ => ?_⟩
        refine s_Lc_byteOf (by omega) ?_
        refine s_It_add (by omega) (by omega) ?_
        rw [appB_s, nI_1, show k + i + 1 = k + (i + 1) by omega]
        exact ih (i + 1) (by omega)
    have := main q 0 (by omega)
    rw [appB_0] at this
    exact this
  · rw [if_neg hr]
    exact ⟨fun a => absurd rfl a, fun _ => h2 hr⟩
/-- a number of bytes that is 1 .. 8 -/
theorem num8 {x : Int32} (h1 : ¬ x < 1) (h2 : x ≤ 8) : ∃ q : Nat, 1 ≤ q ∧ q ≤ 8 ∧ x = nI q := by
  rw [Int32.lt_iff_toInt_lt] at h1
  rw [Int32.le_iff_toInt_le] at h2
  have e1 : (1 : Int32).toInt = 1 := rfl
  have e8 : (8 : Int32).toInt = 8 := rfl
  obtain ⟨q, hq, rfl⟩ := nI_of (x := x) (by rw [Int32.lt_iff_toInt_lt, Int32.toInt_zero]; omega)
  rw [nI_toInt hq] at h1 h2
  exact ⟨q, by omega, by omega, rfl⟩
theorem uN_cond (y : Int64) : y.toInt = (uN y : Int) ∨ y.toInt = (uN y : Int) - 18446744073709551616 := by
  have h : y.toInt = if 2 * y.toBitVec.toNat < 2 ^ 64 then (y.toBitVec.toNat : Int) else (y.toBitVec.toNat : Int) - (2 ^ 64 : Nat) := BitVec.toInt_eq_toNat_cond y.toBitVec
  have e : y.toBitVec.toNat = uN y := rfl
  rw [e] at h
  split at h
  · exact Or.inl h
  · exact Or.inr (by rw [h]; rfl)
theorem byte_shr (x y : Int64) (D : Nat) (hD : D = 1 ∨ D = 256 ∨ D = 65536 ∨ D = 16777216 ∨ D = 4294967296 ∨ D = 1099511627776 ∨ D = 281474976710656 ∨ D = 72057594037927936) (h : y.toInt = x.toInt / (D : Int)) : uN y % 256 = uN x / D % 256 := by
  have h1 := uN_cond x
  have h2 := uN_cond y
  have h3 := uN_lt x
  have h4 := uN_lt y
  rcases hD with rfl | rfl | rfl | rfl | rfl | rfl | rfl | rfl <;> omega
theorem l_shr (a s : Int64) (k : Nat) (hs : (s.toBitVec.smod 64).toNat = k) : (a >>> s).toInt = a.toInt / ((2 ^ k : Nat) : Int) := by
  show (a.toBitVec.sshiftRight (s.toBitVec.smod 64).toNat).toInt = _
  rw [hs, BitVec.toInt_sshiftRight, Int.shiftRight_eq_div_pow]
  rfl
theorem byte_eqM (x : Int64) {i : Nat} (hi : i < 8) : (x >>> ((8 * nI i).toInt64 &&& 63)) &&& 255 = lN (byteN x i) := by
  apply uN_inj
  have hl := byteN_lt x i
  rw [uN_255, uN_lN (by omega)]
  unfold byteN
  have h8 : i = 0 ∨ i = 1 ∨ i = 2 ∨ i = 3 ∨ i = 4 ∨ i = 5 ∨ i = 6 ∨ i = 7 := by omega
  rcases h8 with rfl | rfl | rfl | rfl | rfl | rfl | rfl | rfl
  · exact byte_shr x _ 1 (by omega) (l_shr x _ 0 (by decide))
  · exact byte_shr x _ 256 (by omega) (l_shr x _ 8 (by decide))
  · exact byte_shr x _ 65536 (by omega) (l_shr x _ 16 (by decide))
  · exact byte_shr x _ 16777216 (by omega) (l_shr x _ 24 (by decide))
  · exact byte_shr x _ 4294967296 (by omega) (l_shr x _ 32 (by decide))
  · exact byte_shr x _ 1099511627776 (by omega) (l_shr x _ 40 (by decide))
  · exact byte_shr x _ 281474976710656 (by omega) (l_shr x _ 48 (by decide))
  · exact byte_shr x _ 72057594037927936 (by omega) (l_shr x _ 56 (by decide))
theorem s_Lw_write {post : Int32 → Int32 → (Nat → Int32) → (Nat → Int64) → Prop} {k : Nat} {f : Nat → Int32} {o : Nat → Int64} {x1 : Int32} {x2 : Int64} (hk : k ≤ 64)
    (h1 : x1 < 1 ∨ ¬ x1 ≤ 8 → post 1 (nI k) f o)
    (h2 : ∀ q : Nat, 1 ≤ q → q ≤ 8 → x1 = nI q → (¬ ∀ i, i < q → byteN x2 i ≤ 128) → post 1 (nI k) f o)
    (h3 : ∀ q : Nat, 1 ≤ q → q ≤ 8 → x1 = nI q → (∀ i, i < q → byteN x2 i ≤ 128) → k + q ≤ 64 → post 0 (nI (k + q)) (appB f k q x2) (vp_updL o (0 : Int32).toNatClampNeg (nI (k + q)).toInt64))
    (h4 : ∀ q : Nat, 1 ≤ q → q ≤ 8 → x1 = nI q → (∀ i, i < q → byteN x2 i ≤ 128) → ¬ k + q ≤ 64 → post 0 (nI k) f (vp_updL o (0 : Int32).toNatClampNeg (-1 : Int32).toInt64)) : w_Lw_write post (nI k) f o x1 x2 := by
  unfold w_Lw_write
  by_cases c1 : x1 < 1
  · refine Or.inr (Or.inr ⟨fun _ => ⟨rfl, h1 (Or.inl c1)⟩, fun a => absurd c1 a⟩)
  by_cases c2 : x1 ≤ 8
  · obtain ⟨q, q1, q8, rfl⟩ := num8 c1 c2
    by_cases hall : ∀ i, i < q → byteN x2 i ≤ 128
    · refine Or.inl ⟨fun a => absurd a c1, fun _ => ⟨fun _ => ⟨q + 1, ?_⟩, fun a => absurd c2 a⟩⟩
      have main : ∀ (r i : Nat), i + r = q → w_Lc_write_7 (fun r1 s2 s3 => vp_in 0 1 ∧ post 0 s2 s3 (vp_updL o (0 : Int32).toNatClampNeg r1.toInt64)) (nI k) f (nI q) x2 (r + 1) (nI i) := by
        intro r
        induction r with
        | zero =>
          intro i hi
          unfold w_Lc_write_7
          refine ⟨fun _ => ?_, fun a => absurd (nI_le (by omega) (by omega)) a⟩
          exact s_Lc_addBytes hk (by omega) q8 (fun z => ⟨pk_in 0 1 (by omega), h3 q q1 q8 rfl hall z⟩) (fun z => ⟨pk_in 0 1 (by omega), h4 q q1 q8 rfl hall z⟩)
        | succ r ih =>
          intro i hi
          unfold w_Lc_write_7
          refine ⟨fun a => absurd a (nI_ge (by omega) (by omega)), fun _ => ?_⟩
          refine s_Lc_byteOf (by omega) ?_
          have hlt := byteN_lt x2 i
          have hi9 := hall i (by omega)
          rw [nI_1]
          exact pk_le (byteN x2 i) 128 (fun _ => ih (i + 1) (by omega)) (fun z => absurd z (by omega))
      exact main q 0 (by omega)
    · refine Or.inr (Or.inl ⟨fun a => absurd a c1, fun _ => ⟨fun _ => ⟨q + 1, ?_⟩, fun a => absurd c2 a⟩⟩)
      have hx := h2 q q1 q8 rfl hall
      have main : ∀ (r i : Nat), i + r = q → (∀ j, j < i → byteN x2 j ≤ 128) → wx_Lc_write_7 (fun E9 => E9 = "java/lang/IllegalArgumentException" ∧ post 1 (nI k) f o) (nI q) x2 (r + 1) (nI i) := by
        intro r
        induction r with
        | zero =>
          intro i hi hb
          exact absurd (fun j hj => hb j (by omega)) hall
        | succ r ih =>
          intro i hi hb
          unfold wx_Lc_write_7
          refine ⟨fun a => absurd a (nI_ge (by omega) (by omega)), fun _ => ?_⟩
          refine s_Lc_byteOf (by omega) ?_
          have hlt := byteN_lt x2 i
          rw [nI_1]
          exact pk_le (byteN x2 i) 128 (fun z => ih (i + 1) (by omega) (fun j hj => by
            by_cases e : j = i
            · rw [e]; exact z
            · exact hb j (by omega))) (fun _ => ⟨rfl, hx⟩)
      exact main q 0 (by omega) (fun j hj => absurd hj (by omega))
  · refine Or.inr (Or.inr ⟨fun a => absurd a c1, fun _ => ⟨fun a => absurd a c2, fun _ => ⟨rfl, h1 (Or.inr c2)⟩⟩⟩)
theorem s_Md_write {post : Int32 → Int32 → Int32 → (Nat → Int32) → Prop} {k : Nat} {f : Nat → Int32} {x1 : Int32} {x2 : Int64} (hk : k ≤ 64)
    (h1 : x1 < 1 ∨ ¬ x1 ≤ 8 → post 0 1 (nI k) f)
    (h2 : ∀ q : Nat, 1 ≤ q → q ≤ 8 → x1 = nI q → (¬ ∀ i, i < q → byteN x2 i ≤ 128) → post 0 1 (nI k) f)
    (h3 : ∀ q : Nat, 1 ≤ q → q ≤ 8 → x1 = nI q → (∀ i, i < q → byteN x2 i ≤ 128) → k + q ≤ 64 → post (nI (k + q)) 0 (nI (k + q)) (appB f k q x2))
    (h4 : ∀ q : Nat, 1 ≤ q → q ≤ 8 → x1 = nI q → (∀ i, i < q → byteN x2 i ≤ 128) → ¬ k + q ≤ 64 → post (-1) 0 (nI k) f) : w_Md_write post (nI k) f x1 x2 := by
  have bad : ∀ (n : Nat) (y : Int32), post 0 1 (nI k) f → w_Md_write_23 post (nI k) f x1 x2 (n + 1) 1 y := by
    intro n y hp
    unfold w_Md_write_23
    exact ⟨fun _ => ⟨fun a => absurd a (by decide), fun _ => hp⟩, fun _ => ⟨fun _ => ⟨fun a => absurd a (by decide), fun _ => hp⟩, fun a => absurd a (by decide)⟩⟩
  unfold w_Md_write
  refine ⟨fun a => ⟨1, bad 0 0 (h1 (Or.inl a))⟩, fun c1 => ⟨fun c2 => ?_, fun a => ⟨1, bad 0 0 (h1 (Or.inr a))⟩⟩⟩
  obtain ⟨q, q1, q8, rfl⟩ := num8 c1 c2
  have m94 : ∀ (r i : Nat), (∀ i, i < q → byteN x2 i ≤ 128) → k + q ≤ 64 → i + r = q → w_Md_write_94 post 0 (nI q) x2 (r + 1) (nI (k + i)) (appB f k i x2) (nI i) := by
    intro r
    induction r with
    | zero =>
      intro i hall hkq hi
      unfold w_Md_write_94
      refine ⟨fun _ => ?_, fun a => absurd (nI_le (by omega) (by omega)) a⟩
      rw [show i = q by omega]
      exact h3 q q1 q8 rfl hall hkq
    | succ r ih =>
      intro i hall hkq hi
      unfold w_Md_write_94
      refine ⟨fun a => absurd a (nI_ge (by omega) (by omega)), fun _ => ⟨pk_in (k + i) 64 (by omega), ?_⟩⟩
      rw [byte_eqM x2 (by omega), lN_i, nI_1, nI_1, nI_clamp (by omega), appB_s]
      exact ih (i + 1) hall hkq (by omega)
  have m23 : ∀ (r i : Nat), i + r = q → (∀ j, j < i → byteN x2 j ≤ 128) → w_Md_write_23 post (nI k) f (nI q) x2 (r + 2) 0 (nI i) := by
    intro r
    induction r with
    | zero =>
      intro i hi hb
      have hall : ∀ i, i < q → byteN x2 i ≤ 128 := fun j hj => hb j (by omega)
      unfold w_Md_write_23
      refine ⟨fun _ => ⟨fun _ => ?_, fun a => absurd (by decide) a⟩, fun a => absurd (nI_le (by omega) (by omega)) a⟩
      refine pk_le (k + q) 64 (fun z => ⟨q + 1, ?_⟩) (fun z => h4 q q1 q8 rfl hall (by omega)) (nI_add k q)
      have := m94 q 0 hall z (by omega)
      rw [appB_0] at this
      exact this
    | succ r ih =>
      intro i hi hb
      have hlt := byteN_lt x2 i
      unfold w_Md_write_23
      refine ⟨fun a => absurd a (nI_ge (by omega) (by omega)), fun _ => ⟨fun a => absurd rfl a, fun _ => ?_⟩⟩
      rw [byte_eqM x2 (by omega), show (128 : Int64) = lN 128 from rfl, lg_cmp_le, pk_lLE (by omega) (by omega), nI_1]
      refine ⟨fun z => ih (i + 1) (by omega) (fun j hj => ?_), fun z => bad _ _ (h2 q q1 q8 rfl (fun w => z (w i (by omega))))⟩
      by_cases e : j = i
      · rw [e]; exact z
      · exact hb j (by omega)
  exact ⟨q + 2, m23 q 0 (by omega) (fun j hj => absurd hj (by omega))⟩
theorem s_Lw_put {post : Int32 → Int32 → (Nat → Int32) → (Nat → Int64) → Prop} {k : Nat} {f : Nat → Int32} {o : Nat → Int64} {x1 : Int32} {x2 : Int64} (hk : k ≤ 800)
    (h1 : x1 < 1 ∨ ¬ x1 ≤ 8 → post 1 (nI k) f o)
    (h2 : ∀ q : Nat, 1 ≤ q → q ≤ 8 → x1 = nI q → (¬ ∀ i, i < q → ¬ byteN x2 i = 0) → post 1 (nI k) f o)
    (h3 : ∀ q : Nat, 1 ≤ q → q ≤ 8 → x1 = nI q → (∀ i, i < q → ¬ byteN x2 i = 0) → k + q ≤ 800 → post 0 (nI (k + q)) (appB f k q x2) (vp_updL o (0 : Int32).toNatClampNeg (nI (k + q)).toInt64))
    (h4 : ∀ q : Nat, 1 ≤ q → q ≤ 8 → x1 = nI q → (∀ i, i < q → ¬ byteN x2 i = 0) → ¬ k + q ≤ 800 → post 0 (nI k) f (vp_updL o (0 : Int32).toNatClampNeg (-1 : Int32).toInt64)) : w_Lw_put post (nI k) f o x1 x2 := by
  unfold w_Lw_put
  by_cases c1 : x1 < 1
  · refine Or.inr (Or.inr ⟨fun _ => ⟨rfl, h1 (Or.inl c1)⟩, fun a => absurd c1 a⟩)
  by_cases c2 : x1 ≤ 8
  · obtain ⟨q, q1, q8, rfl⟩ := num8 c1 c2
    by_cases hall : ∀ i, i < q → ¬ byteN x2 i = 0
    · refine Or.inl ⟨fun a => absurd a c1, fun _ => ⟨fun _ => ⟨q + 1, ?_⟩, fun a => absurd c2 a⟩⟩
      have main : ∀ (r i : Nat), i + r = q → w_Lc_put_7 (fun r1 s2 s3 => vp_in 0 1 ∧ post 0 s2 s3 (vp_updL o (0 : Int32).toNatClampNeg r1.toInt64)) (nI k) f (nI q) x2 (r + 1) (nI i) := by
        intro r
        induction r with
        | zero =>
          intro i hi
          unfold w_Lc_put_7
          refine ⟨fun _ => ?_, fun a => absurd (nI_le (by omega) (by omega)) a⟩
          exact s_Lc_addBytes hk (by omega) q8 (fun z => ⟨pk_in 0 1 (by omega), h3 q q1 q8 rfl hall z⟩) (fun z => ⟨pk_in 0 1 (by omega), h4 q q1 q8 rfl hall z⟩)
        | succ r ih =>
          intro i hi
          unfold w_Lc_put_7
          refine ⟨fun a => absurd a (nI_ge (by omega) (by omega)), fun _ => ?_⟩
          refine s_Lc_byteOf (by omega) ?_
          have hlt := byteN_lt x2 i
          have hi9 := hall i (by omega)
          rw [nI_1]
          exact ⟨fun _ => ih (i + 1) (by omega), fun z => absurd ((nI_eq (a := byteN x2 i) (b := 0) (by omega) (by omega)).mp z) hi9⟩
      exact main q 0 (by omega)
    · refine Or.inr (Or.inl ⟨fun a => absurd a c1, fun _ => ⟨fun _ => ⟨q + 1, ?_⟩, fun a => absurd c2 a⟩⟩)
      have hx := h2 q q1 q8 rfl hall
      have main : ∀ (r i : Nat), i + r = q → (∀ j, j < i → ¬ byteN x2 j = 0) → wx_Lc_put_7 (fun E9 => E9 = "java/lang/IllegalArgumentException" ∧ post 1 (nI k) f o) (nI q) x2 (r + 1) (nI i) := by
        intro r
        induction r with
        | zero =>
          intro i hi hb
          exact absurd (fun j hj => hb j (by omega)) hall
        | succ r ih =>
          intro i hi hb
          unfold wx_Lc_put_7
          refine ⟨fun a => absurd a (nI_ge (by omega) (by omega)), fun _ => ?_⟩
          refine s_Lc_byteOf (by omega) ?_
          have hlt := byteN_lt x2 i
          rw [nI_1]
          refine ⟨fun z => ih (i + 1) (by omega) (fun j hj => ?_), fun _ => ⟨rfl, hx⟩⟩
          by_cases e : j = i
          · rw [e]; exact fun w => z (by rw [w]; rfl)
          · exact hb j (by omega)
      exact main q 0 (by omega) (fun j hj => absurd hj (by omega))
  · refine Or.inr (Or.inr ⟨fun a => absurd a c1, fun _ => ⟨fun a => absurd a c2, fun _ => ⟨rfl, h1 (Or.inr c2)⟩⟩⟩)
theorem s_Md_put {post : Int32 → Int32 → Int32 → (Nat → Int32) → Prop} {k : Nat} {f : Nat → Int32} {x1 : Int32} {x2 : Int64} (hk : k ≤ 800)
    (h1 : x1 < 1 ∨ ¬ x1 ≤ 8 → post 0 1 (nI k) f)
    (h2 : ∀ q : Nat, 1 ≤ q → q ≤ 8 → x1 = nI q → (¬ ∀ i, i < q → ¬ byteN x2 i = 0) → post 0 1 (nI k) f)
    (h3 : ∀ q : Nat, 1 ≤ q → q ≤ 8 → x1 = nI q → (∀ i, i < q → ¬ byteN x2 i = 0) → k + q ≤ 800 → post (nI (k + q)) 0 (nI (k + q)) (appB f k q x2))
    (h4 : ∀ q : Nat, 1 ≤ q → q ≤ 8 → x1 = nI q → (∀ i, i < q → ¬ byteN x2 i = 0) → ¬ k + q ≤ 800 → post (-1) 0 (nI k) f) : w_Md_put post (nI k) f x1 x2 := by
  have bad : ∀ (n : Nat) (y : Int32), post 0 1 (nI k) f → w_Md_put_23 post (nI k) f x1 x2 (n + 1) 1 y := by
    intro n y hp
    unfold w_Md_put_23
    exact ⟨fun _ => ⟨fun a => absurd a (by decide), fun _ => hp⟩, fun _ => ⟨fun _ => ⟨fun a => absurd a (by decide), fun _ => hp⟩, fun a => absurd a (by decide)⟩⟩
  unfold w_Md_put
  refine ⟨fun a => ⟨1, bad 0 0 (h1 (Or.inl a))⟩, fun c1 => ⟨fun c2 => ?_, fun a => ⟨1, bad 0 0 (h1 (Or.inr a))⟩⟩⟩
  obtain ⟨q, q1, q8, rfl⟩ := num8 c1 c2
  have m94 : ∀ (r i : Nat), (∀ i, i < q → ¬ byteN x2 i = 0) → k + q ≤ 800 → i + r = q → w_Md_put_93 post 0 (nI q) x2 (r + 1) (nI (k + i)) (appB f k i x2) (nI i) := by
    intro r
    induction r with
    | zero =>
      intro i hall hkq hi
      unfold w_Md_put_93
      refine ⟨fun _ => ?_, fun a => absurd (nI_le (by omega) (by omega)) a⟩
      rw [show i = q by omega]
      exact h3 q q1 q8 rfl hall hkq
    | succ r ih =>
      intro i hall hkq hi
      unfold w_Md_put_93
      refine ⟨fun a => absurd a (nI_ge (by omega) (by omega)), fun _ => ⟨pk_in (k + i) 800 (by omega), ?_⟩⟩
      rw [byte_eqM x2 (by omega), lN_i, nI_1, nI_1, nI_clamp (by omega), appB_s]
      exact ih (i + 1) hall hkq (by omega)
  have m23 : ∀ (r i : Nat), i + r = q → (∀ j, j < i → ¬ byteN x2 j = 0) → w_Md_put_23 post (nI k) f (nI q) x2 (r + 2) 0 (nI i) := by
    intro r
    induction r with
    | zero =>
      intro i hi hb
      have hall : ∀ i, i < q → ¬ byteN x2 i = 0 := fun j hj => hb j (by omega)
      unfold w_Md_put_23
      refine ⟨fun _ => ⟨fun _ => ?_, fun a => absurd (by decide) a⟩, fun a => absurd (nI_le (by omega) (by omega)) a⟩
      refine pk_le (k + q) 800 (fun z => ⟨q + 1, ?_⟩) (fun z => h4 q q1 q8 rfl hall (by omega)) (nI_add k q)
      have := m94 q 0 hall z (by omega)
      rw [appB_0] at this
      exact this
    | succ r ih =>
      intro i hi hb
      have hlt := byteN_lt x2 i
      unfold w_Md_put_23
      refine ⟨fun a => absurd a (nI_ge (by omega) (by omega)), fun _ => ⟨fun a => absurd rfl a, fun _ => ?_⟩⟩
      rw [byte_eqM x2 (by omega), show (0 : Int64) = lN 0 from rfl, lg_cmp_eq, pk_lEQ (by omega) (by omega), nI_1]
      refine ⟨fun z => ih (i + 1) (by omega) (fun j hj => ?_), fun z => bad _ _ (h2 q q1 q8 rfl (fun w => w i (by omega) z))⟩
      by_cases e : j = i
      · rw [e]; exact z
      · exact hb j (by omega)
  exact ⟨q + 2, m23 q 0 (by omega) (fun j hj => absurd hj (by omega))⟩
