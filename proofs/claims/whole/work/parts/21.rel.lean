theorem wb_tb (n : Nat) : (lN n).toBitVec = BitVec.ofNat 64 n := rfl
theorem wb_inj {a b : Int64} (h : a.toBitVec = b.toBitVec) : a = b := Int64.toBitVec_inj.mp h
theorem wb_tn {n : Nat} (h : n < 2 ^ 64) : (lN n).toBitVec.toNat = n := by rw [wb_tb, BitVec.toNat_ofNat, Nat.mod_eq_of_lt h]
theorem wb_of (x : Int64) : ∃ n, n < 2 ^ 64 ∧ x = lN n := ⟨x.toBitVec.toNat, x.toBitVec.isLt, wb_inj (by rw [wb_tb]; simp)⟩
theorem wb_cu : ∀ k, k < 64 → ((nI k).toInt64.toUInt64 &&& Int64.toUInt64 63) = UInt64.ofNat k := by decide +kernel
theorem wb_shr {n k : Nat} (hn : n < 2 ^ 64) (hk : k < 64) : ((lN n).toUInt64 >>> ((nI k).toInt64.toUInt64 &&& Int64.toUInt64 63)).toInt64 = lN (n / 2 ^ k) := by
  rw [wb_cu k hk]
  apply wb_inj
  apply BitVec.eq_of_toNat_eq
  show ((lN n).toUInt64 >>> UInt64.ofNat k).toNat = (BitVec.ofNat 64 _).toNat
  have h1 : (UInt64.ofNat k).toNat = k := by
    show (BitVec.ofNat 64 k).toNat = k
    rw [BitVec.toNat_ofNat, Nat.mod_eq_of_lt (by omega)]
  have h2 : (lN n).toUInt64.toNat = n := wb_tn hn
  rw [UInt64.toNat_shiftRight, h1, h2, Nat.mod_eq_of_lt hk, Nat.shiftRight_eq_div_pow, BitVec.toNat_ofNat, Nat.mod_eq_of_lt (Nat.lt_of_le_of_lt (Nat.div_le_self _ _) hn)]
/-! the class's state beside the reference's -/
def z_wl (cn : Nat → Nat) (a v a' : Nat → Nat → Int32) : Prop := ∀ w, w < 4 → cn w ≤ 8 ∧ a 11 w = nI (cn w) ∧ a' 9 w = nI (cn w) ∧ (∀ j, j < cn w → a' 11 (8 * w + j) = v w j) ∧ (∀ i j, i < j → j < cn w → v w i ≠ v w j) ∧ (cn w = 0 → a 12 w = -1) ∧ (0 < cn w → a' 10 (8 * w + cn w - 1) = a 12 w)
def z_R (n sc d : Nat) (cn : Nat → Nat) (a : Nat → Nat → Int32) (b : Nat → Nat → Int64) (v a' : Nat → Nat → Int32) (b' : Nat → Nat → Int64) : Prop :=
  z_bd n sc a b ∧ d ≤ 400 ∧ a 0 3 = nI sc ∧ a 0 4 = nI d ∧ z_eqa n a a' ∧ z_eqb b b' ∧ z_wt n d b ∧ (-1 ≤ (b 0 1).toInt ∧ -1 ≤ (b 0 2).toInt) ∧ z_wl cn a v a'
def z_RE (n : Nat) (a : Nat → Nat → Int32) (b : Nat → Nat → Int64) (v a' : Nat → Nat → Int32) (b' : Nat → Nat → Int64) : Prop := ∃ (sc d : Nat) (cn : Nat → Nat), z_R n sc d cn a b v a' b'
theorem m_parts_pt {x : Int32} (h : m_parts x = true) : z_pt x := by
  unfold m_parts at h
  rw [m_wi, m_i2l] at h
  have e1 : (0 : Int64).toInt = 0 := by decide
  have e2 : (1000 : Int64).toInt = 1000 := by decide
  rw [e1, e2] at h
  exact h
theorem m_mil {x : Int32} (h : m_within x.toInt64 0 1000000 = true) : 0 ≤ x.toInt ∧ x.toInt ≤ 1000000 := by
  rw [m_wi, m_i2l] at h
  have e1 : (0 : Int64).toInt = 0 := by decide
  have e2 : (1000000 : Int64).toInt = 1000000 := by decide
  rw [e1, e2] at h
  exact h
theorem q_cover {n sc d : Nat} {cn : Nat → Nat} {a a' : Nat → Nat → Int32} {b b' : Nat → Nat → Int64} {v : Nat → Nat → Int32} {x r r' : Int32} {u : zS} {u' : zT} (hR : z_R n sc d cn a b v a' b') (h1 : r = zb (m_parts x) ∧ u = if m_parts x = true then (va_up a 0 (upd (a 0) 0 x), b, v) else (a, b, v)) (h2 : r' = zb (m_parts x) ∧ u' = if m_parts x = true then (va_up a' 0 (upd (a' 0) 0 x), b') else (a', b')) : r = r' ∧ z_RE n u.1 u.2.1 u.2.2 u'.1 u'.2 := by
  obtain ⟨rfl, hu⟩ := h1
  obtain ⟨rfl, hu'⟩ := h2
  refine ⟨rfl, ?_⟩
  by_cases hp : m_parts x = true
  · rw [if_pos hp] at hu hu'
    subst hu; subst hu'
    obtain ⟨⟨hn, hs, c0, c1, c2, hb⟩, hd4, hsc, hd, ⟨a00, a01, a02, ha⟩, hR⟩ := hR
    exact ⟨sc, d, cn, ⟨hn, hs, (m_parts_pt hp), c1, c2, hb⟩, hd4, hsc, hd, ⟨rfl, a01, a02, ha⟩, hR⟩
  · rw [if_neg hp] at hu hu'
    subst hu; subst hu'
    exact ⟨sc, d, cn, hR⟩
theorem q_drain {n sc d : Nat} {cn : Nat → Nat} {a a' : Nat → Nat → Int32} {b b' : Nat → Nat → Int64} {v : Nat → Nat → Int32} {x r r' : Int32} {u : zS} {u' : zT} (hR : z_R n sc d cn a b v a' b') (h1 : r = zb (m_parts x) ∧ u = if m_parts x = true then (va_up a 0 (upd (a 0) 1 x), b, v) else (a, b, v)) (h2 : r' = zb (m_parts x) ∧ u' = if m_parts x = true then (va_up a' 0 (upd (a' 0) 1 x), b') else (a', b')) : r = r' ∧ z_RE n u.1 u.2.1 u.2.2 u'.1 u'.2 := by
  obtain ⟨rfl, hu⟩ := h1
  obtain ⟨rfl, hu'⟩ := h2
  refine ⟨rfl, ?_⟩
  by_cases hp : m_parts x = true
  · rw [if_pos hp] at hu hu'
    subst hu; subst hu'
    obtain ⟨⟨hn, hs, c0, c1, c2, hb⟩, hd4, hsc, hd, ⟨a00, a01, a02, ha⟩, hR⟩ := hR
    exact ⟨sc, d, cn, ⟨hn, hs, c0, (m_parts_pt hp), c2, hb⟩, hd4, hsc, hd, ⟨a00, rfl, a02, ha⟩, hR⟩
  · rw [if_neg hp] at hu hu'
    subst hu; subst hu'
    exact ⟨sc, d, cn, hR⟩
theorem q_back {n sc d : Nat} {cn : Nat → Nat} {a a' : Nat → Nat → Int32} {b b' : Nat → Nat → Int64} {v : Nat → Nat → Int32} {x r r' : Int32} {u : zS} {u' : zT} (hR : z_R n sc d cn a b v a' b') (h1 : r = zb (m_parts x) ∧ u = if m_parts x = true then (va_up a 0 (upd (a 0) 2 x), b, v) else (a, b, v)) (h2 : r' = zb (m_parts x) ∧ u' = if m_parts x = true then (va_up a' 0 (upd (a' 0) 2 x), b') else (a', b')) : r = r' ∧ z_RE n u.1 u.2.1 u.2.2 u'.1 u'.2 := by
  obtain ⟨rfl, hu⟩ := h1
  obtain ⟨rfl, hu'⟩ := h2
  refine ⟨rfl, ?_⟩
  by_cases hp : m_parts x = true
  · rw [if_pos hp] at hu hu'
    subst hu; subst hu'
    obtain ⟨⟨hn, hs, c0, c1, c2, hb⟩, hd4, hsc, hd, ⟨a00, a01, a02, ha⟩, hR⟩ := hR
    exact ⟨sc, d, cn, ⟨hn, hs, c0, c1, (m_parts_pt hp), hb⟩, hd4, hsc, hd, ⟨a00, a01, rfl, ha⟩, hR⟩
  · rw [if_neg hp] at hu hu'
    subst hu; subst hu'
    exact ⟨sc, d, cn, hR⟩
theorem q_tank {n sc d : Nat} {cn : Nat → Nat} {a a' : Nat → Nat → Int32} {b b' : Nat → Nat → Int64} {v : Nat → Nat → Int32} {x : Int64} {r r' : Int32} {u : zS} {u' : zT} (hR : z_R n sc d cn a b v a' b') (h1 : r = zb (m_within x 0 1000000000) ∧ u = if m_within x 0 1000000000 = true then (a, va_up b 0 (vp_updL (b 0) 0 x), v) else (a, b, v)) (h2 : r' = zb (m_within x 0 1000000000) ∧ u' = if m_within x 0 1000000000 = true then (a', va_up b' 0 (vp_updL (b' 0) 0 x)) else (a', b')) : r = r' ∧ z_RE n u.1 u.2.1 u.2.2 u'.1 u'.2 := by
  obtain ⟨rfl, hu⟩ := h1
  obtain ⟨rfl, hu'⟩ := h2
  refine ⟨rfl, ?_⟩
  by_cases hp : m_within x 0 1000000000 = true
  · rw [if_pos hp] at hu hu'
    subst hu; subst hu'
    rw [m_wi] at hp
    have e1 : (0 : Int64).toInt = 0 := by decide
    have e2 : (1000000000 : Int64).toInt = 1000000000 := by decide
    rw [e1, e2] at hp
    obtain ⟨⟨hn, hs, c0, c1, c2, -, hb⟩, hd4, hsc, hd, ha, ⟨-, b1, b2, hbb⟩, hR⟩ := hR
    exact ⟨sc, d, cn, ⟨hn, hs, c0, c1, c2, hp, hb⟩, hd4, hsc, hd, ha, ⟨rfl, b1, b2, hbb⟩, hR⟩
  · rw [if_neg hp] at hu hu'
    subst hu; subst hu'
    exact ⟨sc, d, cn, hR⟩
theorem q_limit {n sc d : Nat} {cn : Nat → Nat} {a a' : Nat → Nat → Int32} {b b' : Nat → Nat → Int64} {v : Nat → Nat → Int32} {x y : Int64} {r r' : Int32} {u : zS} {u' : zT} (hR : z_R n sc d cn a b v a' b') (h1 : r = zb (m_within x (-1) 1000000000 && m_within y (-1) 1000000000) ∧ u = if (m_within x (-1) 1000000000 && m_within y (-1) 1000000000) = true then (a, va_up b 0 (vp_updL (vp_updL (b 0) 1 x) 2 y), v) else (a, b, v)) (h2 : r' = zb (m_within x (-1) 1000000000 && m_within y (-1) 1000000000) ∧ u' = if (m_within x (-1) 1000000000 && m_within y (-1) 1000000000) = true then (a', va_up b' 0 (vp_updL (vp_updL (b' 0) 1 x) 2 y)) else (a', b')) : r = r' ∧ z_RE n u.1 u.2.1 u.2.2 u'.1 u'.2 := by
  obtain ⟨rfl, hu⟩ := h1
  obtain ⟨rfl, hu'⟩ := h2
  refine ⟨rfl, ?_⟩
  by_cases hp : (m_within x (-1) 1000000000 && m_within y (-1) 1000000000) = true
  · rw [if_pos hp] at hu hu'
    subst hu; subst hu'
    rw [Bool.and_eq_true, m_wi, m_wi] at hp
    have e1 : (-1 : Int64).toInt = -1 := by decide
    rw [e1] at hp
    obtain ⟨hbd, hd4, hsc, hd, ha, ⟨b0, -, -, hbb⟩, hw, -, hR⟩ := hR
    exact ⟨sc, d, cn, hbd, hd4, hsc, hd, ha, ⟨b0, rfl, rfl, hbb⟩, hw, ⟨hp.1.1, hp.2.1⟩, hR⟩
  · rw [if_neg hp] at hu hu'
    subst hu; subst hu'
    exact ⟨sc, d, cn, hR⟩
theorem q_layer {n sc d : Nat} {cn : Nat → Nat} {a a' : Nat → Nat → Int32} {b b' : Nat → Nat → Int64} {v : Nat → Nat → Int32} {x y z r r' : Int32} {u : zS} {u' : zT} (hR : z_R n sc d cn a b v a' b') (h1 : r = zb (m_isLayer n x && m_within y.toInt64 0 1000000 && m_parts z) ∧ u = if (m_isLayer n x && m_within y.toInt64 0 1000000 && m_parts z) = true then (va_up (va_up a 2 (upd (a 2) x.toNatClampNeg y)) 3 (upd (a 3) x.toNatClampNeg z), b, v) else (a, b, v)) (h2 : r' = zb (m_isLayer n x && m_within y.toInt64 0 1000000 && m_parts z) ∧ u' = if (m_isLayer n x && m_within y.toInt64 0 1000000 && m_parts z) = true then (va_up (va_up a' 2 (upd (a' 2) x.toNatClampNeg y)) 3 (upd (a' 3) x.toNatClampNeg z), b') else (a', b')) : r = r' ∧ z_RE n u.1 u.2.1 u.2.2 u'.1 u'.2 := by
  obtain ⟨rfl, hu⟩ := h1
  obtain ⟨rfl, hu'⟩ := h2
  refine ⟨rfl, ?_⟩
  by_cases hp : (m_isLayer n x && m_within y.toInt64 0 1000000 && m_parts z) = true
  · rw [if_pos hp] at hu hu'
    subst hu; subst hu'
    rw [Bool.and_eq_true, Bool.and_eq_true] at hp
    have hy := m_mil hp.1.2
    have hz := m_parts_pt hp.2
    obtain ⟨⟨hn, hs, c0, c1, c2, rm, h2, h3, hb⟩, hd4, hsc, hd, ⟨a00, a01, a02, a03, a04, a05, a2, a3, ha⟩, hR⟩ := hR
    refine ⟨sc, d, cn, ⟨hn, hs, c0, c1, c2, rm, ?_, ?_, hb⟩, hd4, hsc, hd, ⟨a00, a01, a02, a03, a04, a05, ?_, ?_, ha⟩, hR⟩
    · intro k hk
      show 0 ≤ (upd (a 2) x.toNatClampNeg y k).toInt ∧ (upd (a 2) x.toNatClampNeg y k).toInt ≤ 1000000
      by_cases e : k = x.toNatClampNeg
      · rw [e, pk_us]; exact hy
      · rw [pk_un e]; exact h2 k hk
    · intro k hk
      show z_pt (upd (a 3) x.toNatClampNeg z k)
      by_cases e : k = x.toNatClampNeg
      · rw [e, pk_us]; exact hz
      · rw [pk_un e]; exact h3 k hk
    · show upd (a' 2) x.toNatClampNeg y = upd (a 2) x.toNatClampNeg y
      rw [a2]
    · intro k hk
      show upd (a' 3) x.toNatClampNeg z k = upd (a 3) x.toNatClampNeg z k
      by_cases e : k = x.toNatClampNeg
      · rw [e, pk_us, pk_us]
      · rw [pk_un e, pk_un e]; exact a3 k hk
  · rw [if_neg hp] at hu hu'
    subst hu; subst hu'
    exact ⟨sc, d, cn, hR⟩
theorem q_stage {n sc d : Nat} {cn : Nat → Nat} {a a' : Nat → Nat → Int32} {b b' : Nat → Nat → Int64} {v : Nat → Nat → Int32} {x y r r' : Int32} {u : zS} {u' : zT} (hR : z_R n sc d cn a b v a' b') (h1 : r = (if (decide (sc < 4) && m_within x.toInt64 0 1000000 && m_parts y) = true then nI sc else -1) ∧ u = if (decide (sc < 4) && m_within x.toInt64 0 1000000 && m_parts y) = true then (va_up (va_up (va_up a 0 (upd (a 0) 3 (nI (sc + 1)))) 4 (upd (a 4) sc x)) 5 (upd (a 5) sc y), b, v) else (a, b, v)) (h2 : r' = (if (decide (sc < 4) && m_within x.toInt64 0 1000000 && m_parts y) = true then nI sc else -1) ∧ u' = if (decide (sc < 4) && m_within x.toInt64 0 1000000 && m_parts y) = true then (va_up (va_up (va_up a' 0 (upd (a' 0) 3 (nI (sc + 1)))) 4 (upd (a' 4) sc x)) 5 (upd (a' 5) sc y), b') else (a', b')) : r = r' ∧ z_RE n u.1 u.2.1 u.2.2 u'.1 u'.2 := by
  obtain ⟨rfl, hu⟩ := h1
  obtain ⟨rfl, hu'⟩ := h2
  refine ⟨rfl, ?_⟩
  by_cases hp : (decide (sc < 4) && m_within x.toInt64 0 1000000 && m_parts y) = true
  · rw [if_pos hp] at hu hu'
    subst hu; subst hu'
    rw [Bool.and_eq_true, Bool.and_eq_true, decide_eq_true_eq] at hp
    have hx := m_mil hp.1.2
    have hy := m_parts_pt hp.2
    obtain ⟨⟨hn, hs, c0, c1, c2, rm, h2, h3, h4, h5, h6⟩, hd4, hsc, hd, ⟨a00, a01, a02, a03, a04, a05, a2, a3, a4, a5, a6⟩, hR⟩ := hR
    refine ⟨sc + 1, d, cn, ⟨hn, by omega, c0, c1, c2, rm, h2, h3, ?_, ?_, h6⟩, hd4, rfl, hd, ⟨a00, a01, a02, rfl, a04, a05, a2, a3, ?_, ?_, a6⟩, hR⟩
    · intro k hk
      show 0 ≤ (upd (a 4) sc x k).toInt ∧ (upd (a 4) sc x k).toInt ≤ 1000000
      by_cases e : k = sc
      · rw [e, pk_us]; exact hx
      · rw [pk_un e]; exact h4 k (by omega)
    · intro k hk
      show z_pt (upd (a 5) sc y k)
      by_cases e : k = sc
      · rw [e, pk_us]; exact hy
      · rw [pk_un e]; exact h5 k (by omega)
    · show upd (a' 4) sc x = upd (a 4) sc x
      rw [a4]
    · show upd (a' 5) sc y = upd (a 5) sc y
      rw [a5]
  · rw [if_neg hp] at hu hu'
    subst hu; subst hu'
    exact ⟨sc, d, cn, hR⟩
theorem q_rain {n sc d : Nat} {cn : Nat → Nat} {a a' : Nat → Nat → Int32} {b b' : Nat → Nat → Int64} {v : Nat → Nat → Int32} {x y r r' : Int32} {u : zS} {u' : zT} (hR : z_R n sc d cn a b v a' b') (h1 : r = zb (m_within x.toInt64 (nI d).toInt64 399 && m_within y.toInt64 0 1000000) ∧ u = if (m_within x.toInt64 (nI d).toInt64 399 && m_within y.toInt64 0 1000000) = true then (va_up a 6 (upd (a 6) x.toNatClampNeg y), b, v) else (a, b, v)) (h2 : r' = zb (m_within x.toInt64 (nI d).toInt64 399 && m_within y.toInt64 0 1000000) ∧ u' = if (m_within x.toInt64 (nI d).toInt64 399 && m_within y.toInt64 0 1000000) = true then (va_up a' 6 (upd (a' 6) x.toNatClampNeg y), b') else (a', b')) : r = r' ∧ z_RE n u.1 u.2.1 u.2.2 u'.1 u'.2 := by
  obtain ⟨rfl, hu⟩ := h1
  obtain ⟨rfl, hu'⟩ := h2
  refine ⟨rfl, ?_⟩
  by_cases hp : (m_within x.toInt64 (nI d).toInt64 399 && m_within y.toInt64 0 1000000) = true
  · rw [if_pos hp] at hu hu'
    subst hu; subst hu'
    rw [Bool.and_eq_true] at hp
    have hy := m_mil hp.2
    obtain ⟨⟨hn, hs, c0, c1, c2, rm, h2, h3, h4, h5, h6⟩, hd4, hsc, hd, ⟨a00, a01, a02, a03, a04, a05, a2, a3, a4, a5, a6⟩, hR⟩ := hR
    refine ⟨sc, d, cn, ⟨hn, hs, c0, c1, c2, rm, h2, h3, h4, h5, ?_⟩, hd4, hsc, hd, ⟨a00, a01, a02, a03, a04, a05, a2, a3, a4, a5, ?_⟩, hR⟩
    · intro k hk
      show 0 ≤ (upd (a 6) x.toNatClampNeg y k).toInt ∧ (upd (a 6) x.toNatClampNeg y k).toInt ≤ 1000000
      by_cases e : k = x.toNatClampNeg
      · rw [e, pk_us]; exact hy
      · rw [pk_un e]; exact h6 k hk
    · show upd (a' 6) x.toNatClampNeg y = upd (a 6) x.toNatClampNeg y
      rw [a6]
  · rw [if_neg hp] at hu hu'
    subst hu; subst hu'
    exact ⟨sc, d, cn, hR⟩
theorem m_ush (y : Int64) : 0 ≤ (y.toUInt64 >>> ((54 : Int32).toInt64.toUInt64 &&& Int64.toUInt64 63)).toInt64.toInt32.toInt ∧ (y.toUInt64 >>> ((54 : Int32).toInt64.toUInt64 &&& Int64.toUInt64 63)).toInt64.toInt32.toInt ≤ 1000000 := by
  obtain ⟨n, hn, rfl⟩ := wb_of y
  have e : ((lN n).toUInt64 >>> ((54 : Int32).toInt64.toUInt64 &&& Int64.toUInt64 63)).toInt64 = lN (n / 2 ^ 54) := wb_shr (k := 54) hn (by decide)
  rw [e, lN_i]
  have h : n / 2 ^ 54 < 1024 := by omega
  rw [nI_toInt (by omega)]
  omega
theorem m_st_b {f : Nat → Int32} (x : Int64) (d : Nat) (hf : ∀ k, k < 400 → 0 ≤ (f k).toInt ∧ (f k).toInt ≤ 1000000) : ∀ i k, k < 400 → 0 ≤ ((m_st f x d i).2 k).toInt ∧ ((m_st f x d i).2 k).toInt ≤ 1000000
  | 0, k, hk => hf k hk
  | i + 1, k, hk => by
    show 0 ≤ (upd (m_st f x d i).2 (d + i) _ k).toInt ∧ (upd (m_st f x d i).2 (d + i) _ k).toInt ≤ 1000000
    by_cases e : k = d + i
    · rw [e, pk_us]; exact m_ush _
    · rw [pk_un e]; exact m_st_b x d hf i k hk
theorem q_storm {n sc d : Nat} {cn : Nat → Nat} {a a' : Nat → Nat → Int32} {b b' : Nat → Nat → Int64} {v : Nat → Nat → Int32} {x : Int64} {y r r' : Int32} {u : zS} {u' : zT} (hR : z_R n sc d cn a b v a' b') (h1 : r = zb (m_days (nI d) y) ∧ u = if m_days (nI d) y = true then (va_up a 6 (m_st (a 6) x d y.toNatClampNeg).2, b, v) else (a, b, v)) (h2 : r' = zb (m_days (nI d) y) ∧ u' = if m_days (nI d) y = true then (va_up a' 6 (m_st (a' 6) x d y.toNatClampNeg).2, b') else (a', b')) : r = r' ∧ z_RE n u.1 u.2.1 u.2.2 u'.1 u'.2 := by
  obtain ⟨rfl, hu⟩ := h1
  obtain ⟨rfl, hu'⟩ := h2
  refine ⟨rfl, ?_⟩
  by_cases hp : m_days (nI d) y = true
  · rw [if_pos hp] at hu hu'
    subst hu; subst hu'
    obtain ⟨⟨hn, hs, c0, c1, c2, rm, h2, h3, h4, h5, h6⟩, hd4, hsc, hd, ⟨a00, a01, a02, a03, a04, a05, a2, a3, a4, a5, a6⟩, hR⟩ := hR
    refine ⟨sc, d, cn, ⟨hn, hs, c0, c1, c2, rm, h2, h3, h4, h5, fun k hk => m_st_b x d h6 y.toNatClampNeg k hk⟩, hd4, hsc, hd, ⟨a00, a01, a02, a03, a04, a05, a2, a3, a4, a5, ?_⟩, hR⟩
    show (m_st (a' 6) x d y.toNatClampNeg).2 = (m_st (a 6) x d y.toNatClampNeg).2
    rw [a6]
  · rw [if_neg hp] at hu hu'
    subst hu; subst hu'
    exact ⟨sc, d, cn, hR⟩
theorem q_run {n sc d : Nat} {cn : Nat → Nat} {a a' : Nat → Nat → Int32} {b b' : Nat → Nat → Int64} {v : Nat → Nat → Int32} {x r r' : Int32} {u : zS} {u' : zT} (hR : z_R n sc d cn a b v a' b') (h1 : r = (if m_days (nI d) x = true then nI (d + x.toNatClampNeg) else -1) ∧ u = if m_days (nI d) x = true then (va_up a 0 (upd (a 0) 4 (nI (d + x.toNatClampNeg))), m_run n sc a b d x.toNatClampNeg, v) else (a, b, v)) (h2 : r' = (if m_days (nI d) x = true then nI (d + x.toNatClampNeg) else -1) ∧ u' = if m_days (nI d) x = true then (va_up a' 0 (upd (a' 0) 4 (nI (d + x.toNatClampNeg))), r_run n sc a' b' d x.toNatClampNeg) else (a', b')) : r = r' ∧ z_RE n u.1 u.2.1 u.2.2 u'.1 u'.2 := by
  obtain ⟨rfl, hu⟩ := h1
  obtain ⟨rfl, hu'⟩ := h2
  refine ⟨rfl, ?_⟩
  by_cases hp : m_days (nI d) x = true
  · rw [if_pos hp] at hu hu'
    subst hu; subst hu'
    obtain ⟨hbd, hd4, hsc, hd, ha, hb, hw, hl, hR⟩ := hR
    obtain ⟨k, hk1, hk2, hk3, rfl⟩ := m_days_k hd4 hp
    rw [nI_clamp (by omega)]
    obtain ⟨i1, i2, i3⟩ := z_run hbd hw ha hb k hk3
    obtain ⟨h1, h2, h3, h4, h5, h6, h7⟩ := hbd
    obtain ⟨a00, a01, a02, a03, a04, a05, ha⟩ := ha
    exact ⟨sc, d + k, cn, ⟨h1, h2, h3, h4, h5, by show 0 ≤ (m_run n sc a b d k 0 0).toInt ∧ (m_run n sc a b d k 0 0).toInt ≤ 1000000000; rw [i3]; exact h6, h7⟩, hk3, hsc, rfl, ⟨a00, a01, a02, a03, rfl, a05, ha⟩, i2, i1, by show -1 ≤ (m_run n sc a b d k 0 1).toInt ∧ -1 ≤ (m_run n sc a b d k 0 2).toInt; rw [i3]; exact hl, hR⟩
  · rw [if_neg hp] at hu hu'
    subst hu; subst hu'
    exact ⟨sc, d, cn, hR⟩
