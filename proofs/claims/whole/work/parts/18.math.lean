/-! longs as whole numbers -/
theorem zt_add {x y : Int64} (h1 : -(2 ^ 62) ≤ x.toInt + y.toInt) (h2 : x.toInt + y.toInt < 2 ^ 62) : (x + y).toInt = x.toInt + y.toInt := by
  rw [Int64.toInt_add]
  exact Int.bmod_eq_of_le_mul_two (by omega) (by omega)
theorem zt_sub {x y : Int64} (h1 : -(2 ^ 62) ≤ x.toInt - y.toInt) (h2 : x.toInt - y.toInt < 2 ^ 62) : (x - y).toInt = x.toInt - y.toInt := by
  rw [Int64.toInt_sub]
  exact Int.bmod_eq_of_le_mul_two (by omega) (by omega)
theorem zt_mul {x y : Int64} (h1 : -(2 ^ 62) ≤ x.toInt * y.toInt) (h2 : x.toInt * y.toInt < 2 ^ 62) : (x * y).toInt = x.toInt * y.toInt := by
  rw [Int64.toInt_mul]
  exact Int.bmod_eq_of_le_mul_two (by omega) (by omega)
def z_pt (x : Int32) : Prop := 0 ≤ x.toInt ∧ x.toInt ≤ 1000
/-- parts of an amount: between nothing and all -/
theorem m_of_b {p : Int32} {x : Int64} (hp : z_pt p) (h0 : 0 ≤ x.toInt) (h1 : x.toInt < 2 ^ 45) : 0 ≤ (m_of p x).toInt ∧ (m_of p x).toInt ≤ x.toInt := by
  have hm1 : 0 ≤ x.toInt * p.toInt := Int.mul_nonneg h0 hp.1
  have hm2 : x.toInt * p.toInt ≤ x.toInt * 1000 := Int.mul_le_mul_of_nonneg_left hp.2 h0
  have e1 : (x * p.toInt64).toInt = x.toInt * p.toInt := by
    rw [zt_mul (by rw [m_i2l]; omega) (by rw [m_i2l]; omega), m_i2l]
  have e2 : (1000 : Int64).toInt = 1000 := by decide
  have e : (m_of p x).toInt = x.toInt * p.toInt / 1000 := by
    unfold m_of
    rw [Int64.toInt_div, e1, e2, Int.tdiv_eq_ediv_of_nonneg hm1]
    exact Int.bmod_eq_of_le_mul_two (by omega) (by omega)
  rw [e]
  omega
theorem m_max0_t (x : Int64) : (m_max0 x).toInt = if x.toInt < 0 then 0 else x.toInt := by
  unfold m_max0
  by_cases h : x < 0
  · rw [if_pos h]
    rw [Int64.lt_iff_toInt_lt] at h
    have e : (0 : Int64).toInt = 0 := by decide
    rw [e] at h ⊢
    rw [if_pos h]
  · rw [if_neg h]
    rw [Int64.lt_iff_toInt_lt] at h
    have e : (0 : Int64).toInt = 0 := by decide
    rw [e] at h
    rw [if_neg h]
theorem m_of_0 (p : Int32) : m_of p 0 = 0 := by
  unfold m_of
  rw [Int64.zero_mul]
  decide
/-! sums over layers -/
def z_sum (f : Nat → Int64) : Nat → Int
  | 0 => 0
  | n + 1 => z_sum f n + (f n).toInt
theorem z_sum_hi (f : Nat → Int64) (k : Nat) (y : Int64) : ∀ n, n ≤ k → z_sum (vp_updL f k y) n = z_sum f n
  | 0, _ => rfl
  | n + 1, h => by
    show z_sum (vp_updL f k y) n + (vp_updL f k y n).toInt = z_sum f n + (f n).toInt
    rw [z_sum_hi f k y n (by omega), pk_uLn (by omega)]
theorem z_sum_up (f : Nat → Int64) (k : Nat) (y : Int64) : ∀ n, k < n → z_sum (vp_updL f k y) n = z_sum f n - (f k).toInt + y.toInt
  | 0, h => absurd h (Nat.not_lt_zero _)
  | n + 1, h => by
    show z_sum (vp_updL f k y) n + (vp_updL f k y n).toInt = z_sum f n + (f n).toInt - (f k).toInt + y.toInt
    by_cases e : k = n
    · subst e
      rw [z_sum_hi f k y k (Nat.le_refl _), pk_uLs]
      omega
    · rw [z_sum_up f k y n (by omega), pk_uLn (by omega)]
      omega
theorem z_sum_0 (f : Nat → Int64) : ∀ n, (∀ j, j < n → 0 ≤ (f j).toInt) → 0 ≤ z_sum f n
  | 0, _ => Int.le_refl 0
  | n + 1, h => by
    have h1 := z_sum_0 f n (fun j hj => h j (by omega))
    have h2 := h n (by omega)
    show 0 ≤ z_sum f n + (f n).toInt
    omega
theorem z_sum_le (f : Nat → Int64) : ∀ n, (∀ j, j < n → 0 ≤ (f j).toInt) → ∀ k, k < n → (f k).toInt ≤ z_sum f n
  | 0, _, k, h => absurd h (Nat.not_lt_zero _)
  | n + 1, h, k, hk => by
    show (f k).toInt ≤ z_sum f n + (f n).toInt
    have h2 := h n (by omega)
    by_cases e : k = n
    · subst e
      have := z_sum_0 f k (fun j hj => h j (by omega))
      omega
    · have := z_sum_le f n (fun j hj => h j (by omega)) k (by omega)
      omega
theorem m_pd_hi (hs ps : Nat → Int32) (f : Nat → Int64) : ∀ k j, k ≤ j → (m_pd hs ps f k).1 j = f j
  | 0, _, _ => rfl
  | k + 1, j, h => by
    show vp_updL (vp_updL (m_pd hs ps f k).1 k _) k _ j = f j
    rw [pk_uLn (by omega), pk_uLn (by omega)]
    exact m_pd_hi hs ps f k j (by omega)
/-- the water goes down: nothing is lost, nothing is below 0 -/
theorem m_pd_ok {hs ps : Nat → Int32} {f : Nat → Int64} {n : Nat} (hh : ∀ k, k < n → 0 ≤ (hs k).toInt ∧ (hs k).toInt ≤ 1000000) (hp : ∀ k, k < n → z_pt (ps k)) (hf : ∀ j, j < n → 0 ≤ (f j).toInt) (hB : z_sum f n < 2 ^ 44) :
    ∀ k, k ≤ n → (∀ j, j < n → 0 ≤ ((m_pd hs ps f k).1 j).toInt) ∧ 0 ≤ (m_pd hs ps f k).2.toInt ∧ z_sum (m_pd hs ps f k).1 n + (m_pd hs ps f k).2.toInt = z_sum f n
  | 0, _ => ⟨hf, by show (0 : Int) ≤ (0 : Int64).toInt; decide, by show z_sum f n + (0 : Int64).toInt = z_sum f n; rw [show (0 : Int64).toInt = 0 from by decide]; omega⟩
  | k + 1, hk => by
    obtain ⟨i1, i2, i3⟩ := m_pd_ok hh hp hf hB k (by omega)
    have hle := z_sum_le (m_pd hs ps f k).1 n i1 k (by omega)
    have h0 := i1 k (by omega)
    have hhk := hh k (by omega)
    have hpk := hp k (by omega)
    have eq1 : (m_pd hs ps f (k + 1)).1 = vp_updL (vp_updL (m_pd hs ps f k).1 k ((m_pd hs ps f k).1 k + (m_pd hs ps f k).2)) k ((m_pd hs ps f k).1 k + (m_pd hs ps f k).2 - m_of (ps k) (m_max0 ((m_pd hs ps f k).1 k + (m_pd hs ps f k).2 - (hs k).toInt64))) := rfl
    have eq2 : (m_pd hs ps f (k + 1)).2 = m_of (ps k) (m_max0 ((m_pd hs ps f k).1 k + (m_pd hs ps f k).2 - (hs k).toInt64)) := rfl
    rw [eq1, eq2]
    generalize (m_pd hs ps f k).1 = F at i1 i3 hle h0 ⊢
    generalize (m_pd hs ps f k).2 = o at i2 i3 ⊢
    have ex : (F k + o).toInt = (F k).toInt + o.toInt := zt_add (by omega) (by omega)
    have ed : (F k + o - (hs k).toInt64).toInt = (F k).toInt + o.toInt - (hs k).toInt := by
      rw [zt_sub (by rw [ex, m_i2l]; omega) (by rw [ex, m_i2l]; omega), ex, m_i2l]
    have em := m_max0_t (F k + o - (hs k).toInt64)
    rw [ed] at em
    have hm0 : 0 ≤ (m_max0 (F k + o - (hs k).toInt64)).toInt := by rw [em]; split <;> omega
    have hm1 : (m_max0 (F k + o - (hs k).toInt64)).toInt ≤ (F k).toInt + o.toInt := by rw [em]; split <;> omega
    obtain ⟨p1, p2⟩ := m_of_b (x := m_max0 (F k + o - (hs k).toInt64)) hpk hm0 (by omega)
    generalize m_of (ps k) (m_max0 (F k + o - (hs k).toInt64)) = q at p1 p2 ⊢
    have eq : (F k + o - q).toInt = (F k).toInt + o.toInt - q.toInt := by rw [zt_sub (by rw [ex]; omega) (by rw [ex]; omega), ex]
    refine ⟨?_, p1, ?_⟩
    · intro j hj
      by_cases e : j = k
      · subst e; rw [pk_uLs, eq]; omega
      · rw [pk_uLn e, pk_uLn e]; exact i1 j hj
    · rw [z_sum_up _ k _ n (by omega), z_sum_up _ k _ n (by omega), pk_uLs, eq, ex]
      omega
theorem m_pd_congr {hs hs' ps ps' : Nat → Int32} (f : Nat → Int64) {n : Nat} (h1 : ∀ k, k < n → hs' k = hs k) (h2 : ∀ k, k < n → ps' k = ps k) : ∀ k, k ≤ n → m_pd hs' ps' f k = m_pd hs ps f k
  | 0, _ => rfl
  | k + 1, h => by
    have i := m_pd_congr f h1 h2 k (by omega)
    unfold m_pd
    rw [i, h1 k (by omega), h2 k (by omega)]
/-! stages -/
theorem m_min_t (x y : Int64) : (m_min x y).toInt = if y.toInt < x.toInt then y.toInt else x.toInt := by
  unfold m_min
  by_cases h : y < x
  · rw [if_pos h]; rw [Int64.lt_iff_toInt_lt] at h; rw [if_pos h]
  · rw [if_neg h]; rw [Int64.lt_iff_toInt_lt] at h; rw [if_neg h]
theorem m_cl_ok {rs ks : Nat → Int32} {f : Nat → Int64} {n : Nat} (hr : ∀ k, k < n → 0 ≤ (rs k).toInt ∧ (rs k).toInt ≤ 1000000) (hk : ∀ k, k < n → z_pt (ks k)) (h0 : 0 ≤ (f 7).toInt) (hB : (f 7).toInt ≤ 1000000000) :
    ∀ k, k ≤ n → 0 ≤ (m_cl rs ks f k).2.toInt ∧ 0 ≤ ((m_cl rs ks f k).1 7).toInt ∧ ((m_cl rs ks f k).1 7).toInt + (m_cl rs ks f k).2.toInt ≤ (f 7).toInt ∧ (0 < k → (m_cl rs ks f k).2.toInt ≤ 1000000)
  | 0, _ => ⟨h0, by show (0 : Int) ≤ (vp_updL f 7 0 7).toInt; rw [pk_uLs]; decide, by show (vp_updL f 7 0 7).toInt + (f 7).toInt ≤ _; rw [pk_uLs, show (0 : Int64).toInt = 0 from by decide]; omega, fun h => absurd h (Nat.lt_irrefl _)⟩
  | k + 1, hkn => by
    obtain ⟨i1, i2, i3, -⟩ := m_cl_ok hr hk h0 hB k (by omega)
    have hrk := hr k (by omega)
    have hkk := hk k (by omega)
    have eq1 : (m_cl rs ks f (k + 1)).1 = vp_updL (vp_updL (m_cl rs ks f k).1 7 ((m_cl rs ks f k).1 7 + ((m_cl rs ks f k).2 - m_min (rs k).toInt64 (m_cl rs ks f k).2))) 5 ((m_cl rs ks f k).1 5 + m_of (ks k) (m_min (rs k).toInt64 (m_cl rs ks f k).2)) := rfl
    have eq2 : (m_cl rs ks f (k + 1)).2 = m_min (rs k).toInt64 (m_cl rs ks f k).2 - m_of (ks k) (m_min (rs k).toInt64 (m_cl rs ks f k).2) := rfl
    rw [eq1, eq2]
    generalize (m_cl rs ks f k).1 = F at i2 i3 ⊢
    generalize (m_cl rs ks f k).2 = o at i1 i3 ⊢
    have em := m_min_t (rs k).toInt64 o
    rw [m_i2l] at em
    have t0 : 0 ≤ (m_min (rs k).toInt64 o).toInt := by rw [em]; split <;> omega
    have t1 : (m_min (rs k).toInt64 o).toInt ≤ o.toInt := by rw [em]; split <;> omega
    have t2 : (m_min (rs k).toInt64 o).toInt ≤ 1000000 := by rw [em]; split <;> omega
    generalize m_min (rs k).toInt64 o = t at t0 t1 t2 ⊢
    obtain ⟨p1, p2⟩ := m_of_b (x := t) hkk t0 (by omega)
    generalize m_of (ks k) t = q at p1 p2 ⊢
    have e1 : (t - q).toInt = t.toInt - q.toInt := zt_sub (by omega) (by omega)
    have e2 : (o - t).toInt = o.toInt - t.toInt := zt_sub (by omega) (by omega)
    have e3 : (F 7 + (o - t)).toInt = (F 7).toInt + (o.toInt - t.toInt) := by rw [zt_add (by rw [e2]; omega) (by rw [e2]; omega), e2]
    rw [pk_uLn (by decide), pk_uLs, e1, e3]
    exact ⟨by omega, by omega, by omega, fun _ => by omega⟩
/-- the reference's way through the stages beside the class's -/
theorem r_cl_eq {rs ks : Nat → Int32} {f f' : Nat → Int64} (hf : ∀ j, j ≠ 8 → f' j = f j) : ∀ k, (r_cl rs ks f' k).2.1 = (m_cl rs ks f k).2 ∧ (r_cl rs ks f' k).2.2 = (m_cl rs ks f k).1 7 ∧ (∀ j, j ≠ 7 → j ≠ 8 → (r_cl rs ks f' k).1 j = (m_cl rs ks f k).1 j)
  | 0 => ⟨hf 7 (by decide), (pk_uLs (f := f) (k := 7) (x := 0)).symm, fun j hj h8 => by show f' j = vp_updL f 7 0 j; rw [pk_uLn hj, hf j h8]⟩
  | k + 1 => by
    obtain ⟨i1, i2, i3⟩ := r_cl_eq hf k
    have eq1 : (m_cl rs ks f (k + 1)).1 = vp_updL (vp_updL (m_cl rs ks f k).1 7 ((m_cl rs ks f k).1 7 + ((m_cl rs ks f k).2 - m_min (rs k).toInt64 (m_cl rs ks f k).2))) 5 ((m_cl rs ks f k).1 5 + m_of (ks k) (m_min (rs k).toInt64 (m_cl rs ks f k).2)) := rfl
    refine ⟨?_, ?_, ?_⟩
    · show m_min (rs k).toInt64 (r_cl rs ks f' k).2.1 - m_of (ks k) (m_min (rs k).toInt64 (r_cl rs ks f' k).2.1) = m_min (rs k).toInt64 (m_cl rs ks f k).2 - m_of (ks k) (m_min (rs k).toInt64 (m_cl rs ks f k).2)
      rw [i1]
    · show (r_cl rs ks f' k).2.2 + ((r_cl rs ks f' k).2.1 - m_min (rs k).toInt64 (r_cl rs ks f' k).2.1) = (m_cl rs ks f (k + 1)).1 7
      rw [eq1, pk_uLn (by decide), pk_uLs, i1, i2]
    · intro j hj h8
      show vp_updL (r_cl rs ks f' k).1 5 ((r_cl rs ks f' k).1 5 + m_of (ks k) (m_min (rs k).toInt64 (r_cl rs ks f' k).2.1)) j = (m_cl rs ks f (k + 1)).1 j
      rw [eq1]
      by_cases e : j = 5
      · subst e; rw [pk_uLs, pk_uLs, i1, i3 5 (by decide) (by decide)]
      · rw [pk_uLn e, pk_uLn e, pk_uLn hj, i3 j hj h8]
theorem m_cl_oth {rs ks : Nat → Int32} {f : Nat → Int64} : ∀ k j, j ≠ 7 → j ≠ 5 → (m_cl rs ks f k).1 j = f j
  | 0, j, h, _ => pk_uLn h
  | k + 1, j, h, h2 => by
    show vp_updL (vp_updL (m_cl rs ks f k).1 7 _) 5 _ j = f j
    rw [pk_uLn h2, pk_uLn h]
    exact m_cl_oth k j h h2
