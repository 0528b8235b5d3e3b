/-! trends: the class sums by the later one, the reference by the earlier one -/
def z_F (f : Nat → Int32) (j i : Nat) : Int32 := if f j ≤ f i then -1 else 1
def z_row (f : Nat → Int32) (c : Nat) : Nat → Int32
  | 0 => 0
  | i + 1 => z_row f c i + z_F f c i
theorem m_ri_z (f : Nat → Int32) (j : Nat) (z : Int32) {c : Nat} (hj : j < c) (hd : ∀ i j, i < j → j < c → f i ≠ f j) : ∀ i, i ≤ j → m_ri f j z i = z + z_row f j i
  | 0, _ => (Int32.add_zero z).symm
  | i + 1, h => by
    show m_ri f j z i + m_cmp (f j) (f i) = z + (z_row f j i + z_F f j i)
    rw [m_ri_z f j z hj hd i (by omega), Int32.add_assoc]
    congr 2
    have hne : ¬ f j = f i := fun e => hd i j (by omega) hj e.symm
    unfold m_cmp z_F
    by_cases h1 : f j < f i
    · have h2 : f j ≤ f i := by rw [Int32.le_iff_toInt_le]; rw [Int32.lt_iff_toInt_lt] at h1; omega
      rw [if_pos h1, if_pos h2]
    · have h2 : ¬ f j ≤ f i := by
        intro h3
        apply hne
        apply Int32.toInt_inj.mp
        rw [Int32.le_iff_toInt_le] at h3
        rw [Int32.lt_iff_toInt_lt] at h1
        omega
      rw [if_neg h1, if_neg hne, if_neg h2]
theorem r_ti_z (f : Nat → Int32) (i : Nat) (z : Int32) : ∀ k, r_ti f i z k = z + r_ti f i 0 k
  | 0 => (Int32.add_zero z).symm
  | k + 1 => by
    show r_ti f i z k + _ = z + (r_ti f i 0 k + _)
    rw [r_ti_z f i z k, Int32.add_assoc]
theorem r_to_up (f : Nat → Int32) (c : Nat) : ∀ I, I ≤ c → r_to f (c + 1) I = r_to f c I + z_row f c I
  | 0, _ => (Int32.add_zero _).symm
  | I + 1, h => by
    show r_ti f I (r_to f (c + 1) I) (c + 1 - (I + 1)) = r_ti f I (r_to f c I) (c - (I + 1)) + (z_row f c I + z_F f c I)
    have e : c + 1 - (I + 1) = (c - (I + 1)) + 1 := by omega
    rw [e]
    show r_ti f I (r_to f (c + 1) I) (c - (I + 1)) + (if f (I + 1 + (c - (I + 1))) ≤ f I then -1 else 1) = _
    rw [show I + 1 + (c - (I + 1)) = c from by omega, r_ti_z, r_ti_z f I (r_to f c I), r_to_up f c I (by omega)]
    show r_to f c I + z_row f c I + r_ti f I 0 (c - (I + 1)) + z_F f c I = r_to f c I + r_ti f I 0 (c - (I + 1)) + (z_row f c I + z_F f c I)
    generalize r_to f c I = x1
    generalize z_row f c I = x2
    generalize r_ti f I 0 (c - (I + 1)) = x3
    generalize z_F f c I = x4
    rw [Int32.add_assoc x1 x2 x3, Int32.add_comm x2 x3, ← Int32.add_assoc x1 x3 x2, Int32.add_assoc (x1 + x3) x2 x4]
theorem z_trend (f : Nat → Int32) : ∀ c, (∀ i j, i < j → j < c → f i ≠ f j) → m_ro f (c - 1) = r_to f c c
  | 0, _ => rfl
  | c + 1, hd => by
    have e1 : r_to f (c + 1) (c + 1) = r_to f (c + 1) c := by
      show r_ti f c (r_to f (c + 1) c) (c + 1 - (c + 1)) = _
      rw [Nat.sub_self]
      rfl
    rw [e1, r_to_up f c c (Nat.le_refl _)]
    have i := z_trend f c (fun i j h1 h2 => hd i j h1 (by omega))
    rw [← i]
    cases c with
    | zero => rfl
    | succ k =>
      show m_ro f (k + 1) = m_ro f k + z_row f (k + 1) (k + 1)
      show m_ri f (1 + k) (m_ro f k) (1 + k) = _
      rw [Nat.add_comm 1 k]
      exact m_ri_z f (k + 1) (m_ro f k) (c := k + 2) (by omega) hd (k + 1) (Nat.le_refl _)
theorem r_ti_congr {f f' : Nat → Int32} {c i : Nat} (hf : ∀ j, j < c → f' j = f j) (z : Int32) : ∀ k, i + 1 + k ≤ c → r_ti f' i z k = r_ti f i z k
  | 0, _ => rfl
  | k + 1, h => by
    show r_ti f' i z k + (if f' (i + 1 + k) ≤ f' i then -1 else 1) = r_ti f i z k + (if f (i + 1 + k) ≤ f i then -1 else 1)
    rw [r_ti_congr hf z k (by omega), hf _ (by omega), hf i (by omega)]
theorem r_to_congr {f f' : Nat → Int32} {c : Nat} (hf : ∀ j, j < c → f' j = f j) : ∀ I, I ≤ c → r_to f' c I = r_to f c I
  | 0, _ => rfl
  | I + 1, h => by
    show r_ti f' I (r_to f' c I) (c - (I + 1)) = r_ti f I (r_to f c I) (c - (I + 1))
    rw [r_to_congr hf I (by omega), r_ti_congr hf _ _ (by omega)]
/-! how many orders have how many falls -/
def z_sm (T : Nat → Nat) (k : Nat) : Nat → Nat
  | 0 => 0
  | s + 1 => z_sm T k s + T (k - s)
def z_tb : Nat → Nat → Nat
  | 0, k => if k = 0 then 1 else 0
  | i + 1, k => z_sm (z_tb i) k (min (2 + i) (k + 1))
def z_pf (T : Nat → Nat) : Nat → Nat
  | 0 => T 0
  | j + 1 => z_pf T j + T (j + 1)
theorem z_sm_pf (T : Nat → Nat) (j : Nat) : ∀ s, s ≤ j → z_sm T j s + z_pf T (j - s) = z_pf T j
  | 0, _ => Nat.zero_add _
  | s + 1, h => by
    have i := z_sm_pf T j s (by omega)
    show z_sm T j s + T (j - s) + z_pf T (j - (s + 1)) = z_pf T j
    have e : j - s = (j - (s + 1)) + 1 := by omega
    rw [e] at i
    have e2 : z_pf T (j - (s + 1) + 1) = z_pf T (j - (s + 1)) + T (j - (s + 1) + 1) := rfl
    rw [e2] at i
    rw [e]
    omega
theorem z_sm_all (T : Nat → Nat) (j : Nat) : z_sm T j (j + 1) = z_pf T j := by
  have i := z_sm_pf T j j (Nat.le_refl _)
  show z_sm T j j + T (j - j) = z_pf T j
  rw [Nat.sub_self] at i ⊢
  exact i
theorem m_av1_ok {f : Nat → Int32} {T : Nat → Nat} (hf : ∀ k, k < 29 → f k = nI (T k)) : ∀ i, i ≤ 28 → ∀ j, j < 29 → m_av1 f i j = if j ≤ i then nI (z_pf T j) else nI (T j)
  | 0, _, j, hj => by
    show f j = _
    by_cases h : j ≤ 0
    · rw [if_pos h, show j = 0 from by omega]; exact hf 0 (by omega)
    · rw [if_neg h]; exact hf j hj
  | i + 1, hi, j, hj => by
    show upd (m_av1 f i) (1 + i) (m_av1 f i (1 + i) + m_av1 f i i) j = _
    by_cases h : j = 1 + i
    · subst h
      rw [pk_us, m_av1_ok hf i (by omega) (1 + i) (by omega), m_av1_ok hf i (by omega) i (by omega), if_neg (by omega), if_pos (Nat.le_refl _), if_pos (by omega), nI_add]
      rw [Nat.add_comm 1 i]
      congr 1
      show T (i + 1) + z_pf T i = z_pf T i + T (i + 1)
      omega
    · rw [pk_un h, m_av1_ok hf i (by omega) j hj]
      by_cases h2 : j ≤ i
      · rw [if_pos h2, if_pos (by omega)]
      · rw [if_neg h2, if_neg (by omega)]
theorem m_av2_ok {F : Nat → Int32} {p : Nat → Nat} {z : Nat} (hz : 1 ≤ z ∧ z ≤ 28) (hF : ∀ k, k < 29 → F k = nI (p k)) (hp : ∀ j k, j ≤ k → p j ≤ p k) : ∀ i, i ≤ 29 - z → ∀ j, j < 29 → m_av2 z F i j = if 28 - i < j then nI (p j - p (j - z)) else nI (p j)
  | 0, _, j, hj => by
    show F j = _
    rw [if_neg (by omega)]; exact hF j hj
  | i + 1, hi, j, hj => by
    show upd (m_av2 z F i) (28 - i) (m_av2 z F i (28 - i) - m_av2 z F i (28 - i - z)) j = _
    by_cases h : j = 28 - i
    · subst h
      rw [pk_us, m_av2_ok hz hF hp i (by omega) (28 - i) (by omega), m_av2_ok hz hF hp i (by omega) (28 - i - z) (by omega), if_neg (by omega), if_neg (by omega), if_pos (by omega)]
      exact pk_sub (hp _ _ (by omega))
    · rw [pk_un h, m_av2_ok hz hF hp i (by omega) j hj]
      by_cases h2 : 28 - i < j
      · rw [if_pos h2, if_pos (by omega)]
      · rw [if_neg h2, if_neg (by omega)]
theorem z_pf_mono (T : Nat → Nat) : ∀ j k, j ≤ k → z_pf T j ≤ z_pf T k := by
  intro j k
  induction k with
  | zero => intro h; rw [show j = 0 from by omega]; exact Nat.le_refl _
  | succ k ih =>
    intro h
    by_cases e : j = k + 1
    · rw [e]; exact Nat.le_refl _
    · have := ih (by omega)
      show z_pf T j ≤ z_pf T k + T (k + 1)
      omega
theorem m_av_ok {f : Nat → Int32} {T : Nat → Nat} {z : Nat} (hz : 1 ≤ z ∧ z ≤ 28) (hf : ∀ k, k < 29 → f k = nI (T k)) (j : Nat) (hj : j < 29) : m_av z f j = nI (z_sm T j (min z (j + 1))) := by
  unfold m_av
  have h1 : ∀ k, k < 29 → m_av1 f 28 k = nI (z_pf T k) := fun k hk => by rw [m_av1_ok hf 28 (Nat.le_refl _) k hk, if_pos (by omega)]
  rw [m_av2_ok hz h1 (z_pf_mono T) (29 - z) (Nat.le_refl _) j hj]
  by_cases h : z ≤ j
  · rw [if_pos (by omega), show min z (j + 1) = z from by omega]
    have := z_sm_pf T j z h
    congr 1
    omega
  · rw [if_neg (by omega), show min z (j + 1) = j + 1 from by omega, z_sm_all]
theorem m_fil_ok (v : Int32) (f : Nat → Int32) : ∀ n j, j < n → m_fil v f n j = v
  | 0, j, h => absurd h (Nat.not_lt_zero _)
  | n + 1, j, h => by
    show upd (m_fil v f n) n v j = v
    by_cases e : j = n
    · subst e; exact pk_us
    · rw [pk_un e]; exact m_fil_ok v f n j (by omega)
theorem m_co_ok (g : Nat → Int32) : ∀ i, i ≤ 7 → ∀ k, k < 29 → m_co g i k = nI (z_tb i k)
  | 0, _, k, hk => by
    show upd (m_fil 0 g 29) 0 1 k = nI (if k = 0 then 1 else 0)
    by_cases e : k = 0
    · subst e; rw [pk_us]; rfl
    · rw [pk_un e, m_fil_ok 0 g 29 k hk, if_neg e]; rfl
  | i + 1, hi, k, hk => by
    show m_av (2 + i) (m_co g i) k = nI (z_sm (z_tb i) k (min (2 + i) (k + 1)))
    exact m_av_ok (by omega) (m_co_ok g i (by omega)) k hk
theorem r_o0_ok (f : Nat → Int64) : ∀ n k, k < n → r_o0 f n k = lN (if k = 0 then 1 else 0)
  | 0, _, h => absurd h (Nat.not_lt_zero _)
  | n + 1, k, h => by
    show vp_updL (r_o0 f n) n (if n = 0 then 1 else 0) k = _
    by_cases e : k = n
    · subst e
      rw [pk_uLs]
      by_cases h0 : k = 0
      · rw [if_pos h0, if_pos h0]; rfl
      · rw [if_neg h0, if_neg h0]; rfl
    · rw [pk_uLn e]; exact r_o0_ok f n k (by omega)
theorem r_D_ne (o m : Nat → Int64) (k : Nat) {j : Nat} (h : j ≠ k) : ∀ t, r_D o m k t j = m j
  | 0 => pk_uLn h
  | t + 1 => by
    show vp_updL (r_D o m k t) k _ j = m j
    rw [pk_uLn h]; exact r_D_ne o m k h t
theorem r_D_ok {o m : Nat → Int64} {T : Nat → Nat} {k : Nat} (ho : ∀ j, j < 30 → o j = lN (T j)) (hk : k < 30) : ∀ t, r_D o m k t k = lN (z_sm T k t)
  | 0 => pk_uLs
  | t + 1 => by
    show vp_updL (r_D o m k t) k (r_D o m k t k + o (k - t)) k = lN (z_sm T k t + T (k - t))
    rw [pk_uLs, r_D_ok ho hk t, ho (k - t) (by omega), lN_add]
theorem r_C_ok {o m : Nat → Int64} {T : Nat → Nat} {z : Nat} (ho : ∀ j, j < 30 → o j = lN (T j)) : ∀ K, K ≤ 30 → ∀ j, j < K → r_C o m z K j = lN (z_sm T j (min z (j + 1)))
  | 0, _, j, h => absurd h (Nat.not_lt_zero _)
  | K + 1, hK, j, h => by
    show r_D o (r_C o m z K) K (min z (K + 1)) j = _
    by_cases e : j = K
    · subst e; exact r_D_ok ho (by omega) _
    · rw [r_D_ne _ _ _ e]; exact r_C_ok ho K (by omega) j (by omega)
theorem r_E_ok (o m : Nat → Int64) : ∀ K j, j < K → r_E o m K j = m j
  | 0, j, h => absurd h (Nat.not_lt_zero _)
  | K + 1, j, h => by
    show vp_updL (r_E o m K) K (m K) j = m j
    by_cases e : j = K
    · subst e; exact pk_uLs
    · rw [pk_uLn e]; exact r_E_ok o m K j (by omega)
theorem r_B_ok (o m : Nat → Int64) : ∀ i k, k < 30 → (r_B o m i).1 k = lN (z_tb i k)
  | 0, k, hk => r_o0_ok o 30 k hk
  | i + 1, k, hk => by
    show r_E (r_B o m i).1 (r_C (r_B o m i).1 (r_B o m i).2 (2 + i) 30) 30 k = lN (z_sm (z_tb i) k (min (2 + i) (k + 1)))
    rw [r_E_ok _ _ 30 k hk]
    exact r_C_ok (r_B_ok o m i) 30 (Nat.le_refl _) k hk
/-! what is added up -/
def z_ab (T : Nat → Nat) (P : Nat) (tr : Int32) : Nat → Nat
  | 0 => 0
  | k + 1 => z_ab T P tr k + (if m_abs (nI P - 2 * nI k) < m_abs tr then 0 else T k)
def z_bl (T : Nat → Nat) : Nat → Nat
  | 0 => 0
  | k + 1 => z_bl T k + T k
theorem z_ab_le (T : Nat → Nat) (P : Nat) (tr : Int32) : ∀ k, z_ab T P tr k ≤ z_bl T k
  | 0 => Nat.le_refl _
  | k + 1 => by
    have i := z_ab_le T P tr k
    show z_ab T P tr k + _ ≤ z_bl T k + T k
    split <;> omega
theorem m_far_ok {f : Nat → Int32} {T : Nat → Nat} {P : Nat} {tr : Int32} (hf : ∀ k, k < 29 → f k = nI (T k)) : ∀ k, k ≤ 29 → m_far f (nI P) tr k = nI (z_ab T P tr k)
  | 0, _ => rfl
  | k + 1, h => by
    show (if m_abs (nI P - 2 * nI k) < m_abs tr then m_far f (nI P) tr k else m_far f (nI P) tr k + f k) = nI (z_ab T P tr k + (if m_abs (nI P - 2 * nI k) < m_abs tr then 0 else T k))
    rw [m_far_ok hf k (by omega)]
    by_cases c : m_abs (nI P - 2 * nI k) < m_abs tr
    · rw [if_pos c, if_pos c]; rfl
    · rw [if_neg c, if_neg c, hf k (by omega), nI_add]
theorem r_ab_eq (t : Int32) : r_ab t = m_abs t := by
  unfold r_ab m_abs
  by_cases h : 0 ≤ t
  · rw [if_pos h, if_pos h]
  · rw [if_neg h, if_neg h, Int32.zero_sub]
theorem z_own {P k : Nat} (hP : P ≤ 28) (hk : k ≤ 28) : (nI P - 2 * nI k).toInt = (P : Int) - 2 * k ∧ (-(nI P - 2 * nI k)).toInt = 2 * (k : Int) - P ∧ (m_abs (nI P - 2 * nI k)).toInt = if (P : Int) - 2 * k < 0 then 2 * (k : Int) - P else (P : Int) - 2 * k := by
  have key : ∀ P : Fin 29, ∀ k : Fin 29, (nI P.val - 2 * nI k.val).toInt = (P.val : Int) - 2 * k.val ∧ (-(nI P.val - 2 * nI k.val)).toInt = 2 * (k.val : Int) - P.val ∧ (m_abs (nI P.val - 2 * nI k.val)).toInt = if (P.val : Int) - 2 * k.val < 0 then 2 * (k.val : Int) - P.val else (P.val : Int) - 2 * k.val := by decide +kernel
  exact key ⟨P, by omega⟩ ⟨k, by omega⟩
theorem r_ad_eq {o : Nat → Int64} {T : Nat → Nat} {P k : Nat} {tr : Int32} (hP : P ≤ 28) (hk : k ≤ 28) (ho : o k = lN (T k)) : r_ad o P (r_ab tr) k = lN (if m_abs (nI P - 2 * nI k) < m_abs tr then 0 else T k) := by
  obtain ⟨h1, h2, h3⟩ := z_own hP hk
  rw [r_ab_eq]
  unfold r_ad
  generalize m_abs tr = F
  by_cases c : m_abs (nI P - 2 * nI k) < F
  · rw [if_pos c]
    rw [Int32.lt_iff_toInt_lt, h3] at c
    have c1 : ¬ F ≤ nI P - 2 * nI k := by rw [Int32.le_iff_toInt_le, h1]; split at c <;> omega
    have c2 : -(nI P - 2 * nI k) < F := by rw [Int32.lt_iff_toInt_lt, h2]; split at c <;> omega
    rw [if_neg c1, if_pos c2]; rfl
  · rw [if_neg c]
    rw [Int32.lt_iff_toInt_lt, h3] at c
    by_cases c1 : F ≤ nI P - 2 * nI k
    · rw [if_pos c1]; exact ho
    · rw [if_neg c1]
      have c2 : ¬ -(nI P - 2 * nI k) < F := by
        rw [Int32.lt_iff_toInt_lt, h2]
        rw [Int32.le_iff_toInt_le, h1] at c1
        split at c <;> omega
      rw [if_neg c2]; exact ho
theorem r_abv_ok {o : Nat → Int64} {T : Nat → Nat} {P : Nat} {tr : Int32} (hP : P ≤ 28) (ho : ∀ k, k < 30 → o k = lN (T k)) : ∀ k, k ≤ 29 → r_abv o P (r_ab tr) k = lN (z_ab T P tr k)
  | 0, _ => rfl
  | k + 1, h => by
    show r_abv o P (r_ab tr) k + r_ad o P (r_ab tr) k = lN (z_ab T P tr k + (if m_abs (nI P - 2 * nI k) < m_abs tr then 0 else T k))
    rw [r_abv_ok hP ho k (by omega), r_ad_eq hP (by omega) (ho k (by omega)), lN_add]
theorem r_blw_ok {o : Nat → Int64} {T : Nat → Nat} (ho : ∀ k, k < 30 → o k = lN (T k)) : ∀ k, k ≤ 30 → r_blw o k = lN (z_bl T k)
  | 0, _ => rfl
  | k + 1, h => by
    show r_blw o k + o k = lN (z_bl T k + T k)
    rw [r_blw_ok ho k (by omega), ho k (by omega), lN_add]
/-- the numbers of orders of i + 1 values by their falls, written out -/
def z_tt (i : Nat) : List Nat := match i with
  | 0 => [1]
  | 1 => [1, 1]
  | 2 => [1, 2, 2, 1]
  | 3 => [1, 3, 5, 6, 5, 3, 1]
  | 4 => [1, 4, 9, 15, 20, 22, 20, 15, 9, 4, 1]
  | 5 => [1, 5, 14, 29, 49, 71, 90, 101, 101, 90, 71, 49, 29, 14, 5, 1]
  | 6 => [1, 6, 20, 49, 98, 169, 259, 359, 455, 531, 573, 573, 531, 455, 359, 259, 169, 98, 49, 20, 6, 1]
  | _ => [1, 7, 27, 76, 174, 343, 602, 961, 1415, 1940, 2493, 3017, 3450, 3736, 3836, 3736, 3450, 3017, 2493, 1940, 1415, 961, 602, 343, 174, 76, 27, 7, 1]
def z_tg (i k : Nat) : Nat := (z_tt i).getD k 0
theorem z_sm_congr {T T' : Nat → Nat} {k : Nat} (h : ∀ j, j ≤ k → T j = T' j) : ∀ s, z_sm T k s = z_sm T' k s
  | 0 => rfl
  | s + 1 => by
    show z_sm T k s + T (k - s) = z_sm T' k s + T' (k - s)
    rw [z_sm_congr h s, h (k - s) (by omega)]
theorem z_bl_congr {T T' : Nat → Nat} {N : Nat} (h : ∀ j, j < N → T j = T' j) : ∀ n, n ≤ N → z_bl T n = z_bl T' n
  | 0, _ => rfl
  | n + 1, hn => by
    show z_bl T n + T n = z_bl T' n + T' n
    rw [z_bl_congr h n (by omega), h n (by omega)]
theorem z_st : ∀ i : Fin 7, ∀ k : Fin 30, z_sm (z_tg i.val) k.val (min (2 + i.val) (k.val + 1)) = z_tg (i.val + 1) k.val := by decide +kernel
theorem z_tb_tg : ∀ i, i ≤ 7 → ∀ k, k < 30 → z_tb i k = z_tg i k
  | 0, _, 0, _ => rfl
  | 0, _, k + 1, _ => rfl
  | i + 1, h, k, hk => by
    show z_sm (z_tb i) k (min (2 + i) (k + 1)) = z_tg (i + 1) k
    rw [z_sm_congr (fun j hj => z_tb_tg i (by omega) j (by omega))]
    exact z_st ⟨i, by omega⟩ ⟨k, hk⟩
theorem z_bl_key : ∀ c : Fin 9, m_oo (c.val - 1) = nI (z_bl (z_tg (c.val - 1)) (c.val * (c.val - 1) / 2 + 1)) ∧ 0 < z_bl (z_tg (c.val - 1)) (c.val * (c.val - 1) / 2 + 1) ∧ z_bl (z_tg (c.val - 1)) (c.val * (c.val - 1) / 2 + 1) ≤ 40320 ∧ c.val * (c.val - 1) / 2 + 1 ≤ 30 := by decide +kernel
theorem z_bl_fact (c : Fin 9) : m_oo (c.val - 1) = nI (z_bl (z_tb (c.val - 1)) (c.val * (c.val - 1) / 2 + 1)) ∧ 0 < z_bl (z_tb (c.val - 1)) (c.val * (c.val - 1) / 2 + 1) ∧ z_bl (z_tb (c.val - 1)) (c.val * (c.val - 1) / 2 + 1) ≤ 40320 := by
  obtain ⟨k1, k2, k3, k4⟩ := z_bl_key c
  have hc := c.isLt
  have e := z_bl_congr (T := z_tb (c.val - 1)) (T' := z_tg (c.val - 1)) (N := 30) (fun j hj => z_tb_tg (c.val - 1) (by omega) j hj) (c.val * (c.val - 1) / 2 + 1) k4
  rw [e]
  exact ⟨k1, k2, k3⟩
theorem m_mx1_nI {x : Nat} (h0 : 0 < x) (h : x < 2 ^ 31) : m_mx1 (nI x) = nI x := by
  unfold m_mx1
  by_cases h1 : (1 : Int32) < nI x
  · rw [if_pos h1]
  · rw [if_neg h1]
    have : x = 1 := by
      rcases Nat.lt_or_ge 1 x with q | q
      · exact absurd (nI_lt (a := 1) q h) h1
      · omega
    rw [this]; rfl
theorem m_gcd_ok : ∀ (t x y : Nat), y ≤ x → 0 < x → x < 2 ^ 31 → x * y < 2 ^ t → m_gcd t (nI x) (nI y) = nI (Nat.gcd x y)
  | 0, x, y, hyx, h0, h, hp => by
    have : y = 0 := by
      rcases Nat.eq_zero_or_pos y with q | q
      · exact q
      · have := Nat.mul_pos h0 q; omega
    rw [this, Nat.gcd_zero_right]
    exact m_mx1_nI h0 h
  | t + 1, x, y, hyx, h0, h, hp => by
    unfold m_gcd
    by_cases hy : nI y = 0
    · rw [if_pos hy]
      have : y = 0 := by
        rcases Nat.eq_zero_or_pos y with q | q
        · exact q
        · exact absurd hy (nI_ne0 q (by omega))
      rw [this, Nat.gcd_zero_right]
      exact m_mx1_nI h0 h
    · rw [if_neg hy]
      have hy0 : 0 < y := by
        rcases Nat.eq_zero_or_pos y with q | q
        · exact absurd (show nI y = 0 from by rw [q]; rfl) hy
        · exact q
      rw [pk_rem h hy0 (by omega)]
      have hm := Nat.mod_lt x hy0
      have hd : y + x % y ≤ x := by
        have e := Nat.div_add_mod x y
        have : 1 ≤ x / y := Nat.div_pos hyx hy0
        have : y * 1 ≤ y * (x / y) := Nat.mul_le_mul_left y this
        omega
      have h2 : y * (2 * (x % y)) ≤ y * x := Nat.mul_le_mul_left y (by omega)
      have e3 : y * (2 * (x % y)) = 2 * (y * (x % y)) := by rw [← Nat.mul_assoc, Nat.mul_comm y 2, Nat.mul_assoc]
      have e4 : y * x = x * y := Nat.mul_comm y x
      have e5 : 2 ^ (t + 1) = 2 * 2 ^ t := by rw [Nat.pow_succ, Nat.mul_comm]
      rw [m_gcd_ok t y (x % y) (by omega) hy0 (by omega) (by omega)]
      rw [Nat.gcd_comm y, Nat.gcd_comm x, ← Nat.gcd_rec]
/-- the odds of both -/
theorem z_odds {g f : Nat → Int32} {o m : Nat → Int64} {c : Nat} {tr y : Int32} (hc : c ≤ 8) (htr : tr = m_ro f (c - 1)) :
    ∃ nA nB : Nat, r_abv (r_B o m (c - 1)).1 (c * (c - 1) / 2) (r_ab tr) (c * (c - 1) / 2 + 1) = lN nA ∧ r_blw (r_B o m (c - 1)).1 (c * (c - 1) / 2 + 1) = lN nB ∧ nA < 2 ^ 31 ∧ nB < 2 ^ 31 ∧ 0 < nB ∧ m_odds g f c y = if y = 0 then (lN nA / lN (Nat.gcd nA nB)).toInt32 else (lN nB / lN (Nat.gcd nA nB)).toInt32 := by
  obtain ⟨P, -, hP28, hP0⟩ := m_pairs hc
  obtain ⟨k1, k2, k3⟩ := z_bl_fact ⟨c, by omega⟩
  dsimp only at k1 k2 k3
  rw [← hP0] at k1 k2 k3 ⊢
  have hB := r_B_ok o m (c - 1)
  have hC := m_co_ok g (c - 1) (by omega)
  have hle := z_ab_le (z_tb (c - 1)) P tr (P + 1)
  refine ⟨z_ab (z_tb (c - 1)) P tr (P + 1), z_bl (z_tb (c - 1)) (P + 1), r_abv_ok hP28 hB (P + 1) (by omega), r_blw_ok hB (P + 1) (by omega), by omega, by omega, k2, ?_⟩
  unfold m_odds
  dsimp only
  rw [← hP0, ← htr, k1, m_far_ok hC (P + 1) (by omega)]
  generalize z_ab (z_tb (c - 1)) P tr (P + 1) = A at hle ⊢
  generalize z_bl (z_tb (c - 1)) (P + 1) = B at hle k2 k3 ⊢
  have hp : B * A < 2 ^ 64 := by
    have : B * A ≤ 40320 * 40320 := Nat.mul_le_mul k3 (by omega)
    omega
  rw [m_gcd_ok 64 B A hle k2 (by omega) hp]
  have hg0 : 0 < Nat.gcd B A := Nat.gcd_pos_of_pos_left A k2
  have hgl : Nat.gcd B A ≤ B := Nat.gcd_le_left A k2
  rw [Nat.gcd_comm A B]
  by_cases hy : y = 0
  · rw [if_pos hy, if_pos hy, pk_div (by omega) hg0 (by omega), pk_lDiv (by omega) hg0 (by omega), lN_i]
  · rw [if_neg hy, if_neg hy, pk_div (by omega) hg0 (by omega), pk_lDiv (by omega) hg0 (by omega), lN_i]
