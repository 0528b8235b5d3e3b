/-! the reference's world -/
def wM (g : Nat → ClassId) (q : Nat → Nat) (a : Nat → Nat → Int32) (b : Nat → Nat → Int64) : va_W :=
  [(q 0, .inr (2, [.int (a 0 5), .ref (q 1), .ref (q 2), .ref (q 3), .int (a 0 0), .int (a 0 1), .int (a 0 2), .long (b 0 0), .int (a 0 3), .ref (q 4), .ref (q 5), .ref (q 6), .int (a 0 4), .ref (q 8), .ref (q 7), .long (b 0 1), .long (b 0 2), .ref (q 9), .ref (q 10), .ref (q 11), .ref (q 12), .ref (q 13)])),
   (q 1, aJ g 6 (b 1)), (q 2, aI g 6 (a 2)), (q 3, aI g 6 (a 3)), (q 4, aI g 4 (a 4)), (q 5, aI g 4 (a 5)), (q 6, aI g 400 (a 6)), (q 7, aJ g 400 (b 7)), (q 8, aJ g 9 (b 8)), (q 9, aI g 4 (a 9)), (q 10, aI g 32 (a 10)), (q 11, aI g 32 (a 11)), (q 12, aJ g 30 (b 12)), (q 13, aJ g 30 (b 13))]
abbrev zT : Type := (Nat → Nat → Int32) × (Nat → Nat → Int64)
theorem m_p1 {x : Int32} (h : x < 0) : (0 : Int32) = zb (m_parts x) := by
  have e : m_parts x = false := by
    rw [Bool.eq_false_iff]
    unfold m_parts
    intro h2
    rw [m_wi, m_i2l] at h2
    rw [Int32.lt_iff_toInt_lt] at h
    have e1 : (0 : Int64).toInt = 0 := by decide
    have e2 : (0 : Int32).toInt = 0 := by decide
    omega
  rw [e]; rfl
theorem m_p2 {x : Int32} (h : 1000 < x) : (0 : Int32) = zb (m_parts x) := by
  have e : m_parts x = false := by
    rw [Bool.eq_false_iff]
    unfold m_parts
    intro h2
    rw [m_wi, m_i2l] at h2
    rw [Int32.lt_iff_toInt_lt] at h
    have e1 : (1000 : Int64).toInt = 1000 := by decide
    have e2 : (1000 : Int32).toInt = 1000 := by decide
    omega
  rw [e]; rfl
theorem m_p3 {x : Int32} (h : ¬ x < 0) (h1 : ¬ 1000 < x) : (1 : Int32) = zb (m_parts x) := by
  have e : m_parts x = true := by
    unfold m_parts
    rw [m_wi, m_i2l]
    rw [Int32.lt_iff_toInt_lt] at h h1
    have e1 : (0 : Int64).toInt = 0 := by decide
    have e2 : (0 : Int32).toInt = 0 := by decide
    have e3 : (1000 : Int64).toInt = 1000 := by decide
    have e4 : (1000 : Int32).toInt = 1000 := by decide
    omega
  rw [e]; rfl
theorem m_q1 {x : Int32} (h : x < 0) : (0 : Int32) = zb (m_isWell x) := by
  have e : m_isWell x = false := by
    rw [Bool.eq_false_iff]
    unfold m_isWell
    intro h2
    rw [m_wi, m_i2l] at h2
    rw [Int32.lt_iff_toInt_lt] at h
    have e1 : (0 : Int64).toInt = 0 := by decide
    have e2 : (0 : Int32).toInt = 0 := by decide
    omega
  rw [e]; rfl
theorem m_q2 {x : Int32} (h : 4 ≤ x) : (0 : Int32) = zb (m_isWell x) := by
  have e : m_isWell x = false := by
    rw [Bool.eq_false_iff]
    unfold m_isWell
    intro h2
    rw [m_wi, m_i2l] at h2
    rw [Int32.le_iff_toInt_le] at h
    have e1 : (3 : Int64).toInt = 3 := by decide
    have e2 : (4 : Int32).toInt = 4 := by decide
    omega
  rw [e]; rfl
theorem m_q3 {x : Int32} (h : ¬ x < 0) (h1 : ¬ 4 ≤ x) : (1 : Int32) = zb (m_isWell x) := by
  have e : m_isWell x = true := by
    unfold m_isWell
    rw [m_wi, m_i2l]
    rw [Int32.lt_iff_toInt_lt] at h
    rw [Int32.le_iff_toInt_le] at h1
    have e1 : (0 : Int64).toInt = 0 := by decide
    have e2 : (0 : Int32).toInt = 0 := by decide
    have e3 : (3 : Int64).toInt = 3 := by decide
    have e4 : (4 : Int32).toInt = 4 := by decide
    omega
  rw [e]; rfl
theorem m_selfA (a : Nat → Nat → Int32) (i j : Nat) : va_up a i (upd (a i) j (a i j)) = a := by
  funext x y
  unfold va_up upd
  by_cases h : x = i
  · subst h
    by_cases h2 : y = j
    · subst h2; simp
    · simp [h2]
  · simp [h]
theorem m_selfB (a : Nat → Nat → Int64) (i j : Nat) : va_up a i (vp_updL (a i) j (a i j)) = a := by
  funext x y
  unfold va_up vp_updL
  by_cases h : x = i
  · subst h
    by_cases h2 : y = j
    · subst h2; simp
    · simp [h2]
  · simp [h]
theorem m_min_ge {x y : Int64} (h : x ≤ y) : x = m_min x y := by
  have e : ¬ y < x := by rw [Int64.lt_iff_toInt_lt]; rw [Int64.le_iff_toInt_le] at h; omega
  unfold m_min; rw [if_neg e]
theorem m_min_lt {x y : Int64} (h : ¬ x ≤ y) : y = m_min x y := by
  have e : y < x := by rw [Int64.lt_iff_toInt_lt]; rw [Int64.le_iff_toInt_le] at h; omega
  unfold m_min; rw [if_pos e]
theorem m_out0 {p : Int32} {x : Int64} (h : x ≤ 0) : (0 : Int64) = m_of p (m_max0 x) := by
  have e0 : (0 : Int64) * p.toInt64 / 1000 = 0 := by rw [Int64.zero_mul]; decide
  have e : m_max0 x = 0 := by
    unfold m_max0
    by_cases h2 : x < 0
    · rw [if_pos h2]
    · rw [if_neg h2]
      apply Int64.toInt_inj.mp
      rw [Int64.lt_iff_toInt_lt] at h2
      rw [Int64.le_iff_toInt_le] at h
      omega
  rw [e]
  exact e0.symm
theorem m_out1 {p : Int32} {x : Int64} (h : ¬ x ≤ 0) : m_of p x = m_of p (m_max0 x) := by
  have e : m_max0 x = x := by
    unfold m_max0
    have h2 : ¬ x < 0 := by rw [Int64.lt_iff_toInt_lt]; rw [Int64.le_iff_toInt_le] at h; omega
    rw [if_neg h2]
  rw [e]
/-! what the reference's methods compute -/
def r_cl (rs ks : Nat → Int32) (f : Nat → Int64) : Nat → (Nat → Int64) × Int64 × Int64
  | 0 => (f, f 7, 0)
  | k + 1 =>
    let r := r_cl rs ks f k
    let t := m_min (rs k).toInt64 r.2.1
    let kp := m_of (ks k) t
    (vp_updL r.1 5 (r.1 5 + kp), t - kp, r.2.2 + (r.2.1 - t))
def r_stg (sc : Nat) (a : Nat → Nat → Int32) (b : Nat → Nat → Int64) (d : Nat) : Nat → Nat → Int64 :=
  if sc = 0 then b else
    let r := r_cl (a 4) (a 5) (b 8) sc
    let gb := m_of (a 0 2) r.2.1
    va_up (va_up b 7 (vp_updL (b 7) d (r.2.1 - gb))) 8 (vp_updL (vp_updL (vp_updL r.1 7 r.2.2) 8 gb) 6 (r.1 6 + (r.2.1 - gb)))
def r_in (a : Nat → Nat → Int32) (b : Nat → Nat → Int64) (r : Int64) : Nat → Nat → Int64 :=
  va_up (va_up b 1 (vp_updL (b 1) 0 (b 1 0 + (r - m_of (a 0 0) r + b 8 8)))) 8 (vp_updL (vp_updL (vp_updL (b 8) 0 (b 8 0 + r)) 1 (b 8 1 + m_of (a 0 0) r)) 8 0)
def r_over (t r : Int64) : Int64 := if t ≤ r then 0 else t - r
def r_mid (n : Nat) (a : Nat → Nat → Int32) (b : Nat → Nat → Int64) (d : Nat) : Nat → Nat → Int64 :=
  let b1 := r_in a b (a 6 d).toInt64
  let r := m_pd (a 2) (a 3) (b1 1) n
  let dr := m_of (a 0 1) r.2
  let t := b1 8 7 + dr
  let ov := r_over t (b 0 0)
  va_up (va_up (va_up b1 1 r.1) 7 (vp_updL (b1 7) d 0)) 8 (vp_updL (vp_updL (vp_updL (vp_updL (vp_updL (b1 8) 2 (b1 8 2 + r.2)) 3 (b1 8 3 + (r.2 - dr))) 7 t) 4 (b1 8 4 + ov)) 7 (t - ov))
def r_day (n sc : Nat) (a : Nat → Nat → Int32) (b : Nat → Nat → Int64) (d : Nat) : Nat → Nat → Int64 := r_stg sc a (r_mid n a b d) d
def r_run (n sc : Nat) (a : Nat → Nat → Int32) (b : Nat → Nat → Int64) (d : Nat) : Nat → Nat → Nat → Int64
  | 0 => b
  | i + 1 => r_day n sc a (r_run n sc a b d i) (d + i)
def r_ti (f : Nat → Int32) (i : Nat) (z : Int32) : Nat → Int32
  | 0 => z
  | j + 1 => r_ti f i z j + (if f (i + 1 + j) ≤ f i then -1 else 1)
def r_to (f : Nat → Int32) (c : Nat) : Nat → Int32
  | 0 => 0
  | i + 1 => r_ti f i (r_to f c i) (c - (i + 1))
def r_o0 (f : Nat → Int64) : Nat → Nat → Int64
  | 0 => f
  | k + 1 => vp_updL (r_o0 f k) k (if k = 0 then 1 else 0)
def r_D (o m : Nat → Int64) (k : Nat) : Nat → Nat → Int64
  | 0 => vp_updL m k 0
  | t + 1 => vp_updL (r_D o m k t) k (r_D o m k t k + o (k - t))
def r_C (o m : Nat → Int64) (z : Nat) : Nat → Nat → Int64
  | 0 => m
  | k + 1 => r_D o (r_C o m z k) k (min z (k + 1))
def r_E (o m : Nat → Int64) : Nat → Nat → Int64
  | 0 => o
  | k + 1 => vp_updL (r_E o m k) k (m k)
def r_B (o m : Nat → Int64) : Nat → (Nat → Int64) × (Nat → Int64)
  | 0 => (r_o0 o 30, m)
  | i + 1 =>
    let r := r_B o m i
    let m2 := r_C r.1 r.2 (2 + i) 30
    (r_E r.1 m2 30, m2)
def r_ab (t : Int32) : Int32 := if 0 ≤ t then t else -t
def r_ad (o : Nat → Int64) (P : Nat) (F : Int32) (k : Nat) : Int64 := if F ≤ nI P - 2 * nI k then o k else if -(nI P - 2 * nI k) < F then 0 else o k
def r_abv (o : Nat → Int64) (P : Nat) (F : Int32) : Nat → Int64
  | 0 => 0
  | k + 1 => r_abv o P F k + r_ad o P F k
def r_blw (o : Nat → Int64) : Nat → Int64
  | 0 => 0
  | k + 1 => r_blw o k + o k
