/-! the class's world: addresses q, numbers of ints a (a 0: its own fields), of longs b (b 0: its own fields), n layers -/
abbrev zS : Type := (Nat → Nat → Int32) × (Nat → Nat → Int64) × (Nat → Nat → Int32)
abbrev tyG (g : Nat → ClassId) : List (ClassId × FieldType) := [(g 0, .int), (g 1, .long), (g 2, .object RX1)]
abbrev oL (q : Nat → Nat) (a : Nat → Int32) (b : Nat → Int64) : va_E := .inr (0, [.ref (q 1), .ref (q 2), .ref (q 3), .ref (q 4), .ref (q 5), .ref (q 6), .ref (q 7), .ref (q 8), .ref (q 9), .ref (q 10), .int (a 0), .int (a 1), .int (a 2), .long (b 0), .int (a 3), .int (a 4), .long (b 1), .long (b 2)])
abbrev oW (q : Nat → Nat) (a : Nat → Nat → Int32) (w : Nat) : va_E := .inr (1, [.ref (q (15 + w)), .int (a 11 w), .int (a 12 w)])
abbrev aI (g : Nat → ClassId) (n : Nat) (f : Nat → Int32) : va_E := .inl (g 0, n, .inl f)
abbrev aJ (g : Nat → ClassId) (n : Nat) (f : Nat → Int64) : va_E := .inl (g 1, n, .inr (.inl f))
def wL (g : Nat → ClassId) (q : Nat → Nat) (n : Nat) (a : Nat → Nat → Int32) (b : Nat → Nat → Int64) (v : Nat → Nat → Int32) : va_W :=
  [(q 0, oL q (a 0) (b 0)), (q 1, aJ g n (b 1)), (q 2, aI g n (a 2)), (q 3, aI g n (a 3)), (q 4, aI g 4 (a 4)), (q 5, aI g 4 (a 5)), (q 6, aI g 400 (a 6)), (q 7, aJ g 400 (b 7)), (q 8, aJ g 9 (b 8)), (q 9, .inl (g 2, 4, .inr (.inr (.inr (.inr (fun k => some (q (11 + k)))))))), (q 10, aI g 29 (a 10)),
   (q 11, oW q a 0), (q 12, oW q a 1), (q 13, oW q a 2), (q 14, oW q a 3), (q 15, aI g 8 (v 0)), (q 16, aI g 8 (v 1)), (q 17, aI g 8 (v 2)), (q 18, aI g 8 (v 3))]
theorem zw4 {w : Nat} (h : w < 4) : w = 0 ∨ w = 1 ∨ w = 2 ∨ w = 3 := by omega
theorem wL_w {g : Nat → ClassId} {q : Nat → Nat} {n : Nat} {a : Nat → Nat → Int32} {b : Nat → Nat → Int64} {v : Nat → Nat → Int32} (w : Nat) (h : w < 4) : (wL g q n a b v)[11 + w]? = some (q (11 + w), oW q a w) := by
  rcases zw4 h with rfl | rfl | rfl | rfl <;> rfl
theorem wL_v {g : Nat → ClassId} {q : Nat → Nat} {n : Nat} {a : Nat → Nat → Int32} {b : Nat → Nat → Int64} {v : Nat → Nat → Int32} (w : Nat) (h : w < 4) : (wL g q n a b v)[15 + w]? = some (q (15 + w), aI g 8 (v w)) := by
  rcases zw4 h with rfl | rfl | rfl | rfl <;> rfl
theorem wL_cnt (g : Nat → ClassId) (q : Nat → Nat) (n : Nat) (a : Nat → Nat → Int32) (b : Nat → Nat → Int64) (v : Nat → Nat → Int32) (w : Nat) (x : Int32) (h : w < 4) : (wL g q n a b v).set (11 + w) (q (11 + w), .inr (1, [.ref (q (15 + w)), .int x, .int (a 12 w)])) = wL g q n (va_up a 11 (upd (a 11) w x)) b v := by
  rcases zw4 h with rfl | rfl | rfl | rfl <;> rfl
theorem wL_lst (g : Nat → ClassId) (q : Nat → Nat) (n : Nat) (a : Nat → Nat → Int32) (b : Nat → Nat → Int64) (v : Nat → Nat → Int32) (w : Nat) (x : Int32) (h : w < 4) : (wL g q n a b v).set (11 + w) (q (11 + w), .inr (1, [.ref (q (15 + w)), .int (a 11 w), .int x])) = wL g q n (va_up a 12 (upd (a 12) w x)) b v := by
  rcases zw4 h with rfl | rfl | rfl | rfl <;> rfl
theorem wL_val (g : Nat → ClassId) (q : Nat → Nat) (n : Nat) (a : Nat → Nat → Int32) (b : Nat → Nat → Int64) (v : Nat → Nat → Int32) (w : Nat) (f : Nat → Int32) (h : w < 4) : (wL g q n a b v).set (15 + w) (q (15 + w), aI g 8 f) = wL g q n a b (va_up v w f) := by
  rcases zw4 h with rfl | rfl | rfl | rfl <;> rfl
/-! what the class's methods compute -/
def m_within (v lo hi : Int64) : Bool := decide (lo ≤ v) && decide (v ≤ hi)
def m_parts (x : Int32) : Bool := m_within x.toInt64 0 1000
def m_of (x : Int32) (v : Int64) : Int64 := v * x.toInt64 / 1000
def m_isLayer (n : Nat) (k : Int32) : Bool := m_within k.toInt64 0 (nI n - 1).toInt64
def m_isWell (k : Int32) : Bool := m_within k.toInt64 0 3
def m_days (nd d : Int32) : Bool := m_within d.toInt64 1 100 && decide (nd + d ≤ 400)
def m_max0 (x : Int64) : Int64 := if x < 0 then 0 else x
def m_min (x y : Int64) : Int64 := if y < x then y else x
/-- the water behind k layers, and what goes out of the last of them -/
def m_pd (hs ps : Nat → Int32) (f : Nat → Int64) : Nat → (Nat → Int64) × Int64
  | 0 => (f, 0)
  | k + 1 =>
    let r := m_pd hs ps f k
    let x := r.1 k + r.2
    let o := m_of (ps k) (m_max0 (x - (hs k).toInt64))
    (vp_updL (vp_updL r.1 k x) k (x - o), o)
/-- rain r comes in -/
def m_in (a : Nat → Nat → Int32) (b : Nat → Nat → Int64) (r : Int64) : Nat → Nat → Int64 :=
  va_up (va_up b 1 (vp_updL (b 1) 0 (b 1 0 + (r - m_of (a 0 0) r + b 8 8)))) 8 (vp_updL (vp_updL (b 8) 0 (b 8 0 + r)) 1 (b 8 1 + m_of (a 0 0) r))
/-- x seeped -/
def m_fill (a : Nat → Nat → Int32) (b : Nat → Nat → Int64) (x : Int64) : Nat → Nat → Int64 :=
  let dr := m_of (a 0 1) x
  let fl := b 8 7 + dr
  let ab := m_max0 (fl - b 0 0)
  va_up b 8 (vp_updL (vp_updL (vp_updL (vp_updL (b 8) 2 (b 8 2 + x)) 3 (b 8 3 + (x - dr))) 4 (b 8 4 + ab)) 7 (fl - ab))
/-- the sums and what flows behind k stages -/
def m_cl (rs ks : Nat → Int32) (f : Nat → Int64) : Nat → (Nat → Int64) × Int64
  | 0 => (vp_updL f 7 0, f 7)
  | k + 1 =>
    let r := m_cl rs ks f k
    let t := m_min (rs k).toInt64 r.2
    let kp := m_of (ks k) t
    (vp_updL (vp_updL r.1 7 (r.1 7 + (r.2 - t))) 5 (r.1 5 + kp), t - kp)
def m_clean (sc : Nat) (a : Nat → Nat → Int32) (b : Nat → Nat → Int64) : Int64 × (Nat → Nat → Int64) :=
  if sc = 0 then (0, b) else ((m_cl (a 4) (a 5) (b 8) sc).2, va_up b 8 (m_cl (a 4) (a 5) (b 8) sc).1)
def m_part (a : Nat → Nat → Int32) (b : Nat → Nat → Int64) (x : Int64) : Int64 × (Nat → Nat → Int64) :=
  (x - m_of (a 0 2) x, va_up b 8 (vp_updL (vp_updL (b 8) 8 (m_of (a 0 2) x)) 6 (b 8 6 + (x - m_of (a 0 2) x))))
/-- a day: the longs behind it -/
def m_day (n sc : Nat) (a : Nat → Nat → Int32) (b : Nat → Nat → Int64) (d : Nat) : Nat → Nat → Int64 :=
  let b1 := m_in a b (a 6 d).toInt64
  let r := m_pd (a 2) (a 3) (b1 1) n
  let b3 := m_fill a (va_up b1 1 r.1) r.2
  let c := m_clean sc a b3
  let e := m_part a c.2 c.1
  va_up e.2 7 (vp_updL (e.2 7) d e.1)
def m_run (n sc : Nat) (a : Nat → Nat → Int32) (b : Nat → Nat → Int64) (d : Nat) : Nat → Nat → Nat → Int64
  | 0 => b
  | i + 1 => m_day n sc a (m_run n sc a b d i) (d + i)
/-- the seeds and the rains of i days of a storm -/
def m_st (f : Nat → Int32) (x : Int64) (d : Nat) : Nat → Int64 × (Nat → Int32)
  | 0 => (x, f)
  | i + 1 =>
    let r := m_st f x d i
    let y := r.1 * 6364136223846793005 + 1442695040888963407
    (y, upd r.2 (d + i) (y.toUInt64 >>> ((54 : Int32).toInt64.toUInt64 &&& Int64.toUInt64 63)).toInt64.toInt32)
/-- what is left when i layers' water is taken off -/
def m_bal (f : Nat → Int64) (x : Int64) : Nat → Int64
  | 0 => x
  | i + 1 => m_bal f x i - f i
/-- days from i on, t of them, so many seen before -/
def m_dp (f : Nat → Int64) (lim : Int64) (k : Int32) : Nat → Nat → Int32 → Int32
  | 0, _, _ => -1
  | t + 1, i, z => if f i ≤ lim then m_dp f lim k t (i + 1) z else if z = k then nI i else m_dp f lim k t (i + 1) (z + 1)
def m_mp (f : Nat → Int64) (lim : Int64) (k : Int32) : Nat → Nat → Int64 → Int32 → Int32
  | 0, _, _, _ => -1
  | t + 1, i, x, z => if x + f i ≤ lim * (nI (i + 1)).toInt64 then m_mp f lim k t (i + 1) (x + f i) z else if z = k then nI i else m_mp f lim k t (i + 1) (x + f i) (z + 1)
/-! rows on these -/
theorem m_w1 {v lo hi : Int64} (h1 : ¬ v < lo) (h2 : ¬ hi < v) : (1 : Int32) = zb (m_within v lo hi) := by
  have e1 : lo ≤ v := by rw [Int64.le_iff_toInt_le]; rw [Int64.lt_iff_toInt_lt] at h1; omega
  have e2 : v ≤ hi := by rw [Int64.le_iff_toInt_le]; rw [Int64.lt_iff_toInt_lt] at h2; omega
  simp [zb, m_within, e1, e2]
theorem m_w2 {v lo hi : Int64} (h1 : v < lo) : (0 : Int32) = zb (m_within v lo hi) := by
  have e1 : ¬ lo ≤ v := by rw [Int64.le_iff_toInt_le]; rw [Int64.lt_iff_toInt_lt] at h1; omega
  simp [zb, m_within, e1]
theorem m_w3 {v lo hi : Int64} (h1 : hi < v) : (0 : Int32) = zb (m_within v lo hi) := by
  have e1 : ¬ v ≤ hi := by rw [Int64.le_iff_toInt_le]; rw [Int64.lt_iff_toInt_lt] at h1; omega
  simp [zb, m_within, e1]
theorem m_wi {v lo hi : Int64} : m_within v lo hi = true ↔ lo.toInt ≤ v.toInt ∧ v.toInt ≤ hi.toInt := by
  simp [m_within, Int64.le_iff_toInt_le]
theorem m_d1 {nd d : Int32} (h : m_within d.toInt64 1 100 = false) : (0 : Int32) = zb (m_days nd d) := by simp [zb, m_days, h]
theorem m_d2 {nd d : Int32} (h : 400 < nd + d) : (0 : Int32) = zb (m_days nd d) := by
  have e : ¬ nd + d ≤ 400 := by rw [Int32.le_iff_toInt_le]; rw [Int32.lt_iff_toInt_lt] at h; omega
  simp [zb, m_days, e]
theorem m_d3 {nd d : Int32} (h : m_within d.toInt64 1 100 = true) (h2 : ¬ 400 < nd + d) : (1 : Int32) = zb (m_days nd d) := by
  have e : nd + d ≤ 400 := by rw [Int32.le_iff_toInt_le]; rw [Int32.lt_iff_toInt_lt] at h2; omega
  simp [zb, m_days, h, e]
theorem m_i2l (x : Int32) : x.toInt64.toInt = x.toInt := Int32.toInt_toInt64 x
/-- a number between 0 and m: it is one -/
theorem m_num {x : Int32} {m : Nat} (h0 : 0 ≤ x.toInt) (h1 : x.toInt ≤ (m : Int)) : ∃ k : Nat, k ≤ m ∧ x = nI k := by
  have hx : ¬ x < 0 := by
    rw [Int32.lt_iff_toInt_lt]
    have : (0 : Int32).toInt = 0 := by decide
    omega
  obtain ⟨j, hj, rfl⟩ := nI_of hx
  rw [nI_toInt hj] at h1
  exact ⟨j, by omega, rfl⟩
theorem m_days_k {d : Nat} {x : Int32} (hd : d ≤ 400) (h : m_days (nI d) x = true) : ∃ k : Nat, 1 ≤ k ∧ k ≤ 100 ∧ d + k ≤ 400 ∧ x = nI k := by
  unfold m_days at h
  rw [Bool.and_eq_true, m_wi, m_i2l, decide_eq_true_eq] at h
  have e1 : (1 : Int64).toInt = 1 := by decide
  have e2 : (100 : Int64).toInt = 100 := by decide
  rw [e1, e2] at h
  obtain ⟨k, hk, rfl⟩ := m_num (x := x) (m := 100) (by omega) (by omega)
  have h3 := h.2
  rw [nI_add, Int32.le_iff_toInt_le, nI_toInt (by omega)] at h3
  have e3 : (400 : Int32).toInt = 400 := by decide
  have h4 := h.1
  rw [nI_toInt (by omega)] at h4
  exact ⟨k, by omega, hk, by omega, rfl⟩
theorem m_layer_k {n : Nat} {x : Int32} (hn : 1 ≤ n ∧ n ≤ 6) (h : m_isLayer n x = true) : ∃ k : Nat, k < n ∧ x = nI k := by
  unfold m_isLayer at h
  rw [m_wi, m_i2l, m_i2l] at h
  have e1 : (0 : Int64).toInt = 0 := by decide
  obtain ⟨j, rfl⟩ : ∃ j, n = j + 1 := ⟨n - 1, by omega⟩
  rw [nI_pred, nI_toInt (by omega), e1] at h
  obtain ⟨k, hk, rfl⟩ := m_num (x := x) (m := j) (by omega) (by omega)
  exact ⟨k, by omega, rfl⟩
theorem m_rng {x : Int32} {m : Nat} {lo hi : Int64} (hlo : lo.toInt = 0) (hhi : hi.toInt = (m : Int)) (h : m_within x.toInt64 lo hi = true) : ∃ k : Nat, k ≤ m ∧ x = nI k := by
  rw [m_wi, m_i2l, hlo, hhi] at h
  exact m_num h.1 h.2
theorem m_nd0 {a : Nat → Nat → Int32} {d : Nat} (h : a 0 4 = nI d) : va_up a 0 (upd (a 0) 4 (nI (d + 0))) = a := by
  funext i j
  unfold va_up upd
  by_cases h0 : i = 0
  · subst h0
    by_cases h4 : j = 4
    · subst h4; simp [h]
    · simp [h4]
  · simp [h0]
/-! wells -/
def m_cmp (x y : Int32) : Int32 := if x < y then -1 else if x = y then 0 else 1
def m_has (f : Nat → Int32) (v : Int32) (c : Nat) : Bool := (List.range c).any (fun i => decide (f i = v))
def m_ri (f : Nat → Int32) (j : Nat) (z : Int32) : Nat → Int32
  | 0 => z
  | i + 1 => m_ri f j z i + m_cmp (f j) (f i)
def m_ro (f : Nat → Int32) : Nat → Int32
  | 0 => 0
  | j + 1 => m_ri f (1 + j) (m_ro f j) (1 + j)
def m_oo : Nat → Int32
  | 0 => 1
  | i + 1 => m_oo i * nI (2 + i)
def m_mx1 (x : Int32) : Int32 := if 1 < x then x else 1
def m_abs (x : Int32) : Int32 := if 0 ≤ x then x else 0 - x
def m_gcd : Nat → Int32 → Int32 → Int32
  | 0, x, _ => m_mx1 x
  | t + 1, x, y => if y = 0 then m_mx1 x else m_gcd t y (x - x / y * y)
def m_fil (v : Int32) (f : Nat → Int32) : Nat → Nat → Int32
  | 0 => f
  | i + 1 => upd (m_fil v f i) i v
def m_av1 (f : Nat → Int32) : Nat → Nat → Int32
  | 0 => f
  | i + 1 => upd (m_av1 f i) (1 + i) (m_av1 f i (1 + i) + m_av1 f i i)
def m_av2 (z : Nat) (f : Nat → Int32) : Nat → Nat → Int32
  | 0 => f
  | i + 1 => upd (m_av2 z f i) (28 - i) (m_av2 z f i (28 - i) - m_av2 z f i (28 - i - z))
def m_av (z : Nat) (f : Nat → Int32) : Nat → Int32 := m_av2 z (m_av1 f 28) (29 - z)
def m_co (f : Nat → Int32) : Nat → Nat → Int32
  | 0 => upd (m_fil 0 f 29) 0 1
  | i + 1 => m_av (2 + i) (m_co f i)
def m_far (f : Nat → Int32) (P : Int32) (tr : Int32) : Nat → Int32
  | 0 => 0
  | i + 1 => if m_abs (P - 2 * nI i) < m_abs tr then m_far f P tr i else m_far f P tr i + f i
theorem m_has_t {f : Nat → Int32} {v : Int32} {c i : Nat} (hi : i < c) (h : f i = v) : (1 : Int32) = zb (m_has f v c) := by
  have e : m_has f v c = true := by
    unfold m_has
    rw [List.any_eq_true]
    exact ⟨i, List.mem_range.mpr hi, by simp [h]⟩
  rw [e]; rfl
theorem m_has_f {f : Nat → Int32} {v : Int32} {c : Nat} (h : ∀ j, j < c → ¬ f j = v) : (0 : Int32) = zb (m_has f v c) := by
  have e : m_has f v c = false := by
    unfold m_has
    rw [List.any_eq_false]
    intro j hj
    simp [h j (List.mem_range.mp hj)]
  rw [e]; rfl
theorem m_rain_k {d : Nat} {x : Int32} (hd : d ≤ 400) (h : m_within x.toInt64 (nI d).toInt64 399 = true) : ∃ k : Nat, d ≤ k ∧ k ≤ 399 ∧ x = nI k := by
  rw [m_wi, m_i2l, m_i2l, nI_toInt (by omega)] at h
  have e : (399 : Int64).toInt = 399 := by decide
  obtain ⟨k, hk, rfl⟩ := m_num (x := x) (m := 399) (by omega) (by omega)
  rw [nI_toInt (by omega)] at h
  exact ⟨k, by omega, hk, rfl⟩
/-- the odds' part y (0: above) of a well's c values f, by the class's way -/
def m_odds (g f : Nat → Int32) (c : Nat) (y : Int32) : Int32 :=
  let P := c * (c - 1) / 2
  let far := m_far (m_co g (c - 1)) (nI P) (m_ro f (c - 1)) (P + 1)
  let all := m_oo (c - 1)
  (if y = 0 then far else all) / m_gcd 64 all far
theorem m_pairs {c : Nat} (h : c ≤ 8) : ∃ P : Nat, nI c * (nI c - 1) / 2 = nI P ∧ P ≤ 28 ∧ P = c * (c - 1) / 2 := by
  have key : ∀ c : Fin 9, nI c.val * (nI c.val - 1) / 2 = nI (c.val * (c.val - 1) / 2) ∧ c.val * (c.val - 1) / 2 ≤ 28 := by decide +kernel
  have k := key ⟨c, by omega⟩
  exact ⟨_, k.1, k.2, rfl⟩
theorem m_mx1_ne (x : Int32) : ¬ m_mx1 x = 0 := by
  unfold m_mx1
  by_cases h : 1 < x
  · rw [if_pos h]
    intro h2
    rw [h2] at h
    exact absurd h (by decide)
  · rw [if_neg h]
    decide
theorem m_gcd_ne : ∀ (t : Nat) (x y : Int32), ¬ m_gcd t x y = 0
  | 0, x, _ => m_mx1_ne x
  | t + 1, x, y => by
    unfold m_gcd
    by_cases h : y = 0
    · rw [if_pos h]; exact m_mx1_ne x
    · rw [if_neg h]; exact m_gcd_ne t _ _
/-! a new object -/
def m_n (x : Int32) : Nat := if m_within x.toInt64 1 6 = true then x.toNatClampNeg else 1
def m_a0 (n : Nat) : Nat → Nat → Int32 := fun i => if i = 3 then m_fil 1000 (fun _ => 0) n else if i = 12 then fun _ => -1 else fun _ => 0
def m_b0 : Nat → Nat → Int64 := fun i j => if i = 0 then (if j = 0 then 0 else -1) else 0
theorem m_n_k {x : Int32} (h : m_within x.toInt64 1 6 = true) : ∃ k : Nat, (1 ≤ k ∧ k ≤ 6) ∧ m_n x = k ∧ x = nI k := by
  have h2 := h
  rw [m_wi, m_i2l] at h2
  have e1 : (1 : Int64).toInt = 1 := by decide
  have e2 : (6 : Int64).toInt = 6 := by decide
  rw [e1, e2] at h2
  obtain ⟨k, hk, rfl⟩ := m_num (x := x) (m := 6) (by omega) (by omega)
  rw [nI_toInt (by omega)] at h2
  refine ⟨k, by omega, ?_, rfl⟩
  unfold m_n
  rw [if_pos h, nI_clamp (by omega)]
theorem m_cmp1 {x y : Int32} (h : ¬ y ≤ x) : (-1 : Int32) = m_cmp x y := by
  have e : x < y := by rw [Int32.lt_iff_toInt_lt]; rw [Int32.le_iff_toInt_le] at h; omega
  unfold m_cmp
  rw [if_pos e]
theorem m_cmp2 {x y : Int32} (h : y ≤ x) (h2 : x = y) : (0 : Int32) = m_cmp x y := by
  have e : ¬ x < y := by rw [Int32.lt_iff_toInt_lt]; rw [Int32.le_iff_toInt_le] at h; omega
  unfold m_cmp
  rw [if_neg e, if_pos h2]
theorem m_cmp3 {x y : Int32} (h : y ≤ x) (h2 : ¬ x = y) : (1 : Int32) = m_cmp x y := by
  have e : ¬ x < y := by rw [Int32.lt_iff_toInt_lt]; rw [Int32.le_iff_toInt_le] at h; omega
  unfold m_cmp
  rw [if_neg e, if_neg h2]
