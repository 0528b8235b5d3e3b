theorem zi_map {S S' : Type} {l : Launch} {D : va_G} {tys : List (ClassId × FieldType)} {y : MethodName} {cc : ByteArray} {maxL : Nat} {ret : Option FieldType} {rm : Room} {av : List Value} {w0 : va_W} {post : Int32 → S → Prop} {post' : Int32 → S' → Prop} {w1 : S → va_W} {w1' : S' → va_W} {mc ms : Nat} (φ : S → S') (hw : ∀ u, w1' (φ u) = w1 u) (h : ∀ r u, post r u → post' r (φ u)) (hM : zc_i l D tys y cc maxL ret rm av w0 post w1 mc ms) : zc_i l D tys y cc maxL ret rm av w0 post' w1' mc ms := by
  intro sz
  refine MetFree.mono (hM sz) (fun _ _ h => h) (fun _ _ _ _ _ h => h) (fun a U o t _ hq => ?_)
  obtain ⟨⟨⟨r, u, hoc, hp, hP1, hD1⟩, hF⟩, hr⟩ := hq
  exact ⟨⟨⟨r, φ u, hoc, h r u hp, by rw [hw]; exact hP1, by rw [hw]; exact hD1⟩, hF⟩, hr⟩
theorem m_w01 {x : Int32} (h0 : ¬ x = 0) (h1 : ¬ x = 1) : m_within x.toInt64 0 1 = false := by
  rw [Bool.eq_false_iff]
  intro h
  rw [m_wi, m_i2l] at h
  have e1 : (0 : Int64).toInt = 0 := by decide
  have e2 : (1 : Int64).toInt = 1 := by decide
  rw [e1, e2] at h
  have f0 : (0 : Int32).toInt = 0 := by decide
  have f1 : (1 : Int32).toInt = 1 := by decide
  rcases (show x.toInt = 0 ∨ x.toInt = 1 by omega) with e | e
  · exact h0 (Int32.toInt_inj.mp (by rw [e, f0]))
  · exact h1 (Int32.toInt_inj.mp (by rw [e, f1]))
theorem c_M_passed (l : Launch) (D : va_G) (g : Nat → ClassId) (q : Nat → Nat) (a : Nat → Nat → Int32) (b : Nat → Nat → Int64) (d : Nat) (hd : a 0 4 = nI d) (hd4 : d ≤ 400) (x k : Int32) : zc_i l D (tyG g) yX2_passed cX2_passed 10 (some .int) rm_M_passed [.ref (q 0), .int x, .int k] (wM g q a b) (fun (r : Int32) (u : Unit) => r = if x = 0 then (if b 0 1 < 0 then -1 else m_dp (b 7) (b 0 1) k d 0 0) else if x = 1 then (if b 0 2 < 0 then -1 else m_mp (b 7) (b 0 2) k d 0 0 0) else -1) (fun _ => wM g q a b) 0 0 := by
  by_cases h0 : x = 0
  · subst h0
    by_cases hng : b 0 1 < 0
    · exact zi_map (fun u => u) (fun _ => rfl) (fun r u h => by rw [if_pos rfl, if_pos hng]; exact h) (c_M_passed_0n l D g q a b d hd hd4 k hng)
    · exact zi_map (fun u => u) (fun _ => rfl) (fun r u h => by rw [if_pos rfl, if_neg hng]; exact h) (c_M_passed_0p l D g q a b d hd hd4 k hng)
  · by_cases h1 : x = 1
    · subst h1
      by_cases hng : b 0 2 < 0
      · exact zi_map (fun u => u) (fun _ => rfl) (fun r u h => by rw [if_neg h0, if_pos rfl, if_pos hng]; exact h) (c_M_passed_1n l D g q a b d hd hd4 k hng)
      · exact zi_map (fun u => u) (fun _ => rfl) (fun r u h => by rw [if_neg h0, if_pos rfl, if_neg hng]; exact h) (c_M_passed_1p l D g q a b d hd hd4 k hng)
    · exact zi_map (fun u => u) (fun _ => rfl) (fun r u h => by rw [if_neg h0, if_neg h1]; exact h) (c_M_passed_o l D g q a b x k (m_w01 h0 h1))
theorem m_well_k {x : Int32} (h : m_isWell x = true) : ∃ w : Nat, w < 4 ∧ x = nI w ∧ x.toNatClampNeg = w := by
  obtain ⟨w, hw, rfl⟩ := m_rng (m := 3) (by decide) (by decide) h
  exact ⟨w, by omega, rfl, nI_clamp (by omega)⟩
theorem c_M_trend (l : Launch) (D : va_G) (g : Nat → ClassId) (q : Nat → Nat) (a : Nat → Nat → Int32) (b : Nat → Nat → Int64) (cn : Nat → Nat) (hcn : ∀ w, w < 4 → a 9 w = nI (cn w) ∧ cn w ≤ 8) (x : Int32) : zc_i l D (tyG g) yX2_trend cX2_trend 5 (some .int) rm_M_trend [.ref (q 0), .int x] (wM g q a b) (fun (r : Int32) (u : Unit) => r = if m_isWell x = true then r_to (fun j => a 11 (8 * x.toNatClampNeg + j)) (cn x.toNatClampNeg) (cn x.toNatClampNeg) else 0) (fun _ => wM g q a b) 0 0 := by
  by_cases h0 : m_isWell x = true
  · obtain ⟨w, hw4, rfl, hcl⟩ := m_well_k h0
    obtain ⟨hc, hc8⟩ := hcn w hw4
    exact zi_map (fun u => u) (fun _ => rfl) (fun r u h => by rw [if_pos h0, hcl]; exact h) (c_M_trend_p l D g q a b w hw4 (cn w) hc hc8 h0)
  · have h1 : m_isWell x = false := by rw [Bool.eq_false_iff]; exact h0
    exact zi_map (fun u => u) (fun _ => rfl) (fun r u h => by rw [if_neg h0]; exact h) (c_M_trend_n l D g q a b x h1)
theorem z_tr {n sc d : Nat} {cn : Nat → Nat} {a a' : Nat → Nat → Int32} {b b' : Nat → Nat → Int64} {v : Nat → Nat → Int32} (hR : z_R n sc d cn a b v a' b') {w : Nat} (hw : w < 4) : r_to (fun j => a' 11 (8 * w + j)) (cn w) (cn w) = m_ro (v w) (cn w - 1) := by
  obtain ⟨-, -, -, -, -, -, -, -, hwl⟩ := hR
  obtain ⟨-, -, -, h4, h5, -⟩ := hwl w hw
  rw [z_trend (v w) (cn w) h5]
  exact r_to_congr h4 (cn w) (Nat.le_refl _)
theorem c_M_odds (l : Launch) (D : va_G) (g : Nat → ClassId) (q : Nat → Nat) {n sc d : Nat} {cn : Nat → Nat} {a a' : Nat → Nat → Int32} {b b' : Nat → Nat → Int64} {v : Nat → Nat → Int32} (hR : z_R n sc d cn a b v a' b') (x y : Int32) : zc_i l D (tyG g) yX2_odds cX2_odds 17 (some .int) rm_M_odds [.ref (q 0), .int x, .int y] (wM g q a' b') (fun (r : Int32) (u : (Nat → Int64) × (Nat → Int64)) => r = if (m_isWell x && m_within y.toInt64 0 1) = true then m_odds (a 10) (v x.toNatClampNeg) (cn x.toNatClampNeg) y else -1) (fun u => wM g q a' (va_up (va_up b' 12 u.1) 13 u.2)) 0 0 := by
  by_cases h0 : (m_isWell x && m_within y.toInt64 0 1) = true
  · have h00 := h0
    rw [Bool.and_eq_true] at h00
    obtain ⟨w, hw4, rfl, hcl⟩ := m_well_k h00.1
    have htr := z_tr hR hw4
    obtain ⟨-, -, -, -, -, -, -, -, hwl⟩ := hR
    obtain ⟨hc8, -, hc, -⟩ := hwl w hw4
    obtain ⟨P, hPc, hP28, hP0⟩ := m_pairs hc8
    obtain ⟨nA, nB, hA, hB, hA1, hB1, hB0, he⟩ := z_odds (g := a 10) (f := v w) (o := b' 12) (m := b' 13) (tr := m_ro (v w) (cn w - 1)) (y := y) hc8 rfl
    rw [← hP0] at hA hB
    rw [← htr] at hA
    exact zi_map (fun u => u) (fun _ => rfl) (fun r u h => by rw [if_pos h0, hcl, he]; exact h) (c_M_odds_p l D g q a' b' w hw4 (cn w) hc hc8 h00.1 P hPc hP28 nA nB hA hB hA1 hB1 hB0 y h00.2)
  · have h1 : (m_isWell x && m_within y.toInt64 0 1) = false := by rw [Bool.eq_false_iff]; exact h0
    exact zi_map (fun _ => (b' 12, b' 13)) (fun _ => rfl) (fun r u h => by rw [if_neg h0]; exact h) (c_M_odds_n l D g q a' b' x y h1)
theorem q_held {n sc d : Nat} {cn : Nat → Nat} {a a' : Nat → Nat → Int32} {b b' : Nat → Nat → Int64} {v : Nat → Nat → Int32} {x : Int32} {r r' : Int64} (hR : z_R n sc d cn a b v a' b') (h1 : r = if m_isLayer n x = true then b 1 x.toNatClampNeg else -1) (h2 : r' = if m_isLayer n x = true then b' 1 x.toNatClampNeg else -1) : r = r' := by
  obtain ⟨-, -, -, -, -, ⟨-, -, -, b1, -⟩, -⟩ := hR
  rw [h1, h2, b1]
theorem q_out {n sc d : Nat} {cn : Nat → Nat} {a a' : Nat → Nat → Int32} {b b' : Nat → Nat → Int64} {v : Nat → Nat → Int32} {x : Int32} {r r' : Int64} (hR : z_R n sc d cn a b v a' b') (h1 : r = if m_within x.toInt64 0 8 = true then b 8 x.toNatClampNeg else -1) (h2 : r' = if m_within x.toInt64 0 8 = true then b' 8 x.toNatClampNeg else -1) : r = r' := by
  obtain ⟨-, -, -, -, -, ⟨-, -, -, -, -, b8⟩, -⟩ := hR
  rw [h1, h2, b8]
theorem q_balance {n sc d : Nat} {cn : Nat → Nat} {a a' : Nat → Nat → Int32} {b b' : Nat → Nat → Int64} {v : Nat → Nat → Int32} {r r' : Int64} (hR : z_R n sc d cn a b v a' b') (h1 : r = m_bal (b 1) (b 8 0 - b 8 1 - b 8 3 - b 8 4 - b 8 5 - b 8 6 - b 8 7 - b 8 8) n) (h2 : r' = m_bal (b' 1) (b' 8 0 - b' 8 1 - b' 8 3 - b' 8 4 - b' 8 5 - b' 8 6 - b' 8 7 - b' 8 8) n) : r = r' := by
  obtain ⟨-, -, -, -, -, ⟨-, -, -, b1, -, b8⟩, -⟩ := hR
  rw [h1, h2, b1, b8]
theorem m_neg1 {x : Int64} (h : -1 ≤ x.toInt) : x = -1 ↔ x < 0 := by
  have e1 : (-1 : Int64).toInt = -1 := by decide
  have e0 : (0 : Int64).toInt = 0 := by decide
  constructor
  · intro e; rw [e]; decide
  · intro e
    rw [Int64.lt_iff_toInt_lt, e0] at e
    exact Int64.toInt_inj.mp (by rw [e1]; omega)
theorem q_passed {n sc d : Nat} {cn : Nat → Nat} {a a' : Nat → Nat → Int32} {b b' : Nat → Nat → Int64} {v : Nat → Nat → Int32} {x k r r' : Int32} (hR : z_R n sc d cn a b v a' b') (h1 : r = if x = 0 then (if b 0 1 = -1 then -1 else m_dp (b 7) (b 0 1) k d 0 0) else if x = 1 then (if b 0 2 = -1 then -1 else m_mp (b 7) (b 0 2) k d 0 0 0) else -1) (h2 : r' = if x = 0 then (if b' 0 1 < 0 then -1 else m_dp (b' 7) (b' 0 1) k d 0 0) else if x = 1 then (if b' 0 2 < 0 then -1 else m_mp (b' 7) (b' 0 2) k d 0 0 0) else -1) : r = r' := by
  obtain ⟨-, -, -, -, -, ⟨-, b01, b02, -, b7, -⟩, -, ⟨l1, l2⟩, -⟩ := hR
  rw [h1, h2, b01, b02, b7]
  by_cases e1 : b 0 1 = -1
  · have f1 := (m_neg1 l1).mp e1
    by_cases e2 : b 0 2 = -1
    · have f2 := (m_neg1 l2).mp e2
      rw [if_pos e1, if_pos e2, if_pos f1, if_pos f2]
    · have f2 : ¬ b 0 2 < 0 := fun z => e2 ((m_neg1 l2).mpr z)
      rw [if_pos e1, if_neg e2, if_pos f1, if_neg f2]
  · have f1 : ¬ b 0 1 < 0 := fun z => e1 ((m_neg1 l1).mpr z)
    by_cases e2 : b 0 2 = -1
    · have f2 := (m_neg1 l2).mp e2
      rw [if_neg e1, if_pos e2, if_neg f1, if_pos f2]
    · have f2 : ¬ b 0 2 < 0 := fun z => e2 ((m_neg1 l2).mpr z)
      rw [if_neg e1, if_neg e2, if_neg f1, if_neg f2]
theorem q_trend {n sc d : Nat} {cn : Nat → Nat} {a a' : Nat → Nat → Int32} {b b' : Nat → Nat → Int64} {v : Nat → Nat → Int32} {x r r' : Int32} (hR : z_R n sc d cn a b v a' b') (h1 : r = if m_isWell x = true then m_ro (v x.toNatClampNeg) (cn x.toNatClampNeg - 1) else 0) (h2 : r' = if m_isWell x = true then r_to (fun j => a' 11 (8 * x.toNatClampNeg + j)) (cn x.toNatClampNeg) (cn x.toNatClampNeg) else 0) : r = r' := by
  rw [h1, h2]
  by_cases h : m_isWell x = true
  · obtain ⟨w, hw4, rfl, hcl⟩ := m_well_k h
    rw [if_pos h, if_pos h, hcl]
    exact (z_tr hR hw4).symm
  · rw [if_neg h, if_neg h]
theorem q_odds {n sc d : Nat} {cn : Nat → Nat} {a a' : Nat → Nat → Int32} {b b' : Nat → Nat → Int64} {v : Nat → Nat → Int32} (hR : z_R n sc d cn a b v a' b') (u : Nat → Int32) (u' : (Nat → Int64) × (Nat → Int64)) : z_RE n (va_up a 10 u) b v a' (va_up (va_up b' 12 u'.1) 13 u'.2) := by
  obtain ⟨hbd, hd4, hsc, hd, ha, hb, hR⟩ := hR
  exact ⟨sc, d, cn, hbd, hd4, hsc, hd, ha, hb, hR⟩
theorem m_has_congr {f f' : Nat → Int32} {z : Int32} {c : Nat} (h : ∀ j, j < c → f' j = f j) : m_has f' z c = m_has f z c := by
  have key : m_has f' z c = true ↔ m_has f z c = true := by
    unfold m_has
    rw [List.any_eq_true, List.any_eq_true]
    constructor
    · rintro ⟨j, hj, e⟩
      rw [h j (List.mem_range.mp hj)] at e
      exact ⟨j, hj, e⟩
    · rintro ⟨j, hj, e⟩
      rw [← h j (List.mem_range.mp hj)] at e
      exact ⟨j, hj, e⟩
  cases h1 : m_has f' z c with
  | true => rw [h1] at key; exact (key.mp rfl).symm
  | false =>
    cases h2 : m_has f z c with
    | true => rw [h1, h2] at key; exact absurd (key.mpr rfl) (by decide)
    | false => rfl
theorem m_has_no {f : Nat → Int32} {z : Int32} {c : Nat} (h : m_has f z c = false) : ∀ j, j < c → f j ≠ z := by
  intro j hj e
  have h2 : m_has f z c = true := by
    unfold m_has
    rw [List.any_eq_true]
    exact ⟨j, List.mem_range.mpr hj, by simp [e]⟩
  rw [h] at h2
  cases h2
set_option maxHeartbeats 2000000 in
theorem q_sample {n sc d : Nat} {cn : Nat → Nat} {a a' : Nat → Nat → Int32} {b b' : Nat → Nat → Int64} {v : Nat → Nat → Int32} {x y z r r' : Int32} {u : zS} {u' : zT} (hR : z_R n sc d cn a b v a' b')
    (h1 : r = (if (m_isWell x && m_within y.toInt64 0 100000 && m_within z.toInt64 (-1000000) 1000000 && (decide (cn x.toNatClampNeg < 8) && decide (a 12 x.toNatClampNeg < y) && !(m_has (v x.toNatClampNeg) z (cn x.toNatClampNeg)))) = true then nI (cn x.toNatClampNeg + 1) else -1) ∧ u = if (m_isWell x && m_within y.toInt64 0 100000 && m_within z.toInt64 (-1000000) 1000000 && (decide (cn x.toNatClampNeg < 8) && decide (a 12 x.toNatClampNeg < y) && !(m_has (v x.toNatClampNeg) z (cn x.toNatClampNeg)))) = true then (va_up (va_up a 11 (upd (a 11) x.toNatClampNeg (nI (cn x.toNatClampNeg + 1)))) 12 (upd (a 12) x.toNatClampNeg y), b, va_up v x.toNatClampNeg (upd (v x.toNatClampNeg) (cn x.toNatClampNeg) z)) else (a, b, v))
    (h2 : r' = (if (m_isWell x && decide ((cn x.toNatClampNeg) < 8) && m_within y.toInt64 0 100000 && m_within z.toInt64 (-1000000) 1000000 && decide ((cn x.toNatClampNeg) = 0 ∨ a' 10 (8 * x.toNatClampNeg + (cn x.toNatClampNeg) - 1) < y) && !(m_has (fun j => a' 11 (8 * x.toNatClampNeg + j)) z (cn x.toNatClampNeg))) = true then nI ((cn x.toNatClampNeg) + 1) else -1) ∧ u' = if (m_isWell x && decide ((cn x.toNatClampNeg) < 8) && m_within y.toInt64 0 100000 && m_within z.toInt64 (-1000000) 1000000 && decide ((cn x.toNatClampNeg) = 0 ∨ a' 10 (8 * x.toNatClampNeg + (cn x.toNatClampNeg) - 1) < y) && !(m_has (fun j => a' 11 (8 * x.toNatClampNeg + j)) z (cn x.toNatClampNeg))) = true then (va_up (va_up (va_up a' 9 (upd (a' 9) x.toNatClampNeg (nI ((cn x.toNatClampNeg) + 1)))) 10 (upd (a' 10) (8 * x.toNatClampNeg + (cn x.toNatClampNeg)) y)) 11 (upd (a' 11) (8 * x.toNatClampNeg + (cn x.toNatClampNeg)) z), b') else (a', b')) :
    r = r' ∧ z_RE n u.1 u.2.1 u.2.2 u'.1 u'.2 := by
  by_cases hx : m_isWell x = true
  · obtain ⟨w, hw4, rfl, hcl⟩ := m_well_k hx
    rw [hcl] at h1 h2
    have hwl := hR.2.2.2.2.2.2.2.2
    obtain ⟨w1, w2, w3, w4, w5, w6, w7⟩ := hwl w hw4
    have ehas := m_has_congr (f := v w) (f' := fun j => a' 11 (8 * w + j)) (z := z) w4
    rw [ehas] at h2
    by_cases hy : m_within y.toInt64 0 100000 = true
    · have hyb := hy
      rw [m_wi, m_i2l] at hyb
      have e0 : (0 : Int64).toInt = 0 := by decide
      have em : (-1 : Int32).toInt = -1 := by decide
      have elast : decide (cn w = 0 ∨ a' 10 (8 * w + cn w - 1) < y) = decide (a 12 w < y) := by
        apply decide_eq_decide.mpr
        by_cases hc0 : cn w = 0
        · have : a 12 w < y := by rw [w6 hc0, Int32.lt_iff_toInt_lt, em]; omega
          exact ⟨fun _ => this, fun _ => Or.inl hc0⟩
        · rw [w7 (by omega)]
          exact ⟨fun h => h.elim (fun e => absurd e hc0) id, Or.inr⟩
      rw [elast] at h2
      rw [hx, hy] at h1 h2
      simp only [Bool.true_and] at h1 h2
      by_cases hg : (m_within z.toInt64 (-1000000) 1000000 && (decide (cn w < 8) && decide (a 12 w < y) && !(m_has (v w) z (cn w)))) = true
      · have hg2 : (decide (cn w < 8) && true && m_within z.toInt64 (-1000000) 1000000 && decide (a 12 w < y) && !(m_has (v w) z (cn w))) = true := by
          simp only [Bool.and_eq_true] at hg ⊢
          exact ⟨⟨⟨⟨hg.2.1.1, trivial⟩, hg.1⟩, hg.2.1.2⟩, hg.2.2⟩
        rw [if_pos hg, if_pos hg] at h1
        rw [if_pos hg2, if_pos hg2] at h2
        obtain ⟨rfl, rfl⟩ := h1
        obtain ⟨rfl, rfl⟩ := h2
        refine ⟨rfl, ?_⟩
        simp only [Bool.and_eq_true, decide_eq_true_eq, Bool.not_eq_true'] at hg
        have hc8 := hg.2.1.1
        have hno := m_has_no hg.2.2
        obtain ⟨hbd, hd4, hsc, hd, ha, hb, hw, hl, -⟩ := hR
        refine ⟨sc, d, fun k => if k = w then cn w + 1 else cn k, hbd, hd4, hsc, hd, ha, hb, hw, hl, ?_⟩
        intro k hk
        show (if k = w then cn w + 1 else cn k) ≤ 8 ∧ upd (a 11) w (nI (cn w + 1)) k = nI (if k = w then cn w + 1 else cn k) ∧ upd (a' 9) w (nI (cn w + 1)) k = nI (if k = w then cn w + 1 else cn k) ∧ (∀ j, j < (if k = w then cn w + 1 else cn k) → upd (a' 11) (8 * w + cn w) z (8 * k + j) = va_up v w (upd (v w) (cn w) z) k j) ∧ (∀ i j, i < j → j < (if k = w then cn w + 1 else cn k) → va_up v w (upd (v w) (cn w) z) k i ≠ va_up v w (upd (v w) (cn w) z) k j) ∧ ((if k = w then cn w + 1 else cn k) = 0 → upd (a 12) w y k = -1) ∧ (0 < (if k = w then cn w + 1 else cn k) → upd (a' 10) (8 * w + cn w) y (8 * k + (if k = w then cn w + 1 else cn k) - 1) = upd (a 12) w y k)
        by_cases ek : k = w
        · subst ek
          rw [if_pos rfl, va_up_self]
          refine ⟨by omega, pk_us, pk_us, ?_, ?_, fun h => by omega, fun _ => ?_⟩
          · intro j hj
            by_cases ej : j = cn k
            · rw [ej, pk_us, pk_us]
            · rw [pk_un ej, pk_un (by omega)]; exact w4 j (by omega)
          · intro i j hij hj
            by_cases ej : j = cn k
            · rw [ej, pk_us, pk_un (by omega)]; exact hno i (by omega)
            · rw [pk_un ej, pk_un (by omega)]; exact w5 i j hij (by omega)
          · rw [show 8 * k + (cn k + 1) - 1 = 8 * k + cn k from by omega, pk_us, pk_us]
        · rw [if_neg ek, va_up_ne _ _ ek, pk_un ek, pk_un ek, pk_un ek]
          obtain ⟨z1, z2, z3, z4, z5, z6, z7⟩ := hwl k hk
          refine ⟨z1, z2, z3, ?_, z5, z6, fun h => ?_⟩
          · intro j hj
            rw [pk_un (by omega)]; exact z4 j hj
          · rw [pk_un (by omega)]; exact z7 h
      · have hg2 : ¬ (decide (cn w < 8) && true && m_within z.toInt64 (-1000000) 1000000 && decide (a 12 w < y) && !(m_has (v w) z (cn w))) = true := by
          intro h
          apply hg
          simp only [Bool.and_eq_true] at h ⊢
          exact ⟨h.1.1.2, ⟨h.1.1.1.1, h.1.2⟩, h.2⟩
        rw [if_neg hg, if_neg hg] at h1
        rw [if_neg hg2, if_neg hg2] at h2
        obtain ⟨rfl, rfl⟩ := h1
        obtain ⟨rfl, rfl⟩ := h2
        exact ⟨rfl, sc, d, cn, hR⟩
    · have hy0 : m_within y.toInt64 0 100000 = false := by rw [Bool.eq_false_iff]; exact hy
      rw [hx, hy0] at h1 h2
      simp only [Bool.and_false, Bool.false_and, Bool.false_eq_true, if_false] at h1 h2
      obtain ⟨rfl, rfl⟩ := h1
      obtain ⟨rfl, rfl⟩ := h2
      exact ⟨rfl, sc, d, cn, hR⟩
  · have hx0 : m_isWell x = false := by rw [Bool.eq_false_iff]; exact hx
    rw [hx0] at h1 h2
    simp only [Bool.false_and, Bool.false_eq_true, if_false] at h1 h2
    obtain ⟨rfl, rfl⟩ := h1
    obtain ⟨rfl, rfl⟩ := h2
    exact ⟨rfl, sc, d, cn, hR⟩
theorem z_sum_zero : ∀ n, z_sum (m_b0 1) n = 0
  | 0 => rfl
  | n + 1 => by
    show z_sum (m_b0 1) n + (m_b0 1 n).toInt = 0
    rw [z_sum_zero n]
    rfl
theorem z_k6 {k : Nat} (h : k < 6) : k = 0 ∨ k = 1 ∨ k = 2 ∨ k = 3 ∨ k = 4 ∨ k = 5 := by omega
theorem z_start {n : Nat} (hn : 1 ≤ n ∧ n ≤ 6) : z_RE n (m_a0 n) m_b0 (fun _ _ => 0) (r_a0 n) m_b0 := by
  refine ⟨0, 0, fun _ => 0, ⟨hn, by omega, (show z_pt 0 from ⟨by decide, by decide⟩), (show z_pt 0 from ⟨by decide, by decide⟩), (show z_pt 0 from ⟨by decide, by decide⟩), by decide, ?_, ?_, ?_, ?_, ?_⟩, by omega, rfl, rfl, ⟨rfl, rfl, rfl, rfl, rfl, rfl, rfl, ?_, rfl, rfl, rfl⟩, ⟨rfl, rfl, rfl, rfl, rfl, rfl⟩, ⟨?_, ?_, by decide, by decide⟩, by decide, ?_⟩
  · intro k hk; show 0 ≤ (0 : Int32).toInt ∧ (0 : Int32).toInt ≤ 1000000; decide
  · intro k hk
    show z_pt (m_fil 1000 (fun _ => 0) n k)
    rw [m_fil_ok 1000 _ n k hk]; exact ⟨by decide, by decide⟩
  · intro k hk; exact absurd hk (Nat.not_lt_zero _)
  · intro k hk; exact absurd hk (Nat.not_lt_zero _)
  · intro k hk; show 0 ≤ (0 : Int32).toInt ∧ (0 : Int32).toInt ≤ 1000000; decide
  · intro k hk
    show r_a0 n 3 k = m_fil 1000 (fun _ => 0) n k
    rw [m_fil_ok 1000 _ n k hk]
    rcases z_k6 (show k < 6 by omega) with rfl | rfl | rfl | rfl | rfl | rfl <;> rfl
  · intro k hk; show 0 ≤ (0 : Int64).toInt; decide
  · rw [z_sum_zero]; omega
  · intro w hw
    exact ⟨Nat.zero_le 8, rfl, rfl, fun j hj => absurd hj (Nat.not_lt_zero _), fun i j _ hj => absurd hj (Nat.not_lt_zero _), fun _ => rfl, fun h => absurd h (Nat.not_lt_zero _)⟩
