/-! a day of the class beside a day of the reference -/
theorem r_over_eq {t r : Int64} (h0 : 0 ≤ t.toInt) (h1 : t.toInt < 2 ^ 50) (hr : 0 ≤ r.toInt ∧ r.toInt ≤ 1000000000) : r_over t r = m_max0 (t - r) := by
  have es : (t - r).toInt = t.toInt - r.toInt := zt_sub (by omega) (by omega)
  have e0 : (0 : Int64).toInt = 0 := by decide
  apply Int64.toInt_inj.mp
  rw [m_max0_t, es]
  unfold r_over
  by_cases h : t ≤ r
  · rw [if_pos h]
    rw [Int64.le_iff_toInt_le] at h
    rw [e0]
    split <;> omega
  · rw [if_neg h]
    rw [Int64.le_iff_toInt_le] at h
    rw [es]
    rw [if_neg (by omega)]
def z_bd (n sc : Nat) (a : Nat → Nat → Int32) (b : Nat → Nat → Int64) : Prop :=
  (1 ≤ n ∧ n ≤ 6) ∧ sc ≤ 4 ∧ z_pt (a 0 0) ∧ z_pt (a 0 1) ∧ z_pt (a 0 2) ∧ (0 ≤ (b 0 0).toInt ∧ (b 0 0).toInt ≤ 1000000000) ∧ (∀ k, k < n → 0 ≤ (a 2 k).toInt ∧ (a 2 k).toInt ≤ 1000000) ∧ (∀ k, k < n → z_pt (a 3 k)) ∧ (∀ k, k < sc → 0 ≤ (a 4 k).toInt ∧ (a 4 k).toInt ≤ 1000000) ∧ (∀ k, k < sc → z_pt (a 5 k)) ∧ (∀ k, k < 400 → 0 ≤ (a 6 k).toInt ∧ (a 6 k).toInt ≤ 1000000)
def z_wt (n d : Nat) (b : Nat → Nat → Int64) : Prop :=
  (∀ k, k < n → 0 ≤ (b 1 k).toInt) ∧ z_sum (b 1) n ≤ 2000000 * (d : Int) ∧ (0 ≤ (b 8 8).toInt ∧ (b 8 8).toInt ≤ 1000000) ∧ (0 ≤ (b 8 7).toInt ∧ (b 8 7).toInt ≤ 1000000000)
/-- the reference's longs beside the class's -/
def z_eqb (b b' : Nat → Nat → Int64) : Prop := b' 0 0 = b 0 0 ∧ b' 0 1 = b 0 1 ∧ b' 0 2 = b 0 2 ∧ b' 1 = b 1 ∧ b' 7 = b 7 ∧ b' 8 = b 8
/-- the reference's ints beside the class's, but for wells -/
def z_eqa (n : Nat) (a a' : Nat → Nat → Int32) : Prop := a' 0 0 = a 0 0 ∧ a' 0 1 = a 0 1 ∧ a' 0 2 = a 0 2 ∧ a' 0 3 = a 0 3 ∧ a' 0 4 = a 0 4 ∧ a' 0 5 = nI n ∧ a' 2 = a 2 ∧ (∀ k, k < n → a' 3 k = a 3 k) ∧ a' 4 = a 4 ∧ a' 5 = a 5 ∧ a' 6 = a 6
theorem z_j9 (j : Nat) : j = 0 ∨ j = 1 ∨ j = 2 ∨ j = 3 ∨ j = 4 ∨ j = 7 ∨ (j ≠ 0 ∧ j ≠ 1 ∧ j ≠ 2 ∧ j ≠ 3 ∧ j ≠ 4 ∧ j ≠ 7) := by omega
theorem z_mid (f : Nat → Int64) (v0 v1 v2 v3 v4 v7 t z : Int64) {j : Nat} (h8 : j ≠ 8) : vp_updL (vp_updL (vp_updL (vp_updL (vp_updL (vp_updL (vp_updL (vp_updL f 0 v0) 1 v1) 8 z) 2 v2) 3 v3) 7 t) 4 v4) 7 v7 j = vp_updL (vp_updL (vp_updL (vp_updL (vp_updL (vp_updL f 0 v0) 1 v1) 2 v2) 3 v3) 4 v4) 7 v7 j := by
  rcases z_j9 j with rfl | rfl | rfl | rfl | rfl | rfl | ⟨h0, h1, h2, h3, h4, h7⟩
  · rfl
  · rfl
  · rfl
  · rfl
  · rfl
  · rfl
  · rw [pk_uLn h7, pk_uLn h4, pk_uLn h7, pk_uLn h3, pk_uLn h2, pk_uLn h8, pk_uLn h1, pk_uLn h0, pk_uLn h7, pk_uLn h4, pk_uLn h3, pk_uLn h2, pk_uLn h1, pk_uLn h0]
theorem z_upup (f : Nat → Int64) (d : Nat) (x y : Int64) : vp_updL (vp_updL f d x) d y = vp_updL f d y := by
  funext j
  by_cases h : j = d
  · subst h; rw [pk_uLs, pk_uLs]
  · rw [pk_uLn h, pk_uLn h, pk_uLn h]
set_option maxHeartbeats 4000000 in
theorem z_day {n sc d : Nat} {a a' : Nat → Nat → Int32} {b b' : Nat → Nat → Int64} (hbd : z_bd n sc a b) (hd : d < 400) (hw : z_wt n d b) (ha : z_eqa n a a') (hb : z_eqb b b') :
    z_wt n (d + 1) (m_day n sc a b d) ∧ z_eqb (m_day n sc a b d) (r_day n sc a' b' d) ∧ (m_day n sc a b d) 0 = b 0 := by
  obtain ⟨hn, hsc, c0, c1, c2, hrm, hhs, hps, hrt, hkp, hrn⟩ := hbd
  obtain ⟨w1, w2, w3, w4⟩ := hw
  obtain ⟨a00, a01, a02, -, -, -, a2, a3, a4, a5, a6⟩ := ha
  obtain ⟨b00, b01, b02, b1, b7, b8⟩ := hb
  -- the rain
  have hR := hrn d hd
  have eR : (a 6 d).toInt64.toInt = (a 6 d).toInt := m_i2l _
  generalize hRe : (a 6 d).toInt64 = R at eR
  obtain ⟨o1, o2⟩ := m_of_b (x := R) c0 (by omega) (by omega)
  generalize hoff : m_of (a 0 0) R = off at o1 o2
  have hw0 := w1 0 (by omega)
  have hs0 := z_sum_0 (b 1) n w1
  have hl0 := z_sum_le (b 1) n w1 0 (by omega)
  have e1 : (R - off).toInt = R.toInt - off.toInt := zt_sub (by omega) (by omega)
  have e2 : (R - off + b 8 8).toInt = R.toInt - off.toInt + (b 8 8).toInt := by rw [zt_add (by rw [e1]; omega) (by rw [e1]; omega), e1]
  have e3 : (b 1 0 + (R - off + b 8 8)).toInt = (b 1 0).toInt + (R.toInt - off.toInt + (b 8 8).toInt) := by rw [zt_add (by rw [e2]; omega) (by rw [e2]; omega), e2]
  generalize hf : vp_updL (b 1) 0 (b 1 0 + (R - off + b 8 8)) = f
  have hfs : z_sum f n = z_sum (b 1) n + (R.toInt - off.toInt + (b 8 8).toInt) := by rw [← hf, z_sum_up _ 0 _ n (by omega), e3]; omega
  have hfn : ∀ j, j < n → 0 ≤ (f j).toInt := by
    intro j hj
    rw [← hf]
    by_cases h : j = 0
    · subst h; rw [pk_uLs, e3]; omega
    · rw [pk_uLn h]; exact w1 j hj
  -- down the layers
  obtain ⟨p1, p2, p3⟩ := m_pd_ok hhs hps hfn (by omega) n (Nat.le_refl _)
  have hcg := m_pd_congr f (hs := a 2) (hs' := a' 2) (ps := a 3) (ps' := a' 3) (n := n) (fun k _ => by rw [a2]) a3 n (Nat.le_refl _)
  have q0 := z_sum_0 _ n p1
  generalize hr : m_pd (a 2) (a 3) f n = r at p1 p2 p3 hcg q0
  -- the tank
  obtain ⟨d1, d2⟩ := m_of_b (x := r.2) c1 p2 (by omega)
  generalize hdr : m_of (a 0 1) r.2 = dr at d1 d2
  have et : (b 8 7 + dr).toInt = (b 8 7).toInt + dr.toInt := zt_add (by omega) (by omega)
  have hov := r_over_eq (t := b 8 7 + dr) (r := b 0 0) (by omega) (by omega) hrm
  have emx := m_max0_t (b 8 7 + dr - b 0 0)
  have edd : (b 8 7 + dr - b 0 0).toInt = (b 8 7).toInt + dr.toInt - (b 0 0).toInt := by rw [zt_sub (by omega) (by omega), et]
  rw [edd] at emx
  generalize hab : m_max0 (b 8 7 + dr - b 0 0) = ab at emx hov
  have eab : (b 8 7 + dr - ab).toInt = (b 8 7).toInt + dr.toInt - ab.toInt := by rw [zt_sub (by rw [et, emx]; split <;> omega) (by rw [et, emx]; split <;> omega), et]
  have k0 : 0 ≤ (b 8 7 + dr - ab).toInt := by rw [eab, emx]; split <;> omega
  have k1 : (b 8 7 + dr - ab).toInt ≤ 1000000000 := by rw [eab, emx]; split <;> omega
  -- the sums ahead of the stages
  have hb3 : ∃ b3 : Nat → Nat → Int64, b3 = m_fill a (va_up (m_in a b R) 1 r.1) r.2 := ⟨_, rfl⟩
  obtain ⟨b3, hb3⟩ := hb3
  have f8 : b3 8 = vp_updL (vp_updL (vp_updL (vp_updL (vp_updL (vp_updL (b 8) 0 (b 8 0 + R)) 1 (b 8 1 + off)) 2 (b 8 2 + r.2)) 3 (b 8 3 + (r.2 - dr))) 4 (b 8 4 + ab)) 7 (b 8 7 + dr - ab) := by rw [hb3, ← hab, ← hdr, ← hoff]; rfl
  have f1 : b3 1 = r.1 := by rw [hb3]; rfl
  have f7 : b3 7 = b 7 := by rw [hb3]; rfl
  have f0 : b3 0 = b 0 := by rw [hb3]; rfl
  have f87 : b3 8 7 = b 8 7 + dr - ab := by rw [f8, pk_uLs]
  have f88 : b3 8 8 = b 8 8 := by rw [f8]; rfl
  have hday : m_day n sc a b d = va_up (m_part a (m_clean sc a b3).2 (m_clean sc a b3).1).2 7 (vp_updL ((m_part a (m_clean sc a b3).2 (m_clean sc a b3).1).2 7) d (m_part a (m_clean sc a b3).2 (m_clean sc a b3).1).1) := by
    have h9 : m_in a b R 1 = f := by rw [← hf, ← hoff]; rfl
    rw [hb3, ← hr, ← h9, ← hRe]; rfl
  -- the reference
  have hin1 : r_in a' b' (a' 6 d).toInt64 1 = f := by
    show vp_updL (b' 1) 0 (b' 1 0 + ((a' 6 d).toInt64 - m_of (a' 0 0) (a' 6 d).toInt64 + b' 8 8)) = f
    rw [a6, hRe, a00, b1, b8, hoff, hf]
  have hmid : ∃ bm : Nat → Nat → Int64, bm = r_mid n a' b' d := ⟨_, rfl⟩
  obtain ⟨bm, hmid⟩ := hmid
  have g8 : bm 8 = vp_updL (vp_updL (vp_updL (vp_updL (vp_updL (vp_updL (vp_updL (vp_updL (b 8) 0 (b 8 0 + R)) 1 (b 8 1 + off)) 8 0) 2 (b 8 2 + r.2)) 3 (b 8 3 + (r.2 - dr))) 7 (b 8 7 + dr)) 4 (b 8 4 + ab)) 7 (b 8 7 + dr - ab) := by
    rw [hmid]
    have h9 : r_mid n a' b' d 8 = vp_updL (vp_updL (vp_updL (vp_updL (vp_updL (vp_updL (vp_updL (vp_updL (b' 8) 0 (b' 8 0 + (a' 6 d).toInt64)) 1 (b' 8 1 + m_of (a' 0 0) (a' 6 d).toInt64)) 8 0) 2 (b' 8 2 + (m_pd (a' 2) (a' 3) (r_in a' b' (a' 6 d).toInt64 1) n).2)) 3 (b' 8 3 + ((m_pd (a' 2) (a' 3) (r_in a' b' (a' 6 d).toInt64 1) n).2 - m_of (a' 0 1) (m_pd (a' 2) (a' 3) (r_in a' b' (a' 6 d).toInt64 1) n).2))) 7 (b' 8 7 + m_of (a' 0 1) (m_pd (a' 2) (a' 3) (r_in a' b' (a' 6 d).toInt64 1) n).2)) 4 (b' 8 4 + r_over (b' 8 7 + m_of (a' 0 1) (m_pd (a' 2) (a' 3) (r_in a' b' (a' 6 d).toInt64 1) n).2) (b' 0 0))) 7 (b' 8 7 + m_of (a' 0 1) (m_pd (a' 2) (a' 3) (r_in a' b' (a' 6 d).toInt64 1) n).2 - r_over (b' 8 7 + m_of (a' 0 1) (m_pd (a' 2) (a' 3) (r_in a' b' (a' 6 d).toInt64 1) n).2) (b' 0 0)) := rfl
    rw [h9, hin1, hcg, a01, hdr, b8, b00, hov, a6, hRe, a00, hoff]
  have g1 : bm 1 = r.1 := by
    rw [hmid]
    have h9 : r_mid n a' b' d 1 = (m_pd (a' 2) (a' 3) (r_in a' b' (a' 6 d).toInt64 1) n).1 := rfl
    rw [h9, hin1, hcg]
  have g7 : bm 7 = vp_updL (b 7) d 0 := by
    rw [hmid]
    have h9 : r_mid n a' b' d 7 = vp_updL (b' 7) d 0 := rfl
    rw [h9, b7]
  have g0 : bm 0 = b' 0 := by rw [hmid]; rfl
  have hms : ∀ j, j ≠ 8 → bm 8 j = b3 8 j := by intro j hj; rw [g8, f8]; exact z_mid _ _ _ _ _ _ _ _ _ hj
  have h88 : bm 8 8 = 0 := by rw [g8]; rfl
  have hrd : r_day n sc a' b' d = r_stg sc a' bm d := by rw [hmid]; rfl
  rw [hday, hrd]
  have hpd1 : z_sum r.1 n ≤ 2000000 * ((d + 1 : Nat) : Int) := by
    have : ((d + 1 : Nat) : Int) = (d : Int) + 1 := by omega
    rw [this]; omega
  by_cases h0 : sc = 0
  · -- without stages
    have ec : m_clean sc a b3 = (0, b3) := if_pos h0
    have es : r_stg sc a' bm d = bm := if_pos h0
    rw [ec, es]
    have ep : m_part a b3 0 = (0, va_up b3 8 (vp_updL (vp_updL (b3 8) 8 0) 6 (b3 8 6))) := by
      unfold m_part
      rw [m_of_0, show (0 : Int64) - 0 = 0 from by decide, Int64.add_zero]
    show z_wt n (d + 1) (va_up (m_part a b3 0).2 7 _) ∧ _
    rw [ep]
    refine ⟨⟨?_, ?_, ?_, ?_⟩, ⟨?_, ?_, ?_, ?_, ?_, ?_⟩, ?_⟩
    · show ∀ k, k < n → 0 ≤ (b3 1 k).toInt
      rw [f1]; exact p1
    · show z_sum (b3 1) n ≤ _
      rw [f1]; exact hpd1
    · show 0 ≤ (vp_updL (vp_updL (b3 8) 8 0) 6 (b3 8 6) 8).toInt ∧ (vp_updL (vp_updL (b3 8) 8 0) 6 (b3 8 6) 8).toInt ≤ 1000000
      rw [pk_uLn (by decide), pk_uLs]; decide
    · show 0 ≤ (vp_updL (vp_updL (b3 8) 8 0) 6 (b3 8 6) 7).toInt ∧ (vp_updL (vp_updL (b3 8) 8 0) 6 (b3 8 6) 7).toInt ≤ 1000000000
      rw [pk_uLn (by decide), pk_uLn (by decide), f87]; exact ⟨k0, k1⟩
    · show bm 0 0 = b3 0 0
      rw [g0, f0, b00]
    · show bm 0 1 = b3 0 1
      rw [g0, f0, b01]
    · show bm 0 2 = b3 0 2
      rw [g0, f0, b02]
    · show bm 1 = b3 1
      rw [g1, f1]
    · show bm 7 = vp_updL (b3 7) d 0
      rw [g7, f7]
    · show bm 8 = vp_updL (vp_updL (b3 8) 8 0) 6 (b3 8 6)
      funext j
      by_cases h6 : j = 6
      · subst h6; rw [pk_uLs]; exact hms 6 (by decide)
      · rw [pk_uLn h6]
        by_cases h8 : j = 8
        · subst h8; rw [pk_uLs]; exact h88
        · rw [pk_uLn h8]; exact hms j h8
    · show b3 0 = b 0
      exact f0
  · -- with stages
    have ec : m_clean sc a b3 = ((m_cl (a 4) (a 5) (b3 8) sc).2, va_up b3 8 (m_cl (a 4) (a 5) (b3 8) sc).1) := if_neg h0
    have es : r_stg sc a' bm d = va_up (va_up bm 7 (vp_updL (bm 7) d ((r_cl (a' 4) (a' 5) (bm 8) sc).2.1 - m_of (a' 0 2) (r_cl (a' 4) (a' 5) (bm 8) sc).2.1))) 8 (vp_updL (vp_updL (vp_updL (r_cl (a' 4) (a' 5) (bm 8) sc).1 7 (r_cl (a' 4) (a' 5) (bm 8) sc).2.2) 8 (m_of (a' 0 2) (r_cl (a' 4) (a' 5) (bm 8) sc).2.1)) 6 ((r_cl (a' 4) (a' 5) (bm 8) sc).1 6 + ((r_cl (a' 4) (a' 5) (bm 8) sc).2.1 - m_of (a' 0 2) (r_cl (a' 4) (a' 5) (bm 8) sc).2.1))) := if_neg h0
    rw [ec, es, a4, a5, a02]
    obtain ⟨x1, x2, x3⟩ := r_cl_eq (rs := a 4) (ks := a 5) hms sc
    obtain ⟨y1, y2, y3, y4⟩ := m_cl_ok (f := b3 8) hrt hkp (by rw [f87]; exact k0) (by rw [f87]; exact k1) sc (Nat.le_refl _)
    have y5 := y4 (by omega)
    rw [f87] at y3
    have x36 := x3 6 (by decide) (by decide)
    generalize hC : m_cl (a 4) (a 5) (b3 8) sc = C at x1 x2 x3 x36 y1 y2 y3 y5
    generalize hM : r_cl (a 4) (a 5) (bm 8) sc = M at x1 x2 x3 x36
    rw [x1, x2, x36]
    obtain ⟨s1, s2⟩ := m_of_b (x := C.2) c2 y1 (by omega)
    have ep : m_part a (va_up b3 8 C.1) C.2 = (C.2 - m_of (a 0 2) C.2, va_up (va_up b3 8 C.1) 8 (vp_updL (vp_updL C.1 8 (m_of (a 0 2) C.2)) 6 (C.1 6 + (C.2 - m_of (a 0 2) C.2)))) := rfl
    show z_wt n (d + 1) (va_up (m_part a (va_up b3 8 C.1) C.2).2 7 _) ∧ _
    rw [ep]
    generalize m_of (a 0 2) C.2 = gb at s1 s2
    refine ⟨⟨?_, ?_, ?_, ?_⟩, ⟨?_, ?_, ?_, ?_, ?_, ?_⟩, ?_⟩
    · show ∀ k, k < n → 0 ≤ (b3 1 k).toInt
      rw [f1]; exact p1
    · show z_sum (b3 1) n ≤ _
      rw [f1]; exact hpd1
    · show 0 ≤ (vp_updL (vp_updL C.1 8 gb) 6 (C.1 6 + (C.2 - gb)) 8).toInt ∧ (vp_updL (vp_updL C.1 8 gb) 6 (C.1 6 + (C.2 - gb)) 8).toInt ≤ 1000000
      rw [pk_uLn (by decide), pk_uLs]; exact ⟨s1, by omega⟩
    · show 0 ≤ (vp_updL (vp_updL C.1 8 gb) 6 (C.1 6 + (C.2 - gb)) 7).toInt ∧ (vp_updL (vp_updL C.1 8 gb) 6 (C.1 6 + (C.2 - gb)) 7).toInt ≤ 1000000000
      rw [pk_uLn (by decide), pk_uLn (by decide)]; exact ⟨y2, by omega⟩
    · show bm 0 0 = b3 0 0
      rw [g0, f0, b00]
    · show bm 0 1 = b3 0 1
      rw [g0, f0, b01]
    · show bm 0 2 = b3 0 2
      rw [g0, f0, b02]
    · show bm 1 = b3 1
      rw [g1, f1]
    · show vp_updL (bm 7) d (C.2 - gb) = vp_updL (b3 7) d (C.2 - gb)
      rw [g7, f7, z_upup]
    · show vp_updL (vp_updL (vp_updL M.1 7 (C.1 7)) 8 gb) 6 (C.1 6 + (C.2 - gb)) = vp_updL (vp_updL C.1 8 gb) 6 (C.1 6 + (C.2 - gb))
      funext j
      by_cases h6 : j = 6
      · subst h6; rw [pk_uLs, pk_uLs]
      · rw [pk_uLn h6, pk_uLn h6]
        by_cases h8 : j = 8
        · subst h8; rw [pk_uLs, pk_uLs]
        · rw [pk_uLn h8, pk_uLn h8]
          by_cases h7 : j = 7
          · subst h7; rw [pk_uLs]
          · rw [pk_uLn h7]; exact x3 j h7 h8
    · show b3 0 = b 0
      exact f0
theorem z_run {n sc d : Nat} {a a' : Nat → Nat → Int32} {b b' : Nat → Nat → Int64} (hbd : z_bd n sc a b) (hw : z_wt n d b) (ha : z_eqa n a a') (hb : z_eqb b b') : ∀ k, d + k ≤ 400 →
    z_wt n (d + k) (m_run n sc a b d k) ∧ z_eqb (m_run n sc a b d k) (r_run n sc a' b' d k) ∧ (m_run n sc a b d k) 0 = b 0
  | 0, _ => ⟨hw, hb, rfl⟩
  | k + 1, h => by
    obtain ⟨i1, i2, i3⟩ := z_run hbd hw ha hb k (by omega)
    have hbd2 : z_bd n sc a (m_run n sc a b d k) := by
      obtain ⟨h1, h2, h3, h4, h5, h6, h7⟩ := hbd
      exact ⟨h1, h2, h3, h4, h5, by rw [i3]; exact h6, h7⟩
    obtain ⟨j1, j2, j3⟩ := z_day hbd2 (d := d + k) (by omega) i1 ha i2
    exact ⟨j1, j2, j3.trans i3⟩
