theorem m_n_lo {x : Int32} (h : x < 1) : m_n x = 1 := by
  unfold m_n
  have e : ¬ m_within x.toInt64 1 6 = true := by
    rw [m_wi, m_i2l]
    rw [Int32.lt_iff_toInt_lt] at h
    have e1 : (1 : Int64).toInt = 1 := by decide
    have e2 : (1 : Int32).toInt = 1 := by decide
    omega
  rw [if_neg e]
theorem m_n_hi {x : Int32} (h : 6 < x) : m_n x = 1 := by
  unfold m_n
  have e : ¬ m_within x.toInt64 1 6 = true := by
    rw [m_wi, m_i2l]
    rw [Int32.lt_iff_toInt_lt] at h
    have e1 : (6 : Int64).toInt = 6 := by decide
    have e2 : (6 : Int32).toInt = 6 := by decide
    omega
  rw [if_neg e]
theorem m_n_in {x : Int32} (h : ¬ x < 1) (h2 : ¬ 6 < x) : m_within x.toInt64 1 6 = true := by
  rw [m_wi, m_i2l]
  rw [Int32.lt_iff_toInt_lt] at h h2
  have e1 : (6 : Int64).toInt = 6 := by decide
  have e2 : (6 : Int32).toInt = 6 := by decide
  have e3 : (1 : Int64).toInt = 1 := by decide
  have e4 : (1 : Int32).toInt = 1 := by decide
  omega
def r_a0 (n : Nat) : Nat → Nat → Int32 := fun i => if i = 0 then upd (fun _ => 0) 5 (nI n) else if i = 3 then upd (upd (upd (upd (upd (upd (fun _ => 0) 0 1000) 1 1000) 2 1000) 3 1000) 4 1000) 5 1000 else fun _ => 0
def rm_M_odds : Room := { frames := 2, cells := 0, slots := 0, locals := 44 }
set_option maxHeartbeats 4000000 in
set_option maxRecDepth 100000 in
theorem c_M_odds_p (l : Launch) (D : va_G) (g : Nat → ClassId) (q : Nat → Nat) (a : Nat → Nat → Int32) (b : Nat → Nat → Int64) (w : Nat) (hw4 : w < 4) (c : Nat) (hc : a 9 w = nI c) (hc8 : c ≤ 8) (hww : m_isWell (nI w) = true) (P : Nat) (hPc : nI c * (nI c - 1) / 2 = nI P) (hP28 : P ≤ 28) (nA nB : Nat) (hnA : r_abv (r_B (b 12) (b 13) (c - 1)).1 P (r_ab (r_to (fun j => a 11 (8 * w + j)) c c)) (P + 1) = lN nA) (hnB : r_blw (r_B (b 12) (b 13) (c - 1)).1 (P + 1) = lN nB) (hA1 : nA < 2 ^ 31) (hB1 : nB < 2 ^ 31) (hB0 : 0 < nB) (pt : Int32) (hpt : m_within pt.toInt64 0 1 = true) : zc_i l D (tyG g) yX2_odds cX2_odds 17 (some .int) rm_M_odds [.ref (q 0), .int (nI w), .int pt] (wM g q a b) (fun (r : Int32) (u : (Nat → Int64) × (Nat → Int64)) => r = if pt = 0 then (lN nA / lN (Nat.gcd nA nB)).toInt32 else (lN nB / lN (Nat.gcd nA nB)).toInt32) (fun u => wM g q a (va_up (va_up b 12 u.1) 13 u.2)) 0 0 := by
  refine zi_of (by decide) (Nat.le_of_ble_eq_true rfl) rfl ?_
  intro p e s m args below meth cd_ A Q ls C0 hnm hP hD hS hl hret
  obtain ⟨hx, hb, hr, hml, hlocks, hown, hts, hK, hA, hN⟩ := id C0
  have hl : lv_has ls 17 [(0, .ref (q 0)), (1, .int (nI w)), (2, .int pt)] := hl
  refine lv_iload_n hx hb dX2_odds_0 rfl (lv_at hl 1 rfl) ?_
  refine zk_pi (rest := []) C0 hP hD hS (c_M_isWell l D (tyG g) (nI w)) kk_X2_115 hl.1 rfl rfl (Nat.le_of_ble_eq_true rfl) ⟨(Nat.le_of_ble_eq_true rfl), (Nat.le_of_ble_eq_true rfl)⟩ rfl rfl ⟨(Nat.le_of_ble_eq_true rfl), (Nat.le_of_ble_eq_true rfl)⟩ dX2_odds_1 (fun r_1 H locs hw_1 hP hS => ?_)
  obtain rfl := hw_1
  refine lv_if_eq (tgt := 17) hx hb dX2_odds_4 (by decide) (fun c_4 => absurd c_4 (by rw [hww]; decide)) (fun _ => ?_)
  refine lv_iload_n hx hb dX2_odds_7 rfl (lv_at hl 2 rfl) ?_
  refine lv_i2l (v := pt.toInt64) hx hb dX2_odds_8 rfl ?_
  refine lv_lconst (v := 0) hx hb dX2_odds_9 (by decide) ?_
  refine lv_lconst (v := 1) hx hb dX2_odds_10 (by decide) ?_
  refine zk_pi (rest := []) C0 hP hD hS (c_M_isIn l D (tyG g) pt.toInt64 (0 : Int64) (1 : Int64)) kk_X2_63 hl.1 rfl rfl (Nat.le_of_ble_eq_true rfl) ⟨(Nat.le_of_ble_eq_true rfl), (Nat.le_of_ble_eq_true rfl)⟩ rfl rfl ⟨(Nat.le_of_ble_eq_true rfl), (Nat.le_of_ble_eq_true rfl)⟩ dX2_odds_11 (fun r_11 H locs hw_11 hP hS => ?_)
  obtain rfl := hw_11
  refine lv_if_ne (tgt := 19) hx hb dX2_odds_14 (by decide) (fun _ => ?_) (fun c_14 => absurd c_14 (by rw [hpt]; decide))
  refine lv_aload_n hx hb dX2_odds_19 rfl (lv_at hl 0 rfl) ?_
  refine va_get (D := D) (ci := 2) (v := .ref (q 9)) (C := RX2) (T := TX2) (N := 22) hx hb hts iw_X2 hown hK hP 0 rfl rfl 17 (by decide) (hts _ kf_X2_44) (fun _ h9 => h9) rfl dX2_odds_20 ?_
  refine lv_iload_n hx hb dX2_odds_23 rfl (lv_at hl 1 rfl) ?_
  refine za_iald (k := w) (f := (a 9)) (v := a 9 w) hx hb hK hP 9 0 rfl rfl rfl (by omega) (by decide) rfl dX2_odds_24 ?_
  rw [hc]
  refine lv_istore_n (lv' := [(3, .int (nI c)), (0, .ref (q 0)), (1, .int (nI w)), (2, .int pt)]) hx hb dX2_odds_25 rfl hl (by decide) rfl (fun ls hl => ?_)
  refine lv_iload_n hx hb dX2_odds_26 rfl (lv_at hl 0 rfl) ?_
  refine lv_iload_n hx hb dX2_odds_27 rfl (lv_at hl 0 rfl) ?_
  refine lv_iconst (v := 1) hx hb dX2_odds_28 (by decide) ?_
  refine lv_isub hx hb dX2_odds_29 ?_
  refine lv_imul hx hb dX2_odds_30 ?_
  refine lv_iconst (v := 2) hx hb dX2_odds_31 (by decide) ?_
  refine lv_idiv hx hb dX2_odds_32 (by decide) ?_
  rw [show ((nI c) * ((nI c) - 1)) / 2 = nI P from hPc]
  refine lv_istore (lv' := [(4, .int (nI P)), (3, .int (nI c)), (0, .ref (q 0)), (1, .int (nI w)), (2, .int pt)]) hx hb dX2_odds_33 hl (by decide) rfl (fun ls hl => ?_)
  refine lv_aload_n hx hb dX2_odds_35 rfl (lv_at hl 2 rfl) ?_
  refine lv_iload_n hx hb dX2_odds_36 rfl (lv_at hl 3 rfl) ?_
  refine zf_vi (rest := []) C0 hP hD hS (c_M_trend_p l D g q a b w hw4 c hc hc8 hww) kk_X2_122 kv_X2_122 2 rfl 0 rfl hl.1 rfl rfl (Nat.le_of_ble_eq_true rfl) ⟨(Nat.le_of_ble_eq_true rfl), (Nat.le_of_ble_eq_true rfl)⟩ rfl rfl ⟨(Nat.le_of_ble_eq_true rfl), (Nat.le_of_ble_eq_true rfl)⟩ dX2_odds_37 (fun r_37 u_37 H locs hw_37 hP hD hS => ?_)
  obtain rfl := hw_37
  refine lv_istore (lv' := [(5, .int (r_to (fun j => a 11 (8 * w + j)) c c)), (4, .int (nI P)), (3, .int (nI c)), (0, .ref (q 0)), (1, .int (nI w)), (2, .int pt)]) hx hb dX2_odds_40 hl (by decide) rfl (fun ls hl => ?_)
  refine lv_iload hx hb dX2_odds_42 (lv_at hl 0 rfl) ?_
  refine lv_if_ge (tgt := 53) hx hb dX2_odds_44 (by decide) (fun c_44 => ?_) (fun c_44 => ?_)
  · -- jump at 44
    refine lv_iload hx hb dX2_odds_53 (lv_at hl 0 rfl) ?_
    refine lv_topi (fun t9_1 et9_1 => ?_)
    obtain rfl : t9_1 = r_ab (r_to (fun j => a 11 (8 * w + j)) c c) := et9_1.trans (if_pos c_44).symm
    refine lv_istore (lv' := [(6, .int (r_ab (r_to (fun j => a 11 (8 * w + j)) c c))), (5, .int (r_to (fun j => a 11 (8 * w + j)) c c)), (4, .int (nI P)), (3, .int (nI c)), (0, .ref (q 0)), (1, .int (nI w)), (2, .int pt)]) hx hb dX2_odds_55 hl (by decide) rfl (fun ls hl => ?_)
    refine lv_aload_n hx hb dX2_odds_57 rfl (lv_at hl 4 rfl) ?_
    refine lv_iload_n hx hb dX2_odds_58 rfl (lv_at hl 3 rfl) ?_
    refine zf_vv (rest := []) C0 hP hD hS (c_M_countOrders l D g q a b c hc8) kk_X2_126 kv_X2_126 2 rfl 0 rfl hl.1 rfl rfl (Nat.le_of_ble_eq_true rfl) ⟨(Nat.le_of_ble_eq_true rfl), (Nat.le_of_ble_eq_true rfl)⟩ rfl rfl ⟨(Nat.le_of_ble_eq_true rfl), (Nat.le_of_ble_eq_true rfl)⟩ dX2_odds_59 (fun u_59 H locs hw_59 hP hD hS => ?_)
    obtain rfl := hw_59
    have hP : va_P D vwCl (wM g q a (va_up (va_up b 12 ((r_B (b 12) (b 13) (c - 1)).1)) 13 ((r_B (b 12) (b 13) (c - 1)).2))) H := hP
    have hD : va_D A (wM g q a (va_up (va_up b 12 ((r_B (b 12) (b 13) (c - 1)).1)) 13 ((r_B (b 12) (b 13) (c - 1)).2))) := hD
    refine lv_lconst (v := 0) hx hb dX2_odds_62 (by decide) ?_
    refine lv_lstore (lv' := [(7, .long 0), (6, .int (r_ab (r_to (fun j => a 11 (8 * w + j)) c c))), (5, .int (r_to (fun j => a 11 (8 * w + j)) c c)), (4, .int (nI P)), (3, .int (nI c)), (0, .ref (q 0)), (1, .int (nI w)), (2, .int pt)]) hx hb dX2_odds_63 hl (by decide) rfl (fun ls hl => ?_)
    refine lv_lconst (v := 0) hx hb dX2_odds_65 (by decide) ?_
    refine lv_lstore (lv' := [(9, .long 0), (7, .long 0), (6, .int (r_ab (r_to (fun j => a 11 (8 * w + j)) c c))), (5, .int (r_to (fun j => a 11 (8 * w + j)) c c)), (4, .int (nI P)), (3, .int (nI c)), (0, .ref (q 0)), (1, .int (nI w)), (2, .int pt)]) hx hb dX2_odds_66 hl (by decide) rfl (fun ls hl => ?_)
    refine lv_iconst (v := 0) hx hb dX2_odds_68 (by decide) ?_
    refine lv_istore (lv' := [(11, .int 0), (9, .long 0), (7, .long 0), (6, .int (r_ab (r_to (fun j => a 11 (8 * w + j)) c c))), (5, .int (r_to (fun j => a 11 (8 * w + j)) c c)), (4, .int (nI P)), (3, .int (nI c)), (0, .ref (q 0)), (1, .int (nI w)), (2, .int pt)]) hx hb dX2_odds_69 hl (by decide) rfl (fun ls hl => ?_)
    have lp_71 : ∀ (t_71 k : Nat) , k + t_71 = (P + 1) → ∀ (H : Heap) (locs : List Loc) (ls : Array Slot), va_P D vwCl (wM g q a (va_up (va_up b 12 ((r_B (b 12) (b 13) (c - 1)).1)) 13 ((r_B (b 12) (b 13) (c - 1)).2))) H → va_D A (wM g q a (va_up (va_up b 12 ((r_B (b 12) (b 13) (c - 1)).1)) 13 ((r_B (b 12) (b 13) (c - 1)).2))) → va_S A s.heap H locs → lv_has ls 17 [(11, .int (nI k)), (7, .long (r_abv (r_B (b 12) (b 13) (c - 1)).1 P (r_ab (r_to (fun j => a 11 (8 * w + j)) c c)) k)), (9, .long (r_blw (r_B (b 12) (b 13) (c - 1)).1 k)), (0, .ref (q 0)), (2, .int pt), (4, .int (nI P)), (6, .int (r_ab (r_to (fun j => a 11 (8 * w + j)) c c)))] → W p l e rm_M_odds s m args below meth cd_ H locs 0 0 Q (F0 m 71 ls []) := by
      intro t_71
      induction t_71 with
      | zero =>
        intro k hi_71 H locs ls hP hD hS hl
        obtain rfl : (P + 1) = k := by omega
        refine lv_iload hx hb dX2_odds_71 (lv_at hl 0 rfl) ?_
        refine lv_iload hx hb dX2_odds_73 (lv_at hl 5 rfl) ?_
        refine lv_icmp_gt (tgt := 136) hx hb dX2_odds_75 (by decide) (fun _ => ?_) (fun c_75 => absurd (nI_lt (by omega) (by omega)) c_75)
        refine lv_lload hx hb dX2_odds_136 (lv_at hl 1 rfl) ?_
        refine lv_topl (fun t9_2 et9_2 => ?_)
        obtain rfl : t9_2 = lN nA := et9_2.trans hnA
        refine lv_lstore (lv' := [(11, .long (lN nA)), (7, .long (r_abv (r_B (b 12) (b 13) (c - 1)).1 P (r_ab (r_to (fun j => a 11 (8 * w + j)) c c)) (P + 1))), (9, .long (r_blw (r_B (b 12) (b 13) (c - 1)).1 (P + 1))), (0, .ref (q 0)), (2, .int pt), (4, .int (nI P)), (6, .int (r_ab (r_to (fun j => a 11 (8 * w + j)) c c)))]) hx hb dX2_odds_138 hl (by decide) rfl (fun ls hl => ?_)
        refine lv_lload hx hb dX2_odds_140 (lv_at hl 2 rfl) ?_
        refine lv_topl (fun t9_3 et9_3 => ?_)
        obtain rfl : t9_3 = lN nB := et9_3.trans hnB
        refine lv_lstore (lv' := [(13, .long (lN nB)), (11, .long (lN nA)), (7, .long (r_abv (r_B (b 12) (b 13) (c - 1)).1 P (r_ab (r_to (fun j => a 11 (8 * w + j)) c c)) (P + 1))), (9, .long (r_blw (r_B (b 12) (b 13) (c - 1)).1 (P + 1))), (0, .ref (q 0)), (2, .int pt), (4, .int (nI P)), (6, .int (r_ab (r_to (fun j => a 11 (8 * w + j)) c c)))]) hx hb dX2_odds_142 hl (by decide) rfl (fun ls hl => ?_)
        have lp_144 : ∀ (t_144 i : Nat) (x : Nat) (y : Nat), i + t_144 = nB → y ≤ t_144 → Nat.gcd x y = Nat.gcd nA nB → (x < 2 ^ 31 ∧ y < 2 ^ 31) → ∀ (H : Heap) (locs : List Loc) (ls : Array Slot), va_P D vwCl (wM g q a (va_up (va_up b 12 ((r_B (b 12) (b 13) (c - 1)).1)) 13 ((r_B (b 12) (b 13) (c - 1)).2))) H → va_D A (wM g q a (va_up (va_up b 12 ((r_B (b 12) (b 13) (c - 1)).1)) 13 ((r_B (b 12) (b 13) (c - 1)).2))) → va_S A s.heap H locs → lv_has ls 17 [(13, .long (lN y)), (11, .long (lN x)), (7, .long (r_abv (r_B (b 12) (b 13) (c - 1)).1 P (r_ab (r_to (fun j => a 11 (8 * w + j)) c c)) (P + 1))), (9, .long (r_blw (r_B (b 12) (b 13) (c - 1)).1 (P + 1))), (2, .int pt)] → W p l e rm_M_odds s m args below meth cd_ H locs 0 0 Q (F0 m 144 ls []) := by
          intro t_144
          induction t_144 with
          | zero =>
            intro i x y hi_144 hyt hg hxy H locs ls hP hD hS hl
            obtain rfl : nB = i := by omega
            have hyz : y = 0 := by omega
            have hxg : x = Nat.gcd nA nB := by rw [← hg, hyz, Nat.gcd_zero_right]
            have hxne : ¬ lN x = 0 := fun h => by have h9 := (pk_lEQ (b := 0) (Nat.lt_trans hxy.1 (by decide)) (by decide)).mp h; rw [hxg] at h9; have h8 := Nat.gcd_pos_of_pos_right nA hB0; omega
            refine lv_lload hx hb dX2_odds_144 (lv_at hl 0 rfl) ?_
            refine lv_lconst (v := 0) hx hb dX2_odds_146 (by decide) ?_
            refine zl_eq (tgt := 169) hx hb dX2_odds_147 dX2_odds_148 (by decide) (fun _ => ?_) (fun c_147 => absurd (show lN y = 0 from by rw [hyz]; rfl) c_147)
            refine lv_iload_n hx hb dX2_odds_169 rfl (lv_at hl 4 rfl) ?_
            refine lv_if_ne (tgt := 181) hx hb dX2_odds_170 (by decide) (fun c_170 => ?_) (fun c_170 => ?_)
            · -- jump at 170
              refine lv_lload hx hb dX2_odds_181 (lv_at hl 3 rfl) ?_
              refine lv_topl (fun t9_4 et9_4 => ?_)
              obtain rfl : t9_4 = lN nB := et9_4.trans hnB
              refine lv_lload hx hb dX2_odds_183 (lv_at hl 1 rfl) ?_
              refine lv_ldiv hx hb dX2_odds_185 hxne ?_
              refine lv_l2i (v := ((lN nB) / (lN x)).toInt32) hx hb dX2_odds_186 rfl ?_
              exact hret (((lN nB) / (lN x)).toInt32) ((r_B (b 12) (b 13) (c - 1)).1, (r_B (b 12) (b 13) (c - 1)).2) _ _ _ _ _ _ (vp_nar_int _) (by rw [hxg]; first | exact (if_pos c_170).symm | exact (if_neg c_170).symm) hP hD hS (Nat.le_of_ble_eq_true rfl) (Nat.le_of_ble_eq_true rfl) dX2_odds_187
            · -- on at 170
              refine lv_lload hx hb dX2_odds_173 (lv_at hl 2 rfl) ?_
              refine lv_topl (fun t9_5 et9_5 => ?_)
              obtain rfl : t9_5 = lN nA := et9_5.trans hnA
              refine lv_lload hx hb dX2_odds_175 (lv_at hl 1 rfl) ?_
              refine lv_ldiv hx hb dX2_odds_177 hxne ?_
              refine lv_goto (tgt := 186) hx hb dX2_odds_178 (by decide) ?_
              refine lv_l2i (v := ((lN nA) / (lN x)).toInt32) hx hb dX2_odds_186 rfl ?_
              exact hret (((lN nA) / (lN x)).toInt32) ((r_B (b 12) (b 13) (c - 1)).1, (r_B (b 12) (b 13) (c - 1)).2) _ _ _ _ _ _ (vp_nar_int _) (by rw [hxg]; first | exact (if_pos c_170).symm | exact (if_neg c_170).symm) hP hD hS (Nat.le_of_ble_eq_true rfl) (Nat.le_of_ble_eq_true rfl) dX2_odds_187
          | succ t_144 ih_144 =>
            intro i x y hi_144 hyt hg hxy H locs ls hP hD hS hl
            refine lv_lload hx hb dX2_odds_144 (lv_at hl 0 rfl) ?_
            refine lv_lconst (v := 0) hx hb dX2_odds_146 (by decide) ?_
            refine zl_eq (tgt := 169) hx hb dX2_odds_147 dX2_odds_148 (by decide) (fun c_147 => ?_) (fun c_147 => ?_)
            · -- jump at 147
              have hyz : y = 0 := (pk_lEQ (b := 0) (Nat.lt_trans hxy.2 (by decide)) (by decide)).mp c_147
              have hxg : x = Nat.gcd nA nB := by rw [← hg, hyz, Nat.gcd_zero_right]
              have hxne : ¬ lN x = 0 := fun h => by have h9 := (pk_lEQ (b := 0) (Nat.lt_trans hxy.1 (by decide)) (by decide)).mp h; rw [hxg] at h9; have h8 := Nat.gcd_pos_of_pos_right nA hB0; omega
              refine lv_iload_n hx hb dX2_odds_169 rfl (lv_at hl 4 rfl) ?_
              refine lv_if_ne (tgt := 181) hx hb dX2_odds_170 (by decide) (fun c_170 => ?_) (fun c_170 => ?_)
              · -- jump at 170
                refine lv_lload hx hb dX2_odds_181 (lv_at hl 3 rfl) ?_
                refine lv_topl (fun t9_6 et9_6 => ?_)
                obtain rfl : t9_6 = lN nB := et9_6.trans hnB
                refine lv_lload hx hb dX2_odds_183 (lv_at hl 1 rfl) ?_
                refine lv_ldiv hx hb dX2_odds_185 hxne ?_
                refine lv_l2i (v := ((lN nB) / (lN x)).toInt32) hx hb dX2_odds_186 rfl ?_
                exact hret (((lN nB) / (lN x)).toInt32) ((r_B (b 12) (b 13) (c - 1)).1, (r_B (b 12) (b 13) (c - 1)).2) _ _ _ _ _ _ (vp_nar_int _) (by rw [hxg]; first | exact (if_pos c_170).symm | exact (if_neg c_170).symm) hP hD hS (Nat.le_of_ble_eq_true rfl) (Nat.le_of_ble_eq_true rfl) dX2_odds_187
              · -- on at 170
                refine lv_lload hx hb dX2_odds_173 (lv_at hl 2 rfl) ?_
                refine lv_topl (fun t9_7 et9_7 => ?_)
                obtain rfl : t9_7 = lN nA := et9_7.trans hnA
                refine lv_lload hx hb dX2_odds_175 (lv_at hl 1 rfl) ?_
                refine lv_ldiv hx hb dX2_odds_177 hxne ?_
                refine lv_goto (tgt := 186) hx hb dX2_odds_178 (by decide) ?_
                refine lv_l2i (v := ((lN nA) / (lN x)).toInt32) hx hb dX2_odds_186 rfl ?_
                exact hret (((lN nA) / (lN x)).toInt32) ((r_B (b 12) (b 13) (c - 1)).1, (r_B (b 12) (b 13) (c - 1)).2) _ _ _ _ _ _ (vp_nar_int _) (by rw [hxg]; first | exact (if_pos c_170).symm | exact (if_neg c_170).symm) hP hD hS (Nat.le_of_ble_eq_true rfl) (Nat.le_of_ble_eq_true rfl) dX2_odds_187
            · -- on at 147
              have hy0 : 0 < y := by rcases Nat.eq_zero_or_pos y with h | h; exact absurd (show lN y = 0 from by rw [h]; rfl) c_147; exact h
              refine lv_lload hx hb dX2_odds_151 (lv_at hl 1 rfl) ?_
              refine lv_lload hx hb dX2_odds_153 (lv_at hl 0 rfl) ?_
              refine lv_lrem hx hb dX2_odds_155 c_147 ?_
              refine lv_topl (fun t9_8 et9_8 => ?_)
              obtain rfl : t9_8 = lN (x % y) := et9_8.trans (pk_lRem (Nat.lt_trans hxy.1 (by decide)) hy0 (Nat.lt_trans hxy.2 (by decide)))
              refine lv_lstore (lv' := [(15, .long (lN (x % y))), (13, .long (lN y)), (11, .long (lN x)), (7, .long (r_abv (r_B (b 12) (b 13) (c - 1)).1 P (r_ab (r_to (fun j => a 11 (8 * w + j)) c c)) (P + 1))), (9, .long (r_blw (r_B (b 12) (b 13) (c - 1)).1 (P + 1))), (2, .int pt)]) hx hb dX2_odds_156 hl (by decide) rfl (fun ls hl => ?_)
              refine lv_lload hx hb dX2_odds_158 (lv_at hl 1 rfl) ?_
              refine lv_lstore (lv' := [(11, .long (lN y)), (15, .long (lN (x % y))), (13, .long (lN y)), (7, .long (r_abv (r_B (b 12) (b 13) (c - 1)).1 P (r_ab (r_to (fun j => a 11 (8 * w + j)) c c)) (P + 1))), (9, .long (r_blw (r_B (b 12) (b 13) (c - 1)).1 (P + 1))), (2, .int pt)]) hx hb dX2_odds_160 hl (by decide) rfl (fun ls hl => ?_)
              refine lv_lload hx hb dX2_odds_162 (lv_at hl 1 rfl) ?_
              refine lv_lstore (lv' := [(13, .long (lN (x % y))), (11, .long (lN y)), (15, .long (lN (x % y))), (7, .long (r_abv (r_B (b 12) (b 13) (c - 1)).1 P (r_ab (r_to (fun j => a 11 (8 * w + j)) c c)) (P + 1))), (9, .long (r_blw (r_B (b 12) (b 13) (c - 1)).1 (P + 1))), (2, .int pt)]) hx hb dX2_odds_164 hl (by decide) rfl (fun ls hl => ?_)
              refine lv_goto (tgt := 144) hx hb dX2_odds_166 (by decide) ?_
              have hP : va_P D vwCl (wM g q a (va_up (va_up b 12 ((r_B (b 12) (b 13) (c - 1)).1)) 13 ((r_B (b 12) (b 13) (c - 1)).2))) _ := hP
              have hD : va_D A (wM g q a (va_up (va_up b 12 ((r_B (b 12) (b 13) (c - 1)).1)) 13 ((r_B (b 12) (b 13) (c - 1)).2))) := hD
              have hl : lv_has ls 17 [(13, .long (lN (x % y))), (11, .long (lN y)), (7, .long (r_abv (r_B (b 12) (b 13) (c - 1)).1 P (r_ab (r_to (fun j => a 11 (8 * w + j)) c c)) (P + 1))), (9, .long (r_blw (r_B (b 12) (b 13) (c - 1)).1 (P + 1))), (2, .int pt)] := lv_sub hl [0, 1, 3, 4, 5] rfl
              exact ih_144 (i + 1) y (x % y) (by omega) (by have h9 := Nat.mod_lt x hy0; omega) (by rw [← hg, Nat.gcd_comm y, Nat.gcd_comm x]; exact (Nat.gcd_rec y x).symm) ⟨hxy.2, Nat.lt_trans (Nat.mod_lt x hy0) hxy.2⟩ _ _ _ hP hD hS hl
        exact lp_144 (nB - 0) 0 nA nB (by omega) (Nat.le_refl _) rfl ⟨hA1, hB1⟩ _ _ _ hP hD hS (lv_sub hl [0, 1, 2, 3, 5] rfl)
      | succ t_71 ih_71 =>
        intro k hi_71 H locs ls hP hD hS hl
        refine lv_iload hx hb dX2_odds_71 (lv_at hl 0 rfl) ?_
        refine lv_iload hx hb dX2_odds_73 (lv_at hl 5 rfl) ?_
        refine lv_icmp_gt (tgt := 136) hx hb dX2_odds_75 (by decide) (fun c_75 => absurd c_75 (nI_nlt (by omega) (by omega))) (fun _ => ?_)
        refine lv_iload hx hb dX2_odds_78 (lv_at hl 5 rfl) ?_
        refine lv_iconst (v := 2) hx hb dX2_odds_80 (by decide) ?_
        refine lv_iload hx hb dX2_odds_81 (lv_at hl 0 rfl) ?_
        refine lv_imul hx hb dX2_odds_83 ?_
        refine lv_isub hx hb dX2_odds_84 ?_
        refine lv_istore (lv' := [(12, .int ((nI P) - (2 * (nI k)))), (11, .int (nI k)), (7, .long (r_abv (r_B (b 12) (b 13) (c - 1)).1 P (r_ab (r_to (fun j => a 11 (8 * w + j)) c c)) k)), (9, .long (r_blw (r_B (b 12) (b 13) (c - 1)).1 k)), (0, .ref (q 0)), (2, .int pt), (4, .int (nI P)), (6, .int (r_ab (r_to (fun j => a 11 (8 * w + j)) c c)))]) hx hb dX2_odds_85 hl (by decide) rfl (fun ls hl => ?_)
        refine lv_lload hx hb dX2_odds_87 (lv_at hl 3 rfl) ?_
        refine lv_aload_n hx hb dX2_odds_89 rfl (lv_at hl 4 rfl) ?_
        refine va_get (D := D) (ci := 2) (v := .ref (q 12)) (C := RX2) (T := TX2) (N := 22) hx hb hts iw_X2 hown hK hP 0 rfl rfl 20 (by decide) (hts _ kf_X2_53) (fun _ h9 => h9) rfl dX2_odds_90 ?_
        refine lv_iload hx hb dX2_odds_93 (lv_at hl 1 rfl) ?_
        refine za_lald (k := k) (f := ((r_B (b 12) (b 13) (c - 1)).1)) (v := (r_B (b 12) (b 13) (c - 1)).1 k) hx hb hK hP 12 1 rfl rfl rfl (by omega) (by decide) rfl dX2_odds_95 ?_
        refine lv_ladd hx hb dX2_odds_96 ?_
        refine lv_lstore (lv' := [(9, .long ((r_blw (r_B (b 12) (b 13) (c - 1)).1 k) + ((r_B (b 12) (b 13) (c - 1)).1 k))), (12, .int ((nI P) - (2 * (nI k)))), (11, .int (nI k)), (7, .long (r_abv (r_B (b 12) (b 13) (c - 1)).1 P (r_ab (r_to (fun j => a 11 (8 * w + j)) c c)) k)), (0, .ref (q 0)), (2, .int pt), (4, .int (nI P)), (6, .int (r_ab (r_to (fun j => a 11 (8 * w + j)) c c)))]) hx hb dX2_odds_97 hl (by decide) rfl (fun ls hl => ?_)
        refine lv_lload hx hb dX2_odds_99 (lv_at hl 3 rfl) ?_
        refine lv_iload hx hb dX2_odds_101 (lv_at hl 1 rfl) ?_
        refine lv_iload hx hb dX2_odds_103 (lv_at hl 7 rfl) ?_
        refine lv_icmp_ge (tgt := 116) hx hb dX2_odds_105 (by decide) (fun c_105 => ?_) (fun c_105 => ?_)
        · -- jump at 105
          refine lv_aload_n hx hb dX2_odds_116 rfl (lv_at hl 4 rfl) ?_
          refine va_get (D := D) (ci := 2) (v := .ref (q 12)) (C := RX2) (T := TX2) (N := 22) hx hb hts iw_X2 hown hK hP 0 rfl rfl 20 (by decide) (hts _ kf_X2_53) (fun _ h9 => h9) rfl dX2_odds_117 ?_
          refine lv_iload hx hb dX2_odds_120 (lv_at hl 2 rfl) ?_
          refine za_lald (k := k) (f := ((r_B (b 12) (b 13) (c - 1)).1)) (v := (r_B (b 12) (b 13) (c - 1)).1 k) hx hb hK hP 12 1 rfl rfl rfl (by omega) (by decide) rfl dX2_odds_122 ?_
          refine lv_goto (tgt := 127) hx hb dX2_odds_123 (by decide) ?_
          refine lv_topl (fun t9_9 et9_9 => ?_)
          obtain rfl : t9_9 = r_ad (r_B (b 12) (b 13) (c - 1)).1 P (r_ab (r_to (fun j => a 11 (8 * w + j)) c c)) k := et9_9.trans (if_pos c_105).symm
          refine lv_ladd hx hb dX2_odds_127 ?_
          refine lv_lstore (lv' := [(7, .long ((r_abv (r_B (b 12) (b 13) (c - 1)).1 P (r_ab (r_to (fun j => a 11 (8 * w + j)) c c)) k) + (r_ad (r_B (b 12) (b 13) (c - 1)).1 P (r_ab (r_to (fun j => a 11 (8 * w + j)) c c)) k))), (9, .long ((r_blw (r_B (b 12) (b 13) (c - 1)).1 k) + ((r_B (b 12) (b 13) (c - 1)).1 k))), (12, .int ((nI P) - (2 * (nI k)))), (11, .int (nI k)), (0, .ref (q 0)), (2, .int pt), (4, .int (nI P)), (6, .int (r_ab (r_to (fun j => a 11 (8 * w + j)) c c)))]) hx hb dX2_odds_128 hl (by decide) rfl (fun ls hl => ?_)
          refine lv_iinc (v := nI (k + 1)) (lv' := [(11, .int (nI (k + 1))), (7, .long ((r_abv (r_B (b 12) (b 13) (c - 1)).1 P (r_ab (r_to (fun j => a 11 (8 * w + j)) c c)) k) + (r_ad (r_B (b 12) (b 13) (c - 1)).1 P (r_ab (r_to (fun j => a 11 (8 * w + j)) c c)) k))), (9, .long ((r_blw (r_B (b 12) (b 13) (c - 1)).1 k) + ((r_B (b 12) (b 13) (c - 1)).1 k))), (12, .int ((nI P) - (2 * (nI k)))), (0, .ref (q 0)), (2, .int pt), (4, .int (nI P)), (6, .int (r_ab (r_to (fun j => a 11 (8 * w + j)) c c)))]) hx hb dX2_odds_130 hl (k := 3) rfl (nI_1 k) (by decide) rfl (fun ls hl => ?_)
          refine lv_goto (tgt := 71) hx hb dX2_odds_133 (by decide) ?_
          have hP : va_P D vwCl (wM g q a (va_up (va_up b 12 ((r_B (b 12) (b 13) (c - 1)).1)) 13 ((r_B (b 12) (b 13) (c - 1)).2))) _ := hP
          have hD : va_D A (wM g q a (va_up (va_up b 12 ((r_B (b 12) (b 13) (c - 1)).1)) 13 ((r_B (b 12) (b 13) (c - 1)).2))) := hD
          have hl : lv_has ls 17 [(11, .int (nI (k + 1))), (7, .long (r_abv (r_B (b 12) (b 13) (c - 1)).1 P (r_ab (r_to (fun j => a 11 (8 * w + j)) c c)) (k + 1))), (9, .long (r_blw (r_B (b 12) (b 13) (c - 1)).1 (k + 1))), (0, .ref (q 0)), (2, .int pt), (4, .int (nI P)), (6, .int (r_ab (r_to (fun j => a 11 (8 * w + j)) c c)))] := lv_sub hl [0, 1, 2, 4, 5, 6, 7] rfl
          exact ih_71 (k + 1)  (by omega)  _ _ _ hP hD hS hl
        · -- on at 105
          refine lv_iload hx hb dX2_odds_108 (lv_at hl 1 rfl) ?_
          refine lv_ineg hx hb dX2_odds_110 ?_
          refine lv_iload hx hb dX2_odds_111 (lv_at hl 7 rfl) ?_
          refine lv_icmp_lt (tgt := 126) hx hb dX2_odds_113 (by decide) (fun c_113 => ?_) (fun c_113 => ?_)
          · -- jump at 113
            refine lv_lconst (v := 0) hx hb dX2_odds_126 (by decide) ?_
            refine lv_topl (fun t9_10 et9_10 => ?_)
            obtain rfl : t9_10 = r_ad (r_B (b 12) (b 13) (c - 1)).1 P (r_ab (r_to (fun j => a 11 (8 * w + j)) c c)) k := et9_10.trans ((if_neg c_105).trans (if_pos c_113)).symm
            refine lv_ladd hx hb dX2_odds_127 ?_
            refine lv_lstore (lv' := [(7, .long ((r_abv (r_B (b 12) (b 13) (c - 1)).1 P (r_ab (r_to (fun j => a 11 (8 * w + j)) c c)) k) + (r_ad (r_B (b 12) (b 13) (c - 1)).1 P (r_ab (r_to (fun j => a 11 (8 * w + j)) c c)) k))), (9, .long ((r_blw (r_B (b 12) (b 13) (c - 1)).1 k) + ((r_B (b 12) (b 13) (c - 1)).1 k))), (12, .int ((nI P) - (2 * (nI k)))), (11, .int (nI k)), (0, .ref (q 0)), (2, .int pt), (4, .int (nI P)), (6, .int (r_ab (r_to (fun j => a 11 (8 * w + j)) c c)))]) hx hb dX2_odds_128 hl (by decide) rfl (fun ls hl => ?_)
            refine lv_iinc (v := nI (k + 1)) (lv' := [(11, .int (nI (k + 1))), (7, .long ((r_abv (r_B (b 12) (b 13) (c - 1)).1 P (r_ab (r_to (fun j => a 11 (8 * w + j)) c c)) k) + (r_ad (r_B (b 12) (b 13) (c - 1)).1 P (r_ab (r_to (fun j => a 11 (8 * w + j)) c c)) k))), (9, .long ((r_blw (r_B (b 12) (b 13) (c - 1)).1 k) + ((r_B (b 12) (b 13) (c - 1)).1 k))), (12, .int ((nI P) - (2 * (nI k)))), (0, .ref (q 0)), (2, .int pt), (4, .int (nI P)), (6, .int (r_ab (r_to (fun j => a 11 (8 * w + j)) c c)))]) hx hb dX2_odds_130 hl (k := 3) rfl (nI_1 k) (by decide) rfl (fun ls hl => ?_)
            refine lv_goto (tgt := 71) hx hb dX2_odds_133 (by decide) ?_
            have hP : va_P D vwCl (wM g q a (va_up (va_up b 12 ((r_B (b 12) (b 13) (c - 1)).1)) 13 ((r_B (b 12) (b 13) (c - 1)).2))) _ := hP
            have hD : va_D A (wM g q a (va_up (va_up b 12 ((r_B (b 12) (b 13) (c - 1)).1)) 13 ((r_B (b 12) (b 13) (c - 1)).2))) := hD
            have hl : lv_has ls 17 [(11, .int (nI (k + 1))), (7, .long (r_abv (r_B (b 12) (b 13) (c - 1)).1 P (r_ab (r_to (fun j => a 11 (8 * w + j)) c c)) (k + 1))), (9, .long (r_blw (r_B (b 12) (b 13) (c - 1)).1 (k + 1))), (0, .ref (q 0)), (2, .int pt), (4, .int (nI P)), (6, .int (r_ab (r_to (fun j => a 11 (8 * w + j)) c c)))] := lv_sub hl [0, 1, 2, 4, 5, 6, 7] rfl
            exact ih_71 (k + 1)  (by omega)  _ _ _ hP hD hS hl
          · -- on at 113
            refine lv_aload_n hx hb dX2_odds_116 rfl (lv_at hl 4 rfl) ?_
            refine va_get (D := D) (ci := 2) (v := .ref (q 12)) (C := RX2) (T := TX2) (N := 22) hx hb hts iw_X2 hown hK hP 0 rfl rfl 20 (by decide) (hts _ kf_X2_53) (fun _ h9 => h9) rfl dX2_odds_117 ?_
            refine lv_iload hx hb dX2_odds_120 (lv_at hl 2 rfl) ?_
            refine za_lald (k := k) (f := ((r_B (b 12) (b 13) (c - 1)).1)) (v := (r_B (b 12) (b 13) (c - 1)).1 k) hx hb hK hP 12 1 rfl rfl rfl (by omega) (by decide) rfl dX2_odds_122 ?_
            refine lv_goto (tgt := 127) hx hb dX2_odds_123 (by decide) ?_
            refine lv_topl (fun t9_11 et9_11 => ?_)
            obtain rfl : t9_11 = r_ad (r_B (b 12) (b 13) (c - 1)).1 P (r_ab (r_to (fun j => a 11 (8 * w + j)) c c)) k := et9_11.trans ((if_neg c_105).trans (if_neg c_113)).symm
            refine lv_ladd hx hb dX2_odds_127 ?_
            refine lv_lstore (lv' := [(7, .long ((r_abv (r_B (b 12) (b 13) (c - 1)).1 P (r_ab (r_to (fun j => a 11 (8 * w + j)) c c)) k) + (r_ad (r_B (b 12) (b 13) (c - 1)).1 P (r_ab (r_to (fun j => a 11 (8 * w + j)) c c)) k))), (9, .long ((r_blw (r_B (b 12) (b 13) (c - 1)).1 k) + ((r_B (b 12) (b 13) (c - 1)).1 k))), (12, .int ((nI P) - (2 * (nI k)))), (11, .int (nI k)), (0, .ref (q 0)), (2, .int pt), (4, .int (nI P)), (6, .int (r_ab (r_to (fun j => a 11 (8 * w + j)) c c)))]) hx hb dX2_odds_128 hl (by decide) rfl (fun ls hl => ?_)
            refine lv_iinc (v := nI (k + 1)) (lv' := [(11, .int (nI (k + 1))), (7, .long ((r_abv (r_B (b 12) (b 13) (c - 1)).1 P (r_ab (r_to (fun j => a 11 (8 * w + j)) c c)) k) + (r_ad (r_B (b 12) (b 13) (c - 1)).1 P (r_ab (r_to (fun j => a 11 (8 * w + j)) c c)) k))), (9, .long ((r_blw (r_B (b 12) (b 13) (c - 1)).1 k) + ((r_B (b 12) (b 13) (c - 1)).1 k))), (12, .int ((nI P) - (2 * (nI k)))), (0, .ref (q 0)), (2, .int pt), (4, .int (nI P)), (6, .int (r_ab (r_to (fun j => a 11 (8 * w + j)) c c)))]) hx hb dX2_odds_130 hl (k := 3) rfl (nI_1 k) (by decide) rfl (fun ls hl => ?_)
            refine lv_goto (tgt := 71) hx hb dX2_odds_133 (by decide) ?_
            have hP : va_P D vwCl (wM g q a (va_up (va_up b 12 ((r_B (b 12) (b 13) (c - 1)).1)) 13 ((r_B (b 12) (b 13) (c - 1)).2))) _ := hP
            have hD : va_D A (wM g q a (va_up (va_up b 12 ((r_B (b 12) (b 13) (c - 1)).1)) 13 ((r_B (b 12) (b 13) (c - 1)).2))) := hD
            have hl : lv_has ls 17 [(11, .int (nI (k + 1))), (7, .long (r_abv (r_B (b 12) (b 13) (c - 1)).1 P (r_ab (r_to (fun j => a 11 (8 * w + j)) c c)) (k + 1))), (9, .long (r_blw (r_B (b 12) (b 13) (c - 1)).1 (k + 1))), (0, .ref (q 0)), (2, .int pt), (4, .int (nI P)), (6, .int (r_ab (r_to (fun j => a 11 (8 * w + j)) c c)))] := lv_sub hl [0, 1, 2, 4, 5, 6, 7] rfl
            exact ih_71 (k + 1)  (by omega)  _ _ _ hP hD hS hl
    exact lp_71 ((P + 1) - 0) 0  (by omega)  _ _ _ hP hD hS (lv_sub hl [0, 2, 1, 7, 9, 5, 3] rfl)
  · -- on at 44
    refine lv_iload hx hb dX2_odds_47 (lv_at hl 0 rfl) ?_
    refine lv_ineg hx hb dX2_odds_49 ?_
    refine lv_goto (tgt := 55) hx hb dX2_odds_50 (by decide) ?_
    refine lv_topi (fun t9_12 et9_12 => ?_)
    obtain rfl : t9_12 = r_ab (r_to (fun j => a 11 (8 * w + j)) c c) := et9_12.trans (if_neg c_44).symm
    refine lv_istore (lv' := [(6, .int (r_ab (r_to (fun j => a 11 (8 * w + j)) c c))), (5, .int (r_to (fun j => a 11 (8 * w + j)) c c)), (4, .int (nI P)), (3, .int (nI c)), (0, .ref (q 0)), (1, .int (nI w)), (2, .int pt)]) hx hb dX2_odds_55 hl (by decide) rfl (fun ls hl => ?_)
    refine lv_aload_n hx hb dX2_odds_57 rfl (lv_at hl 4 rfl) ?_
    refine lv_iload_n hx hb dX2_odds_58 rfl (lv_at hl 3 rfl) ?_
    refine zf_vv (rest := []) C0 hP hD hS (c_M_countOrders l D g q a b c hc8) kk_X2_126 kv_X2_126 2 rfl 0 rfl hl.1 rfl rfl (Nat.le_of_ble_eq_true rfl) ⟨(Nat.le_of_ble_eq_true rfl), (Nat.le_of_ble_eq_true rfl)⟩ rfl rfl ⟨(Nat.le_of_ble_eq_true rfl), (Nat.le_of_ble_eq_true rfl)⟩ dX2_odds_59 (fun u_59 H locs hw_59 hP hD hS => ?_)
    obtain rfl := hw_59
    have hP : va_P D vwCl (wM g q a (va_up (va_up b 12 ((r_B (b 12) (b 13) (c - 1)).1)) 13 ((r_B (b 12) (b 13) (c - 1)).2))) H := hP
    have hD : va_D A (wM g q a (va_up (va_up b 12 ((r_B (b 12) (b 13) (c - 1)).1)) 13 ((r_B (b 12) (b 13) (c - 1)).2))) := hD
    refine lv_lconst (v := 0) hx hb dX2_odds_62 (by decide) ?_
    refine lv_lstore (lv' := [(7, .long 0), (6, .int (r_ab (r_to (fun j => a 11 (8 * w + j)) c c))), (5, .int (r_to (fun j => a 11 (8 * w + j)) c c)), (4, .int (nI P)), (3, .int (nI c)), (0, .ref (q 0)), (1, .int (nI w)), (2, .int pt)]) hx hb dX2_odds_63 hl (by decide) rfl (fun ls hl => ?_)
    refine lv_lconst (v := 0) hx hb dX2_odds_65 (by decide) ?_
    refine lv_lstore (lv' := [(9, .long 0), (7, .long 0), (6, .int (r_ab (r_to (fun j => a 11 (8 * w + j)) c c))), (5, .int (r_to (fun j => a 11 (8 * w + j)) c c)), (4, .int (nI P)), (3, .int (nI c)), (0, .ref (q 0)), (1, .int (nI w)), (2, .int pt)]) hx hb dX2_odds_66 hl (by decide) rfl (fun ls hl => ?_)
    refine lv_iconst (v := 0) hx hb dX2_odds_68 (by decide) ?_
    refine lv_istore (lv' := [(11, .int 0), (9, .long 0), (7, .long 0), (6, .int (r_ab (r_to (fun j => a 11 (8 * w + j)) c c))), (5, .int (r_to (fun j => a 11 (8 * w + j)) c c)), (4, .int (nI P)), (3, .int (nI c)), (0, .ref (q 0)), (1, .int (nI w)), (2, .int pt)]) hx hb dX2_odds_69 hl (by decide) rfl (fun ls hl => ?_)
    have lp_71 : ∀ (t_71 k : Nat) , k + t_71 = (P + 1) → ∀ (H : Heap) (locs : List Loc) (ls : Array Slot), va_P D vwCl (wM g q a (va_up (va_up b 12 ((r_B (b 12) (b 13) (c - 1)).1)) 13 ((r_B (b 12) (b 13) (c - 1)).2))) H → va_D A (wM g q a (va_up (va_up b 12 ((r_B (b 12) (b 13) (c - 1)).1)) 13 ((r_B (b 12) (b 13) (c - 1)).2))) → va_S A s.heap H locs → lv_has ls 17 [(11, .int (nI k)), (7, .long (r_abv (r_B (b 12) (b 13) (c - 1)).1 P (r_ab (r_to (fun j => a 11 (8 * w + j)) c c)) k)), (9, .long (r_blw (r_B (b 12) (b 13) (c - 1)).1 k)), (0, .ref (q 0)), (2, .int pt), (4, .int (nI P)), (6, .int (r_ab (r_to (fun j => a 11 (8 * w + j)) c c)))] → W p l e rm_M_odds s m args below meth cd_ H locs 0 0 Q (F0 m 71 ls []) := by
      intro t_71
      induction t_71 with
      | zero =>
        intro k hi_71 H locs ls hP hD hS hl
        obtain rfl : (P + 1) = k := by omega
        refine lv_iload hx hb dX2_odds_71 (lv_at hl 0 rfl) ?_
        refine lv_iload hx hb dX2_odds_73 (lv_at hl 5 rfl) ?_
        refine lv_icmp_gt (tgt := 136) hx hb dX2_odds_75 (by decide) (fun _ => ?_) (fun c_75 => absurd (nI_lt (by omega) (by omega)) c_75)
        refine lv_lload hx hb dX2_odds_136 (lv_at hl 1 rfl) ?_
        refine lv_topl (fun t9_13 et9_13 => ?_)
        obtain rfl : t9_13 = lN nA := et9_13.trans hnA
        refine lv_lstore (lv' := [(11, .long (lN nA)), (7, .long (r_abv (r_B (b 12) (b 13) (c - 1)).1 P (r_ab (r_to (fun j => a 11 (8 * w + j)) c c)) (P + 1))), (9, .long (r_blw (r_B (b 12) (b 13) (c - 1)).1 (P + 1))), (0, .ref (q 0)), (2, .int pt), (4, .int (nI P)), (6, .int (r_ab (r_to (fun j => a 11 (8 * w + j)) c c)))]) hx hb dX2_odds_138 hl (by decide) rfl (fun ls hl => ?_)
        refine lv_lload hx hb dX2_odds_140 (lv_at hl 2 rfl) ?_
        refine lv_topl (fun t9_14 et9_14 => ?_)
        obtain rfl : t9_14 = lN nB := et9_14.trans hnB
        refine lv_lstore (lv' := [(13, .long (lN nB)), (11, .long (lN nA)), (7, .long (r_abv (r_B (b 12) (b 13) (c - 1)).1 P (r_ab (r_to (fun j => a 11 (8 * w + j)) c c)) (P + 1))), (9, .long (r_blw (r_B (b 12) (b 13) (c - 1)).1 (P + 1))), (0, .ref (q 0)), (2, .int pt), (4, .int (nI P)), (6, .int (r_ab (r_to (fun j => a 11 (8 * w + j)) c c)))]) hx hb dX2_odds_142 hl (by decide) rfl (fun ls hl => ?_)
        have lp_144 : ∀ (t_144 i : Nat) (x : Nat) (y : Nat), i + t_144 = nB → y ≤ t_144 → Nat.gcd x y = Nat.gcd nA nB → (x < 2 ^ 31 ∧ y < 2 ^ 31) → ∀ (H : Heap) (locs : List Loc) (ls : Array Slot), va_P D vwCl (wM g q a (va_up (va_up b 12 ((r_B (b 12) (b 13) (c - 1)).1)) 13 ((r_B (b 12) (b 13) (c - 1)).2))) H → va_D A (wM g q a (va_up (va_up b 12 ((r_B (b 12) (b 13) (c - 1)).1)) 13 ((r_B (b 12) (b 13) (c - 1)).2))) → va_S A s.heap H locs → lv_has ls 17 [(13, .long (lN y)), (11, .long (lN x)), (7, .long (r_abv (r_B (b 12) (b 13) (c - 1)).1 P (r_ab (r_to (fun j => a 11 (8 * w + j)) c c)) (P + 1))), (9, .long (r_blw (r_B (b 12) (b 13) (c - 1)).1 (P + 1))), (2, .int pt)] → W p l e rm_M_odds s m args below meth cd_ H locs 0 0 Q (F0 m 144 ls []) := by
          intro t_144
          induction t_144 with
          | zero =>
            intro i x y hi_144 hyt hg hxy H locs ls hP hD hS hl
            obtain rfl : nB = i := by omega
            have hyz : y = 0 := by omega
            have hxg : x = Nat.gcd nA nB := by rw [← hg, hyz, Nat.gcd_zero_right]
            have hxne : ¬ lN x = 0 := fun h => by have h9 := (pk_lEQ (b := 0) (Nat.lt_trans hxy.1 (by decide)) (by decide)).mp h; rw [hxg] at h9; have h8 := Nat.gcd_pos_of_pos_right nA hB0; omega
            refine lv_lload hx hb dX2_odds_144 (lv_at hl 0 rfl) ?_
            refine lv_lconst (v := 0) hx hb dX2_odds_146 (by decide) ?_
            refine zl_eq (tgt := 169) hx hb dX2_odds_147 dX2_odds_148 (by decide) (fun _ => ?_) (fun c_147 => absurd (show lN y = 0 from by rw [hyz]; rfl) c_147)
            refine lv_iload_n hx hb dX2_odds_169 rfl (lv_at hl 4 rfl) ?_
            refine lv_if_ne (tgt := 181) hx hb dX2_odds_170 (by decide) (fun c_170 => ?_) (fun c_170 => ?_)
            · -- jump at 170
              refine lv_lload hx hb dX2_odds_181 (lv_at hl 3 rfl) ?_
              refine lv_topl (fun t9_15 et9_15 => ?_)
              obtain rfl : t9_15 = lN nB := et9_15.trans hnB
              refine lv_lload hx hb dX2_odds_183 (lv_at hl 1 rfl) ?_
              refine lv_ldiv hx hb dX2_odds_185 hxne ?_
              refine lv_l2i (v := ((lN nB) / (lN x)).toInt32) hx hb dX2_odds_186 rfl ?_
              exact hret (((lN nB) / (lN x)).toInt32) ((r_B (b 12) (b 13) (c - 1)).1, (r_B (b 12) (b 13) (c - 1)).2) _ _ _ _ _ _ (vp_nar_int _) (by rw [hxg]; first | exact (if_pos c_170).symm | exact (if_neg c_170).symm) hP hD hS (Nat.le_of_ble_eq_true rfl) (Nat.le_of_ble_eq_true rfl) dX2_odds_187
            · -- on at 170
              refine lv_lload hx hb dX2_odds_173 (lv_at hl 2 rfl) ?_
              refine lv_topl (fun t9_16 et9_16 => ?_)
              obtain rfl : t9_16 = lN nA := et9_16.trans hnA
              refine lv_lload hx hb dX2_odds_175 (lv_at hl 1 rfl) ?_
              refine lv_ldiv hx hb dX2_odds_177 hxne ?_
              refine lv_goto (tgt := 186) hx hb dX2_odds_178 (by decide) ?_
              refine lv_l2i (v := ((lN nA) / (lN x)).toInt32) hx hb dX2_odds_186 rfl ?_
              exact hret (((lN nA) / (lN x)).toInt32) ((r_B (b 12) (b 13) (c - 1)).1, (r_B (b 12) (b 13) (c - 1)).2) _ _ _ _ _ _ (vp_nar_int _) (by rw [hxg]; first | exact (if_pos c_170).symm | exact (if_neg c_170).symm) hP hD hS (Nat.le_of_ble_eq_true rfl) (Nat.le_of_ble_eq_true rfl) dX2_odds_187
          | succ t_144 ih_144 =>
            intro i x y hi_144 hyt hg hxy H locs ls hP hD hS hl
            refine lv_lload hx hb dX2_odds_144 (lv_at hl 0 rfl) ?_
            refine lv_lconst (v := 0) hx hb dX2_odds_146 (by decide) ?_
            refine zl_eq (tgt := 169) hx hb dX2_odds_147 dX2_odds_148 (by decide) (fun c_147 => ?_) (fun c_147 => ?_)
            · -- jump at 147
              have hyz : y = 0 := (pk_lEQ (b := 0) (Nat.lt_trans hxy.2 (by decide)) (by decide)).mp c_147
              have hxg : x = Nat.gcd nA nB := by rw [← hg, hyz, Nat.gcd_zero_right]
              have hxne : ¬ lN x = 0 := fun h => by have h9 := (pk_lEQ (b := 0) (Nat.lt_trans hxy.1 (by decide)) (by decide)).mp h; rw [hxg] at h9; have h8 := Nat.gcd_pos_of_pos_right nA hB0; omega
              refine lv_iload_n hx hb dX2_odds_169 rfl (lv_at hl 4 rfl) ?_
              refine lv_if_ne (tgt := 181) hx hb dX2_odds_170 (by decide) (fun c_170 => ?_) (fun c_170 => ?_)
              · -- jump at 170
                refine lv_lload hx hb dX2_odds_181 (lv_at hl 3 rfl) ?_
                refine lv_topl (fun t9_17 et9_17 => ?_)
                obtain rfl : t9_17 = lN nB := et9_17.trans hnB
                refine lv_lload hx hb dX2_odds_183 (lv_at hl 1 rfl) ?_
                refine lv_ldiv hx hb dX2_odds_185 hxne ?_
                refine lv_l2i (v := ((lN nB) / (lN x)).toInt32) hx hb dX2_odds_186 rfl ?_
                exact hret (((lN nB) / (lN x)).toInt32) ((r_B (b 12) (b 13) (c - 1)).1, (r_B (b 12) (b 13) (c - 1)).2) _ _ _ _ _ _ (vp_nar_int _) (by rw [hxg]; first | exact (if_pos c_170).symm | exact (if_neg c_170).symm) hP hD hS (Nat.le_of_ble_eq_true rfl) (Nat.le_of_ble_eq_true rfl) dX2_odds_187
              · -- on at 170
                refine lv_lload hx hb dX2_odds_173 (lv_at hl 2 rfl) ?_
                refine lv_topl (fun t9_18 et9_18 => ?_)
                obtain rfl : t9_18 = lN nA := et9_18.trans hnA
                refine lv_lload hx hb dX2_odds_175 (lv_at hl 1 rfl) ?_
                refine lv_ldiv hx hb dX2_odds_177 hxne ?_
                refine lv_goto (tgt := 186) hx hb dX2_odds_178 (by decide) ?_
                refine lv_l2i (v := ((lN nA) / (lN x)).toInt32) hx hb dX2_odds_186 rfl ?_
                exact hret (((lN nA) / (lN x)).toInt32) ((r_B (b 12) (b 13) (c - 1)).1, (r_B (b 12) (b 13) (c - 1)).2) _ _ _ _ _ _ (vp_nar_int _) (by rw [hxg]; first | exact (if_pos c_170).symm | exact (if_neg c_170).symm) hP hD hS (Nat.le_of_ble_eq_true rfl) (Nat.le_of_ble_eq_true rfl) dX2_odds_187
            · -- on at 147
              have hy0 : 0 < y := by rcases Nat.eq_zero_or_pos y with h | h; exact absurd (show lN y = 0 from by rw [h]; rfl) c_147; exact h
              refine lv_lload hx hb dX2_odds_151 (lv_at hl 1 rfl) ?_
              refine lv_lload hx hb dX2_odds_153 (lv_at hl 0 rfl) ?_
              refine lv_lrem hx hb dX2_odds_155 c_147 ?_
              refine lv_topl (fun t9_19 et9_19 => ?_)
              obtain rfl : t9_19 = lN (x % y) := et9_19.trans (pk_lRem (Nat.lt_trans hxy.1 (by decide)) hy0 (Nat.lt_trans hxy.2 (by decide)))
              refine lv_lstore (lv' := [(15, .long (lN (x % y))), (13, .long (lN y)), (11, .long (lN x)), (7, .long (r_abv (r_B (b 12) (b 13) (c - 1)).1 P (r_ab (r_to (fun j => a 11 (8 * w + j)) c c)) (P + 1))), (9, .long (r_blw (r_B (b 12) (b 13) (c - 1)).1 (P + 1))), (2, .int pt)]) hx hb dX2_odds_156 hl (by decide) rfl (fun ls hl => ?_)
              refine lv_lload hx hb dX2_odds_158 (lv_at hl 1 rfl) ?_
              refine lv_lstore (lv' := [(11, .long (lN y)), (15, .long (lN (x % y))), (13, .long (lN y)), (7, .long (r_abv (r_B (b 12) (b 13) (c - 1)).1 P (r_ab (r_to (fun j => a 11 (8 * w + j)) c c)) (P + 1))), (9, .long (r_blw (r_B (b 12) (b 13) (c - 1)).1 (P + 1))), (2, .int pt)]) hx hb dX2_odds_160 hl (by decide) rfl (fun ls hl => ?_)
              refine lv_lload hx hb dX2_odds_162 (lv_at hl 1 rfl) ?_
              refine lv_lstore (lv' := [(13, .long (lN (x % y))), (11, .long (lN y)), (15, .long (lN (x % y))), (7, .long (r_abv (r_B (b 12) (b 13) (c - 1)).1 P (r_ab (r_to (fun j => a 11 (8 * w + j)) c c)) (P + 1))), (9, .long (r_blw (r_B (b 12) (b 13) (c - 1)).1 (P + 1))), (2, .int pt)]) hx hb dX2_odds_164 hl (by decide) rfl (fun ls hl => ?_)
              refine lv_goto (tgt := 144) hx hb dX2_odds_166 (by decide) ?_
              have hP : va_P D vwCl (wM g q a (va_up (va_up b 12 ((r_B (b 12) (b 13) (c - 1)).1)) 13 ((r_B (b 12) (b 13) (c - 1)).2))) _ := hP
              have hD : va_D A (wM g q a (va_up (va_up b 12 ((r_B (b 12) (b 13) (c - 1)).1)) 13 ((r_B (b 12) (b 13) (c - 1)).2))) := hD
              have hl : lv_has ls 17 [(13, .long (lN (x % y))), (11, .long (lN y)), (7, .long (r_abv (r_B (b 12) (b 13) (c - 1)).1 P (r_ab (r_to (fun j => a 11 (8 * w + j)) c c)) (P + 1))), (9, .long (r_blw (r_B (b 12) (b 13) (c - 1)).1 (P + 1))), (2, .int pt)] := lv_sub hl [0, 1, 3, 4, 5] rfl
              exact ih_144 (i + 1) y (x % y) (by omega) (by have h9 := Nat.mod_lt x hy0; omega) (by rw [← hg, Nat.gcd_comm y, Nat.gcd_comm x]; exact (Nat.gcd_rec y x).symm) ⟨hxy.2, Nat.lt_trans (Nat.mod_lt x hy0) hxy.2⟩ _ _ _ hP hD hS hl
        exact lp_144 (nB - 0) 0 nA nB (by omega) (Nat.le_refl _) rfl ⟨hA1, hB1⟩ _ _ _ hP hD hS (lv_sub hl [0, 1, 2, 3, 5] rfl)
      | succ t_71 ih_71 =>
        intro k hi_71 H locs ls hP hD hS hl
        refine lv_iload hx hb dX2_odds_71 (lv_at hl 0 rfl) ?_
        refine lv_iload hx hb dX2_odds_73 (lv_at hl 5 rfl) ?_
        refine lv_icmp_gt (tgt := 136) hx hb dX2_odds_75 (by decide) (fun c_75 => absurd c_75 (nI_nlt (by omega) (by omega))) (fun _ => ?_)
        refine lv_iload hx hb dX2_odds_78 (lv_at hl 5 rfl) ?_
        refine lv_iconst (v := 2) hx hb dX2_odds_80 (by decide) ?_
        refine lv_iload hx hb dX2_odds_81 (lv_at hl 0 rfl) ?_
        refine lv_imul hx hb dX2_odds_83 ?_
        refine lv_isub hx hb dX2_odds_84 ?_
        refine lv_istore (lv' := [(12, .int ((nI P) - (2 * (nI k)))), (11, .int (nI k)), (7, .long (r_abv (r_B (b 12) (b 13) (c - 1)).1 P (r_ab (r_to (fun j => a 11 (8 * w + j)) c c)) k)), (9, .long (r_blw (r_B (b 12) (b 13) (c - 1)).1 k)), (0, .ref (q 0)), (2, .int pt), (4, .int (nI P)), (6, .int (r_ab (r_to (fun j => a 11 (8 * w + j)) c c)))]) hx hb dX2_odds_85 hl (by decide) rfl (fun ls hl => ?_)
        refine lv_lload hx hb dX2_odds_87 (lv_at hl 3 rfl) ?_
        refine lv_aload_n hx hb dX2_odds_89 rfl (lv_at hl 4 rfl) ?_
        refine va_get (D := D) (ci := 2) (v := .ref (q 12)) (C := RX2) (T := TX2) (N := 22) hx hb hts iw_X2 hown hK hP 0 rfl rfl 20 (by decide) (hts _ kf_X2_53) (fun _ h9 => h9) rfl dX2_odds_90 ?_
        refine lv_iload hx hb dX2_odds_93 (lv_at hl 1 rfl) ?_
        refine za_lald (k := k) (f := ((r_B (b 12) (b 13) (c - 1)).1)) (v := (r_B (b 12) (b 13) (c - 1)).1 k) hx hb hK hP 12 1 rfl rfl rfl (by omega) (by decide) rfl dX2_odds_95 ?_
        refine lv_ladd hx hb dX2_odds_96 ?_
        refine lv_lstore (lv' := [(9, .long ((r_blw (r_B (b 12) (b 13) (c - 1)).1 k) + ((r_B (b 12) (b 13) (c - 1)).1 k))), (12, .int ((nI P) - (2 * (nI k)))), (11, .int (nI k)), (7, .long (r_abv (r_B (b 12) (b 13) (c - 1)).1 P (r_ab (r_to (fun j => a 11 (8 * w + j)) c c)) k)), (0, .ref (q 0)), (2, .int pt), (4, .int (nI P)), (6, .int (r_ab (r_to (fun j => a 11 (8 * w + j)) c c)))]) hx hb dX2_odds_97 hl (by decide) rfl (fun ls hl => ?_)
        refine lv_lload hx hb dX2_odds_99 (lv_at hl 3 rfl) ?_
        refine lv_iload hx hb dX2_odds_101 (lv_at hl 1 rfl) ?_
        refine lv_iload hx hb dX2_odds_103 (lv_at hl 7 rfl) ?_
        refine lv_icmp_ge (tgt := 116) hx hb dX2_odds_105 (by decide) (fun c_105 => ?_) (fun c_105 => ?_)
        · -- jump at 105
          refine lv_aload_n hx hb dX2_odds_116 rfl (lv_at hl 4 rfl) ?_
          refine va_get (D := D) (ci := 2) (v := .ref (q 12)) (C := RX2) (T := TX2) (N := 22) hx hb hts iw_X2 hown hK hP 0 rfl rfl 20 (by decide) (hts _ kf_X2_53) (fun _ h9 => h9) rfl dX2_odds_117 ?_
          refine lv_iload hx hb dX2_odds_120 (lv_at hl 2 rfl) ?_
          refine za_lald (k := k) (f := ((r_B (b 12) (b 13) (c - 1)).1)) (v := (r_B (b 12) (b 13) (c - 1)).1 k) hx hb hK hP 12 1 rfl rfl rfl (by omega) (by decide) rfl dX2_odds_122 ?_
          refine lv_goto (tgt := 127) hx hb dX2_odds_123 (by decide) ?_
          refine lv_topl (fun t9_20 et9_20 => ?_)
          obtain rfl : t9_20 = r_ad (r_B (b 12) (b 13) (c - 1)).1 P (r_ab (r_to (fun j => a 11 (8 * w + j)) c c)) k := et9_20.trans (if_pos c_105).symm
          refine lv_ladd hx hb dX2_odds_127 ?_
          refine lv_lstore (lv' := [(7, .long ((r_abv (r_B (b 12) (b 13) (c - 1)).1 P (r_ab (r_to (fun j => a 11 (8 * w + j)) c c)) k) + (r_ad (r_B (b 12) (b 13) (c - 1)).1 P (r_ab (r_to (fun j => a 11 (8 * w + j)) c c)) k))), (9, .long ((r_blw (r_B (b 12) (b 13) (c - 1)).1 k) + ((r_B (b 12) (b 13) (c - 1)).1 k))), (12, .int ((nI P) - (2 * (nI k)))), (11, .int (nI k)), (0, .ref (q 0)), (2, .int pt), (4, .int (nI P)), (6, .int (r_ab (r_to (fun j => a 11 (8 * w + j)) c c)))]) hx hb dX2_odds_128 hl (by decide) rfl (fun ls hl => ?_)
          refine lv_iinc (v := nI (k + 1)) (lv' := [(11, .int (nI (k + 1))), (7, .long ((r_abv (r_B (b 12) (b 13) (c - 1)).1 P (r_ab (r_to (fun j => a 11 (8 * w + j)) c c)) k) + (r_ad (r_B (b 12) (b 13) (c - 1)).1 P (r_ab (r_to (fun j => a 11 (8 * w + j)) c c)) k))), (9, .long ((r_blw (r_B (b 12) (b 13) (c - 1)).1 k) + ((r_B (b 12) (b 13) (c - 1)).1 k))), (12, .int ((nI P) - (2 * (nI k)))), (0, .ref (q 0)), (2, .int pt), (4, .int (nI P)), (6, .int (r_ab (r_to (fun j => a 11 (8 * w + j)) c c)))]) hx hb dX2_odds_130 hl (k := 3) rfl (nI_1 k) (by decide) rfl (fun ls hl => ?_)
          refine lv_goto (tgt := 71) hx hb dX2_odds_133 (by decide) ?_
          have hP : va_P D vwCl (wM g q a (va_up (va_up b 12 ((r_B (b 12) (b 13) (c - 1)).1)) 13 ((r_B (b 12) (b 13) (c - 1)).2))) _ := hP
          have hD : va_D A (wM g q a (va_up (va_up b 12 ((r_B (b 12) (b 13) (c - 1)).1)) 13 ((r_B (b 12) (b 13) (c - 1)).2))) := hD
          have hl : lv_has ls 17 [(11, .int (nI (k + 1))), (7, .long (r_abv (r_B (b 12) (b 13) (c - 1)).1 P (r_ab (r_to (fun j => a 11 (8 * w + j)) c c)) (k + 1))), (9, .long (r_blw (r_B (b 12) (b 13) (c - 1)).1 (k + 1))), (0, .ref (q 0)), (2, .int pt), (4, .int (nI P)), (6, .int (r_ab (r_to (fun j => a 11 (8 * w + j)) c c)))] := lv_sub hl [0, 1, 2, 4, 5, 6, 7] rfl
          exact ih_71 (k + 1)  (by omega)  _ _ _ hP hD hS hl
        · -- on at 105
          refine lv_iload hx hb dX2_odds_108 (lv_at hl 1 rfl) ?_
          refine lv_ineg hx hb dX2_odds_110 ?_
          refine lv_iload hx hb dX2_odds_111 (lv_at hl 7 rfl) ?_
          refine lv_icmp_lt (tgt := 126) hx hb dX2_odds_113 (by decide) (fun c_113 => ?_) (fun c_113 => ?_)
          · -- jump at 113
            refine lv_lconst (v := 0) hx hb dX2_odds_126 (by decide) ?_
            refine lv_topl (fun t9_21 et9_21 => ?_)
            obtain rfl : t9_21 = r_ad (r_B (b 12) (b 13) (c - 1)).1 P (r_ab (r_to (fun j => a 11 (8 * w + j)) c c)) k := et9_21.trans ((if_neg c_105).trans (if_pos c_113)).symm
            refine lv_ladd hx hb dX2_odds_127 ?_
            refine lv_lstore (lv' := [(7, .long ((r_abv (r_B (b 12) (b 13) (c - 1)).1 P (r_ab (r_to (fun j => a 11 (8 * w + j)) c c)) k) + (r_ad (r_B (b 12) (b 13) (c - 1)).1 P (r_ab (r_to (fun j => a 11 (8 * w + j)) c c)) k))), (9, .long ((r_blw (r_B (b 12) (b 13) (c - 1)).1 k) + ((r_B (b 12) (b 13) (c - 1)).1 k))), (12, .int ((nI P) - (2 * (nI k)))), (11, .int (nI k)), (0, .ref (q 0)), (2, .int pt), (4, .int (nI P)), (6, .int (r_ab (r_to (fun j => a 11 (8 * w + j)) c c)))]) hx hb dX2_odds_128 hl (by decide) rfl (fun ls hl => ?_)
            refine lv_iinc (v := nI (k + 1)) (lv' := [(11, .int (nI (k + 1))), (7, .long ((r_abv (r_B (b 12) (b 13) (c - 1)).1 P (r_ab (r_to (fun j => a 11 (8 * w + j)) c c)) k) + (r_ad (r_B (b 12) (b 13) (c - 1)).1 P (r_ab (r_to (fun j => a 11 (8 * w + j)) c c)) k))), (9, .long ((r_blw (r_B (b 12) (b 13) (c - 1)).1 k) + ((r_B (b 12) (b 13) (c - 1)).1 k))), (12, .int ((nI P) - (2 * (nI k)))), (0, .ref (q 0)), (2, .int pt), (4, .int (nI P)), (6, .int (r_ab (r_to (fun j => a 11 (8 * w + j)) c c)))]) hx hb dX2_odds_130 hl (k := 3) rfl (nI_1 k) (by decide) rfl (fun ls hl => ?_)
            refine lv_goto (tgt := 71) hx hb dX2_odds_133 (by decide) ?_
            have hP : va_P D vwCl (wM g q a (va_up (va_up b 12 ((r_B (b 12) (b 13) (c - 1)).1)) 13 ((r_B (b 12) (b 13) (c - 1)).2))) _ := hP
            have hD : va_D A (wM g q a (va_up (va_up b 12 ((r_B (b 12) (b 13) (c - 1)).1)) 13 ((r_B (b 12) (b 13) (c - 1)).2))) := hD
            have hl : lv_has ls 17 [(11, .int (nI (k + 1))), (7, .long (r_abv (r_B (b 12) (b 13) (c - 1)).1 P (r_ab (r_to (fun j => a 11 (8 * w + j)) c c)) (k + 1))), (9, .long (r_blw (r_B (b 12) (b 13) (c - 1)).1 (k + 1))), (0, .ref (q 0)), (2, .int pt), (4, .int (nI P)), (6, .int (r_ab (r_to (fun j => a 11 (8 * w + j)) c c)))] := lv_sub hl [0, 1, 2, 4, 5, 6, 7] rfl
            exact ih_71 (k + 1)  (by omega)  _ _ _ hP hD hS hl
          · -- on at 113
            refine lv_aload_n hx hb dX2_odds_116 rfl (lv_at hl 4 rfl) ?_
            refine va_get (D := D) (ci := 2) (v := .ref (q 12)) (C := RX2) (T := TX2) (N := 22) hx hb hts iw_X2 hown hK hP 0 rfl rfl 20 (by decide) (hts _ kf_X2_53) (fun _ h9 => h9) rfl dX2_odds_117 ?_
            refine lv_iload hx hb dX2_odds_120 (lv_at hl 2 rfl) ?_
            refine za_lald (k := k) (f := ((r_B (b 12) (b 13) (c - 1)).1)) (v := (r_B (b 12) (b 13) (c - 1)).1 k) hx hb hK hP 12 1 rfl rfl rfl (by omega) (by decide) rfl dX2_odds_122 ?_
            refine lv_goto (tgt := 127) hx hb dX2_odds_123 (by decide) ?_
            refine lv_topl (fun t9_22 et9_22 => ?_)
            obtain rfl : t9_22 = r_ad (r_B (b 12) (b 13) (c - 1)).1 P (r_ab (r_to (fun j => a 11 (8 * w + j)) c c)) k := et9_22.trans ((if_neg c_105).trans (if_neg c_113)).symm
            refine lv_ladd hx hb dX2_odds_127 ?_
            refine lv_lstore (lv' := [(7, .long ((r_abv (r_B (b 12) (b 13) (c - 1)).1 P (r_ab (r_to (fun j => a 11 (8 * w + j)) c c)) k) + (r_ad (r_B (b 12) (b 13) (c - 1)).1 P (r_ab (r_to (fun j => a 11 (8 * w + j)) c c)) k))), (9, .long ((r_blw (r_B (b 12) (b 13) (c - 1)).1 k) + ((r_B (b 12) (b 13) (c - 1)).1 k))), (12, .int ((nI P) - (2 * (nI k)))), (11, .int (nI k)), (0, .ref (q 0)), (2, .int pt), (4, .int (nI P)), (6, .int (r_ab (r_to (fun j => a 11 (8 * w + j)) c c)))]) hx hb dX2_odds_128 hl (by decide) rfl (fun ls hl => ?_)
            refine lv_iinc (v := nI (k + 1)) (lv' := [(11, .int (nI (k + 1))), (7, .long ((r_abv (r_B (b 12) (b 13) (c - 1)).1 P (r_ab (r_to (fun j => a 11 (8 * w + j)) c c)) k) + (r_ad (r_B (b 12) (b 13) (c - 1)).1 P (r_ab (r_to (fun j => a 11 (8 * w + j)) c c)) k))), (9, .long ((r_blw (r_B (b 12) (b 13) (c - 1)).1 k) + ((r_B (b 12) (b 13) (c - 1)).1 k))), (12, .int ((nI P) - (2 * (nI k)))), (0, .ref (q 0)), (2, .int pt), (4, .int (nI P)), (6, .int (r_ab (r_to (fun j => a 11 (8 * w + j)) c c)))]) hx hb dX2_odds_130 hl (k := 3) rfl (nI_1 k) (by decide) rfl (fun ls hl => ?_)
            refine lv_goto (tgt := 71) hx hb dX2_odds_133 (by decide) ?_
            have hP : va_P D vwCl (wM g q a (va_up (va_up b 12 ((r_B (b 12) (b 13) (c - 1)).1)) 13 ((r_B (b 12) (b 13) (c - 1)).2))) _ := hP
            have hD : va_D A (wM g q a (va_up (va_up b 12 ((r_B (b 12) (b 13) (c - 1)).1)) 13 ((r_B (b 12) (b 13) (c - 1)).2))) := hD
            have hl : lv_has ls 17 [(11, .int (nI (k + 1))), (7, .long (r_abv (r_B (b 12) (b 13) (c - 1)).1 P (r_ab (r_to (fun j => a 11 (8 * w + j)) c c)) (k + 1))), (9, .long (r_blw (r_B (b 12) (b 13) (c - 1)).1 (k + 1))), (0, .ref (q 0)), (2, .int pt), (4, .int (nI P)), (6, .int (r_ab (r_to (fun j => a 11 (8 * w + j)) c c)))] := lv_sub hl [0, 1, 2, 4, 5, 6, 7] rfl
            exact ih_71 (k + 1)  (by omega)  _ _ _ hP hD hS hl
    exact lp_71 ((P + 1) - 0) 0  (by omega)  _ _ _ hP hD hS (lv_sub hl [0, 2, 1, 7, 9, 5, 3] rfl)
set_option maxHeartbeats 4000000 in
set_option maxRecDepth 100000 in
theorem c_M_odds_n (l : Launch) (D : va_G) (g : Nat → ClassId) (q : Nat → Nat) (a : Nat → Nat → Int32) (b : Nat → Nat → Int64) (x y : Int32) (hno : (m_isWell x && m_within y.toInt64 0 1) = false) : zc_i l D (tyG g) yX2_odds cX2_odds 17 (some .int) rm_M_odds [.ref (q 0), .int x, .int y] (wM g q a b) (fun (r : Int32) (u : Unit) => r = -1) (fun _ => wM g q a b) 0 0 := by
  refine zi_of (by decide) (Nat.le_of_ble_eq_true rfl) rfl ?_
  intro p e s m args below meth cd_ A Q ls C0 hnm hP hD hS hl hret
  obtain ⟨hx, hb, hr, hml, hlocks, hown, hts, hK, hA, hN⟩ := id C0
  have hl : lv_has ls 17 [(0, .ref (q 0)), (1, .int x), (2, .int y)] := hl
  refine lv_iload_n hx hb dX2_odds_0 rfl (lv_at hl 1 rfl) ?_
  refine zk_pi (rest := []) C0 hP hD hS (c_M_isWell l D (tyG g) x) kk_X2_115 hl.1 rfl rfl (Nat.le_of_ble_eq_true rfl) ⟨(Nat.le_of_ble_eq_true rfl), (Nat.le_of_ble_eq_true rfl)⟩ rfl rfl ⟨(Nat.le_of_ble_eq_true rfl), (Nat.le_of_ble_eq_true rfl)⟩ dX2_odds_1 (fun r_1 H locs hw_1 hP hS => ?_)
  obtain rfl := hw_1
  refine lv_if_eq (tgt := 17) hx hb dX2_odds_4 (by decide) (fun c_4 => ?_) (fun c_4 => ?_)
  · -- jump at 4
    have c_4 := zb_f c_4
    refine lv_iconst (v := (-1)) hx hb dX2_odds_17 (by decide) ?_
    exact hret (-1) () _ _ _ _ _ _ (vp_nar_int _) rfl hP hD hS (Nat.le_of_ble_eq_true rfl) (Nat.le_of_ble_eq_true rfl) dX2_odds_18
  · -- on at 4
    have c_4 := zb_t c_4
    refine lv_iload_n hx hb dX2_odds_7 rfl (lv_at hl 2 rfl) ?_
    refine lv_i2l (v := y.toInt64) hx hb dX2_odds_8 rfl ?_
    refine lv_lconst (v := 0) hx hb dX2_odds_9 (by decide) ?_
    refine lv_lconst (v := 1) hx hb dX2_odds_10 (by decide) ?_
    refine zk_pi (rest := []) C0 hP hD hS (c_M_isIn l D (tyG g) y.toInt64 (0 : Int64) (1 : Int64)) kk_X2_63 hl.1 rfl rfl (Nat.le_of_ble_eq_true rfl) ⟨(Nat.le_of_ble_eq_true rfl), (Nat.le_of_ble_eq_true rfl)⟩ rfl rfl ⟨(Nat.le_of_ble_eq_true rfl), (Nat.le_of_ble_eq_true rfl)⟩ dX2_odds_11 (fun r_11 H locs hw_11 hP hS => ?_)
    obtain rfl := hw_11
    refine lv_if_ne (tgt := 19) hx hb dX2_odds_14 (by decide) (fun c_14 => absurd (by rw [c_4, Bool.true_and] at hno; rw [hno]; rfl) c_14) (fun _ => ?_)
    refine lv_iconst (v := (-1)) hx hb dX2_odds_17 (by decide) ?_
    exact hret (-1) () _ _ _ _ _ _ (vp_nar_int _) rfl hP hD hS (Nat.le_of_ble_eq_true rfl) (Nat.le_of_ble_eq_true rfl) dX2_odds_18
def rm_X2_init : Room := { frames := 1, cells := 13, slots := 963, locals := 20 }
set_option maxHeartbeats 4000000 in
set_option maxRecDepth 100000 in
theorem c_X2_init (l : Launch) (D : va_G) (g : Nat → ClassId) (h0 : Nat) (x : Int32) : zc_v l D (tyG g) yX2_init cX2_init 3 none rm_X2_init [.ref h0, .int x] [(h0, .inr (2, [.int 0, .null, .null, .null, .int 0, .int 0, .int 0, .long 0, .int 0, .null, .null, .null, .int 0, .null, .null, .long 0, .long 0, .null, .null, .null, .null, .null]))] (fun (u : Nat → Nat) => u 0 = h0) (fun u => wM g u (r_a0 (m_n x)) m_b0) 13 963 := by
  refine zv_of (by decide) (Nat.le_of_ble_eq_true rfl) rfl ?_
  intro p e s m args below meth cd_ A Q ls C0 hnm hP hD hS hl hret
  obtain ⟨hx, hb, hr, hml, hlocks, hown, hts, hK, hA, hN⟩ := id C0
  have hN_ao := zN_ao hN
  have hl : lv_has ls 3 [(0, .ref h0), (1, .int x)] := hl
  refine lv_aload_n hx hb dX2_init_0 rfl (lv_at hl 0 rfl) ?_
  refine W.objInit hx hb hown (hts _ kl_X2_1) (hts _ ks_objInit) (hts _ kc_objInit) rfl (by rw [hml]; exact hl.1) rfl dX2_init_1 (Nat.le_of_ble_eq_true rfl) (Nat.le_of_ble_eq_true rfl) ?_
  refine W.eq (g2 := F0 m 4 ls []) rfl ?_
  refine lv_aload_n hx hb dX2_init_4 rfl (lv_at hl 0 rfl) ?_
  refine lv_bipush (v := 6) hx hb dX2_init_5 (by decide) ?_
  refine za_newl (N := 6) (t0 := 1) (cI := g 1) hx hb (hts _ ka_long) hK rfl hP hD hS hA rfl (by decide) (Nat.le_of_ble_eq_true rfl) (Nat.le_of_ble_eq_true rfl) dX2_init_7 (fun q1 H hP hD hS => ?_)
  have hP : va_P D vwCl [(h0, .inr (2, [.int 0, .null, .null, .null, .int 0, .int 0, .int 0, .long 0, .int 0, .null, .null, .null, .int 0, .null, .null, .long 0, .long 0, .null, .null, .null, .null, .null])), (q1, .inl (g 1, 6, .inr (.inl (fun _ => 0))))] _ := hP
  have hD : va_D A [(h0, .inr (2, [.int 0, .null, .null, .null, .int 0, .int 0, .int 0, .long 0, .int 0, .null, .null, .null, .int 0, .null, .null, .long 0, .long 0, .null, .null, .null, .null, .null])), (q1, .inl (g 1, 6, .inr (.inl (fun _ => 0))))] := hD
  refine va_putF (D := D) (ci := 2) (v := .ref q1) (ty := .array .long) (C := RX2) (T := TX2) (N := 22) hx hb hts iw_X2 tyX2 tyok_X2 nm_X2 hown hK hP hD hS 0 rfl rfl 1 (by decide) (hts _ kf_X2_7) (fun _ h9 => h9) rfl hnm rfl (by decide +kernel) rfl rfl (Nat.le_of_ble_eq_true rfl) dX2_init_9 (fun H locs hP hD hS => ?_)
  have hP : va_P D vwCl [(h0, .inr (2, [.int 0, .ref q1, .null, .null, .int 0, .int 0, .int 0, .long 0, .int 0, .null, .null, .null, .int 0, .null, .null, .long 0, .long 0, .null, .null, .null, .null, .null])), (q1, .inl (g 1, 6, .inr (.inl (fun _ => 0))))] _ := hP
  have hD : va_D A [(h0, .inr (2, [.int 0, .ref q1, .null, .null, .int 0, .int 0, .int 0, .long 0, .int 0, .null, .null, .null, .int 0, .null, .null, .long 0, .long 0, .null, .null, .null, .null, .null])), (q1, .inl (g 1, 6, .inr (.inl (fun _ => 0))))] := hD
  refine lv_aload_n hx hb dX2_init_12 rfl (lv_at hl 0 rfl) ?_
  refine lv_bipush (v := 6) hx hb dX2_init_13 (by decide) ?_
  refine za_newi (N := 6) (t0 := 0) (cI := g 0) hx hb (hts _ ka_int) hK rfl hP hD hS hA rfl (by decide) (Nat.le_of_ble_eq_true rfl) (Nat.le_of_ble_eq_true rfl) dX2_init_15 (fun q2 H hP hD hS => ?_)
  have hP : va_P D vwCl [(h0, .inr (2, [.int 0, .ref q1, .null, .null, .int 0, .int 0, .int 0, .long 0, .int 0, .null, .null, .null, .int 0, .null, .null, .long 0, .long 0, .null, .null, .null, .null, .null])), (q1, .inl (g 1, 6, .inr (.inl (fun _ => 0)))), (q2, .inl (g 0, 6, .inl (fun _ => 0)))] _ := hP
  have hD : va_D A [(h0, .inr (2, [.int 0, .ref q1, .null, .null, .int 0, .int 0, .int 0, .long 0, .int 0, .null, .null, .null, .int 0, .null, .null, .long 0, .long 0, .null, .null, .null, .null, .null])), (q1, .inl (g 1, 6, .inr (.inl (fun _ => 0)))), (q2, .inl (g 0, 6, .inl (fun _ => 0)))] := hD
  refine va_putF (D := D) (ci := 2) (v := .ref q2) (ty := .array .int) (C := RX2) (T := TX2) (N := 22) hx hb hts iw_X2 tyX2 tyok_X2 nm_X2 hown hK hP hD hS 0 rfl rfl 2 (by decide) (hts _ kf_X2_13) (fun _ h9 => h9) rfl hnm rfl (by decide +kernel) rfl rfl (Nat.le_of_ble_eq_true rfl) dX2_init_17 (fun H locs hP hD hS => ?_)
  have hP : va_P D vwCl [(h0, .inr (2, [.int 0, .ref q1, .ref q2, .null, .int 0, .int 0, .int 0, .long 0, .int 0, .null, .null, .null, .int 0, .null, .null, .long 0, .long 0, .null, .null, .null, .null, .null])), (q1, .inl (g 1, 6, .inr (.inl (fun _ => 0)))), (q2, .inl (g 0, 6, .inl (fun _ => 0)))] _ := hP
  have hD : va_D A [(h0, .inr (2, [.int 0, .ref q1, .ref q2, .null, .int 0, .int 0, .int 0, .long 0, .int 0, .null, .null, .null, .int 0, .null, .null, .long 0, .long 0, .null, .null, .null, .null, .null])), (q1, .inl (g 1, 6, .inr (.inl (fun _ => 0)))), (q2, .inl (g 0, 6, .inl (fun _ => 0)))] := hD
  refine lv_aload_n hx hb dX2_init_20 rfl (lv_at hl 0 rfl) ?_
  refine lv_bipush (v := 6) hx hb dX2_init_21 (by decide) ?_
  refine za_newi (N := 6) (t0 := 0) (cI := g 0) hx hb (hts _ ka_int) hK rfl hP hD hS hA rfl (by decide) (Nat.le_of_ble_eq_true rfl) (Nat.le_of_ble_eq_true rfl) dX2_init_23 (fun q3 H hP hD hS => ?_)
  have hP : va_P D vwCl [(h0, .inr (2, [.int 0, .ref q1, .ref q2, .null, .int 0, .int 0, .int 0, .long 0, .int 0, .null, .null, .null, .int 0, .null, .null, .long 0, .long 0, .null, .null, .null, .null, .null])), (q1, .inl (g 1, 6, .inr (.inl (fun _ => 0)))), (q2, .inl (g 0, 6, .inl (fun _ => 0))), (q3, .inl (g 0, 6, .inl (fun _ => 0)))] _ := hP
  have hD : va_D A [(h0, .inr (2, [.int 0, .ref q1, .ref q2, .null, .int 0, .int 0, .int 0, .long 0, .int 0, .null, .null, .null, .int 0, .null, .null, .long 0, .long 0, .null, .null, .null, .null, .null])), (q1, .inl (g 1, 6, .inr (.inl (fun _ => 0)))), (q2, .inl (g 0, 6, .inl (fun _ => 0))), (q3, .inl (g 0, 6, .inl (fun _ => 0)))] := hD
  refine va_putF (D := D) (ci := 2) (v := .ref q3) (ty := .array .int) (C := RX2) (T := TX2) (N := 22) hx hb hts iw_X2 tyX2 tyok_X2 nm_X2 hown hK hP hD hS 0 rfl rfl 3 (by decide) (hts _ kf_X2_17) (fun _ h9 => h9) rfl hnm rfl (by decide +kernel) rfl rfl (Nat.le_of_ble_eq_true rfl) dX2_init_25 (fun H locs hP hD hS => ?_)
  have hP : va_P D vwCl [(h0, .inr (2, [.int 0, .ref q1, .ref q2, .ref q3, .int 0, .int 0, .int 0, .long 0, .int 0, .null, .null, .null, .int 0, .null, .null, .long 0, .long 0, .null, .null, .null, .null, .null])), (q1, .inl (g 1, 6, .inr (.inl (fun _ => 0)))), (q2, .inl (g 0, 6, .inl (fun _ => 0))), (q3, .inl (g 0, 6, .inl (fun _ => 0)))] _ := hP
  have hD : va_D A [(h0, .inr (2, [.int 0, .ref q1, .ref q2, .ref q3, .int 0, .int 0, .int 0, .long 0, .int 0, .null, .null, .null, .int 0, .null, .null, .long 0, .long 0, .null, .null, .null, .null, .null])), (q1, .inl (g 1, 6, .inr (.inl (fun _ => 0)))), (q2, .inl (g 0, 6, .inl (fun _ => 0))), (q3, .inl (g 0, 6, .inl (fun _ => 0)))] := hD
  refine lv_aload_n hx hb dX2_init_28 rfl (lv_at hl 0 rfl) ?_
  refine lv_iconst (v := 4) hx hb dX2_init_29 (by decide) ?_
  refine za_newi (N := 4) (t0 := 0) (cI := g 0) hx hb (hts _ ka_int) hK rfl hP hD hS hA rfl (by decide) (Nat.le_of_ble_eq_true rfl) (Nat.le_of_ble_eq_true rfl) dX2_init_30 (fun q4 H hP hD hS => ?_)
  have hP : va_P D vwCl [(h0, .inr (2, [.int 0, .ref q1, .ref q2, .ref q3, .int 0, .int 0, .int 0, .long 0, .int 0, .null, .null, .null, .int 0, .null, .null, .long 0, .long 0, .null, .null, .null, .null, .null])), (q1, .inl (g 1, 6, .inr (.inl (fun _ => 0)))), (q2, .inl (g 0, 6, .inl (fun _ => 0))), (q3, .inl (g 0, 6, .inl (fun _ => 0))), (q4, .inl (g 0, 4, .inl (fun _ => 0)))] _ := hP
  have hD : va_D A [(h0, .inr (2, [.int 0, .ref q1, .ref q2, .ref q3, .int 0, .int 0, .int 0, .long 0, .int 0, .null, .null, .null, .int 0, .null, .null, .long 0, .long 0, .null, .null, .null, .null, .null])), (q1, .inl (g 1, 6, .inr (.inl (fun _ => 0)))), (q2, .inl (g 0, 6, .inl (fun _ => 0))), (q3, .inl (g 0, 6, .inl (fun _ => 0))), (q4, .inl (g 0, 4, .inl (fun _ => 0)))] := hD
  refine va_putF (D := D) (ci := 2) (v := .ref q4) (ty := .array .int) (C := RX2) (T := TX2) (N := 22) hx hb hts iw_X2 tyX2 tyok_X2 nm_X2 hown hK hP hD hS 0 rfl rfl 9 (by decide) (hts _ kf_X2_20) (fun _ h9 => h9) rfl hnm rfl (by decide +kernel) rfl rfl (Nat.le_of_ble_eq_true rfl) dX2_init_32 (fun H locs hP hD hS => ?_)
  have hP : va_P D vwCl [(h0, .inr (2, [.int 0, .ref q1, .ref q2, .ref q3, .int 0, .int 0, .int 0, .long 0, .int 0, .ref q4, .null, .null, .int 0, .null, .null, .long 0, .long 0, .null, .null, .null, .null, .null])), (q1, .inl (g 1, 6, .inr (.inl (fun _ => 0)))), (q2, .inl (g 0, 6, .inl (fun _ => 0))), (q3, .inl (g 0, 6, .inl (fun _ => 0))), (q4, .inl (g 0, 4, .inl (fun _ => 0)))] _ := hP
  have hD : va_D A [(h0, .inr (2, [.int 0, .ref q1, .ref q2, .ref q3, .int 0, .int 0, .int 0, .long 0, .int 0, .ref q4, .null, .null, .int 0, .null, .null, .long 0, .long 0, .null, .null, .null, .null, .null])), (q1, .inl (g 1, 6, .inr (.inl (fun _ => 0)))), (q2, .inl (g 0, 6, .inl (fun _ => 0))), (q3, .inl (g 0, 6, .inl (fun _ => 0))), (q4, .inl (g 0, 4, .inl (fun _ => 0)))] := hD
  refine lv_aload_n hx hb dX2_init_35 rfl (lv_at hl 0 rfl) ?_
  refine lv_iconst (v := 4) hx hb dX2_init_36 (by decide) ?_
  refine za_newi (N := 4) (t0 := 0) (cI := g 0) hx hb (hts _ ka_int) hK rfl hP hD hS hA rfl (by decide) (Nat.le_of_ble_eq_true rfl) (Nat.le_of_ble_eq_true rfl) dX2_init_37 (fun q5 H hP hD hS => ?_)
  have hP : va_P D vwCl [(h0, .inr (2, [.int 0, .ref q1, .ref q2, .ref q3, .int 0, .int 0, .int 0, .long 0, .int 0, .ref q4, .null, .null, .int 0, .null, .null, .long 0, .long 0, .null, .null, .null, .null, .null])), (q1, .inl (g 1, 6, .inr (.inl (fun _ => 0)))), (q2, .inl (g 0, 6, .inl (fun _ => 0))), (q3, .inl (g 0, 6, .inl (fun _ => 0))), (q4, .inl (g 0, 4, .inl (fun _ => 0))), (q5, .inl (g 0, 4, .inl (fun _ => 0)))] _ := hP
  have hD : va_D A [(h0, .inr (2, [.int 0, .ref q1, .ref q2, .ref q3, .int 0, .int 0, .int 0, .long 0, .int 0, .ref q4, .null, .null, .int 0, .null, .null, .long 0, .long 0, .null, .null, .null, .null, .null])), (q1, .inl (g 1, 6, .inr (.inl (fun _ => 0)))), (q2, .inl (g 0, 6, .inl (fun _ => 0))), (q3, .inl (g 0, 6, .inl (fun _ => 0))), (q4, .inl (g 0, 4, .inl (fun _ => 0))), (q5, .inl (g 0, 4, .inl (fun _ => 0)))] := hD
  refine va_putF (D := D) (ci := 2) (v := .ref q5) (ty := .array .int) (C := RX2) (T := TX2) (N := 22) hx hb hts iw_X2 tyX2 tyok_X2 nm_X2 hown hK hP hD hS 0 rfl rfl 10 (by decide) (hts _ kf_X2_23) (fun _ h9 => h9) rfl hnm rfl (by decide +kernel) rfl rfl (Nat.le_of_ble_eq_true rfl) dX2_init_39 (fun H locs hP hD hS => ?_)
  have hP : va_P D vwCl [(h0, .inr (2, [.int 0, .ref q1, .ref q2, .ref q3, .int 0, .int 0, .int 0, .long 0, .int 0, .ref q4, .ref q5, .null, .int 0, .null, .null, .long 0, .long 0, .null, .null, .null, .null, .null])), (q1, .inl (g 1, 6, .inr (.inl (fun _ => 0)))), (q2, .inl (g 0, 6, .inl (fun _ => 0))), (q3, .inl (g 0, 6, .inl (fun _ => 0))), (q4, .inl (g 0, 4, .inl (fun _ => 0))), (q5, .inl (g 0, 4, .inl (fun _ => 0)))] _ := hP
  have hD : va_D A [(h0, .inr (2, [.int 0, .ref q1, .ref q2, .ref q3, .int 0, .int 0, .int 0, .long 0, .int 0, .ref q4, .ref q5, .null, .int 0, .null, .null, .long 0, .long 0, .null, .null, .null, .null, .null])), (q1, .inl (g 1, 6, .inr (.inl (fun _ => 0)))), (q2, .inl (g 0, 6, .inl (fun _ => 0))), (q3, .inl (g 0, 6, .inl (fun _ => 0))), (q4, .inl (g 0, 4, .inl (fun _ => 0))), (q5, .inl (g 0, 4, .inl (fun _ => 0)))] := hD
  refine lv_aload_n hx hb dX2_init_42 rfl (lv_at hl 0 rfl) ?_
  refine lv_sipush (v := 400) hx hb dX2_init_43 (by decide) ?_
  refine za_newi (N := 400) (t0 := 0) (cI := g 0) hx hb (hts _ ka_int) hK rfl hP hD hS hA rfl (by decide) (Nat.le_of_ble_eq_true rfl) (Nat.le_of_ble_eq_true rfl) dX2_init_46 (fun q6 H hP hD hS => ?_)
  have hP : va_P D vwCl [(h0, .inr (2, [.int 0, .ref q1, .ref q2, .ref q3, .int 0, .int 0, .int 0, .long 0, .int 0, .ref q4, .ref q5, .null, .int 0, .null, .null, .long 0, .long 0, .null, .null, .null, .null, .null])), (q1, .inl (g 1, 6, .inr (.inl (fun _ => 0)))), (q2, .inl (g 0, 6, .inl (fun _ => 0))), (q3, .inl (g 0, 6, .inl (fun _ => 0))), (q4, .inl (g 0, 4, .inl (fun _ => 0))), (q5, .inl (g 0, 4, .inl (fun _ => 0))), (q6, .inl (g 0, 400, .inl (fun _ => 0)))] _ := hP
  have hD : va_D A [(h0, .inr (2, [.int 0, .ref q1, .ref q2, .ref q3, .int 0, .int 0, .int 0, .long 0, .int 0, .ref q4, .ref q5, .null, .int 0, .null, .null, .long 0, .long 0, .null, .null, .null, .null, .null])), (q1, .inl (g 1, 6, .inr (.inl (fun _ => 0)))), (q2, .inl (g 0, 6, .inl (fun _ => 0))), (q3, .inl (g 0, 6, .inl (fun _ => 0))), (q4, .inl (g 0, 4, .inl (fun _ => 0))), (q5, .inl (g 0, 4, .inl (fun _ => 0))), (q6, .inl (g 0, 400, .inl (fun _ => 0)))] := hD
  refine va_putF (D := D) (ci := 2) (v := .ref q6) (ty := .array .int) (C := RX2) (T := TX2) (N := 22) hx hb hts iw_X2 tyX2 tyok_X2 nm_X2 hown hK hP hD hS 0 rfl rfl 11 (by decide) (hts _ kf_X2_26) (fun _ h9 => h9) rfl hnm rfl (by decide +kernel) rfl rfl (Nat.le_of_ble_eq_true rfl) dX2_init_48 (fun H locs hP hD hS => ?_)
  have hP : va_P D vwCl [(h0, .inr (2, [.int 0, .ref q1, .ref q2, .ref q3, .int 0, .int 0, .int 0, .long 0, .int 0, .ref q4, .ref q5, .ref q6, .int 0, .null, .null, .long 0, .long 0, .null, .null, .null, .null, .null])), (q1, .inl (g 1, 6, .inr (.inl (fun _ => 0)))), (q2, .inl (g 0, 6, .inl (fun _ => 0))), (q3, .inl (g 0, 6, .inl (fun _ => 0))), (q4, .inl (g 0, 4, .inl (fun _ => 0))), (q5, .inl (g 0, 4, .inl (fun _ => 0))), (q6, .inl (g 0, 400, .inl (fun _ => 0)))] _ := hP
  have hD : va_D A [(h0, .inr (2, [.int 0, .ref q1, .ref q2, .ref q3, .int 0, .int 0, .int 0, .long 0, .int 0, .ref q4, .ref q5, .ref q6, .int 0, .null, .null, .long 0, .long 0, .null, .null, .null, .null, .null])), (q1, .inl (g 1, 6, .inr (.inl (fun _ => 0)))), (q2, .inl (g 0, 6, .inl (fun _ => 0))), (q3, .inl (g 0, 6, .inl (fun _ => 0))), (q4, .inl (g 0, 4, .inl (fun _ => 0))), (q5, .inl (g 0, 4, .inl (fun _ => 0))), (q6, .inl (g 0, 400, .inl (fun _ => 0)))] := hD
  refine lv_aload_n hx hb dX2_init_51 rfl (lv_at hl 0 rfl) ?_
  refine lv_bipush (v := 9) hx hb dX2_init_52 (by decide) ?_
  refine za_newl (N := 9) (t0 := 1) (cI := g 1) hx hb (hts _ ka_long) hK rfl hP hD hS hA rfl (by decide) (Nat.le_of_ble_eq_true rfl) (Nat.le_of_ble_eq_true rfl) dX2_init_54 (fun q7 H hP hD hS => ?_)
  have hP : va_P D vwCl [(h0, .inr (2, [.int 0, .ref q1, .ref q2, .ref q3, .int 0, .int 0, .int 0, .long 0, .int 0, .ref q4, .ref q5, .ref q6, .int 0, .null, .null, .long 0, .long 0, .null, .null, .null, .null, .null])), (q1, .inl (g 1, 6, .inr (.inl (fun _ => 0)))), (q2, .inl (g 0, 6, .inl (fun _ => 0))), (q3, .inl (g 0, 6, .inl (fun _ => 0))), (q4, .inl (g 0, 4, .inl (fun _ => 0))), (q5, .inl (g 0, 4, .inl (fun _ => 0))), (q6, .inl (g 0, 400, .inl (fun _ => 0))), (q7, .inl (g 1, 9, .inr (.inl (fun _ => 0))))] _ := hP
  have hD : va_D A [(h0, .inr (2, [.int 0, .ref q1, .ref q2, .ref q3, .int 0, .int 0, .int 0, .long 0, .int 0, .ref q4, .ref q5, .ref q6, .int 0, .null, .null, .long 0, .long 0, .null, .null, .null, .null, .null])), (q1, .inl (g 1, 6, .inr (.inl (fun _ => 0)))), (q2, .inl (g 0, 6, .inl (fun _ => 0))), (q3, .inl (g 0, 6, .inl (fun _ => 0))), (q4, .inl (g 0, 4, .inl (fun _ => 0))), (q5, .inl (g 0, 4, .inl (fun _ => 0))), (q6, .inl (g 0, 400, .inl (fun _ => 0))), (q7, .inl (g 1, 9, .inr (.inl (fun _ => 0))))] := hD
  refine va_putF (D := D) (ci := 2) (v := .ref q7) (ty := .array .long) (C := RX2) (T := TX2) (N := 22) hx hb hts iw_X2 tyX2 tyok_X2 nm_X2 hown hK hP hD hS 0 rfl rfl 13 (by decide) (hts _ kf_X2_29) (fun _ h9 => h9) rfl hnm rfl (by decide +kernel) rfl rfl (Nat.le_of_ble_eq_true rfl) dX2_init_56 (fun H locs hP hD hS => ?_)
  have hP : va_P D vwCl [(h0, .inr (2, [.int 0, .ref q1, .ref q2, .ref q3, .int 0, .int 0, .int 0, .long 0, .int 0, .ref q4, .ref q5, .ref q6, .int 0, .ref q7, .null, .long 0, .long 0, .null, .null, .null, .null, .null])), (q1, .inl (g 1, 6, .inr (.inl (fun _ => 0)))), (q2, .inl (g 0, 6, .inl (fun _ => 0))), (q3, .inl (g 0, 6, .inl (fun _ => 0))), (q4, .inl (g 0, 4, .inl (fun _ => 0))), (q5, .inl (g 0, 4, .inl (fun _ => 0))), (q6, .inl (g 0, 400, .inl (fun _ => 0))), (q7, .inl (g 1, 9, .inr (.inl (fun _ => 0))))] _ := hP
  have hD : va_D A [(h0, .inr (2, [.int 0, .ref q1, .ref q2, .ref q3, .int 0, .int 0, .int 0, .long 0, .int 0, .ref q4, .ref q5, .ref q6, .int 0, .ref q7, .null, .long 0, .long 0, .null, .null, .null, .null, .null])), (q1, .inl (g 1, 6, .inr (.inl (fun _ => 0)))), (q2, .inl (g 0, 6, .inl (fun _ => 0))), (q3, .inl (g 0, 6, .inl (fun _ => 0))), (q4, .inl (g 0, 4, .inl (fun _ => 0))), (q5, .inl (g 0, 4, .inl (fun _ => 0))), (q6, .inl (g 0, 400, .inl (fun _ => 0))), (q7, .inl (g 1, 9, .inr (.inl (fun _ => 0))))] := hD
  refine lv_aload_n hx hb dX2_init_59 rfl (lv_at hl 0 rfl) ?_
  refine lv_sipush (v := 400) hx hb dX2_init_60 (by decide) ?_
  refine za_newl (N := 400) (t0 := 1) (cI := g 1) hx hb (hts _ ka_long) hK rfl hP hD hS hA rfl (by decide) (Nat.le_of_ble_eq_true rfl) (Nat.le_of_ble_eq_true rfl) dX2_init_63 (fun q8 H hP hD hS => ?_)
  have hP : va_P D vwCl [(h0, .inr (2, [.int 0, .ref q1, .ref q2, .ref q3, .int 0, .int 0, .int 0, .long 0, .int 0, .ref q4, .ref q5, .ref q6, .int 0, .ref q7, .null, .long 0, .long 0, .null, .null, .null, .null, .null])), (q1, .inl (g 1, 6, .inr (.inl (fun _ => 0)))), (q2, .inl (g 0, 6, .inl (fun _ => 0))), (q3, .inl (g 0, 6, .inl (fun _ => 0))), (q4, .inl (g 0, 4, .inl (fun _ => 0))), (q5, .inl (g 0, 4, .inl (fun _ => 0))), (q6, .inl (g 0, 400, .inl (fun _ => 0))), (q7, .inl (g 1, 9, .inr (.inl (fun _ => 0)))), (q8, .inl (g 1, 400, .inr (.inl (fun _ => 0))))] _ := hP
  have hD : va_D A [(h0, .inr (2, [.int 0, .ref q1, .ref q2, .ref q3, .int 0, .int 0, .int 0, .long 0, .int 0, .ref q4, .ref q5, .ref q6, .int 0, .ref q7, .null, .long 0, .long 0, .null, .null, .null, .null, .null])), (q1, .inl (g 1, 6, .inr (.inl (fun _ => 0)))), (q2, .inl (g 0, 6, .inl (fun _ => 0))), (q3, .inl (g 0, 6, .inl (fun _ => 0))), (q4, .inl (g 0, 4, .inl (fun _ => 0))), (q5, .inl (g 0, 4, .inl (fun _ => 0))), (q6, .inl (g 0, 400, .inl (fun _ => 0))), (q7, .inl (g 1, 9, .inr (.inl (fun _ => 0)))), (q8, .inl (g 1, 400, .inr (.inl (fun _ => 0))))] := hD
  refine va_putF (D := D) (ci := 2) (v := .ref q8) (ty := .array .long) (C := RX2) (T := TX2) (N := 22) hx hb hts iw_X2 tyX2 tyok_X2 nm_X2 hown hK hP hD hS 0 rfl rfl 14 (by decide) (hts _ kf_X2_32) (fun _ h9 => h9) rfl hnm rfl (by decide +kernel) rfl rfl (Nat.le_of_ble_eq_true rfl) dX2_init_65 (fun H locs hP hD hS => ?_)
  have hP : va_P D vwCl [(h0, .inr (2, [.int 0, .ref q1, .ref q2, .ref q3, .int 0, .int 0, .int 0, .long 0, .int 0, .ref q4, .ref q5, .ref q6, .int 0, .ref q7, .ref q8, .long 0, .long 0, .null, .null, .null, .null, .null])), (q1, .inl (g 1, 6, .inr (.inl (fun _ => 0)))), (q2, .inl (g 0, 6, .inl (fun _ => 0))), (q3, .inl (g 0, 6, .inl (fun _ => 0))), (q4, .inl (g 0, 4, .inl (fun _ => 0))), (q5, .inl (g 0, 4, .inl (fun _ => 0))), (q6, .inl (g 0, 400, .inl (fun _ => 0))), (q7, .inl (g 1, 9, .inr (.inl (fun _ => 0)))), (q8, .inl (g 1, 400, .inr (.inl (fun _ => 0))))] _ := hP
  have hD : va_D A [(h0, .inr (2, [.int 0, .ref q1, .ref q2, .ref q3, .int 0, .int 0, .int 0, .long 0, .int 0, .ref q4, .ref q5, .ref q6, .int 0, .ref q7, .ref q8, .long 0, .long 0, .null, .null, .null, .null, .null])), (q1, .inl (g 1, 6, .inr (.inl (fun _ => 0)))), (q2, .inl (g 0, 6, .inl (fun _ => 0))), (q3, .inl (g 0, 6, .inl (fun _ => 0))), (q4, .inl (g 0, 4, .inl (fun _ => 0))), (q5, .inl (g 0, 4, .inl (fun _ => 0))), (q6, .inl (g 0, 400, .inl (fun _ => 0))), (q7, .inl (g 1, 9, .inr (.inl (fun _ => 0)))), (q8, .inl (g 1, 400, .inr (.inl (fun _ => 0))))] := hD
  refine lv_aload_n hx hb dX2_init_68 rfl (lv_at hl 0 rfl) ?_
  refine lv_ldc2 (v := (-1)) hx hb hown (hts _ kc_X2_35) dX2_init_69 ?_
  refine va_put (D := D) (ci := 2) (v := .long (-1)) (ty := .long) (C := RX2) (T := TX2) (N := 22) hx hb hts iw_X2 tyX2 tyok_X2 nm_X2 hown hK hP hD hS 0 rfl rfl 15 (by decide) (hts _ kf_X2_37) (fun _ h9 => h9) rfl (by decide +kernel) rfl rfl (Nat.le_of_ble_eq_true rfl) dX2_init_72 (fun H locs hP hD hS => ?_)
  have hP : va_P D vwCl [(h0, .inr (2, [.int 0, .ref q1, .ref q2, .ref q3, .int 0, .int 0, .int 0, .long 0, .int 0, .ref q4, .ref q5, .ref q6, .int 0, .ref q7, .ref q8, .long (-1), .long 0, .null, .null, .null, .null, .null])), (q1, .inl (g 1, 6, .inr (.inl (fun _ => 0)))), (q2, .inl (g 0, 6, .inl (fun _ => 0))), (q3, .inl (g 0, 6, .inl (fun _ => 0))), (q4, .inl (g 0, 4, .inl (fun _ => 0))), (q5, .inl (g 0, 4, .inl (fun _ => 0))), (q6, .inl (g 0, 400, .inl (fun _ => 0))), (q7, .inl (g 1, 9, .inr (.inl (fun _ => 0)))), (q8, .inl (g 1, 400, .inr (.inl (fun _ => 0))))] _ := hP
  have hD : va_D A [(h0, .inr (2, [.int 0, .ref q1, .ref q2, .ref q3, .int 0, .int 0, .int 0, .long 0, .int 0, .ref q4, .ref q5, .ref q6, .int 0, .ref q7, .ref q8, .long (-1), .long 0, .null, .null, .null, .null, .null])), (q1, .inl (g 1, 6, .inr (.inl (fun _ => 0)))), (q2, .inl (g 0, 6, .inl (fun _ => 0))), (q3, .inl (g 0, 6, .inl (fun _ => 0))), (q4, .inl (g 0, 4, .inl (fun _ => 0))), (q5, .inl (g 0, 4, .inl (fun _ => 0))), (q6, .inl (g 0, 400, .inl (fun _ => 0))), (q7, .inl (g 1, 9, .inr (.inl (fun _ => 0)))), (q8, .inl (g 1, 400, .inr (.inl (fun _ => 0))))] := hD
  refine lv_aload_n hx hb dX2_init_75 rfl (lv_at hl 0 rfl) ?_
  refine lv_ldc2 (v := (-1)) hx hb hown (hts _ kc_X2_35) dX2_init_76 ?_
  refine va_put (D := D) (ci := 2) (v := .long (-1)) (ty := .long) (C := RX2) (T := TX2) (N := 22) hx hb hts iw_X2 tyX2 tyok_X2 nm_X2 hown hK hP hD hS 0 rfl rfl 16 (by decide) (hts _ kf_X2_41) (fun _ h9 => h9) rfl (by decide +kernel) rfl rfl (Nat.le_of_ble_eq_true rfl) dX2_init_79 (fun H locs hP hD hS => ?_)
  have hP : va_P D vwCl [(h0, .inr (2, [.int 0, .ref q1, .ref q2, .ref q3, .int 0, .int 0, .int 0, .long 0, .int 0, .ref q4, .ref q5, .ref q6, .int 0, .ref q7, .ref q8, .long (-1), .long (-1), .null, .null, .null, .null, .null])), (q1, .inl (g 1, 6, .inr (.inl (fun _ => 0)))), (q2, .inl (g 0, 6, .inl (fun _ => 0))), (q3, .inl (g 0, 6, .inl (fun _ => 0))), (q4, .inl (g 0, 4, .inl (fun _ => 0))), (q5, .inl (g 0, 4, .inl (fun _ => 0))), (q6, .inl (g 0, 400, .inl (fun _ => 0))), (q7, .inl (g 1, 9, .inr (.inl (fun _ => 0)))), (q8, .inl (g 1, 400, .inr (.inl (fun _ => 0))))] _ := hP
  have hD : va_D A [(h0, .inr (2, [.int 0, .ref q1, .ref q2, .ref q3, .int 0, .int 0, .int 0, .long 0, .int 0, .ref q4, .ref q5, .ref q6, .int 0, .ref q7, .ref q8, .long (-1), .long (-1), .null, .null, .null, .null, .null])), (q1, .inl (g 1, 6, .inr (.inl (fun _ => 0)))), (q2, .inl (g 0, 6, .inl (fun _ => 0))), (q3, .inl (g 0, 6, .inl (fun _ => 0))), (q4, .inl (g 0, 4, .inl (fun _ => 0))), (q5, .inl (g 0, 4, .inl (fun _ => 0))), (q6, .inl (g 0, 400, .inl (fun _ => 0))), (q7, .inl (g 1, 9, .inr (.inl (fun _ => 0)))), (q8, .inl (g 1, 400, .inr (.inl (fun _ => 0))))] := hD
  refine lv_aload_n hx hb dX2_init_82 rfl (lv_at hl 0 rfl) ?_
  refine lv_iconst (v := 4) hx hb dX2_init_83 (by decide) ?_
  refine za_newi (N := 4) (t0 := 0) (cI := g 0) hx hb (hts _ ka_int) hK rfl hP hD hS hA rfl (by decide) (Nat.le_of_ble_eq_true rfl) (Nat.le_of_ble_eq_true rfl) dX2_init_84 (fun q9 H hP hD hS => ?_)
  have hP : va_P D vwCl [(h0, .inr (2, [.int 0, .ref q1, .ref q2, .ref q3, .int 0, .int 0, .int 0, .long 0, .int 0, .ref q4, .ref q5, .ref q6, .int 0, .ref q7, .ref q8, .long (-1), .long (-1), .null, .null, .null, .null, .null])), (q1, .inl (g 1, 6, .inr (.inl (fun _ => 0)))), (q2, .inl (g 0, 6, .inl (fun _ => 0))), (q3, .inl (g 0, 6, .inl (fun _ => 0))), (q4, .inl (g 0, 4, .inl (fun _ => 0))), (q5, .inl (g 0, 4, .inl (fun _ => 0))), (q6, .inl (g 0, 400, .inl (fun _ => 0))), (q7, .inl (g 1, 9, .inr (.inl (fun _ => 0)))), (q8, .inl (g 1, 400, .inr (.inl (fun _ => 0)))), (q9, .inl (g 0, 4, .inl (fun _ => 0)))] _ := hP
  have hD : va_D A [(h0, .inr (2, [.int 0, .ref q1, .ref q2, .ref q3, .int 0, .int 0, .int 0, .long 0, .int 0, .ref q4, .ref q5, .ref q6, .int 0, .ref q7, .ref q8, .long (-1), .long (-1), .null, .null, .null, .null, .null])), (q1, .inl (g 1, 6, .inr (.inl (fun _ => 0)))), (q2, .inl (g 0, 6, .inl (fun _ => 0))), (q3, .inl (g 0, 6, .inl (fun _ => 0))), (q4, .inl (g 0, 4, .inl (fun _ => 0))), (q5, .inl (g 0, 4, .inl (fun _ => 0))), (q6, .inl (g 0, 400, .inl (fun _ => 0))), (q7, .inl (g 1, 9, .inr (.inl (fun _ => 0)))), (q8, .inl (g 1, 400, .inr (.inl (fun _ => 0)))), (q9, .inl (g 0, 4, .inl (fun _ => 0)))] := hD
  refine va_putF (D := D) (ci := 2) (v := .ref q9) (ty := .array .int) (C := RX2) (T := TX2) (N := 22) hx hb hts iw_X2 tyX2 tyok_X2 nm_X2 hown hK hP hD hS 0 rfl rfl 17 (by decide) (hts _ kf_X2_44) (fun _ h9 => h9) rfl hnm rfl (by decide +kernel) rfl rfl (Nat.le_of_ble_eq_true rfl) dX2_init_86 (fun H locs hP hD hS => ?_)
  have hP : va_P D vwCl [(h0, .inr (2, [.int 0, .ref q1, .ref q2, .ref q3, .int 0, .int 0, .int 0, .long 0, .int 0, .ref q4, .ref q5, .ref q6, .int 0, .ref q7, .ref q8, .long (-1), .long (-1), .ref q9, .null, .null, .null, .null])), (q1, .inl (g 1, 6, .inr (.inl (fun _ => 0)))), (q2, .inl (g 0, 6, .inl (fun _ => 0))), (q3, .inl (g 0, 6, .inl (fun _ => 0))), (q4, .inl (g 0, 4, .inl (fun _ => 0))), (q5, .inl (g 0, 4, .inl (fun _ => 0))), (q6, .inl (g 0, 400, .inl (fun _ => 0))), (q7, .inl (g 1, 9, .inr (.inl (fun _ => 0)))), (q8, .inl (g 1, 400, .inr (.inl (fun _ => 0)))), (q9, .inl (g 0, 4, .inl (fun _ => 0)))] _ := hP
  have hD : va_D A [(h0, .inr (2, [.int 0, .ref q1, .ref q2, .ref q3, .int 0, .int 0, .int 0, .long 0, .int 0, .ref q4, .ref q5, .ref q6, .int 0, .ref q7, .ref q8, .long (-1), .long (-1), .ref q9, .null, .null, .null, .null])), (q1, .inl (g 1, 6, .inr (.inl (fun _ => 0)))), (q2, .inl (g 0, 6, .inl (fun _ => 0))), (q3, .inl (g 0, 6, .inl (fun _ => 0))), (q4, .inl (g 0, 4, .inl (fun _ => 0))), (q5, .inl (g 0, 4, .inl (fun _ => 0))), (q6, .inl (g 0, 400, .inl (fun _ => 0))), (q7, .inl (g 1, 9, .inr (.inl (fun _ => 0)))), (q8, .inl (g 1, 400, .inr (.inl (fun _ => 0)))), (q9, .inl (g 0, 4, .inl (fun _ => 0)))] := hD
  refine lv_aload_n hx hb dX2_init_89 rfl (lv_at hl 0 rfl) ?_
  refine lv_bipush (v := 32) hx hb dX2_init_90 (by decide) ?_
  refine za_newi (N := 32) (t0 := 0) (cI := g 0) hx hb (hts _ ka_int) hK rfl hP hD hS hA rfl (by decide) (Nat.le_of_ble_eq_true rfl) (Nat.le_of_ble_eq_true rfl) dX2_init_92 (fun q10 H hP hD hS => ?_)
  have hP : va_P D vwCl [(h0, .inr (2, [.int 0, .ref q1, .ref q2, .ref q3, .int 0, .int 0, .int 0, .long 0, .int 0, .ref q4, .ref q5, .ref q6, .int 0, .ref q7, .ref q8, .long (-1), .long (-1), .ref q9, .null, .null, .null, .null])), (q1, .inl (g 1, 6, .inr (.inl (fun _ => 0)))), (q2, .inl (g 0, 6, .inl (fun _ => 0))), (q3, .inl (g 0, 6, .inl (fun _ => 0))), (q4, .inl (g 0, 4, .inl (fun _ => 0))), (q5, .inl (g 0, 4, .inl (fun _ => 0))), (q6, .inl (g 0, 400, .inl (fun _ => 0))), (q7, .inl (g 1, 9, .inr (.inl (fun _ => 0)))), (q8, .inl (g 1, 400, .inr (.inl (fun _ => 0)))), (q9, .inl (g 0, 4, .inl (fun _ => 0))), (q10, .inl (g 0, 32, .inl (fun _ => 0)))] _ := hP
  have hD : va_D A [(h0, .inr (2, [.int 0, .ref q1, .ref q2, .ref q3, .int 0, .int 0, .int 0, .long 0, .int 0, .ref q4, .ref q5, .ref q6, .int 0, .ref q7, .ref q8, .long (-1), .long (-1), .ref q9, .null, .null, .null, .null])), (q1, .inl (g 1, 6, .inr (.inl (fun _ => 0)))), (q2, .inl (g 0, 6, .inl (fun _ => 0))), (q3, .inl (g 0, 6, .inl (fun _ => 0))), (q4, .inl (g 0, 4, .inl (fun _ => 0))), (q5, .inl (g 0, 4, .inl (fun _ => 0))), (q6, .inl (g 0, 400, .inl (fun _ => 0))), (q7, .inl (g 1, 9, .inr (.inl (fun _ => 0)))), (q8, .inl (g 1, 400, .inr (.inl (fun _ => 0)))), (q9, .inl (g 0, 4, .inl (fun _ => 0))), (q10, .inl (g 0, 32, .inl (fun _ => 0)))] := hD
  refine va_putF (D := D) (ci := 2) (v := .ref q10) (ty := .array .int) (C := RX2) (T := TX2) (N := 22) hx hb hts iw_X2 tyX2 tyok_X2 nm_X2 hown hK hP hD hS 0 rfl rfl 18 (by decide) (hts _ kf_X2_47) (fun _ h9 => h9) rfl hnm rfl (by decide +kernel) rfl rfl (Nat.le_of_ble_eq_true rfl) dX2_init_94 (fun H locs hP hD hS => ?_)
  have hP : va_P D vwCl [(h0, .inr (2, [.int 0, .ref q1, .ref q2, .ref q3, .int 0, .int 0, .int 0, .long 0, .int 0, .ref q4, .ref q5, .ref q6, .int 0, .ref q7, .ref q8, .long (-1), .long (-1), .ref q9, .ref q10, .null, .null, .null])), (q1, .inl (g 1, 6, .inr (.inl (fun _ => 0)))), (q2, .inl (g 0, 6, .inl (fun _ => 0))), (q3, .inl (g 0, 6, .inl (fun _ => 0))), (q4, .inl (g 0, 4, .inl (fun _ => 0))), (q5, .inl (g 0, 4, .inl (fun _ => 0))), (q6, .inl (g 0, 400, .inl (fun _ => 0))), (q7, .inl (g 1, 9, .inr (.inl (fun _ => 0)))), (q8, .inl (g 1, 400, .inr (.inl (fun _ => 0)))), (q9, .inl (g 0, 4, .inl (fun _ => 0))), (q10, .inl (g 0, 32, .inl (fun _ => 0)))] _ := hP
  have hD : va_D A [(h0, .inr (2, [.int 0, .ref q1, .ref q2, .ref q3, .int 0, .int 0, .int 0, .long 0, .int 0, .ref q4, .ref q5, .ref q6, .int 0, .ref q7, .ref q8, .long (-1), .long (-1), .ref q9, .ref q10, .null, .null, .null])), (q1, .inl (g 1, 6, .inr (.inl (fun _ => 0)))), (q2, .inl (g 0, 6, .inl (fun _ => 0))), (q3, .inl (g 0, 6, .inl (fun _ => 0))), (q4, .inl (g 0, 4, .inl (fun _ => 0))), (q5, .inl (g 0, 4, .inl (fun _ => 0))), (q6, .inl (g 0, 400, .inl (fun _ => 0))), (q7, .inl (g 1, 9, .inr (.inl (fun _ => 0)))), (q8, .inl (g 1, 400, .inr (.inl (fun _ => 0)))), (q9, .inl (g 0, 4, .inl (fun _ => 0))), (q10, .inl (g 0, 32, .inl (fun _ => 0)))] := hD
  refine lv_aload_n hx hb dX2_init_97 rfl (lv_at hl 0 rfl) ?_
  refine lv_bipush (v := 32) hx hb dX2_init_98 (by decide) ?_
  refine za_newi (N := 32) (t0 := 0) (cI := g 0) hx hb (hts _ ka_int) hK rfl hP hD hS hA rfl (by decide) (Nat.le_of_ble_eq_true rfl) (Nat.le_of_ble_eq_true rfl) dX2_init_100 (fun q11 H hP hD hS => ?_)
  have hP : va_P D vwCl [(h0, .inr (2, [.int 0, .ref q1, .ref q2, .ref q3, .int 0, .int 0, .int 0, .long 0, .int 0, .ref q4, .ref q5, .ref q6, .int 0, .ref q7, .ref q8, .long (-1), .long (-1), .ref q9, .ref q10, .null, .null, .null])), (q1, .inl (g 1, 6, .inr (.inl (fun _ => 0)))), (q2, .inl (g 0, 6, .inl (fun _ => 0))), (q3, .inl (g 0, 6, .inl (fun _ => 0))), (q4, .inl (g 0, 4, .inl (fun _ => 0))), (q5, .inl (g 0, 4, .inl (fun _ => 0))), (q6, .inl (g 0, 400, .inl (fun _ => 0))), (q7, .inl (g 1, 9, .inr (.inl (fun _ => 0)))), (q8, .inl (g 1, 400, .inr (.inl (fun _ => 0)))), (q9, .inl (g 0, 4, .inl (fun _ => 0))), (q10, .inl (g 0, 32, .inl (fun _ => 0))), (q11, .inl (g 0, 32, .inl (fun _ => 0)))] _ := hP
  have hD : va_D A [(h0, .inr (2, [.int 0, .ref q1, .ref q2, .ref q3, .int 0, .int 0, .int 0, .long 0, .int 0, .ref q4, .ref q5, .ref q6, .int 0, .ref q7, .ref q8, .long (-1), .long (-1), .ref q9, .ref q10, .null, .null, .null])), (q1, .inl (g 1, 6, .inr (.inl (fun _ => 0)))), (q2, .inl (g 0, 6, .inl (fun _ => 0))), (q3, .inl (g 0, 6, .inl (fun _ => 0))), (q4, .inl (g 0, 4, .inl (fun _ => 0))), (q5, .inl (g 0, 4, .inl (fun _ => 0))), (q6, .inl (g 0, 400, .inl (fun _ => 0))), (q7, .inl (g 1, 9, .inr (.inl (fun _ => 0)))), (q8, .inl (g 1, 400, .inr (.inl (fun _ => 0)))), (q9, .inl (g 0, 4, .inl (fun _ => 0))), (q10, .inl (g 0, 32, .inl (fun _ => 0))), (q11, .inl (g 0, 32, .inl (fun _ => 0)))] := hD
  refine va_putF (D := D) (ci := 2) (v := .ref q11) (ty := .array .int) (C := RX2) (T := TX2) (N := 22) hx hb hts iw_X2 tyX2 tyok_X2 nm_X2 hown hK hP hD hS 0 rfl rfl 19 (by decide) (hts _ kf_X2_50) (fun _ h9 => h9) rfl hnm rfl (by decide +kernel) rfl rfl (Nat.le_of_ble_eq_true rfl) dX2_init_102 (fun H locs hP hD hS => ?_)
  have hP : va_P D vwCl [(h0, .inr (2, [.int 0, .ref q1, .ref q2, .ref q3, .int 0, .int 0, .int 0, .long 0, .int 0, .ref q4, .ref q5, .ref q6, .int 0, .ref q7, .ref q8, .long (-1), .long (-1), .ref q9, .ref q10, .ref q11, .null, .null])), (q1, .inl (g 1, 6, .inr (.inl (fun _ => 0)))), (q2, .inl (g 0, 6, .inl (fun _ => 0))), (q3, .inl (g 0, 6, .inl (fun _ => 0))), (q4, .inl (g 0, 4, .inl (fun _ => 0))), (q5, .inl (g 0, 4, .inl (fun _ => 0))), (q6, .inl (g 0, 400, .inl (fun _ => 0))), (q7, .inl (g 1, 9, .inr (.inl (fun _ => 0)))), (q8, .inl (g 1, 400, .inr (.inl (fun _ => 0)))), (q9, .inl (g 0, 4, .inl (fun _ => 0))), (q10, .inl (g 0, 32, .inl (fun _ => 0))), (q11, .inl (g 0, 32, .inl (fun _ => 0)))] _ := hP
  have hD : va_D A [(h0, .inr (2, [.int 0, .ref q1, .ref q2, .ref q3, .int 0, .int 0, .int 0, .long 0, .int 0, .ref q4, .ref q5, .ref q6, .int 0, .ref q7, .ref q8, .long (-1), .long (-1), .ref q9, .ref q10, .ref q11, .null, .null])), (q1, .inl (g 1, 6, .inr (.inl (fun _ => 0)))), (q2, .inl (g 0, 6, .inl (fun _ => 0))), (q3, .inl (g 0, 6, .inl (fun _ => 0))), (q4, .inl (g 0, 4, .inl (fun _ => 0))), (q5, .inl (g 0, 4, .inl (fun _ => 0))), (q6, .inl (g 0, 400, .inl (fun _ => 0))), (q7, .inl (g 1, 9, .inr (.inl (fun _ => 0)))), (q8, .inl (g 1, 400, .inr (.inl (fun _ => 0)))), (q9, .inl (g 0, 4, .inl (fun _ => 0))), (q10, .inl (g 0, 32, .inl (fun _ => 0))), (q11, .inl (g 0, 32, .inl (fun _ => 0)))] := hD
  refine lv_aload_n hx hb dX2_init_105 rfl (lv_at hl 0 rfl) ?_
  refine lv_bipush (v := 30) hx hb dX2_init_106 (by decide) ?_
  refine za_newl (N := 30) (t0 := 1) (cI := g 1) hx hb (hts _ ka_long) hK rfl hP hD hS hA rfl (by decide) (Nat.le_of_ble_eq_true rfl) (Nat.le_of_ble_eq_true rfl) dX2_init_108 (fun q12 H hP hD hS => ?_)
  have hP : va_P D vwCl [(h0, .inr (2, [.int 0, .ref q1, .ref q2, .ref q3, .int 0, .int 0, .int 0, .long 0, .int 0, .ref q4, .ref q5, .ref q6, .int 0, .ref q7, .ref q8, .long (-1), .long (-1), .ref q9, .ref q10, .ref q11, .null, .null])), (q1, .inl (g 1, 6, .inr (.inl (fun _ => 0)))), (q2, .inl (g 0, 6, .inl (fun _ => 0))), (q3, .inl (g 0, 6, .inl (fun _ => 0))), (q4, .inl (g 0, 4, .inl (fun _ => 0))), (q5, .inl (g 0, 4, .inl (fun _ => 0))), (q6, .inl (g 0, 400, .inl (fun _ => 0))), (q7, .inl (g 1, 9, .inr (.inl (fun _ => 0)))), (q8, .inl (g 1, 400, .inr (.inl (fun _ => 0)))), (q9, .inl (g 0, 4, .inl (fun _ => 0))), (q10, .inl (g 0, 32, .inl (fun _ => 0))), (q11, .inl (g 0, 32, .inl (fun _ => 0))), (q12, .inl (g 1, 30, .inr (.inl (fun _ => 0))))] _ := hP
  have hD : va_D A [(h0, .inr (2, [.int 0, .ref q1, .ref q2, .ref q3, .int 0, .int 0, .int 0, .long 0, .int 0, .ref q4, .ref q5, .ref q6, .int 0, .ref q7, .ref q8, .long (-1), .long (-1), .ref q9, .ref q10, .ref q11, .null, .null])), (q1, .inl (g 1, 6, .inr (.inl (fun _ => 0)))), (q2, .inl (g 0, 6, .inl (fun _ => 0))), (q3, .inl (g 0, 6, .inl (fun _ => 0))), (q4, .inl (g 0, 4, .inl (fun _ => 0))), (q5, .inl (g 0, 4, .inl (fun _ => 0))), (q6, .inl (g 0, 400, .inl (fun _ => 0))), (q7, .inl (g 1, 9, .inr (.inl (fun _ => 0)))), (q8, .inl (g 1, 400, .inr (.inl (fun _ => 0)))), (q9, .inl (g 0, 4, .inl (fun _ => 0))), (q10, .inl (g 0, 32, .inl (fun _ => 0))), (q11, .inl (g 0, 32, .inl (fun _ => 0))), (q12, .inl (g 1, 30, .inr (.inl (fun _ => 0))))] := hD
  refine va_putF (D := D) (ci := 2) (v := .ref q12) (ty := .array .long) (C := RX2) (T := TX2) (N := 22) hx hb hts iw_X2 tyX2 tyok_X2 nm_X2 hown hK hP hD hS 0 rfl rfl 20 (by decide) (hts _ kf_X2_53) (fun _ h9 => h9) rfl hnm rfl (by decide +kernel) rfl rfl (Nat.le_of_ble_eq_true rfl) dX2_init_110 (fun H locs hP hD hS => ?_)
  have hP : va_P D vwCl [(h0, .inr (2, [.int 0, .ref q1, .ref q2, .ref q3, .int 0, .int 0, .int 0, .long 0, .int 0, .ref q4, .ref q5, .ref q6, .int 0, .ref q7, .ref q8, .long (-1), .long (-1), .ref q9, .ref q10, .ref q11, .ref q12, .null])), (q1, .inl (g 1, 6, .inr (.inl (fun _ => 0)))), (q2, .inl (g 0, 6, .inl (fun _ => 0))), (q3, .inl (g 0, 6, .inl (fun _ => 0))), (q4, .inl (g 0, 4, .inl (fun _ => 0))), (q5, .inl (g 0, 4, .inl (fun _ => 0))), (q6, .inl (g 0, 400, .inl (fun _ => 0))), (q7, .inl (g 1, 9, .inr (.inl (fun _ => 0)))), (q8, .inl (g 1, 400, .inr (.inl (fun _ => 0)))), (q9, .inl (g 0, 4, .inl (fun _ => 0))), (q10, .inl (g 0, 32, .inl (fun _ => 0))), (q11, .inl (g 0, 32, .inl (fun _ => 0))), (q12, .inl (g 1, 30, .inr (.inl (fun _ => 0))))] _ := hP
  have hD : va_D A [(h0, .inr (2, [.int 0, .ref q1, .ref q2, .ref q3, .int 0, .int 0, .int 0, .long 0, .int 0, .ref q4, .ref q5, .ref q6, .int 0, .ref q7, .ref q8, .long (-1), .long (-1), .ref q9, .ref q10, .ref q11, .ref q12, .null])), (q1, .inl (g 1, 6, .inr (.inl (fun _ => 0)))), (q2, .inl (g 0, 6, .inl (fun _ => 0))), (q3, .inl (g 0, 6, .inl (fun _ => 0))), (q4, .inl (g 0, 4, .inl (fun _ => 0))), (q5, .inl (g 0, 4, .inl (fun _ => 0))), (q6, .inl (g 0, 400, .inl (fun _ => 0))), (q7, .inl (g 1, 9, .inr (.inl (fun _ => 0)))), (q8, .inl (g 1, 400, .inr (.inl (fun _ => 0)))), (q9, .inl (g 0, 4, .inl (fun _ => 0))), (q10, .inl (g 0, 32, .inl (fun _ => 0))), (q11, .inl (g 0, 32, .inl (fun _ => 0))), (q12, .inl (g 1, 30, .inr (.inl (fun _ => 0))))] := hD
  refine lv_aload_n hx hb dX2_init_113 rfl (lv_at hl 0 rfl) ?_
  refine lv_bipush (v := 30) hx hb dX2_init_114 (by decide) ?_
  refine za_newl (N := 30) (t0 := 1) (cI := g 1) hx hb (hts _ ka_long) hK rfl hP hD hS hA rfl (by decide) (Nat.le_of_ble_eq_true rfl) (Nat.le_of_ble_eq_true rfl) dX2_init_116 (fun q13 H hP hD hS => ?_)
  have hP : va_P D vwCl [(h0, .inr (2, [.int 0, .ref q1, .ref q2, .ref q3, .int 0, .int 0, .int 0, .long 0, .int 0, .ref q4, .ref q5, .ref q6, .int 0, .ref q7, .ref q8, .long (-1), .long (-1), .ref q9, .ref q10, .ref q11, .ref q12, .null])), (q1, .inl (g 1, 6, .inr (.inl (fun _ => 0)))), (q2, .inl (g 0, 6, .inl (fun _ => 0))), (q3, .inl (g 0, 6, .inl (fun _ => 0))), (q4, .inl (g 0, 4, .inl (fun _ => 0))), (q5, .inl (g 0, 4, .inl (fun _ => 0))), (q6, .inl (g 0, 400, .inl (fun _ => 0))), (q7, .inl (g 1, 9, .inr (.inl (fun _ => 0)))), (q8, .inl (g 1, 400, .inr (.inl (fun _ => 0)))), (q9, .inl (g 0, 4, .inl (fun _ => 0))), (q10, .inl (g 0, 32, .inl (fun _ => 0))), (q11, .inl (g 0, 32, .inl (fun _ => 0))), (q12, .inl (g 1, 30, .inr (.inl (fun _ => 0)))), (q13, .inl (g 1, 30, .inr (.inl (fun _ => 0))))] _ := hP
  have hD : va_D A [(h0, .inr (2, [.int 0, .ref q1, .ref q2, .ref q3, .int 0, .int 0, .int 0, .long 0, .int 0, .ref q4, .ref q5, .ref q6, .int 0, .ref q7, .ref q8, .long (-1), .long (-1), .ref q9, .ref q10, .ref q11, .ref q12, .null])), (q1, .inl (g 1, 6, .inr (.inl (fun _ => 0)))), (q2, .inl (g 0, 6, .inl (fun _ => 0))), (q3, .inl (g 0, 6, .inl (fun _ => 0))), (q4, .inl (g 0, 4, .inl (fun _ => 0))), (q5, .inl (g 0, 4, .inl (fun _ => 0))), (q6, .inl (g 0, 400, .inl (fun _ => 0))), (q7, .inl (g 1, 9, .inr (.inl (fun _ => 0)))), (q8, .inl (g 1, 400, .inr (.inl (fun _ => 0)))), (q9, .inl (g 0, 4, .inl (fun _ => 0))), (q10, .inl (g 0, 32, .inl (fun _ => 0))), (q11, .inl (g 0, 32, .inl (fun _ => 0))), (q12, .inl (g 1, 30, .inr (.inl (fun _ => 0)))), (q13, .inl (g 1, 30, .inr (.inl (fun _ => 0))))] := hD
  refine va_putF (D := D) (ci := 2) (v := .ref q13) (ty := .array .long) (C := RX2) (T := TX2) (N := 22) hx hb hts iw_X2 tyX2 tyok_X2 nm_X2 hown hK hP hD hS 0 rfl rfl 21 (by decide) (hts _ kf_X2_56) (fun _ h9 => h9) rfl hnm rfl (by decide +kernel) rfl rfl (Nat.le_of_ble_eq_true rfl) dX2_init_118 (fun H locs hP hD hS => ?_)
  have hP : va_P D vwCl [(h0, .inr (2, [.int 0, .ref q1, .ref q2, .ref q3, .int 0, .int 0, .int 0, .long 0, .int 0, .ref q4, .ref q5, .ref q6, .int 0, .ref q7, .ref q8, .long (-1), .long (-1), .ref q9, .ref q10, .ref q11, .ref q12, .ref q13])), (q1, .inl (g 1, 6, .inr (.inl (fun _ => 0)))), (q2, .inl (g 0, 6, .inl (fun _ => 0))), (q3, .inl (g 0, 6, .inl (fun _ => 0))), (q4, .inl (g 0, 4, .inl (fun _ => 0))), (q5, .inl (g 0, 4, .inl (fun _ => 0))), (q6, .inl (g 0, 400, .inl (fun _ => 0))), (q7, .inl (g 1, 9, .inr (.inl (fun _ => 0)))), (q8, .inl (g 1, 400, .inr (.inl (fun _ => 0)))), (q9, .inl (g 0, 4, .inl (fun _ => 0))), (q10, .inl (g 0, 32, .inl (fun _ => 0))), (q11, .inl (g 0, 32, .inl (fun _ => 0))), (q12, .inl (g 1, 30, .inr (.inl (fun _ => 0)))), (q13, .inl (g 1, 30, .inr (.inl (fun _ => 0))))] _ := hP
  have hD : va_D A [(h0, .inr (2, [.int 0, .ref q1, .ref q2, .ref q3, .int 0, .int 0, .int 0, .long 0, .int 0, .ref q4, .ref q5, .ref q6, .int 0, .ref q7, .ref q8, .long (-1), .long (-1), .ref q9, .ref q10, .ref q11, .ref q12, .ref q13])), (q1, .inl (g 1, 6, .inr (.inl (fun _ => 0)))), (q2, .inl (g 0, 6, .inl (fun _ => 0))), (q3, .inl (g 0, 6, .inl (fun _ => 0))), (q4, .inl (g 0, 4, .inl (fun _ => 0))), (q5, .inl (g 0, 4, .inl (fun _ => 0))), (q6, .inl (g 0, 400, .inl (fun _ => 0))), (q7, .inl (g 1, 9, .inr (.inl (fun _ => 0)))), (q8, .inl (g 1, 400, .inr (.inl (fun _ => 0)))), (q9, .inl (g 0, 4, .inl (fun _ => 0))), (q10, .inl (g 0, 32, .inl (fun _ => 0))), (q11, .inl (g 0, 32, .inl (fun _ => 0))), (q12, .inl (g 1, 30, .inr (.inl (fun _ => 0)))), (q13, .inl (g 1, 30, .inr (.inl (fun _ => 0))))] := hD
  refine lv_aload_n hx hb dX2_init_121 rfl (lv_at hl 0 rfl) ?_
  refine lv_iload_n hx hb dX2_init_122 rfl (lv_at hl 1 rfl) ?_
  refine lv_iconst (v := 1) hx hb dX2_init_123 (by decide) ?_
  refine lv_icmp_lt (tgt := 137) hx hb dX2_init_124 (by decide) (fun c_124 => ?_) (fun c_124 => ?_)
  · -- jump at 124
    refine lv_iconst (v := 1) hx hb dX2_init_137 (by decide) ?_
    obtain ⟨k, ek⟩ : ∃ k : Nat, k = 1 := ⟨_, rfl⟩
    have hk : 1 ≤ k ∧ k ≤ 6 := by omega
    have hkx : m_n x = k := by rw [ek]; first | exact m_n_lo c_124 | exact m_n_hi c_130
    refine lv_topi (fun t9_1 et9_1 => ?_)
    obtain rfl : t9_1 = nI k := et9_1.trans (by rw [ek]; rfl)
    refine va_putF (D := D) (ci := 2) (v := .int (nI k)) (ty := .int) (C := RX2) (T := TX2) (N := 22) hx hb hts iw_X2 tyX2 tyok_X2 nm_X2 hown hK hP hD hS 0 rfl rfl 0 (by decide) (hts _ kf_X2_59) (fun _ h9 => h9) rfl hnm rfl (by decide +kernel) rfl rfl (Nat.le_of_ble_eq_true rfl) dX2_init_138 (fun H locs hP hD hS => ?_)
    have hP : va_P D vwCl [(h0, .inr (2, [.int (nI k), .ref q1, .ref q2, .ref q3, .int 0, .int 0, .int 0, .long 0, .int 0, .ref q4, .ref q5, .ref q6, .int 0, .ref q7, .ref q8, .long (-1), .long (-1), .ref q9, .ref q10, .ref q11, .ref q12, .ref q13])), (q1, .inl (g 1, 6, .inr (.inl (fun _ => 0)))), (q2, .inl (g 0, 6, .inl (fun _ => 0))), (q3, .inl (g 0, 6, .inl (fun _ => 0))), (q4, .inl (g 0, 4, .inl (fun _ => 0))), (q5, .inl (g 0, 4, .inl (fun _ => 0))), (q6, .inl (g 0, 400, .inl (fun _ => 0))), (q7, .inl (g 1, 9, .inr (.inl (fun _ => 0)))), (q8, .inl (g 1, 400, .inr (.inl (fun _ => 0)))), (q9, .inl (g 0, 4, .inl (fun _ => 0))), (q10, .inl (g 0, 32, .inl (fun _ => 0))), (q11, .inl (g 0, 32, .inl (fun _ => 0))), (q12, .inl (g 1, 30, .inr (.inl (fun _ => 0)))), (q13, .inl (g 1, 30, .inr (.inl (fun _ => 0))))] _ := hP
    have hD : va_D A [(h0, .inr (2, [.int (nI k), .ref q1, .ref q2, .ref q3, .int 0, .int 0, .int 0, .long 0, .int 0, .ref q4, .ref q5, .ref q6, .int 0, .ref q7, .ref q8, .long (-1), .long (-1), .ref q9, .ref q10, .ref q11, .ref q12, .ref q13])), (q1, .inl (g 1, 6, .inr (.inl (fun _ => 0)))), (q2, .inl (g 0, 6, .inl (fun _ => 0))), (q3, .inl (g 0, 6, .inl (fun _ => 0))), (q4, .inl (g 0, 4, .inl (fun _ => 0))), (q5, .inl (g 0, 4, .inl (fun _ => 0))), (q6, .inl (g 0, 400, .inl (fun _ => 0))), (q7, .inl (g 1, 9, .inr (.inl (fun _ => 0)))), (q8, .inl (g 1, 400, .inr (.inl (fun _ => 0)))), (q9, .inl (g 0, 4, .inl (fun _ => 0))), (q10, .inl (g 0, 32, .inl (fun _ => 0))), (q11, .inl (g 0, 32, .inl (fun _ => 0))), (q12, .inl (g 1, 30, .inr (.inl (fun _ => 0)))), (q13, .inl (g 1, 30, .inr (.inl (fun _ => 0))))] := hD
    refine lv_iconst (v := 0) hx hb dX2_init_141 (by decide) ?_
    refine lv_istore_n (lv' := [(2, .int 0), (0, .ref h0), (1, .int x)]) hx hb dX2_init_142 rfl hl (by decide) rfl (fun ls hl => ?_)
    refine lv_iload_n hx hb dX2_init_143 rfl (lv_at hl 0 rfl) ?_
    refine lv_bipush (v := 6) hx hb dX2_init_144 (by decide) ?_
    refine lv_icmp_ge (tgt := 164) hx hb dX2_init_146 (by decide) (fun c_146 => absurd c_146 (by decide)) (fun _ => ?_)
    refine lv_aload_n hx hb dX2_init_149 rfl (lv_at hl 1 rfl) ?_
    refine va_get (D := D) (ci := 2) (v := .ref q3) (C := RX2) (T := TX2) (N := 22) hx hb hts iw_X2 hown hK hP 0 rfl rfl 3 (by decide) (hts _ kf_X2_17) (fun _ h9 => h9) rfl dX2_init_150 ?_
    refine lv_iload_n hx hb dX2_init_153 rfl (lv_at hl 0 rfl) ?_
    refine lv_sipush (v := 1000) hx hb dX2_init_154 (by decide) ?_
    refine za_iast (k := 0) (x := 1000) (f := (fun _ => 0)) hx hb hK hP hD hS 3 0 rfl rfl rfl (by decide) (by decide) dX2_init_157 (fun H locs hP hD hS => ?_)
    have hP : va_P D vwCl [(h0, .inr (2, [.int (nI k), .ref q1, .ref q2, .ref q3, .int 0, .int 0, .int 0, .long 0, .int 0, .ref q4, .ref q5, .ref q6, .int 0, .ref q7, .ref q8, .long (-1), .long (-1), .ref q9, .ref q10, .ref q11, .ref q12, .ref q13])), (q1, .inl (g 1, 6, .inr (.inl (fun _ => 0)))), (q2, .inl (g 0, 6, .inl (fun _ => 0))), (q3, .inl (g 0, 6, .inl (upd (fun _ => 0) 0 1000))), (q4, .inl (g 0, 4, .inl (fun _ => 0))), (q5, .inl (g 0, 4, .inl (fun _ => 0))), (q6, .inl (g 0, 400, .inl (fun _ => 0))), (q7, .inl (g 1, 9, .inr (.inl (fun _ => 0)))), (q8, .inl (g 1, 400, .inr (.inl (fun _ => 0)))), (q9, .inl (g 0, 4, .inl (fun _ => 0))), (q10, .inl (g 0, 32, .inl (fun _ => 0))), (q11, .inl (g 0, 32, .inl (fun _ => 0))), (q12, .inl (g 1, 30, .inr (.inl (fun _ => 0)))), (q13, .inl (g 1, 30, .inr (.inl (fun _ => 0))))] _ := hP
    have hD : va_D A [(h0, .inr (2, [.int (nI k), .ref q1, .ref q2, .ref q3, .int 0, .int 0, .int 0, .long 0, .int 0, .ref q4, .ref q5, .ref q6, .int 0, .ref q7, .ref q8, .long (-1), .long (-1), .ref q9, .ref q10, .ref q11, .ref q12, .ref q13])), (q1, .inl (g 1, 6, .inr (.inl (fun _ => 0)))), (q2, .inl (g 0, 6, .inl (fun _ => 0))), (q3, .inl (g 0, 6, .inl (upd (fun _ => 0) 0 1000))), (q4, .inl (g 0, 4, .inl (fun _ => 0))), (q5, .inl (g 0, 4, .inl (fun _ => 0))), (q6, .inl (g 0, 400, .inl (fun _ => 0))), (q7, .inl (g 1, 9, .inr (.inl (fun _ => 0)))), (q8, .inl (g 1, 400, .inr (.inl (fun _ => 0)))), (q9, .inl (g 0, 4, .inl (fun _ => 0))), (q10, .inl (g 0, 32, .inl (fun _ => 0))), (q11, .inl (g 0, 32, .inl (fun _ => 0))), (q12, .inl (g 1, 30, .inr (.inl (fun _ => 0)))), (q13, .inl (g 1, 30, .inr (.inl (fun _ => 0))))] := hD
    refine lv_iinc (v := 1) (lv' := [(2, .int 1), (0, .ref h0), (1, .int x)]) hx hb dX2_init_158 hl (k := 0) rfl (by decide) (by decide) rfl (fun ls hl => ?_)
    refine lv_goto (tgt := 143) hx hb dX2_init_161 (by decide) ?_
    refine lv_iload_n hx hb dX2_init_143 rfl (lv_at hl 0 rfl) ?_
    refine lv_bipush (v := 6) hx hb dX2_init_144 (by decide) ?_
    refine lv_icmp_ge (tgt := 164) hx hb dX2_init_146 (by decide) (fun c_146 => absurd c_146 (by decide)) (fun _ => ?_)
    refine lv_aload_n hx hb dX2_init_149 rfl (lv_at hl 1 rfl) ?_
    refine va_get (D := D) (ci := 2) (v := .ref q3) (C := RX2) (T := TX2) (N := 22) hx hb hts iw_X2 hown hK hP 0 rfl rfl 3 (by decide) (hts _ kf_X2_17) (fun _ h9 => h9) rfl dX2_init_150 ?_
    refine lv_iload_n hx hb dX2_init_153 rfl (lv_at hl 0 rfl) ?_
    refine lv_sipush (v := 1000) hx hb dX2_init_154 (by decide) ?_
    refine za_iast (k := 1) (x := 1000) (f := (upd (fun _ => 0) 0 1000)) hx hb hK hP hD hS 3 0 rfl rfl rfl (by decide) (by decide) dX2_init_157 (fun H locs hP hD hS => ?_)
    have hP : va_P D vwCl [(h0, .inr (2, [.int (nI k), .ref q1, .ref q2, .ref q3, .int 0, .int 0, .int 0, .long 0, .int 0, .ref q4, .ref q5, .ref q6, .int 0, .ref q7, .ref q8, .long (-1), .long (-1), .ref q9, .ref q10, .ref q11, .ref q12, .ref q13])), (q1, .inl (g 1, 6, .inr (.inl (fun _ => 0)))), (q2, .inl (g 0, 6, .inl (fun _ => 0))), (q3, .inl (g 0, 6, .inl (upd (upd (fun _ => 0) 0 1000) 1 1000))), (q4, .inl (g 0, 4, .inl (fun _ => 0))), (q5, .inl (g 0, 4, .inl (fun _ => 0))), (q6, .inl (g 0, 400, .inl (fun _ => 0))), (q7, .inl (g 1, 9, .inr (.inl (fun _ => 0)))), (q8, .inl (g 1, 400, .inr (.inl (fun _ => 0)))), (q9, .inl (g 0, 4, .inl (fun _ => 0))), (q10, .inl (g 0, 32, .inl (fun _ => 0))), (q11, .inl (g 0, 32, .inl (fun _ => 0))), (q12, .inl (g 1, 30, .inr (.inl (fun _ => 0)))), (q13, .inl (g 1, 30, .inr (.inl (fun _ => 0))))] _ := hP
    have hD : va_D A [(h0, .inr (2, [.int (nI k), .ref q1, .ref q2, .ref q3, .int 0, .int 0, .int 0, .long 0, .int 0, .ref q4, .ref q5, .ref q6, .int 0, .ref q7, .ref q8, .long (-1), .long (-1), .ref q9, .ref q10, .ref q11, .ref q12, .ref q13])), (q1, .inl (g 1, 6, .inr (.inl (fun _ => 0)))), (q2, .inl (g 0, 6, .inl (fun _ => 0))), (q3, .inl (g 0, 6, .inl (upd (upd (fun _ => 0) 0 1000) 1 1000))), (q4, .inl (g 0, 4, .inl (fun _ => 0))), (q5, .inl (g 0, 4, .inl (fun _ => 0))), (q6, .inl (g 0, 400, .inl (fun _ => 0))), (q7, .inl (g 1, 9, .inr (.inl (fun _ => 0)))), (q8, .inl (g 1, 400, .inr (.inl (fun _ => 0)))), (q9, .inl (g 0, 4, .inl (fun _ => 0))), (q10, .inl (g 0, 32, .inl (fun _ => 0))), (q11, .inl (g 0, 32, .inl (fun _ => 0))), (q12, .inl (g 1, 30, .inr (.inl (fun _ => 0)))), (q13, .inl (g 1, 30, .inr (.inl (fun _ => 0))))] := hD
    refine lv_iinc (v := 2) (lv' := [(2, .int 2), (0, .ref h0), (1, .int x)]) hx hb dX2_init_158 hl (k := 0) rfl (by decide) (by decide) rfl (fun ls hl => ?_)
    refine lv_goto (tgt := 143) hx hb dX2_init_161 (by decide) ?_
    refine lv_iload_n hx hb dX2_init_143 rfl (lv_at hl 0 rfl) ?_
    refine lv_bipush (v := 6) hx hb dX2_init_144 (by decide) ?_
    refine lv_icmp_ge (tgt := 164) hx hb dX2_init_146 (by decide) (fun c_146 => absurd c_146 (by decide)) (fun _ => ?_)
    refine lv_aload_n hx hb dX2_init_149 rfl (lv_at hl 1 rfl) ?_
    refine va_get (D := D) (ci := 2) (v := .ref q3) (C := RX2) (T := TX2) (N := 22) hx hb hts iw_X2 hown hK hP 0 rfl rfl 3 (by decide) (hts _ kf_X2_17) (fun _ h9 => h9) rfl dX2_init_150 ?_
    refine lv_iload_n hx hb dX2_init_153 rfl (lv_at hl 0 rfl) ?_
    refine lv_sipush (v := 1000) hx hb dX2_init_154 (by decide) ?_
    refine za_iast (k := 2) (x := 1000) (f := (upd (upd (fun _ => 0) 0 1000) 1 1000)) hx hb hK hP hD hS 3 0 rfl rfl rfl (by decide) (by decide) dX2_init_157 (fun H locs hP hD hS => ?_)
    have hP : va_P D vwCl [(h0, .inr (2, [.int (nI k), .ref q1, .ref q2, .ref q3, .int 0, .int 0, .int 0, .long 0, .int 0, .ref q4, .ref q5, .ref q6, .int 0, .ref q7, .ref q8, .long (-1), .long (-1), .ref q9, .ref q10, .ref q11, .ref q12, .ref q13])), (q1, .inl (g 1, 6, .inr (.inl (fun _ => 0)))), (q2, .inl (g 0, 6, .inl (fun _ => 0))), (q3, .inl (g 0, 6, .inl (upd (upd (upd (fun _ => 0) 0 1000) 1 1000) 2 1000))), (q4, .inl (g 0, 4, .inl (fun _ => 0))), (q5, .inl (g 0, 4, .inl (fun _ => 0))), (q6, .inl (g 0, 400, .inl (fun _ => 0))), (q7, .inl (g 1, 9, .inr (.inl (fun _ => 0)))), (q8, .inl (g 1, 400, .inr (.inl (fun _ => 0)))), (q9, .inl (g 0, 4, .inl (fun _ => 0))), (q10, .inl (g 0, 32, .inl (fun _ => 0))), (q11, .inl (g 0, 32, .inl (fun _ => 0))), (q12, .inl (g 1, 30, .inr (.inl (fun _ => 0)))), (q13, .inl (g 1, 30, .inr (.inl (fun _ => 0))))] _ := hP
    have hD : va_D A [(h0, .inr (2, [.int (nI k), .ref q1, .ref q2, .ref q3, .int 0, .int 0, .int 0, .long 0, .int 0, .ref q4, .ref q5, .ref q6, .int 0, .ref q7, .ref q8, .long (-1), .long (-1), .ref q9, .ref q10, .ref q11, .ref q12, .ref q13])), (q1, .inl (g 1, 6, .inr (.inl (fun _ => 0)))), (q2, .inl (g 0, 6, .inl (fun _ => 0))), (q3, .inl (g 0, 6, .inl (upd (upd (upd (fun _ => 0) 0 1000) 1 1000) 2 1000))), (q4, .inl (g 0, 4, .inl (fun _ => 0))), (q5, .inl (g 0, 4, .inl (fun _ => 0))), (q6, .inl (g 0, 400, .inl (fun _ => 0))), (q7, .inl (g 1, 9, .inr (.inl (fun _ => 0)))), (q8, .inl (g 1, 400, .inr (.inl (fun _ => 0)))), (q9, .inl (g 0, 4, .inl (fun _ => 0))), (q10, .inl (g 0, 32, .inl (fun _ => 0))), (q11, .inl (g 0, 32, .inl (fun _ => 0))), (q12, .inl (g 1, 30, .inr (.inl (fun _ => 0)))), (q13, .inl (g 1, 30, .inr (.inl (fun _ => 0))))] := hD
    refine lv_iinc (v := 3) (lv' := [(2, .int 3), (0, .ref h0), (1, .int x)]) hx hb dX2_init_158 hl (k := 0) rfl (by decide) (by decide) rfl (fun ls hl => ?_)
    refine lv_goto (tgt := 143) hx hb dX2_init_161 (by decide) ?_
    refine lv_iload_n hx hb dX2_init_143 rfl (lv_at hl 0 rfl) ?_
    refine lv_bipush (v := 6) hx hb dX2_init_144 (by decide) ?_
    refine lv_icmp_ge (tgt := 164) hx hb dX2_init_146 (by decide) (fun c_146 => absurd c_146 (by decide)) (fun _ => ?_)
    refine lv_aload_n hx hb dX2_init_149 rfl (lv_at hl 1 rfl) ?_
    refine va_get (D := D) (ci := 2) (v := .ref q3) (C := RX2) (T := TX2) (N := 22) hx hb hts iw_X2 hown hK hP 0 rfl rfl 3 (by decide) (hts _ kf_X2_17) (fun _ h9 => h9) rfl dX2_init_150 ?_
    refine lv_iload_n hx hb dX2_init_153 rfl (lv_at hl 0 rfl) ?_
    refine lv_sipush (v := 1000) hx hb dX2_init_154 (by decide) ?_
    refine za_iast (k := 3) (x := 1000) (f := (upd (upd (upd (fun _ => 0) 0 1000) 1 1000) 2 1000)) hx hb hK hP hD hS 3 0 rfl rfl rfl (by decide) (by decide) dX2_init_157 (fun H locs hP hD hS => ?_)
    have hP : va_P D vwCl [(h0, .inr (2, [.int (nI k), .ref q1, .ref q2, .ref q3, .int 0, .int 0, .int 0, .long 0, .int 0, .ref q4, .ref q5, .ref q6, .int 0, .ref q7, .ref q8, .long (-1), .long (-1), .ref q9, .ref q10, .ref q11, .ref q12, .ref q13])), (q1, .inl (g 1, 6, .inr (.inl (fun _ => 0)))), (q2, .inl (g 0, 6, .inl (fun _ => 0))), (q3, .inl (g 0, 6, .inl (upd (upd (upd (upd (fun _ => 0) 0 1000) 1 1000) 2 1000) 3 1000))), (q4, .inl (g 0, 4, .inl (fun _ => 0))), (q5, .inl (g 0, 4, .inl (fun _ => 0))), (q6, .inl (g 0, 400, .inl (fun _ => 0))), (q7, .inl (g 1, 9, .inr (.inl (fun _ => 0)))), (q8, .inl (g 1, 400, .inr (.inl (fun _ => 0)))), (q9, .inl (g 0, 4, .inl (fun _ => 0))), (q10, .inl (g 0, 32, .inl (fun _ => 0))), (q11, .inl (g 0, 32, .inl (fun _ => 0))), (q12, .inl (g 1, 30, .inr (.inl (fun _ => 0)))), (q13, .inl (g 1, 30, .inr (.inl (fun _ => 0))))] _ := hP
    have hD : va_D A [(h0, .inr (2, [.int (nI k), .ref q1, .ref q2, .ref q3, .int 0, .int 0, .int 0, .long 0, .int 0, .ref q4, .ref q5, .ref q6, .int 0, .ref q7, .ref q8, .long (-1), .long (-1), .ref q9, .ref q10, .ref q11, .ref q12, .ref q13])), (q1, .inl (g 1, 6, .inr (.inl (fun _ => 0)))), (q2, .inl (g 0, 6, .inl (fun _ => 0))), (q3, .inl (g 0, 6, .inl (upd (upd (upd (upd (fun _ => 0) 0 1000) 1 1000) 2 1000) 3 1000))), (q4, .inl (g 0, 4, .inl (fun _ => 0))), (q5, .inl (g 0, 4, .inl (fun _ => 0))), (q6, .inl (g 0, 400, .inl (fun _ => 0))), (q7, .inl (g 1, 9, .inr (.inl (fun _ => 0)))), (q8, .inl (g 1, 400, .inr (.inl (fun _ => 0)))), (q9, .inl (g 0, 4, .inl (fun _ => 0))), (q10, .inl (g 0, 32, .inl (fun _ => 0))), (q11, .inl (g 0, 32, .inl (fun _ => 0))), (q12, .inl (g 1, 30, .inr (.inl (fun _ => 0)))), (q13, .inl (g 1, 30, .inr (.inl (fun _ => 0))))] := hD
    refine lv_iinc (v := 4) (lv' := [(2, .int 4), (0, .ref h0), (1, .int x)]) hx hb dX2_init_158 hl (k := 0) rfl (by decide) (by decide) rfl (fun ls hl => ?_)
    refine lv_goto (tgt := 143) hx hb dX2_init_161 (by decide) ?_
    refine lv_iload_n hx hb dX2_init_143 rfl (lv_at hl 0 rfl) ?_
    refine lv_bipush (v := 6) hx hb dX2_init_144 (by decide) ?_
    refine lv_icmp_ge (tgt := 164) hx hb dX2_init_146 (by decide) (fun c_146 => absurd c_146 (by decide)) (fun _ => ?_)
    refine lv_aload_n hx hb dX2_init_149 rfl (lv_at hl 1 rfl) ?_
    refine va_get (D := D) (ci := 2) (v := .ref q3) (C := RX2) (T := TX2) (N := 22) hx hb hts iw_X2 hown hK hP 0 rfl rfl 3 (by decide) (hts _ kf_X2_17) (fun _ h9 => h9) rfl dX2_init_150 ?_
    refine lv_iload_n hx hb dX2_init_153 rfl (lv_at hl 0 rfl) ?_
    refine lv_sipush (v := 1000) hx hb dX2_init_154 (by decide) ?_
    refine za_iast (k := 4) (x := 1000) (f := (upd (upd (upd (upd (fun _ => 0) 0 1000) 1 1000) 2 1000) 3 1000)) hx hb hK hP hD hS 3 0 rfl rfl rfl (by decide) (by decide) dX2_init_157 (fun H locs hP hD hS => ?_)
    have hP : va_P D vwCl [(h0, .inr (2, [.int (nI k), .ref q1, .ref q2, .ref q3, .int 0, .int 0, .int 0, .long 0, .int 0, .ref q4, .ref q5, .ref q6, .int 0, .ref q7, .ref q8, .long (-1), .long (-1), .ref q9, .ref q10, .ref q11, .ref q12, .ref q13])), (q1, .inl (g 1, 6, .inr (.inl (fun _ => 0)))), (q2, .inl (g 0, 6, .inl (fun _ => 0))), (q3, .inl (g 0, 6, .inl (upd (upd (upd (upd (upd (fun _ => 0) 0 1000) 1 1000) 2 1000) 3 1000) 4 1000))), (q4, .inl (g 0, 4, .inl (fun _ => 0))), (q5, .inl (g 0, 4, .inl (fun _ => 0))), (q6, .inl (g 0, 400, .inl (fun _ => 0))), (q7, .inl (g 1, 9, .inr (.inl (fun _ => 0)))), (q8, .inl (g 1, 400, .inr (.inl (fun _ => 0)))), (q9, .inl (g 0, 4, .inl (fun _ => 0))), (q10, .inl (g 0, 32, .inl (fun _ => 0))), (q11, .inl (g 0, 32, .inl (fun _ => 0))), (q12, .inl (g 1, 30, .inr (.inl (fun _ => 0)))), (q13, .inl (g 1, 30, .inr (.inl (fun _ => 0))))] _ := hP
    have hD : va_D A [(h0, .inr (2, [.int (nI k), .ref q1, .ref q2, .ref q3, .int 0, .int 0, .int 0, .long 0, .int 0, .ref q4, .ref q5, .ref q6, .int 0, .ref q7, .ref q8, .long (-1), .long (-1), .ref q9, .ref q10, .ref q11, .ref q12, .ref q13])), (q1, .inl (g 1, 6, .inr (.inl (fun _ => 0)))), (q2, .inl (g 0, 6, .inl (fun _ => 0))), (q3, .inl (g 0, 6, .inl (upd (upd (upd (upd (upd (fun _ => 0) 0 1000) 1 1000) 2 1000) 3 1000) 4 1000))), (q4, .inl (g 0, 4, .inl (fun _ => 0))), (q5, .inl (g 0, 4, .inl (fun _ => 0))), (q6, .inl (g 0, 400, .inl (fun _ => 0))), (q7, .inl (g 1, 9, .inr (.inl (fun _ => 0)))), (q8, .inl (g 1, 400, .inr (.inl (fun _ => 0)))), (q9, .inl (g 0, 4, .inl (fun _ => 0))), (q10, .inl (g 0, 32, .inl (fun _ => 0))), (q11, .inl (g 0, 32, .inl (fun _ => 0))), (q12, .inl (g 1, 30, .inr (.inl (fun _ => 0)))), (q13, .inl (g 1, 30, .inr (.inl (fun _ => 0))))] := hD
    refine lv_iinc (v := 5) (lv' := [(2, .int 5), (0, .ref h0), (1, .int x)]) hx hb dX2_init_158 hl (k := 0) rfl (by decide) (by decide) rfl (fun ls hl => ?_)
    refine lv_goto (tgt := 143) hx hb dX2_init_161 (by decide) ?_
    refine lv_iload_n hx hb dX2_init_143 rfl (lv_at hl 0 rfl) ?_
    refine lv_bipush (v := 6) hx hb dX2_init_144 (by decide) ?_
    refine lv_icmp_ge (tgt := 164) hx hb dX2_init_146 (by decide) (fun c_146 => absurd c_146 (by decide)) (fun _ => ?_)
    refine lv_aload_n hx hb dX2_init_149 rfl (lv_at hl 1 rfl) ?_
    refine va_get (D := D) (ci := 2) (v := .ref q3) (C := RX2) (T := TX2) (N := 22) hx hb hts iw_X2 hown hK hP 0 rfl rfl 3 (by decide) (hts _ kf_X2_17) (fun _ h9 => h9) rfl dX2_init_150 ?_
    refine lv_iload_n hx hb dX2_init_153 rfl (lv_at hl 0 rfl) ?_
    refine lv_sipush (v := 1000) hx hb dX2_init_154 (by decide) ?_
    refine za_iast (k := 5) (x := 1000) (f := (upd (upd (upd (upd (upd (fun _ => 0) 0 1000) 1 1000) 2 1000) 3 1000) 4 1000)) hx hb hK hP hD hS 3 0 rfl rfl rfl (by decide) (by decide) dX2_init_157 (fun H locs hP hD hS => ?_)
    have hP : va_P D vwCl [(h0, .inr (2, [.int (nI k), .ref q1, .ref q2, .ref q3, .int 0, .int 0, .int 0, .long 0, .int 0, .ref q4, .ref q5, .ref q6, .int 0, .ref q7, .ref q8, .long (-1), .long (-1), .ref q9, .ref q10, .ref q11, .ref q12, .ref q13])), (q1, .inl (g 1, 6, .inr (.inl (fun _ => 0)))), (q2, .inl (g 0, 6, .inl (fun _ => 0))), (q3, .inl (g 0, 6, .inl (upd (upd (upd (upd (upd (upd (fun _ => 0) 0 1000) 1 1000) 2 1000) 3 1000) 4 1000) 5 1000))), (q4, .inl (g 0, 4, .inl (fun _ => 0))), (q5, .inl (g 0, 4, .inl (fun _ => 0))), (q6, .inl (g 0, 400, .inl (fun _ => 0))), (q7, .inl (g 1, 9, .inr (.inl (fun _ => 0)))), (q8, .inl (g 1, 400, .inr (.inl (fun _ => 0)))), (q9, .inl (g 0, 4, .inl (fun _ => 0))), (q10, .inl (g 0, 32, .inl (fun _ => 0))), (q11, .inl (g 0, 32, .inl (fun _ => 0))), (q12, .inl (g 1, 30, .inr (.inl (fun _ => 0)))), (q13, .inl (g 1, 30, .inr (.inl (fun _ => 0))))] _ := hP
    have hD : va_D A [(h0, .inr (2, [.int (nI k), .ref q1, .ref q2, .ref q3, .int 0, .int 0, .int 0, .long 0, .int 0, .ref q4, .ref q5, .ref q6, .int 0, .ref q7, .ref q8, .long (-1), .long (-1), .ref q9, .ref q10, .ref q11, .ref q12, .ref q13])), (q1, .inl (g 1, 6, .inr (.inl (fun _ => 0)))), (q2, .inl (g 0, 6, .inl (fun _ => 0))), (q3, .inl (g 0, 6, .inl (upd (upd (upd (upd (upd (upd (fun _ => 0) 0 1000) 1 1000) 2 1000) 3 1000) 4 1000) 5 1000))), (q4, .inl (g 0, 4, .inl (fun _ => 0))), (q5, .inl (g 0, 4, .inl (fun _ => 0))), (q6, .inl (g 0, 400, .inl (fun _ => 0))), (q7, .inl (g 1, 9, .inr (.inl (fun _ => 0)))), (q8, .inl (g 1, 400, .inr (.inl (fun _ => 0)))), (q9, .inl (g 0, 4, .inl (fun _ => 0))), (q10, .inl (g 0, 32, .inl (fun _ => 0))), (q11, .inl (g 0, 32, .inl (fun _ => 0))), (q12, .inl (g 1, 30, .inr (.inl (fun _ => 0)))), (q13, .inl (g 1, 30, .inr (.inl (fun _ => 0))))] := hD
    refine lv_iinc (v := 6) (lv' := [(2, .int 6), (0, .ref h0), (1, .int x)]) hx hb dX2_init_158 hl (k := 0) rfl (by decide) (by decide) rfl (fun ls hl => ?_)
    refine lv_goto (tgt := 143) hx hb dX2_init_161 (by decide) ?_
    refine lv_iload_n hx hb dX2_init_143 rfl (lv_at hl 0 rfl) ?_
    refine lv_bipush (v := 6) hx hb dX2_init_144 (by decide) ?_
    refine lv_icmp_ge (tgt := 164) hx hb dX2_init_146 (by decide) (fun _ => ?_) (fun c_146 => absurd (by decide) c_146)
    have hP := hP.sub (ws' := [(h0, .inr (2, [.int (nI k), .ref q1, .ref q2, .ref q3, .int 0, .int 0, .int 0, .long 0, .int 0, .ref q4, .ref q5, .ref q6, .int 0, .ref q7, .ref q8, .long (-1), .long (-1), .ref q9, .ref q10, .ref q11, .ref q12, .ref q13])), (q1, .inl (g 1, 6, .inr (.inl (fun _ => 0)))), (q2, .inl (g 0, 6, .inl (fun _ => 0))), (q3, .inl (g 0, 6, .inl (upd (upd (upd (upd (upd (upd (fun _ => 0) 0 1000) 1 1000) 2 1000) 3 1000) 4 1000) 5 1000))), (q4, .inl (g 0, 4, .inl (fun _ => 0))), (q5, .inl (g 0, 4, .inl (fun _ => 0))), (q6, .inl (g 0, 400, .inl (fun _ => 0))), (q8, .inl (g 1, 400, .inr (.inl (fun _ => 0)))), (q7, .inl (g 1, 9, .inr (.inl (fun _ => 0)))), (q9, .inl (g 0, 4, .inl (fun _ => 0))), (q10, .inl (g 0, 32, .inl (fun _ => 0))), (q11, .inl (g 0, 32, .inl (fun _ => 0))), (q12, .inl (g 1, 30, .inr (.inl (fun _ => 0)))), (q13, .inl (g 1, 30, .inr (.inl (fun _ => 0))))]) [0, 1, 2, 3, 4, 5, 6, 8, 7, 9, 10, 11, 12, 13] rfl
    have hD := hD.sub (ws' := [(h0, .inr (2, [.int (nI k), .ref q1, .ref q2, .ref q3, .int 0, .int 0, .int 0, .long 0, .int 0, .ref q4, .ref q5, .ref q6, .int 0, .ref q7, .ref q8, .long (-1), .long (-1), .ref q9, .ref q10, .ref q11, .ref q12, .ref q13])), (q1, .inl (g 1, 6, .inr (.inl (fun _ => 0)))), (q2, .inl (g 0, 6, .inl (fun _ => 0))), (q3, .inl (g 0, 6, .inl (upd (upd (upd (upd (upd (upd (fun _ => 0) 0 1000) 1 1000) 2 1000) 3 1000) 4 1000) 5 1000))), (q4, .inl (g 0, 4, .inl (fun _ => 0))), (q5, .inl (g 0, 4, .inl (fun _ => 0))), (q6, .inl (g 0, 400, .inl (fun _ => 0))), (q8, .inl (g 1, 400, .inr (.inl (fun _ => 0)))), (q7, .inl (g 1, 9, .inr (.inl (fun _ => 0)))), (q9, .inl (g 0, 4, .inl (fun _ => 0))), (q10, .inl (g 0, 32, .inl (fun _ => 0))), (q11, .inl (g 0, 32, .inl (fun _ => 0))), (q12, .inl (g 1, 30, .inr (.inl (fun _ => 0)))), (q13, .inl (g 1, 30, .inr (.inl (fun _ => 0))))]) [0, 1, 2, 3, 4, 5, 6, 8, 7, 9, 10, 11, 12, 13] (by decide) rfl
    have hP : va_P D vwCl (wM g (fun i => ([h0, q1, q2, q3, q4, q5, q6, q8, q7, q9, q10, q11, q12, q13] : List Nat).getD i 0) (r_a0 k) m_b0) _ := hP
    have hD : va_D A (wM g (fun i => ([h0, q1, q2, q3, q4, q5, q6, q8, q7, q9, q10, q11, q12, q13] : List Nat).getD i 0) (r_a0 k) m_b0) := hD
    rw [← hkx] at hP hD
    exact hret (fun i => ([h0, q1, q2, q3, q4, q5, q6, q8, q7, q9, q10, q11, q12, q13] : List Nat).getD i 0) _ _ _ _ _ _ rfl hP hD hS (Nat.le_of_ble_eq_true rfl) (Nat.le_of_ble_eq_true rfl) dX2_init_164
  · -- on at 124
    refine lv_iload_n hx hb dX2_init_127 rfl (lv_at hl 1 rfl) ?_
    refine lv_bipush (v := 6) hx hb dX2_init_128 (by decide) ?_
    refine lv_icmp_gt (tgt := 137) hx hb dX2_init_130 (by decide) (fun c_130 => ?_) (fun c_130 => ?_)
    · -- jump at 130
      refine lv_iconst (v := 1) hx hb dX2_init_137 (by decide) ?_
      obtain ⟨k, ek⟩ : ∃ k : Nat, k = 1 := ⟨_, rfl⟩
      have hk : 1 ≤ k ∧ k ≤ 6 := by omega
      have hkx : m_n x = k := by rw [ek]; first | exact m_n_lo c_124 | exact m_n_hi c_130
      refine lv_topi (fun t9_2 et9_2 => ?_)
      obtain rfl : t9_2 = nI k := et9_2.trans (by rw [ek]; rfl)
      refine va_putF (D := D) (ci := 2) (v := .int (nI k)) (ty := .int) (C := RX2) (T := TX2) (N := 22) hx hb hts iw_X2 tyX2 tyok_X2 nm_X2 hown hK hP hD hS 0 rfl rfl 0 (by decide) (hts _ kf_X2_59) (fun _ h9 => h9) rfl hnm rfl (by decide +kernel) rfl rfl (Nat.le_of_ble_eq_true rfl) dX2_init_138 (fun H locs hP hD hS => ?_)
      have hP : va_P D vwCl [(h0, .inr (2, [.int (nI k), .ref q1, .ref q2, .ref q3, .int 0, .int 0, .int 0, .long 0, .int 0, .ref q4, .ref q5, .ref q6, .int 0, .ref q7, .ref q8, .long (-1), .long (-1), .ref q9, .ref q10, .ref q11, .ref q12, .ref q13])), (q1, .inl (g 1, 6, .inr (.inl (fun _ => 0)))), (q2, .inl (g 0, 6, .inl (fun _ => 0))), (q3, .inl (g 0, 6, .inl (fun _ => 0))), (q4, .inl (g 0, 4, .inl (fun _ => 0))), (q5, .inl (g 0, 4, .inl (fun _ => 0))), (q6, .inl (g 0, 400, .inl (fun _ => 0))), (q7, .inl (g 1, 9, .inr (.inl (fun _ => 0)))), (q8, .inl (g 1, 400, .inr (.inl (fun _ => 0)))), (q9, .inl (g 0, 4, .inl (fun _ => 0))), (q10, .inl (g 0, 32, .inl (fun _ => 0))), (q11, .inl (g 0, 32, .inl (fun _ => 0))), (q12, .inl (g 1, 30, .inr (.inl (fun _ => 0)))), (q13, .inl (g 1, 30, .inr (.inl (fun _ => 0))))] _ := hP
      have hD : va_D A [(h0, .inr (2, [.int (nI k), .ref q1, .ref q2, .ref q3, .int 0, .int 0, .int 0, .long 0, .int 0, .ref q4, .ref q5, .ref q6, .int 0, .ref q7, .ref q8, .long (-1), .long (-1), .ref q9, .ref q10, .ref q11, .ref q12, .ref q13])), (q1, .inl (g 1, 6, .inr (.inl (fun _ => 0)))), (q2, .inl (g 0, 6, .inl (fun _ => 0))), (q3, .inl (g 0, 6, .inl (fun _ => 0))), (q4, .inl (g 0, 4, .inl (fun _ => 0))), (q5, .inl (g 0, 4, .inl (fun _ => 0))), (q6, .inl (g 0, 400, .inl (fun _ => 0))), (q7, .inl (g 1, 9, .inr (.inl (fun _ => 0)))), (q8, .inl (g 1, 400, .inr (.inl (fun _ => 0)))), (q9, .inl (g 0, 4, .inl (fun _ => 0))), (q10, .inl (g 0, 32, .inl (fun _ => 0))), (q11, .inl (g 0, 32, .inl (fun _ => 0))), (q12, .inl (g 1, 30, .inr (.inl (fun _ => 0)))), (q13, .inl (g 1, 30, .inr (.inl (fun _ => 0))))] := hD
      refine lv_iconst (v := 0) hx hb dX2_init_141 (by decide) ?_
      refine lv_istore_n (lv' := [(2, .int 0), (0, .ref h0), (1, .int x)]) hx hb dX2_init_142 rfl hl (by decide) rfl (fun ls hl => ?_)
      refine lv_iload_n hx hb dX2_init_143 rfl (lv_at hl 0 rfl) ?_
      refine lv_bipush (v := 6) hx hb dX2_init_144 (by decide) ?_
      refine lv_icmp_ge (tgt := 164) hx hb dX2_init_146 (by decide) (fun c_146 => absurd c_146 (by decide)) (fun _ => ?_)
      refine lv_aload_n hx hb dX2_init_149 rfl (lv_at hl 1 rfl) ?_
      refine va_get (D := D) (ci := 2) (v := .ref q3) (C := RX2) (T := TX2) (N := 22) hx hb hts iw_X2 hown hK hP 0 rfl rfl 3 (by decide) (hts _ kf_X2_17) (fun _ h9 => h9) rfl dX2_init_150 ?_
      refine lv_iload_n hx hb dX2_init_153 rfl (lv_at hl 0 rfl) ?_
      refine lv_sipush (v := 1000) hx hb dX2_init_154 (by decide) ?_
      refine za_iast (k := 0) (x := 1000) (f := (fun _ => 0)) hx hb hK hP hD hS 3 0 rfl rfl rfl (by decide) (by decide) dX2_init_157 (fun H locs hP hD hS => ?_)
      have hP : va_P D vwCl [(h0, .inr (2, [.int (nI k), .ref q1, .ref q2, .ref q3, .int 0, .int 0, .int 0, .long 0, .int 0, .ref q4, .ref q5, .ref q6, .int 0, .ref q7, .ref q8, .long (-1), .long (-1), .ref q9, .ref q10, .ref q11, .ref q12, .ref q13])), (q1, .inl (g 1, 6, .inr (.inl (fun _ => 0)))), (q2, .inl (g 0, 6, .inl (fun _ => 0))), (q3, .inl (g 0, 6, .inl (upd (fun _ => 0) 0 1000))), (q4, .inl (g 0, 4, .inl (fun _ => 0))), (q5, .inl (g 0, 4, .inl (fun _ => 0))), (q6, .inl (g 0, 400, .inl (fun _ => 0))), (q7, .inl (g 1, 9, .inr (.inl (fun _ => 0)))), (q8, .inl (g 1, 400, .inr (.inl (fun _ => 0)))), (q9, .inl (g 0, 4, .inl (fun _ => 0))), (q10, .inl (g 0, 32, .inl (fun _ => 0))), (q11, .inl (g 0, 32, .inl (fun _ => 0))), (q12, .inl (g 1, 30, .inr (.inl (fun _ => 0)))), (q13, .inl (g 1, 30, .inr (.inl (fun _ => 0))))] _ := hP
      have hD : va_D A [(h0, .inr (2, [.int (nI k), .ref q1, .ref q2, .ref q3, .int 0, .int 0, .int 0, .long 0, .int 0, .ref q4, .ref q5, .ref q6, .int 0, .ref q7, .ref q8, .long (-1), .long (-1), .ref q9, .ref q10, .ref q11, .ref q12, .ref q13])), (q1, .inl (g 1, 6, .inr (.inl (fun _ => 0)))), (q2, .inl (g 0, 6, .inl (fun _ => 0))), (q3, .inl (g 0, 6, .inl (upd (fun _ => 0) 0 1000))), (q4, .inl (g 0, 4, .inl (fun _ => 0))), (q5, .inl (g 0, 4, .inl (fun _ => 0))), (q6, .inl (g 0, 400, .inl (fun _ => 0))), (q7, .inl (g 1, 9, .inr (.inl (fun _ => 0)))), (q8, .inl (g 1, 400, .inr (.inl (fun _ => 0)))), (q9, .inl (g 0, 4, .inl (fun _ => 0))), (q10, .inl (g 0, 32, .inl (fun _ => 0))), (q11, .inl (g 0, 32, .inl (fun _ => 0))), (q12, .inl (g 1, 30, .inr (.inl (fun _ => 0)))), (q13, .inl (g 1, 30, .inr (.inl (fun _ => 0))))] := hD
      refine lv_iinc (v := 1) (lv' := [(2, .int 1), (0, .ref h0), (1, .int x)]) hx hb dX2_init_158 hl (k := 0) rfl (by decide) (by decide) rfl (fun ls hl => ?_)
      refine lv_goto (tgt := 143) hx hb dX2_init_161 (by decide) ?_
      refine lv_iload_n hx hb dX2_init_143 rfl (lv_at hl 0 rfl) ?_
      refine lv_bipush (v := 6) hx hb dX2_init_144 (by decide) ?_
      refine lv_icmp_ge (tgt := 164) hx hb dX2_init_146 (by decide) (fun c_146 => absurd c_146 (by decide)) (fun _ => ?_)
      refine lv_aload_n hx hb dX2_init_149 rfl (lv_at hl 1 rfl) ?_
      refine va_get (D := D) (ci := 2) (v := .ref q3) (C := RX2) (T := TX2) (N := 22) hx hb hts iw_X2 hown hK hP 0 rfl rfl 3 (by decide) (hts _ kf_X2_17) (fun _ h9 => h9) rfl dX2_init_150 ?_
      refine lv_iload_n hx hb dX2_init_153 rfl (lv_at hl 0 rfl) ?_
      refine lv_sipush (v := 1000) hx hb dX2_init_154 (by decide) ?_
      refine za_iast (k := 1) (x := 1000) (f := (upd (fun _ => 0) 0 1000)) hx hb hK hP hD hS 3 0 rfl rfl rfl (by decide) (by decide) dX2_init_157 (fun H locs hP hD hS => ?_)
      have hP : va_P D vwCl [(h0, .inr (2, [.int (nI k), .ref q1, .ref q2, .ref q3, .int 0, .int 0, .int 0, .long 0, .int 0, .ref q4, .ref q5, .ref q6, .int 0, .ref q7, .ref q8, .long (-1), .long (-1), .ref q9, .ref q10, .ref q11, .ref q12, .ref q13])), (q1, .inl (g 1, 6, .inr (.inl (fun _ => 0)))), (q2, .inl (g 0, 6, .inl (fun _ => 0))), (q3, .inl (g 0, 6, .inl (upd (upd (fun _ => 0) 0 1000) 1 1000))), (q4, .inl (g 0, 4, .inl (fun _ => 0))), (q5, .inl (g 0, 4, .inl (fun _ => 0))), (q6, .inl (g 0, 400, .inl (fun _ => 0))), (q7, .inl (g 1, 9, .inr (.inl (fun _ => 0)))), (q8, .inl (g 1, 400, .inr (.inl (fun _ => 0)))), (q9, .inl (g 0, 4, .inl (fun _ => 0))), (q10, .inl (g 0, 32, .inl (fun _ => 0))), (q11, .inl (g 0, 32, .inl (fun _ => 0))), (q12, .inl (g 1, 30, .inr (.inl (fun _ => 0)))), (q13, .inl (g 1, 30, .inr (.inl (fun _ => 0))))] _ := hP
      have hD : va_D A [(h0, .inr (2, [.int (nI k), .ref q1, .ref q2, .ref q3, .int 0, .int 0, .int 0, .long 0, .int 0, .ref q4, .ref q5, .ref q6, .int 0, .ref q7, .ref q8, .long (-1), .long (-1), .ref q9, .ref q10, .ref q11, .ref q12, .ref q13])), (q1, .inl (g 1, 6, .inr (.inl (fun _ => 0)))), (q2, .inl (g 0, 6, .inl (fun _ => 0))), (q3, .inl (g 0, 6, .inl (upd (upd (fun _ => 0) 0 1000) 1 1000))), (q4, .inl (g 0, 4, .inl (fun _ => 0))), (q5, .inl (g 0, 4, .inl (fun _ => 0))), (q6, .inl (g 0, 400, .inl (fun _ => 0))), (q7, .inl (g 1, 9, .inr (.inl (fun _ => 0)))), (q8, .inl (g 1, 400, .inr (.inl (fun _ => 0)))), (q9, .inl (g 0, 4, .inl (fun _ => 0))), (q10, .inl (g 0, 32, .inl (fun _ => 0))), (q11, .inl (g 0, 32, .inl (fun _ => 0))), (q12, .inl (g 1, 30, .inr (.inl (fun _ => 0)))), (q13, .inl (g 1, 30, .inr (.inl (fun _ => 0))))] := hD
      refine lv_iinc (v := 2) (lv' := [(2, .int 2), (0, .ref h0), (1, .int x)]) hx hb dX2_init_158 hl (k := 0) rfl (by decide) (by decide) rfl (fun ls hl => ?_)
      refine lv_goto (tgt := 143) hx hb dX2_init_161 (by decide) ?_
      refine lv_iload_n hx hb dX2_init_143 rfl (lv_at hl 0 rfl) ?_
      refine lv_bipush (v := 6) hx hb dX2_init_144 (by decide) ?_
      refine lv_icmp_ge (tgt := 164) hx hb dX2_init_146 (by decide) (fun c_146 => absurd c_146 (by decide)) (fun _ => ?_)
      refine lv_aload_n hx hb dX2_init_149 rfl (lv_at hl 1 rfl) ?_
      refine va_get (D := D) (ci := 2) (v := .ref q3) (C := RX2) (T := TX2) (N := 22) hx hb hts iw_X2 hown hK hP 0 rfl rfl 3 (by decide) (hts _ kf_X2_17) (fun _ h9 => h9) rfl dX2_init_150 ?_
      refine lv_iload_n hx hb dX2_init_153 rfl (lv_at hl 0 rfl) ?_
      refine lv_sipush (v := 1000) hx hb dX2_init_154 (by decide) ?_
      refine za_iast (k := 2) (x := 1000) (f := (upd (upd (fun _ => 0) 0 1000) 1 1000)) hx hb hK hP hD hS 3 0 rfl rfl rfl (by decide) (by decide) dX2_init_157 (fun H locs hP hD hS => ?_)
      have hP : va_P D vwCl [(h0, .inr (2, [.int (nI k), .ref q1, .ref q2, .ref q3, .int 0, .int 0, .int 0, .long 0, .int 0, .ref q4, .ref q5, .ref q6, .int 0, .ref q7, .ref q8, .long (-1), .long (-1), .ref q9, .ref q10, .ref q11, .ref q12, .ref q13])), (q1, .inl (g 1, 6, .inr (.inl (fun _ => 0)))), (q2, .inl (g 0, 6, .inl (fun _ => 0))), (q3, .inl (g 0, 6, .inl (upd (upd (upd (fun _ => 0) 0 1000) 1 1000) 2 1000))), (q4, .inl (g 0, 4, .inl (fun _ => 0))), (q5, .inl (g 0, 4, .inl (fun _ => 0))), (q6, .inl (g 0, 400, .inl (fun _ => 0))), (q7, .inl (g 1, 9, .inr (.inl (fun _ => 0)))), (q8, .inl (g 1, 400, .inr (.inl (fun _ => 0)))), (q9, .inl (g 0, 4, .inl (fun _ => 0))), (q10, .inl (g 0, 32, .inl (fun _ => 0))), (q11, .inl (g 0, 32, .inl (fun _ => 0))), (q12, .inl (g 1, 30, .inr (.inl (fun _ => 0)))), (q13, .inl (g 1, 30, .inr (.inl (fun _ => 0))))] _ := hP
      have hD : va_D A [(h0, .inr (2, [.int (nI k), .ref q1, .ref q2, .ref q3, .int 0, .int 0, .int 0, .long 0, .int 0, .ref q4, .ref q5, .ref q6, .int 0, .ref q7, .ref q8, .long (-1), .long (-1), .ref q9, .ref q10, .ref q11, .ref q12, .ref q13])), (q1, .inl (g 1, 6, .inr (.inl (fun _ => 0)))), (q2, .inl (g 0, 6, .inl (fun _ => 0))), (q3, .inl (g 0, 6, .inl (upd (upd (upd (fun _ => 0) 0 1000) 1 1000) 2 1000))), (q4, .inl (g 0, 4, .inl (fun _ => 0))), (q5, .inl (g 0, 4, .inl (fun _ => 0))), (q6, .inl (g 0, 400, .inl (fun _ => 0))), (q7, .inl (g 1, 9, .inr (.inl (fun _ => 0)))), (q8, .inl (g 1, 400, .inr (.inl (fun _ => 0)))), (q9, .inl (g 0, 4, .inl (fun _ => 0))), (q10, .inl (g 0, 32, .inl (fun _ => 0))), (q11, .inl (g 0, 32, .inl (fun _ => 0))), (q12, .inl (g 1, 30, .inr (.inl (fun _ => 0)))), (q13, .inl (g 1, 30, .inr (.inl (fun _ => 0))))] := hD
      refine lv_iinc (v := 3) (lv' := [(2, .int 3), (0, .ref h0), (1, .int x)]) hx hb dX2_init_158 hl (k := 0) rfl (by decide) (by decide) rfl (fun ls hl => ?_)
      refine lv_goto (tgt := 143) hx hb dX2_init_161 (by decide) ?_
      refine lv_iload_n hx hb dX2_init_143 rfl (lv_at hl 0 rfl) ?_
      refine lv_bipush (v := 6) hx hb dX2_init_144 (by decide) ?_
      refine lv_icmp_ge (tgt := 164) hx hb dX2_init_146 (by decide) (fun c_146 => absurd c_146 (by decide)) (fun _ => ?_)
      refine lv_aload_n hx hb dX2_init_149 rfl (lv_at hl 1 rfl) ?_
      refine va_get (D := D) (ci := 2) (v := .ref q3) (C := RX2) (T := TX2) (N := 22) hx hb hts iw_X2 hown hK hP 0 rfl rfl 3 (by decide) (hts _ kf_X2_17) (fun _ h9 => h9) rfl dX2_init_150 ?_
      refine lv_iload_n hx hb dX2_init_153 rfl (lv_at hl 0 rfl) ?_
      refine lv_sipush (v := 1000) hx hb dX2_init_154 (by decide) ?_
      refine za_iast (k := 3) (x := 1000) (f := (upd (upd (upd (fun _ => 0) 0 1000) 1 1000) 2 1000)) hx hb hK hP hD hS 3 0 rfl rfl rfl (by decide) (by decide) dX2_init_157 (fun H locs hP hD hS => ?_)
      have hP : va_P D vwCl [(h0, .inr (2, [.int (nI k), .ref q1, .ref q2, .ref q3, .int 0, .int 0, .int 0, .long 0, .int 0, .ref q4, .ref q5, .ref q6, .int 0, .ref q7, .ref q8, .long (-1), .long (-1), .ref q9, .ref q10, .ref q11, .ref q12, .ref q13])), (q1, .inl (g 1, 6, .inr (.inl (fun _ => 0)))), (q2, .inl (g 0, 6, .inl (fun _ => 0))), (q3, .inl (g 0, 6, .inl (upd (upd (upd (upd (fun _ => 0) 0 1000) 1 1000) 2 1000) 3 1000))), (q4, .inl (g 0, 4, .inl (fun _ => 0))), (q5, .inl (g 0, 4, .inl (fun _ => 0))), (q6, .inl (g 0, 400, .inl (fun _ => 0))), (q7, .inl (g 1, 9, .inr (.inl (fun _ => 0)))), (q8, .inl (g 1, 400, .inr (.inl (fun _ => 0)))), (q9, .inl (g 0, 4, .inl (fun _ => 0))), (q10, .inl (g 0, 32, .inl (fun _ => 0))), (q11, .inl (g 0, 32, .inl (fun _ => 0))), (q12, .inl (g 1, 30, .inr (.inl (fun _ => 0)))), (q13, .inl (g 1, 30, .inr (.inl (fun _ => 0))))] _ := hP
      have hD : va_D A [(h0, .inr (2, [.int (nI k), .ref q1, .ref q2, .ref q3, .int 0, .int 0, .int 0, .long 0, .int 0, .ref q4, .ref q5, .ref q6, .int 0, .ref q7, .ref q8, .long (-1), .long (-1), .ref q9, .ref q10, .ref q11, .ref q12, .ref q13])), (q1, .inl (g 1, 6, .inr (.inl (fun _ => 0)))), (q2, .inl (g 0, 6, .inl (fun _ => 0))), (q3, .inl (g 0, 6, .inl (upd (upd (upd (upd (fun _ => 0) 0 1000) 1 1000) 2 1000) 3 1000))), (q4, .inl (g 0, 4, .inl (fun _ => 0))), (q5, .inl (g 0, 4, .inl (fun _ => 0))), (q6, .inl (g 0, 400, .inl (fun _ => 0))), (q7, .inl (g 1, 9, .inr (.inl (fun _ => 0)))), (q8, .inl (g 1, 400, .inr (.inl (fun _ => 0)))), (q9, .inl (g 0, 4, .inl (fun _ => 0))), (q10, .inl (g 0, 32, .inl (fun _ => 0))), (q11, .inl (g 0, 32, .inl (fun _ => 0))), (q12, .inl (g 1, 30, .inr (.inl (fun _ => 0)))), (q13, .inl (g 1, 30, .inr (.inl (fun _ => 0))))] := hD
      refine lv_iinc (v := 4) (lv' := [(2, .int 4), (0, .ref h0), (1, .int x)]) hx hb dX2_init_158 hl (k := 0) rfl (by decide) (by decide) rfl (fun ls hl => ?_)
      refine lv_goto (tgt := 143) hx hb dX2_init_161 (by decide) ?_
      refine lv_iload_n hx hb dX2_init_143 rfl (lv_at hl 0 rfl) ?_
      refine lv_bipush (v := 6) hx hb dX2_init_144 (by decide) ?_
      refine lv_icmp_ge (tgt := 164) hx hb dX2_init_146 (by decide) (fun c_146 => absurd c_146 (by decide)) (fun _ => ?_)
      refine lv_aload_n hx hb dX2_init_149 rfl (lv_at hl 1 rfl) ?_
      refine va_get (D := D) (ci := 2) (v := .ref q3) (C := RX2) (T := TX2) (N := 22) hx hb hts iw_X2 hown hK hP 0 rfl rfl 3 (by decide) (hts _ kf_X2_17) (fun _ h9 => h9) rfl dX2_init_150 ?_
      refine lv_iload_n hx hb dX2_init_153 rfl (lv_at hl 0 rfl) ?_
      refine lv_sipush (v := 1000) hx hb dX2_init_154 (by decide) ?_
      refine za_iast (k := 4) (x := 1000) (f := (upd (upd (upd (upd (fun _ => 0) 0 1000) 1 1000) 2 1000) 3 1000)) hx hb hK hP hD hS 3 0 rfl rfl rfl (by decide) (by decide) dX2_init_157 (fun H locs hP hD hS => ?_)
      have hP : va_P D vwCl [(h0, .inr (2, [.int (nI k), .ref q1, .ref q2, .ref q3, .int 0, .int 0, .int 0, .long 0, .int 0, .ref q4, .ref q5, .ref q6, .int 0, .ref q7, .ref q8, .long (-1), .long (-1), .ref q9, .ref q10, .ref q11, .ref q12, .ref q13])), (q1, .inl (g 1, 6, .inr (.inl (fun _ => 0)))), (q2, .inl (g 0, 6, .inl (fun _ => 0))), (q3, .inl (g 0, 6, .inl (upd (upd (upd (upd (upd (fun _ => 0) 0 1000) 1 1000) 2 1000) 3 1000) 4 1000))), (q4, .inl (g 0, 4, .inl (fun _ => 0))), (q5, .inl (g 0, 4, .inl (fun _ => 0))), (q6, .inl (g 0, 400, .inl (fun _ => 0))), (q7, .inl (g 1, 9, .inr (.inl (fun _ => 0)))), (q8, .inl (g 1, 400, .inr (.inl (fun _ => 0)))), (q9, .inl (g 0, 4, .inl (fun _ => 0))), (q10, .inl (g 0, 32, .inl (fun _ => 0))), (q11, .inl (g 0, 32, .inl (fun _ => 0))), (q12, .inl (g 1, 30, .inr (.inl (fun _ => 0)))), (q13, .inl (g 1, 30, .inr (.inl (fun _ => 0))))] _ := hP
      have hD : va_D A [(h0, .inr (2, [.int (nI k), .ref q1, .ref q2, .ref q3, .int 0, .int 0, .int 0, .long 0, .int 0, .ref q4, .ref q5, .ref q6, .int 0, .ref q7, .ref q8, .long (-1), .long (-1), .ref q9, .ref q10, .ref q11, .ref q12, .ref q13])), (q1, .inl (g 1, 6, .inr (.inl (fun _ => 0)))), (q2, .inl (g 0, 6, .inl (fun _ => 0))), (q3, .inl (g 0, 6, .inl (upd (upd (upd (upd (upd (fun _ => 0) 0 1000) 1 1000) 2 1000) 3 1000) 4 1000))), (q4, .inl (g 0, 4, .inl (fun _ => 0))), (q5, .inl (g 0, 4, .inl (fun _ => 0))), (q6, .inl (g 0, 400, .inl (fun _ => 0))), (q7, .inl (g 1, 9, .inr (.inl (fun _ => 0)))), (q8, .inl (g 1, 400, .inr (.inl (fun _ => 0)))), (q9, .inl (g 0, 4, .inl (fun _ => 0))), (q10, .inl (g 0, 32, .inl (fun _ => 0))), (q11, .inl (g 0, 32, .inl (fun _ => 0))), (q12, .inl (g 1, 30, .inr (.inl (fun _ => 0)))), (q13, .inl (g 1, 30, .inr (.inl (fun _ => 0))))] := hD
      refine lv_iinc (v := 5) (lv' := [(2, .int 5), (0, .ref h0), (1, .int x)]) hx hb dX2_init_158 hl (k := 0) rfl (by decide) (by decide) rfl (fun ls hl => ?_)
      refine lv_goto (tgt := 143) hx hb dX2_init_161 (by decide) ?_
      refine lv_iload_n hx hb dX2_init_143 rfl (lv_at hl 0 rfl) ?_
      refine lv_bipush (v := 6) hx hb dX2_init_144 (by decide) ?_
      refine lv_icmp_ge (tgt := 164) hx hb dX2_init_146 (by decide) (fun c_146 => absurd c_146 (by decide)) (fun _ => ?_)
      refine lv_aload_n hx hb dX2_init_149 rfl (lv_at hl 1 rfl) ?_
      refine va_get (D := D) (ci := 2) (v := .ref q3) (C := RX2) (T := TX2) (N := 22) hx hb hts iw_X2 hown hK hP 0 rfl rfl 3 (by decide) (hts _ kf_X2_17) (fun _ h9 => h9) rfl dX2_init_150 ?_
      refine lv_iload_n hx hb dX2_init_153 rfl (lv_at hl 0 rfl) ?_
      refine lv_sipush (v := 1000) hx hb dX2_init_154 (by decide) ?_
      refine za_iast (k := 5) (x := 1000) (f := (upd (upd (upd (upd (upd (fun _ => 0) 0 1000) 1 1000) 2 1000) 3 1000) 4 1000)) hx hb hK hP hD hS 3 0 rfl rfl rfl (by decide) (by decide) dX2_init_157 (fun H locs hP hD hS => ?_)
      have hP : va_P D vwCl [(h0, .inr (2, [.int (nI k), .ref q1, .ref q2, .ref q3, .int 0, .int 0, .int 0, .long 0, .int 0, .ref q4, .ref q5, .ref q6, .int 0, .ref q7, .ref q8, .long (-1), .long (-1), .ref q9, .ref q10, .ref q11, .ref q12, .ref q13])), (q1, .inl (g 1, 6, .inr (.inl (fun _ => 0)))), (q2, .inl (g 0, 6, .inl (fun _ => 0))), (q3, .inl (g 0, 6, .inl (upd (upd (upd (upd (upd (upd (fun _ => 0) 0 1000) 1 1000) 2 1000) 3 1000) 4 1000) 5 1000))), (q4, .inl (g 0, 4, .inl (fun _ => 0))), (q5, .inl (g 0, 4, .inl (fun _ => 0))), (q6, .inl (g 0, 400, .inl (fun _ => 0))), (q7, .inl (g 1, 9, .inr (.inl (fun _ => 0)))), (q8, .inl (g 1, 400, .inr (.inl (fun _ => 0)))), (q9, .inl (g 0, 4, .inl (fun _ => 0))), (q10, .inl (g 0, 32, .inl (fun _ => 0))), (q11, .inl (g 0, 32, .inl (fun _ => 0))), (q12, .inl (g 1, 30, .inr (.inl (fun _ => 0)))), (q13, .inl (g 1, 30, .inr (.inl (fun _ => 0))))] _ := hP
      have hD : va_D A [(h0, .inr (2, [.int (nI k), .ref q1, .ref q2, .ref q3, .int 0, .int 0, .int 0, .long 0, .int 0, .ref q4, .ref q5, .ref q6, .int 0, .ref q7, .ref q8, .long (-1), .long (-1), .ref q9, .ref q10, .ref q11, .ref q12, .ref q13])), (q1, .inl (g 1, 6, .inr (.inl (fun _ => 0)))), (q2, .inl (g 0, 6, .inl (fun _ => 0))), (q3, .inl (g 0, 6, .inl (upd (upd (upd (upd (upd (upd (fun _ => 0) 0 1000) 1 1000) 2 1000) 3 1000) 4 1000) 5 1000))), (q4, .inl (g 0, 4, .inl (fun _ => 0))), (q5, .inl (g 0, 4, .inl (fun _ => 0))), (q6, .inl (g 0, 400, .inl (fun _ => 0))), (q7, .inl (g 1, 9, .inr (.inl (fun _ => 0)))), (q8, .inl (g 1, 400, .inr (.inl (fun _ => 0)))), (q9, .inl (g 0, 4, .inl (fun _ => 0))), (q10, .inl (g 0, 32, .inl (fun _ => 0))), (q11, .inl (g 0, 32, .inl (fun _ => 0))), (q12, .inl (g 1, 30, .inr (.inl (fun _ => 0)))), (q13, .inl (g 1, 30, .inr (.inl (fun _ => 0))))] := hD
      refine lv_iinc (v := 6) (lv' := [(2, .int 6), (0, .ref h0), (1, .int x)]) hx hb dX2_init_158 hl (k := 0) rfl (by decide) (by decide) rfl (fun ls hl => ?_)
      refine lv_goto (tgt := 143) hx hb dX2_init_161 (by decide) ?_
      refine lv_iload_n hx hb dX2_init_143 rfl (lv_at hl 0 rfl) ?_
      refine lv_bipush (v := 6) hx hb dX2_init_144 (by decide) ?_
      refine lv_icmp_ge (tgt := 164) hx hb dX2_init_146 (by decide) (fun _ => ?_) (fun c_146 => absurd (by decide) c_146)
      have hP := hP.sub (ws' := [(h0, .inr (2, [.int (nI k), .ref q1, .ref q2, .ref q3, .int 0, .int 0, .int 0, .long 0, .int 0, .ref q4, .ref q5, .ref q6, .int 0, .ref q7, .ref q8, .long (-1), .long (-1), .ref q9, .ref q10, .ref q11, .ref q12, .ref q13])), (q1, .inl (g 1, 6, .inr (.inl (fun _ => 0)))), (q2, .inl (g 0, 6, .inl (fun _ => 0))), (q3, .inl (g 0, 6, .inl (upd (upd (upd (upd (upd (upd (fun _ => 0) 0 1000) 1 1000) 2 1000) 3 1000) 4 1000) 5 1000))), (q4, .inl (g 0, 4, .inl (fun _ => 0))), (q5, .inl (g 0, 4, .inl (fun _ => 0))), (q6, .inl (g 0, 400, .inl (fun _ => 0))), (q8, .inl (g 1, 400, .inr (.inl (fun _ => 0)))), (q7, .inl (g 1, 9, .inr (.inl (fun _ => 0)))), (q9, .inl (g 0, 4, .inl (fun _ => 0))), (q10, .inl (g 0, 32, .inl (fun _ => 0))), (q11, .inl (g 0, 32, .inl (fun _ => 0))), (q12, .inl (g 1, 30, .inr (.inl (fun _ => 0)))), (q13, .inl (g 1, 30, .inr (.inl (fun _ => 0))))]) [0, 1, 2, 3, 4, 5, 6, 8, 7, 9, 10, 11, 12, 13] rfl
      have hD := hD.sub (ws' := [(h0, .inr (2, [.int (nI k), .ref q1, .ref q2, .ref q3, .int 0, .int 0, .int 0, .long 0, .int 0, .ref q4, .ref q5, .ref q6, .int 0, .ref q7, .ref q8, .long (-1), .long (-1), .ref q9, .ref q10, .ref q11, .ref q12, .ref q13])), (q1, .inl (g 1, 6, .inr (.inl (fun _ => 0)))), (q2, .inl (g 0, 6, .inl (fun _ => 0))), (q3, .inl (g 0, 6, .inl (upd (upd (upd (upd (upd (upd (fun _ => 0) 0 1000) 1 1000) 2 1000) 3 1000) 4 1000) 5 1000))), (q4, .inl (g 0, 4, .inl (fun _ => 0))), (q5, .inl (g 0, 4, .inl (fun _ => 0))), (q6, .inl (g 0, 400, .inl (fun _ => 0))), (q8, .inl (g 1, 400, .inr (.inl (fun _ => 0)))), (q7, .inl (g 1, 9, .inr (.inl (fun _ => 0)))), (q9, .inl (g 0, 4, .inl (fun _ => 0))), (q10, .inl (g 0, 32, .inl (fun _ => 0))), (q11, .inl (g 0, 32, .inl (fun _ => 0))), (q12, .inl (g 1, 30, .inr (.inl (fun _ => 0)))), (q13, .inl (g 1, 30, .inr (.inl (fun _ => 0))))]) [0, 1, 2, 3, 4, 5, 6, 8, 7, 9, 10, 11, 12, 13] (by decide) rfl
      have hP : va_P D vwCl (wM g (fun i => ([h0, q1, q2, q3, q4, q5, q6, q8, q7, q9, q10, q11, q12, q13] : List Nat).getD i 0) (r_a0 k) m_b0) _ := hP
      have hD : va_D A (wM g (fun i => ([h0, q1, q2, q3, q4, q5, q6, q8, q7, q9, q10, q11, q12, q13] : List Nat).getD i 0) (r_a0 k) m_b0) := hD
      rw [← hkx] at hP hD
      exact hret (fun i => ([h0, q1, q2, q3, q4, q5, q6, q8, q7, q9, q10, q11, q12, q13] : List Nat).getD i 0) _ _ _ _ _ _ rfl hP hD hS (Nat.le_of_ble_eq_true rfl) (Nat.le_of_ble_eq_true rfl) dX2_init_164
    · -- on at 130
      refine lv_iload_n hx hb dX2_init_133 rfl (lv_at hl 1 rfl) ?_
      refine lv_goto (tgt := 138) hx hb dX2_init_134 (by decide) ?_
      obtain ⟨k, hk, hkx, ekx⟩ := m_n_k (m_n_in c_124 c_130)
      refine lv_topi (fun t9_3 et9_3 => ?_)
      obtain rfl : t9_3 = nI k := et9_3.trans ekx
      refine va_putF (D := D) (ci := 2) (v := .int (nI k)) (ty := .int) (C := RX2) (T := TX2) (N := 22) hx hb hts iw_X2 tyX2 tyok_X2 nm_X2 hown hK hP hD hS 0 rfl rfl 0 (by decide) (hts _ kf_X2_59) (fun _ h9 => h9) rfl hnm rfl (by decide +kernel) rfl rfl (Nat.le_of_ble_eq_true rfl) dX2_init_138 (fun H locs hP hD hS => ?_)
      have hP : va_P D vwCl [(h0, .inr (2, [.int (nI k), .ref q1, .ref q2, .ref q3, .int 0, .int 0, .int 0, .long 0, .int 0, .ref q4, .ref q5, .ref q6, .int 0, .ref q7, .ref q8, .long (-1), .long (-1), .ref q9, .ref q10, .ref q11, .ref q12, .ref q13])), (q1, .inl (g 1, 6, .inr (.inl (fun _ => 0)))), (q2, .inl (g 0, 6, .inl (fun _ => 0))), (q3, .inl (g 0, 6, .inl (fun _ => 0))), (q4, .inl (g 0, 4, .inl (fun _ => 0))), (q5, .inl (g 0, 4, .inl (fun _ => 0))), (q6, .inl (g 0, 400, .inl (fun _ => 0))), (q7, .inl (g 1, 9, .inr (.inl (fun _ => 0)))), (q8, .inl (g 1, 400, .inr (.inl (fun _ => 0)))), (q9, .inl (g 0, 4, .inl (fun _ => 0))), (q10, .inl (g 0, 32, .inl (fun _ => 0))), (q11, .inl (g 0, 32, .inl (fun _ => 0))), (q12, .inl (g 1, 30, .inr (.inl (fun _ => 0)))), (q13, .inl (g 1, 30, .inr (.inl (fun _ => 0))))] _ := hP
      have hD : va_D A [(h0, .inr (2, [.int (nI k), .ref q1, .ref q2, .ref q3, .int 0, .int 0, .int 0, .long 0, .int 0, .ref q4, .ref q5, .ref q6, .int 0, .ref q7, .ref q8, .long (-1), .long (-1), .ref q9, .ref q10, .ref q11, .ref q12, .ref q13])), (q1, .inl (g 1, 6, .inr (.inl (fun _ => 0)))), (q2, .inl (g 0, 6, .inl (fun _ => 0))), (q3, .inl (g 0, 6, .inl (fun _ => 0))), (q4, .inl (g 0, 4, .inl (fun _ => 0))), (q5, .inl (g 0, 4, .inl (fun _ => 0))), (q6, .inl (g 0, 400, .inl (fun _ => 0))), (q7, .inl (g 1, 9, .inr (.inl (fun _ => 0)))), (q8, .inl (g 1, 400, .inr (.inl (fun _ => 0)))), (q9, .inl (g 0, 4, .inl (fun _ => 0))), (q10, .inl (g 0, 32, .inl (fun _ => 0))), (q11, .inl (g 0, 32, .inl (fun _ => 0))), (q12, .inl (g 1, 30, .inr (.inl (fun _ => 0)))), (q13, .inl (g 1, 30, .inr (.inl (fun _ => 0))))] := hD
      refine lv_iconst (v := 0) hx hb dX2_init_141 (by decide) ?_
      refine lv_istore_n (lv' := [(2, .int 0), (0, .ref h0), (1, .int x)]) hx hb dX2_init_142 rfl hl (by decide) rfl (fun ls hl => ?_)
      refine lv_iload_n hx hb dX2_init_143 rfl (lv_at hl 0 rfl) ?_
      refine lv_bipush (v := 6) hx hb dX2_init_144 (by decide) ?_
      refine lv_icmp_ge (tgt := 164) hx hb dX2_init_146 (by decide) (fun c_146 => absurd c_146 (by decide)) (fun _ => ?_)
      refine lv_aload_n hx hb dX2_init_149 rfl (lv_at hl 1 rfl) ?_
      refine va_get (D := D) (ci := 2) (v := .ref q3) (C := RX2) (T := TX2) (N := 22) hx hb hts iw_X2 hown hK hP 0 rfl rfl 3 (by decide) (hts _ kf_X2_17) (fun _ h9 => h9) rfl dX2_init_150 ?_
      refine lv_iload_n hx hb dX2_init_153 rfl (lv_at hl 0 rfl) ?_
      refine lv_sipush (v := 1000) hx hb dX2_init_154 (by decide) ?_
      refine za_iast (k := 0) (x := 1000) (f := (fun _ => 0)) hx hb hK hP hD hS 3 0 rfl rfl rfl (by decide) (by decide) dX2_init_157 (fun H locs hP hD hS => ?_)
      have hP : va_P D vwCl [(h0, .inr (2, [.int (nI k), .ref q1, .ref q2, .ref q3, .int 0, .int 0, .int 0, .long 0, .int 0, .ref q4, .ref q5, .ref q6, .int 0, .ref q7, .ref q8, .long (-1), .long (-1), .ref q9, .ref q10, .ref q11, .ref q12, .ref q13])), (q1, .inl (g 1, 6, .inr (.inl (fun _ => 0)))), (q2, .inl (g 0, 6, .inl (fun _ => 0))), (q3, .inl (g 0, 6, .inl (upd (fun _ => 0) 0 1000))), (q4, .inl (g 0, 4, .inl (fun _ => 0))), (q5, .inl (g 0, 4, .inl (fun _ => 0))), (q6, .inl (g 0, 400, .inl (fun _ => 0))), (q7, .inl (g 1, 9, .inr (.inl (fun _ => 0)))), (q8, .inl (g 1, 400, .inr (.inl (fun _ => 0)))), (q9, .inl (g 0, 4, .inl (fun _ => 0))), (q10, .inl (g 0, 32, .inl (fun _ => 0))), (q11, .inl (g 0, 32, .inl (fun _ => 0))), (q12, .inl (g 1, 30, .inr (.inl (fun _ => 0)))), (q13, .inl (g 1, 30, .inr (.inl (fun _ => 0))))] _ := hP
      have hD : va_D A [(h0, .inr (2, [.int (nI k), .ref q1, .ref q2, .ref q3, .int 0, .int 0, .int 0, .long 0, .int 0, .ref q4, .ref q5, .ref q6, .int 0, .ref q7, .ref q8, .long (-1), .long (-1), .ref q9, .ref q10, .ref q11, .ref q12, .ref q13])), (q1, .inl (g 1, 6, .inr (.inl (fun _ => 0)))), (q2, .inl (g 0, 6, .inl (fun _ => 0))), (q3, .inl (g 0, 6, .inl (upd (fun _ => 0) 0 1000))), (q4, .inl (g 0, 4, .inl (fun _ => 0))), (q5, .inl (g 0, 4, .inl (fun _ => 0))), (q6, .inl (g 0, 400, .inl (fun _ => 0))), (q7, .inl (g 1, 9, .inr (.inl (fun _ => 0)))), (q8, .inl (g 1, 400, .inr (.inl (fun _ => 0)))), (q9, .inl (g 0, 4, .inl (fun _ => 0))), (q10, .inl (g 0, 32, .inl (fun _ => 0))), (q11, .inl (g 0, 32, .inl (fun _ => 0))), (q12, .inl (g 1, 30, .inr (.inl (fun _ => 0)))), (q13, .inl (g 1, 30, .inr (.inl (fun _ => 0))))] := hD
      refine lv_iinc (v := 1) (lv' := [(2, .int 1), (0, .ref h0), (1, .int x)]) hx hb dX2_init_158 hl (k := 0) rfl (by decide) (by decide) rfl (fun ls hl => ?_)
      refine lv_goto (tgt := 143) hx hb dX2_init_161 (by decide) ?_
      refine lv_iload_n hx hb dX2_init_143 rfl (lv_at hl 0 rfl) ?_
      refine lv_bipush (v := 6) hx hb dX2_init_144 (by decide) ?_
      refine lv_icmp_ge (tgt := 164) hx hb dX2_init_146 (by decide) (fun c_146 => absurd c_146 (by decide)) (fun _ => ?_)
      refine lv_aload_n hx hb dX2_init_149 rfl (lv_at hl 1 rfl) ?_
      refine va_get (D := D) (ci := 2) (v := .ref q3) (C := RX2) (T := TX2) (N := 22) hx hb hts iw_X2 hown hK hP 0 rfl rfl 3 (by decide) (hts _ kf_X2_17) (fun _ h9 => h9) rfl dX2_init_150 ?_
      refine lv_iload_n hx hb dX2_init_153 rfl (lv_at hl 0 rfl) ?_
      refine lv_sipush (v := 1000) hx hb dX2_init_154 (by decide) ?_
      refine za_iast (k := 1) (x := 1000) (f := (upd (fun _ => 0) 0 1000)) hx hb hK hP hD hS 3 0 rfl rfl rfl (by decide) (by decide) dX2_init_157 (fun H locs hP hD hS => ?_)
      have hP : va_P D vwCl [(h0, .inr (2, [.int (nI k), .ref q1, .ref q2, .ref q3, .int 0, .int 0, .int 0, .long 0, .int 0, .ref q4, .ref q5, .ref q6, .int 0, .ref q7, .ref q8, .long (-1), .long (-1), .ref q9, .ref q10, .ref q11, .ref q12, .ref q13])), (q1, .inl (g 1, 6, .inr (.inl (fun _ => 0)))), (q2, .inl (g 0, 6, .inl (fun _ => 0))), (q3, .inl (g 0, 6, .inl (upd (upd (fun _ => 0) 0 1000) 1 1000))), (q4, .inl (g 0, 4, .inl (fun _ => 0))), (q5, .inl (g 0, 4, .inl (fun _ => 0))), (q6, .inl (g 0, 400, .inl (fun _ => 0))), (q7, .inl (g 1, 9, .inr (.inl (fun _ => 0)))), (q8, .inl (g 1, 400, .inr (.inl (fun _ => 0)))), (q9, .inl (g 0, 4, .inl (fun _ => 0))), (q10, .inl (g 0, 32, .inl (fun _ => 0))), (q11, .inl (g 0, 32, .inl (fun _ => 0))), (q12, .inl (g 1, 30, .inr (.inl (fun _ => 0)))), (q13, .inl (g 1, 30, .inr (.inl (fun _ => 0))))] _ := hP
      have hD : va_D A [(h0, .inr (2, [.int (nI k), .ref q1, .ref q2, .ref q3, .int 0, .int 0, .int 0, .long 0, .int 0, .ref q4, .ref q5, .ref q6, .int 0, .ref q7, .ref q8, .long (-1), .long (-1), .ref q9, .ref q10, .ref q11, .ref q12, .ref q13])), (q1, .inl (g 1, 6, .inr (.inl (fun _ => 0)))), (q2, .inl (g 0, 6, .inl (fun _ => 0))), (q3, .inl (g 0, 6, .inl (upd (upd (fun _ => 0) 0 1000) 1 1000))), (q4, .inl (g 0, 4, .inl (fun _ => 0))), (q5, .inl (g 0, 4, .inl (fun _ => 0))), (q6, .inl (g 0, 400, .inl (fun _ => 0))), (q7, .inl (g 1, 9, .inr (.inl (fun _ => 0)))), (q8, .inl (g 1, 400, .inr (.inl (fun _ => 0)))), (q9, .inl (g 0, 4, .inl (fun _ => 0))), (q10, .inl (g 0, 32, .inl (fun _ => 0))), (q11, .inl (g 0, 32, .inl (fun _ => 0))), (q12, .inl (g 1, 30, .inr (.inl (fun _ => 0)))), (q13, .inl (g 1, 30, .inr (.inl (fun _ => 0))))] := hD
      refine lv_iinc (v := 2) (lv' := [(2, .int 2), (0, .ref h0), (1, .int x)]) hx hb dX2_init_158 hl (k := 0) rfl (by decide) (by decide) rfl (fun ls hl => ?_)
      refine lv_goto (tgt := 143) hx hb dX2_init_161 (by decide) ?_
      refine lv_iload_n hx hb dX2_init_143 rfl (lv_at hl 0 rfl) ?_
      refine lv_bipush (v := 6) hx hb dX2_init_144 (by decide) ?_
      refine lv_icmp_ge (tgt := 164) hx hb dX2_init_146 (by decide) (fun c_146 => absurd c_146 (by decide)) (fun _ => ?_)
      refine lv_aload_n hx hb dX2_init_149 rfl (lv_at hl 1 rfl) ?_
      refine va_get (D := D) (ci := 2) (v := .ref q3) (C := RX2) (T := TX2) (N := 22) hx hb hts iw_X2 hown hK hP 0 rfl rfl 3 (by decide) (hts _ kf_X2_17) (fun _ h9 => h9) rfl dX2_init_150 ?_
      refine lv_iload_n hx hb dX2_init_153 rfl (lv_at hl 0 rfl) ?_
      refine lv_sipush (v := 1000) hx hb dX2_init_154 (by decide) ?_
      refine za_iast (k := 2) (x := 1000) (f := (upd (upd (fun _ => 0) 0 1000) 1 1000)) hx hb hK hP hD hS 3 0 rfl rfl rfl (by decide) (by decide) dX2_init_157 (fun H locs hP hD hS => ?_)
      have hP : va_P D vwCl [(h0, .inr (2, [.int (nI k), .ref q1, .ref q2, .ref q3, .int 0, .int 0, .int 0, .long 0, .int 0, .ref q4, .ref q5, .ref q6, .int 0, .ref q7, .ref q8, .long (-1), .long (-1), .ref q9, .ref q10, .ref q11, .ref q12, .ref q13])), (q1, .inl (g 1, 6, .inr (.inl (fun _ => 0)))), (q2, .inl (g 0, 6, .inl (fun _ => 0))), (q3, .inl (g 0, 6, .inl (upd (upd (upd (fun _ => 0) 0 1000) 1 1000) 2 1000))), (q4, .inl (g 0, 4, .inl (fun _ => 0))), (q5, .inl (g 0, 4, .inl (fun _ => 0))), (q6, .inl (g 0, 400, .inl (fun _ => 0))), (q7, .inl (g 1, 9, .inr (.inl (fun _ => 0)))), (q8, .inl (g 1, 400, .inr (.inl (fun _ => 0)))), (q9, .inl (g 0, 4, .inl (fun _ => 0))), (q10, .inl (g 0, 32, .inl (fun _ => 0))), (q11, .inl (g 0, 32, .inl (fun _ => 0))), (q12, .inl (g 1, 30, .inr (.inl (fun _ => 0)))), (q13, .inl (g 1, 30, .inr (.inl (fun _ => 0))))] _ := hP
      have hD : va_D A [(h0, .inr (2, [.int (nI k), .ref q1, .ref q2, .ref q3, .int 0, .int 0, .int 0, .long 0, .int 0, .ref q4, .ref q5, .ref q6, .int 0, .ref q7, .ref q8, .long (-1), .long (-1), .ref q9, .ref q10, .ref q11, .ref q12, .ref q13])), (q1, .inl (g 1, 6, .inr (.inl (fun _ => 0)))), (q2, .inl (g 0, 6, .inl (fun _ => 0))), (q3, .inl (g 0, 6, .inl (upd (upd (upd (fun _ => 0) 0 1000) 1 1000) 2 1000))), (q4, .inl (g 0, 4, .inl (fun _ => 0))), (q5, .inl (g 0, 4, .inl (fun _ => 0))), (q6, .inl (g 0, 400, .inl (fun _ => 0))), (q7, .inl (g 1, 9, .inr (.inl (fun _ => 0)))), (q8, .inl (g 1, 400, .inr (.inl (fun _ => 0)))), (q9, .inl (g 0, 4, .inl (fun _ => 0))), (q10, .inl (g 0, 32, .inl (fun _ => 0))), (q11, .inl (g 0, 32, .inl (fun _ => 0))), (q12, .inl (g 1, 30, .inr (.inl (fun _ => 0)))), (q13, .inl (g 1, 30, .inr (.inl (fun _ => 0))))] := hD
      refine lv_iinc (v := 3) (lv' := [(2, .int 3), (0, .ref h0), (1, .int x)]) hx hb dX2_init_158 hl (k := 0) rfl (by decide) (by decide) rfl (fun ls hl => ?_)
      refine lv_goto (tgt := 143) hx hb dX2_init_161 (by decide) ?_
      refine lv_iload_n hx hb dX2_init_143 rfl (lv_at hl 0 rfl) ?_
      refine lv_bipush (v := 6) hx hb dX2_init_144 (by decide) ?_
      refine lv_icmp_ge (tgt := 164) hx hb dX2_init_146 (by decide) (fun c_146 => absurd c_146 (by decide)) (fun _ => ?_)
      refine lv_aload_n hx hb dX2_init_149 rfl (lv_at hl 1 rfl) ?_
      refine va_get (D := D) (ci := 2) (v := .ref q3) (C := RX2) (T := TX2) (N := 22) hx hb hts iw_X2 hown hK hP 0 rfl rfl 3 (by decide) (hts _ kf_X2_17) (fun _ h9 => h9) rfl dX2_init_150 ?_
      refine lv_iload_n hx hb dX2_init_153 rfl (lv_at hl 0 rfl) ?_
      refine lv_sipush (v := 1000) hx hb dX2_init_154 (by decide) ?_
      refine za_iast (k := 3) (x := 1000) (f := (upd (upd (upd (fun _ => 0) 0 1000) 1 1000) 2 1000)) hx hb hK hP hD hS 3 0 rfl rfl rfl (by decide) (by decide) dX2_init_157 (fun H locs hP hD hS => ?_)
      have hP : va_P D vwCl [(h0, .inr (2, [.int (nI k), .ref q1, .ref q2, .ref q3, .int 0, .int 0, .int 0, .long 0, .int 0, .ref q4, .ref q5, .ref q6, .int 0, .ref q7, .ref q8, .long (-1), .long (-1), .ref q9, .ref q10, .ref q11, .ref q12, .ref q13])), (q1, .inl (g 1, 6, .inr (.inl (fun _ => 0)))), (q2, .inl (g 0, 6, .inl (fun _ => 0))), (q3, .inl (g 0, 6, .inl (upd (upd (upd (upd (fun _ => 0) 0 1000) 1 1000) 2 1000) 3 1000))), (q4, .inl (g 0, 4, .inl (fun _ => 0))), (q5, .inl (g 0, 4, .inl (fun _ => 0))), (q6, .inl (g 0, 400, .inl (fun _ => 0))), (q7, .inl (g 1, 9, .inr (.inl (fun _ => 0)))), (q8, .inl (g 1, 400, .inr (.inl (fun _ => 0)))), (q9, .inl (g 0, 4, .inl (fun _ => 0))), (q10, .inl (g 0, 32, .inl (fun _ => 0))), (q11, .inl (g 0, 32, .inl (fun _ => 0))), (q12, .inl (g 1, 30, .inr (.inl (fun _ => 0)))), (q13, .inl (g 1, 30, .inr (.inl (fun _ => 0))))] _ := hP
      have hD : va_D A [(h0, .inr (2, [.int (nI k), .ref q1, .ref q2, .ref q3, .int 0, .int 0, .int 0, .long 0, .int 0, .ref q4, .ref q5, .ref q6, .int 0, .ref q7, .ref q8, .long (-1), .long (-1), .ref q9, .ref q10, .ref q11, .ref q12, .ref q13])), (q1, .inl (g 1, 6, .inr (.inl (fun _ => 0)))), (q2, .inl (g 0, 6, .inl (fun _ => 0))), (q3, .inl (g 0, 6, .inl (upd (upd (upd (upd (fun _ => 0) 0 1000) 1 1000) 2 1000) 3 1000))), (q4, .inl (g 0, 4, .inl (fun _ => 0))), (q5, .inl (g 0, 4, .inl (fun _ => 0))), (q6, .inl (g 0, 400, .inl (fun _ => 0))), (q7, .inl (g 1, 9, .inr (.inl (fun _ => 0)))), (q8, .inl (g 1, 400, .inr (.inl (fun _ => 0)))), (q9, .inl (g 0, 4, .inl (fun _ => 0))), (q10, .inl (g 0, 32, .inl (fun _ => 0))), (q11, .inl (g 0, 32, .inl (fun _ => 0))), (q12, .inl (g 1, 30, .inr (.inl (fun _ => 0)))), (q13, .inl (g 1, 30, .inr (.inl (fun _ => 0))))] := hD
      refine lv_iinc (v := 4) (lv' := [(2, .int 4), (0, .ref h0), (1, .int x)]) hx hb dX2_init_158 hl (k := 0) rfl (by decide) (by decide) rfl (fun ls hl => ?_)
      refine lv_goto (tgt := 143) hx hb dX2_init_161 (by decide) ?_
      refine lv_iload_n hx hb dX2_init_143 rfl (lv_at hl 0 rfl) ?_
      refine lv_bipush (v := 6) hx hb dX2_init_144 (by decide) ?_
      refine lv_icmp_ge (tgt := 164) hx hb dX2_init_146 (by decide) (fun c_146 => absurd c_146 (by decide)) (fun _ => ?_)
      refine lv_aload_n hx hb dX2_init_149 rfl (lv_at hl 1 rfl) ?_
      refine va_get (D := D) (ci := 2) (v := .ref q3) (C := RX2) (T := TX2) (N := 22) hx hb hts iw_X2 hown hK hP 0 rfl rfl 3 (by decide) (hts _ kf_X2_17) (fun _ h9 => h9) rfl dX2_init_150 ?_
      refine lv_iload_n hx hb dX2_init_153 rfl (lv_at hl 0 rfl) ?_
      refine lv_sipush (v := 1000) hx hb dX2_init_154 (by decide) ?_
      refine za_iast (k := 4) (x := 1000) (f := (upd (upd (upd (upd (fun _ => 0) 0 1000) 1 1000) 2 1000) 3 1000)) hx hb hK hP hD hS 3 0 rfl rfl rfl (by decide) (by decide) dX2_init_157 (fun H locs hP hD hS => ?_)
      have hP : va_P D vwCl [(h0, .inr (2, [.int (nI k), .ref q1, .ref q2, .ref q3, .int 0, .int 0, .int 0, .long 0, .int 0, .ref q4, .ref q5, .ref q6, .int 0, .ref q7, .ref q8, .long (-1), .long (-1), .ref q9, .ref q10, .ref q11, .ref q12, .ref q13])), (q1, .inl (g 1, 6, .inr (.inl (fun _ => 0)))), (q2, .inl (g 0, 6, .inl (fun _ => 0))), (q3, .inl (g 0, 6, .inl (upd (upd (upd (upd (upd (fun _ => 0) 0 1000) 1 1000) 2 1000) 3 1000) 4 1000))), (q4, .inl (g 0, 4, .inl (fun _ => 0))), (q5, .inl (g 0, 4, .inl (fun _ => 0))), (q6, .inl (g 0, 400, .inl (fun _ => 0))), (q7, .inl (g 1, 9, .inr (.inl (fun _ => 0)))), (q8, .inl (g 1, 400, .inr (.inl (fun _ => 0)))), (q9, .inl (g 0, 4, .inl (fun _ => 0))), (q10, .inl (g 0, 32, .inl (fun _ => 0))), (q11, .inl (g 0, 32, .inl (fun _ => 0))), (q12, .inl (g 1, 30, .inr (.inl (fun _ => 0)))), (q13, .inl (g 1, 30, .inr (.inl (fun _ => 0))))] _ := hP
      have hD : va_D A [(h0, .inr (2, [.int (nI k), .ref q1, .ref q2, .ref q3, .int 0, .int 0, .int 0, .long 0, .int 0, .ref q4, .ref q5, .ref q6, .int 0, .ref q7, .ref q8, .long (-1), .long (-1), .ref q9, .ref q10, .ref q11, .ref q12, .ref q13])), (q1, .inl (g 1, 6, .inr (.inl (fun _ => 0)))), (q2, .inl (g 0, 6, .inl (fun _ => 0))), (q3, .inl (g 0, 6, .inl (upd (upd (upd (upd (upd (fun _ => 0) 0 1000) 1 1000) 2 1000) 3 1000) 4 1000))), (q4, .inl (g 0, 4, .inl (fun _ => 0))), (q5, .inl (g 0, 4, .inl (fun _ => 0))), (q6, .inl (g 0, 400, .inl (fun _ => 0))), (q7, .inl (g 1, 9, .inr (.inl (fun _ => 0)))), (q8, .inl (g 1, 400, .inr (.inl (fun _ => 0)))), (q9, .inl (g 0, 4, .inl (fun _ => 0))), (q10, .inl (g 0, 32, .inl (fun _ => 0))), (q11, .inl (g 0, 32, .inl (fun _ => 0))), (q12, .inl (g 1, 30, .inr (.inl (fun _ => 0)))), (q13, .inl (g 1, 30, .inr (.inl (fun _ => 0))))] := hD
      refine lv_iinc (v := 5) (lv' := [(2, .int 5), (0, .ref h0), (1, .int x)]) hx hb dX2_init_158 hl (k := 0) rfl (by decide) (by decide) rfl (fun ls hl => ?_)
      refine lv_goto (tgt := 143) hx hb dX2_init_161 (by decide) ?_
      refine lv_iload_n hx hb dX2_init_143 rfl (lv_at hl 0 rfl) ?_
      refine lv_bipush (v := 6) hx hb dX2_init_144 (by decide) ?_
      refine lv_icmp_ge (tgt := 164) hx hb dX2_init_146 (by decide) (fun c_146 => absurd c_146 (by decide)) (fun _ => ?_)
      refine lv_aload_n hx hb dX2_init_149 rfl (lv_at hl 1 rfl) ?_
      refine va_get (D := D) (ci := 2) (v := .ref q3) (C := RX2) (T := TX2) (N := 22) hx hb hts iw_X2 hown hK hP 0 rfl rfl 3 (by decide) (hts _ kf_X2_17) (fun _ h9 => h9) rfl dX2_init_150 ?_
      refine lv_iload_n hx hb dX2_init_153 rfl (lv_at hl 0 rfl) ?_
      refine lv_sipush (v := 1000) hx hb dX2_init_154 (by decide) ?_
      refine za_iast (k := 5) (x := 1000) (f := (upd (upd (upd (upd (upd (fun _ => 0) 0 1000) 1 1000) 2 1000) 3 1000) 4 1000)) hx hb hK hP hD hS 3 0 rfl rfl rfl (by decide) (by decide) dX2_init_157 (fun H locs hP hD hS => ?_)
      have hP : va_P D vwCl [(h0, .inr (2, [.int (nI k), .ref q1, .ref q2, .ref q3, .int 0, .int 0, .int 0, .long 0, .int 0, .ref q4, .ref q5, .ref q6, .int 0, .ref q7, .ref q8, .long (-1), .long (-1), .ref q9, .ref q10, .ref q11, .ref q12, .ref q13])), (q1, .inl (g 1, 6, .inr (.inl (fun _ => 0)))), (q2, .inl (g 0, 6, .inl (fun _ => 0))), (q3, .inl (g 0, 6, .inl (upd (upd (upd (upd (upd (upd (fun _ => 0) 0 1000) 1 1000) 2 1000) 3 1000) 4 1000) 5 1000))), (q4, .inl (g 0, 4, .inl (fun _ => 0))), (q5, .inl (g 0, 4, .inl (fun _ => 0))), (q6, .inl (g 0, 400, .inl (fun _ => 0))), (q7, .inl (g 1, 9, .inr (.inl (fun _ => 0)))), (q8, .inl (g 1, 400, .inr (.inl (fun _ => 0)))), (q9, .inl (g 0, 4, .inl (fun _ => 0))), (q10, .inl (g 0, 32, .inl (fun _ => 0))), (q11, .inl (g 0, 32, .inl (fun _ => 0))), (q12, .inl (g 1, 30, .inr (.inl (fun _ => 0)))), (q13, .inl (g 1, 30, .inr (.inl (fun _ => 0))))] _ := hP
      have hD : va_D A [(h0, .inr (2, [.int (nI k), .ref q1, .ref q2, .ref q3, .int 0, .int 0, .int 0, .long 0, .int 0, .ref q4, .ref q5, .ref q6, .int 0, .ref q7, .ref q8, .long (-1), .long (-1), .ref q9, .ref q10, .ref q11, .ref q12, .ref q13])), (q1, .inl (g 1, 6, .inr (.inl (fun _ => 0)))), (q2, .inl (g 0, 6, .inl (fun _ => 0))), (q3, .inl (g 0, 6, .inl (upd (upd (upd (upd (upd (upd (fun _ => 0) 0 1000) 1 1000) 2 1000) 3 1000) 4 1000) 5 1000))), (q4, .inl (g 0, 4, .inl (fun _ => 0))), (q5, .inl (g 0, 4, .inl (fun _ => 0))), (q6, .inl (g 0, 400, .inl (fun _ => 0))), (q7, .inl (g 1, 9, .inr (.inl (fun _ => 0)))), (q8, .inl (g 1, 400, .inr (.inl (fun _ => 0)))), (q9, .inl (g 0, 4, .inl (fun _ => 0))), (q10, .inl (g 0, 32, .inl (fun _ => 0))), (q11, .inl (g 0, 32, .inl (fun _ => 0))), (q12, .inl (g 1, 30, .inr (.inl (fun _ => 0)))), (q13, .inl (g 1, 30, .inr (.inl (fun _ => 0))))] := hD
      refine lv_iinc (v := 6) (lv' := [(2, .int 6), (0, .ref h0), (1, .int x)]) hx hb dX2_init_158 hl (k := 0) rfl (by decide) (by decide) rfl (fun ls hl => ?_)
      refine lv_goto (tgt := 143) hx hb dX2_init_161 (by decide) ?_
      refine lv_iload_n hx hb dX2_init_143 rfl (lv_at hl 0 rfl) ?_
      refine lv_bipush (v := 6) hx hb dX2_init_144 (by decide) ?_
      refine lv_icmp_ge (tgt := 164) hx hb dX2_init_146 (by decide) (fun _ => ?_) (fun c_146 => absurd (by decide) c_146)
      have hP := hP.sub (ws' := [(h0, .inr (2, [.int (nI k), .ref q1, .ref q2, .ref q3, .int 0, .int 0, .int 0, .long 0, .int 0, .ref q4, .ref q5, .ref q6, .int 0, .ref q7, .ref q8, .long (-1), .long (-1), .ref q9, .ref q10, .ref q11, .ref q12, .ref q13])), (q1, .inl (g 1, 6, .inr (.inl (fun _ => 0)))), (q2, .inl (g 0, 6, .inl (fun _ => 0))), (q3, .inl (g 0, 6, .inl (upd (upd (upd (upd (upd (upd (fun _ => 0) 0 1000) 1 1000) 2 1000) 3 1000) 4 1000) 5 1000))), (q4, .inl (g 0, 4, .inl (fun _ => 0))), (q5, .inl (g 0, 4, .inl (fun _ => 0))), (q6, .inl (g 0, 400, .inl (fun _ => 0))), (q8, .inl (g 1, 400, .inr (.inl (fun _ => 0)))), (q7, .inl (g 1, 9, .inr (.inl (fun _ => 0)))), (q9, .inl (g 0, 4, .inl (fun _ => 0))), (q10, .inl (g 0, 32, .inl (fun _ => 0))), (q11, .inl (g 0, 32, .inl (fun _ => 0))), (q12, .inl (g 1, 30, .inr (.inl (fun _ => 0)))), (q13, .inl (g 1, 30, .inr (.inl (fun _ => 0))))]) [0, 1, 2, 3, 4, 5, 6, 8, 7, 9, 10, 11, 12, 13] rfl
      have hD := hD.sub (ws' := [(h0, .inr (2, [.int (nI k), .ref q1, .ref q2, .ref q3, .int 0, .int 0, .int 0, .long 0, .int 0, .ref q4, .ref q5, .ref q6, .int 0, .ref q7, .ref q8, .long (-1), .long (-1), .ref q9, .ref q10, .ref q11, .ref q12, .ref q13])), (q1, .inl (g 1, 6, .inr (.inl (fun _ => 0)))), (q2, .inl (g 0, 6, .inl (fun _ => 0))), (q3, .inl (g 0, 6, .inl (upd (upd (upd (upd (upd (upd (fun _ => 0) 0 1000) 1 1000) 2 1000) 3 1000) 4 1000) 5 1000))), (q4, .inl (g 0, 4, .inl (fun _ => 0))), (q5, .inl (g 0, 4, .inl (fun _ => 0))), (q6, .inl (g 0, 400, .inl (fun _ => 0))), (q8, .inl (g 1, 400, .inr (.inl (fun _ => 0)))), (q7, .inl (g 1, 9, .inr (.inl (fun _ => 0)))), (q9, .inl (g 0, 4, .inl (fun _ => 0))), (q10, .inl (g 0, 32, .inl (fun _ => 0))), (q11, .inl (g 0, 32, .inl (fun _ => 0))), (q12, .inl (g 1, 30, .inr (.inl (fun _ => 0)))), (q13, .inl (g 1, 30, .inr (.inl (fun _ => 0))))]) [0, 1, 2, 3, 4, 5, 6, 8, 7, 9, 10, 11, 12, 13] (by decide) rfl
      have hP : va_P D vwCl (wM g (fun i => ([h0, q1, q2, q3, q4, q5, q6, q8, q7, q9, q10, q11, q12, q13] : List Nat).getD i 0) (r_a0 k) m_b0) _ := hP
      have hD : va_D A (wM g (fun i => ([h0, q1, q2, q3, q4, q5, q6, q8, q7, q9, q10, q11, q12, q13] : List Nat).getD i 0) (r_a0 k) m_b0) := hD
      rw [← hkx] at hP hD
      exact hret (fun i => ([h0, q1, q2, q3, q4, q5, q6, q8, q7, q9, q10, q11, q12, q13] : List Nat).getD i 0) _ _ _ _ _ _ rfl hP hD hS (Nat.le_of_ble_eq_true rfl) (Nat.le_of_ble_eq_true rfl) dX2_init_164
