def rm_M_isIn : Room := { frames := 0, cells := 0, slots := 0, locals := 0 }
set_option maxHeartbeats 4000000 in
set_option maxRecDepth 100000 in
theorem c_M_isIn (l : Launch) (D : va_G) (tys : List (ClassId × FieldType)) (v lo hi : Int64) : zc_i l D tys yX2_isIn cX2_isIn 6 (some .boolean) rm_M_isIn [.long v, .long lo, .long hi] ([]) (fun (r : Int32) (u : Unit) => r = zb (m_within v lo hi)) (fun _ => []) 0 0 := by
  refine zi_of (by decide) (Nat.le_of_ble_eq_true rfl) rfl ?_
  intro p e s m args below meth cd_ A Q ls C0 hnm hP hD hS hl hret
  obtain ⟨hx, hb, hr, hml, hlocks, hown, hts, hK, hA, hN⟩ := id C0
  have hl : lv_has ls 6 [(0, .long v), (2, .long lo), (4, .long hi)] := hl
  refine lv_lload_n hx hb dX2_isIn_0 rfl (lv_at hl 0 rfl) ?_
  refine lv_lload_n hx hb dX2_isIn_1 rfl (lv_at hl 1 rfl) ?_
  refine zl_lt (tgt := 17) hx hb dX2_isIn_2 dX2_isIn_3 (by decide) (fun c_2 => ?_) (fun c_2 => ?_)
  · -- jump at 2
    refine lv_iconst (v := 0) hx hb dX2_isIn_17 (by decide) ?_
    exact hret 0 () _ _ _ _ _ _ rfl (by first | exact m_w1 c_2 c_9 | exact m_w2 c_2 | exact m_w3 c_9) hP hD hS (Nat.le_of_ble_eq_true rfl) (Nat.le_of_ble_eq_true rfl) dX2_isIn_18
  · -- on at 2
    refine lv_lload_n hx hb dX2_isIn_6 rfl (lv_at hl 0 rfl) ?_
    refine lv_lload hx hb dX2_isIn_7 (lv_at hl 2 rfl) ?_
    refine zl_gt (tgt := 17) hx hb dX2_isIn_9 dX2_isIn_10 (by decide) (fun c_9 => ?_) (fun c_9 => ?_)
    · -- jump at 9
      refine lv_iconst (v := 0) hx hb dX2_isIn_17 (by decide) ?_
      exact hret 0 () _ _ _ _ _ _ rfl (by first | exact m_w1 c_2 c_9 | exact m_w2 c_2 | exact m_w3 c_9) hP hD hS (Nat.le_of_ble_eq_true rfl) (Nat.le_of_ble_eq_true rfl) dX2_isIn_18
    · -- on at 9
      refine lv_iconst (v := 1) hx hb dX2_isIn_13 (by decide) ?_
      refine lv_goto (tgt := 18) hx hb dX2_isIn_14 (by decide) ?_
      exact hret 1 () _ _ _ _ _ _ rfl (by first | exact m_w1 c_2 c_9 | exact m_w2 c_2 | exact m_w3 c_9) hP hD hS (Nat.le_of_ble_eq_true rfl) (Nat.le_of_ble_eq_true rfl) dX2_isIn_18
def rm_M_isParts : Room := { frames := 0, cells := 0, slots := 0, locals := 0 }
set_option maxHeartbeats 4000000 in
set_option maxRecDepth 100000 in
theorem c_M_isParts (l : Launch) (D : va_G) (tys : List (ClassId × FieldType)) (x : Int32) : zc_i l D tys yX2_isParts cX2_isParts 1 (some .boolean) rm_M_isParts [.int x] ([]) (fun (r : Int32) (u : Unit) => r = zb (m_parts x)) (fun _ => []) 0 0 := by
  refine zi_of (by decide) (Nat.le_of_ble_eq_true rfl) rfl ?_
  intro p e s m args below meth cd_ A Q ls C0 hnm hP hD hS hl hret
  obtain ⟨hx, hb, hr, hml, hlocks, hown, hts, hK, hA, hN⟩ := id C0
  have hl : lv_has ls 1 [(0, .int x)] := hl
  refine lv_iload_n hx hb dX2_isParts_0 rfl (lv_at hl 0 rfl) ?_
  refine lv_if_lt (tgt := 15) hx hb dX2_isParts_1 (by decide) (fun c_1 => ?_) (fun c_1 => ?_)
  · -- jump at 1
    refine lv_iconst (v := 0) hx hb dX2_isParts_15 (by decide) ?_
    exact hret 0 () _ _ _ _ _ _ rfl (by first | exact m_p3 c_1 c_8 | exact m_p1 c_1 | exact m_p2 c_8) hP hD hS (Nat.le_of_ble_eq_true rfl) (Nat.le_of_ble_eq_true rfl) dX2_isParts_16
  · -- on at 1
    refine lv_iload_n hx hb dX2_isParts_4 rfl (lv_at hl 0 rfl) ?_
    refine lv_sipush (v := 1000) hx hb dX2_isParts_5 (by decide) ?_
    refine lv_icmp_gt (tgt := 15) hx hb dX2_isParts_8 (by decide) (fun c_8 => ?_) (fun c_8 => ?_)
    · -- jump at 8
      refine lv_iconst (v := 0) hx hb dX2_isParts_15 (by decide) ?_
      exact hret 0 () _ _ _ _ _ _ rfl (by first | exact m_p3 c_1 c_8 | exact m_p1 c_1 | exact m_p2 c_8) hP hD hS (Nat.le_of_ble_eq_true rfl) (Nat.le_of_ble_eq_true rfl) dX2_isParts_16
    · -- on at 8
      refine lv_iconst (v := 1) hx hb dX2_isParts_11 (by decide) ?_
      refine lv_goto (tgt := 16) hx hb dX2_isParts_12 (by decide) ?_
      exact hret 1 () _ _ _ _ _ _ rfl (by first | exact m_p3 c_1 c_8 | exact m_p1 c_1 | exact m_p2 c_8) hP hD hS (Nat.le_of_ble_eq_true rfl) (Nat.le_of_ble_eq_true rfl) dX2_isParts_16
def rm_M_isWell : Room := { frames := 0, cells := 0, slots := 0, locals := 0 }
set_option maxHeartbeats 4000000 in
set_option maxRecDepth 100000 in
theorem c_M_isWell (l : Launch) (D : va_G) (tys : List (ClassId × FieldType)) (x : Int32) : zc_i l D tys yX2_isWell cX2_isWell 1 (some .boolean) rm_M_isWell [.int x] ([]) (fun (r : Int32) (u : Unit) => r = zb (m_isWell x)) (fun _ => []) 0 0 := by
  refine zi_of (by decide) (Nat.le_of_ble_eq_true rfl) rfl ?_
  intro p e s m args below meth cd_ A Q ls C0 hnm hP hD hS hl hret
  obtain ⟨hx, hb, hr, hml, hlocks, hown, hts, hK, hA, hN⟩ := id C0
  have hl : lv_has ls 1 [(0, .int x)] := hl
  refine lv_iload_n hx hb dX2_isWell_0 rfl (lv_at hl 0 rfl) ?_
  refine lv_if_lt (tgt := 13) hx hb dX2_isWell_1 (by decide) (fun c_1 => ?_) (fun c_1 => ?_)
  · -- jump at 1
    refine lv_iconst (v := 0) hx hb dX2_isWell_13 (by decide) ?_
    exact hret 0 () _ _ _ _ _ _ rfl (by first | exact m_q3 c_1 c_6 | exact m_q1 c_1 | exact m_q2 c_6) hP hD hS (Nat.le_of_ble_eq_true rfl) (Nat.le_of_ble_eq_true rfl) dX2_isWell_14
  · -- on at 1
    refine lv_iload_n hx hb dX2_isWell_4 rfl (lv_at hl 0 rfl) ?_
    refine lv_iconst (v := 4) hx hb dX2_isWell_5 (by decide) ?_
    refine lv_icmp_ge (tgt := 13) hx hb dX2_isWell_6 (by decide) (fun c_6 => ?_) (fun c_6 => ?_)
    · -- jump at 6
      refine lv_iconst (v := 0) hx hb dX2_isWell_13 (by decide) ?_
      exact hret 0 () _ _ _ _ _ _ rfl (by first | exact m_q3 c_1 c_6 | exact m_q1 c_1 | exact m_q2 c_6) hP hD hS (Nat.le_of_ble_eq_true rfl) (Nat.le_of_ble_eq_true rfl) dX2_isWell_14
    · -- on at 6
      refine lv_iconst (v := 1) hx hb dX2_isWell_9 (by decide) ?_
      refine lv_goto (tgt := 14) hx hb dX2_isWell_10 (by decide) ?_
      exact hret 1 () _ _ _ _ _ _ rfl (by first | exact m_q3 c_1 c_6 | exact m_q1 c_1 | exact m_q2 c_6) hP hD hS (Nat.le_of_ble_eq_true rfl) (Nat.le_of_ble_eq_true rfl) dX2_isWell_14
def rm_M_partsOf : Room := { frames := 0, cells := 0, slots := 0, locals := 0 }
set_option maxHeartbeats 4000000 in
set_option maxRecDepth 100000 in
theorem c_M_partsOf (l : Launch) (D : va_G) (tys : List (ClassId × FieldType)) (v : Int64) (x : Int32) : zc_l l D tys yX2_partsOf cX2_partsOf 3 (some .long) rm_M_partsOf [.long v, .int x] ([]) (fun (r : Int64) (u : Unit) => r = m_of x v) (fun _ => []) 0 0 := by
  refine zl_of (by decide) (Nat.le_of_ble_eq_true rfl) rfl ?_
  intro p e s m args below meth cd_ A Q ls C0 hnm hP hD hS hl hret
  obtain ⟨hx, hb, hr, hml, hlocks, hown, hts, hK, hA, hN⟩ := id C0
  have hl : lv_has ls 3 [(0, .long v), (2, .int x)] := hl
  refine lv_lload_n hx hb dX2_partsOf_0 rfl (lv_at hl 0 rfl) ?_
  refine lv_iload_n hx hb dX2_partsOf_1 rfl (lv_at hl 1 rfl) ?_
  refine lv_i2l (v := x.toInt64) hx hb dX2_partsOf_2 rfl ?_
  refine lv_lmul hx hb dX2_partsOf_3 ?_
  refine lv_ldc2 (v := 1000) hx hb hown (hts _ kc_X2_101) dX2_partsOf_4 ?_
  refine lv_ldiv hx hb dX2_partsOf_7 (by decide) ?_
  exact hret ((v * x.toInt64) / 1000) () _ _ _ _ _ _ rfl hP hD hS (Nat.le_of_ble_eq_true rfl) (Nat.le_of_ble_eq_true rfl) dX2_partsOf_8
def rm_M_layer : Room := { frames := 1, cells := 0, slots := 0, locals := 25 }
set_option maxHeartbeats 4000000 in
set_option maxRecDepth 100000 in
theorem c_M_layer (l : Launch) (D : va_G) (g : Nat → ClassId) (q : Nat → Nat) (a : Nat → Nat → Int32) (b : Nat → Nat → Int64) (n : Nat) (hn : 1 ≤ n ∧ n ≤ 6) (hly : a 0 5 = nI n) (x y z : Int32) : zc_i l D (tyG g) yX2_layer cX2_layer 4 (some .boolean) rm_M_layer [.ref (q 0), .int x, .int y, .int z] (wM g q a b) (fun (r : Int32) (u : zT) => r = zb (m_isLayer n x && m_within y.toInt64 0 1000000 && m_parts z) ∧ u = if (m_isLayer n x && m_within y.toInt64 0 1000000 && m_parts z) = true then (va_up (va_up a 2 (upd (a 2) x.toNatClampNeg y)) 3 (upd (a 3) x.toNatClampNeg z), b) else (a, b)) (fun u => wM g q u.1 u.2) 0 0 := by
  refine zi_of (by decide) (Nat.le_of_ble_eq_true rfl) rfl ?_
  intro p e s m args below meth cd_ A Q ls C0 hnm hP hD hS hl hret
  obtain ⟨hx, hb, hr, hml, hlocks, hown, hts, hK, hA, hN⟩ := id C0
  have hl : lv_has ls 4 [(0, .ref (q 0)), (1, .int x), (2, .int y), (3, .int z)] := hl
  refine lv_iload_n hx hb dX2_layer_0 rfl (lv_at hl 1 rfl) ?_
  refine lv_i2l (v := x.toInt64) hx hb dX2_layer_1 rfl ?_
  refine lv_lconst (v := 0) hx hb dX2_layer_2 (by decide) ?_
  refine lv_aload_n hx hb dX2_layer_3 rfl (lv_at hl 0 rfl) ?_
  refine va_get (D := D) (ci := 2) (v := .int (a 0 5)) (C := RX2) (T := TX2) (N := 22) hx hb hts iw_X2 hown hK hP 0 rfl rfl 0 (by decide) (hts _ kf_X2_59) (fun _ h9 => h9) rfl dX2_layer_4 ?_
  rw [hly]
  refine lv_iconst (v := 1) hx hb dX2_layer_7 (by decide) ?_
  refine lv_isub hx hb dX2_layer_8 ?_
  refine lv_i2l (v := ((nI n) - 1).toInt64) hx hb dX2_layer_9 rfl ?_
  refine zk_pi (rest := []) C0 hP hD hS (c_M_isIn l D (tyG g) x.toInt64 (0 : Int64) (((nI n) - 1).toInt64)) kk_X2_63 hl.1 rfl rfl (Nat.le_of_ble_eq_true rfl) ⟨(Nat.le_of_ble_eq_true rfl), (Nat.le_of_ble_eq_true rfl)⟩ rfl rfl ⟨(Nat.le_of_ble_eq_true rfl), (Nat.le_of_ble_eq_true rfl)⟩ dX2_layer_10 (fun r_10 H locs hw_10 hP hS => ?_)
  obtain rfl := hw_10
  refine lv_if_eq (tgt := 35) hx hb dX2_layer_13 (by decide) (fun c_13 => ?_) (fun c_13 => ?_)
  · -- jump at 13
    have c_13 := zb_f c_13
    have c_13 : m_isLayer n x = false := c_13
    refine lv_iconst (v := 0) hx hb dX2_layer_35 (by decide) ?_
    exact hret 0 (a, b) _ _ _ _ _ _ rfl (by simp [zb, c_13]) hP hD hS (Nat.le_of_ble_eq_true rfl) (Nat.le_of_ble_eq_true rfl) dX2_layer_36
  · -- on at 13
    have c_13 := zb_t c_13
    have c_13 : m_isLayer n x = true := c_13
    obtain ⟨k, hk, rfl⟩ := m_layer_k hn c_13
    have hcl : (nI k).toNatClampNeg = k := nI_clamp (by omega)
    refine lv_iload_n hx hb dX2_layer_16 rfl (lv_at hl 2 rfl) ?_
    refine lv_i2l (v := y.toInt64) hx hb dX2_layer_17 rfl ?_
    refine lv_lconst (v := 0) hx hb dX2_layer_18 (by decide) ?_
    refine lv_ldc2 (v := 1000000) hx hb hown (hts _ kc_X2_67) dX2_layer_19 ?_
    refine zk_pi (rest := []) C0 hP hD hS (c_M_isIn l D (tyG g) y.toInt64 (0 : Int64) (1000000 : Int64)) kk_X2_63 hl.1 rfl rfl (Nat.le_of_ble_eq_true rfl) ⟨(Nat.le_of_ble_eq_true rfl), (Nat.le_of_ble_eq_true rfl)⟩ rfl rfl ⟨(Nat.le_of_ble_eq_true rfl), (Nat.le_of_ble_eq_true rfl)⟩ dX2_layer_22 (fun r_22 H locs hw_22 hP hS => ?_)
    obtain rfl := hw_22
    refine lv_if_eq (tgt := 35) hx hb dX2_layer_25 (by decide) (fun c_25 => ?_) (fun c_25 => ?_)
    · -- jump at 25
      have c_25 := zb_f c_25
      refine lv_iconst (v := 0) hx hb dX2_layer_35 (by decide) ?_
      exact hret 0 (a, b) _ _ _ _ _ _ rfl (by simp [zb, c_13, c_25, hcl]) hP hD hS (Nat.le_of_ble_eq_true rfl) (Nat.le_of_ble_eq_true rfl) dX2_layer_36
    · -- on at 25
      have c_25 := zb_t c_25
      refine lv_iload_n hx hb dX2_layer_28 rfl (lv_at hl 3 rfl) ?_
      refine zk_pi (rest := []) C0 hP hD hS (c_M_isParts l D (tyG g) z) kk_X2_69 hl.1 rfl rfl (Nat.le_of_ble_eq_true rfl) ⟨(Nat.le_of_ble_eq_true rfl), (Nat.le_of_ble_eq_true rfl)⟩ rfl rfl ⟨(Nat.le_of_ble_eq_true rfl), (Nat.le_of_ble_eq_true rfl)⟩ dX2_layer_29 (fun r_29 H locs hw_29 hP hS => ?_)
      obtain rfl := hw_29
      refine lv_if_ne (tgt := 37) hx hb dX2_layer_32 (by decide) (fun c_32 => ?_) (fun c_32 => ?_)
      · -- jump at 32
        have c_32 := zb_t c_32
        refine lv_aload_n hx hb dX2_layer_37 rfl (lv_at hl 0 rfl) ?_
        refine va_get (D := D) (ci := 2) (v := .ref (q 2)) (C := RX2) (T := TX2) (N := 22) hx hb hts iw_X2 hown hK hP 0 rfl rfl 2 (by decide) (hts _ kf_X2_13) (fun _ h9 => h9) rfl dX2_layer_38 ?_
        refine lv_iload_n hx hb dX2_layer_41 rfl (lv_at hl 1 rfl) ?_
        refine lv_iload_n hx hb dX2_layer_42 rfl (lv_at hl 2 rfl) ?_
        refine za_iast (k := k) (x := y) (f := (a 2)) hx hb hK hP hD hS 2 0 rfl rfl rfl (by omega) (by decide) dX2_layer_43 (fun H locs hP hD hS => ?_)
        have hP : va_P D vwCl (wM g q (va_up a 2 (upd (a 2) k y)) b) H := hP
        have hD : va_D A (wM g q (va_up a 2 (upd (a 2) k y)) b) := hD
        refine lv_aload_n hx hb dX2_layer_44 rfl (lv_at hl 0 rfl) ?_
        refine va_get (D := D) (ci := 2) (v := .ref (q 3)) (C := RX2) (T := TX2) (N := 22) hx hb hts iw_X2 hown hK hP 0 rfl rfl 3 (by decide) (hts _ kf_X2_17) (fun _ h9 => h9) rfl dX2_layer_45 ?_
        refine lv_iload_n hx hb dX2_layer_48 rfl (lv_at hl 1 rfl) ?_
        refine lv_iload_n hx hb dX2_layer_49 rfl (lv_at hl 3 rfl) ?_
        refine za_iast (k := k) (x := z) (f := (a 3)) hx hb hK hP hD hS 3 0 rfl rfl rfl (by omega) (by decide) dX2_layer_50 (fun H locs hP hD hS => ?_)
        have hP : va_P D vwCl (wM g q (va_up (va_up a 2 (upd (a 2) k y)) 3 (upd (a 3) k z)) b) H := hP
        have hD : va_D A (wM g q (va_up (va_up a 2 (upd (a 2) k y)) 3 (upd (a 3) k z)) b) := hD
        refine lv_iconst (v := 1) hx hb dX2_layer_51 (by decide) ?_
        exact hret 1 (va_up (va_up a 2 (upd (a 2) k y)) 3 (upd (a 3) k z), b) _ _ _ _ _ _ rfl (by simp [zb, c_13, c_25, c_32, hcl]) hP hD hS (Nat.le_of_ble_eq_true rfl) (Nat.le_of_ble_eq_true rfl) dX2_layer_52
      · -- on at 32
        have c_32 := zb_f c_32
        refine lv_iconst (v := 0) hx hb dX2_layer_35 (by decide) ?_
        exact hret 0 (a, b) _ _ _ _ _ _ rfl (by simp [zb, c_13, c_25, c_32, hcl]) hP hD hS (Nat.le_of_ble_eq_true rfl) (Nat.le_of_ble_eq_true rfl) dX2_layer_36
def rm_M_cover : Room := { frames := 1, cells := 0, slots := 0, locals := 20 }
set_option maxHeartbeats 4000000 in
set_option maxRecDepth 100000 in
theorem c_M_cover (l : Launch) (D : va_G) (g : Nat → ClassId) (q : Nat → Nat) (a : Nat → Nat → Int32) (b : Nat → Nat → Int64) (x : Int32) : zc_i l D (tyG g) yX2_cover cX2_cover 2 (some .boolean) rm_M_cover [.ref (q 0), .int x] (wM g q a b) (fun (r : Int32) (u : zT) => r = zb (m_parts x) ∧ u = if m_parts x = true then (va_up a 0 (upd (a 0) 0 x), b) else (a, b)) (fun u => wM g q u.1 u.2) 0 0 := by
  refine zi_of (by decide) (Nat.le_of_ble_eq_true rfl) rfl ?_
  intro p e s m args below meth cd_ A Q ls C0 hnm hP hD hS hl hret
  obtain ⟨hx, hb, hr, hml, hlocks, hown, hts, hK, hA, hN⟩ := id C0
  have hl : lv_has ls 2 [(0, .ref (q 0)), (1, .int x)] := hl
  refine lv_aload_n hx hb dX2_cover_0 rfl (lv_at hl 0 rfl) ?_
  refine lv_iload_n hx hb dX2_cover_1 rfl (lv_at hl 1 rfl) ?_
  refine zk_pi (rest := [.ref (q 0)]) C0 hP hD hS (c_M_isParts l D (tyG g) x) kk_X2_69 hl.1 rfl rfl (Nat.le_of_ble_eq_true rfl) ⟨(Nat.le_of_ble_eq_true rfl), (Nat.le_of_ble_eq_true rfl)⟩ rfl rfl ⟨(Nat.le_of_ble_eq_true rfl), (Nat.le_of_ble_eq_true rfl)⟩ dX2_cover_2 (fun r_2 H locs hw_2 hP hS => ?_)
  obtain rfl := hw_2
  refine lv_if_eq (tgt := 12) hx hb dX2_cover_5 (by decide) (fun c_5 => ?_) (fun c_5 => ?_)
  · -- jump at 5
    have c_5 := zb_f c_5
    refine lv_aload_n hx hb dX2_cover_12 rfl (lv_at hl 0 rfl) ?_
    refine va_get (D := D) (ci := 2) (v := .int (a 0 0)) (C := RX2) (T := TX2) (N := 22) hx hb hts iw_X2 hown hK hP 0 rfl rfl 4 (by decide) (hts _ kf_X2_73) (fun _ h9 => h9) rfl dX2_cover_13 ?_
    refine va_put (D := D) (ci := 2) (v := .int (a 0 0)) (ty := .int) (C := RX2) (T := TX2) (N := 22) hx hb hts iw_X2 tyX2 tyok_X2 nm_X2 hown hK hP hD hS 0 rfl rfl 4 (by decide) (hts _ kf_X2_73) (fun _ h9 => h9) rfl (by decide +kernel) rfl rfl (Nat.le_of_ble_eq_true rfl) dX2_cover_16 (fun H locs hP hD hS => ?_)
    have hP : va_P D vwCl (wM g q (va_up a 0 (upd (a 0) 0 (a 0 0))) b) H := hP
    have hD : va_D A (wM g q (va_up a 0 (upd (a 0) 0 (a 0 0))) b) := hD
    refine lv_iload_n hx hb dX2_cover_19 rfl (lv_at hl 1 rfl) ?_
    refine zk_pi (rest := []) C0 hP hD hS (c_M_isParts l D (tyG g) x) kk_X2_69 hl.1 rfl rfl (Nat.le_of_ble_eq_true rfl) ⟨(Nat.le_of_ble_eq_true rfl), (Nat.le_of_ble_eq_true rfl)⟩ rfl rfl ⟨(Nat.le_of_ble_eq_true rfl), (Nat.le_of_ble_eq_true rfl)⟩ dX2_cover_20 (fun r_20 H locs hw_20 hP hS => ?_)
    obtain rfl := hw_20
    exact hret (zb (m_parts x)) (va_up a 0 (upd (a 0) 0 (a 0 0)), b) _ _ _ _ _ _ (zb_n _) (by simp [c_5, m_selfA]) hP hD hS (Nat.le_of_ble_eq_true rfl) (Nat.le_of_ble_eq_true rfl) dX2_cover_23
  · -- on at 5
    have c_5 := zb_t c_5
    refine lv_iload_n hx hb dX2_cover_8 rfl (lv_at hl 1 rfl) ?_
    refine lv_goto (tgt := 16) hx hb dX2_cover_9 (by decide) ?_
    refine va_put (D := D) (ci := 2) (v := .int x) (ty := .int) (C := RX2) (T := TX2) (N := 22) hx hb hts iw_X2 tyX2 tyok_X2 nm_X2 hown hK hP hD hS 0 rfl rfl 4 (by decide) (hts _ kf_X2_73) (fun _ h9 => h9) rfl (by decide +kernel) rfl rfl (Nat.le_of_ble_eq_true rfl) dX2_cover_16 (fun H locs hP hD hS => ?_)
    have hP : va_P D vwCl (wM g q (va_up a 0 (upd (a 0) 0 x)) b) H := hP
    have hD : va_D A (wM g q (va_up a 0 (upd (a 0) 0 x)) b) := hD
    refine lv_iload_n hx hb dX2_cover_19 rfl (lv_at hl 1 rfl) ?_
    refine zk_pi (rest := []) C0 hP hD hS (c_M_isParts l D (tyG g) x) kk_X2_69 hl.1 rfl rfl (Nat.le_of_ble_eq_true rfl) ⟨(Nat.le_of_ble_eq_true rfl), (Nat.le_of_ble_eq_true rfl)⟩ rfl rfl ⟨(Nat.le_of_ble_eq_true rfl), (Nat.le_of_ble_eq_true rfl)⟩ dX2_cover_20 (fun r_20 H locs hw_20 hP hS => ?_)
    obtain rfl := hw_20
    exact hret (zb (m_parts x)) (va_up a 0 (upd (a 0) 0 x), b) _ _ _ _ _ _ (zb_n _) (by simp [c_5, m_selfA]) hP hD hS (Nat.le_of_ble_eq_true rfl) (Nat.le_of_ble_eq_true rfl) dX2_cover_23
def rm_M_drain : Room := { frames := 1, cells := 0, slots := 0, locals := 20 }
set_option maxHeartbeats 4000000 in
set_option maxRecDepth 100000 in
theorem c_M_drain (l : Launch) (D : va_G) (g : Nat → ClassId) (q : Nat → Nat) (a : Nat → Nat → Int32) (b : Nat → Nat → Int64) (x : Int32) : zc_i l D (tyG g) yX2_drain cX2_drain 2 (some .boolean) rm_M_drain [.ref (q 0), .int x] (wM g q a b) (fun (r : Int32) (u : zT) => r = zb (m_parts x) ∧ u = if m_parts x = true then (va_up a 0 (upd (a 0) 1 x), b) else (a, b)) (fun u => wM g q u.1 u.2) 0 0 := by
  refine zi_of (by decide) (Nat.le_of_ble_eq_true rfl) rfl ?_
  intro p e s m args below meth cd_ A Q ls C0 hnm hP hD hS hl hret
  obtain ⟨hx, hb, hr, hml, hlocks, hown, hts, hK, hA, hN⟩ := id C0
  have hl : lv_has ls 2 [(0, .ref (q 0)), (1, .int x)] := hl
  refine lv_aload_n hx hb dX2_drain_0 rfl (lv_at hl 0 rfl) ?_
  refine lv_iload_n hx hb dX2_drain_1 rfl (lv_at hl 1 rfl) ?_
  refine zk_pi (rest := [.ref (q 0)]) C0 hP hD hS (c_M_isParts l D (tyG g) x) kk_X2_69 hl.1 rfl rfl (Nat.le_of_ble_eq_true rfl) ⟨(Nat.le_of_ble_eq_true rfl), (Nat.le_of_ble_eq_true rfl)⟩ rfl rfl ⟨(Nat.le_of_ble_eq_true rfl), (Nat.le_of_ble_eq_true rfl)⟩ dX2_drain_2 (fun r_2 H locs hw_2 hP hS => ?_)
  obtain rfl := hw_2
  refine lv_if_eq (tgt := 12) hx hb dX2_drain_5 (by decide) (fun c_5 => ?_) (fun c_5 => ?_)
  · -- jump at 5
    have c_5 := zb_f c_5
    refine lv_aload_n hx hb dX2_drain_12 rfl (lv_at hl 0 rfl) ?_
    refine va_get (D := D) (ci := 2) (v := .int (a 0 1)) (C := RX2) (T := TX2) (N := 22) hx hb hts iw_X2 hown hK hP 0 rfl rfl 5 (by decide) (hts _ kf_X2_76) (fun _ h9 => h9) rfl dX2_drain_13 ?_
    refine va_put (D := D) (ci := 2) (v := .int (a 0 1)) (ty := .int) (C := RX2) (T := TX2) (N := 22) hx hb hts iw_X2 tyX2 tyok_X2 nm_X2 hown hK hP hD hS 0 rfl rfl 5 (by decide) (hts _ kf_X2_76) (fun _ h9 => h9) rfl (by decide +kernel) rfl rfl (Nat.le_of_ble_eq_true rfl) dX2_drain_16 (fun H locs hP hD hS => ?_)
    have hP : va_P D vwCl (wM g q (va_up a 0 (upd (a 0) 1 (a 0 1))) b) H := hP
    have hD : va_D A (wM g q (va_up a 0 (upd (a 0) 1 (a 0 1))) b) := hD
    refine lv_iload_n hx hb dX2_drain_19 rfl (lv_at hl 1 rfl) ?_
    refine zk_pi (rest := []) C0 hP hD hS (c_M_isParts l D (tyG g) x) kk_X2_69 hl.1 rfl rfl (Nat.le_of_ble_eq_true rfl) ⟨(Nat.le_of_ble_eq_true rfl), (Nat.le_of_ble_eq_true rfl)⟩ rfl rfl ⟨(Nat.le_of_ble_eq_true rfl), (Nat.le_of_ble_eq_true rfl)⟩ dX2_drain_20 (fun r_20 H locs hw_20 hP hS => ?_)
    obtain rfl := hw_20
    exact hret (zb (m_parts x)) (va_up a 0 (upd (a 0) 1 (a 0 1)), b) _ _ _ _ _ _ (zb_n _) (by simp [c_5, m_selfA]) hP hD hS (Nat.le_of_ble_eq_true rfl) (Nat.le_of_ble_eq_true rfl) dX2_drain_23
  · -- on at 5
    have c_5 := zb_t c_5
    refine lv_iload_n hx hb dX2_drain_8 rfl (lv_at hl 1 rfl) ?_
    refine lv_goto (tgt := 16) hx hb dX2_drain_9 (by decide) ?_
    refine va_put (D := D) (ci := 2) (v := .int x) (ty := .int) (C := RX2) (T := TX2) (N := 22) hx hb hts iw_X2 tyX2 tyok_X2 nm_X2 hown hK hP hD hS 0 rfl rfl 5 (by decide) (hts _ kf_X2_76) (fun _ h9 => h9) rfl (by decide +kernel) rfl rfl (Nat.le_of_ble_eq_true rfl) dX2_drain_16 (fun H locs hP hD hS => ?_)
    have hP : va_P D vwCl (wM g q (va_up a 0 (upd (a 0) 1 x)) b) H := hP
    have hD : va_D A (wM g q (va_up a 0 (upd (a 0) 1 x)) b) := hD
    refine lv_iload_n hx hb dX2_drain_19 rfl (lv_at hl 1 rfl) ?_
    refine zk_pi (rest := []) C0 hP hD hS (c_M_isParts l D (tyG g) x) kk_X2_69 hl.1 rfl rfl (Nat.le_of_ble_eq_true rfl) ⟨(Nat.le_of_ble_eq_true rfl), (Nat.le_of_ble_eq_true rfl)⟩ rfl rfl ⟨(Nat.le_of_ble_eq_true rfl), (Nat.le_of_ble_eq_true rfl)⟩ dX2_drain_20 (fun r_20 H locs hw_20 hP hS => ?_)
    obtain rfl := hw_20
    exact hret (zb (m_parts x)) (va_up a 0 (upd (a 0) 1 x), b) _ _ _ _ _ _ (zb_n _) (by simp [c_5, m_selfA]) hP hD hS (Nat.le_of_ble_eq_true rfl) (Nat.le_of_ble_eq_true rfl) dX2_drain_23
def rm_M_back : Room := { frames := 1, cells := 0, slots := 0, locals := 20 }
set_option maxHeartbeats 4000000 in
set_option maxRecDepth 100000 in
theorem c_M_back (l : Launch) (D : va_G) (g : Nat → ClassId) (q : Nat → Nat) (a : Nat → Nat → Int32) (b : Nat → Nat → Int64) (x : Int32) : zc_i l D (tyG g) yX2_back cX2_back 2 (some .boolean) rm_M_back [.ref (q 0), .int x] (wM g q a b) (fun (r : Int32) (u : zT) => r = zb (m_parts x) ∧ u = if m_parts x = true then (va_up a 0 (upd (a 0) 2 x), b) else (a, b)) (fun u => wM g q u.1 u.2) 0 0 := by
  refine zi_of (by decide) (Nat.le_of_ble_eq_true rfl) rfl ?_
  intro p e s m args below meth cd_ A Q ls C0 hnm hP hD hS hl hret
  obtain ⟨hx, hb, hr, hml, hlocks, hown, hts, hK, hA, hN⟩ := id C0
  have hl : lv_has ls 2 [(0, .ref (q 0)), (1, .int x)] := hl
  refine lv_aload_n hx hb dX2_back_0 rfl (lv_at hl 0 rfl) ?_
  refine lv_iload_n hx hb dX2_back_1 rfl (lv_at hl 1 rfl) ?_
  refine zk_pi (rest := [.ref (q 0)]) C0 hP hD hS (c_M_isParts l D (tyG g) x) kk_X2_69 hl.1 rfl rfl (Nat.le_of_ble_eq_true rfl) ⟨(Nat.le_of_ble_eq_true rfl), (Nat.le_of_ble_eq_true rfl)⟩ rfl rfl ⟨(Nat.le_of_ble_eq_true rfl), (Nat.le_of_ble_eq_true rfl)⟩ dX2_back_2 (fun r_2 H locs hw_2 hP hS => ?_)
  obtain rfl := hw_2
  refine lv_if_eq (tgt := 12) hx hb dX2_back_5 (by decide) (fun c_5 => ?_) (fun c_5 => ?_)
  · -- jump at 5
    have c_5 := zb_f c_5
    refine lv_aload_n hx hb dX2_back_12 rfl (lv_at hl 0 rfl) ?_
    refine va_get (D := D) (ci := 2) (v := .int (a 0 2)) (C := RX2) (T := TX2) (N := 22) hx hb hts iw_X2 hown hK hP 0 rfl rfl 6 (by decide) (hts _ kf_X2_79) (fun _ h9 => h9) rfl dX2_back_13 ?_
    refine va_put (D := D) (ci := 2) (v := .int (a 0 2)) (ty := .int) (C := RX2) (T := TX2) (N := 22) hx hb hts iw_X2 tyX2 tyok_X2 nm_X2 hown hK hP hD hS 0 rfl rfl 6 (by decide) (hts _ kf_X2_79) (fun _ h9 => h9) rfl (by decide +kernel) rfl rfl (Nat.le_of_ble_eq_true rfl) dX2_back_16 (fun H locs hP hD hS => ?_)
    have hP : va_P D vwCl (wM g q (va_up a 0 (upd (a 0) 2 (a 0 2))) b) H := hP
    have hD : va_D A (wM g q (va_up a 0 (upd (a 0) 2 (a 0 2))) b) := hD
    refine lv_iload_n hx hb dX2_back_19 rfl (lv_at hl 1 rfl) ?_
    refine zk_pi (rest := []) C0 hP hD hS (c_M_isParts l D (tyG g) x) kk_X2_69 hl.1 rfl rfl (Nat.le_of_ble_eq_true rfl) ⟨(Nat.le_of_ble_eq_true rfl), (Nat.le_of_ble_eq_true rfl)⟩ rfl rfl ⟨(Nat.le_of_ble_eq_true rfl), (Nat.le_of_ble_eq_true rfl)⟩ dX2_back_20 (fun r_20 H locs hw_20 hP hS => ?_)
    obtain rfl := hw_20
    exact hret (zb (m_parts x)) (va_up a 0 (upd (a 0) 2 (a 0 2)), b) _ _ _ _ _ _ (zb_n _) (by simp [c_5, m_selfA]) hP hD hS (Nat.le_of_ble_eq_true rfl) (Nat.le_of_ble_eq_true rfl) dX2_back_23
  · -- on at 5
    have c_5 := zb_t c_5
    refine lv_iload_n hx hb dX2_back_8 rfl (lv_at hl 1 rfl) ?_
    refine lv_goto (tgt := 16) hx hb dX2_back_9 (by decide) ?_
    refine va_put (D := D) (ci := 2) (v := .int x) (ty := .int) (C := RX2) (T := TX2) (N := 22) hx hb hts iw_X2 tyX2 tyok_X2 nm_X2 hown hK hP hD hS 0 rfl rfl 6 (by decide) (hts _ kf_X2_79) (fun _ h9 => h9) rfl (by decide +kernel) rfl rfl (Nat.le_of_ble_eq_true rfl) dX2_back_16 (fun H locs hP hD hS => ?_)
    have hP : va_P D vwCl (wM g q (va_up a 0 (upd (a 0) 2 x)) b) H := hP
    have hD : va_D A (wM g q (va_up a 0 (upd (a 0) 2 x)) b) := hD
    refine lv_iload_n hx hb dX2_back_19 rfl (lv_at hl 1 rfl) ?_
    refine zk_pi (rest := []) C0 hP hD hS (c_M_isParts l D (tyG g) x) kk_X2_69 hl.1 rfl rfl (Nat.le_of_ble_eq_true rfl) ⟨(Nat.le_of_ble_eq_true rfl), (Nat.le_of_ble_eq_true rfl)⟩ rfl rfl ⟨(Nat.le_of_ble_eq_true rfl), (Nat.le_of_ble_eq_true rfl)⟩ dX2_back_20 (fun r_20 H locs hw_20 hP hS => ?_)
    obtain rfl := hw_20
    exact hret (zb (m_parts x)) (va_up a 0 (upd (a 0) 2 x), b) _ _ _ _ _ _ (zb_n _) (by simp [c_5, m_selfA]) hP hD hS (Nat.le_of_ble_eq_true rfl) (Nat.le_of_ble_eq_true rfl) dX2_back_23
def rm_M_tank : Room := { frames := 1, cells := 0, slots := 0, locals := 25 }
set_option maxHeartbeats 4000000 in
set_option maxRecDepth 100000 in
theorem c_M_tank (l : Launch) (D : va_G) (g : Nat → ClassId) (q : Nat → Nat) (a : Nat → Nat → Int32) (b : Nat → Nat → Int64) (x : Int64) : zc_i l D (tyG g) yX2_tank cX2_tank 3 (some .boolean) rm_M_tank [.ref (q 0), .long x] (wM g q a b) (fun (r : Int32) (u : zT) => r = zb (m_within x 0 1000000000) ∧ u = if m_within x 0 1000000000 = true then (a, va_up b 0 (vp_updL (b 0) 0 x)) else (a, b)) (fun u => wM g q u.1 u.2) 0 0 := by
  refine zi_of (by decide) (Nat.le_of_ble_eq_true rfl) rfl ?_
  intro p e s m args below meth cd_ A Q ls C0 hnm hP hD hS hl hret
  obtain ⟨hx, hb, hr, hml, hlocks, hown, hts, hK, hA, hN⟩ := id C0
  have hl : lv_has ls 3 [(0, .ref (q 0)), (1, .long x)] := hl
  refine lv_aload_n hx hb dX2_tank_0 rfl (lv_at hl 0 rfl) ?_
  refine lv_lload_n hx hb dX2_tank_1 rfl (lv_at hl 1 rfl) ?_
  refine lv_lconst (v := 0) hx hb dX2_tank_2 (by decide) ?_
  refine lv_ldc2 (v := 1000000000) hx hb hown (hts _ kc_X2_82) dX2_tank_3 ?_
  refine zk_pi (rest := [.ref (q 0)]) C0 hP hD hS (c_M_isIn l D (tyG g) x (0 : Int64) (1000000000 : Int64)) kk_X2_63 hl.1 rfl rfl (Nat.le_of_ble_eq_true rfl) ⟨(Nat.le_of_ble_eq_true rfl), (Nat.le_of_ble_eq_true rfl)⟩ rfl rfl ⟨(Nat.le_of_ble_eq_true rfl), (Nat.le_of_ble_eq_true rfl)⟩ dX2_tank_6 (fun r_6 H locs hw_6 hP hS => ?_)
  obtain rfl := hw_6
  refine lv_if_eq (tgt := 16) hx hb dX2_tank_9 (by decide) (fun c_9 => ?_) (fun c_9 => ?_)
  · -- jump at 9
    have c_9 := zb_f c_9
    refine lv_aload_n hx hb dX2_tank_16 rfl (lv_at hl 0 rfl) ?_
    refine va_get (D := D) (ci := 2) (v := .long (b 0 0)) (C := RX2) (T := TX2) (N := 22) hx hb hts iw_X2 hown hK hP 0 rfl rfl 7 (by decide) (hts _ kf_X2_84) (fun _ h9 => h9) rfl dX2_tank_17 ?_
    refine va_put (D := D) (ci := 2) (v := .long (b 0 0)) (ty := .long) (C := RX2) (T := TX2) (N := 22) hx hb hts iw_X2 tyX2 tyok_X2 nm_X2 hown hK hP hD hS 0 rfl rfl 7 (by decide) (hts _ kf_X2_84) (fun _ h9 => h9) rfl (by decide +kernel) rfl rfl (Nat.le_of_ble_eq_true rfl) dX2_tank_20 (fun H locs hP hD hS => ?_)
    have hP : va_P D vwCl (wM g q a (va_up b 0 (vp_updL (b 0) 0 (b 0 0)))) H := hP
    have hD : va_D A (wM g q a (va_up b 0 (vp_updL (b 0) 0 (b 0 0)))) := hD
    refine lv_lload_n hx hb dX2_tank_23 rfl (lv_at hl 1 rfl) ?_
    refine lv_lconst (v := 0) hx hb dX2_tank_24 (by decide) ?_
    refine lv_ldc2 (v := 1000000000) hx hb hown (hts _ kc_X2_82) dX2_tank_25 ?_
    refine zk_pi (rest := []) C0 hP hD hS (c_M_isIn l D (tyG g) x (0 : Int64) (1000000000 : Int64)) kk_X2_63 hl.1 rfl rfl (Nat.le_of_ble_eq_true rfl) ⟨(Nat.le_of_ble_eq_true rfl), (Nat.le_of_ble_eq_true rfl)⟩ rfl rfl ⟨(Nat.le_of_ble_eq_true rfl), (Nat.le_of_ble_eq_true rfl)⟩ dX2_tank_28 (fun r_28 H locs hw_28 hP hS => ?_)
    obtain rfl := hw_28
    exact hret (zb (m_within x (0 : Int64) (1000000000 : Int64))) (a, va_up b 0 (vp_updL (b 0) 0 (b 0 0))) _ _ _ _ _ _ (zb_n _) (by simp [c_9, m_selfB]) hP hD hS (Nat.le_of_ble_eq_true rfl) (Nat.le_of_ble_eq_true rfl) dX2_tank_31
  · -- on at 9
    have c_9 := zb_t c_9
    refine lv_lload_n hx hb dX2_tank_12 rfl (lv_at hl 1 rfl) ?_
    refine lv_goto (tgt := 20) hx hb dX2_tank_13 (by decide) ?_
    refine va_put (D := D) (ci := 2) (v := .long x) (ty := .long) (C := RX2) (T := TX2) (N := 22) hx hb hts iw_X2 tyX2 tyok_X2 nm_X2 hown hK hP hD hS 0 rfl rfl 7 (by decide) (hts _ kf_X2_84) (fun _ h9 => h9) rfl (by decide +kernel) rfl rfl (Nat.le_of_ble_eq_true rfl) dX2_tank_20 (fun H locs hP hD hS => ?_)
    have hP : va_P D vwCl (wM g q a (va_up b 0 (vp_updL (b 0) 0 x))) H := hP
    have hD : va_D A (wM g q a (va_up b 0 (vp_updL (b 0) 0 x))) := hD
    refine lv_lload_n hx hb dX2_tank_23 rfl (lv_at hl 1 rfl) ?_
    refine lv_lconst (v := 0) hx hb dX2_tank_24 (by decide) ?_
    refine lv_ldc2 (v := 1000000000) hx hb hown (hts _ kc_X2_82) dX2_tank_25 ?_
    refine zk_pi (rest := []) C0 hP hD hS (c_M_isIn l D (tyG g) x (0 : Int64) (1000000000 : Int64)) kk_X2_63 hl.1 rfl rfl (Nat.le_of_ble_eq_true rfl) ⟨(Nat.le_of_ble_eq_true rfl), (Nat.le_of_ble_eq_true rfl)⟩ rfl rfl ⟨(Nat.le_of_ble_eq_true rfl), (Nat.le_of_ble_eq_true rfl)⟩ dX2_tank_28 (fun r_28 H locs hw_28 hP hS => ?_)
    obtain rfl := hw_28
    exact hret (zb (m_within x (0 : Int64) (1000000000 : Int64))) (a, va_up b 0 (vp_updL (b 0) 0 x)) _ _ _ _ _ _ (zb_n _) (by simp [c_9, m_selfB]) hP hD hS (Nat.le_of_ble_eq_true rfl) (Nat.le_of_ble_eq_true rfl) dX2_tank_31
def rm_M_stage : Room := { frames := 1, cells := 0, slots := 0, locals := 25 }
set_option maxHeartbeats 4000000 in
set_option maxRecDepth 100000 in
theorem c_M_stage (l : Launch) (D : va_G) (g : Nat → ClassId) (q : Nat → Nat) (a : Nat → Nat → Int32) (b : Nat → Nat → Int64) (sc : Nat) (hsc : a 0 3 = nI sc) (hsc4 : sc ≤ 4) (x y : Int32) : zc_i l D (tyG g) yX2_stage cX2_stage 3 (some .int) rm_M_stage [.ref (q 0), .int x, .int y] (wM g q a b) (fun (r : Int32) (u : zT) => r = (if (decide (sc < 4) && m_within x.toInt64 0 1000000 && m_parts y) = true then nI sc else -1) ∧ u = if (decide (sc < 4) && m_within x.toInt64 0 1000000 && m_parts y) = true then (va_up (va_up (va_up a 0 (upd (a 0) 3 (nI (sc + 1)))) 4 (upd (a 4) sc x)) 5 (upd (a 5) sc y), b) else (a, b)) (fun u => wM g q u.1 u.2) 0 0 := by
  refine zi_of (by decide) (Nat.le_of_ble_eq_true rfl) rfl ?_
  intro p e s m args below meth cd_ A Q ls C0 hnm hP hD hS hl hret
  obtain ⟨hx, hb, hr, hml, hlocks, hown, hts, hK, hA, hN⟩ := id C0
  have hl : lv_has ls 3 [(0, .ref (q 0)), (1, .int x), (2, .int y)] := hl
  refine lv_aload_n hx hb dX2_stage_0 rfl (lv_at hl 0 rfl) ?_
  refine va_get (D := D) (ci := 2) (v := .int (a 0 3)) (C := RX2) (T := TX2) (N := 22) hx hb hts iw_X2 hown hK hP 0 rfl rfl 8 (by decide) (hts _ kf_X2_87) (fun _ h9 => h9) rfl dX2_stage_1 ?_
  rw [hsc]
  refine lv_iconst (v := 4) hx hb dX2_stage_4 (by decide) ?_
  refine lv_icmp_eq (tgt := 27) hx hb dX2_stage_5 (by decide) (fun c_5 => ?_) (fun c_5 => ?_)
  · -- jump at 5
    have hs4 : ¬ sc < 4 := by have h9 := (nI_eq (a := sc) (b := 4) (by omega) (by decide)).mp c_5; omega
    refine lv_iconst (v := (-1)) hx hb dX2_stage_27 (by decide) ?_
    exact hret (-1) (a, b) _ _ _ _ _ _ (vp_nar_int _) (by simp [hs4]) hP hD hS (Nat.le_of_ble_eq_true rfl) (Nat.le_of_ble_eq_true rfl) dX2_stage_28
  · -- on at 5
    have hs4 : sc < 4 := by rcases Nat.lt_or_ge sc 4 with h | h; exact h; exact absurd (show nI sc = 4 from by rw [show sc = 4 from by omega]; rfl) c_5
    refine lv_iload_n hx hb dX2_stage_8 rfl (lv_at hl 1 rfl) ?_
    refine lv_i2l (v := x.toInt64) hx hb dX2_stage_9 rfl ?_
    refine lv_lconst (v := 0) hx hb dX2_stage_10 (by decide) ?_
    refine lv_ldc2 (v := 1000000) hx hb hown (hts _ kc_X2_67) dX2_stage_11 ?_
    refine zk_pi (rest := []) C0 hP hD hS (c_M_isIn l D (tyG g) x.toInt64 (0 : Int64) (1000000 : Int64)) kk_X2_63 hl.1 rfl rfl (Nat.le_of_ble_eq_true rfl) ⟨(Nat.le_of_ble_eq_true rfl), (Nat.le_of_ble_eq_true rfl)⟩ rfl rfl ⟨(Nat.le_of_ble_eq_true rfl), (Nat.le_of_ble_eq_true rfl)⟩ dX2_stage_14 (fun r_14 H locs hw_14 hP hS => ?_)
    obtain rfl := hw_14
    refine lv_if_eq (tgt := 27) hx hb dX2_stage_17 (by decide) (fun c_17 => ?_) (fun c_17 => ?_)
    · -- jump at 17
      have c_17 := zb_f c_17
      refine lv_iconst (v := (-1)) hx hb dX2_stage_27 (by decide) ?_
      exact hret (-1) (a, b) _ _ _ _ _ _ (vp_nar_int _) (by simp [hs4, c_17]) hP hD hS (Nat.le_of_ble_eq_true rfl) (Nat.le_of_ble_eq_true rfl) dX2_stage_28
    · -- on at 17
      have c_17 := zb_t c_17
      refine lv_iload_n hx hb dX2_stage_20 rfl (lv_at hl 2 rfl) ?_
      refine zk_pi (rest := []) C0 hP hD hS (c_M_isParts l D (tyG g) y) kk_X2_69 hl.1 rfl rfl (Nat.le_of_ble_eq_true rfl) ⟨(Nat.le_of_ble_eq_true rfl), (Nat.le_of_ble_eq_true rfl)⟩ rfl rfl ⟨(Nat.le_of_ble_eq_true rfl), (Nat.le_of_ble_eq_true rfl)⟩ dX2_stage_21 (fun r_21 H locs hw_21 hP hS => ?_)
      obtain rfl := hw_21
      refine lv_if_ne (tgt := 29) hx hb dX2_stage_24 (by decide) (fun c_24 => ?_) (fun c_24 => ?_)
      · -- jump at 24
        have c_24 := zb_t c_24
        refine lv_aload_n hx hb dX2_stage_29 rfl (lv_at hl 0 rfl) ?_
        refine va_get (D := D) (ci := 2) (v := .ref (q 4)) (C := RX2) (T := TX2) (N := 22) hx hb hts iw_X2 hown hK hP 0 rfl rfl 9 (by decide) (hts _ kf_X2_20) (fun _ h9 => h9) rfl dX2_stage_30 ?_
        refine lv_aload_n hx hb dX2_stage_33 rfl (lv_at hl 0 rfl) ?_
        refine va_get (D := D) (ci := 2) (v := .int (a 0 3)) (C := RX2) (T := TX2) (N := 22) hx hb hts iw_X2 hown hK hP 0 rfl rfl 8 (by decide) (hts _ kf_X2_87) (fun _ h9 => h9) rfl dX2_stage_34 ?_
        rw [hsc]
        refine lv_iload_n hx hb dX2_stage_37 rfl (lv_at hl 1 rfl) ?_
        refine za_iast (k := sc) (x := x) (f := (a 4)) hx hb hK hP hD hS 4 0 rfl rfl rfl (by omega) (by decide) dX2_stage_38 (fun H locs hP hD hS => ?_)
        have hP : va_P D vwCl (wM g q (va_up a 4 (upd (a 4) sc x)) b) H := hP
        have hD : va_D A (wM g q (va_up a 4 (upd (a 4) sc x)) b) := hD
        refine lv_aload_n hx hb dX2_stage_39 rfl (lv_at hl 0 rfl) ?_
        refine va_get (D := D) (ci := 2) (v := .ref (q 5)) (C := RX2) (T := TX2) (N := 22) hx hb hts iw_X2 hown hK hP 0 rfl rfl 10 (by decide) (hts _ kf_X2_23) (fun _ h9 => h9) rfl dX2_stage_40 ?_
        refine lv_aload_n hx hb dX2_stage_43 rfl (lv_at hl 0 rfl) ?_
        refine va_get (D := D) (ci := 2) (v := .int (a 0 3)) (C := RX2) (T := TX2) (N := 22) hx hb hts iw_X2 hown hK hP 0 rfl rfl 8 (by decide) (hts _ kf_X2_87) (fun _ h9 => h9) rfl dX2_stage_44 ?_
        rw [hsc]
        refine lv_iload_n hx hb dX2_stage_47 rfl (lv_at hl 2 rfl) ?_
        refine za_iast (k := sc) (x := y) (f := (a 5)) hx hb hK hP hD hS 5 0 rfl rfl rfl (by omega) (by decide) dX2_stage_48 (fun H locs hP hD hS => ?_)
        have hP : va_P D vwCl (wM g q (va_up (va_up a 4 (upd (a 4) sc x)) 5 (upd (a 5) sc y)) b) H := hP
        have hD : va_D A (wM g q (va_up (va_up a 4 (upd (a 4) sc x)) 5 (upd (a 5) sc y)) b) := hD
        refine lv_aload_n hx hb dX2_stage_49 rfl (lv_at hl 0 rfl) ?_
        refine lv_dup hx hb dX2_stage_50 rfl ?_
        refine va_get (D := D) (ci := 2) (v := .int (a 0 3)) (C := RX2) (T := TX2) (N := 22) hx hb hts iw_X2 hown hK hP 0 rfl rfl 8 (by decide) (hts _ kf_X2_87) (fun _ h9 => h9) rfl dX2_stage_51 ?_
        rw [hsc]
        refine lv_iconst (v := 1) hx hb dX2_stage_54 (by decide) ?_
        refine lv_iadd hx hb dX2_stage_55 ?_
        rw [show (nI sc) + 1 = nI (sc + 1) from nI_1 sc]
        refine va_put (D := D) (ci := 2) (v := .int (nI (sc + 1))) (ty := .int) (C := RX2) (T := TX2) (N := 22) hx hb hts iw_X2 tyX2 tyok_X2 nm_X2 hown hK hP hD hS 0 rfl rfl 8 (by decide) (hts _ kf_X2_87) (fun _ h9 => h9) rfl (by decide +kernel) rfl rfl (Nat.le_of_ble_eq_true rfl) dX2_stage_56 (fun H locs hP hD hS => ?_)
        have hP : va_P D vwCl (wM g q (va_up (va_up (va_up a 0 (upd (a 0) 3 (nI (sc + 1)))) 4 (upd (a 4) sc x)) 5 (upd (a 5) sc y)) b) H := hP
        have hD : va_D A (wM g q (va_up (va_up (va_up a 0 (upd (a 0) 3 (nI (sc + 1)))) 4 (upd (a 4) sc x)) 5 (upd (a 5) sc y)) b) := hD
        refine lv_aload_n hx hb dX2_stage_59 rfl (lv_at hl 0 rfl) ?_
        refine va_get (D := D) (ci := 2) (v := .int (nI (sc + 1))) (C := RX2) (T := TX2) (N := 22) hx hb hts iw_X2 hown hK hP 0 rfl rfl 8 (by decide) (hts _ kf_X2_87) (fun _ h9 => h9) rfl dX2_stage_60 ?_
        refine lv_iconst (v := 1) hx hb dX2_stage_63 (by decide) ?_
        refine lv_isub hx hb dX2_stage_64 ?_
        rw [show (nI (sc + 1)) - 1 = nI sc from nI_pred sc]
        exact hret (nI sc) (va_up (va_up (va_up a 0 (upd (a 0) 3 (nI (sc + 1)))) 4 (upd (a 4) sc x)) 5 (upd (a 5) sc y), b) _ _ _ _ _ _ (vp_nar_int _) (by simp [hs4, c_17, c_24]) hP hD hS (Nat.le_of_ble_eq_true rfl) (Nat.le_of_ble_eq_true rfl) dX2_stage_65
      · -- on at 24
        have c_24 := zb_f c_24
        refine lv_iconst (v := (-1)) hx hb dX2_stage_27 (by decide) ?_
        exact hret (-1) (a, b) _ _ _ _ _ _ (vp_nar_int _) (by simp [hs4, c_17, c_24]) hP hD hS (Nat.le_of_ble_eq_true rfl) (Nat.le_of_ble_eq_true rfl) dX2_stage_28
def rm_M_rain : Room := { frames := 1, cells := 0, slots := 0, locals := 25 }
set_option maxHeartbeats 4000000 in
set_option maxRecDepth 100000 in
theorem c_M_rain (l : Launch) (D : va_G) (g : Nat → ClassId) (q : Nat → Nat) (a : Nat → Nat → Int32) (b : Nat → Nat → Int64) (d : Nat) (hd : a 0 4 = nI d) (hd4 : d ≤ 400) (x y : Int32) : zc_i l D (tyG g) yX2_rain cX2_rain 3 (some .boolean) rm_M_rain [.ref (q 0), .int x, .int y] (wM g q a b) (fun (r : Int32) (u : zT) => r = zb (m_within x.toInt64 (nI d).toInt64 399 && m_within y.toInt64 0 1000000) ∧ u = if (m_within x.toInt64 (nI d).toInt64 399 && m_within y.toInt64 0 1000000) = true then (va_up a 6 (upd (a 6) x.toNatClampNeg y), b) else (a, b)) (fun u => wM g q u.1 u.2) 0 0 := by
  refine zi_of (by decide) (Nat.le_of_ble_eq_true rfl) rfl ?_
  intro p e s m args below meth cd_ A Q ls C0 hnm hP hD hS hl hret
  obtain ⟨hx, hb, hr, hml, hlocks, hown, hts, hK, hA, hN⟩ := id C0
  have hl : lv_has ls 3 [(0, .ref (q 0)), (1, .int x), (2, .int y)] := hl
  refine lv_iload_n hx hb dX2_rain_0 rfl (lv_at hl 1 rfl) ?_
  refine lv_i2l (v := x.toInt64) hx hb dX2_rain_1 rfl ?_
  refine lv_aload_n hx hb dX2_rain_2 rfl (lv_at hl 0 rfl) ?_
  refine va_get (D := D) (ci := 2) (v := .int (a 0 4)) (C := RX2) (T := TX2) (N := 22) hx hb hts iw_X2 hown hK hP 0 rfl rfl 12 (by decide) (hts _ kf_X2_90) (fun _ h9 => h9) rfl dX2_rain_3 ?_
  rw [hd]
  refine lv_i2l (v := (nI d).toInt64) hx hb dX2_rain_6 rfl ?_
  refine lv_ldc2 (v := 399) hx hb hown (hts _ kc_X2_93) dX2_rain_7 ?_
  refine zk_pi (rest := []) C0 hP hD hS (c_M_isIn l D (tyG g) x.toInt64 ((nI d).toInt64) (399 : Int64)) kk_X2_63 hl.1 rfl rfl (Nat.le_of_ble_eq_true rfl) ⟨(Nat.le_of_ble_eq_true rfl), (Nat.le_of_ble_eq_true rfl)⟩ rfl rfl ⟨(Nat.le_of_ble_eq_true rfl), (Nat.le_of_ble_eq_true rfl)⟩ dX2_rain_10 (fun r_10 H locs hw_10 hP hS => ?_)
  obtain rfl := hw_10
  refine lv_if_eq (tgt := 28) hx hb dX2_rain_13 (by decide) (fun c_13 => ?_) (fun c_13 => ?_)
  · -- jump at 13
    have c_13 := zb_f c_13
    refine lv_iconst (v := 0) hx hb dX2_rain_28 (by decide) ?_
    exact hret 0 (a, b) _ _ _ _ _ _ rfl (by simp [zb, c_13]) hP hD hS (Nat.le_of_ble_eq_true rfl) (Nat.le_of_ble_eq_true rfl) dX2_rain_29
  · -- on at 13
    have c_13 := zb_t c_13
    obtain ⟨k, hk1, hk2, rfl⟩ := m_rain_k hd4 c_13
    have hcl : (nI k).toNatClampNeg = k := nI_clamp (by omega)
    refine lv_iload_n hx hb dX2_rain_16 rfl (lv_at hl 2 rfl) ?_
    refine lv_i2l (v := y.toInt64) hx hb dX2_rain_17 rfl ?_
    refine lv_lconst (v := 0) hx hb dX2_rain_18 (by decide) ?_
    refine lv_ldc2 (v := 1000000) hx hb hown (hts _ kc_X2_67) dX2_rain_19 ?_
    refine zk_pi (rest := []) C0 hP hD hS (c_M_isIn l D (tyG g) y.toInt64 (0 : Int64) (1000000 : Int64)) kk_X2_63 hl.1 rfl rfl (Nat.le_of_ble_eq_true rfl) ⟨(Nat.le_of_ble_eq_true rfl), (Nat.le_of_ble_eq_true rfl)⟩ rfl rfl ⟨(Nat.le_of_ble_eq_true rfl), (Nat.le_of_ble_eq_true rfl)⟩ dX2_rain_22 (fun r_22 H locs hw_22 hP hS => ?_)
    obtain rfl := hw_22
    refine lv_if_ne (tgt := 30) hx hb dX2_rain_25 (by decide) (fun c_25 => ?_) (fun c_25 => ?_)
    · -- jump at 25
      have c_25 := zb_t c_25
      refine lv_aload_n hx hb dX2_rain_30 rfl (lv_at hl 0 rfl) ?_
      refine va_get (D := D) (ci := 2) (v := .ref (q 6)) (C := RX2) (T := TX2) (N := 22) hx hb hts iw_X2 hown hK hP 0 rfl rfl 11 (by decide) (hts _ kf_X2_26) (fun _ h9 => h9) rfl dX2_rain_31 ?_
      refine lv_iload_n hx hb dX2_rain_34 rfl (lv_at hl 1 rfl) ?_
      refine lv_iload_n hx hb dX2_rain_35 rfl (lv_at hl 2 rfl) ?_
      refine za_iast (k := k) (x := y) (f := (a 6)) hx hb hK hP hD hS 6 0 rfl rfl rfl (by omega) (by decide) dX2_rain_36 (fun H locs hP hD hS => ?_)
      have hP : va_P D vwCl (wM g q (va_up a 6 (upd (a 6) k y)) b) H := hP
      have hD : va_D A (wM g q (va_up a 6 (upd (a 6) k y)) b) := hD
      refine lv_iconst (v := 1) hx hb dX2_rain_37 (by decide) ?_
      exact hret 1 (va_up a 6 (upd (a 6) k y), b) _ _ _ _ _ _ rfl (by simp [zb, c_13, c_25, hcl]) hP hD hS (Nat.le_of_ble_eq_true rfl) (Nat.le_of_ble_eq_true rfl) dX2_rain_38
    · -- on at 25
      have c_25 := zb_f c_25
      refine lv_iconst (v := 0) hx hb dX2_rain_28 (by decide) ?_
      exact hret 0 (a, b) _ _ _ _ _ _ rfl (by simp [zb, c_13, c_25, hcl]) hP hD hS (Nat.le_of_ble_eq_true rfl) (Nat.le_of_ble_eq_true rfl) dX2_rain_29
def rm_M_storm : Room := { frames := 1, cells := 0, slots := 0, locals := 25 }
set_option maxHeartbeats 4000000 in
set_option maxRecDepth 100000 in
theorem c_M_storm (l : Launch) (D : va_G) (g : Nat → ClassId) (q : Nat → Nat) (a : Nat → Nat → Int32) (b : Nat → Nat → Int64) (d : Nat) (hd : a 0 4 = nI d) (hd4 : d ≤ 400) (x : Int64) (y : Int32) : zc_i l D (tyG g) yX2_storm cX2_storm 7 (some .boolean) rm_M_storm [.ref (q 0), .long x, .int y] (wM g q a b) (fun (r : Int32) (u : zT) => r = zb (m_days (nI d) y) ∧ u = if m_days (nI d) y = true then (va_up a 6 (m_st (a 6) x d y.toNatClampNeg).2, b) else (a, b)) (fun u => wM g q u.1 u.2) 0 0 := by
  refine zi_of (by decide) (Nat.le_of_ble_eq_true rfl) rfl ?_
  intro p e s m args below meth cd_ A Q ls C0 hnm hP hD hS hl hret
  obtain ⟨hx, hb, hr, hml, hlocks, hown, hts, hK, hA, hN⟩ := id C0
  have hl : lv_has ls 7 [(0, .ref (q 0)), (1, .long x), (3, .int y)] := hl
  refine lv_iload_n hx hb dX2_storm_0 rfl (lv_at hl 2 rfl) ?_
  refine lv_i2l (v := y.toInt64) hx hb dX2_storm_1 rfl ?_
  refine lv_lconst (v := 1) hx hb dX2_storm_2 (by decide) ?_
  refine lv_ldc2 (v := 100) hx hb hown (hts _ kc_X2_95) dX2_storm_3 ?_
  refine zk_pi (rest := []) C0 hP hD hS (c_M_isIn l D (tyG g) y.toInt64 (1 : Int64) (100 : Int64)) kk_X2_63 hl.1 rfl rfl (Nat.le_of_ble_eq_true rfl) ⟨(Nat.le_of_ble_eq_true rfl), (Nat.le_of_ble_eq_true rfl)⟩ rfl rfl ⟨(Nat.le_of_ble_eq_true rfl), (Nat.le_of_ble_eq_true rfl)⟩ dX2_storm_6 (fun r_6 H locs hw_6 hP hS => ?_)
  obtain rfl := hw_6
  refine lv_if_eq (tgt := 24) hx hb dX2_storm_9 (by decide) (fun c_9 => ?_) (fun c_9 => ?_)
  · -- jump at 9
    have c_9 := zb_f c_9
    have hdy : m_days (nI d) y = false := by simp [m_days, c_9]
    refine lv_iconst (v := 0) hx hb dX2_storm_24 (by decide) ?_
    exact hret 0 (a, b) _ _ _ _ _ _ rfl (by simp [zb, hdy]) hP hD hS (Nat.le_of_ble_eq_true rfl) (Nat.le_of_ble_eq_true rfl) dX2_storm_25
  · -- on at 9
    have c_9 := zb_t c_9
    refine lv_aload_n hx hb dX2_storm_12 rfl (lv_at hl 0 rfl) ?_
    refine va_get (D := D) (ci := 2) (v := .int (a 0 4)) (C := RX2) (T := TX2) (N := 22) hx hb hts iw_X2 hown hK hP 0 rfl rfl 12 (by decide) (hts _ kf_X2_90) (fun _ h9 => h9) rfl dX2_storm_13 ?_
    rw [hd]
    refine lv_iload_n hx hb dX2_storm_16 rfl (lv_at hl 2 rfl) ?_
    refine lv_iadd hx hb dX2_storm_17 ?_
    refine lv_sipush (v := 400) hx hb dX2_storm_18 (by decide) ?_
    refine lv_icmp_le (tgt := 26) hx hb dX2_storm_21 (by decide) (fun c_21 => ?_) (fun c_21 => ?_)
    · -- jump at 21
      have hdy : m_days (nI d) y = true := by simp [m_days, c_9, c_21]
      obtain ⟨k, hk1, hk2, hk3, rfl⟩ := m_days_k hd4 hdy
      have hcl : (nI k).toNatClampNeg = k := nI_clamp (by omega)
      refine lv_lload_n hx hb dX2_storm_26 rfl (lv_at hl 1 rfl) ?_
      refine lv_lstore (lv' := [(4, .long x), (0, .ref (q 0)), (1, .long x), (3, .int (nI k))]) hx hb dX2_storm_27 hl (by decide) rfl (fun ls hl => ?_)
      refine lv_aload_n hx hb dX2_storm_29 rfl (lv_at hl 1 rfl) ?_
      refine va_get (D := D) (ci := 2) (v := .int (a 0 4)) (C := RX2) (T := TX2) (N := 22) hx hb hts iw_X2 hown hK hP 0 rfl rfl 12 (by decide) (hts _ kf_X2_90) (fun _ h9 => h9) rfl dX2_storm_30 ?_
      rw [hd]
      refine lv_istore (lv' := [(6, .int (nI d)), (4, .long x), (0, .ref (q 0)), (1, .long x), (3, .int (nI k))]) hx hb dX2_storm_33 hl (by decide) rfl (fun ls hl => ?_)
      have lp_35 : ∀ (t_35 i : Nat) , i + t_35 = k → ∀ (H : Heap) (locs : List Loc) (ls : Array Slot), va_P D vwCl (wM g q (va_up a 6 ((m_st (a 6) x d i).2)) b) H → va_D A (wM g q (va_up a 6 ((m_st (a 6) x d i).2)) b) → va_S A s.heap H locs → lv_has ls 7 [(6, .int (nI (d + i))), (4, .long ((m_st (a 6) x d i).1)), (0, .ref (q 0)), (3, .int (nI k))] → W p l e rm_M_storm s m args below meth cd_ H locs 0 0 Q (F0 m 35 ls []) := by
        intro t_35
        induction t_35 with
        | zero =>
          intro i hi_35 H locs ls hP hD hS hl
          obtain rfl : k = i := by omega
          refine lv_iload hx hb dX2_storm_35 (lv_at hl 0 rfl) ?_
          refine lv_aload_n hx hb dX2_storm_37 rfl (lv_at hl 2 rfl) ?_
          refine va_get (D := D) (ci := 2) (v := .int (a 0 4)) (C := RX2) (T := TX2) (N := 22) hx hb hts iw_X2 hown hK hP 0 rfl rfl 12 (by decide) (hts _ kf_X2_90) (fun _ h9 => h9) rfl dX2_storm_38 ?_
          rw [hd]
          refine lv_iload_n hx hb dX2_storm_41 rfl (lv_at hl 3 rfl) ?_
          refine lv_iadd hx hb dX2_storm_42 ?_
          rw [show (nI d) + (nI k) = nI (d + k) from nI_add d k]
          refine lv_icmp_ge (tgt := 77) hx hb dX2_storm_43 (by decide) (fun _ => ?_) (fun c_43 => absurd (nI_le (Nat.le_refl _) (by omega)) c_43)
          refine lv_iconst (v := 1) hx hb dX2_storm_77 (by decide) ?_
          exact hret 1 (va_up a 6 ((m_st (a 6) x d k).2), b) _ _ _ _ _ _ rfl (by simp [zb, hdy, hcl]) hP hD hS (Nat.le_of_ble_eq_true rfl) (Nat.le_of_ble_eq_true rfl) dX2_storm_78
        | succ t_35 ih_35 =>
          intro i hi_35 H locs ls hP hD hS hl
          refine lv_iload hx hb dX2_storm_35 (lv_at hl 0 rfl) ?_
          refine lv_aload_n hx hb dX2_storm_37 rfl (lv_at hl 2 rfl) ?_
          refine va_get (D := D) (ci := 2) (v := .int (a 0 4)) (C := RX2) (T := TX2) (N := 22) hx hb hts iw_X2 hown hK hP 0 rfl rfl 12 (by decide) (hts _ kf_X2_90) (fun _ h9 => h9) rfl dX2_storm_38 ?_
          rw [hd]
          refine lv_iload_n hx hb dX2_storm_41 rfl (lv_at hl 3 rfl) ?_
          refine lv_iadd hx hb dX2_storm_42 ?_
          rw [show (nI d) + (nI k) = nI (d + k) from nI_add d k]
          refine lv_icmp_ge (tgt := 77) hx hb dX2_storm_43 (by decide) (fun c_43 => absurd c_43 (nI_ge (by omega) (by omega))) (fun _ => ?_)
          refine lv_lload hx hb dX2_storm_46 (lv_at hl 1 rfl) ?_
          refine lv_ldc2 (v := 6364136223846793005) hx hb hown (hts _ kc_X2_97) dX2_storm_48 ?_
          refine lv_lmul hx hb dX2_storm_51 ?_
          refine lv_ldc2 (v := 1442695040888963407) hx hb hown (hts _ kc_X2_99) dX2_storm_52 ?_
          refine lv_ladd hx hb dX2_storm_55 ?_
          refine lv_lstore (lv' := [(4, .long ((((m_st (a 6) x d i).1) * 6364136223846793005) + 1442695040888963407)), (6, .int (nI (d + i))), (0, .ref (q 0)), (3, .int (nI k))]) hx hb dX2_storm_56 hl (by decide) rfl (fun ls hl => ?_)
          refine lv_aload_n hx hb dX2_storm_58 rfl (lv_at hl 2 rfl) ?_
          refine va_get (D := D) (ci := 2) (v := .ref (q 6)) (C := RX2) (T := TX2) (N := 22) hx hb hts iw_X2 hown hK hP 0 rfl rfl 11 (by decide) (hts _ kf_X2_26) (fun _ h9 => h9) rfl dX2_storm_59 ?_
          refine lv_iload hx hb dX2_storm_62 (lv_at hl 1 rfl) ?_
          refine lv_lload hx hb dX2_storm_64 (lv_at hl 0 rfl) ?_
          refine lv_bipush (v := 54) hx hb dX2_storm_66 (by decide) ?_
          refine lv_lushr (v := (((((m_st (a 6) x d i).1) * 6364136223846793005) + 1442695040888963407).toUInt64 >>> ((54 : Int32).toInt64.toUInt64 &&& Int64.toUInt64 63)).toInt64) hx hb dX2_storm_68 rfl ?_
          refine lv_l2i (v := ((((((m_st (a 6) x d i).1) * 6364136223846793005) + 1442695040888963407).toUInt64 >>> ((54 : Int32).toInt64.toUInt64 &&& Int64.toUInt64 63)).toInt64).toInt32) hx hb dX2_storm_69 rfl ?_
          refine za_iast (k := (d + i)) (x := ((((((m_st (a 6) x d i).1) * 6364136223846793005) + 1442695040888963407).toUInt64 >>> ((54 : Int32).toInt64.toUInt64 &&& Int64.toUInt64 63)).toInt64).toInt32) (f := ((m_st (a 6) x d i).2)) hx hb hK hP hD hS 6 0 rfl rfl rfl (by omega) (by decide) dX2_storm_70 (fun H locs hP hD hS => ?_)
          have hP : va_P D vwCl (wM g q (va_up a 6 (upd ((m_st (a 6) x d i).2) (d + i) (((((((m_st (a 6) x d i).1) * 6364136223846793005) + 1442695040888963407).toUInt64 >>> ((54 : Int32).toInt64.toUInt64 &&& Int64.toUInt64 63)).toInt64).toInt32))) b) H := hP
          have hD : va_D A (wM g q (va_up a 6 (upd ((m_st (a 6) x d i).2) (d + i) (((((((m_st (a 6) x d i).1) * 6364136223846793005) + 1442695040888963407).toUInt64 >>> ((54 : Int32).toInt64.toUInt64 &&& Int64.toUInt64 63)).toInt64).toInt32))) b) := hD
          refine lv_iinc (v := nI ((d + i) + 1)) (lv' := [(6, .int (nI ((d + i) + 1))), (4, .long ((((m_st (a 6) x d i).1) * 6364136223846793005) + 1442695040888963407)), (0, .ref (q 0)), (3, .int (nI k))]) hx hb dX2_storm_71 hl (k := 1) rfl (nI_1 (d + i)) (by decide) rfl (fun ls hl => ?_)
          refine lv_goto (tgt := 35) hx hb dX2_storm_74 (by decide) ?_
          have hP : va_P D vwCl (wM g q (va_up a 6 ((m_st (a 6) x d (i + 1)).2)) b) _ := hP
          have hD : va_D A (wM g q (va_up a 6 ((m_st (a 6) x d (i + 1)).2)) b) := hD
          have hl : lv_has ls 7 [(6, .int (nI (d + (i + 1)))), (4, .long ((m_st (a 6) x d (i + 1)).1)), (0, .ref (q 0)), (3, .int (nI k))] := lv_sub hl [0, 1, 2, 3] rfl
          exact ih_35 (i + 1)  (by omega)  _ _ _ hP hD hS hl
      exact lp_35 (k - 0) 0  (by omega)  _ _ _ hP hD hS (lv_sub hl [0, 1, 2, 4] rfl)
    · -- on at 21
      have hdy : m_days (nI d) y = false := by simp [m_days, c_21]
      refine lv_iconst (v := 0) hx hb dX2_storm_24 (by decide) ?_
      exact hret 0 (a, b) _ _ _ _ _ _ rfl (by simp [zb, hdy]) hP hD hS (Nat.le_of_ble_eq_true rfl) (Nat.le_of_ble_eq_true rfl) dX2_storm_25
def rm_M_stagesRun : Room := { frames := 1, cells := 0, slots := 0, locals := 22 }
set_option maxHeartbeats 4000000 in
set_option maxRecDepth 100000 in
theorem c_M_stagesRun (l : Launch) (D : va_G) (g : Nat → ClassId) (q : Nat → Nat) (a : Nat → Nat → Int32) (b : Nat → Nat → Int64) (sc : Nat) (hsc : a 0 3 = nI sc) (hsc4 : sc ≤ 4) (d : Nat) (hd : a 0 4 = nI d) (hd4 : d < 400) : zc_v l D (tyG g) yX2_stagesRun cX2_stagesRun 10 none rm_M_stagesRun [.ref (q 0)] (wM g q a b) (fun (u : (Nat → Nat → Int64)) => u = r_stg sc a b d) (fun u => wM g q a u) 0 0 := by
  refine zv_of (by decide) (Nat.le_of_ble_eq_true rfl) rfl ?_
  intro p e s m args below meth cd_ A Q ls C0 hnm hP hD hS hl hret
  obtain ⟨hx, hb, hr, hml, hlocks, hown, hts, hK, hA, hN⟩ := id C0
  have hl : lv_has ls 10 [(0, .ref (q 0))] := hl
  refine lv_aload_n hx hb dX2_stagesRun_0 rfl (lv_at hl 0 rfl) ?_
  refine va_get (D := D) (ci := 2) (v := .int (a 0 3)) (C := RX2) (T := TX2) (N := 22) hx hb hts iw_X2 hown hK hP 0 rfl rfl 8 (by decide) (hts _ kf_X2_87) (fun _ h9 => h9) rfl dX2_stagesRun_1 ?_
  rw [hsc]
  refine lv_if_ne (tgt := 8) hx hb dX2_stagesRun_4 (by decide) (fun c_4 => ?_) (fun c_4 => ?_)
  · -- jump at 4
    have hs0 : ¬ sc = 0 := fun h => c_4 (by rw [h]; rfl)
    refine lv_aload_n hx hb dX2_stagesRun_8 rfl (lv_at hl 0 rfl) ?_
    refine va_get (D := D) (ci := 2) (v := .ref (q 8)) (C := RX2) (T := TX2) (N := 22) hx hb hts iw_X2 hown hK hP 0 rfl rfl 13 (by decide) (hts _ kf_X2_29) (fun _ h9 => h9) rfl dX2_stagesRun_9 ?_
    refine lv_bipush (v := 7) hx hb dX2_stagesRun_12 (by decide) ?_
    refine za_lald (k := 7) (f := (b 8)) (v := b 8 7) hx hb hK hP 8 1 rfl rfl rfl (by decide) (by decide) rfl dX2_stagesRun_14 ?_
    refine lv_lstore_n (lv' := [(1, .long (b 8 7)), (0, .ref (q 0))]) hx hb dX2_stagesRun_15 rfl hl (by decide) rfl (fun ls hl => ?_)
    refine lv_lconst (v := 0) hx hb dX2_stagesRun_16 (by decide) ?_
    refine lv_lstore_n (lv' := [(3, .long 0), (1, .long (b 8 7)), (0, .ref (q 0))]) hx hb dX2_stagesRun_17 rfl hl (by decide) rfl (fun ls hl => ?_)
    refine lv_iconst (v := 0) hx hb dX2_stagesRun_18 (by decide) ?_
    refine lv_istore (lv' := [(5, .int 0), (3, .long 0), (1, .long (b 8 7)), (0, .ref (q 0))]) hx hb dX2_stagesRun_19 hl (by decide) rfl (fun ls hl => ?_)
    have lp_21 : ∀ (t_21 i : Nat) , i + t_21 = sc → ∀ (H : Heap) (locs : List Loc) (ls : Array Slot), va_P D vwCl (wM g q a (va_up b 8 ((r_cl (a 4) (a 5) (b 8) i).1))) H → va_D A (wM g q a (va_up b 8 ((r_cl (a 4) (a 5) (b 8) i).1))) → va_S A s.heap H locs → lv_has ls 10 [(5, .int (nI i)), (1, .long ((r_cl (a 4) (a 5) (b 8) i).2.1)), (3, .long ((r_cl (a 4) (a 5) (b 8) i).2.2)), (0, .ref (q 0))] → W p l e rm_M_stagesRun s m args below meth cd_ H locs 0 0 Q (F0 m 21 ls []) := by
      intro t_21
      induction t_21 with
      | zero =>
        intro i hi_21 H locs ls hP hD hS hl
        obtain rfl : sc = i := by omega
        refine lv_iload hx hb dX2_stagesRun_21 (lv_at hl 0 rfl) ?_
        refine lv_aload_n hx hb dX2_stagesRun_23 rfl (lv_at hl 3 rfl) ?_
        refine va_get (D := D) (ci := 2) (v := .int (a 0 3)) (C := RX2) (T := TX2) (N := 22) hx hb hts iw_X2 hown hK hP 0 rfl rfl 8 (by decide) (hts _ kf_X2_87) (fun _ h9 => h9) rfl dX2_stagesRun_24 ?_
        rw [hsc]
        refine lv_icmp_ge (tgt := 101) hx hb dX2_stagesRun_27 (by decide) (fun _ => ?_) (fun c_27 => absurd (nI_le (Nat.le_refl _) (by omega)) c_27)
        refine lv_aload_n hx hb dX2_stagesRun_101 rfl (lv_at hl 3 rfl) ?_
        refine va_get (D := D) (ci := 2) (v := .ref (q 8)) (C := RX2) (T := TX2) (N := 22) hx hb hts iw_X2 hown hK hP 0 rfl rfl 13 (by decide) (hts _ kf_X2_29) (fun _ h9 => h9) rfl dX2_stagesRun_102 ?_
        refine lv_bipush (v := 7) hx hb dX2_stagesRun_105 (by decide) ?_
        refine lv_lload_n hx hb dX2_stagesRun_107 rfl (lv_at hl 2 rfl) ?_
        refine za_last (k := 7) (x := (r_cl (a 4) (a 5) (b 8) sc).2.2) (f := ((r_cl (a 4) (a 5) (b 8) sc).1)) hx hb hK hP hD hS 8 1 rfl rfl rfl (by decide) (by decide) dX2_stagesRun_108 (fun H locs hP hD hS => ?_)
        have hP : va_P D vwCl (wM g q a (va_up b 8 (vp_updL ((r_cl (a 4) (a 5) (b 8) sc).1) 7 ((r_cl (a 4) (a 5) (b 8) sc).2.2)))) H := hP
        have hD : va_D A (wM g q a (va_up b 8 (vp_updL ((r_cl (a 4) (a 5) (b 8) sc).1) 7 ((r_cl (a 4) (a 5) (b 8) sc).2.2)))) := hD
        refine lv_aload_n hx hb dX2_stagesRun_109 rfl (lv_at hl 3 rfl) ?_
        refine va_get (D := D) (ci := 2) (v := .ref (q 8)) (C := RX2) (T := TX2) (N := 22) hx hb hts iw_X2 hown hK hP 0 rfl rfl 13 (by decide) (hts _ kf_X2_29) (fun _ h9 => h9) rfl dX2_stagesRun_110 ?_
        refine lv_bipush (v := 8) hx hb dX2_stagesRun_113 (by decide) ?_
        refine lv_lload_n hx hb dX2_stagesRun_115 rfl (lv_at hl 1 rfl) ?_
        refine lv_aload_n hx hb dX2_stagesRun_116 rfl (lv_at hl 3 rfl) ?_
        refine va_get (D := D) (ci := 2) (v := .int (a 0 2)) (C := RX2) (T := TX2) (N := 22) hx hb hts iw_X2 hown hK hP 0 rfl rfl 6 (by decide) (hts _ kf_X2_79) (fun _ h9 => h9) rfl dX2_stagesRun_117 ?_
        refine zk_pl (rest := [.int 8, .ref (q 8)]) C0 hP hD hS (c_M_partsOf l D (tyG g) ((r_cl (a 4) (a 5) (b 8) sc).2.1) (a 0 2)) kk_X2_103 hl.1 rfl rfl (Nat.le_of_ble_eq_true rfl) ⟨(Nat.le_of_ble_eq_true rfl), (Nat.le_of_ble_eq_true rfl)⟩ rfl rfl ⟨(Nat.le_of_ble_eq_true rfl), (Nat.le_of_ble_eq_true rfl)⟩ dX2_stagesRun_120 (fun r_120 H locs hw_120 hP hS => ?_)
        obtain rfl := hw_120
        refine za_last (k := 8) (x := m_of (a 0 2) ((r_cl (a 4) (a 5) (b 8) sc).2.1)) (f := (vp_updL ((r_cl (a 4) (a 5) (b 8) sc).1) 7 ((r_cl (a 4) (a 5) (b 8) sc).2.2))) hx hb hK hP hD hS 8 1 rfl rfl rfl (by decide) (by decide) dX2_stagesRun_123 (fun H locs hP hD hS => ?_)
        have hP : va_P D vwCl (wM g q a (va_up b 8 (vp_updL (vp_updL ((r_cl (a 4) (a 5) (b 8) sc).1) 7 ((r_cl (a 4) (a 5) (b 8) sc).2.2)) 8 (m_of (a 0 2) ((r_cl (a 4) (a 5) (b 8) sc).2.1))))) H := hP
        have hD : va_D A (wM g q a (va_up b 8 (vp_updL (vp_updL ((r_cl (a 4) (a 5) (b 8) sc).1) 7 ((r_cl (a 4) (a 5) (b 8) sc).2.2)) 8 (m_of (a 0 2) ((r_cl (a 4) (a 5) (b 8) sc).2.1))))) := hD
        refine lv_aload_n hx hb dX2_stagesRun_124 rfl (lv_at hl 3 rfl) ?_
        refine va_get (D := D) (ci := 2) (v := .ref (q 7)) (C := RX2) (T := TX2) (N := 22) hx hb hts iw_X2 hown hK hP 0 rfl rfl 14 (by decide) (hts _ kf_X2_32) (fun _ h9 => h9) rfl dX2_stagesRun_125 ?_
        refine lv_aload_n hx hb dX2_stagesRun_128 rfl (lv_at hl 3 rfl) ?_
        refine va_get (D := D) (ci := 2) (v := .int (a 0 4)) (C := RX2) (T := TX2) (N := 22) hx hb hts iw_X2 hown hK hP 0 rfl rfl 12 (by decide) (hts _ kf_X2_90) (fun _ h9 => h9) rfl dX2_stagesRun_129 ?_
        rw [hd]
        refine lv_lload_n hx hb dX2_stagesRun_132 rfl (lv_at hl 1 rfl) ?_
        refine lv_aload_n hx hb dX2_stagesRun_133 rfl (lv_at hl 3 rfl) ?_
        refine va_get (D := D) (ci := 2) (v := .ref (q 8)) (C := RX2) (T := TX2) (N := 22) hx hb hts iw_X2 hown hK hP 0 rfl rfl 13 (by decide) (hts _ kf_X2_29) (fun _ h9 => h9) rfl dX2_stagesRun_134 ?_
        refine lv_bipush (v := 8) hx hb dX2_stagesRun_137 (by decide) ?_
        refine za_lald (k := 8) (f := (vp_updL (vp_updL ((r_cl (a 4) (a 5) (b 8) sc).1) 7 ((r_cl (a 4) (a 5) (b 8) sc).2.2)) 8 (m_of (a 0 2) ((r_cl (a 4) (a 5) (b 8) sc).2.1)))) (v := m_of (a 0 2) ((r_cl (a 4) (a 5) (b 8) sc).2.1)) hx hb hK hP 8 1 rfl rfl rfl (by decide) (by decide) rfl dX2_stagesRun_139 ?_
        refine lv_lsub hx hb dX2_stagesRun_140 ?_
        refine za_last (k := d) (x := ((r_cl (a 4) (a 5) (b 8) sc).2.1) - (m_of (a 0 2) ((r_cl (a 4) (a 5) (b 8) sc).2.1))) (f := (b 7)) hx hb hK hP hD hS 7 1 rfl rfl rfl (by omega) (by decide) dX2_stagesRun_141 (fun H locs hP hD hS => ?_)
        have hP : va_P D vwCl (wM g q a (va_up (va_up b 7 (vp_updL (b 7) d (((r_cl (a 4) (a 5) (b 8) sc).2.1) - (m_of (a 0 2) ((r_cl (a 4) (a 5) (b 8) sc).2.1))))) 8 (vp_updL (vp_updL ((r_cl (a 4) (a 5) (b 8) sc).1) 7 ((r_cl (a 4) (a 5) (b 8) sc).2.2)) 8 (m_of (a 0 2) ((r_cl (a 4) (a 5) (b 8) sc).2.1))))) H := hP
        have hD : va_D A (wM g q a (va_up (va_up b 7 (vp_updL (b 7) d (((r_cl (a 4) (a 5) (b 8) sc).2.1) - (m_of (a 0 2) ((r_cl (a 4) (a 5) (b 8) sc).2.1))))) 8 (vp_updL (vp_updL ((r_cl (a 4) (a 5) (b 8) sc).1) 7 ((r_cl (a 4) (a 5) (b 8) sc).2.2)) 8 (m_of (a 0 2) ((r_cl (a 4) (a 5) (b 8) sc).2.1))))) := hD
        refine lv_aload_n hx hb dX2_stagesRun_142 rfl (lv_at hl 3 rfl) ?_
        refine va_get (D := D) (ci := 2) (v := .ref (q 8)) (C := RX2) (T := TX2) (N := 22) hx hb hts iw_X2 hown hK hP 0 rfl rfl 13 (by decide) (hts _ kf_X2_29) (fun _ h9 => h9) rfl dX2_stagesRun_143 ?_
        refine lv_bipush (v := 6) hx hb dX2_stagesRun_146 (by decide) ?_
        refine lv_dup2_11 hx hb dX2_stagesRun_148 rfl rfl ?_
        refine za_lald (k := 6) (f := (vp_updL (vp_updL ((r_cl (a 4) (a 5) (b 8) sc).1) 7 ((r_cl (a 4) (a 5) (b 8) sc).2.2)) 8 (m_of (a 0 2) ((r_cl (a 4) (a 5) (b 8) sc).2.1)))) (v := (r_cl (a 4) (a 5) (b 8) sc).1 6) hx hb hK hP 8 1 rfl rfl rfl (by decide) (by decide) rfl dX2_stagesRun_149 ?_
        refine lv_aload_n hx hb dX2_stagesRun_150 rfl (lv_at hl 3 rfl) ?_
        refine va_get (D := D) (ci := 2) (v := .ref (q 7)) (C := RX2) (T := TX2) (N := 22) hx hb hts iw_X2 hown hK hP 0 rfl rfl 14 (by decide) (hts _ kf_X2_32) (fun _ h9 => h9) rfl dX2_stagesRun_151 ?_
        refine lv_aload_n hx hb dX2_stagesRun_154 rfl (lv_at hl 3 rfl) ?_
        refine va_get (D := D) (ci := 2) (v := .int (a 0 4)) (C := RX2) (T := TX2) (N := 22) hx hb hts iw_X2 hown hK hP 0 rfl rfl 12 (by decide) (hts _ kf_X2_90) (fun _ h9 => h9) rfl dX2_stagesRun_155 ?_
        rw [hd]
        refine za_lald (k := d) (f := (vp_updL (b 7) d (((r_cl (a 4) (a 5) (b 8) sc).2.1) - (m_of (a 0 2) ((r_cl (a 4) (a 5) (b 8) sc).2.1))))) (v := ((r_cl (a 4) (a 5) (b 8) sc).2.1) - (m_of (a 0 2) ((r_cl (a 4) (a 5) (b 8) sc).2.1))) hx hb hK hP 7 1 rfl rfl rfl (by omega) (by decide) pk_uLs dX2_stagesRun_158 ?_
        refine lv_ladd hx hb dX2_stagesRun_159 ?_
        refine za_last (k := 6) (x := ((r_cl (a 4) (a 5) (b 8) sc).1 6) + (((r_cl (a 4) (a 5) (b 8) sc).2.1) - (m_of (a 0 2) ((r_cl (a 4) (a 5) (b 8) sc).2.1)))) (f := (vp_updL (vp_updL ((r_cl (a 4) (a 5) (b 8) sc).1) 7 ((r_cl (a 4) (a 5) (b 8) sc).2.2)) 8 (m_of (a 0 2) ((r_cl (a 4) (a 5) (b 8) sc).2.1)))) hx hb hK hP hD hS 8 1 rfl rfl rfl (by decide) (by decide) dX2_stagesRun_160 (fun H locs hP hD hS => ?_)
        have hP : va_P D vwCl (wM g q a (va_up (va_up b 7 (vp_updL (b 7) d (((r_cl (a 4) (a 5) (b 8) sc).2.1) - (m_of (a 0 2) ((r_cl (a 4) (a 5) (b 8) sc).2.1))))) 8 (vp_updL (vp_updL (vp_updL ((r_cl (a 4) (a 5) (b 8) sc).1) 7 ((r_cl (a 4) (a 5) (b 8) sc).2.2)) 8 (m_of (a 0 2) ((r_cl (a 4) (a 5) (b 8) sc).2.1))) 6 (((r_cl (a 4) (a 5) (b 8) sc).1 6) + (((r_cl (a 4) (a 5) (b 8) sc).2.1) - (m_of (a 0 2) ((r_cl (a 4) (a 5) (b 8) sc).2.1))))))) H := hP
        have hD : va_D A (wM g q a (va_up (va_up b 7 (vp_updL (b 7) d (((r_cl (a 4) (a 5) (b 8) sc).2.1) - (m_of (a 0 2) ((r_cl (a 4) (a 5) (b 8) sc).2.1))))) 8 (vp_updL (vp_updL (vp_updL ((r_cl (a 4) (a 5) (b 8) sc).1) 7 ((r_cl (a 4) (a 5) (b 8) sc).2.2)) 8 (m_of (a 0 2) ((r_cl (a 4) (a 5) (b 8) sc).2.1))) 6 (((r_cl (a 4) (a 5) (b 8) sc).1 6) + (((r_cl (a 4) (a 5) (b 8) sc).2.1) - (m_of (a 0 2) ((r_cl (a 4) (a 5) (b 8) sc).2.1))))))) := hD
        exact hret (va_up (va_up b 7 (vp_updL (b 7) d (((r_cl (a 4) (a 5) (b 8) sc).2.1) - (m_of (a 0 2) ((r_cl (a 4) (a 5) (b 8) sc).2.1))))) 8 (vp_updL (vp_updL (vp_updL ((r_cl (a 4) (a 5) (b 8) sc).1) 7 ((r_cl (a 4) (a 5) (b 8) sc).2.2)) 8 (m_of (a 0 2) ((r_cl (a 4) (a 5) (b 8) sc).2.1))) 6 (((r_cl (a 4) (a 5) (b 8) sc).1 6) + (((r_cl (a 4) (a 5) (b 8) sc).2.1) - (m_of (a 0 2) ((r_cl (a 4) (a 5) (b 8) sc).2.1)))))) _ _ _ _ _ _ (by first | exact (if_pos hs0).symm | exact (if_neg hs0).symm) hP hD hS (Nat.le_of_ble_eq_true rfl) (Nat.le_of_ble_eq_true rfl) dX2_stagesRun_161
      | succ t_21 ih_21 =>
        intro i hi_21 H locs ls hP hD hS hl
        refine lv_iload hx hb dX2_stagesRun_21 (lv_at hl 0 rfl) ?_
        refine lv_aload_n hx hb dX2_stagesRun_23 rfl (lv_at hl 3 rfl) ?_
        refine va_get (D := D) (ci := 2) (v := .int (a 0 3)) (C := RX2) (T := TX2) (N := 22) hx hb hts iw_X2 hown hK hP 0 rfl rfl 8 (by decide) (hts _ kf_X2_87) (fun _ h9 => h9) rfl dX2_stagesRun_24 ?_
        rw [hsc]
        refine lv_icmp_ge (tgt := 101) hx hb dX2_stagesRun_27 (by decide) (fun c_27 => absurd c_27 (nI_ge (by omega) (by omega))) (fun _ => ?_)
        refine lv_lload_n hx hb dX2_stagesRun_30 rfl (lv_at hl 1 rfl) ?_
        refine lv_aload_n hx hb dX2_stagesRun_31 rfl (lv_at hl 3 rfl) ?_
        refine va_get (D := D) (ci := 2) (v := .ref (q 4)) (C := RX2) (T := TX2) (N := 22) hx hb hts iw_X2 hown hK hP 0 rfl rfl 9 (by decide) (hts _ kf_X2_20) (fun _ h9 => h9) rfl dX2_stagesRun_32 ?_
        refine lv_iload hx hb dX2_stagesRun_35 (lv_at hl 0 rfl) ?_
        refine za_iald (k := i) (f := (a 4)) (v := a 4 i) hx hb hK hP 4 0 rfl rfl rfl (by omega) (by decide) rfl dX2_stagesRun_37 ?_
        refine lv_i2l (v := (a 4 i).toInt64) hx hb dX2_stagesRun_38 rfl ?_
        refine zl_ge (tgt := 47) hx hb dX2_stagesRun_39 dX2_stagesRun_40 (by decide) (fun c_39 => ?_) (fun c_39 => ?_)
        · -- jump at 39
          refine lv_aload_n hx hb dX2_stagesRun_47 rfl (lv_at hl 3 rfl) ?_
          refine va_get (D := D) (ci := 2) (v := .ref (q 4)) (C := RX2) (T := TX2) (N := 22) hx hb hts iw_X2 hown hK hP 0 rfl rfl 9 (by decide) (hts _ kf_X2_20) (fun _ h9 => h9) rfl dX2_stagesRun_48 ?_
          refine lv_iload hx hb dX2_stagesRun_51 (lv_at hl 0 rfl) ?_
          refine za_iald (k := i) (f := (a 4)) (v := a 4 i) hx hb hK hP 4 0 rfl rfl rfl (by omega) (by decide) rfl dX2_stagesRun_53 ?_
          refine lv_i2l (v := (a 4 i).toInt64) hx hb dX2_stagesRun_54 rfl ?_
          refine lv_topl (fun t9_1 et9_1 => ?_)
          obtain rfl : t9_1 = m_min (a 4 i).toInt64 (r_cl (a 4) (a 5) (b 8) i).2.1 := et9_1.trans (m_min_ge c_39)
          refine lv_lstore (lv' := [(6, .long (m_min (a 4 i).toInt64 (r_cl (a 4) (a 5) (b 8) i).2.1)), (5, .int (nI i)), (1, .long ((r_cl (a 4) (a 5) (b 8) i).2.1)), (3, .long ((r_cl (a 4) (a 5) (b 8) i).2.2)), (0, .ref (q 0))]) hx hb dX2_stagesRun_55 hl (by decide) rfl (fun ls hl => ?_)
          refine lv_lload_n hx hb dX2_stagesRun_57 rfl (lv_at hl 3 rfl) ?_
          refine lv_lload_n hx hb dX2_stagesRun_58 rfl (lv_at hl 2 rfl) ?_
          refine lv_lload hx hb dX2_stagesRun_59 (lv_at hl 0 rfl) ?_
          refine lv_lsub hx hb dX2_stagesRun_61 ?_
          refine lv_ladd hx hb dX2_stagesRun_62 ?_
          refine lv_lstore_n (lv' := [(3, .long (((r_cl (a 4) (a 5) (b 8) i).2.2) + (((r_cl (a 4) (a 5) (b 8) i).2.1) - (m_min (a 4 i).toInt64 (r_cl (a 4) (a 5) (b 8) i).2.1)))), (6, .long (m_min (a 4 i).toInt64 (r_cl (a 4) (a 5) (b 8) i).2.1)), (5, .int (nI i)), (1, .long ((r_cl (a 4) (a 5) (b 8) i).2.1)), (0, .ref (q 0))]) hx hb dX2_stagesRun_63 rfl hl (by decide) rfl (fun ls hl => ?_)
          refine lv_lload hx hb dX2_stagesRun_64 (lv_at hl 1 rfl) ?_
          refine lv_aload_n hx hb dX2_stagesRun_66 rfl (lv_at hl 4 rfl) ?_
          refine va_get (D := D) (ci := 2) (v := .ref (q 5)) (C := RX2) (T := TX2) (N := 22) hx hb hts iw_X2 hown hK hP 0 rfl rfl 10 (by decide) (hts _ kf_X2_23) (fun _ h9 => h9) rfl dX2_stagesRun_67 ?_
          refine lv_iload hx hb dX2_stagesRun_70 (lv_at hl 2 rfl) ?_
          refine za_iald (k := i) (f := (a 5)) (v := a 5 i) hx hb hK hP 5 0 rfl rfl rfl (by omega) (by decide) rfl dX2_stagesRun_72 ?_
          refine zk_pl (rest := []) C0 hP hD hS (c_M_partsOf l D (tyG g) (m_min (a 4 i).toInt64 (r_cl (a 4) (a 5) (b 8) i).2.1) (a 5 i)) kk_X2_103 hl.1 rfl rfl (Nat.le_of_ble_eq_true rfl) ⟨(Nat.le_of_ble_eq_true rfl), (Nat.le_of_ble_eq_true rfl)⟩ rfl rfl ⟨(Nat.le_of_ble_eq_true rfl), (Nat.le_of_ble_eq_true rfl)⟩ dX2_stagesRun_73 (fun r_73 H locs hw_73 hP hS => ?_)
          obtain rfl := hw_73
          refine lv_lstore (lv' := [(8, .long (m_of (a 5 i) (m_min (a 4 i).toInt64 (r_cl (a 4) (a 5) (b 8) i).2.1))), (3, .long (((r_cl (a 4) (a 5) (b 8) i).2.2) + (((r_cl (a 4) (a 5) (b 8) i).2.1) - (m_min (a 4 i).toInt64 (r_cl (a 4) (a 5) (b 8) i).2.1)))), (6, .long (m_min (a 4 i).toInt64 (r_cl (a 4) (a 5) (b 8) i).2.1)), (5, .int (nI i)), (1, .long ((r_cl (a 4) (a 5) (b 8) i).2.1)), (0, .ref (q 0))]) hx hb dX2_stagesRun_76 hl (by decide) rfl (fun ls hl => ?_)
          refine lv_aload_n hx hb dX2_stagesRun_78 rfl (lv_at hl 5 rfl) ?_
          refine va_get (D := D) (ci := 2) (v := .ref (q 8)) (C := RX2) (T := TX2) (N := 22) hx hb hts iw_X2 hown hK hP 0 rfl rfl 13 (by decide) (hts _ kf_X2_29) (fun _ h9 => h9) rfl dX2_stagesRun_79 ?_
          refine lv_iconst (v := 5) hx hb dX2_stagesRun_82 (by decide) ?_
          refine lv_dup2_11 hx hb dX2_stagesRun_83 rfl rfl ?_
          refine za_lald (k := 5) (f := ((r_cl (a 4) (a 5) (b 8) i).1)) (v := (r_cl (a 4) (a 5) (b 8) i).1 5) hx hb hK hP 8 1 rfl rfl rfl (by decide) (by decide) rfl dX2_stagesRun_84 ?_
          refine lv_lload hx hb dX2_stagesRun_85 (lv_at hl 0 rfl) ?_
          refine lv_ladd hx hb dX2_stagesRun_87 ?_
          refine za_last (k := 5) (x := ((r_cl (a 4) (a 5) (b 8) i).1 5) + (m_of (a 5 i) (m_min (a 4 i).toInt64 (r_cl (a 4) (a 5) (b 8) i).2.1))) (f := ((r_cl (a 4) (a 5) (b 8) i).1)) hx hb hK hP hD hS 8 1 rfl rfl rfl (by decide) (by decide) dX2_stagesRun_88 (fun H locs hP hD hS => ?_)
          have hP : va_P D vwCl (wM g q a (va_up b 8 (vp_updL ((r_cl (a 4) (a 5) (b 8) i).1) 5 (((r_cl (a 4) (a 5) (b 8) i).1 5) + (m_of (a 5 i) (m_min (a 4 i).toInt64 (r_cl (a 4) (a 5) (b 8) i).2.1)))))) H := hP
          have hD : va_D A (wM g q a (va_up b 8 (vp_updL ((r_cl (a 4) (a 5) (b 8) i).1) 5 (((r_cl (a 4) (a 5) (b 8) i).1 5) + (m_of (a 5 i) (m_min (a 4 i).toInt64 (r_cl (a 4) (a 5) (b 8) i).2.1)))))) := hD
          refine lv_lload hx hb dX2_stagesRun_89 (lv_at hl 2 rfl) ?_
          refine lv_lload hx hb dX2_stagesRun_91 (lv_at hl 0 rfl) ?_
          refine lv_lsub hx hb dX2_stagesRun_93 ?_
          refine lv_lstore_n (lv' := [(1, .long ((m_min (a 4 i).toInt64 (r_cl (a 4) (a 5) (b 8) i).2.1) - (m_of (a 5 i) (m_min (a 4 i).toInt64 (r_cl (a 4) (a 5) (b 8) i).2.1)))), (8, .long (m_of (a 5 i) (m_min (a 4 i).toInt64 (r_cl (a 4) (a 5) (b 8) i).2.1))), (3, .long (((r_cl (a 4) (a 5) (b 8) i).2.2) + (((r_cl (a 4) (a 5) (b 8) i).2.1) - (m_min (a 4 i).toInt64 (r_cl (a 4) (a 5) (b 8) i).2.1)))), (6, .long (m_min (a 4 i).toInt64 (r_cl (a 4) (a 5) (b 8) i).2.1)), (5, .int (nI i)), (0, .ref (q 0))]) hx hb dX2_stagesRun_94 rfl hl (by decide) rfl (fun ls hl => ?_)
          refine lv_iinc (v := nI (i + 1)) (lv' := [(5, .int (nI (i + 1))), (1, .long ((m_min (a 4 i).toInt64 (r_cl (a 4) (a 5) (b 8) i).2.1) - (m_of (a 5 i) (m_min (a 4 i).toInt64 (r_cl (a 4) (a 5) (b 8) i).2.1)))), (8, .long (m_of (a 5 i) (m_min (a 4 i).toInt64 (r_cl (a 4) (a 5) (b 8) i).2.1))), (3, .long (((r_cl (a 4) (a 5) (b 8) i).2.2) + (((r_cl (a 4) (a 5) (b 8) i).2.1) - (m_min (a 4 i).toInt64 (r_cl (a 4) (a 5) (b 8) i).2.1)))), (6, .long (m_min (a 4 i).toInt64 (r_cl (a 4) (a 5) (b 8) i).2.1)), (0, .ref (q 0))]) hx hb dX2_stagesRun_95 hl (k := 4) rfl (nI_1 i) (by decide) rfl (fun ls hl => ?_)
          refine lv_goto (tgt := 21) hx hb dX2_stagesRun_98 (by decide) ?_
          have hP : va_P D vwCl (wM g q a (va_up b 8 ((r_cl (a 4) (a 5) (b 8) (i + 1)).1))) _ := hP
          have hD : va_D A (wM g q a (va_up b 8 ((r_cl (a 4) (a 5) (b 8) (i + 1)).1))) := hD
          have hl : lv_has ls 10 [(5, .int (nI (i + 1))), (1, .long ((r_cl (a 4) (a 5) (b 8) (i + 1)).2.1)), (3, .long ((r_cl (a 4) (a 5) (b 8) (i + 1)).2.2)), (0, .ref (q 0))] := lv_sub hl [0, 1, 3, 5] rfl
          exact ih_21 (i + 1)  (by omega)  _ _ _ hP hD hS hl
        · -- on at 39
          refine lv_lload_n hx hb dX2_stagesRun_43 rfl (lv_at hl 1 rfl) ?_
          refine lv_goto (tgt := 55) hx hb dX2_stagesRun_44 (by decide) ?_
          refine lv_topl (fun t9_2 et9_2 => ?_)
          obtain rfl : t9_2 = m_min (a 4 i).toInt64 (r_cl (a 4) (a 5) (b 8) i).2.1 := et9_2.trans (m_min_lt c_39)
          refine lv_lstore (lv' := [(6, .long (m_min (a 4 i).toInt64 (r_cl (a 4) (a 5) (b 8) i).2.1)), (5, .int (nI i)), (1, .long ((r_cl (a 4) (a 5) (b 8) i).2.1)), (3, .long ((r_cl (a 4) (a 5) (b 8) i).2.2)), (0, .ref (q 0))]) hx hb dX2_stagesRun_55 hl (by decide) rfl (fun ls hl => ?_)
          refine lv_lload_n hx hb dX2_stagesRun_57 rfl (lv_at hl 3 rfl) ?_
          refine lv_lload_n hx hb dX2_stagesRun_58 rfl (lv_at hl 2 rfl) ?_
          refine lv_lload hx hb dX2_stagesRun_59 (lv_at hl 0 rfl) ?_
          refine lv_lsub hx hb dX2_stagesRun_61 ?_
          refine lv_ladd hx hb dX2_stagesRun_62 ?_
          refine lv_lstore_n (lv' := [(3, .long (((r_cl (a 4) (a 5) (b 8) i).2.2) + (((r_cl (a 4) (a 5) (b 8) i).2.1) - (m_min (a 4 i).toInt64 (r_cl (a 4) (a 5) (b 8) i).2.1)))), (6, .long (m_min (a 4 i).toInt64 (r_cl (a 4) (a 5) (b 8) i).2.1)), (5, .int (nI i)), (1, .long ((r_cl (a 4) (a 5) (b 8) i).2.1)), (0, .ref (q 0))]) hx hb dX2_stagesRun_63 rfl hl (by decide) rfl (fun ls hl => ?_)
          refine lv_lload hx hb dX2_stagesRun_64 (lv_at hl 1 rfl) ?_
          refine lv_aload_n hx hb dX2_stagesRun_66 rfl (lv_at hl 4 rfl) ?_
          refine va_get (D := D) (ci := 2) (v := .ref (q 5)) (C := RX2) (T := TX2) (N := 22) hx hb hts iw_X2 hown hK hP 0 rfl rfl 10 (by decide) (hts _ kf_X2_23) (fun _ h9 => h9) rfl dX2_stagesRun_67 ?_
          refine lv_iload hx hb dX2_stagesRun_70 (lv_at hl 2 rfl) ?_
          refine za_iald (k := i) (f := (a 5)) (v := a 5 i) hx hb hK hP 5 0 rfl rfl rfl (by omega) (by decide) rfl dX2_stagesRun_72 ?_
          refine zk_pl (rest := []) C0 hP hD hS (c_M_partsOf l D (tyG g) (m_min (a 4 i).toInt64 (r_cl (a 4) (a 5) (b 8) i).2.1) (a 5 i)) kk_X2_103 hl.1 rfl rfl (Nat.le_of_ble_eq_true rfl) ⟨(Nat.le_of_ble_eq_true rfl), (Nat.le_of_ble_eq_true rfl)⟩ rfl rfl ⟨(Nat.le_of_ble_eq_true rfl), (Nat.le_of_ble_eq_true rfl)⟩ dX2_stagesRun_73 (fun r_73 H locs hw_73 hP hS => ?_)
          obtain rfl := hw_73
          refine lv_lstore (lv' := [(8, .long (m_of (a 5 i) (m_min (a 4 i).toInt64 (r_cl (a 4) (a 5) (b 8) i).2.1))), (3, .long (((r_cl (a 4) (a 5) (b 8) i).2.2) + (((r_cl (a 4) (a 5) (b 8) i).2.1) - (m_min (a 4 i).toInt64 (r_cl (a 4) (a 5) (b 8) i).2.1)))), (6, .long (m_min (a 4 i).toInt64 (r_cl (a 4) (a 5) (b 8) i).2.1)), (5, .int (nI i)), (1, .long ((r_cl (a 4) (a 5) (b 8) i).2.1)), (0, .ref (q 0))]) hx hb dX2_stagesRun_76 hl (by decide) rfl (fun ls hl => ?_)
          refine lv_aload_n hx hb dX2_stagesRun_78 rfl (lv_at hl 5 rfl) ?_
          refine va_get (D := D) (ci := 2) (v := .ref (q 8)) (C := RX2) (T := TX2) (N := 22) hx hb hts iw_X2 hown hK hP 0 rfl rfl 13 (by decide) (hts _ kf_X2_29) (fun _ h9 => h9) rfl dX2_stagesRun_79 ?_
          refine lv_iconst (v := 5) hx hb dX2_stagesRun_82 (by decide) ?_
          refine lv_dup2_11 hx hb dX2_stagesRun_83 rfl rfl ?_
          refine za_lald (k := 5) (f := ((r_cl (a 4) (a 5) (b 8) i).1)) (v := (r_cl (a 4) (a 5) (b 8) i).1 5) hx hb hK hP 8 1 rfl rfl rfl (by decide) (by decide) rfl dX2_stagesRun_84 ?_
          refine lv_lload hx hb dX2_stagesRun_85 (lv_at hl 0 rfl) ?_
          refine lv_ladd hx hb dX2_stagesRun_87 ?_
          refine za_last (k := 5) (x := ((r_cl (a 4) (a 5) (b 8) i).1 5) + (m_of (a 5 i) (m_min (a 4 i).toInt64 (r_cl (a 4) (a 5) (b 8) i).2.1))) (f := ((r_cl (a 4) (a 5) (b 8) i).1)) hx hb hK hP hD hS 8 1 rfl rfl rfl (by decide) (by decide) dX2_stagesRun_88 (fun H locs hP hD hS => ?_)
          have hP : va_P D vwCl (wM g q a (va_up b 8 (vp_updL ((r_cl (a 4) (a 5) (b 8) i).1) 5 (((r_cl (a 4) (a 5) (b 8) i).1 5) + (m_of (a 5 i) (m_min (a 4 i).toInt64 (r_cl (a 4) (a 5) (b 8) i).2.1)))))) H := hP
          have hD : va_D A (wM g q a (va_up b 8 (vp_updL ((r_cl (a 4) (a 5) (b 8) i).1) 5 (((r_cl (a 4) (a 5) (b 8) i).1 5) + (m_of (a 5 i) (m_min (a 4 i).toInt64 (r_cl (a 4) (a 5) (b 8) i).2.1)))))) := hD
          refine lv_lload hx hb dX2_stagesRun_89 (lv_at hl 2 rfl) ?_
          refine lv_lload hx hb dX2_stagesRun_91 (lv_at hl 0 rfl) ?_
          refine lv_lsub hx hb dX2_stagesRun_93 ?_
          refine lv_lstore_n (lv' := [(1, .long ((m_min (a 4 i).toInt64 (r_cl (a 4) (a 5) (b 8) i).2.1) - (m_of (a 5 i) (m_min (a 4 i).toInt64 (r_cl (a 4) (a 5) (b 8) i).2.1)))), (8, .long (m_of (a 5 i) (m_min (a 4 i).toInt64 (r_cl (a 4) (a 5) (b 8) i).2.1))), (3, .long (((r_cl (a 4) (a 5) (b 8) i).2.2) + (((r_cl (a 4) (a 5) (b 8) i).2.1) - (m_min (a 4 i).toInt64 (r_cl (a 4) (a 5) (b 8) i).2.1)))), (6, .long (m_min (a 4 i).toInt64 (r_cl (a 4) (a 5) (b 8) i).2.1)), (5, .int (nI i)), (0, .ref (q 0))]) hx hb dX2_stagesRun_94 rfl hl (by decide) rfl (fun ls hl => ?_)
          refine lv_iinc (v := nI (i + 1)) (lv' := [(5, .int (nI (i + 1))), (1, .long ((m_min (a 4 i).toInt64 (r_cl (a 4) (a 5) (b 8) i).2.1) - (m_of (a 5 i) (m_min (a 4 i).toInt64 (r_cl (a 4) (a 5) (b 8) i).2.1)))), (8, .long (m_of (a 5 i) (m_min (a 4 i).toInt64 (r_cl (a 4) (a 5) (b 8) i).2.1))), (3, .long (((r_cl (a 4) (a 5) (b 8) i).2.2) + (((r_cl (a 4) (a 5) (b 8) i).2.1) - (m_min (a 4 i).toInt64 (r_cl (a 4) (a 5) (b 8) i).2.1)))), (6, .long (m_min (a 4 i).toInt64 (r_cl (a 4) (a 5) (b 8) i).2.1)), (0, .ref (q 0))]) hx hb dX2_stagesRun_95 hl (k := 4) rfl (nI_1 i) (by decide) rfl (fun ls hl => ?_)
          refine lv_goto (tgt := 21) hx hb dX2_stagesRun_98 (by decide) ?_
          have hP : va_P D vwCl (wM g q a (va_up b 8 ((r_cl (a 4) (a 5) (b 8) (i + 1)).1))) _ := hP
          have hD : va_D A (wM g q a (va_up b 8 ((r_cl (a 4) (a 5) (b 8) (i + 1)).1))) := hD
          have hl : lv_has ls 10 [(5, .int (nI (i + 1))), (1, .long ((r_cl (a 4) (a 5) (b 8) (i + 1)).2.1)), (3, .long ((r_cl (a 4) (a 5) (b 8) (i + 1)).2.2)), (0, .ref (q 0))] := lv_sub hl [0, 1, 3, 5] rfl
          exact ih_21 (i + 1)  (by omega)  _ _ _ hP hD hS hl
    exact lp_21 (sc - 0) 0  (by omega)  _ _ _ hP hD hS (lv_sub hl [0, 2, 1, 3] rfl)
  · -- on at 4
    have hs0 : sc = 0 := by have h1 := c_4; rcases Nat.eq_zero_or_pos sc with h | h; exact h; exact absurd h1 (nI_ne0 h (by omega))
    exact hret b _ _ _ _ _ _ (by first | exact (if_pos hs0).symm | exact (if_neg hs0).symm) hP hD hS (Nat.le_of_ble_eq_true rfl) (Nat.le_of_ble_eq_true rfl) dX2_stagesRun_7
def rm_M_dayRuns : Room := { frames := 2, cells := 0, slots := 0, locals := 51 }
set_option maxHeartbeats 4000000 in
set_option maxRecDepth 100000 in
theorem c_M_dayRuns (l : Launch) (D : va_G) (g : Nat → ClassId) (q : Nat → Nat) (a : Nat → Nat → Int32) (b : Nat → Nat → Int64) (n : Nat) (hn : 1 ≤ n ∧ n ≤ 6) (hly : a 0 5 = nI n) (sc : Nat) (hsc : a 0 3 = nI sc) (hsc4 : sc ≤ 4) (d : Nat) (hd : a 0 4 = nI d) (hd4 : d < 400) : zc_v l D (tyG g) yX2_dayRuns cX2_dayRuns 11 none rm_M_dayRuns [.ref (q 0)] (wM g q a b) (fun (u : (Nat → Nat → Int64)) => u = r_day n sc a b d) (fun u => wM g q (va_up a 0 (upd (a 0) 4 (nI (d + 1)))) u) 0 0 := by
  refine zv_of (by decide) (Nat.le_of_ble_eq_true rfl) rfl ?_
  intro p e s m args below meth cd_ A Q ls C0 hnm hP hD hS hl hret
  obtain ⟨hx, hb, hr, hml, hlocks, hown, hts, hK, hA, hN⟩ := id C0
  have hl : lv_has ls 11 [(0, .ref (q 0))] := hl
  refine lv_aload_n hx hb dX2_dayRuns_0 rfl (lv_at hl 0 rfl) ?_
  refine va_get (D := D) (ci := 2) (v := .ref (q 6)) (C := RX2) (T := TX2) (N := 22) hx hb hts iw_X2 hown hK hP 0 rfl rfl 11 (by decide) (hts _ kf_X2_26) (fun _ h9 => h9) rfl dX2_dayRuns_1 ?_
  refine lv_aload_n hx hb dX2_dayRuns_4 rfl (lv_at hl 0 rfl) ?_
  refine va_get (D := D) (ci := 2) (v := .int (a 0 4)) (C := RX2) (T := TX2) (N := 22) hx hb hts iw_X2 hown hK hP 0 rfl rfl 12 (by decide) (hts _ kf_X2_90) (fun _ h9 => h9) rfl dX2_dayRuns_5 ?_
  rw [hd]
  refine za_iald (k := d) (f := (a 6)) (v := a 6 d) hx hb hK hP 6 0 rfl rfl rfl (by omega) (by decide) rfl dX2_dayRuns_8 ?_
  refine lv_i2l (v := (a 6 d).toInt64) hx hb dX2_dayRuns_9 rfl ?_
  refine lv_lstore_n (lv' := [(1, .long ((a 6 d).toInt64)), (0, .ref (q 0))]) hx hb dX2_dayRuns_10 rfl hl (by decide) rfl (fun ls hl => ?_)
  refine lv_lload_n hx hb dX2_dayRuns_11 rfl (lv_at hl 0 rfl) ?_
  refine lv_aload_n hx hb dX2_dayRuns_12 rfl (lv_at hl 1 rfl) ?_
  refine va_get (D := D) (ci := 2) (v := .int (a 0 0)) (C := RX2) (T := TX2) (N := 22) hx hb hts iw_X2 hown hK hP 0 rfl rfl 4 (by decide) (hts _ kf_X2_73) (fun _ h9 => h9) rfl dX2_dayRuns_13 ?_
  refine zk_pl (rest := []) C0 hP hD hS (c_M_partsOf l D (tyG g) ((a 6 d).toInt64) (a 0 0)) kk_X2_103 hl.1 rfl rfl (Nat.le_of_ble_eq_true rfl) ⟨(Nat.le_of_ble_eq_true rfl), (Nat.le_of_ble_eq_true rfl)⟩ rfl rfl ⟨(Nat.le_of_ble_eq_true rfl), (Nat.le_of_ble_eq_true rfl)⟩ dX2_dayRuns_16 (fun r_16 H locs hw_16 hP hS => ?_)
  obtain rfl := hw_16
  refine lv_lstore_n (lv' := [(3, .long (m_of (a 0 0) ((a 6 d).toInt64))), (1, .long ((a 6 d).toInt64)), (0, .ref (q 0))]) hx hb dX2_dayRuns_19 rfl hl (by decide) rfl (fun ls hl => ?_)
  refine lv_aload_n hx hb dX2_dayRuns_20 rfl (lv_at hl 2 rfl) ?_
  refine va_get (D := D) (ci := 2) (v := .ref (q 8)) (C := RX2) (T := TX2) (N := 22) hx hb hts iw_X2 hown hK hP 0 rfl rfl 13 (by decide) (hts _ kf_X2_29) (fun _ h9 => h9) rfl dX2_dayRuns_21 ?_
  refine lv_iconst (v := 0) hx hb dX2_dayRuns_24 (by decide) ?_
  refine lv_dup2_11 hx hb dX2_dayRuns_25 rfl rfl ?_
  refine za_lald (k := 0) (f := (b 8)) (v := b 8 0) hx hb hK hP 8 1 rfl rfl rfl (by decide) (by decide) rfl dX2_dayRuns_26 ?_
  refine lv_lload_n hx hb dX2_dayRuns_27 rfl (lv_at hl 1 rfl) ?_
  refine lv_ladd hx hb dX2_dayRuns_28 ?_
  refine za_last (k := 0) (x := (b 8 0) + ((a 6 d).toInt64)) (f := (b 8)) hx hb hK hP hD hS 8 1 rfl rfl rfl (by decide) (by decide) dX2_dayRuns_29 (fun H locs hP hD hS => ?_)
  have hP : va_P D vwCl (wM g q a (va_up b 8 (vp_updL (b 8) 0 ((b 8 0) + ((a 6 d).toInt64))))) H := hP
  have hD : va_D A (wM g q a (va_up b 8 (vp_updL (b 8) 0 ((b 8 0) + ((a 6 d).toInt64))))) := hD
  refine lv_aload_n hx hb dX2_dayRuns_30 rfl (lv_at hl 2 rfl) ?_
  refine va_get (D := D) (ci := 2) (v := .ref (q 8)) (C := RX2) (T := TX2) (N := 22) hx hb hts iw_X2 hown hK hP 0 rfl rfl 13 (by decide) (hts _ kf_X2_29) (fun _ h9 => h9) rfl dX2_dayRuns_31 ?_
  refine lv_iconst (v := 1) hx hb dX2_dayRuns_34 (by decide) ?_
  refine lv_dup2_11 hx hb dX2_dayRuns_35 rfl rfl ?_
  refine za_lald (k := 1) (f := (vp_updL (b 8) 0 ((b 8 0) + ((a 6 d).toInt64)))) (v := b 8 1) hx hb hK hP 8 1 rfl rfl rfl (by decide) (by decide) rfl dX2_dayRuns_36 ?_
  refine lv_lload_n hx hb dX2_dayRuns_37 rfl (lv_at hl 0 rfl) ?_
  refine lv_ladd hx hb dX2_dayRuns_38 ?_
  refine za_last (k := 1) (x := (b 8 1) + (m_of (a 0 0) ((a 6 d).toInt64))) (f := (vp_updL (b 8) 0 ((b 8 0) + ((a 6 d).toInt64)))) hx hb hK hP hD hS 8 1 rfl rfl rfl (by decide) (by decide) dX2_dayRuns_39 (fun H locs hP hD hS => ?_)
  have hP : va_P D vwCl (wM g q a (va_up b 8 (vp_updL (vp_updL (b 8) 0 ((b 8 0) + ((a 6 d).toInt64))) 1 ((b 8 1) + (m_of (a 0 0) ((a 6 d).toInt64)))))) H := hP
  have hD : va_D A (wM g q a (va_up b 8 (vp_updL (vp_updL (b 8) 0 ((b 8 0) + ((a 6 d).toInt64))) 1 ((b 8 1) + (m_of (a 0 0) ((a 6 d).toInt64)))))) := hD
  refine lv_aload_n hx hb dX2_dayRuns_40 rfl (lv_at hl 2 rfl) ?_
  refine va_get (D := D) (ci := 2) (v := .ref (q 1)) (C := RX2) (T := TX2) (N := 22) hx hb hts iw_X2 hown hK hP 0 rfl rfl 1 (by decide) (hts _ kf_X2_7) (fun _ h9 => h9) rfl dX2_dayRuns_41 ?_
  refine lv_iconst (v := 0) hx hb dX2_dayRuns_44 (by decide) ?_
  refine lv_dup2_11 hx hb dX2_dayRuns_45 rfl rfl ?_
  refine za_lald (k := 0) (f := (b 1)) (v := b 1 0) hx hb hK hP 1 1 rfl rfl rfl (by decide) (by decide) rfl dX2_dayRuns_46 ?_
  refine lv_lload_n hx hb dX2_dayRuns_47 rfl (lv_at hl 1 rfl) ?_
  refine lv_lload_n hx hb dX2_dayRuns_48 rfl (lv_at hl 0 rfl) ?_
  refine lv_lsub hx hb dX2_dayRuns_49 ?_
  refine lv_aload_n hx hb dX2_dayRuns_50 rfl (lv_at hl 2 rfl) ?_
  refine va_get (D := D) (ci := 2) (v := .ref (q 8)) (C := RX2) (T := TX2) (N := 22) hx hb hts iw_X2 hown hK hP 0 rfl rfl 13 (by decide) (hts _ kf_X2_29) (fun _ h9 => h9) rfl dX2_dayRuns_51 ?_
  refine lv_bipush (v := 8) hx hb dX2_dayRuns_54 (by decide) ?_
  refine za_lald (k := 8) (f := (vp_updL (vp_updL (b 8) 0 ((b 8 0) + ((a 6 d).toInt64))) 1 ((b 8 1) + (m_of (a 0 0) ((a 6 d).toInt64))))) (v := b 8 8) hx hb hK hP 8 1 rfl rfl rfl (by decide) (by decide) rfl dX2_dayRuns_56 ?_
  refine lv_ladd hx hb dX2_dayRuns_57 ?_
  refine lv_ladd hx hb dX2_dayRuns_58 ?_
  refine za_last (k := 0) (x := (b 1 0) + ((((a 6 d).toInt64) - (m_of (a 0 0) ((a 6 d).toInt64))) + (b 8 8))) (f := (b 1)) hx hb hK hP hD hS 1 1 rfl rfl rfl (by decide) (by decide) dX2_dayRuns_59 (fun H locs hP hD hS => ?_)
  have hP : va_P D vwCl (wM g q a (va_up (va_up b 1 (vp_updL (b 1) 0 ((b 1 0) + ((((a 6 d).toInt64) - (m_of (a 0 0) ((a 6 d).toInt64))) + (b 8 8))))) 8 (vp_updL (vp_updL (b 8) 0 ((b 8 0) + ((a 6 d).toInt64))) 1 ((b 8 1) + (m_of (a 0 0) ((a 6 d).toInt64)))))) H := hP
  have hD : va_D A (wM g q a (va_up (va_up b 1 (vp_updL (b 1) 0 ((b 1 0) + ((((a 6 d).toInt64) - (m_of (a 0 0) ((a 6 d).toInt64))) + (b 8 8))))) 8 (vp_updL (vp_updL (b 8) 0 ((b 8 0) + ((a 6 d).toInt64))) 1 ((b 8 1) + (m_of (a 0 0) ((a 6 d).toInt64)))))) := hD
  refine lv_aload_n hx hb dX2_dayRuns_60 rfl (lv_at hl 2 rfl) ?_
  refine va_get (D := D) (ci := 2) (v := .ref (q 8)) (C := RX2) (T := TX2) (N := 22) hx hb hts iw_X2 hown hK hP 0 rfl rfl 13 (by decide) (hts _ kf_X2_29) (fun _ h9 => h9) rfl dX2_dayRuns_61 ?_
  refine lv_bipush (v := 8) hx hb dX2_dayRuns_64 (by decide) ?_
  refine lv_lconst (v := 0) hx hb dX2_dayRuns_66 (by decide) ?_
  refine za_last (k := 8) (x := 0) (f := (vp_updL (vp_updL (b 8) 0 ((b 8 0) + ((a 6 d).toInt64))) 1 ((b 8 1) + (m_of (a 0 0) ((a 6 d).toInt64))))) hx hb hK hP hD hS 8 1 rfl rfl rfl (by decide) (by decide) dX2_dayRuns_67 (fun H locs hP hD hS => ?_)
  have hP : va_P D vwCl (wM g q a (va_up (va_up b 1 (vp_updL (b 1) 0 ((b 1 0) + ((((a 6 d).toInt64) - (m_of (a 0 0) ((a 6 d).toInt64))) + (b 8 8))))) 8 (vp_updL (vp_updL (vp_updL (b 8) 0 ((b 8 0) + ((a 6 d).toInt64))) 1 ((b 8 1) + (m_of (a 0 0) ((a 6 d).toInt64)))) 8 0))) H := hP
  have hD : va_D A (wM g q a (va_up (va_up b 1 (vp_updL (b 1) 0 ((b 1 0) + ((((a 6 d).toInt64) - (m_of (a 0 0) ((a 6 d).toInt64))) + (b 8 8))))) 8 (vp_updL (vp_updL (vp_updL (b 8) 0 ((b 8 0) + ((a 6 d).toInt64))) 1 ((b 8 1) + (m_of (a 0 0) ((a 6 d).toInt64)))) 8 0))) := hD
  refine lv_lconst (v := 0) hx hb dX2_dayRuns_68 (by decide) ?_
  refine lv_lstore (lv' := [(5, .long 0), (3, .long (m_of (a 0 0) ((a 6 d).toInt64))), (1, .long ((a 6 d).toInt64)), (0, .ref (q 0))]) hx hb dX2_dayRuns_69 hl (by decide) rfl (fun ls hl => ?_)
  refine lv_iconst (v := 0) hx hb dX2_dayRuns_71 (by decide) ?_
  refine lv_istore (lv' := [(7, .int 0), (5, .long 0), (3, .long (m_of (a 0 0) ((a 6 d).toInt64))), (1, .long ((a 6 d).toInt64)), (0, .ref (q 0))]) hx hb dX2_dayRuns_72 hl (by decide) rfl (fun ls hl => ?_)
  have hP : va_P D vwCl (wM g q a (r_in a b (a 6 d).toInt64)) H := hP
  have hD : va_D A (wM g q a (r_in a b (a 6 d).toInt64)) := hD
  have lp_74 : ∀ (t_74 i : Nat) , i + t_74 = n → ∀ (H : Heap) (locs : List Loc) (ls : Array Slot), va_P D vwCl (wM g q a (va_up (r_in a b (a 6 d).toInt64) 1 ((m_pd (a 2) (a 3) ((r_in a b (a 6 d).toInt64) 1) i).1))) H → va_D A (wM g q a (va_up (r_in a b (a 6 d).toInt64) 1 ((m_pd (a 2) (a 3) ((r_in a b (a 6 d).toInt64) 1) i).1))) → va_S A s.heap H locs → lv_has ls 11 [(7, .int (nI i)), (5, .long ((m_pd (a 2) (a 3) ((r_in a b (a 6 d).toInt64) 1) i).2)), (0, .ref (q 0))] → W p l e rm_M_dayRuns s m args below meth cd_ H locs 0 0 Q (F0 m 74 ls []) := by
    intro t_74
    induction t_74 with
    | zero =>
      intro i hi_74 H locs ls hP hD hS hl
      obtain rfl : n = i := by omega
      refine lv_iload hx hb dX2_dayRuns_74 (lv_at hl 0 rfl) ?_
      refine lv_aload_n hx hb dX2_dayRuns_76 rfl (lv_at hl 2 rfl) ?_
      refine va_get (D := D) (ci := 2) (v := .int (a 0 5)) (C := RX2) (T := TX2) (N := 22) hx hb hts iw_X2 hown hK hP 0 rfl rfl 0 (by decide) (hts _ kf_X2_59) (fun _ h9 => h9) rfl dX2_dayRuns_77 ?_
      rw [hly]
      refine lv_icmp_ge (tgt := 156) hx hb dX2_dayRuns_80 (by decide) (fun _ => ?_) (fun c_80 => absurd (nI_le (Nat.le_refl _) (by omega)) c_80)
      refine lv_aload_n hx hb dX2_dayRuns_156 rfl (lv_at hl 2 rfl) ?_
      refine va_get (D := D) (ci := 2) (v := .ref (q 8)) (C := RX2) (T := TX2) (N := 22) hx hb hts iw_X2 hown hK hP 0 rfl rfl 13 (by decide) (hts _ kf_X2_29) (fun _ h9 => h9) rfl dX2_dayRuns_157 ?_
      refine lv_iconst (v := 2) hx hb dX2_dayRuns_160 (by decide) ?_
      refine lv_dup2_11 hx hb dX2_dayRuns_161 rfl rfl ?_
      refine za_lald (k := 2) (f := ((r_in a b (a 6 d).toInt64) 8)) (v := (r_in a b (a 6 d).toInt64) 8 2) hx hb hK hP 8 1 rfl rfl rfl (by decide) (by decide) rfl dX2_dayRuns_162 ?_
      refine lv_lload hx hb dX2_dayRuns_163 (lv_at hl 1 rfl) ?_
      refine lv_ladd hx hb dX2_dayRuns_165 ?_
      refine za_last (k := 2) (x := ((r_in a b (a 6 d).toInt64) 8 2) + ((m_pd (a 2) (a 3) ((r_in a b (a 6 d).toInt64) 1) n).2)) (f := ((r_in a b (a 6 d).toInt64) 8)) hx hb hK hP hD hS 8 1 rfl rfl rfl (by decide) (by decide) dX2_dayRuns_166 (fun H locs hP hD hS => ?_)
      have hP : va_P D vwCl (wM g q a (va_up (va_up (r_in a b (a 6 d).toInt64) 1 ((m_pd (a 2) (a 3) ((r_in a b (a 6 d).toInt64) 1) n).1)) 8 (vp_updL ((r_in a b (a 6 d).toInt64) 8) 2 (((r_in a b (a 6 d).toInt64) 8 2) + ((m_pd (a 2) (a 3) ((r_in a b (a 6 d).toInt64) 1) n).2))))) H := hP
      have hD : va_D A (wM g q a (va_up (va_up (r_in a b (a 6 d).toInt64) 1 ((m_pd (a 2) (a 3) ((r_in a b (a 6 d).toInt64) 1) n).1)) 8 (vp_updL ((r_in a b (a 6 d).toInt64) 8) 2 (((r_in a b (a 6 d).toInt64) 8 2) + ((m_pd (a 2) (a 3) ((r_in a b (a 6 d).toInt64) 1) n).2))))) := hD
      refine lv_lload hx hb dX2_dayRuns_167 (lv_at hl 1 rfl) ?_
      refine lv_aload_n hx hb dX2_dayRuns_169 rfl (lv_at hl 2 rfl) ?_
      refine va_get (D := D) (ci := 2) (v := .int (a 0 1)) (C := RX2) (T := TX2) (N := 22) hx hb hts iw_X2 hown hK hP 0 rfl rfl 5 (by decide) (hts _ kf_X2_76) (fun _ h9 => h9) rfl dX2_dayRuns_170 ?_
      refine zk_pl (rest := []) C0 hP hD hS (c_M_partsOf l D (tyG g) ((m_pd (a 2) (a 3) ((r_in a b (a 6 d).toInt64) 1) n).2) (a 0 1)) kk_X2_103 hl.1 rfl rfl (Nat.le_of_ble_eq_true rfl) ⟨(Nat.le_of_ble_eq_true rfl), (Nat.le_of_ble_eq_true rfl)⟩ rfl rfl ⟨(Nat.le_of_ble_eq_true rfl), (Nat.le_of_ble_eq_true rfl)⟩ dX2_dayRuns_173 (fun r_173 H locs hw_173 hP hS => ?_)
      obtain rfl := hw_173
      refine lv_lstore (lv' := [(7, .long (m_of (a 0 1) ((m_pd (a 2) (a 3) ((r_in a b (a 6 d).toInt64) 1) n).2))), (5, .long ((m_pd (a 2) (a 3) ((r_in a b (a 6 d).toInt64) 1) n).2)), (0, .ref (q 0))]) hx hb dX2_dayRuns_176 hl (by decide) rfl (fun ls hl => ?_)
      refine lv_aload_n hx hb dX2_dayRuns_178 rfl (lv_at hl 2 rfl) ?_
      refine va_get (D := D) (ci := 2) (v := .ref (q 8)) (C := RX2) (T := TX2) (N := 22) hx hb hts iw_X2 hown hK hP 0 rfl rfl 13 (by decide) (hts _ kf_X2_29) (fun _ h9 => h9) rfl dX2_dayRuns_179 ?_
      refine lv_iconst (v := 3) hx hb dX2_dayRuns_182 (by decide) ?_
      refine lv_dup2_11 hx hb dX2_dayRuns_183 rfl rfl ?_
      refine za_lald (k := 3) (f := (vp_updL ((r_in a b (a 6 d).toInt64) 8) 2 (((r_in a b (a 6 d).toInt64) 8 2) + ((m_pd (a 2) (a 3) ((r_in a b (a 6 d).toInt64) 1) n).2)))) (v := (r_in a b (a 6 d).toInt64) 8 3) hx hb hK hP 8 1 rfl rfl rfl (by decide) (by decide) rfl dX2_dayRuns_184 ?_
      refine lv_lload hx hb dX2_dayRuns_185 (lv_at hl 1 rfl) ?_
      refine lv_lload hx hb dX2_dayRuns_187 (lv_at hl 0 rfl) ?_
      refine lv_lsub hx hb dX2_dayRuns_189 ?_
      refine lv_ladd hx hb dX2_dayRuns_190 ?_
      refine za_last (k := 3) (x := ((r_in a b (a 6 d).toInt64) 8 3) + (((m_pd (a 2) (a 3) ((r_in a b (a 6 d).toInt64) 1) n).2) - (m_of (a 0 1) ((m_pd (a 2) (a 3) ((r_in a b (a 6 d).toInt64) 1) n).2)))) (f := (vp_updL ((r_in a b (a 6 d).toInt64) 8) 2 (((r_in a b (a 6 d).toInt64) 8 2) + ((m_pd (a 2) (a 3) ((r_in a b (a 6 d).toInt64) 1) n).2)))) hx hb hK hP hD hS 8 1 rfl rfl rfl (by decide) (by decide) dX2_dayRuns_191 (fun H locs hP hD hS => ?_)
      have hP : va_P D vwCl (wM g q a (va_up (va_up (r_in a b (a 6 d).toInt64) 1 ((m_pd (a 2) (a 3) ((r_in a b (a 6 d).toInt64) 1) n).1)) 8 (vp_updL (vp_updL ((r_in a b (a 6 d).toInt64) 8) 2 (((r_in a b (a 6 d).toInt64) 8 2) + ((m_pd (a 2) (a 3) ((r_in a b (a 6 d).toInt64) 1) n).2))) 3 (((r_in a b (a 6 d).toInt64) 8 3) + (((m_pd (a 2) (a 3) ((r_in a b (a 6 d).toInt64) 1) n).2) - (m_of (a 0 1) ((m_pd (a 2) (a 3) ((r_in a b (a 6 d).toInt64) 1) n).2))))))) H := hP
      have hD : va_D A (wM g q a (va_up (va_up (r_in a b (a 6 d).toInt64) 1 ((m_pd (a 2) (a 3) ((r_in a b (a 6 d).toInt64) 1) n).1)) 8 (vp_updL (vp_updL ((r_in a b (a 6 d).toInt64) 8) 2 (((r_in a b (a 6 d).toInt64) 8 2) + ((m_pd (a 2) (a 3) ((r_in a b (a 6 d).toInt64) 1) n).2))) 3 (((r_in a b (a 6 d).toInt64) 8 3) + (((m_pd (a 2) (a 3) ((r_in a b (a 6 d).toInt64) 1) n).2) - (m_of (a 0 1) ((m_pd (a 2) (a 3) ((r_in a b (a 6 d).toInt64) 1) n).2))))))) := hD
      refine lv_aload_n hx hb dX2_dayRuns_192 rfl (lv_at hl 2 rfl) ?_
      refine va_get (D := D) (ci := 2) (v := .ref (q 8)) (C := RX2) (T := TX2) (N := 22) hx hb hts iw_X2 hown hK hP 0 rfl rfl 13 (by decide) (hts _ kf_X2_29) (fun _ h9 => h9) rfl dX2_dayRuns_193 ?_
      refine lv_bipush (v := 7) hx hb dX2_dayRuns_196 (by decide) ?_
      refine lv_dup2_11 hx hb dX2_dayRuns_198 rfl rfl ?_
      refine za_lald (k := 7) (f := (vp_updL (vp_updL ((r_in a b (a 6 d).toInt64) 8) 2 (((r_in a b (a 6 d).toInt64) 8 2) + ((m_pd (a 2) (a 3) ((r_in a b (a 6 d).toInt64) 1) n).2))) 3 (((r_in a b (a 6 d).toInt64) 8 3) + (((m_pd (a 2) (a 3) ((r_in a b (a 6 d).toInt64) 1) n).2) - (m_of (a 0 1) ((m_pd (a 2) (a 3) ((r_in a b (a 6 d).toInt64) 1) n).2)))))) (v := (r_in a b (a 6 d).toInt64) 8 7) hx hb hK hP 8 1 rfl rfl rfl (by decide) (by decide) rfl dX2_dayRuns_199 ?_
      refine lv_lload hx hb dX2_dayRuns_200 (lv_at hl 0 rfl) ?_
      refine lv_ladd hx hb dX2_dayRuns_202 ?_
      refine za_last (k := 7) (x := ((r_in a b (a 6 d).toInt64) 8 7) + (m_of (a 0 1) ((m_pd (a 2) (a 3) ((r_in a b (a 6 d).toInt64) 1) n).2))) (f := (vp_updL (vp_updL ((r_in a b (a 6 d).toInt64) 8) 2 (((r_in a b (a 6 d).toInt64) 8 2) + ((m_pd (a 2) (a 3) ((r_in a b (a 6 d).toInt64) 1) n).2))) 3 (((r_in a b (a 6 d).toInt64) 8 3) + (((m_pd (a 2) (a 3) ((r_in a b (a 6 d).toInt64) 1) n).2) - (m_of (a 0 1) ((m_pd (a 2) (a 3) ((r_in a b (a 6 d).toInt64) 1) n).2)))))) hx hb hK hP hD hS 8 1 rfl rfl rfl (by decide) (by decide) dX2_dayRuns_203 (fun H locs hP hD hS => ?_)
      have hP : va_P D vwCl (wM g q a (va_up (va_up (r_in a b (a 6 d).toInt64) 1 ((m_pd (a 2) (a 3) ((r_in a b (a 6 d).toInt64) 1) n).1)) 8 (vp_updL (vp_updL (vp_updL ((r_in a b (a 6 d).toInt64) 8) 2 (((r_in a b (a 6 d).toInt64) 8 2) + ((m_pd (a 2) (a 3) ((r_in a b (a 6 d).toInt64) 1) n).2))) 3 (((r_in a b (a 6 d).toInt64) 8 3) + (((m_pd (a 2) (a 3) ((r_in a b (a 6 d).toInt64) 1) n).2) - (m_of (a 0 1) ((m_pd (a 2) (a 3) ((r_in a b (a 6 d).toInt64) 1) n).2))))) 7 (((r_in a b (a 6 d).toInt64) 8 7) + (m_of (a 0 1) ((m_pd (a 2) (a 3) ((r_in a b (a 6 d).toInt64) 1) n).2)))))) H := hP
      have hD : va_D A (wM g q a (va_up (va_up (r_in a b (a 6 d).toInt64) 1 ((m_pd (a 2) (a 3) ((r_in a b (a 6 d).toInt64) 1) n).1)) 8 (vp_updL (vp_updL (vp_updL ((r_in a b (a 6 d).toInt64) 8) 2 (((r_in a b (a 6 d).toInt64) 8 2) + ((m_pd (a 2) (a 3) ((r_in a b (a 6 d).toInt64) 1) n).2))) 3 (((r_in a b (a 6 d).toInt64) 8 3) + (((m_pd (a 2) (a 3) ((r_in a b (a 6 d).toInt64) 1) n).2) - (m_of (a 0 1) ((m_pd (a 2) (a 3) ((r_in a b (a 6 d).toInt64) 1) n).2))))) 7 (((r_in a b (a 6 d).toInt64) 8 7) + (m_of (a 0 1) ((m_pd (a 2) (a 3) ((r_in a b (a 6 d).toInt64) 1) n).2)))))) := hD
      refine lv_aload_n hx hb dX2_dayRuns_204 rfl (lv_at hl 2 rfl) ?_
      refine va_get (D := D) (ci := 2) (v := .ref (q 8)) (C := RX2) (T := TX2) (N := 22) hx hb hts iw_X2 hown hK hP 0 rfl rfl 13 (by decide) (hts _ kf_X2_29) (fun _ h9 => h9) rfl dX2_dayRuns_205 ?_
      refine lv_bipush (v := 7) hx hb dX2_dayRuns_208 (by decide) ?_
      refine za_lald (k := 7) (f := (vp_updL (vp_updL (vp_updL ((r_in a b (a 6 d).toInt64) 8) 2 (((r_in a b (a 6 d).toInt64) 8 2) + ((m_pd (a 2) (a 3) ((r_in a b (a 6 d).toInt64) 1) n).2))) 3 (((r_in a b (a 6 d).toInt64) 8 3) + (((m_pd (a 2) (a 3) ((r_in a b (a 6 d).toInt64) 1) n).2) - (m_of (a 0 1) ((m_pd (a 2) (a 3) ((r_in a b (a 6 d).toInt64) 1) n).2))))) 7 (((r_in a b (a 6 d).toInt64) 8 7) + (m_of (a 0 1) ((m_pd (a 2) (a 3) ((r_in a b (a 6 d).toInt64) 1) n).2))))) (v := ((r_in a b (a 6 d).toInt64) 8 7) + (m_of (a 0 1) ((m_pd (a 2) (a 3) ((r_in a b (a 6 d).toInt64) 1) n).2))) hx hb hK hP 8 1 rfl rfl rfl (by decide) (by decide) rfl dX2_dayRuns_210 ?_
      refine lv_aload_n hx hb dX2_dayRuns_211 rfl (lv_at hl 2 rfl) ?_
      refine va_get (D := D) (ci := 2) (v := .long ((r_in a b (a 6 d).toInt64) 0 0)) (C := RX2) (T := TX2) (N := 22) hx hb hts iw_X2 hown hK hP 0 rfl rfl 7 (by decide) (hts _ kf_X2_84) (fun _ h9 => h9) rfl dX2_dayRuns_212 ?_
      refine zl_le (tgt := 234) hx hb dX2_dayRuns_215 dX2_dayRuns_216 (by decide) (fun c_215 => ?_) (fun c_215 => ?_)
      · -- jump at 215
        refine lv_lconst (v := 0) hx hb dX2_dayRuns_234 (by decide) ?_
        refine lv_topl (fun t9_1 et9_1 => ?_)
        obtain rfl : t9_1 = r_over ((r_in a b (a 6 d).toInt64) 8 7 + m_of (a 0 1) (m_pd (a 2) (a 3) ((r_in a b (a 6 d).toInt64) 1) n).2) ((r_in a b (a 6 d).toInt64) 0 0) := et9_1.trans (if_pos c_215).symm
        refine lv_lstore (lv' := [(9, .long (r_over ((r_in a b (a 6 d).toInt64) 8 7 + m_of (a 0 1) (m_pd (a 2) (a 3) ((r_in a b (a 6 d).toInt64) 1) n).2) ((r_in a b (a 6 d).toInt64) 0 0))), (7, .long (m_of (a 0 1) ((m_pd (a 2) (a 3) ((r_in a b (a 6 d).toInt64) 1) n).2))), (5, .long ((m_pd (a 2) (a 3) ((r_in a b (a 6 d).toInt64) 1) n).2)), (0, .ref (q 0))]) hx hb dX2_dayRuns_235 hl (by decide) rfl (fun ls hl => ?_)
        refine lv_aload_n hx hb dX2_dayRuns_237 rfl (lv_at hl 3 rfl) ?_
        refine va_get (D := D) (ci := 2) (v := .ref (q 8)) (C := RX2) (T := TX2) (N := 22) hx hb hts iw_X2 hown hK hP 0 rfl rfl 13 (by decide) (hts _ kf_X2_29) (fun _ h9 => h9) rfl dX2_dayRuns_238 ?_
        refine lv_iconst (v := 4) hx hb dX2_dayRuns_241 (by decide) ?_
        refine lv_dup2_11 hx hb dX2_dayRuns_242 rfl rfl ?_
        refine za_lald (k := 4) (f := (vp_updL (vp_updL (vp_updL ((r_in a b (a 6 d).toInt64) 8) 2 (((r_in a b (a 6 d).toInt64) 8 2) + ((m_pd (a 2) (a 3) ((r_in a b (a 6 d).toInt64) 1) n).2))) 3 (((r_in a b (a 6 d).toInt64) 8 3) + (((m_pd (a 2) (a 3) ((r_in a b (a 6 d).toInt64) 1) n).2) - (m_of (a 0 1) ((m_pd (a 2) (a 3) ((r_in a b (a 6 d).toInt64) 1) n).2))))) 7 (((r_in a b (a 6 d).toInt64) 8 7) + (m_of (a 0 1) ((m_pd (a 2) (a 3) ((r_in a b (a 6 d).toInt64) 1) n).2))))) (v := (r_in a b (a 6 d).toInt64) 8 4) hx hb hK hP 8 1 rfl rfl rfl (by decide) (by decide) rfl dX2_dayRuns_243 ?_
        refine lv_lload hx hb dX2_dayRuns_244 (lv_at hl 0 rfl) ?_
        refine lv_ladd hx hb dX2_dayRuns_246 ?_
        refine za_last (k := 4) (x := ((r_in a b (a 6 d).toInt64) 8 4) + (r_over ((r_in a b (a 6 d).toInt64) 8 7 + m_of (a 0 1) (m_pd (a 2) (a 3) ((r_in a b (a 6 d).toInt64) 1) n).2) ((r_in a b (a 6 d).toInt64) 0 0))) (f := (vp_updL (vp_updL (vp_updL ((r_in a b (a 6 d).toInt64) 8) 2 (((r_in a b (a 6 d).toInt64) 8 2) + ((m_pd (a 2) (a 3) ((r_in a b (a 6 d).toInt64) 1) n).2))) 3 (((r_in a b (a 6 d).toInt64) 8 3) + (((m_pd (a 2) (a 3) ((r_in a b (a 6 d).toInt64) 1) n).2) - (m_of (a 0 1) ((m_pd (a 2) (a 3) ((r_in a b (a 6 d).toInt64) 1) n).2))))) 7 (((r_in a b (a 6 d).toInt64) 8 7) + (m_of (a 0 1) ((m_pd (a 2) (a 3) ((r_in a b (a 6 d).toInt64) 1) n).2))))) hx hb hK hP hD hS 8 1 rfl rfl rfl (by decide) (by decide) dX2_dayRuns_247 (fun H locs hP hD hS => ?_)
        have hP : va_P D vwCl (wM g q a (va_up (va_up (r_in a b (a 6 d).toInt64) 1 ((m_pd (a 2) (a 3) ((r_in a b (a 6 d).toInt64) 1) n).1)) 8 (vp_updL (vp_updL (vp_updL (vp_updL ((r_in a b (a 6 d).toInt64) 8) 2 (((r_in a b (a 6 d).toInt64) 8 2) + ((m_pd (a 2) (a 3) ((r_in a b (a 6 d).toInt64) 1) n).2))) 3 (((r_in a b (a 6 d).toInt64) 8 3) + (((m_pd (a 2) (a 3) ((r_in a b (a 6 d).toInt64) 1) n).2) - (m_of (a 0 1) ((m_pd (a 2) (a 3) ((r_in a b (a 6 d).toInt64) 1) n).2))))) 7 (((r_in a b (a 6 d).toInt64) 8 7) + (m_of (a 0 1) ((m_pd (a 2) (a 3) ((r_in a b (a 6 d).toInt64) 1) n).2)))) 4 (((r_in a b (a 6 d).toInt64) 8 4) + (r_over ((r_in a b (a 6 d).toInt64) 8 7 + m_of (a 0 1) (m_pd (a 2) (a 3) ((r_in a b (a 6 d).toInt64) 1) n).2) ((r_in a b (a 6 d).toInt64) 0 0)))))) H := hP
        have hD : va_D A (wM g q a (va_up (va_up (r_in a b (a 6 d).toInt64) 1 ((m_pd (a 2) (a 3) ((r_in a b (a 6 d).toInt64) 1) n).1)) 8 (vp_updL (vp_updL (vp_updL (vp_updL ((r_in a b (a 6 d).toInt64) 8) 2 (((r_in a b (a 6 d).toInt64) 8 2) + ((m_pd (a 2) (a 3) ((r_in a b (a 6 d).toInt64) 1) n).2))) 3 (((r_in a b (a 6 d).toInt64) 8 3) + (((m_pd (a 2) (a 3) ((r_in a b (a 6 d).toInt64) 1) n).2) - (m_of (a 0 1) ((m_pd (a 2) (a 3) ((r_in a b (a 6 d).toInt64) 1) n).2))))) 7 (((r_in a b (a 6 d).toInt64) 8 7) + (m_of (a 0 1) ((m_pd (a 2) (a 3) ((r_in a b (a 6 d).toInt64) 1) n).2)))) 4 (((r_in a b (a 6 d).toInt64) 8 4) + (r_over ((r_in a b (a 6 d).toInt64) 8 7 + m_of (a 0 1) (m_pd (a 2) (a 3) ((r_in a b (a 6 d).toInt64) 1) n).2) ((r_in a b (a 6 d).toInt64) 0 0)))))) := hD
        refine lv_aload_n hx hb dX2_dayRuns_248 rfl (lv_at hl 3 rfl) ?_
        refine va_get (D := D) (ci := 2) (v := .ref (q 8)) (C := RX2) (T := TX2) (N := 22) hx hb hts iw_X2 hown hK hP 0 rfl rfl 13 (by decide) (hts _ kf_X2_29) (fun _ h9 => h9) rfl dX2_dayRuns_249 ?_
        refine lv_bipush (v := 7) hx hb dX2_dayRuns_252 (by decide) ?_
        refine lv_dup2_11 hx hb dX2_dayRuns_254 rfl rfl ?_
        refine za_lald (k := 7) (f := (vp_updL (vp_updL (vp_updL (vp_updL ((r_in a b (a 6 d).toInt64) 8) 2 (((r_in a b (a 6 d).toInt64) 8 2) + ((m_pd (a 2) (a 3) ((r_in a b (a 6 d).toInt64) 1) n).2))) 3 (((r_in a b (a 6 d).toInt64) 8 3) + (((m_pd (a 2) (a 3) ((r_in a b (a 6 d).toInt64) 1) n).2) - (m_of (a 0 1) ((m_pd (a 2) (a 3) ((r_in a b (a 6 d).toInt64) 1) n).2))))) 7 (((r_in a b (a 6 d).toInt64) 8 7) + (m_of (a 0 1) ((m_pd (a 2) (a 3) ((r_in a b (a 6 d).toInt64) 1) n).2)))) 4 (((r_in a b (a 6 d).toInt64) 8 4) + (r_over ((r_in a b (a 6 d).toInt64) 8 7 + m_of (a 0 1) (m_pd (a 2) (a 3) ((r_in a b (a 6 d).toInt64) 1) n).2) ((r_in a b (a 6 d).toInt64) 0 0))))) (v := ((r_in a b (a 6 d).toInt64) 8 7) + (m_of (a 0 1) ((m_pd (a 2) (a 3) ((r_in a b (a 6 d).toInt64) 1) n).2))) hx hb hK hP 8 1 rfl rfl rfl (by decide) (by decide) rfl dX2_dayRuns_255 ?_
        refine lv_lload hx hb dX2_dayRuns_256 (lv_at hl 0 rfl) ?_
        refine lv_lsub hx hb dX2_dayRuns_258 ?_
        refine za_last (k := 7) (x := (((r_in a b (a 6 d).toInt64) 8 7) + (m_of (a 0 1) ((m_pd (a 2) (a 3) ((r_in a b (a 6 d).toInt64) 1) n).2))) - (r_over ((r_in a b (a 6 d).toInt64) 8 7 + m_of (a 0 1) (m_pd (a 2) (a 3) ((r_in a b (a 6 d).toInt64) 1) n).2) ((r_in a b (a 6 d).toInt64) 0 0))) (f := (vp_updL (vp_updL (vp_updL (vp_updL ((r_in a b (a 6 d).toInt64) 8) 2 (((r_in a b (a 6 d).toInt64) 8 2) + ((m_pd (a 2) (a 3) ((r_in a b (a 6 d).toInt64) 1) n).2))) 3 (((r_in a b (a 6 d).toInt64) 8 3) + (((m_pd (a 2) (a 3) ((r_in a b (a 6 d).toInt64) 1) n).2) - (m_of (a 0 1) ((m_pd (a 2) (a 3) ((r_in a b (a 6 d).toInt64) 1) n).2))))) 7 (((r_in a b (a 6 d).toInt64) 8 7) + (m_of (a 0 1) ((m_pd (a 2) (a 3) ((r_in a b (a 6 d).toInt64) 1) n).2)))) 4 (((r_in a b (a 6 d).toInt64) 8 4) + (r_over ((r_in a b (a 6 d).toInt64) 8 7 + m_of (a 0 1) (m_pd (a 2) (a 3) ((r_in a b (a 6 d).toInt64) 1) n).2) ((r_in a b (a 6 d).toInt64) 0 0))))) hx hb hK hP hD hS 8 1 rfl rfl rfl (by decide) (by decide) dX2_dayRuns_259 (fun H locs hP hD hS => ?_)
        have hP : va_P D vwCl (wM g q a (va_up (va_up (r_in a b (a 6 d).toInt64) 1 ((m_pd (a 2) (a 3) ((r_in a b (a 6 d).toInt64) 1) n).1)) 8 (vp_updL (vp_updL (vp_updL (vp_updL (vp_updL ((r_in a b (a 6 d).toInt64) 8) 2 (((r_in a b (a 6 d).toInt64) 8 2) + ((m_pd (a 2) (a 3) ((r_in a b (a 6 d).toInt64) 1) n).2))) 3 (((r_in a b (a 6 d).toInt64) 8 3) + (((m_pd (a 2) (a 3) ((r_in a b (a 6 d).toInt64) 1) n).2) - (m_of (a 0 1) ((m_pd (a 2) (a 3) ((r_in a b (a 6 d).toInt64) 1) n).2))))) 7 (((r_in a b (a 6 d).toInt64) 8 7) + (m_of (a 0 1) ((m_pd (a 2) (a 3) ((r_in a b (a 6 d).toInt64) 1) n).2)))) 4 (((r_in a b (a 6 d).toInt64) 8 4) + (r_over ((r_in a b (a 6 d).toInt64) 8 7 + m_of (a 0 1) (m_pd (a 2) (a 3) ((r_in a b (a 6 d).toInt64) 1) n).2) ((r_in a b (a 6 d).toInt64) 0 0)))) 7 ((((r_in a b (a 6 d).toInt64) 8 7) + (m_of (a 0 1) ((m_pd (a 2) (a 3) ((r_in a b (a 6 d).toInt64) 1) n).2))) - (r_over ((r_in a b (a 6 d).toInt64) 8 7 + m_of (a 0 1) (m_pd (a 2) (a 3) ((r_in a b (a 6 d).toInt64) 1) n).2) ((r_in a b (a 6 d).toInt64) 0 0)))))) H := hP
        have hD : va_D A (wM g q a (va_up (va_up (r_in a b (a 6 d).toInt64) 1 ((m_pd (a 2) (a 3) ((r_in a b (a 6 d).toInt64) 1) n).1)) 8 (vp_updL (vp_updL (vp_updL (vp_updL (vp_updL ((r_in a b (a 6 d).toInt64) 8) 2 (((r_in a b (a 6 d).toInt64) 8 2) + ((m_pd (a 2) (a 3) ((r_in a b (a 6 d).toInt64) 1) n).2))) 3 (((r_in a b (a 6 d).toInt64) 8 3) + (((m_pd (a 2) (a 3) ((r_in a b (a 6 d).toInt64) 1) n).2) - (m_of (a 0 1) ((m_pd (a 2) (a 3) ((r_in a b (a 6 d).toInt64) 1) n).2))))) 7 (((r_in a b (a 6 d).toInt64) 8 7) + (m_of (a 0 1) ((m_pd (a 2) (a 3) ((r_in a b (a 6 d).toInt64) 1) n).2)))) 4 (((r_in a b (a 6 d).toInt64) 8 4) + (r_over ((r_in a b (a 6 d).toInt64) 8 7 + m_of (a 0 1) (m_pd (a 2) (a 3) ((r_in a b (a 6 d).toInt64) 1) n).2) ((r_in a b (a 6 d).toInt64) 0 0)))) 7 ((((r_in a b (a 6 d).toInt64) 8 7) + (m_of (a 0 1) ((m_pd (a 2) (a 3) ((r_in a b (a 6 d).toInt64) 1) n).2))) - (r_over ((r_in a b (a 6 d).toInt64) 8 7 + m_of (a 0 1) (m_pd (a 2) (a 3) ((r_in a b (a 6 d).toInt64) 1) n).2) ((r_in a b (a 6 d).toInt64) 0 0)))))) := hD
        refine lv_aload_n hx hb dX2_dayRuns_260 rfl (lv_at hl 3 rfl) ?_
        refine va_get (D := D) (ci := 2) (v := .ref (q 7)) (C := RX2) (T := TX2) (N := 22) hx hb hts iw_X2 hown hK hP 0 rfl rfl 14 (by decide) (hts _ kf_X2_32) (fun _ h9 => h9) rfl dX2_dayRuns_261 ?_
        refine lv_aload_n hx hb dX2_dayRuns_264 rfl (lv_at hl 3 rfl) ?_
        refine va_get (D := D) (ci := 2) (v := .int (a 0 4)) (C := RX2) (T := TX2) (N := 22) hx hb hts iw_X2 hown hK hP 0 rfl rfl 12 (by decide) (hts _ kf_X2_90) (fun _ h9 => h9) rfl dX2_dayRuns_265 ?_
        rw [hd]
        refine lv_lconst (v := 0) hx hb dX2_dayRuns_268 (by decide) ?_
        refine za_last (k := d) (x := 0) (f := ((r_in a b (a 6 d).toInt64) 7)) hx hb hK hP hD hS 7 1 rfl rfl rfl (by omega) (by decide) dX2_dayRuns_269 (fun H locs hP hD hS => ?_)
        have hP : va_P D vwCl (wM g q a (va_up (va_up (va_up (r_in a b (a 6 d).toInt64) 1 ((m_pd (a 2) (a 3) ((r_in a b (a 6 d).toInt64) 1) n).1)) 7 (vp_updL ((r_in a b (a 6 d).toInt64) 7) d 0)) 8 (vp_updL (vp_updL (vp_updL (vp_updL (vp_updL ((r_in a b (a 6 d).toInt64) 8) 2 (((r_in a b (a 6 d).toInt64) 8 2) + ((m_pd (a 2) (a 3) ((r_in a b (a 6 d).toInt64) 1) n).2))) 3 (((r_in a b (a 6 d).toInt64) 8 3) + (((m_pd (a 2) (a 3) ((r_in a b (a 6 d).toInt64) 1) n).2) - (m_of (a 0 1) ((m_pd (a 2) (a 3) ((r_in a b (a 6 d).toInt64) 1) n).2))))) 7 (((r_in a b (a 6 d).toInt64) 8 7) + (m_of (a 0 1) ((m_pd (a 2) (a 3) ((r_in a b (a 6 d).toInt64) 1) n).2)))) 4 (((r_in a b (a 6 d).toInt64) 8 4) + (r_over ((r_in a b (a 6 d).toInt64) 8 7 + m_of (a 0 1) (m_pd (a 2) (a 3) ((r_in a b (a 6 d).toInt64) 1) n).2) ((r_in a b (a 6 d).toInt64) 0 0)))) 7 ((((r_in a b (a 6 d).toInt64) 8 7) + (m_of (a 0 1) ((m_pd (a 2) (a 3) ((r_in a b (a 6 d).toInt64) 1) n).2))) - (r_over ((r_in a b (a 6 d).toInt64) 8 7 + m_of (a 0 1) (m_pd (a 2) (a 3) ((r_in a b (a 6 d).toInt64) 1) n).2) ((r_in a b (a 6 d).toInt64) 0 0)))))) H := hP
        have hD : va_D A (wM g q a (va_up (va_up (va_up (r_in a b (a 6 d).toInt64) 1 ((m_pd (a 2) (a 3) ((r_in a b (a 6 d).toInt64) 1) n).1)) 7 (vp_updL ((r_in a b (a 6 d).toInt64) 7) d 0)) 8 (vp_updL (vp_updL (vp_updL (vp_updL (vp_updL ((r_in a b (a 6 d).toInt64) 8) 2 (((r_in a b (a 6 d).toInt64) 8 2) + ((m_pd (a 2) (a 3) ((r_in a b (a 6 d).toInt64) 1) n).2))) 3 (((r_in a b (a 6 d).toInt64) 8 3) + (((m_pd (a 2) (a 3) ((r_in a b (a 6 d).toInt64) 1) n).2) - (m_of (a 0 1) ((m_pd (a 2) (a 3) ((r_in a b (a 6 d).toInt64) 1) n).2))))) 7 (((r_in a b (a 6 d).toInt64) 8 7) + (m_of (a 0 1) ((m_pd (a 2) (a 3) ((r_in a b (a 6 d).toInt64) 1) n).2)))) 4 (((r_in a b (a 6 d).toInt64) 8 4) + (r_over ((r_in a b (a 6 d).toInt64) 8 7 + m_of (a 0 1) (m_pd (a 2) (a 3) ((r_in a b (a 6 d).toInt64) 1) n).2) ((r_in a b (a 6 d).toInt64) 0 0)))) 7 ((((r_in a b (a 6 d).toInt64) 8 7) + (m_of (a 0 1) ((m_pd (a 2) (a 3) ((r_in a b (a 6 d).toInt64) 1) n).2))) - (r_over ((r_in a b (a 6 d).toInt64) 8 7 + m_of (a 0 1) (m_pd (a 2) (a 3) ((r_in a b (a 6 d).toInt64) 1) n).2) ((r_in a b (a 6 d).toInt64) 0 0)))))) := hD
        refine lv_aload_n hx hb dX2_dayRuns_270 rfl (lv_at hl 3 rfl) ?_
        refine zf_vv (rest := []) C0 hP hD hS (c_M_stagesRun l D g q a (va_up (va_up (va_up (r_in a b (a 6 d).toInt64) 1 ((m_pd (a 2) (a 3) ((r_in a b (a 6 d).toInt64) 1) n).1)) 7 (vp_updL ((r_in a b (a 6 d).toInt64) 7) d 0)) 8 (vp_updL (vp_updL (vp_updL (vp_updL (vp_updL ((r_in a b (a 6 d).toInt64) 8) 2 (((r_in a b (a 6 d).toInt64) 8 2) + ((m_pd (a 2) (a 3) ((r_in a b (a 6 d).toInt64) 1) n).2))) 3 (((r_in a b (a 6 d).toInt64) 8 3) + (((m_pd (a 2) (a 3) ((r_in a b (a 6 d).toInt64) 1) n).2) - (m_of (a 0 1) ((m_pd (a 2) (a 3) ((r_in a b (a 6 d).toInt64) 1) n).2))))) 7 (((r_in a b (a 6 d).toInt64) 8 7) + (m_of (a 0 1) ((m_pd (a 2) (a 3) ((r_in a b (a 6 d).toInt64) 1) n).2)))) 4 (((r_in a b (a 6 d).toInt64) 8 4) + (r_over ((r_in a b (a 6 d).toInt64) 8 7 + m_of (a 0 1) (m_pd (a 2) (a 3) ((r_in a b (a 6 d).toInt64) 1) n).2) ((r_in a b (a 6 d).toInt64) 0 0)))) 7 ((((r_in a b (a 6 d).toInt64) 8 7) + (m_of (a 0 1) ((m_pd (a 2) (a 3) ((r_in a b (a 6 d).toInt64) 1) n).2))) - (r_over ((r_in a b (a 6 d).toInt64) 8 7 + m_of (a 0 1) (m_pd (a 2) (a 3) ((r_in a b (a 6 d).toInt64) 1) n).2) ((r_in a b (a 6 d).toInt64) 0 0))))) sc hsc hsc4 d hd hd4) kk_X2_107 kv_X2_107 2 rfl 0 rfl hl.1 rfl rfl (Nat.le_of_ble_eq_true rfl) ⟨(Nat.le_of_ble_eq_true rfl), (Nat.le_of_ble_eq_true rfl)⟩ rfl rfl ⟨(Nat.le_of_ble_eq_true rfl), (Nat.le_of_ble_eq_true rfl)⟩ dX2_dayRuns_271 (fun u_271 H locs hw_271 hP hD hS => ?_)
        refine lv_aload_n hx hb dX2_dayRuns_274 rfl (lv_at hl 3 rfl) ?_
        refine lv_dup hx hb dX2_dayRuns_275 rfl ?_
        refine va_get (D := D) (ci := 2) (v := .int (a 0 4)) (C := RX2) (T := TX2) (N := 22) hx hb hts iw_X2 hown hK hP 0 rfl rfl 12 (by decide) (hts _ kf_X2_90) (fun _ h9 => h9) rfl dX2_dayRuns_276 ?_
        rw [hd]
        refine lv_iconst (v := 1) hx hb dX2_dayRuns_279 (by decide) ?_
        refine lv_iadd hx hb dX2_dayRuns_280 ?_
        rw [show (nI d) + 1 = nI (d + 1) from nI_1 d]
        refine va_put (D := D) (ci := 2) (v := .int (nI (d + 1))) (ty := .int) (C := RX2) (T := TX2) (N := 22) hx hb hts iw_X2 tyX2 tyok_X2 nm_X2 hown hK hP hD hS 0 rfl rfl 12 (by decide) (hts _ kf_X2_90) (fun _ h9 => h9) rfl (by decide +kernel) rfl rfl (Nat.le_of_ble_eq_true rfl) dX2_dayRuns_281 (fun H locs hP hD hS => ?_)
        have hP : va_P D vwCl (wM g q (va_up a 0 (upd (a 0) 4 (nI (d + 1)))) u_271) H := hP
        have hD : va_D A (wM g q (va_up a 0 (upd (a 0) 4 (nI (d + 1)))) u_271) := hD
        exact hret u_271 _ _ _ _ _ _ (hw_271.trans rfl) hP hD hS (Nat.le_of_ble_eq_true rfl) (Nat.le_of_ble_eq_true rfl) dX2_dayRuns_284
      · -- on at 215
        refine lv_aload_n hx hb dX2_dayRuns_219 rfl (lv_at hl 2 rfl) ?_
        refine va_get (D := D) (ci := 2) (v := .ref (q 8)) (C := RX2) (T := TX2) (N := 22) hx hb hts iw_X2 hown hK hP 0 rfl rfl 13 (by decide) (hts _ kf_X2_29) (fun _ h9 => h9) rfl dX2_dayRuns_220 ?_
        refine lv_bipush (v := 7) hx hb dX2_dayRuns_223 (by decide) ?_
        refine za_lald (k := 7) (f := (vp_updL (vp_updL (vp_updL ((r_in a b (a 6 d).toInt64) 8) 2 (((r_in a b (a 6 d).toInt64) 8 2) + ((m_pd (a 2) (a 3) ((r_in a b (a 6 d).toInt64) 1) n).2))) 3 (((r_in a b (a 6 d).toInt64) 8 3) + (((m_pd (a 2) (a 3) ((r_in a b (a 6 d).toInt64) 1) n).2) - (m_of (a 0 1) ((m_pd (a 2) (a 3) ((r_in a b (a 6 d).toInt64) 1) n).2))))) 7 (((r_in a b (a 6 d).toInt64) 8 7) + (m_of (a 0 1) ((m_pd (a 2) (a 3) ((r_in a b (a 6 d).toInt64) 1) n).2))))) (v := ((r_in a b (a 6 d).toInt64) 8 7) + (m_of (a 0 1) ((m_pd (a 2) (a 3) ((r_in a b (a 6 d).toInt64) 1) n).2))) hx hb hK hP 8 1 rfl rfl rfl (by decide) (by decide) rfl dX2_dayRuns_225 ?_
        refine lv_aload_n hx hb dX2_dayRuns_226 rfl (lv_at hl 2 rfl) ?_
        refine va_get (D := D) (ci := 2) (v := .long ((r_in a b (a 6 d).toInt64) 0 0)) (C := RX2) (T := TX2) (N := 22) hx hb hts iw_X2 hown hK hP 0 rfl rfl 7 (by decide) (hts _ kf_X2_84) (fun _ h9 => h9) rfl dX2_dayRuns_227 ?_
        refine lv_lsub hx hb dX2_dayRuns_230 ?_
        refine lv_goto (tgt := 235) hx hb dX2_dayRuns_231 (by decide) ?_
        refine lv_topl (fun t9_2 et9_2 => ?_)
        obtain rfl : t9_2 = r_over ((r_in a b (a 6 d).toInt64) 8 7 + m_of (a 0 1) (m_pd (a 2) (a 3) ((r_in a b (a 6 d).toInt64) 1) n).2) ((r_in a b (a 6 d).toInt64) 0 0) := et9_2.trans (if_neg c_215).symm
        refine lv_lstore (lv' := [(9, .long (r_over ((r_in a b (a 6 d).toInt64) 8 7 + m_of (a 0 1) (m_pd (a 2) (a 3) ((r_in a b (a 6 d).toInt64) 1) n).2) ((r_in a b (a 6 d).toInt64) 0 0))), (7, .long (m_of (a 0 1) ((m_pd (a 2) (a 3) ((r_in a b (a 6 d).toInt64) 1) n).2))), (5, .long ((m_pd (a 2) (a 3) ((r_in a b (a 6 d).toInt64) 1) n).2)), (0, .ref (q 0))]) hx hb dX2_dayRuns_235 hl (by decide) rfl (fun ls hl => ?_)
        refine lv_aload_n hx hb dX2_dayRuns_237 rfl (lv_at hl 3 rfl) ?_
        refine va_get (D := D) (ci := 2) (v := .ref (q 8)) (C := RX2) (T := TX2) (N := 22) hx hb hts iw_X2 hown hK hP 0 rfl rfl 13 (by decide) (hts _ kf_X2_29) (fun _ h9 => h9) rfl dX2_dayRuns_238 ?_
        refine lv_iconst (v := 4) hx hb dX2_dayRuns_241 (by decide) ?_
        refine lv_dup2_11 hx hb dX2_dayRuns_242 rfl rfl ?_
        refine za_lald (k := 4) (f := (vp_updL (vp_updL (vp_updL ((r_in a b (a 6 d).toInt64) 8) 2 (((r_in a b (a 6 d).toInt64) 8 2) + ((m_pd (a 2) (a 3) ((r_in a b (a 6 d).toInt64) 1) n).2))) 3 (((r_in a b (a 6 d).toInt64) 8 3) + (((m_pd (a 2) (a 3) ((r_in a b (a 6 d).toInt64) 1) n).2) - (m_of (a 0 1) ((m_pd (a 2) (a 3) ((r_in a b (a 6 d).toInt64) 1) n).2))))) 7 (((r_in a b (a 6 d).toInt64) 8 7) + (m_of (a 0 1) ((m_pd (a 2) (a 3) ((r_in a b (a 6 d).toInt64) 1) n).2))))) (v := (r_in a b (a 6 d).toInt64) 8 4) hx hb hK hP 8 1 rfl rfl rfl (by decide) (by decide) rfl dX2_dayRuns_243 ?_
        refine lv_lload hx hb dX2_dayRuns_244 (lv_at hl 0 rfl) ?_
        refine lv_ladd hx hb dX2_dayRuns_246 ?_
        refine za_last (k := 4) (x := ((r_in a b (a 6 d).toInt64) 8 4) + (r_over ((r_in a b (a 6 d).toInt64) 8 7 + m_of (a 0 1) (m_pd (a 2) (a 3) ((r_in a b (a 6 d).toInt64) 1) n).2) ((r_in a b (a 6 d).toInt64) 0 0))) (f := (vp_updL (vp_updL (vp_updL ((r_in a b (a 6 d).toInt64) 8) 2 (((r_in a b (a 6 d).toInt64) 8 2) + ((m_pd (a 2) (a 3) ((r_in a b (a 6 d).toInt64) 1) n).2))) 3 (((r_in a b (a 6 d).toInt64) 8 3) + (((m_pd (a 2) (a 3) ((r_in a b (a 6 d).toInt64) 1) n).2) - (m_of (a 0 1) ((m_pd (a 2) (a 3) ((r_in a b (a 6 d).toInt64) 1) n).2))))) 7 (((r_in a b (a 6 d).toInt64) 8 7) + (m_of (a 0 1) ((m_pd (a 2) (a 3) ((r_in a b (a 6 d).toInt64) 1) n).2))))) hx hb hK hP hD hS 8 1 rfl rfl rfl (by decide) (by decide) dX2_dayRuns_247 (fun H locs hP hD hS => ?_)
        have hP : va_P D vwCl (wM g q a (va_up (va_up (r_in a b (a 6 d).toInt64) 1 ((m_pd (a 2) (a 3) ((r_in a b (a 6 d).toInt64) 1) n).1)) 8 (vp_updL (vp_updL (vp_updL (vp_updL ((r_in a b (a 6 d).toInt64) 8) 2 (((r_in a b (a 6 d).toInt64) 8 2) + ((m_pd (a 2) (a 3) ((r_in a b (a 6 d).toInt64) 1) n).2))) 3 (((r_in a b (a 6 d).toInt64) 8 3) + (((m_pd (a 2) (a 3) ((r_in a b (a 6 d).toInt64) 1) n).2) - (m_of (a 0 1) ((m_pd (a 2) (a 3) ((r_in a b (a 6 d).toInt64) 1) n).2))))) 7 (((r_in a b (a 6 d).toInt64) 8 7) + (m_of (a 0 1) ((m_pd (a 2) (a 3) ((r_in a b (a 6 d).toInt64) 1) n).2)))) 4 (((r_in a b (a 6 d).toInt64) 8 4) + (r_over ((r_in a b (a 6 d).toInt64) 8 7 + m_of (a 0 1) (m_pd (a 2) (a 3) ((r_in a b (a 6 d).toInt64) 1) n).2) ((r_in a b (a 6 d).toInt64) 0 0)))))) H := hP
        have hD : va_D A (wM g q a (va_up (va_up (r_in a b (a 6 d).toInt64) 1 ((m_pd (a 2) (a 3) ((r_in a b (a 6 d).toInt64) 1) n).1)) 8 (vp_updL (vp_updL (vp_updL (vp_updL ((r_in a b (a 6 d).toInt64) 8) 2 (((r_in a b (a 6 d).toInt64) 8 2) + ((m_pd (a 2) (a 3) ((r_in a b (a 6 d).toInt64) 1) n).2))) 3 (((r_in a b (a 6 d).toInt64) 8 3) + (((m_pd (a 2) (a 3) ((r_in a b (a 6 d).toInt64) 1) n).2) - (m_of (a 0 1) ((m_pd (a 2) (a 3) ((r_in a b (a 6 d).toInt64) 1) n).2))))) 7 (((r_in a b (a 6 d).toInt64) 8 7) + (m_of (a 0 1) ((m_pd (a 2) (a 3) ((r_in a b (a 6 d).toInt64) 1) n).2)))) 4 (((r_in a b (a 6 d).toInt64) 8 4) + (r_over ((r_in a b (a 6 d).toInt64) 8 7 + m_of (a 0 1) (m_pd (a 2) (a 3) ((r_in a b (a 6 d).toInt64) 1) n).2) ((r_in a b (a 6 d).toInt64) 0 0)))))) := hD
        refine lv_aload_n hx hb dX2_dayRuns_248 rfl (lv_at hl 3 rfl) ?_
        refine va_get (D := D) (ci := 2) (v := .ref (q 8)) (C := RX2) (T := TX2) (N := 22) hx hb hts iw_X2 hown hK hP 0 rfl rfl 13 (by decide) (hts _ kf_X2_29) (fun _ h9 => h9) rfl dX2_dayRuns_249 ?_
        refine lv_bipush (v := 7) hx hb dX2_dayRuns_252 (by decide) ?_
        refine lv_dup2_11 hx hb dX2_dayRuns_254 rfl rfl ?_
        refine za_lald (k := 7) (f := (vp_updL (vp_updL (vp_updL (vp_updL ((r_in a b (a 6 d).toInt64) 8) 2 (((r_in a b (a 6 d).toInt64) 8 2) + ((m_pd (a 2) (a 3) ((r_in a b (a 6 d).toInt64) 1) n).2))) 3 (((r_in a b (a 6 d).toInt64) 8 3) + (((m_pd (a 2) (a 3) ((r_in a b (a 6 d).toInt64) 1) n).2) - (m_of (a 0 1) ((m_pd (a 2) (a 3) ((r_in a b (a 6 d).toInt64) 1) n).2))))) 7 (((r_in a b (a 6 d).toInt64) 8 7) + (m_of (a 0 1) ((m_pd (a 2) (a 3) ((r_in a b (a 6 d).toInt64) 1) n).2)))) 4 (((r_in a b (a 6 d).toInt64) 8 4) + (r_over ((r_in a b (a 6 d).toInt64) 8 7 + m_of (a 0 1) (m_pd (a 2) (a 3) ((r_in a b (a 6 d).toInt64) 1) n).2) ((r_in a b (a 6 d).toInt64) 0 0))))) (v := ((r_in a b (a 6 d).toInt64) 8 7) + (m_of (a 0 1) ((m_pd (a 2) (a 3) ((r_in a b (a 6 d).toInt64) 1) n).2))) hx hb hK hP 8 1 rfl rfl rfl (by decide) (by decide) rfl dX2_dayRuns_255 ?_
        refine lv_lload hx hb dX2_dayRuns_256 (lv_at hl 0 rfl) ?_
        refine lv_lsub hx hb dX2_dayRuns_258 ?_
        refine za_last (k := 7) (x := (((r_in a b (a 6 d).toInt64) 8 7) + (m_of (a 0 1) ((m_pd (a 2) (a 3) ((r_in a b (a 6 d).toInt64) 1) n).2))) - (r_over ((r_in a b (a 6 d).toInt64) 8 7 + m_of (a 0 1) (m_pd (a 2) (a 3) ((r_in a b (a 6 d).toInt64) 1) n).2) ((r_in a b (a 6 d).toInt64) 0 0))) (f := (vp_updL (vp_updL (vp_updL (vp_updL ((r_in a b (a 6 d).toInt64) 8) 2 (((r_in a b (a 6 d).toInt64) 8 2) + ((m_pd (a 2) (a 3) ((r_in a b (a 6 d).toInt64) 1) n).2))) 3 (((r_in a b (a 6 d).toInt64) 8 3) + (((m_pd (a 2) (a 3) ((r_in a b (a 6 d).toInt64) 1) n).2) - (m_of (a 0 1) ((m_pd (a 2) (a 3) ((r_in a b (a 6 d).toInt64) 1) n).2))))) 7 (((r_in a b (a 6 d).toInt64) 8 7) + (m_of (a 0 1) ((m_pd (a 2) (a 3) ((r_in a b (a 6 d).toInt64) 1) n).2)))) 4 (((r_in a b (a 6 d).toInt64) 8 4) + (r_over ((r_in a b (a 6 d).toInt64) 8 7 + m_of (a 0 1) (m_pd (a 2) (a 3) ((r_in a b (a 6 d).toInt64) 1) n).2) ((r_in a b (a 6 d).toInt64) 0 0))))) hx hb hK hP hD hS 8 1 rfl rfl rfl (by decide) (by decide) dX2_dayRuns_259 (fun H locs hP hD hS => ?_)
        have hP : va_P D vwCl (wM g q a (va_up (va_up (r_in a b (a 6 d).toInt64) 1 ((m_pd (a 2) (a 3) ((r_in a b (a 6 d).toInt64) 1) n).1)) 8 (vp_updL (vp_updL (vp_updL (vp_updL (vp_updL ((r_in a b (a 6 d).toInt64) 8) 2 (((r_in a b (a 6 d).toInt64) 8 2) + ((m_pd (a 2) (a 3) ((r_in a b (a 6 d).toInt64) 1) n).2))) 3 (((r_in a b (a 6 d).toInt64) 8 3) + (((m_pd (a 2) (a 3) ((r_in a b (a 6 d).toInt64) 1) n).2) - (m_of (a 0 1) ((m_pd (a 2) (a 3) ((r_in a b (a 6 d).toInt64) 1) n).2))))) 7 (((r_in a b (a 6 d).toInt64) 8 7) + (m_of (a 0 1) ((m_pd (a 2) (a 3) ((r_in a b (a 6 d).toInt64) 1) n).2)))) 4 (((r_in a b (a 6 d).toInt64) 8 4) + (r_over ((r_in a b (a 6 d).toInt64) 8 7 + m_of (a 0 1) (m_pd (a 2) (a 3) ((r_in a b (a 6 d).toInt64) 1) n).2) ((r_in a b (a 6 d).toInt64) 0 0)))) 7 ((((r_in a b (a 6 d).toInt64) 8 7) + (m_of (a 0 1) ((m_pd (a 2) (a 3) ((r_in a b (a 6 d).toInt64) 1) n).2))) - (r_over ((r_in a b (a 6 d).toInt64) 8 7 + m_of (a 0 1) (m_pd (a 2) (a 3) ((r_in a b (a 6 d).toInt64) 1) n).2) ((r_in a b (a 6 d).toInt64) 0 0)))))) H := hP
        have hD : va_D A (wM g q a (va_up (va_up (r_in a b (a 6 d).toInt64) 1 ((m_pd (a 2) (a 3) ((r_in a b (a 6 d).toInt64) 1) n).1)) 8 (vp_updL (vp_updL (vp_updL (vp_updL (vp_updL ((r_in a b (a 6 d).toInt64) 8) 2 (((r_in a b (a 6 d).toInt64) 8 2) + ((m_pd (a 2) (a 3) ((r_in a b (a 6 d).toInt64) 1) n).2))) 3 (((r_in a b (a 6 d).toInt64) 8 3) + (((m_pd (a 2) (a 3) ((r_in a b (a 6 d).toInt64) 1) n).2) - (m_of (a 0 1) ((m_pd (a 2) (a 3) ((r_in a b (a 6 d).toInt64) 1) n).2))))) 7 (((r_in a b (a 6 d).toInt64) 8 7) + (m_of (a 0 1) ((m_pd (a 2) (a 3) ((r_in a b (a 6 d).toInt64) 1) n).2)))) 4 (((r_in a b (a 6 d).toInt64) 8 4) + (r_over ((r_in a b (a 6 d).toInt64) 8 7 + m_of (a 0 1) (m_pd (a 2) (a 3) ((r_in a b (a 6 d).toInt64) 1) n).2) ((r_in a b (a 6 d).toInt64) 0 0)))) 7 ((((r_in a b (a 6 d).toInt64) 8 7) + (m_of (a 0 1) ((m_pd (a 2) (a 3) ((r_in a b (a 6 d).toInt64) 1) n).2))) - (r_over ((r_in a b (a 6 d).toInt64) 8 7 + m_of (a 0 1) (m_pd (a 2) (a 3) ((r_in a b (a 6 d).toInt64) 1) n).2) ((r_in a b (a 6 d).toInt64) 0 0)))))) := hD
        refine lv_aload_n hx hb dX2_dayRuns_260 rfl (lv_at hl 3 rfl) ?_
        refine va_get (D := D) (ci := 2) (v := .ref (q 7)) (C := RX2) (T := TX2) (N := 22) hx hb hts iw_X2 hown hK hP 0 rfl rfl 14 (by decide) (hts _ kf_X2_32) (fun _ h9 => h9) rfl dX2_dayRuns_261 ?_
        refine lv_aload_n hx hb dX2_dayRuns_264 rfl (lv_at hl 3 rfl) ?_
        refine va_get (D := D) (ci := 2) (v := .int (a 0 4)) (C := RX2) (T := TX2) (N := 22) hx hb hts iw_X2 hown hK hP 0 rfl rfl 12 (by decide) (hts _ kf_X2_90) (fun _ h9 => h9) rfl dX2_dayRuns_265 ?_
        rw [hd]
        refine lv_lconst (v := 0) hx hb dX2_dayRuns_268 (by decide) ?_
        refine za_last (k := d) (x := 0) (f := ((r_in a b (a 6 d).toInt64) 7)) hx hb hK hP hD hS 7 1 rfl rfl rfl (by omega) (by decide) dX2_dayRuns_269 (fun H locs hP hD hS => ?_)
        have hP : va_P D vwCl (wM g q a (va_up (va_up (va_up (r_in a b (a 6 d).toInt64) 1 ((m_pd (a 2) (a 3) ((r_in a b (a 6 d).toInt64) 1) n).1)) 7 (vp_updL ((r_in a b (a 6 d).toInt64) 7) d 0)) 8 (vp_updL (vp_updL (vp_updL (vp_updL (vp_updL ((r_in a b (a 6 d).toInt64) 8) 2 (((r_in a b (a 6 d).toInt64) 8 2) + ((m_pd (a 2) (a 3) ((r_in a b (a 6 d).toInt64) 1) n).2))) 3 (((r_in a b (a 6 d).toInt64) 8 3) + (((m_pd (a 2) (a 3) ((r_in a b (a 6 d).toInt64) 1) n).2) - (m_of (a 0 1) ((m_pd (a 2) (a 3) ((r_in a b (a 6 d).toInt64) 1) n).2))))) 7 (((r_in a b (a 6 d).toInt64) 8 7) + (m_of (a 0 1) ((m_pd (a 2) (a 3) ((r_in a b (a 6 d).toInt64) 1) n).2)))) 4 (((r_in a b (a 6 d).toInt64) 8 4) + (r_over ((r_in a b (a 6 d).toInt64) 8 7 + m_of (a 0 1) (m_pd (a 2) (a 3) ((r_in a b (a 6 d).toInt64) 1) n).2) ((r_in a b (a 6 d).toInt64) 0 0)))) 7 ((((r_in a b (a 6 d).toInt64) 8 7) + (m_of (a 0 1) ((m_pd (a 2) (a 3) ((r_in a b (a 6 d).toInt64) 1) n).2))) - (r_over ((r_in a b (a 6 d).toInt64) 8 7 + m_of (a 0 1) (m_pd (a 2) (a 3) ((r_in a b (a 6 d).toInt64) 1) n).2) ((r_in a b (a 6 d).toInt64) 0 0)))))) H := hP
        have hD : va_D A (wM g q a (va_up (va_up (va_up (r_in a b (a 6 d).toInt64) 1 ((m_pd (a 2) (a 3) ((r_in a b (a 6 d).toInt64) 1) n).1)) 7 (vp_updL ((r_in a b (a 6 d).toInt64) 7) d 0)) 8 (vp_updL (vp_updL (vp_updL (vp_updL (vp_updL ((r_in a b (a 6 d).toInt64) 8) 2 (((r_in a b (a 6 d).toInt64) 8 2) + ((m_pd (a 2) (a 3) ((r_in a b (a 6 d).toInt64) 1) n).2))) 3 (((r_in a b (a 6 d).toInt64) 8 3) + (((m_pd (a 2) (a 3) ((r_in a b (a 6 d).toInt64) 1) n).2) - (m_of (a 0 1) ((m_pd (a 2) (a 3) ((r_in a b (a 6 d).toInt64) 1) n).2))))) 7 (((r_in a b (a 6 d).toInt64) 8 7) + (m_of (a 0 1) ((m_pd (a 2) (a 3) ((r_in a b (a 6 d).toInt64) 1) n).2)))) 4 (((r_in a b (a 6 d).toInt64) 8 4) + (r_over ((r_in a b (a 6 d).toInt64) 8 7 + m_of (a 0 1) (m_pd (a 2) (a 3) ((r_in a b (a 6 d).toInt64) 1) n).2) ((r_in a b (a 6 d).toInt64) 0 0)))) 7 ((((r_in a b (a 6 d).toInt64) 8 7) + (m_of (a 0 1) ((m_pd (a 2) (a 3) ((r_in a b (a 6 d).toInt64) 1) n).2))) - (r_over ((r_in a b (a 6 d).toInt64) 8 7 + m_of (a 0 1) (m_pd (a 2) (a 3) ((r_in a b (a 6 d).toInt64) 1) n).2) ((r_in a b (a 6 d).toInt64) 0 0)))))) := hD
        refine lv_aload_n hx hb dX2_dayRuns_270 rfl (lv_at hl 3 rfl) ?_
        refine zf_vv (rest := []) C0 hP hD hS (c_M_stagesRun l D g q a (va_up (va_up (va_up (r_in a b (a 6 d).toInt64) 1 ((m_pd (a 2) (a 3) ((r_in a b (a 6 d).toInt64) 1) n).1)) 7 (vp_updL ((r_in a b (a 6 d).toInt64) 7) d 0)) 8 (vp_updL (vp_updL (vp_updL (vp_updL (vp_updL ((r_in a b (a 6 d).toInt64) 8) 2 (((r_in a b (a 6 d).toInt64) 8 2) + ((m_pd (a 2) (a 3) ((r_in a b (a 6 d).toInt64) 1) n).2))) 3 (((r_in a b (a 6 d).toInt64) 8 3) + (((m_pd (a 2) (a 3) ((r_in a b (a 6 d).toInt64) 1) n).2) - (m_of (a 0 1) ((m_pd (a 2) (a 3) ((r_in a b (a 6 d).toInt64) 1) n).2))))) 7 (((r_in a b (a 6 d).toInt64) 8 7) + (m_of (a 0 1) ((m_pd (a 2) (a 3) ((r_in a b (a 6 d).toInt64) 1) n).2)))) 4 (((r_in a b (a 6 d).toInt64) 8 4) + (r_over ((r_in a b (a 6 d).toInt64) 8 7 + m_of (a 0 1) (m_pd (a 2) (a 3) ((r_in a b (a 6 d).toInt64) 1) n).2) ((r_in a b (a 6 d).toInt64) 0 0)))) 7 ((((r_in a b (a 6 d).toInt64) 8 7) + (m_of (a 0 1) ((m_pd (a 2) (a 3) ((r_in a b (a 6 d).toInt64) 1) n).2))) - (r_over ((r_in a b (a 6 d).toInt64) 8 7 + m_of (a 0 1) (m_pd (a 2) (a 3) ((r_in a b (a 6 d).toInt64) 1) n).2) ((r_in a b (a 6 d).toInt64) 0 0))))) sc hsc hsc4 d hd hd4) kk_X2_107 kv_X2_107 2 rfl 0 rfl hl.1 rfl rfl (Nat.le_of_ble_eq_true rfl) ⟨(Nat.le_of_ble_eq_true rfl), (Nat.le_of_ble_eq_true rfl)⟩ rfl rfl ⟨(Nat.le_of_ble_eq_true rfl), (Nat.le_of_ble_eq_true rfl)⟩ dX2_dayRuns_271 (fun u_271 H locs hw_271 hP hD hS => ?_)
        refine lv_aload_n hx hb dX2_dayRuns_274 rfl (lv_at hl 3 rfl) ?_
        refine lv_dup hx hb dX2_dayRuns_275 rfl ?_
        refine va_get (D := D) (ci := 2) (v := .int (a 0 4)) (C := RX2) (T := TX2) (N := 22) hx hb hts iw_X2 hown hK hP 0 rfl rfl 12 (by decide) (hts _ kf_X2_90) (fun _ h9 => h9) rfl dX2_dayRuns_276 ?_
        rw [hd]
        refine lv_iconst (v := 1) hx hb dX2_dayRuns_279 (by decide) ?_
        refine lv_iadd hx hb dX2_dayRuns_280 ?_
        rw [show (nI d) + 1 = nI (d + 1) from nI_1 d]
        refine va_put (D := D) (ci := 2) (v := .int (nI (d + 1))) (ty := .int) (C := RX2) (T := TX2) (N := 22) hx hb hts iw_X2 tyX2 tyok_X2 nm_X2 hown hK hP hD hS 0 rfl rfl 12 (by decide) (hts _ kf_X2_90) (fun _ h9 => h9) rfl (by decide +kernel) rfl rfl (Nat.le_of_ble_eq_true rfl) dX2_dayRuns_281 (fun H locs hP hD hS => ?_)
        have hP : va_P D vwCl (wM g q (va_up a 0 (upd (a 0) 4 (nI (d + 1)))) u_271) H := hP
        have hD : va_D A (wM g q (va_up a 0 (upd (a 0) 4 (nI (d + 1)))) u_271) := hD
        exact hret u_271 _ _ _ _ _ _ (hw_271.trans rfl) hP hD hS (Nat.le_of_ble_eq_true rfl) (Nat.le_of_ble_eq_true rfl) dX2_dayRuns_284
    | succ t_74 ih_74 =>
      intro i hi_74 H locs ls hP hD hS hl
      refine lv_iload hx hb dX2_dayRuns_74 (lv_at hl 0 rfl) ?_
      refine lv_aload_n hx hb dX2_dayRuns_76 rfl (lv_at hl 2 rfl) ?_
      refine va_get (D := D) (ci := 2) (v := .int (a 0 5)) (C := RX2) (T := TX2) (N := 22) hx hb hts iw_X2 hown hK hP 0 rfl rfl 0 (by decide) (hts _ kf_X2_59) (fun _ h9 => h9) rfl dX2_dayRuns_77 ?_
      rw [hly]
      refine lv_icmp_ge (tgt := 156) hx hb dX2_dayRuns_80 (by decide) (fun c_80 => absurd c_80 (nI_ge (by omega) (by omega))) (fun _ => ?_)
      refine lv_aload_n hx hb dX2_dayRuns_83 rfl (lv_at hl 2 rfl) ?_
      refine va_get (D := D) (ci := 2) (v := .ref (q 1)) (C := RX2) (T := TX2) (N := 22) hx hb hts iw_X2 hown hK hP 0 rfl rfl 1 (by decide) (hts _ kf_X2_7) (fun _ h9 => h9) rfl dX2_dayRuns_84 ?_
      refine lv_iload hx hb dX2_dayRuns_87 (lv_at hl 0 rfl) ?_
      refine lv_dup2_11 hx hb dX2_dayRuns_89 rfl rfl ?_
      refine za_lald (k := i) (f := ((m_pd (a 2) (a 3) ((r_in a b (a 6 d).toInt64) 1) i).1)) (v := (m_pd (a 2) (a 3) ((r_in a b (a 6 d).toInt64) 1) i).1 i) hx hb hK hP 1 1 rfl rfl rfl (by omega) (by decide) rfl dX2_dayRuns_90 ?_
      refine lv_lload hx hb dX2_dayRuns_91 (lv_at hl 1 rfl) ?_
      refine lv_ladd hx hb dX2_dayRuns_93 ?_
      refine za_last (k := i) (x := ((m_pd (a 2) (a 3) ((r_in a b (a 6 d).toInt64) 1) i).1 i) + ((m_pd (a 2) (a 3) ((r_in a b (a 6 d).toInt64) 1) i).2)) (f := ((m_pd (a 2) (a 3) ((r_in a b (a 6 d).toInt64) 1) i).1)) hx hb hK hP hD hS 1 1 rfl rfl rfl (by omega) (by decide) dX2_dayRuns_94 (fun H locs hP hD hS => ?_)
      have hP : va_P D vwCl (wM g q a (va_up (r_in a b (a 6 d).toInt64) 1 (vp_updL ((m_pd (a 2) (a 3) ((r_in a b (a 6 d).toInt64) 1) i).1) i (((m_pd (a 2) (a 3) ((r_in a b (a 6 d).toInt64) 1) i).1 i) + ((m_pd (a 2) (a 3) ((r_in a b (a 6 d).toInt64) 1) i).2))))) H := hP
      have hD : va_D A (wM g q a (va_up (r_in a b (a 6 d).toInt64) 1 (vp_updL ((m_pd (a 2) (a 3) ((r_in a b (a 6 d).toInt64) 1) i).1) i (((m_pd (a 2) (a 3) ((r_in a b (a 6 d).toInt64) 1) i).1 i) + ((m_pd (a 2) (a 3) ((r_in a b (a 6 d).toInt64) 1) i).2))))) := hD
      refine lv_aload_n hx hb dX2_dayRuns_95 rfl (lv_at hl 2 rfl) ?_
      refine va_get (D := D) (ci := 2) (v := .ref (q 1)) (C := RX2) (T := TX2) (N := 22) hx hb hts iw_X2 hown hK hP 0 rfl rfl 1 (by decide) (hts _ kf_X2_7) (fun _ h9 => h9) rfl dX2_dayRuns_96 ?_
      refine lv_iload hx hb dX2_dayRuns_99 (lv_at hl 0 rfl) ?_
      refine za_lald (k := i) (f := (vp_updL ((m_pd (a 2) (a 3) ((r_in a b (a 6 d).toInt64) 1) i).1) i (((m_pd (a 2) (a 3) ((r_in a b (a 6 d).toInt64) 1) i).1 i) + ((m_pd (a 2) (a 3) ((r_in a b (a 6 d).toInt64) 1) i).2)))) (v := ((m_pd (a 2) (a 3) ((r_in a b (a 6 d).toInt64) 1) i).1 i) + ((m_pd (a 2) (a 3) ((r_in a b (a 6 d).toInt64) 1) i).2)) hx hb hK hP 1 1 rfl rfl rfl (by omega) (by decide) pk_uLs dX2_dayRuns_101 ?_
      refine lv_aload_n hx hb dX2_dayRuns_102 rfl (lv_at hl 2 rfl) ?_
      refine va_get (D := D) (ci := 2) (v := .ref (q 2)) (C := RX2) (T := TX2) (N := 22) hx hb hts iw_X2 hown hK hP 0 rfl rfl 2 (by decide) (hts _ kf_X2_13) (fun _ h9 => h9) rfl dX2_dayRuns_103 ?_
      refine lv_iload hx hb dX2_dayRuns_106 (lv_at hl 0 rfl) ?_
      refine za_iald (k := i) (f := (a 2)) (v := a 2 i) hx hb hK hP 2 0 rfl rfl rfl (by omega) (by decide) rfl dX2_dayRuns_108 ?_
      refine lv_i2l (v := (a 2 i).toInt64) hx hb dX2_dayRuns_109 rfl ?_
      refine lv_lsub hx hb dX2_dayRuns_110 ?_
      refine lv_lstore (lv' := [(8, .long ((((m_pd (a 2) (a 3) ((r_in a b (a 6 d).toInt64) 1) i).1 i) + ((m_pd (a 2) (a 3) ((r_in a b (a 6 d).toInt64) 1) i).2)) - ((a 2 i).toInt64))), (7, .int (nI i)), (5, .long ((m_pd (a 2) (a 3) ((r_in a b (a 6 d).toInt64) 1) i).2)), (0, .ref (q 0))]) hx hb dX2_dayRuns_111 hl (by decide) rfl (fun ls hl => ?_)
      refine lv_lload hx hb dX2_dayRuns_113 (lv_at hl 0 rfl) ?_
      refine lv_lconst (v := 0) hx hb dX2_dayRuns_115 (by decide) ?_
      refine zl_le (tgt := 135) hx hb dX2_dayRuns_116 dX2_dayRuns_117 (by decide) (fun c_116 => ?_) (fun c_116 => ?_)
      · -- jump at 116
        refine lv_lconst (v := 0) hx hb dX2_dayRuns_135 (by decide) ?_
        refine lv_topl (fun t9_3 et9_3 => ?_)
        obtain rfl : t9_3 = m_of (a 3 i) (m_max0 ((m_pd (a 2) (a 3) ((r_in a b (a 6 d).toInt64) 1) i).1 i + (m_pd (a 2) (a 3) ((r_in a b (a 6 d).toInt64) 1) i).2 - (a 2 i).toInt64)) := et9_3.trans (m_out0 c_116)
        refine lv_lstore (lv' := [(5, .long (m_of (a 3 i) (m_max0 ((m_pd (a 2) (a 3) ((r_in a b (a 6 d).toInt64) 1) i).1 i + (m_pd (a 2) (a 3) ((r_in a b (a 6 d).toInt64) 1) i).2 - (a 2 i).toInt64)))), (8, .long ((((m_pd (a 2) (a 3) ((r_in a b (a 6 d).toInt64) 1) i).1 i) + ((m_pd (a 2) (a 3) ((r_in a b (a 6 d).toInt64) 1) i).2)) - ((a 2 i).toInt64))), (7, .int (nI i)), (0, .ref (q 0))]) hx hb dX2_dayRuns_136 hl (by decide) rfl (fun ls hl => ?_)
        refine lv_aload_n hx hb dX2_dayRuns_138 rfl (lv_at hl 3 rfl) ?_
        refine va_get (D := D) (ci := 2) (v := .ref (q 1)) (C := RX2) (T := TX2) (N := 22) hx hb hts iw_X2 hown hK hP 0 rfl rfl 1 (by decide) (hts _ kf_X2_7) (fun _ h9 => h9) rfl dX2_dayRuns_139 ?_
        refine lv_iload hx hb dX2_dayRuns_142 (lv_at hl 2 rfl) ?_
        refine lv_dup2_11 hx hb dX2_dayRuns_144 rfl rfl ?_
        refine za_lald (k := i) (f := (vp_updL ((m_pd (a 2) (a 3) ((r_in a b (a 6 d).toInt64) 1) i).1) i (((m_pd (a 2) (a 3) ((r_in a b (a 6 d).toInt64) 1) i).1 i) + ((m_pd (a 2) (a 3) ((r_in a b (a 6 d).toInt64) 1) i).2)))) (v := ((m_pd (a 2) (a 3) ((r_in a b (a 6 d).toInt64) 1) i).1 i) + ((m_pd (a 2) (a 3) ((r_in a b (a 6 d).toInt64) 1) i).2)) hx hb hK hP 1 1 rfl rfl rfl (by omega) (by decide) pk_uLs dX2_dayRuns_145 ?_
        refine lv_lload hx hb dX2_dayRuns_146 (lv_at hl 0 rfl) ?_
        refine lv_lsub hx hb dX2_dayRuns_148 ?_
        refine za_last (k := i) (x := (((m_pd (a 2) (a 3) ((r_in a b (a 6 d).toInt64) 1) i).1 i) + ((m_pd (a 2) (a 3) ((r_in a b (a 6 d).toInt64) 1) i).2)) - (m_of (a 3 i) (m_max0 ((m_pd (a 2) (a 3) ((r_in a b (a 6 d).toInt64) 1) i).1 i + (m_pd (a 2) (a 3) ((r_in a b (a 6 d).toInt64) 1) i).2 - (a 2 i).toInt64)))) (f := (vp_updL ((m_pd (a 2) (a 3) ((r_in a b (a 6 d).toInt64) 1) i).1) i (((m_pd (a 2) (a 3) ((r_in a b (a 6 d).toInt64) 1) i).1 i) + ((m_pd (a 2) (a 3) ((r_in a b (a 6 d).toInt64) 1) i).2)))) hx hb hK hP hD hS 1 1 rfl rfl rfl (by omega) (by decide) dX2_dayRuns_149 (fun H locs hP hD hS => ?_)
        have hP : va_P D vwCl (wM g q a (va_up (r_in a b (a 6 d).toInt64) 1 (vp_updL (vp_updL ((m_pd (a 2) (a 3) ((r_in a b (a 6 d).toInt64) 1) i).1) i (((m_pd (a 2) (a 3) ((r_in a b (a 6 d).toInt64) 1) i).1 i) + ((m_pd (a 2) (a 3) ((r_in a b (a 6 d).toInt64) 1) i).2))) i ((((m_pd (a 2) (a 3) ((r_in a b (a 6 d).toInt64) 1) i).1 i) + ((m_pd (a 2) (a 3) ((r_in a b (a 6 d).toInt64) 1) i).2)) - (m_of (a 3 i) (m_max0 ((m_pd (a 2) (a 3) ((r_in a b (a 6 d).toInt64) 1) i).1 i + (m_pd (a 2) (a 3) ((r_in a b (a 6 d).toInt64) 1) i).2 - (a 2 i).toInt64))))))) H := hP
        have hD : va_D A (wM g q a (va_up (r_in a b (a 6 d).toInt64) 1 (vp_updL (vp_updL ((m_pd (a 2) (a 3) ((r_in a b (a 6 d).toInt64) 1) i).1) i (((m_pd (a 2) (a 3) ((r_in a b (a 6 d).toInt64) 1) i).1 i) + ((m_pd (a 2) (a 3) ((r_in a b (a 6 d).toInt64) 1) i).2))) i ((((m_pd (a 2) (a 3) ((r_in a b (a 6 d).toInt64) 1) i).1 i) + ((m_pd (a 2) (a 3) ((r_in a b (a 6 d).toInt64) 1) i).2)) - (m_of (a 3 i) (m_max0 ((m_pd (a 2) (a 3) ((r_in a b (a 6 d).toInt64) 1) i).1 i + (m_pd (a 2) (a 3) ((r_in a b (a 6 d).toInt64) 1) i).2 - (a 2 i).toInt64))))))) := hD
        refine lv_iinc (v := nI (i + 1)) (lv' := [(7, .int (nI (i + 1))), (5, .long (m_of (a 3 i) (m_max0 ((m_pd (a 2) (a 3) ((r_in a b (a 6 d).toInt64) 1) i).1 i + (m_pd (a 2) (a 3) ((r_in a b (a 6 d).toInt64) 1) i).2 - (a 2 i).toInt64)))), (8, .long ((((m_pd (a 2) (a 3) ((r_in a b (a 6 d).toInt64) 1) i).1 i) + ((m_pd (a 2) (a 3) ((r_in a b (a 6 d).toInt64) 1) i).2)) - ((a 2 i).toInt64))), (0, .ref (q 0))]) hx hb dX2_dayRuns_150 hl (k := 2) rfl (nI_1 i) (by decide) rfl (fun ls hl => ?_)
        refine lv_goto (tgt := 74) hx hb dX2_dayRuns_153 (by decide) ?_
        have hP : va_P D vwCl (wM g q a (va_up (r_in a b (a 6 d).toInt64) 1 ((m_pd (a 2) (a 3) ((r_in a b (a 6 d).toInt64) 1) (i + 1)).1))) _ := hP
        have hD : va_D A (wM g q a (va_up (r_in a b (a 6 d).toInt64) 1 ((m_pd (a 2) (a 3) ((r_in a b (a 6 d).toInt64) 1) (i + 1)).1))) := hD
        have hl : lv_has ls 11 [(7, .int (nI (i + 1))), (5, .long ((m_pd (a 2) (a 3) ((r_in a b (a 6 d).toInt64) 1) (i + 1)).2)), (0, .ref (q 0))] := lv_sub hl [0, 1, 3] rfl
        exact ih_74 (i + 1)  (by omega)  _ _ _ hP hD hS hl
      · -- on at 116
        refine lv_lload hx hb dX2_dayRuns_120 (lv_at hl 0 rfl) ?_
        refine lv_aload_n hx hb dX2_dayRuns_122 rfl (lv_at hl 3 rfl) ?_
        refine va_get (D := D) (ci := 2) (v := .ref (q 3)) (C := RX2) (T := TX2) (N := 22) hx hb hts iw_X2 hown hK hP 0 rfl rfl 3 (by decide) (hts _ kf_X2_17) (fun _ h9 => h9) rfl dX2_dayRuns_123 ?_
        refine lv_iload hx hb dX2_dayRuns_126 (lv_at hl 1 rfl) ?_
        refine za_iald (k := i) (f := (a 3)) (v := a 3 i) hx hb hK hP 3 0 rfl rfl rfl (by omega) (by decide) rfl dX2_dayRuns_128 ?_
        refine zk_pl (rest := []) C0 hP hD hS (c_M_partsOf l D (tyG g) ((((m_pd (a 2) (a 3) ((r_in a b (a 6 d).toInt64) 1) i).1 i) + ((m_pd (a 2) (a 3) ((r_in a b (a 6 d).toInt64) 1) i).2)) - ((a 2 i).toInt64)) (a 3 i)) kk_X2_103 hl.1 rfl rfl (Nat.le_of_ble_eq_true rfl) ⟨(Nat.le_of_ble_eq_true rfl), (Nat.le_of_ble_eq_true rfl)⟩ rfl rfl ⟨(Nat.le_of_ble_eq_true rfl), (Nat.le_of_ble_eq_true rfl)⟩ dX2_dayRuns_129 (fun r_129 H locs hw_129 hP hS => ?_)
        obtain rfl := hw_129
        refine lv_goto (tgt := 136) hx hb dX2_dayRuns_132 (by decide) ?_
        refine lv_topl (fun t9_4 et9_4 => ?_)
        obtain rfl : t9_4 = m_of (a 3 i) (m_max0 ((m_pd (a 2) (a 3) ((r_in a b (a 6 d).toInt64) 1) i).1 i + (m_pd (a 2) (a 3) ((r_in a b (a 6 d).toInt64) 1) i).2 - (a 2 i).toInt64)) := et9_4.trans (m_out1 c_116)
        refine lv_lstore (lv' := [(5, .long (m_of (a 3 i) (m_max0 ((m_pd (a 2) (a 3) ((r_in a b (a 6 d).toInt64) 1) i).1 i + (m_pd (a 2) (a 3) ((r_in a b (a 6 d).toInt64) 1) i).2 - (a 2 i).toInt64)))), (8, .long ((((m_pd (a 2) (a 3) ((r_in a b (a 6 d).toInt64) 1) i).1 i) + ((m_pd (a 2) (a 3) ((r_in a b (a 6 d).toInt64) 1) i).2)) - ((a 2 i).toInt64))), (7, .int (nI i)), (0, .ref (q 0))]) hx hb dX2_dayRuns_136 hl (by decide) rfl (fun ls hl => ?_)
        refine lv_aload_n hx hb dX2_dayRuns_138 rfl (lv_at hl 3 rfl) ?_
        refine va_get (D := D) (ci := 2) (v := .ref (q 1)) (C := RX2) (T := TX2) (N := 22) hx hb hts iw_X2 hown hK hP 0 rfl rfl 1 (by decide) (hts _ kf_X2_7) (fun _ h9 => h9) rfl dX2_dayRuns_139 ?_
        refine lv_iload hx hb dX2_dayRuns_142 (lv_at hl 2 rfl) ?_
        refine lv_dup2_11 hx hb dX2_dayRuns_144 rfl rfl ?_
        refine za_lald (k := i) (f := (vp_updL ((m_pd (a 2) (a 3) ((r_in a b (a 6 d).toInt64) 1) i).1) i (((m_pd (a 2) (a 3) ((r_in a b (a 6 d).toInt64) 1) i).1 i) + ((m_pd (a 2) (a 3) ((r_in a b (a 6 d).toInt64) 1) i).2)))) (v := ((m_pd (a 2) (a 3) ((r_in a b (a 6 d).toInt64) 1) i).1 i) + ((m_pd (a 2) (a 3) ((r_in a b (a 6 d).toInt64) 1) i).2)) hx hb hK hP 1 1 rfl rfl rfl (by omega) (by decide) pk_uLs dX2_dayRuns_145 ?_
        refine lv_lload hx hb dX2_dayRuns_146 (lv_at hl 0 rfl) ?_
        refine lv_lsub hx hb dX2_dayRuns_148 ?_
        refine za_last (k := i) (x := (((m_pd (a 2) (a 3) ((r_in a b (a 6 d).toInt64) 1) i).1 i) + ((m_pd (a 2) (a 3) ((r_in a b (a 6 d).toInt64) 1) i).2)) - (m_of (a 3 i) (m_max0 ((m_pd (a 2) (a 3) ((r_in a b (a 6 d).toInt64) 1) i).1 i + (m_pd (a 2) (a 3) ((r_in a b (a 6 d).toInt64) 1) i).2 - (a 2 i).toInt64)))) (f := (vp_updL ((m_pd (a 2) (a 3) ((r_in a b (a 6 d).toInt64) 1) i).1) i (((m_pd (a 2) (a 3) ((r_in a b (a 6 d).toInt64) 1) i).1 i) + ((m_pd (a 2) (a 3) ((r_in a b (a 6 d).toInt64) 1) i).2)))) hx hb hK hP hD hS 1 1 rfl rfl rfl (by omega) (by decide) dX2_dayRuns_149 (fun H locs hP hD hS => ?_)
        have hP : va_P D vwCl (wM g q a (va_up (r_in a b (a 6 d).toInt64) 1 (vp_updL (vp_updL ((m_pd (a 2) (a 3) ((r_in a b (a 6 d).toInt64) 1) i).1) i (((m_pd (a 2) (a 3) ((r_in a b (a 6 d).toInt64) 1) i).1 i) + ((m_pd (a 2) (a 3) ((r_in a b (a 6 d).toInt64) 1) i).2))) i ((((m_pd (a 2) (a 3) ((r_in a b (a 6 d).toInt64) 1) i).1 i) + ((m_pd (a 2) (a 3) ((r_in a b (a 6 d).toInt64) 1) i).2)) - (m_of (a 3 i) (m_max0 ((m_pd (a 2) (a 3) ((r_in a b (a 6 d).toInt64) 1) i).1 i + (m_pd (a 2) (a 3) ((r_in a b (a 6 d).toInt64) 1) i).2 - (a 2 i).toInt64))))))) H := hP
        have hD : va_D A (wM g q a (va_up (r_in a b (a 6 d).toInt64) 1 (vp_updL (vp_updL ((m_pd (a 2) (a 3) ((r_in a b (a 6 d).toInt64) 1) i).1) i (((m_pd (a 2) (a 3) ((r_in a b (a 6 d).toInt64) 1) i).1 i) + ((m_pd (a 2) (a 3) ((r_in a b (a 6 d).toInt64) 1) i).2))) i ((((m_pd (a 2) (a 3) ((r_in a b (a 6 d).toInt64) 1) i).1 i) + ((m_pd (a 2) (a 3) ((r_in a b (a 6 d).toInt64) 1) i).2)) - (m_of (a 3 i) (m_max0 ((m_pd (a 2) (a 3) ((r_in a b (a 6 d).toInt64) 1) i).1 i + (m_pd (a 2) (a 3) ((r_in a b (a 6 d).toInt64) 1) i).2 - (a 2 i).toInt64))))))) := hD
        refine lv_iinc (v := nI (i + 1)) (lv' := [(7, .int (nI (i + 1))), (5, .long (m_of (a 3 i) (m_max0 ((m_pd (a 2) (a 3) ((r_in a b (a 6 d).toInt64) 1) i).1 i + (m_pd (a 2) (a 3) ((r_in a b (a 6 d).toInt64) 1) i).2 - (a 2 i).toInt64)))), (8, .long ((((m_pd (a 2) (a 3) ((r_in a b (a 6 d).toInt64) 1) i).1 i) + ((m_pd (a 2) (a 3) ((r_in a b (a 6 d).toInt64) 1) i).2)) - ((a 2 i).toInt64))), (0, .ref (q 0))]) hx hb dX2_dayRuns_150 hl (k := 2) rfl (nI_1 i) (by decide) rfl (fun ls hl => ?_)
        refine lv_goto (tgt := 74) hx hb dX2_dayRuns_153 (by decide) ?_
        have hP : va_P D vwCl (wM g q a (va_up (r_in a b (a 6 d).toInt64) 1 ((m_pd (a 2) (a 3) ((r_in a b (a 6 d).toInt64) 1) (i + 1)).1))) _ := hP
        have hD : va_D A (wM g q a (va_up (r_in a b (a 6 d).toInt64) 1 ((m_pd (a 2) (a 3) ((r_in a b (a 6 d).toInt64) 1) (i + 1)).1))) := hD
        have hl : lv_has ls 11 [(7, .int (nI (i + 1))), (5, .long ((m_pd (a 2) (a 3) ((r_in a b (a 6 d).toInt64) 1) (i + 1)).2)), (0, .ref (q 0))] := lv_sub hl [0, 1, 3] rfl
        exact ih_74 (i + 1)  (by omega)  _ _ _ hP hD hS hl
  exact lp_74 (n - 0) 0  (by omega)  _ _ _ hP hD hS (lv_sub hl [0, 1, 4] rfl)
