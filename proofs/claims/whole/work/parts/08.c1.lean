def rm_within : Room := { frames := 0, cells := 0, slots := 0, locals := 0 }
set_option maxHeartbeats 4000000 in
set_option maxRecDepth 100000 in
/-- within(v, lo, hi) -/
theorem c_within (l : Launch) (D : va_G) (tys : List (ClassId × FieldType)) (v lo hi : Int64) : zc_i l D tys yX0_within cX0_within 6 (some .boolean) rm_within [.long v, .long lo, .long hi] ([]) (fun (r : Int32) (u : Unit) => r = zb (m_within v lo hi)) (fun _ => []) 0 0 := by
  refine zi_of (by decide) (Nat.le_of_ble_eq_true rfl) rfl ?_
  intro p e s m args below meth cd_ A Q ls C0 hnm hP hD hS hl hret
  obtain ⟨hx, hb, hr, hml, hlocks, hown, hts, hK, hA, hN⟩ := id C0
  have hl : lv_has ls 6 [(0, .long v), (2, .long lo), (4, .long hi)] := hl
  refine lv_lload_n hx hb dX0_within_0 rfl (lv_at hl 0 rfl) ?_
  refine lv_lload_n hx hb dX0_within_1 rfl (lv_at hl 1 rfl) ?_
  refine zl_lt (tgt := 17) hx hb dX0_within_2 dX0_within_3 (by decide) (fun c_2 => ?_) (fun c_2 => ?_)
  · -- jump at 2
    refine lv_iconst (v := 0) hx hb dX0_within_17 (by decide) ?_
    exact hret 0 () _ _ _ _ _ _ rfl (by first | exact m_w1 c_2 c_9 | exact m_w2 c_2 | exact m_w3 c_9) hP hD hS (Nat.le_of_ble_eq_true rfl) (Nat.le_of_ble_eq_true rfl) dX0_within_18
  · -- on at 2
    refine lv_lload_n hx hb dX0_within_6 rfl (lv_at hl 0 rfl) ?_
    refine lv_lload hx hb dX0_within_7 (lv_at hl 2 rfl) ?_
    refine zl_gt (tgt := 17) hx hb dX0_within_9 dX0_within_10 (by decide) (fun c_9 => ?_) (fun c_9 => ?_)
    · -- jump at 9
      refine lv_iconst (v := 0) hx hb dX0_within_17 (by decide) ?_
      exact hret 0 () _ _ _ _ _ _ rfl (by first | exact m_w1 c_2 c_9 | exact m_w2 c_2 | exact m_w3 c_9) hP hD hS (Nat.le_of_ble_eq_true rfl) (Nat.le_of_ble_eq_true rfl) dX0_within_18
    · -- on at 9
      refine lv_iconst (v := 1) hx hb dX0_within_13 (by decide) ?_
      refine lv_goto (tgt := 18) hx hb dX0_within_14 (by decide) ?_
      exact hret 1 () _ _ _ _ _ _ rfl (by first | exact m_w1 c_2 c_9 | exact m_w2 c_2 | exact m_w3 c_9) hP hD hS (Nat.le_of_ble_eq_true rfl) (Nat.le_of_ble_eq_true rfl) dX0_within_18
def rm_isParts : Room := { frames := 1, cells := 0, slots := 0, locals := 25 }
set_option maxHeartbeats 4000000 in
set_option maxRecDepth 100000 in
theorem c_isParts (l : Launch) (D : va_G) (tys : List (ClassId × FieldType)) (x : Int32) : zc_i l D tys yX0_isParts cX0_isParts 1 (some .boolean) rm_isParts [.int x] ([]) (fun (r : Int32) (u : Unit) => r = zb (m_parts x)) (fun _ => []) 0 0 := by
  refine zi_of (by decide) (Nat.le_of_ble_eq_true rfl) rfl ?_
  intro p e s m args below meth cd_ A Q ls C0 hnm hP hD hS hl hret
  obtain ⟨hx, hb, hr, hml, hlocks, hown, hts, hK, hA, hN⟩ := id C0
  have hl : lv_has ls 1 [(0, .int x)] := hl
  refine lv_iload_n hx hb dX0_isParts_0 rfl (lv_at hl 0 rfl) ?_
  refine lv_i2l (v := x.toInt64) hx hb dX0_isParts_1 rfl ?_
  refine lv_lconst (v := 0) hx hb dX0_isParts_2 (by decide) ?_
  refine lv_ldc2 (v := 1000) hx hb hown (hts _ kc_X0_145) dX0_isParts_3 ?_
  refine zk_pi (rest := []) C0 hP hD hS (c_within l D tys x.toInt64 (0 : Int64) (1000 : Int64)) kk_X0_46 hl.1 rfl rfl (Nat.le_of_ble_eq_true rfl) ⟨(Nat.le_of_ble_eq_true rfl), (Nat.le_of_ble_eq_true rfl)⟩ rfl rfl ⟨(Nat.le_of_ble_eq_true rfl), (Nat.le_of_ble_eq_true rfl)⟩ dX0_isParts_6 (fun r_6 H locs hw_6 hP hS => ?_)
  obtain rfl := hw_6
  exact hret (zb (m_within x.toInt64 (0 : Int64) (1000 : Int64))) () _ _ _ _ _ _ (zb_n _) rfl hP hD hS (Nat.le_of_ble_eq_true rfl) (Nat.le_of_ble_eq_true rfl) dX0_isParts_9
def rm_isWell : Room := { frames := 1, cells := 0, slots := 0, locals := 25 }
set_option maxHeartbeats 4000000 in
set_option maxRecDepth 100000 in
theorem c_isWell (l : Launch) (D : va_G) (tys : List (ClassId × FieldType)) (x : Int32) : zc_i l D tys yX0_isWell cX0_isWell 1 (some .boolean) rm_isWell [.int x] ([]) (fun (r : Int32) (u : Unit) => r = zb (m_isWell x)) (fun _ => []) 0 0 := by
  refine zi_of (by decide) (Nat.le_of_ble_eq_true rfl) rfl ?_
  intro p e s m args below meth cd_ A Q ls C0 hnm hP hD hS hl hret
  obtain ⟨hx, hb, hr, hml, hlocks, hown, hts, hK, hA, hN⟩ := id C0
  have hl : lv_has ls 1 [(0, .int x)] := hl
  refine lv_iload_n hx hb dX0_isWell_0 rfl (lv_at hl 0 rfl) ?_
  refine lv_i2l (v := x.toInt64) hx hb dX0_isWell_1 rfl ?_
  refine lv_lconst (v := 0) hx hb dX0_isWell_2 (by decide) ?_
  refine lv_ldc2 (v := 3) hx hb hown (hts _ kc_X0_147) dX0_isWell_3 ?_
  refine zk_pi (rest := []) C0 hP hD hS (c_within l D tys x.toInt64 (0 : Int64) (3 : Int64)) kk_X0_46 hl.1 rfl rfl (Nat.le_of_ble_eq_true rfl) ⟨(Nat.le_of_ble_eq_true rfl), (Nat.le_of_ble_eq_true rfl)⟩ rfl rfl ⟨(Nat.le_of_ble_eq_true rfl), (Nat.le_of_ble_eq_true rfl)⟩ dX0_isWell_6 (fun r_6 H locs hw_6 hP hS => ?_)
  obtain rfl := hw_6
  exact hret (zb (m_within x.toInt64 (0 : Int64) (3 : Int64))) () _ _ _ _ _ _ (zb_n _) rfl hP hD hS (Nat.le_of_ble_eq_true rfl) (Nat.le_of_ble_eq_true rfl) dX0_isWell_9
def rm_partsOf : Room := { frames := 0, cells := 0, slots := 0, locals := 0 }
set_option maxHeartbeats 4000000 in
set_option maxRecDepth 100000 in
theorem c_partsOf (l : Launch) (D : va_G) (tys : List (ClassId × FieldType)) (x : Int32) (v : Int64) : zc_l l D tys yX0_partsOf cX0_partsOf 3 (some .long) rm_partsOf [.int x, .long v] ([]) (fun (r : Int64) (u : Unit) => r = m_of x v) (fun _ => []) 0 0 := by
  refine zl_of (by decide) (Nat.le_of_ble_eq_true rfl) rfl ?_
  intro p e s m args below meth cd_ A Q ls C0 hnm hP hD hS hl hret
  obtain ⟨hx, hb, hr, hml, hlocks, hown, hts, hK, hA, hN⟩ := id C0
  have hl : lv_has ls 3 [(0, .int x), (1, .long v)] := hl
  refine lv_lload_n hx hb dX0_partsOf_0 rfl (lv_at hl 1 rfl) ?_
  refine lv_iload_n hx hb dX0_partsOf_1 rfl (lv_at hl 0 rfl) ?_
  refine lv_i2l (v := x.toInt64) hx hb dX0_partsOf_2 rfl ?_
  refine lv_lmul hx hb dX0_partsOf_3 ?_
  refine lv_ldc2 (v := 1000) hx hb hown (hts _ kc_X0_145) dX0_partsOf_4 ?_
  refine lv_ldiv hx hb dX0_partsOf_7 (by decide) ?_
  exact hret ((v * x.toInt64) / 1000) () _ _ _ _ _ _ rfl hP hD hS (Nat.le_of_ble_eq_true rfl) (Nat.le_of_ble_eq_true rfl) dX0_partsOf_8
def rm_isLayer : Room := { frames := 1, cells := 0, slots := 0, locals := 25 }
set_option maxHeartbeats 4000000 in
set_option maxRecDepth 100000 in
theorem c_isLayer (l : Launch) (D : va_G) (g : Nat → ClassId) (q : Nat → Nat) (n : Nat) (a : Nat → Nat → Int32) (b : Nat → Nat → Int64) (v : Nat → Nat → Int32) (x : Int32) : zc_i l D (tyG g) yX0_isLayer cX0_isLayer 2 (some .boolean) rm_isLayer [.ref (q 0), .int x] (wL g q n a b v) (fun (r : Int32) (u : Unit) => r = zb (m_isLayer n x)) (fun _ => wL g q n a b v) 0 0 := by
  refine zi_of (by decide) (Nat.le_of_ble_eq_true rfl) rfl ?_
  intro p e s m args below meth cd_ A Q ls C0 hnm hP hD hS hl hret
  obtain ⟨hx, hb, hr, hml, hlocks, hown, hts, hK, hA, hN⟩ := id C0
  have hl : lv_has ls 2 [(0, .ref (q 0)), (1, .int x)] := hl
  refine lv_iload_n hx hb dX0_isLayer_0 rfl (lv_at hl 1 rfl) ?_
  refine lv_i2l (v := x.toInt64) hx hb dX0_isLayer_1 rfl ?_
  refine lv_lconst (v := 0) hx hb dX0_isLayer_2 (by decide) ?_
  refine lv_aload_n hx hb dX0_isLayer_3 rfl (lv_at hl 0 rfl) ?_
  refine va_get (D := D) (ci := 0) (v := .ref (q 1)) (C := RX0) (T := TX0) (N := 18) hx hb hts iw_X0 hown hK hP 0 rfl rfl 0 (by decide) (hts _ kf_X0_50) (fun _ h9 => h9) rfl dX0_isLayer_4 ?_
  refine va_alen (v := nI n) hx hb hK hP 1 1 rfl rfl rfl dX0_isLayer_7 ?_
  refine lv_iconst (v := 1) hx hb dX0_isLayer_8 (by decide) ?_
  refine lv_isub hx hb dX0_isLayer_9 ?_
  refine lv_i2l (v := ((nI n) - 1).toInt64) hx hb dX0_isLayer_10 rfl ?_
  refine zk_pi (rest := []) C0 hP hD hS (c_within l D (tyG g) x.toInt64 (0 : Int64) (((nI n) - 1).toInt64)) kk_X0_46 hl.1 rfl rfl (Nat.le_of_ble_eq_true rfl) ⟨(Nat.le_of_ble_eq_true rfl), (Nat.le_of_ble_eq_true rfl)⟩ rfl rfl ⟨(Nat.le_of_ble_eq_true rfl), (Nat.le_of_ble_eq_true rfl)⟩ dX0_isLayer_11 (fun r_11 H locs hw_11 hP hS => ?_)
  obtain rfl := hw_11
  exact hret (zb (m_within x.toInt64 (0 : Int64) (((nI n) - 1).toInt64))) () _ _ _ _ _ _ (zb_n _) rfl hP hD hS (Nat.le_of_ble_eq_true rfl) (Nat.le_of_ble_eq_true rfl) dX0_isLayer_14
def rm_areDaysToRun : Room := { frames := 1, cells := 0, slots := 0, locals := 25 }
set_option maxHeartbeats 4000000 in
set_option maxRecDepth 100000 in
theorem c_areDaysToRun (l : Launch) (D : va_G) (g : Nat → ClassId) (q : Nat → Nat) (n : Nat) (a : Nat → Nat → Int32) (b : Nat → Nat → Int64) (v : Nat → Nat → Int32) (x : Int32) : zc_i l D (tyG g) yX0_areDaysToRun cX0_areDaysToRun 2 (some .boolean) rm_areDaysToRun [.ref (q 0), .int x] (wL g q n a b v) (fun (r : Int32) (u : Unit) => r = zb (m_days (a 0 4) x)) (fun _ => wL g q n a b v) 0 0 := by
  refine zi_of (by decide) (Nat.le_of_ble_eq_true rfl) rfl ?_
  intro p e s m args below meth cd_ A Q ls C0 hnm hP hD hS hl hret
  obtain ⟨hx, hb, hr, hml, hlocks, hown, hts, hK, hA, hN⟩ := id C0
  have hl : lv_has ls 2 [(0, .ref (q 0)), (1, .int x)] := hl
  refine lv_iload_n hx hb dX0_areDaysToRun_0 rfl (lv_at hl 1 rfl) ?_
  refine lv_i2l (v := x.toInt64) hx hb dX0_areDaysToRun_1 rfl ?_
  refine lv_lconst (v := 1) hx hb dX0_areDaysToRun_2 (by decide) ?_
  refine lv_ldc2 (v := 100) hx hb hown (hts _ kc_X0_149) dX0_areDaysToRun_3 ?_
  refine zk_pi (rest := []) C0 hP hD hS (c_within l D (tyG g) x.toInt64 (1 : Int64) (100 : Int64)) kk_X0_46 hl.1 rfl rfl (Nat.le_of_ble_eq_true rfl) ⟨(Nat.le_of_ble_eq_true rfl), (Nat.le_of_ble_eq_true rfl)⟩ rfl rfl ⟨(Nat.le_of_ble_eq_true rfl), (Nat.le_of_ble_eq_true rfl)⟩ dX0_areDaysToRun_6 (fun r_6 H locs hw_6 hP hS => ?_)
  obtain rfl := hw_6
  refine lv_if_eq (tgt := 28) hx hb dX0_areDaysToRun_9 (by decide) (fun c_9 => ?_) (fun c_9 => ?_)
  · -- jump at 9
    have c_9 := zb_f c_9
    refine lv_iconst (v := 0) hx hb dX0_areDaysToRun_28 (by decide) ?_
    exact hret 0 () _ _ _ _ _ _ rfl (by first | exact m_d3 c_9 c_21 | exact m_d2 c_21 | exact m_d1 c_9) hP hD hS (Nat.le_of_ble_eq_true rfl) (Nat.le_of_ble_eq_true rfl) dX0_areDaysToRun_29
  · -- on at 9
    have c_9 := zb_t c_9
    refine lv_aload_n hx hb dX0_areDaysToRun_12 rfl (lv_at hl 0 rfl) ?_
    refine va_get (D := D) (ci := 0) (v := .int (a 0 4)) (C := RX0) (T := TX0) (N := 18) hx hb hts iw_X0 hown hK hP 0 rfl rfl 15 (by decide) (hts _ kf_X0_93) (fun _ h9 => h9) rfl dX0_areDaysToRun_13 ?_
    refine lv_iload_n hx hb dX0_areDaysToRun_16 rfl (lv_at hl 1 rfl) ?_
    refine lv_iadd hx hb dX0_areDaysToRun_17 ?_
    refine lv_sipush (v := 400) hx hb dX0_areDaysToRun_18 (by decide) ?_
    refine lv_icmp_gt (tgt := 28) hx hb dX0_areDaysToRun_21 (by decide) (fun c_21 => ?_) (fun c_21 => ?_)
    · -- jump at 21
      refine lv_iconst (v := 0) hx hb dX0_areDaysToRun_28 (by decide) ?_
      exact hret 0 () _ _ _ _ _ _ rfl (by first | exact m_d3 c_9 c_21 | exact m_d2 c_21 | exact m_d1 c_9) hP hD hS (Nat.le_of_ble_eq_true rfl) (Nat.le_of_ble_eq_true rfl) dX0_areDaysToRun_29
    · -- on at 21
      refine lv_iconst (v := 1) hx hb dX0_areDaysToRun_24 (by decide) ?_
      refine lv_goto (tgt := 29) hx hb dX0_areDaysToRun_25 (by decide) ?_
      exact hret 1 () _ _ _ _ _ _ rfl (by first | exact m_d3 c_9 c_21 | exact m_d2 c_21 | exact m_d1 c_9) hP hD hS (Nat.le_of_ble_eq_true rfl) (Nat.le_of_ble_eq_true rfl) dX0_areDaysToRun_29
def rm_comeIn : Room := { frames := 1, cells := 0, slots := 0, locals := 22 }
set_option maxHeartbeats 4000000 in
set_option maxRecDepth 100000 in
theorem c_comeIn (l : Launch) (D : va_G) (g : Nat → ClassId) (q : Nat → Nat) (n : Nat) (a : Nat → Nat → Int32) (b : Nat → Nat → Int64) (v : Nat → Nat → Int32) (hn : 1 ≤ n ∧ n ≤ 6) (x : Int64) : zc_v l D (tyG g) yX0_comeIn cX0_comeIn 5 none rm_comeIn [.ref (q 0), .long x] (wL g q n a b v) (fun (u : (Nat → Nat → Int64)) => u = m_in a b x) (fun u => wL g q n a u v) 0 0 := by
  refine zv_of (by decide) (Nat.le_of_ble_eq_true rfl) rfl ?_
  intro p e s m args below meth cd_ A Q ls C0 hnm hP hD hS hl hret
  obtain ⟨hx, hb, hr, hml, hlocks, hown, hts, hK, hA, hN⟩ := id C0
  have hl : lv_has ls 5 [(0, .ref (q 0)), (1, .long x)] := hl
  refine lv_aload_n hx hb dX0_comeIn_0 rfl (lv_at hl 0 rfl) ?_
  refine va_get (D := D) (ci := 0) (v := .int (a 0 0)) (C := RX0) (T := TX0) (N := 18) hx hb hts iw_X0 hown hK hP 0 rfl rfl 10 (by decide) (hts _ kf_X0_75) (fun _ h9 => h9) rfl dX0_comeIn_1 ?_
  refine lv_lload_n hx hb dX0_comeIn_4 rfl (lv_at hl 1 rfl) ?_
  refine zk_pl (rest := []) C0 hP hD hS (c_partsOf l D (tyG g) (a 0 0) x) kk_X0_169 hl.1 rfl rfl (Nat.le_of_ble_eq_true rfl) ⟨(Nat.le_of_ble_eq_true rfl), (Nat.le_of_ble_eq_true rfl)⟩ rfl rfl ⟨(Nat.le_of_ble_eq_true rfl), (Nat.le_of_ble_eq_true rfl)⟩ dX0_comeIn_5 (fun r_5 H locs hw_5 hP hS => ?_)
  obtain rfl := hw_5
  refine lv_lstore_n (lv' := [(3, .long (m_of (a 0 0) x)), (0, .ref (q 0)), (1, .long x)]) hx hb dX0_comeIn_8 rfl hl (by decide) rfl (fun ls hl => ?_)
  refine lv_aload_n hx hb dX0_comeIn_9 rfl (lv_at hl 1 rfl) ?_
  refine va_get (D := D) (ci := 0) (v := .ref (q 8)) (C := RX0) (T := TX0) (N := 18) hx hb hts iw_X0 hown hK hP 0 rfl rfl 7 (by decide) (hts _ kf_X0_23) (fun _ h9 => h9) rfl dX0_comeIn_10 ?_
  refine lv_iconst (v := 0) hx hb dX0_comeIn_13 (by decide) ?_
  refine lv_dup2_11 hx hb dX0_comeIn_14 rfl rfl ?_
  refine za_lald (k := 0) (f := (b 8)) (v := b 8 0) hx hb hK hP 8 1 rfl rfl rfl (by decide) (by decide) rfl dX0_comeIn_15 ?_
  refine lv_lload_n hx hb dX0_comeIn_16 rfl (lv_at hl 2 rfl) ?_
  refine lv_ladd hx hb dX0_comeIn_17 ?_
  refine za_last (k := 0) (x := (b 8 0) + x) (f := (b 8)) hx hb hK hP hD hS 8 1 rfl rfl rfl (by decide) (by decide) dX0_comeIn_18 (fun H locs hP hD hS => ?_)
  have hP : va_P D vwCl (wL g q n a (va_up b 8 (vp_updL (b 8) 0 ((b 8 0) + x))) v) H := hP
  have hD : va_D A (wL g q n a (va_up b 8 (vp_updL (b 8) 0 ((b 8 0) + x))) v) := hD
  refine lv_aload_n hx hb dX0_comeIn_19 rfl (lv_at hl 1 rfl) ?_
  refine va_get (D := D) (ci := 0) (v := .ref (q 8)) (C := RX0) (T := TX0) (N := 18) hx hb hts iw_X0 hown hK hP 0 rfl rfl 7 (by decide) (hts _ kf_X0_23) (fun _ h9 => h9) rfl dX0_comeIn_20 ?_
  refine lv_iconst (v := 1) hx hb dX0_comeIn_23 (by decide) ?_
  refine lv_dup2_11 hx hb dX0_comeIn_24 rfl rfl ?_
  refine za_lald (k := 1) (f := (vp_updL (b 8) 0 ((b 8 0) + x))) (v := b 8 1) hx hb hK hP 8 1 rfl rfl rfl (by decide) (by decide) rfl dX0_comeIn_25 ?_
  refine lv_lload_n hx hb dX0_comeIn_26 rfl (lv_at hl 0 rfl) ?_
  refine lv_ladd hx hb dX0_comeIn_27 ?_
  refine za_last (k := 1) (x := (b 8 1) + (m_of (a 0 0) x)) (f := (vp_updL (b 8) 0 ((b 8 0) + x))) hx hb hK hP hD hS 8 1 rfl rfl rfl (by decide) (by decide) dX0_comeIn_28 (fun H locs hP hD hS => ?_)
  have hP : va_P D vwCl (wL g q n a (va_up b 8 (vp_updL (vp_updL (b 8) 0 ((b 8 0) + x)) 1 ((b 8 1) + (m_of (a 0 0) x)))) v) H := hP
  have hD : va_D A (wL g q n a (va_up b 8 (vp_updL (vp_updL (b 8) 0 ((b 8 0) + x)) 1 ((b 8 1) + (m_of (a 0 0) x)))) v) := hD
  refine lv_aload_n hx hb dX0_comeIn_29 rfl (lv_at hl 1 rfl) ?_
  refine va_get (D := D) (ci := 0) (v := .ref (q 1)) (C := RX0) (T := TX0) (N := 18) hx hb hts iw_X0 hown hK hP 0 rfl rfl 0 (by decide) (hts _ kf_X0_50) (fun _ h9 => h9) rfl dX0_comeIn_30 ?_
  refine lv_iconst (v := 0) hx hb dX0_comeIn_33 (by decide) ?_
  refine lv_dup2_11 hx hb dX0_comeIn_34 rfl rfl ?_
  refine za_lald (k := 0) (f := (b 1)) (v := b 1 0) hx hb hK hP 1 1 rfl rfl rfl (by omega) (by omega) rfl dX0_comeIn_35 ?_
  refine lv_lload_n hx hb dX0_comeIn_36 rfl (lv_at hl 2 rfl) ?_
  refine lv_lload_n hx hb dX0_comeIn_37 rfl (lv_at hl 0 rfl) ?_
  refine lv_lsub hx hb dX0_comeIn_38 ?_
  refine lv_aload_n hx hb dX0_comeIn_39 rfl (lv_at hl 1 rfl) ?_
  refine va_get (D := D) (ci := 0) (v := .ref (q 8)) (C := RX0) (T := TX0) (N := 18) hx hb hts iw_X0 hown hK hP 0 rfl rfl 7 (by decide) (hts _ kf_X0_23) (fun _ h9 => h9) rfl dX0_comeIn_40 ?_
  refine lv_bipush (v := 8) hx hb dX0_comeIn_43 (by decide) ?_
  refine za_lald (k := 8) (f := (vp_updL (vp_updL (b 8) 0 ((b 8 0) + x)) 1 ((b 8 1) + (m_of (a 0 0) x)))) (v := b 8 8) hx hb hK hP 8 1 rfl rfl rfl (by decide) (by decide) rfl dX0_comeIn_45 ?_
  refine lv_ladd hx hb dX0_comeIn_46 ?_
  refine lv_ladd hx hb dX0_comeIn_47 ?_
  refine za_last (k := 0) (x := (b 1 0) + ((x - (m_of (a 0 0) x)) + (b 8 8))) (f := (b 1)) hx hb hK hP hD hS 1 1 rfl rfl rfl (by omega) (by omega) dX0_comeIn_48 (fun H locs hP hD hS => ?_)
  have hP : va_P D vwCl (wL g q n a (va_up (va_up b 1 (vp_updL (b 1) 0 ((b 1 0) + ((x - (m_of (a 0 0) x)) + (b 8 8))))) 8 (vp_updL (vp_updL (b 8) 0 ((b 8 0) + x)) 1 ((b 8 1) + (m_of (a 0 0) x)))) v) H := hP
  have hD : va_D A (wL g q n a (va_up (va_up b 1 (vp_updL (b 1) 0 ((b 1 0) + ((x - (m_of (a 0 0) x)) + (b 8 8))))) 8 (vp_updL (vp_updL (b 8) 0 ((b 8 0) + x)) 1 ((b 8 1) + (m_of (a 0 0) x)))) v) := hD
  exact hret (va_up (va_up b 1 (vp_updL (b 1) 0 ((b 1 0) + ((x - (m_of (a 0 0) x)) + (b 8 8))))) 8 (vp_updL (vp_updL (b 8) 0 ((b 8 0) + x)) 1 ((b 8 1) + (m_of (a 0 0) x)))) _ _ _ _ _ _ rfl hP hD hS (Nat.le_of_ble_eq_true rfl) (Nat.le_of_ble_eq_true rfl) dX0_comeIn_49
def rm_passDown : Room := { frames := 1, cells := 0, slots := 0, locals := 23 }
set_option maxHeartbeats 4000000 in
set_option maxRecDepth 100000 in
theorem c_passDown (l : Launch) (D : va_G) (g : Nat → ClassId) (q : Nat → Nat) (n : Nat) (a : Nat → Nat → Int32) (b : Nat → Nat → Int64) (v : Nat → Nat → Int32) (hn : 1 ≤ n ∧ n ≤ 6) : zc_l l D (tyG g) yX0_passDown cX0_passDown 6 (some .long) rm_passDown [.ref (q 0)] (wL g q n a b v) (fun (r : Int64) (u : (Nat → Nat → Int64)) => r = (m_pd (a 2) (a 3) (b 1) n).2 ∧ u = va_up b 1 (m_pd (a 2) (a 3) (b 1) n).1) (fun u => wL g q n a u v) 0 0 := by
  refine zl_of (by decide) (Nat.le_of_ble_eq_true rfl) rfl ?_
  intro p e s m args below meth cd_ A Q ls C0 hnm hP hD hS hl hret
  obtain ⟨hx, hb, hr, hml, hlocks, hown, hts, hK, hA, hN⟩ := id C0
  have hl : lv_has ls 6 [(0, .ref (q 0))] := hl
  refine lv_lconst (v := 0) hx hb dX0_passDown_0 (by decide) ?_
  refine lv_lstore_n (lv' := [(1, .long 0), (0, .ref (q 0))]) hx hb dX0_passDown_1 rfl hl (by decide) rfl (fun ls hl => ?_)
  refine lv_iconst (v := 0) hx hb dX0_passDown_2 (by decide) ?_
  refine lv_istore_n (lv' := [(3, .int 0), (1, .long 0), (0, .ref (q 0))]) hx hb dX0_passDown_3 rfl hl (by decide) rfl (fun ls hl => ?_)
  have lp_4 : ∀ (t_4 i : Nat) , i + t_4 = n → ∀ (H : Heap) (locs : List Loc) (ls : Array Slot), va_P D vwCl (wL g q n a (va_up b 1 ((m_pd (a 2) (a 3) (b 1) i).1)) v) H → va_D A (wL g q n a (va_up b 1 ((m_pd (a 2) (a 3) (b 1) i).1)) v) → va_S A s.heap H locs → lv_has ls 6 [(3, .int (nI i)), (1, .long ((m_pd (a 2) (a 3) (b 1) i).2)), (0, .ref (q 0))] → W p l e rm_passDown s m args below meth cd_ H locs 0 0 Q (F0 m 4 ls []) := by
    intro t_4
    induction t_4 with
    | zero =>
      intro i hi_4 H locs ls hP hD hS hl
      obtain rfl : n = i := by omega
      refine lv_iload_n hx hb dX0_passDown_4 rfl (lv_at hl 0 rfl) ?_
      refine lv_aload_n hx hb dX0_passDown_5 rfl (lv_at hl 2 rfl) ?_
      refine va_get (D := D) (ci := 0) (v := .ref (q 1)) (C := RX0) (T := TX0) (N := 18) hx hb hts iw_X0 hown hK hP 0 rfl rfl 0 (by decide) (hts _ kf_X0_50) (fun _ h9 => h9) rfl dX0_passDown_6 ?_
      refine va_alen (v := nI n) hx hb hK hP 1 1 rfl rfl rfl dX0_passDown_9 ?_
      refine lv_icmp_ge (tgt := 71) hx hb dX0_passDown_10 (by decide) (fun _ => ?_) (fun c_10 => absurd (nI_le (Nat.le_refl _) (by omega)) c_10)
      refine lv_lload_n hx hb dX0_passDown_71 rfl (lv_at hl 1 rfl) ?_
      exact hret ((m_pd (a 2) (a 3) (b 1) n).2) (va_up b 1 ((m_pd (a 2) (a 3) (b 1) n).1)) _ _ _ _ _ _ ⟨rfl, rfl⟩ hP hD hS (Nat.le_of_ble_eq_true rfl) (Nat.le_of_ble_eq_true rfl) dX0_passDown_72
    | succ t_4 ih_4 =>
      intro i hi_4 H locs ls hP hD hS hl
      refine lv_iload_n hx hb dX0_passDown_4 rfl (lv_at hl 0 rfl) ?_
      refine lv_aload_n hx hb dX0_passDown_5 rfl (lv_at hl 2 rfl) ?_
      refine va_get (D := D) (ci := 0) (v := .ref (q 1)) (C := RX0) (T := TX0) (N := 18) hx hb hts iw_X0 hown hK hP 0 rfl rfl 0 (by decide) (hts _ kf_X0_50) (fun _ h9 => h9) rfl dX0_passDown_6 ?_
      refine va_alen (v := nI n) hx hb hK hP 1 1 rfl rfl rfl dX0_passDown_9 ?_
      refine lv_icmp_ge (tgt := 71) hx hb dX0_passDown_10 (by decide) (fun c_10 => absurd c_10 (nI_ge (by omega) (by omega))) (fun _ => ?_)
      refine lv_aload_n hx hb dX0_passDown_13 rfl (lv_at hl 2 rfl) ?_
      refine va_get (D := D) (ci := 0) (v := .ref (q 1)) (C := RX0) (T := TX0) (N := 18) hx hb hts iw_X0 hown hK hP 0 rfl rfl 0 (by decide) (hts _ kf_X0_50) (fun _ h9 => h9) rfl dX0_passDown_14 ?_
      refine lv_iload_n hx hb dX0_passDown_17 rfl (lv_at hl 0 rfl) ?_
      refine lv_dup2_11 hx hb dX0_passDown_18 rfl rfl ?_
      refine za_lald (k := i) (f := ((m_pd (a 2) (a 3) (b 1) i).1)) (v := (m_pd (a 2) (a 3) (b 1) i).1 i) hx hb hK hP 1 1 rfl rfl rfl (by omega) (by omega) rfl dX0_passDown_19 ?_
      refine lv_lload_n hx hb dX0_passDown_20 rfl (lv_at hl 1 rfl) ?_
      refine lv_ladd hx hb dX0_passDown_21 ?_
      refine za_last (k := i) (x := ((m_pd (a 2) (a 3) (b 1) i).1 i) + ((m_pd (a 2) (a 3) (b 1) i).2)) (f := ((m_pd (a 2) (a 3) (b 1) i).1)) hx hb hK hP hD hS 1 1 rfl rfl rfl (by omega) (by omega) dX0_passDown_22 (fun H locs hP hD hS => ?_)
      have hP : va_P D vwCl (wL g q n a (va_up b 1 (vp_updL ((m_pd (a 2) (a 3) (b 1) i).1) i (((m_pd (a 2) (a 3) (b 1) i).1 i) + ((m_pd (a 2) (a 3) (b 1) i).2)))) v) H := hP
      have hD : va_D A (wL g q n a (va_up b 1 (vp_updL ((m_pd (a 2) (a 3) (b 1) i).1) i (((m_pd (a 2) (a 3) (b 1) i).1 i) + ((m_pd (a 2) (a 3) (b 1) i).2)))) v) := hD
      refine lv_lconst (v := 0) hx hb dX0_passDown_23 (by decide) ?_
      refine lv_aload_n hx hb dX0_passDown_24 rfl (lv_at hl 2 rfl) ?_
      refine va_get (D := D) (ci := 0) (v := .ref (q 1)) (C := RX0) (T := TX0) (N := 18) hx hb hts iw_X0 hown hK hP 0 rfl rfl 0 (by decide) (hts _ kf_X0_50) (fun _ h9 => h9) rfl dX0_passDown_25 ?_
      refine lv_iload_n hx hb dX0_passDown_28 rfl (lv_at hl 0 rfl) ?_
      refine za_lald (k := i) (f := (vp_updL ((m_pd (a 2) (a 3) (b 1) i).1) i (((m_pd (a 2) (a 3) (b 1) i).1 i) + ((m_pd (a 2) (a 3) (b 1) i).2)))) (v := ((m_pd (a 2) (a 3) (b 1) i).1 i) + ((m_pd (a 2) (a 3) (b 1) i).2)) hx hb hK hP 1 1 rfl rfl rfl (by omega) (by omega) pk_uLs dX0_passDown_29 ?_
      refine lv_aload_n hx hb dX0_passDown_30 rfl (lv_at hl 2 rfl) ?_
      refine va_get (D := D) (ci := 0) (v := .ref (q 2)) (C := RX0) (T := TX0) (N := 18) hx hb hts iw_X0 hown hK hP 0 rfl rfl 1 (by decide) (hts _ kf_X0_53) (fun _ h9 => h9) rfl dX0_passDown_31 ?_
      refine lv_iload_n hx hb dX0_passDown_34 rfl (lv_at hl 0 rfl) ?_
      refine za_iald (k := i) (f := (a 2)) (v := a 2 i) hx hb hK hP 2 0 rfl rfl rfl (by omega) (by omega) rfl dX0_passDown_35 ?_
      refine lv_i2l (v := (a 2 i).toInt64) hx hb dX0_passDown_36 rfl ?_
      refine lv_lsub hx hb dX0_passDown_37 ?_
      refine va_mmax_long hx hb (hml.trans hl.1.symm) hown (hts _ kl_X0_173) (hts _ ks_max_long) (hts _ ki_Math) (hts _ kc_max_long) (Nat.le_of_ble_eq_true rfl) (Nat.le_of_ble_eq_true rfl) (Nat.le_of_ble_eq_true rfl) (Nat.le_of_ble_eq_true rfl) dX0_passDown_38 ?_
      refine lv_lstore (lv' := [(4, .long (m_max0 ((((m_pd (a 2) (a 3) (b 1) i).1 i) + ((m_pd (a 2) (a 3) (b 1) i).2)) - ((a 2 i).toInt64)))), (3, .int (nI i)), (1, .long ((m_pd (a 2) (a 3) (b 1) i).2)), (0, .ref (q 0))]) hx hb dX0_passDown_41 hl (by decide) rfl (fun ls hl => ?_)
      refine lv_aload_n hx hb dX0_passDown_43 rfl (lv_at hl 3 rfl) ?_
      refine va_get (D := D) (ci := 0) (v := .ref (q 3)) (C := RX0) (T := TX0) (N := 18) hx hb hts iw_X0 hown hK hP 0 rfl rfl 2 (by decide) (hts _ kf_X0_56) (fun _ h9 => h9) rfl dX0_passDown_44 ?_
      refine lv_iload_n hx hb dX0_passDown_47 rfl (lv_at hl 1 rfl) ?_
      refine za_iald (k := i) (f := (a 3)) (v := a 3 i) hx hb hK hP 3 0 rfl rfl rfl (by omega) (by omega) rfl dX0_passDown_48 ?_
      refine lv_lload hx hb dX0_passDown_49 (lv_at hl 0 rfl) ?_
      refine zk_pl (rest := []) C0 hP hD hS (c_partsOf l D (tyG g) (a 3 i) (m_max0 ((((m_pd (a 2) (a 3) (b 1) i).1 i) + ((m_pd (a 2) (a 3) (b 1) i).2)) - ((a 2 i).toInt64)))) kk_X0_169 hl.1 rfl rfl (Nat.le_of_ble_eq_true rfl) ⟨(Nat.le_of_ble_eq_true rfl), (Nat.le_of_ble_eq_true rfl)⟩ rfl rfl ⟨(Nat.le_of_ble_eq_true rfl), (Nat.le_of_ble_eq_true rfl)⟩ dX0_passDown_51 (fun r_51 H locs hw_51 hP hS => ?_)
      obtain rfl := hw_51
      refine lv_lstore_n (lv' := [(1, .long (m_of (a 3 i) (m_max0 ((((m_pd (a 2) (a 3) (b 1) i).1 i) + ((m_pd (a 2) (a 3) (b 1) i).2)) - ((a 2 i).toInt64))))), (4, .long (m_max0 ((((m_pd (a 2) (a 3) (b 1) i).1 i) + ((m_pd (a 2) (a 3) (b 1) i).2)) - ((a 2 i).toInt64)))), (3, .int (nI i)), (0, .ref (q 0))]) hx hb dX0_passDown_54 rfl hl (by decide) rfl (fun ls hl => ?_)
      refine lv_aload_n hx hb dX0_passDown_55 rfl (lv_at hl 3 rfl) ?_
      refine va_get (D := D) (ci := 0) (v := .ref (q 1)) (C := RX0) (T := TX0) (N := 18) hx hb hts iw_X0 hown hK hP 0 rfl rfl 0 (by decide) (hts _ kf_X0_50) (fun _ h9 => h9) rfl dX0_passDown_56 ?_
      refine lv_iload_n hx hb dX0_passDown_59 rfl (lv_at hl 2 rfl) ?_
      refine lv_dup2_11 hx hb dX0_passDown_60 rfl rfl ?_
      refine za_lald (k := i) (f := (vp_updL ((m_pd (a 2) (a 3) (b 1) i).1) i (((m_pd (a 2) (a 3) (b 1) i).1 i) + ((m_pd (a 2) (a 3) (b 1) i).2)))) (v := ((m_pd (a 2) (a 3) (b 1) i).1 i) + ((m_pd (a 2) (a 3) (b 1) i).2)) hx hb hK hP 1 1 rfl rfl rfl (by omega) (by omega) pk_uLs dX0_passDown_61 ?_
      refine lv_lload_n hx hb dX0_passDown_62 rfl (lv_at hl 0 rfl) ?_
      refine lv_lsub hx hb dX0_passDown_63 ?_
      refine za_last (k := i) (x := (((m_pd (a 2) (a 3) (b 1) i).1 i) + ((m_pd (a 2) (a 3) (b 1) i).2)) - (m_of (a 3 i) (m_max0 ((((m_pd (a 2) (a 3) (b 1) i).1 i) + ((m_pd (a 2) (a 3) (b 1) i).2)) - ((a 2 i).toInt64))))) (f := (vp_updL ((m_pd (a 2) (a 3) (b 1) i).1) i (((m_pd (a 2) (a 3) (b 1) i).1 i) + ((m_pd (a 2) (a 3) (b 1) i).2)))) hx hb hK hP hD hS 1 1 rfl rfl rfl (by omega) (by omega) dX0_passDown_64 (fun H locs hP hD hS => ?_)
      have hP : va_P D vwCl (wL g q n a (va_up b 1 (vp_updL (vp_updL ((m_pd (a 2) (a 3) (b 1) i).1) i (((m_pd (a 2) (a 3) (b 1) i).1 i) + ((m_pd (a 2) (a 3) (b 1) i).2))) i ((((m_pd (a 2) (a 3) (b 1) i).1 i) + ((m_pd (a 2) (a 3) (b 1) i).2)) - (m_of (a 3 i) (m_max0 ((((m_pd (a 2) (a 3) (b 1) i).1 i) + ((m_pd (a 2) (a 3) (b 1) i).2)) - ((a 2 i).toInt64))))))) v) H := hP
      have hD : va_D A (wL g q n a (va_up b 1 (vp_updL (vp_updL ((m_pd (a 2) (a 3) (b 1) i).1) i (((m_pd (a 2) (a 3) (b 1) i).1 i) + ((m_pd (a 2) (a 3) (b 1) i).2))) i ((((m_pd (a 2) (a 3) (b 1) i).1 i) + ((m_pd (a 2) (a 3) (b 1) i).2)) - (m_of (a 3 i) (m_max0 ((((m_pd (a 2) (a 3) (b 1) i).1 i) + ((m_pd (a 2) (a 3) (b 1) i).2)) - ((a 2 i).toInt64))))))) v) := hD
      refine lv_iinc (v := nI (i + 1)) (lv' := [(3, .int (nI (i + 1))), (1, .long (m_of (a 3 i) (m_max0 ((((m_pd (a 2) (a 3) (b 1) i).1 i) + ((m_pd (a 2) (a 3) (b 1) i).2)) - ((a 2 i).toInt64))))), (4, .long (m_max0 ((((m_pd (a 2) (a 3) (b 1) i).1 i) + ((m_pd (a 2) (a 3) (b 1) i).2)) - ((a 2 i).toInt64)))), (0, .ref (q 0))]) hx hb dX0_passDown_65 hl (k := 2) rfl (nI_1 i) (by decide) rfl (fun ls hl => ?_)
      refine lv_goto (tgt := 4) hx hb dX0_passDown_68 (by decide) ?_
      have hP : va_P D vwCl (wL g q n a (va_up b 1 ((m_pd (a 2) (a 3) (b 1) (i + 1)).1)) v) _ := hP
      have hD : va_D A (wL g q n a (va_up b 1 ((m_pd (a 2) (a 3) (b 1) (i + 1)).1)) v) := hD
      have hl : lv_has ls 6 [(3, .int (nI (i + 1))), (1, .long ((m_pd (a 2) (a 3) (b 1) (i + 1)).2)), (0, .ref (q 0))] := lv_sub hl [0, 1, 3] rfl
      exact ih_4 (i + 1)  (by omega)  _ _ _ hP hD hS hl
  exact lp_4 (n - 0) 0  (by omega)  _ _ _ hP hD hS (lv_sub hl [0, 1, 2] rfl)
def rm_fillTank : Room := { frames := 1, cells := 0, slots := 0, locals := 23 }
set_option maxHeartbeats 4000000 in
set_option maxRecDepth 100000 in
theorem c_fillTank (l : Launch) (D : va_G) (g : Nat → ClassId) (q : Nat → Nat) (n : Nat) (a : Nat → Nat → Int32) (b : Nat → Nat → Int64) (v : Nat → Nat → Int32) (x : Int64) : zc_v l D (tyG g) yX0_fillTank cX0_fillTank 9 none rm_fillTank [.ref (q 0), .long x] (wL g q n a b v) (fun (u : (Nat → Nat → Int64)) => u = m_fill a b x) (fun u => wL g q n a u v) 0 0 := by
  refine zv_of (by decide) (Nat.le_of_ble_eq_true rfl) rfl ?_
  intro p e s m args below meth cd_ A Q ls C0 hnm hP hD hS hl hret
  obtain ⟨hx, hb, hr, hml, hlocks, hown, hts, hK, hA, hN⟩ := id C0
  have hl : lv_has ls 9 [(0, .ref (q 0)), (1, .long x)] := hl
  refine lv_aload_n hx hb dX0_fillTank_0 rfl (lv_at hl 0 rfl) ?_
  refine va_get (D := D) (ci := 0) (v := .int (a 0 1)) (C := RX0) (T := TX0) (N := 18) hx hb hts iw_X0 hown hK hP 0 rfl rfl 11 (by decide) (hts _ kf_X0_79) (fun _ h9 => h9) rfl dX0_fillTank_1 ?_
  refine lv_lload_n hx hb dX0_fillTank_4 rfl (lv_at hl 1 rfl) ?_
  refine zk_pl (rest := []) C0 hP hD hS (c_partsOf l D (tyG g) (a 0 1) x) kk_X0_169 hl.1 rfl rfl (Nat.le_of_ble_eq_true rfl) ⟨(Nat.le_of_ble_eq_true rfl), (Nat.le_of_ble_eq_true rfl)⟩ rfl rfl ⟨(Nat.le_of_ble_eq_true rfl), (Nat.le_of_ble_eq_true rfl)⟩ dX0_fillTank_5 (fun r_5 H locs hw_5 hP hS => ?_)
  obtain rfl := hw_5
  refine lv_lstore_n (lv' := [(3, .long (m_of (a 0 1) x)), (0, .ref (q 0)), (1, .long x)]) hx hb dX0_fillTank_8 rfl hl (by decide) rfl (fun ls hl => ?_)
  refine lv_aload_n hx hb dX0_fillTank_9 rfl (lv_at hl 1 rfl) ?_
  refine va_get (D := D) (ci := 0) (v := .ref (q 8)) (C := RX0) (T := TX0) (N := 18) hx hb hts iw_X0 hown hK hP 0 rfl rfl 7 (by decide) (hts _ kf_X0_23) (fun _ h9 => h9) rfl dX0_fillTank_10 ?_
  refine lv_iconst (v := 2) hx hb dX0_fillTank_13 (by decide) ?_
  refine lv_dup2_11 hx hb dX0_fillTank_14 rfl rfl ?_
  refine za_lald (k := 2) (f := (b 8)) (v := b 8 2) hx hb hK hP 8 1 rfl rfl rfl (by decide) (by decide) rfl dX0_fillTank_15 ?_
  refine lv_lload_n hx hb dX0_fillTank_16 rfl (lv_at hl 2 rfl) ?_
  refine lv_ladd hx hb dX0_fillTank_17 ?_
  refine za_last (k := 2) (x := (b 8 2) + x) (f := (b 8)) hx hb hK hP hD hS 8 1 rfl rfl rfl (by decide) (by decide) dX0_fillTank_18 (fun H locs hP hD hS => ?_)
  have hP : va_P D vwCl (wL g q n a (va_up b 8 (vp_updL (b 8) 2 ((b 8 2) + x))) v) H := hP
  have hD : va_D A (wL g q n a (va_up b 8 (vp_updL (b 8) 2 ((b 8 2) + x))) v) := hD
  refine lv_aload_n hx hb dX0_fillTank_19 rfl (lv_at hl 1 rfl) ?_
  refine va_get (D := D) (ci := 0) (v := .ref (q 8)) (C := RX0) (T := TX0) (N := 18) hx hb hts iw_X0 hown hK hP 0 rfl rfl 7 (by decide) (hts _ kf_X0_23) (fun _ h9 => h9) rfl dX0_fillTank_20 ?_
  refine lv_iconst (v := 3) hx hb dX0_fillTank_23 (by decide) ?_
  refine lv_dup2_11 hx hb dX0_fillTank_24 rfl rfl ?_
  refine za_lald (k := 3) (f := (vp_updL (b 8) 2 ((b 8 2) + x))) (v := b 8 3) hx hb hK hP 8 1 rfl rfl rfl (by decide) (by decide) rfl dX0_fillTank_25 ?_
  refine lv_lload_n hx hb dX0_fillTank_26 rfl (lv_at hl 2 rfl) ?_
  refine lv_lload_n hx hb dX0_fillTank_27 rfl (lv_at hl 0 rfl) ?_
  refine lv_lsub hx hb dX0_fillTank_28 ?_
  refine lv_ladd hx hb dX0_fillTank_29 ?_
  refine za_last (k := 3) (x := (b 8 3) + (x - (m_of (a 0 1) x))) (f := (vp_updL (b 8) 2 ((b 8 2) + x))) hx hb hK hP hD hS 8 1 rfl rfl rfl (by decide) (by decide) dX0_fillTank_30 (fun H locs hP hD hS => ?_)
  have hP : va_P D vwCl (wL g q n a (va_up b 8 (vp_updL (vp_updL (b 8) 2 ((b 8 2) + x)) 3 ((b 8 3) + (x - (m_of (a 0 1) x))))) v) H := hP
  have hD : va_D A (wL g q n a (va_up b 8 (vp_updL (vp_updL (b 8) 2 ((b 8 2) + x)) 3 ((b 8 3) + (x - (m_of (a 0 1) x))))) v) := hD
  refine lv_aload_n hx hb dX0_fillTank_31 rfl (lv_at hl 1 rfl) ?_
  refine va_get (D := D) (ci := 0) (v := .ref (q 8)) (C := RX0) (T := TX0) (N := 18) hx hb hts iw_X0 hown hK hP 0 rfl rfl 7 (by decide) (hts _ kf_X0_23) (fun _ h9 => h9) rfl dX0_fillTank_32 ?_
  refine lv_bipush (v := 7) hx hb dX0_fillTank_35 (by decide) ?_
  refine za_lald (k := 7) (f := (vp_updL (vp_updL (b 8) 2 ((b 8 2) + x)) 3 ((b 8 3) + (x - (m_of (a 0 1) x))))) (v := b 8 7) hx hb hK hP 8 1 rfl rfl rfl (by decide) (by decide) rfl dX0_fillTank_37 ?_
  refine lv_lload_n hx hb dX0_fillTank_38 rfl (lv_at hl 0 rfl) ?_
  refine lv_ladd hx hb dX0_fillTank_39 ?_
  refine lv_lstore (lv' := [(5, .long ((b 8 7) + (m_of (a 0 1) x))), (3, .long (m_of (a 0 1) x)), (0, .ref (q 0)), (1, .long x)]) hx hb dX0_fillTank_40 hl (by decide) rfl (fun ls hl => ?_)
  refine lv_lconst (v := 0) hx hb dX0_fillTank_42 (by decide) ?_
  refine lv_lload hx hb dX0_fillTank_43 (lv_at hl 0 rfl) ?_
  refine lv_aload_n hx hb dX0_fillTank_45 rfl (lv_at hl 2 rfl) ?_
  refine va_get (D := D) (ci := 0) (v := .long (b 0 0)) (C := RX0) (T := TX0) (N := 18) hx hb hts iw_X0 hown hK hP 0 rfl rfl 13 (by decide) (hts _ kf_X0_87) (fun _ h9 => h9) rfl dX0_fillTank_46 ?_
  refine lv_lsub hx hb dX0_fillTank_49 ?_
  refine va_mmax_long hx hb (hml.trans hl.1.symm) hown (hts _ kl_X0_173) (hts _ ks_max_long) (hts _ ki_Math) (hts _ kc_max_long) (Nat.le_of_ble_eq_true rfl) (Nat.le_of_ble_eq_true rfl) (Nat.le_of_ble_eq_true rfl) (Nat.le_of_ble_eq_true rfl) dX0_fillTank_50 ?_
  refine lv_lstore (lv' := [(7, .long (m_max0 (((b 8 7) + (m_of (a 0 1) x)) - (b 0 0)))), (5, .long ((b 8 7) + (m_of (a 0 1) x))), (3, .long (m_of (a 0 1) x)), (0, .ref (q 0)), (1, .long x)]) hx hb dX0_fillTank_53 hl (by decide) rfl (fun ls hl => ?_)
  refine lv_aload_n hx hb dX0_fillTank_55 rfl (lv_at hl 3 rfl) ?_
  refine va_get (D := D) (ci := 0) (v := .ref (q 8)) (C := RX0) (T := TX0) (N := 18) hx hb hts iw_X0 hown hK hP 0 rfl rfl 7 (by decide) (hts _ kf_X0_23) (fun _ h9 => h9) rfl dX0_fillTank_56 ?_
  refine lv_iconst (v := 4) hx hb dX0_fillTank_59 (by decide) ?_
  refine lv_dup2_11 hx hb dX0_fillTank_60 rfl rfl ?_
  refine za_lald (k := 4) (f := (vp_updL (vp_updL (b 8) 2 ((b 8 2) + x)) 3 ((b 8 3) + (x - (m_of (a 0 1) x))))) (v := b 8 4) hx hb hK hP 8 1 rfl rfl rfl (by decide) (by decide) rfl dX0_fillTank_61 ?_
  refine lv_lload hx hb dX0_fillTank_62 (lv_at hl 0 rfl) ?_
  refine lv_ladd hx hb dX0_fillTank_64 ?_
  refine za_last (k := 4) (x := (b 8 4) + (m_max0 (((b 8 7) + (m_of (a 0 1) x)) - (b 0 0)))) (f := (vp_updL (vp_updL (b 8) 2 ((b 8 2) + x)) 3 ((b 8 3) + (x - (m_of (a 0 1) x))))) hx hb hK hP hD hS 8 1 rfl rfl rfl (by decide) (by decide) dX0_fillTank_65 (fun H locs hP hD hS => ?_)
  have hP : va_P D vwCl (wL g q n a (va_up b 8 (vp_updL (vp_updL (vp_updL (b 8) 2 ((b 8 2) + x)) 3 ((b 8 3) + (x - (m_of (a 0 1) x)))) 4 ((b 8 4) + (m_max0 (((b 8 7) + (m_of (a 0 1) x)) - (b 0 0)))))) v) H := hP
  have hD : va_D A (wL g q n a (va_up b 8 (vp_updL (vp_updL (vp_updL (b 8) 2 ((b 8 2) + x)) 3 ((b 8 3) + (x - (m_of (a 0 1) x)))) 4 ((b 8 4) + (m_max0 (((b 8 7) + (m_of (a 0 1) x)) - (b 0 0)))))) v) := hD
  refine lv_aload_n hx hb dX0_fillTank_66 rfl (lv_at hl 3 rfl) ?_
  refine va_get (D := D) (ci := 0) (v := .ref (q 8)) (C := RX0) (T := TX0) (N := 18) hx hb hts iw_X0 hown hK hP 0 rfl rfl 7 (by decide) (hts _ kf_X0_23) (fun _ h9 => h9) rfl dX0_fillTank_67 ?_
  refine lv_bipush (v := 7) hx hb dX0_fillTank_70 (by decide) ?_
  refine lv_lload hx hb dX0_fillTank_72 (lv_at hl 1 rfl) ?_
  refine lv_lload hx hb dX0_fillTank_74 (lv_at hl 0 rfl) ?_
  refine lv_lsub hx hb dX0_fillTank_76 ?_
  refine za_last (k := 7) (x := ((b 8 7) + (m_of (a 0 1) x)) - (m_max0 (((b 8 7) + (m_of (a 0 1) x)) - (b 0 0)))) (f := (vp_updL (vp_updL (vp_updL (b 8) 2 ((b 8 2) + x)) 3 ((b 8 3) + (x - (m_of (a 0 1) x)))) 4 ((b 8 4) + (m_max0 (((b 8 7) + (m_of (a 0 1) x)) - (b 0 0)))))) hx hb hK hP hD hS 8 1 rfl rfl rfl (by decide) (by decide) dX0_fillTank_77 (fun H locs hP hD hS => ?_)
  have hP : va_P D vwCl (wL g q n a (va_up b 8 (vp_updL (vp_updL (vp_updL (vp_updL (b 8) 2 ((b 8 2) + x)) 3 ((b 8 3) + (x - (m_of (a 0 1) x)))) 4 ((b 8 4) + (m_max0 (((b 8 7) + (m_of (a 0 1) x)) - (b 0 0))))) 7 (((b 8 7) + (m_of (a 0 1) x)) - (m_max0 (((b 8 7) + (m_of (a 0 1) x)) - (b 0 0)))))) v) H := hP
  have hD : va_D A (wL g q n a (va_up b 8 (vp_updL (vp_updL (vp_updL (vp_updL (b 8) 2 ((b 8 2) + x)) 3 ((b 8 3) + (x - (m_of (a 0 1) x)))) 4 ((b 8 4) + (m_max0 (((b 8 7) + (m_of (a 0 1) x)) - (b 0 0))))) 7 (((b 8 7) + (m_of (a 0 1) x)) - (m_max0 (((b 8 7) + (m_of (a 0 1) x)) - (b 0 0)))))) v) := hD
  exact hret (va_up b 8 (vp_updL (vp_updL (vp_updL (vp_updL (b 8) 2 ((b 8 2) + x)) 3 ((b 8 3) + (x - (m_of (a 0 1) x)))) 4 ((b 8 4) + (m_max0 (((b 8 7) + (m_of (a 0 1) x)) - (b 0 0))))) 7 (((b 8 7) + (m_of (a 0 1) x)) - (m_max0 (((b 8 7) + (m_of (a 0 1) x)) - (b 0 0)))))) _ _ _ _ _ _ rfl hP hD hS (Nat.le_of_ble_eq_true rfl) (Nat.le_of_ble_eq_true rfl) dX0_fillTank_78
def rm_clean : Room := { frames := 1, cells := 0, slots := 0, locals := 23 }
set_option maxHeartbeats 4000000 in
set_option maxRecDepth 100000 in
theorem c_clean (l : Launch) (D : va_G) (g : Nat → ClassId) (q : Nat → Nat) (n : Nat) (a : Nat → Nat → Int32) (b : Nat → Nat → Int64) (v : Nat → Nat → Int32) (sc : Nat) (hsc : a 0 3 = nI sc) (hsc4 : sc ≤ 4) : zc_l l D (tyG g) yX0_clean cX0_clean 8 (some .long) rm_clean [.ref (q 0)] (wL g q n a b v) (fun (r : Int64) (u : (Nat → Nat → Int64)) => (r, u) = m_clean sc a b) (fun u => wL g q n a u v) 0 0 := by
  refine zl_of (by decide) (Nat.le_of_ble_eq_true rfl) rfl ?_
  intro p e s m args below meth cd_ A Q ls C0 hnm hP hD hS hl hret
  obtain ⟨hx, hb, hr, hml, hlocks, hown, hts, hK, hA, hN⟩ := id C0
  have hl : lv_has ls 8 [(0, .ref (q 0))] := hl
  refine lv_aload_n hx hb dX0_clean_0 rfl (lv_at hl 0 rfl) ?_
  refine va_get (D := D) (ci := 0) (v := .int (a 0 3)) (C := RX0) (T := TX0) (N := 18) hx hb hts iw_X0 hown hK hP 0 rfl rfl 14 (by decide) (hts _ kf_X0_90) (fun _ h9 => h9) rfl dX0_clean_1 ?_
  rw [hsc]
  refine lv_if_ne (tgt := 9) hx hb dX0_clean_4 (by decide) (fun c_4 => ?_) (fun c_4 => ?_)
  · -- jump at 4
    have hs0 : ¬ sc = 0 := fun h => c_4 (by rw [h]; rfl)
    refine lv_aload_n hx hb dX0_clean_9 rfl (lv_at hl 0 rfl) ?_
    refine va_get (D := D) (ci := 0) (v := .ref (q 8)) (C := RX0) (T := TX0) (N := 18) hx hb hts iw_X0 hown hK hP 0 rfl rfl 7 (by decide) (hts _ kf_X0_23) (fun _ h9 => h9) rfl dX0_clean_10 ?_
    refine lv_bipush (v := 7) hx hb dX0_clean_13 (by decide) ?_
    refine za_lald (k := 7) (f := (b 8)) (v := b 8 7) hx hb hK hP 8 1 rfl rfl rfl (by decide) (by decide) rfl dX0_clean_15 ?_
    refine lv_lstore_n (lv' := [(1, .long (b 8 7)), (0, .ref (q 0))]) hx hb dX0_clean_16 rfl hl (by decide) rfl (fun ls hl => ?_)
    refine lv_aload_n hx hb dX0_clean_17 rfl (lv_at hl 1 rfl) ?_
    refine va_get (D := D) (ci := 0) (v := .ref (q 8)) (C := RX0) (T := TX0) (N := 18) hx hb hts iw_X0 hown hK hP 0 rfl rfl 7 (by decide) (hts _ kf_X0_23) (fun _ h9 => h9) rfl dX0_clean_18 ?_
    refine lv_bipush (v := 7) hx hb dX0_clean_21 (by decide) ?_
    refine lv_lconst (v := 0) hx hb dX0_clean_23 (by decide) ?_
    refine za_last (k := 7) (x := 0) (f := (b 8)) hx hb hK hP hD hS 8 1 rfl rfl rfl (by decide) (by decide) dX0_clean_24 (fun H locs hP hD hS => ?_)
    have hP : va_P D vwCl (wL g q n a (va_up b 8 (vp_updL (b 8) 7 0)) v) H := hP
    have hD : va_D A (wL g q n a (va_up b 8 (vp_updL (b 8) 7 0)) v) := hD
    refine lv_iconst (v := 0) hx hb dX0_clean_25 (by decide) ?_
    refine lv_istore_n (lv' := [(3, .int 0), (1, .long (b 8 7)), (0, .ref (q 0))]) hx hb dX0_clean_26 rfl hl (by decide) rfl (fun ls hl => ?_)
    have lp_27 : ∀ (t_27 i : Nat) , i + t_27 = sc → ∀ (H : Heap) (locs : List Loc) (ls : Array Slot), va_P D vwCl (wL g q n a (va_up b 8 ((m_cl (a 4) (a 5) (b 8) i).1)) v) H → va_D A (wL g q n a (va_up b 8 ((m_cl (a 4) (a 5) (b 8) i).1)) v) → va_S A s.heap H locs → lv_has ls 8 [(3, .int (nI i)), (1, .long ((m_cl (a 4) (a 5) (b 8) i).2)), (0, .ref (q 0))] → W p l e rm_clean s m args below meth cd_ H locs 0 0 Q (F0 m 27 ls []) := by
      intro t_27
      induction t_27 with
      | zero =>
        intro i hi_27 H locs ls hP hD hS hl
        obtain rfl : sc = i := by omega
        refine lv_iload_n hx hb dX0_clean_27 rfl (lv_at hl 0 rfl) ?_
        refine lv_aload_n hx hb dX0_clean_28 rfl (lv_at hl 2 rfl) ?_
        refine va_get (D := D) (ci := 0) (v := .int (a 0 3)) (C := RX0) (T := TX0) (N := 18) hx hb hts iw_X0 hown hK hP 0 rfl rfl 14 (by decide) (hts _ kf_X0_90) (fun _ h9 => h9) rfl dX0_clean_29 ?_
        rw [hsc]
        refine lv_icmp_ge (tgt := 98) hx hb dX0_clean_32 (by decide) (fun _ => ?_) (fun c_32 => absurd (nI_le (Nat.le_refl _) (by omega)) c_32)
        refine lv_lload_n hx hb dX0_clean_98 rfl (lv_at hl 1 rfl) ?_
        exact hret ((m_cl (a 4) (a 5) (b 8) sc).2) (va_up b 8 ((m_cl (a 4) (a 5) (b 8) sc).1)) _ _ _ _ _ _ (by first | exact (if_pos hs0).symm | exact (if_neg hs0).symm) hP hD hS (Nat.le_of_ble_eq_true rfl) (Nat.le_of_ble_eq_true rfl) dX0_clean_99
      | succ t_27 ih_27 =>
        intro i hi_27 H locs ls hP hD hS hl
        refine lv_iload_n hx hb dX0_clean_27 rfl (lv_at hl 0 rfl) ?_
        refine lv_aload_n hx hb dX0_clean_28 rfl (lv_at hl 2 rfl) ?_
        refine va_get (D := D) (ci := 0) (v := .int (a 0 3)) (C := RX0) (T := TX0) (N := 18) hx hb hts iw_X0 hown hK hP 0 rfl rfl 14 (by decide) (hts _ kf_X0_90) (fun _ h9 => h9) rfl dX0_clean_29 ?_
        rw [hsc]
        refine lv_icmp_ge (tgt := 98) hx hb dX0_clean_32 (by decide) (fun c_32 => absurd c_32 (nI_ge (by omega) (by omega))) (fun _ => ?_)
        refine lv_aload_n hx hb dX0_clean_35 rfl (lv_at hl 2 rfl) ?_
        refine va_get (D := D) (ci := 0) (v := .ref (q 4)) (C := RX0) (T := TX0) (N := 18) hx hb hts iw_X0 hown hK hP 0 rfl rfl 3 (by decide) (hts _ kf_X0_9) (fun _ h9 => h9) rfl dX0_clean_36 ?_
        refine lv_iload_n hx hb dX0_clean_39 rfl (lv_at hl 0 rfl) ?_
        refine za_iald (k := i) (f := (a 4)) (v := a 4 i) hx hb hK hP 4 0 rfl rfl rfl (by omega) (by decide) rfl dX0_clean_40 ?_
        refine lv_i2l (v := (a 4 i).toInt64) hx hb dX0_clean_41 rfl ?_
        refine lv_lload_n hx hb dX0_clean_42 rfl (lv_at hl 1 rfl) ?_
        refine va_mmin_long hx hb (hml.trans hl.1.symm) hown (hts _ kl_X0_179) (hts _ ks_min_long) (hts _ ki_Math) (hts _ kc_min_long) (Nat.le_of_ble_eq_true rfl) (Nat.le_of_ble_eq_true rfl) (Nat.le_of_ble_eq_true rfl) (Nat.le_of_ble_eq_true rfl) dX0_clean_43 ?_
        refine lv_lstore (lv' := [(4, .long (m_min ((a 4 i).toInt64) ((m_cl (a 4) (a 5) (b 8) i).2))), (3, .int (nI i)), (1, .long ((m_cl (a 4) (a 5) (b 8) i).2)), (0, .ref (q 0))]) hx hb dX0_clean_46 hl (by decide) rfl (fun ls hl => ?_)
        refine lv_aload_n hx hb dX0_clean_48 rfl (lv_at hl 3 rfl) ?_
        refine va_get (D := D) (ci := 0) (v := .ref (q 5)) (C := RX0) (T := TX0) (N := 18) hx hb hts iw_X0 hown hK hP 0 rfl rfl 4 (by decide) (hts _ kf_X0_13) (fun _ h9 => h9) rfl dX0_clean_49 ?_
        refine lv_iload_n hx hb dX0_clean_52 rfl (lv_at hl 1 rfl) ?_
        refine za_iald (k := i) (f := (a 5)) (v := a 5 i) hx hb hK hP 5 0 rfl rfl rfl (by omega) (by decide) rfl dX0_clean_53 ?_
        refine lv_lload hx hb dX0_clean_54 (lv_at hl 0 rfl) ?_
        refine zk_pl (rest := []) C0 hP hD hS (c_partsOf l D (tyG g) (a 5 i) (m_min ((a 4 i).toInt64) ((m_cl (a 4) (a 5) (b 8) i).2))) kk_X0_169 hl.1 rfl rfl (Nat.le_of_ble_eq_true rfl) ⟨(Nat.le_of_ble_eq_true rfl), (Nat.le_of_ble_eq_true rfl)⟩ rfl rfl ⟨(Nat.le_of_ble_eq_true rfl), (Nat.le_of_ble_eq_true rfl)⟩ dX0_clean_56 (fun r_56 H locs hw_56 hP hS => ?_)
        obtain rfl := hw_56
        refine lv_lstore (lv' := [(6, .long (m_of (a 5 i) (m_min ((a 4 i).toInt64) ((m_cl (a 4) (a 5) (b 8) i).2)))), (4, .long (m_min ((a 4 i).toInt64) ((m_cl (a 4) (a 5) (b 8) i).2))), (3, .int (nI i)), (1, .long ((m_cl (a 4) (a 5) (b 8) i).2)), (0, .ref (q 0))]) hx hb dX0_clean_59 hl (by decide) rfl (fun ls hl => ?_)
        refine lv_aload_n hx hb dX0_clean_61 rfl (lv_at hl 4 rfl) ?_
        refine va_get (D := D) (ci := 0) (v := .ref (q 8)) (C := RX0) (T := TX0) (N := 18) hx hb hts iw_X0 hown hK hP 0 rfl rfl 7 (by decide) (hts _ kf_X0_23) (fun _ h9 => h9) rfl dX0_clean_62 ?_
        refine lv_bipush (v := 7) hx hb dX0_clean_65 (by decide) ?_
        refine lv_dup2_11 hx hb dX0_clean_67 rfl rfl ?_
        refine za_lald (k := 7) (f := ((m_cl (a 4) (a 5) (b 8) i).1)) (v := (m_cl (a 4) (a 5) (b 8) i).1 7) hx hb hK hP 8 1 rfl rfl rfl (by decide) (by decide) rfl dX0_clean_68 ?_
        refine lv_lload_n hx hb dX0_clean_69 rfl (lv_at hl 3 rfl) ?_
        refine lv_lload hx hb dX0_clean_70 (lv_at hl 1 rfl) ?_
        refine lv_lsub hx hb dX0_clean_72 ?_
        refine lv_ladd hx hb dX0_clean_73 ?_
        refine za_last (k := 7) (x := ((m_cl (a 4) (a 5) (b 8) i).1 7) + (((m_cl (a 4) (a 5) (b 8) i).2) - (m_min ((a 4 i).toInt64) ((m_cl (a 4) (a 5) (b 8) i).2)))) (f := ((m_cl (a 4) (a 5) (b 8) i).1)) hx hb hK hP hD hS 8 1 rfl rfl rfl (by decide) (by decide) dX0_clean_74 (fun H locs hP hD hS => ?_)
        have hP : va_P D vwCl (wL g q n a (va_up b 8 (vp_updL ((m_cl (a 4) (a 5) (b 8) i).1) 7 (((m_cl (a 4) (a 5) (b 8) i).1 7) + (((m_cl (a 4) (a 5) (b 8) i).2) - (m_min ((a 4 i).toInt64) ((m_cl (a 4) (a 5) (b 8) i).2)))))) v) H := hP
        have hD : va_D A (wL g q n a (va_up b 8 (vp_updL ((m_cl (a 4) (a 5) (b 8) i).1) 7 (((m_cl (a 4) (a 5) (b 8) i).1 7) + (((m_cl (a 4) (a 5) (b 8) i).2) - (m_min ((a 4 i).toInt64) ((m_cl (a 4) (a 5) (b 8) i).2)))))) v) := hD
        refine lv_aload_n hx hb dX0_clean_75 rfl (lv_at hl 4 rfl) ?_
        refine va_get (D := D) (ci := 0) (v := .ref (q 8)) (C := RX0) (T := TX0) (N := 18) hx hb hts iw_X0 hown hK hP 0 rfl rfl 7 (by decide) (hts _ kf_X0_23) (fun _ h9 => h9) rfl dX0_clean_76 ?_
        refine lv_iconst (v := 5) hx hb dX0_clean_79 (by decide) ?_
        refine lv_dup2_11 hx hb dX0_clean_80 rfl rfl ?_
        refine za_lald (k := 5) (f := (vp_updL ((m_cl (a 4) (a 5) (b 8) i).1) 7 (((m_cl (a 4) (a 5) (b 8) i).1 7) + (((m_cl (a 4) (a 5) (b 8) i).2) - (m_min ((a 4 i).toInt64) ((m_cl (a 4) (a 5) (b 8) i).2)))))) (v := (m_cl (a 4) (a 5) (b 8) i).1 5) hx hb hK hP 8 1 rfl rfl rfl (by decide) (by decide) rfl dX0_clean_81 ?_
        refine lv_lload hx hb dX0_clean_82 (lv_at hl 0 rfl) ?_
        refine lv_ladd hx hb dX0_clean_84 ?_
        refine za_last (k := 5) (x := ((m_cl (a 4) (a 5) (b 8) i).1 5) + (m_of (a 5 i) (m_min ((a 4 i).toInt64) ((m_cl (a 4) (a 5) (b 8) i).2)))) (f := (vp_updL ((m_cl (a 4) (a 5) (b 8) i).1) 7 (((m_cl (a 4) (a 5) (b 8) i).1 7) + (((m_cl (a 4) (a 5) (b 8) i).2) - (m_min ((a 4 i).toInt64) ((m_cl (a 4) (a 5) (b 8) i).2)))))) hx hb hK hP hD hS 8 1 rfl rfl rfl (by decide) (by decide) dX0_clean_85 (fun H locs hP hD hS => ?_)
        have hP : va_P D vwCl (wL g q n a (va_up b 8 (vp_updL (vp_updL ((m_cl (a 4) (a 5) (b 8) i).1) 7 (((m_cl (a 4) (a 5) (b 8) i).1 7) + (((m_cl (a 4) (a 5) (b 8) i).2) - (m_min ((a 4 i).toInt64) ((m_cl (a 4) (a 5) (b 8) i).2))))) 5 (((m_cl (a 4) (a 5) (b 8) i).1 5) + (m_of (a 5 i) (m_min ((a 4 i).toInt64) ((m_cl (a 4) (a 5) (b 8) i).2)))))) v) H := hP
        have hD : va_D A (wL g q n a (va_up b 8 (vp_updL (vp_updL ((m_cl (a 4) (a 5) (b 8) i).1) 7 (((m_cl (a 4) (a 5) (b 8) i).1 7) + (((m_cl (a 4) (a 5) (b 8) i).2) - (m_min ((a 4 i).toInt64) ((m_cl (a 4) (a 5) (b 8) i).2))))) 5 (((m_cl (a 4) (a 5) (b 8) i).1 5) + (m_of (a 5 i) (m_min ((a 4 i).toInt64) ((m_cl (a 4) (a 5) (b 8) i).2)))))) v) := hD
        refine lv_lload hx hb dX0_clean_86 (lv_at hl 1 rfl) ?_
        refine lv_lload hx hb dX0_clean_88 (lv_at hl 0 rfl) ?_
        refine lv_lsub hx hb dX0_clean_90 ?_
        refine lv_lstore_n (lv' := [(1, .long ((m_min ((a 4 i).toInt64) ((m_cl (a 4) (a 5) (b 8) i).2)) - (m_of (a 5 i) (m_min ((a 4 i).toInt64) ((m_cl (a 4) (a 5) (b 8) i).2))))), (6, .long (m_of (a 5 i) (m_min ((a 4 i).toInt64) ((m_cl (a 4) (a 5) (b 8) i).2)))), (4, .long (m_min ((a 4 i).toInt64) ((m_cl (a 4) (a 5) (b 8) i).2))), (3, .int (nI i)), (0, .ref (q 0))]) hx hb dX0_clean_91 rfl hl (by decide) rfl (fun ls hl => ?_)
        refine lv_iinc (v := nI (i + 1)) (lv' := [(3, .int (nI (i + 1))), (1, .long ((m_min ((a 4 i).toInt64) ((m_cl (a 4) (a 5) (b 8) i).2)) - (m_of (a 5 i) (m_min ((a 4 i).toInt64) ((m_cl (a 4) (a 5) (b 8) i).2))))), (6, .long (m_of (a 5 i) (m_min ((a 4 i).toInt64) ((m_cl (a 4) (a 5) (b 8) i).2)))), (4, .long (m_min ((a 4 i).toInt64) ((m_cl (a 4) (a 5) (b 8) i).2))), (0, .ref (q 0))]) hx hb dX0_clean_92 hl (k := 3) rfl (nI_1 i) (by decide) rfl (fun ls hl => ?_)
        refine lv_goto (tgt := 27) hx hb dX0_clean_95 (by decide) ?_
        have hP : va_P D vwCl (wL g q n a (va_up b 8 ((m_cl (a 4) (a 5) (b 8) (i + 1)).1)) v) _ := hP
        have hD : va_D A (wL g q n a (va_up b 8 ((m_cl (a 4) (a 5) (b 8) (i + 1)).1)) v) := hD
        have hl : lv_has ls 8 [(3, .int (nI (i + 1))), (1, .long ((m_cl (a 4) (a 5) (b 8) (i + 1)).2)), (0, .ref (q 0))] := lv_sub hl [0, 1, 4] rfl
        exact ih_27 (i + 1)  (by omega)  _ _ _ hP hD hS hl
    exact lp_27 (sc - 0) 0  (by omega)  _ _ _ hP hD hS (lv_sub hl [0, 1, 2] rfl)
  · -- on at 4
    have hs0 : sc = 0 := by have h1 := c_4; rcases Nat.eq_zero_or_pos sc with h | h; exact h; exact absurd h1 (nI_ne0 h (by omega))
    refine lv_lconst (v := 0) hx hb dX0_clean_7 (by decide) ?_
    exact hret 0 b _ _ _ _ _ _ (by first | exact (if_pos hs0).symm | exact (if_neg hs0).symm) hP hD hS (Nat.le_of_ble_eq_true rfl) (Nat.le_of_ble_eq_true rfl) dX0_clean_8
def rm_partAtTheEnd : Room := { frames := 1, cells := 0, slots := 0, locals := 22 }
set_option maxHeartbeats 4000000 in
set_option maxRecDepth 100000 in
theorem c_partAtTheEnd (l : Launch) (D : va_G) (g : Nat → ClassId) (q : Nat → Nat) (n : Nat) (a : Nat → Nat → Int32) (b : Nat → Nat → Int64) (v : Nat → Nat → Int32) (x : Int64) : zc_l l D (tyG g) yX0_partAtTheEnd cX0_partAtTheEnd 7 (some .long) rm_partAtTheEnd [.ref (q 0), .long x] (wL g q n a b v) (fun (r : Int64) (u : (Nat → Nat → Int64)) => (r, u) = m_part a b x) (fun u => wL g q n a u v) 0 0 := by
  refine zl_of (by decide) (Nat.le_of_ble_eq_true rfl) rfl ?_
  intro p e s m args below meth cd_ A Q ls C0 hnm hP hD hS hl hret
  obtain ⟨hx, hb, hr, hml, hlocks, hown, hts, hK, hA, hN⟩ := id C0
  have hl : lv_has ls 7 [(0, .ref (q 0)), (1, .long x)] := hl
  refine lv_aload_n hx hb dX0_partAtTheEnd_0 rfl (lv_at hl 0 rfl) ?_
  refine va_get (D := D) (ci := 0) (v := .int (a 0 2)) (C := RX0) (T := TX0) (N := 18) hx hb hts iw_X0 hown hK hP 0 rfl rfl 12 (by decide) (hts _ kf_X0_82) (fun _ h9 => h9) rfl dX0_partAtTheEnd_1 ?_
  refine lv_lload_n hx hb dX0_partAtTheEnd_4 rfl (lv_at hl 1 rfl) ?_
  refine zk_pl (rest := []) C0 hP hD hS (c_partsOf l D (tyG g) (a 0 2) x) kk_X0_169 hl.1 rfl rfl (Nat.le_of_ble_eq_true rfl) ⟨(Nat.le_of_ble_eq_true rfl), (Nat.le_of_ble_eq_true rfl)⟩ rfl rfl ⟨(Nat.le_of_ble_eq_true rfl), (Nat.le_of_ble_eq_true rfl)⟩ dX0_partAtTheEnd_5 (fun r_5 H locs hw_5 hP hS => ?_)
  obtain rfl := hw_5
  refine lv_lstore_n (lv' := [(3, .long (m_of (a 0 2) x)), (0, .ref (q 0)), (1, .long x)]) hx hb dX0_partAtTheEnd_8 rfl hl (by decide) rfl (fun ls hl => ?_)
  refine lv_lload_n hx hb dX0_partAtTheEnd_9 rfl (lv_at hl 2 rfl) ?_
  refine lv_lload_n hx hb dX0_partAtTheEnd_10 rfl (lv_at hl 0 rfl) ?_
  refine lv_lsub hx hb dX0_partAtTheEnd_11 ?_
  refine lv_lstore (lv' := [(5, .long (x - (m_of (a 0 2) x))), (3, .long (m_of (a 0 2) x)), (0, .ref (q 0)), (1, .long x)]) hx hb dX0_partAtTheEnd_12 hl (by decide) rfl (fun ls hl => ?_)
  refine lv_aload_n hx hb dX0_partAtTheEnd_14 rfl (lv_at hl 2 rfl) ?_
  refine va_get (D := D) (ci := 0) (v := .ref (q 8)) (C := RX0) (T := TX0) (N := 18) hx hb hts iw_X0 hown hK hP 0 rfl rfl 7 (by decide) (hts _ kf_X0_23) (fun _ h9 => h9) rfl dX0_partAtTheEnd_15 ?_
  refine lv_bipush (v := 8) hx hb dX0_partAtTheEnd_18 (by decide) ?_
  refine lv_lload_n hx hb dX0_partAtTheEnd_20 rfl (lv_at hl 1 rfl) ?_
  refine za_last (k := 8) (x := m_of (a 0 2) x) (f := (b 8)) hx hb hK hP hD hS 8 1 rfl rfl rfl (by decide) (by decide) dX0_partAtTheEnd_21 (fun H locs hP hD hS => ?_)
  have hP : va_P D vwCl (wL g q n a (va_up b 8 (vp_updL (b 8) 8 (m_of (a 0 2) x))) v) H := hP
  have hD : va_D A (wL g q n a (va_up b 8 (vp_updL (b 8) 8 (m_of (a 0 2) x))) v) := hD
  refine lv_aload_n hx hb dX0_partAtTheEnd_22 rfl (lv_at hl 2 rfl) ?_
  refine va_get (D := D) (ci := 0) (v := .ref (q 8)) (C := RX0) (T := TX0) (N := 18) hx hb hts iw_X0 hown hK hP 0 rfl rfl 7 (by decide) (hts _ kf_X0_23) (fun _ h9 => h9) rfl dX0_partAtTheEnd_23 ?_
  refine lv_bipush (v := 6) hx hb dX0_partAtTheEnd_26 (by decide) ?_
  refine lv_dup2_11 hx hb dX0_partAtTheEnd_28 rfl rfl ?_
  refine za_lald (k := 6) (f := (vp_updL (b 8) 8 (m_of (a 0 2) x))) (v := b 8 6) hx hb hK hP 8 1 rfl rfl rfl (by decide) (by decide) rfl dX0_partAtTheEnd_29 ?_
  refine lv_lload hx hb dX0_partAtTheEnd_30 (lv_at hl 0 rfl) ?_
  refine lv_ladd hx hb dX0_partAtTheEnd_32 ?_
  refine za_last (k := 6) (x := (b 8 6) + (x - (m_of (a 0 2) x))) (f := (vp_updL (b 8) 8 (m_of (a 0 2) x))) hx hb hK hP hD hS 8 1 rfl rfl rfl (by decide) (by decide) dX0_partAtTheEnd_33 (fun H locs hP hD hS => ?_)
  have hP : va_P D vwCl (wL g q n a (va_up b 8 (vp_updL (vp_updL (b 8) 8 (m_of (a 0 2) x)) 6 ((b 8 6) + (x - (m_of (a 0 2) x))))) v) H := hP
  have hD : va_D A (wL g q n a (va_up b 8 (vp_updL (vp_updL (b 8) 8 (m_of (a 0 2) x)) 6 ((b 8 6) + (x - (m_of (a 0 2) x))))) v) := hD
  refine lv_lload hx hb dX0_partAtTheEnd_34 (lv_at hl 0 rfl) ?_
  exact hret (x - (m_of (a 0 2) x)) (va_up b 8 (vp_updL (vp_updL (b 8) 8 (m_of (a 0 2) x)) 6 ((b 8 6) + (x - (m_of (a 0 2) x))))) _ _ _ _ _ _ rfl hP hD hS (Nat.le_of_ble_eq_true rfl) (Nat.le_of_ble_eq_true rfl) dX0_partAtTheEnd_36
def rm_runNextDay : Room := { frames := 2, cells := 0, slots := 0, locals := 51 }
set_option maxHeartbeats 4000000 in
set_option maxRecDepth 100000 in
theorem c_runNextDay (l : Launch) (D : va_G) (g : Nat → ClassId) (q : Nat → Nat) (n : Nat) (a : Nat → Nat → Int32) (b : Nat → Nat → Int64) (v : Nat → Nat → Int32) (hn : 1 ≤ n ∧ n ≤ 6) (sc : Nat) (hsc : a 0 3 = nI sc) (hsc4 : sc ≤ 4) (d : Nat) (hd : a 0 4 = nI d) (hd4 : d < 400) : zc_v l D (tyG g) yX0_runNextDay cX0_runNextDay 5 none rm_runNextDay [.ref (q 0)] (wL g q n a b v) (fun (u : (Nat → Nat → Int64)) => u = m_day n sc a b d) (fun u => wL g q n (va_up a 0 (upd (a 0) 4 (nI (d + 1)))) u v) 0 0 := by
  refine zv_of (by decide) (Nat.le_of_ble_eq_true rfl) rfl ?_
  intro p e s m args below meth cd_ A Q ls C0 hnm hP hD hS hl hret
  obtain ⟨hx, hb, hr, hml, hlocks, hown, hts, hK, hA, hN⟩ := id C0
  have hl : lv_has ls 5 [(0, .ref (q 0))] := hl
  refine lv_aload_n hx hb dX0_runNextDay_0 rfl (lv_at hl 0 rfl) ?_
  refine lv_aload_n hx hb dX0_runNextDay_1 rfl (lv_at hl 0 rfl) ?_
  refine va_get (D := D) (ci := 0) (v := .ref (q 6)) (C := RX0) (T := TX0) (N := 18) hx hb hts iw_X0 hown hK hP 0 rfl rfl 5 (by decide) (hts _ kf_X0_16) (fun _ h9 => h9) rfl dX0_runNextDay_2 ?_
  refine lv_aload_n hx hb dX0_runNextDay_5 rfl (lv_at hl 0 rfl) ?_
  refine va_get (D := D) (ci := 0) (v := .int (a 0 4)) (C := RX0) (T := TX0) (N := 18) hx hb hts iw_X0 hown hK hP 0 rfl rfl 15 (by decide) (hts _ kf_X0_93) (fun _ h9 => h9) rfl dX0_runNextDay_6 ?_
  rw [hd]
  refine za_iald (k := d) (f := (a 6)) (v := a 6 d) hx hb hK hP 6 0 rfl rfl rfl (by omega) (by decide) rfl dX0_runNextDay_9 ?_
  refine lv_i2l (v := (a 6 d).toInt64) hx hb dX0_runNextDay_10 rfl ?_
  refine zf_vv (rest := []) C0 hP hD hS (c_comeIn l D g q n a b v hn ((a 6 d).toInt64)) kk_X0_151 kv_X0_151 0 rfl 0 rfl hl.1 rfl rfl (Nat.le_of_ble_eq_true rfl) ⟨(Nat.le_of_ble_eq_true rfl), (Nat.le_of_ble_eq_true rfl)⟩ rfl rfl ⟨(Nat.le_of_ble_eq_true rfl), (Nat.le_of_ble_eq_true rfl)⟩ dX0_runNextDay_11 (fun u_11 H locs hw_11 hP hD hS => ?_)
  refine lv_aload_n hx hb dX0_runNextDay_14 rfl (lv_at hl 0 rfl) ?_
  refine zf_vl (rest := []) C0 hP hD hS (c_passDown l D g q n a u_11 v hn) kk_X0_155 kv_X0_155 0 rfl 0 rfl hl.1 rfl rfl (Nat.le_of_ble_eq_true rfl) ⟨(Nat.le_of_ble_eq_true rfl), (Nat.le_of_ble_eq_true rfl)⟩ rfl rfl ⟨(Nat.le_of_ble_eq_true rfl), (Nat.le_of_ble_eq_true rfl)⟩ dX0_runNextDay_15 (fun r_15 u_15 H locs hw_15 hP hD hS => ?_)
  refine lv_lstore_n (lv' := [(1, .long r_15), (0, .ref (q 0))]) hx hb dX0_runNextDay_18 rfl hl (by decide) rfl (fun ls hl => ?_)
  refine lv_aload_n hx hb dX0_runNextDay_19 rfl (lv_at hl 1 rfl) ?_
  refine lv_lload_n hx hb dX0_runNextDay_20 rfl (lv_at hl 0 rfl) ?_
  refine zf_vv (rest := []) C0 hP hD hS (c_fillTank l D g q n a u_15 v r_15) kk_X0_159 kv_X0_159 0 rfl 0 rfl hl.1 rfl rfl (Nat.le_of_ble_eq_true rfl) ⟨(Nat.le_of_ble_eq_true rfl), (Nat.le_of_ble_eq_true rfl)⟩ rfl rfl ⟨(Nat.le_of_ble_eq_true rfl), (Nat.le_of_ble_eq_true rfl)⟩ dX0_runNextDay_21 (fun u_21 H locs hw_21 hP hD hS => ?_)
  refine lv_aload_n hx hb dX0_runNextDay_24 rfl (lv_at hl 1 rfl) ?_
  refine zf_vl (rest := []) C0 hP hD hS (c_clean l D g q n a u_21 v sc hsc hsc4) kk_X0_162 kv_X0_162 0 rfl 0 rfl hl.1 rfl rfl (Nat.le_of_ble_eq_true rfl) ⟨(Nat.le_of_ble_eq_true rfl), (Nat.le_of_ble_eq_true rfl)⟩ rfl rfl ⟨(Nat.le_of_ble_eq_true rfl), (Nat.le_of_ble_eq_true rfl)⟩ dX0_runNextDay_25 (fun r_25 u_25 H locs hw_25 hP hD hS => ?_)
  refine lv_lstore_n (lv' := [(3, .long r_25), (1, .long r_15), (0, .ref (q 0))]) hx hb dX0_runNextDay_28 rfl hl (by decide) rfl (fun ls hl => ?_)
  refine lv_aload_n hx hb dX0_runNextDay_29 rfl (lv_at hl 2 rfl) ?_
  refine va_get (D := D) (ci := 0) (v := .ref (q 7)) (C := RX0) (T := TX0) (N := 18) hx hb hts iw_X0 hown hK hP 0 rfl rfl 6 (by decide) (hts _ kf_X0_19) (fun _ h9 => h9) rfl dX0_runNextDay_30 ?_
  refine lv_aload_n hx hb dX0_runNextDay_33 rfl (lv_at hl 2 rfl) ?_
  refine va_get (D := D) (ci := 0) (v := .int (a 0 4)) (C := RX0) (T := TX0) (N := 18) hx hb hts iw_X0 hown hK hP 0 rfl rfl 15 (by decide) (hts _ kf_X0_93) (fun _ h9 => h9) rfl dX0_runNextDay_34 ?_
  rw [hd]
  refine lv_aload_n hx hb dX0_runNextDay_37 rfl (lv_at hl 2 rfl) ?_
  refine lv_lload_n hx hb dX0_runNextDay_38 rfl (lv_at hl 0 rfl) ?_
  refine zf_vl (rest := [.int (nI d), .ref (q 7)]) C0 hP hD hS (c_partAtTheEnd l D g q n a u_25 v r_25) kk_X0_165 kv_X0_165 0 rfl 0 rfl hl.1 rfl rfl (Nat.le_of_ble_eq_true rfl) ⟨(Nat.le_of_ble_eq_true rfl), (Nat.le_of_ble_eq_true rfl)⟩ rfl rfl ⟨(Nat.le_of_ble_eq_true rfl), (Nat.le_of_ble_eq_true rfl)⟩ dX0_runNextDay_39 (fun r_39 u_39 H locs hw_39 hP hD hS => ?_)
  refine za_last (k := d) (x := r_39) (f := (u_39 7)) hx hb hK hP hD hS 7 1 rfl rfl rfl (by omega) (by decide) dX0_runNextDay_42 (fun H locs hP hD hS => ?_)
  have hP : va_P D vwCl (wL g q n a (va_up u_39 7 (vp_updL (u_39 7) d r_39)) v) H := hP
  have hD : va_D A (wL g q n a (va_up u_39 7 (vp_updL (u_39 7) d r_39)) v) := hD
  refine lv_aload_n hx hb dX0_runNextDay_43 rfl (lv_at hl 2 rfl) ?_
  refine lv_dup hx hb dX0_runNextDay_44 rfl ?_
  refine va_get (D := D) (ci := 0) (v := .int (a 0 4)) (C := RX0) (T := TX0) (N := 18) hx hb hts iw_X0 hown hK hP 0 rfl rfl 15 (by decide) (hts _ kf_X0_93) (fun _ h9 => h9) rfl dX0_runNextDay_45 ?_
  rw [hd]
  refine lv_iconst (v := 1) hx hb dX0_runNextDay_48 (by decide) ?_
  refine lv_iadd hx hb dX0_runNextDay_49 ?_
  rw [show (nI d) + 1 = nI (d + 1) from nI_1 d]
  refine va_put (D := D) (ci := 0) (v := .int (nI (d + 1))) (ty := .int) (C := RX0) (T := TX0) (N := 18) hx hb hts iw_X0 tyX0 tyok_X0 nm_X0 hown hK hP hD hS 0 rfl rfl 15 (by decide) (hts _ kf_X0_93) (fun _ h9 => h9) rfl (by decide +kernel) rfl rfl (Nat.le_of_ble_eq_true rfl) dX0_runNextDay_50 (fun H locs hP hD hS => ?_)
  have hP : va_P D vwCl (wL g q n (va_up a 0 (upd (a 0) 4 (nI (d + 1)))) (va_up u_39 7 (vp_updL (u_39 7) d r_39)) v) H := hP
  have hD : va_D A (wL g q n (va_up a 0 (upd (a 0) 4 (nI (d + 1)))) (va_up u_39 7 (vp_updL (u_39 7) d r_39)) v) := hD
  exact hret (va_up u_39 7 (vp_updL (u_39 7) d r_39)) _ _ _ _ _ _ (by obtain rfl := hw_11; obtain ⟨rfl, rfl⟩ := hw_15; obtain rfl := hw_21; obtain ⟨h1, h2⟩ := Prod.mk.inj hw_25; obtain ⟨h3, h4⟩ := Prod.mk.inj hw_39; subst h1; subst h2; subst h3; subst h4; rfl) hP hD hS (Nat.le_of_ble_eq_true rfl) (Nat.le_of_ble_eq_true rfl) dX0_runNextDay_53
def rm_run : Room := { frames := 3, cells := 0, slots := 0, locals := 75 }
set_option maxHeartbeats 4000000 in
set_option maxRecDepth 100000 in
theorem c_run (l : Launch) (D : va_G) (g : Nat → ClassId) (q : Nat → Nat) (n : Nat) (a : Nat → Nat → Int32) (b : Nat → Nat → Int64) (v : Nat → Nat → Int32) (hn : 1 ≤ n ∧ n ≤ 6) (sc : Nat) (hsc : a 0 3 = nI sc) (hsc4 : sc ≤ 4) (d : Nat) (hd : a 0 4 = nI d) (hd4 : d ≤ 400) (x : Int32) : zc_i l D (tyG g) yX0_run cX0_run 3 (some .int) rm_run [.ref (q 0), .int x] (wL g q n a b v) (fun (r : Int32) (u : zS) => r = (if m_days (nI d) x = true then nI (d + x.toNatClampNeg) else -1) ∧ u = if m_days (nI d) x = true then (va_up a 0 (upd (a 0) 4 (nI (d + x.toNatClampNeg))), m_run n sc a b d x.toNatClampNeg, v) else (a, b, v)) (fun u => wL g q n u.1 u.2.1 u.2.2) 0 0 := by
  refine zi_of (by decide) (Nat.le_of_ble_eq_true rfl) rfl ?_
  intro p e s m args below meth cd_ A Q ls C0 hnm hP hD hS hl hret
  obtain ⟨hx, hb, hr, hml, hlocks, hown, hts, hK, hA, hN⟩ := id C0
  have hl : lv_has ls 3 [(0, .ref (q 0)), (1, .int x)] := hl
  refine lv_aload_n hx hb dX0_run_0 rfl (lv_at hl 0 rfl) ?_
  refine lv_iload_n hx hb dX0_run_1 rfl (lv_at hl 1 rfl) ?_
  refine zf_vi (rest := []) C0 hP hD hS (c_areDaysToRun l D g q n a b v x) kk_X0_98 kv_X0_98 0 rfl 0 rfl hl.1 rfl rfl (Nat.le_of_ble_eq_true rfl) ⟨(Nat.le_of_ble_eq_true rfl), (Nat.le_of_ble_eq_true rfl)⟩ rfl rfl ⟨(Nat.le_of_ble_eq_true rfl), (Nat.le_of_ble_eq_true rfl)⟩ dX0_run_2 (fun r_2 u_2 H locs hw_2 hP hD hS => ?_)
  obtain rfl := hw_2
  refine lv_if_ne (tgt := 10) hx hb dX0_run_5 (by decide) (fun c_5 => ?_) (fun c_5 => ?_)
  · -- jump at 5
    have c_5 := zb_t c_5
    rw [hd] at c_5
    obtain ⟨k, hk1, hk2, hk3, rfl⟩ := m_days_k hd4 c_5
    have hcl : (nI k).toNatClampNeg = k := nI_clamp (by omega)
    refine lv_iconst (v := 0) hx hb dX0_run_10 (by decide) ?_
    refine lv_istore_n (lv' := [(2, .int 0), (0, .ref (q 0)), (1, .int (nI k))]) hx hb dX0_run_11 rfl hl (by decide) rfl (fun ls hl => ?_)
    have hP : va_P D vwCl (wL g q n (va_up a 0 (upd (a 0) 4 (nI (d + 0)))) (m_run n sc a b d 0) v) H := by rw [m_nd0 hd]; exact hP
    have hD : va_D A (wL g q n (va_up a 0 (upd (a 0) 4 (nI (d + 0)))) (m_run n sc a b d 0) v) := by rw [m_nd0 hd]; exact hD
    have lp_12 : ∀ (t_12 i : Nat) , i + t_12 = k → ∀ (H : Heap) (locs : List Loc) (ls : Array Slot), va_P D vwCl (wL g q n (va_up a 0 (upd (a 0) 4 (nI (d + i)))) (m_run n sc a b d i) v) H → va_D A (wL g q n (va_up a 0 (upd (a 0) 4 (nI (d + i)))) (m_run n sc a b d i) v) → va_S A s.heap H locs → lv_has ls 3 [(2, .int (nI i)), (1, .int (nI k)), (0, .ref (q 0))] → W p l e rm_run s m args below meth cd_ H locs 0 0 Q (F0 m 12 ls []) := by
      intro t_12
      induction t_12 with
      | zero =>
        intro i hi_12 H locs ls hP hD hS hl
        obtain rfl : k = i := by omega
        refine lv_iload_n hx hb dX0_run_12 rfl (lv_at hl 0 rfl) ?_
        refine lv_iload_n hx hb dX0_run_13 rfl (lv_at hl 1 rfl) ?_
        refine lv_icmp_ge (tgt := 27) hx hb dX0_run_14 (by decide) (fun _ => ?_) (fun c_14 => absurd (nI_le (Nat.le_refl _) (by omega)) c_14)
        refine lv_aload_n hx hb dX0_run_27 rfl (lv_at hl 2 rfl) ?_
        refine va_get (D := D) (ci := 0) (v := .int ((va_up a 0 (upd (a 0) 4 (nI (d + k)))) 0 4)) (C := RX0) (T := TX0) (N := 18) hx hb hts iw_X0 hown hK hP 0 rfl rfl 15 (by decide) (hts _ kf_X0_93) (fun _ h9 => h9) rfl dX0_run_28 ?_
        exact hret ((va_up a 0 (upd (a 0) 4 (nI (d + k)))) 0 4) ((va_up a 0 (upd (a 0) 4 (nI (d + k)))), (m_run n sc a b d k), v) _ _ _ _ _ _ (vp_nar_int _) (by simp [zb, c_5, hcl]; rfl) hP hD hS (Nat.le_of_ble_eq_true rfl) (Nat.le_of_ble_eq_true rfl) dX0_run_31
      | succ t_12 ih_12 =>
        intro i hi_12 H locs ls hP hD hS hl
        refine lv_iload_n hx hb dX0_run_12 rfl (lv_at hl 0 rfl) ?_
        refine lv_iload_n hx hb dX0_run_13 rfl (lv_at hl 1 rfl) ?_
        refine lv_icmp_ge (tgt := 27) hx hb dX0_run_14 (by decide) (fun c_14 => absurd c_14 (nI_ge (by omega) (by omega))) (fun _ => ?_)
        refine lv_aload_n hx hb dX0_run_17 rfl (lv_at hl 2 rfl) ?_
        refine zf_vv (rest := []) C0 hP hD hS (c_runNextDay l D g q n (va_up a 0 (upd (a 0) 4 (nI (d + i)))) (m_run n sc a b d i) v hn sc hsc hsc4 (d + i) rfl (by omega)) kk_X0_105 kv_X0_105 0 rfl 0 rfl hl.1 rfl rfl (Nat.le_of_ble_eq_true rfl) ⟨(Nat.le_of_ble_eq_true rfl), (Nat.le_of_ble_eq_true rfl)⟩ rfl rfl ⟨(Nat.le_of_ble_eq_true rfl), (Nat.le_of_ble_eq_true rfl)⟩ dX0_run_18 (fun u_18 H locs hw_18 hP hD hS => ?_)
        obtain rfl := hw_18
        have hP : va_P D vwCl (wL g q n (va_up a 0 (upd (a 0) 4 (nI (d + (i + 1))))) (m_run n sc a b d (i + 1)) v) H := hP
        have hD : va_D A (wL g q n (va_up a 0 (upd (a 0) 4 (nI (d + (i + 1))))) (m_run n sc a b d (i + 1)) v) := hD
        refine lv_iinc (v := nI (i + 1)) (lv' := [(2, .int (nI (i + 1))), (1, .int (nI k)), (0, .ref (q 0))]) hx hb dX0_run_21 hl (k := 0) rfl (nI_1 i) (by decide) rfl (fun ls hl => ?_)
        refine lv_goto (tgt := 12) hx hb dX0_run_24 (by decide) ?_
        have hP : va_P D vwCl (wL g q n (va_up a 0 (upd (a 0) 4 (nI (d + (i + 1))))) (m_run n sc a b d (i + 1)) v) _ := hP
        have hD : va_D A (wL g q n (va_up a 0 (upd (a 0) 4 (nI (d + (i + 1))))) (m_run n sc a b d (i + 1)) v) := hD
        have hl : lv_has ls 3 [(2, .int (nI (i + 1))), (1, .int (nI k)), (0, .ref (q 0))] := lv_sub hl [0, 1, 2] rfl
        exact ih_12 (i + 1)  (by omega)  _ _ _ hP hD hS hl
    exact lp_12 (k - 0) 0  (by omega)  _ _ _ hP hD hS (lv_sub hl [0, 2, 1] rfl)
  · -- on at 5
    have c_5 := zb_f c_5
    rw [hd] at c_5
    refine lv_iconst (v := (-1)) hx hb dX0_run_8 (by decide) ?_
    exact hret (-1) (a, b, v) _ _ _ _ _ _ (vp_nar_int _) (by simp [zb, c_5]) hP hD hS (Nat.le_of_ble_eq_true rfl) (Nat.le_of_ble_eq_true rfl) dX0_run_9
