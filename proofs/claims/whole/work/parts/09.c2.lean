def rm_cover : Room := { frames := 2, cells := 0, slots := 0, locals := 45 }
set_option maxHeartbeats 4000000 in
set_option maxRecDepth 100000 in
theorem c_cover (l : Launch) (D : va_G) (g : Nat → ClassId) (q : Nat → Nat) (n : Nat) (a : Nat → Nat → Int32) (b : Nat → Nat → Int64) (v : Nat → Nat → Int32) (x : Int32) : zc_i l D (tyG g) yX0_cover cX0_cover 2 (some .boolean) rm_cover [.ref (q 0), .int x] (wL g q n a b v) (fun (r : Int32) (u : zS) => r = zb (m_parts x) ∧ u = if (m_parts x) = true then (va_up a 0 (upd (a 0) 0 x), b, v) else (a, b, v)) (fun u => wL g q n u.1 u.2.1 u.2.2) 0 0 := by
  refine zi_of (by decide) (Nat.le_of_ble_eq_true rfl) rfl ?_
  intro p e s m args below meth cd_ A Q ls C0 hnm hP hD hS hl hret
  obtain ⟨hx, hb, hr, hml, hlocks, hown, hts, hK, hA, hN⟩ := id C0
  have hl : lv_has ls 2 [(0, .ref (q 0)), (1, .int x)] := hl
  refine lv_iload_n hx hb dX0_cover_0 rfl (lv_at hl 1 rfl) ?_
  refine zk_pi (rest := []) C0 hP hD hS (c_isParts l D (tyG g) x) kk_X0_72 hl.1 rfl rfl (Nat.le_of_ble_eq_true rfl) ⟨(Nat.le_of_ble_eq_true rfl), (Nat.le_of_ble_eq_true rfl)⟩ rfl rfl ⟨(Nat.le_of_ble_eq_true rfl), (Nat.le_of_ble_eq_true rfl)⟩ dX0_cover_1 (fun r_1 H locs hw_1 hP hS => ?_)
  obtain rfl := hw_1
  refine lv_if_ne (tgt := 9) hx hb dX0_cover_4 (by decide) (fun c_4 => ?_) (fun c_4 => ?_)
  · -- jump at 4
    have c_4 := zb_t c_4
    refine lv_aload_n hx hb dX0_cover_9 rfl (lv_at hl 0 rfl) ?_
    refine lv_iload_n hx hb dX0_cover_10 rfl (lv_at hl 1 rfl) ?_
    refine va_put (D := D) (ci := 0) (v := .int x) (ty := .int) (C := RX0) (T := TX0) (N := 18) hx hb hts iw_X0 tyX0 tyok_X0 nm_X0 hown hK hP hD hS 0 rfl rfl 10 (by decide) (hts _ kf_X0_75) (fun _ h9 => h9) rfl (by decide +kernel) rfl rfl (Nat.le_of_ble_eq_true rfl) dX0_cover_11 (fun H locs hP hD hS => ?_)
    have hP : va_P D vwCl (wL g q n (va_up a 0 (upd (a 0) 0 x)) b v) H := hP
    have hD : va_D A (wL g q n (va_up a 0 (upd (a 0) 0 x)) b v) := hD
    refine lv_iconst (v := 1) hx hb dX0_cover_14 (by decide) ?_
    exact hret 1 (va_up a 0 (upd (a 0) 0 x), b, v) _ _ _ _ _ _ rfl (by simp [zb, c_4]) hP hD hS (Nat.le_of_ble_eq_true rfl) (Nat.le_of_ble_eq_true rfl) dX0_cover_15
  · -- on at 4
    have c_4 := zb_f c_4
    refine lv_iconst (v := 0) hx hb dX0_cover_7 (by decide) ?_
    exact hret 0 (a, b, v) _ _ _ _ _ _ rfl (by simp [zb, c_4]) hP hD hS (Nat.le_of_ble_eq_true rfl) (Nat.le_of_ble_eq_true rfl) dX0_cover_8
def rm_drain : Room := { frames := 2, cells := 0, slots := 0, locals := 45 }
set_option maxHeartbeats 4000000 in
set_option maxRecDepth 100000 in
theorem c_drain (l : Launch) (D : va_G) (g : Nat → ClassId) (q : Nat → Nat) (n : Nat) (a : Nat → Nat → Int32) (b : Nat → Nat → Int64) (v : Nat → Nat → Int32) (x : Int32) : zc_i l D (tyG g) yX0_drain cX0_drain 2 (some .boolean) rm_drain [.ref (q 0), .int x] (wL g q n a b v) (fun (r : Int32) (u : zS) => r = zb (m_parts x) ∧ u = if (m_parts x) = true then (va_up a 0 (upd (a 0) 1 x), b, v) else (a, b, v)) (fun u => wL g q n u.1 u.2.1 u.2.2) 0 0 := by
  refine zi_of (by decide) (Nat.le_of_ble_eq_true rfl) rfl ?_
  intro p e s m args below meth cd_ A Q ls C0 hnm hP hD hS hl hret
  obtain ⟨hx, hb, hr, hml, hlocks, hown, hts, hK, hA, hN⟩ := id C0
  have hl : lv_has ls 2 [(0, .ref (q 0)), (1, .int x)] := hl
  refine lv_iload_n hx hb dX0_drain_0 rfl (lv_at hl 1 rfl) ?_
  refine zk_pi (rest := []) C0 hP hD hS (c_isParts l D (tyG g) x) kk_X0_72 hl.1 rfl rfl (Nat.le_of_ble_eq_true rfl) ⟨(Nat.le_of_ble_eq_true rfl), (Nat.le_of_ble_eq_true rfl)⟩ rfl rfl ⟨(Nat.le_of_ble_eq_true rfl), (Nat.le_of_ble_eq_true rfl)⟩ dX0_drain_1 (fun r_1 H locs hw_1 hP hS => ?_)
  obtain rfl := hw_1
  refine lv_if_ne (tgt := 9) hx hb dX0_drain_4 (by decide) (fun c_4 => ?_) (fun c_4 => ?_)
  · -- jump at 4
    have c_4 := zb_t c_4
    refine lv_aload_n hx hb dX0_drain_9 rfl (lv_at hl 0 rfl) ?_
    refine lv_iload_n hx hb dX0_drain_10 rfl (lv_at hl 1 rfl) ?_
    refine va_put (D := D) (ci := 0) (v := .int x) (ty := .int) (C := RX0) (T := TX0) (N := 18) hx hb hts iw_X0 tyX0 tyok_X0 nm_X0 hown hK hP hD hS 0 rfl rfl 11 (by decide) (hts _ kf_X0_79) (fun _ h9 => h9) rfl (by decide +kernel) rfl rfl (Nat.le_of_ble_eq_true rfl) dX0_drain_11 (fun H locs hP hD hS => ?_)
    have hP : va_P D vwCl (wL g q n (va_up a 0 (upd (a 0) 1 x)) b v) H := hP
    have hD : va_D A (wL g q n (va_up a 0 (upd (a 0) 1 x)) b v) := hD
    refine lv_iconst (v := 1) hx hb dX0_drain_14 (by decide) ?_
    exact hret 1 (va_up a 0 (upd (a 0) 1 x), b, v) _ _ _ _ _ _ rfl (by simp [zb, c_4]) hP hD hS (Nat.le_of_ble_eq_true rfl) (Nat.le_of_ble_eq_true rfl) dX0_drain_15
  · -- on at 4
    have c_4 := zb_f c_4
    refine lv_iconst (v := 0) hx hb dX0_drain_7 (by decide) ?_
    exact hret 0 (a, b, v) _ _ _ _ _ _ rfl (by simp [zb, c_4]) hP hD hS (Nat.le_of_ble_eq_true rfl) (Nat.le_of_ble_eq_true rfl) dX0_drain_8
def rm_back : Room := { frames := 2, cells := 0, slots := 0, locals := 45 }
set_option maxHeartbeats 4000000 in
set_option maxRecDepth 100000 in
theorem c_back (l : Launch) (D : va_G) (g : Nat → ClassId) (q : Nat → Nat) (n : Nat) (a : Nat → Nat → Int32) (b : Nat → Nat → Int64) (v : Nat → Nat → Int32) (x : Int32) : zc_i l D (tyG g) yX0_back cX0_back 2 (some .boolean) rm_back [.ref (q 0), .int x] (wL g q n a b v) (fun (r : Int32) (u : zS) => r = zb (m_parts x) ∧ u = if (m_parts x) = true then (va_up a 0 (upd (a 0) 2 x), b, v) else (a, b, v)) (fun u => wL g q n u.1 u.2.1 u.2.2) 0 0 := by
  refine zi_of (by decide) (Nat.le_of_ble_eq_true rfl) rfl ?_
  intro p e s m args below meth cd_ A Q ls C0 hnm hP hD hS hl hret
  obtain ⟨hx, hb, hr, hml, hlocks, hown, hts, hK, hA, hN⟩ := id C0
  have hl : lv_has ls 2 [(0, .ref (q 0)), (1, .int x)] := hl
  refine lv_iload_n hx hb dX0_back_0 rfl (lv_at hl 1 rfl) ?_
  refine zk_pi (rest := []) C0 hP hD hS (c_isParts l D (tyG g) x) kk_X0_72 hl.1 rfl rfl (Nat.le_of_ble_eq_true rfl) ⟨(Nat.le_of_ble_eq_true rfl), (Nat.le_of_ble_eq_true rfl)⟩ rfl rfl ⟨(Nat.le_of_ble_eq_true rfl), (Nat.le_of_ble_eq_true rfl)⟩ dX0_back_1 (fun r_1 H locs hw_1 hP hS => ?_)
  obtain rfl := hw_1
  refine lv_if_ne (tgt := 9) hx hb dX0_back_4 (by decide) (fun c_4 => ?_) (fun c_4 => ?_)
  · -- jump at 4
    have c_4 := zb_t c_4
    refine lv_aload_n hx hb dX0_back_9 rfl (lv_at hl 0 rfl) ?_
    refine lv_iload_n hx hb dX0_back_10 rfl (lv_at hl 1 rfl) ?_
    refine va_put (D := D) (ci := 0) (v := .int x) (ty := .int) (C := RX0) (T := TX0) (N := 18) hx hb hts iw_X0 tyX0 tyok_X0 nm_X0 hown hK hP hD hS 0 rfl rfl 12 (by decide) (hts _ kf_X0_82) (fun _ h9 => h9) rfl (by decide +kernel) rfl rfl (Nat.le_of_ble_eq_true rfl) dX0_back_11 (fun H locs hP hD hS => ?_)
    have hP : va_P D vwCl (wL g q n (va_up a 0 (upd (a 0) 2 x)) b v) H := hP
    have hD : va_D A (wL g q n (va_up a 0 (upd (a 0) 2 x)) b v) := hD
    refine lv_iconst (v := 1) hx hb dX0_back_14 (by decide) ?_
    exact hret 1 (va_up a 0 (upd (a 0) 2 x), b, v) _ _ _ _ _ _ rfl (by simp [zb, c_4]) hP hD hS (Nat.le_of_ble_eq_true rfl) (Nat.le_of_ble_eq_true rfl) dX0_back_15
  · -- on at 4
    have c_4 := zb_f c_4
    refine lv_iconst (v := 0) hx hb dX0_back_7 (by decide) ?_
    exact hret 0 (a, b, v) _ _ _ _ _ _ rfl (by simp [zb, c_4]) hP hD hS (Nat.le_of_ble_eq_true rfl) (Nat.le_of_ble_eq_true rfl) dX0_back_8
def rm_tank : Room := { frames := 1, cells := 0, slots := 0, locals := 25 }
set_option maxHeartbeats 4000000 in
set_option maxRecDepth 100000 in
theorem c_tank (l : Launch) (D : va_G) (g : Nat → ClassId) (q : Nat → Nat) (n : Nat) (a : Nat → Nat → Int32) (b : Nat → Nat → Int64) (v : Nat → Nat → Int32) (x : Int64) : zc_i l D (tyG g) yX0_tank cX0_tank 3 (some .boolean) rm_tank [.ref (q 0), .long x] (wL g q n a b v) (fun (r : Int32) (u : zS) => r = zb (m_within x 0 1000000000) ∧ u = if (m_within x 0 1000000000) = true then (a, va_up b 0 (vp_updL (b 0) 0 x), v) else (a, b, v)) (fun u => wL g q n u.1 u.2.1 u.2.2) 0 0 := by
  refine zi_of (by decide) (Nat.le_of_ble_eq_true rfl) rfl ?_
  intro p e s m args below meth cd_ A Q ls C0 hnm hP hD hS hl hret
  obtain ⟨hx, hb, hr, hml, hlocks, hown, hts, hK, hA, hN⟩ := id C0
  have hl : lv_has ls 3 [(0, .ref (q 0)), (1, .long x)] := hl
  refine lv_lload_n hx hb dX0_tank_0 rfl (lv_at hl 1 rfl) ?_
  refine lv_lconst (v := 0) hx hb dX0_tank_1 (by decide) ?_
  refine lv_ldc2 (v := 1000000000) hx hb hown (hts _ kc_X0_85) dX0_tank_2 ?_
  refine zk_pi (rest := []) C0 hP hD hS (c_within l D (tyG g) x (0 : Int64) (1000000000 : Int64)) kk_X0_46 hl.1 rfl rfl (Nat.le_of_ble_eq_true rfl) ⟨(Nat.le_of_ble_eq_true rfl), (Nat.le_of_ble_eq_true rfl)⟩ rfl rfl ⟨(Nat.le_of_ble_eq_true rfl), (Nat.le_of_ble_eq_true rfl)⟩ dX0_tank_5 (fun r_5 H locs hw_5 hP hS => ?_)
  obtain rfl := hw_5
  refine lv_if_ne (tgt := 13) hx hb dX0_tank_8 (by decide) (fun c_8 => ?_) (fun c_8 => ?_)
  · -- jump at 8
    have c_8 := zb_t c_8
    refine lv_aload_n hx hb dX0_tank_13 rfl (lv_at hl 0 rfl) ?_
    refine lv_lload_n hx hb dX0_tank_14 rfl (lv_at hl 1 rfl) ?_
    refine va_put (D := D) (ci := 0) (v := .long x) (ty := .long) (C := RX0) (T := TX0) (N := 18) hx hb hts iw_X0 tyX0 tyok_X0 nm_X0 hown hK hP hD hS 0 rfl rfl 13 (by decide) (hts _ kf_X0_87) (fun _ h9 => h9) rfl (by decide +kernel) rfl rfl (Nat.le_of_ble_eq_true rfl) dX0_tank_15 (fun H locs hP hD hS => ?_)
    have hP : va_P D vwCl (wL g q n a (va_up b 0 (vp_updL (b 0) 0 x)) v) H := hP
    have hD : va_D A (wL g q n a (va_up b 0 (vp_updL (b 0) 0 x)) v) := hD
    refine lv_iconst (v := 1) hx hb dX0_tank_18 (by decide) ?_
    exact hret 1 (a, va_up b 0 (vp_updL (b 0) 0 x), v) _ _ _ _ _ _ rfl (by simp [zb, c_8]) hP hD hS (Nat.le_of_ble_eq_true rfl) (Nat.le_of_ble_eq_true rfl) dX0_tank_19
  · -- on at 8
    have c_8 := zb_f c_8
    refine lv_iconst (v := 0) hx hb dX0_tank_11 (by decide) ?_
    exact hret 0 (a, b, v) _ _ _ _ _ _ rfl (by simp [zb, c_8]) hP hD hS (Nat.le_of_ble_eq_true rfl) (Nat.le_of_ble_eq_true rfl) dX0_tank_12
def rm_limit : Room := { frames := 1, cells := 0, slots := 0, locals := 25 }
set_option maxHeartbeats 4000000 in
set_option maxRecDepth 100000 in
theorem c_limit (l : Launch) (D : va_G) (g : Nat → ClassId) (q : Nat → Nat) (n : Nat) (a : Nat → Nat → Int32) (b : Nat → Nat → Int64) (v : Nat → Nat → Int32) (x y : Int64) : zc_i l D (tyG g) yX0_limit cX0_limit 5 (some .boolean) rm_limit [.ref (q 0), .long x, .long y] (wL g q n a b v) (fun (r : Int32) (u : zS) => r = zb (m_within x (-1) 1000000000 && m_within y (-1) 1000000000) ∧ u = if (m_within x (-1) 1000000000 && m_within y (-1) 1000000000) = true then (a, va_up b 0 (vp_updL (vp_updL (b 0) 1 x) 2 y), v) else (a, b, v)) (fun u => wL g q n u.1 u.2.1 u.2.2) 0 0 := by
  refine zi_of (by decide) (Nat.le_of_ble_eq_true rfl) rfl ?_
  intro p e s m args below meth cd_ A Q ls C0 hnm hP hD hS hl hret
  obtain ⟨hx, hb, hr, hml, hlocks, hown, hts, hK, hA, hN⟩ := id C0
  have hl : lv_has ls 5 [(0, .ref (q 0)), (1, .long x), (3, .long y)] := hl
  refine lv_lload_n hx hb dX0_limit_0 rfl (lv_at hl 1 rfl) ?_
  refine lv_ldc2 (v := (-1)) hx hb hown (hts _ kc_X0_35) dX0_limit_1 ?_
  refine lv_ldc2 (v := 1000000000) hx hb hown (hts _ kc_X0_85) dX0_limit_4 ?_
  refine zk_pi (rest := []) C0 hP hD hS (c_within l D (tyG g) x ((-1) : Int64) (1000000000 : Int64)) kk_X0_46 hl.1 rfl rfl (Nat.le_of_ble_eq_true rfl) ⟨(Nat.le_of_ble_eq_true rfl), (Nat.le_of_ble_eq_true rfl)⟩ rfl rfl ⟨(Nat.le_of_ble_eq_true rfl), (Nat.le_of_ble_eq_true rfl)⟩ dX0_limit_7 (fun r_7 H locs hw_7 hP hS => ?_)
  obtain rfl := hw_7
  refine lv_if_eq (tgt := 26) hx hb dX0_limit_10 (by decide) (fun c_10 => ?_) (fun c_10 => ?_)
  · -- jump at 10
    have c_10 := zb_f c_10
    refine lv_iconst (v := 0) hx hb dX0_limit_26 (by decide) ?_
    exact hret 0 (a, b, v) _ _ _ _ _ _ rfl (by simp [zb, c_10]) hP hD hS (Nat.le_of_ble_eq_true rfl) (Nat.le_of_ble_eq_true rfl) dX0_limit_27
  · -- on at 10
    have c_10 := zb_t c_10
    refine lv_lload_n hx hb dX0_limit_13 rfl (lv_at hl 2 rfl) ?_
    refine lv_ldc2 (v := (-1)) hx hb hown (hts _ kc_X0_35) dX0_limit_14 ?_
    refine lv_ldc2 (v := 1000000000) hx hb hown (hts _ kc_X0_85) dX0_limit_17 ?_
    refine zk_pi (rest := []) C0 hP hD hS (c_within l D (tyG g) y ((-1) : Int64) (1000000000 : Int64)) kk_X0_46 hl.1 rfl rfl (Nat.le_of_ble_eq_true rfl) ⟨(Nat.le_of_ble_eq_true rfl), (Nat.le_of_ble_eq_true rfl)⟩ rfl rfl ⟨(Nat.le_of_ble_eq_true rfl), (Nat.le_of_ble_eq_true rfl)⟩ dX0_limit_20 (fun r_20 H locs hw_20 hP hS => ?_)
    obtain rfl := hw_20
    refine lv_if_ne (tgt := 28) hx hb dX0_limit_23 (by decide) (fun c_23 => ?_) (fun c_23 => ?_)
    · -- jump at 23
      have c_23 := zb_t c_23
      refine lv_aload_n hx hb dX0_limit_28 rfl (lv_at hl 0 rfl) ?_
      refine lv_lload_n hx hb dX0_limit_29 rfl (lv_at hl 1 rfl) ?_
      refine va_put (D := D) (ci := 0) (v := .long x) (ty := .long) (C := RX0) (T := TX0) (N := 18) hx hb hts iw_X0 tyX0 tyok_X0 nm_X0 hown hK hP hD hS 0 rfl rfl 16 (by decide) (hts _ kf_X0_37) (fun _ h9 => h9) rfl (by decide +kernel) rfl rfl (Nat.le_of_ble_eq_true rfl) dX0_limit_30 (fun H locs hP hD hS => ?_)
      have hP : va_P D vwCl (wL g q n a (va_up b 0 (vp_updL (b 0) 1 x)) v) H := hP
      have hD : va_D A (wL g q n a (va_up b 0 (vp_updL (b 0) 1 x)) v) := hD
      refine lv_aload_n hx hb dX0_limit_33 rfl (lv_at hl 0 rfl) ?_
      refine lv_lload_n hx hb dX0_limit_34 rfl (lv_at hl 2 rfl) ?_
      refine va_put (D := D) (ci := 0) (v := .long y) (ty := .long) (C := RX0) (T := TX0) (N := 18) hx hb hts iw_X0 tyX0 tyok_X0 nm_X0 hown hK hP hD hS 0 rfl rfl 17 (by decide) (hts _ kf_X0_41) (fun _ h9 => h9) rfl (by decide +kernel) rfl rfl (Nat.le_of_ble_eq_true rfl) dX0_limit_35 (fun H locs hP hD hS => ?_)
      have hP : va_P D vwCl (wL g q n a (va_up b 0 (vp_updL (vp_updL (b 0) 1 x) 2 y)) v) H := hP
      have hD : va_D A (wL g q n a (va_up b 0 (vp_updL (vp_updL (b 0) 1 x) 2 y)) v) := hD
      refine lv_iconst (v := 1) hx hb dX0_limit_38 (by decide) ?_
      exact hret 1 (a, va_up b 0 (vp_updL (vp_updL (b 0) 1 x) 2 y), v) _ _ _ _ _ _ rfl (by simp [zb, c_10, c_23]) hP hD hS (Nat.le_of_ble_eq_true rfl) (Nat.le_of_ble_eq_true rfl) dX0_limit_39
    · -- on at 23
      have c_23 := zb_f c_23
      refine lv_iconst (v := 0) hx hb dX0_limit_26 (by decide) ?_
      exact hret 0 (a, b, v) _ _ _ _ _ _ rfl (by simp [zb, c_10, c_23]) hP hD hS (Nat.le_of_ble_eq_true rfl) (Nat.le_of_ble_eq_true rfl) dX0_limit_27
def rm_layer : Room := { frames := 2, cells := 0, slots := 0, locals := 46 }
set_option maxHeartbeats 4000000 in
set_option maxRecDepth 100000 in
theorem c_layer (l : Launch) (D : va_G) (g : Nat → ClassId) (q : Nat → Nat) (n : Nat) (a : Nat → Nat → Int32) (b : Nat → Nat → Int64) (v : Nat → Nat → Int32) (hn : 1 ≤ n ∧ n ≤ 6) (x y z : Int32) : zc_i l D (tyG g) yX0_layer cX0_layer 4 (some .boolean) rm_layer [.ref (q 0), .int x, .int y, .int z] (wL g q n a b v) (fun (r : Int32) (u : zS) => r = zb (m_isLayer n x && m_within y.toInt64 0 1000000 && m_parts z) ∧ u = if (m_isLayer n x && m_within y.toInt64 0 1000000 && m_parts z) = true then (va_up (va_up a 2 (upd (a 2) x.toNatClampNeg y)) 3 (upd (a 3) x.toNatClampNeg z), b, v) else (a, b, v)) (fun u => wL g q n u.1 u.2.1 u.2.2) 0 0 := by
  refine zi_of (by decide) (Nat.le_of_ble_eq_true rfl) rfl ?_
  intro p e s m args below meth cd_ A Q ls C0 hnm hP hD hS hl hret
  obtain ⟨hx, hb, hr, hml, hlocks, hown, hts, hK, hA, hN⟩ := id C0
  have hl : lv_has ls 4 [(0, .ref (q 0)), (1, .int x), (2, .int y), (3, .int z)] := hl
  refine lv_aload_n hx hb dX0_layer_0 rfl (lv_at hl 0 rfl) ?_
  refine lv_iload_n hx hb dX0_layer_1 rfl (lv_at hl 1 rfl) ?_
  refine zf_vi (rest := []) C0 hP hD hS (c_isLayer l D g q n a b v x) kk_X0_66 kv_X0_66 0 rfl 0 rfl hl.1 rfl rfl (Nat.le_of_ble_eq_true rfl) ⟨(Nat.le_of_ble_eq_true rfl), (Nat.le_of_ble_eq_true rfl)⟩ rfl rfl ⟨(Nat.le_of_ble_eq_true rfl), (Nat.le_of_ble_eq_true rfl)⟩ dX0_layer_2 (fun r_2 u_2 H locs hw_2 hP hD hS => ?_)
  obtain rfl := hw_2
  refine lv_if_eq (tgt := 27) hx hb dX0_layer_5 (by decide) (fun c_5 => ?_) (fun c_5 => ?_)
  · -- jump at 5
    have c_5 := zb_f c_5
    refine lv_iconst (v := 0) hx hb dX0_layer_27 (by decide) ?_
    exact hret 0 (a, b, v) _ _ _ _ _ _ rfl (by simp [zb, c_5]) hP hD hS (Nat.le_of_ble_eq_true rfl) (Nat.le_of_ble_eq_true rfl) dX0_layer_28
  · -- on at 5
    have c_5 := zb_t c_5
    obtain ⟨k, hk, rfl⟩ := m_layer_k hn c_5
    have hcl : (nI k).toNatClampNeg = k := nI_clamp (by omega)
    refine lv_iload_n hx hb dX0_layer_8 rfl (lv_at hl 2 rfl) ?_
    refine lv_i2l (v := y.toInt64) hx hb dX0_layer_9 rfl ?_
    refine lv_lconst (v := 0) hx hb dX0_layer_10 (by decide) ?_
    refine lv_ldc2 (v := 1000000) hx hb hown (hts _ kc_X0_70) dX0_layer_11 ?_
    refine zk_pi (rest := []) C0 hP hD hS (c_within l D (tyG g) y.toInt64 (0 : Int64) (1000000 : Int64)) kk_X0_46 hl.1 rfl rfl (Nat.le_of_ble_eq_true rfl) ⟨(Nat.le_of_ble_eq_true rfl), (Nat.le_of_ble_eq_true rfl)⟩ rfl rfl ⟨(Nat.le_of_ble_eq_true rfl), (Nat.le_of_ble_eq_true rfl)⟩ dX0_layer_14 (fun r_14 H locs hw_14 hP hS => ?_)
    obtain rfl := hw_14
    refine lv_if_eq (tgt := 27) hx hb dX0_layer_17 (by decide) (fun c_17 => ?_) (fun c_17 => ?_)
    · -- jump at 17
      have c_17 := zb_f c_17
      refine lv_iconst (v := 0) hx hb dX0_layer_27 (by decide) ?_
      exact hret 0 (a, b, v) _ _ _ _ _ _ rfl (by simp [zb, c_5, c_17, hcl]) hP hD hS (Nat.le_of_ble_eq_true rfl) (Nat.le_of_ble_eq_true rfl) dX0_layer_28
    · -- on at 17
      have c_17 := zb_t c_17
      refine lv_iload_n hx hb dX0_layer_20 rfl (lv_at hl 3 rfl) ?_
      refine zk_pi (rest := []) C0 hP hD hS (c_isParts l D (tyG g) z) kk_X0_72 hl.1 rfl rfl (Nat.le_of_ble_eq_true rfl) ⟨(Nat.le_of_ble_eq_true rfl), (Nat.le_of_ble_eq_true rfl)⟩ rfl rfl ⟨(Nat.le_of_ble_eq_true rfl), (Nat.le_of_ble_eq_true rfl)⟩ dX0_layer_21 (fun r_21 H locs hw_21 hP hS => ?_)
      obtain rfl := hw_21
      refine lv_if_ne (tgt := 29) hx hb dX0_layer_24 (by decide) (fun c_24 => ?_) (fun c_24 => ?_)
      · -- jump at 24
        have c_24 := zb_t c_24
        refine lv_aload_n hx hb dX0_layer_29 rfl (lv_at hl 0 rfl) ?_
        refine va_get (D := D) (ci := 0) (v := .ref (q 2)) (C := RX0) (T := TX0) (N := 18) hx hb hts iw_X0 hown hK hP 0 rfl rfl 1 (by decide) (hts _ kf_X0_53) (fun _ h9 => h9) rfl dX0_layer_30 ?_
        refine lv_iload_n hx hb dX0_layer_33 rfl (lv_at hl 1 rfl) ?_
        refine lv_iload_n hx hb dX0_layer_34 rfl (lv_at hl 2 rfl) ?_
        refine za_iast (k := k) (x := y) (f := (a 2)) hx hb hK hP hD hS 2 0 rfl rfl rfl (by omega) (by omega) dX0_layer_35 (fun H locs hP hD hS => ?_)
        have hP : va_P D vwCl (wL g q n (va_up a 2 (upd (a 2) k y)) b v) H := hP
        have hD : va_D A (wL g q n (va_up a 2 (upd (a 2) k y)) b v) := hD
        refine lv_aload_n hx hb dX0_layer_36 rfl (lv_at hl 0 rfl) ?_
        refine va_get (D := D) (ci := 0) (v := .ref (q 3)) (C := RX0) (T := TX0) (N := 18) hx hb hts iw_X0 hown hK hP 0 rfl rfl 2 (by decide) (hts _ kf_X0_56) (fun _ h9 => h9) rfl dX0_layer_37 ?_
        refine lv_iload_n hx hb dX0_layer_40 rfl (lv_at hl 1 rfl) ?_
        refine lv_iload_n hx hb dX0_layer_41 rfl (lv_at hl 3 rfl) ?_
        refine za_iast (k := k) (x := z) (f := (a 3)) hx hb hK hP hD hS 3 0 rfl rfl rfl (by omega) (by omega) dX0_layer_42 (fun H locs hP hD hS => ?_)
        have hP : va_P D vwCl (wL g q n (va_up (va_up a 2 (upd (a 2) k y)) 3 (upd (a 3) k z)) b v) H := hP
        have hD : va_D A (wL g q n (va_up (va_up a 2 (upd (a 2) k y)) 3 (upd (a 3) k z)) b v) := hD
        refine lv_iconst (v := 1) hx hb dX0_layer_43 (by decide) ?_
        exact hret 1 (va_up (va_up a 2 (upd (a 2) k y)) 3 (upd (a 3) k z), b, v) _ _ _ _ _ _ rfl (by simp [zb, c_5, c_17, c_24, hcl]) hP hD hS (Nat.le_of_ble_eq_true rfl) (Nat.le_of_ble_eq_true rfl) dX0_layer_44
      · -- on at 24
        have c_24 := zb_f c_24
        refine lv_iconst (v := 0) hx hb dX0_layer_27 (by decide) ?_
        exact hret 0 (a, b, v) _ _ _ _ _ _ rfl (by simp [zb, c_5, c_17, c_24, hcl]) hP hD hS (Nat.le_of_ble_eq_true rfl) (Nat.le_of_ble_eq_true rfl) dX0_layer_28
def rm_stage : Room := { frames := 2, cells := 0, slots := 0, locals := 45 }
set_option maxHeartbeats 4000000 in
set_option maxRecDepth 100000 in
theorem c_stage (l : Launch) (D : va_G) (g : Nat → ClassId) (q : Nat → Nat) (n : Nat) (a : Nat → Nat → Int32) (b : Nat → Nat → Int64) (v : Nat → Nat → Int32) (sc : Nat) (hsc : a 0 3 = nI sc) (hsc4 : sc ≤ 4) (x y : Int32) : zc_i l D (tyG g) yX0_stage cX0_stage 3 (some .int) rm_stage [.ref (q 0), .int x, .int y] (wL g q n a b v) (fun (r : Int32) (u : zS) => r = (if (decide (sc < 4) && m_within x.toInt64 0 1000000 && m_parts y) = true then nI sc else -1) ∧ u = if (decide (sc < 4) && m_within x.toInt64 0 1000000 && m_parts y) = true then (va_up (va_up (va_up a 0 (upd (a 0) 3 (nI (sc + 1)))) 4 (upd (a 4) sc x)) 5 (upd (a 5) sc y), b, v) else (a, b, v)) (fun u => wL g q n u.1 u.2.1 u.2.2) 0 0 := by
  refine zi_of (by decide) (Nat.le_of_ble_eq_true rfl) rfl ?_
  intro p e s m args below meth cd_ A Q ls C0 hnm hP hD hS hl hret
  obtain ⟨hx, hb, hr, hml, hlocks, hown, hts, hK, hA, hN⟩ := id C0
  have hl : lv_has ls 3 [(0, .ref (q 0)), (1, .int x), (2, .int y)] := hl
  refine lv_aload_n hx hb dX0_stage_0 rfl (lv_at hl 0 rfl) ?_
  refine va_get (D := D) (ci := 0) (v := .int (a 0 3)) (C := RX0) (T := TX0) (N := 18) hx hb hts iw_X0 hown hK hP 0 rfl rfl 14 (by decide) (hts _ kf_X0_90) (fun _ h9 => h9) rfl dX0_stage_1 ?_
  rw [hsc]
  refine lv_iconst (v := 4) hx hb dX0_stage_4 (by decide) ?_
  refine lv_icmp_ge (tgt := 27) hx hb dX0_stage_5 (by decide) (fun c_5 => ?_) (fun c_5 => ?_)
  · -- jump at 5
    have hs4 : ¬ sc < 4 := fun h => absurd c_5 (nI_ge (a := sc) (b := 4) h (by decide))
    refine lv_iconst (v := (-1)) hx hb dX0_stage_27 (by decide) ?_
    exact hret (-1) (a, b, v) _ _ _ _ _ _ (vp_nar_int _) (by simp [hs4]) hP hD hS (Nat.le_of_ble_eq_true rfl) (Nat.le_of_ble_eq_true rfl) dX0_stage_28
  · -- on at 5
    have hs4 : sc < 4 := by rcases Nat.lt_or_ge sc 4 with h | h; exact h; exact absurd (nI_le (a := 4) h (by omega)) c_5
    refine lv_iload_n hx hb dX0_stage_8 rfl (lv_at hl 1 rfl) ?_
    refine lv_i2l (v := x.toInt64) hx hb dX0_stage_9 rfl ?_
    refine lv_lconst (v := 0) hx hb dX0_stage_10 (by decide) ?_
    refine lv_ldc2 (v := 1000000) hx hb hown (hts _ kc_X0_70) dX0_stage_11 ?_
    refine zk_pi (rest := []) C0 hP hD hS (c_within l D (tyG g) x.toInt64 (0 : Int64) (1000000 : Int64)) kk_X0_46 hl.1 rfl rfl (Nat.le_of_ble_eq_true rfl) ⟨(Nat.le_of_ble_eq_true rfl), (Nat.le_of_ble_eq_true rfl)⟩ rfl rfl ⟨(Nat.le_of_ble_eq_true rfl), (Nat.le_of_ble_eq_true rfl)⟩ dX0_stage_14 (fun r_14 H locs hw_14 hP hS => ?_)
    obtain rfl := hw_14
    refine lv_if_eq (tgt := 27) hx hb dX0_stage_17 (by decide) (fun c_17 => ?_) (fun c_17 => ?_)
    · -- jump at 17
      have c_17 := zb_f c_17
      refine lv_iconst (v := (-1)) hx hb dX0_stage_27 (by decide) ?_
      exact hret (-1) (a, b, v) _ _ _ _ _ _ (vp_nar_int _) (by simp [hs4, c_17]) hP hD hS (Nat.le_of_ble_eq_true rfl) (Nat.le_of_ble_eq_true rfl) dX0_stage_28
    · -- on at 17
      have c_17 := zb_t c_17
      refine lv_iload_n hx hb dX0_stage_20 rfl (lv_at hl 2 rfl) ?_
      refine zk_pi (rest := []) C0 hP hD hS (c_isParts l D (tyG g) y) kk_X0_72 hl.1 rfl rfl (Nat.le_of_ble_eq_true rfl) ⟨(Nat.le_of_ble_eq_true rfl), (Nat.le_of_ble_eq_true rfl)⟩ rfl rfl ⟨(Nat.le_of_ble_eq_true rfl), (Nat.le_of_ble_eq_true rfl)⟩ dX0_stage_21 (fun r_21 H locs hw_21 hP hS => ?_)
      obtain rfl := hw_21
      refine lv_if_ne (tgt := 29) hx hb dX0_stage_24 (by decide) (fun c_24 => ?_) (fun c_24 => ?_)
      · -- jump at 24
        have c_24 := zb_t c_24
        refine lv_aload_n hx hb dX0_stage_29 rfl (lv_at hl 0 rfl) ?_
        refine va_get (D := D) (ci := 0) (v := .ref (q 4)) (C := RX0) (T := TX0) (N := 18) hx hb hts iw_X0 hown hK hP 0 rfl rfl 3 (by decide) (hts _ kf_X0_9) (fun _ h9 => h9) rfl dX0_stage_30 ?_
        refine lv_aload_n hx hb dX0_stage_33 rfl (lv_at hl 0 rfl) ?_
        refine va_get (D := D) (ci := 0) (v := .int (a 0 3)) (C := RX0) (T := TX0) (N := 18) hx hb hts iw_X0 hown hK hP 0 rfl rfl 14 (by decide) (hts _ kf_X0_90) (fun _ h9 => h9) rfl dX0_stage_34 ?_
        rw [hsc]
        refine lv_iload_n hx hb dX0_stage_37 rfl (lv_at hl 1 rfl) ?_
        refine za_iast (k := sc) (x := x) (f := (a 4)) hx hb hK hP hD hS 4 0 rfl rfl rfl (by omega) (by decide) dX0_stage_38 (fun H locs hP hD hS => ?_)
        have hP : va_P D vwCl (wL g q n (va_up a 4 (upd (a 4) sc x)) b v) H := hP
        have hD : va_D A (wL g q n (va_up a 4 (upd (a 4) sc x)) b v) := hD
        refine lv_aload_n hx hb dX0_stage_39 rfl (lv_at hl 0 rfl) ?_
        refine va_get (D := D) (ci := 0) (v := .ref (q 5)) (C := RX0) (T := TX0) (N := 18) hx hb hts iw_X0 hown hK hP 0 rfl rfl 4 (by decide) (hts _ kf_X0_13) (fun _ h9 => h9) rfl dX0_stage_40 ?_
        refine lv_aload_n hx hb dX0_stage_43 rfl (lv_at hl 0 rfl) ?_
        refine va_get (D := D) (ci := 0) (v := .int (a 0 3)) (C := RX0) (T := TX0) (N := 18) hx hb hts iw_X0 hown hK hP 0 rfl rfl 14 (by decide) (hts _ kf_X0_90) (fun _ h9 => h9) rfl dX0_stage_44 ?_
        rw [hsc]
        refine lv_iload_n hx hb dX0_stage_47 rfl (lv_at hl 2 rfl) ?_
        refine za_iast (k := sc) (x := y) (f := (a 5)) hx hb hK hP hD hS 5 0 rfl rfl rfl (by omega) (by decide) dX0_stage_48 (fun H locs hP hD hS => ?_)
        have hP : va_P D vwCl (wL g q n (va_up (va_up a 4 (upd (a 4) sc x)) 5 (upd (a 5) sc y)) b v) H := hP
        have hD : va_D A (wL g q n (va_up (va_up a 4 (upd (a 4) sc x)) 5 (upd (a 5) sc y)) b v) := hD
        refine lv_aload_n hx hb dX0_stage_49 rfl (lv_at hl 0 rfl) ?_
        refine lv_dup hx hb dX0_stage_50 rfl ?_
        refine va_get (D := D) (ci := 0) (v := .int (a 0 3)) (C := RX0) (T := TX0) (N := 18) hx hb hts iw_X0 hown hK hP 0 rfl rfl 14 (by decide) (hts _ kf_X0_90) (fun _ h9 => h9) rfl dX0_stage_51 ?_
        rw [hsc]
        refine lv_iconst (v := 1) hx hb dX0_stage_54 (by decide) ?_
        refine lv_iadd hx hb dX0_stage_55 ?_
        rw [show (nI sc) + 1 = nI (sc + 1) from nI_1 sc]
        refine va_put (D := D) (ci := 0) (v := .int (nI (sc + 1))) (ty := .int) (C := RX0) (T := TX0) (N := 18) hx hb hts iw_X0 tyX0 tyok_X0 nm_X0 hown hK hP hD hS 0 rfl rfl 14 (by decide) (hts _ kf_X0_90) (fun _ h9 => h9) rfl (by decide +kernel) rfl rfl (Nat.le_of_ble_eq_true rfl) dX0_stage_56 (fun H locs hP hD hS => ?_)
        have hP : va_P D vwCl (wL g q n (va_up (va_up (va_up a 0 (upd (a 0) 3 (nI (sc + 1)))) 4 (upd (a 4) sc x)) 5 (upd (a 5) sc y)) b v) H := hP
        have hD : va_D A (wL g q n (va_up (va_up (va_up a 0 (upd (a 0) 3 (nI (sc + 1)))) 4 (upd (a 4) sc x)) 5 (upd (a 5) sc y)) b v) := hD
        refine lv_aload_n hx hb dX0_stage_59 rfl (lv_at hl 0 rfl) ?_
        refine va_get (D := D) (ci := 0) (v := .int (nI (sc + 1))) (C := RX0) (T := TX0) (N := 18) hx hb hts iw_X0 hown hK hP 0 rfl rfl 14 (by decide) (hts _ kf_X0_90) (fun _ h9 => h9) rfl dX0_stage_60 ?_
        refine lv_iconst (v := 1) hx hb dX0_stage_63 (by decide) ?_
        refine lv_isub hx hb dX0_stage_64 ?_
        rw [show (nI (sc + 1)) - 1 = nI sc from nI_pred sc]
        exact hret (nI sc) (va_up (va_up (va_up a 0 (upd (a 0) 3 (nI (sc + 1)))) 4 (upd (a 4) sc x)) 5 (upd (a 5) sc y), b, v) _ _ _ _ _ _ (vp_nar_int _) (by simp [hs4, c_17, c_24]) hP hD hS (Nat.le_of_ble_eq_true rfl) (Nat.le_of_ble_eq_true rfl) dX0_stage_65
      · -- on at 24
        have c_24 := zb_f c_24
        refine lv_iconst (v := (-1)) hx hb dX0_stage_27 (by decide) ?_
        exact hret (-1) (a, b, v) _ _ _ _ _ _ (vp_nar_int _) (by simp [hs4, c_17, c_24]) hP hD hS (Nat.le_of_ble_eq_true rfl) (Nat.le_of_ble_eq_true rfl) dX0_stage_28
def rm_rain : Room := { frames := 1, cells := 0, slots := 0, locals := 25 }
set_option maxHeartbeats 4000000 in
set_option maxRecDepth 100000 in
theorem c_rain (l : Launch) (D : va_G) (g : Nat → ClassId) (q : Nat → Nat) (n : Nat) (a : Nat → Nat → Int32) (b : Nat → Nat → Int64) (v : Nat → Nat → Int32) (d : Nat) (hd : a 0 4 = nI d) (hd4 : d ≤ 400) (x y : Int32) : zc_i l D (tyG g) yX0_rain cX0_rain 3 (some .boolean) rm_rain [.ref (q 0), .int x, .int y] (wL g q n a b v) (fun (r : Int32) (u : zS) => r = zb (m_within x.toInt64 (nI d).toInt64 399 && m_within y.toInt64 0 1000000) ∧ u = if (m_within x.toInt64 (nI d).toInt64 399 && m_within y.toInt64 0 1000000) = true then (va_up a 6 (upd (a 6) x.toNatClampNeg y), b, v) else (a, b, v)) (fun u => wL g q n u.1 u.2.1 u.2.2) 0 0 := by
  refine zi_of (by decide) (Nat.le_of_ble_eq_true rfl) rfl ?_
  intro p e s m args below meth cd_ A Q ls C0 hnm hP hD hS hl hret
  obtain ⟨hx, hb, hr, hml, hlocks, hown, hts, hK, hA, hN⟩ := id C0
  have hl : lv_has ls 3 [(0, .ref (q 0)), (1, .int x), (2, .int y)] := hl
  refine lv_iload_n hx hb dX0_rain_0 rfl (lv_at hl 1 rfl) ?_
  refine lv_i2l (v := x.toInt64) hx hb dX0_rain_1 rfl ?_
  refine lv_aload_n hx hb dX0_rain_2 rfl (lv_at hl 0 rfl) ?_
  refine va_get (D := D) (ci := 0) (v := .int (a 0 4)) (C := RX0) (T := TX0) (N := 18) hx hb hts iw_X0 hown hK hP 0 rfl rfl 15 (by decide) (hts _ kf_X0_93) (fun _ h9 => h9) rfl dX0_rain_3 ?_
  rw [hd]
  refine lv_i2l (v := (nI d).toInt64) hx hb dX0_rain_6 rfl ?_
  refine lv_ldc2 (v := 399) hx hb hown (hts _ kc_X0_96) dX0_rain_7 ?_
  refine zk_pi (rest := []) C0 hP hD hS (c_within l D (tyG g) x.toInt64 ((nI d).toInt64) (399 : Int64)) kk_X0_46 hl.1 rfl rfl (Nat.le_of_ble_eq_true rfl) ⟨(Nat.le_of_ble_eq_true rfl), (Nat.le_of_ble_eq_true rfl)⟩ rfl rfl ⟨(Nat.le_of_ble_eq_true rfl), (Nat.le_of_ble_eq_true rfl)⟩ dX0_rain_10 (fun r_10 H locs hw_10 hP hS => ?_)
  obtain rfl := hw_10
  refine lv_if_eq (tgt := 28) hx hb dX0_rain_13 (by decide) (fun c_13 => ?_) (fun c_13 => ?_)
  · -- jump at 13
    have c_13 := zb_f c_13
    refine lv_iconst (v := 0) hx hb dX0_rain_28 (by decide) ?_
    exact hret 0 (a, b, v) _ _ _ _ _ _ rfl (by simp [zb, c_13]) hP hD hS (Nat.le_of_ble_eq_true rfl) (Nat.le_of_ble_eq_true rfl) dX0_rain_29
  · -- on at 13
    have c_13 := zb_t c_13
    obtain ⟨k, hk1, hk2, rfl⟩ := m_rain_k hd4 c_13
    have hcl : (nI k).toNatClampNeg = k := nI_clamp (by omega)
    refine lv_iload_n hx hb dX0_rain_16 rfl (lv_at hl 2 rfl) ?_
    refine lv_i2l (v := y.toInt64) hx hb dX0_rain_17 rfl ?_
    refine lv_lconst (v := 0) hx hb dX0_rain_18 (by decide) ?_
    refine lv_ldc2 (v := 1000000) hx hb hown (hts _ kc_X0_70) dX0_rain_19 ?_
    refine zk_pi (rest := []) C0 hP hD hS (c_within l D (tyG g) y.toInt64 (0 : Int64) (1000000 : Int64)) kk_X0_46 hl.1 rfl rfl (Nat.le_of_ble_eq_true rfl) ⟨(Nat.le_of_ble_eq_true rfl), (Nat.le_of_ble_eq_true rfl)⟩ rfl rfl ⟨(Nat.le_of_ble_eq_true rfl), (Nat.le_of_ble_eq_true rfl)⟩ dX0_rain_22 (fun r_22 H locs hw_22 hP hS => ?_)
    obtain rfl := hw_22
    refine lv_if_ne (tgt := 30) hx hb dX0_rain_25 (by decide) (fun c_25 => ?_) (fun c_25 => ?_)
    · -- jump at 25
      have c_25 := zb_t c_25
      refine lv_aload_n hx hb dX0_rain_30 rfl (lv_at hl 0 rfl) ?_
      refine va_get (D := D) (ci := 0) (v := .ref (q 6)) (C := RX0) (T := TX0) (N := 18) hx hb hts iw_X0 hown hK hP 0 rfl rfl 5 (by decide) (hts _ kf_X0_16) (fun _ h9 => h9) rfl dX0_rain_31 ?_
      refine lv_iload_n hx hb dX0_rain_34 rfl (lv_at hl 1 rfl) ?_
      refine lv_iload_n hx hb dX0_rain_35 rfl (lv_at hl 2 rfl) ?_
      refine za_iast (k := k) (x := y) (f := (a 6)) hx hb hK hP hD hS 6 0 rfl rfl rfl (by omega) (by decide) dX0_rain_36 (fun H locs hP hD hS => ?_)
      have hP : va_P D vwCl (wL g q n (va_up a 6 (upd (a 6) k y)) b v) H := hP
      have hD : va_D A (wL g q n (va_up a 6 (upd (a 6) k y)) b v) := hD
      refine lv_iconst (v := 1) hx hb dX0_rain_37 (by decide) ?_
      exact hret 1 (va_up a 6 (upd (a 6) k y), b, v) _ _ _ _ _ _ rfl (by simp [zb, c_13, c_25, hcl]) hP hD hS (Nat.le_of_ble_eq_true rfl) (Nat.le_of_ble_eq_true rfl) dX0_rain_38
    · -- on at 25
      have c_25 := zb_f c_25
      refine lv_iconst (v := 0) hx hb dX0_rain_28 (by decide) ?_
      exact hret 0 (a, b, v) _ _ _ _ _ _ rfl (by simp [zb, c_13, c_25, hcl]) hP hD hS (Nat.le_of_ble_eq_true rfl) (Nat.le_of_ble_eq_true rfl) dX0_rain_29
def rm_storm : Room := { frames := 2, cells := 0, slots := 0, locals := 46 }
set_option maxHeartbeats 4000000 in
set_option maxRecDepth 100000 in
theorem c_storm (l : Launch) (D : va_G) (g : Nat → ClassId) (q : Nat → Nat) (n : Nat) (a : Nat → Nat → Int32) (b : Nat → Nat → Int64) (v : Nat → Nat → Int32) (d : Nat) (hd : a 0 4 = nI d) (hd4 : d ≤ 400) (x : Int64) (y : Int32) : zc_i l D (tyG g) yX0_storm cX0_storm 7 (some .boolean) rm_storm [.ref (q 0), .long x, .int y] (wL g q n a b v) (fun (r : Int32) (u : zS) => r = zb (m_days (nI d) y) ∧ u = if m_days (nI d) y = true then (va_up a 6 (m_st (a 6) x d y.toNatClampNeg).2, b, v) else (a, b, v)) (fun u => wL g q n u.1 u.2.1 u.2.2) 0 0 := by
  refine zi_of (by decide) (Nat.le_of_ble_eq_true rfl) rfl ?_
  intro p e s m args below meth cd_ A Q ls C0 hnm hP hD hS hl hret
  obtain ⟨hx, hb, hr, hml, hlocks, hown, hts, hK, hA, hN⟩ := id C0
  have hl : lv_has ls 7 [(0, .ref (q 0)), (1, .long x), (3, .int y)] := hl
  refine lv_aload_n hx hb dX0_storm_0 rfl (lv_at hl 0 rfl) ?_
  refine lv_iload_n hx hb dX0_storm_1 rfl (lv_at hl 2 rfl) ?_
  refine zf_vi (rest := []) C0 hP hD hS (c_areDaysToRun l D g q n a b v y) kk_X0_98 kv_X0_98 0 rfl 0 rfl hl.1 rfl rfl (Nat.le_of_ble_eq_true rfl) ⟨(Nat.le_of_ble_eq_true rfl), (Nat.le_of_ble_eq_true rfl)⟩ rfl rfl ⟨(Nat.le_of_ble_eq_true rfl), (Nat.le_of_ble_eq_true rfl)⟩ dX0_storm_2 (fun r_2 u_2 H locs hw_2 hP hD hS => ?_)
  obtain rfl := hw_2
  refine lv_if_ne (tgt := 10) hx hb dX0_storm_5 (by decide) (fun c_5 => ?_) (fun c_5 => ?_)
  · -- jump at 5
    have c_5 := zb_t c_5
    rw [hd] at c_5
    obtain ⟨k, hk1, hk2, hk3, rfl⟩ := m_days_k hd4 c_5
    have hcl : (nI k).toNatClampNeg = k := nI_clamp (by omega)
    refine lv_lload_n hx hb dX0_storm_10 rfl (lv_at hl 1 rfl) ?_
    refine lv_lstore (lv' := [(4, .long x), (0, .ref (q 0)), (1, .long x), (3, .int (nI k))]) hx hb dX0_storm_11 hl (by decide) rfl (fun ls hl => ?_)
    refine lv_iconst (v := 0) hx hb dX0_storm_13 (by decide) ?_
    refine lv_istore (lv' := [(6, .int 0), (4, .long x), (0, .ref (q 0)), (1, .long x), (3, .int (nI k))]) hx hb dX0_storm_14 hl (by decide) rfl (fun ls hl => ?_)
    have lp_16 : ∀ (t_16 i : Nat) , i + t_16 = k → ∀ (H : Heap) (locs : List Loc) (ls : Array Slot), va_P D vwCl (wL g q n (va_up a 6 ((m_st (a 6) x d i).2)) b v) H → va_D A (wL g q n (va_up a 6 ((m_st (a 6) x d i).2)) b v) → va_S A s.heap H locs → lv_has ls 7 [(6, .int (nI i)), (4, .long ((m_st (a 6) x d i).1)), (0, .ref (q 0)), (3, .int (nI k))] → W p l e rm_storm s m args below meth cd_ H locs 0 0 Q (F0 m 16 ls []) := by
      intro t_16
      induction t_16 with
      | zero =>
        intro i hi_16 H locs ls hP hD hS hl
        obtain rfl : k = i := by omega
        refine lv_iload hx hb dX0_storm_16 (lv_at hl 0 rfl) ?_
        refine lv_iload_n hx hb dX0_storm_18 rfl (lv_at hl 3 rfl) ?_
        refine lv_icmp_ge (tgt := 58) hx hb dX0_storm_19 (by decide) (fun _ => ?_) (fun c_19 => absurd (nI_le (Nat.le_refl _) (by omega)) c_19)
        refine lv_iconst (v := 1) hx hb dX0_storm_58 (by decide) ?_
        exact hret 1 (va_up a 6 ((m_st (a 6) x d k).2), b, v) _ _ _ _ _ _ rfl (by simp [zb, c_5, hcl]) hP hD hS (Nat.le_of_ble_eq_true rfl) (Nat.le_of_ble_eq_true rfl) dX0_storm_59
      | succ t_16 ih_16 =>
        intro i hi_16 H locs ls hP hD hS hl
        refine lv_iload hx hb dX0_storm_16 (lv_at hl 0 rfl) ?_
        refine lv_iload_n hx hb dX0_storm_18 rfl (lv_at hl 3 rfl) ?_
        refine lv_icmp_ge (tgt := 58) hx hb dX0_storm_19 (by decide) (fun c_19 => absurd c_19 (nI_ge (by omega) (by omega))) (fun _ => ?_)
        refine lv_lload hx hb dX0_storm_22 (lv_at hl 1 rfl) ?_
        refine lv_ldc2 (v := 6364136223846793005) hx hb hown (hts _ kc_X0_101) dX0_storm_24 ?_
        refine lv_lmul hx hb dX0_storm_27 ?_
        refine lv_ldc2 (v := 1442695040888963407) hx hb hown (hts _ kc_X0_103) dX0_storm_28 ?_
        refine lv_ladd hx hb dX0_storm_31 ?_
        refine lv_lstore (lv' := [(4, .long ((((m_st (a 6) x d i).1) * 6364136223846793005) + 1442695040888963407)), (6, .int (nI i)), (0, .ref (q 0)), (3, .int (nI k))]) hx hb dX0_storm_32 hl (by decide) rfl (fun ls hl => ?_)
        refine lv_aload_n hx hb dX0_storm_34 rfl (lv_at hl 2 rfl) ?_
        refine va_get (D := D) (ci := 0) (v := .ref (q 6)) (C := RX0) (T := TX0) (N := 18) hx hb hts iw_X0 hown hK hP 0 rfl rfl 5 (by decide) (hts _ kf_X0_16) (fun _ h9 => h9) rfl dX0_storm_35 ?_
        refine lv_aload_n hx hb dX0_storm_38 rfl (lv_at hl 2 rfl) ?_
        refine va_get (D := D) (ci := 0) (v := .int (a 0 4)) (C := RX0) (T := TX0) (N := 18) hx hb hts iw_X0 hown hK hP 0 rfl rfl 15 (by decide) (hts _ kf_X0_93) (fun _ h9 => h9) rfl dX0_storm_39 ?_
        rw [hd]
        refine lv_iload hx hb dX0_storm_42 (lv_at hl 1 rfl) ?_
        refine lv_iadd hx hb dX0_storm_44 ?_
        rw [show (nI d) + (nI i) = nI (d + i) from nI_add d i]
        refine lv_lload hx hb dX0_storm_45 (lv_at hl 0 rfl) ?_
        refine lv_bipush (v := 54) hx hb dX0_storm_47 (by decide) ?_
        refine lv_lushr (v := (((((m_st (a 6) x d i).1) * 6364136223846793005) + 1442695040888963407).toUInt64 >>> ((54 : Int32).toInt64.toUInt64 &&& Int64.toUInt64 63)).toInt64) hx hb dX0_storm_49 rfl ?_
        refine lv_l2i (v := ((((((m_st (a 6) x d i).1) * 6364136223846793005) + 1442695040888963407).toUInt64 >>> ((54 : Int32).toInt64.toUInt64 &&& Int64.toUInt64 63)).toInt64).toInt32) hx hb dX0_storm_50 rfl ?_
        refine za_iast (k := (d + i)) (x := ((((((m_st (a 6) x d i).1) * 6364136223846793005) + 1442695040888963407).toUInt64 >>> ((54 : Int32).toInt64.toUInt64 &&& Int64.toUInt64 63)).toInt64).toInt32) (f := ((m_st (a 6) x d i).2)) hx hb hK hP hD hS 6 0 rfl rfl rfl (by omega) (by decide) dX0_storm_51 (fun H locs hP hD hS => ?_)
        have hP : va_P D vwCl (wL g q n (va_up a 6 (upd ((m_st (a 6) x d i).2) (d + i) (((((((m_st (a 6) x d i).1) * 6364136223846793005) + 1442695040888963407).toUInt64 >>> ((54 : Int32).toInt64.toUInt64 &&& Int64.toUInt64 63)).toInt64).toInt32))) b v) H := hP
        have hD : va_D A (wL g q n (va_up a 6 (upd ((m_st (a 6) x d i).2) (d + i) (((((((m_st (a 6) x d i).1) * 6364136223846793005) + 1442695040888963407).toUInt64 >>> ((54 : Int32).toInt64.toUInt64 &&& Int64.toUInt64 63)).toInt64).toInt32))) b v) := hD
        refine lv_iinc (v := nI (i + 1)) (lv' := [(6, .int (nI (i + 1))), (4, .long ((((m_st (a 6) x d i).1) * 6364136223846793005) + 1442695040888963407)), (0, .ref (q 0)), (3, .int (nI k))]) hx hb dX0_storm_52 hl (k := 1) rfl (nI_1 i) (by decide) rfl (fun ls hl => ?_)
        refine lv_goto (tgt := 16) hx hb dX0_storm_55 (by decide) ?_
        have hP : va_P D vwCl (wL g q n (va_up a 6 ((m_st (a 6) x d (i + 1)).2)) b v) _ := hP
        have hD : va_D A (wL g q n (va_up a 6 ((m_st (a 6) x d (i + 1)).2)) b v) := hD
        have hl : lv_has ls 7 [(6, .int (nI (i + 1))), (4, .long ((m_st (a 6) x d (i + 1)).1)), (0, .ref (q 0)), (3, .int (nI k))] := lv_sub hl [0, 1, 2, 3] rfl
        exact ih_16 (i + 1)  (by omega)  _ _ _ hP hD hS hl
    exact lp_16 (k - 0) 0  (by omega)  _ _ _ hP hD hS (lv_sub hl [0, 1, 2, 4] rfl)
  · -- on at 5
    have c_5 := zb_f c_5
    rw [hd] at c_5
    refine lv_iconst (v := 0) hx hb dX0_storm_8 (by decide) ?_
    exact hret 0 (a, b, v) _ _ _ _ _ _ rfl (by simp [zb, c_5]) hP hD hS (Nat.le_of_ble_eq_true rfl) (Nat.le_of_ble_eq_true rfl) dX0_storm_9
def rm_held : Room := { frames := 2, cells := 0, slots := 0, locals := 46 }
set_option maxHeartbeats 4000000 in
set_option maxRecDepth 100000 in
theorem c_held (l : Launch) (D : va_G) (g : Nat → ClassId) (q : Nat → Nat) (n : Nat) (a : Nat → Nat → Int32) (b : Nat → Nat → Int64) (v : Nat → Nat → Int32) (hn : 1 ≤ n ∧ n ≤ 6) (x : Int32) : zc_l l D (tyG g) yX0_held cX0_held 2 (some .long) rm_held [.ref (q 0), .int x] (wL g q n a b v) (fun (r : Int64) (u : Unit) => r = if m_isLayer n x = true then b 1 x.toNatClampNeg else -1) (fun _ => wL g q n a b v) 0 0 := by
  refine zl_of (by decide) (Nat.le_of_ble_eq_true rfl) rfl ?_
  intro p e s m args below meth cd_ A Q ls C0 hnm hP hD hS hl hret
  obtain ⟨hx, hb, hr, hml, hlocks, hown, hts, hK, hA, hN⟩ := id C0
  have hl : lv_has ls 2 [(0, .ref (q 0)), (1, .int x)] := hl
  refine lv_aload_n hx hb dX0_held_0 rfl (lv_at hl 0 rfl) ?_
  refine lv_iload_n hx hb dX0_held_1 rfl (lv_at hl 1 rfl) ?_
  refine zf_vi (rest := []) C0 hP hD hS (c_isLayer l D g q n a b v x) kk_X0_66 kv_X0_66 0 rfl 0 rfl hl.1 rfl rfl (Nat.le_of_ble_eq_true rfl) ⟨(Nat.le_of_ble_eq_true rfl), (Nat.le_of_ble_eq_true rfl)⟩ rfl rfl ⟨(Nat.le_of_ble_eq_true rfl), (Nat.le_of_ble_eq_true rfl)⟩ dX0_held_2 (fun r_2 u_2 H locs hw_2 hP hD hS => ?_)
  obtain rfl := hw_2
  refine lv_if_eq (tgt := 17) hx hb dX0_held_5 (by decide) (fun c_5 => ?_) (fun c_5 => ?_)
  · -- jump at 5
    have c_5 := zb_f c_5
    refine lv_ldc2 (v := (-1)) hx hb hown (hts _ kc_X0_35) dX0_held_17 ?_
    exact hret (-1) () _ _ _ _ _ _ (by simp [c_5]) hP hD hS (Nat.le_of_ble_eq_true rfl) (Nat.le_of_ble_eq_true rfl) dX0_held_20
  · -- on at 5
    have c_5 := zb_t c_5
    obtain ⟨k, hk, rfl⟩ := m_layer_k hn c_5
    have hcl : (nI k).toNatClampNeg = k := nI_clamp (by omega)
    refine lv_aload_n hx hb dX0_held_8 rfl (lv_at hl 0 rfl) ?_
    refine va_get (D := D) (ci := 0) (v := .ref (q 1)) (C := RX0) (T := TX0) (N := 18) hx hb hts iw_X0 hown hK hP 0 rfl rfl 0 (by decide) (hts _ kf_X0_50) (fun _ h9 => h9) rfl dX0_held_9 ?_
    refine lv_iload_n hx hb dX0_held_12 rfl (lv_at hl 1 rfl) ?_
    refine za_lald (k := k) (f := (b 1)) (v := b 1 k) hx hb hK hP 1 1 rfl rfl rfl (by omega) (by omega) rfl dX0_held_13 ?_
    refine lv_goto (tgt := 20) hx hb dX0_held_14 (by decide) ?_
    exact hret (b 1 k) () _ _ _ _ _ _ (by simp [c_5, hcl]) hP hD hS (Nat.le_of_ble_eq_true rfl) (Nat.le_of_ble_eq_true rfl) dX0_held_20
def rm_out : Room := { frames := 1, cells := 0, slots := 0, locals := 25 }
set_option maxHeartbeats 4000000 in
set_option maxRecDepth 100000 in
theorem c_out (l : Launch) (D : va_G) (g : Nat → ClassId) (q : Nat → Nat) (n : Nat) (a : Nat → Nat → Int32) (b : Nat → Nat → Int64) (v : Nat → Nat → Int32) (x : Int32) : zc_l l D (tyG g) yX0_out cX0_out 2 (some .long) rm_out [.ref (q 0), .int x] (wL g q n a b v) (fun (r : Int64) (u : Unit) => r = if m_within x.toInt64 0 8 = true then b 8 x.toNatClampNeg else -1) (fun _ => wL g q n a b v) 0 0 := by
  refine zl_of (by decide) (Nat.le_of_ble_eq_true rfl) rfl ?_
  intro p e s m args below meth cd_ A Q ls C0 hnm hP hD hS hl hret
  obtain ⟨hx, hb, hr, hml, hlocks, hown, hts, hK, hA, hN⟩ := id C0
  have hl : lv_has ls 2 [(0, .ref (q 0)), (1, .int x)] := hl
  refine lv_iload_n hx hb dX0_out_0 rfl (lv_at hl 1 rfl) ?_
  refine lv_i2l (v := x.toInt64) hx hb dX0_out_1 rfl ?_
  refine lv_lconst (v := 0) hx hb dX0_out_2 (by decide) ?_
  refine lv_ldc2 (v := 8) hx hb hown (hts _ kc_X0_108) dX0_out_3 ?_
  refine zk_pi (rest := []) C0 hP hD hS (c_within l D (tyG g) x.toInt64 (0 : Int64) (8 : Int64)) kk_X0_46 hl.1 rfl rfl (Nat.le_of_ble_eq_true rfl) ⟨(Nat.le_of_ble_eq_true rfl), (Nat.le_of_ble_eq_true rfl)⟩ rfl rfl ⟨(Nat.le_of_ble_eq_true rfl), (Nat.le_of_ble_eq_true rfl)⟩ dX0_out_6 (fun r_6 H locs hw_6 hP hS => ?_)
  obtain rfl := hw_6
  refine lv_if_eq (tgt := 21) hx hb dX0_out_9 (by decide) (fun c_9 => ?_) (fun c_9 => ?_)
  · -- jump at 9
    have c_9 := zb_f c_9
    refine lv_ldc2 (v := (-1)) hx hb hown (hts _ kc_X0_35) dX0_out_21 ?_
    exact hret (-1) () _ _ _ _ _ _ (by simp [c_9]) hP hD hS (Nat.le_of_ble_eq_true rfl) (Nat.le_of_ble_eq_true rfl) dX0_out_24
  · -- on at 9
    have c_9 := zb_t c_9
    obtain ⟨k, hk, rfl⟩ := m_rng (m := 8) (by decide) (by decide) c_9
    have hcl : (nI k).toNatClampNeg = k := nI_clamp (by omega)
    refine lv_aload_n hx hb dX0_out_12 rfl (lv_at hl 0 rfl) ?_
    refine va_get (D := D) (ci := 0) (v := .ref (q 8)) (C := RX0) (T := TX0) (N := 18) hx hb hts iw_X0 hown hK hP 0 rfl rfl 7 (by decide) (hts _ kf_X0_23) (fun _ h9 => h9) rfl dX0_out_13 ?_
    refine lv_iload_n hx hb dX0_out_16 rfl (lv_at hl 1 rfl) ?_
    refine za_lald (k := k) (f := (b 8)) (v := b 8 k) hx hb hK hP 8 1 rfl rfl rfl (by omega) (by decide) rfl dX0_out_17 ?_
    refine lv_goto (tgt := 24) hx hb dX0_out_18 (by decide) ?_
    exact hret (b 8 k) () _ _ _ _ _ _ (by simp [c_9, hcl]) hP hD hS (Nat.le_of_ble_eq_true rfl) (Nat.le_of_ble_eq_true rfl) dX0_out_24
def rm_balance : Room := { frames := 0, cells := 0, slots := 0, locals := 0 }
set_option maxHeartbeats 4000000 in
set_option maxRecDepth 100000 in
theorem c_balance (l : Launch) (D : va_G) (g : Nat → ClassId) (q : Nat → Nat) (n : Nat) (a : Nat → Nat → Int32) (b : Nat → Nat → Int64) (v : Nat → Nat → Int32) (hn : 1 ≤ n ∧ n ≤ 6) : zc_l l D (tyG g) yX0_balance cX0_balance 4 (some .long) rm_balance [.ref (q 0)] (wL g q n a b v) (fun (r : Int64) (u : Unit) => r = m_bal (b 1) (b 8 0 - b 8 1 - b 8 3 - b 8 4 - b 8 5 - b 8 6 - b 8 7 - b 8 8) n) (fun _ => wL g q n a b v) 0 0 := by
  refine zl_of (by decide) (Nat.le_of_ble_eq_true rfl) rfl ?_
  intro p e s m args below meth cd_ A Q ls C0 hnm hP hD hS hl hret
  obtain ⟨hx, hb, hr, hml, hlocks, hown, hts, hK, hA, hN⟩ := id C0
  have hl : lv_has ls 4 [(0, .ref (q 0))] := hl
  refine lv_aload_n hx hb dX0_balance_0 rfl (lv_at hl 0 rfl) ?_
  refine va_get (D := D) (ci := 0) (v := .ref (q 8)) (C := RX0) (T := TX0) (N := 18) hx hb hts iw_X0 hown hK hP 0 rfl rfl 7 (by decide) (hts _ kf_X0_23) (fun _ h9 => h9) rfl dX0_balance_1 ?_
  refine lv_iconst (v := 0) hx hb dX0_balance_4 (by decide) ?_
  refine za_lald (k := 0) (f := (b 8)) (v := b 8 0) hx hb hK hP 8 1 rfl rfl rfl (by decide) (by decide) rfl dX0_balance_5 ?_
  refine lv_aload_n hx hb dX0_balance_6 rfl (lv_at hl 0 rfl) ?_
  refine va_get (D := D) (ci := 0) (v := .ref (q 8)) (C := RX0) (T := TX0) (N := 18) hx hb hts iw_X0 hown hK hP 0 rfl rfl 7 (by decide) (hts _ kf_X0_23) (fun _ h9 => h9) rfl dX0_balance_7 ?_
  refine lv_iconst (v := 1) hx hb dX0_balance_10 (by decide) ?_
  refine za_lald (k := 1) (f := (b 8)) (v := b 8 1) hx hb hK hP 8 1 rfl rfl rfl (by decide) (by decide) rfl dX0_balance_11 ?_
  refine lv_lsub hx hb dX0_balance_12 ?_
  refine lv_aload_n hx hb dX0_balance_13 rfl (lv_at hl 0 rfl) ?_
  refine va_get (D := D) (ci := 0) (v := .ref (q 8)) (C := RX0) (T := TX0) (N := 18) hx hb hts iw_X0 hown hK hP 0 rfl rfl 7 (by decide) (hts _ kf_X0_23) (fun _ h9 => h9) rfl dX0_balance_14 ?_
  refine lv_iconst (v := 3) hx hb dX0_balance_17 (by decide) ?_
  refine za_lald (k := 3) (f := (b 8)) (v := b 8 3) hx hb hK hP 8 1 rfl rfl rfl (by decide) (by decide) rfl dX0_balance_18 ?_
  refine lv_lsub hx hb dX0_balance_19 ?_
  refine lv_aload_n hx hb dX0_balance_20 rfl (lv_at hl 0 rfl) ?_
  refine va_get (D := D) (ci := 0) (v := .ref (q 8)) (C := RX0) (T := TX0) (N := 18) hx hb hts iw_X0 hown hK hP 0 rfl rfl 7 (by decide) (hts _ kf_X0_23) (fun _ h9 => h9) rfl dX0_balance_21 ?_
  refine lv_iconst (v := 4) hx hb dX0_balance_24 (by decide) ?_
  refine za_lald (k := 4) (f := (b 8)) (v := b 8 4) hx hb hK hP 8 1 rfl rfl rfl (by decide) (by decide) rfl dX0_balance_25 ?_
  refine lv_lsub hx hb dX0_balance_26 ?_
  refine lv_aload_n hx hb dX0_balance_27 rfl (lv_at hl 0 rfl) ?_
  refine va_get (D := D) (ci := 0) (v := .ref (q 8)) (C := RX0) (T := TX0) (N := 18) hx hb hts iw_X0 hown hK hP 0 rfl rfl 7 (by decide) (hts _ kf_X0_23) (fun _ h9 => h9) rfl dX0_balance_28 ?_
  refine lv_iconst (v := 5) hx hb dX0_balance_31 (by decide) ?_
  refine za_lald (k := 5) (f := (b 8)) (v := b 8 5) hx hb hK hP 8 1 rfl rfl rfl (by decide) (by decide) rfl dX0_balance_32 ?_
  refine lv_lsub hx hb dX0_balance_33 ?_
  refine lv_aload_n hx hb dX0_balance_34 rfl (lv_at hl 0 rfl) ?_
  refine va_get (D := D) (ci := 0) (v := .ref (q 8)) (C := RX0) (T := TX0) (N := 18) hx hb hts iw_X0 hown hK hP 0 rfl rfl 7 (by decide) (hts _ kf_X0_23) (fun _ h9 => h9) rfl dX0_balance_35 ?_
  refine lv_bipush (v := 6) hx hb dX0_balance_38 (by decide) ?_
  refine za_lald (k := 6) (f := (b 8)) (v := b 8 6) hx hb hK hP 8 1 rfl rfl rfl (by decide) (by decide) rfl dX0_balance_40 ?_
  refine lv_lsub hx hb dX0_balance_41 ?_
  refine lv_aload_n hx hb dX0_balance_42 rfl (lv_at hl 0 rfl) ?_
  refine va_get (D := D) (ci := 0) (v := .ref (q 8)) (C := RX0) (T := TX0) (N := 18) hx hb hts iw_X0 hown hK hP 0 rfl rfl 7 (by decide) (hts _ kf_X0_23) (fun _ h9 => h9) rfl dX0_balance_43 ?_
  refine lv_bipush (v := 7) hx hb dX0_balance_46 (by decide) ?_
  refine za_lald (k := 7) (f := (b 8)) (v := b 8 7) hx hb hK hP 8 1 rfl rfl rfl (by decide) (by decide) rfl dX0_balance_48 ?_
  refine lv_lsub hx hb dX0_balance_49 ?_
  refine lv_aload_n hx hb dX0_balance_50 rfl (lv_at hl 0 rfl) ?_
  refine va_get (D := D) (ci := 0) (v := .ref (q 8)) (C := RX0) (T := TX0) (N := 18) hx hb hts iw_X0 hown hK hP 0 rfl rfl 7 (by decide) (hts _ kf_X0_23) (fun _ h9 => h9) rfl dX0_balance_51 ?_
  refine lv_bipush (v := 8) hx hb dX0_balance_54 (by decide) ?_
  refine za_lald (k := 8) (f := (b 8)) (v := b 8 8) hx hb hK hP 8 1 rfl rfl rfl (by decide) (by decide) rfl dX0_balance_56 ?_
  refine lv_lsub hx hb dX0_balance_57 ?_
  refine lv_lstore_n (lv' := [(1, .long ((((((((b 8 0) - (b 8 1)) - (b 8 3)) - (b 8 4)) - (b 8 5)) - (b 8 6)) - (b 8 7)) - (b 8 8))), (0, .ref (q 0))]) hx hb dX0_balance_58 rfl hl (by decide) rfl (fun ls hl => ?_)
  refine lv_iconst (v := 0) hx hb dX0_balance_59 (by decide) ?_
  refine lv_istore_n (lv' := [(3, .int 0), (1, .long ((((((((b 8 0) - (b 8 1)) - (b 8 3)) - (b 8 4)) - (b 8 5)) - (b 8 6)) - (b 8 7)) - (b 8 8))), (0, .ref (q 0))]) hx hb dX0_balance_60 rfl hl (by decide) rfl (fun ls hl => ?_)
  have lp_61 : ∀ (t_61 i : Nat) , i + t_61 = n → ∀ (H : Heap) (locs : List Loc) (ls : Array Slot), va_P D vwCl (wL g q n a b v) H → va_D A (wL g q n a b v) → va_S A s.heap H locs → lv_has ls 4 [(3, .int (nI i)), (1, .long (m_bal (b 1) (b 8 0 - b 8 1 - b 8 3 - b 8 4 - b 8 5 - b 8 6 - b 8 7 - b 8 8) i)), (0, .ref (q 0))] → W p l e rm_balance s m args below meth cd_ H locs 0 0 Q (F0 m 61 ls []) := by
    intro t_61
    induction t_61 with
    | zero =>
      intro i hi_61 H locs ls hP hD hS hl
      obtain rfl : n = i := by omega
      refine lv_iload_n hx hb dX0_balance_61 rfl (lv_at hl 0 rfl) ?_
      refine lv_aload_n hx hb dX0_balance_62 rfl (lv_at hl 2 rfl) ?_
      refine va_get (D := D) (ci := 0) (v := .ref (q 1)) (C := RX0) (T := TX0) (N := 18) hx hb hts iw_X0 hown hK hP 0 rfl rfl 0 (by decide) (hts _ kf_X0_50) (fun _ h9 => h9) rfl dX0_balance_63 ?_
      refine va_alen (v := nI n) hx hb hK hP 1 1 rfl rfl rfl dX0_balance_66 ?_
      refine lv_icmp_ge (tgt := 85) hx hb dX0_balance_67 (by decide) (fun _ => ?_) (fun c_67 => absurd (nI_le (Nat.le_refl _) (by omega)) c_67)
      refine lv_lload_n hx hb dX0_balance_85 rfl (lv_at hl 1 rfl) ?_
      exact hret (m_bal (b 1) (b 8 0 - b 8 1 - b 8 3 - b 8 4 - b 8 5 - b 8 6 - b 8 7 - b 8 8) n) () _ _ _ _ _ _ rfl hP hD hS (Nat.le_of_ble_eq_true rfl) (Nat.le_of_ble_eq_true rfl) dX0_balance_86
    | succ t_61 ih_61 =>
      intro i hi_61 H locs ls hP hD hS hl
      refine lv_iload_n hx hb dX0_balance_61 rfl (lv_at hl 0 rfl) ?_
      refine lv_aload_n hx hb dX0_balance_62 rfl (lv_at hl 2 rfl) ?_
      refine va_get (D := D) (ci := 0) (v := .ref (q 1)) (C := RX0) (T := TX0) (N := 18) hx hb hts iw_X0 hown hK hP 0 rfl rfl 0 (by decide) (hts _ kf_X0_50) (fun _ h9 => h9) rfl dX0_balance_63 ?_
      refine va_alen (v := nI n) hx hb hK hP 1 1 rfl rfl rfl dX0_balance_66 ?_
      refine lv_icmp_ge (tgt := 85) hx hb dX0_balance_67 (by decide) (fun c_67 => absurd c_67 (nI_ge (by omega) (by omega))) (fun _ => ?_)
      refine lv_lload_n hx hb dX0_balance_70 rfl (lv_at hl 1 rfl) ?_
      refine lv_aload_n hx hb dX0_balance_71 rfl (lv_at hl 2 rfl) ?_
      refine va_get (D := D) (ci := 0) (v := .ref (q 1)) (C := RX0) (T := TX0) (N := 18) hx hb hts iw_X0 hown hK hP 0 rfl rfl 0 (by decide) (hts _ kf_X0_50) (fun _ h9 => h9) rfl dX0_balance_72 ?_
      refine lv_iload_n hx hb dX0_balance_75 rfl (lv_at hl 0 rfl) ?_
      refine za_lald (k := i) (f := (b 1)) (v := b 1 i) hx hb hK hP 1 1 rfl rfl rfl (by omega) (by omega) rfl dX0_balance_76 ?_
      refine lv_lsub hx hb dX0_balance_77 ?_
      refine lv_lstore_n (lv' := [(1, .long ((m_bal (b 1) (b 8 0 - b 8 1 - b 8 3 - b 8 4 - b 8 5 - b 8 6 - b 8 7 - b 8 8) i) - (b 1 i))), (3, .int (nI i)), (0, .ref (q 0))]) hx hb dX0_balance_78 rfl hl (by decide) rfl (fun ls hl => ?_)
      refine lv_iinc (v := nI (i + 1)) (lv' := [(3, .int (nI (i + 1))), (1, .long ((m_bal (b 1) (b 8 0 - b 8 1 - b 8 3 - b 8 4 - b 8 5 - b 8 6 - b 8 7 - b 8 8) i) - (b 1 i))), (0, .ref (q 0))]) hx hb dX0_balance_79 hl (k := 1) rfl (nI_1 i) (by decide) rfl (fun ls hl => ?_)
      refine lv_goto (tgt := 61) hx hb dX0_balance_82 (by decide) ?_
      have hP : va_P D vwCl (wL g q n a b v) _ := hP
      have hD : va_D A (wL g q n a b v) := hD
      have hl : lv_has ls 4 [(3, .int (nI (i + 1))), (1, .long (m_bal (b 1) (b 8 0 - b 8 1 - b 8 3 - b 8 4 - b 8 5 - b 8 6 - b 8 7 - b 8 8) (i + 1))), (0, .ref (q 0))] := lv_sub hl [0, 1, 2] rfl
      exact ih_61 (i + 1)  (by omega)  _ _ _ hP hD hS hl
  exact lp_61 (n - 0) 0  (by omega)  _ _ _ hP hD hS (lv_sub hl [0, 1, 2] rfl)
def rm_dayThatPasses : Room := { frames := 0, cells := 0, slots := 0, locals := 0 }
set_option maxHeartbeats 4000000 in
set_option maxRecDepth 100000 in
theorem c_dayThatPasses (l : Launch) (D : va_G) (g : Nat → ClassId) (q : Nat → Nat) (n : Nat) (a : Nat → Nat → Int32) (b : Nat → Nat → Int64) (v : Nat → Nat → Int32) (d : Nat) (hd : a 0 4 = nI d) (hd4 : d ≤ 400) (k : Int32) : zc_i l D (tyG g) yX0_dayThatPasses cX0_dayThatPasses 4 (some .int) rm_dayThatPasses [.ref (q 0), .int k] (wL g q n a b v) (fun (r : Int32) (u : Unit) => r = if b 0 1 = -1 then -1 else m_dp (b 7) (b 0 1) k d 0 0) (fun _ => wL g q n a b v) 0 0 := by
  refine zi_of (by decide) (Nat.le_of_ble_eq_true rfl) rfl ?_
  intro p e s m args below meth cd_ A Q ls C0 hnm hP hD hS hl hret
  obtain ⟨hx, hb, hr, hml, hlocks, hown, hts, hK, hA, hN⟩ := id C0
  have hl : lv_has ls 4 [(0, .ref (q 0)), (1, .int k)] := hl
  refine lv_aload_n hx hb dX0_dayThatPasses_0 rfl (lv_at hl 0 rfl) ?_
  refine va_get (D := D) (ci := 0) (v := .long (b 0 1)) (C := RX0) (T := TX0) (N := 18) hx hb hts iw_X0 hown hK hP 0 rfl rfl 16 (by decide) (hts _ kf_X0_37) (fun _ h9 => h9) rfl dX0_dayThatPasses_1 ?_
  refine lv_ldc2 (v := (-1)) hx hb hown (hts _ kc_X0_35) dX0_dayThatPasses_4 ?_
  refine zl_ne (tgt := 13) hx hb dX0_dayThatPasses_7 dX0_dayThatPasses_8 (by decide) (fun c_7 => ?_) (fun c_7 => ?_)
  · -- jump at 7
    refine lv_iconst (v := 0) hx hb dX0_dayThatPasses_13 (by decide) ?_
    refine lv_istore_n (lv' := [(2, .int 0), (0, .ref (q 0)), (1, .int k)]) hx hb dX0_dayThatPasses_14 rfl hl (by decide) rfl (fun ls hl => ?_)
    refine lv_iconst (v := 0) hx hb dX0_dayThatPasses_15 (by decide) ?_
    refine lv_istore_n (lv' := [(3, .int 0), (2, .int 0), (0, .ref (q 0)), (1, .int k)]) hx hb dX0_dayThatPasses_16 rfl hl (by decide) rfl (fun ls hl => ?_)
    have lp_17 : ∀ (t_17 i : Nat) (z : Int32), i + t_17 = d → m_dp (b 7) (b 0 1) k d 0 0 = m_dp (b 7) (b 0 1) k t_17 i z → ∀ (H : Heap) (locs : List Loc) (ls : Array Slot), va_P D vwCl (wL g q n a b v) H → va_D A (wL g q n a b v) → va_S A s.heap H locs → lv_has ls 4 [(3, .int (nI i)), (2, .int z), (0, .ref (q 0)), (1, .int k)] → W p l e rm_dayThatPasses s m args below meth cd_ H locs 0 0 Q (F0 m 17 ls []) := by
      intro t_17
      induction t_17 with
      | zero =>
        intro i z hi_17 heq H locs ls hP hD hS hl
        obtain rfl : d = i := by omega
        refine lv_iload_n hx hb dX0_dayThatPasses_17 rfl (lv_at hl 0 rfl) ?_
        refine lv_aload_n hx hb dX0_dayThatPasses_18 rfl (lv_at hl 2 rfl) ?_
        refine va_get (D := D) (ci := 0) (v := .int (a 0 4)) (C := RX0) (T := TX0) (N := 18) hx hb hts iw_X0 hown hK hP 0 rfl rfl 15 (by decide) (hts _ kf_X0_93) (fun _ h9 => h9) rfl dX0_dayThatPasses_19 ?_
        rw [hd]
        refine lv_icmp_ge (tgt := 55) hx hb dX0_dayThatPasses_22 (by decide) (fun _ => ?_) (fun c_22 => absurd (nI_le (Nat.le_refl _) (by omega)) c_22)
        refine lv_iconst (v := (-1)) hx hb dX0_dayThatPasses_55 (by decide) ?_
        exact hret (-1) () _ _ _ _ _ _ (vp_nar_int _) (by first | exact (if_pos c_7).symm | exact ((if_neg c_7).trans (heq.trans ((if_neg c_35).trans (if_pos c_41)))).symm | exact ((if_neg c_7).trans heq).symm) hP hD hS (Nat.le_of_ble_eq_true rfl) (Nat.le_of_ble_eq_true rfl) dX0_dayThatPasses_56
      | succ t_17 ih_17 =>
        intro i z hi_17 heq H locs ls hP hD hS hl
        refine lv_iload_n hx hb dX0_dayThatPasses_17 rfl (lv_at hl 0 rfl) ?_
        refine lv_aload_n hx hb dX0_dayThatPasses_18 rfl (lv_at hl 2 rfl) ?_
        refine va_get (D := D) (ci := 0) (v := .int (a 0 4)) (C := RX0) (T := TX0) (N := 18) hx hb hts iw_X0 hown hK hP 0 rfl rfl 15 (by decide) (hts _ kf_X0_93) (fun _ h9 => h9) rfl dX0_dayThatPasses_19 ?_
        rw [hd]
        refine lv_icmp_ge (tgt := 55) hx hb dX0_dayThatPasses_22 (by decide) (fun c_22 => absurd c_22 (nI_ge (by omega) (by omega))) (fun _ => ?_)
        refine lv_aload_n hx hb dX0_dayThatPasses_25 rfl (lv_at hl 2 rfl) ?_
        refine va_get (D := D) (ci := 0) (v := .ref (q 7)) (C := RX0) (T := TX0) (N := 18) hx hb hts iw_X0 hown hK hP 0 rfl rfl 6 (by decide) (hts _ kf_X0_19) (fun _ h9 => h9) rfl dX0_dayThatPasses_26 ?_
        refine lv_iload_n hx hb dX0_dayThatPasses_29 rfl (lv_at hl 0 rfl) ?_
        refine za_lald (k := i) (f := (b 7)) (v := b 7 i) hx hb hK hP 7 1 rfl rfl rfl (by omega) (by decide) rfl dX0_dayThatPasses_30 ?_
        refine lv_aload_n hx hb dX0_dayThatPasses_31 rfl (lv_at hl 2 rfl) ?_
        refine va_get (D := D) (ci := 0) (v := .long (b 0 1)) (C := RX0) (T := TX0) (N := 18) hx hb hts iw_X0 hown hK hP 0 rfl rfl 16 (by decide) (hts _ kf_X0_37) (fun _ h9 => h9) rfl dX0_dayThatPasses_32 ?_
        refine zl_le (tgt := 49) hx hb dX0_dayThatPasses_35 dX0_dayThatPasses_36 (by decide) (fun c_35 => ?_) (fun c_35 => ?_)
        · -- jump at 35
          refine lv_iinc (v := nI (i + 1)) (lv' := [(3, .int (nI (i + 1))), (2, .int z), (0, .ref (q 0)), (1, .int k)]) hx hb dX0_dayThatPasses_49 hl (k := 0) rfl (nI_1 i) (by decide) rfl (fun ls hl => ?_)
          refine lv_goto (tgt := 17) hx hb dX0_dayThatPasses_52 (by decide) ?_
          have hP : va_P D vwCl (wL g q n a b v) _ := hP
          have hD : va_D A (wL g q n a b v) := hD
          have hl : lv_has ls 4 [(3, .int (nI (i + 1))), (2, .int z), (0, .ref (q 0)), (1, .int k)] := lv_sub hl [0, 1, 2, 3] rfl
          exact ih_17 (i + 1) z (by omega) (heq.trans (if_pos c_35)) _ _ _ hP hD hS hl
        · -- on at 35
          refine lv_iload_n hx hb dX0_dayThatPasses_39 rfl (lv_at hl 1 rfl) ?_
          refine lv_iload_n hx hb dX0_dayThatPasses_40 rfl (lv_at hl 3 rfl) ?_
          refine lv_icmp_ne (tgt := 46) hx hb dX0_dayThatPasses_41 (by decide) (fun c_41 => ?_) (fun c_41 => ?_)
          · -- jump at 41
            refine lv_iinc (v := z + 1) (lv' := [(2, .int (z + 1)), (3, .int (nI i)), (0, .ref (q 0)), (1, .int k)]) hx hb dX0_dayThatPasses_46 hl (k := 1) rfl rfl (by decide) rfl (fun ls hl => ?_)
            refine lv_iinc (v := nI (i + 1)) (lv' := [(3, .int (nI (i + 1))), (2, .int (z + 1)), (0, .ref (q 0)), (1, .int k)]) hx hb dX0_dayThatPasses_49 hl (k := 1) rfl (nI_1 i) (by decide) rfl (fun ls hl => ?_)
            refine lv_goto (tgt := 17) hx hb dX0_dayThatPasses_52 (by decide) ?_
            have hP : va_P D vwCl (wL g q n a b v) _ := hP
            have hD : va_D A (wL g q n a b v) := hD
            have hl : lv_has ls 4 [(3, .int (nI (i + 1))), (2, .int (z + 1)), (0, .ref (q 0)), (1, .int k)] := lv_sub hl [0, 1, 2, 3] rfl
            exact ih_17 (i + 1) (z + 1) (by omega) (heq.trans ((if_neg c_35).trans (if_neg c_41))) _ _ _ hP hD hS hl
          · -- on at 41
            refine lv_iload_n hx hb dX0_dayThatPasses_44 rfl (lv_at hl 0 rfl) ?_
            exact hret (nI i) () _ _ _ _ _ _ (vp_nar_int _) (by first | exact (if_pos c_7).symm | exact ((if_neg c_7).trans (heq.trans ((if_neg c_35).trans (if_pos c_41)))).symm | exact ((if_neg c_7).trans heq).symm) hP hD hS (Nat.le_of_ble_eq_true rfl) (Nat.le_of_ble_eq_true rfl) dX0_dayThatPasses_45
    exact lp_17 (d - 0) 0 0 (by omega) rfl _ _ _ hP hD hS (lv_sub hl [0, 1, 2, 3] rfl)
  · -- on at 7
    refine lv_iconst (v := (-1)) hx hb dX0_dayThatPasses_11 (by decide) ?_
    exact hret (-1) () _ _ _ _ _ _ (vp_nar_int _) (by first | exact (if_pos c_7).symm | exact ((if_neg c_7).trans (heq.trans ((if_neg c_35).trans (if_pos c_41)))).symm | exact ((if_neg c_7).trans heq).symm) hP hD hS (Nat.le_of_ble_eq_true rfl) (Nat.le_of_ble_eq_true rfl) dX0_dayThatPasses_12
def rm_dayUpToWhichMeanPasses : Room := { frames := 0, cells := 0, slots := 0, locals := 0 }
set_option maxHeartbeats 4000000 in
set_option maxRecDepth 100000 in
theorem c_dayUpToWhichMeanPasses (l : Launch) (D : va_G) (g : Nat → ClassId) (q : Nat → Nat) (n : Nat) (a : Nat → Nat → Int32) (b : Nat → Nat → Int64) (v : Nat → Nat → Int32) (d : Nat) (hd : a 0 4 = nI d) (hd4 : d ≤ 400) (k : Int32) : zc_i l D (tyG g) yX0_dayUpToWhichMeanPasses cX0_dayUpToWhichMeanPasses 6 (some .int) rm_dayUpToWhichMeanPasses [.ref (q 0), .int k] (wL g q n a b v) (fun (r : Int32) (u : Unit) => r = if b 0 2 = -1 then -1 else m_mp (b 7) (b 0 2) k d 0 0 0) (fun _ => wL g q n a b v) 0 0 := by
  refine zi_of (by decide) (Nat.le_of_ble_eq_true rfl) rfl ?_
  intro p e s m args below meth cd_ A Q ls C0 hnm hP hD hS hl hret
  obtain ⟨hx, hb, hr, hml, hlocks, hown, hts, hK, hA, hN⟩ := id C0
  have hl : lv_has ls 6 [(0, .ref (q 0)), (1, .int k)] := hl
  refine lv_aload_n hx hb dX0_dayUpToWhichMeanPasses_0 rfl (lv_at hl 0 rfl) ?_
  refine va_get (D := D) (ci := 0) (v := .long (b 0 2)) (C := RX0) (T := TX0) (N := 18) hx hb hts iw_X0 hown hK hP 0 rfl rfl 17 (by decide) (hts _ kf_X0_41) (fun _ h9 => h9) rfl dX0_dayUpToWhichMeanPasses_1 ?_
  refine lv_ldc2 (v := (-1)) hx hb hown (hts _ kc_X0_35) dX0_dayUpToWhichMeanPasses_4 ?_
  refine zl_ne (tgt := 13) hx hb dX0_dayUpToWhichMeanPasses_7 dX0_dayUpToWhichMeanPasses_8 (by decide) (fun c_7 => ?_) (fun c_7 => ?_)
  · -- jump at 7
    refine lv_iconst (v := 0) hx hb dX0_dayUpToWhichMeanPasses_13 (by decide) ?_
    refine lv_istore_n (lv' := [(2, .int 0), (0, .ref (q 0)), (1, .int k)]) hx hb dX0_dayUpToWhichMeanPasses_14 rfl hl (by decide) rfl (fun ls hl => ?_)
    refine lv_lconst (v := 0) hx hb dX0_dayUpToWhichMeanPasses_15 (by decide) ?_
    refine lv_lstore_n (lv' := [(3, .long 0), (2, .int 0), (0, .ref (q 0)), (1, .int k)]) hx hb dX0_dayUpToWhichMeanPasses_16 rfl hl (by decide) rfl (fun ls hl => ?_)
    refine lv_iconst (v := 0) hx hb dX0_dayUpToWhichMeanPasses_17 (by decide) ?_
    refine lv_istore (lv' := [(5, .int 0), (3, .long 0), (2, .int 0), (0, .ref (q 0)), (1, .int k)]) hx hb dX0_dayUpToWhichMeanPasses_18 hl (by decide) rfl (fun ls hl => ?_)
    have lp_20 : ∀ (t_20 i : Nat) (z : Int32) (x : Int64), i + t_20 = d → m_mp (b 7) (b 0 2) k d 0 0 0 = m_mp (b 7) (b 0 2) k t_20 i x z → ∀ (H : Heap) (locs : List Loc) (ls : Array Slot), va_P D vwCl (wL g q n a b v) H → va_D A (wL g q n a b v) → va_S A s.heap H locs → lv_has ls 6 [(5, .int (nI i)), (2, .int z), (3, .long x), (0, .ref (q 0)), (1, .int k)] → W p l e rm_dayUpToWhichMeanPasses s m args below meth cd_ H locs 0 0 Q (F0 m 20 ls []) := by
      intro t_20
      induction t_20 with
      | zero =>
        intro i z x hi_20 heq H locs ls hP hD hS hl
        obtain rfl : d = i := by omega
        refine lv_iload hx hb dX0_dayUpToWhichMeanPasses_20 (lv_at hl 0 rfl) ?_
        refine lv_aload_n hx hb dX0_dayUpToWhichMeanPasses_22 rfl (lv_at hl 3 rfl) ?_
        refine va_get (D := D) (ci := 0) (v := .int (a 0 4)) (C := RX0) (T := TX0) (N := 18) hx hb hts iw_X0 hown hK hP 0 rfl rfl 15 (by decide) (hts _ kf_X0_93) (fun _ h9 => h9) rfl dX0_dayUpToWhichMeanPasses_23 ?_
        rw [hd]
        refine lv_icmp_ge (tgt := 71) hx hb dX0_dayUpToWhichMeanPasses_26 (by decide) (fun _ => ?_) (fun c_26 => absurd (nI_le (Nat.le_refl _) (by omega)) c_26)
        refine lv_iconst (v := (-1)) hx hb dX0_dayUpToWhichMeanPasses_71 (by decide) ?_
        exact hret (-1) () _ _ _ _ _ _ (vp_nar_int _) (by first | exact (if_pos c_7).symm | exact ((if_neg c_7).trans (heq.trans ((if_neg c_50).trans (if_pos c_56)))).symm | exact ((if_neg c_7).trans heq).symm) hP hD hS (Nat.le_of_ble_eq_true rfl) (Nat.le_of_ble_eq_true rfl) dX0_dayUpToWhichMeanPasses_72
      | succ t_20 ih_20 =>
        intro i z x hi_20 heq H locs ls hP hD hS hl
        refine lv_iload hx hb dX0_dayUpToWhichMeanPasses_20 (lv_at hl 0 rfl) ?_
        refine lv_aload_n hx hb dX0_dayUpToWhichMeanPasses_22 rfl (lv_at hl 3 rfl) ?_
        refine va_get (D := D) (ci := 0) (v := .int (a 0 4)) (C := RX0) (T := TX0) (N := 18) hx hb hts iw_X0 hown hK hP 0 rfl rfl 15 (by decide) (hts _ kf_X0_93) (fun _ h9 => h9) rfl dX0_dayUpToWhichMeanPasses_23 ?_
        rw [hd]
        refine lv_icmp_ge (tgt := 71) hx hb dX0_dayUpToWhichMeanPasses_26 (by decide) (fun c_26 => absurd c_26 (nI_ge (by omega) (by omega))) (fun _ => ?_)
        refine lv_lload_n hx hb dX0_dayUpToWhichMeanPasses_29 rfl (lv_at hl 2 rfl) ?_
        refine lv_aload_n hx hb dX0_dayUpToWhichMeanPasses_30 rfl (lv_at hl 3 rfl) ?_
        refine va_get (D := D) (ci := 0) (v := .ref (q 7)) (C := RX0) (T := TX0) (N := 18) hx hb hts iw_X0 hown hK hP 0 rfl rfl 6 (by decide) (hts _ kf_X0_19) (fun _ h9 => h9) rfl dX0_dayUpToWhichMeanPasses_31 ?_
        refine lv_iload hx hb dX0_dayUpToWhichMeanPasses_34 (lv_at hl 0 rfl) ?_
        refine za_lald (k := i) (f := (b 7)) (v := b 7 i) hx hb hK hP 7 1 rfl rfl rfl (by omega) (by decide) rfl dX0_dayUpToWhichMeanPasses_36 ?_
        refine lv_ladd hx hb dX0_dayUpToWhichMeanPasses_37 ?_
        refine lv_lstore_n (lv' := [(3, .long (x + (b 7 i))), (5, .int (nI i)), (2, .int z), (0, .ref (q 0)), (1, .int k)]) hx hb dX0_dayUpToWhichMeanPasses_38 rfl hl (by decide) rfl (fun ls hl => ?_)
        refine lv_lload_n hx hb dX0_dayUpToWhichMeanPasses_39 rfl (lv_at hl 0 rfl) ?_
        refine lv_aload_n hx hb dX0_dayUpToWhichMeanPasses_40 rfl (lv_at hl 3 rfl) ?_
        refine va_get (D := D) (ci := 0) (v := .long (b 0 2)) (C := RX0) (T := TX0) (N := 18) hx hb hts iw_X0 hown hK hP 0 rfl rfl 17 (by decide) (hts _ kf_X0_41) (fun _ h9 => h9) rfl dX0_dayUpToWhichMeanPasses_41 ?_
        refine lv_iload hx hb dX0_dayUpToWhichMeanPasses_44 (lv_at hl 1 rfl) ?_
        refine lv_iconst (v := 1) hx hb dX0_dayUpToWhichMeanPasses_46 (by decide) ?_
        refine lv_iadd hx hb dX0_dayUpToWhichMeanPasses_47 ?_
        rw [show (nI i) + 1 = nI (i + 1) from nI_1 i]
        refine lv_i2l (v := (nI (i + 1)).toInt64) hx hb dX0_dayUpToWhichMeanPasses_48 rfl ?_
        refine lv_lmul hx hb dX0_dayUpToWhichMeanPasses_49 ?_
        refine zl_le (tgt := 65) hx hb dX0_dayUpToWhichMeanPasses_50 dX0_dayUpToWhichMeanPasses_51 (by decide) (fun c_50 => ?_) (fun c_50 => ?_)
        · -- jump at 50
          refine lv_iinc (v := nI (i + 1)) (lv' := [(5, .int (nI (i + 1))), (3, .long (x + (b 7 i))), (2, .int z), (0, .ref (q 0)), (1, .int k)]) hx hb dX0_dayUpToWhichMeanPasses_65 hl (k := 1) rfl (nI_1 i) (by decide) rfl (fun ls hl => ?_)
          refine lv_goto (tgt := 20) hx hb dX0_dayUpToWhichMeanPasses_68 (by decide) ?_
          have hP : va_P D vwCl (wL g q n a b v) _ := hP
          have hD : va_D A (wL g q n a b v) := hD
          have hl : lv_has ls 6 [(5, .int (nI (i + 1))), (2, .int z), (3, .long (x + b 7 i)), (0, .ref (q 0)), (1, .int k)] := lv_sub hl [0, 2, 1, 3, 4] rfl
          exact ih_20 (i + 1) z (x + b 7 i) (by omega) (heq.trans (if_pos c_50)) _ _ _ hP hD hS hl
        · -- on at 50
          refine lv_iload_n hx hb dX0_dayUpToWhichMeanPasses_54 rfl (lv_at hl 2 rfl) ?_
          refine lv_iload_n hx hb dX0_dayUpToWhichMeanPasses_55 rfl (lv_at hl 4 rfl) ?_
          refine lv_icmp_ne (tgt := 62) hx hb dX0_dayUpToWhichMeanPasses_56 (by decide) (fun c_56 => ?_) (fun c_56 => ?_)
          · -- jump at 56
            refine lv_iinc (v := z + 1) (lv' := [(2, .int (z + 1)), (3, .long (x + (b 7 i))), (5, .int (nI i)), (0, .ref (q 0)), (1, .int k)]) hx hb dX0_dayUpToWhichMeanPasses_62 hl (k := 2) rfl rfl (by decide) rfl (fun ls hl => ?_)
            refine lv_iinc (v := nI (i + 1)) (lv' := [(5, .int (nI (i + 1))), (2, .int (z + 1)), (3, .long (x + (b 7 i))), (0, .ref (q 0)), (1, .int k)]) hx hb dX0_dayUpToWhichMeanPasses_65 hl (k := 2) rfl (nI_1 i) (by decide) rfl (fun ls hl => ?_)
            refine lv_goto (tgt := 20) hx hb dX0_dayUpToWhichMeanPasses_68 (by decide) ?_
            have hP : va_P D vwCl (wL g q n a b v) _ := hP
            have hD : va_D A (wL g q n a b v) := hD
            have hl : lv_has ls 6 [(5, .int (nI (i + 1))), (2, .int (z + 1)), (3, .long (x + b 7 i)), (0, .ref (q 0)), (1, .int k)] := lv_sub hl [0, 1, 2, 3, 4] rfl
            exact ih_20 (i + 1) (z + 1) (x + b 7 i) (by omega) (heq.trans ((if_neg c_50).trans (if_neg c_56))) _ _ _ hP hD hS hl
          · -- on at 56
            refine lv_iload hx hb dX0_dayUpToWhichMeanPasses_59 (lv_at hl 1 rfl) ?_
            exact hret (nI i) () _ _ _ _ _ _ (vp_nar_int _) (by first | exact (if_pos c_7).symm | exact ((if_neg c_7).trans (heq.trans ((if_neg c_50).trans (if_pos c_56)))).symm | exact ((if_neg c_7).trans heq).symm) hP hD hS (Nat.le_of_ble_eq_true rfl) (Nat.le_of_ble_eq_true rfl) dX0_dayUpToWhichMeanPasses_61
    exact lp_20 (d - 0) 0 0 0 (by omega) rfl _ _ _ hP hD hS (lv_sub hl [0, 2, 1, 3, 4] rfl)
  · -- on at 7
    refine lv_iconst (v := (-1)) hx hb dX0_dayUpToWhichMeanPasses_11 (by decide) ?_
    exact hret (-1) () _ _ _ _ _ _ (vp_nar_int _) (by first | exact (if_pos c_7).symm | exact ((if_neg c_7).trans (heq.trans ((if_neg c_50).trans (if_pos c_56)))).symm | exact ((if_neg c_7).trans heq).symm) hP hD hS (Nat.le_of_ble_eq_true rfl) (Nat.le_of_ble_eq_true rfl) dX0_dayUpToWhichMeanPasses_12
def rm_passed : Room := { frames := 1, cells := 0, slots := 0, locals := 25 }
set_option maxHeartbeats 4000000 in
set_option maxRecDepth 100000 in
theorem c_passed (l : Launch) (D : va_G) (g : Nat → ClassId) (q : Nat → Nat) (n : Nat) (a : Nat → Nat → Int32) (b : Nat → Nat → Int64) (v : Nat → Nat → Int32) (d : Nat) (hd : a 0 4 = nI d) (hd4 : d ≤ 400) (x k : Int32) : zc_i l D (tyG g) yX0_passed cX0_passed 3 (some .int) rm_passed [.ref (q 0), .int x, .int k] (wL g q n a b v) (fun (r : Int32) (u : Unit) => r = if x = 0 then (if b 0 1 = -1 then -1 else m_dp (b 7) (b 0 1) k d 0 0) else if x = 1 then (if b 0 2 = -1 then -1 else m_mp (b 7) (b 0 2) k d 0 0 0) else -1) (fun _ => wL g q n a b v) 0 0 := by
  refine zi_of (by decide) (Nat.le_of_ble_eq_true rfl) rfl ?_
  intro p e s m args below meth cd_ A Q ls C0 hnm hP hD hS hl hret
  obtain ⟨hx, hb, hr, hml, hlocks, hown, hts, hK, hA, hN⟩ := id C0
  have hl : lv_has ls 3 [(0, .ref (q 0)), (1, .int x), (2, .int k)] := hl
  refine lv_iload_n hx hb dX0_passed_0 rfl (lv_at hl 1 rfl) ?_
  refine lv_if_ne (tgt := 10) hx hb dX0_passed_1 (by decide) (fun c_1 => ?_) (fun c_1 => ?_)
  · -- jump at 1
    refine lv_iload_n hx hb dX0_passed_10 rfl (lv_at hl 1 rfl) ?_
    refine lv_iconst (v := 1) hx hb dX0_passed_11 (by decide) ?_
    refine lv_icmp_ne (tgt := 23) hx hb dX0_passed_12 (by decide) (fun c_12 => ?_) (fun c_12 => ?_)
    · -- jump at 12
      refine lv_iconst (v := (-1)) hx hb dX0_passed_23 (by decide) ?_
      exact hret (-1) () _ _ _ _ _ _ (vp_nar_int _) (by first | exact (if_pos c_1).symm | exact ((if_neg c_1).trans (if_pos c_12)).symm | exact ((if_neg c_1).trans (if_neg c_12)).symm) hP hD hS (Nat.le_of_ble_eq_true rfl) (Nat.le_of_ble_eq_true rfl) dX0_passed_24
    · -- on at 12
      refine lv_aload_n hx hb dX0_passed_15 rfl (lv_at hl 0 rfl) ?_
      refine lv_iload_n hx hb dX0_passed_16 rfl (lv_at hl 2 rfl) ?_
      refine zf_vi (rest := []) C0 hP hD hS (c_dayUpToWhichMeanPasses l D g q n a b v d hd hd4 k) kk_X0_114 kv_X0_114 0 rfl 0 rfl hl.1 rfl rfl (Nat.le_of_ble_eq_true rfl) ⟨(Nat.le_of_ble_eq_true rfl), (Nat.le_of_ble_eq_true rfl)⟩ rfl rfl ⟨(Nat.le_of_ble_eq_true rfl), (Nat.le_of_ble_eq_true rfl)⟩ dX0_passed_17 (fun r_17 u_17 H locs hw_17 hP hD hS => ?_)
      obtain rfl := hw_17
      refine lv_goto (tgt := 24) hx hb dX0_passed_20 (by decide) ?_
      exact hret (if b 0 2 = -1 then -1 else m_mp (b 7) (b 0 2) k d 0 0 0) () _ _ _ _ _ _ (vp_nar_int _) (by first | exact (if_pos c_1).symm | exact ((if_neg c_1).trans (if_pos c_12)).symm | exact ((if_neg c_1).trans (if_neg c_12)).symm) hP hD hS (Nat.le_of_ble_eq_true rfl) (Nat.le_of_ble_eq_true rfl) dX0_passed_24
  · -- on at 1
    refine lv_aload_n hx hb dX0_passed_4 rfl (lv_at hl 0 rfl) ?_
    refine lv_iload_n hx hb dX0_passed_5 rfl (lv_at hl 2 rfl) ?_
    refine zf_vi (rest := []) C0 hP hD hS (c_dayThatPasses l D g q n a b v d hd hd4 k) kk_X0_110 kv_X0_110 0 rfl 0 rfl hl.1 rfl rfl (Nat.le_of_ble_eq_true rfl) ⟨(Nat.le_of_ble_eq_true rfl), (Nat.le_of_ble_eq_true rfl)⟩ rfl rfl ⟨(Nat.le_of_ble_eq_true rfl), (Nat.le_of_ble_eq_true rfl)⟩ dX0_passed_6 (fun r_6 u_6 H locs hw_6 hP hD hS => ?_)
    obtain rfl := hw_6
    exact hret (if b 0 1 = -1 then -1 else m_dp (b 7) (b 0 1) k d 0 0) () _ _ _ _ _ _ (vp_nar_int _) (by first | exact (if_pos c_1).symm | exact ((if_neg c_1).trans (if_pos c_12)).symm | exact ((if_neg c_1).trans (if_neg c_12)).symm) hP hD hS (Nat.le_of_ble_eq_true rfl) (Nat.le_of_ble_eq_true rfl) dX0_passed_9
