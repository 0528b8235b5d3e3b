def rm_M_run : Room := { frames := 3, cells := 0, slots := 0, locals := 81 }
set_option maxHeartbeats 4000000 in
set_option maxRecDepth 100000 in
theorem c_M_run (l : Launch) (D : va_G) (g : Nat → ClassId) (q : Nat → Nat) (a : Nat → Nat → Int32) (b : Nat → Nat → Int64) (n : Nat) (hn : 1 ≤ n ∧ n ≤ 6) (hly : a 0 5 = nI n) (sc : Nat) (hsc : a 0 3 = nI sc) (hsc4 : sc ≤ 4) (d : Nat) (hd : a 0 4 = nI d) (hd4 : d ≤ 400) (x : Int32) : zc_i l D (tyG g) yX2_run cX2_run 3 (some .int) rm_M_run [.ref (q 0), .int x] (wM g q a b) (fun (r : Int32) (u : zT) => r = (if m_days (nI d) x = true then nI (d + x.toNatClampNeg) else -1) ∧ u = if m_days (nI d) x = true then (va_up a 0 (upd (a 0) 4 (nI (d + x.toNatClampNeg))), r_run n sc a b d x.toNatClampNeg) else (a, b)) (fun u => wM g q u.1 u.2) 0 0 := by
  refine zi_of (by decide) (Nat.le_of_ble_eq_true rfl) rfl ?_
  intro p e s m args below meth cd_ A Q ls C0 hnm hP hD hS hl hret
  obtain ⟨hx, hb, hr, hml, hlocks, hown, hts, hK, hA, hN⟩ := id C0
  have hl : lv_has ls 3 [(0, .ref (q 0)), (1, .int x)] := hl
  refine lv_iload_n hx hb dX2_run_0 rfl (lv_at hl 1 rfl) ?_
  refine lv_i2l (v := x.toInt64) hx hb dX2_run_1 rfl ?_
  refine lv_lconst (v := 1) hx hb dX2_run_2 (by decide) ?_
  refine lv_ldc2 (v := 100) hx hb hown (hts _ kc_X2_95) dX2_run_3 ?_
  refine zk_pi (rest := []) C0 hP hD hS (c_M_isIn l D (tyG g) x.toInt64 (1 : Int64) (100 : Int64)) kk_X2_63 hl.1 rfl rfl (Nat.le_of_ble_eq_true rfl) ⟨(Nat.le_of_ble_eq_true rfl), (Nat.le_of_ble_eq_true rfl)⟩ rfl rfl ⟨(Nat.le_of_ble_eq_true rfl), (Nat.le_of_ble_eq_true rfl)⟩ dX2_run_6 (fun r_6 H locs hw_6 hP hS => ?_)
  obtain rfl := hw_6
  refine lv_if_eq (tgt := 24) hx hb dX2_run_9 (by decide) (fun c_9 => ?_) (fun c_9 => ?_)
  · -- jump at 9
    have c_9 := zb_f c_9
    have hdy : m_days (nI d) x = false := by simp [m_days, c_9]
    refine lv_iconst (v := (-1)) hx hb dX2_run_24 (by decide) ?_
    exact hret (-1) (a, b) _ _ _ _ _ _ (vp_nar_int _) (by simp [hdy]) hP hD hS (Nat.le_of_ble_eq_true rfl) (Nat.le_of_ble_eq_true rfl) dX2_run_25
  · -- on at 9
    have c_9 := zb_t c_9
    refine lv_aload_n hx hb dX2_run_12 rfl (lv_at hl 0 rfl) ?_
    refine va_get (D := D) (ci := 2) (v := .int (a 0 4)) (C := RX2) (T := TX2) (N := 22) hx hb hts iw_X2 hown hK hP 0 rfl rfl 12 (by decide) (hts _ kf_X2_90) (fun _ h9 => h9) rfl dX2_run_13 ?_
    rw [hd]
    refine lv_iload_n hx hb dX2_run_16 rfl (lv_at hl 1 rfl) ?_
    refine lv_iadd hx hb dX2_run_17 ?_
    refine lv_sipush (v := 400) hx hb dX2_run_18 (by decide) ?_
    refine lv_icmp_le (tgt := 26) hx hb dX2_run_21 (by decide) (fun c_21 => ?_) (fun c_21 => ?_)
    · -- jump at 21
      have hdy : m_days (nI d) x = true := by simp [m_days, c_9, c_21]
      obtain ⟨k, hk1, hk2, hk3, rfl⟩ := m_days_k hd4 hdy
      have hcl : (nI k).toNatClampNeg = k := nI_clamp (by omega)
      refine lv_iconst (v := 0) hx hb dX2_run_26 (by decide) ?_
      refine lv_istore_n (lv' := [(2, .int 0), (0, .ref (q 0)), (1, .int (nI k))]) hx hb dX2_run_27 rfl hl (by decide) rfl (fun ls hl => ?_)
      have hP : va_P D vwCl (wM g q (va_up a 0 (upd (a 0) 4 (nI (d + 0)))) (r_run n sc a b d 0)) H := by rw [m_nd0 hd]; exact hP
      have hD : va_D A (wM g q (va_up a 0 (upd (a 0) 4 (nI (d + 0)))) (r_run n sc a b d 0)) := by rw [m_nd0 hd]; exact hD
      have lp_28 : ∀ (t_28 i : Nat) , i + t_28 = k → ∀ (H : Heap) (locs : List Loc) (ls : Array Slot), va_P D vwCl (wM g q (va_up a 0 (upd (a 0) 4 (nI (d + i)))) (r_run n sc a b d i)) H → va_D A (wM g q (va_up a 0 (upd (a 0) 4 (nI (d + i)))) (r_run n sc a b d i)) → va_S A s.heap H locs → lv_has ls 3 [(2, .int (nI i)), (1, .int (nI k)), (0, .ref (q 0))] → W p l e rm_M_run s m args below meth cd_ H locs 0 0 Q (F0 m 28 ls []) := by
        intro t_28
        induction t_28 with
        | zero =>
          intro i hi_28 H locs ls hP hD hS hl
          obtain rfl : k = i := by omega
          refine lv_iload_n hx hb dX2_run_28 rfl (lv_at hl 0 rfl) ?_
          refine lv_iload_n hx hb dX2_run_29 rfl (lv_at hl 1 rfl) ?_
          refine lv_icmp_ge (tgt := 43) hx hb dX2_run_30 (by decide) (fun _ => ?_) (fun c_30 => absurd (nI_le (Nat.le_refl _) (by omega)) c_30)
          refine lv_aload_n hx hb dX2_run_43 rfl (lv_at hl 2 rfl) ?_
          refine va_get (D := D) (ci := 2) (v := .int ((va_up a 0 (upd (a 0) 4 (nI (d + k)))) 0 4)) (C := RX2) (T := TX2) (N := 22) hx hb hts iw_X2 hown hK hP 0 rfl rfl 12 (by decide) (hts _ kf_X2_90) (fun _ h9 => h9) rfl dX2_run_44 ?_
          exact hret ((va_up a 0 (upd (a 0) 4 (nI (d + k)))) 0 4) ((va_up a 0 (upd (a 0) 4 (nI (d + k)))), (r_run n sc a b d k)) _ _ _ _ _ _ (vp_nar_int _) (by simp [hdy, hcl]; rfl) hP hD hS (Nat.le_of_ble_eq_true rfl) (Nat.le_of_ble_eq_true rfl) dX2_run_47
        | succ t_28 ih_28 =>
          intro i hi_28 H locs ls hP hD hS hl
          refine lv_iload_n hx hb dX2_run_28 rfl (lv_at hl 0 rfl) ?_
          refine lv_iload_n hx hb dX2_run_29 rfl (lv_at hl 1 rfl) ?_
          refine lv_icmp_ge (tgt := 43) hx hb dX2_run_30 (by decide) (fun c_30 => absurd c_30 (nI_ge (by omega) (by omega))) (fun _ => ?_)
          refine lv_aload_n hx hb dX2_run_33 rfl (lv_at hl 2 rfl) ?_
          refine zf_vv (rest := []) C0 hP hD hS (c_M_dayRuns l D g q (va_up a 0 (upd (a 0) 4 (nI (d + i)))) (r_run n sc a b d i) n hn hly sc hsc hsc4 (d + i) rfl (by omega)) kk_X2_110 kv_X2_110 2 rfl 0 rfl hl.1 rfl rfl (Nat.le_of_ble_eq_true rfl) ⟨(Nat.le_of_ble_eq_true rfl), (Nat.le_of_ble_eq_true rfl)⟩ rfl rfl ⟨(Nat.le_of_ble_eq_true rfl), (Nat.le_of_ble_eq_true rfl)⟩ dX2_run_34 (fun u_34 H locs hw_34 hP hD hS => ?_)
          obtain rfl := hw_34
          have hP : va_P D vwCl (wM g q (va_up a 0 (upd (a 0) 4 (nI (d + (i + 1))))) (r_run n sc a b d (i + 1))) H := hP
          have hD : va_D A (wM g q (va_up a 0 (upd (a 0) 4 (nI (d + (i + 1))))) (r_run n sc a b d (i + 1))) := hD
          refine lv_iinc (v := nI (i + 1)) (lv' := [(2, .int (nI (i + 1))), (1, .int (nI k)), (0, .ref (q 0))]) hx hb dX2_run_37 hl (k := 0) rfl (nI_1 i) (by decide) rfl (fun ls hl => ?_)
          refine lv_goto (tgt := 28) hx hb dX2_run_40 (by decide) ?_
          have hP : va_P D vwCl (wM g q (va_up a 0 (upd (a 0) 4 (nI (d + (i + 1))))) (r_run n sc a b d (i + 1))) _ := hP
          have hD : va_D A (wM g q (va_up a 0 (upd (a 0) 4 (nI (d + (i + 1))))) (r_run n sc a b d (i + 1))) := hD
          have hl : lv_has ls 3 [(2, .int (nI (i + 1))), (1, .int (nI k)), (0, .ref (q 0))] := lv_sub hl [0, 1, 2] rfl
          exact ih_28 (i + 1)  (by omega)  _ _ _ hP hD hS hl
      exact lp_28 (k - 0) 0  (by omega)  _ _ _ hP hD hS (lv_sub hl [0, 2, 1] rfl)
    · -- on at 21
      have hdy : m_days (nI d) x = false := by simp [m_days, c_21]
      refine lv_iconst (v := (-1)) hx hb dX2_run_24 (by decide) ?_
      exact hret (-1) (a, b) _ _ _ _ _ _ (vp_nar_int _) (by simp [hdy]) hP hD hS (Nat.le_of_ble_eq_true rfl) (Nat.le_of_ble_eq_true rfl) dX2_run_25
def rm_M_held : Room := { frames := 1, cells := 0, slots := 0, locals := 25 }
set_option maxHeartbeats 4000000 in
set_option maxRecDepth 100000 in
theorem c_M_held (l : Launch) (D : va_G) (g : Nat → ClassId) (q : Nat → Nat) (a : Nat → Nat → Int32) (b : Nat → Nat → Int64) (n : Nat) (hn : 1 ≤ n ∧ n ≤ 6) (hly : a 0 5 = nI n) (x : Int32) : zc_l l D (tyG g) yX2_held cX2_held 2 (some .long) rm_M_held [.ref (q 0), .int x] (wM g q a b) (fun (r : Int64) (u : Unit) => r = if m_isLayer n x = true then b 1 x.toNatClampNeg else -1) (fun _ => wM g q a b) 0 0 := by
  refine zl_of (by decide) (Nat.le_of_ble_eq_true rfl) rfl ?_
  intro p e s m args below meth cd_ A Q ls C0 hnm hP hD hS hl hret
  obtain ⟨hx, hb, hr, hml, hlocks, hown, hts, hK, hA, hN⟩ := id C0
  have hl : lv_has ls 2 [(0, .ref (q 0)), (1, .int x)] := hl
  refine lv_iload_n hx hb dX2_held_0 rfl (lv_at hl 1 rfl) ?_
  refine lv_i2l (v := x.toInt64) hx hb dX2_held_1 rfl ?_
  refine lv_lconst (v := 0) hx hb dX2_held_2 (by decide) ?_
  refine lv_aload_n hx hb dX2_held_3 rfl (lv_at hl 0 rfl) ?_
  refine va_get (D := D) (ci := 2) (v := .int (a 0 5)) (C := RX2) (T := TX2) (N := 22) hx hb hts iw_X2 hown hK hP 0 rfl rfl 0 (by decide) (hts _ kf_X2_59) (fun _ h9 => h9) rfl dX2_held_4 ?_
  rw [hly]
  refine lv_iconst (v := 1) hx hb dX2_held_7 (by decide) ?_
  refine lv_isub hx hb dX2_held_8 ?_
  refine lv_i2l (v := ((nI n) - 1).toInt64) hx hb dX2_held_9 rfl ?_
  refine zk_pi (rest := []) C0 hP hD hS (c_M_isIn l D (tyG g) x.toInt64 (0 : Int64) (((nI n) - 1).toInt64)) kk_X2_63 hl.1 rfl rfl (Nat.le_of_ble_eq_true rfl) ⟨(Nat.le_of_ble_eq_true rfl), (Nat.le_of_ble_eq_true rfl)⟩ rfl rfl ⟨(Nat.le_of_ble_eq_true rfl), (Nat.le_of_ble_eq_true rfl)⟩ dX2_held_10 (fun r_10 H locs hw_10 hP hS => ?_)
  obtain rfl := hw_10
  refine lv_if_eq (tgt := 25) hx hb dX2_held_13 (by decide) (fun c_13 => ?_) (fun c_13 => ?_)
  · -- jump at 13
    have c_13 := zb_f c_13
    have c_13 : m_isLayer n x = false := c_13
    refine lv_ldc2 (v := (-1)) hx hb hown (hts _ kc_X2_35) dX2_held_25 ?_
    exact hret (-1) () _ _ _ _ _ _ (by simp [c_13]) hP hD hS (Nat.le_of_ble_eq_true rfl) (Nat.le_of_ble_eq_true rfl) dX2_held_28
  · -- on at 13
    have c_13 := zb_t c_13
    have c_13 : m_isLayer n x = true := c_13
    obtain ⟨k, hk, rfl⟩ := m_layer_k hn c_13
    have hcl : (nI k).toNatClampNeg = k := nI_clamp (by omega)
    refine lv_aload_n hx hb dX2_held_16 rfl (lv_at hl 0 rfl) ?_
    refine va_get (D := D) (ci := 2) (v := .ref (q 1)) (C := RX2) (T := TX2) (N := 22) hx hb hts iw_X2 hown hK hP 0 rfl rfl 1 (by decide) (hts _ kf_X2_7) (fun _ h9 => h9) rfl dX2_held_17 ?_
    refine lv_iload_n hx hb dX2_held_20 rfl (lv_at hl 1 rfl) ?_
    refine za_lald (k := k) (f := (b 1)) (v := b 1 k) hx hb hK hP 1 1 rfl rfl rfl (by omega) (by decide) rfl dX2_held_21 ?_
    refine lv_goto (tgt := 28) hx hb dX2_held_22 (by decide) ?_
    exact hret (b 1 k) () _ _ _ _ _ _ (by simp [c_13, hcl]) hP hD hS (Nat.le_of_ble_eq_true rfl) (Nat.le_of_ble_eq_true rfl) dX2_held_28
def rm_M_out : Room := { frames := 1, cells := 0, slots := 0, locals := 25 }
set_option maxHeartbeats 4000000 in
set_option maxRecDepth 100000 in
theorem c_M_out (l : Launch) (D : va_G) (g : Nat → ClassId) (q : Nat → Nat) (a : Nat → Nat → Int32) (b : Nat → Nat → Int64) (x : Int32) : zc_l l D (tyG g) yX2_out cX2_out 2 (some .long) rm_M_out [.ref (q 0), .int x] (wM g q a b) (fun (r : Int64) (u : Unit) => r = if m_within x.toInt64 0 8 = true then b 8 x.toNatClampNeg else -1) (fun _ => wM g q a b) 0 0 := by
  refine zl_of (by decide) (Nat.le_of_ble_eq_true rfl) rfl ?_
  intro p e s m args below meth cd_ A Q ls C0 hnm hP hD hS hl hret
  obtain ⟨hx, hb, hr, hml, hlocks, hown, hts, hK, hA, hN⟩ := id C0
  have hl : lv_has ls 2 [(0, .ref (q 0)), (1, .int x)] := hl
  refine lv_iload_n hx hb dX2_out_0 rfl (lv_at hl 1 rfl) ?_
  refine lv_i2l (v := x.toInt64) hx hb dX2_out_1 rfl ?_
  refine lv_lconst (v := 0) hx hb dX2_out_2 (by decide) ?_
  refine lv_ldc2 (v := 8) hx hb hown (hts _ kc_X2_113) dX2_out_3 ?_
  refine zk_pi (rest := []) C0 hP hD hS (c_M_isIn l D (tyG g) x.toInt64 (0 : Int64) (8 : Int64)) kk_X2_63 hl.1 rfl rfl (Nat.le_of_ble_eq_true rfl) ⟨(Nat.le_of_ble_eq_true rfl), (Nat.le_of_ble_eq_true rfl)⟩ rfl rfl ⟨(Nat.le_of_ble_eq_true rfl), (Nat.le_of_ble_eq_true rfl)⟩ dX2_out_6 (fun r_6 H locs hw_6 hP hS => ?_)
  obtain rfl := hw_6
  refine lv_if_eq (tgt := 21) hx hb dX2_out_9 (by decide) (fun c_9 => ?_) (fun c_9 => ?_)
  · -- jump at 9
    have c_9 := zb_f c_9
    refine lv_ldc2 (v := (-1)) hx hb hown (hts _ kc_X2_35) dX2_out_21 ?_
    exact hret (-1) () _ _ _ _ _ _ (by simp [c_9]) hP hD hS (Nat.le_of_ble_eq_true rfl) (Nat.le_of_ble_eq_true rfl) dX2_out_24
  · -- on at 9
    have c_9 := zb_t c_9
    obtain ⟨k, hk, rfl⟩ := m_rng (m := 8) (by decide) (by decide) c_9
    have hcl : (nI k).toNatClampNeg = k := nI_clamp (by omega)
    refine lv_aload_n hx hb dX2_out_12 rfl (lv_at hl 0 rfl) ?_
    refine va_get (D := D) (ci := 2) (v := .ref (q 8)) (C := RX2) (T := TX2) (N := 22) hx hb hts iw_X2 hown hK hP 0 rfl rfl 13 (by decide) (hts _ kf_X2_29) (fun _ h9 => h9) rfl dX2_out_13 ?_
    refine lv_iload_n hx hb dX2_out_16 rfl (lv_at hl 1 rfl) ?_
    refine za_lald (k := k) (f := (b 8)) (v := b 8 k) hx hb hK hP 8 1 rfl rfl rfl (by omega) (by decide) rfl dX2_out_17 ?_
    refine lv_goto (tgt := 24) hx hb dX2_out_18 (by decide) ?_
    exact hret (b 8 k) () _ _ _ _ _ _ (by simp [c_9, hcl]) hP hD hS (Nat.le_of_ble_eq_true rfl) (Nat.le_of_ble_eq_true rfl) dX2_out_24
def rm_M_balance : Room := { frames := 0, cells := 0, slots := 0, locals := 0 }
set_option maxHeartbeats 4000000 in
set_option maxRecDepth 100000 in
theorem c_M_balance (l : Launch) (D : va_G) (g : Nat → ClassId) (q : Nat → Nat) (a : Nat → Nat → Int32) (b : Nat → Nat → Int64) (n : Nat) (hn : 1 ≤ n ∧ n ≤ 6) (hly : a 0 5 = nI n) : zc_l l D (tyG g) yX2_balance cX2_balance 4 (some .long) rm_M_balance [.ref (q 0)] (wM g q a b) (fun (r : Int64) (u : Unit) => r = m_bal (b 1) (b 8 0 - b 8 1 - b 8 3 - b 8 4 - b 8 5 - b 8 6 - b 8 7 - b 8 8) n) (fun _ => wM g q a b) 0 0 := by
  refine zl_of (by decide) (Nat.le_of_ble_eq_true rfl) rfl ?_
  intro p e s m args below meth cd_ A Q ls C0 hnm hP hD hS hl hret
  obtain ⟨hx, hb, hr, hml, hlocks, hown, hts, hK, hA, hN⟩ := id C0
  have hl : lv_has ls 4 [(0, .ref (q 0))] := hl
  refine lv_aload_n hx hb dX2_balance_0 rfl (lv_at hl 0 rfl) ?_
  refine va_get (D := D) (ci := 2) (v := .ref (q 8)) (C := RX2) (T := TX2) (N := 22) hx hb hts iw_X2 hown hK hP 0 rfl rfl 13 (by decide) (hts _ kf_X2_29) (fun _ h9 => h9) rfl dX2_balance_1 ?_
  refine lv_iconst (v := 0) hx hb dX2_balance_4 (by decide) ?_
  refine za_lald (k := 0) (f := (b 8)) (v := b 8 0) hx hb hK hP 8 1 rfl rfl rfl (by decide) (by decide) rfl dX2_balance_5 ?_
  refine lv_aload_n hx hb dX2_balance_6 rfl (lv_at hl 0 rfl) ?_
  refine va_get (D := D) (ci := 2) (v := .ref (q 8)) (C := RX2) (T := TX2) (N := 22) hx hb hts iw_X2 hown hK hP 0 rfl rfl 13 (by decide) (hts _ kf_X2_29) (fun _ h9 => h9) rfl dX2_balance_7 ?_
  refine lv_iconst (v := 1) hx hb dX2_balance_10 (by decide) ?_
  refine za_lald (k := 1) (f := (b 8)) (v := b 8 1) hx hb hK hP 8 1 rfl rfl rfl (by decide) (by decide) rfl dX2_balance_11 ?_
  refine lv_lsub hx hb dX2_balance_12 ?_
  refine lv_aload_n hx hb dX2_balance_13 rfl (lv_at hl 0 rfl) ?_
  refine va_get (D := D) (ci := 2) (v := .ref (q 8)) (C := RX2) (T := TX2) (N := 22) hx hb hts iw_X2 hown hK hP 0 rfl rfl 13 (by decide) (hts _ kf_X2_29) (fun _ h9 => h9) rfl dX2_balance_14 ?_
  refine lv_iconst (v := 3) hx hb dX2_balance_17 (by decide) ?_
  refine za_lald (k := 3) (f := (b 8)) (v := b 8 3) hx hb hK hP 8 1 rfl rfl rfl (by decide) (by decide) rfl dX2_balance_18 ?_
  refine lv_lsub hx hb dX2_balance_19 ?_
  refine lv_aload_n hx hb dX2_balance_20 rfl (lv_at hl 0 rfl) ?_
  refine va_get (D := D) (ci := 2) (v := .ref (q 8)) (C := RX2) (T := TX2) (N := 22) hx hb hts iw_X2 hown hK hP 0 rfl rfl 13 (by decide) (hts _ kf_X2_29) (fun _ h9 => h9) rfl dX2_balance_21 ?_
  refine lv_iconst (v := 4) hx hb dX2_balance_24 (by decide) ?_
  refine za_lald (k := 4) (f := (b 8)) (v := b 8 4) hx hb hK hP 8 1 rfl rfl rfl (by decide) (by decide) rfl dX2_balance_25 ?_
  refine lv_lsub hx hb dX2_balance_26 ?_
  refine lv_aload_n hx hb dX2_balance_27 rfl (lv_at hl 0 rfl) ?_
  refine va_get (D := D) (ci := 2) (v := .ref (q 8)) (C := RX2) (T := TX2) (N := 22) hx hb hts iw_X2 hown hK hP 0 rfl rfl 13 (by decide) (hts _ kf_X2_29) (fun _ h9 => h9) rfl dX2_balance_28 ?_
  refine lv_iconst (v := 5) hx hb dX2_balance_31 (by decide) ?_
  refine za_lald (k := 5) (f := (b 8)) (v := b 8 5) hx hb hK hP 8 1 rfl rfl rfl (by decide) (by decide) rfl dX2_balance_32 ?_
  refine lv_lsub hx hb dX2_balance_33 ?_
  refine lv_aload_n hx hb dX2_balance_34 rfl (lv_at hl 0 rfl) ?_
  refine va_get (D := D) (ci := 2) (v := .ref (q 8)) (C := RX2) (T := TX2) (N := 22) hx hb hts iw_X2 hown hK hP 0 rfl rfl 13 (by decide) (hts _ kf_X2_29) (fun _ h9 => h9) rfl dX2_balance_35 ?_
  refine lv_bipush (v := 6) hx hb dX2_balance_38 (by decide) ?_
  refine za_lald (k := 6) (f := (b 8)) (v := b 8 6) hx hb hK hP 8 1 rfl rfl rfl (by decide) (by decide) rfl dX2_balance_40 ?_
  refine lv_lsub hx hb dX2_balance_41 ?_
  refine lv_aload_n hx hb dX2_balance_42 rfl (lv_at hl 0 rfl) ?_
  refine va_get (D := D) (ci := 2) (v := .ref (q 8)) (C := RX2) (T := TX2) (N := 22) hx hb hts iw_X2 hown hK hP 0 rfl rfl 13 (by decide) (hts _ kf_X2_29) (fun _ h9 => h9) rfl dX2_balance_43 ?_
  refine lv_bipush (v := 7) hx hb dX2_balance_46 (by decide) ?_
  refine za_lald (k := 7) (f := (b 8)) (v := b 8 7) hx hb hK hP 8 1 rfl rfl rfl (by decide) (by decide) rfl dX2_balance_48 ?_
  refine lv_lsub hx hb dX2_balance_49 ?_
  refine lv_aload_n hx hb dX2_balance_50 rfl (lv_at hl 0 rfl) ?_
  refine va_get (D := D) (ci := 2) (v := .ref (q 8)) (C := RX2) (T := TX2) (N := 22) hx hb hts iw_X2 hown hK hP 0 rfl rfl 13 (by decide) (hts _ kf_X2_29) (fun _ h9 => h9) rfl dX2_balance_51 ?_
  refine lv_bipush (v := 8) hx hb dX2_balance_54 (by decide) ?_
  refine za_lald (k := 8) (f := (b 8)) (v := b 8 8) hx hb hK hP 8 1 rfl rfl rfl (by decide) (by decide) rfl dX2_balance_56 ?_
  refine lv_lsub hx hb dX2_balance_57 ?_
  refine lv_lstore_n (lv' := [(1, .long ((((((((b 8 0) - (b 8 1)) - (b 8 3)) - (b 8 4)) - (b 8 5)) - (b 8 6)) - (b 8 7)) - (b 8 8))), (0, .ref (q 0))]) hx hb dX2_balance_58 rfl hl (by decide) rfl (fun ls hl => ?_)
  refine lv_iconst (v := 0) hx hb dX2_balance_59 (by decide) ?_
  refine lv_istore_n (lv' := [(3, .int 0), (1, .long ((((((((b 8 0) - (b 8 1)) - (b 8 3)) - (b 8 4)) - (b 8 5)) - (b 8 6)) - (b 8 7)) - (b 8 8))), (0, .ref (q 0))]) hx hb dX2_balance_60 rfl hl (by decide) rfl (fun ls hl => ?_)
  have lp_61 : ∀ (t_61 i : Nat) , i + t_61 = n → ∀ (H : Heap) (locs : List Loc) (ls : Array Slot), va_P D vwCl (wM g q a b) H → va_D A (wM g q a b) → va_S A s.heap H locs → lv_has ls 4 [(3, .int (nI i)), (1, .long (m_bal (b 1) (b 8 0 - b 8 1 - b 8 3 - b 8 4 - b 8 5 - b 8 6 - b 8 7 - b 8 8) i)), (0, .ref (q 0))] → W p l e rm_M_balance s m args below meth cd_ H locs 0 0 Q (F0 m 61 ls []) := by
    intro t_61
    induction t_61 with
    | zero =>
      intro i hi_61 H locs ls hP hD hS hl
      obtain rfl : n = i := by omega
      refine lv_iload_n hx hb dX2_balance_61 rfl (lv_at hl 0 rfl) ?_
      refine lv_aload_n hx hb dX2_balance_62 rfl (lv_at hl 2 rfl) ?_
      refine va_get (D := D) (ci := 2) (v := .int (a 0 5)) (C := RX2) (T := TX2) (N := 22) hx hb hts iw_X2 hown hK hP 0 rfl rfl 0 (by decide) (hts _ kf_X2_59) (fun _ h9 => h9) rfl dX2_balance_63 ?_
      rw [hly]
      refine lv_icmp_ge (tgt := 84) hx hb dX2_balance_66 (by decide) (fun _ => ?_) (fun c_66 => absurd (nI_le (Nat.le_refl _) (by omega)) c_66)
      refine lv_lload_n hx hb dX2_balance_84 rfl (lv_at hl 1 rfl) ?_
      exact hret (m_bal (b 1) (b 8 0 - b 8 1 - b 8 3 - b 8 4 - b 8 5 - b 8 6 - b 8 7 - b 8 8) n) () _ _ _ _ _ _ rfl hP hD hS (Nat.le_of_ble_eq_true rfl) (Nat.le_of_ble_eq_true rfl) dX2_balance_85
    | succ t_61 ih_61 =>
      intro i hi_61 H locs ls hP hD hS hl
      refine lv_iload_n hx hb dX2_balance_61 rfl (lv_at hl 0 rfl) ?_
      refine lv_aload_n hx hb dX2_balance_62 rfl (lv_at hl 2 rfl) ?_
      refine va_get (D := D) (ci := 2) (v := .int (a 0 5)) (C := RX2) (T := TX2) (N := 22) hx hb hts iw_X2 hown hK hP 0 rfl rfl 0 (by decide) (hts _ kf_X2_59) (fun _ h9 => h9) rfl dX2_balance_63 ?_
      rw [hly]
      refine lv_icmp_ge (tgt := 84) hx hb dX2_balance_66 (by decide) (fun c_66 => absurd c_66 (nI_ge (by omega) (by omega))) (fun _ => ?_)
      refine lv_lload_n hx hb dX2_balance_69 rfl (lv_at hl 1 rfl) ?_
      refine lv_aload_n hx hb dX2_balance_70 rfl (lv_at hl 2 rfl) ?_
      refine va_get (D := D) (ci := 2) (v := .ref (q 1)) (C := RX2) (T := TX2) (N := 22) hx hb hts iw_X2 hown hK hP 0 rfl rfl 1 (by decide) (hts _ kf_X2_7) (fun _ h9 => h9) rfl dX2_balance_71 ?_
      refine lv_iload_n hx hb dX2_balance_74 rfl (lv_at hl 0 rfl) ?_
      refine za_lald (k := i) (f := (b 1)) (v := b 1 i) hx hb hK hP 1 1 rfl rfl rfl (by omega) (by decide) rfl dX2_balance_75 ?_
      refine lv_lsub hx hb dX2_balance_76 ?_
      refine lv_lstore_n (lv' := [(1, .long ((m_bal (b 1) (b 8 0 - b 8 1 - b 8 3 - b 8 4 - b 8 5 - b 8 6 - b 8 7 - b 8 8) i) - (b 1 i))), (3, .int (nI i)), (0, .ref (q 0))]) hx hb dX2_balance_77 rfl hl (by decide) rfl (fun ls hl => ?_)
      refine lv_iinc (v := nI (i + 1)) (lv' := [(3, .int (nI (i + 1))), (1, .long ((m_bal (b 1) (b 8 0 - b 8 1 - b 8 3 - b 8 4 - b 8 5 - b 8 6 - b 8 7 - b 8 8) i) - (b 1 i))), (0, .ref (q 0))]) hx hb dX2_balance_78 hl (k := 1) rfl (nI_1 i) (by decide) rfl (fun ls hl => ?_)
      refine lv_goto (tgt := 61) hx hb dX2_balance_81 (by decide) ?_
      have hP : va_P D vwCl (wM g q a b) _ := hP
      have hD : va_D A (wM g q a b) := hD
      have hl : lv_has ls 4 [(3, .int (nI (i + 1))), (1, .long (m_bal (b 1) (b 8 0 - b 8 1 - b 8 3 - b 8 4 - b 8 5 - b 8 6 - b 8 7 - b 8 8) (i + 1))), (0, .ref (q 0))] := lv_sub hl [0, 1, 2] rfl
      exact ih_61 (i + 1)  (by omega)  _ _ _ hP hD hS hl
  exact lp_61 (n - 0) 0  (by omega)  _ _ _ hP hD hS (lv_sub hl [0, 1, 2] rfl)
def rm_M_limit : Room := { frames := 1, cells := 0, slots := 0, locals := 25 }
set_option maxHeartbeats 4000000 in
set_option maxRecDepth 100000 in
theorem c_M_limit (l : Launch) (D : va_G) (g : Nat → ClassId) (q : Nat → Nat) (a : Nat → Nat → Int32) (b : Nat → Nat → Int64) (x y : Int64) : zc_i l D (tyG g) yX2_limit cX2_limit 5 (some .boolean) rm_M_limit [.ref (q 0), .long x, .long y] (wM g q a b) (fun (r : Int32) (u : zT) => r = zb (m_within x (-1) 1000000000 && m_within y (-1) 1000000000) ∧ u = if (m_within x (-1) 1000000000 && m_within y (-1) 1000000000) = true then (a, va_up b 0 (vp_updL (vp_updL (b 0) 1 x) 2 y)) else (a, b)) (fun u => wM g q u.1 u.2) 0 0 := by
  refine zi_of (by decide) (Nat.le_of_ble_eq_true rfl) rfl ?_
  intro p e s m args below meth cd_ A Q ls C0 hnm hP hD hS hl hret
  obtain ⟨hx, hb, hr, hml, hlocks, hown, hts, hK, hA, hN⟩ := id C0
  have hl : lv_has ls 5 [(0, .ref (q 0)), (1, .long x), (3, .long y)] := hl
  refine lv_lload_n hx hb dX2_limit_0 rfl (lv_at hl 1 rfl) ?_
  refine lv_ldc2 (v := (-1)) hx hb hown (hts _ kc_X2_35) dX2_limit_1 ?_
  refine lv_ldc2 (v := 1000000000) hx hb hown (hts _ kc_X2_82) dX2_limit_4 ?_
  refine zk_pi (rest := []) C0 hP hD hS (c_M_isIn l D (tyG g) x ((-1) : Int64) (1000000000 : Int64)) kk_X2_63 hl.1 rfl rfl (Nat.le_of_ble_eq_true rfl) ⟨(Nat.le_of_ble_eq_true rfl), (Nat.le_of_ble_eq_true rfl)⟩ rfl rfl ⟨(Nat.le_of_ble_eq_true rfl), (Nat.le_of_ble_eq_true rfl)⟩ dX2_limit_7 (fun r_7 H locs hw_7 hP hS => ?_)
  obtain rfl := hw_7
  refine lv_if_eq (tgt := 26) hx hb dX2_limit_10 (by decide) (fun c_10 => ?_) (fun c_10 => ?_)
  · -- jump at 10
    have c_10 := zb_f c_10
    refine lv_iconst (v := 0) hx hb dX2_limit_26 (by decide) ?_
    exact hret 0 (a, b) _ _ _ _ _ _ rfl (by simp [zb, c_10]) hP hD hS (Nat.le_of_ble_eq_true rfl) (Nat.le_of_ble_eq_true rfl) dX2_limit_27
  · -- on at 10
    have c_10 := zb_t c_10
    refine lv_lload_n hx hb dX2_limit_13 rfl (lv_at hl 2 rfl) ?_
    refine lv_ldc2 (v := (-1)) hx hb hown (hts _ kc_X2_35) dX2_limit_14 ?_
    refine lv_ldc2 (v := 1000000000) hx hb hown (hts _ kc_X2_82) dX2_limit_17 ?_
    refine zk_pi (rest := []) C0 hP hD hS (c_M_isIn l D (tyG g) y ((-1) : Int64) (1000000000 : Int64)) kk_X2_63 hl.1 rfl rfl (Nat.le_of_ble_eq_true rfl) ⟨(Nat.le_of_ble_eq_true rfl), (Nat.le_of_ble_eq_true rfl)⟩ rfl rfl ⟨(Nat.le_of_ble_eq_true rfl), (Nat.le_of_ble_eq_true rfl)⟩ dX2_limit_20 (fun r_20 H locs hw_20 hP hS => ?_)
    obtain rfl := hw_20
    refine lv_if_ne (tgt := 28) hx hb dX2_limit_23 (by decide) (fun c_23 => ?_) (fun c_23 => ?_)
    · -- jump at 23
      have c_23 := zb_t c_23
      refine lv_aload_n hx hb dX2_limit_28 rfl (lv_at hl 0 rfl) ?_
      refine lv_lload_n hx hb dX2_limit_29 rfl (lv_at hl 1 rfl) ?_
      refine va_put (D := D) (ci := 2) (v := .long x) (ty := .long) (C := RX2) (T := TX2) (N := 22) hx hb hts iw_X2 tyX2 tyok_X2 nm_X2 hown hK hP hD hS 0 rfl rfl 15 (by decide) (hts _ kf_X2_37) (fun _ h9 => h9) rfl (by decide +kernel) rfl rfl (Nat.le_of_ble_eq_true rfl) dX2_limit_30 (fun H locs hP hD hS => ?_)
      have hP : va_P D vwCl (wM g q a (va_up b 0 (vp_updL (b 0) 1 x))) H := hP
      have hD : va_D A (wM g q a (va_up b 0 (vp_updL (b 0) 1 x))) := hD
      refine lv_aload_n hx hb dX2_limit_33 rfl (lv_at hl 0 rfl) ?_
      refine lv_lload_n hx hb dX2_limit_34 rfl (lv_at hl 2 rfl) ?_
      refine va_put (D := D) (ci := 2) (v := .long y) (ty := .long) (C := RX2) (T := TX2) (N := 22) hx hb hts iw_X2 tyX2 tyok_X2 nm_X2 hown hK hP hD hS 0 rfl rfl 16 (by decide) (hts _ kf_X2_41) (fun _ h9 => h9) rfl (by decide +kernel) rfl rfl (Nat.le_of_ble_eq_true rfl) dX2_limit_35 (fun H locs hP hD hS => ?_)
      have hP : va_P D vwCl (wM g q a (va_up b 0 (vp_updL (vp_updL (b 0) 1 x) 2 y))) H := hP
      have hD : va_D A (wM g q a (va_up b 0 (vp_updL (vp_updL (b 0) 1 x) 2 y))) := hD
      refine lv_iconst (v := 1) hx hb dX2_limit_38 (by decide) ?_
      exact hret 1 (a, va_up b 0 (vp_updL (vp_updL (b 0) 1 x) 2 y)) _ _ _ _ _ _ rfl (by simp [zb, c_10, c_23]) hP hD hS (Nat.le_of_ble_eq_true rfl) (Nat.le_of_ble_eq_true rfl) dX2_limit_39
    · -- on at 23
      have c_23 := zb_f c_23
      refine lv_iconst (v := 0) hx hb dX2_limit_26 (by decide) ?_
      exact hret 0 (a, b) _ _ _ _ _ _ rfl (by simp [zb, c_10, c_23]) hP hD hS (Nat.le_of_ble_eq_true rfl) (Nat.le_of_ble_eq_true rfl) dX2_limit_27
def rm_M_passed : Room := { frames := 1, cells := 0, slots := 0, locals := 25 }
set_option maxHeartbeats 4000000 in
set_option maxRecDepth 100000 in
theorem c_M_passed_0p (l : Launch) (D : va_G) (g : Nat → ClassId) (q : Nat → Nat) (a : Nat → Nat → Int32) (b : Nat → Nat → Int64) (d : Nat) (hd : a 0 4 = nI d) (hd4 : d ≤ 400) (k : Int32) (hng : ¬ b 0 1 < 0) : zc_i l D (tyG g) yX2_passed cX2_passed 10 (some .int) rm_M_passed [.ref (q 0), .int 0, .int k] (wM g q a b) (fun (r : Int32) (u : Unit) => r = m_dp (b 7) (b 0 1) k d 0 0) (fun _ => wM g q a b) 0 0 := by
  refine zi_of (by decide) (Nat.le_of_ble_eq_true rfl) rfl ?_
  intro p e s m args below meth cd_ A Q ls C0 hnm hP hD hS hl hret
  obtain ⟨hx, hb, hr, hml, hlocks, hown, hts, hK, hA, hN⟩ := id C0
  have hl : lv_has ls 10 [(0, .ref (q 0)), (1, .int 0), (2, .int k)] := hl
  refine lv_iload_n hx hb dX2_passed_0 rfl (lv_at hl 1 rfl) ?_
  refine lv_i2l (v := (0 : Int32).toInt64) hx hb dX2_passed_1 rfl ?_
  refine lv_lconst (v := 0) hx hb dX2_passed_2 (by decide) ?_
  refine lv_lconst (v := 1) hx hb dX2_passed_3 (by decide) ?_
  refine zk_pi (rest := []) C0 hP hD hS (c_M_isIn l D (tyG g) ((0 : Int32).toInt64) (0 : Int64) (1 : Int64)) kk_X2_63 hl.1 rfl rfl (Nat.le_of_ble_eq_true rfl) ⟨(Nat.le_of_ble_eq_true rfl), (Nat.le_of_ble_eq_true rfl)⟩ rfl rfl ⟨(Nat.le_of_ble_eq_true rfl), (Nat.le_of_ble_eq_true rfl)⟩ dX2_passed_4 (fun r_4 H locs hw_4 hP hS => ?_)
  obtain rfl := hw_4
  refine lv_if_ne (tgt := 12) hx hb dX2_passed_7 (by decide) (fun _ => ?_) (fun c_7 => absurd c_7 (by decide))
  refine lv_iload_n hx hb dX2_passed_12 rfl (lv_at hl 1 rfl) ?_
  refine lv_if_ne (tgt := 23) hx hb dX2_passed_13 (by decide) (fun c_13 => absurd (by decide) c_13) (fun _ => ?_)
  refine lv_aload_n hx hb dX2_passed_16 rfl (lv_at hl 0 rfl) ?_
  refine va_get (D := D) (ci := 2) (v := .long (b 0 1)) (C := RX2) (T := TX2) (N := 22) hx hb hts iw_X2 hown hK hP 0 rfl rfl 15 (by decide) (hts _ kf_X2_37) (fun _ h9 => h9) rfl dX2_passed_17 ?_
  refine lv_goto (tgt := 27) hx hb dX2_passed_20 (by decide) ?_
  refine lv_lstore_n (lv' := [(3, .long (b 0 1)), (0, .ref (q 0)), (1, .int 0), (2, .int k)]) hx hb dX2_passed_27 rfl hl (by decide) rfl (fun ls hl => ?_)
  refine lv_lconst (v := 0) hx hb dX2_passed_28 (by decide) ?_
  refine lv_lstore (lv' := [(5, .long 0), (3, .long (b 0 1)), (0, .ref (q 0)), (1, .int 0), (2, .int k)]) hx hb dX2_passed_29 hl (by decide) rfl (fun ls hl => ?_)
  refine lv_iconst (v := 0) hx hb dX2_passed_31 (by decide) ?_
  refine lv_istore (lv' := [(7, .int 0), (5, .long 0), (3, .long (b 0 1)), (0, .ref (q 0)), (1, .int 0), (2, .int k)]) hx hb dX2_passed_32 hl (by decide) rfl (fun ls hl => ?_)
  refine lv_iconst (v := 0) hx hb dX2_passed_34 (by decide) ?_
  refine lv_istore (lv' := [(8, .int 0), (7, .int 0), (5, .long 0), (3, .long (b 0 1)), (0, .ref (q 0)), (1, .int 0), (2, .int k)]) hx hb dX2_passed_35 hl (by decide) rfl (fun ls hl => ?_)
  have lp_37 : ∀ (t_37 i : Nat) (z : Int32) (x : Int64), i + t_37 = d → m_dp (b 7) (b 0 1) k d 0 0 = m_dp (b 7) (b 0 1) k t_37 i z → ∀ (H : Heap) (locs : List Loc) (ls : Array Slot), va_P D vwCl (wM g q a b) H → va_D A (wM g q a b) → va_S A s.heap H locs → lv_has ls 10 [(8, .int (nI i)), (7, .int z), (5, .long x), (0, .ref (q 0)), (1, .int 0), (2, .int k), (3, .long (b 0 1))] → W p l e rm_M_passed s m args below meth cd_ H locs 0 0 Q (F0 m 37 ls []) := by
    intro t_37
    induction t_37 with
    | zero =>
      intro i z x hi_37 heq H locs ls hP hD hS hl
      obtain rfl : d = i := by omega
      refine lv_iload hx hb dX2_passed_37 (lv_at hl 0 rfl) ?_
      refine lv_aload_n hx hb dX2_passed_39 rfl (lv_at hl 3 rfl) ?_
      refine va_get (D := D) (ci := 2) (v := .int (a 0 4)) (C := RX2) (T := TX2) (N := 22) hx hb hts iw_X2 hown hK hP 0 rfl rfl 12 (by decide) (hts _ kf_X2_90) (fun _ h9 => h9) rfl dX2_passed_40 ?_
      rw [hd]
      refine lv_icmp_ge (tgt := 143) hx hb dX2_passed_43 (by decide) (fun _ => ?_) (fun c_43 => absurd (nI_le (Nat.le_refl _) (by omega)) c_43)
      refine lv_iconst (v := (-1)) hx hb dX2_passed_143 (by decide) ?_
      exact hret (-1) () _ _ _ _ _ _ (vp_nar_int _) (by first | exact (heq.trans ((if_neg c_76).trans (if_pos c_116))).symm | exact heq.symm) hP hD hS (Nat.le_of_ble_eq_true rfl) (Nat.le_of_ble_eq_true rfl) dX2_passed_144
    | succ t_37 ih_37 =>
      intro i z x hi_37 heq H locs ls hP hD hS hl
      refine lv_iload hx hb dX2_passed_37 (lv_at hl 0 rfl) ?_
      refine lv_aload_n hx hb dX2_passed_39 rfl (lv_at hl 3 rfl) ?_
      refine va_get (D := D) (ci := 2) (v := .int (a 0 4)) (C := RX2) (T := TX2) (N := 22) hx hb hts iw_X2 hown hK hP 0 rfl rfl 12 (by decide) (hts _ kf_X2_90) (fun _ h9 => h9) rfl dX2_passed_40 ?_
      rw [hd]
      refine lv_icmp_ge (tgt := 143) hx hb dX2_passed_43 (by decide) (fun c_43 => absurd c_43 (nI_ge (by omega) (by omega))) (fun _ => ?_)
      refine lv_lload_n hx hb dX2_passed_46 rfl (lv_at hl 6 rfl) ?_
      refine lv_lconst (v := 0) hx hb dX2_passed_47 (by decide) ?_
      refine zl_lt (tgt := 143) hx hb dX2_passed_48 dX2_passed_49 (by decide) (fun c_48 => absurd c_48 hng) (fun _ => ?_)
      refine lv_lload hx hb dX2_passed_52 (lv_at hl 2 rfl) ?_
      refine lv_aload_n hx hb dX2_passed_54 rfl (lv_at hl 3 rfl) ?_
      refine va_get (D := D) (ci := 2) (v := .ref (q 7)) (C := RX2) (T := TX2) (N := 22) hx hb hts iw_X2 hown hK hP 0 rfl rfl 14 (by decide) (hts _ kf_X2_32) (fun _ h9 => h9) rfl dX2_passed_55 ?_
      refine lv_iload hx hb dX2_passed_58 (lv_at hl 0 rfl) ?_
      refine za_lald (k := i) (f := (b 7)) (v := b 7 i) hx hb hK hP 7 1 rfl rfl rfl (by omega) (by decide) rfl dX2_passed_60 ?_
      refine lv_ladd hx hb dX2_passed_61 ?_
      refine lv_lstore (lv' := [(5, .long (x + (b 7 i))), (8, .int (nI i)), (7, .int z), (0, .ref (q 0)), (1, .int 0), (2, .int k), (3, .long (b 0 1))]) hx hb dX2_passed_62 hl (by decide) rfl (fun ls hl => ?_)
      refine lv_iload_n hx hb dX2_passed_64 rfl (lv_at hl 4 rfl) ?_
      refine lv_if_ne (tgt := 88) hx hb dX2_passed_65 (by decide) (fun c_65 => absurd (by decide) c_65) (fun _ => ?_)
      refine lv_aload_n hx hb dX2_passed_68 rfl (lv_at hl 3 rfl) ?_
      refine va_get (D := D) (ci := 2) (v := .ref (q 7)) (C := RX2) (T := TX2) (N := 22) hx hb hts iw_X2 hown hK hP 0 rfl rfl 14 (by decide) (hts _ kf_X2_32) (fun _ h9 => h9) rfl dX2_passed_69 ?_
      refine lv_iload hx hb dX2_passed_72 (lv_at hl 1 rfl) ?_
      refine za_lald (k := i) (f := (b 7)) (v := b 7 i) hx hb hK hP 7 1 rfl rfl rfl (by omega) (by decide) rfl dX2_passed_74 ?_
      refine lv_lload_n hx hb dX2_passed_75 rfl (lv_at hl 6 rfl) ?_
      refine zl_le (tgt := 84) hx hb dX2_passed_76 dX2_passed_77 (by decide) (fun c_76 => ?_) (fun c_76 => ?_)
      · -- jump at 76
        refine lv_iconst (v := 0) hx hb dX2_passed_84 (by decide) ?_
        refine lv_goto (tgt := 106) hx hb dX2_passed_85 (by decide) ?_
        refine lv_istore (lv' := [(9, .int 0), (5, .long (x + (b 7 i))), (8, .int (nI i)), (7, .int z), (0, .ref (q 0)), (1, .int 0), (2, .int k), (3, .long (b 0 1))]) hx hb dX2_passed_106 hl (by decide) rfl (fun ls hl => ?_)
        refine lv_iload hx hb dX2_passed_108 (lv_at hl 0 rfl) ?_
        refine lv_if_eq (tgt := 122) hx hb dX2_passed_110 (by decide) (fun _ => ?_) (fun c_110 => absurd (by decide) c_110)
        refine lv_iload hx hb dX2_passed_122 (lv_at hl 3 rfl) ?_
        refine lv_iload hx hb dX2_passed_124 (lv_at hl 0 rfl) ?_
        refine lv_if_eq (tgt := 133) hx hb dX2_passed_126 (by decide) (fun _ => ?_) (fun c_126 => absurd (by decide) c_126)
        refine lv_iconst (v := 0) hx hb dX2_passed_133 (by decide) ?_
        refine lv_iadd hx hb dX2_passed_134 ?_
        refine lv_istore (lv' := [(7, .int (z + 0)), (9, .int 0), (5, .long (x + (b 7 i))), (8, .int (nI i)), (0, .ref (q 0)), (1, .int 0), (2, .int k), (3, .long (b 0 1))]) hx hb dX2_passed_135 hl (by decide) rfl (fun ls hl => ?_)
        refine lv_iinc (v := nI (i + 1)) (lv' := [(8, .int (nI (i + 1))), (7, .int (z + 0)), (9, .int 0), (5, .long (x + (b 7 i))), (0, .ref (q 0)), (1, .int 0), (2, .int k), (3, .long (b 0 1))]) hx hb dX2_passed_137 hl (k := 3) rfl (nI_1 i) (by decide) rfl (fun ls hl => ?_)
        refine lv_goto (tgt := 37) hx hb dX2_passed_140 (by decide) ?_
        have hP : va_P D vwCl (wM g q a b) _ := hP
        have hD : va_D A (wM g q a b) := hD
        have hl : lv_has ls 10 [(8, .int (nI (i + 1))), (7, .int (z + 0)), (5, .long (x + b 7 i)), (0, .ref (q 0)), (1, .int 0), (2, .int k), (3, .long (b 0 1))] := lv_sub hl [0, 1, 3, 4, 5, 6, 7] rfl
        exact ih_37 (i + 1) (z + 0) (x + b 7 i) (by omega) (by rw [Int32.add_zero]; exact heq.trans (if_pos c_76)) _ _ _ hP hD hS hl
      · -- on at 76
        refine lv_iconst (v := 1) hx hb dX2_passed_80 (by decide) ?_
        refine lv_goto (tgt := 106) hx hb dX2_passed_81 (by decide) ?_
        refine lv_istore (lv' := [(9, .int 1), (5, .long (x + (b 7 i))), (8, .int (nI i)), (7, .int z), (0, .ref (q 0)), (1, .int 0), (2, .int k), (3, .long (b 0 1))]) hx hb dX2_passed_106 hl (by decide) rfl (fun ls hl => ?_)
        refine lv_iload hx hb dX2_passed_108 (lv_at hl 0 rfl) ?_
        refine lv_if_eq (tgt := 122) hx hb dX2_passed_110 (by decide) (fun c_110 => absurd c_110 (by decide)) (fun _ => ?_)
        refine lv_iload hx hb dX2_passed_113 (lv_at hl 3 rfl) ?_
        refine lv_iload_n hx hb dX2_passed_115 rfl (lv_at hl 6 rfl) ?_
        refine lv_icmp_ne (tgt := 122) hx hb dX2_passed_116 (by decide) (fun c_116 => ?_) (fun c_116 => ?_)
        · -- jump at 116
          refine lv_iload hx hb dX2_passed_122 (lv_at hl 3 rfl) ?_
          refine lv_iload hx hb dX2_passed_124 (lv_at hl 0 rfl) ?_
          refine lv_if_eq (tgt := 133) hx hb dX2_passed_126 (by decide) (fun c_126 => absurd c_126 (by decide)) (fun _ => ?_)
          refine lv_iconst (v := 1) hx hb dX2_passed_129 (by decide) ?_
          refine lv_goto (tgt := 134) hx hb dX2_passed_130 (by decide) ?_
          refine lv_iadd hx hb dX2_passed_134 ?_
          refine lv_istore (lv' := [(7, .int (z + 1)), (9, .int 1), (5, .long (x + (b 7 i))), (8, .int (nI i)), (0, .ref (q 0)), (1, .int 0), (2, .int k), (3, .long (b 0 1))]) hx hb dX2_passed_135 hl (by decide) rfl (fun ls hl => ?_)
          refine lv_iinc (v := nI (i + 1)) (lv' := [(8, .int (nI (i + 1))), (7, .int (z + 1)), (9, .int 1), (5, .long (x + (b 7 i))), (0, .ref (q 0)), (1, .int 0), (2, .int k), (3, .long (b 0 1))]) hx hb dX2_passed_137 hl (k := 3) rfl (nI_1 i) (by decide) rfl (fun ls hl => ?_)
          refine lv_goto (tgt := 37) hx hb dX2_passed_140 (by decide) ?_
          have hP : va_P D vwCl (wM g q a b) _ := hP
          have hD : va_D A (wM g q a b) := hD
          have hl : lv_has ls 10 [(8, .int (nI (i + 1))), (7, .int (z + 1)), (5, .long (x + b 7 i)), (0, .ref (q 0)), (1, .int 0), (2, .int k), (3, .long (b 0 1))] := lv_sub hl [0, 1, 3, 4, 5, 6, 7] rfl
          exact ih_37 (i + 1) (z + 1) (x + b 7 i) (by omega) (heq.trans ((if_neg c_76).trans (if_neg c_116))) _ _ _ hP hD hS hl
        · -- on at 116
          refine lv_iload hx hb dX2_passed_119 (lv_at hl 2 rfl) ?_
          exact hret (nI i) () _ _ _ _ _ _ (vp_nar_int _) (by first | exact (heq.trans ((if_neg c_76).trans (if_pos c_116))).symm | exact heq.symm) hP hD hS (Nat.le_of_ble_eq_true rfl) (Nat.le_of_ble_eq_true rfl) dX2_passed_121
  exact lp_37 (d - 0) 0 0 0 (by omega) rfl _ _ _ hP hD hS (lv_sub hl [0, 1, 2, 4, 5, 6, 3] rfl)
set_option maxHeartbeats 4000000 in
set_option maxRecDepth 100000 in
theorem c_M_passed_1p (l : Launch) (D : va_G) (g : Nat → ClassId) (q : Nat → Nat) (a : Nat → Nat → Int32) (b : Nat → Nat → Int64) (d : Nat) (hd : a 0 4 = nI d) (hd4 : d ≤ 400) (k : Int32) (hng : ¬ b 0 2 < 0) : zc_i l D (tyG g) yX2_passed cX2_passed 10 (some .int) rm_M_passed [.ref (q 0), .int 1, .int k] (wM g q a b) (fun (r : Int32) (u : Unit) => r = m_mp (b 7) (b 0 2) k d 0 0 0) (fun _ => wM g q a b) 0 0 := by
  refine zi_of (by decide) (Nat.le_of_ble_eq_true rfl) rfl ?_
  intro p e s m args below meth cd_ A Q ls C0 hnm hP hD hS hl hret
  obtain ⟨hx, hb, hr, hml, hlocks, hown, hts, hK, hA, hN⟩ := id C0
  have hl : lv_has ls 10 [(0, .ref (q 0)), (1, .int 1), (2, .int k)] := hl
  refine lv_iload_n hx hb dX2_passed_0 rfl (lv_at hl 1 rfl) ?_
  refine lv_i2l (v := (1 : Int32).toInt64) hx hb dX2_passed_1 rfl ?_
  refine lv_lconst (v := 0) hx hb dX2_passed_2 (by decide) ?_
  refine lv_lconst (v := 1) hx hb dX2_passed_3 (by decide) ?_
  refine zk_pi (rest := []) C0 hP hD hS (c_M_isIn l D (tyG g) ((1 : Int32).toInt64) (0 : Int64) (1 : Int64)) kk_X2_63 hl.1 rfl rfl (Nat.le_of_ble_eq_true rfl) ⟨(Nat.le_of_ble_eq_true rfl), (Nat.le_of_ble_eq_true rfl)⟩ rfl rfl ⟨(Nat.le_of_ble_eq_true rfl), (Nat.le_of_ble_eq_true rfl)⟩ dX2_passed_4 (fun r_4 H locs hw_4 hP hS => ?_)
  obtain rfl := hw_4
  refine lv_if_ne (tgt := 12) hx hb dX2_passed_7 (by decide) (fun _ => ?_) (fun c_7 => absurd c_7 (by decide))
  refine lv_iload_n hx hb dX2_passed_12 rfl (lv_at hl 1 rfl) ?_
  refine lv_if_ne (tgt := 23) hx hb dX2_passed_13 (by decide) (fun _ => ?_) (fun c_13 => absurd c_13 (by decide))
  refine lv_aload_n hx hb dX2_passed_23 rfl (lv_at hl 0 rfl) ?_
  refine va_get (D := D) (ci := 2) (v := .long (b 0 2)) (C := RX2) (T := TX2) (N := 22) hx hb hts iw_X2 hown hK hP 0 rfl rfl 16 (by decide) (hts _ kf_X2_41) (fun _ h9 => h9) rfl dX2_passed_24 ?_
  refine lv_lstore_n (lv' := [(3, .long (b 0 2)), (0, .ref (q 0)), (1, .int 1), (2, .int k)]) hx hb dX2_passed_27 rfl hl (by decide) rfl (fun ls hl => ?_)
  refine lv_lconst (v := 0) hx hb dX2_passed_28 (by decide) ?_
  refine lv_lstore (lv' := [(5, .long 0), (3, .long (b 0 2)), (0, .ref (q 0)), (1, .int 1), (2, .int k)]) hx hb dX2_passed_29 hl (by decide) rfl (fun ls hl => ?_)
  refine lv_iconst (v := 0) hx hb dX2_passed_31 (by decide) ?_
  refine lv_istore (lv' := [(7, .int 0), (5, .long 0), (3, .long (b 0 2)), (0, .ref (q 0)), (1, .int 1), (2, .int k)]) hx hb dX2_passed_32 hl (by decide) rfl (fun ls hl => ?_)
  refine lv_iconst (v := 0) hx hb dX2_passed_34 (by decide) ?_
  refine lv_istore (lv' := [(8, .int 0), (7, .int 0), (5, .long 0), (3, .long (b 0 2)), (0, .ref (q 0)), (1, .int 1), (2, .int k)]) hx hb dX2_passed_35 hl (by decide) rfl (fun ls hl => ?_)
  have lp_37 : ∀ (t_37 i : Nat) (z : Int32) (x : Int64), i + t_37 = d → m_mp (b 7) (b 0 2) k d 0 0 0 = m_mp (b 7) (b 0 2) k t_37 i x z → ∀ (H : Heap) (locs : List Loc) (ls : Array Slot), va_P D vwCl (wM g q a b) H → va_D A (wM g q a b) → va_S A s.heap H locs → lv_has ls 10 [(8, .int (nI i)), (7, .int z), (5, .long x), (0, .ref (q 0)), (1, .int 1), (2, .int k), (3, .long (b 0 2))] → W p l e rm_M_passed s m args below meth cd_ H locs 0 0 Q (F0 m 37 ls []) := by
    intro t_37
    induction t_37 with
    | zero =>
      intro i z x hi_37 heq H locs ls hP hD hS hl
      obtain rfl : d = i := by omega
      refine lv_iload hx hb dX2_passed_37 (lv_at hl 0 rfl) ?_
      refine lv_aload_n hx hb dX2_passed_39 rfl (lv_at hl 3 rfl) ?_
      refine va_get (D := D) (ci := 2) (v := .int (a 0 4)) (C := RX2) (T := TX2) (N := 22) hx hb hts iw_X2 hown hK hP 0 rfl rfl 12 (by decide) (hts _ kf_X2_90) (fun _ h9 => h9) rfl dX2_passed_40 ?_
      rw [hd]
      refine lv_icmp_ge (tgt := 143) hx hb dX2_passed_43 (by decide) (fun _ => ?_) (fun c_43 => absurd (nI_le (Nat.le_refl _) (by omega)) c_43)
      refine lv_iconst (v := (-1)) hx hb dX2_passed_143 (by decide) ?_
      exact hret (-1) () _ _ _ _ _ _ (vp_nar_int _) (by first | exact (heq.trans ((if_neg c_97).trans (if_pos c_116))).symm | exact heq.symm) hP hD hS (Nat.le_of_ble_eq_true rfl) (Nat.le_of_ble_eq_true rfl) dX2_passed_144
    | succ t_37 ih_37 =>
      intro i z x hi_37 heq H locs ls hP hD hS hl
      refine lv_iload hx hb dX2_passed_37 (lv_at hl 0 rfl) ?_
      refine lv_aload_n hx hb dX2_passed_39 rfl (lv_at hl 3 rfl) ?_
      refine va_get (D := D) (ci := 2) (v := .int (a 0 4)) (C := RX2) (T := TX2) (N := 22) hx hb hts iw_X2 hown hK hP 0 rfl rfl 12 (by decide) (hts _ kf_X2_90) (fun _ h9 => h9) rfl dX2_passed_40 ?_
      rw [hd]
      refine lv_icmp_ge (tgt := 143) hx hb dX2_passed_43 (by decide) (fun c_43 => absurd c_43 (nI_ge (by omega) (by omega))) (fun _ => ?_)
      refine lv_lload_n hx hb dX2_passed_46 rfl (lv_at hl 6 rfl) ?_
      refine lv_lconst (v := 0) hx hb dX2_passed_47 (by decide) ?_
      refine zl_lt (tgt := 143) hx hb dX2_passed_48 dX2_passed_49 (by decide) (fun c_48 => absurd c_48 hng) (fun _ => ?_)
      refine lv_lload hx hb dX2_passed_52 (lv_at hl 2 rfl) ?_
      refine lv_aload_n hx hb dX2_passed_54 rfl (lv_at hl 3 rfl) ?_
      refine va_get (D := D) (ci := 2) (v := .ref (q 7)) (C := RX2) (T := TX2) (N := 22) hx hb hts iw_X2 hown hK hP 0 rfl rfl 14 (by decide) (hts _ kf_X2_32) (fun _ h9 => h9) rfl dX2_passed_55 ?_
      refine lv_iload hx hb dX2_passed_58 (lv_at hl 0 rfl) ?_
      refine za_lald (k := i) (f := (b 7)) (v := b 7 i) hx hb hK hP 7 1 rfl rfl rfl (by omega) (by decide) rfl dX2_passed_60 ?_
      refine lv_ladd hx hb dX2_passed_61 ?_
      refine lv_lstore (lv' := [(5, .long (x + (b 7 i))), (8, .int (nI i)), (7, .int z), (0, .ref (q 0)), (1, .int 1), (2, .int k), (3, .long (b 0 2))]) hx hb dX2_passed_62 hl (by decide) rfl (fun ls hl => ?_)
      refine lv_iload_n hx hb dX2_passed_64 rfl (lv_at hl 4 rfl) ?_
      refine lv_if_ne (tgt := 88) hx hb dX2_passed_65 (by decide) (fun _ => ?_) (fun c_65 => absurd c_65 (by decide))
      refine lv_lload hx hb dX2_passed_88 (lv_at hl 0 rfl) ?_
      refine lv_lload_n hx hb dX2_passed_90 rfl (lv_at hl 6 rfl) ?_
      refine lv_iload hx hb dX2_passed_91 (lv_at hl 1 rfl) ?_
      refine lv_iconst (v := 1) hx hb dX2_passed_93 (by decide) ?_
      refine lv_iadd hx hb dX2_passed_94 ?_
      rw [show (nI i) + 1 = nI (i + 1) from nI_1 i]
      refine lv_i2l (v := (nI (i + 1)).toInt64) hx hb dX2_passed_95 rfl ?_
      refine lv_lmul hx hb dX2_passed_96 ?_
      refine zl_le (tgt := 105) hx hb dX2_passed_97 dX2_passed_98 (by decide) (fun c_97 => ?_) (fun c_97 => ?_)
      · -- jump at 97
        refine lv_iconst (v := 0) hx hb dX2_passed_105 (by decide) ?_
        refine lv_istore (lv' := [(9, .int 0), (5, .long (x + (b 7 i))), (8, .int (nI i)), (7, .int z), (0, .ref (q 0)), (1, .int 1), (2, .int k), (3, .long (b 0 2))]) hx hb dX2_passed_106 hl (by decide) rfl (fun ls hl => ?_)
        refine lv_iload hx hb dX2_passed_108 (lv_at hl 0 rfl) ?_
        refine lv_if_eq (tgt := 122) hx hb dX2_passed_110 (by decide) (fun _ => ?_) (fun c_110 => absurd (by decide) c_110)
        refine lv_iload hx hb dX2_passed_122 (lv_at hl 3 rfl) ?_
        refine lv_iload hx hb dX2_passed_124 (lv_at hl 0 rfl) ?_
        refine lv_if_eq (tgt := 133) hx hb dX2_passed_126 (by decide) (fun _ => ?_) (fun c_126 => absurd (by decide) c_126)
        refine lv_iconst (v := 0) hx hb dX2_passed_133 (by decide) ?_
        refine lv_iadd hx hb dX2_passed_134 ?_
        refine lv_istore (lv' := [(7, .int (z + 0)), (9, .int 0), (5, .long (x + (b 7 i))), (8, .int (nI i)), (0, .ref (q 0)), (1, .int 1), (2, .int k), (3, .long (b 0 2))]) hx hb dX2_passed_135 hl (by decide) rfl (fun ls hl => ?_)
        refine lv_iinc (v := nI (i + 1)) (lv' := [(8, .int (nI (i + 1))), (7, .int (z + 0)), (9, .int 0), (5, .long (x + (b 7 i))), (0, .ref (q 0)), (1, .int 1), (2, .int k), (3, .long (b 0 2))]) hx hb dX2_passed_137 hl (k := 3) rfl (nI_1 i) (by decide) rfl (fun ls hl => ?_)
        refine lv_goto (tgt := 37) hx hb dX2_passed_140 (by decide) ?_
        have hP : va_P D vwCl (wM g q a b) _ := hP
        have hD : va_D A (wM g q a b) := hD
        have hl : lv_has ls 10 [(8, .int (nI (i + 1))), (7, .int (z + 0)), (5, .long (x + b 7 i)), (0, .ref (q 0)), (1, .int 1), (2, .int k), (3, .long (b 0 2))] := lv_sub hl [0, 1, 3, 4, 5, 6, 7] rfl
        exact ih_37 (i + 1) (z + 0) (x + b 7 i) (by omega) (by rw [Int32.add_zero]; exact heq.trans (if_pos c_97)) _ _ _ hP hD hS hl
      · -- on at 97
        refine lv_iconst (v := 1) hx hb dX2_passed_101 (by decide) ?_
        refine lv_goto (tgt := 106) hx hb dX2_passed_102 (by decide) ?_
        refine lv_istore (lv' := [(9, .int 1), (5, .long (x + (b 7 i))), (8, .int (nI i)), (7, .int z), (0, .ref (q 0)), (1, .int 1), (2, .int k), (3, .long (b 0 2))]) hx hb dX2_passed_106 hl (by decide) rfl (fun ls hl => ?_)
        refine lv_iload hx hb dX2_passed_108 (lv_at hl 0 rfl) ?_
        refine lv_if_eq (tgt := 122) hx hb dX2_passed_110 (by decide) (fun c_110 => absurd c_110 (by decide)) (fun _ => ?_)
        refine lv_iload hx hb dX2_passed_113 (lv_at hl 3 rfl) ?_
        refine lv_iload_n hx hb dX2_passed_115 rfl (lv_at hl 6 rfl) ?_
        refine lv_icmp_ne (tgt := 122) hx hb dX2_passed_116 (by decide) (fun c_116 => ?_) (fun c_116 => ?_)
        · -- jump at 116
          refine lv_iload hx hb dX2_passed_122 (lv_at hl 3 rfl) ?_
          refine lv_iload hx hb dX2_passed_124 (lv_at hl 0 rfl) ?_
          refine lv_if_eq (tgt := 133) hx hb dX2_passed_126 (by decide) (fun c_126 => absurd c_126 (by decide)) (fun _ => ?_)
          refine lv_iconst (v := 1) hx hb dX2_passed_129 (by decide) ?_
          refine lv_goto (tgt := 134) hx hb dX2_passed_130 (by decide) ?_
          refine lv_iadd hx hb dX2_passed_134 ?_
          refine lv_istore (lv' := [(7, .int (z + 1)), (9, .int 1), (5, .long (x + (b 7 i))), (8, .int (nI i)), (0, .ref (q 0)), (1, .int 1), (2, .int k), (3, .long (b 0 2))]) hx hb dX2_passed_135 hl (by decide) rfl (fun ls hl => ?_)
          refine lv_iinc (v := nI (i + 1)) (lv' := [(8, .int (nI (i + 1))), (7, .int (z + 1)), (9, .int 1), (5, .long (x + (b 7 i))), (0, .ref (q 0)), (1, .int 1), (2, .int k), (3, .long (b 0 2))]) hx hb dX2_passed_137 hl (k := 3) rfl (nI_1 i) (by decide) rfl (fun ls hl => ?_)
          refine lv_goto (tgt := 37) hx hb dX2_passed_140 (by decide) ?_
          have hP : va_P D vwCl (wM g q a b) _ := hP
          have hD : va_D A (wM g q a b) := hD
          have hl : lv_has ls 10 [(8, .int (nI (i + 1))), (7, .int (z + 1)), (5, .long (x + b 7 i)), (0, .ref (q 0)), (1, .int 1), (2, .int k), (3, .long (b 0 2))] := lv_sub hl [0, 1, 3, 4, 5, 6, 7] rfl
          exact ih_37 (i + 1) (z + 1) (x + b 7 i) (by omega) (heq.trans ((if_neg c_97).trans (if_neg c_116))) _ _ _ hP hD hS hl
        · -- on at 116
          refine lv_iload hx hb dX2_passed_119 (lv_at hl 2 rfl) ?_
          exact hret (nI i) () _ _ _ _ _ _ (vp_nar_int _) (by first | exact (heq.trans ((if_neg c_97).trans (if_pos c_116))).symm | exact heq.symm) hP hD hS (Nat.le_of_ble_eq_true rfl) (Nat.le_of_ble_eq_true rfl) dX2_passed_121
  exact lp_37 (d - 0) 0 0 0 (by omega) rfl _ _ _ hP hD hS (lv_sub hl [0, 1, 2, 4, 5, 6, 3] rfl)
set_option maxHeartbeats 4000000 in
set_option maxRecDepth 100000 in
theorem c_M_passed_0n (l : Launch) (D : va_G) (g : Nat → ClassId) (q : Nat → Nat) (a : Nat → Nat → Int32) (b : Nat → Nat → Int64) (d : Nat) (hd : a 0 4 = nI d) (hd4 : d ≤ 400) (k : Int32) (hng : b 0 1 < 0) : zc_i l D (tyG g) yX2_passed cX2_passed 10 (some .int) rm_M_passed [.ref (q 0), .int 0, .int k] (wM g q a b) (fun (r : Int32) (u : Unit) => r = -1) (fun _ => wM g q a b) 0 0 := by
  refine zi_of (by decide) (Nat.le_of_ble_eq_true rfl) rfl ?_
  intro p e s m args below meth cd_ A Q ls C0 hnm hP hD hS hl hret
  obtain ⟨hx, hb, hr, hml, hlocks, hown, hts, hK, hA, hN⟩ := id C0
  have hl : lv_has ls 10 [(0, .ref (q 0)), (1, .int 0), (2, .int k)] := hl
  refine lv_iload_n hx hb dX2_passed_0 rfl (lv_at hl 1 rfl) ?_
  refine lv_i2l (v := (0 : Int32).toInt64) hx hb dX2_passed_1 rfl ?_
  refine lv_lconst (v := 0) hx hb dX2_passed_2 (by decide) ?_
  refine lv_lconst (v := 1) hx hb dX2_passed_3 (by decide) ?_
  refine zk_pi (rest := []) C0 hP hD hS (c_M_isIn l D (tyG g) ((0 : Int32).toInt64) (0 : Int64) (1 : Int64)) kk_X2_63 hl.1 rfl rfl (Nat.le_of_ble_eq_true rfl) ⟨(Nat.le_of_ble_eq_true rfl), (Nat.le_of_ble_eq_true rfl)⟩ rfl rfl ⟨(Nat.le_of_ble_eq_true rfl), (Nat.le_of_ble_eq_true rfl)⟩ dX2_passed_4 (fun r_4 H locs hw_4 hP hS => ?_)
  obtain rfl := hw_4
  refine lv_if_ne (tgt := 12) hx hb dX2_passed_7 (by decide) (fun _ => ?_) (fun c_7 => absurd c_7 (by decide))
  refine lv_iload_n hx hb dX2_passed_12 rfl (lv_at hl 1 rfl) ?_
  refine lv_if_ne (tgt := 23) hx hb dX2_passed_13 (by decide) (fun c_13 => absurd (by decide) c_13) (fun _ => ?_)
  refine lv_aload_n hx hb dX2_passed_16 rfl (lv_at hl 0 rfl) ?_
  refine va_get (D := D) (ci := 2) (v := .long (b 0 1)) (C := RX2) (T := TX2) (N := 22) hx hb hts iw_X2 hown hK hP 0 rfl rfl 15 (by decide) (hts _ kf_X2_37) (fun _ h9 => h9) rfl dX2_passed_17 ?_
  refine lv_goto (tgt := 27) hx hb dX2_passed_20 (by decide) ?_
  refine lv_lstore_n (lv' := [(3, .long (b 0 1)), (0, .ref (q 0)), (1, .int 0), (2, .int k)]) hx hb dX2_passed_27 rfl hl (by decide) rfl (fun ls hl => ?_)
  refine lv_lconst (v := 0) hx hb dX2_passed_28 (by decide) ?_
  refine lv_lstore (lv' := [(5, .long 0), (3, .long (b 0 1)), (0, .ref (q 0)), (1, .int 0), (2, .int k)]) hx hb dX2_passed_29 hl (by decide) rfl (fun ls hl => ?_)
  refine lv_iconst (v := 0) hx hb dX2_passed_31 (by decide) ?_
  refine lv_istore (lv' := [(7, .int 0), (5, .long 0), (3, .long (b 0 1)), (0, .ref (q 0)), (1, .int 0), (2, .int k)]) hx hb dX2_passed_32 hl (by decide) rfl (fun ls hl => ?_)
  refine lv_iconst (v := 0) hx hb dX2_passed_34 (by decide) ?_
  refine lv_istore (lv' := [(8, .int 0), (7, .int 0), (5, .long 0), (3, .long (b 0 1)), (0, .ref (q 0)), (1, .int 0), (2, .int k)]) hx hb dX2_passed_35 hl (by decide) rfl (fun ls hl => ?_)
  refine lv_iload hx hb dX2_passed_37 (lv_at hl 0 rfl) ?_
  refine lv_aload_n hx hb dX2_passed_39 rfl (lv_at hl 4 rfl) ?_
  refine va_get (D := D) (ci := 2) (v := .int (a 0 4)) (C := RX2) (T := TX2) (N := 22) hx hb hts iw_X2 hown hK hP 0 rfl rfl 12 (by decide) (hts _ kf_X2_90) (fun _ h9 => h9) rfl dX2_passed_40 ?_
  rw [hd]
  refine lv_icmp_ge (tgt := 143) hx hb dX2_passed_43 (by decide) (fun c_43 => ?_) (fun c_43 => ?_)
  · -- jump at 43
    refine lv_iconst (v := (-1)) hx hb dX2_passed_143 (by decide) ?_
    exact hret (-1) () _ _ _ _ _ _ (vp_nar_int _) rfl hP hD hS (Nat.le_of_ble_eq_true rfl) (Nat.le_of_ble_eq_true rfl) dX2_passed_144
  · -- on at 43
    refine lv_lload_n hx hb dX2_passed_46 rfl (lv_at hl 3 rfl) ?_
    refine lv_lconst (v := 0) hx hb dX2_passed_47 (by decide) ?_
    refine zl_lt (tgt := 143) hx hb dX2_passed_48 dX2_passed_49 (by decide) (fun _ => ?_) (fun c_48 => absurd hng c_48)
    refine lv_iconst (v := (-1)) hx hb dX2_passed_143 (by decide) ?_
    exact hret (-1) () _ _ _ _ _ _ (vp_nar_int _) rfl hP hD hS (Nat.le_of_ble_eq_true rfl) (Nat.le_of_ble_eq_true rfl) dX2_passed_144
set_option maxHeartbeats 4000000 in
set_option maxRecDepth 100000 in
theorem c_M_passed_1n (l : Launch) (D : va_G) (g : Nat → ClassId) (q : Nat → Nat) (a : Nat → Nat → Int32) (b : Nat → Nat → Int64) (d : Nat) (hd : a 0 4 = nI d) (hd4 : d ≤ 400) (k : Int32) (hng : b 0 2 < 0) : zc_i l D (tyG g) yX2_passed cX2_passed 10 (some .int) rm_M_passed [.ref (q 0), .int 1, .int k] (wM g q a b) (fun (r : Int32) (u : Unit) => r = -1) (fun _ => wM g q a b) 0 0 := by
  refine zi_of (by decide) (Nat.le_of_ble_eq_true rfl) rfl ?_
  intro p e s m args below meth cd_ A Q ls C0 hnm hP hD hS hl hret
  obtain ⟨hx, hb, hr, hml, hlocks, hown, hts, hK, hA, hN⟩ := id C0
  have hl : lv_has ls 10 [(0, .ref (q 0)), (1, .int 1), (2, .int k)] := hl
  refine lv_iload_n hx hb dX2_passed_0 rfl (lv_at hl 1 rfl) ?_
  refine lv_i2l (v := (1 : Int32).toInt64) hx hb dX2_passed_1 rfl ?_
  refine lv_lconst (v := 0) hx hb dX2_passed_2 (by decide) ?_
  refine lv_lconst (v := 1) hx hb dX2_passed_3 (by decide) ?_
  refine zk_pi (rest := []) C0 hP hD hS (c_M_isIn l D (tyG g) ((1 : Int32).toInt64) (0 : Int64) (1 : Int64)) kk_X2_63 hl.1 rfl rfl (Nat.le_of_ble_eq_true rfl) ⟨(Nat.le_of_ble_eq_true rfl), (Nat.le_of_ble_eq_true rfl)⟩ rfl rfl ⟨(Nat.le_of_ble_eq_true rfl), (Nat.le_of_ble_eq_true rfl)⟩ dX2_passed_4 (fun r_4 H locs hw_4 hP hS => ?_)
  obtain rfl := hw_4
  refine lv_if_ne (tgt := 12) hx hb dX2_passed_7 (by decide) (fun _ => ?_) (fun c_7 => absurd c_7 (by decide))
  refine lv_iload_n hx hb dX2_passed_12 rfl (lv_at hl 1 rfl) ?_
  refine lv_if_ne (tgt := 23) hx hb dX2_passed_13 (by decide) (fun _ => ?_) (fun c_13 => absurd c_13 (by decide))
  refine lv_aload_n hx hb dX2_passed_23 rfl (lv_at hl 0 rfl) ?_
  refine va_get (D := D) (ci := 2) (v := .long (b 0 2)) (C := RX2) (T := TX2) (N := 22) hx hb hts iw_X2 hown hK hP 0 rfl rfl 16 (by decide) (hts _ kf_X2_41) (fun _ h9 => h9) rfl dX2_passed_24 ?_
  refine lv_lstore_n (lv' := [(3, .long (b 0 2)), (0, .ref (q 0)), (1, .int 1), (2, .int k)]) hx hb dX2_passed_27 rfl hl (by decide) rfl (fun ls hl => ?_)
  refine lv_lconst (v := 0) hx hb dX2_passed_28 (by decide) ?_
  refine lv_lstore (lv' := [(5, .long 0), (3, .long (b 0 2)), (0, .ref (q 0)), (1, .int 1), (2, .int k)]) hx hb dX2_passed_29 hl (by decide) rfl (fun ls hl => ?_)
  refine lv_iconst (v := 0) hx hb dX2_passed_31 (by decide) ?_
  refine lv_istore (lv' := [(7, .int 0), (5, .long 0), (3, .long (b 0 2)), (0, .ref (q 0)), (1, .int 1), (2, .int k)]) hx hb dX2_passed_32 hl (by decide) rfl (fun ls hl => ?_)
  refine lv_iconst (v := 0) hx hb dX2_passed_34 (by decide) ?_
  refine lv_istore (lv' := [(8, .int 0), (7, .int 0), (5, .long 0), (3, .long (b 0 2)), (0, .ref (q 0)), (1, .int 1), (2, .int k)]) hx hb dX2_passed_35 hl (by decide) rfl (fun ls hl => ?_)
  refine lv_iload hx hb dX2_passed_37 (lv_at hl 0 rfl) ?_
  refine lv_aload_n hx hb dX2_passed_39 rfl (lv_at hl 4 rfl) ?_
  refine va_get (D := D) (ci := 2) (v := .int (a 0 4)) (C := RX2) (T := TX2) (N := 22) hx hb hts iw_X2 hown hK hP 0 rfl rfl 12 (by decide) (hts _ kf_X2_90) (fun _ h9 => h9) rfl dX2_passed_40 ?_
  rw [hd]
  refine lv_icmp_ge (tgt := 143) hx hb dX2_passed_43 (by decide) (fun c_43 => ?_) (fun c_43 => ?_)
  · -- jump at 43
    refine lv_iconst (v := (-1)) hx hb dX2_passed_143 (by decide) ?_
    exact hret (-1) () _ _ _ _ _ _ (vp_nar_int _) rfl hP hD hS (Nat.le_of_ble_eq_true rfl) (Nat.le_of_ble_eq_true rfl) dX2_passed_144
  · -- on at 43
    refine lv_lload_n hx hb dX2_passed_46 rfl (lv_at hl 3 rfl) ?_
    refine lv_lconst (v := 0) hx hb dX2_passed_47 (by decide) ?_
    refine zl_lt (tgt := 143) hx hb dX2_passed_48 dX2_passed_49 (by decide) (fun _ => ?_) (fun c_48 => absurd hng c_48)
    refine lv_iconst (v := (-1)) hx hb dX2_passed_143 (by decide) ?_
    exact hret (-1) () _ _ _ _ _ _ (vp_nar_int _) rfl hP hD hS (Nat.le_of_ble_eq_true rfl) (Nat.le_of_ble_eq_true rfl) dX2_passed_144
set_option maxHeartbeats 4000000 in
set_option maxRecDepth 100000 in
theorem c_M_passed_o (l : Launch) (D : va_G) (g : Nat → ClassId) (q : Nat → Nat) (a : Nat → Nat → Int32) (b : Nat → Nat → Int64) (x k : Int32) (hx01 : m_within x.toInt64 0 1 = false) : zc_i l D (tyG g) yX2_passed cX2_passed 10 (some .int) rm_M_passed [.ref (q 0), .int x, .int k] (wM g q a b) (fun (r : Int32) (u : Unit) => r = -1) (fun _ => wM g q a b) 0 0 := by
  refine zi_of (by decide) (Nat.le_of_ble_eq_true rfl) rfl ?_
  intro p e s m args below meth cd_ A Q ls C0 hnm hP hD hS hl hret
  obtain ⟨hx, hb, hr, hml, hlocks, hown, hts, hK, hA, hN⟩ := id C0
  have hl : lv_has ls 10 [(0, .ref (q 0)), (1, .int x), (2, .int k)] := hl
  refine lv_iload_n hx hb dX2_passed_0 rfl (lv_at hl 1 rfl) ?_
  refine lv_i2l (v := x.toInt64) hx hb dX2_passed_1 rfl ?_
  refine lv_lconst (v := 0) hx hb dX2_passed_2 (by decide) ?_
  refine lv_lconst (v := 1) hx hb dX2_passed_3 (by decide) ?_
  refine zk_pi (rest := []) C0 hP hD hS (c_M_isIn l D (tyG g) x.toInt64 (0 : Int64) (1 : Int64)) kk_X2_63 hl.1 rfl rfl (Nat.le_of_ble_eq_true rfl) ⟨(Nat.le_of_ble_eq_true rfl), (Nat.le_of_ble_eq_true rfl)⟩ rfl rfl ⟨(Nat.le_of_ble_eq_true rfl), (Nat.le_of_ble_eq_true rfl)⟩ dX2_passed_4 (fun r_4 H locs hw_4 hP hS => ?_)
  obtain rfl := hw_4
  refine lv_if_ne (tgt := 12) hx hb dX2_passed_7 (by decide) (fun c_7 => absurd (by rw [hx01]; rfl) c_7) (fun _ => ?_)
  refine lv_iconst (v := (-1)) hx hb dX2_passed_10 (by decide) ?_
  exact hret (-1) () _ _ _ _ _ _ (vp_nar_int _) rfl hP hD hS (Nat.le_of_ble_eq_true rfl) (Nat.le_of_ble_eq_true rfl) dX2_passed_11
