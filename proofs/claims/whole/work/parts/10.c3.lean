def rm_has : Room := { frames := 0, cells := 0, slots := 0, locals := 0 }
set_option maxHeartbeats 4000000 in
set_option maxRecDepth 100000 in
theorem c_has (l : Launch) (D : va_G) (g : Nat → ClassId) (q : Nat → Nat) (n : Nat) (a : Nat → Nat → Int32) (b : Nat → Nat → Int64) (v : Nat → Nat → Int32) (w : Nat) (hw4 : w < 4) (c : Nat) (hc : a 11 w = nI c) (hc8 : c ≤ 8) (x : Int32) : zc_i l D (tyG g) yX1_has cX1_has 3 (some .boolean) rm_has [.ref (q (11 + w)), .int x] (wL g q n a b v) (fun (r : Int32) (u : Unit) => r = zb (m_has (v w) x c)) (fun _ => wL g q n a b v) 0 0 := by
  refine zi_of (by decide) (Nat.le_of_ble_eq_true rfl) rfl ?_
  intro p e s m args below meth cd_ A Q ls C0 hnm hP hD hS hl hret
  obtain ⟨hx, hb, hr, hml, hlocks, hown, hts, hK, hA, hN⟩ := id C0
  have hl : lv_has ls 3 [(0, .ref (q (11 + w))), (1, .int x)] := hl
  refine lv_iconst (v := 0) hx hb dX1_has_0 (by decide) ?_
  refine lv_istore_n (lv' := [(2, .int 0), (0, .ref (q (11 + w))), (1, .int x)]) hx hb dX1_has_1 rfl hl (by decide) rfl (fun ls hl => ?_)
  have lp_2 : ∀ (t_2 i : Nat) , i + t_2 = c → (∀ j, j < i → ¬ v w j = x) → ∀ (H : Heap) (locs : List Loc) (ls : Array Slot), va_P D vwCl (wL g q n a b v) H → va_D A (wL g q n a b v) → va_S A s.heap H locs → lv_has ls 3 [(2, .int (nI i)), (0, .ref (q (11 + w))), (1, .int x)] → W p l e rm_has s m args below meth cd_ H locs 0 0 Q (F0 m 2 ls []) := by
    intro t_2
    induction t_2 with
    | zero =>
      intro i hi_2 hne H locs ls hP hD hS hl
      obtain rfl : c = i := by omega
      refine lv_iload_n hx hb dX1_has_2 rfl (lv_at hl 0 rfl) ?_
      refine lv_aload_n hx hb dX1_has_3 rfl (lv_at hl 1 rfl) ?_
      refine va_get (D := D) (ci := 1) (v := .int (a 11 w)) (C := RX1) (T := TX1) (N := 3) hx hb hts iw_X1 hown hK hP (11 + w) (wL_w w hw4) rfl 1 (by decide) (hts _ kf_X1_19) (fun _ h9 => h9) rfl dX1_has_4 ?_
      rw [hc]
      refine lv_icmp_ge (tgt := 28) hx hb dX1_has_7 (by decide) (fun _ => ?_) (fun c_7 => absurd (nI_le (Nat.le_refl _) (by omega)) c_7)
      refine lv_iconst (v := 0) hx hb dX1_has_28 (by decide) ?_
      exact hret 0 () _ _ _ _ _ _ rfl (by first | exact m_has_t (by omega) c_17 | exact m_has_f hne) hP hD hS (Nat.le_of_ble_eq_true rfl) (Nat.le_of_ble_eq_true rfl) dX1_has_29
    | succ t_2 ih_2 =>
      intro i hi_2 hne H locs ls hP hD hS hl
      refine lv_iload_n hx hb dX1_has_2 rfl (lv_at hl 0 rfl) ?_
      refine lv_aload_n hx hb dX1_has_3 rfl (lv_at hl 1 rfl) ?_
      refine va_get (D := D) (ci := 1) (v := .int (a 11 w)) (C := RX1) (T := TX1) (N := 3) hx hb hts iw_X1 hown hK hP (11 + w) (wL_w w hw4) rfl 1 (by decide) (hts _ kf_X1_19) (fun _ h9 => h9) rfl dX1_has_4 ?_
      rw [hc]
      refine lv_icmp_ge (tgt := 28) hx hb dX1_has_7 (by decide) (fun c_7 => absurd c_7 (nI_ge (by omega) (by omega))) (fun _ => ?_)
      refine lv_aload_n hx hb dX1_has_10 rfl (lv_at hl 1 rfl) ?_
      refine va_get (D := D) (ci := 1) (v := .ref (q (15 + w))) (C := RX1) (T := TX1) (N := 3) hx hb hts iw_X1 hown hK hP (11 + w) (wL_w w hw4) rfl 0 (by decide) (hts _ kf_X1_9) (fun _ h9 => h9) rfl dX1_has_11 ?_
      refine lv_iload_n hx hb dX1_has_14 rfl (lv_at hl 0 rfl) ?_
      refine za_iald (k := i) (f := (v w)) (v := v w i) hx hb hK hP (15 + w) 0 (wL_v w hw4) rfl rfl (by omega) (by decide) rfl dX1_has_15 ?_
      refine lv_iload_n hx hb dX1_has_16 rfl (lv_at hl 2 rfl) ?_
      refine lv_icmp_ne (tgt := 22) hx hb dX1_has_17 (by decide) (fun c_17 => ?_) (fun c_17 => ?_)
      · -- jump at 17
        refine lv_iinc (v := nI (i + 1)) (lv' := [(2, .int (nI (i + 1))), (0, .ref (q (11 + w))), (1, .int x)]) hx hb dX1_has_22 hl (k := 0) rfl (nI_1 i) (by decide) rfl (fun ls hl => ?_)
        refine lv_goto (tgt := 2) hx hb dX1_has_25 (by decide) ?_
        have hP : va_P D vwCl (wL g q n a b v) _ := hP
        have hD : va_D A (wL g q n a b v) := hD
        have hl : lv_has ls 3 [(2, .int (nI (i + 1))), (0, .ref (q (11 + w))), (1, .int x)] := lv_sub hl [0, 1, 2] rfl
        exact ih_2 (i + 1)  (by omega) (lt_s hne c_17) _ _ _ hP hD hS hl
      · -- on at 17
        refine lv_iconst (v := 1) hx hb dX1_has_20 (by decide) ?_
        exact hret 1 () _ _ _ _ _ _ rfl (by first | exact m_has_t (by omega) c_17 | exact m_has_f hne) hP hD hS (Nat.le_of_ble_eq_true rfl) (Nat.le_of_ble_eq_true rfl) dX1_has_21
  exact lp_2 (c - 0) 0  (by omega) (fun _ h => absurd h (Nat.not_lt_zero _)) _ _ _ hP hD hS (lv_sub hl [0, 1, 2] rfl)
def rm_take : Room := { frames := 1, cells := 0, slots := 0, locals := 22 }
set_option maxHeartbeats 4000000 in
set_option maxRecDepth 100000 in
theorem c_take (l : Launch) (D : va_G) (g : Nat → ClassId) (q : Nat → Nat) (n : Nat) (a : Nat → Nat → Int32) (b : Nat → Nat → Int64) (v : Nat → Nat → Int32) (w : Nat) (hw4 : w < 4) (c : Nat) (hc : a 11 w = nI c) (hc8 : c ≤ 8) (dy x : Int32) : zc_i l D (tyG g) yX1_take cX1_take 3 (some .boolean) rm_take [.ref (q (11 + w)), .int dy, .int x] (wL g q n a b v) (fun (r : Int32) (u : zS) => r = zb (decide (c < 8) && decide (a 12 w < dy) && !(m_has (v w) x c)) ∧ u = if (decide (c < 8) && decide (a 12 w < dy) && !(m_has (v w) x c)) = true then (va_up (va_up a 11 (upd (a 11) w (nI (c + 1)))) 12 (upd (a 12) w dy), b, va_up v w (upd (v w) c x)) else (a, b, v)) (fun u => wL g q n u.1 u.2.1 u.2.2) 0 0 := by
  refine zi_of (by decide) (Nat.le_of_ble_eq_true rfl) rfl ?_
  intro p e s m args below meth cd_ A Q ls C0 hnm hP hD hS hl hret
  obtain ⟨hx, hb, hr, hml, hlocks, hown, hts, hK, hA, hN⟩ := id C0
  have hl : lv_has ls 3 [(0, .ref (q (11 + w))), (1, .int dy), (2, .int x)] := hl
  refine lv_aload_n hx hb dX1_take_0 rfl (lv_at hl 0 rfl) ?_
  refine va_get (D := D) (ci := 1) (v := .int (a 11 w)) (C := RX1) (T := TX1) (N := 3) hx hb hts iw_X1 hown hK hP (11 + w) (wL_w w hw4) rfl 1 (by decide) (hts _ kf_X1_19) (fun _ h9 => h9) rfl dX1_take_1 ?_
  rw [hc]
  refine lv_bipush (v := 8) hx hb dX1_take_4 (by decide) ?_
  refine lv_icmp_ge (tgt := 25) hx hb dX1_take_6 (by decide) (fun c_6 => ?_) (fun c_6 => ?_)
  · -- jump at 6
    have hc1 : ¬ c < 8 := fun h => absurd c_6 (nI_ge (a := c) (b := 8) h (by decide))
    refine lv_iconst (v := 0) hx hb dX1_take_25 (by decide) ?_
    exact hret 0 (a, b, v) _ _ _ _ _ _ rfl (by simp [zb, hc1]) hP hD hS (Nat.le_of_ble_eq_true rfl) (Nat.le_of_ble_eq_true rfl) dX1_take_26
  · -- on at 6
    have hc1 : c < 8 := by rcases Nat.lt_or_ge c 8 with h | h; exact h; exact absurd (nI_le (a := 8) h (by omega)) c_6
    refine lv_iload_n hx hb dX1_take_9 rfl (lv_at hl 1 rfl) ?_
    refine lv_aload_n hx hb dX1_take_10 rfl (lv_at hl 0 rfl) ?_
    refine va_get (D := D) (ci := 1) (v := .int (a 12 w)) (C := RX1) (T := TX1) (N := 3) hx hb hts iw_X1 hown hK hP (11 + w) (wL_w w hw4) rfl 2 (by decide) (hts _ kf_X1_15) (fun _ h9 => h9) rfl dX1_take_11 ?_
    refine lv_icmp_le (tgt := 25) hx hb dX1_take_14 (by decide) (fun c_14 => ?_) (fun c_14 => ?_)
    · -- jump at 14
      have hc2 : ¬ a 12 w < dy := by rw [Int32.lt_iff_toInt_lt]; rw [Int32.le_iff_toInt_le] at c_14; omega
      refine lv_iconst (v := 0) hx hb dX1_take_25 (by decide) ?_
      exact hret 0 (a, b, v) _ _ _ _ _ _ rfl (by simp [zb, hc1, hc2]) hP hD hS (Nat.le_of_ble_eq_true rfl) (Nat.le_of_ble_eq_true rfl) dX1_take_26
    · -- on at 14
      have hc2 : a 12 w < dy := by rw [Int32.lt_iff_toInt_lt]; rw [Int32.le_iff_toInt_le] at c_14; omega
      refine lv_aload_n hx hb dX1_take_17 rfl (lv_at hl 0 rfl) ?_
      refine lv_iload_n hx hb dX1_take_18 rfl (lv_at hl 2 rfl) ?_
      refine zf_vi (rest := []) C0 hP hD hS (c_has l D g q n a b v w hw4 c hc hc8 x) kk_X1_22 kv_X1_22 1 rfl (11 + w) (wL_w w hw4) hl.1 rfl rfl (Nat.le_of_ble_eq_true rfl) ⟨(Nat.le_of_ble_eq_true rfl), (Nat.le_of_ble_eq_true rfl)⟩ rfl rfl ⟨(Nat.le_of_ble_eq_true rfl), (Nat.le_of_ble_eq_true rfl)⟩ dX1_take_19 (fun r_19 u_19 H locs hw_19 hP hD hS => ?_)
      obtain rfl := hw_19
      refine lv_if_eq (tgt := 27) hx hb dX1_take_22 (by decide) (fun c_22 => ?_) (fun c_22 => ?_)
      · -- jump at 22
        have c_22 := zb_f c_22
        refine lv_aload_n hx hb dX1_take_27 rfl (lv_at hl 0 rfl) ?_
        refine va_get (D := D) (ci := 1) (v := .ref (q (15 + w))) (C := RX1) (T := TX1) (N := 3) hx hb hts iw_X1 hown hK hP (11 + w) (wL_w w hw4) rfl 0 (by decide) (hts _ kf_X1_9) (fun _ h9 => h9) rfl dX1_take_28 ?_
        refine lv_aload_n hx hb dX1_take_31 rfl (lv_at hl 0 rfl) ?_
        refine va_get (D := D) (ci := 1) (v := .int (a 11 w)) (C := RX1) (T := TX1) (N := 3) hx hb hts iw_X1 hown hK hP (11 + w) (wL_w w hw4) rfl 1 (by decide) (hts _ kf_X1_19) (fun _ h9 => h9) rfl dX1_take_32 ?_
        rw [hc]
        refine lv_iload_n hx hb dX1_take_35 rfl (lv_at hl 2 rfl) ?_
        refine za_iast (k := c) (x := x) (f := (v w)) hx hb hK hP hD hS (15 + w) 0 (wL_v w hw4) rfl rfl (by omega) (by decide) dX1_take_36 (fun H locs hP hD hS => ?_)
        have hP : va_P D vwCl (wL g q n a b (va_up v w (upd (v w) c x))) H := Eq.mp (congrArg (fun w9 => va_P D vwCl w9 H) (wL_val g q n a b v w (upd (v w) c x) hw4)) hP
        have hD : va_D A (wL g q n a b (va_up v w (upd (v w) c x))) := Eq.mp (congrArg (fun w9 => va_D A w9) (wL_val g q n a b v w (upd (v w) c x) hw4)) hD
        refine lv_aload_n hx hb dX1_take_37 rfl (lv_at hl 0 rfl) ?_
        refine lv_dup hx hb dX1_take_38 rfl ?_
        refine va_get (D := D) (ci := 1) (v := .int (a 11 w)) (C := RX1) (T := TX1) (N := 3) hx hb hts iw_X1 hown hK hP (11 + w) (wL_w w hw4) rfl 1 (by decide) (hts _ kf_X1_19) (fun _ h9 => h9) rfl dX1_take_39 ?_
        rw [hc]
        refine lv_iconst (v := 1) hx hb dX1_take_42 (by decide) ?_
        refine lv_iadd hx hb dX1_take_43 ?_
        rw [show (nI c) + 1 = nI (c + 1) from nI_1 c]
        refine va_put (D := D) (ci := 1) (v := .int (nI (c + 1))) (ty := .int) (C := RX1) (T := TX1) (N := 3) hx hb hts iw_X1 tyX1 tyok_X1 nm_X1 hown hK hP hD hS (11 + w) (wL_w w hw4) rfl 1 (by decide) (hts _ kf_X1_19) (fun _ h9 => h9) rfl (by decide +kernel) rfl rfl (Nat.le_of_ble_eq_true rfl) dX1_take_44 (fun H locs hP hD hS => ?_)
        have hP : va_P D vwCl (wL g q n (va_up a 11 (upd (a 11) w (nI (c + 1)))) b (va_up v w (upd (v w) c x))) H := Eq.mp (congrArg (fun w9 => va_P D vwCl w9 H) (wL_cnt g q n a b (va_up v w (upd (v w) c x)) w (nI (c + 1)) hw4)) hP
        have hD : va_D A (wL g q n (va_up a 11 (upd (a 11) w (nI (c + 1)))) b (va_up v w (upd (v w) c x))) := Eq.mp (congrArg (fun w9 => va_D A w9) (wL_cnt g q n a b (va_up v w (upd (v w) c x)) w (nI (c + 1)) hw4)) hD
        refine lv_aload_n hx hb dX1_take_47 rfl (lv_at hl 0 rfl) ?_
        refine lv_iload_n hx hb dX1_take_48 rfl (lv_at hl 1 rfl) ?_
        refine va_put (D := D) (ci := 1) (v := .int dy) (ty := .int) (C := RX1) (T := TX1) (N := 3) hx hb hts iw_X1 tyX1 tyok_X1 nm_X1 hown hK hP hD hS (11 + w) (wL_w w hw4) rfl 2 (by decide) (hts _ kf_X1_15) (fun _ h9 => h9) rfl (by decide +kernel) rfl rfl (Nat.le_of_ble_eq_true rfl) dX1_take_49 (fun H locs hP hD hS => ?_)
        have hP : va_P D vwCl (wL g q n (va_up (va_up a 11 (upd (a 11) w (nI (c + 1)))) 12 (upd (a 12) w dy)) b (va_up v w (upd (v w) c x))) H := Eq.mp (congrArg (fun w9 => va_P D vwCl w9 H) (wL_lst g q n (va_up a 11 (upd (a 11) w (nI (c + 1)))) b (va_up v w (upd (v w) c x)) w dy hw4)) hP
        have hD : va_D A (wL g q n (va_up (va_up a 11 (upd (a 11) w (nI (c + 1)))) 12 (upd (a 12) w dy)) b (va_up v w (upd (v w) c x))) := Eq.mp (congrArg (fun w9 => va_D A w9) (wL_lst g q n (va_up a 11 (upd (a 11) w (nI (c + 1)))) b (va_up v w (upd (v w) c x)) w dy hw4)) hD
        refine lv_iconst (v := 1) hx hb dX1_take_52 (by decide) ?_
        exact hret 1 (va_up (va_up a 11 (upd (a 11) w (nI (c + 1)))) 12 (upd (a 12) w dy), b, va_up v w (upd (v w) c x)) _ _ _ _ _ _ rfl (by simp [zb, hc1, hc2, c_22]) hP hD hS (Nat.le_of_ble_eq_true rfl) (Nat.le_of_ble_eq_true rfl) dX1_take_53
      · -- on at 22
        have c_22 := zb_t c_22
        refine lv_iconst (v := 0) hx hb dX1_take_25 (by decide) ?_
        exact hret 0 (a, b, v) _ _ _ _ _ _ rfl (by simp [zb, hc1, hc2, c_22]) hP hD hS (Nat.le_of_ble_eq_true rfl) (Nat.le_of_ble_eq_true rfl) dX1_take_26
def rm_risesLessFalls : Room := { frames := 1, cells := 0, slots := 0, locals := 21 }
set_option maxHeartbeats 4000000 in
set_option maxRecDepth 100000 in
theorem c_risesLessFalls (l : Launch) (D : va_G) (g : Nat → ClassId) (q : Nat → Nat) (n : Nat) (a : Nat → Nat → Int32) (b : Nat → Nat → Int64) (v : Nat → Nat → Int32) (w : Nat) (hw4 : w < 4) (c : Nat) (hc : a 11 w = nI c) (hc8 : c ≤ 8) : zc_i l D (tyG g) yX1_risesLessFalls cX1_risesLessFalls 4 (some .int) rm_risesLessFalls [.ref (q (11 + w))] (wL g q n a b v) (fun (r : Int32) (u : Unit) => r = m_ro (v w) (c - 1)) (fun _ => wL g q n a b v) 0 0 := by
  refine zi_of (by decide) (Nat.le_of_ble_eq_true rfl) rfl ?_
  intro p e s m args below meth cd_ A Q ls C0 hnm hP hD hS hl hret
  obtain ⟨hx, hb, hr, hml, hlocks, hown, hts, hK, hA, hN⟩ := id C0
  have hl : lv_has ls 4 [(0, .ref (q (11 + w)))] := hl
  refine lv_iconst (v := 0) hx hb dX1_risesLessFalls_0 (by decide) ?_
  refine lv_istore_n (lv' := [(1, .int 0), (0, .ref (q (11 + w)))]) hx hb dX1_risesLessFalls_1 rfl hl (by decide) rfl (fun ls hl => ?_)
  refine lv_iconst (v := 1) hx hb dX1_risesLessFalls_2 (by decide) ?_
  refine lv_istore_n (lv' := [(2, .int 1), (1, .int 0), (0, .ref (q (11 + w)))]) hx hb dX1_risesLessFalls_3 rfl hl (by decide) rfl (fun ls hl => ?_)
  have lp_4 : ∀ (t_4 j : Nat) , j + t_4 = (c - 1) → ∀ (H : Heap) (locs : List Loc) (ls : Array Slot), va_P D vwCl (wL g q n a b v) H → va_D A (wL g q n a b v) → va_S A s.heap H locs → lv_has ls 4 [(2, .int (nI (1 + j))), (1, .int (m_ro (v w) j)), (0, .ref (q (11 + w)))] → W p l e rm_risesLessFalls s m args below meth cd_ H locs 0 0 Q (F0 m 4 ls []) := by
    intro t_4
    induction t_4 with
    | zero =>
      intro j hi_4 H locs ls hP hD hS hl
      obtain rfl : (c - 1) = j := by omega
      refine lv_iload_n hx hb dX1_risesLessFalls_4 rfl (lv_at hl 0 rfl) ?_
      refine lv_aload_n hx hb dX1_risesLessFalls_5 rfl (lv_at hl 2 rfl) ?_
      refine va_get (D := D) (ci := 1) (v := .int (a 11 w)) (C := RX1) (T := TX1) (N := 3) hx hb hts iw_X1 hown hK hP (11 + w) (wL_w w hw4) rfl 1 (by decide) (hts _ kf_X1_19) (fun _ h9 => h9) rfl dX1_risesLessFalls_6 ?_
      rw [hc]
      refine lv_icmp_ge (tgt := 49) hx hb dX1_risesLessFalls_9 (by decide) (fun _ => ?_) (fun c_9 => absurd (nI_le (by omega) (by omega)) c_9)
      refine lv_iload_n hx hb dX1_risesLessFalls_49 rfl (lv_at hl 1 rfl) ?_
      exact hret (m_ro (v w) (c - 1)) () _ _ _ _ _ _ (vp_nar_int _) rfl hP hD hS (Nat.le_of_ble_eq_true rfl) (Nat.le_of_ble_eq_true rfl) dX1_risesLessFalls_50
    | succ t_4 ih_4 =>
      intro j hi_4 H locs ls hP hD hS hl
      refine lv_iload_n hx hb dX1_risesLessFalls_4 rfl (lv_at hl 0 rfl) ?_
      refine lv_aload_n hx hb dX1_risesLessFalls_5 rfl (lv_at hl 2 rfl) ?_
      refine va_get (D := D) (ci := 1) (v := .int (a 11 w)) (C := RX1) (T := TX1) (N := 3) hx hb hts iw_X1 hown hK hP (11 + w) (wL_w w hw4) rfl 1 (by decide) (hts _ kf_X1_19) (fun _ h9 => h9) rfl dX1_risesLessFalls_6 ?_
      rw [hc]
      refine lv_icmp_ge (tgt := 49) hx hb dX1_risesLessFalls_9 (by decide) (fun c_9 => absurd c_9 (nI_ge (by omega) (by omega))) (fun _ => ?_)
      refine lv_iconst (v := 0) hx hb dX1_risesLessFalls_12 (by decide) ?_
      refine lv_istore_n (lv' := [(3, .int 0), (2, .int (nI (1 + j))), (1, .int (m_ro (v w) j)), (0, .ref (q (11 + w)))]) hx hb dX1_risesLessFalls_13 rfl hl (by decide) rfl (fun ls hl => ?_)
      have lp_14 : ∀ (t_14 i : Nat) , i + t_14 = (1 + j) → ∀ (H : Heap) (locs : List Loc) (ls : Array Slot), va_P D vwCl (wL g q n a b v) H → va_D A (wL g q n a b v) → va_S A s.heap H locs → lv_has ls 4 [(3, .int (nI i)), (1, .int (m_ri (v w) (1 + j) (m_ro (v w) j) i)), (0, .ref (q (11 + w))), (2, .int (nI (1 + j)))] → W p l e rm_risesLessFalls s m args below meth cd_ H locs 0 0 Q (F0 m 14 ls []) := by
        intro t_14
        induction t_14 with
        | zero =>
          intro i hi_14 H locs ls hP hD hS hl
          obtain rfl : (1 + j) = i := by omega
          refine lv_iload_n hx hb dX1_risesLessFalls_14 rfl (lv_at hl 0 rfl) ?_
          refine lv_iload_n hx hb dX1_risesLessFalls_15 rfl (lv_at hl 3 rfl) ?_
          refine lv_icmp_ge (tgt := 43) hx hb dX1_risesLessFalls_16 (by decide) (fun _ => ?_) (fun c_16 => absurd (nI_le (Nat.le_refl _) (by omega)) c_16)
          refine lv_iinc (v := nI ((1 + j) + 1)) (lv' := [(2, .int (nI ((1 + j) + 1))), (3, .int (nI (1 + j))), (1, .int (m_ri (v w) (1 + j) (m_ro (v w) j) (1 + j))), (0, .ref (q (11 + w)))]) hx hb dX1_risesLessFalls_43 hl (k := 3) rfl (nI_1 (1 + j)) (by decide) rfl (fun ls hl => ?_)
          refine lv_goto (tgt := 4) hx hb dX1_risesLessFalls_46 (by decide) ?_
          have hP : va_P D vwCl (wL g q n a b v) _ := hP
          have hD : va_D A (wL g q n a b v) := hD
          have hl : lv_has ls 4 [(2, .int (nI (1 + (j + 1)))), (1, .int (m_ro (v w) (j + 1))), (0, .ref (q (11 + w)))] := lv_sub hl [0, 2, 3] rfl
          exact ih_4 (j + 1)  (by omega)  _ _ _ hP hD hS hl
        | succ t_14 ih_14 =>
          intro i hi_14 H locs ls hP hD hS hl
          refine lv_iload_n hx hb dX1_risesLessFalls_14 rfl (lv_at hl 0 rfl) ?_
          refine lv_iload_n hx hb dX1_risesLessFalls_15 rfl (lv_at hl 3 rfl) ?_
          refine lv_icmp_ge (tgt := 43) hx hb dX1_risesLessFalls_16 (by decide) (fun c_16 => absurd c_16 (nI_ge (by omega) (by omega))) (fun _ => ?_)
          refine lv_iload_n hx hb dX1_risesLessFalls_19 rfl (lv_at hl 1 rfl) ?_
          refine lv_aload_n hx hb dX1_risesLessFalls_20 rfl (lv_at hl 2 rfl) ?_
          refine va_get (D := D) (ci := 1) (v := .ref (q (15 + w))) (C := RX1) (T := TX1) (N := 3) hx hb hts iw_X1 hown hK hP (11 + w) (wL_w w hw4) rfl 0 (by decide) (hts _ kf_X1_9) (fun _ h9 => h9) rfl dX1_risesLessFalls_21 ?_
          refine lv_iload_n hx hb dX1_risesLessFalls_24 rfl (lv_at hl 3 rfl) ?_
          refine za_iald (k := (1 + j)) (f := (v w)) (v := v w (1 + j)) hx hb hK hP (15 + w) 0 (wL_v w hw4) rfl rfl (by omega) (by decide) rfl dX1_risesLessFalls_25 ?_
          refine lv_aload_n hx hb dX1_risesLessFalls_26 rfl (lv_at hl 2 rfl) ?_
          refine va_get (D := D) (ci := 1) (v := .ref (q (15 + w))) (C := RX1) (T := TX1) (N := 3) hx hb hts iw_X1 hown hK hP (11 + w) (wL_w w hw4) rfl 0 (by decide) (hts _ kf_X1_9) (fun _ h9 => h9) rfl dX1_risesLessFalls_27 ?_
          refine lv_iload_n hx hb dX1_risesLessFalls_30 rfl (lv_at hl 0 rfl) ?_
          refine za_iald (k := i) (f := (v w)) (v := v w i) hx hb hK hP (15 + w) 0 (wL_v w hw4) rfl rfl (by omega) (by decide) rfl dX1_risesLessFalls_31 ?_
          refine zk_pi (rest := [.int (m_ri (v w) (1 + j) (m_ro (v w) j) i)]) C0 hP hD hS (c_compare l D (tyG g) (v w (1 + j)) (v w i)) kk_X1_26 hl.1 rfl rfl (Nat.le_of_ble_eq_true rfl) ⟨(Nat.le_of_ble_eq_true rfl), (Nat.le_of_ble_eq_true rfl)⟩ rfl rfl ⟨(Nat.le_of_ble_eq_true rfl), (Nat.le_of_ble_eq_true rfl)⟩ dX1_risesLessFalls_32 (fun r_32 H locs hw_32 hP hS => ?_)
          obtain rfl := hw_32
          refine lv_iadd hx hb dX1_risesLessFalls_35 ?_
          refine lv_istore_n (lv' := [(1, .int ((m_ri (v w) (1 + j) (m_ro (v w) j) i) + (m_cmp (v w (1 + j)) (v w i)))), (3, .int (nI i)), (0, .ref (q (11 + w))), (2, .int (nI (1 + j)))]) hx hb dX1_risesLessFalls_36 rfl hl (by decide) rfl (fun ls hl => ?_)
          refine lv_iinc (v := nI (i + 1)) (lv' := [(3, .int (nI (i + 1))), (1, .int ((m_ri (v w) (1 + j) (m_ro (v w) j) i) + (m_cmp (v w (1 + j)) (v w i)))), (0, .ref (q (11 + w))), (2, .int (nI (1 + j)))]) hx hb dX1_risesLessFalls_37 hl (k := 1) rfl (nI_1 i) (by decide) rfl (fun ls hl => ?_)
          refine lv_goto (tgt := 14) hx hb dX1_risesLessFalls_40 (by decide) ?_
          have hP : va_P D vwCl (wL g q n a b v) _ := hP
          have hD : va_D A (wL g q n a b v) := hD
          have hl : lv_has ls 4 [(3, .int (nI (i + 1))), (1, .int (m_ri (v w) (1 + j) (m_ro (v w) j) (i + 1))), (0, .ref (q (11 + w))), (2, .int (nI (1 + j)))] := lv_sub hl [0, 1, 2, 3] rfl
          exact ih_14 (i + 1)  (by omega)  _ _ _ hP hD hS hl
      exact lp_14 ((1 + j) - 0) 0  (by omega)  _ _ _ hP hD hS (lv_sub hl [0, 2, 3, 1] rfl)
  exact lp_4 ((c - 1) - 0) 0  (by omega)  _ _ _ hP hD hS (lv_sub hl [0, 1, 2] rfl)
def rm_ordersOf : Room := { frames := 0, cells := 0, slots := 0, locals := 0 }
set_option maxHeartbeats 4000000 in
set_option maxRecDepth 100000 in
theorem c_ordersOf (l : Launch) (D : va_G) (tys : List (ClassId × FieldType)) (c : Nat) (hc8 : c ≤ 8) : zc_i l D tys yX0_ordersOf cX0_ordersOf 3 (some .int) rm_ordersOf [.int (nI c)] ([]) (fun (r : Int32) (u : Unit) => r = m_oo (c - 1)) (fun _ => []) 0 0 := by
  refine zi_of (by decide) (Nat.le_of_ble_eq_true rfl) rfl ?_
  intro p e s m args below meth cd_ A Q ls C0 hnm hP hD hS hl hret
  obtain ⟨hx, hb, hr, hml, hlocks, hown, hts, hK, hA, hN⟩ := id C0
  have hl : lv_has ls 3 [(0, .int (nI c))] := hl
  refine lv_iconst (v := 1) hx hb dX0_ordersOf_0 (by decide) ?_
  refine lv_istore_n (lv' := [(1, .int 1), (0, .int (nI c))]) hx hb dX0_ordersOf_1 rfl hl (by decide) rfl (fun ls hl => ?_)
  refine lv_iconst (v := 2) hx hb dX0_ordersOf_2 (by decide) ?_
  refine lv_istore_n (lv' := [(2, .int 2), (1, .int 1), (0, .int (nI c))]) hx hb dX0_ordersOf_3 rfl hl (by decide) rfl (fun ls hl => ?_)
  have lp_4 : ∀ (t_4 i : Nat) , i + t_4 = (c - 1) → ∀ (H : Heap) (locs : List Loc) (ls : Array Slot), va_P D vwCl ([] : va_W) H → va_D A ([] : va_W) → va_S A s.heap H locs → lv_has ls 3 [(2, .int (nI (2 + i))), (1, .int (m_oo i)), (0, .int (nI c))] → W p l e rm_ordersOf s m args below meth cd_ H locs 0 0 Q (F0 m 4 ls []) := by
    intro t_4
    induction t_4 with
    | zero =>
      intro i hi_4 H locs ls hP hD hS hl
      obtain rfl : (c - 1) = i := by omega
      refine lv_iload_n hx hb dX0_ordersOf_4 rfl (lv_at hl 0 rfl) ?_
      refine lv_iload_n hx hb dX0_ordersOf_5 rfl (lv_at hl 2 rfl) ?_
      refine lv_icmp_gt (tgt := 19) hx hb dX0_ordersOf_6 (by decide) (fun _ => ?_) (fun c_6 => absurd (nI_lt (by omega) (by omega)) c_6)
      refine lv_iload_n hx hb dX0_ordersOf_19 rfl (lv_at hl 1 rfl) ?_
      exact hret (m_oo (c - 1)) () _ _ _ _ _ _ (vp_nar_int _) rfl hP hD hS (Nat.le_of_ble_eq_true rfl) (Nat.le_of_ble_eq_true rfl) dX0_ordersOf_20
    | succ t_4 ih_4 =>
      intro i hi_4 H locs ls hP hD hS hl
      refine lv_iload_n hx hb dX0_ordersOf_4 rfl (lv_at hl 0 rfl) ?_
      refine lv_iload_n hx hb dX0_ordersOf_5 rfl (lv_at hl 2 rfl) ?_
      refine lv_icmp_gt (tgt := 19) hx hb dX0_ordersOf_6 (by decide) (fun c_6 => absurd c_6 (nI_nlt (by omega) (by omega))) (fun _ => ?_)
      refine lv_iload_n hx hb dX0_ordersOf_9 rfl (lv_at hl 1 rfl) ?_
      refine lv_iload_n hx hb dX0_ordersOf_10 rfl (lv_at hl 0 rfl) ?_
      refine lv_imul hx hb dX0_ordersOf_11 ?_
      refine lv_istore_n (lv' := [(1, .int ((m_oo i) * (nI (2 + i)))), (2, .int (nI (2 + i))), (0, .int (nI c))]) hx hb dX0_ordersOf_12 rfl hl (by decide) rfl (fun ls hl => ?_)
      refine lv_iinc (v := nI ((2 + i) + 1)) (lv' := [(2, .int (nI ((2 + i) + 1))), (1, .int ((m_oo i) * (nI (2 + i)))), (0, .int (nI c))]) hx hb dX0_ordersOf_13 hl (k := 1) rfl (nI_1 (2 + i)) (by decide) rfl (fun ls hl => ?_)
      refine lv_goto (tgt := 4) hx hb dX0_ordersOf_16 (by decide) ?_
      have hP : va_P D vwCl ([] : va_W) _ := hP
      have hD : va_D A ([] : va_W) := hD
      have hl : lv_has ls 3 [(2, .int (nI (2 + (i + 1)))), (1, .int (m_oo (i + 1))), (0, .int (nI c))] := lv_sub hl [0, 1, 2] rfl
      exact ih_4 (i + 1)  (by omega)  _ _ _ hP hD hS hl
  exact lp_4 ((c - 1) - 0) 0  (by omega)  _ _ _ hP hD hS (lv_sub hl [0, 1, 2] rfl)
def rm_commonDivisor : Room := { frames := 1, cells := 0, slots := 0, locals := 21 }
set_option maxHeartbeats 4000000 in
set_option maxRecDepth 100000 in
theorem c_commonDivisor (l : Launch) (D : va_G) (tys : List (ClassId × FieldType)) (x0 y0 : Int32) : zc_i l D tys yX0_commonDivisor cX0_commonDivisor 6 (some .int) rm_commonDivisor [.int x0, .int y0] ([]) (fun (r : Int32) (u : Unit) => r = m_gcd 64 x0 y0) (fun _ => []) 0 0 := by
  refine zi_of (by decide) (Nat.le_of_ble_eq_true rfl) rfl ?_
  intro p e s m args below meth cd_ A Q ls C0 hnm hP hD hS hl hret
  obtain ⟨hx, hb, hr, hml, hlocks, hown, hts, hK, hA, hN⟩ := id C0
  have hl : lv_has ls 6 [(0, .int x0), (1, .int y0)] := hl
  refine lv_iload_n hx hb dX0_commonDivisor_0 rfl (lv_at hl 0 rfl) ?_
  refine lv_istore_n (lv' := [(2, .int x0), (0, .int x0), (1, .int y0)]) hx hb dX0_commonDivisor_1 rfl hl (by decide) rfl (fun ls hl => ?_)
  refine lv_iload_n hx hb dX0_commonDivisor_2 rfl (lv_at hl 2 rfl) ?_
  refine lv_istore_n (lv' := [(3, .int y0), (2, .int x0), (0, .int x0), (1, .int y0)]) hx hb dX0_commonDivisor_3 rfl hl (by decide) rfl (fun ls hl => ?_)
  refine lv_iconst (v := 0) hx hb dX0_commonDivisor_4 (by decide) ?_
  refine lv_istore (lv' := [(4, .int 0), (3, .int y0), (2, .int x0), (0, .int x0), (1, .int y0)]) hx hb dX0_commonDivisor_5 hl (by decide) rfl (fun ls hl => ?_)
  have lp_7 : ∀ (t_7 i : Nat) (x : Int32) (y : Int32), i + t_7 = 64 → m_gcd 64 x0 y0 = m_gcd t_7 x y → ∀ (H : Heap) (locs : List Loc) (ls : Array Slot), va_P D vwCl ([] : va_W) H → va_D A ([] : va_W) → va_S A s.heap H locs → lv_has ls 6 [(4, .int (nI i)), (2, .int x), (3, .int y), (0, .int x0), (1, .int y0)] → W p l e rm_commonDivisor s m args below meth cd_ H locs 0 0 Q (F0 m 7 ls []) := by
    intro t_7
    induction t_7 with
    | zero =>
      intro i x y hi_7 heq H locs ls hP hD hS hl
      obtain rfl : 64 = i := by omega
      refine lv_iload hx hb dX0_commonDivisor_7 (lv_at hl 0 rfl) ?_
      refine lv_bipush (v := 64) hx hb dX0_commonDivisor_9 (by decide) ?_
      refine lv_icmp_ge (tgt := 34) hx hb dX0_commonDivisor_11 (by decide) (fun _ => ?_) (fun c_11 => absurd (nI_le (a := 64) (Nat.le_refl _) (by omega)) c_11)
      refine lv_iconst (v := 1) hx hb dX0_commonDivisor_34 (by decide) ?_
      refine lv_iload_n hx hb dX0_commonDivisor_35 rfl (lv_at hl 1 rfl) ?_
      refine va_mmax hx hb (hml.trans hl.1.symm) hown (hts _ kl_X0_192) (hts _ ks_max_int) (hts _ ki_Math) (hts _ kc_max_int) (Nat.le_of_ble_eq_true rfl) (Nat.le_of_ble_eq_true rfl) (Nat.le_of_ble_eq_true rfl) (Nat.le_of_ble_eq_true rfl) dX0_commonDivisor_36 ?_
      exact hret (m_mx1 x) () _ _ _ _ _ _ (vp_nar_int _) (by first | exact (heq.trans (if_pos c_15)).symm | exact heq.symm) hP hD hS (Nat.le_of_ble_eq_true rfl) (Nat.le_of_ble_eq_true rfl) dX0_commonDivisor_39
    | succ t_7 ih_7 =>
      intro i x y hi_7 heq H locs ls hP hD hS hl
      refine lv_iload hx hb dX0_commonDivisor_7 (lv_at hl 0 rfl) ?_
      refine lv_bipush (v := 64) hx hb dX0_commonDivisor_9 (by decide) ?_
      refine lv_icmp_ge (tgt := 34) hx hb dX0_commonDivisor_11 (by decide) (fun c_11 => absurd c_11 (nI_ge (a := i) (b := 64) (by omega) (by omega))) (fun _ => ?_)
      refine lv_iload_n hx hb dX0_commonDivisor_14 rfl (lv_at hl 2 rfl) ?_
      refine lv_if_eq (tgt := 34) hx hb dX0_commonDivisor_15 (by decide) (fun c_15 => ?_) (fun c_15 => ?_)
      · -- jump at 15
        refine lv_iconst (v := 1) hx hb dX0_commonDivisor_34 (by decide) ?_
        refine lv_iload_n hx hb dX0_commonDivisor_35 rfl (lv_at hl 1 rfl) ?_
        refine va_mmax hx hb (hml.trans hl.1.symm) hown (hts _ kl_X0_192) (hts _ ks_max_int) (hts _ ki_Math) (hts _ kc_max_int) (Nat.le_of_ble_eq_true rfl) (Nat.le_of_ble_eq_true rfl) (Nat.le_of_ble_eq_true rfl) (Nat.le_of_ble_eq_true rfl) dX0_commonDivisor_36 ?_
        exact hret (m_mx1 x) () _ _ _ _ _ _ (vp_nar_int _) (by first | exact (heq.trans (if_pos c_15)).symm | exact heq.symm) hP hD hS (Nat.le_of_ble_eq_true rfl) (Nat.le_of_ble_eq_true rfl) dX0_commonDivisor_39
      · -- on at 15
        refine lv_iload_n hx hb dX0_commonDivisor_18 rfl (lv_at hl 1 rfl) ?_
        refine lv_iload_n hx hb dX0_commonDivisor_19 rfl (lv_at hl 2 rfl) ?_
        refine lv_irem hx hb dX0_commonDivisor_20 c_15 ?_
        refine lv_istore (lv' := [(5, .int (x - x / y * y)), (4, .int (nI i)), (2, .int x), (3, .int y), (0, .int x0), (1, .int y0)]) hx hb dX0_commonDivisor_21 hl (by decide) rfl (fun ls hl => ?_)
        refine lv_iload_n hx hb dX0_commonDivisor_23 rfl (lv_at hl 3 rfl) ?_
        refine lv_istore_n (lv' := [(2, .int y), (5, .int (x - x / y * y)), (4, .int (nI i)), (3, .int y), (0, .int x0), (1, .int y0)]) hx hb dX0_commonDivisor_24 rfl hl (by decide) rfl (fun ls hl => ?_)
        refine lv_iload hx hb dX0_commonDivisor_25 (lv_at hl 1 rfl) ?_
        refine lv_istore_n (lv' := [(3, .int (x - x / y * y)), (2, .int y), (5, .int (x - x / y * y)), (4, .int (nI i)), (0, .int x0), (1, .int y0)]) hx hb dX0_commonDivisor_27 rfl hl (by decide) rfl (fun ls hl => ?_)
        refine lv_iinc (v := nI (i + 1)) (lv' := [(4, .int (nI (i + 1))), (3, .int (x - x / y * y)), (2, .int y), (5, .int (x - x / y * y)), (0, .int x0), (1, .int y0)]) hx hb dX0_commonDivisor_28 hl (k := 3) rfl (nI_1 i) (by decide) rfl (fun ls hl => ?_)
        refine lv_goto (tgt := 7) hx hb dX0_commonDivisor_31 (by decide) ?_
        have hP : va_P D vwCl ([] : va_W) _ := hP
        have hD : va_D A ([] : va_W) := hD
        have hl : lv_has ls 6 [(4, .int (nI (i + 1))), (2, .int y), (3, .int (x - x / y * y)), (0, .int x0), (1, .int y0)] := lv_sub hl [0, 2, 1, 4, 5] rfl
        exact ih_7 (i + 1) y (x - x / y * y) (by omega) (heq.trans (if_neg c_15)) _ _ _ hP hD hS hl
  exact lp_7 (64 - 0) 0 x0 y0 (by omega) rfl _ _ _ hP hD hS (lv_sub hl [0, 2, 1, 3, 4] rfl)
def rm_addValueToOrders : Room := { frames := 0, cells := 0, slots := 0, locals := 0 }
set_option maxHeartbeats 4000000 in
set_option maxRecDepth 100000 in
theorem c_addValueToOrders (l : Launch) (D : va_G) (g : Nat → ClassId) (q : Nat → Nat) (n : Nat) (a : Nat → Nat → Int32) (b : Nat → Nat → Int64) (v : Nat → Nat → Int32) (z : Nat) (hz : 2 ≤ z ∧ z ≤ 8) : zc_v l D (tyG g) yX0_addValueToOrders cX0_addValueToOrders 3 none rm_addValueToOrders [.ref (q 0), .int (nI z)] (wL g q n a b v) (fun (u : (Nat → Int32)) => u = m_av z (a 10)) (fun u => wL g q n (va_up a 10 u) b v) 0 0 := by
  refine zv_of (by decide) (Nat.le_of_ble_eq_true rfl) rfl ?_
  intro p e s m args below meth cd_ A Q ls C0 hnm hP hD hS hl hret
  obtain ⟨hx, hb, hr, hml, hlocks, hown, hts, hK, hA, hN⟩ := id C0
  have hl : lv_has ls 3 [(0, .ref (q 0)), (1, .int (nI z))] := hl
  refine lv_iconst (v := 1) hx hb dX0_addValueToOrders_0 (by decide) ?_
  refine lv_istore_n (lv' := [(2, .int 1), (0, .ref (q 0)), (1, .int (nI z))]) hx hb dX0_addValueToOrders_1 rfl hl (by decide) rfl (fun ls hl => ?_)
  have lp_2 : ∀ (t_2 i : Nat) , i + t_2 = 28 → ∀ (H : Heap) (locs : List Loc) (ls : Array Slot), va_P D vwCl (wL g q n (va_up a 10 (m_av1 (a 10) i)) b v) H → va_D A (wL g q n (va_up a 10 (m_av1 (a 10) i)) b v) → va_S A s.heap H locs → lv_has ls 3 [(2, .int (nI (1 + i))), (0, .ref (q 0)), (1, .int (nI z))] → W p l e rm_addValueToOrders s m args below meth cd_ H locs 0 0 Q (F0 m 2 ls []) := by
    intro t_2
    induction t_2 with
    | zero =>
      intro i hi_2 H locs ls hP hD hS hl
      obtain rfl : 28 = i := by omega
      refine lv_iload_n hx hb dX0_addValueToOrders_2 rfl (lv_at hl 0 rfl) ?_
      refine lv_aload_n hx hb dX0_addValueToOrders_3 rfl (lv_at hl 1 rfl) ?_
      refine va_get (D := D) (ci := 0) (v := .ref (q 10)) (C := RX0) (T := TX0) (N := 18) hx hb hts iw_X0 hown hK hP 0 rfl rfl 9 (by decide) (hts _ kf_X0_32) (fun _ h9 => h9) rfl dX0_addValueToOrders_4 ?_
      refine va_alen (v := 29) hx hb hK hP 10 0 rfl rfl rfl dX0_addValueToOrders_7 ?_
      refine lv_icmp_ge (tgt := 34) hx hb dX0_addValueToOrders_8 (by decide) (fun _ => ?_) (fun c_8 => absurd (nI_le (a := 29) (by omega) (by omega)) c_8)
      refine lv_aload_n hx hb dX0_addValueToOrders_34 rfl (lv_at hl 1 rfl) ?_
      refine va_get (D := D) (ci := 0) (v := .ref (q 10)) (C := RX0) (T := TX0) (N := 18) hx hb hts iw_X0 hown hK hP 0 rfl rfl 9 (by decide) (hts _ kf_X0_32) (fun _ h9 => h9) rfl dX0_addValueToOrders_35 ?_
      refine va_alen (v := 29) hx hb hK hP 10 0 rfl rfl rfl dX0_addValueToOrders_38 ?_
      refine lv_iconst (v := 1) hx hb dX0_addValueToOrders_39 (by decide) ?_
      refine lv_isub hx hb dX0_addValueToOrders_40 ?_
      rw [show 29 - 1 = nI 28 from (by decide)]
      refine lv_istore_n (lv' := [(2, .int (nI 28)), (0, .ref (q 0)), (1, .int (nI z))]) hx hb dX0_addValueToOrders_41 rfl hl (by decide) rfl (fun ls hl => ?_)
      have lp_42 : ∀ (t_42 i : Nat) , i + t_42 = (29 - z) → ∀ (H : Heap) (locs : List Loc) (ls : Array Slot), va_P D vwCl (wL g q n (va_up a 10 (m_av2 z (m_av1 (a 10) 28) i)) b v) H → va_D A (wL g q n (va_up a 10 (m_av2 z (m_av1 (a 10) 28) i)) b v) → va_S A s.heap H locs → lv_has ls 3 [(2, .int (nI (28 - i))), (0, .ref (q 0)), (1, .int (nI z))] → W p l e rm_addValueToOrders s m args below meth cd_ H locs 0 0 Q (F0 m 42 ls []) := by
        intro t_42
        induction t_42 with
        | zero =>
          intro i hi_42 H locs ls hP hD hS hl
          obtain rfl : (29 - z) = i := by omega
          refine lv_iload_n hx hb dX0_addValueToOrders_42 rfl (lv_at hl 0 rfl) ?_
          refine lv_iload_n hx hb dX0_addValueToOrders_43 rfl (lv_at hl 2 rfl) ?_
          refine lv_icmp_lt (tgt := 70) hx hb dX0_addValueToOrders_44 (by decide) (fun _ => ?_) (fun c_44 => absurd (nI_lt (by omega) (by omega)) c_44)
          exact hret (m_av2 z (m_av1 (a 10) 28) (29 - z)) _ _ _ _ _ _ rfl hP hD hS (Nat.le_of_ble_eq_true rfl) (Nat.le_of_ble_eq_true rfl) dX0_addValueToOrders_70
        | succ t_42 ih_42 =>
          intro i hi_42 H locs ls hP hD hS hl
          refine lv_iload_n hx hb dX0_addValueToOrders_42 rfl (lv_at hl 0 rfl) ?_
          refine lv_iload_n hx hb dX0_addValueToOrders_43 rfl (lv_at hl 2 rfl) ?_
          refine lv_icmp_lt (tgt := 70) hx hb dX0_addValueToOrders_44 (by decide) (fun c_44 => absurd c_44 (nI_nlt (by omega) (by omega))) (fun _ => ?_)
          refine lv_aload_n hx hb dX0_addValueToOrders_47 rfl (lv_at hl 1 rfl) ?_
          refine va_get (D := D) (ci := 0) (v := .ref (q 10)) (C := RX0) (T := TX0) (N := 18) hx hb hts iw_X0 hown hK hP 0 rfl rfl 9 (by decide) (hts _ kf_X0_32) (fun _ h9 => h9) rfl dX0_addValueToOrders_48 ?_
          refine lv_iload_n hx hb dX0_addValueToOrders_51 rfl (lv_at hl 0 rfl) ?_
          refine lv_dup2_11 hx hb dX0_addValueToOrders_52 rfl rfl ?_
          refine za_iald (k := (28 - i)) (f := (m_av2 z (m_av1 (a 10) 28) i)) (v := (m_av2 z (m_av1 (a 10) 28) i) (28 - i)) hx hb hK hP 10 0 rfl rfl rfl (by omega) (by decide) rfl dX0_addValueToOrders_53 ?_
          refine lv_aload_n hx hb dX0_addValueToOrders_54 rfl (lv_at hl 1 rfl) ?_
          refine va_get (D := D) (ci := 0) (v := .ref (q 10)) (C := RX0) (T := TX0) (N := 18) hx hb hts iw_X0 hown hK hP 0 rfl rfl 9 (by decide) (hts _ kf_X0_32) (fun _ h9 => h9) rfl dX0_addValueToOrders_55 ?_
          refine lv_iload_n hx hb dX0_addValueToOrders_58 rfl (lv_at hl 0 rfl) ?_
          refine lv_iload_n hx hb dX0_addValueToOrders_59 rfl (lv_at hl 2 rfl) ?_
          refine lv_isub hx hb dX0_addValueToOrders_60 ?_
          rw [show (nI (28 - i)) - (nI z) = nI (28 - i - z) from (pk_sub (by omega))]
          refine za_iald (k := (28 - i - z)) (f := (m_av2 z (m_av1 (a 10) 28) i)) (v := (m_av2 z (m_av1 (a 10) 28) i) (28 - i - z)) hx hb hK hP 10 0 rfl rfl rfl (by omega) (by decide) rfl dX0_addValueToOrders_61 ?_
          refine lv_isub hx hb dX0_addValueToOrders_62 ?_
          refine za_iast (k := (28 - i)) (x := ((m_av2 z (m_av1 (a 10) 28) i) (28 - i)) - ((m_av2 z (m_av1 (a 10) 28) i) (28 - i - z))) (f := (m_av2 z (m_av1 (a 10) 28) i)) hx hb hK hP hD hS 10 0 rfl rfl rfl (by omega) (by decide) dX0_addValueToOrders_63 (fun H locs hP hD hS => ?_)
          have hP : va_P D vwCl (wL g q n (va_up a 10 (upd (m_av2 z (m_av1 (a 10) 28) i) (28 - i) (((m_av2 z (m_av1 (a 10) 28) i) (28 - i)) - ((m_av2 z (m_av1 (a 10) 28) i) (28 - i - z))))) b v) H := hP
          have hD : va_D A (wL g q n (va_up a 10 (upd (m_av2 z (m_av1 (a 10) 28) i) (28 - i) (((m_av2 z (m_av1 (a 10) 28) i) (28 - i)) - ((m_av2 z (m_av1 (a 10) 28) i) (28 - i - z))))) b v) := hD
          refine lv_iinc (v := nI (28 - (i + 1))) (lv' := [(2, .int (nI (28 - (i + 1)))), (0, .ref (q 0)), (1, .int (nI z))]) hx hb dX0_addValueToOrders_64 hl (k := 0) rfl ((sb_m1 (p := 28 - i) (by omega)).trans (by congr 1)) (by decide) rfl (fun ls hl => ?_)
          refine lv_goto (tgt := 42) hx hb dX0_addValueToOrders_67 (by decide) ?_
          have hP : va_P D vwCl (wL g q n (va_up a 10 (m_av2 z (m_av1 (a 10) 28) (i + 1))) b v) _ := hP
          have hD : va_D A (wL g q n (va_up a 10 (m_av2 z (m_av1 (a 10) 28) (i + 1))) b v) := hD
          have hl : lv_has ls 3 [(2, .int (nI (28 - (i + 1)))), (0, .ref (q 0)), (1, .int (nI z))] := lv_sub hl [0, 1, 2] rfl
          exact ih_42 (i + 1)  (by omega)  _ _ _ hP hD hS hl
      exact lp_42 ((29 - z) - 0) 0  (by omega)  _ _ _ hP hD hS (lv_sub hl [0, 1, 2] rfl)
    | succ t_2 ih_2 =>
      intro i hi_2 H locs ls hP hD hS hl
      refine lv_iload_n hx hb dX0_addValueToOrders_2 rfl (lv_at hl 0 rfl) ?_
      refine lv_aload_n hx hb dX0_addValueToOrders_3 rfl (lv_at hl 1 rfl) ?_
      refine va_get (D := D) (ci := 0) (v := .ref (q 10)) (C := RX0) (T := TX0) (N := 18) hx hb hts iw_X0 hown hK hP 0 rfl rfl 9 (by decide) (hts _ kf_X0_32) (fun _ h9 => h9) rfl dX0_addValueToOrders_4 ?_
      refine va_alen (v := 29) hx hb hK hP 10 0 rfl rfl rfl dX0_addValueToOrders_7 ?_
      refine lv_icmp_ge (tgt := 34) hx hb dX0_addValueToOrders_8 (by decide) (fun c_8 => absurd c_8 (nI_ge (b := 29) (by omega) (by omega))) (fun _ => ?_)
      refine lv_aload_n hx hb dX0_addValueToOrders_11 rfl (lv_at hl 1 rfl) ?_
      refine va_get (D := D) (ci := 0) (v := .ref (q 10)) (C := RX0) (T := TX0) (N := 18) hx hb hts iw_X0 hown hK hP 0 rfl rfl 9 (by decide) (hts _ kf_X0_32) (fun _ h9 => h9) rfl dX0_addValueToOrders_12 ?_
      refine lv_iload_n hx hb dX0_addValueToOrders_15 rfl (lv_at hl 0 rfl) ?_
      refine lv_dup2_11 hx hb dX0_addValueToOrders_16 rfl rfl ?_
      refine za_iald (k := (1 + i)) (f := (m_av1 (a 10) i)) (v := (m_av1 (a 10) i) (1 + i)) hx hb hK hP 10 0 rfl rfl rfl (by omega) (by decide) rfl dX0_addValueToOrders_17 ?_
      refine lv_aload_n hx hb dX0_addValueToOrders_18 rfl (lv_at hl 1 rfl) ?_
      refine va_get (D := D) (ci := 0) (v := .ref (q 10)) (C := RX0) (T := TX0) (N := 18) hx hb hts iw_X0 hown hK hP 0 rfl rfl 9 (by decide) (hts _ kf_X0_32) (fun _ h9 => h9) rfl dX0_addValueToOrders_19 ?_
      refine lv_iload_n hx hb dX0_addValueToOrders_22 rfl (lv_at hl 0 rfl) ?_
      refine lv_iconst (v := 1) hx hb dX0_addValueToOrders_23 (by decide) ?_
      refine lv_isub hx hb dX0_addValueToOrders_24 ?_
      rw [show (nI (1 + i)) - 1 = nI i from (by rw [Nat.add_comm]; exact nI_pred i)]
      refine za_iald (k := i) (f := (m_av1 (a 10) i)) (v := (m_av1 (a 10) i) i) hx hb hK hP 10 0 rfl rfl rfl (by omega) (by decide) rfl dX0_addValueToOrders_25 ?_
      refine lv_iadd hx hb dX0_addValueToOrders_26 ?_
      refine za_iast (k := (1 + i)) (x := ((m_av1 (a 10) i) (1 + i)) + ((m_av1 (a 10) i) i)) (f := (m_av1 (a 10) i)) hx hb hK hP hD hS 10 0 rfl rfl rfl (by omega) (by decide) dX0_addValueToOrders_27 (fun H locs hP hD hS => ?_)
      have hP : va_P D vwCl (wL g q n (va_up a 10 (upd (m_av1 (a 10) i) (1 + i) (((m_av1 (a 10) i) (1 + i)) + ((m_av1 (a 10) i) i)))) b v) H := hP
      have hD : va_D A (wL g q n (va_up a 10 (upd (m_av1 (a 10) i) (1 + i) (((m_av1 (a 10) i) (1 + i)) + ((m_av1 (a 10) i) i)))) b v) := hD
      refine lv_iinc (v := nI ((1 + i) + 1)) (lv' := [(2, .int (nI ((1 + i) + 1))), (0, .ref (q 0)), (1, .int (nI z))]) hx hb dX0_addValueToOrders_28 hl (k := 0) rfl (nI_1 (1 + i)) (by decide) rfl (fun ls hl => ?_)
      refine lv_goto (tgt := 2) hx hb dX0_addValueToOrders_31 (by decide) ?_
      have hP : va_P D vwCl (wL g q n (va_up a 10 (m_av1 (a 10) (i + 1))) b v) _ := hP
      have hD : va_D A (wL g q n (va_up a 10 (m_av1 (a 10) (i + 1))) b v) := hD
      have hl : lv_has ls 3 [(2, .int (nI (1 + (i + 1)))), (0, .ref (q 0)), (1, .int (nI z))] := lv_sub hl [0, 1, 2] rfl
      exact ih_2 (i + 1)  (by omega)  _ _ _ hP hD hS hl
  exact lp_2 (28 - 0) 0  (by omega)  _ _ _ hP hD hS (lv_sub hl [0, 1, 2] rfl)
def rm_countOrdersByFalls : Room := { frames := 1, cells := 0, slots := 0, locals := 23 }
set_option maxHeartbeats 4000000 in
set_option maxRecDepth 100000 in
theorem c_countOrdersByFalls (l : Launch) (D : va_G) (g : Nat → ClassId) (q : Nat → Nat) (n : Nat) (a : Nat → Nat → Int32) (b : Nat → Nat → Int64) (v : Nat → Nat → Int32) (c : Nat) (hc8 : c ≤ 8) : zc_v l D (tyG g) yX0_countOrdersByFalls cX0_countOrdersByFalls 3 none rm_countOrdersByFalls [.ref (q 0), .int (nI c)] (wL g q n a b v) (fun (u : (Nat → Int32)) => u = m_co (a 10) (c - 1)) (fun u => wL g q n (va_up a 10 u) b v) 0 0 := by
  refine zv_of (by decide) (Nat.le_of_ble_eq_true rfl) rfl ?_
  intro p e s m args below meth cd_ A Q ls C0 hnm hP hD hS hl hret
  obtain ⟨hx, hb, hr, hml, hlocks, hown, hts, hK, hA, hN⟩ := id C0
  have hl : lv_has ls 3 [(0, .ref (q 0)), (1, .int (nI c))] := hl
  refine lv_aload_n hx hb dX0_countOrdersByFalls_0 rfl (lv_at hl 0 rfl) ?_
  refine va_get (D := D) (ci := 0) (v := .ref (q 10)) (C := RX0) (T := TX0) (N := 18) hx hb hts iw_X0 hown hK hP 0 rfl rfl 9 (by decide) (hts _ kf_X0_32) (fun _ h9 => h9) rfl dX0_countOrdersByFalls_1 ?_
  refine lv_iconst (v := 0) hx hb dX0_countOrdersByFalls_4 (by decide) ?_
  refine zk_sv (rest := []) (wr := [0, 1, 2, 3, 4, 5, 6, 7, 8, 9, 11, 12, 13, 14, 15, 16, 17, 18].filterMap (fun i => (wL g q n a b v)[i]?)) C0 hP hD hS (c_fill l D (tyG g) 0 (g 0) rfl (q 10) 29 (by decide) (a 10) (0 : Int32)) kk_X0_59 ks_fill [10] [0, 1, 2, 3, 4, 5, 6, 7, 8, 9, 11, 12, 13, 14, 15, 16, 17, 18] rfl rfl ⟨by decide, by decide, by decide⟩ hl.1 rfl rfl (Nat.le_of_ble_eq_true rfl) ⟨(Nat.le_of_ble_eq_true rfl), (Nat.le_of_ble_eq_true rfl)⟩ rfl rfl ⟨(Nat.le_of_ble_eq_true rfl), (Nat.le_of_ble_eq_true rfl)⟩ dX0_countOrdersByFalls_5 (fun u_5 H locs hw_5 hP hD hS => ?_)
  have hP : va_P D vwCl (wL g q n (va_up a 10 (m_fil (0 : Int32) (a 10) 29)) b v) H := hP.sub [0, 1, 2, 3, 4, 5, 6, 7, 8, 9, 18, 10, 11, 12, 13, 14, 15, 16, 17] rfl
  have hD : va_D A (wL g q n (va_up a 10 (m_fil (0 : Int32) (a 10) 29)) b v) := hD.sub [0, 1, 2, 3, 4, 5, 6, 7, 8, 9, 18, 10, 11, 12, 13, 14, 15, 16, 17] (by decide) rfl
  refine lv_aload_n hx hb dX0_countOrdersByFalls_8 rfl (lv_at hl 0 rfl) ?_
  refine va_get (D := D) (ci := 0) (v := .ref (q 10)) (C := RX0) (T := TX0) (N := 18) hx hb hts iw_X0 hown hK hP 0 rfl rfl 9 (by decide) (hts _ kf_X0_32) (fun _ h9 => h9) rfl dX0_countOrdersByFalls_9 ?_
  refine lv_iconst (v := 0) hx hb dX0_countOrdersByFalls_12 (by decide) ?_
  refine lv_iconst (v := 1) hx hb dX0_countOrdersByFalls_13 (by decide) ?_
  refine za_iast (k := 0) (x := 1) (f := (m_fil (0 : Int32) (a 10) 29)) hx hb hK hP hD hS 10 0 rfl rfl rfl (by decide) (by decide) dX0_countOrdersByFalls_14 (fun H locs hP hD hS => ?_)
  have hP : va_P D vwCl (wL g q n (va_up a 10 (upd (m_fil (0 : Int32) (a 10) 29) 0 1)) b v) H := hP
  have hD : va_D A (wL g q n (va_up a 10 (upd (m_fil (0 : Int32) (a 10) 29) 0 1)) b v) := hD
  refine lv_iconst (v := 2) hx hb dX0_countOrdersByFalls_15 (by decide) ?_
  refine lv_istore_n (lv' := [(2, .int 2), (0, .ref (q 0)), (1, .int (nI c))]) hx hb dX0_countOrdersByFalls_16 rfl hl (by decide) rfl (fun ls hl => ?_)
  have lp_17 : ∀ (t_17 i : Nat) , i + t_17 = (c - 1) → ∀ (H : Heap) (locs : List Loc) (ls : Array Slot), va_P D vwCl (wL g q n (va_up a 10 (m_co (a 10) i)) b v) H → va_D A (wL g q n (va_up a 10 (m_co (a 10) i)) b v) → va_S A s.heap H locs → lv_has ls 3 [(2, .int (nI (2 + i))), (0, .ref (q 0)), (1, .int (nI c))] → W p l e rm_countOrdersByFalls s m args below meth cd_ H locs 0 0 Q (F0 m 17 ls []) := by
    intro t_17
    induction t_17 with
    | zero =>
      intro i hi_17 H locs ls hP hD hS hl
      obtain rfl : (c - 1) = i := by omega
      refine lv_iload_n hx hb dX0_countOrdersByFalls_17 rfl (lv_at hl 0 rfl) ?_
      refine lv_iload_n hx hb dX0_countOrdersByFalls_18 rfl (lv_at hl 2 rfl) ?_
      refine lv_icmp_gt (tgt := 33) hx hb dX0_countOrdersByFalls_19 (by decide) (fun _ => ?_) (fun c_19 => absurd (nI_lt (by omega) (by omega)) c_19)
      exact hret (m_co (a 10) (c - 1)) _ _ _ _ _ _ rfl hP hD hS (Nat.le_of_ble_eq_true rfl) (Nat.le_of_ble_eq_true rfl) dX0_countOrdersByFalls_33
    | succ t_17 ih_17 =>
      intro i hi_17 H locs ls hP hD hS hl
      refine lv_iload_n hx hb dX0_countOrdersByFalls_17 rfl (lv_at hl 0 rfl) ?_
      refine lv_iload_n hx hb dX0_countOrdersByFalls_18 rfl (lv_at hl 2 rfl) ?_
      refine lv_icmp_gt (tgt := 33) hx hb dX0_countOrdersByFalls_19 (by decide) (fun c_19 => absurd c_19 (nI_nlt (by omega) (by omega))) (fun _ => ?_)
      refine lv_aload_n hx hb dX0_countOrdersByFalls_22 rfl (lv_at hl 1 rfl) ?_
      refine lv_iload_n hx hb dX0_countOrdersByFalls_23 rfl (lv_at hl 0 rfl) ?_
      refine zf_vv (rest := []) C0 hP hD hS (c_addValueToOrders l D g q n (va_up a 10 (m_co (a 10) i)) b v (2 + i) (by omega)) kk_X0_189 kv_X0_189 0 rfl 0 rfl hl.1 rfl rfl (Nat.le_of_ble_eq_true rfl) ⟨(Nat.le_of_ble_eq_true rfl), (Nat.le_of_ble_eq_true rfl)⟩ rfl rfl ⟨(Nat.le_of_ble_eq_true rfl), (Nat.le_of_ble_eq_true rfl)⟩ dX0_countOrdersByFalls_24 (fun u_24 H locs hw_24 hP hD hS => ?_)
      obtain rfl := hw_24
      have hP : va_P D vwCl (wL g q n (va_up a 10 (m_co (a 10) (i + 1))) b v) H := hP
      have hD : va_D A (wL g q n (va_up a 10 (m_co (a 10) (i + 1))) b v) := hD
      refine lv_iinc (v := nI ((2 + i) + 1)) (lv' := [(2, .int (nI ((2 + i) + 1))), (0, .ref (q 0)), (1, .int (nI c))]) hx hb dX0_countOrdersByFalls_27 hl (k := 0) rfl (nI_1 (2 + i)) (by decide) rfl (fun ls hl => ?_)
      refine lv_goto (tgt := 17) hx hb dX0_countOrdersByFalls_30 (by decide) ?_
      have hP : va_P D vwCl (wL g q n (va_up a 10 (m_co (a 10) (i + 1))) b v) _ := hP
      have hD : va_D A (wL g q n (va_up a 10 (m_co (a 10) (i + 1))) b v) := hD
      have hl : lv_has ls 3 [(2, .int (nI (2 + (i + 1)))), (0, .ref (q 0)), (1, .int (nI c))] := lv_sub hl [0, 1, 2] rfl
      exact ih_17 (i + 1)  (by omega)  _ _ _ hP hD hS hl
  exact lp_17 ((c - 1) - 0) 0  (by omega)  _ _ _ hP hD hS (lv_sub hl [0, 1, 2] rfl)
def rm_ordersAsFar : Room := { frames := 2, cells := 0, slots := 0, locals := 45 }
set_option maxHeartbeats 4000000 in
set_option maxRecDepth 100000 in
theorem c_ordersAsFar (l : Launch) (D : va_G) (g : Nat → ClassId) (q : Nat → Nat) (n : Nat) (a : Nat → Nat → Int32) (b : Nat → Nat → Int64) (v : Nat → Nat → Int32) (c : Nat) (hc8 : c ≤ 8) (P : Nat) (hPc : nI c * (nI c - 1) / 2 = nI P) (hP28 : P ≤ 28) (tr : Int32) : zc_i l D (tyG g) yX0_ordersAsFar cX0_ordersAsFar 6 (some .int) rm_ordersAsFar [.ref (q 0), .int (nI c), .int tr] (wL g q n a b v) (fun (r : Int32) (u : (Nat → Int32)) => r = m_far (m_co (a 10) (c - 1)) (nI P) tr (P + 1) ∧ u = m_co (a 10) (c - 1)) (fun u => wL g q n (va_up a 10 u) b v) 0 0 := by
  refine zi_of (by decide) (Nat.le_of_ble_eq_true rfl) rfl ?_
  intro p e s m args below meth cd_ A Q ls C0 hnm hP hD hS hl hret
  obtain ⟨hx, hb, hr, hml, hlocks, hown, hts, hK, hA, hN⟩ := id C0
  have hl : lv_has ls 6 [(0, .ref (q 0)), (1, .int (nI c)), (2, .int tr)] := hl
  refine lv_aload_n hx hb dX0_ordersAsFar_0 rfl (lv_at hl 0 rfl) ?_
  refine lv_iload_n hx hb dX0_ordersAsFar_1 rfl (lv_at hl 1 rfl) ?_
  refine zf_vv (rest := []) C0 hP hD hS (c_countOrdersByFalls l D g q n a b v c hc8) kk_X0_182 kv_X0_182 0 rfl 0 rfl hl.1 rfl rfl (Nat.le_of_ble_eq_true rfl) ⟨(Nat.le_of_ble_eq_true rfl), (Nat.le_of_ble_eq_true rfl)⟩ rfl rfl ⟨(Nat.le_of_ble_eq_true rfl), (Nat.le_of_ble_eq_true rfl)⟩ dX0_ordersAsFar_2 (fun u_2 H locs hw_2 hP hD hS => ?_)
  refine lv_iload_n hx hb dX0_ordersAsFar_5 rfl (lv_at hl 1 rfl) ?_
  refine lv_iload_n hx hb dX0_ordersAsFar_6 rfl (lv_at hl 1 rfl) ?_
  refine lv_iconst (v := 1) hx hb dX0_ordersAsFar_7 (by decide) ?_
  refine lv_isub hx hb dX0_ordersAsFar_8 ?_
  refine lv_imul hx hb dX0_ordersAsFar_9 ?_
  refine lv_iconst (v := 2) hx hb dX0_ordersAsFar_10 (by decide) ?_
  refine lv_idiv hx hb dX0_ordersAsFar_11 (by decide) ?_
  rw [show ((nI c) * ((nI c) - 1)) / 2 = nI P from hPc]
  refine lv_istore_n (lv' := [(3, .int (nI P)), (0, .ref (q 0)), (1, .int (nI c)), (2, .int tr)]) hx hb dX0_ordersAsFar_12 rfl hl (by decide) rfl (fun ls hl => ?_)
  refine lv_iconst (v := 0) hx hb dX0_ordersAsFar_13 (by decide) ?_
  refine lv_istore (lv' := [(4, .int 0), (3, .int (nI P)), (0, .ref (q 0)), (1, .int (nI c)), (2, .int tr)]) hx hb dX0_ordersAsFar_14 hl (by decide) rfl (fun ls hl => ?_)
  refine lv_iconst (v := 0) hx hb dX0_ordersAsFar_16 (by decide) ?_
  refine lv_istore (lv' := [(5, .int 0), (4, .int 0), (3, .int (nI P)), (0, .ref (q 0)), (1, .int (nI c)), (2, .int tr)]) hx hb dX0_ordersAsFar_17 hl (by decide) rfl (fun ls hl => ?_)
  have lp_19 : ∀ (t_19 i : Nat) (z : Int32), i + t_19 = (P + 1) → z = m_far u_2 (nI P) tr i → ∀ (H : Heap) (locs : List Loc) (ls : Array Slot), va_P D vwCl (wL g q n (va_up a 10 u_2) b v) H → va_D A (wL g q n (va_up a 10 u_2) b v) → va_S A s.heap H locs → lv_has ls 6 [(5, .int (nI i)), (4, .int z), (0, .ref (q 0)), (2, .int tr), (3, .int (nI P))] → W p l e rm_ordersAsFar s m args below meth cd_ H locs 0 0 Q (F0 m 19 ls []) := by
    intro t_19
    induction t_19 with
    | zero =>
      intro i z hi_19 hz H locs ls hP hD hS hl
      obtain rfl : (P + 1) = i := by omega
      refine lv_iload hx hb dX0_ordersAsFar_19 (lv_at hl 0 rfl) ?_
      refine lv_aload_n hx hb dX0_ordersAsFar_21 rfl (lv_at hl 2 rfl) ?_
      refine va_get (D := D) (ci := 0) (v := .ref (q 10)) (C := RX0) (T := TX0) (N := 18) hx hb hts iw_X0 hown hK hP 0 rfl rfl 9 (by decide) (hts _ kf_X0_32) (fun _ h9 => h9) rfl dX0_ordersAsFar_22 ?_
      refine va_alen (v := 29) hx hb hK hP 10 0 rfl rfl rfl dX0_ordersAsFar_25 ?_
      refine lv_icmp_ge (tgt := 69) hx hb dX0_ordersAsFar_26 (by decide) (fun c_26 => ?_) (fun c_26 => ?_)
      · -- jump at 26
        refine lv_iload hx hb dX0_ordersAsFar_69 (lv_at hl 1 rfl) ?_
        exact hret z u_2 _ _ _ _ _ _ (vp_nar_int _) ⟨by rw [hz, hw_2], hw_2⟩ hP hD hS (Nat.le_of_ble_eq_true rfl) (Nat.le_of_ble_eq_true rfl) dX0_ordersAsFar_71
      · -- on at 26
        refine lv_iload hx hb dX0_ordersAsFar_29 (lv_at hl 0 rfl) ?_
        refine lv_iload_n hx hb dX0_ordersAsFar_31 rfl (lv_at hl 4 rfl) ?_
        refine lv_icmp_gt (tgt := 69) hx hb dX0_ordersAsFar_32 (by decide) (fun _ => ?_) (fun c_32 => absurd (nI_lt (by omega) (by omega)) c_32)
        refine lv_iload hx hb dX0_ordersAsFar_69 (lv_at hl 1 rfl) ?_
        exact hret z u_2 _ _ _ _ _ _ (vp_nar_int _) ⟨by rw [hz, hw_2], hw_2⟩ hP hD hS (Nat.le_of_ble_eq_true rfl) (Nat.le_of_ble_eq_true rfl) dX0_ordersAsFar_71
    | succ t_19 ih_19 =>
      intro i z hi_19 hz H locs ls hP hD hS hl
      refine lv_iload hx hb dX0_ordersAsFar_19 (lv_at hl 0 rfl) ?_
      refine lv_aload_n hx hb dX0_ordersAsFar_21 rfl (lv_at hl 2 rfl) ?_
      refine va_get (D := D) (ci := 0) (v := .ref (q 10)) (C := RX0) (T := TX0) (N := 18) hx hb hts iw_X0 hown hK hP 0 rfl rfl 9 (by decide) (hts _ kf_X0_32) (fun _ h9 => h9) rfl dX0_ordersAsFar_22 ?_
      refine va_alen (v := 29) hx hb hK hP 10 0 rfl rfl rfl dX0_ordersAsFar_25 ?_
      refine lv_icmp_ge (tgt := 69) hx hb dX0_ordersAsFar_26 (by decide) (fun c_26 => absurd c_26 (nI_ge (a := i) (b := 29) (by omega) (by omega))) (fun _ => ?_)
      refine lv_iload hx hb dX0_ordersAsFar_29 (lv_at hl 0 rfl) ?_
      refine lv_iload_n hx hb dX0_ordersAsFar_31 rfl (lv_at hl 4 rfl) ?_
      refine lv_icmp_gt (tgt := 69) hx hb dX0_ordersAsFar_32 (by decide) (fun c_32 => absurd c_32 (nI_nlt (by omega) (by omega))) (fun _ => ?_)
      refine lv_iload_n hx hb dX0_ordersAsFar_35 rfl (lv_at hl 4 rfl) ?_
      refine lv_iconst (v := 2) hx hb dX0_ordersAsFar_36 (by decide) ?_
      refine lv_iload hx hb dX0_ordersAsFar_37 (lv_at hl 0 rfl) ?_
      refine lv_imul hx hb dX0_ordersAsFar_39 ?_
      refine lv_isub hx hb dX0_ordersAsFar_40 ?_
      refine va_mabs hx hb (hml.trans hl.1.symm) hown (hts _ kl_X0_186) (hts _ ks_abs_int) (hts _ ki_Math) (hts _ kc_abs_int) (Nat.le_of_ble_eq_true rfl) (Nat.le_of_ble_eq_true rfl) (Nat.le_of_ble_eq_true rfl) (Nat.le_of_ble_eq_true rfl) dX0_ordersAsFar_41 ?_
      refine lv_iload_n hx hb dX0_ordersAsFar_44 rfl (lv_at hl 3 rfl) ?_
      refine va_mabs hx hb (hml.trans hl.1.symm) hown (hts _ kl_X0_186) (hts _ ks_abs_int) (hts _ ki_Math) (hts _ kc_abs_int) (Nat.le_of_ble_eq_true rfl) (Nat.le_of_ble_eq_true rfl) (Nat.le_of_ble_eq_true rfl) (Nat.le_of_ble_eq_true rfl) dX0_ordersAsFar_45 ?_
      refine lv_icmp_lt (tgt := 63) hx hb dX0_ordersAsFar_48 (by decide) (fun c_48 => ?_) (fun c_48 => ?_)
      · -- jump at 48
        refine lv_iinc (v := nI (i + 1)) (lv' := [(5, .int (nI (i + 1))), (4, .int z), (0, .ref (q 0)), (2, .int tr), (3, .int (nI P))]) hx hb dX0_ordersAsFar_63 hl (k := 0) rfl (nI_1 i) (by decide) rfl (fun ls hl => ?_)
        refine lv_goto (tgt := 19) hx hb dX0_ordersAsFar_66 (by decide) ?_
        have hP : va_P D vwCl (wL g q n (va_up a 10 u_2) b v) _ := hP
        have hD : va_D A (wL g q n (va_up a 10 u_2) b v) := hD
        have hl : lv_has ls 6 [(5, .int (nI (i + 1))), (4, .int z), (0, .ref (q 0)), (2, .int tr), (3, .int (nI P))] := lv_sub hl [0, 1, 2, 3, 4] rfl
        exact ih_19 (i + 1) z (by omega) (hz.trans (if_pos c_48).symm) _ _ _ hP hD hS hl
      · -- on at 48
        refine lv_iload hx hb dX0_ordersAsFar_51 (lv_at hl 1 rfl) ?_
        refine lv_aload_n hx hb dX0_ordersAsFar_53 rfl (lv_at hl 2 rfl) ?_
        refine va_get (D := D) (ci := 0) (v := .ref (q 10)) (C := RX0) (T := TX0) (N := 18) hx hb hts iw_X0 hown hK hP 0 rfl rfl 9 (by decide) (hts _ kf_X0_32) (fun _ h9 => h9) rfl dX0_ordersAsFar_54 ?_
        refine lv_iload hx hb dX0_ordersAsFar_57 (lv_at hl 0 rfl) ?_
        refine za_iald (k := i) (f := u_2) (v := u_2 i) hx hb hK hP 10 0 rfl rfl rfl (by omega) (by decide) rfl dX0_ordersAsFar_59 ?_
        refine lv_iadd hx hb dX0_ordersAsFar_60 ?_
        refine lv_istore (lv' := [(4, .int (z + (u_2 i))), (5, .int (nI i)), (0, .ref (q 0)), (2, .int tr), (3, .int (nI P))]) hx hb dX0_ordersAsFar_61 hl (by decide) rfl (fun ls hl => ?_)
        refine lv_iinc (v := nI (i + 1)) (lv' := [(5, .int (nI (i + 1))), (4, .int (z + (u_2 i))), (0, .ref (q 0)), (2, .int tr), (3, .int (nI P))]) hx hb dX0_ordersAsFar_63 hl (k := 1) rfl (nI_1 i) (by decide) rfl (fun ls hl => ?_)
        refine lv_goto (tgt := 19) hx hb dX0_ordersAsFar_66 (by decide) ?_
        have hP : va_P D vwCl (wL g q n (va_up a 10 u_2) b v) _ := hP
        have hD : va_D A (wL g q n (va_up a 10 u_2) b v) := hD
        have hl : lv_has ls 6 [(5, .int (nI (i + 1))), (4, .int (z + u_2 i)), (0, .ref (q 0)), (2, .int tr), (3, .int (nI P))] := lv_sub hl [0, 1, 2, 3, 4] rfl
        exact ih_19 (i + 1) (z + u_2 i) (by omega) (by rw [hz]; exact (if_neg c_48).symm) _ _ _ hP hD hS hl
  exact lp_19 ((P + 1) - 0) 0 0 (by omega) rfl _ _ _ hP hD hS (lv_sub hl [0, 1, 3, 5, 2] rfl)
def rm_sample : Room := { frames := 2, cells := 0, slots := 0, locals := 45 }
set_option maxHeartbeats 4000000 in
set_option maxRecDepth 100000 in
theorem c_sample (l : Launch) (D : va_G) (g : Nat → ClassId) (q : Nat → Nat) (n : Nat) (a : Nat → Nat → Int32) (b : Nat → Nat → Int64) (v : Nat → Nat → Int32) (cn : Nat → Nat) (hcn : ∀ w, w < 4 → a 11 w = nI (cn w) ∧ cn w ≤ 8) (x y z : Int32) : zc_i l D (tyG g) yX0_sample cX0_sample 4 (some .int) rm_sample [.ref (q 0), .int x, .int y, .int z] (wL g q n a b v) (fun (r : Int32) (u : zS) => r = (if (m_isWell x && m_within y.toInt64 0 100000 && m_within z.toInt64 (-1000000) 1000000 && (decide (cn x.toNatClampNeg < 8) && decide (a 12 x.toNatClampNeg < y) && !(m_has (v x.toNatClampNeg) z (cn x.toNatClampNeg)))) = true then nI (cn x.toNatClampNeg + 1) else -1) ∧ u = if (m_isWell x && m_within y.toInt64 0 100000 && m_within z.toInt64 (-1000000) 1000000 && (decide (cn x.toNatClampNeg < 8) && decide (a 12 x.toNatClampNeg < y) && !(m_has (v x.toNatClampNeg) z (cn x.toNatClampNeg)))) = true then (va_up (va_up a 11 (upd (a 11) x.toNatClampNeg (nI (cn x.toNatClampNeg + 1)))) 12 (upd (a 12) x.toNatClampNeg y), b, va_up v x.toNatClampNeg (upd (v x.toNatClampNeg) (cn x.toNatClampNeg) z)) else (a, b, v)) (fun u => wL g q n u.1 u.2.1 u.2.2) 0 0 := by
  refine zi_of (by decide) (Nat.le_of_ble_eq_true rfl) rfl ?_
  intro p e s m args below meth cd_ A Q ls C0 hnm hP hD hS hl hret
  obtain ⟨hx, hb, hr, hml, hlocks, hown, hts, hK, hA, hN⟩ := id C0
  have hl : lv_has ls 4 [(0, .ref (q 0)), (1, .int x), (2, .int y), (3, .int z)] := hl
  refine lv_iload_n hx hb dX0_sample_0 rfl (lv_at hl 1 rfl) ?_
  refine zk_pi (rest := []) C0 hP hD hS (c_isWell l D (tyG g) x) kk_X0_117 hl.1 rfl rfl (Nat.le_of_ble_eq_true rfl) ⟨(Nat.le_of_ble_eq_true rfl), (Nat.le_of_ble_eq_true rfl)⟩ rfl rfl ⟨(Nat.le_of_ble_eq_true rfl), (Nat.le_of_ble_eq_true rfl)⟩ dX0_sample_1 (fun r_1 H locs hw_1 hP hS => ?_)
  obtain rfl := hw_1
  refine lv_if_eq (tgt := 33) hx hb dX0_sample_4 (by decide) (fun c_4 => ?_) (fun c_4 => ?_)
  · -- jump at 4
    have c_4 := zb_f c_4
    refine lv_iconst (v := (-1)) hx hb dX0_sample_33 (by decide) ?_
    exact hret (-1) (a, b, v) _ _ _ _ _ _ (vp_nar_int _) (by simp only [c_4]; simp) hP hD hS (Nat.le_of_ble_eq_true rfl) (Nat.le_of_ble_eq_true rfl) dX0_sample_34
  · -- on at 4
    have c_4 := zb_t c_4
    obtain ⟨w, hw0, rfl⟩ := m_rng (m := 3) (by decide) (by decide) c_4
    have hw4 : w < 4 := by omega
    have hcl : (nI w).toNatClampNeg = w := nI_clamp (by omega)
    obtain ⟨hc, hc8⟩ := hcn w hw4
    refine lv_iload_n hx hb dX0_sample_7 rfl (lv_at hl 2 rfl) ?_
    refine lv_i2l (v := y.toInt64) hx hb dX0_sample_8 rfl ?_
    refine lv_lconst (v := 0) hx hb dX0_sample_9 (by decide) ?_
    refine lv_ldc2 (v := 100000) hx hb hown (hts _ kc_X0_120) dX0_sample_10 ?_
    refine zk_pi (rest := []) C0 hP hD hS (c_within l D (tyG g) y.toInt64 (0 : Int64) (100000 : Int64)) kk_X0_46 hl.1 rfl rfl (Nat.le_of_ble_eq_true rfl) ⟨(Nat.le_of_ble_eq_true rfl), (Nat.le_of_ble_eq_true rfl)⟩ rfl rfl ⟨(Nat.le_of_ble_eq_true rfl), (Nat.le_of_ble_eq_true rfl)⟩ dX0_sample_13 (fun r_13 H locs hw_13 hP hS => ?_)
    obtain rfl := hw_13
    refine lv_if_eq (tgt := 33) hx hb dX0_sample_16 (by decide) (fun c_16 => ?_) (fun c_16 => ?_)
    · -- jump at 16
      have c_16 := zb_f c_16
      refine lv_iconst (v := (-1)) hx hb dX0_sample_33 (by decide) ?_
      exact hret (-1) (a, b, v) _ _ _ _ _ _ (vp_nar_int _) (by simp only [hcl, c_4, c_16]; simp) hP hD hS (Nat.le_of_ble_eq_true rfl) (Nat.le_of_ble_eq_true rfl) dX0_sample_34
    · -- on at 16
      have c_16 := zb_t c_16
      refine lv_iload_n hx hb dX0_sample_19 rfl (lv_at hl 3 rfl) ?_
      refine lv_i2l (v := z.toInt64) hx hb dX0_sample_20 rfl ?_
      refine lv_ldc2 (v := (-1000000)) hx hb hown (hts _ kc_X0_122) dX0_sample_21 ?_
      refine lv_ldc2 (v := 1000000) hx hb hown (hts _ kc_X0_70) dX0_sample_24 ?_
      refine zk_pi (rest := []) C0 hP hD hS (c_within l D (tyG g) z.toInt64 ((-1000000) : Int64) (1000000 : Int64)) kk_X0_46 hl.1 rfl rfl (Nat.le_of_ble_eq_true rfl) ⟨(Nat.le_of_ble_eq_true rfl), (Nat.le_of_ble_eq_true rfl)⟩ rfl rfl ⟨(Nat.le_of_ble_eq_true rfl), (Nat.le_of_ble_eq_true rfl)⟩ dX0_sample_27 (fun r_27 H locs hw_27 hP hS => ?_)
      obtain rfl := hw_27
      refine lv_if_ne (tgt := 35) hx hb dX0_sample_30 (by decide) (fun c_30 => ?_) (fun c_30 => ?_)
      · -- jump at 30
        have c_30 := zb_t c_30
        refine lv_aload_n hx hb dX0_sample_35 rfl (lv_at hl 0 rfl) ?_
        refine va_get (D := D) (ci := 0) (v := .ref (q 9)) (C := RX0) (T := TX0) (N := 18) hx hb hts iw_X0 hown hK hP 0 rfl rfl 8 (by decide) (hts _ kf_X0_28) (fun _ h9 => h9) rfl dX0_sample_36 ?_
        refine lv_iload_n hx hb dX0_sample_39 rfl (lv_at hl 1 rfl) ?_
        refine za_aald (k := w) (z := q (11 + w)) hx hb hK hP 9 2 rfl rfl rfl (by omega) (by decide) rfl dX0_sample_40 ?_
        refine lv_iload_n hx hb dX0_sample_41 rfl (lv_at hl 2 rfl) ?_
        refine lv_iload_n hx hb dX0_sample_42 rfl (lv_at hl 3 rfl) ?_
        refine zf_vi (rest := []) C0 hP hD hS (c_take l D g q n a b v w hw4 (cn w) hc hc8 y z) kk_X0_124 kv_X0_124 1 rfl (11 + w) (wL_w w hw4) hl.1 rfl rfl (Nat.le_of_ble_eq_true rfl) ⟨(Nat.le_of_ble_eq_true rfl), (Nat.le_of_ble_eq_true rfl)⟩ rfl rfl ⟨(Nat.le_of_ble_eq_true rfl), (Nat.le_of_ble_eq_true rfl)⟩ dX0_sample_43 (fun r_43 u_43 H locs hw_43 hP hD hS => ?_)
        obtain ⟨rfl, hu⟩ := hw_43
        refine lv_if_eq (tgt := 61) hx hb dX0_sample_46 (by decide) (fun c_46 => ?_) (fun c_46 => ?_)
        · -- jump at 46
          have c_46 := zb_f c_46
          rw [if_neg (by rw [c_46]; decide)] at hu
          subst hu
          have hP : va_P D vwCl (wL g q n a b v) H := hP
          have hD : va_D A (wL g q n a b v) := hD
          refine lv_iconst (v := (-1)) hx hb dX0_sample_61 (by decide) ?_
          exact hret (-1) (a, b, v) _ _ _ _ _ _ (vp_nar_int _) (by simp only [hcl, c_4, c_16, c_30, c_46]; simp) hP hD hS (Nat.le_of_ble_eq_true rfl) (Nat.le_of_ble_eq_true rfl) dX0_sample_62
        · -- on at 46
          have c_46 := zb_t c_46
          rw [if_pos c_46] at hu
          subst hu
          have hP : va_P D vwCl (wL g q n (va_up (va_up a 11 (upd (a 11) w (nI (cn w + 1)))) 12 (upd (a 12) w y)) b (va_up v w (upd (v w) (cn w) z))) H := hP
          have hD : va_D A (wL g q n (va_up (va_up a 11 (upd (a 11) w (nI (cn w + 1)))) 12 (upd (a 12) w y)) b (va_up v w (upd (v w) (cn w) z))) := hD
          refine lv_aload_n hx hb dX0_sample_49 rfl (lv_at hl 0 rfl) ?_
          refine va_get (D := D) (ci := 0) (v := .ref (q 9)) (C := RX0) (T := TX0) (N := 18) hx hb hts iw_X0 hown hK hP 0 rfl rfl 8 (by decide) (hts _ kf_X0_28) (fun _ h9 => h9) rfl dX0_sample_50 ?_
          refine lv_iload_n hx hb dX0_sample_53 rfl (lv_at hl 1 rfl) ?_
          refine za_aald (k := w) (z := q (11 + w)) hx hb hK hP 9 2 rfl rfl rfl (by omega) (by decide) rfl dX0_sample_54 ?_
          refine va_getN (D := D) (ci := 1) (v := .int (upd (a 11) w (nI (cn w + 1)) w)) (C := RX1) (T := TX1) (N := 3) hx hb hts iw_X1 hown hK hP (11 + w) (wL_w w hw4) rfl 1 (by decide) (kn_X0_128 hN) (fun _ h9 => h9) rfl dX0_sample_55 ?_
          rw [pk_us]
          refine lv_goto (tgt := 62) hx hb dX0_sample_58 (by decide) ?_
          exact hret (nI (cn w + 1)) (va_up (va_up a 11 (upd (a 11) w (nI (cn w + 1)))) 12 (upd (a 12) w y), b, va_up v w (upd (v w) (cn w) z)) _ _ _ _ _ _ (vp_nar_int _) (by simp only [hcl, c_4, c_16, c_30, c_46]; simp) hP hD hS (Nat.le_of_ble_eq_true rfl) (Nat.le_of_ble_eq_true rfl) dX0_sample_62
      · -- on at 30
        have c_30 := zb_f c_30
        refine lv_iconst (v := (-1)) hx hb dX0_sample_33 (by decide) ?_
        exact hret (-1) (a, b, v) _ _ _ _ _ _ (vp_nar_int _) (by simp only [hcl, c_4, c_16, c_30]; simp) hP hD hS (Nat.le_of_ble_eq_true rfl) (Nat.le_of_ble_eq_true rfl) dX0_sample_34
def rm_trend : Room := { frames := 2, cells := 0, slots := 0, locals := 45 }
set_option maxHeartbeats 4000000 in
set_option maxRecDepth 100000 in
theorem c_trend (l : Launch) (D : va_G) (g : Nat → ClassId) (q : Nat → Nat) (n : Nat) (a : Nat → Nat → Int32) (b : Nat → Nat → Int64) (v : Nat → Nat → Int32) (cn : Nat → Nat) (hcn : ∀ w, w < 4 → a 11 w = nI (cn w) ∧ cn w ≤ 8) (x : Int32) : zc_i l D (tyG g) yX0_trend cX0_trend 2 (some .int) rm_trend [.ref (q 0), .int x] (wL g q n a b v) (fun (r : Int32) (u : Unit) => r = if m_isWell x = true then m_ro (v x.toNatClampNeg) (cn x.toNatClampNeg - 1) else 0) (fun _ => wL g q n a b v) 0 0 := by
  refine zi_of (by decide) (Nat.le_of_ble_eq_true rfl) rfl ?_
  intro p e s m args below meth cd_ A Q ls C0 hnm hP hD hS hl hret
  obtain ⟨hx, hb, hr, hml, hlocks, hown, hts, hK, hA, hN⟩ := id C0
  have hl : lv_has ls 2 [(0, .ref (q 0)), (1, .int x)] := hl
  refine lv_iload_n hx hb dX0_trend_0 rfl (lv_at hl 1 rfl) ?_
  refine zk_pi (rest := []) C0 hP hD hS (c_isWell l D (tyG g) x) kk_X0_117 hl.1 rfl rfl (Nat.le_of_ble_eq_true rfl) ⟨(Nat.le_of_ble_eq_true rfl), (Nat.le_of_ble_eq_true rfl)⟩ rfl rfl ⟨(Nat.le_of_ble_eq_true rfl), (Nat.le_of_ble_eq_true rfl)⟩ dX0_trend_1 (fun r_1 H locs hw_1 hP hS => ?_)
  obtain rfl := hw_1
  refine lv_if_eq (tgt := 19) hx hb dX0_trend_4 (by decide) (fun c_4 => ?_) (fun c_4 => ?_)
  · -- jump at 4
    have c_4 := zb_f c_4
    refine lv_iconst (v := 0) hx hb dX0_trend_19 (by decide) ?_
    exact hret 0 () _ _ _ _ _ _ (vp_nar_int _) (by simp [c_4]) hP hD hS (Nat.le_of_ble_eq_true rfl) (Nat.le_of_ble_eq_true rfl) dX0_trend_20
  · -- on at 4
    have c_4 := zb_t c_4
    obtain ⟨w, hw0, rfl⟩ := m_rng (m := 3) (by decide) (by decide) c_4
    have hw4 : w < 4 := by omega
    have hcl : (nI w).toNatClampNeg = w := nI_clamp (by omega)
    obtain ⟨hc, hc8⟩ := hcn w hw4
    refine lv_aload_n hx hb dX0_trend_7 rfl (lv_at hl 0 rfl) ?_
    refine va_get (D := D) (ci := 0) (v := .ref (q 9)) (C := RX0) (T := TX0) (N := 18) hx hb hts iw_X0 hown hK hP 0 rfl rfl 8 (by decide) (hts _ kf_X0_28) (fun _ h9 => h9) rfl dX0_trend_8 ?_
    refine lv_iload_n hx hb dX0_trend_11 rfl (lv_at hl 1 rfl) ?_
    refine za_aald (k := w) (z := q (11 + w)) hx hb hK hP 9 2 rfl rfl rfl (by omega) (by decide) rfl dX0_trend_12 ?_
    refine zf_vi (rest := []) C0 hP hD hS (c_risesLessFalls l D g q n a b v w hw4 (cn w) hc hc8) kk_X0_131 kv_X0_131 1 rfl (11 + w) (wL_w w hw4) hl.1 rfl rfl (Nat.le_of_ble_eq_true rfl) ⟨(Nat.le_of_ble_eq_true rfl), (Nat.le_of_ble_eq_true rfl)⟩ rfl rfl ⟨(Nat.le_of_ble_eq_true rfl), (Nat.le_of_ble_eq_true rfl)⟩ dX0_trend_13 (fun r_13 u_13 H locs hw_13 hP hD hS => ?_)
    obtain rfl := hw_13
    refine lv_goto (tgt := 20) hx hb dX0_trend_16 (by decide) ?_
    exact hret (m_ro (v w) (cn w - 1)) () _ _ _ _ _ _ (vp_nar_int _) (by simp [c_4, hcl]) hP hD hS (Nat.le_of_ble_eq_true rfl) (Nat.le_of_ble_eq_true rfl) dX0_trend_20
def rm_odds : Room := { frames := 3, cells := 0, slots := 0, locals := 70 }
set_option maxHeartbeats 4000000 in
set_option maxRecDepth 100000 in
theorem c_odds (l : Launch) (D : va_G) (g : Nat → ClassId) (q : Nat → Nat) (n : Nat) (a : Nat → Nat → Int32) (b : Nat → Nat → Int64) (v : Nat → Nat → Int32) (cn : Nat → Nat) (hcn : ∀ w, w < 4 → a 11 w = nI (cn w) ∧ cn w ≤ 8) (x y : Int32) : zc_i l D (tyG g) yX0_odds cX0_odds 7 (some .int) rm_odds [.ref (q 0), .int x, .int y] (wL g q n a b v) (fun (r : Int32) (u : (Nat → Int32)) => r = (if (m_isWell x && m_within y.toInt64 0 1) = true then m_odds (a 10) (v x.toNatClampNeg) (cn x.toNatClampNeg) y else -1)) (fun u => wL g q n (va_up a 10 u) b v) 0 0 := by
  refine zi_of (by decide) (Nat.le_of_ble_eq_true rfl) rfl ?_
  intro p e s m args below meth cd_ A Q ls C0 hnm hP hD hS hl hret
  obtain ⟨hx, hb, hr, hml, hlocks, hown, hts, hK, hA, hN⟩ := id C0
  have hl : lv_has ls 7 [(0, .ref (q 0)), (1, .int x), (2, .int y)] := hl
  refine lv_iload_n hx hb dX0_odds_0 rfl (lv_at hl 1 rfl) ?_
  refine zk_pi (rest := []) C0 hP hD hS (c_isWell l D (tyG g) x) kk_X0_117 hl.1 rfl rfl (Nat.le_of_ble_eq_true rfl) ⟨(Nat.le_of_ble_eq_true rfl), (Nat.le_of_ble_eq_true rfl)⟩ rfl rfl ⟨(Nat.le_of_ble_eq_true rfl), (Nat.le_of_ble_eq_true rfl)⟩ dX0_odds_1 (fun r_1 H locs hw_1 hP hS => ?_)
  obtain rfl := hw_1
  refine lv_if_eq (tgt := 17) hx hb dX0_odds_4 (by decide) (fun c_4 => ?_) (fun c_4 => ?_)
  · -- jump at 4
    have c_4 := zb_f c_4
    refine lv_iconst (v := (-1)) hx hb dX0_odds_17 (by decide) ?_
    exact hret (-1) (a 10) _ _ _ _ _ _ (vp_nar_int _) (by simp [c_4]) hP hD hS (Nat.le_of_ble_eq_true rfl) (Nat.le_of_ble_eq_true rfl) dX0_odds_18
  · -- on at 4
    have c_4 := zb_t c_4
    obtain ⟨w, hw0, rfl⟩ := m_rng (m := 3) (by decide) (by decide) c_4
    have hw4 : w < 4 := by omega
    have hcl : (nI w).toNatClampNeg = w := nI_clamp (by omega)
    obtain ⟨hc, hc8⟩ := hcn w hw4
    obtain ⟨P, hPc, hP28, hP0⟩ := m_pairs hc8
    refine lv_iload_n hx hb dX0_odds_7 rfl (lv_at hl 2 rfl) ?_
    refine lv_i2l (v := y.toInt64) hx hb dX0_odds_8 rfl ?_
    refine lv_lconst (v := 0) hx hb dX0_odds_9 (by decide) ?_
    refine lv_lconst (v := 1) hx hb dX0_odds_10 (by decide) ?_
    refine zk_pi (rest := []) C0 hP hD hS (c_within l D (tyG g) y.toInt64 (0 : Int64) (1 : Int64)) kk_X0_46 hl.1 rfl rfl (Nat.le_of_ble_eq_true rfl) ⟨(Nat.le_of_ble_eq_true rfl), (Nat.le_of_ble_eq_true rfl)⟩ rfl rfl ⟨(Nat.le_of_ble_eq_true rfl), (Nat.le_of_ble_eq_true rfl)⟩ dX0_odds_11 (fun r_11 H locs hw_11 hP hS => ?_)
    obtain rfl := hw_11
    refine lv_if_ne (tgt := 19) hx hb dX0_odds_14 (by decide) (fun c_14 => ?_) (fun c_14 => ?_)
    · -- jump at 14
      have c_14 := zb_t c_14
      refine lv_aload_n hx hb dX0_odds_19 rfl (lv_at hl 0 rfl) ?_
      refine va_get (D := D) (ci := 0) (v := .ref (q 9)) (C := RX0) (T := TX0) (N := 18) hx hb hts iw_X0 hown hK hP 0 rfl rfl 8 (by decide) (hts _ kf_X0_28) (fun _ h9 => h9) rfl dX0_odds_20 ?_
      refine lv_iload_n hx hb dX0_odds_23 rfl (lv_at hl 1 rfl) ?_
      refine za_aald (k := w) (z := q (11 + w)) hx hb hK hP 9 2 rfl rfl rfl (by omega) (by decide) rfl dX0_odds_24 ?_
      refine va_getN (D := D) (ci := 1) (v := .int (a 11 w)) (C := RX1) (T := TX1) (N := 3) hx hb hts iw_X1 hown hK hP (11 + w) (wL_w w hw4) rfl 1 (by decide) (kn_X0_128 hN) (fun _ h9 => h9) rfl dX0_odds_25 ?_
      rw [hc]
      refine lv_istore_n (lv' := [(3, .int (nI (cn w))), (0, .ref (q 0)), (1, .int (nI w)), (2, .int y)]) hx hb dX0_odds_28 rfl hl (by decide) rfl (fun ls hl => ?_)
      refine lv_aload_n hx hb dX0_odds_29 rfl (lv_at hl 1 rfl) ?_
      refine lv_iload_n hx hb dX0_odds_30 rfl (lv_at hl 0 rfl) ?_
      refine lv_aload_n hx hb dX0_odds_31 rfl (lv_at hl 1 rfl) ?_
      refine va_get (D := D) (ci := 0) (v := .ref (q 9)) (C := RX0) (T := TX0) (N := 18) hx hb hts iw_X0 hown hK hP 0 rfl rfl 8 (by decide) (hts _ kf_X0_28) (fun _ h9 => h9) rfl dX0_odds_32 ?_
      refine lv_iload_n hx hb dX0_odds_35 rfl (lv_at hl 2 rfl) ?_
      refine za_aald (k := w) (z := q (11 + w)) hx hb hK hP 9 2 rfl rfl rfl (by omega) (by decide) rfl dX0_odds_36 ?_
      refine zf_vi (rest := [.int (nI (cn w)), .ref (q 0)]) C0 hP hD hS (c_risesLessFalls l D g q n a b v w hw4 (cn w) hc hc8) kk_X0_131 kv_X0_131 1 rfl (11 + w) (wL_w w hw4) hl.1 rfl rfl (Nat.le_of_ble_eq_true rfl) ⟨(Nat.le_of_ble_eq_true rfl), (Nat.le_of_ble_eq_true rfl)⟩ rfl rfl ⟨(Nat.le_of_ble_eq_true rfl), (Nat.le_of_ble_eq_true rfl)⟩ dX0_odds_37 (fun r_37 u_37 H locs hw_37 hP hD hS => ?_)
      obtain rfl := hw_37
      refine zf_vi (rest := []) C0 hP hD hS (c_ordersAsFar l D g q n a b v (cn w) hc8 P hPc hP28 (m_ro (v w) (cn w - 1))) kk_X0_135 kv_X0_135 0 rfl 0 rfl hl.1 rfl rfl (Nat.le_of_ble_eq_true rfl) ⟨(Nat.le_of_ble_eq_true rfl), (Nat.le_of_ble_eq_true rfl)⟩ rfl rfl ⟨(Nat.le_of_ble_eq_true rfl), (Nat.le_of_ble_eq_true rfl)⟩ dX0_odds_40 (fun r_40 u_40 H locs hw_40 hP hD hS => ?_)
      obtain ⟨rfl, hu⟩ := hw_40
      refine lv_istore (lv' := [(4, .int (m_far (m_co (a 10) (cn w - 1)) (nI P) (m_ro (v w) (cn w - 1)) (P + 1))), (3, .int (nI (cn w))), (0, .ref (q 0)), (1, .int (nI w)), (2, .int y)]) hx hb dX0_odds_43 hl (by decide) rfl (fun ls hl => ?_)
      refine lv_iload_n hx hb dX0_odds_45 rfl (lv_at hl 1 rfl) ?_
      refine zk_pi (rest := []) C0 hP hD hS (c_ordersOf l D (tyG g) (cn w) hc8) kk_X0_139 hl.1 rfl rfl (Nat.le_of_ble_eq_true rfl) ⟨(Nat.le_of_ble_eq_true rfl), (Nat.le_of_ble_eq_true rfl)⟩ rfl rfl ⟨(Nat.le_of_ble_eq_true rfl), (Nat.le_of_ble_eq_true rfl)⟩ dX0_odds_46 (fun r_46 H locs hw_46 hP hS => ?_)
      obtain rfl := hw_46
      refine lv_istore (lv' := [(5, .int (m_oo (cn w - 1))), (4, .int (m_far (m_co (a 10) (cn w - 1)) (nI P) (m_ro (v w) (cn w - 1)) (P + 1))), (3, .int (nI (cn w))), (0, .ref (q 0)), (1, .int (nI w)), (2, .int y)]) hx hb dX0_odds_49 hl (by decide) rfl (fun ls hl => ?_)
      refine lv_iload hx hb dX0_odds_51 (lv_at hl 0 rfl) ?_
      refine lv_iload hx hb dX0_odds_53 (lv_at hl 1 rfl) ?_
      refine zk_pi (rest := []) C0 hP hD hS (c_commonDivisor l D (tyG g) (m_oo (cn w - 1)) (m_far (m_co (a 10) (cn w - 1)) (nI P) (m_ro (v w) (cn w - 1)) (P + 1))) kk_X0_142 hl.1 rfl rfl (Nat.le_of_ble_eq_true rfl) ⟨(Nat.le_of_ble_eq_true rfl), (Nat.le_of_ble_eq_true rfl)⟩ rfl rfl ⟨(Nat.le_of_ble_eq_true rfl), (Nat.le_of_ble_eq_true rfl)⟩ dX0_odds_55 (fun r_55 H locs hw_55 hP hS => ?_)
      obtain rfl := hw_55
      refine lv_istore (lv' := [(6, .int (m_gcd 64 (m_oo (cn w - 1)) (m_far (m_co (a 10) (cn w - 1)) (nI P) (m_ro (v w) (cn w - 1)) (P + 1)))), (5, .int (m_oo (cn w - 1))), (4, .int (m_far (m_co (a 10) (cn w - 1)) (nI P) (m_ro (v w) (cn w - 1)) (P + 1))), (3, .int (nI (cn w))), (0, .ref (q 0)), (1, .int (nI w)), (2, .int y)]) hx hb dX0_odds_58 hl (by decide) rfl (fun ls hl => ?_)
      refine lv_iload_n hx hb dX0_odds_60 rfl (lv_at hl 6 rfl) ?_
      refine lv_if_ne (tgt := 69) hx hb dX0_odds_61 (by decide) (fun c_61 => ?_) (fun c_61 => ?_)
      · -- jump at 61
        refine lv_iload hx hb dX0_odds_69 (lv_at hl 1 rfl) ?_
        refine lv_iload hx hb dX0_odds_71 (lv_at hl 0 rfl) ?_
        refine lv_idiv hx hb dX0_odds_73 (m_gcd_ne _ _ _) ?_
        exact hret ((m_oo (cn w - 1)) / (m_gcd 64 (m_oo (cn w - 1)) (m_far (m_co (a 10) (cn w - 1)) (nI P) (m_ro (v w) (cn w - 1)) (P + 1)))) u_40 _ _ _ _ _ _ (vp_nar_int _) (by simp [c_4, c_14, c_61, hcl, m_odds, hP0]) hP hD hS (Nat.le_of_ble_eq_true rfl) (Nat.le_of_ble_eq_true rfl) dX0_odds_74
      · -- on at 61
        refine lv_iload hx hb dX0_odds_64 (lv_at hl 2 rfl) ?_
        refine lv_goto (tgt := 71) hx hb dX0_odds_66 (by decide) ?_
        refine lv_iload hx hb dX0_odds_71 (lv_at hl 0 rfl) ?_
        refine lv_idiv hx hb dX0_odds_73 (m_gcd_ne _ _ _) ?_
        exact hret ((m_far (m_co (a 10) (cn w - 1)) (nI P) (m_ro (v w) (cn w - 1)) (P + 1)) / (m_gcd 64 (m_oo (cn w - 1)) (m_far (m_co (a 10) (cn w - 1)) (nI P) (m_ro (v w) (cn w - 1)) (P + 1)))) u_40 _ _ _ _ _ _ (vp_nar_int _) (by simp only [c_4, c_14, hcl, Bool.and_true, if_true]; rw [hP0, c_61]; rfl) hP hD hS (Nat.le_of_ble_eq_true rfl) (Nat.le_of_ble_eq_true rfl) dX0_odds_74
    · -- on at 14
      have c_14 := zb_f c_14
      refine lv_iconst (v := (-1)) hx hb dX0_odds_17 (by decide) ?_
      exact hret (-1) (a 10) _ _ _ _ _ _ (vp_nar_int _) (by simp [c_4, c_14, hcl]) hP hD hS (Nat.le_of_ble_eq_true rfl) (Nat.le_of_ble_eq_true rfl) dX0_odds_18
