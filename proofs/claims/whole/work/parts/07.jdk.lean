def rm_compare : Room := { frames := 0, cells := 0, slots := 0, locals := 0 }
set_option maxHeartbeats 4000000 in
set_option maxRecDepth 100000 in
theorem c_compare (l : Launch) (D : va_G) (tys : List (ClassId × FieldType)) (x y : Int32) : zc_i l D tys yJ_compare cJ_compare 2 (some .int) rm_compare [.int x, .int y] [] (fun (r : Int32) (u : Unit) => r = m_cmp x y) (fun _ => []) 0 0 := by
  refine zi_of (by decide) (Nat.le_of_ble_eq_true rfl) rfl ?_
  intro p e s m args below meth cd_ A Q ls C0 hnm hP hD hS hl hret
  obtain ⟨hx, hb, hr, hml, hlocks, hown, hts, hK, hA, hN⟩ := id C0
  have hl : lv_has ls 2 [(0, .int x), (1, .int y)] := hl
  refine lv_iload_n hx hb dJ_compare_0 rfl (lv_at hl 0 rfl) ?_
  refine lv_iload_n hx hb dJ_compare_1 rfl (lv_at hl 1 rfl) ?_
  refine lv_icmp_ge (tgt := 9) hx hb dJ_compare_2 (by decide) (fun c_2 => ?_) (fun c_2 => ?_)
  · -- jump at 2
    refine lv_iload_n hx hb dJ_compare_9 rfl (lv_at hl 0 rfl) ?_
    refine lv_iload_n hx hb dJ_compare_10 rfl (lv_at hl 1 rfl) ?_
    refine lv_icmp_ne (tgt := 18) hx hb dJ_compare_11 (by decide) (fun c_11 => ?_) (fun c_11 => ?_)
    · -- jump at 11
      refine lv_iconst (v := 1) hx hb dJ_compare_18 (by decide) ?_
      exact hret 1 () _ _ _ _ _ _ rfl (by first | exact m_cmp1 c_2 | exact m_cmp2 c_2 c_11 | exact m_cmp3 c_2 c_11) hP hD hS (Nat.le_of_ble_eq_true rfl) (Nat.le_of_ble_eq_true rfl) dJ_compare_19
    · -- on at 11
      refine lv_iconst (v := 0) hx hb dJ_compare_14 (by decide) ?_
      refine lv_goto (tgt := 19) hx hb dJ_compare_15 (by decide) ?_
      exact hret 0 () _ _ _ _ _ _ rfl (by first | exact m_cmp1 c_2 | exact m_cmp2 c_2 c_11 | exact m_cmp3 c_2 c_11) hP hD hS (Nat.le_of_ble_eq_true rfl) (Nat.le_of_ble_eq_true rfl) dJ_compare_19
  · -- on at 2
    refine lv_iconst (v := (-1)) hx hb dJ_compare_5 (by decide) ?_
    refine lv_goto (tgt := 19) hx hb dJ_compare_6 (by decide) ?_
    exact hret (-1) () _ _ _ _ _ _ rfl (by first | exact m_cmp1 c_2 | exact m_cmp2 c_2 c_11 | exact m_cmp3 c_2 c_11) hP hD hS (Nat.le_of_ble_eq_true rfl) (Nat.le_of_ble_eq_true rfl) dJ_compare_19
def rm_fill : Room := { frames := 0, cells := 0, slots := 0, locals := 0 }
set_option maxHeartbeats 4000000 in
set_option maxRecDepth 100000 in
theorem c_fill (l : Launch) (D : va_G) (tys : List (ClassId × FieldType)) (t0 : Nat) (cA : ClassId) (ht0 : tys[t0]? = some (cA, .int)) (x n : Nat) (hn : n < 2 ^ 31) (f : Nat → Int32) (z : Int32) : zc_v l D tys yJ_fill cJ_fill 4 none rm_fill [.ref x, .int z] [(x, .inl (cA, n, .inl f))] (fun (u : Unit) => True) (fun _ => [(x, .inl (cA, n, .inl (m_fil z f n)))]) 0 0 := by
  refine zv_of (by decide) (Nat.le_of_ble_eq_true rfl) rfl ?_
  intro p e s m args below meth cd_ A Q ls C0 hnm hP hD hS hl hret
  obtain ⟨hx, hb, hr, hml, hlocks, hown, hts, hK, hA, hN⟩ := id C0
  have hl : lv_has ls 4 [(0, .ref x), (1, .int z)] := hl
  refine lv_iconst (v := 0) hx hb dJ_fill_0 (by decide) ?_
  refine lv_istore_n (lv' := [(2, .int 0), (0, .ref x), (1, .int z)]) hx hb dJ_fill_1 rfl hl (by decide) rfl (fun ls hl => ?_)
  refine lv_aload_n hx hb dJ_fill_2 rfl (lv_at hl 1 rfl) ?_
  refine va_alen (v := nI n) hx hb hK hP 0 t0 rfl ht0 rfl dJ_fill_3 ?_
  refine lv_istore_n (lv' := [(3, .int (nI n)), (2, .int 0), (0, .ref x), (1, .int z)]) hx hb dJ_fill_4 rfl hl (by decide) rfl (fun ls hl => ?_)
  have lp_5 : ∀ (t_5 i : Nat) , i + t_5 = n → ∀ (H : Heap) (locs : List Loc) (ls : Array Slot), va_P D vwCl ([(x, .inl (cA, n, .inl (m_fil z f i)))]) H → va_D A ([(x, .inl (cA, n, .inl (m_fil z f i)))]) → va_S A s.heap H locs → lv_has ls 4 [(2, .int (nI i)), (0, .ref x), (1, .int z), (3, .int (nI n))] → W p l e rm_fill s m args below meth cd_ H locs 0 0 Q (F0 m 5 ls []) := by
    intro t_5
    induction t_5 with
    | zero =>
      intro i hi_5 H locs ls hP hD hS hl
      obtain rfl : n = i := by omega
      refine lv_iload_n hx hb dJ_fill_5 rfl (lv_at hl 0 rfl) ?_
      refine lv_iload_n hx hb dJ_fill_6 rfl (lv_at hl 3 rfl) ?_
      refine lv_icmp_ge (tgt := 20) hx hb dJ_fill_7 (by decide) (fun _ => ?_) (fun c_7 => absurd (nI_le (Nat.le_refl _) (by omega)) c_7)
      exact hret () _ _ _ _ _ _ trivial hP hD hS (Nat.le_of_ble_eq_true rfl) (Nat.le_of_ble_eq_true rfl) dJ_fill_20
    | succ t_5 ih_5 =>
      intro i hi_5 H locs ls hP hD hS hl
      refine lv_iload_n hx hb dJ_fill_5 rfl (lv_at hl 0 rfl) ?_
      refine lv_iload_n hx hb dJ_fill_6 rfl (lv_at hl 3 rfl) ?_
      refine lv_icmp_ge (tgt := 20) hx hb dJ_fill_7 (by decide) (fun c_7 => absurd c_7 (nI_ge (by omega) (by omega))) (fun _ => ?_)
      refine lv_aload_n hx hb dJ_fill_10 rfl (lv_at hl 1 rfl) ?_
      refine lv_iload_n hx hb dJ_fill_11 rfl (lv_at hl 0 rfl) ?_
      refine lv_iload_n hx hb dJ_fill_12 rfl (lv_at hl 2 rfl) ?_
      refine za_iast (k := i) (x := z) (f := (m_fil z f i)) hx hb hK hP hD hS 0 t0 rfl ht0 rfl (by omega) (by omega) dJ_fill_13 (fun H locs hP hD hS => ?_)
      have hP : va_P D vwCl ([(x, .inl (cA, n, .inl (upd (m_fil z f i) i z)))]) H := hP
      have hD : va_D A ([(x, .inl (cA, n, .inl (upd (m_fil z f i) i z)))]) := hD
      refine lv_iinc (v := nI (i + 1)) (lv' := [(2, .int (nI (i + 1))), (0, .ref x), (1, .int z), (3, .int (nI n))]) hx hb dJ_fill_14 hl (k := 0) rfl (nI_1 i) (by decide) rfl (fun ls hl => ?_)
      refine lv_goto (tgt := 5) hx hb dJ_fill_17 (by decide) ?_
      have hP : va_P D vwCl ([(x, .inl (cA, n, .inl (m_fil z f (i + 1))))]) _ := hP
      have hD : va_D A ([(x, .inl (cA, n, .inl (m_fil z f (i + 1))))]) := hD
      have hl : lv_has ls 4 [(2, .int (nI (i + 1))), (0, .ref x), (1, .int z), (3, .int (nI n))] := lv_sub hl [0, 1, 2, 3] rfl
      exact ih_5 (i + 1)  (by omega)  _ _ _ hP hD hS hl
  exact lp_5 (n - 0) 0  (by omega)  _ _ _ hP hD hS (lv_sub hl [1, 2, 3, 0] rfl)
