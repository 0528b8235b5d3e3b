def rm_M_sample : Room := { frames := 1, cells := 0, slots := 0, locals := 25 }
set_option maxHeartbeats 4000000 in
set_option maxRecDepth 100000 in
theorem c_M_sample (l : Launch) (D : va_G) (g : Nat → ClassId) (q : Nat → Nat) (a : Nat → Nat → Int32) (b : Nat → Nat → Int64) (cn : Nat → Nat) (hcn : ∀ w, w < 4 → a 9 w = nI (cn w) ∧ cn w ≤ 8) (x y z : Int32) : zc_i l D (tyG g) yX2_sample cX2_sample 6 (some .int) rm_M_sample [.ref (q 0), .int x, .int y, .int z] (wM g q a b) (fun (r : Int32) (u : zT) => r = (if (m_isWell x && decide ((cn x.toNatClampNeg) < 8) && m_within y.toInt64 0 100000 && m_within z.toInt64 (-1000000) 1000000 && decide ((cn x.toNatClampNeg) = 0 ∨ a 10 (8 * x.toNatClampNeg + (cn x.toNatClampNeg) - 1) < y) && !(m_has (fun j => a 11 (8 * x.toNatClampNeg + j)) z (cn x.toNatClampNeg))) = true then nI ((cn x.toNatClampNeg) + 1) else -1) ∧ u = if (m_isWell x && decide ((cn x.toNatClampNeg) < 8) && m_within y.toInt64 0 100000 && m_within z.toInt64 (-1000000) 1000000 && decide ((cn x.toNatClampNeg) = 0 ∨ a 10 (8 * x.toNatClampNeg + (cn x.toNatClampNeg) - 1) < y) && !(m_has (fun j => a 11 (8 * x.toNatClampNeg + j)) z (cn x.toNatClampNeg))) = true then (va_up (va_up (va_up a 9 (upd (a 9) x.toNatClampNeg (nI ((cn x.toNatClampNeg) + 1)))) 10 (upd (a 10) (8 * x.toNatClampNeg + (cn x.toNatClampNeg)) y)) 11 (upd (a 11) (8 * x.toNatClampNeg + (cn x.toNatClampNeg)) z), b) else (a, b)) (fun u => wM g q u.1 u.2) 0 0 := by
  refine zi_of (by decide) (Nat.le_of_ble_eq_true rfl) rfl ?_
  intro p e s m args below meth cd_ A Q ls C0 hnm hP hD hS hl hret
  obtain ⟨hx, hb, hr, hml, hlocks, hown, hts, hK, hA, hN⟩ := id C0
  have hl : lv_has ls 6 [(0, .ref (q 0)), (1, .int x), (2, .int y), (3, .int z)] := hl
  refine lv_iload_n hx hb dX2_sample_0 rfl (lv_at hl 1 rfl) ?_
  refine zk_pi (rest := []) C0 hP hD hS (c_M_isWell l D (tyG g) x) kk_X2_115 hl.1 rfl rfl (Nat.le_of_ble_eq_true rfl) ⟨(Nat.le_of_ble_eq_true rfl), (Nat.le_of_ble_eq_true rfl)⟩ rfl rfl ⟨(Nat.le_of_ble_eq_true rfl), (Nat.le_of_ble_eq_true rfl)⟩ dX2_sample_1 (fun r_1 H locs hw_1 hP hS => ?_)
  obtain rfl := hw_1
  refine lv_if_eq (tgt := 44) hx hb dX2_sample_4 (by decide) (fun c_4 => ?_) (fun c_4 => ?_)
  · -- jump at 4
    have c_4 := zb_f c_4
    refine lv_iconst (v := (-1)) hx hb dX2_sample_44 (by decide) ?_
    exact hret (-1) (a, b) _ _ _ _ _ _ (vp_nar_int _) (by simp [c_4]) hP hD hS (Nat.le_of_ble_eq_true rfl) (Nat.le_of_ble_eq_true rfl) dX2_sample_45
  · -- on at 4
    have c_4 := zb_t c_4
    obtain ⟨w, hw0, rfl⟩ := m_rng (m := 3) (by decide) (by decide) c_4
    have hw4 : w < 4 := by omega
    have hcl : (nI w).toNatClampNeg = w := nI_clamp (by omega)
    obtain ⟨hc, hc8⟩ := hcn w hw4
    refine lv_aload_n hx hb dX2_sample_7 rfl (lv_at hl 0 rfl) ?_
    refine va_get (D := D) (ci := 2) (v := .ref (q 9)) (C := RX2) (T := TX2) (N := 22) hx hb hts iw_X2 hown hK hP 0 rfl rfl 17 (by decide) (hts _ kf_X2_44) (fun _ h9 => h9) rfl dX2_sample_8 ?_
    refine lv_iload_n hx hb dX2_sample_11 rfl (lv_at hl 1 rfl) ?_
    refine za_iald (k := w) (f := (a 9)) (v := a 9 w) hx hb hK hP 9 0 rfl rfl rfl (by omega) (by decide) rfl dX2_sample_12 ?_
    rw [hc]
    refine lv_bipush (v := 8) hx hb dX2_sample_13 (by decide) ?_
    refine lv_icmp_eq (tgt := 44) hx hb dX2_sample_15 (by decide) (fun c_15 => ?_) (fun c_15 => ?_)
    · -- jump at 15
      have hc1 : ¬ cn w < 8 := by have h9 := (nI_eq (a := cn w) (b := 8) (by omega) (by decide)).mp c_15; omega
      refine lv_iconst (v := (-1)) hx hb dX2_sample_44 (by decide) ?_
      exact hret (-1) (a, b) _ _ _ _ _ _ (vp_nar_int _) (by simp [c_4, hc1, hcl]) hP hD hS (Nat.le_of_ble_eq_true rfl) (Nat.le_of_ble_eq_true rfl) dX2_sample_45
    · -- on at 15
      have hc1 : cn w < 8 := by rcases Nat.lt_or_ge (cn w) 8 with h | h; exact h; exact absurd (show nI (cn w) = 8 from by rw [show cn w = 8 from by omega]; rfl) c_15
      refine lv_iload_n hx hb dX2_sample_18 rfl (lv_at hl 2 rfl) ?_
      refine lv_i2l (v := y.toInt64) hx hb dX2_sample_19 rfl ?_
      refine lv_lconst (v := 0) hx hb dX2_sample_20 (by decide) ?_
      refine lv_ldc2 (v := 100000) hx hb hown (hts _ kc_X2_118) dX2_sample_21 ?_
      refine zk_pi (rest := []) C0 hP hD hS (c_M_isIn l D (tyG g) y.toInt64 (0 : Int64) (100000 : Int64)) kk_X2_63 hl.1 rfl rfl (Nat.le_of_ble_eq_true rfl) ⟨(Nat.le_of_ble_eq_true rfl), (Nat.le_of_ble_eq_true rfl)⟩ rfl rfl ⟨(Nat.le_of_ble_eq_true rfl), (Nat.le_of_ble_eq_true rfl)⟩ dX2_sample_24 (fun r_24 H locs hw_24 hP hS => ?_)
      obtain rfl := hw_24
      refine lv_if_eq (tgt := 44) hx hb dX2_sample_27 (by decide) (fun c_27 => ?_) (fun c_27 => ?_)
      · -- jump at 27
        have c_27 := zb_f c_27
        refine lv_iconst (v := (-1)) hx hb dX2_sample_44 (by decide) ?_
        exact hret (-1) (a, b) _ _ _ _ _ _ (vp_nar_int _) (by simp [c_4, hc1, c_27, hcl]) hP hD hS (Nat.le_of_ble_eq_true rfl) (Nat.le_of_ble_eq_true rfl) dX2_sample_45
      · -- on at 27
        have c_27 := zb_t c_27
        refine lv_iload_n hx hb dX2_sample_30 rfl (lv_at hl 3 rfl) ?_
        refine lv_i2l (v := z.toInt64) hx hb dX2_sample_31 rfl ?_
        refine lv_ldc2 (v := (-1000000)) hx hb hown (hts _ kc_X2_120) dX2_sample_32 ?_
        refine lv_ldc2 (v := 1000000) hx hb hown (hts _ kc_X2_67) dX2_sample_35 ?_
        refine zk_pi (rest := []) C0 hP hD hS (c_M_isIn l D (tyG g) z.toInt64 ((-1000000) : Int64) (1000000 : Int64)) kk_X2_63 hl.1 rfl rfl (Nat.le_of_ble_eq_true rfl) ⟨(Nat.le_of_ble_eq_true rfl), (Nat.le_of_ble_eq_true rfl)⟩ rfl rfl ⟨(Nat.le_of_ble_eq_true rfl), (Nat.le_of_ble_eq_true rfl)⟩ dX2_sample_38 (fun r_38 H locs hw_38 hP hS => ?_)
        obtain rfl := hw_38
        refine lv_if_ne (tgt := 46) hx hb dX2_sample_41 (by decide) (fun c_41 => ?_) (fun c_41 => ?_)
        · -- jump at 41
          have c_41 := zb_t c_41
          refine lv_bipush (v := 8) hx hb dX2_sample_46 (by decide) ?_
          refine lv_iload_n hx hb dX2_sample_48 rfl (lv_at hl 1 rfl) ?_
          refine lv_imul hx hb dX2_sample_49 ?_
          rw [show 8 * (nI w) = nI (8 * w) from (pk_mul 8 w)]
          refine lv_aload_n hx hb dX2_sample_50 rfl (lv_at hl 0 rfl) ?_
          refine va_get (D := D) (ci := 2) (v := .ref (q 9)) (C := RX2) (T := TX2) (N := 22) hx hb hts iw_X2 hown hK hP 0 rfl rfl 17 (by decide) (hts _ kf_X2_44) (fun _ h9 => h9) rfl dX2_sample_51 ?_
          refine lv_iload_n hx hb dX2_sample_54 rfl (lv_at hl 1 rfl) ?_
          refine za_iald (k := w) (f := (a 9)) (v := a 9 w) hx hb hK hP 9 0 rfl rfl rfl (by omega) (by decide) rfl dX2_sample_55 ?_
          rw [hc]
          refine lv_iadd hx hb dX2_sample_56 ?_
          rw [show (nI (8 * w)) + (nI (cn w)) = nI (8 * w + cn w) from (nI_add (8 * w) (cn w))]
          refine lv_istore (lv' := [(4, .int (nI (8 * w + cn w))), (0, .ref (q 0)), (1, .int (nI w)), (2, .int y), (3, .int z)]) hx hb dX2_sample_57 hl (by decide) rfl (fun ls hl => ?_)
          refine lv_aload_n hx hb dX2_sample_59 rfl (lv_at hl 1 rfl) ?_
          refine va_get (D := D) (ci := 2) (v := .ref (q 9)) (C := RX2) (T := TX2) (N := 22) hx hb hts iw_X2 hown hK hP 0 rfl rfl 17 (by decide) (hts _ kf_X2_44) (fun _ h9 => h9) rfl dX2_sample_60 ?_
          refine lv_iload_n hx hb dX2_sample_63 rfl (lv_at hl 2 rfl) ?_
          refine za_iald (k := w) (f := (a 9)) (v := a 9 w) hx hb hK hP 9 0 rfl rfl rfl (by omega) (by decide) rfl dX2_sample_64 ?_
          rw [hc]
          refine lv_if_le (tgt := 83) hx hb dX2_sample_65 (by decide) (fun c_65 => ?_) (fun c_65 => ?_)
          · -- jump at 65
            have hc3 : cn w = 0 := by rcases Nat.eq_zero_or_pos (cn w) with h | h; exact h; exact absurd c_65 (nI_nle h (by omega))
            have hc5 : cn w = 0 ∨ a 10 (8 * w + cn w - 1) < y := Or.inl hc3
            refine lv_bipush (v := 8) hx hb dX2_sample_83 (by decide) ?_
            refine lv_iload_n hx hb dX2_sample_85 rfl (lv_at hl 2 rfl) ?_
            refine lv_imul hx hb dX2_sample_86 ?_
            rw [show 8 * (nI w) = nI (8 * w) from (pk_mul 8 w)]
            refine lv_istore (lv' := [(5, .int (nI (8 * w))), (4, .int (nI (8 * w + cn w))), (0, .ref (q 0)), (1, .int (nI w)), (2, .int y), (3, .int z)]) hx hb dX2_sample_87 hl (by decide) rfl (fun ls hl => ?_)
            have lp_89 : ∀ (t_89 i : Nat) , i + t_89 = (cn w) → (∀ j, j < i → ¬ a 11 (8 * w + j) = z) → ∀ (H : Heap) (locs : List Loc) (ls : Array Slot), va_P D vwCl (wM g q a b) H → va_D A (wM g q a b) → va_S A s.heap H locs → lv_has ls 6 [(5, .int (nI (8 * w + i))), (0, .ref (q 0)), (1, .int (nI w)), (2, .int y), (3, .int z), (4, .int (nI (8 * w + cn w)))] → W p l e rm_M_sample s m args below meth cd_ H locs 0 0 Q (F0 m 89 ls []) := by
              intro t_89
              induction t_89 with
              | zero =>
                intro i hi_89 hne H locs ls hP hD hS hl
                obtain rfl : (cn w) = i := by omega
                refine lv_iload hx hb dX2_sample_89 (lv_at hl 0 rfl) ?_
                refine lv_iload hx hb dX2_sample_91 (lv_at hl 5 rfl) ?_
                refine lv_icmp_ge (tgt := 115) hx hb dX2_sample_93 (by decide) (fun _ => ?_) (fun c_93 => absurd (nI_le (Nat.le_refl _) (by omega)) c_93)
                have hhas : m_has (fun j => a 11 (8 * w + j)) z (cn w) = false := zb_f (m_has_f (f := fun j => a 11 (8 * w + j)) hne).symm
                refine lv_aload_n hx hb dX2_sample_115 rfl (lv_at hl 1 rfl) ?_
                refine va_get (D := D) (ci := 2) (v := .ref (q 10)) (C := RX2) (T := TX2) (N := 22) hx hb hts iw_X2 hown hK hP 0 rfl rfl 18 (by decide) (hts _ kf_X2_47) (fun _ h9 => h9) rfl dX2_sample_116 ?_
                refine lv_iload hx hb dX2_sample_119 (lv_at hl 5 rfl) ?_
                refine lv_iload_n hx hb dX2_sample_121 rfl (lv_at hl 3 rfl) ?_
                refine za_iast (k := (8 * w + cn w)) (x := y) (f := (a 10)) hx hb hK hP hD hS 10 0 rfl rfl rfl (by omega) (by decide) dX2_sample_122 (fun H locs hP hD hS => ?_)
                have hP : va_P D vwCl (wM g q (va_up a 10 (upd (a 10) (8 * w + cn w) y)) b) H := hP
                have hD : va_D A (wM g q (va_up a 10 (upd (a 10) (8 * w + cn w) y)) b) := hD
                refine lv_aload_n hx hb dX2_sample_123 rfl (lv_at hl 1 rfl) ?_
                refine va_get (D := D) (ci := 2) (v := .ref (q 11)) (C := RX2) (T := TX2) (N := 22) hx hb hts iw_X2 hown hK hP 0 rfl rfl 19 (by decide) (hts _ kf_X2_50) (fun _ h9 => h9) rfl dX2_sample_124 ?_
                refine lv_iload hx hb dX2_sample_127 (lv_at hl 5 rfl) ?_
                refine lv_iload_n hx hb dX2_sample_129 rfl (lv_at hl 4 rfl) ?_
                refine za_iast (k := (8 * w + cn w)) (x := z) (f := (a 11)) hx hb hK hP hD hS 11 0 rfl rfl rfl (by omega) (by decide) dX2_sample_130 (fun H locs hP hD hS => ?_)
                have hP : va_P D vwCl (wM g q (va_up (va_up a 10 (upd (a 10) (8 * w + cn w) y)) 11 (upd (a 11) (8 * w + cn w) z)) b) H := hP
                have hD : va_D A (wM g q (va_up (va_up a 10 (upd (a 10) (8 * w + cn w) y)) 11 (upd (a 11) (8 * w + cn w) z)) b) := hD
                refine lv_aload_n hx hb dX2_sample_131 rfl (lv_at hl 1 rfl) ?_
                refine va_get (D := D) (ci := 2) (v := .ref (q 9)) (C := RX2) (T := TX2) (N := 22) hx hb hts iw_X2 hown hK hP 0 rfl rfl 17 (by decide) (hts _ kf_X2_44) (fun _ h9 => h9) rfl dX2_sample_132 ?_
                refine lv_iload_n hx hb dX2_sample_135 rfl (lv_at hl 2 rfl) ?_
                refine lv_dup2_11 hx hb dX2_sample_136 rfl rfl ?_
                refine za_iald (k := w) (f := (a 9)) (v := a 9 w) hx hb hK hP 9 0 rfl rfl rfl (by omega) (by decide) rfl dX2_sample_137 ?_
                rw [hc]
                refine lv_iconst (v := 1) hx hb dX2_sample_138 (by decide) ?_
                refine lv_iadd hx hb dX2_sample_139 ?_
                rw [show (nI (cn w)) + 1 = nI (cn w + 1) from (nI_1 (cn w))]
                refine za_iast (k := w) (x := nI (cn w + 1)) (f := (a 9)) hx hb hK hP hD hS 9 0 rfl rfl rfl (by omega) (by decide) dX2_sample_140 (fun H locs hP hD hS => ?_)
                have hP : va_P D vwCl (wM g q (va_up (va_up (va_up a 9 (upd (a 9) w (nI (cn w + 1)))) 10 (upd (a 10) (8 * w + cn w) y)) 11 (upd (a 11) (8 * w + cn w) z)) b) H := hP
                have hD : va_D A (wM g q (va_up (va_up (va_up a 9 (upd (a 9) w (nI (cn w + 1)))) 10 (upd (a 10) (8 * w + cn w) y)) 11 (upd (a 11) (8 * w + cn w) z)) b) := hD
                refine lv_aload_n hx hb dX2_sample_141 rfl (lv_at hl 1 rfl) ?_
                refine va_get (D := D) (ci := 2) (v := .ref (q 9)) (C := RX2) (T := TX2) (N := 22) hx hb hts iw_X2 hown hK hP 0 rfl rfl 17 (by decide) (hts _ kf_X2_44) (fun _ h9 => h9) rfl dX2_sample_142 ?_
                refine lv_iload_n hx hb dX2_sample_145 rfl (lv_at hl 2 rfl) ?_
                refine za_iald (k := w) (f := (upd (a 9) w (nI (cn w + 1)))) (v := nI (cn w + 1)) hx hb hK hP 9 0 rfl rfl rfl (by omega) (by decide) pk_us dX2_sample_146 ?_
                exact hret (nI (cn w + 1)) (va_up (va_up (va_up a 9 (upd (a 9) w (nI (cn w + 1)))) 10 (upd (a 10) (8 * w + cn w) y)) 11 (upd (a 11) (8 * w + cn w) z), b) _ _ _ _ _ _ (vp_nar_int _) (by simp [c_4, hc1, c_27, c_41, hc5, hcl, hhas]) hP hD hS (Nat.le_of_ble_eq_true rfl) (Nat.le_of_ble_eq_true rfl) dX2_sample_147
              | succ t_89 ih_89 =>
                intro i hi_89 hne H locs ls hP hD hS hl
                refine lv_iload hx hb dX2_sample_89 (lv_at hl 0 rfl) ?_
                refine lv_iload hx hb dX2_sample_91 (lv_at hl 5 rfl) ?_
                refine lv_icmp_ge (tgt := 115) hx hb dX2_sample_93 (by decide) (fun c_93 => absurd c_93 (nI_ge (by omega) (by omega))) (fun _ => ?_)
                refine lv_aload_n hx hb dX2_sample_96 rfl (lv_at hl 1 rfl) ?_
                refine va_get (D := D) (ci := 2) (v := .ref (q 11)) (C := RX2) (T := TX2) (N := 22) hx hb hts iw_X2 hown hK hP 0 rfl rfl 19 (by decide) (hts _ kf_X2_50) (fun _ h9 => h9) rfl dX2_sample_97 ?_
                refine lv_iload hx hb dX2_sample_100 (lv_at hl 0 rfl) ?_
                refine za_iald (k := (8 * w + i)) (f := (a 11)) (v := a 11 (8 * w + i)) hx hb hK hP 11 0 rfl rfl rfl (by omega) (by decide) rfl dX2_sample_102 ?_
                refine lv_iload_n hx hb dX2_sample_103 rfl (lv_at hl 4 rfl) ?_
                refine lv_icmp_ne (tgt := 109) hx hb dX2_sample_104 (by decide) (fun c_104 => ?_) (fun c_104 => ?_)
                · -- jump at 104
                  refine lv_iinc (v := nI ((8 * w + i) + 1)) (lv' := [(5, .int (nI ((8 * w + i) + 1))), (0, .ref (q 0)), (1, .int (nI w)), (2, .int y), (3, .int z), (4, .int (nI (8 * w + cn w)))]) hx hb dX2_sample_109 hl (k := 0) rfl (nI_1 (8 * w + i)) (by decide) rfl (fun ls hl => ?_)
                  refine lv_goto (tgt := 89) hx hb dX2_sample_112 (by decide) ?_
                  have hP : va_P D vwCl (wM g q a b) _ := hP
                  have hD : va_D A (wM g q a b) := hD
                  have hl : lv_has ls 6 [(5, .int (nI (8 * w + (i + 1)))), (0, .ref (q 0)), (1, .int (nI w)), (2, .int y), (3, .int z), (4, .int (nI (8 * w + cn w)))] := lv_sub hl [0, 1, 2, 3, 4, 5] rfl
                  exact ih_89 (i + 1)  (by omega) (lt_s hne c_104) _ _ _ hP hD hS hl
                · -- on at 104
                  have hhas : m_has (fun j => a 11 (8 * w + j)) z (cn w) = true := zb_t (fun h => absurd ((m_has_t (f := fun j => a 11 (8 * w + j)) (c := cn w) (i := i) (by omega) c_104).trans h) (by decide))
                  refine lv_iconst (v := (-1)) hx hb dX2_sample_107 (by decide) ?_
                  exact hret (-1) (a, b) _ _ _ _ _ _ (vp_nar_int _) (by simp [c_4, hc1, c_27, c_41, hc5, hcl, hhas]) hP hD hS (Nat.le_of_ble_eq_true rfl) (Nat.le_of_ble_eq_true rfl) dX2_sample_108
            exact lp_89 ((cn w) - 0) 0  (by omega) (fun _ h => absurd h (Nat.not_lt_zero _)) _ _ _ hP hD hS (lv_sub hl [0, 2, 3, 4, 5, 1] rfl)
          · -- on at 65
            have hc3 : ¬ cn w = 0 := fun h => c_65 (by rw [h]; decide)
            refine lv_iload_n hx hb dX2_sample_68 rfl (lv_at hl 3 rfl) ?_
            refine lv_aload_n hx hb dX2_sample_69 rfl (lv_at hl 1 rfl) ?_
            refine va_get (D := D) (ci := 2) (v := .ref (q 10)) (C := RX2) (T := TX2) (N := 22) hx hb hts iw_X2 hown hK hP 0 rfl rfl 18 (by decide) (hts _ kf_X2_47) (fun _ h9 => h9) rfl dX2_sample_70 ?_
            refine lv_iload hx hb dX2_sample_73 (lv_at hl 0 rfl) ?_
            refine lv_iconst (v := 1) hx hb dX2_sample_75 (by decide) ?_
            refine lv_isub hx hb dX2_sample_76 ?_
            rw [show (nI (8 * w + cn w)) - 1 = nI (8 * w + cn w - 1) from (pk_sub (a := 8 * w + cn w) (b := 1) (by omega))]
            refine za_iald (k := (8 * w + cn w - 1)) (f := (a 10)) (v := a 10 (8 * w + cn w - 1)) hx hb hK hP 10 0 rfl rfl rfl (by omega) (by decide) rfl dX2_sample_77 ?_
            refine lv_icmp_gt (tgt := 83) hx hb dX2_sample_78 (by decide) (fun c_78 => ?_) (fun c_78 => ?_)
            · -- jump at 78
              have hc5 : cn w = 0 ∨ a 10 (8 * w + cn w - 1) < y := Or.inr c_78
              refine lv_bipush (v := 8) hx hb dX2_sample_83 (by decide) ?_
              refine lv_iload_n hx hb dX2_sample_85 rfl (lv_at hl 2 rfl) ?_
              refine lv_imul hx hb dX2_sample_86 ?_
              rw [show 8 * (nI w) = nI (8 * w) from (pk_mul 8 w)]
              refine lv_istore (lv' := [(5, .int (nI (8 * w))), (4, .int (nI (8 * w + cn w))), (0, .ref (q 0)), (1, .int (nI w)), (2, .int y), (3, .int z)]) hx hb dX2_sample_87 hl (by decide) rfl (fun ls hl => ?_)
              have lp_89 : ∀ (t_89 i : Nat) , i + t_89 = (cn w) → (∀ j, j < i → ¬ a 11 (8 * w + j) = z) → ∀ (H : Heap) (locs : List Loc) (ls : Array Slot), va_P D vwCl (wM g q a b) H → va_D A (wM g q a b) → va_S A s.heap H locs → lv_has ls 6 [(5, .int (nI (8 * w + i))), (0, .ref (q 0)), (1, .int (nI w)), (2, .int y), (3, .int z), (4, .int (nI (8 * w + cn w)))] → W p l e rm_M_sample s m args below meth cd_ H locs 0 0 Q (F0 m 89 ls []) := by
                intro t_89
                induction t_89 with
                | zero =>
                  intro i hi_89 hne H locs ls hP hD hS hl
                  obtain rfl : (cn w) = i := by omega
                  refine lv_iload hx hb dX2_sample_89 (lv_at hl 0 rfl) ?_
                  refine lv_iload hx hb dX2_sample_91 (lv_at hl 5 rfl) ?_
                  refine lv_icmp_ge (tgt := 115) hx hb dX2_sample_93 (by decide) (fun _ => ?_) (fun c_93 => absurd (nI_le (Nat.le_refl _) (by omega)) c_93)
                  have hhas : m_has (fun j => a 11 (8 * w + j)) z (cn w) = false := zb_f (m_has_f (f := fun j => a 11 (8 * w + j)) hne).symm
                  refine lv_aload_n hx hb dX2_sample_115 rfl (lv_at hl 1 rfl) ?_
                  refine va_get (D := D) (ci := 2) (v := .ref (q 10)) (C := RX2) (T := TX2) (N := 22) hx hb hts iw_X2 hown hK hP 0 rfl rfl 18 (by decide) (hts _ kf_X2_47) (fun _ h9 => h9) rfl dX2_sample_116 ?_
                  refine lv_iload hx hb dX2_sample_119 (lv_at hl 5 rfl) ?_
                  refine lv_iload_n hx hb dX2_sample_121 rfl (lv_at hl 3 rfl) ?_
                  refine za_iast (k := (8 * w + cn w)) (x := y) (f := (a 10)) hx hb hK hP hD hS 10 0 rfl rfl rfl (by omega) (by decide) dX2_sample_122 (fun H locs hP hD hS => ?_)
                  have hP : va_P D vwCl (wM g q (va_up a 10 (upd (a 10) (8 * w + cn w) y)) b) H := hP
                  have hD : va_D A (wM g q (va_up a 10 (upd (a 10) (8 * w + cn w) y)) b) := hD
                  refine lv_aload_n hx hb dX2_sample_123 rfl (lv_at hl 1 rfl) ?_
                  refine va_get (D := D) (ci := 2) (v := .ref (q 11)) (C := RX2) (T := TX2) (N := 22) hx hb hts iw_X2 hown hK hP 0 rfl rfl 19 (by decide) (hts _ kf_X2_50) (fun _ h9 => h9) rfl dX2_sample_124 ?_
                  refine lv_iload hx hb dX2_sample_127 (lv_at hl 5 rfl) ?_
                  refine lv_iload_n hx hb dX2_sample_129 rfl (lv_at hl 4 rfl) ?_
                  refine za_iast (k := (8 * w + cn w)) (x := z) (f := (a 11)) hx hb hK hP hD hS 11 0 rfl rfl rfl (by omega) (by decide) dX2_sample_130 (fun H locs hP hD hS => ?_)
                  have hP : va_P D vwCl (wM g q (va_up (va_up a 10 (upd (a 10) (8 * w + cn w) y)) 11 (upd (a 11) (8 * w + cn w) z)) b) H := hP
                  have hD : va_D A (wM g q (va_up (va_up a 10 (upd (a 10) (8 * w + cn w) y)) 11 (upd (a 11) (8 * w + cn w) z)) b) := hD
                  refine lv_aload_n hx hb dX2_sample_131 rfl (lv_at hl 1 rfl) ?_
                  refine va_get (D := D) (ci := 2) (v := .ref (q 9)) (C := RX2) (T := TX2) (N := 22) hx hb hts iw_X2 hown hK hP 0 rfl rfl 17 (by decide) (hts _ kf_X2_44) (fun _ h9 => h9) rfl dX2_sample_132 ?_
                  refine lv_iload_n hx hb dX2_sample_135 rfl (lv_at hl 2 rfl) ?_
                  refine lv_dup2_11 hx hb dX2_sample_136 rfl rfl ?_
                  refine za_iald (k := w) (f := (a 9)) (v := a 9 w) hx hb hK hP 9 0 rfl rfl rfl (by omega) (by decide) rfl dX2_sample_137 ?_
                  rw [hc]
                  refine lv_iconst (v := 1) hx hb dX2_sample_138 (by decide) ?_
                  refine lv_iadd hx hb dX2_sample_139 ?_
                  rw [show (nI (cn w)) + 1 = nI (cn w + 1) from (nI_1 (cn w))]
                  refine za_iast (k := w) (x := nI (cn w + 1)) (f := (a 9)) hx hb hK hP hD hS 9 0 rfl rfl rfl (by omega) (by decide) dX2_sample_140 (fun H locs hP hD hS => ?_)
                  have hP : va_P D vwCl (wM g q (va_up (va_up (va_up a 9 (upd (a 9) w (nI (cn w + 1)))) 10 (upd (a 10) (8 * w + cn w) y)) 11 (upd (a 11) (8 * w + cn w) z)) b) H := hP
                  have hD : va_D A (wM g q (va_up (va_up (va_up a 9 (upd (a 9) w (nI (cn w + 1)))) 10 (upd (a 10) (8 * w + cn w) y)) 11 (upd (a 11) (8 * w + cn w) z)) b) := hD
                  refine lv_aload_n hx hb dX2_sample_141 rfl (lv_at hl 1 rfl) ?_
                  refine va_get (D := D) (ci := 2) (v := .ref (q 9)) (C := RX2) (T := TX2) (N := 22) hx hb hts iw_X2 hown hK hP 0 rfl rfl 17 (by decide) (hts _ kf_X2_44) (fun _ h9 => h9) rfl dX2_sample_142 ?_
                  refine lv_iload_n hx hb dX2_sample_145 rfl (lv_at hl 2 rfl) ?_
                  refine za_iald (k := w) (f := (upd (a 9) w (nI (cn w + 1)))) (v := nI (cn w + 1)) hx hb hK hP 9 0 rfl rfl rfl (by omega) (by decide) pk_us dX2_sample_146 ?_
                  exact hret (nI (cn w + 1)) (va_up (va_up (va_up a 9 (upd (a 9) w (nI (cn w + 1)))) 10 (upd (a 10) (8 * w + cn w) y)) 11 (upd (a 11) (8 * w + cn w) z), b) _ _ _ _ _ _ (vp_nar_int _) (by simp [c_4, hc1, c_27, c_41, hc5, hcl, hhas]) hP hD hS (Nat.le_of_ble_eq_true rfl) (Nat.le_of_ble_eq_true rfl) dX2_sample_147
                | succ t_89 ih_89 =>
                  intro i hi_89 hne H locs ls hP hD hS hl
                  refine lv_iload hx hb dX2_sample_89 (lv_at hl 0 rfl) ?_
                  refine lv_iload hx hb dX2_sample_91 (lv_at hl 5 rfl) ?_
                  refine lv_icmp_ge (tgt := 115) hx hb dX2_sample_93 (by decide) (fun c_93 => absurd c_93 (nI_ge (by omega) (by omega))) (fun _ => ?_)
                  refine lv_aload_n hx hb dX2_sample_96 rfl (lv_at hl 1 rfl) ?_
                  refine va_get (D := D) (ci := 2) (v := .ref (q 11)) (C := RX2) (T := TX2) (N := 22) hx hb hts iw_X2 hown hK hP 0 rfl rfl 19 (by decide) (hts _ kf_X2_50) (fun _ h9 => h9) rfl dX2_sample_97 ?_
                  refine lv_iload hx hb dX2_sample_100 (lv_at hl 0 rfl) ?_
                  refine za_iald (k := (8 * w + i)) (f := (a 11)) (v := a 11 (8 * w + i)) hx hb hK hP 11 0 rfl rfl rfl (by omega) (by decide) rfl dX2_sample_102 ?_
                  refine lv_iload_n hx hb dX2_sample_103 rfl (lv_at hl 4 rfl) ?_
                  refine lv_icmp_ne (tgt := 109) hx hb dX2_sample_104 (by decide) (fun c_104 => ?_) (fun c_104 => ?_)
                  · -- jump at 104
                    refine lv_iinc (v := nI ((8 * w + i) + 1)) (lv' := [(5, .int (nI ((8 * w + i) + 1))), (0, .ref (q 0)), (1, .int (nI w)), (2, .int y), (3, .int z), (4, .int (nI (8 * w + cn w)))]) hx hb dX2_sample_109 hl (k := 0) rfl (nI_1 (8 * w + i)) (by decide) rfl (fun ls hl => ?_)
                    refine lv_goto (tgt := 89) hx hb dX2_sample_112 (by decide) ?_
                    have hP : va_P D vwCl (wM g q a b) _ := hP
                    have hD : va_D A (wM g q a b) := hD
                    have hl : lv_has ls 6 [(5, .int (nI (8 * w + (i + 1)))), (0, .ref (q 0)), (1, .int (nI w)), (2, .int y), (3, .int z), (4, .int (nI (8 * w + cn w)))] := lv_sub hl [0, 1, 2, 3, 4, 5] rfl
                    exact ih_89 (i + 1)  (by omega) (lt_s hne c_104) _ _ _ hP hD hS hl
                  · -- on at 104
                    have hhas : m_has (fun j => a 11 (8 * w + j)) z (cn w) = true := zb_t (fun h => absurd ((m_has_t (f := fun j => a 11 (8 * w + j)) (c := cn w) (i := i) (by omega) c_104).trans h) (by decide))
                    refine lv_iconst (v := (-1)) hx hb dX2_sample_107 (by decide) ?_
                    exact hret (-1) (a, b) _ _ _ _ _ _ (vp_nar_int _) (by simp [c_4, hc1, c_27, c_41, hc5, hcl, hhas]) hP hD hS (Nat.le_of_ble_eq_true rfl) (Nat.le_of_ble_eq_true rfl) dX2_sample_108
              exact lp_89 ((cn w) - 0) 0  (by omega) (fun _ h => absurd h (Nat.not_lt_zero _)) _ _ _ hP hD hS (lv_sub hl [0, 2, 3, 4, 5, 1] rfl)
            · -- on at 78
              have hc5 : ¬ (cn w = 0 ∨ a 10 (8 * w + cn w - 1) < y) := fun h => h.elim hc3 c_78
              refine lv_iconst (v := (-1)) hx hb dX2_sample_81 (by decide) ?_
              exact hret (-1) (a, b) _ _ _ _ _ _ (vp_nar_int _) (by simp [c_4, hc1, c_27, c_41, hc5, hcl]) hP hD hS (Nat.le_of_ble_eq_true rfl) (Nat.le_of_ble_eq_true rfl) dX2_sample_82
        · -- on at 41
          have c_41 := zb_f c_41
          refine lv_iconst (v := (-1)) hx hb dX2_sample_44 (by decide) ?_
          exact hret (-1) (a, b) _ _ _ _ _ _ (vp_nar_int _) (by simp [c_4, hc1, c_27, c_41, hcl]) hP hD hS (Nat.le_of_ble_eq_true rfl) (Nat.le_of_ble_eq_true rfl) dX2_sample_45
def rm_M_trend : Room := { frames := 1, cells := 0, slots := 0, locals := 20 }
set_option maxHeartbeats 4000000 in
set_option maxRecDepth 100000 in
theorem c_M_trend_p (l : Launch) (D : va_G) (g : Nat → ClassId) (q : Nat → Nat) (a : Nat → Nat → Int32) (b : Nat → Nat → Int64) (w : Nat) (hw4 : w < 4) (c : Nat) (hc : a 9 w = nI c) (hc8 : c ≤ 8) (hww : m_isWell (nI w) = true) : zc_i l D (tyG g) yX2_trend cX2_trend 5 (some .int) rm_M_trend [.ref (q 0), .int (nI w)] (wM g q a b) (fun (r : Int32) (u : Unit) => r = r_to (fun j => a 11 (8 * w + j)) c c) (fun _ => wM g q a b) 0 0 := by
  refine zi_of (by decide) (Nat.le_of_ble_eq_true rfl) rfl ?_
  intro p e s m args below meth cd_ A Q ls C0 hnm hP hD hS hl hret
  obtain ⟨hx, hb, hr, hml, hlocks, hown, hts, hK, hA, hN⟩ := id C0
  have hl : lv_has ls 5 [(0, .ref (q 0)), (1, .int (nI w))] := hl
  refine lv_iconst (v := 0) hx hb dX2_trend_0 (by decide) ?_
  refine lv_istore_n (lv' := [(2, .int 0), (0, .ref (q 0)), (1, .int (nI w))]) hx hb dX2_trend_1 rfl hl (by decide) rfl (fun ls hl => ?_)
  refine lv_iconst (v := 0) hx hb dX2_trend_2 (by decide) ?_
  refine lv_istore_n (lv' := [(3, .int 0), (2, .int 0), (0, .ref (q 0)), (1, .int (nI w))]) hx hb dX2_trend_3 rfl hl (by decide) rfl (fun ls hl => ?_)
  have lp_4 : ∀ (t_4 i : Nat) , i + t_4 = c → ∀ (H : Heap) (locs : List Loc) (ls : Array Slot), va_P D vwCl (wM g q a b) H → va_D A (wM g q a b) → va_S A s.heap H locs → lv_has ls 5 [(3, .int (nI i)), (2, .int (r_to (fun j => a 11 (8 * w + j)) c i)), (0, .ref (q 0)), (1, .int (nI w))] → W p l e rm_M_trend s m args below meth cd_ H locs 0 0 Q (F0 m 4 ls []) := by
    intro t_4
    induction t_4 with
    | zero =>
      intro i hi_4 H locs ls hP hD hS hl
      obtain rfl : c = i := by omega
      refine lv_iload_n hx hb dX2_trend_4 rfl (lv_at hl 3 rfl) ?_
      refine zk_pi (rest := []) C0 hP hD hS (c_M_isWell l D (tyG g) (nI w)) kk_X2_115 hl.1 rfl rfl (Nat.le_of_ble_eq_true rfl) ⟨(Nat.le_of_ble_eq_true rfl), (Nat.le_of_ble_eq_true rfl)⟩ rfl rfl ⟨(Nat.le_of_ble_eq_true rfl), (Nat.le_of_ble_eq_true rfl)⟩ dX2_trend_5 (fun r_5 H locs hw_5 hP hS => ?_)
      obtain rfl := hw_5
      refine lv_if_eq (tgt := 83) hx hb dX2_trend_8 (by decide) (fun c_8 => absurd c_8 (by rw [hww]; decide)) (fun _ => ?_)
      refine lv_iload_n hx hb dX2_trend_11 rfl (lv_at hl 0 rfl) ?_
      refine lv_aload_n hx hb dX2_trend_12 rfl (lv_at hl 2 rfl) ?_
      refine va_get (D := D) (ci := 2) (v := .ref (q 9)) (C := RX2) (T := TX2) (N := 22) hx hb hts iw_X2 hown hK hP 0 rfl rfl 17 (by decide) (hts _ kf_X2_44) (fun _ h9 => h9) rfl dX2_trend_13 ?_
      refine lv_iload_n hx hb dX2_trend_16 rfl (lv_at hl 3 rfl) ?_
      refine za_iald (k := w) (f := (a 9)) (v := a 9 w) hx hb hK hP 9 0 rfl rfl rfl (by omega) (by decide) rfl dX2_trend_17 ?_
      rw [hc]
      refine lv_icmp_ge (tgt := 83) hx hb dX2_trend_18 (by decide) (fun _ => ?_) (fun c_18 => absurd (nI_le (Nat.le_refl _) (by omega)) c_18)
      refine lv_iload_n hx hb dX2_trend_83 rfl (lv_at hl 1 rfl) ?_
      exact hret (r_to (fun j => a 11 (8 * w + j)) c c) () _ _ _ _ _ _ (vp_nar_int _) rfl hP hD hS (Nat.le_of_ble_eq_true rfl) (Nat.le_of_ble_eq_true rfl) dX2_trend_84
    | succ t_4 ih_4 =>
      intro i hi_4 H locs ls hP hD hS hl
      refine lv_iload_n hx hb dX2_trend_4 rfl (lv_at hl 3 rfl) ?_
      refine zk_pi (rest := []) C0 hP hD hS (c_M_isWell l D (tyG g) (nI w)) kk_X2_115 hl.1 rfl rfl (Nat.le_of_ble_eq_true rfl) ⟨(Nat.le_of_ble_eq_true rfl), (Nat.le_of_ble_eq_true rfl)⟩ rfl rfl ⟨(Nat.le_of_ble_eq_true rfl), (Nat.le_of_ble_eq_true rfl)⟩ dX2_trend_5 (fun r_5 H locs hw_5 hP hS => ?_)
      obtain rfl := hw_5
      refine lv_if_eq (tgt := 83) hx hb dX2_trend_8 (by decide) (fun c_8 => absurd c_8 (by rw [hww]; decide)) (fun _ => ?_)
      refine lv_iload_n hx hb dX2_trend_11 rfl (lv_at hl 0 rfl) ?_
      refine lv_aload_n hx hb dX2_trend_12 rfl (lv_at hl 2 rfl) ?_
      refine va_get (D := D) (ci := 2) (v := .ref (q 9)) (C := RX2) (T := TX2) (N := 22) hx hb hts iw_X2 hown hK hP 0 rfl rfl 17 (by decide) (hts _ kf_X2_44) (fun _ h9 => h9) rfl dX2_trend_13 ?_
      refine lv_iload_n hx hb dX2_trend_16 rfl (lv_at hl 3 rfl) ?_
      refine za_iald (k := w) (f := (a 9)) (v := a 9 w) hx hb hK hP 9 0 rfl rfl rfl (by omega) (by decide) rfl dX2_trend_17 ?_
      rw [hc]
      refine lv_icmp_ge (tgt := 83) hx hb dX2_trend_18 (by decide) (fun c_18 => absurd c_18 (nI_ge (by omega) (by omega))) (fun _ => ?_)
      refine lv_iload_n hx hb dX2_trend_21 rfl (lv_at hl 0 rfl) ?_
      refine lv_iconst (v := 1) hx hb dX2_trend_22 (by decide) ?_
      refine lv_iadd hx hb dX2_trend_23 ?_
      rw [show (nI i) + 1 = nI (i + 1) from (nI_1 i)]
      refine lv_istore (lv' := [(4, .int (nI (i + 1))), (3, .int (nI i)), (2, .int (r_to (fun j => a 11 (8 * w + j)) c i)), (0, .ref (q 0)), (1, .int (nI w))]) hx hb dX2_trend_24 hl (by decide) rfl (fun ls hl => ?_)
      have lp_26 : ∀ (t_26 j : Nat) , j + t_26 = (c - (i + 1)) → ∀ (H : Heap) (locs : List Loc) (ls : Array Slot), va_P D vwCl (wM g q a b) H → va_D A (wM g q a b) → va_S A s.heap H locs → lv_has ls 5 [(4, .int (nI (i + 1 + j))), (2, .int (r_ti (fun j => a 11 (8 * w + j)) i (r_to (fun j => a 11 (8 * w + j)) c i) j)), (0, .ref (q 0)), (1, .int (nI w)), (3, .int (nI i))] → W p l e rm_M_trend s m args below meth cd_ H locs 0 0 Q (F0 m 26 ls []) := by
        intro t_26
        induction t_26 with
        | zero =>
          intro j hi_26 H locs ls hP hD hS hl
          obtain rfl : (c - (i + 1)) = j := by omega
          refine lv_iload hx hb dX2_trend_26 (lv_at hl 0 rfl) ?_
          refine lv_aload_n hx hb dX2_trend_28 rfl (lv_at hl 2 rfl) ?_
          refine va_get (D := D) (ci := 2) (v := .ref (q 9)) (C := RX2) (T := TX2) (N := 22) hx hb hts iw_X2 hown hK hP 0 rfl rfl 17 (by decide) (hts _ kf_X2_44) (fun _ h9 => h9) rfl dX2_trend_29 ?_
          refine lv_iload_n hx hb dX2_trend_32 rfl (lv_at hl 3 rfl) ?_
          refine za_iald (k := w) (f := (a 9)) (v := a 9 w) hx hb hK hP 9 0 rfl rfl rfl (by omega) (by decide) rfl dX2_trend_33 ?_
          rw [hc]
          refine lv_icmp_ge (tgt := 77) hx hb dX2_trend_34 (by decide) (fun _ => ?_) (fun c_34 => absurd (nI_le (by omega) (by omega)) c_34)
          refine lv_iinc (v := nI (i + 1)) (lv' := [(3, .int (nI (i + 1))), (4, .int (nI (i + 1 + (c - (i + 1))))), (2, .int (r_ti (fun j => a 11 (8 * w + j)) i (r_to (fun j => a 11 (8 * w + j)) c i) (c - (i + 1)))), (0, .ref (q 0)), (1, .int (nI w))]) hx hb dX2_trend_77 hl (k := 4) rfl (nI_1 i) (by decide) rfl (fun ls hl => ?_)
          refine lv_goto (tgt := 4) hx hb dX2_trend_80 (by decide) ?_
          have hP : va_P D vwCl (wM g q a b) _ := hP
          have hD : va_D A (wM g q a b) := hD
          have hl : lv_has ls 5 [(3, .int (nI (i + 1))), (2, .int (r_to (fun j => a 11 (8 * w + j)) c (i + 1))), (0, .ref (q 0)), (1, .int (nI w))] := lv_sub hl [0, 2, 3, 4] rfl
          exact ih_4 (i + 1)  (by omega)  _ _ _ hP hD hS hl
        | succ t_26 ih_26 =>
          intro j hi_26 H locs ls hP hD hS hl
          refine lv_iload hx hb dX2_trend_26 (lv_at hl 0 rfl) ?_
          refine lv_aload_n hx hb dX2_trend_28 rfl (lv_at hl 2 rfl) ?_
          refine va_get (D := D) (ci := 2) (v := .ref (q 9)) (C := RX2) (T := TX2) (N := 22) hx hb hts iw_X2 hown hK hP 0 rfl rfl 17 (by decide) (hts _ kf_X2_44) (fun _ h9 => h9) rfl dX2_trend_29 ?_
          refine lv_iload_n hx hb dX2_trend_32 rfl (lv_at hl 3 rfl) ?_
          refine za_iald (k := w) (f := (a 9)) (v := a 9 w) hx hb hK hP 9 0 rfl rfl rfl (by omega) (by decide) rfl dX2_trend_33 ?_
          rw [hc]
          refine lv_icmp_ge (tgt := 77) hx hb dX2_trend_34 (by decide) (fun c_34 => absurd c_34 (nI_ge (by omega) (by omega))) (fun _ => ?_)
          refine lv_iload_n hx hb dX2_trend_37 rfl (lv_at hl 1 rfl) ?_
          refine lv_aload_n hx hb dX2_trend_38 rfl (lv_at hl 2 rfl) ?_
          refine va_get (D := D) (ci := 2) (v := .ref (q 11)) (C := RX2) (T := TX2) (N := 22) hx hb hts iw_X2 hown hK hP 0 rfl rfl 19 (by decide) (hts _ kf_X2_50) (fun _ h9 => h9) rfl dX2_trend_39 ?_
          refine lv_bipush (v := 8) hx hb dX2_trend_42 (by decide) ?_
          refine lv_iload_n hx hb dX2_trend_44 rfl (lv_at hl 3 rfl) ?_
          refine lv_imul hx hb dX2_trend_45 ?_
          rw [show 8 * (nI w) = nI (8 * w) from (pk_mul 8 w)]
          refine lv_iload hx hb dX2_trend_46 (lv_at hl 0 rfl) ?_
          refine lv_iadd hx hb dX2_trend_48 ?_
          rw [show (nI (8 * w)) + (nI (i + 1 + j)) = nI (8 * w + (i + 1 + j)) from (nI_add (8 * w) (i + 1 + j))]
          refine za_iald (k := (8 * w + (i + 1 + j))) (f := (a 11)) (v := a 11 (8 * w + (i + 1 + j))) hx hb hK hP 11 0 rfl rfl rfl (by omega) (by decide) rfl dX2_trend_49 ?_
          refine lv_aload_n hx hb dX2_trend_50 rfl (lv_at hl 2 rfl) ?_
          refine va_get (D := D) (ci := 2) (v := .ref (q 11)) (C := RX2) (T := TX2) (N := 22) hx hb hts iw_X2 hown hK hP 0 rfl rfl 19 (by decide) (hts _ kf_X2_50) (fun _ h9 => h9) rfl dX2_trend_51 ?_
          refine lv_bipush (v := 8) hx hb dX2_trend_54 (by decide) ?_
          refine lv_iload_n hx hb dX2_trend_56 rfl (lv_at hl 3 rfl) ?_
          refine lv_imul hx hb dX2_trend_57 ?_
          rw [show 8 * (nI w) = nI (8 * w) from (pk_mul 8 w)]
          refine lv_iload_n hx hb dX2_trend_58 rfl (lv_at hl 4 rfl) ?_
          refine lv_iadd hx hb dX2_trend_59 ?_
          rw [show (nI (8 * w)) + (nI i) = nI (8 * w + i) from (nI_add (8 * w) i)]
          refine za_iald (k := (8 * w + i)) (f := (a 11)) (v := a 11 (8 * w + i)) hx hb hK hP 11 0 rfl rfl rfl (by omega) (by decide) rfl dX2_trend_60 ?_
          refine lv_icmp_le (tgt := 68) hx hb dX2_trend_61 (by decide) (fun c_61 => ?_) (fun c_61 => ?_)
          · -- jump at 61
            refine lv_iconst (v := (-1)) hx hb dX2_trend_68 (by decide) ?_
            refine lv_topi (fun t9_1 et9_1 => ?_)
            obtain rfl : t9_1 = if a 11 (8 * w + (i + 1 + j)) ≤ a 11 (8 * w + i) then (-1) else 1 := et9_1.trans (if_pos c_61).symm
            refine lv_iadd hx hb dX2_trend_69 ?_
            refine lv_istore_n (lv' := [(2, .int ((r_ti (fun j => a 11 (8 * w + j)) i (r_to (fun j => a 11 (8 * w + j)) c i) j) + (if a 11 (8 * w + (i + 1 + j)) ≤ a 11 (8 * w + i) then (-1) else 1))), (4, .int (nI (i + 1 + j))), (0, .ref (q 0)), (1, .int (nI w)), (3, .int (nI i))]) hx hb dX2_trend_70 rfl hl (by decide) rfl (fun ls hl => ?_)
            refine lv_iinc (v := nI ((i + 1 + j) + 1)) (lv' := [(4, .int (nI ((i + 1 + j) + 1))), (2, .int ((r_ti (fun j => a 11 (8 * w + j)) i (r_to (fun j => a 11 (8 * w + j)) c i) j) + (if a 11 (8 * w + (i + 1 + j)) ≤ a 11 (8 * w + i) then (-1) else 1))), (0, .ref (q 0)), (1, .int (nI w)), (3, .int (nI i))]) hx hb dX2_trend_71 hl (k := 1) rfl (nI_1 (i + 1 + j)) (by decide) rfl (fun ls hl => ?_)
            refine lv_goto (tgt := 26) hx hb dX2_trend_74 (by decide) ?_
            have hP : va_P D vwCl (wM g q a b) _ := hP
            have hD : va_D A (wM g q a b) := hD
            have hl : lv_has ls 5 [(4, .int (nI (i + 1 + (j + 1)))), (2, .int (r_ti (fun j => a 11 (8 * w + j)) i (r_to (fun j => a 11 (8 * w + j)) c i) (j + 1))), (0, .ref (q 0)), (1, .int (nI w)), (3, .int (nI i))] := lv_sub hl [0, 1, 2, 3, 4] rfl
            exact ih_26 (j + 1)  (by omega)  _ _ _ hP hD hS hl
          · -- on at 61
            refine lv_iconst (v := 1) hx hb dX2_trend_64 (by decide) ?_
            refine lv_goto (tgt := 69) hx hb dX2_trend_65 (by decide) ?_
            refine lv_topi (fun t9_2 et9_2 => ?_)
            obtain rfl : t9_2 = if a 11 (8 * w + (i + 1 + j)) ≤ a 11 (8 * w + i) then (-1) else 1 := et9_2.trans (if_neg c_61).symm
            refine lv_iadd hx hb dX2_trend_69 ?_
            refine lv_istore_n (lv' := [(2, .int ((r_ti (fun j => a 11 (8 * w + j)) i (r_to (fun j => a 11 (8 * w + j)) c i) j) + (if a 11 (8 * w + (i + 1 + j)) ≤ a 11 (8 * w + i) then (-1) else 1))), (4, .int (nI (i + 1 + j))), (0, .ref (q 0)), (1, .int (nI w)), (3, .int (nI i))]) hx hb dX2_trend_70 rfl hl (by decide) rfl (fun ls hl => ?_)
            refine lv_iinc (v := nI ((i + 1 + j) + 1)) (lv' := [(4, .int (nI ((i + 1 + j) + 1))), (2, .int ((r_ti (fun j => a 11 (8 * w + j)) i (r_to (fun j => a 11 (8 * w + j)) c i) j) + (if a 11 (8 * w + (i + 1 + j)) ≤ a 11 (8 * w + i) then (-1) else 1))), (0, .ref (q 0)), (1, .int (nI w)), (3, .int (nI i))]) hx hb dX2_trend_71 hl (k := 1) rfl (nI_1 (i + 1 + j)) (by decide) rfl (fun ls hl => ?_)
            refine lv_goto (tgt := 26) hx hb dX2_trend_74 (by decide) ?_
            have hP : va_P D vwCl (wM g q a b) _ := hP
            have hD : va_D A (wM g q a b) := hD
            have hl : lv_has ls 5 [(4, .int (nI (i + 1 + (j + 1)))), (2, .int (r_ti (fun j => a 11 (8 * w + j)) i (r_to (fun j => a 11 (8 * w + j)) c i) (j + 1))), (0, .ref (q 0)), (1, .int (nI w)), (3, .int (nI i))] := lv_sub hl [0, 1, 2, 3, 4] rfl
            exact ih_26 (j + 1)  (by omega)  _ _ _ hP hD hS hl
      exact lp_26 ((c - (i + 1)) - 0) 0  (by omega)  _ _ _ hP hD hS (lv_sub hl [0, 2, 3, 4, 1] rfl)
  exact lp_4 (c - 0) 0  (by omega)  _ _ _ hP hD hS (lv_sub hl [0, 1, 2, 3] rfl)
set_option maxHeartbeats 4000000 in
set_option maxRecDepth 100000 in
theorem c_M_trend_n (l : Launch) (D : va_G) (g : Nat → ClassId) (q : Nat → Nat) (a : Nat → Nat → Int32) (b : Nat → Nat → Int64) (x : Int32) (hxw : m_isWell x = false) : zc_i l D (tyG g) yX2_trend cX2_trend 5 (some .int) rm_M_trend [.ref (q 0), .int x] (wM g q a b) (fun (r : Int32) (u : Unit) => r = 0) (fun _ => wM g q a b) 0 0 := by
  refine zi_of (by decide) (Nat.le_of_ble_eq_true rfl) rfl ?_
  intro p e s m args below meth cd_ A Q ls C0 hnm hP hD hS hl hret
  obtain ⟨hx, hb, hr, hml, hlocks, hown, hts, hK, hA, hN⟩ := id C0
  have hl : lv_has ls 5 [(0, .ref (q 0)), (1, .int x)] := hl
  refine lv_iconst (v := 0) hx hb dX2_trend_0 (by decide) ?_
  refine lv_istore_n (lv' := [(2, .int 0), (0, .ref (q 0)), (1, .int x)]) hx hb dX2_trend_1 rfl hl (by decide) rfl (fun ls hl => ?_)
  refine lv_iconst (v := 0) hx hb dX2_trend_2 (by decide) ?_
  refine lv_istore_n (lv' := [(3, .int 0), (2, .int 0), (0, .ref (q 0)), (1, .int x)]) hx hb dX2_trend_3 rfl hl (by decide) rfl (fun ls hl => ?_)
  refine lv_iload_n hx hb dX2_trend_4 rfl (lv_at hl 3 rfl) ?_
  refine zk_pi (rest := []) C0 hP hD hS (c_M_isWell l D (tyG g) x) kk_X2_115 hl.1 rfl rfl (Nat.le_of_ble_eq_true rfl) ⟨(Nat.le_of_ble_eq_true rfl), (Nat.le_of_ble_eq_true rfl)⟩ rfl rfl ⟨(Nat.le_of_ble_eq_true rfl), (Nat.le_of_ble_eq_true rfl)⟩ dX2_trend_5 (fun r_5 H locs hw_5 hP hS => ?_)
  obtain rfl := hw_5
  refine lv_if_eq (tgt := 83) hx hb dX2_trend_8 (by decide) (fun _ => ?_) (fun c_8 => absurd (by rw [hxw]; rfl) c_8)
  refine lv_iload_n hx hb dX2_trend_83 rfl (lv_at hl 1 rfl) ?_
  exact hret 0 () _ _ _ _ _ _ (vp_nar_int _) rfl hP hD hS (Nat.le_of_ble_eq_true rfl) (Nat.le_of_ble_eq_true rfl) dX2_trend_84
def rm_M_countOrders : Room := { frames := 0, cells := 0, slots := 0, locals := 0 }
set_option maxHeartbeats 4000000 in
set_option maxRecDepth 100000 in
theorem c_M_countOrders (l : Launch) (D : va_G) (g : Nat → ClassId) (q : Nat → Nat) (a : Nat → Nat → Int32) (b : Nat → Nat → Int64) (c : Nat) (hc8 : c ≤ 8) : zc_v l D (tyG g) yX2_countOrders cX2_countOrders 5 none rm_M_countOrders [.ref (q 0), .int (nI c)] (wM g q a b) (fun (u : (Nat → Nat → Int64)) => u = va_up (va_up b 12 (r_B (b 12) (b 13) (c - 1)).1) 13 (r_B (b 12) (b 13) (c - 1)).2) (fun u => wM g q a u) 0 0 := by
  refine zv_of (by decide) (Nat.le_of_ble_eq_true rfl) rfl ?_
  intro p e s m args below meth cd_ A Q ls C0 hnm hP hD hS hl hret
  obtain ⟨hx, hb, hr, hml, hlocks, hown, hts, hK, hA, hN⟩ := id C0
  have hl : lv_has ls 5 [(0, .ref (q 0)), (1, .int (nI c))] := hl
  refine lv_iconst (v := 0) hx hb dX2_countOrders_0 (by decide) ?_
  refine lv_istore_n (lv' := [(2, .int 0), (0, .ref (q 0)), (1, .int (nI c))]) hx hb dX2_countOrders_1 rfl hl (by decide) rfl (fun ls hl => ?_)
  have lp_2 : ∀ (t_2 k : Nat) , k + t_2 = 30 → ∀ (H : Heap) (locs : List Loc) (ls : Array Slot), va_P D vwCl (wM g q a (va_up b 12 (r_o0 (b 12) k))) H → va_D A (wM g q a (va_up b 12 (r_o0 (b 12) k))) → va_S A s.heap H locs → lv_has ls 5 [(2, .int (nI k)), (0, .ref (q 0)), (1, .int (nI c))] → W p l e rm_M_countOrders s m args below meth cd_ H locs 0 0 Q (F0 m 2 ls []) := by
    intro t_2
    induction t_2 with
    | zero =>
      intro k hi_2 H locs ls hP hD hS hl
      obtain rfl : 30 = k := by omega
      refine lv_iload_n hx hb dX2_countOrders_2 rfl (lv_at hl 0 rfl) ?_
      refine lv_bipush (v := 30) hx hb dX2_countOrders_3 (by decide) ?_
      refine lv_icmp_ge (tgt := 29) hx hb dX2_countOrders_5 (by decide) (fun _ => ?_) (fun c_5 => absurd (nI_le (a := 30) (Nat.le_refl _) (by omega)) c_5)
      refine lv_iconst (v := 2) hx hb dX2_countOrders_29 (by decide) ?_
      refine lv_istore_n (lv' := [(2, .int 2), (0, .ref (q 0)), (1, .int (nI c))]) hx hb dX2_countOrders_30 rfl hl (by decide) rfl (fun ls hl => ?_)
      have lp_31 : ∀ (t_31 i : Nat) , i + t_31 = (c - 1) → ∀ (H : Heap) (locs : List Loc) (ls : Array Slot), va_P D vwCl (wM g q a (va_up (va_up b 12 ((r_B (b 12) (b 13) i).1)) 13 ((r_B (b 12) (b 13) i).2))) H → va_D A (wM g q a (va_up (va_up b 12 ((r_B (b 12) (b 13) i).1)) 13 ((r_B (b 12) (b 13) i).2))) → va_S A s.heap H locs → lv_has ls 5 [(2, .int (nI (2 + i))), (0, .ref (q 0)), (1, .int (nI c))] → W p l e rm_M_countOrders s m args below meth cd_ H locs 0 0 Q (F0 m 31 ls []) := by
        intro t_31
        induction t_31 with
        | zero =>
          intro i hi_31 H locs ls hP hD hS hl
          obtain rfl : (c - 1) = i := by omega
          refine lv_iload_n hx hb dX2_countOrders_31 rfl (lv_at hl 0 rfl) ?_
          refine lv_iload_n hx hb dX2_countOrders_32 rfl (lv_at hl 2 rfl) ?_
          refine lv_icmp_gt (tgt := 128) hx hb dX2_countOrders_33 (by decide) (fun _ => ?_) (fun c_33 => absurd (nI_lt (by omega) (by omega)) c_33)
          exact hret (va_up (va_up b 12 ((r_B (b 12) (b 13) (c - 1)).1)) 13 ((r_B (b 12) (b 13) (c - 1)).2)) _ _ _ _ _ _ rfl hP hD hS (Nat.le_of_ble_eq_true rfl) (Nat.le_of_ble_eq_true rfl) dX2_countOrders_128
        | succ t_31 ih_31 =>
          intro i hi_31 H locs ls hP hD hS hl
          refine lv_iload_n hx hb dX2_countOrders_31 rfl (lv_at hl 0 rfl) ?_
          refine lv_iload_n hx hb dX2_countOrders_32 rfl (lv_at hl 2 rfl) ?_
          refine lv_icmp_gt (tgt := 128) hx hb dX2_countOrders_33 (by decide) (fun c_33 => absurd c_33 (nI_nlt (by omega) (by omega))) (fun _ => ?_)
          refine lv_iconst (v := 0) hx hb dX2_countOrders_36 (by decide) ?_
          refine lv_istore_n (lv' := [(3, .int 0), (2, .int (nI (2 + i))), (0, .ref (q 0)), (1, .int (nI c))]) hx hb dX2_countOrders_37 rfl hl (by decide) rfl (fun ls hl => ?_)
          have lp_38 : ∀ (t_38 k : Nat) , k + t_38 = 30 → ∀ (H : Heap) (locs : List Loc) (ls : Array Slot), va_P D vwCl (wM g q a (va_up (va_up b 12 ((r_B (b 12) (b 13) i).1)) 13 (r_C (r_B (b 12) (b 13) i).1 (r_B (b 12) (b 13) i).2 (2 + i) k))) H → va_D A (wM g q a (va_up (va_up b 12 ((r_B (b 12) (b 13) i).1)) 13 (r_C (r_B (b 12) (b 13) i).1 (r_B (b 12) (b 13) i).2 (2 + i) k))) → va_S A s.heap H locs → lv_has ls 5 [(3, .int (nI k)), (2, .int (nI (2 + i))), (0, .ref (q 0)), (1, .int (nI c))] → W p l e rm_M_countOrders s m args below meth cd_ H locs 0 0 Q (F0 m 38 ls []) := by
            intro t_38
            induction t_38 with
            | zero =>
              intro k hi_38 H locs ls hP hD hS hl
              obtain rfl : 30 = k := by omega
              refine lv_iload_n hx hb dX2_countOrders_38 rfl (lv_at hl 0 rfl) ?_
              refine lv_bipush (v := 30) hx hb dX2_countOrders_39 (by decide) ?_
              refine lv_icmp_ge (tgt := 96) hx hb dX2_countOrders_41 (by decide) (fun _ => ?_) (fun c_41 => absurd (nI_le (a := 30) (Nat.le_refl _) (by omega)) c_41)
              refine lv_iconst (v := 0) hx hb dX2_countOrders_96 (by decide) ?_
              refine lv_istore_n (lv' := [(3, .int 0), (2, .int (nI (2 + i))), (0, .ref (q 0)), (1, .int (nI c))]) hx hb dX2_countOrders_97 rfl hl (by decide) rfl (fun ls hl => ?_)
              have lp_98 : ∀ (t_98 k : Nat) , k + t_98 = 30 → ∀ (H : Heap) (locs : List Loc) (ls : Array Slot), va_P D vwCl (wM g q a (va_up (va_up b 12 (r_E (r_B (b 12) (b 13) i).1 (r_C (r_B (b 12) (b 13) i).1 (r_B (b 12) (b 13) i).2 (2 + i) 30) k)) 13 (r_C (r_B (b 12) (b 13) i).1 (r_B (b 12) (b 13) i).2 (2 + i) 30))) H → va_D A (wM g q a (va_up (va_up b 12 (r_E (r_B (b 12) (b 13) i).1 (r_C (r_B (b 12) (b 13) i).1 (r_B (b 12) (b 13) i).2 (2 + i) 30) k)) 13 (r_C (r_B (b 12) (b 13) i).1 (r_B (b 12) (b 13) i).2 (2 + i) 30))) → va_S A s.heap H locs → lv_has ls 5 [(3, .int (nI k)), (2, .int (nI (2 + i))), (0, .ref (q 0)), (1, .int (nI c))] → W p l e rm_M_countOrders s m args below meth cd_ H locs 0 0 Q (F0 m 98 ls []) := by
                intro t_98
                induction t_98 with
                | zero =>
                  intro k hi_98 H locs ls hP hD hS hl
                  obtain rfl : 30 = k := by omega
                  refine lv_iload_n hx hb dX2_countOrders_98 rfl (lv_at hl 0 rfl) ?_
                  refine lv_bipush (v := 30) hx hb dX2_countOrders_99 (by decide) ?_
                  refine lv_icmp_ge (tgt := 122) hx hb dX2_countOrders_101 (by decide) (fun _ => ?_) (fun c_101 => absurd (nI_le (a := 30) (Nat.le_refl _) (by omega)) c_101)
                  refine lv_iinc (v := nI ((2 + i) + 1)) (lv' := [(2, .int (nI ((2 + i) + 1))), (3, .int (nI 30)), (0, .ref (q 0)), (1, .int (nI c))]) hx hb dX2_countOrders_122 hl (k := 1) rfl (nI_1 (2 + i)) (by decide) rfl (fun ls hl => ?_)
                  refine lv_goto (tgt := 31) hx hb dX2_countOrders_125 (by decide) ?_
                  have hP : va_P D vwCl (wM g q a (va_up (va_up b 12 ((r_B (b 12) (b 13) (i + 1)).1)) 13 ((r_B (b 12) (b 13) (i + 1)).2))) _ := hP
                  have hD : va_D A (wM g q a (va_up (va_up b 12 ((r_B (b 12) (b 13) (i + 1)).1)) 13 ((r_B (b 12) (b 13) (i + 1)).2))) := hD
                  have hl : lv_has ls 5 [(2, .int (nI (2 + (i + 1)))), (0, .ref (q 0)), (1, .int (nI c))] := lv_sub hl [0, 2, 3] rfl
                  exact ih_31 (i + 1)  (by omega)  _ _ _ hP hD hS hl
                | succ t_98 ih_98 =>
                  intro k hi_98 H locs ls hP hD hS hl
                  refine lv_iload_n hx hb dX2_countOrders_98 rfl (lv_at hl 0 rfl) ?_
                  refine lv_bipush (v := 30) hx hb dX2_countOrders_99 (by decide) ?_
                  refine lv_icmp_ge (tgt := 122) hx hb dX2_countOrders_101 (by decide) (fun c_101 => absurd c_101 (nI_ge (a := k) (b := 30) (by omega) (by omega))) (fun _ => ?_)
                  refine lv_aload_n hx hb dX2_countOrders_104 rfl (lv_at hl 2 rfl) ?_
                  refine va_get (D := D) (ci := 2) (v := .ref (q 12)) (C := RX2) (T := TX2) (N := 22) hx hb hts iw_X2 hown hK hP 0 rfl rfl 20 (by decide) (hts _ kf_X2_53) (fun _ h9 => h9) rfl dX2_countOrders_105 ?_
                  refine lv_iload_n hx hb dX2_countOrders_108 rfl (lv_at hl 0 rfl) ?_
                  refine lv_aload_n hx hb dX2_countOrders_109 rfl (lv_at hl 2 rfl) ?_
                  refine va_get (D := D) (ci := 2) (v := .ref (q 13)) (C := RX2) (T := TX2) (N := 22) hx hb hts iw_X2 hown hK hP 0 rfl rfl 21 (by decide) (hts _ kf_X2_56) (fun _ h9 => h9) rfl dX2_countOrders_110 ?_
                  refine lv_iload_n hx hb dX2_countOrders_113 rfl (lv_at hl 0 rfl) ?_
                  refine za_lald (k := k) (f := (r_C (r_B (b 12) (b 13) i).1 (r_B (b 12) (b 13) i).2 (2 + i) 30)) (v := (r_C (r_B (b 12) (b 13) i).1 (r_B (b 12) (b 13) i).2 (2 + i) 30) k) hx hb hK hP 13 1 rfl rfl rfl (by omega) (by decide) rfl dX2_countOrders_114 ?_
                  refine za_last (k := k) (x := (r_C (r_B (b 12) (b 13) i).1 (r_B (b 12) (b 13) i).2 (2 + i) 30) k) (f := (r_E (r_B (b 12) (b 13) i).1 (r_C (r_B (b 12) (b 13) i).1 (r_B (b 12) (b 13) i).2 (2 + i) 30) k)) hx hb hK hP hD hS 12 1 rfl rfl rfl (by omega) (by decide) dX2_countOrders_115 (fun H locs hP hD hS => ?_)
                  have hP : va_P D vwCl (wM g q a (va_up (va_up b 12 (vp_updL (r_E (r_B (b 12) (b 13) i).1 (r_C (r_B (b 12) (b 13) i).1 (r_B (b 12) (b 13) i).2 (2 + i) 30) k) k ((r_C (r_B (b 12) (b 13) i).1 (r_B (b 12) (b 13) i).2 (2 + i) 30) k))) 13 (r_C (r_B (b 12) (b 13) i).1 (r_B (b 12) (b 13) i).2 (2 + i) 30))) H := hP
                  have hD : va_D A (wM g q a (va_up (va_up b 12 (vp_updL (r_E (r_B (b 12) (b 13) i).1 (r_C (r_B (b 12) (b 13) i).1 (r_B (b 12) (b 13) i).2 (2 + i) 30) k) k ((r_C (r_B (b 12) (b 13) i).1 (r_B (b 12) (b 13) i).2 (2 + i) 30) k))) 13 (r_C (r_B (b 12) (b 13) i).1 (r_B (b 12) (b 13) i).2 (2 + i) 30))) := hD
                  refine lv_iinc (v := nI (k + 1)) (lv' := [(3, .int (nI (k + 1))), (2, .int (nI (2 + i))), (0, .ref (q 0)), (1, .int (nI c))]) hx hb dX2_countOrders_116 hl (k := 0) rfl (nI_1 k) (by decide) rfl (fun ls hl => ?_)
                  refine lv_goto (tgt := 98) hx hb dX2_countOrders_119 (by decide) ?_
                  have hP : va_P D vwCl (wM g q a (va_up (va_up b 12 (r_E (r_B (b 12) (b 13) i).1 (r_C (r_B (b 12) (b 13) i).1 (r_B (b 12) (b 13) i).2 (2 + i) 30) (k + 1))) 13 (r_C (r_B (b 12) (b 13) i).1 (r_B (b 12) (b 13) i).2 (2 + i) 30))) _ := hP
                  have hD : va_D A (wM g q a (va_up (va_up b 12 (r_E (r_B (b 12) (b 13) i).1 (r_C (r_B (b 12) (b 13) i).1 (r_B (b 12) (b 13) i).2 (2 + i) 30) (k + 1))) 13 (r_C (r_B (b 12) (b 13) i).1 (r_B (b 12) (b 13) i).2 (2 + i) 30))) := hD
                  have hl : lv_has ls 5 [(3, .int (nI (k + 1))), (2, .int (nI (2 + i))), (0, .ref (q 0)), (1, .int (nI c))] := lv_sub hl [0, 1, 2, 3] rfl
                  exact ih_98 (k + 1)  (by omega)  _ _ _ hP hD hS hl
              exact lp_98 (30 - 0) 0  (by omega)  _ _ _ hP hD hS (lv_sub hl [0, 1, 2, 3] rfl)
            | succ t_38 ih_38 =>
              intro k hi_38 H locs ls hP hD hS hl
              refine lv_iload_n hx hb dX2_countOrders_38 rfl (lv_at hl 0 rfl) ?_
              refine lv_bipush (v := 30) hx hb dX2_countOrders_39 (by decide) ?_
              refine lv_icmp_ge (tgt := 96) hx hb dX2_countOrders_41 (by decide) (fun c_41 => absurd c_41 (nI_ge (a := k) (b := 30) (by omega) (by omega))) (fun _ => ?_)
              refine lv_aload_n hx hb dX2_countOrders_44 rfl (lv_at hl 2 rfl) ?_
              refine va_get (D := D) (ci := 2) (v := .ref (q 13)) (C := RX2) (T := TX2) (N := 22) hx hb hts iw_X2 hown hK hP 0 rfl rfl 21 (by decide) (hts _ kf_X2_56) (fun _ h9 => h9) rfl dX2_countOrders_45 ?_
              refine lv_iload_n hx hb dX2_countOrders_48 rfl (lv_at hl 0 rfl) ?_
              refine lv_lconst (v := 0) hx hb dX2_countOrders_49 (by decide) ?_
              refine za_last (k := k) (x := 0) (f := (r_C (r_B (b 12) (b 13) i).1 (r_B (b 12) (b 13) i).2 (2 + i) k)) hx hb hK hP hD hS 13 1 rfl rfl rfl (by omega) (by decide) dX2_countOrders_50 (fun H locs hP hD hS => ?_)
              have hP : va_P D vwCl (wM g q a (va_up (va_up b 12 ((r_B (b 12) (b 13) i).1)) 13 (vp_updL (r_C (r_B (b 12) (b 13) i).1 (r_B (b 12) (b 13) i).2 (2 + i) k) k 0))) H := hP
              have hD : va_D A (wM g q a (va_up (va_up b 12 ((r_B (b 12) (b 13) i).1)) 13 (vp_updL (r_C (r_B (b 12) (b 13) i).1 (r_B (b 12) (b 13) i).2 (2 + i) k) k 0))) := hD
              refine lv_iconst (v := 0) hx hb dX2_countOrders_51 (by decide) ?_
              refine lv_istore (lv' := [(4, .int 0), (3, .int (nI k)), (2, .int (nI (2 + i))), (0, .ref (q 0)), (1, .int (nI c))]) hx hb dX2_countOrders_52 hl (by decide) rfl (fun ls hl => ?_)
              have lp_54 : ∀ (t_54 t : Nat) , t + t_54 = (min (2 + i) (k + 1)) → ∀ (H : Heap) (locs : List Loc) (ls : Array Slot), va_P D vwCl (wM g q a (va_up (va_up b 12 ((r_B (b 12) (b 13) i).1)) 13 (r_D (r_B (b 12) (b 13) i).1 (r_C (r_B (b 12) (b 13) i).1 (r_B (b 12) (b 13) i).2 (2 + i) k) k t))) H → va_D A (wM g q a (va_up (va_up b 12 ((r_B (b 12) (b 13) i).1)) 13 (r_D (r_B (b 12) (b 13) i).1 (r_C (r_B (b 12) (b 13) i).1 (r_B (b 12) (b 13) i).2 (2 + i) k) k t))) → va_S A s.heap H locs → lv_has ls 5 [(4, .int (nI t)), (3, .int (nI k)), (2, .int (nI (2 + i))), (0, .ref (q 0)), (1, .int (nI c))] → W p l e rm_M_countOrders s m args below meth cd_ H locs 0 0 Q (F0 m 54 ls []) := by
                intro t_54
                induction t_54 with
                | zero =>
                  intro t hi_54 H locs ls hP hD hS hl
                  obtain rfl : (min (2 + i) (k + 1)) = t := by omega
                  refine lv_iload hx hb dX2_countOrders_54 (lv_at hl 0 rfl) ?_
                  refine lv_iload_n hx hb dX2_countOrders_56 rfl (lv_at hl 2 rfl) ?_
                  refine lv_icmp_ge (tgt := 90) hx hb dX2_countOrders_57 (by decide) (fun c_57 => ?_) (fun c_57 => ?_)
                  · -- jump at 57
                    refine lv_iinc (v := nI (k + 1)) (lv' := [(3, .int (nI (k + 1))), (4, .int (nI (min (2 + i) (k + 1)))), (2, .int (nI (2 + i))), (0, .ref (q 0)), (1, .int (nI c))]) hx hb dX2_countOrders_90 hl (k := 1) rfl (nI_1 k) (by decide) rfl (fun ls hl => ?_)
                    refine lv_goto (tgt := 38) hx hb dX2_countOrders_93 (by decide) ?_
                    have hP : va_P D vwCl (wM g q a (va_up (va_up b 12 ((r_B (b 12) (b 13) i).1)) 13 (r_C (r_B (b 12) (b 13) i).1 (r_B (b 12) (b 13) i).2 (2 + i) (k + 1)))) _ := hP
                    have hD : va_D A (wM g q a (va_up (va_up b 12 ((r_B (b 12) (b 13) i).1)) 13 (r_C (r_B (b 12) (b 13) i).1 (r_B (b 12) (b 13) i).2 (2 + i) (k + 1)))) := hD
                    have hl : lv_has ls 5 [(3, .int (nI (k + 1))), (2, .int (nI (2 + i))), (0, .ref (q 0)), (1, .int (nI c))] := lv_sub hl [0, 2, 3, 4] rfl
                    exact ih_38 (k + 1)  (by omega)  _ _ _ hP hD hS hl
                  · -- on at 57
                    refine lv_iload hx hb dX2_countOrders_60 (lv_at hl 0 rfl) ?_
                    refine lv_iload_n hx hb dX2_countOrders_62 rfl (lv_at hl 1 rfl) ?_
                    refine lv_icmp_gt (tgt := 90) hx hb dX2_countOrders_63 (by decide) (fun _ => ?_) (fun c_63 => absurd (by have h9 : ¬ 2 + i ≤ min (2 + i) (k + 1) := fun h => c_57 (nI_le h (by omega)); exact nI_lt (by omega) (by omega)) c_63)
                    refine lv_iinc (v := nI (k + 1)) (lv' := [(3, .int (nI (k + 1))), (4, .int (nI (min (2 + i) (k + 1)))), (2, .int (nI (2 + i))), (0, .ref (q 0)), (1, .int (nI c))]) hx hb dX2_countOrders_90 hl (k := 1) rfl (nI_1 k) (by decide) rfl (fun ls hl => ?_)
                    refine lv_goto (tgt := 38) hx hb dX2_countOrders_93 (by decide) ?_
                    have hP : va_P D vwCl (wM g q a (va_up (va_up b 12 ((r_B (b 12) (b 13) i).1)) 13 (r_C (r_B (b 12) (b 13) i).1 (r_B (b 12) (b 13) i).2 (2 + i) (k + 1)))) _ := hP
                    have hD : va_D A (wM g q a (va_up (va_up b 12 ((r_B (b 12) (b 13) i).1)) 13 (r_C (r_B (b 12) (b 13) i).1 (r_B (b 12) (b 13) i).2 (2 + i) (k + 1)))) := hD
                    have hl : lv_has ls 5 [(3, .int (nI (k + 1))), (2, .int (nI (2 + i))), (0, .ref (q 0)), (1, .int (nI c))] := lv_sub hl [0, 2, 3, 4] rfl
                    exact ih_38 (k + 1)  (by omega)  _ _ _ hP hD hS hl
                | succ t_54 ih_54 =>
                  intro t hi_54 H locs ls hP hD hS hl
                  refine lv_iload hx hb dX2_countOrders_54 (lv_at hl 0 rfl) ?_
                  refine lv_iload_n hx hb dX2_countOrders_56 rfl (lv_at hl 2 rfl) ?_
                  refine lv_icmp_ge (tgt := 90) hx hb dX2_countOrders_57 (by decide) (fun c_57 => absurd c_57 (nI_ge (by omega) (by omega))) (fun _ => ?_)
                  refine lv_iload hx hb dX2_countOrders_60 (lv_at hl 0 rfl) ?_
                  refine lv_iload_n hx hb dX2_countOrders_62 rfl (lv_at hl 1 rfl) ?_
                  refine lv_icmp_gt (tgt := 90) hx hb dX2_countOrders_63 (by decide) (fun c_63 => absurd c_63 (nI_nlt (by omega) (by omega))) (fun _ => ?_)
                  refine lv_aload_n hx hb dX2_countOrders_66 rfl (lv_at hl 3 rfl) ?_
                  refine va_get (D := D) (ci := 2) (v := .ref (q 13)) (C := RX2) (T := TX2) (N := 22) hx hb hts iw_X2 hown hK hP 0 rfl rfl 21 (by decide) (hts _ kf_X2_56) (fun _ h9 => h9) rfl dX2_countOrders_67 ?_
                  refine lv_iload_n hx hb dX2_countOrders_70 rfl (lv_at hl 1 rfl) ?_
                  refine lv_dup2_11 hx hb dX2_countOrders_71 rfl rfl ?_
                  refine za_lald (k := k) (f := (r_D (r_B (b 12) (b 13) i).1 (r_C (r_B (b 12) (b 13) i).1 (r_B (b 12) (b 13) i).2 (2 + i) k) k t)) (v := (r_D (r_B (b 12) (b 13) i).1 (r_C (r_B (b 12) (b 13) i).1 (r_B (b 12) (b 13) i).2 (2 + i) k) k t) k) hx hb hK hP 13 1 rfl rfl rfl (by omega) (by decide) rfl dX2_countOrders_72 ?_
                  refine lv_aload_n hx hb dX2_countOrders_73 rfl (lv_at hl 3 rfl) ?_
                  refine va_get (D := D) (ci := 2) (v := .ref (q 12)) (C := RX2) (T := TX2) (N := 22) hx hb hts iw_X2 hown hK hP 0 rfl rfl 20 (by decide) (hts _ kf_X2_53) (fun _ h9 => h9) rfl dX2_countOrders_74 ?_
                  refine lv_iload_n hx hb dX2_countOrders_77 rfl (lv_at hl 1 rfl) ?_
                  refine lv_iload hx hb dX2_countOrders_78 (lv_at hl 0 rfl) ?_
                  refine lv_isub hx hb dX2_countOrders_80 ?_
                  rw [show (nI k) - (nI t) = nI (k - t) from (pk_sub (by omega))]
                  refine za_lald (k := (k - t)) (f := ((r_B (b 12) (b 13) i).1)) (v := (r_B (b 12) (b 13) i).1 (k - t)) hx hb hK hP 12 1 rfl rfl rfl (by omega) (by decide) rfl dX2_countOrders_81 ?_
                  refine lv_ladd hx hb dX2_countOrders_82 ?_
                  refine za_last (k := k) (x := ((r_D (r_B (b 12) (b 13) i).1 (r_C (r_B (b 12) (b 13) i).1 (r_B (b 12) (b 13) i).2 (2 + i) k) k t) k) + ((r_B (b 12) (b 13) i).1 (k - t))) (f := (r_D (r_B (b 12) (b 13) i).1 (r_C (r_B (b 12) (b 13) i).1 (r_B (b 12) (b 13) i).2 (2 + i) k) k t)) hx hb hK hP hD hS 13 1 rfl rfl rfl (by omega) (by decide) dX2_countOrders_83 (fun H locs hP hD hS => ?_)
                  have hP : va_P D vwCl (wM g q a (va_up (va_up b 12 ((r_B (b 12) (b 13) i).1)) 13 (vp_updL (r_D (r_B (b 12) (b 13) i).1 (r_C (r_B (b 12) (b 13) i).1 (r_B (b 12) (b 13) i).2 (2 + i) k) k t) k (((r_D (r_B (b 12) (b 13) i).1 (r_C (r_B (b 12) (b 13) i).1 (r_B (b 12) (b 13) i).2 (2 + i) k) k t) k) + ((r_B (b 12) (b 13) i).1 (k - t)))))) H := hP
                  have hD : va_D A (wM g q a (va_up (va_up b 12 ((r_B (b 12) (b 13) i).1)) 13 (vp_updL (r_D (r_B (b 12) (b 13) i).1 (r_C (r_B (b 12) (b 13) i).1 (r_B (b 12) (b 13) i).2 (2 + i) k) k t) k (((r_D (r_B (b 12) (b 13) i).1 (r_C (r_B (b 12) (b 13) i).1 (r_B (b 12) (b 13) i).2 (2 + i) k) k t) k) + ((r_B (b 12) (b 13) i).1 (k - t)))))) := hD
                  refine lv_iinc (v := nI (t + 1)) (lv' := [(4, .int (nI (t + 1))), (3, .int (nI k)), (2, .int (nI (2 + i))), (0, .ref (q 0)), (1, .int (nI c))]) hx hb dX2_countOrders_84 hl (k := 0) rfl (nI_1 t) (by decide) rfl (fun ls hl => ?_)
                  refine lv_goto (tgt := 54) hx hb dX2_countOrders_87 (by decide) ?_
                  have hP : va_P D vwCl (wM g q a (va_up (va_up b 12 ((r_B (b 12) (b 13) i).1)) 13 (r_D (r_B (b 12) (b 13) i).1 (r_C (r_B (b 12) (b 13) i).1 (r_B (b 12) (b 13) i).2 (2 + i) k) k (t + 1)))) _ := hP
                  have hD : va_D A (wM g q a (va_up (va_up b 12 ((r_B (b 12) (b 13) i).1)) 13 (r_D (r_B (b 12) (b 13) i).1 (r_C (r_B (b 12) (b 13) i).1 (r_B (b 12) (b 13) i).2 (2 + i) k) k (t + 1)))) := hD
                  have hl : lv_has ls 5 [(4, .int (nI (t + 1))), (3, .int (nI k)), (2, .int (nI (2 + i))), (0, .ref (q 0)), (1, .int (nI c))] := lv_sub hl [0, 1, 2, 3, 4] rfl
                  exact ih_54 (t + 1)  (by omega)  _ _ _ hP hD hS hl
              exact lp_54 ((min (2 + i) (k + 1)) - 0) 0  (by omega)  _ _ _ hP hD hS (lv_sub hl [0, 1, 2, 3, 4] rfl)
          exact lp_38 (30 - 0) 0  (by omega)  _ _ _ hP hD hS (lv_sub hl [0, 1, 2, 3] rfl)
      exact lp_31 ((c - 1) - 0) 0  (by omega)  _ _ _ hP hD hS (lv_sub hl [0, 1, 2] rfl)
    | succ t_2 ih_2 =>
      intro k hi_2 H locs ls hP hD hS hl
      refine lv_iload_n hx hb dX2_countOrders_2 rfl (lv_at hl 0 rfl) ?_
      refine lv_bipush (v := 30) hx hb dX2_countOrders_3 (by decide) ?_
      refine lv_icmp_ge (tgt := 29) hx hb dX2_countOrders_5 (by decide) (fun c_5 => absurd c_5 (nI_ge (a := k) (b := 30) (by omega) (by omega))) (fun _ => ?_)
      refine lv_aload_n hx hb dX2_countOrders_8 rfl (lv_at hl 1 rfl) ?_
      refine va_get (D := D) (ci := 2) (v := .ref (q 12)) (C := RX2) (T := TX2) (N := 22) hx hb hts iw_X2 hown hK hP 0 rfl rfl 20 (by decide) (hts _ kf_X2_53) (fun _ h9 => h9) rfl dX2_countOrders_9 ?_
      refine lv_iload_n hx hb dX2_countOrders_12 rfl (lv_at hl 0 rfl) ?_
      refine lv_iload_n hx hb dX2_countOrders_13 rfl (lv_at hl 0 rfl) ?_
      refine lv_if_ne (tgt := 21) hx hb dX2_countOrders_14 (by decide) (fun c_14 => ?_) (fun c_14 => ?_)
      · -- jump at 14
        have hk0 : ¬ k = 0 := fun h => c_14 (by rw [h]; rfl)
        refine lv_lconst (v := 0) hx hb dX2_countOrders_21 (by decide) ?_
        refine lv_topl (fun t9_1 et9_1 => ?_)
        obtain rfl : t9_1 = if k = 0 then (1 : Int64) else 0 := et9_1.trans (if_neg hk0).symm
        refine za_last (k := k) (x := if k = 0 then (1 : Int64) else 0) (f := (r_o0 (b 12) k)) hx hb hK hP hD hS 12 1 rfl rfl rfl (by omega) (by decide) dX2_countOrders_22 (fun H locs hP hD hS => ?_)
        have hP : va_P D vwCl (wM g q a (va_up b 12 (vp_updL (r_o0 (b 12) k) k (if k = 0 then (1 : Int64) else 0)))) H := hP
        have hD : va_D A (wM g q a (va_up b 12 (vp_updL (r_o0 (b 12) k) k (if k = 0 then (1 : Int64) else 0)))) := hD
        refine lv_iinc (v := nI (k + 1)) (lv' := [(2, .int (nI (k + 1))), (0, .ref (q 0)), (1, .int (nI c))]) hx hb dX2_countOrders_23 hl (k := 0) rfl (nI_1 k) (by decide) rfl (fun ls hl => ?_)
        refine lv_goto (tgt := 2) hx hb dX2_countOrders_26 (by decide) ?_
        have hP : va_P D vwCl (wM g q a (va_up b 12 (r_o0 (b 12) (k + 1)))) _ := hP
        have hD : va_D A (wM g q a (va_up b 12 (r_o0 (b 12) (k + 1)))) := hD
        have hl : lv_has ls 5 [(2, .int (nI (k + 1))), (0, .ref (q 0)), (1, .int (nI c))] := lv_sub hl [0, 1, 2] rfl
        exact ih_2 (k + 1)  (by omega)  _ _ _ hP hD hS hl
      · -- on at 14
        have hk0 : k = 0 := by rcases Nat.eq_zero_or_pos k with h | h; exact h; exact absurd c_14 (nI_ne0 h (by omega))
        refine lv_lconst (v := 1) hx hb dX2_countOrders_17 (by decide) ?_
        refine lv_goto (tgt := 22) hx hb dX2_countOrders_18 (by decide) ?_
        refine lv_topl (fun t9_2 et9_2 => ?_)
        obtain rfl : t9_2 = if k = 0 then (1 : Int64) else 0 := et9_2.trans (if_pos hk0).symm
        refine za_last (k := k) (x := if k = 0 then (1 : Int64) else 0) (f := (r_o0 (b 12) k)) hx hb hK hP hD hS 12 1 rfl rfl rfl (by omega) (by decide) dX2_countOrders_22 (fun H locs hP hD hS => ?_)
        have hP : va_P D vwCl (wM g q a (va_up b 12 (vp_updL (r_o0 (b 12) k) k (if k = 0 then (1 : Int64) else 0)))) H := hP
        have hD : va_D A (wM g q a (va_up b 12 (vp_updL (r_o0 (b 12) k) k (if k = 0 then (1 : Int64) else 0)))) := hD
        refine lv_iinc (v := nI (k + 1)) (lv' := [(2, .int (nI (k + 1))), (0, .ref (q 0)), (1, .int (nI c))]) hx hb dX2_countOrders_23 hl (k := 0) rfl (nI_1 k) (by decide) rfl (fun ls hl => ?_)
        refine lv_goto (tgt := 2) hx hb dX2_countOrders_26 (by decide) ?_
        have hP : va_P D vwCl (wM g q a (va_up b 12 (r_o0 (b 12) (k + 1)))) _ := hP
        have hD : va_D A (wM g q a (va_up b 12 (r_o0 (b 12) (k + 1)))) := hD
        have hl : lv_has ls 5 [(2, .int (nI (k + 1))), (0, .ref (q 0)), (1, .int (nI c))] := lv_sub hl [0, 1, 2] rfl
        exact ih_2 (k + 1)  (by omega)  _ _ _ hP hD hS hl
  exact lp_2 (30 - 0) 0  (by omega)  _ _ _ hP hD hS (lv_sub hl [0, 1, 2] rfl)
