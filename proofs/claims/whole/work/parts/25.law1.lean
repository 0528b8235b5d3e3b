section LAWC
variable {p : Program} {l : Launch} {e : Env} {s : State} {m : MethodId} {below : List Frame} {meth : Method} {cd_ : Code} {Q : State → Prop} {D : va_G} {g : Nat → ClassId} {sb L : Nat} {xs : Nat → Int32} {q q' : Nat → Nat} {n sc d i : Nat} {cn : Nat → Nat} {a a' v : Nat → Nat → Int32} {b b' : Nat → Nat → Int64} {H : Heap} {locs : List Loc} {ls : Array Slot}

set_option maxHeartbeats 4000000 in
set_option maxRecDepth 100000 in
theorem w_layer (C0 : zX D (tyG g) p s m #[Value.ref sb] meth cd_ code ret 4 RL (fun q : Nat => s.heap.size ≤ q)) (hX : va_X sb L xs s s.heap) (hbl : sb < s.heap.size) (hL : L ≤ 2561) (hi : i + 5 ≤ L) (hR : z_R n sc d cn a b v a' b') (hP : va_P D vwCl (wL g q n a b v ++ wM g q' a' b') H) (hD : va_D (fun q : Nat => s.heap.size ≤ q) (wL g q n a b v ++ wM g q' a' b')) (hS : va_S (fun q : Nat => s.heap.size ≤ q) s.heap H locs) (hl : lv_has ls 4 [(3, .int (nI i)), (2, .ref (q' 0)), (1, .ref (q 0)), (0, .ref sb)]) (kk : ∀ (a : Nat → Nat → Int32) (b : Nat → Nat → Int64) (v a' : Nat → Nat → Int32) (b' : Nat → Nat → Int64) (H : Heap) (locs : List Loc), z_RE n a b v a' b' → va_P D vwCl (wL g q n a b v ++ wM g q' a' b') H → va_D (fun q : Nat => s.heap.size ≤ q) (wL g q n a b v ++ wM g q' a' b') → va_S (fun q : Nat => s.heap.size ≤ q) s.heap H locs → W p l e room_1 s m #[Value.ref sb] below meth cd_ H locs 33 1915 Q (F0 m 728 ls [])) : W p l e room_1 s m #[Value.ref sb] below meth cd_ H locs 33 1915 Q (F0 m 124 ls []) := by
  obtain ⟨hx, hb, hr, hml, hlocks, hown, hts, hK, hA, hN⟩ := id C0
  have hbA : ¬ (fun q : Nat => s.heap.size ≤ q) sb := Nat.not_le.mpr hbl
  have hn := hR.1.1
  have hsc4 := hR.1.2.1
  have hd4 := hR.2.1
  have hsc := hR.2.2.1
  have hd := hR.2.2.2.1
  have hsc' : a' 0 3 = nI sc := hR.2.2.2.2.1.2.2.2.1.trans hsc
  have hd' : a' 0 4 = nI d := hR.2.2.2.2.1.2.2.2.2.1.trans hd
  have hly : a' 0 5 = nI n := hR.2.2.2.2.1.2.2.2.2.2.1
  have hcn : ∀ w, w < 4 → a 11 w = nI (cn w) ∧ cn w ≤ 8 := fun w hw => ⟨(hR.2.2.2.2.2.2.2.2 w hw).2.1, (hR.2.2.2.2.2.2.2.2 w hw).1⟩
  have hcn' : ∀ w, w < 4 → a' 9 w = nI (cn w) ∧ cn w ≤ 8 := fun w hw => ⟨(hR.2.2.2.2.2.2.2.2 w hw).2.2.1, (hR.2.2.2.2.2.2.2.2 w hw).1⟩
  refine lv_aload_n hx hb dL_law_124 rfl (lv_at hl 2 rfl) ?_
  refine lv_aload_n hx hb dL_law_125 rfl (lv_at hl 3 rfl) ?_
  refine lv_iload_n hx hb dL_law_126 rfl (lv_at hl 0 rfl) ?_
  refine lv_iconst (v := 1) hx hb dL_law_127 (by decide) ?_
  refine lv_iadd hx hb dL_law_128 ?_
  rw [show (nI i) + 1 = nI (i + 1) from nI_add i 1]
  refine zs_ld (k := (i + 1)) hx hb hX hbl hbA hS rfl (by omega) (by omega) dL_law_129 ?_
  refine lv_aload_n hx hb dL_law_130 rfl (lv_at hl 3 rfl) ?_
  refine lv_iload_n hx hb dL_law_131 rfl (lv_at hl 0 rfl) ?_
  refine lv_iconst (v := 2) hx hb dL_law_132 (by decide) ?_
  refine lv_iadd hx hb dL_law_133 ?_
  rw [show (nI i) + 2 = nI (i + 2) from nI_add i 2]
  refine zs_ld (k := (i + 2)) hx hb hX hbl hbA hS rfl (by omega) (by omega) dL_law_134 ?_
  refine lv_aload_n hx hb dL_law_135 rfl (lv_at hl 3 rfl) ?_
  refine lv_iload_n hx hb dL_law_136 rfl (lv_at hl 0 rfl) ?_
  refine lv_iconst (v := 3) hx hb dL_law_137 (by decide) ?_
  refine lv_iadd hx hb dL_law_138 ?_
  rw [show (nI i) + 3 = nI (i + 3) from nI_add i 3]
  refine zs_ld (k := (i + 3)) hx hb hX hbl hbA hS rfl (by omega) (by omega) dL_law_139 ?_
  refine zk_vi (rest := []) (wr := wM g q' a' b') C0 hP hD hS (c_layer l D g q n a b v hn (xs (i + 1)) (xs (i + 2)) (xs (i + 3))) kk_L_21 kv_L_21.1 kv_L_21.2 0 rfl 0 rfl [0, 1, 2, 3, 4, 5, 6, 7, 8, 9, 10, 11, 12, 13, 14, 15, 16, 17, 18] [19, 20, 21, 22, 23, 24, 25, 26, 27, 28, 29, 30, 31, 32] rfl rfl ⟨by decide, by decide, by decide⟩ hl.1 rfl rfl (Nat.le_of_ble_eq_true rfl) ⟨(Nat.le_of_ble_eq_true rfl), (Nat.le_of_ble_eq_true rfl)⟩ rfl rfl ⟨(Nat.le_of_ble_eq_true rfl), (Nat.le_of_ble_eq_true rfl)⟩ dL_law_140 (fun r1 u1 H locs hw1 hP hD hS => ?_)
  refine lv_aload_n hx hb dL_law_143 rfl (lv_at hl 1 rfl) ?_
  refine lv_aload_n hx hb dL_law_144 rfl (lv_at hl 3 rfl) ?_
  refine lv_iload_n hx hb dL_law_145 rfl (lv_at hl 0 rfl) ?_
  refine lv_iconst (v := 1) hx hb dL_law_146 (by decide) ?_
  refine lv_iadd hx hb dL_law_147 ?_
  rw [show (nI i) + 1 = nI (i + 1) from nI_add i 1]
  refine zs_ld (k := (i + 1)) hx hb hX hbl hbA hS rfl (by omega) (by omega) dL_law_148 ?_
  refine lv_aload_n hx hb dL_law_149 rfl (lv_at hl 3 rfl) ?_
  refine lv_iload_n hx hb dL_law_150 rfl (lv_at hl 0 rfl) ?_
  refine lv_iconst (v := 2) hx hb dL_law_151 (by decide) ?_
  refine lv_iadd hx hb dL_law_152 ?_
  rw [show (nI i) + 2 = nI (i + 2) from nI_add i 2]
  refine zs_ld (k := (i + 2)) hx hb hX hbl hbA hS rfl (by omega) (by omega) dL_law_153 ?_
  refine lv_aload_n hx hb dL_law_154 rfl (lv_at hl 3 rfl) ?_
  refine lv_iload_n hx hb dL_law_155 rfl (lv_at hl 0 rfl) ?_
  refine lv_iconst (v := 3) hx hb dL_law_156 (by decide) ?_
  refine lv_iadd hx hb dL_law_157 ?_
  rw [show (nI i) + 3 = nI (i + 3) from nI_add i 3]
  refine zs_ld (k := (i + 3)) hx hb hX hbl hbA hS rfl (by omega) (by omega) dL_law_158 ?_
  refine zk_vi (rest := [.int r1]) (wr := wL g q n u1.1 u1.2.1 u1.2.2) C0 hP hD hS (c_M_layer l D g q' a' b' n hn hly (xs (i + 1)) (xs (i + 2)) (xs (i + 3))) kk_L_25 kv_L_25.1 kv_L_25.2 2 rfl 0 rfl [0, 1, 2, 3, 4, 5, 6, 7, 8, 9, 10, 11, 12, 13] [14, 15, 16, 17, 18, 19, 20, 21, 22, 23, 24, 25, 26, 27, 28, 29, 30, 31, 32] rfl rfl ⟨by decide, by decide, by decide⟩ hl.1 rfl rfl (Nat.le_of_ble_eq_true rfl) ⟨(Nat.le_of_ble_eq_true rfl), (Nat.le_of_ble_eq_true rfl)⟩ rfl rfl ⟨(Nat.le_of_ble_eq_true rfl), (Nat.le_of_ble_eq_true rfl)⟩ dL_law_159 (fun r2 u2 H locs hw2 hP hD hS => ?_)
  obtain ⟨he, hR2⟩ := q_layer hR hw1 hw2
  refine lv_icmp_eq (tgt := 728) hx hb dL_law_162 (by decide) (fun _ => ?_) (fun c9 => absurd he c9)
  exact kk _ _ _ _ _ H locs hR2 hP hD hS
set_option maxHeartbeats 4000000 in
set_option maxRecDepth 100000 in
theorem w_cover (C0 : zX D (tyG g) p s m #[Value.ref sb] meth cd_ code ret 4 RL (fun q : Nat => s.heap.size ≤ q)) (hX : va_X sb L xs s s.heap) (hbl : sb < s.heap.size) (hL : L ≤ 2561) (hi : i + 5 ≤ L) (hR : z_R n sc d cn a b v a' b') (hP : va_P D vwCl (wL g q n a b v ++ wM g q' a' b') H) (hD : va_D (fun q : Nat => s.heap.size ≤ q) (wL g q n a b v ++ wM g q' a' b')) (hS : va_S (fun q : Nat => s.heap.size ≤ q) s.heap H locs) (hl : lv_has ls 4 [(3, .int (nI i)), (2, .ref (q' 0)), (1, .ref (q 0)), (0, .ref sb)]) (kk : ∀ (a : Nat → Nat → Int32) (b : Nat → Nat → Int64) (v a' : Nat → Nat → Int32) (b' : Nat → Nat → Int64) (H : Heap) (locs : List Loc), z_RE n a b v a' b' → va_P D vwCl (wL g q n a b v ++ wM g q' a' b') H → va_D (fun q : Nat => s.heap.size ≤ q) (wL g q n a b v ++ wM g q' a' b') → va_S (fun q : Nat => s.heap.size ≤ q) s.heap H locs → W p l e room_1 s m #[Value.ref sb] below meth cd_ H locs 33 1915 Q (F0 m 728 ls [])) : W p l e room_1 s m #[Value.ref sb] below meth cd_ H locs 33 1915 Q (F0 m 167 ls []) := by
  obtain ⟨hx, hb, hr, hml, hlocks, hown, hts, hK, hA, hN⟩ := id C0
  have hbA : ¬ (fun q : Nat => s.heap.size ≤ q) sb := Nat.not_le.mpr hbl
  have hn := hR.1.1
  have hsc4 := hR.1.2.1
  have hd4 := hR.2.1
  have hsc := hR.2.2.1
  have hd := hR.2.2.2.1
  have hsc' : a' 0 3 = nI sc := hR.2.2.2.2.1.2.2.2.1.trans hsc
  have hd' : a' 0 4 = nI d := hR.2.2.2.2.1.2.2.2.2.1.trans hd
  have hly : a' 0 5 = nI n := hR.2.2.2.2.1.2.2.2.2.2.1
  have hcn : ∀ w, w < 4 → a 11 w = nI (cn w) ∧ cn w ≤ 8 := fun w hw => ⟨(hR.2.2.2.2.2.2.2.2 w hw).2.1, (hR.2.2.2.2.2.2.2.2 w hw).1⟩
  have hcn' : ∀ w, w < 4 → a' 9 w = nI (cn w) ∧ cn w ≤ 8 := fun w hw => ⟨(hR.2.2.2.2.2.2.2.2 w hw).2.2.1, (hR.2.2.2.2.2.2.2.2 w hw).1⟩
  refine lv_aload_n hx hb dL_law_167 rfl (lv_at hl 2 rfl) ?_
  refine lv_aload_n hx hb dL_law_168 rfl (lv_at hl 3 rfl) ?_
  refine lv_iload_n hx hb dL_law_169 rfl (lv_at hl 0 rfl) ?_
  refine lv_iconst (v := 1) hx hb dL_law_170 (by decide) ?_
  refine lv_iadd hx hb dL_law_171 ?_
  rw [show (nI i) + 1 = nI (i + 1) from nI_add i 1]
  refine zs_ld (k := (i + 1)) hx hb hX hbl hbA hS rfl (by omega) (by omega) dL_law_172 ?_
  refine zk_vi (rest := []) (wr := wM g q' a' b') C0 hP hD hS (c_cover l D g q n a b v  (xs (i + 1))) kk_L_26 kv_L_26.1 kv_L_26.2 0 rfl 0 rfl [0, 1, 2, 3, 4, 5, 6, 7, 8, 9, 10, 11, 12, 13, 14, 15, 16, 17, 18] [19, 20, 21, 22, 23, 24, 25, 26, 27, 28, 29, 30, 31, 32] rfl rfl ⟨by decide, by decide, by decide⟩ hl.1 rfl rfl (Nat.le_of_ble_eq_true rfl) ⟨(Nat.le_of_ble_eq_true rfl), (Nat.le_of_ble_eq_true rfl)⟩ rfl rfl ⟨(Nat.le_of_ble_eq_true rfl), (Nat.le_of_ble_eq_true rfl)⟩ dL_law_173 (fun r1 u1 H locs hw1 hP hD hS => ?_)
  refine lv_aload_n hx hb dL_law_176 rfl (lv_at hl 1 rfl) ?_
  refine lv_aload_n hx hb dL_law_177 rfl (lv_at hl 3 rfl) ?_
  refine lv_iload_n hx hb dL_law_178 rfl (lv_at hl 0 rfl) ?_
  refine lv_iconst (v := 1) hx hb dL_law_179 (by decide) ?_
  refine lv_iadd hx hb dL_law_180 ?_
  rw [show (nI i) + 1 = nI (i + 1) from nI_add i 1]
  refine zs_ld (k := (i + 1)) hx hb hX hbl hbA hS rfl (by omega) (by omega) dL_law_181 ?_
  refine zk_vi (rest := [.int r1]) (wr := wL g q n u1.1 u1.2.1 u1.2.2) C0 hP hD hS (c_M_cover l D g q' a' b'  (xs (i + 1))) kk_L_30 kv_L_30.1 kv_L_30.2 2 rfl 0 rfl [0, 1, 2, 3, 4, 5, 6, 7, 8, 9, 10, 11, 12, 13] [14, 15, 16, 17, 18, 19, 20, 21, 22, 23, 24, 25, 26, 27, 28, 29, 30, 31, 32] rfl rfl ⟨by decide, by decide, by decide⟩ hl.1 rfl rfl (Nat.le_of_ble_eq_true rfl) ⟨(Nat.le_of_ble_eq_true rfl), (Nat.le_of_ble_eq_true rfl)⟩ rfl rfl ⟨(Nat.le_of_ble_eq_true rfl), (Nat.le_of_ble_eq_true rfl)⟩ dL_law_182 (fun r2 u2 H locs hw2 hP hD hS => ?_)
  obtain ⟨he, hR2⟩ := q_cover hR hw1 hw2
  refine lv_icmp_eq (tgt := 728) hx hb dL_law_185 (by decide) (fun _ => ?_) (fun c9 => absurd he c9)
  exact kk _ _ _ _ _ H locs hR2 hP hD hS
set_option maxHeartbeats 4000000 in
set_option maxRecDepth 100000 in
theorem w_drain (C0 : zX D (tyG g) p s m #[Value.ref sb] meth cd_ code ret 4 RL (fun q : Nat => s.heap.size ≤ q)) (hX : va_X sb L xs s s.heap) (hbl : sb < s.heap.size) (hL : L ≤ 2561) (hi : i + 5 ≤ L) (hR : z_R n sc d cn a b v a' b') (hP : va_P D vwCl (wL g q n a b v ++ wM g q' a' b') H) (hD : va_D (fun q : Nat => s.heap.size ≤ q) (wL g q n a b v ++ wM g q' a' b')) (hS : va_S (fun q : Nat => s.heap.size ≤ q) s.heap H locs) (hl : lv_has ls 4 [(3, .int (nI i)), (2, .ref (q' 0)), (1, .ref (q 0)), (0, .ref sb)]) (kk : ∀ (a : Nat → Nat → Int32) (b : Nat → Nat → Int64) (v a' : Nat → Nat → Int32) (b' : Nat → Nat → Int64) (H : Heap) (locs : List Loc), z_RE n a b v a' b' → va_P D vwCl (wL g q n a b v ++ wM g q' a' b') H → va_D (fun q : Nat => s.heap.size ≤ q) (wL g q n a b v ++ wM g q' a' b') → va_S (fun q : Nat => s.heap.size ≤ q) s.heap H locs → W p l e room_1 s m #[Value.ref sb] below meth cd_ H locs 33 1915 Q (F0 m 728 ls [])) : W p l e room_1 s m #[Value.ref sb] below meth cd_ H locs 33 1915 Q (F0 m 190 ls []) := by
  obtain ⟨hx, hb, hr, hml, hlocks, hown, hts, hK, hA, hN⟩ := id C0
  have hbA : ¬ (fun q : Nat => s.heap.size ≤ q) sb := Nat.not_le.mpr hbl
  have hn := hR.1.1
  have hsc4 := hR.1.2.1
  have hd4 := hR.2.1
  have hsc := hR.2.2.1
  have hd := hR.2.2.2.1
  have hsc' : a' 0 3 = nI sc := hR.2.2.2.2.1.2.2.2.1.trans hsc
  have hd' : a' 0 4 = nI d := hR.2.2.2.2.1.2.2.2.2.1.trans hd
  have hly : a' 0 5 = nI n := hR.2.2.2.2.1.2.2.2.2.2.1
  have hcn : ∀ w, w < 4 → a 11 w = nI (cn w) ∧ cn w ≤ 8 := fun w hw => ⟨(hR.2.2.2.2.2.2.2.2 w hw).2.1, (hR.2.2.2.2.2.2.2.2 w hw).1⟩
  have hcn' : ∀ w, w < 4 → a' 9 w = nI (cn w) ∧ cn w ≤ 8 := fun w hw => ⟨(hR.2.2.2.2.2.2.2.2 w hw).2.2.1, (hR.2.2.2.2.2.2.2.2 w hw).1⟩
  refine lv_aload_n hx hb dL_law_190 rfl (lv_at hl 2 rfl) ?_
  refine lv_aload_n hx hb dL_law_191 rfl (lv_at hl 3 rfl) ?_
  refine lv_iload_n hx hb dL_law_192 rfl (lv_at hl 0 rfl) ?_
  refine lv_iconst (v := 1) hx hb dL_law_193 (by decide) ?_
  refine lv_iadd hx hb dL_law_194 ?_
  rw [show (nI i) + 1 = nI (i + 1) from nI_add i 1]
  refine zs_ld (k := (i + 1)) hx hb hX hbl hbA hS rfl (by omega) (by omega) dL_law_195 ?_
  refine zk_vi (rest := []) (wr := wM g q' a' b') C0 hP hD hS (c_drain l D g q n a b v  (xs (i + 1))) kk_L_31 kv_L_31.1 kv_L_31.2 0 rfl 0 rfl [0, 1, 2, 3, 4, 5, 6, 7, 8, 9, 10, 11, 12, 13, 14, 15, 16, 17, 18] [19, 20, 21, 22, 23, 24, 25, 26, 27, 28, 29, 30, 31, 32] rfl rfl ⟨by decide, by decide, by decide⟩ hl.1 rfl rfl (Nat.le_of_ble_eq_true rfl) ⟨(Nat.le_of_ble_eq_true rfl), (Nat.le_of_ble_eq_true rfl)⟩ rfl rfl ⟨(Nat.le_of_ble_eq_true rfl), (Nat.le_of_ble_eq_true rfl)⟩ dL_law_196 (fun r1 u1 H locs hw1 hP hD hS => ?_)
  refine lv_aload_n hx hb dL_law_199 rfl (lv_at hl 1 rfl) ?_
  refine lv_aload_n hx hb dL_law_200 rfl (lv_at hl 3 rfl) ?_
  refine lv_iload_n hx hb dL_law_201 rfl (lv_at hl 0 rfl) ?_
  refine lv_iconst (v := 1) hx hb dL_law_202 (by decide) ?_
  refine lv_iadd hx hb dL_law_203 ?_
  rw [show (nI i) + 1 = nI (i + 1) from nI_add i 1]
  refine zs_ld (k := (i + 1)) hx hb hX hbl hbA hS rfl (by omega) (by omega) dL_law_204 ?_
  refine zk_vi (rest := [.int r1]) (wr := wL g q n u1.1 u1.2.1 u1.2.2) C0 hP hD hS (c_M_drain l D g q' a' b'  (xs (i + 1))) kk_L_34 kv_L_34.1 kv_L_34.2 2 rfl 0 rfl [0, 1, 2, 3, 4, 5, 6, 7, 8, 9, 10, 11, 12, 13] [14, 15, 16, 17, 18, 19, 20, 21, 22, 23, 24, 25, 26, 27, 28, 29, 30, 31, 32] rfl rfl ⟨by decide, by decide, by decide⟩ hl.1 rfl rfl (Nat.le_of_ble_eq_true rfl) ⟨(Nat.le_of_ble_eq_true rfl), (Nat.le_of_ble_eq_true rfl)⟩ rfl rfl ⟨(Nat.le_of_ble_eq_true rfl), (Nat.le_of_ble_eq_true rfl)⟩ dL_law_205 (fun r2 u2 H locs hw2 hP hD hS => ?_)
  obtain ⟨he, hR2⟩ := q_drain hR hw1 hw2
  refine lv_icmp_eq (tgt := 728) hx hb dL_law_208 (by decide) (fun _ => ?_) (fun c9 => absurd he c9)
  exact kk _ _ _ _ _ H locs hR2 hP hD hS
set_option maxHeartbeats 4000000 in
set_option maxRecDepth 100000 in
theorem w_back (C0 : zX D (tyG g) p s m #[Value.ref sb] meth cd_ code ret 4 RL (fun q : Nat => s.heap.size ≤ q)) (hX : va_X sb L xs s s.heap) (hbl : sb < s.heap.size) (hL : L ≤ 2561) (hi : i + 5 ≤ L) (hR : z_R n sc d cn a b v a' b') (hP : va_P D vwCl (wL g q n a b v ++ wM g q' a' b') H) (hD : va_D (fun q : Nat => s.heap.size ≤ q) (wL g q n a b v ++ wM g q' a' b')) (hS : va_S (fun q : Nat => s.heap.size ≤ q) s.heap H locs) (hl : lv_has ls 4 [(3, .int (nI i)), (2, .ref (q' 0)), (1, .ref (q 0)), (0, .ref sb)]) (kk : ∀ (a : Nat → Nat → Int32) (b : Nat → Nat → Int64) (v a' : Nat → Nat → Int32) (b' : Nat → Nat → Int64) (H : Heap) (locs : List Loc), z_RE n a b v a' b' → va_P D vwCl (wL g q n a b v ++ wM g q' a' b') H → va_D (fun q : Nat => s.heap.size ≤ q) (wL g q n a b v ++ wM g q' a' b') → va_S (fun q : Nat => s.heap.size ≤ q) s.heap H locs → W p l e room_1 s m #[Value.ref sb] below meth cd_ H locs 33 1915 Q (F0 m 728 ls [])) : W p l e room_1 s m #[Value.ref sb] below meth cd_ H locs 33 1915 Q (F0 m 213 ls []) := by
  obtain ⟨hx, hb, hr, hml, hlocks, hown, hts, hK, hA, hN⟩ := id C0
  have hbA : ¬ (fun q : Nat => s.heap.size ≤ q) sb := Nat.not_le.mpr hbl
  have hn := hR.1.1
  have hsc4 := hR.1.2.1
  have hd4 := hR.2.1
  have hsc := hR.2.2.1
  have hd := hR.2.2.2.1
  have hsc' : a' 0 3 = nI sc := hR.2.2.2.2.1.2.2.2.1.trans hsc
  have hd' : a' 0 4 = nI d := hR.2.2.2.2.1.2.2.2.2.1.trans hd
  have hly : a' 0 5 = nI n := hR.2.2.2.2.1.2.2.2.2.2.1
  have hcn : ∀ w, w < 4 → a 11 w = nI (cn w) ∧ cn w ≤ 8 := fun w hw => ⟨(hR.2.2.2.2.2.2.2.2 w hw).2.1, (hR.2.2.2.2.2.2.2.2 w hw).1⟩
  have hcn' : ∀ w, w < 4 → a' 9 w = nI (cn w) ∧ cn w ≤ 8 := fun w hw => ⟨(hR.2.2.2.2.2.2.2.2 w hw).2.2.1, (hR.2.2.2.2.2.2.2.2 w hw).1⟩
  refine lv_aload_n hx hb dL_law_213 rfl (lv_at hl 2 rfl) ?_
  refine lv_aload_n hx hb dL_law_214 rfl (lv_at hl 3 rfl) ?_
  refine lv_iload_n hx hb dL_law_215 rfl (lv_at hl 0 rfl) ?_
  refine lv_iconst (v := 1) hx hb dL_law_216 (by decide) ?_
  refine lv_iadd hx hb dL_law_217 ?_
  rw [show (nI i) + 1 = nI (i + 1) from nI_add i 1]
  refine zs_ld (k := (i + 1)) hx hb hX hbl hbA hS rfl (by omega) (by omega) dL_law_218 ?_
  refine zk_vi (rest := []) (wr := wM g q' a' b') C0 hP hD hS (c_back l D g q n a b v  (xs (i + 1))) kk_L_35 kv_L_35.1 kv_L_35.2 0 rfl 0 rfl [0, 1, 2, 3, 4, 5, 6, 7, 8, 9, 10, 11, 12, 13, 14, 15, 16, 17, 18] [19, 20, 21, 22, 23, 24, 25, 26, 27, 28, 29, 30, 31, 32] rfl rfl ⟨by decide, by decide, by decide⟩ hl.1 rfl rfl (Nat.le_of_ble_eq_true rfl) ⟨(Nat.le_of_ble_eq_true rfl), (Nat.le_of_ble_eq_true rfl)⟩ rfl rfl ⟨(Nat.le_of_ble_eq_true rfl), (Nat.le_of_ble_eq_true rfl)⟩ dL_law_219 (fun r1 u1 H locs hw1 hP hD hS => ?_)
  refine lv_aload_n hx hb dL_law_222 rfl (lv_at hl 1 rfl) ?_
  refine lv_aload_n hx hb dL_law_223 rfl (lv_at hl 3 rfl) ?_
  refine lv_iload_n hx hb dL_law_224 rfl (lv_at hl 0 rfl) ?_
  refine lv_iconst (v := 1) hx hb dL_law_225 (by decide) ?_
  refine lv_iadd hx hb dL_law_226 ?_
  rw [show (nI i) + 1 = nI (i + 1) from nI_add i 1]
  refine zs_ld (k := (i + 1)) hx hb hX hbl hbA hS rfl (by omega) (by omega) dL_law_227 ?_
  refine zk_vi (rest := [.int r1]) (wr := wL g q n u1.1 u1.2.1 u1.2.2) C0 hP hD hS (c_M_back l D g q' a' b'  (xs (i + 1))) kk_L_38 kv_L_38.1 kv_L_38.2 2 rfl 0 rfl [0, 1, 2, 3, 4, 5, 6, 7, 8, 9, 10, 11, 12, 13] [14, 15, 16, 17, 18, 19, 20, 21, 22, 23, 24, 25, 26, 27, 28, 29, 30, 31, 32] rfl rfl ⟨by decide, by decide, by decide⟩ hl.1 rfl rfl (Nat.le_of_ble_eq_true rfl) ⟨(Nat.le_of_ble_eq_true rfl), (Nat.le_of_ble_eq_true rfl)⟩ rfl rfl ⟨(Nat.le_of_ble_eq_true rfl), (Nat.le_of_ble_eq_true rfl)⟩ dL_law_228 (fun r2 u2 H locs hw2 hP hD hS => ?_)
  obtain ⟨he, hR2⟩ := q_back hR hw1 hw2
  refine lv_icmp_eq (tgt := 728) hx hb dL_law_231 (by decide) (fun _ => ?_) (fun c9 => absurd he c9)
  exact kk _ _ _ _ _ H locs hR2 hP hD hS
set_option maxHeartbeats 4000000 in
set_option maxRecDepth 100000 in
theorem w_tank (C0 : zX D (tyG g) p s m #[Value.ref sb] meth cd_ code ret 4 RL (fun q : Nat => s.heap.size ≤ q)) (hX : va_X sb L xs s s.heap) (hbl : sb < s.heap.size) (hL : L ≤ 2561) (hi : i + 5 ≤ L) (hR : z_R n sc d cn a b v a' b') (hP : va_P D vwCl (wL g q n a b v ++ wM g q' a' b') H) (hD : va_D (fun q : Nat => s.heap.size ≤ q) (wL g q n a b v ++ wM g q' a' b')) (hS : va_S (fun q : Nat => s.heap.size ≤ q) s.heap H locs) (hl : lv_has ls 4 [(3, .int (nI i)), (2, .ref (q' 0)), (1, .ref (q 0)), (0, .ref sb)]) (kk : ∀ (a : Nat → Nat → Int32) (b : Nat → Nat → Int64) (v a' : Nat → Nat → Int32) (b' : Nat → Nat → Int64) (H : Heap) (locs : List Loc), z_RE n a b v a' b' → va_P D vwCl (wL g q n a b v ++ wM g q' a' b') H → va_D (fun q : Nat => s.heap.size ≤ q) (wL g q n a b v ++ wM g q' a' b') → va_S (fun q : Nat => s.heap.size ≤ q) s.heap H locs → W p l e room_1 s m #[Value.ref sb] below meth cd_ H locs 33 1915 Q (F0 m 728 ls [])) : W p l e room_1 s m #[Value.ref sb] below meth cd_ H locs 33 1915 Q (F0 m 236 ls []) := by
  obtain ⟨hx, hb, hr, hml, hlocks, hown, hts, hK, hA, hN⟩ := id C0
  have hbA : ¬ (fun q : Nat => s.heap.size ≤ q) sb := Nat.not_le.mpr hbl
  have hn := hR.1.1
  have hsc4 := hR.1.2.1
  have hd4 := hR.2.1
  have hsc := hR.2.2.1
  have hd := hR.2.2.2.1
  have hsc' : a' 0 3 = nI sc := hR.2.2.2.2.1.2.2.2.1.trans hsc
  have hd' : a' 0 4 = nI d := hR.2.2.2.2.1.2.2.2.2.1.trans hd
  have hly : a' 0 5 = nI n := hR.2.2.2.2.1.2.2.2.2.2.1
  have hcn : ∀ w, w < 4 → a 11 w = nI (cn w) ∧ cn w ≤ 8 := fun w hw => ⟨(hR.2.2.2.2.2.2.2.2 w hw).2.1, (hR.2.2.2.2.2.2.2.2 w hw).1⟩
  have hcn' : ∀ w, w < 4 → a' 9 w = nI (cn w) ∧ cn w ≤ 8 := fun w hw => ⟨(hR.2.2.2.2.2.2.2.2 w hw).2.2.1, (hR.2.2.2.2.2.2.2.2 w hw).1⟩
  refine lv_aload_n hx hb dL_law_236 rfl (lv_at hl 2 rfl) ?_
  refine lv_aload_n hx hb dL_law_237 rfl (lv_at hl 3 rfl) ?_
  refine lv_iload_n hx hb dL_law_238 rfl (lv_at hl 0 rfl) ?_
  refine lv_iconst (v := 1) hx hb dL_law_239 (by decide) ?_
  refine lv_iadd hx hb dL_law_240 ?_
  rw [show (nI i) + 1 = nI (i + 1) from nI_add i 1]
  refine zs_ld (k := (i + 1)) hx hb hX hbl hbA hS rfl (by omega) (by omega) dL_law_241 ?_
  refine lv_i2l (v := (xs (i + 1)).toInt64) hx hb dL_law_242 rfl ?_
  refine lv_bipush (v := 32) hx hb dL_law_243 (by decide) ?_
  refine lv_lshl (v := ((xs (i + 1)).toInt64) <<< ((32 : Int32).toInt64 &&& 63)) hx hb dL_law_245 rfl ?_
  refine lv_aload_n hx hb dL_law_246 rfl (lv_at hl 3 rfl) ?_
  refine lv_iload_n hx hb dL_law_247 rfl (lv_at hl 0 rfl) ?_
  refine lv_iconst (v := 2) hx hb dL_law_248 (by decide) ?_
  refine lv_iadd hx hb dL_law_249 ?_
  rw [show (nI i) + 2 = nI (i + 2) from nI_add i 2]
  refine zs_ld (k := (i + 2)) hx hb hX hbl hbA hS rfl (by omega) (by omega) dL_law_250 ?_
  refine lv_i2l (v := (xs (i + 2)).toInt64) hx hb dL_law_251 rfl ?_
  refine lv_ldc2 (v := 4294967295) hx hb hown (hts _ kc_L_39) dL_law_252 ?_
  refine lv_land hx hb dL_law_255 ?_
  refine lv_lor hx hb dL_law_256 ?_
  refine zk_vi (rest := []) (wr := wM g q' a' b') C0 hP hD hS (c_tank l D g q n a b v  ((((xs (i + 1)).toInt64) <<< ((32 : Int32).toInt64 &&& 63)) ||| (((xs (i + 2)).toInt64) &&& (4294967295 : Int64)))) kk_L_41 kv_L_41.1 kv_L_41.2 0 rfl 0 rfl [0, 1, 2, 3, 4, 5, 6, 7, 8, 9, 10, 11, 12, 13, 14, 15, 16, 17, 18] [19, 20, 21, 22, 23, 24, 25, 26, 27, 28, 29, 30, 31, 32] rfl rfl ⟨by decide, by decide, by decide⟩ hl.1 rfl rfl (Nat.le_of_ble_eq_true rfl) ⟨(Nat.le_of_ble_eq_true rfl), (Nat.le_of_ble_eq_true rfl)⟩ rfl rfl ⟨(Nat.le_of_ble_eq_true rfl), (Nat.le_of_ble_eq_true rfl)⟩ dL_law_257 (fun r1 u1 H locs hw1 hP hD hS => ?_)
  refine lv_aload_n hx hb dL_law_260 rfl (lv_at hl 1 rfl) ?_
  refine lv_aload_n hx hb dL_law_261 rfl (lv_at hl 3 rfl) ?_
  refine lv_iload_n hx hb dL_law_262 rfl (lv_at hl 0 rfl) ?_
  refine lv_iconst (v := 1) hx hb dL_law_263 (by decide) ?_
  refine lv_iadd hx hb dL_law_264 ?_
  rw [show (nI i) + 1 = nI (i + 1) from nI_add i 1]
  refine zs_ld (k := (i + 1)) hx hb hX hbl hbA hS rfl (by omega) (by omega) dL_law_265 ?_
  refine lv_i2l (v := (xs (i + 1)).toInt64) hx hb dL_law_266 rfl ?_
  refine lv_bipush (v := 32) hx hb dL_law_267 (by decide) ?_
  refine lv_lshl (v := ((xs (i + 1)).toInt64) <<< ((32 : Int32).toInt64 &&& 63)) hx hb dL_law_269 rfl ?_
  refine lv_aload_n hx hb dL_law_270 rfl (lv_at hl 3 rfl) ?_
  refine lv_iload_n hx hb dL_law_271 rfl (lv_at hl 0 rfl) ?_
  refine lv_iconst (v := 2) hx hb dL_law_272 (by decide) ?_
  refine lv_iadd hx hb dL_law_273 ?_
  rw [show (nI i) + 2 = nI (i + 2) from nI_add i 2]
  refine zs_ld (k := (i + 2)) hx hb hX hbl hbA hS rfl (by omega) (by omega) dL_law_274 ?_
  refine lv_i2l (v := (xs (i + 2)).toInt64) hx hb dL_law_275 rfl ?_
  refine lv_ldc2 (v := 4294967295) hx hb hown (hts _ kc_L_39) dL_law_276 ?_
  refine lv_land hx hb dL_law_279 ?_
  refine lv_lor hx hb dL_law_280 ?_
  refine zk_vi (rest := [.int r1]) (wr := wL g q n u1.1 u1.2.1 u1.2.2) C0 hP hD hS (c_M_tank l D g q' a' b'  ((((xs (i + 1)).toInt64) <<< ((32 : Int32).toInt64 &&& 63)) ||| (((xs (i + 2)).toInt64) &&& (4294967295 : Int64)))) kk_L_45 kv_L_45.1 kv_L_45.2 2 rfl 0 rfl [0, 1, 2, 3, 4, 5, 6, 7, 8, 9, 10, 11, 12, 13] [14, 15, 16, 17, 18, 19, 20, 21, 22, 23, 24, 25, 26, 27, 28, 29, 30, 31, 32] rfl rfl ⟨by decide, by decide, by decide⟩ hl.1 rfl rfl (Nat.le_of_ble_eq_true rfl) ⟨(Nat.le_of_ble_eq_true rfl), (Nat.le_of_ble_eq_true rfl)⟩ rfl rfl ⟨(Nat.le_of_ble_eq_true rfl), (Nat.le_of_ble_eq_true rfl)⟩ dL_law_281 (fun r2 u2 H locs hw2 hP hD hS => ?_)
  obtain ⟨he, hR2⟩ := q_tank hR hw1 hw2
  refine lv_icmp_eq (tgt := 728) hx hb dL_law_284 (by decide) (fun _ => ?_) (fun c9 => absurd he c9)
  exact kk _ _ _ _ _ H locs hR2 hP hD hS
set_option maxHeartbeats 4000000 in
set_option maxRecDepth 100000 in
theorem w_stage (C0 : zX D (tyG g) p s m #[Value.ref sb] meth cd_ code ret 4 RL (fun q : Nat => s.heap.size ≤ q)) (hX : va_X sb L xs s s.heap) (hbl : sb < s.heap.size) (hL : L ≤ 2561) (hi : i + 5 ≤ L) (hR : z_R n sc d cn a b v a' b') (hP : va_P D vwCl (wL g q n a b v ++ wM g q' a' b') H) (hD : va_D (fun q : Nat => s.heap.size ≤ q) (wL g q n a b v ++ wM g q' a' b')) (hS : va_S (fun q : Nat => s.heap.size ≤ q) s.heap H locs) (hl : lv_has ls 4 [(3, .int (nI i)), (2, .ref (q' 0)), (1, .ref (q 0)), (0, .ref sb)]) (kk : ∀ (a : Nat → Nat → Int32) (b : Nat → Nat → Int64) (v a' : Nat → Nat → Int32) (b' : Nat → Nat → Int64) (H : Heap) (locs : List Loc), z_RE n a b v a' b' → va_P D vwCl (wL g q n a b v ++ wM g q' a' b') H → va_D (fun q : Nat => s.heap.size ≤ q) (wL g q n a b v ++ wM g q' a' b') → va_S (fun q : Nat => s.heap.size ≤ q) s.heap H locs → W p l e room_1 s m #[Value.ref sb] below meth cd_ H locs 33 1915 Q (F0 m 728 ls [])) : W p l e room_1 s m #[Value.ref sb] below meth cd_ H locs 33 1915 Q (F0 m 289 ls []) := by
  obtain ⟨hx, hb, hr, hml, hlocks, hown, hts, hK, hA, hN⟩ := id C0
  have hbA : ¬ (fun q : Nat => s.heap.size ≤ q) sb := Nat.not_le.mpr hbl
  have hn := hR.1.1
  have hsc4 := hR.1.2.1
  have hd4 := hR.2.1
  have hsc := hR.2.2.1
  have hd := hR.2.2.2.1
  have hsc' : a' 0 3 = nI sc := hR.2.2.2.2.1.2.2.2.1.trans hsc
  have hd' : a' 0 4 = nI d := hR.2.2.2.2.1.2.2.2.2.1.trans hd
  have hly : a' 0 5 = nI n := hR.2.2.2.2.1.2.2.2.2.2.1
  have hcn : ∀ w, w < 4 → a 11 w = nI (cn w) ∧ cn w ≤ 8 := fun w hw => ⟨(hR.2.2.2.2.2.2.2.2 w hw).2.1, (hR.2.2.2.2.2.2.2.2 w hw).1⟩
  have hcn' : ∀ w, w < 4 → a' 9 w = nI (cn w) ∧ cn w ≤ 8 := fun w hw => ⟨(hR.2.2.2.2.2.2.2.2 w hw).2.2.1, (hR.2.2.2.2.2.2.2.2 w hw).1⟩
  refine lv_aload_n hx hb dL_law_289 rfl (lv_at hl 2 rfl) ?_
  refine lv_aload_n hx hb dL_law_290 rfl (lv_at hl 3 rfl) ?_
  refine lv_iload_n hx hb dL_law_291 rfl (lv_at hl 0 rfl) ?_
  refine lv_iconst (v := 1) hx hb dL_law_292 (by decide) ?_
  refine lv_iadd hx hb dL_law_293 ?_
  rw [show (nI i) + 1 = nI (i + 1) from nI_add i 1]
  refine zs_ld (k := (i + 1)) hx hb hX hbl hbA hS rfl (by omega) (by omega) dL_law_294 ?_
  refine lv_aload_n hx hb dL_law_295 rfl (lv_at hl 3 rfl) ?_
  refine lv_iload_n hx hb dL_law_296 rfl (lv_at hl 0 rfl) ?_
  refine lv_iconst (v := 2) hx hb dL_law_297 (by decide) ?_
  refine lv_iadd hx hb dL_law_298 ?_
  rw [show (nI i) + 2 = nI (i + 2) from nI_add i 2]
  refine zs_ld (k := (i + 2)) hx hb hX hbl hbA hS rfl (by omega) (by omega) dL_law_299 ?_
  refine zk_vi (rest := []) (wr := wM g q' a' b') C0 hP hD hS (c_stage l D g q n a b v sc hsc hsc4 (xs (i + 1)) (xs (i + 2))) kk_L_46 kv_L_46.1 kv_L_46.2 0 rfl 0 rfl [0, 1, 2, 3, 4, 5, 6, 7, 8, 9, 10, 11, 12, 13, 14, 15, 16, 17, 18] [19, 20, 21, 22, 23, 24, 25, 26, 27, 28, 29, 30, 31, 32] rfl rfl ⟨by decide, by decide, by decide⟩ hl.1 rfl rfl (Nat.le_of_ble_eq_true rfl) ⟨(Nat.le_of_ble_eq_true rfl), (Nat.le_of_ble_eq_true rfl)⟩ rfl rfl ⟨(Nat.le_of_ble_eq_true rfl), (Nat.le_of_ble_eq_true rfl)⟩ dL_law_300 (fun r1 u1 H locs hw1 hP hD hS => ?_)
  refine lv_aload_n hx hb dL_law_303 rfl (lv_at hl 1 rfl) ?_
  refine lv_aload_n hx hb dL_law_304 rfl (lv_at hl 3 rfl) ?_
  refine lv_iload_n hx hb dL_law_305 rfl (lv_at hl 0 rfl) ?_
  refine lv_iconst (v := 1) hx hb dL_law_306 (by decide) ?_
  refine lv_iadd hx hb dL_law_307 ?_
  rw [show (nI i) + 1 = nI (i + 1) from nI_add i 1]
  refine zs_ld (k := (i + 1)) hx hb hX hbl hbA hS rfl (by omega) (by omega) dL_law_308 ?_
  refine lv_aload_n hx hb dL_law_309 rfl (lv_at hl 3 rfl) ?_
  refine lv_iload_n hx hb dL_law_310 rfl (lv_at hl 0 rfl) ?_
  refine lv_iconst (v := 2) hx hb dL_law_311 (by decide) ?_
  refine lv_iadd hx hb dL_law_312 ?_
  rw [show (nI i) + 2 = nI (i + 2) from nI_add i 2]
  refine zs_ld (k := (i + 2)) hx hb hX hbl hbA hS rfl (by omega) (by omega) dL_law_313 ?_
  refine zk_vi (rest := [.int r1]) (wr := wL g q n u1.1 u1.2.1 u1.2.2) C0 hP hD hS (c_M_stage l D g q' a' b' sc hsc' hsc4 (xs (i + 1)) (xs (i + 2))) kk_L_50 kv_L_50.1 kv_L_50.2 2 rfl 0 rfl [0, 1, 2, 3, 4, 5, 6, 7, 8, 9, 10, 11, 12, 13] [14, 15, 16, 17, 18, 19, 20, 21, 22, 23, 24, 25, 26, 27, 28, 29, 30, 31, 32] rfl rfl ⟨by decide, by decide, by decide⟩ hl.1 rfl rfl (Nat.le_of_ble_eq_true rfl) ⟨(Nat.le_of_ble_eq_true rfl), (Nat.le_of_ble_eq_true rfl)⟩ rfl rfl ⟨(Nat.le_of_ble_eq_true rfl), (Nat.le_of_ble_eq_true rfl)⟩ dL_law_314 (fun r2 u2 H locs hw2 hP hD hS => ?_)
  obtain ⟨he, hR2⟩ := q_stage hR hw1 hw2
  refine lv_icmp_eq (tgt := 728) hx hb dL_law_317 (by decide) (fun _ => ?_) (fun c9 => absurd he c9)
  exact kk _ _ _ _ _ H locs hR2 hP hD hS
set_option maxHeartbeats 4000000 in
set_option maxRecDepth 100000 in
theorem w_rain (C0 : zX D (tyG g) p s m #[Value.ref sb] meth cd_ code ret 4 RL (fun q : Nat => s.heap.size ≤ q)) (hX : va_X sb L xs s s.heap) (hbl : sb < s.heap.size) (hL : L ≤ 2561) (hi : i + 5 ≤ L) (hR : z_R n sc d cn a b v a' b') (hP : va_P D vwCl (wL g q n a b v ++ wM g q' a' b') H) (hD : va_D (fun q : Nat => s.heap.size ≤ q) (wL g q n a b v ++ wM g q' a' b')) (hS : va_S (fun q : Nat => s.heap.size ≤ q) s.heap H locs) (hl : lv_has ls 4 [(3, .int (nI i)), (2, .ref (q' 0)), (1, .ref (q 0)), (0, .ref sb)]) (kk : ∀ (a : Nat → Nat → Int32) (b : Nat → Nat → Int64) (v a' : Nat → Nat → Int32) (b' : Nat → Nat → Int64) (H : Heap) (locs : List Loc), z_RE n a b v a' b' → va_P D vwCl (wL g q n a b v ++ wM g q' a' b') H → va_D (fun q : Nat => s.heap.size ≤ q) (wL g q n a b v ++ wM g q' a' b') → va_S (fun q : Nat => s.heap.size ≤ q) s.heap H locs → W p l e room_1 s m #[Value.ref sb] below meth cd_ H locs 33 1915 Q (F0 m 728 ls [])) : W p l e room_1 s m #[Value.ref sb] below meth cd_ H locs 33 1915 Q (F0 m 322 ls []) := by
  obtain ⟨hx, hb, hr, hml, hlocks, hown, hts, hK, hA, hN⟩ := id C0
  have hbA : ¬ (fun q : Nat => s.heap.size ≤ q) sb := Nat.not_le.mpr hbl
  have hn := hR.1.1
  have hsc4 := hR.1.2.1
  have hd4 := hR.2.1
  have hsc := hR.2.2.1
  have hd := hR.2.2.2.1
  have hsc' : a' 0 3 = nI sc := hR.2.2.2.2.1.2.2.2.1.trans hsc
  have hd' : a' 0 4 = nI d := hR.2.2.2.2.1.2.2.2.2.1.trans hd
  have hly : a' 0 5 = nI n := hR.2.2.2.2.1.2.2.2.2.2.1
  have hcn : ∀ w, w < 4 → a 11 w = nI (cn w) ∧ cn w ≤ 8 := fun w hw => ⟨(hR.2.2.2.2.2.2.2.2 w hw).2.1, (hR.2.2.2.2.2.2.2.2 w hw).1⟩
  have hcn' : ∀ w, w < 4 → a' 9 w = nI (cn w) ∧ cn w ≤ 8 := fun w hw => ⟨(hR.2.2.2.2.2.2.2.2 w hw).2.2.1, (hR.2.2.2.2.2.2.2.2 w hw).1⟩
  refine lv_aload_n hx hb dL_law_322 rfl (lv_at hl 2 rfl) ?_
  refine lv_aload_n hx hb dL_law_323 rfl (lv_at hl 3 rfl) ?_
  refine lv_iload_n hx hb dL_law_324 rfl (lv_at hl 0 rfl) ?_
  refine lv_iconst (v := 1) hx hb dL_law_325 (by decide) ?_
  refine lv_iadd hx hb dL_law_326 ?_
  rw [show (nI i) + 1 = nI (i + 1) from nI_add i 1]
  refine zs_ld (k := (i + 1)) hx hb hX hbl hbA hS rfl (by omega) (by omega) dL_law_327 ?_
  refine lv_aload_n hx hb dL_law_328 rfl (lv_at hl 3 rfl) ?_
  refine lv_iload_n hx hb dL_law_329 rfl (lv_at hl 0 rfl) ?_
  refine lv_iconst (v := 2) hx hb dL_law_330 (by decide) ?_
  refine lv_iadd hx hb dL_law_331 ?_
  rw [show (nI i) + 2 = nI (i + 2) from nI_add i 2]
  refine zs_ld (k := (i + 2)) hx hb hX hbl hbA hS rfl (by omega) (by omega) dL_law_332 ?_
  refine zk_vi (rest := []) (wr := wM g q' a' b') C0 hP hD hS (c_rain l D g q n a b v d hd hd4 (xs (i + 1)) (xs (i + 2))) kk_L_51 kv_L_51.1 kv_L_51.2 0 rfl 0 rfl [0, 1, 2, 3, 4, 5, 6, 7, 8, 9, 10, 11, 12, 13, 14, 15, 16, 17, 18] [19, 20, 21, 22, 23, 24, 25, 26, 27, 28, 29, 30, 31, 32] rfl rfl ⟨by decide, by decide, by decide⟩ hl.1 rfl rfl (Nat.le_of_ble_eq_true rfl) ⟨(Nat.le_of_ble_eq_true rfl), (Nat.le_of_ble_eq_true rfl)⟩ rfl rfl ⟨(Nat.le_of_ble_eq_true rfl), (Nat.le_of_ble_eq_true rfl)⟩ dL_law_333 (fun r1 u1 H locs hw1 hP hD hS => ?_)
  refine lv_aload_n hx hb dL_law_336 rfl (lv_at hl 1 rfl) ?_
  refine lv_aload_n hx hb dL_law_337 rfl (lv_at hl 3 rfl) ?_
  refine lv_iload_n hx hb dL_law_338 rfl (lv_at hl 0 rfl) ?_
  refine lv_iconst (v := 1) hx hb dL_law_339 (by decide) ?_
  refine lv_iadd hx hb dL_law_340 ?_
  rw [show (nI i) + 1 = nI (i + 1) from nI_add i 1]
  refine zs_ld (k := (i + 1)) hx hb hX hbl hbA hS rfl (by omega) (by omega) dL_law_341 ?_
  refine lv_aload_n hx hb dL_law_342 rfl (lv_at hl 3 rfl) ?_
  refine lv_iload_n hx hb dL_law_343 rfl (lv_at hl 0 rfl) ?_
  refine lv_iconst (v := 2) hx hb dL_law_344 (by decide) ?_
  refine lv_iadd hx hb dL_law_345 ?_
  rw [show (nI i) + 2 = nI (i + 2) from nI_add i 2]
  refine zs_ld (k := (i + 2)) hx hb hX hbl hbA hS rfl (by omega) (by omega) dL_law_346 ?_
  refine zk_vi (rest := [.int r1]) (wr := wL g q n u1.1 u1.2.1 u1.2.2) C0 hP hD hS (c_M_rain l D g q' a' b' d hd' hd4 (xs (i + 1)) (xs (i + 2))) kk_L_55 kv_L_55.1 kv_L_55.2 2 rfl 0 rfl [0, 1, 2, 3, 4, 5, 6, 7, 8, 9, 10, 11, 12, 13] [14, 15, 16, 17, 18, 19, 20, 21, 22, 23, 24, 25, 26, 27, 28, 29, 30, 31, 32] rfl rfl ⟨by decide, by decide, by decide⟩ hl.1 rfl rfl (Nat.le_of_ble_eq_true rfl) ⟨(Nat.le_of_ble_eq_true rfl), (Nat.le_of_ble_eq_true rfl)⟩ rfl rfl ⟨(Nat.le_of_ble_eq_true rfl), (Nat.le_of_ble_eq_true rfl)⟩ dL_law_347 (fun r2 u2 H locs hw2 hP hD hS => ?_)
  obtain ⟨he, hR2⟩ := q_rain hR hw1 hw2
  refine lv_icmp_eq (tgt := 728) hx hb dL_law_350 (by decide) (fun _ => ?_) (fun c9 => absurd he c9)
  exact kk _ _ _ _ _ H locs hR2 hP hD hS
set_option maxHeartbeats 4000000 in
set_option maxRecDepth 100000 in
theorem w_storm (C0 : zX D (tyG g) p s m #[Value.ref sb] meth cd_ code ret 4 RL (fun q : Nat => s.heap.size ≤ q)) (hX : va_X sb L xs s s.heap) (hbl : sb < s.heap.size) (hL : L ≤ 2561) (hi : i + 5 ≤ L) (hR : z_R n sc d cn a b v a' b') (hP : va_P D vwCl (wL g q n a b v ++ wM g q' a' b') H) (hD : va_D (fun q : Nat => s.heap.size ≤ q) (wL g q n a b v ++ wM g q' a' b')) (hS : va_S (fun q : Nat => s.heap.size ≤ q) s.heap H locs) (hl : lv_has ls 4 [(3, .int (nI i)), (2, .ref (q' 0)), (1, .ref (q 0)), (0, .ref sb)]) (kk : ∀ (a : Nat → Nat → Int32) (b : Nat → Nat → Int64) (v a' : Nat → Nat → Int32) (b' : Nat → Nat → Int64) (H : Heap) (locs : List Loc), z_RE n a b v a' b' → va_P D vwCl (wL g q n a b v ++ wM g q' a' b') H → va_D (fun q : Nat => s.heap.size ≤ q) (wL g q n a b v ++ wM g q' a' b') → va_S (fun q : Nat => s.heap.size ≤ q) s.heap H locs → W p l e room_1 s m #[Value.ref sb] below meth cd_ H locs 33 1915 Q (F0 m 728 ls [])) : W p l e room_1 s m #[Value.ref sb] below meth cd_ H locs 33 1915 Q (F0 m 355 ls []) := by
  obtain ⟨hx, hb, hr, hml, hlocks, hown, hts, hK, hA, hN⟩ := id C0
  have hbA : ¬ (fun q : Nat => s.heap.size ≤ q) sb := Nat.not_le.mpr hbl
  have hn := hR.1.1
  have hsc4 := hR.1.2.1
  have hd4 := hR.2.1
  have hsc := hR.2.2.1
  have hd := hR.2.2.2.1
  have hsc' : a' 0 3 = nI sc := hR.2.2.2.2.1.2.2.2.1.trans hsc
  have hd' : a' 0 4 = nI d := hR.2.2.2.2.1.2.2.2.2.1.trans hd
  have hly : a' 0 5 = nI n := hR.2.2.2.2.1.2.2.2.2.2.1
  have hcn : ∀ w, w < 4 → a 11 w = nI (cn w) ∧ cn w ≤ 8 := fun w hw => ⟨(hR.2.2.2.2.2.2.2.2 w hw).2.1, (hR.2.2.2.2.2.2.2.2 w hw).1⟩
  have hcn' : ∀ w, w < 4 → a' 9 w = nI (cn w) ∧ cn w ≤ 8 := fun w hw => ⟨(hR.2.2.2.2.2.2.2.2 w hw).2.2.1, (hR.2.2.2.2.2.2.2.2 w hw).1⟩
  refine lv_aload_n hx hb dL_law_355 rfl (lv_at hl 2 rfl) ?_
  refine lv_aload_n hx hb dL_law_356 rfl (lv_at hl 3 rfl) ?_
  refine lv_iload_n hx hb dL_law_357 rfl (lv_at hl 0 rfl) ?_
  refine lv_iconst (v := 1) hx hb dL_law_358 (by decide) ?_
  refine lv_iadd hx hb dL_law_359 ?_
  rw [show (nI i) + 1 = nI (i + 1) from nI_add i 1]
  refine zs_ld (k := (i + 1)) hx hb hX hbl hbA hS rfl (by omega) (by omega) dL_law_360 ?_
  refine lv_i2l (v := (xs (i + 1)).toInt64) hx hb dL_law_361 rfl ?_
  refine lv_bipush (v := 32) hx hb dL_law_362 (by decide) ?_
  refine lv_lshl (v := ((xs (i + 1)).toInt64) <<< ((32 : Int32).toInt64 &&& 63)) hx hb dL_law_364 rfl ?_
  refine lv_aload_n hx hb dL_law_365 rfl (lv_at hl 3 rfl) ?_
  refine lv_iload_n hx hb dL_law_366 rfl (lv_at hl 0 rfl) ?_
  refine lv_iconst (v := 2) hx hb dL_law_367 (by decide) ?_
  refine lv_iadd hx hb dL_law_368 ?_
  rw [show (nI i) + 2 = nI (i + 2) from nI_add i 2]
  refine zs_ld (k := (i + 2)) hx hb hX hbl hbA hS rfl (by omega) (by omega) dL_law_369 ?_
  refine lv_i2l (v := (xs (i + 2)).toInt64) hx hb dL_law_370 rfl ?_
  refine lv_ldc2 (v := 4294967295) hx hb hown (hts _ kc_L_39) dL_law_371 ?_
  refine lv_land hx hb dL_law_374 ?_
  refine lv_lor hx hb dL_law_375 ?_
  refine lv_aload_n hx hb dL_law_376 rfl (lv_at hl 3 rfl) ?_
  refine lv_iload_n hx hb dL_law_377 rfl (lv_at hl 0 rfl) ?_
  refine lv_iconst (v := 3) hx hb dL_law_378 (by decide) ?_
  refine lv_iadd hx hb dL_law_379 ?_
  rw [show (nI i) + 3 = nI (i + 3) from nI_add i 3]
  refine zs_ld (k := (i + 3)) hx hb hX hbl hbA hS rfl (by omega) (by omega) dL_law_380 ?_
  refine zk_vi (rest := []) (wr := wM g q' a' b') C0 hP hD hS (c_storm l D g q n a b v d hd hd4 ((((xs (i + 1)).toInt64) <<< ((32 : Int32).toInt64 &&& 63)) ||| (((xs (i + 2)).toInt64) &&& (4294967295 : Int64))) (xs (i + 3))) kk_L_56 kv_L_56.1 kv_L_56.2 0 rfl 0 rfl [0, 1, 2, 3, 4, 5, 6, 7, 8, 9, 10, 11, 12, 13, 14, 15, 16, 17, 18] [19, 20, 21, 22, 23, 24, 25, 26, 27, 28, 29, 30, 31, 32] rfl rfl ⟨by decide, by decide, by decide⟩ hl.1 rfl rfl (Nat.le_of_ble_eq_true rfl) ⟨(Nat.le_of_ble_eq_true rfl), (Nat.le_of_ble_eq_true rfl)⟩ rfl rfl ⟨(Nat.le_of_ble_eq_true rfl), (Nat.le_of_ble_eq_true rfl)⟩ dL_law_381 (fun r1 u1 H locs hw1 hP hD hS => ?_)
  refine lv_aload_n hx hb dL_law_384 rfl (lv_at hl 1 rfl) ?_
  refine lv_aload_n hx hb dL_law_385 rfl (lv_at hl 3 rfl) ?_
  refine lv_iload_n hx hb dL_law_386 rfl (lv_at hl 0 rfl) ?_
  refine lv_iconst (v := 1) hx hb dL_law_387 (by decide) ?_
  refine lv_iadd hx hb dL_law_388 ?_
  rw [show (nI i) + 1 = nI (i + 1) from nI_add i 1]
  refine zs_ld (k := (i + 1)) hx hb hX hbl hbA hS rfl (by omega) (by omega) dL_law_389 ?_
  refine lv_i2l (v := (xs (i + 1)).toInt64) hx hb dL_law_390 rfl ?_
  refine lv_bipush (v := 32) hx hb dL_law_391 (by decide) ?_
  refine lv_lshl (v := ((xs (i + 1)).toInt64) <<< ((32 : Int32).toInt64 &&& 63)) hx hb dL_law_393 rfl ?_
  refine lv_aload_n hx hb dL_law_394 rfl (lv_at hl 3 rfl) ?_
  refine lv_iload_n hx hb dL_law_395 rfl (lv_at hl 0 rfl) ?_
  refine lv_iconst (v := 2) hx hb dL_law_396 (by decide) ?_
  refine lv_iadd hx hb dL_law_397 ?_
  rw [show (nI i) + 2 = nI (i + 2) from nI_add i 2]
  refine zs_ld (k := (i + 2)) hx hb hX hbl hbA hS rfl (by omega) (by omega) dL_law_398 ?_
  refine lv_i2l (v := (xs (i + 2)).toInt64) hx hb dL_law_399 rfl ?_
  refine lv_ldc2 (v := 4294967295) hx hb hown (hts _ kc_L_39) dL_law_400 ?_
  refine lv_land hx hb dL_law_403 ?_
  refine lv_lor hx hb dL_law_404 ?_
  refine lv_aload_n hx hb dL_law_405 rfl (lv_at hl 3 rfl) ?_
  refine lv_iload_n hx hb dL_law_406 rfl (lv_at hl 0 rfl) ?_
  refine lv_iconst (v := 3) hx hb dL_law_407 (by decide) ?_
  refine lv_iadd hx hb dL_law_408 ?_
  rw [show (nI i) + 3 = nI (i + 3) from nI_add i 3]
  refine zs_ld (k := (i + 3)) hx hb hX hbl hbA hS rfl (by omega) (by omega) dL_law_409 ?_
  refine zk_vi (rest := [.int r1]) (wr := wL g q n u1.1 u1.2.1 u1.2.2) C0 hP hD hS (c_M_storm l D g q' a' b' d hd' hd4 ((((xs (i + 1)).toInt64) <<< ((32 : Int32).toInt64 &&& 63)) ||| (((xs (i + 2)).toInt64) &&& (4294967295 : Int64))) (xs (i + 3))) kk_L_60 kv_L_60.1 kv_L_60.2 2 rfl 0 rfl [0, 1, 2, 3, 4, 5, 6, 7, 8, 9, 10, 11, 12, 13] [14, 15, 16, 17, 18, 19, 20, 21, 22, 23, 24, 25, 26, 27, 28, 29, 30, 31, 32] rfl rfl ⟨by decide, by decide, by decide⟩ hl.1 rfl rfl (Nat.le_of_ble_eq_true rfl) ⟨(Nat.le_of_ble_eq_true rfl), (Nat.le_of_ble_eq_true rfl)⟩ rfl rfl ⟨(Nat.le_of_ble_eq_true rfl), (Nat.le_of_ble_eq_true rfl)⟩ dL_law_410 (fun r2 u2 H locs hw2 hP hD hS => ?_)
  obtain ⟨he, hR2⟩ := q_storm hR hw1 hw2
  refine lv_icmp_eq (tgt := 728) hx hb dL_law_413 (by decide) (fun _ => ?_) (fun c9 => absurd he c9)
  exact kk _ _ _ _ _ H locs hR2 hP hD hS
set_option maxHeartbeats 4000000 in
set_option maxRecDepth 100000 in
theorem w_run (C0 : zX D (tyG g) p s m #[Value.ref sb] meth cd_ code ret 4 RL (fun q : Nat => s.heap.size ≤ q)) (hX : va_X sb L xs s s.heap) (hbl : sb < s.heap.size) (hL : L ≤ 2561) (hi : i + 5 ≤ L) (hR : z_R n sc d cn a b v a' b') (hP : va_P D vwCl (wL g q n a b v ++ wM g q' a' b') H) (hD : va_D (fun q : Nat => s.heap.size ≤ q) (wL g q n a b v ++ wM g q' a' b')) (hS : va_S (fun q : Nat => s.heap.size ≤ q) s.heap H locs) (hl : lv_has ls 4 [(3, .int (nI i)), (2, .ref (q' 0)), (1, .ref (q 0)), (0, .ref sb)]) (kk : ∀ (a : Nat → Nat → Int32) (b : Nat → Nat → Int64) (v a' : Nat → Nat → Int32) (b' : Nat → Nat → Int64) (H : Heap) (locs : List Loc), z_RE n a b v a' b' → va_P D vwCl (wL g q n a b v ++ wM g q' a' b') H → va_D (fun q : Nat => s.heap.size ≤ q) (wL g q n a b v ++ wM g q' a' b') → va_S (fun q : Nat => s.heap.size ≤ q) s.heap H locs → W p l e room_1 s m #[Value.ref sb] below meth cd_ H locs 33 1915 Q (F0 m 728 ls [])) : W p l e room_1 s m #[Value.ref sb] below meth cd_ H locs 33 1915 Q (F0 m 418 ls []) := by
  obtain ⟨hx, hb, hr, hml, hlocks, hown, hts, hK, hA, hN⟩ := id C0
  have hbA : ¬ (fun q : Nat => s.heap.size ≤ q) sb := Nat.not_le.mpr hbl
  have hn := hR.1.1
  have hsc4 := hR.1.2.1
  have hd4 := hR.2.1
  have hsc := hR.2.2.1
  have hd := hR.2.2.2.1
  have hsc' : a' 0 3 = nI sc := hR.2.2.2.2.1.2.2.2.1.trans hsc
  have hd' : a' 0 4 = nI d := hR.2.2.2.2.1.2.2.2.2.1.trans hd
  have hly : a' 0 5 = nI n := hR.2.2.2.2.1.2.2.2.2.2.1
  have hcn : ∀ w, w < 4 → a 11 w = nI (cn w) ∧ cn w ≤ 8 := fun w hw => ⟨(hR.2.2.2.2.2.2.2.2 w hw).2.1, (hR.2.2.2.2.2.2.2.2 w hw).1⟩
  have hcn' : ∀ w, w < 4 → a' 9 w = nI (cn w) ∧ cn w ≤ 8 := fun w hw => ⟨(hR.2.2.2.2.2.2.2.2 w hw).2.2.1, (hR.2.2.2.2.2.2.2.2 w hw).1⟩
  refine lv_aload_n hx hb dL_law_418 rfl (lv_at hl 2 rfl) ?_
  refine lv_aload_n hx hb dL_law_419 rfl (lv_at hl 3 rfl) ?_
  refine lv_iload_n hx hb dL_law_420 rfl (lv_at hl 0 rfl) ?_
  refine lv_iconst (v := 1) hx hb dL_law_421 (by decide) ?_
  refine lv_iadd hx hb dL_law_422 ?_
  rw [show (nI i) + 1 = nI (i + 1) from nI_add i 1]
  refine zs_ld (k := (i + 1)) hx hb hX hbl hbA hS rfl (by omega) (by omega) dL_law_423 ?_
  refine zk_vi (rest := []) (wr := wM g q' a' b') C0 hP hD hS (c_run l D g q n a b v hn sc hsc hsc4 d hd hd4 (xs (i + 1))) kk_L_61 kv_L_61.1 kv_L_61.2 0 rfl 0 rfl [0, 1, 2, 3, 4, 5, 6, 7, 8, 9, 10, 11, 12, 13, 14, 15, 16, 17, 18] [19, 20, 21, 22, 23, 24, 25, 26, 27, 28, 29, 30, 31, 32] rfl rfl ⟨by decide, by decide, by decide⟩ hl.1 rfl rfl (Nat.le_of_ble_eq_true rfl) ⟨(Nat.le_of_ble_eq_true rfl), (Nat.le_of_ble_eq_true rfl)⟩ rfl rfl ⟨(Nat.le_of_ble_eq_true rfl), (Nat.le_of_ble_eq_true rfl)⟩ dL_law_424 (fun r1 u1 H locs hw1 hP hD hS => ?_)
  refine lv_aload_n hx hb dL_law_427 rfl (lv_at hl 1 rfl) ?_
  refine lv_aload_n hx hb dL_law_428 rfl (lv_at hl 3 rfl) ?_
  refine lv_iload_n hx hb dL_law_429 rfl (lv_at hl 0 rfl) ?_
  refine lv_iconst (v := 1) hx hb dL_law_430 (by decide) ?_
  refine lv_iadd hx hb dL_law_431 ?_
  rw [show (nI i) + 1 = nI (i + 1) from nI_add i 1]
  refine zs_ld (k := (i + 1)) hx hb hX hbl hbA hS rfl (by omega) (by omega) dL_law_432 ?_
  refine zk_vi (rest := [.int r1]) (wr := wL g q n u1.1 u1.2.1 u1.2.2) C0 hP hD hS (c_M_run l D g q' a' b' n hn hly sc hsc' hsc4 d hd' hd4 (xs (i + 1))) kk_L_65 kv_L_65.1 kv_L_65.2 2 rfl 0 rfl [0, 1, 2, 3, 4, 5, 6, 7, 8, 9, 10, 11, 12, 13] [14, 15, 16, 17, 18, 19, 20, 21, 22, 23, 24, 25, 26, 27, 28, 29, 30, 31, 32] rfl rfl ⟨by decide, by decide, by decide⟩ hl.1 rfl rfl (Nat.le_of_ble_eq_true rfl) ⟨(Nat.le_of_ble_eq_true rfl), (Nat.le_of_ble_eq_true rfl)⟩ rfl rfl ⟨(Nat.le_of_ble_eq_true rfl), (Nat.le_of_ble_eq_true rfl)⟩ dL_law_433 (fun r2 u2 H locs hw2 hP hD hS => ?_)
  obtain ⟨he, hR2⟩ := q_run hR hw1 hw2
  refine lv_icmp_eq (tgt := 728) hx hb dL_law_436 (by decide) (fun _ => ?_) (fun c9 => absurd he c9)
  exact kk _ _ _ _ _ H locs hR2 hP hD hS
set_option maxHeartbeats 4000000 in
set_option maxRecDepth 100000 in
theorem w_held (C0 : zX D (tyG g) p s m #[Value.ref sb] meth cd_ code ret 4 RL (fun q : Nat => s.heap.size ≤ q)) (hX : va_X sb L xs s s.heap) (hbl : sb < s.heap.size) (hL : L ≤ 2561) (hi : i + 5 ≤ L) (hR : z_R n sc d cn a b v a' b') (hP : va_P D vwCl (wL g q n a b v ++ wM g q' a' b') H) (hD : va_D (fun q : Nat => s.heap.size ≤ q) (wL g q n a b v ++ wM g q' a' b')) (hS : va_S (fun q : Nat => s.heap.size ≤ q) s.heap H locs) (hl : lv_has ls 4 [(3, .int (nI i)), (2, .ref (q' 0)), (1, .ref (q 0)), (0, .ref sb)]) (kk : ∀ (a : Nat → Nat → Int32) (b : Nat → Nat → Int64) (v a' : Nat → Nat → Int32) (b' : Nat → Nat → Int64) (H : Heap) (locs : List Loc), z_RE n a b v a' b' → va_P D vwCl (wL g q n a b v ++ wM g q' a' b') H → va_D (fun q : Nat => s.heap.size ≤ q) (wL g q n a b v ++ wM g q' a' b') → va_S (fun q : Nat => s.heap.size ≤ q) s.heap H locs → W p l e room_1 s m #[Value.ref sb] below meth cd_ H locs 33 1915 Q (F0 m 728 ls [])) : W p l e room_1 s m #[Value.ref sb] below meth cd_ H locs 33 1915 Q (F0 m 441 ls []) := by
  obtain ⟨hx, hb, hr, hml, hlocks, hown, hts, hK, hA, hN⟩ := id C0
  have hbA : ¬ (fun q : Nat => s.heap.size ≤ q) sb := Nat.not_le.mpr hbl
  have hn := hR.1.1
  have hsc4 := hR.1.2.1
  have hd4 := hR.2.1
  have hsc := hR.2.2.1
  have hd := hR.2.2.2.1
  have hsc' : a' 0 3 = nI sc := hR.2.2.2.2.1.2.2.2.1.trans hsc
  have hd' : a' 0 4 = nI d := hR.2.2.2.2.1.2.2.2.2.1.trans hd
  have hly : a' 0 5 = nI n := hR.2.2.2.2.1.2.2.2.2.2.1
  have hcn : ∀ w, w < 4 → a 11 w = nI (cn w) ∧ cn w ≤ 8 := fun w hw => ⟨(hR.2.2.2.2.2.2.2.2 w hw).2.1, (hR.2.2.2.2.2.2.2.2 w hw).1⟩
  have hcn' : ∀ w, w < 4 → a' 9 w = nI (cn w) ∧ cn w ≤ 8 := fun w hw => ⟨(hR.2.2.2.2.2.2.2.2 w hw).2.2.1, (hR.2.2.2.2.2.2.2.2 w hw).1⟩
  refine lv_aload_n hx hb dL_law_441 rfl (lv_at hl 2 rfl) ?_
  refine lv_aload_n hx hb dL_law_442 rfl (lv_at hl 3 rfl) ?_
  refine lv_iload_n hx hb dL_law_443 rfl (lv_at hl 0 rfl) ?_
  refine lv_iconst (v := 1) hx hb dL_law_444 (by decide) ?_
  refine lv_iadd hx hb dL_law_445 ?_
  rw [show (nI i) + 1 = nI (i + 1) from nI_add i 1]
  refine zs_ld (k := (i + 1)) hx hb hX hbl hbA hS rfl (by omega) (by omega) dL_law_446 ?_
  refine zk_vl (rest := []) (wr := wM g q' a' b') C0 hP hD hS (c_held l D g q n a b v hn (xs (i + 1))) kk_L_66 kv_L_66.1 kv_L_66.2 0 rfl 0 rfl [0, 1, 2, 3, 4, 5, 6, 7, 8, 9, 10, 11, 12, 13, 14, 15, 16, 17, 18] [19, 20, 21, 22, 23, 24, 25, 26, 27, 28, 29, 30, 31, 32] rfl rfl ⟨by decide, by decide, by decide⟩ hl.1 rfl rfl (Nat.le_of_ble_eq_true rfl) ⟨(Nat.le_of_ble_eq_true rfl), (Nat.le_of_ble_eq_true rfl)⟩ rfl rfl ⟨(Nat.le_of_ble_eq_true rfl), (Nat.le_of_ble_eq_true rfl)⟩ dL_law_447 (fun r1 u1 H locs hw1 hP hD hS => ?_)
  refine lv_aload_n hx hb dL_law_450 rfl (lv_at hl 1 rfl) ?_
  refine lv_aload_n hx hb dL_law_451 rfl (lv_at hl 3 rfl) ?_
  refine lv_iload_n hx hb dL_law_452 rfl (lv_at hl 0 rfl) ?_
  refine lv_iconst (v := 1) hx hb dL_law_453 (by decide) ?_
  refine lv_iadd hx hb dL_law_454 ?_
  rw [show (nI i) + 1 = nI (i + 1) from nI_add i 1]
  refine zs_ld (k := (i + 1)) hx hb hX hbl hbA hS rfl (by omega) (by omega) dL_law_455 ?_
  refine zk_vl (rest := [.long r1]) (wr := wL g q n a b v) C0 hP hD hS (c_M_held l D g q' a' b' n hn hly (xs (i + 1))) kk_L_70 kv_L_70.1 kv_L_70.2 2 rfl 0 rfl [0, 1, 2, 3, 4, 5, 6, 7, 8, 9, 10, 11, 12, 13] [14, 15, 16, 17, 18, 19, 20, 21, 22, 23, 24, 25, 26, 27, 28, 29, 30, 31, 32] rfl rfl ⟨by decide, by decide, by decide⟩ hl.1 rfl rfl (Nat.le_of_ble_eq_true rfl) ⟨(Nat.le_of_ble_eq_true rfl), (Nat.le_of_ble_eq_true rfl)⟩ rfl rfl ⟨(Nat.le_of_ble_eq_true rfl), (Nat.le_of_ble_eq_true rfl)⟩ dL_law_456 (fun r2 u2 H locs hw2 hP hD hS => ?_)
  have he : r1 = r2 := q_held hR hw1 hw2
  have hR2 : z_RE n a b v a' b' := ⟨sc, d, cn, hR⟩
  refine zl_eq (tgt := 728) hx hb dL_law_459 dL_law_460 (by decide) (fun _ => ?_) (fun c9 => absurd he c9)
  exact kk _ _ _ _ _ H locs hR2 hP hD hS
set_option maxHeartbeats 4000000 in
set_option maxRecDepth 100000 in
theorem w_out (C0 : zX D (tyG g) p s m #[Value.ref sb] meth cd_ code ret 4 RL (fun q : Nat => s.heap.size ≤ q)) (hX : va_X sb L xs s s.heap) (hbl : sb < s.heap.size) (hL : L ≤ 2561) (hi : i + 5 ≤ L) (hR : z_R n sc d cn a b v a' b') (hP : va_P D vwCl (wL g q n a b v ++ wM g q' a' b') H) (hD : va_D (fun q : Nat => s.heap.size ≤ q) (wL g q n a b v ++ wM g q' a' b')) (hS : va_S (fun q : Nat => s.heap.size ≤ q) s.heap H locs) (hl : lv_has ls 4 [(3, .int (nI i)), (2, .ref (q' 0)), (1, .ref (q 0)), (0, .ref sb)]) (kk : ∀ (a : Nat → Nat → Int32) (b : Nat → Nat → Int64) (v a' : Nat → Nat → Int32) (b' : Nat → Nat → Int64) (H : Heap) (locs : List Loc), z_RE n a b v a' b' → va_P D vwCl (wL g q n a b v ++ wM g q' a' b') H → va_D (fun q : Nat => s.heap.size ≤ q) (wL g q n a b v ++ wM g q' a' b') → va_S (fun q : Nat => s.heap.size ≤ q) s.heap H locs → W p l e room_1 s m #[Value.ref sb] below meth cd_ H locs 33 1915 Q (F0 m 728 ls [])) : W p l e room_1 s m #[Value.ref sb] below meth cd_ H locs 33 1915 Q (F0 m 465 ls []) := by
  obtain ⟨hx, hb, hr, hml, hlocks, hown, hts, hK, hA, hN⟩ := id C0
  have hbA : ¬ (fun q : Nat => s.heap.size ≤ q) sb := Nat.not_le.mpr hbl
  have hn := hR.1.1
  have hsc4 := hR.1.2.1
  have hd4 := hR.2.1
  have hsc := hR.2.2.1
  have hd := hR.2.2.2.1
  have hsc' : a' 0 3 = nI sc := hR.2.2.2.2.1.2.2.2.1.trans hsc
  have hd' : a' 0 4 = nI d := hR.2.2.2.2.1.2.2.2.2.1.trans hd
  have hly : a' 0 5 = nI n := hR.2.2.2.2.1.2.2.2.2.2.1
  have hcn : ∀ w, w < 4 → a 11 w = nI (cn w) ∧ cn w ≤ 8 := fun w hw => ⟨(hR.2.2.2.2.2.2.2.2 w hw).2.1, (hR.2.2.2.2.2.2.2.2 w hw).1⟩
  have hcn' : ∀ w, w < 4 → a' 9 w = nI (cn w) ∧ cn w ≤ 8 := fun w hw => ⟨(hR.2.2.2.2.2.2.2.2 w hw).2.2.1, (hR.2.2.2.2.2.2.2.2 w hw).1⟩
  refine lv_aload_n hx hb dL_law_465 rfl (lv_at hl 2 rfl) ?_
  refine lv_aload_n hx hb dL_law_466 rfl (lv_at hl 3 rfl) ?_
  refine lv_iload_n hx hb dL_law_467 rfl (lv_at hl 0 rfl) ?_
  refine lv_iconst (v := 1) hx hb dL_law_468 (by decide) ?_
  refine lv_iadd hx hb dL_law_469 ?_
  rw [show (nI i) + 1 = nI (i + 1) from nI_add i 1]
  refine zs_ld (k := (i + 1)) hx hb hX hbl hbA hS rfl (by omega) (by omega) dL_law_470 ?_
  refine zk_vl (rest := []) (wr := wM g q' a' b') C0 hP hD hS (c_out l D g q n a b v  (xs (i + 1))) kk_L_71 kv_L_71.1 kv_L_71.2 0 rfl 0 rfl [0, 1, 2, 3, 4, 5, 6, 7, 8, 9, 10, 11, 12, 13, 14, 15, 16, 17, 18] [19, 20, 21, 22, 23, 24, 25, 26, 27, 28, 29, 30, 31, 32] rfl rfl ⟨by decide, by decide, by decide⟩ hl.1 rfl rfl (Nat.le_of_ble_eq_true rfl) ⟨(Nat.le_of_ble_eq_true rfl), (Nat.le_of_ble_eq_true rfl)⟩ rfl rfl ⟨(Nat.le_of_ble_eq_true rfl), (Nat.le_of_ble_eq_true rfl)⟩ dL_law_471 (fun r1 u1 H locs hw1 hP hD hS => ?_)
  refine lv_aload_n hx hb dL_law_474 rfl (lv_at hl 1 rfl) ?_
  refine lv_aload_n hx hb dL_law_475 rfl (lv_at hl 3 rfl) ?_
  refine lv_iload_n hx hb dL_law_476 rfl (lv_at hl 0 rfl) ?_
  refine lv_iconst (v := 1) hx hb dL_law_477 (by decide) ?_
  refine lv_iadd hx hb dL_law_478 ?_
  rw [show (nI i) + 1 = nI (i + 1) from nI_add i 1]
  refine zs_ld (k := (i + 1)) hx hb hX hbl hbA hS rfl (by omega) (by omega) dL_law_479 ?_
  refine zk_vl (rest := [.long r1]) (wr := wL g q n a b v) C0 hP hD hS (c_M_out l D g q' a' b'  (xs (i + 1))) kk_L_74 kv_L_74.1 kv_L_74.2 2 rfl 0 rfl [0, 1, 2, 3, 4, 5, 6, 7, 8, 9, 10, 11, 12, 13] [14, 15, 16, 17, 18, 19, 20, 21, 22, 23, 24, 25, 26, 27, 28, 29, 30, 31, 32] rfl rfl ⟨by decide, by decide, by decide⟩ hl.1 rfl rfl (Nat.le_of_ble_eq_true rfl) ⟨(Nat.le_of_ble_eq_true rfl), (Nat.le_of_ble_eq_true rfl)⟩ rfl rfl ⟨(Nat.le_of_ble_eq_true rfl), (Nat.le_of_ble_eq_true rfl)⟩ dL_law_480 (fun r2 u2 H locs hw2 hP hD hS => ?_)
  have he : r1 = r2 := q_out hR hw1 hw2
  have hR2 : z_RE n a b v a' b' := ⟨sc, d, cn, hR⟩
  refine zl_eq (tgt := 728) hx hb dL_law_483 dL_law_484 (by decide) (fun _ => ?_) (fun c9 => absurd he c9)
  exact kk _ _ _ _ _ H locs hR2 hP hD hS
set_option maxHeartbeats 4000000 in
set_option maxRecDepth 100000 in
theorem w_balance (C0 : zX D (tyG g) p s m #[Value.ref sb] meth cd_ code ret 4 RL (fun q : Nat => s.heap.size ≤ q)) (hX : va_X sb L xs s s.heap) (hbl : sb < s.heap.size) (hL : L ≤ 2561) (hi : i + 5 ≤ L) (hR : z_R n sc d cn a b v a' b') (hP : va_P D vwCl (wL g q n a b v ++ wM g q' a' b') H) (hD : va_D (fun q : Nat => s.heap.size ≤ q) (wL g q n a b v ++ wM g q' a' b')) (hS : va_S (fun q : Nat => s.heap.size ≤ q) s.heap H locs) (hl : lv_has ls 4 [(3, .int (nI i)), (2, .ref (q' 0)), (1, .ref (q 0)), (0, .ref sb)]) (kk : ∀ (a : Nat → Nat → Int32) (b : Nat → Nat → Int64) (v a' : Nat → Nat → Int32) (b' : Nat → Nat → Int64) (H : Heap) (locs : List Loc), z_RE n a b v a' b' → va_P D vwCl (wL g q n a b v ++ wM g q' a' b') H → va_D (fun q : Nat => s.heap.size ≤ q) (wL g q n a b v ++ wM g q' a' b') → va_S (fun q : Nat => s.heap.size ≤ q) s.heap H locs → W p l e room_1 s m #[Value.ref sb] below meth cd_ H locs 33 1915 Q (F0 m 728 ls [])) : W p l e room_1 s m #[Value.ref sb] below meth cd_ H locs 33 1915 Q (F0 m 489 ls []) := by
  obtain ⟨hx, hb, hr, hml, hlocks, hown, hts, hK, hA, hN⟩ := id C0
  have hbA : ¬ (fun q : Nat => s.heap.size ≤ q) sb := Nat.not_le.mpr hbl
  have hn := hR.1.1
  have hsc4 := hR.1.2.1
  have hd4 := hR.2.1
  have hsc := hR.2.2.1
  have hd := hR.2.2.2.1
  have hsc' : a' 0 3 = nI sc := hR.2.2.2.2.1.2.2.2.1.trans hsc
  have hd' : a' 0 4 = nI d := hR.2.2.2.2.1.2.2.2.2.1.trans hd
  have hly : a' 0 5 = nI n := hR.2.2.2.2.1.2.2.2.2.2.1
  have hcn : ∀ w, w < 4 → a 11 w = nI (cn w) ∧ cn w ≤ 8 := fun w hw => ⟨(hR.2.2.2.2.2.2.2.2 w hw).2.1, (hR.2.2.2.2.2.2.2.2 w hw).1⟩
  have hcn' : ∀ w, w < 4 → a' 9 w = nI (cn w) ∧ cn w ≤ 8 := fun w hw => ⟨(hR.2.2.2.2.2.2.2.2 w hw).2.2.1, (hR.2.2.2.2.2.2.2.2 w hw).1⟩
  refine lv_aload_n hx hb dL_law_489 rfl (lv_at hl 2 rfl) ?_
  refine zk_vl (rest := []) (wr := wM g q' a' b') C0 hP hD hS (c_balance l D g q n a b v hn ) kk_L_75 kv_L_75.1 kv_L_75.2 0 rfl 0 rfl [0, 1, 2, 3, 4, 5, 6, 7, 8, 9, 10, 11, 12, 13, 14, 15, 16, 17, 18] [19, 20, 21, 22, 23, 24, 25, 26, 27, 28, 29, 30, 31, 32] rfl rfl ⟨by decide, by decide, by decide⟩ hl.1 rfl rfl (Nat.le_of_ble_eq_true rfl) ⟨(Nat.le_of_ble_eq_true rfl), (Nat.le_of_ble_eq_true rfl)⟩ rfl rfl ⟨(Nat.le_of_ble_eq_true rfl), (Nat.le_of_ble_eq_true rfl)⟩ dL_law_490 (fun r1 u1 H locs hw1 hP hD hS => ?_)
  refine lv_aload_n hx hb dL_law_493 rfl (lv_at hl 1 rfl) ?_
  refine zk_vl (rest := [.long r1]) (wr := wL g q n a b v) C0 hP hD hS (c_M_balance l D g q' a' b' n hn hly ) kk_L_79 kv_L_79.1 kv_L_79.2 2 rfl 0 rfl [0, 1, 2, 3, 4, 5, 6, 7, 8, 9, 10, 11, 12, 13] [14, 15, 16, 17, 18, 19, 20, 21, 22, 23, 24, 25, 26, 27, 28, 29, 30, 31, 32] rfl rfl ⟨by decide, by decide, by decide⟩ hl.1 rfl rfl (Nat.le_of_ble_eq_true rfl) ⟨(Nat.le_of_ble_eq_true rfl), (Nat.le_of_ble_eq_true rfl)⟩ rfl rfl ⟨(Nat.le_of_ble_eq_true rfl), (Nat.le_of_ble_eq_true rfl)⟩ dL_law_494 (fun r2 u2 H locs hw2 hP hD hS => ?_)
  have he : r1 = r2 := q_balance hR hw1 hw2
  have hR2 : z_RE n a b v a' b' := ⟨sc, d, cn, hR⟩
  refine zl_eq (tgt := 728) hx hb dL_law_497 dL_law_498 (by decide) (fun _ => ?_) (fun c9 => absurd he c9)
  exact kk _ _ _ _ _ H locs hR2 hP hD hS
set_option maxHeartbeats 4000000 in
set_option maxRecDepth 100000 in
theorem w_limit (C0 : zX D (tyG g) p s m #[Value.ref sb] meth cd_ code ret 4 RL (fun q : Nat => s.heap.size ≤ q)) (hX : va_X sb L xs s s.heap) (hbl : sb < s.heap.size) (hL : L ≤ 2561) (hi : i + 5 ≤ L) (hR : z_R n sc d cn a b v a' b') (hP : va_P D vwCl (wL g q n a b v ++ wM g q' a' b') H) (hD : va_D (fun q : Nat => s.heap.size ≤ q) (wL g q n a b v ++ wM g q' a' b')) (hS : va_S (fun q : Nat => s.heap.size ≤ q) s.heap H locs) (hl : lv_has ls 4 [(3, .int (nI i)), (2, .ref (q' 0)), (1, .ref (q 0)), (0, .ref sb)]) (kk : ∀ (a : Nat → Nat → Int32) (b : Nat → Nat → Int64) (v a' : Nat → Nat → Int32) (b' : Nat → Nat → Int64) (H : Heap) (locs : List Loc), z_RE n a b v a' b' → va_P D vwCl (wL g q n a b v ++ wM g q' a' b') H → va_D (fun q : Nat => s.heap.size ≤ q) (wL g q n a b v ++ wM g q' a' b') → va_S (fun q : Nat => s.heap.size ≤ q) s.heap H locs → W p l e room_1 s m #[Value.ref sb] below meth cd_ H locs 33 1915 Q (F0 m 728 ls [])) : W p l e room_1 s m #[Value.ref sb] below meth cd_ H locs 33 1915 Q (F0 m 503 ls []) := by
  obtain ⟨hx, hb, hr, hml, hlocks, hown, hts, hK, hA, hN⟩ := id C0
  have hbA : ¬ (fun q : Nat => s.heap.size ≤ q) sb := Nat.not_le.mpr hbl
  have hn := hR.1.1
  have hsc4 := hR.1.2.1
  have hd4 := hR.2.1
  have hsc := hR.2.2.1
  have hd := hR.2.2.2.1
  have hsc' : a' 0 3 = nI sc := hR.2.2.2.2.1.2.2.2.1.trans hsc
  have hd' : a' 0 4 = nI d := hR.2.2.2.2.1.2.2.2.2.1.trans hd
  have hly : a' 0 5 = nI n := hR.2.2.2.2.1.2.2.2.2.2.1
  have hcn : ∀ w, w < 4 → a 11 w = nI (cn w) ∧ cn w ≤ 8 := fun w hw => ⟨(hR.2.2.2.2.2.2.2.2 w hw).2.1, (hR.2.2.2.2.2.2.2.2 w hw).1⟩
  have hcn' : ∀ w, w < 4 → a' 9 w = nI (cn w) ∧ cn w ≤ 8 := fun w hw => ⟨(hR.2.2.2.2.2.2.2.2 w hw).2.2.1, (hR.2.2.2.2.2.2.2.2 w hw).1⟩
  refine lv_aload_n hx hb dL_law_503 rfl (lv_at hl 2 rfl) ?_
  refine lv_aload_n hx hb dL_law_504 rfl (lv_at hl 3 rfl) ?_
  refine lv_iload_n hx hb dL_law_505 rfl (lv_at hl 0 rfl) ?_
  refine lv_iconst (v := 1) hx hb dL_law_506 (by decide) ?_
  refine lv_iadd hx hb dL_law_507 ?_
  rw [show (nI i) + 1 = nI (i + 1) from nI_add i 1]
  refine zs_ld (k := (i + 1)) hx hb hX hbl hbA hS rfl (by omega) (by omega) dL_law_508 ?_
  refine lv_i2l (v := (xs (i + 1)).toInt64) hx hb dL_law_509 rfl ?_
  refine lv_bipush (v := 32) hx hb dL_law_510 (by decide) ?_
  refine lv_lshl (v := ((xs (i + 1)).toInt64) <<< ((32 : Int32).toInt64 &&& 63)) hx hb dL_law_512 rfl ?_
  refine lv_aload_n hx hb dL_law_513 rfl (lv_at hl 3 rfl) ?_
  refine lv_iload_n hx hb dL_law_514 rfl (lv_at hl 0 rfl) ?_
  refine lv_iconst (v := 2) hx hb dL_law_515 (by decide) ?_
  refine lv_iadd hx hb dL_law_516 ?_
  rw [show (nI i) + 2 = nI (i + 2) from nI_add i 2]
  refine zs_ld (k := (i + 2)) hx hb hX hbl hbA hS rfl (by omega) (by omega) dL_law_517 ?_
  refine lv_i2l (v := (xs (i + 2)).toInt64) hx hb dL_law_518 rfl ?_
  refine lv_ldc2 (v := 4294967295) hx hb hown (hts _ kc_L_39) dL_law_519 ?_
  refine lv_land hx hb dL_law_522 ?_
  refine lv_lor hx hb dL_law_523 ?_
  refine lv_aload_n hx hb dL_law_524 rfl (lv_at hl 3 rfl) ?_
  refine lv_iload_n hx hb dL_law_525 rfl (lv_at hl 0 rfl) ?_
  refine lv_iconst (v := 3) hx hb dL_law_526 (by decide) ?_
  refine lv_iadd hx hb dL_law_527 ?_
  rw [show (nI i) + 3 = nI (i + 3) from nI_add i 3]
  refine zs_ld (k := (i + 3)) hx hb hX hbl hbA hS rfl (by omega) (by omega) dL_law_528 ?_
  refine lv_i2l (v := (xs (i + 3)).toInt64) hx hb dL_law_529 rfl ?_
  refine lv_bipush (v := 32) hx hb dL_law_530 (by decide) ?_
  refine lv_lshl (v := ((xs (i + 3)).toInt64) <<< ((32 : Int32).toInt64 &&& 63)) hx hb dL_law_532 rfl ?_
  refine lv_aload_n hx hb dL_law_533 rfl (lv_at hl 3 rfl) ?_
  refine lv_iload_n hx hb dL_law_534 rfl (lv_at hl 0 rfl) ?_
  refine lv_iconst (v := 4) hx hb dL_law_535 (by decide) ?_
  refine lv_iadd hx hb dL_law_536 ?_
  rw [show (nI i) + 4 = nI (i + 4) from nI_add i 4]
  refine zs_ld (k := (i + 4)) hx hb hX hbl hbA hS rfl (by omega) (by omega) dL_law_537 ?_
  refine lv_i2l (v := (xs (i + 4)).toInt64) hx hb dL_law_538 rfl ?_
  refine lv_ldc2 (v := 4294967295) hx hb hown (hts _ kc_L_39) dL_law_539 ?_
  refine lv_land hx hb dL_law_542 ?_
  refine lv_lor hx hb dL_law_543 ?_
  refine zk_vi (rest := []) (wr := wM g q' a' b') C0 hP hD hS (c_limit l D g q n a b v  ((((xs (i + 1)).toInt64) <<< ((32 : Int32).toInt64 &&& 63)) ||| (((xs (i + 2)).toInt64) &&& (4294967295 : Int64))) ((((xs (i + 3)).toInt64) <<< ((32 : Int32).toInt64 &&& 63)) ||| (((xs (i + 4)).toInt64) &&& (4294967295 : Int64)))) kk_L_80 kv_L_80.1 kv_L_80.2 0 rfl 0 rfl [0, 1, 2, 3, 4, 5, 6, 7, 8, 9, 10, 11, 12, 13, 14, 15, 16, 17, 18] [19, 20, 21, 22, 23, 24, 25, 26, 27, 28, 29, 30, 31, 32] rfl rfl ⟨by decide, by decide, by decide⟩ hl.1 rfl rfl (Nat.le_of_ble_eq_true rfl) ⟨(Nat.le_of_ble_eq_true rfl), (Nat.le_of_ble_eq_true rfl)⟩ rfl rfl ⟨(Nat.le_of_ble_eq_true rfl), (Nat.le_of_ble_eq_true rfl)⟩ dL_law_544 (fun r1 u1 H locs hw1 hP hD hS => ?_)
  refine lv_aload_n hx hb dL_law_547 rfl (lv_at hl 1 rfl) ?_
  refine lv_aload_n hx hb dL_law_548 rfl (lv_at hl 3 rfl) ?_
  refine lv_iload_n hx hb dL_law_549 rfl (lv_at hl 0 rfl) ?_
  refine lv_iconst (v := 1) hx hb dL_law_550 (by decide) ?_
  refine lv_iadd hx hb dL_law_551 ?_
  rw [show (nI i) + 1 = nI (i + 1) from nI_add i 1]
  refine zs_ld (k := (i + 1)) hx hb hX hbl hbA hS rfl (by omega) (by omega) dL_law_552 ?_
  refine lv_i2l (v := (xs (i + 1)).toInt64) hx hb dL_law_553 rfl ?_
  refine lv_bipush (v := 32) hx hb dL_law_554 (by decide) ?_
  refine lv_lshl (v := ((xs (i + 1)).toInt64) <<< ((32 : Int32).toInt64 &&& 63)) hx hb dL_law_556 rfl ?_
  refine lv_aload_n hx hb dL_law_557 rfl (lv_at hl 3 rfl) ?_
  refine lv_iload_n hx hb dL_law_558 rfl (lv_at hl 0 rfl) ?_
  refine lv_iconst (v := 2) hx hb dL_law_559 (by decide) ?_
  refine lv_iadd hx hb dL_law_560 ?_
  rw [show (nI i) + 2 = nI (i + 2) from nI_add i 2]
  refine zs_ld (k := (i + 2)) hx hb hX hbl hbA hS rfl (by omega) (by omega) dL_law_561 ?_
  refine lv_i2l (v := (xs (i + 2)).toInt64) hx hb dL_law_562 rfl ?_
  refine lv_ldc2 (v := 4294967295) hx hb hown (hts _ kc_L_39) dL_law_563 ?_
  refine lv_land hx hb dL_law_566 ?_
  refine lv_lor hx hb dL_law_567 ?_
  refine lv_aload_n hx hb dL_law_568 rfl (lv_at hl 3 rfl) ?_
  refine lv_iload_n hx hb dL_law_569 rfl (lv_at hl 0 rfl) ?_
  refine lv_iconst (v := 3) hx hb dL_law_570 (by decide) ?_
  refine lv_iadd hx hb dL_law_571 ?_
  rw [show (nI i) + 3 = nI (i + 3) from nI_add i 3]
  refine zs_ld (k := (i + 3)) hx hb hX hbl hbA hS rfl (by omega) (by omega) dL_law_572 ?_
  refine lv_i2l (v := (xs (i + 3)).toInt64) hx hb dL_law_573 rfl ?_
  refine lv_bipush (v := 32) hx hb dL_law_574 (by decide) ?_
  refine lv_lshl (v := ((xs (i + 3)).toInt64) <<< ((32 : Int32).toInt64 &&& 63)) hx hb dL_law_576 rfl ?_
  refine lv_aload_n hx hb dL_law_577 rfl (lv_at hl 3 rfl) ?_
  refine lv_iload_n hx hb dL_law_578 rfl (lv_at hl 0 rfl) ?_
  refine lv_iconst (v := 4) hx hb dL_law_579 (by decide) ?_
  refine lv_iadd hx hb dL_law_580 ?_
  rw [show (nI i) + 4 = nI (i + 4) from nI_add i 4]
  refine zs_ld (k := (i + 4)) hx hb hX hbl hbA hS rfl (by omega) (by omega) dL_law_581 ?_
  refine lv_i2l (v := (xs (i + 4)).toInt64) hx hb dL_law_582 rfl ?_
  refine lv_ldc2 (v := 4294967295) hx hb hown (hts _ kc_L_39) dL_law_583 ?_
  refine lv_land hx hb dL_law_586 ?_
  refine lv_lor hx hb dL_law_587 ?_
  refine zk_vi (rest := [.int r1]) (wr := wL g q n u1.1 u1.2.1 u1.2.2) C0 hP hD hS (c_M_limit l D g q' a' b'  ((((xs (i + 1)).toInt64) <<< ((32 : Int32).toInt64 &&& 63)) ||| (((xs (i + 2)).toInt64) &&& (4294967295 : Int64))) ((((xs (i + 3)).toInt64) <<< ((32 : Int32).toInt64 &&& 63)) ||| (((xs (i + 4)).toInt64) &&& (4294967295 : Int64)))) kk_L_84 kv_L_84.1 kv_L_84.2 2 rfl 0 rfl [0, 1, 2, 3, 4, 5, 6, 7, 8, 9, 10, 11, 12, 13] [14, 15, 16, 17, 18, 19, 20, 21, 22, 23, 24, 25, 26, 27, 28, 29, 30, 31, 32] rfl rfl ⟨by decide, by decide, by decide⟩ hl.1 rfl rfl (Nat.le_of_ble_eq_true rfl) ⟨(Nat.le_of_ble_eq_true rfl), (Nat.le_of_ble_eq_true rfl)⟩ rfl rfl ⟨(Nat.le_of_ble_eq_true rfl), (Nat.le_of_ble_eq_true rfl)⟩ dL_law_588 (fun r2 u2 H locs hw2 hP hD hS => ?_)
  obtain ⟨he, hR2⟩ := q_limit hR hw1 hw2
  refine lv_icmp_eq (tgt := 728) hx hb dL_law_591 (by decide) (fun _ => ?_) (fun c9 => absurd he c9)
  exact kk _ _ _ _ _ H locs hR2 hP hD hS
set_option maxHeartbeats 4000000 in
set_option maxRecDepth 100000 in
theorem w_passed (C0 : zX D (tyG g) p s m #[Value.ref sb] meth cd_ code ret 4 RL (fun q : Nat => s.heap.size ≤ q)) (hX : va_X sb L xs s s.heap) (hbl : sb < s.heap.size) (hL : L ≤ 2561) (hi : i + 5 ≤ L) (hR : z_R n sc d cn a b v a' b') (hP : va_P D vwCl (wL g q n a b v ++ wM g q' a' b') H) (hD : va_D (fun q : Nat => s.heap.size ≤ q) (wL g q n a b v ++ wM g q' a' b')) (hS : va_S (fun q : Nat => s.heap.size ≤ q) s.heap H locs) (hl : lv_has ls 4 [(3, .int (nI i)), (2, .ref (q' 0)), (1, .ref (q 0)), (0, .ref sb)]) (kk : ∀ (a : Nat → Nat → Int32) (b : Nat → Nat → Int64) (v a' : Nat → Nat → Int32) (b' : Nat → Nat → Int64) (H : Heap) (locs : List Loc), z_RE n a b v a' b' → va_P D vwCl (wL g q n a b v ++ wM g q' a' b') H → va_D (fun q : Nat => s.heap.size ≤ q) (wL g q n a b v ++ wM g q' a' b') → va_S (fun q : Nat => s.heap.size ≤ q) s.heap H locs → W p l e room_1 s m #[Value.ref sb] below meth cd_ H locs 33 1915 Q (F0 m 728 ls [])) : W p l e room_1 s m #[Value.ref sb] below meth cd_ H locs 33 1915 Q (F0 m 596 ls []) := by
  obtain ⟨hx, hb, hr, hml, hlocks, hown, hts, hK, hA, hN⟩ := id C0
  have hbA : ¬ (fun q : Nat => s.heap.size ≤ q) sb := Nat.not_le.mpr hbl
  have hn := hR.1.1
  have hsc4 := hR.1.2.1
  have hd4 := hR.2.1
  have hsc := hR.2.2.1
  have hd := hR.2.2.2.1
  have hsc' : a' 0 3 = nI sc := hR.2.2.2.2.1.2.2.2.1.trans hsc
  have hd' : a' 0 4 = nI d := hR.2.2.2.2.1.2.2.2.2.1.trans hd
  have hly : a' 0 5 = nI n := hR.2.2.2.2.1.2.2.2.2.2.1
  have hcn : ∀ w, w < 4 → a 11 w = nI (cn w) ∧ cn w ≤ 8 := fun w hw => ⟨(hR.2.2.2.2.2.2.2.2 w hw).2.1, (hR.2.2.2.2.2.2.2.2 w hw).1⟩
  have hcn' : ∀ w, w < 4 → a' 9 w = nI (cn w) ∧ cn w ≤ 8 := fun w hw => ⟨(hR.2.2.2.2.2.2.2.2 w hw).2.2.1, (hR.2.2.2.2.2.2.2.2 w hw).1⟩
  refine lv_aload_n hx hb dL_law_596 rfl (lv_at hl 2 rfl) ?_
  refine lv_aload_n hx hb dL_law_597 rfl (lv_at hl 3 rfl) ?_
  refine lv_iload_n hx hb dL_law_598 rfl (lv_at hl 0 rfl) ?_
  refine lv_iconst (v := 1) hx hb dL_law_599 (by decide) ?_
  refine lv_iadd hx hb dL_law_600 ?_
  rw [show (nI i) + 1 = nI (i + 1) from nI_add i 1]
  refine zs_ld (k := (i + 1)) hx hb hX hbl hbA hS rfl (by omega) (by omega) dL_law_601 ?_
  refine lv_aload_n hx hb dL_law_602 rfl (lv_at hl 3 rfl) ?_
  refine lv_iload_n hx hb dL_law_603 rfl (lv_at hl 0 rfl) ?_
  refine lv_iconst (v := 2) hx hb dL_law_604 (by decide) ?_
  refine lv_iadd hx hb dL_law_605 ?_
  rw [show (nI i) + 2 = nI (i + 2) from nI_add i 2]
  refine zs_ld (k := (i + 2)) hx hb hX hbl hbA hS rfl (by omega) (by omega) dL_law_606 ?_
  refine zk_vi (rest := []) (wr := wM g q' a' b') C0 hP hD hS (c_passed l D g q n a b v d hd hd4 (xs (i + 1)) (xs (i + 2))) kk_L_85 kv_L_85.1 kv_L_85.2 0 rfl 0 rfl [0, 1, 2, 3, 4, 5, 6, 7, 8, 9, 10, 11, 12, 13, 14, 15, 16, 17, 18] [19, 20, 21, 22, 23, 24, 25, 26, 27, 28, 29, 30, 31, 32] rfl rfl ⟨by decide, by decide, by decide⟩ hl.1 rfl rfl (Nat.le_of_ble_eq_true rfl) ⟨(Nat.le_of_ble_eq_true rfl), (Nat.le_of_ble_eq_true rfl)⟩ rfl rfl ⟨(Nat.le_of_ble_eq_true rfl), (Nat.le_of_ble_eq_true rfl)⟩ dL_law_607 (fun r1 u1 H locs hw1 hP hD hS => ?_)
  refine lv_aload_n hx hb dL_law_610 rfl (lv_at hl 1 rfl) ?_
  refine lv_aload_n hx hb dL_law_611 rfl (lv_at hl 3 rfl) ?_
  refine lv_iload_n hx hb dL_law_612 rfl (lv_at hl 0 rfl) ?_
  refine lv_iconst (v := 1) hx hb dL_law_613 (by decide) ?_
  refine lv_iadd hx hb dL_law_614 ?_
  rw [show (nI i) + 1 = nI (i + 1) from nI_add i 1]
  refine zs_ld (k := (i + 1)) hx hb hX hbl hbA hS rfl (by omega) (by omega) dL_law_615 ?_
  refine lv_aload_n hx hb dL_law_616 rfl (lv_at hl 3 rfl) ?_
  refine lv_iload_n hx hb dL_law_617 rfl (lv_at hl 0 rfl) ?_
  refine lv_iconst (v := 2) hx hb dL_law_618 (by decide) ?_
  refine lv_iadd hx hb dL_law_619 ?_
  rw [show (nI i) + 2 = nI (i + 2) from nI_add i 2]
  refine zs_ld (k := (i + 2)) hx hb hX hbl hbA hS rfl (by omega) (by omega) dL_law_620 ?_
  refine zk_vi (rest := [.int r1]) (wr := wL g q n a b v) C0 hP hD hS (c_M_passed l D g q' a' b' d hd' hd4 (xs (i + 1)) (xs (i + 2))) kk_L_88 kv_L_88.1 kv_L_88.2 2 rfl 0 rfl [0, 1, 2, 3, 4, 5, 6, 7, 8, 9, 10, 11, 12, 13] [14, 15, 16, 17, 18, 19, 20, 21, 22, 23, 24, 25, 26, 27, 28, 29, 30, 31, 32] rfl rfl ⟨by decide, by decide, by decide⟩ hl.1 rfl rfl (Nat.le_of_ble_eq_true rfl) ⟨(Nat.le_of_ble_eq_true rfl), (Nat.le_of_ble_eq_true rfl)⟩ rfl rfl ⟨(Nat.le_of_ble_eq_true rfl), (Nat.le_of_ble_eq_true rfl)⟩ dL_law_621 (fun r2 u2 H locs hw2 hP hD hS => ?_)
  have he : r1 = r2 := q_passed hR hw1 hw2
  have hR2 : z_RE n a b v a' b' := ⟨sc, d, cn, hR⟩
  refine lv_icmp_eq (tgt := 728) hx hb dL_law_624 (by decide) (fun _ => ?_) (fun c9 => absurd he c9)
  exact kk _ _ _ _ _ H locs hR2 hP hD hS
set_option maxHeartbeats 4000000 in
set_option maxRecDepth 100000 in
theorem w_sample (C0 : zX D (tyG g) p s m #[Value.ref sb] meth cd_ code ret 4 RL (fun q : Nat => s.heap.size ≤ q)) (hX : va_X sb L xs s s.heap) (hbl : sb < s.heap.size) (hL : L ≤ 2561) (hi : i + 5 ≤ L) (hR : z_R n sc d cn a b v a' b') (hP : va_P D vwCl (wL g q n a b v ++ wM g q' a' b') H) (hD : va_D (fun q : Nat => s.heap.size ≤ q) (wL g q n a b v ++ wM g q' a' b')) (hS : va_S (fun q : Nat => s.heap.size ≤ q) s.heap H locs) (hl : lv_has ls 4 [(3, .int (nI i)), (2, .ref (q' 0)), (1, .ref (q 0)), (0, .ref sb)]) (kk : ∀ (a : Nat → Nat → Int32) (b : Nat → Nat → Int64) (v a' : Nat → Nat → Int32) (b' : Nat → Nat → Int64) (H : Heap) (locs : List Loc), z_RE n a b v a' b' → va_P D vwCl (wL g q n a b v ++ wM g q' a' b') H → va_D (fun q : Nat => s.heap.size ≤ q) (wL g q n a b v ++ wM g q' a' b') → va_S (fun q : Nat => s.heap.size ≤ q) s.heap H locs → W p l e room_1 s m #[Value.ref sb] below meth cd_ H locs 33 1915 Q (F0 m 728 ls [])) : W p l e room_1 s m #[Value.ref sb] below meth cd_ H locs 33 1915 Q (F0 m 629 ls []) := by
  obtain ⟨hx, hb, hr, hml, hlocks, hown, hts, hK, hA, hN⟩ := id C0
  have hbA : ¬ (fun q : Nat => s.heap.size ≤ q) sb := Nat.not_le.mpr hbl
  have hn := hR.1.1
  have hsc4 := hR.1.2.1
  have hd4 := hR.2.1
  have hsc := hR.2.2.1
  have hd := hR.2.2.2.1
  have hsc' : a' 0 3 = nI sc := hR.2.2.2.2.1.2.2.2.1.trans hsc
  have hd' : a' 0 4 = nI d := hR.2.2.2.2.1.2.2.2.2.1.trans hd
  have hly : a' 0 5 = nI n := hR.2.2.2.2.1.2.2.2.2.2.1
  have hcn : ∀ w, w < 4 → a 11 w = nI (cn w) ∧ cn w ≤ 8 := fun w hw => ⟨(hR.2.2.2.2.2.2.2.2 w hw).2.1, (hR.2.2.2.2.2.2.2.2 w hw).1⟩
  have hcn' : ∀ w, w < 4 → a' 9 w = nI (cn w) ∧ cn w ≤ 8 := fun w hw => ⟨(hR.2.2.2.2.2.2.2.2 w hw).2.2.1, (hR.2.2.2.2.2.2.2.2 w hw).1⟩
  refine lv_aload_n hx hb dL_law_629 rfl (lv_at hl 2 rfl) ?_
  refine lv_aload_n hx hb dL_law_630 rfl (lv_at hl 3 rfl) ?_
  refine lv_iload_n hx hb dL_law_631 rfl (lv_at hl 0 rfl) ?_
  refine lv_iconst (v := 1) hx hb dL_law_632 (by decide) ?_
  refine lv_iadd hx hb dL_law_633 ?_
  rw [show (nI i) + 1 = nI (i + 1) from nI_add i 1]
  refine zs_ld (k := (i + 1)) hx hb hX hbl hbA hS rfl (by omega) (by omega) dL_law_634 ?_
  refine lv_aload_n hx hb dL_law_635 rfl (lv_at hl 3 rfl) ?_
  refine lv_iload_n hx hb dL_law_636 rfl (lv_at hl 0 rfl) ?_
  refine lv_iconst (v := 2) hx hb dL_law_637 (by decide) ?_
  refine lv_iadd hx hb dL_law_638 ?_
  rw [show (nI i) + 2 = nI (i + 2) from nI_add i 2]
  refine zs_ld (k := (i + 2)) hx hb hX hbl hbA hS rfl (by omega) (by omega) dL_law_639 ?_
  refine lv_aload_n hx hb dL_law_640 rfl (lv_at hl 3 rfl) ?_
  refine lv_iload_n hx hb dL_law_641 rfl (lv_at hl 0 rfl) ?_
  refine lv_iconst (v := 3) hx hb dL_law_642 (by decide) ?_
  refine lv_iadd hx hb dL_law_643 ?_
  rw [show (nI i) + 3 = nI (i + 3) from nI_add i 3]
  refine zs_ld (k := (i + 3)) hx hb hX hbl hbA hS rfl (by omega) (by omega) dL_law_644 ?_
  refine zk_vi (rest := []) (wr := wM g q' a' b') C0 hP hD hS (c_sample l D g q n a b v cn hcn (xs (i + 1)) (xs (i + 2)) (xs (i + 3))) kk_L_89 kv_L_89.1 kv_L_89.2 0 rfl 0 rfl [0, 1, 2, 3, 4, 5, 6, 7, 8, 9, 10, 11, 12, 13, 14, 15, 16, 17, 18] [19, 20, 21, 22, 23, 24, 25, 26, 27, 28, 29, 30, 31, 32] rfl rfl ⟨by decide, by decide, by decide⟩ hl.1 rfl rfl (Nat.le_of_ble_eq_true rfl) ⟨(Nat.le_of_ble_eq_true rfl), (Nat.le_of_ble_eq_true rfl)⟩ rfl rfl ⟨(Nat.le_of_ble_eq_true rfl), (Nat.le_of_ble_eq_true rfl)⟩ dL_law_645 (fun r1 u1 H locs hw1 hP hD hS => ?_)
  refine lv_aload_n hx hb dL_law_648 rfl (lv_at hl 1 rfl) ?_
  refine lv_aload_n hx hb dL_law_649 rfl (lv_at hl 3 rfl) ?_
  refine lv_iload_n hx hb dL_law_650 rfl (lv_at hl 0 rfl) ?_
  refine lv_iconst (v := 1) hx hb dL_law_651 (by decide) ?_
  refine lv_iadd hx hb dL_law_652 ?_
  rw [show (nI i) + 1 = nI (i + 1) from nI_add i 1]
  refine zs_ld (k := (i + 1)) hx hb hX hbl hbA hS rfl (by omega) (by omega) dL_law_653 ?_
  refine lv_aload_n hx hb dL_law_654 rfl (lv_at hl 3 rfl) ?_
  refine lv_iload_n hx hb dL_law_655 rfl (lv_at hl 0 rfl) ?_
  refine lv_iconst (v := 2) hx hb dL_law_656 (by decide) ?_
  refine lv_iadd hx hb dL_law_657 ?_
  rw [show (nI i) + 2 = nI (i + 2) from nI_add i 2]
  refine zs_ld (k := (i + 2)) hx hb hX hbl hbA hS rfl (by omega) (by omega) dL_law_658 ?_
  refine lv_aload_n hx hb dL_law_659 rfl (lv_at hl 3 rfl) ?_
  refine lv_iload_n hx hb dL_law_660 rfl (lv_at hl 0 rfl) ?_
  refine lv_iconst (v := 3) hx hb dL_law_661 (by decide) ?_
  refine lv_iadd hx hb dL_law_662 ?_
  rw [show (nI i) + 3 = nI (i + 3) from nI_add i 3]
  refine zs_ld (k := (i + 3)) hx hb hX hbl hbA hS rfl (by omega) (by omega) dL_law_663 ?_
  refine zk_vi (rest := [.int r1]) (wr := wL g q n u1.1 u1.2.1 u1.2.2) C0 hP hD hS (c_M_sample l D g q' a' b' cn hcn' (xs (i + 1)) (xs (i + 2)) (xs (i + 3))) kk_L_93 kv_L_93.1 kv_L_93.2 2 rfl 0 rfl [0, 1, 2, 3, 4, 5, 6, 7, 8, 9, 10, 11, 12, 13] [14, 15, 16, 17, 18, 19, 20, 21, 22, 23, 24, 25, 26, 27, 28, 29, 30, 31, 32] rfl rfl ⟨by decide, by decide, by decide⟩ hl.1 rfl rfl (Nat.le_of_ble_eq_true rfl) ⟨(Nat.le_of_ble_eq_true rfl), (Nat.le_of_ble_eq_true rfl)⟩ rfl rfl ⟨(Nat.le_of_ble_eq_true rfl), (Nat.le_of_ble_eq_true rfl)⟩ dL_law_664 (fun r2 u2 H locs hw2 hP hD hS => ?_)
  obtain ⟨he, hR2⟩ := q_sample hR hw1 hw2
  refine lv_icmp_eq (tgt := 728) hx hb dL_law_667 (by decide) (fun _ => ?_) (fun c9 => absurd he c9)
  exact kk _ _ _ _ _ H locs hR2 hP hD hS
set_option maxHeartbeats 4000000 in
set_option maxRecDepth 100000 in
theorem w_trend (C0 : zX D (tyG g) p s m #[Value.ref sb] meth cd_ code ret 4 RL (fun q : Nat => s.heap.size ≤ q)) (hX : va_X sb L xs s s.heap) (hbl : sb < s.heap.size) (hL : L ≤ 2561) (hi : i + 5 ≤ L) (hR : z_R n sc d cn a b v a' b') (hP : va_P D vwCl (wL g q n a b v ++ wM g q' a' b') H) (hD : va_D (fun q : Nat => s.heap.size ≤ q) (wL g q n a b v ++ wM g q' a' b')) (hS : va_S (fun q : Nat => s.heap.size ≤ q) s.heap H locs) (hl : lv_has ls 4 [(3, .int (nI i)), (2, .ref (q' 0)), (1, .ref (q 0)), (0, .ref sb)]) (kk : ∀ (a : Nat → Nat → Int32) (b : Nat → Nat → Int64) (v a' : Nat → Nat → Int32) (b' : Nat → Nat → Int64) (H : Heap) (locs : List Loc), z_RE n a b v a' b' → va_P D vwCl (wL g q n a b v ++ wM g q' a' b') H → va_D (fun q : Nat => s.heap.size ≤ q) (wL g q n a b v ++ wM g q' a' b') → va_S (fun q : Nat => s.heap.size ≤ q) s.heap H locs → W p l e room_1 s m #[Value.ref sb] below meth cd_ H locs 33 1915 Q (F0 m 728 ls [])) : W p l e room_1 s m #[Value.ref sb] below meth cd_ H locs 33 1915 Q (F0 m 672 ls []) := by
  obtain ⟨hx, hb, hr, hml, hlocks, hown, hts, hK, hA, hN⟩ := id C0
  have hbA : ¬ (fun q : Nat => s.heap.size ≤ q) sb := Nat.not_le.mpr hbl
  have hn := hR.1.1
  have hsc4 := hR.1.2.1
  have hd4 := hR.2.1
  have hsc := hR.2.2.1
  have hd := hR.2.2.2.1
  have hsc' : a' 0 3 = nI sc := hR.2.2.2.2.1.2.2.2.1.trans hsc
  have hd' : a' 0 4 = nI d := hR.2.2.2.2.1.2.2.2.2.1.trans hd
  have hly : a' 0 5 = nI n := hR.2.2.2.2.1.2.2.2.2.2.1
  have hcn : ∀ w, w < 4 → a 11 w = nI (cn w) ∧ cn w ≤ 8 := fun w hw => ⟨(hR.2.2.2.2.2.2.2.2 w hw).2.1, (hR.2.2.2.2.2.2.2.2 w hw).1⟩
  have hcn' : ∀ w, w < 4 → a' 9 w = nI (cn w) ∧ cn w ≤ 8 := fun w hw => ⟨(hR.2.2.2.2.2.2.2.2 w hw).2.2.1, (hR.2.2.2.2.2.2.2.2 w hw).1⟩
  refine lv_aload_n hx hb dL_law_672 rfl (lv_at hl 2 rfl) ?_
  refine lv_aload_n hx hb dL_law_673 rfl (lv_at hl 3 rfl) ?_
  refine lv_iload_n hx hb dL_law_674 rfl (lv_at hl 0 rfl) ?_
  refine lv_iconst (v := 1) hx hb dL_law_675 (by decide) ?_
  refine lv_iadd hx hb dL_law_676 ?_
  rw [show (nI i) + 1 = nI (i + 1) from nI_add i 1]
  refine zs_ld (k := (i + 1)) hx hb hX hbl hbA hS rfl (by omega) (by omega) dL_law_677 ?_
  refine zk_vi (rest := []) (wr := wM g q' a' b') C0 hP hD hS (c_trend l D g q n a b v cn hcn (xs (i + 1))) kk_L_94 kv_L_94.1 kv_L_94.2 0 rfl 0 rfl [0, 1, 2, 3, 4, 5, 6, 7, 8, 9, 10, 11, 12, 13, 14, 15, 16, 17, 18] [19, 20, 21, 22, 23, 24, 25, 26, 27, 28, 29, 30, 31, 32] rfl rfl ⟨by decide, by decide, by decide⟩ hl.1 rfl rfl (Nat.le_of_ble_eq_true rfl) ⟨(Nat.le_of_ble_eq_true rfl), (Nat.le_of_ble_eq_true rfl)⟩ rfl rfl ⟨(Nat.le_of_ble_eq_true rfl), (Nat.le_of_ble_eq_true rfl)⟩ dL_law_678 (fun r1 u1 H locs hw1 hP hD hS => ?_)
  refine lv_aload_n hx hb dL_law_681 rfl (lv_at hl 1 rfl) ?_
  refine lv_aload_n hx hb dL_law_682 rfl (lv_at hl 3 rfl) ?_
  refine lv_iload_n hx hb dL_law_683 rfl (lv_at hl 0 rfl) ?_
  refine lv_iconst (v := 1) hx hb dL_law_684 (by decide) ?_
  refine lv_iadd hx hb dL_law_685 ?_
  rw [show (nI i) + 1 = nI (i + 1) from nI_add i 1]
  refine zs_ld (k := (i + 1)) hx hb hX hbl hbA hS rfl (by omega) (by omega) dL_law_686 ?_
  refine zk_vi (rest := [.int r1]) (wr := wL g q n a b v) C0 hP hD hS (c_M_trend l D g q' a' b' cn hcn' (xs (i + 1))) kk_L_97 kv_L_97.1 kv_L_97.2 2 rfl 0 rfl [0, 1, 2, 3, 4, 5, 6, 7, 8, 9, 10, 11, 12, 13] [14, 15, 16, 17, 18, 19, 20, 21, 22, 23, 24, 25, 26, 27, 28, 29, 30, 31, 32] rfl rfl ⟨by decide, by decide, by decide⟩ hl.1 rfl rfl (Nat.le_of_ble_eq_true rfl) ⟨(Nat.le_of_ble_eq_true rfl), (Nat.le_of_ble_eq_true rfl)⟩ rfl rfl ⟨(Nat.le_of_ble_eq_true rfl), (Nat.le_of_ble_eq_true rfl)⟩ dL_law_687 (fun r2 u2 H locs hw2 hP hD hS => ?_)
  have he : r1 = r2 := q_trend hR hw1 hw2
  have hR2 : z_RE n a b v a' b' := ⟨sc, d, cn, hR⟩
  refine lv_icmp_eq (tgt := 728) hx hb dL_law_690 (by decide) (fun _ => ?_) (fun c9 => absurd he c9)
  exact kk _ _ _ _ _ H locs hR2 hP hD hS
set_option maxHeartbeats 4000000 in
set_option maxRecDepth 100000 in
theorem w_odds (C0 : zX D (tyG g) p s m #[Value.ref sb] meth cd_ code ret 4 RL (fun q : Nat => s.heap.size ≤ q)) (hX : va_X sb L xs s s.heap) (hbl : sb < s.heap.size) (hL : L ≤ 2561) (hi : i + 5 ≤ L) (hR : z_R n sc d cn a b v a' b') (hP : va_P D vwCl (wL g q n a b v ++ wM g q' a' b') H) (hD : va_D (fun q : Nat => s.heap.size ≤ q) (wL g q n a b v ++ wM g q' a' b')) (hS : va_S (fun q : Nat => s.heap.size ≤ q) s.heap H locs) (hl : lv_has ls 4 [(3, .int (nI i)), (2, .ref (q' 0)), (1, .ref (q 0)), (0, .ref sb)]) (kk : ∀ (a : Nat → Nat → Int32) (b : Nat → Nat → Int64) (v a' : Nat → Nat → Int32) (b' : Nat → Nat → Int64) (H : Heap) (locs : List Loc), z_RE n a b v a' b' → va_P D vwCl (wL g q n a b v ++ wM g q' a' b') H → va_D (fun q : Nat => s.heap.size ≤ q) (wL g q n a b v ++ wM g q' a' b') → va_S (fun q : Nat => s.heap.size ≤ q) s.heap H locs → W p l e room_1 s m #[Value.ref sb] below meth cd_ H locs 33 1915 Q (F0 m 728 ls [])) : W p l e room_1 s m #[Value.ref sb] below meth cd_ H locs 33 1915 Q (F0 m 695 ls []) := by
  obtain ⟨hx, hb, hr, hml, hlocks, hown, hts, hK, hA, hN⟩ := id C0
  have hbA : ¬ (fun q : Nat => s.heap.size ≤ q) sb := Nat.not_le.mpr hbl
  have hn := hR.1.1
  have hsc4 := hR.1.2.1
  have hd4 := hR.2.1
  have hsc := hR.2.2.1
  have hd := hR.2.2.2.1
  have hsc' : a' 0 3 = nI sc := hR.2.2.2.2.1.2.2.2.1.trans hsc
  have hd' : a' 0 4 = nI d := hR.2.2.2.2.1.2.2.2.2.1.trans hd
  have hly : a' 0 5 = nI n := hR.2.2.2.2.1.2.2.2.2.2.1
  have hcn : ∀ w, w < 4 → a 11 w = nI (cn w) ∧ cn w ≤ 8 := fun w hw => ⟨(hR.2.2.2.2.2.2.2.2 w hw).2.1, (hR.2.2.2.2.2.2.2.2 w hw).1⟩
  have hcn' : ∀ w, w < 4 → a' 9 w = nI (cn w) ∧ cn w ≤ 8 := fun w hw => ⟨(hR.2.2.2.2.2.2.2.2 w hw).2.2.1, (hR.2.2.2.2.2.2.2.2 w hw).1⟩
  refine lv_aload_n hx hb dL_law_695 rfl (lv_at hl 2 rfl) ?_
  refine lv_aload_n hx hb dL_law_696 rfl (lv_at hl 3 rfl) ?_
  refine lv_iload_n hx hb dL_law_697 rfl (lv_at hl 0 rfl) ?_
  refine lv_iconst (v := 1) hx hb dL_law_698 (by decide) ?_
  refine lv_iadd hx hb dL_law_699 ?_
  rw [show (nI i) + 1 = nI (i + 1) from nI_add i 1]
  refine zs_ld (k := (i + 1)) hx hb hX hbl hbA hS rfl (by omega) (by omega) dL_law_700 ?_
  refine lv_aload_n hx hb dL_law_701 rfl (lv_at hl 3 rfl) ?_
  refine lv_iload_n hx hb dL_law_702 rfl (lv_at hl 0 rfl) ?_
  refine lv_iconst (v := 2) hx hb dL_law_703 (by decide) ?_
  refine lv_iadd hx hb dL_law_704 ?_
  rw [show (nI i) + 2 = nI (i + 2) from nI_add i 2]
  refine zs_ld (k := (i + 2)) hx hb hX hbl hbA hS rfl (by omega) (by omega) dL_law_705 ?_
  refine zk_vi (rest := []) (wr := wM g q' a' b') C0 hP hD hS (c_odds l D g q n a b v cn hcn (xs (i + 1)) (xs (i + 2))) kk_L_98 kv_L_98.1 kv_L_98.2 0 rfl 0 rfl [0, 1, 2, 3, 4, 5, 6, 7, 8, 9, 10, 11, 12, 13, 14, 15, 16, 17, 18] [19, 20, 21, 22, 23, 24, 25, 26, 27, 28, 29, 30, 31, 32] rfl rfl ⟨by decide, by decide, by decide⟩ hl.1 rfl rfl (Nat.le_of_ble_eq_true rfl) ⟨(Nat.le_of_ble_eq_true rfl), (Nat.le_of_ble_eq_true rfl)⟩ rfl rfl ⟨(Nat.le_of_ble_eq_true rfl), (Nat.le_of_ble_eq_true rfl)⟩ dL_law_706 (fun r1 u1 H locs hw1 hP hD hS => ?_)
  refine lv_aload_n hx hb dL_law_709 rfl (lv_at hl 1 rfl) ?_
  refine lv_aload_n hx hb dL_law_710 rfl (lv_at hl 3 rfl) ?_
  refine lv_iload_n hx hb dL_law_711 rfl (lv_at hl 0 rfl) ?_
  refine lv_iconst (v := 1) hx hb dL_law_712 (by decide) ?_
  refine lv_iadd hx hb dL_law_713 ?_
  rw [show (nI i) + 1 = nI (i + 1) from nI_add i 1]
  refine zs_ld (k := (i + 1)) hx hb hX hbl hbA hS rfl (by omega) (by omega) dL_law_714 ?_
  refine lv_aload_n hx hb dL_law_715 rfl (lv_at hl 3 rfl) ?_
  refine lv_iload_n hx hb dL_law_716 rfl (lv_at hl 0 rfl) ?_
  refine lv_iconst (v := 2) hx hb dL_law_717 (by decide) ?_
  refine lv_iadd hx hb dL_law_718 ?_
  rw [show (nI i) + 2 = nI (i + 2) from nI_add i 2]
  refine zs_ld (k := (i + 2)) hx hb hX hbl hbA hS rfl (by omega) (by omega) dL_law_719 ?_
  refine zk_vi (rest := [.int r1]) (wr := wL g q n (va_up a 10 u1) b v) C0 hP hD hS (c_M_odds l D g q' hR (xs (i + 1)) (xs (i + 2))) kk_L_101 kv_L_101.1 kv_L_101.2 2 rfl 0 rfl [0, 1, 2, 3, 4, 5, 6, 7, 8, 9, 10, 11, 12, 13] [14, 15, 16, 17, 18, 19, 20, 21, 22, 23, 24, 25, 26, 27, 28, 29, 30, 31, 32] rfl rfl ⟨by decide, by decide, by decide⟩ hl.1 rfl rfl (Nat.le_of_ble_eq_true rfl) ⟨(Nat.le_of_ble_eq_true rfl), (Nat.le_of_ble_eq_true rfl)⟩ rfl rfl ⟨(Nat.le_of_ble_eq_true rfl), (Nat.le_of_ble_eq_true rfl)⟩ dL_law_720 (fun r2 u2 H locs hw2 hP hD hS => ?_)
  have he : r1 = r2 := hw1.trans hw2.symm
  have hR2 := q_odds hR u1 u2
  refine lv_icmp_eq (tgt := 728) hx hb dL_law_723 (by decide) (fun _ => ?_) (fun c9 => absurd he c9)
  exact kk _ _ _ _ _ H locs hR2 hP hD hS
end LAWC
