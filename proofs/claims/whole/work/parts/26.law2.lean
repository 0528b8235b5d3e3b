theorem z_len {L i : Nat} (hL : L ≤ 2561) (hi : i ≤ L + 5) (h : ¬ nI L - 5 < nI i) : i + 5 ≤ L := by
  rw [Int32.lt_iff_toInt_lt, nI_toInt (by omega)] at h
  have e : (nI L - 5).toInt = (L : Int) - 5 := pk_sub_toInt (a := L) (b := 5) (by omega) (by decide)
  rw [e] at h
  omega
theorem m_n_b (x : Int32) : 1 ≤ m_n x ∧ m_n x ≤ 6 := by
  by_cases h : m_within x.toInt64 1 6 = true
  · obtain ⟨k, hk, e, -⟩ := m_n_k h
    rw [e]; exact hk
  · unfold m_n
    rw [if_neg h]; omega
set_option maxHeartbeats 4000000 in
set_option maxRecDepth 100000 in
/-- the law's loop: the class's state beside the reference's -/
theorem law_loop {p : Program} {l : Launch} {e : Env} {s : State} {m : MethodId} {below : List Frame} {meth : Method} {cd_ : Code} {D : va_G} {g : Nat → ClassId} {sb L : Nat} {xs : Nat → Int32} {q q' : Nat → Nat} {n : Nat} (C0 : zX D (tyG g) p s m #[Value.ref sb] meth cd_ code ret 4 RL (fun q : Nat => s.heap.size ≤ q)) (hX : va_X sb L xs s s.heap) (hbl : sb < s.heap.size) (hL : L ≤ 2561) :
    ∀ (t i : Nat), L + 5 ≤ i + 5 * t → i ≤ L + 5 → ∀ (a : Nat → Nat → Int32) (b : Nat → Nat → Int64) (v a' : Nat → Nat → Int32) (b' : Nat → Nat → Int64) (H : Heap) (locs : List Loc) (ls : Array Slot), z_RE n a b v a' b' → va_P D vwCl (wL g q n a b v ++ wM g q' a' b') H → va_D (fun q : Nat => s.heap.size ≤ q) (wL g q n a b v ++ wM g q' a' b') → va_S (fun q : Nat => s.heap.size ≤ q) s.heap H locs → lv_has ls 4 [(3, .int (nI i)), (2, .ref (q' 0)), (1, .ref (q 0)), (0, .ref sb)] → W p l e room_1 s m #[Value.ref sb] below meth cd_ H locs 33 1915 (lw_Z below #[Value.ref sb] s) (F0 m 28 ls []) := by
  obtain ⟨hx, hb, hr, hml, hlocks, hown, hts, hK, hA, hN⟩ := id C0
  have hbA : ¬ (fun q : Nat => s.heap.size ≤ q) sb := Nat.not_le.mpr hbl
  intro t
  induction t with
  | zero =>
    intro i h1 h2 a b v a' b' H locs ls hRE hP hD hS hl
    refine lv_iload_n hx hb dL_law_28 rfl (lv_at hl 0 rfl) ?_
    refine lv_aload_n hx hb dL_law_29 rfl (lv_at hl 3 rfl) ?_
    refine va_slen hx hb hX hbl hbA hS dL_law_30 ?_
    refine lv_iconst (v := 5) hx hb dL_law_31 (by decide) ?_
    refine lv_isub hx hb dL_law_32 ?_
    refine lv_icmp_gt (tgt := 734) hx hb dL_law_33 (by decide) (fun _ => ?_) (fun c_33 => ?_)
    · refine lv_iconst (v := 1) hx hb dL_law_734 (by decide) ?_
      refine va_forget (fun q hq => hS.2.2 q hq) ?_
      refine W.widen (k := 600000) (n := 7302249) (by decide) (by decide) ?_
      exact lw_ret hx hb hr hlocks dL_law_735
    · have hi := z_len hL h2 c_33
      omega
  | succ t ih =>
    intro i h1 h2 a b v a' b' H locs ls hRE hP hD hS hl
    refine lv_iload_n hx hb dL_law_28 rfl (lv_at hl 0 rfl) ?_
    refine lv_aload_n hx hb dL_law_29 rfl (lv_at hl 3 rfl) ?_
    refine va_slen hx hb hX hbl hbA hS dL_law_30 ?_
    refine lv_iconst (v := 5) hx hb dL_law_31 (by decide) ?_
    refine lv_isub hx hb dL_law_32 ?_
    refine lv_icmp_gt (tgt := 734) hx hb dL_law_33 (by decide) (fun _ => ?_) (fun c_33 => ?_)
    · refine lv_iconst (v := 1) hx hb dL_law_734 (by decide) ?_
      refine va_forget (fun q hq => hS.2.2 q hq) ?_
      refine W.widen (k := 600000) (n := 7302249) (by decide) (by decide) ?_
      exact lw_ret hx hb hr hlocks dL_law_735
    · have hi := z_len hL h2 c_33
      have K : ∀ (a : Nat → Nat → Int32) (b : Nat → Nat → Int64) (v a' : Nat → Nat → Int32) (b' : Nat → Nat → Int64) (H : Heap) (locs : List Loc), z_RE n a b v a' b' → va_P D vwCl (wL g q n a b v ++ wM g q' a' b') H → va_D (fun q : Nat => s.heap.size ≤ q) (wL g q n a b v ++ wM g q' a' b') → va_S (fun q : Nat => s.heap.size ≤ q) s.heap H locs → W p l e room_1 s m #[Value.ref sb] below meth cd_ H locs 33 1915 (lw_Z below #[Value.ref sb] s) (F0 m 728 ls []) := by
        intro a b v a' b' H locs hRE hP hD hS
        refine lv_iinc (v := nI (i + 5)) (lv' := [(3, .int (nI (i + 5))), (2, .ref (q' 0)), (1, .ref (q 0)), (0, .ref sb)]) hx hb dL_law_728 hl (k := 0) rfl (nI_add i 5) (by decide) rfl (fun ls hl => ?_)
        refine lv_goto (tgt := 28) hx hb dL_law_731 (by decide) ?_
        exact ih (i + 5) (by omega) (by omega) a b v a' b' H locs ls hRE hP hD hS hl
      obtain ⟨sc, d, cn, hR⟩ := id hRE
      refine lv_aload_n hx hb dL_law_36 rfl (lv_at hl 3 rfl) ?_
      refine lv_iload_n hx hb dL_law_37 rfl (lv_at hl 0 rfl) ?_
      refine zs_ld (k := i) hx hb hX hbl hbA hS rfl (by omega) (by omega) dL_law_38 ?_
      refine lv_bipush (v := 31) hx hb dL_law_39 (by decide) ?_
      refine lv_iand hx hb dL_law_41 ?_
      obtain ⟨k, hk, ek⟩ := pk_andE (xs i) (m := 31) 5 (by decide)
      rw [ek]
      rcases (show k = 0 ∨ k = 1 ∨ k = 2 ∨ k = 3 ∨ k = 4 ∨ k = 5 ∨ k = 6 ∨ k = 7 ∨ k = 8 ∨ k = 9 ∨ k = 10 ∨ k = 11 ∨ k = 12 ∨ k = 13 ∨ k = 14 ∨ k = 15 ∨ k = 16 ∨ 17 ≤ k by omega) with rfl | rfl | rfl | rfl | rfl | rfl | rfl | rfl | rfl | rfl | rfl | rfl | rfl | rfl | rfl | rfl | rfl | hk17
      · refine lv_tableIn (off := 82) (tgt := 124) hx hb dL_law_42 (by decide) (by decide) (by decide) (by decide) ?_
        exact w_layer C0 hX hbl hL hi hR hP hD hS hl K
      · refine lv_tableIn (off := 125) (tgt := 167) hx hb dL_law_42 (by decide) (by decide) (by decide) (by decide) ?_
        exact w_cover C0 hX hbl hL hi hR hP hD hS hl K
      · refine lv_tableIn (off := 148) (tgt := 190) hx hb dL_law_42 (by decide) (by decide) (by decide) (by decide) ?_
        exact w_drain C0 hX hbl hL hi hR hP hD hS hl K
      · refine lv_tableIn (off := 171) (tgt := 213) hx hb dL_law_42 (by decide) (by decide) (by decide) (by decide) ?_
        exact w_back C0 hX hbl hL hi hR hP hD hS hl K
      · refine lv_tableIn (off := 194) (tgt := 236) hx hb dL_law_42 (by decide) (by decide) (by decide) (by decide) ?_
        exact w_tank C0 hX hbl hL hi hR hP hD hS hl K
      · refine lv_tableIn (off := 247) (tgt := 289) hx hb dL_law_42 (by decide) (by decide) (by decide) (by decide) ?_
        exact w_stage C0 hX hbl hL hi hR hP hD hS hl K
      · refine lv_tableIn (off := 280) (tgt := 322) hx hb dL_law_42 (by decide) (by decide) (by decide) (by decide) ?_
        exact w_rain C0 hX hbl hL hi hR hP hD hS hl K
      · refine lv_tableIn (off := 313) (tgt := 355) hx hb dL_law_42 (by decide) (by decide) (by decide) (by decide) ?_
        exact w_storm C0 hX hbl hL hi hR hP hD hS hl K
      · refine lv_tableIn (off := 376) (tgt := 418) hx hb dL_law_42 (by decide) (by decide) (by decide) (by decide) ?_
        exact w_run C0 hX hbl hL hi hR hP hD hS hl K
      · refine lv_tableIn (off := 399) (tgt := 441) hx hb dL_law_42 (by decide) (by decide) (by decide) (by decide) ?_
        exact w_held C0 hX hbl hL hi hR hP hD hS hl K
      · refine lv_tableIn (off := 423) (tgt := 465) hx hb dL_law_42 (by decide) (by decide) (by decide) (by decide) ?_
        exact w_out C0 hX hbl hL hi hR hP hD hS hl K
      · refine lv_tableIn (off := 447) (tgt := 489) hx hb dL_law_42 (by decide) (by decide) (by decide) (by decide) ?_
        exact w_balance C0 hX hbl hL hi hR hP hD hS hl K
      · refine lv_tableIn (off := 461) (tgt := 503) hx hb dL_law_42 (by decide) (by decide) (by decide) (by decide) ?_
        exact w_limit C0 hX hbl hL hi hR hP hD hS hl K
      · refine lv_tableIn (off := 554) (tgt := 596) hx hb dL_law_42 (by decide) (by decide) (by decide) (by decide) ?_
        exact w_passed C0 hX hbl hL hi hR hP hD hS hl K
      · refine lv_tableIn (off := 587) (tgt := 629) hx hb dL_law_42 (by decide) (by decide) (by decide) (by decide) ?_
        exact w_sample C0 hX hbl hL hi hR hP hD hS hl K
      · refine lv_tableIn (off := 630) (tgt := 672) hx hb dL_law_42 (by decide) (by decide) (by decide) (by decide) ?_
        exact w_trend C0 hX hbl hL hi hR hP hD hS hl K
      · refine lv_tableIn (off := 653) (tgt := 695) hx hb dL_law_42 (by decide) (by decide) (by decide) (by decide) ?_
        exact w_odds C0 hX hbl hL hi hR hP hD hS hl K
      · refine lv_tableOut (tgt := 728) hx hb dL_law_42 (Or.inr (by rw [nI_toInt (by omega)]; omega)) (by decide) ?_
        exact K a b v a' b' H locs hRE hP hD hS
set_option maxHeartbeats 4000000 in
set_option maxRecDepth 100000 in
/-- the law, from its entry -/
theorem whole_start {p : Program} {e : Env} {s : State} {m : MethodId} {below : List Frame} {meth : Method} {c : Code} (l : Launch) {b L : Nat} {xs : Nat → Int32} (hL : L ≤ 2561) (C0 : lw_At p s m meth c b L xs) : W p l e room_1 s m #[Value.ref b] below meth c s.heap [] 0 0 (lw_Z below #[Value.ref b] s) (entryFrame m ([Value.ref b] : List Value).toArray 4) := by
  obtain ⟨hx, hb, hr, hml, hown, hts0, hX, hbl, hlocks, hgv⟩ := id C0
  have hts : ∀ w ∈ lw_gd, w.before #[Value.ref b] s = true := fun w h => hts0 w (List.mem_filter.mp h).1
  have hA : ∀ q : Nat, s.heap.size ≤ q → (fun q : Nat => s.heap.size ≤ q) q := fun _ h => h
  have hbA : ¬ (fun q : Nat => s.heap.size ≤ q) b := Nat.not_le.mpr hbl
  obtain ⟨c0, iS0, hKn0⟩ := u_known (C := RX0) (T := TX0) (N := 18) (n := 18) hts iw_X0 (hts _ kt_X0)
  obtain ⟨c1, iS1, hKn1⟩ := u_known (C := RX1) (T := TX1) (N := 3) (n := 3) hts iw_X1 (hts _ kt_X1)
  obtain ⟨c2, iS2, hKn2⟩ := u_known (C := RX2) (T := TX2) (N := 22) (n := 22) hts iw_X2 (hts _ kt_X2)
  obtain ⟨D, hKc⟩ : ∃ D : va_G, ∀ (k : Nat) (q : vw_C), vwCl[k]? = some q → u_Kn s q.1 q.2.1 q.2.2 (D.1 k) (D.2 k) := by
    refine ⟨(fun k => if k = 0 then c0 else if k = 1 then c1 else c2, fun k => if k = 0 then iS0 else if k = 1 then iS1 else iS2), ?_⟩
    intro k q hq
    match k, hq with
    | 0, hq => cases hq; exact hKn0
    | 1, hq => cases hq; exact hKn1
    | 2, hq => cases hq; exact hKn2
    | k + 3, hq => simp [vwCl] at hq
  obtain ⟨cI, hI1, hI2⟩ := z_arrT (Or.inl rfl) (hts _ ka_int)
  obtain ⟨cJ, hJ1, hJ2⟩ := z_arrT (Or.inr rfl) (hts _ ka_long)
  have hao : (Cond.arrayOver (.object RX1)).before #[Value.ref b] s = true := hts0 _ (by decide +kernel)
  obtain ⟨cW, hW1, hW2⟩ := z_arrO hao
  obtain ⟨g, hg0, hg1, hg2⟩ : ∃ g : Nat → ClassId, g 0 = cI ∧ g 1 = cJ ∧ g 2 = cW := ⟨fun k => if k = 0 then cI else if k = 1 then cJ else cW, rfl, rfl, rfl⟩
  subst hg0; subst hg1; subst hg2
  have hK : va_K D vwCl (tyG g) s := by
    refine ⟨hKc, fun k q hq => ?_⟩
    match k, hq with
    | 0, hq => cases hq; exact ⟨hI1, hI2⟩
    | 1, hq => cases hq; exact ⟨hJ1, hJ2⟩
    | 2, hq => cases hq; exact ⟨hW1, hW2⟩
    | k + 3, hq => simp [tyG] at hq
  have hN : zN s := ⟨va_Nw.of rfl (hts0 (.methodLinkNest RX0 65 yX1_init "LeachRows") (by decide +kernel)), va_Nw.of rfl (hts0 (.fieldLinkNest RX0 128 RX1 "count" "I" "LeachRows") (by decide +kernel)), va_AO.of hao⟩
  have C1 : zX D (tyG g) p s m #[Value.ref b] meth c code ret 4 RL (fun q : Nat => s.heap.size ≤ q) := ⟨hx, hb, hr, hml, hlocks, hown, hts, hK, hA, hN⟩
  have hS : va_S (fun q : Nat => s.heap.size ≤ q) s.heap s.heap [] := va_S.rf
  have hP : va_P D vwCl [] s.heap := fun k q h => by simp at h
  have hD : va_D (fun q : Nat => s.heap.size ≤ q) [] := ⟨fun i j p q h => by simp at h, fun k q h => by simp at h⟩
  have hl := lv_entry ([.ref b]) (n := 4) (Nat.le_of_ble_eq_true rfl)
  rw [lg_entry_eq]
  generalize (lg_sl ([.ref b]) ++ List.replicate (4 - (lg_sl ([.ref b])).length) Slot.unset).toArray = ls at hl ⊢
  have hl : lv_has ls 4 [(0, .ref b)] := hl
  refine va_new (ci := 0) (fs := [.null, .null, .null, .null, .null, .null, .null, .null, .null, .null, .int 0, .int 0, .int 0, .long 0, .int 0, .int 0, .long 0, .long 0]) (C := RX0) (T := TX0) (N := 18) hx hb hts iw_X0 tyX0 tyok_X0 hown (hts _ kd_L_7) (hts _ kt_X0) (hts _ ki_X0) hK hP hD hS hA rfl (fun j hj => by rcases (show j = 0 ∨ j = 1 ∨ j = 2 ∨ j = 3 ∨ j = 4 ∨ j = 5 ∨ j = 6 ∨ j = 7 ∨ j = 8 ∨ j = 9 ∨ j = 10 ∨ j = 11 ∨ j = 12 ∨ j = 13 ∨ j = 14 ∨ j = 15 ∨ j = 16 ∨ j = 17 by omega) with rfl | rfl | rfl | rfl | rfl | rfl | rfl | rfl | rfl | rfl | rfl | rfl | rfl | rfl | rfl | rfl | rfl | rfl <;> rfl) (Nat.le_of_ble_eq_true rfl) (Nat.le_of_ble_eq_true rfl) dL_law_0 (fun h0 H hP hD hS => ?_)
  have hP : va_P D vwCl [(h0, .inr (0, [.null, .null, .null, .null, .null, .null, .null, .null, .null, .null, .int 0, .int 0, .int 0, .long 0, .int 0, .int 0, .long 0, .long 0]))] H := hP
  have hD : va_D (fun q : Nat => s.heap.size ≤ q) [(h0, .inr (0, [.null, .null, .null, .null, .null, .null, .null, .null, .null, .null, .int 0, .int 0, .int 0, .long 0, .int 0, .int 0, .long 0, .long 0]))] := hD
  refine lv_dup hx hb dL_law_3 rfl ?_
  refine lv_aload_n hx hb dL_law_4 rfl (lv_at hl 0 rfl) ?_
  refine lv_iconst (v := 0) hx hb dL_law_5 (by decide) ?_
  refine zk_cell (rest := [.ref h0, .ref h0]) C1 hX hbl hbA hL hP hS hl.1 (Nat.le_of_ble_eq_true rfl) ⟨(Nat.le_of_ble_eq_true rfl), (Nat.le_of_ble_eq_true rfl)⟩ ⟨(Nat.le_of_ble_eq_true rfl), (Nat.le_of_ble_eq_true rfl)⟩ dL_law_6 (fun H locs hP hS => ?_)
  refine zk_xv (ret := none) (rest := [.ref h0]) (wr := []) C1 hP hD hS (c_X0_init l D g h0 (m_cell L xs)) kk_L_15 ks_X0_init rfl [0] [] rfl rfl ⟨by decide, by decide, by decide⟩ hl.1 rfl rfl (Nat.le_of_ble_eq_true rfl) ⟨(Nat.le_of_ble_eq_true rfl), (Nat.le_of_ble_eq_true rfl)⟩ rfl rfl ⟨(Nat.le_of_ble_eq_true rfl), (Nat.le_of_ble_eq_true rfl)⟩ dL_law_9 (fun q H locs hq0 hP hD hS => ?_)
  have hP : va_P D vwCl (wL g q (m_n (m_cell L xs)) (m_a0 (m_n (m_cell L xs))) m_b0 (fun _ _ => 0)) H := hP
  have hD : va_D (fun q : Nat => s.heap.size ≤ q) (wL g q (m_n (m_cell L xs)) (m_a0 (m_n (m_cell L xs))) m_b0 (fun _ _ => 0)) := hD
  rw [← hq0]
  refine lv_astore_n (lv' := [(1, .ref (q 0)), (0, .ref b)]) hx hb dL_law_12 rfl hl (by decide) rfl (fun ls hl => ?_)
  refine va_new (ci := 2) (fs := [.int 0, .null, .null, .null, .int 0, .int 0, .int 0, .long 0, .int 0, .null, .null, .null, .int 0, .null, .null, .long 0, .long 0, .null, .null, .null, .null, .null]) (C := RX2) (T := TX2) (N := 22) hx hb hts iw_X2 tyX2 tyok_X2 hown (hts _ kd_L_18) (hts _ kt_X2) (hts _ ki_X2) hK hP hD hS hA rfl (fun j hj => by rcases (show j = 0 ∨ j = 1 ∨ j = 2 ∨ j = 3 ∨ j = 4 ∨ j = 5 ∨ j = 6 ∨ j = 7 ∨ j = 8 ∨ j = 9 ∨ j = 10 ∨ j = 11 ∨ j = 12 ∨ j = 13 ∨ j = 14 ∨ j = 15 ∨ j = 16 ∨ j = 17 ∨ j = 18 ∨ j = 19 ∨ j = 20 ∨ j = 21 by omega) with rfl | rfl | rfl | rfl | rfl | rfl | rfl | rfl | rfl | rfl | rfl | rfl | rfl | rfl | rfl | rfl | rfl | rfl | rfl | rfl | rfl | rfl <;> rfl) (Nat.le_of_ble_eq_true rfl) (Nat.le_of_ble_eq_true rfl) dL_law_13 (fun h1 H hP hD hS => ?_)
  refine lv_dup hx hb dL_law_16 rfl ?_
  refine lv_aload_n hx hb dL_law_17 rfl (lv_at hl 1 rfl) ?_
  refine lv_iconst (v := 0) hx hb dL_law_18 (by decide) ?_
  refine zk_cell (rest := [.ref h1, .ref h1]) C1 hX hbl hbA hL hP hS hl.1 (Nat.le_of_ble_eq_true rfl) ⟨(Nat.le_of_ble_eq_true rfl), (Nat.le_of_ble_eq_true rfl)⟩ ⟨(Nat.le_of_ble_eq_true rfl), (Nat.le_of_ble_eq_true rfl)⟩ dL_law_19 (fun H locs hP hS => ?_)
  refine zk_xv (ret := none) (rest := [.ref h1]) (wr := wL g q (m_n (m_cell L xs)) (m_a0 (m_n (m_cell L xs))) m_b0 (fun _ _ => 0)) C1 hP hD hS (c_X2_init l D g h1 (m_cell L xs)) kk_L_20 ks_X2_init rfl [19] [0, 1, 2, 3, 4, 5, 6, 7, 8, 9, 10, 11, 12, 13, 14, 15, 16, 17, 18] rfl rfl ⟨by decide, by decide, by decide⟩ hl.1 rfl rfl (Nat.le_of_ble_eq_true rfl) ⟨(Nat.le_of_ble_eq_true rfl), (Nat.le_of_ble_eq_true rfl)⟩ rfl rfl ⟨(Nat.le_of_ble_eq_true rfl), (Nat.le_of_ble_eq_true rfl)⟩ dL_law_22 (fun q' H locs hq1 hP hD hS => ?_)
  rw [← hq1]
  refine lv_astore_n (lv' := [(2, .ref (q' 0)), (1, .ref (q 0)), (0, .ref b)]) hx hb dL_law_25 rfl hl (by decide) rfl (fun ls hl => ?_)
  refine lv_iconst (v := 1) hx hb dL_law_26 (by decide) ?_
  refine lv_istore_n (lv' := [(3, .int 1), (2, .ref (q' 0)), (1, .ref (q 0)), (0, .ref b)]) hx hb dL_law_27 rfl hl (by decide) rfl (fun ls hl => ?_)
  exact law_loop (n := m_n (m_cell L xs)) C1 hX hbl hL (L + 1) 1 (by omega) (by omega) _ _ _ _ _ H locs ls (z_start (m_n_b _)) hP hD hS (lv_sub hl [0, 1, 2, 3] rfl)
-- ===== YOUR PART ENDS =====
set_option maxHeartbeats 4000000 in
theorem lw_walk (l : Launch) (b : Addr) (xs : List Int32) : MetFree l x (headSpec (Jvm.Cond.code x code maxLocals ret :: tables_1) room_1) (lw_P b xs) (fun _ _ _ _ _ => True) lw_Q := by
  refine MetFree.of_bodyS (code := code) (maxLocals := maxLocals) (ret := ret) (by decide) ?_ ?_
  · intro args s m h hn
    obtain ⟨meth, c, h1, h2, h3, h4, h5, h6, -, -⟩ := Cond.code_spec hn (atoms_spec (ws := Jvm.Cond.code x code maxLocals ret :: tables_1) h _ List.mem_cons_self)
    exact ⟨meth, c, h1, h2, h3, h4, h5, h6⟩
  · intro p e s m args below meth c s₁ B hml0 hP _
    obtain ⟨rfl, hx, hbd, hgv⟩ := hP
    obtain ⟨scr, harrAt, hlist, hof, hsmall⟩ := hx
    obtain ⟨hcb, hkn, -, -⟩ := State.arrayAt?_spec harrAt
    have hown : s.vm.findClass R_law = some m.cls := findClass_of_methodNamed B.named
    have hts0 : ∀ c ∈ (Jvm.Cond.code x code maxLocals ret :: tables_1), c.before #[Value.ref b] s = true := atoms_spec (ws := Jvm.Cond.code x code maxLocals ret :: tables_1) B.pre
    have hts : ∀ w ∈ lw_tbl, w.before #[Value.ref b] s = true := k2_hts_sels lw_privs (fun w hw => hts0 w (List.mem_cons_of_mem _ hw)) lw_privs_ok
    have hml : c.maxLocals = 4 := B.maxLocals_eq (hts0 _ List.mem_cons_self)
    have X₀ : Stand p l e room_1 s m #[Value.ref b] below meth c s₁ [] 0 0 := Stand.of_body B
    have hh0 : s₁.heap = s.heap := by rw [B.state]; rfl
    have hsz : scr.slots.size = xs.length := by rw [← Array.length_toList, hlist, List.length_map]
    have hval : ∀ j : Nat, j < xs.length → scr.slots[j]? = some (.int (xs.getD j 0)) := fun j hj => by
      rw [← Array.getElem?_toList, hlist]
      simp [hj]
    have hbl : b < s.heap.size := (Array.getElem?_eq_some_iff.mp hcb).1
    have hX : va_X b xs.length (fun j => xs.getD j 0) s s.heap := ⟨scr, hcb, hof, hkn, hsz, hval⟩
    have K : W p l e room_1 s m #[Value.ref b] below meth c s₁.heap [] 0 0 (lw_Z below #[Value.ref b] s) (entryFrame m ([Value.ref b] : List Value).toArray 4) := by
      rw [hh0]
      exact whole_start l hbd ⟨B.exec, B.bytes, B.returns, hml, hown, hts, hX, hbl, B.notSynchronized, hgv⟩
    obtain ⟨t, a1, o, b1, b2, b3⟩ := K s₁ rfl X₀
    exact ⟨t, o, a1, b1, b2, b3⟩
theorem lw_pre_spec {args : Array Value} {s : State} (h : (Jvm.Cond.and given_1 narrow_1).before args s = true) (hr : rest_1_c.before args s = true) : ∃ (b : Addr) (xs : List Int32), lw_P b xs args s := by
  have hs := flat_of_before _ h
  have hq := flat_of_before _ hr
  have hc : (Cond.count 1).before args s = true := hs _ (by decide +kernel)
  have harr : (Cond.arrayOf (.arg 0) .int).before args s = true := hs _ (by decide +kernel)
  have hle : (Cond.le (.length (.arg 0)) (.int 2561)).before args s = true := hs _ (by decide +kernel)
  have hlen : (Cond.isInt (.length (.arg 0))).before args s = true := hq _ (by decide +kernel)
  have hall : (Cond.all (.arg 0) (.isInt (.elem (.arg 0) (.index 0)))).before args s = true := hq _ (by decide +kernel)
  obtain ⟨b, xs, hb, hx⟩ := State.ints_of_pre rfl harr hlen hall
  have hsm : xs.length < 2 ^ 31 := hx.choose_spec.2.2.2
  have hev : (Term.length (.arg 0)).eval args s none [] s = some (.int xs.length.toInt32) := hx.length_eval hb
  have hv := Cond.le_ints hev (show (Term.int 2561).eval args s none [] s = some (.int 2561) from rfl)
  have hd : xs.length.toInt32 ≤ 2561 := by
    simpa [Cond.before, Cond.holds, hv] using hle
  have hN : xs.length ≤ 2561 := (Int32.ofNat_le_ofNat hsm (by decide)).mp (show Int32.ofNat xs.length ≤ Int32.ofNat 2561 from hd)
  exact ⟨b, xs, Cond.one_arg hc (show args[0]? = some (.ref b) from hb), hx, hN, h⟩
theorem lw_comes (l : Launch) : Comes l x (Jvm.Cond.code x code maxLocals ret :: tables_1) room_1 (fun tb e args s => Calls_1 tb e args s ∧ rest_1 tb e args s ∧ Pre_1 tb e args s)
    (fun _ _ args s o t => lw_Q args s o t) := by
  intro p e ha hc hk s m args below hf hfit hheap happ hpre
  obtain ⟨b, xs, hP⟩ := lw_pre_spec hpre.2.2 hpre.2.1
  obtain ⟨k, o, h1, h2, h3, hQ⟩ := lw_walk l b xs p e ha hc hk s m args below hf ((Spec.applies_iff_loose hf).mp happ).1 hP trivial
  exact ⟨k, o, h1, h2, h3, hQ⟩
theorem lw_frame {s t : State} {o : Outcome} {args : Array Value} (h : Framed s o t [] 600000 7302249) :
    Framed s o t (fieldLocs frame_1_writes args s ++ arrayLocs frame_1_arrays args s ++ staticLocs frame_1_statics s) 600000 7302249 := h
theorem lw_limb (L : Cond) (hL : ∀ (args : Array Value) (s t : State), L.after args s (.returned (some (.int 1))) t = true) :
    ArmFor flags0 classFile x code maxLocals ret World_1 tables_1 room_1 Calls_1 rest_1 Pre_1
      (fun tb e a s o t => postC L tb e a s o t ∧ Framed s o t (fieldLocs frame_1_writes a s ++ arrayLocs frame_1_arrays a s ++ staticLocs frame_1_statics s) 600000 7302249) := by
  intro l _ _ _ p e ha hc hk s m args below hf hfit hheap happ hpre
  obtain ⟨k, o, h1, h2, h3, rfl, hF⟩ := lw_comes l p e ha hc hk s m args below hf hfit hheap happ hpre
  exact ⟨k, _, h1, h2, h3, hL args s _, lw_frame hF⟩
theorem i_vc : Claimed_1_1 ∧ Claimed_1_2 := ⟨lw_limb limb_1_1 (fun args s t => by simp [limb_1_1, Cond.after, Cond.holds, Cond.value]), lw_limb limb_1_2 (fun args s t => Cond.after_iff.mpr (by
  first | (rw [show limb_1_2 = Cond.eq .result (.int 1) from rfl, Cond.eq_ints (x := 1) (y := 1) rfl rfl]; simp; done) | (simp [limb_1_2, Cond.value, Term.eval]; done)))⟩
