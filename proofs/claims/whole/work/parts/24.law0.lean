/-! THE CLAIM OUT OF ONE WALK OF THE LAW'S BODY. Your part is whole_start (and what it stands on); all else here is the same for every law, but numbers. -/
def R_law : String := "LeachRowsLaw"
def lw_P (b : Addr) (xs : List Int32) (args : Array Value) (s : State) : Prop := args = #[.ref b] ∧ s.IntsAt b xs ∧ xs.length ≤ 2561 ∧ (Jvm.Cond.and given_1 narrow_1).before args s = true
def lw_Q (_ : Array Value) (s : State) (o : Outcome) (t : State) : Prop := o = .returned (some (.int 1)) ∧ Framed s o t [] 600000 7302249
def lw_Z (below : List Frame) (a : Array Value) (s : State) : State → Prop := fun t => ∃ o, t.status = .running ∧ Ended t below o ∧ lw_Q a s o t
/-- the law's own end, with 1 on the stack, nothing written that was there before, its room as the claim has it -/
theorem lw_ret {p : Program} {l : Launch} {e : Env} {s : State} {m : MethodId} {below : List Frame} {meth : Method} {c : Code} {b : Nat} (hx : p.tables.exec = Jvm.exec) (hb : c.code = code) (hr : meth.sig.returnType = ret) (hlocks : meth.locks = false) {pc : Nat} {H : Heap} {ls : Array Slot} (hdg : decode code pc = .ok (.ireturn, 1)) : W p l e room_1 s m #[Value.ref b] below meth c H [] 600000 7302249 (lw_Z below #[Value.ref b] s) (F0 m pc ls [.int 1]) := by
  intro T hT X
  obtain ⟨fs, hret, hrun, hended, hW, hframe⟩ := X.leave (v := some (.int 1)) (hlocks := hlocks) (fun h => by rw [hr] at h; cases h)
  have hmeth' : T.vm.method? m = some meth := X.method'
  refine ⟨T.setFrames fs, ?_, .returned (some (.int 1)), hrun, hended, rfl, ⟨_, rfl⟩, hW, hframe⟩
  jvm_step X.here [X.here.top, hx, hb, hdg, hmeth', hr, ret, narrow_b1]
  (try refine ⟨rfl, ?_⟩); (try refine ⟨rfl, ?_⟩)
  first | (intro acts; rw [hret _ acts rfl rfl rfl]) | rw [hret _ _ rfl rfl rfl]
  exact Steps.refl _
/-- what holds at the law's entry: the machine, the code, the tables' words (any of lw_tbl by 'hts w (by decide +kernel)'), the script of L ints xs at the cell b, what the Statement gives of the start (any of its parts by flat_of_before) -/
def lw_At (p : Program) (s : State) (m : MethodId) (meth : Method) (c : Code) (b L : Nat) (xs : Nat → Int32) : Prop :=
  p.tables.exec = Jvm.exec ∧ c.code = code ∧ meth.sig.returnType = ret ∧ c.maxLocals = 4 ∧ s.vm.findClass R_law = some m.cls ∧ (∀ w ∈ lw_tbl, w.before #[Value.ref b] s = true) ∧ va_X b L xs s s.heap ∧ b < s.heap.size ∧ meth.locks = false ∧ (Jvm.Cond.and given_1 narrow_1).before #[Value.ref b] s = true
theorem kk_L_15 : zk_ok RL 15 yX0_init cX0_init 4 none 1 := by unfold zk_ok; exact ⟨kc_X0_init, ki_X0, lw_in (by decide +kernel), by decide +kernel⟩
theorem kk_L_20 : zk_ok RL 20 yX2_init cX2_init 3 none 1 := by unfold zk_ok; exact ⟨kc_X2_init, ki_X2, lw_in (by decide +kernel), by decide +kernel⟩
section LAW0
variable {p : Program} {l : Launch} {e : Env} {R : Room} {s : State} {m : MethodId} {args : Array Value} {below : List Frame} {meth : Method} {c : Code} {H : Heap} {locs : List Loc} {cells slots : Nat} {Q : State → Prop}
/-- an int of the script -/
theorem zs_ld {A : Nat → Prop} {sb L k pc : Nat} {xs : Nat → Int32} {i : Int32} {cc : ByteArray} {ls : Array Slot} {rest : List Value} (hx : p.tables.exec = Jvm.exec) (hb : c.code = cc) (hX : va_X sb L xs s s.heap) (hbl : sb < s.heap.size) (hbA : ¬ A sb) (hS : va_S A s.heap H locs) (hi : i = nI k) (hk : k < L) (hL : L < 2 ^ 31) (hdg : decode cc pc = .ok (.iaload, 1))
    (kk : W p l e R s m args below meth c H locs cells slots Q (F0 m (pc + 1) ls (.int (xs k) :: rest))) : W p l e R s m args below meth c H locs cells slots Q (F0 m pc ls (.int i :: .ref sb :: rest)) := by
  subst hi
  refine va_sld hx hb hX hbl hbA hS (vp_in_nI hk hL) hdg ?_
  rw [nI_clamp (Nat.lt_trans hk hL)]
  exact kk
end LAW0
def m_cell (L : Nat) (xs : Nat → Int32) : Int32 := if 0 < L then xs 0 else 0
def rm_cell : Room := { frames := 0, cells := 0, slots := 0, locals := 0 }
set_option maxHeartbeats 4000000 in
set_option maxRecDepth 100000 in
theorem c_cell (l : Launch) (sb L : Nat) (xs : Nat → Int32) (hL : L ≤ 2561) : Met l yL_cell (.code yL_cell cL_cell 2 (some .int) :: lw_gd) rm_cell (va_Pc [.ref sb, .int 0] (fun U => va_X sb L xs U U.heap)) (va_Qi (fun (r : Int32) (_ : Unit) => r = m_cell L xs) (fun _ _ => True) (fun _ => False)) 0 0 (fun _ => False) := by
  refine Met.ofW (cc := cL_cell) (maxL := 2) (ret := (some .int)) (by decide) rfl ?_
  intro p e s m args below meth c s₁ B hml hv
  obtain ⟨rfl, hX⟩ := hv
  have hx := B.exec
  have hb := B.bytes
  have hr := B.returns
  have hlocks := B.notSynchronized
  have hbl : sb < s.heap.size := by
    obtain ⟨scr, h, -⟩ := id hX
    exact (Array.getElem?_eq_some_iff.mp h).1
  have hS : va_S (fun _ => False) s.heap s.heap [] := va_S.rf
  have hbA : ¬ (fun _ : Nat => False) sb := id
  have hl := lv_entry ([.ref sb, .int 0]) (n := 2) (Nat.le_of_ble_eq_true rfl)
  rw [lg_entry_eq]
  generalize (lg_sl ([.ref sb, .int 0]) ++ List.replicate (2 - (lg_sl ([.ref sb, .int 0])).length) Slot.unset).toArray = ls at hl ⊢
  have hl : lv_has ls 2 [(0, .ref sb), (1, .int 0)] := hl
  refine lv_iload_n hx hb dL_cell_0 rfl (lv_at hl 1 rfl) ?_
  refine lv_aload_n hx hb dL_cell_1 rfl (lv_at hl 0 rfl) ?_
  refine va_slen hx hb hX hbl hbA hS dL_cell_2 ?_
  refine lv_icmp_ge (tgt := 12) hx hb dL_cell_3 (by decide) (fun c3 => ?_) (fun c3 => ?_)
  · have h0 : L = 0 := by
      rcases Nat.eq_zero_or_pos L with h | h
      · exact h
      · exact absurd c3 (nI_nle h (by omega))
    refine lv_iconst (v := 0) hx hb dL_cell_12 (by decide) ?_
    exact W.iret (v := 0) hx hb hr (fun t ht hW => ⟨⟨0, (), rfl, by rw [h0]; rfl, trivial⟩, hS.F ht⟩) hS.2.2 dL_cell_13
  · have h0 : 0 < L := by
      rcases Nat.eq_zero_or_pos L with h | h
      · exact absurd (show nI L ≤ 0 from by rw [h]; decide) c3
      · exact h
    refine lv_aload_n hx hb dL_cell_6 rfl (lv_at hl 0 rfl) ?_
    refine lv_iload_n hx hb dL_cell_7 rfl (lv_at hl 1 rfl) ?_
    refine zs_ld (k := 0) hx hb hX hbl hbA hS rfl h0 (by omega) dL_cell_8 ?_
    refine lv_goto (tgt := 13) hx hb dL_cell_9 (by decide) ?_
    exact W.iret (v := xs 0) hx hb hr (fun t ht hW => ⟨⟨xs 0, (), rfl, (if_pos h0).symm, trivial⟩, hS.F ht⟩) hS.2.2 dL_cell_13
section LAW1
variable {p : Program} {l : Launch} {e : Env} {R : Room} {s : State} {m : MethodId} {args : Array Value} {below : List Frame} {meth : Method} {c : Code} {H : Heap} {locs : List Loc} {cells slots : Nat} {Q : State → Prop}
theorem zk_cell {D : va_G} {tys : List (ClassId × FieldType)} {A : Nat → Prop} {cc0 : ByteArray} {ret0 : Option FieldType} {nL pc sb L : Nat} {xs : Nat → Int32} {ws : va_W} {ls : Array Slot} {rest : List Value} (C0 : zX D tys p s m args meth c cc0 ret0 nL RL A) (hX : va_X sb L xs s s.heap) (hbl : sb < s.heap.size) (hbA : ¬ A sb) (hL : L ≤ 2561) (hP : va_P D vwCl ws H) (hS : va_S A s.heap H locs) (hsz : ls.size = nL) (hroom : (rest.map fun v => v.category).sum ≤ 8) (hR : rm_cell.frames + 1 ≤ R.frames ∧ 8 + (2 + 11) + rm_cell.locals ≤ R.locals) (hf : cells ≤ R.cells ∧ slots ≤ R.slots) (hdg : decode cc0 pc = .ok (.invokestatic 9, 3))
    (kk : ∀ (H1 : Heap) (locs1 : List Loc), va_P D vwCl ws H1 → va_S A s.heap H1 locs1 → W p l e R s m args below meth c H1 locs1 cells slots Q (F0 m (pc + 3) ls (.int (m_cell L xs) :: rest))) : W p l e R s m args below meth c H locs cells slots Q (F0 m pc ls (.int 0 :: .ref sb :: rest)) := by
  obtain ⟨hx, hb, hr, hml, hlocks, hown, hts, hK, hA, hN⟩ := C0
  have hroom : 2 * (F0 m pc ls (.int 0 :: .ref sb :: rest)).monitorRoom + (rest.map fun v => v.category).sum ≤ 8 := lv_room hroom
  have hXH : va_X sb L xs s H := hX.kept (hS.2.1 sb hbl hbA)
  refine va_calli (va_runS (As := [.ref sb, .int 0]) (rest := rest) ⟨hx, hb, hml, hown, hts⟩ (c_cell l sb L xs hL) ⟨zk_B kk_L_9.1 hts rfl rfl hR, hts _ kk_L_9.2⟩ ⟨fun a U g mk h => ⟨h.1, va_X.moved (Vm.Alike.refl U.vm) h.2⟩, fun U hU hW => ⟨rfl, by show va_X sb L xs U U.heap; rw [hU]; exact va_X.moved hW.alike hXH⟩⟩ rfl rfl hsz rfl hroom hdg hf) hS (fun q _ h => h.elim) (fun q h => h.elim) (fun r u t H1 locs1 ht hvm hw hB hz1 hk1 hS1 => ?_)
  obtain rfl : r = m_cell L xs := hw
  exact kk H1 locs1 (hP.kept (fun k x hx9 => hk1 x.1 (hP k x hx9).lt (fun h => h))) hS1
end LAW1
theorem z_arrT {s : State} {args : Array Value} {ty : FieldType} (hty : ty = .int ∨ ty = .long) (h : (Cond.arrayClass ty).before args s = true) : ∃ cA : ClassId, ArrOfT s cA ty ∧ va_RA s cA ty := by
  obtain ⟨cA, kA, comp, h1, h2, h3⟩ := Cond.arrayClass_spec h
  refine ⟨cA, fun n z => ⟨fun k h => (by cases h), kA, h2, comp, h3⟩, ?_⟩
  rcases hty with rfl | rfl <;> exact h1
theorem z_arrO {s : State} {args : Array Value} {C : String} (h : (Cond.arrayOver (.object C)).before args s = true) : ∃ cA : ClassId, ArrOfT s cA (.object C) ∧ va_RA s cA (.object C) := by
  obtain ⟨comp, c, k, g1, -, g2, g3, g4⟩ := Cond.arrayOver_spec h
  exact ⟨c, fun n z => ⟨fun k h => (by cases h), k, g2, comp, g3⟩, k, comp, g2, g3, g1, g4⟩
