/-! contracts in one form: the world before, the world behind, the answer -/
theorem zz_fm {α β : Type} (f : α → Option β) : ∀ (is : List α) (w : List β), is.map f = w.map some → is.filterMap f = w
  | [], [], _ => rfl
  | [], _ :: _, h => by cases h
  | _ :: _, [], h => by cases h
  | a :: is, b :: w, h => by
    have h1 : f a = some b := (List.cons.inj h).1
    have h2 : is.map f = w.map some := (List.cons.inj h).2
    rw [List.filterMap_cons, h1, zz_fm f is w h2]
theorem zz_rg {α : Type} (w : List α) : (List.range w.length).map (fun i => w[i]?) = w.map some := by
  apply List.ext_getElem?
  intro i
  by_cases h : i < w.length
  · simp [h]
  · simp [h]
theorem zz_nd_range : ∀ n, va_nd (List.range n) = true := by
  have key : ∀ (l : List Nat), l.Nodup → va_nd l = true := by
    intro l
    induction l with
    | nil => intro _; rfl
    | cons a l ih =>
      intro h
      have h2 := List.nodup_cons.mp h
      simp [va_nd, h2.1, ih h2.2]
  exact fun n => key _ List.nodup_range
def zc_P (D : va_G) (tys : List (ClassId × FieldType)) (av : List Value) (w0 : va_W) (sz : Nat) : Array Value → State → Prop :=
  va_Pc av (fun U => U.heap.size = sz ∧ va_P D vwCl w0 U.heap ∧ va_K D vwCl tys U ∧ va_D (fun _ => True) w0 ∧ zN U)
def zc_B {S : Type} (D : va_G) (A : Nat → Prop) (w1 : S → va_W) : S → State → Prop := fun u t => va_P D vwCl (w1 u) t.heap ∧ va_D A (w1 u)
theorem zc_blind (D : va_G) (tys : List (ClassId × FieldType)) (av : List Value) (w0 : va_W) (sz : Nat) : FrameBlind (zc_P D tys av w0 sz) := by
  intro a U g mk q
  obtain ⟨q0, q1, qP, qK, qD, qN⟩ := q
  exact ⟨q0, q1, qP, va_K.moved (u := U) (U := U.calling g mk a) (Vm.Alike.refl U.vm) qK, qD, zN_same (u := U) (U := U.calling g mk a) rfl qN⟩
/-- what stays the same in a method -/
def zX (D : va_G) (tys : List (ClassId × FieldType)) (p : Program) (s : State) (m : MethodId) (args : Array Value) (meth : Method) (c : Code) (cc : ByteArray) (ret : Option FieldType) (nL : Nat) (own : String) (A : Nat → Prop) : Prop :=
  p.tables.exec = Jvm.exec ∧ c.code = cc ∧ meth.sig.returnType = ret ∧ c.maxLocals = nL ∧ meth.locks = false ∧ s.vm.findClass own = some m.cls ∧ (∀ w ∈ lw_gd, w.before args s = true) ∧ va_K D vwCl tys s ∧ (∀ q : Nat, s.heap.size ≤ q → A q) ∧ zN s
section ZRET
variable {p : Program} {l : Launch} {e : Env} {R : Room} {s : State} {m : MethodId} {args : Array Value} {below : List Frame} {meth : Method} {c : Code} {H : Heap} {locs : List Loc} {cells slots : Nat} {Q : State → Prop}
theorem zi_ret {S : Type} {D : va_G} {A : Nat → Prop} {post : Int32 → S → Prop} {w1 : S → va_W} {mc ms : Nat} {cc : ByteArray} {ty : FieldType} {v : Int32} {pc : Nat} {ls : Array Slot} (hx : p.tables.exec = Jvm.exec) (hb : c.code = cc) (hr : meth.sig.returnType = some ty) (hlocks : meth.locks = false) (hn : narrow ty (.int v) = .int v) (u : S) (hpost : post v u) (hP : va_P D vwCl (w1 u) H) (hD : va_D A (w1 u)) (hS : va_S A s.heap H locs) (hc : cells ≤ mc) (hs : slots ≤ ms) (hdg : decode cc pc = .ok (.ireturn, 1)) :
    W p l e R s m args below meth c H locs cells slots (MQ below (va_Qi post (zc_B D A w1) A) args s mc ms A) (F0 m pc ls [.int v]) :=
  W.widen hc hs (W.zret hx hb hr hn (fun t ht hW => ⟨⟨v, u, rfl, hpost, by rw [ht]; exact hP, hD⟩, hS.F ht⟩) hS.2.2 hdg hlocks)
theorem zl_ret {S : Type} {D : va_G} {A : Nat → Prop} {post : Int64 → S → Prop} {w1 : S → va_W} {mc ms : Nat} {cc : ByteArray} {v : Int64} {pc : Nat} {ls : Array Slot} (hx : p.tables.exec = Jvm.exec) (hb : c.code = cc) (hr : meth.sig.returnType = some .long) (hlocks : meth.locks = false) (u : S) (hpost : post v u) (hP : va_P D vwCl (w1 u) H) (hD : va_D A (w1 u)) (hS : va_S A s.heap H locs) (hc : cells ≤ mc) (hs : slots ≤ ms) (hdg : decode cc pc = .ok (.lreturn, 1)) :
    W p l e R s m args below meth c H locs cells slots (MQ below (va_Ql post (zc_B D A w1) A) args s mc ms A) (F0 m pc ls [.long v]) :=
  W.widen hc hs (W.lret hx hb hr (fun t ht hW => ⟨⟨v, u, rfl, hpost, by rw [ht]; exact hP, hD⟩, hS.F ht⟩) hS.2.2 hdg hlocks)
theorem zv_ret {S : Type} {D : va_G} {A : Nat → Prop} {post : S → Prop} {w1 : S → va_W} {mc ms : Nat} {cc : ByteArray} {pc : Nat} {ls : Array Slot} (hx : p.tables.exec = Jvm.exec) (hb : c.code = cc) (hr : meth.sig.returnType = none) (hlocks : meth.locks = false) (u : S) (hpost : post u) (hP : va_P D vwCl (w1 u) H) (hD : va_D A (w1 u)) (hS : va_S A s.heap H locs) (hc : cells ≤ mc) (hs : slots ≤ ms) (hdg : decode cc pc = .ok (.return_, 1)) :
    W p l e R s m args below meth c H locs cells slots (MQ below (va_Qv post (zc_B D A w1) A) args s mc ms A) (F0 m pc ls []) :=
  W.widen hc hs (W.vret hx hb hr (fun t ht hW => ⟨⟨u, rfl, hpost, by rw [ht]; exact hP, hD⟩, hS.F ht⟩) hS.2.2 hdg hlocks)
end ZRET
def zc_i {S : Type} (l : Launch) (D : va_G) (tys : List (ClassId × FieldType)) (y : MethodName) (cc : ByteArray) (maxL : Nat) (ret : Option FieldType) (rm : Room) (av : List Value) (w0 : va_W) (post : Int32 → S → Prop) (w1 : S → va_W) (mc ms : Nat) : Prop :=
  ∀ sz : Nat, Met l y (.code y cc maxL ret :: lw_gd) rm (zc_P D tys av w0 sz) (va_Qi post (zc_B D (va_A w0 sz) w1) (va_A w0 sz)) mc ms (va_A w0 sz)
/-- the end of a method -/
def zi_R {S : Type} (p : Program) (l : Launch) (e : Env) (R : Room) (s : State) (m : MethodId) (args : Array Value) (below : List Frame) (meth : Method) (c : Code) (Q : State → Prop) (D : va_G) (cc : ByteArray) (ret : Option FieldType) (A : Nat → Prop) (post : Int32 → S → Prop) (w1 : S → va_W) (mc ms : Nat) : Prop :=
  ∀ (v : Int32) (u : S) (H : Heap) (locs : List Loc) (cells slots pc : Nat) (ls : Array Slot), narrow (ret.getD .int) (.int v) = .int v → post v u → va_P D vwCl (w1 u) H → va_D A (w1 u) → va_S A s.heap H locs → cells ≤ mc → slots ≤ ms → decode cc pc = .ok (.ireturn, 1) → W p l e R s m args below meth c H locs cells slots Q (F0 m pc ls [.int v])
theorem zi_of {S : Type} {l : Launch} {D : va_G} {tys : List (ClassId × FieldType)} {y : MethodName} {cc : ByteArray} {maxL : Nat} {ret : Option FieldType} {rm : Room} {av : List Value} {w0 : va_W} {post : Int32 → S → Prop} {w1 : S → va_W} {mc ms : Nat} (hy : plainName y.cls = true) (hle : (lg_sl av).length ≤ maxL) (hret : ret = some (ret.getD .int))
    (body : ∀ (p : Program) (e : Env) (s : State) (m : MethodId) (args : Array Value) (below : List Frame) (meth : Method) (c : Code) (A : Nat → Prop) (Q : State → Prop) (ls : Array Slot), zX D tys p s m args meth c cc ret maxL y.cls A → meth.name = y.name → va_P D vwCl w0 s.heap → va_D A w0 → va_S A s.heap s.heap [] → lv_has ls maxL (lv_args 0 av) → zi_R p l e rm s m args below meth c Q D cc ret A post w1 mc ms →
      W p l e rm s m args below meth c s.heap [] 0 0 Q (F0 m 0 ls [])) : zc_i l D tys y cc maxL ret rm av w0 post w1 mc ms := by
  intro sz
  refine Met.ofW (cc := cc) (maxL := maxL) (ret := ret) hy rfl ?_
  intro p e s m args below meth c s₁ B hml hv
  obtain ⟨rfl, hsz, hP, hK, hD0, hN⟩ := hv
  have hts := atoms_spec (ws := Cond.code y cc maxL ret :: lw_gd) B.pre
  have hown : s.vm.findClass y.cls = some m.cls := findClass_of_methodNamed B.named
  have hlocks := B.notSynchronized
  have hr := B.returns
  rw [hret] at hr
  subst hsz
  have hD := hD0.self (sz := s.heap.size)
  generalize hAe : va_A w0 s.heap.size = A at hD ⊢
  have hA : ∀ q : Nat, s.heap.size ≤ q → A q := fun q h => by rw [← hAe]; exact Or.inr h
  have hl := lv_entry av (n := maxL) hle
  rw [lg_entry_eq]
  generalize (lg_sl av ++ List.replicate (maxL - (lg_sl av).length) Slot.unset).toArray = ls at hl ⊢
  refine body p e s m av.toArray below meth c A _ ls ⟨B.exec, B.bytes, B.returns, hml, B.notSynchronized, hown, fun w h => hts w (List.mem_cons_of_mem _ h), hK, hA, hN⟩ (name_of_methodNamed B.named B.method).1 hP hD va_S.rf hl ?_
  intro v u H locs cells slots pc ls2 hn hpost hP hD hS hc hs hdg
  exact zi_ret B.exec B.bytes hr hlocks hn u hpost hP hD hS hc hs hdg
def zc_l {S : Type} (l : Launch) (D : va_G) (tys : List (ClassId × FieldType)) (y : MethodName) (cc : ByteArray) (maxL : Nat) (ret : Option FieldType) (rm : Room) (av : List Value) (w0 : va_W) (post : Int64 → S → Prop) (w1 : S → va_W) (mc ms : Nat) : Prop :=
  ∀ sz : Nat, Met l y (.code y cc maxL ret :: lw_gd) rm (zc_P D tys av w0 sz) (va_Ql post (zc_B D (va_A w0 sz) w1) (va_A w0 sz)) mc ms (va_A w0 sz)
/-- the end of a method -/
def zl_R {S : Type} (p : Program) (l : Launch) (e : Env) (R : Room) (s : State) (m : MethodId) (args : Array Value) (below : List Frame) (meth : Method) (c : Code) (Q : State → Prop) (D : va_G) (cc : ByteArray) (ret : Option FieldType) (A : Nat → Prop) (post : Int64 → S → Prop) (w1 : S → va_W) (mc ms : Nat) : Prop :=
  ∀ (v : Int64) (u : S) (H : Heap) (locs : List Loc) (cells slots pc : Nat) (ls : Array Slot), post v u → va_P D vwCl (w1 u) H → va_D A (w1 u) → va_S A s.heap H locs → cells ≤ mc → slots ≤ ms → decode cc pc = .ok (.lreturn, 1) → W p l e R s m args below meth c H locs cells slots Q (F0 m pc ls [.long v])
theorem zl_of {S : Type} {l : Launch} {D : va_G} {tys : List (ClassId × FieldType)} {y : MethodName} {cc : ByteArray} {maxL : Nat} {ret : Option FieldType} {rm : Room} {av : List Value} {w0 : va_W} {post : Int64 → S → Prop} {w1 : S → va_W} {mc ms : Nat} (hy : plainName y.cls = true) (hle : (lg_sl av).length ≤ maxL) (hret : ret = some .long)
    (body : ∀ (p : Program) (e : Env) (s : State) (m : MethodId) (args : Array Value) (below : List Frame) (meth : Method) (c : Code) (A : Nat → Prop) (Q : State → Prop) (ls : Array Slot), zX D tys p s m args meth c cc ret maxL y.cls A → meth.name = y.name → va_P D vwCl w0 s.heap → va_D A w0 → va_S A s.heap s.heap [] → lv_has ls maxL (lv_args 0 av) → zl_R p l e rm s m args below meth c Q D cc ret A post w1 mc ms →
      W p l e rm s m args below meth c s.heap [] 0 0 Q (F0 m 0 ls [])) : zc_l l D tys y cc maxL ret rm av w0 post w1 mc ms := by
  intro sz
  refine Met.ofW (cc := cc) (maxL := maxL) (ret := ret) hy rfl ?_
  intro p e s m args below meth c s₁ B hml hv
  obtain ⟨rfl, hsz, hP, hK, hD0, hN⟩ := hv
  have hts := atoms_spec (ws := Cond.code y cc maxL ret :: lw_gd) B.pre
  have hown : s.vm.findClass y.cls = some m.cls := findClass_of_methodNamed B.named
  have hlocks := B.notSynchronized
  have hr := B.returns
  rw [hret] at hr
  subst hsz
  have hD := hD0.self (sz := s.heap.size)
  generalize hAe : va_A w0 s.heap.size = A at hD ⊢
  have hA : ∀ q : Nat, s.heap.size ≤ q → A q := fun q h => by rw [← hAe]; exact Or.inr h
  have hl := lv_entry av (n := maxL) hle
  rw [lg_entry_eq]
  generalize (lg_sl av ++ List.replicate (maxL - (lg_sl av).length) Slot.unset).toArray = ls at hl ⊢
  refine body p e s m av.toArray below meth c A _ ls ⟨B.exec, B.bytes, B.returns, hml, B.notSynchronized, hown, fun w h => hts w (List.mem_cons_of_mem _ h), hK, hA, hN⟩ (name_of_methodNamed B.named B.method).1 hP hD va_S.rf hl ?_
  intro v u H locs cells slots pc ls2 hpost hP hD hS hc hs hdg
  exact zl_ret B.exec B.bytes hr hlocks u hpost hP hD hS hc hs hdg
def zc_v {S : Type} (l : Launch) (D : va_G) (tys : List (ClassId × FieldType)) (y : MethodName) (cc : ByteArray) (maxL : Nat) (ret : Option FieldType) (rm : Room) (av : List Value) (w0 : va_W) (post : S → Prop) (w1 : S → va_W) (mc ms : Nat) : Prop :=
  ∀ sz : Nat, Met l y (.code y cc maxL ret :: lw_gd) rm (zc_P D tys av w0 sz) (va_Qv post (zc_B D (va_A w0 sz) w1) (va_A w0 sz)) mc ms (va_A w0 sz)
/-- the end of a method -/
def zv_R {S : Type} (p : Program) (l : Launch) (e : Env) (R : Room) (s : State) (m : MethodId) (args : Array Value) (below : List Frame) (meth : Method) (c : Code) (Q : State → Prop) (D : va_G) (cc : ByteArray) (ret : Option FieldType) (A : Nat → Prop) (post : S → Prop) (w1 : S → va_W) (mc ms : Nat) : Prop :=
  ∀ (u : S) (H : Heap) (locs : List Loc) (cells slots pc : Nat) (ls : Array Slot), post u → va_P D vwCl (w1 u) H → va_D A (w1 u) → va_S A s.heap H locs → cells ≤ mc → slots ≤ ms → decode cc pc = .ok (.return_, 1) → W p l e R s m args below meth c H locs cells slots Q (F0 m pc ls [])
theorem zv_of {S : Type} {l : Launch} {D : va_G} {tys : List (ClassId × FieldType)} {y : MethodName} {cc : ByteArray} {maxL : Nat} {ret : Option FieldType} {rm : Room} {av : List Value} {w0 : va_W} {post : S → Prop} {w1 : S → va_W} {mc ms : Nat} (hy : plainName y.cls = true) (hle : (lg_sl av).length ≤ maxL) (hret : ret = none)
    (body : ∀ (p : Program) (e : Env) (s : State) (m : MethodId) (args : Array Value) (below : List Frame) (meth : Method) (c : Code) (A : Nat → Prop) (Q : State → Prop) (ls : Array Slot), zX D tys p s m args meth c cc ret maxL y.cls A → meth.name = y.name → va_P D vwCl w0 s.heap → va_D A w0 → va_S A s.heap s.heap [] → lv_has ls maxL (lv_args 0 av) → zv_R p l e rm s m args below meth c Q D cc ret A post w1 mc ms →
      W p l e rm s m args below meth c s.heap [] 0 0 Q (F0 m 0 ls [])) : zc_v l D tys y cc maxL ret rm av w0 post w1 mc ms := by
  intro sz
  refine Met.ofW (cc := cc) (maxL := maxL) (ret := ret) hy rfl ?_
  intro p e s m args below meth c s₁ B hml hv
  obtain ⟨rfl, hsz, hP, hK, hD0, hN⟩ := hv
  have hts := atoms_spec (ws := Cond.code y cc maxL ret :: lw_gd) B.pre
  have hown : s.vm.findClass y.cls = some m.cls := findClass_of_methodNamed B.named
  have hlocks := B.notSynchronized
  have hr := B.returns
  rw [hret] at hr
  subst hsz
  have hD := hD0.self (sz := s.heap.size)
  generalize hAe : va_A w0 s.heap.size = A at hD ⊢
  have hA : ∀ q : Nat, s.heap.size ≤ q → A q := fun q h => by rw [← hAe]; exact Or.inr h
  have hl := lv_entry av (n := maxL) hle
  rw [lg_entry_eq]
  generalize (lg_sl av ++ List.replicate (maxL - (lg_sl av).length) Slot.unset).toArray = ls at hl ⊢
  refine body p e s m av.toArray below meth c A _ ls ⟨B.exec, B.bytes, B.returns, hml, B.notSynchronized, hown, fun w h => hts w (List.mem_cons_of_mem _ h), hK, hA, hN⟩ (name_of_methodNamed B.named B.method).1 hP hD va_S.rf hl ?_
  intro u H locs cells slots pc ls2 hpost hP hD hS hc hs hdg
  exact zv_ret B.exec B.bytes hr hlocks u hpost hP hD hS hc hs hdg
/-- the words of a call of y by own's pool entry idx -/
def zk_ok (own : String) (idx : Nat) (y : MethodName) (cc : ByteArray) (maxL : Nat) (ret : Option FieldType) (n : Nat) : Prop :=
  Cond.code y cc maxL ret ∈ lw_gd ∧ Cond.initialized y.cls ∈ lw_gd ∧ Cond.methodLink own idx y ∈ lw_gd ∧ (y.cls ≠ "java/lang/invoke/MethodHandle" ∧ y.cls ≠ "java/lang/invoke/VarHandle" ∧ (parseMethodDescriptor y.desc).map (fun d => d.parameters.length) = some n)
theorem zk_good {y : MethodName} {cc : ByteArray} {maxL : Nat} {ret : Option FieldType} (h : Cond.code y cc maxL ret ∈ lw_gd) : GoodIn lw_gd (.code y cc maxL ret :: lw_gd) := by
  intro w hw
  rcases List.mem_cons.mp hw with rfl | h2
  · exact ⟨h, lw_gd_ok _ h⟩
  · exact ⟨h2, lw_gd_ok _ h2⟩
theorem zk_B {R : Room} {s : State} {args : Array Value} {own : String} {idx : Nat} {y : MethodName} {cc : ByteArray} {maxL : Nat} {ret : Option FieldType} {n : Nat} {rm : Room} {mc ms : Nat} (h : zk_ok own idx y cc maxL ret n) (ht : ∀ w ∈ lw_gd, w.before args s = true) (hrc : rm.cells = mc) (hrs : rm.slots = ms) (hR : rm.frames + 1 ≤ R.frames ∧ 8 + (maxL + 11) + rm.locals ≤ R.locals) :
    CallB R s args own idx y cc maxL ret (.code y cc maxL ret :: lw_gd) rm mc ms n :=
  callB_of n ht (zk_good h.1) rfl hrc hrs (ht _ h.2.1) (ht _ h.2.2.1) h.2.2.2 hR
section ZKsi
variable {p : Program} {l : Launch} {e : Env} {R : Room} {s : State} {m : MethodId} {args : Array Value} {below : List Frame} {meth : Method} {c : Code} {H : Heap} {locs : List Loc} {cells slots : Nat} {Q : State → Prop}
theorem zk_si {S : Type} {D : va_G} {tys : List (ClassId × FieldType)} {A : Nat → Prop} {cc0 cc : ByteArray} {own : String} {idx nL maxL n mc ms pc : Nat} {y : MethodName} {ret ret0 : Option FieldType} {rm : Room} {av rest st : List Value} {w0 ws wr : va_W} {post : Int32 → S → Prop} {w1 : S → va_W} {ls : Array Slot}
    (C0 : zX D tys p s m args meth c cc0 ret0 nL own A) (hP : va_P D vwCl ws H) (hD : va_D A ws) (hS : va_S A s.heap H locs)
    (hM : zc_i l D tys y cc maxL ret rm (av) w0 post w1 mc ms) (hk : zk_ok own idx y cc maxL ret n) (hst : Cond.static y ∈ lw_gd)
    (isC isR : List Nat) (hC : isC.map (fun i => ws[i]?) = w0.map some) (hRr : isR.map (fun i => ws[i]?) = wr.map some) (hnd : va_nd isC = true ∧ va_nd isR = true ∧ ∀ i ∈ isR, i ∉ isC)
    (hsz : ls.size = nL) (hstk : st = av.reverse ++ rest) (hlen : av.length = n) (hroom : (rest.map fun v => v.category).sum ≤ 8) (hR : rm.frames + 1 ≤ R.frames ∧ 8 + (maxL + 11) + rm.locals ≤ R.locals) (hrc : rm.cells = mc) (hrs : rm.slots = ms) (hf : cells + mc ≤ R.cells ∧ slots + ms ≤ R.slots) (hdg : decode cc0 pc = .ok (.invokestatic idx, 3))
    (kk : ∀ (r : Int32) (u : S) (H1 : Heap) (locs1 : List Loc), post r u → va_P D vwCl (wr ++ w1 u) H1 → va_D A (wr ++ w1 u) → va_S A s.heap H1 locs1 → W p l e R s m args below meth c H1 locs1 (cells + mc) (slots + ms) Q (F0 m (pc + 3) ls (.int r :: rest))) : W p l e R s m args below meth c H locs cells slots Q (F0 m pc ls st) := by
  obtain ⟨hx, hb, hr, hml, hlocks, hown, hts, hK, hA, hN⟩ := C0
  have hPc : va_P D vwCl w0 H := hP.sub isC (zz_fm _ isC w0 hC)
  have hDc : va_D A w0 := hD.sub isC hnd.1 hC
  have hFc := va_free (wc := w0) hD hS hA isC hC
  have hroom : 2 * (F0 m pc ls st).monitorRoom + (rest.map fun v => v.category).sum ≤ 8 := lv_room hroom
  refine va_calli (va_runS (As := av) (rest := rest) ⟨hx, hb, hml, hown, hts⟩ (hM H.size) ⟨zk_B hk hts hrc hrs hR, hts _ hst⟩ ⟨zc_blind D tys av w0 H.size, fun U hU hW => ⟨rfl, by rw [hU], by rw [hU]; exact hPc, va_K.moved hW.alike hK, hDc.weaken (fun _ _ _ _ => trivial), zN_warm hW hN⟩⟩ rfl hlen hsz hstk hroom hdg hf) hS (fun q _ h => hFc q h) hFc (fun r u t H1 locs1 ht hvm hw hB hz1 hk1 hS1 => ?_)
  obtain ⟨hP1, hD1⟩ := hB
  rw [ht] at hP1
  obtain ⟨hP2, hD2⟩ := va_join hP hD isC isR hC hRr hnd.2.1 hnd.2.2 hk1 hFc hP1 hD1
  exact kk r u H1 locs1 hw hP2 hD2 hS1
end ZKsi
section ZKvi
variable {p : Program} {l : Launch} {e : Env} {R : Room} {s : State} {m : MethodId} {args : Array Value} {below : List Frame} {meth : Method} {c : Code} {H : Heap} {locs : List Loc} {cells slots : Nat} {Q : State → Prop}
theorem zk_vi {S : Type} {D : va_G} {tys : List (ClassId × FieldType)} {A : Nat → Prop} {cc0 cc : ByteArray} {own : String} {idx nL maxL n mc ms pc : Nat} {y : MethodName} {ret ret0 : Option FieldType} {rm : Room} {b0 : Nat} {av rest st : List Value} {w0 ws wr : va_W} {post : Int32 → S → Prop} {w1 : S → va_W} {ls : Array Slot}
    (C0 : zX D tys p s m args meth c cc0 ret0 nL own A) (hP : va_P D vwCl ws H) (hD : va_D A ws) (hS : va_S A s.heap H locs)
    (hM : zc_i l D tys y cc maxL ret rm (.ref b0 :: av) w0 post w1 mc ms) (hk : zk_ok own idx y cc maxL ret n) (hin : Cond.instanceMethod y ∈ lw_gd) (hsel : Cond.selects y.cls y y ∈ lw_gd) (ci : Nat) {fs : List Value} {T : u_T} {N : Nat} (hcl : vwCl[ci]? = some (y.cls, T, N)) (q0 : Nat) (hrc0 : w0[q0]? = some (b0, .inr (ci, fs)))
    (isC isR : List Nat) (hC : isC.map (fun i => ws[i]?) = w0.map some) (hRr : isR.map (fun i => ws[i]?) = wr.map some) (hnd : va_nd isC = true ∧ va_nd isR = true ∧ ∀ i ∈ isR, i ∉ isC)
    (hsz : ls.size = nL) (hstk : st = av.reverse ++ .ref b0 :: rest) (hlen : av.length = n) (hroom : (rest.map fun v => v.category).sum ≤ 8) (hR : rm.frames + 1 ≤ R.frames ∧ 8 + (maxL + 11) + rm.locals ≤ R.locals) (hrc : rm.cells = mc) (hrs : rm.slots = ms) (hf : cells + mc ≤ R.cells ∧ slots + ms ≤ R.slots) (hdg : decode cc0 pc = .ok (.invokevirtual idx, 3))
    (kk : ∀ (r : Int32) (u : S) (H1 : Heap) (locs1 : List Loc), post r u → va_P D vwCl (wr ++ w1 u) H1 → va_D A (wr ++ w1 u) → va_S A s.heap H1 locs1 → W p l e R s m args below meth c H1 locs1 (cells + mc) (slots + ms) Q (F0 m (pc + 3) ls (.int r :: rest))) : W p l e R s m args below meth c H locs cells slots Q (F0 m pc ls st) := by
  obtain ⟨hx, hb, hr, hml, hlocks, hown, hts, hK, hA, hN⟩ := C0
  have hPc : va_P D vwCl w0 H := hP.sub isC (zz_fm _ isC w0 hC)
  have hDc : va_D A w0 := hD.sub isC hnd.1 hC
  have hFc := va_free (wc := w0) hD hS hA isC hC
  have hroom : 2 * (F0 m pc ls st).monitorRoom + (rest.map fun v => v.category).sum ≤ 8 := lv_room hroom
  refine va_calli (va_runV (b := b0) (C := y.cls) (As := av) (rest := rest) ⟨hx, hb, hml, hown, hts⟩ (hM H.size) ⟨zk_B hk hts hrc hrs hR, hts _ hin, hts _ hsel⟩ ⟨zc_blind D tys (.ref b0 :: av) w0 H.size, va_recv hK hPc hcl hrc0, fun U hU hW => ⟨rfl, by rw [hU], by rw [hU]; exact hPc, va_K.moved hW.alike hK, hDc.weaken (fun _ _ _ _ => trivial), zN_warm hW hN⟩⟩ rfl hlen hsz hstk hroom hdg hf) hS (fun q _ h => hFc q h) hFc (fun r u t H1 locs1 ht hvm hw hB hz1 hk1 hS1 => ?_)
  obtain ⟨hP1, hD1⟩ := hB
  rw [ht] at hP1
  obtain ⟨hP2, hD2⟩ := va_join hP hD isC isR hC hRr hnd.2.1 hnd.2.2 hk1 hFc hP1 hD1
  exact kk r u H1 locs1 hw hP2 hD2 hS1
end ZKvi
section ZKsl
variable {p : Program} {l : Launch} {e : Env} {R : Room} {s : State} {m : MethodId} {args : Array Value} {below : List Frame} {meth : Method} {c : Code} {H : Heap} {locs : List Loc} {cells slots : Nat} {Q : State → Prop}
theorem zk_sl {S : Type} {D : va_G} {tys : List (ClassId × FieldType)} {A : Nat → Prop} {cc0 cc : ByteArray} {own : String} {idx nL maxL n mc ms pc : Nat} {y : MethodName} {ret ret0 : Option FieldType} {rm : Room} {av rest st : List Value} {w0 ws wr : va_W} {post : Int64 → S → Prop} {w1 : S → va_W} {ls : Array Slot}
    (C0 : zX D tys p s m args meth c cc0 ret0 nL own A) (hP : va_P D vwCl ws H) (hD : va_D A ws) (hS : va_S A s.heap H locs)
    (hM : zc_l l D tys y cc maxL ret rm (av) w0 post w1 mc ms) (hk : zk_ok own idx y cc maxL ret n) (hst : Cond.static y ∈ lw_gd)
    (isC isR : List Nat) (hC : isC.map (fun i => ws[i]?) = w0.map some) (hRr : isR.map (fun i => ws[i]?) = wr.map some) (hnd : va_nd isC = true ∧ va_nd isR = true ∧ ∀ i ∈ isR, i ∉ isC)
    (hsz : ls.size = nL) (hstk : st = av.reverse ++ rest) (hlen : av.length = n) (hroom : (rest.map fun v => v.category).sum ≤ 8) (hR : rm.frames + 1 ≤ R.frames ∧ 8 + (maxL + 11) + rm.locals ≤ R.locals) (hrc : rm.cells = mc) (hrs : rm.slots = ms) (hf : cells + mc ≤ R.cells ∧ slots + ms ≤ R.slots) (hdg : decode cc0 pc = .ok (.invokestatic idx, 3))
    (kk : ∀ (r : Int64) (u : S) (H1 : Heap) (locs1 : List Loc), post r u → va_P D vwCl (wr ++ w1 u) H1 → va_D A (wr ++ w1 u) → va_S A s.heap H1 locs1 → W p l e R s m args below meth c H1 locs1 (cells + mc) (slots + ms) Q (F0 m (pc + 3) ls (.long r :: rest))) : W p l e R s m args below meth c H locs cells slots Q (F0 m pc ls st) := by
  obtain ⟨hx, hb, hr, hml, hlocks, hown, hts, hK, hA, hN⟩ := C0
  have hPc : va_P D vwCl w0 H := hP.sub isC (zz_fm _ isC w0 hC)
  have hDc : va_D A w0 := hD.sub isC hnd.1 hC
  have hFc := va_free (wc := w0) hD hS hA isC hC
  have hroom : 2 * (F0 m pc ls st).monitorRoom + (rest.map fun v => v.category).sum ≤ 8 := lv_room hroom
  refine va_calll (va_runS (As := av) (rest := rest) ⟨hx, hb, hml, hown, hts⟩ (hM H.size) ⟨zk_B hk hts hrc hrs hR, hts _ hst⟩ ⟨zc_blind D tys av w0 H.size, fun U hU hW => ⟨rfl, by rw [hU], by rw [hU]; exact hPc, va_K.moved hW.alike hK, hDc.weaken (fun _ _ _ _ => trivial), zN_warm hW hN⟩⟩ rfl hlen hsz hstk hroom hdg hf) hS (fun q _ h => hFc q h) hFc (fun r u t H1 locs1 ht hvm hw hB hz1 hk1 hS1 => ?_)
  obtain ⟨hP1, hD1⟩ := hB
  rw [ht] at hP1
  obtain ⟨hP2, hD2⟩ := va_join hP hD isC isR hC hRr hnd.2.1 hnd.2.2 hk1 hFc hP1 hD1
  exact kk r u H1 locs1 hw hP2 hD2 hS1
end ZKsl
section ZKvl
variable {p : Program} {l : Launch} {e : Env} {R : Room} {s : State} {m : MethodId} {args : Array Value} {below : List Frame} {meth : Method} {c : Code} {H : Heap} {locs : List Loc} {cells slots : Nat} {Q : State → Prop}
theorem zk_vl {S : Type} {D : va_G} {tys : List (ClassId × FieldType)} {A : Nat → Prop} {cc0 cc : ByteArray} {own : String} {idx nL maxL n mc ms pc : Nat} {y : MethodName} {ret ret0 : Option FieldType} {rm : Room} {b0 : Nat} {av rest st : List Value} {w0 ws wr : va_W} {post : Int64 → S → Prop} {w1 : S → va_W} {ls : Array Slot}
    (C0 : zX D tys p s m args meth c cc0 ret0 nL own A) (hP : va_P D vwCl ws H) (hD : va_D A ws) (hS : va_S A s.heap H locs)
    (hM : zc_l l D tys y cc maxL ret rm (.ref b0 :: av) w0 post w1 mc ms) (hk : zk_ok own idx y cc maxL ret n) (hin : Cond.instanceMethod y ∈ lw_gd) (hsel : Cond.selects y.cls y y ∈ lw_gd) (ci : Nat) {fs : List Value} {T : u_T} {N : Nat} (hcl : vwCl[ci]? = some (y.cls, T, N)) (q0 : Nat) (hrc0 : w0[q0]? = some (b0, .inr (ci, fs)))
    (isC isR : List Nat) (hC : isC.map (fun i => ws[i]?) = w0.map some) (hRr : isR.map (fun i => ws[i]?) = wr.map some) (hnd : va_nd isC = true ∧ va_nd isR = true ∧ ∀ i ∈ isR, i ∉ isC)
    (hsz : ls.size = nL) (hstk : st = av.reverse ++ .ref b0 :: rest) (hlen : av.length = n) (hroom : (rest.map fun v => v.category).sum ≤ 8) (hR : rm.frames + 1 ≤ R.frames ∧ 8 + (maxL + 11) + rm.locals ≤ R.locals) (hrc : rm.cells = mc) (hrs : rm.slots = ms) (hf : cells + mc ≤ R.cells ∧ slots + ms ≤ R.slots) (hdg : decode cc0 pc = .ok (.invokevirtual idx, 3))
    (kk : ∀ (r : Int64) (u : S) (H1 : Heap) (locs1 : List Loc), post r u → va_P D vwCl (wr ++ w1 u) H1 → va_D A (wr ++ w1 u) → va_S A s.heap H1 locs1 → W p l e R s m args below meth c H1 locs1 (cells + mc) (slots + ms) Q (F0 m (pc + 3) ls (.long r :: rest))) : W p l e R s m args below meth c H locs cells slots Q (F0 m pc ls st) := by
  obtain ⟨hx, hb, hr, hml, hlocks, hown, hts, hK, hA, hN⟩ := C0
  have hPc : va_P D vwCl w0 H := hP.sub isC (zz_fm _ isC w0 hC)
  have hDc : va_D A w0 := hD.sub isC hnd.1 hC
  have hFc := va_free (wc := w0) hD hS hA isC hC
  have hroom : 2 * (F0 m pc ls st).monitorRoom + (rest.map fun v => v.category).sum ≤ 8 := lv_room hroom
  refine va_calll (va_runV (b := b0) (C := y.cls) (As := av) (rest := rest) ⟨hx, hb, hml, hown, hts⟩ (hM H.size) ⟨zk_B hk hts hrc hrs hR, hts _ hin, hts _ hsel⟩ ⟨zc_blind D tys (.ref b0 :: av) w0 H.size, va_recv hK hPc hcl hrc0, fun U hU hW => ⟨rfl, by rw [hU], by rw [hU]; exact hPc, va_K.moved hW.alike hK, hDc.weaken (fun _ _ _ _ => trivial), zN_warm hW hN⟩⟩ rfl hlen hsz hstk hroom hdg hf) hS (fun q _ h => hFc q h) hFc (fun r u t H1 locs1 ht hvm hw hB hz1 hk1 hS1 => ?_)
  obtain ⟨hP1, hD1⟩ := hB
  rw [ht] at hP1
  obtain ⟨hP2, hD2⟩ := va_join hP hD isC isR hC hRr hnd.2.1 hnd.2.2 hk1 hFc hP1 hD1
  exact kk r u H1 locs1 hw hP2 hD2 hS1
end ZKvl
section ZKsv
variable {p : Program} {l : Launch} {e : Env} {R : Room} {s : State} {m : MethodId} {args : Array Value} {below : List Frame} {meth : Method} {c : Code} {H : Heap} {locs : List Loc} {cells slots : Nat} {Q : State → Prop}
theorem zk_sv {S : Type} {D : va_G} {tys : List (ClassId × FieldType)} {A : Nat → Prop} {cc0 cc : ByteArray} {own : String} {idx nL maxL n mc ms pc : Nat} {y : MethodName} {ret ret0 : Option FieldType} {rm : Room} {av rest st : List Value} {w0 ws wr : va_W} {post : S → Prop} {w1 : S → va_W} {ls : Array Slot}
    (C0 : zX D tys p s m args meth c cc0 ret0 nL own A) (hP : va_P D vwCl ws H) (hD : va_D A ws) (hS : va_S A s.heap H locs)
    (hM : zc_v l D tys y cc maxL ret rm (av) w0 post w1 mc ms) (hk : zk_ok own idx y cc maxL ret n) (hst : Cond.static y ∈ lw_gd)
    (isC isR : List Nat) (hC : isC.map (fun i => ws[i]?) = w0.map some) (hRr : isR.map (fun i => ws[i]?) = wr.map some) (hnd : va_nd isC = true ∧ va_nd isR = true ∧ ∀ i ∈ isR, i ∉ isC)
    (hsz : ls.size = nL) (hstk : st = av.reverse ++ rest) (hlen : av.length = n) (hroom : (rest.map fun v => v.category).sum ≤ 8) (hR : rm.frames + 1 ≤ R.frames ∧ 8 + (maxL + 11) + rm.locals ≤ R.locals) (hrc : rm.cells = mc) (hrs : rm.slots = ms) (hf : cells + mc ≤ R.cells ∧ slots + ms ≤ R.slots) (hdg : decode cc0 pc = .ok (.invokestatic idx, 3))
    (kk : ∀ (u : S) (H1 : Heap) (locs1 : List Loc), post u → va_P D vwCl (wr ++ w1 u) H1 → va_D A (wr ++ w1 u) → va_S A s.heap H1 locs1 → W p l e R s m args below meth c H1 locs1 (cells + mc) (slots + ms) Q (F0 m (pc + 3) ls (rest))) : W p l e R s m args below meth c H locs cells slots Q (F0 m pc ls st) := by
  obtain ⟨hx, hb, hr, hml, hlocks, hown, hts, hK, hA, hN⟩ := C0
  have hPc : va_P D vwCl w0 H := hP.sub isC (zz_fm _ isC w0 hC)
  have hDc : va_D A w0 := hD.sub isC hnd.1 hC
  have hFc := va_free (wc := w0) hD hS hA isC hC
  have hroom : 2 * (F0 m pc ls st).monitorRoom + (rest.map fun v => v.category).sum ≤ 8 := lv_room hroom
  refine va_callv (va_runS (As := av) (rest := rest) ⟨hx, hb, hml, hown, hts⟩ (hM H.size) ⟨zk_B hk hts hrc hrs hR, hts _ hst⟩ ⟨zc_blind D tys av w0 H.size, fun U hU hW => ⟨rfl, by rw [hU], by rw [hU]; exact hPc, va_K.moved hW.alike hK, hDc.weaken (fun _ _ _ _ => trivial), zN_warm hW hN⟩⟩ rfl hlen hsz hstk hroom hdg hf) hS (fun q _ h => hFc q h) hFc (fun u t H1 locs1 ht hvm hw hB hz1 hk1 hS1 => ?_)
  obtain ⟨hP1, hD1⟩ := hB
  rw [ht] at hP1
  obtain ⟨hP2, hD2⟩ := va_join hP hD isC isR hC hRr hnd.2.1 hnd.2.2 hk1 hFc hP1 hD1
  exact kk u H1 locs1 hw hP2 hD2 hS1
end ZKsv
section ZKvv
variable {p : Program} {l : Launch} {e : Env} {R : Room} {s : State} {m : MethodId} {args : Array Value} {below : List Frame} {meth : Method} {c : Code} {H : Heap} {locs : List Loc} {cells slots : Nat} {Q : State → Prop}
theorem zk_vv {S : Type} {D : va_G} {tys : List (ClassId × FieldType)} {A : Nat → Prop} {cc0 cc : ByteArray} {own : String} {idx nL maxL n mc ms pc : Nat} {y : MethodName} {ret ret0 : Option FieldType} {rm : Room} {b0 : Nat} {av rest st : List Value} {w0 ws wr : va_W} {post : S → Prop} {w1 : S → va_W} {ls : Array Slot}
    (C0 : zX D tys p s m args meth c cc0 ret0 nL own A) (hP : va_P D vwCl ws H) (hD : va_D A ws) (hS : va_S A s.heap H locs)
    (hM : zc_v l D tys y cc maxL ret rm (.ref b0 :: av) w0 post w1 mc ms) (hk : zk_ok own idx y cc maxL ret n) (hin : Cond.instanceMethod y ∈ lw_gd) (hsel : Cond.selects y.cls y y ∈ lw_gd) (ci : Nat) {fs : List Value} {T : u_T} {N : Nat} (hcl : vwCl[ci]? = some (y.cls, T, N)) (q0 : Nat) (hrc0 : w0[q0]? = some (b0, .inr (ci, fs)))
    (isC isR : List Nat) (hC : isC.map (fun i => ws[i]?) = w0.map some) (hRr : isR.map (fun i => ws[i]?) = wr.map some) (hnd : va_nd isC = true ∧ va_nd isR = true ∧ ∀ i ∈ isR, i ∉ isC)
    (hsz : ls.size = nL) (hstk : st = av.reverse ++ .ref b0 :: rest) (hlen : av.length = n) (hroom : (rest.map fun v => v.category).sum ≤ 8) (hR : rm.frames + 1 ≤ R.frames ∧ 8 + (maxL + 11) + rm.locals ≤ R.locals) (hrc : rm.cells = mc) (hrs : rm.slots = ms) (hf : cells + mc ≤ R.cells ∧ slots + ms ≤ R.slots) (hdg : decode cc0 pc = .ok (.invokevirtual idx, 3))
    (kk : ∀ (u : S) (H1 : Heap) (locs1 : List Loc), post u → va_P D vwCl (wr ++ w1 u) H1 → va_D A (wr ++ w1 u) → va_S A s.heap H1 locs1 → W p l e R s m args below meth c H1 locs1 (cells + mc) (slots + ms) Q (F0 m (pc + 3) ls (rest))) : W p l e R s m args below meth c H locs cells slots Q (F0 m pc ls st) := by
  obtain ⟨hx, hb, hr, hml, hlocks, hown, hts, hK, hA, hN⟩ := C0
  have hPc : va_P D vwCl w0 H := hP.sub isC (zz_fm _ isC w0 hC)
  have hDc : va_D A w0 := hD.sub isC hnd.1 hC
  have hFc := va_free (wc := w0) hD hS hA isC hC
  have hroom : 2 * (F0 m pc ls st).monitorRoom + (rest.map fun v => v.category).sum ≤ 8 := lv_room hroom
  refine va_callv (va_runV (b := b0) (C := y.cls) (As := av) (rest := rest) ⟨hx, hb, hml, hown, hts⟩ (hM H.size) ⟨zk_B hk hts hrc hrs hR, hts _ hin, hts _ hsel⟩ ⟨zc_blind D tys (.ref b0 :: av) w0 H.size, va_recv hK hPc hcl hrc0, fun U hU hW => ⟨rfl, by rw [hU], by rw [hU]; exact hPc, va_K.moved hW.alike hK, hDc.weaken (fun _ _ _ _ => trivial), zN_warm hW hN⟩⟩ rfl hlen hsz hstk hroom hdg hf) hS (fun q _ h => hFc q h) hFc (fun u t H1 locs1 ht hvm hw hB hz1 hk1 hS1 => ?_)
  obtain ⟨hP1, hD1⟩ := hB
  rw [ht] at hP1
  obtain ⟨hP2, hD2⟩ := va_join hP hD isC isR hC hRr hnd.2.1 hnd.2.2 hk1 hFc hP1 hD1
  exact kk u H1 locs1 hw hP2 hD2 hS1
end ZKvv
section ZKxv
variable {p : Program} {l : Launch} {e : Env} {R : Room} {s : State} {m : MethodId} {args : Array Value} {below : List Frame} {meth : Method} {c : Code} {H : Heap} {locs : List Loc} {cells slots : Nat} {Q : State → Prop}
theorem zk_xv {S : Type} {D : va_G} {tys : List (ClassId × FieldType)} {A : Nat → Prop} {cc0 cc : ByteArray} {own : String} {idx nL maxL n mc ms pc : Nat} {y : MethodName} {ret ret0 : Option FieldType} {rm : Room} {b0 : Nat} {av rest st : List Value} {w0 ws wr : va_W} {post : S → Prop} {w1 : S → va_W} {ls : Array Slot}
    (C0 : zX D tys p s m args meth c cc0 ret0 nL own A) (hP : va_P D vwCl ws H) (hD : va_D A ws) (hS : va_S A s.heap H locs)
    (hM : zc_v l D tys y cc maxL none rm (.ref b0 :: av) w0 post w1 mc ms) (hk : zk_ok own idx y cc maxL none n) (hin : Cond.instanceMethod y ∈ lw_gd) (hnm : y.name = "<init>")
    (isC isR : List Nat) (hC : isC.map (fun i => ws[i]?) = w0.map some) (hRr : isR.map (fun i => ws[i]?) = wr.map some) (hnd : va_nd isC = true ∧ va_nd isR = true ∧ ∀ i ∈ isR, i ∉ isC)
    (hsz : ls.size = nL) (hstk : st = av.reverse ++ .ref b0 :: rest) (hlen : av.length = n) (hroom : (rest.map fun v => v.category).sum ≤ 8) (hR : rm.frames + 1 ≤ R.frames ∧ 8 + (maxL + 11) + rm.locals ≤ R.locals) (hrc : rm.cells = mc) (hrs : rm.slots = ms) (hf : cells + mc ≤ R.cells ∧ slots + ms ≤ R.slots) (hdg : decode cc0 pc = .ok (.invokespecial idx, 3))
    (kk : ∀ (u : S) (H1 : Heap) (locs1 : List Loc), post u → va_P D vwCl (wr ++ w1 u) H1 → va_D A (wr ++ w1 u) → va_S A s.heap H1 locs1 → W p l e R s m args below meth c H1 locs1 (cells + mc) (slots + ms) Q (F0 m (pc + 3) ls (rest))) : W p l e R s m args below meth c H locs cells slots Q (F0 m pc ls st) := by
  obtain ⟨hx, hb, hr, hml, hlocks, hown, hts, hK, hA, hN⟩ := C0
  have hPc : va_P D vwCl w0 H := hP.sub isC (zz_fm _ isC w0 hC)
  have hDc : va_D A w0 := hD.sub isC hnd.1 hC
  have hFc := va_free (wc := w0) hD hS hA isC hC
  have hroom : 2 * (F0 m pc ls st).monitorRoom + (rest.map fun v => v.category).sum ≤ 8 := lv_room hroom
  refine va_callv (va_runI (b := b0) (As := av) (rest := rest) ⟨hx, hb, hml, hown, hts⟩ (hM H.size) ⟨zk_B hk hts hrc hrs hR, hnm, hts _ hin⟩ ⟨zc_blind D tys (.ref b0 :: av) w0 H.size, fun U hU hW => ⟨rfl, by rw [hU], by rw [hU]; exact hPc, va_K.moved hW.alike hK, hDc.weaken (fun _ _ _ _ => trivial), zN_warm hW hN⟩⟩ rfl hlen hsz hstk hroom hdg hf) hS (fun q _ h => hFc q h) hFc (fun u t H1 locs1 ht hvm hw hB hz1 hk1 hS1 => ?_)
  obtain ⟨hP1, hD1⟩ := hB
  rw [ht] at hP1
  obtain ⟨hP2, hD2⟩ := va_join hP hD isC isR hC hRr hnd.2.1 hnd.2.2 hk1 hFc hP1 hD1
  exact kk u H1 locs1 hw hP2 hD2 hS1
end ZKxv
section ZKPi
variable {p : Program} {l : Launch} {e : Env} {R : Room} {s : State} {m : MethodId} {args : Array Value} {below : List Frame} {meth : Method} {c : Code} {H : Heap} {locs : List Loc} {cells slots : Nat} {Q : State → Prop}
/-- a static method that touches no cell -/
theorem zk_pi {D : va_G} {tys : List (ClassId × FieldType)} {A : Nat → Prop} {cc0 cc : ByteArray} {own : String} {idx nL maxL n pc : Nat} {y : MethodName} {ret ret0 : Option FieldType} {rm : Room} {av rest st : List Value} {ws : va_W} {post : Int32 → Unit → Prop} {ls : Array Slot}
    (C0 : zX D tys p s m args meth c cc0 ret0 nL own A) (hP : va_P D vwCl ws H) (hD : va_D A ws) (hS : va_S A s.heap H locs)
    (hM : zc_i l D tys y cc maxL ret rm av [] post (fun _ : Unit => []) 0 0) (hk : zk_ok own idx y cc maxL ret n ∧ Cond.static y ∈ lw_gd)
    (hsz : ls.size = nL) (hstk : st = av.reverse ++ rest) (hlen : av.length = n) (hroom : (rest.map fun v => v.category).sum ≤ 8) (hR : rm.frames + 1 ≤ R.frames ∧ 8 + (maxL + 11) + rm.locals ≤ R.locals) (hrc : rm.cells = 0) (hrs : rm.slots = 0) (hf : cells ≤ R.cells ∧ slots ≤ R.slots) (hdg : decode cc0 pc = .ok (.invokestatic idx, 3))
    (kk : ∀ (r : Int32) (H1 : Heap) (locs1 : List Loc), post r () → va_P D vwCl ws H1 → va_S A s.heap H1 locs1 → W p l e R s m args below meth c H1 locs1 cells slots Q (F0 m (pc + 3) ls (.int r :: rest))) : W p l e R s m args below meth c H locs cells slots Q (F0 m pc ls st) := by
  refine zk_si (wr := ws) C0 hP hD hS hM hk.1 hk.2 [] (List.range ws.length) rfl (zz_rg ws) ⟨rfl, zz_nd_range _, fun _ _ h => by cases h⟩ hsz hstk hlen hroom hR hrc hrs hf hdg (fun r u H1 locs1 hp hP1 hD1 hS1 => ?_)
  rw [List.append_nil] at hP1
  exact kk r H1 locs1 hp hP1 hS1
end ZKPi
section ZKPl
variable {p : Program} {l : Launch} {e : Env} {R : Room} {s : State} {m : MethodId} {args : Array Value} {below : List Frame} {meth : Method} {c : Code} {H : Heap} {locs : List Loc} {cells slots : Nat} {Q : State → Prop}
/-- a static method that touches no cell -/
theorem zk_pl {D : va_G} {tys : List (ClassId × FieldType)} {A : Nat → Prop} {cc0 cc : ByteArray} {own : String} {idx nL maxL n pc : Nat} {y : MethodName} {ret ret0 : Option FieldType} {rm : Room} {av rest st : List Value} {ws : va_W} {post : Int64 → Unit → Prop} {ls : Array Slot}
    (C0 : zX D tys p s m args meth c cc0 ret0 nL own A) (hP : va_P D vwCl ws H) (hD : va_D A ws) (hS : va_S A s.heap H locs)
    (hM : zc_l l D tys y cc maxL ret rm av [] post (fun _ : Unit => []) 0 0) (hk : zk_ok own idx y cc maxL ret n ∧ Cond.static y ∈ lw_gd)
    (hsz : ls.size = nL) (hstk : st = av.reverse ++ rest) (hlen : av.length = n) (hroom : (rest.map fun v => v.category).sum ≤ 8) (hR : rm.frames + 1 ≤ R.frames ∧ 8 + (maxL + 11) + rm.locals ≤ R.locals) (hrc : rm.cells = 0) (hrs : rm.slots = 0) (hf : cells ≤ R.cells ∧ slots ≤ R.slots) (hdg : decode cc0 pc = .ok (.invokestatic idx, 3))
    (kk : ∀ (r : Int64) (H1 : Heap) (locs1 : List Loc), post r () → va_P D vwCl ws H1 → va_S A s.heap H1 locs1 → W p l e R s m args below meth c H1 locs1 cells slots Q (F0 m (pc + 3) ls (.long r :: rest))) : W p l e R s m args below meth c H locs cells slots Q (F0 m pc ls st) := by
  refine zk_sl (wr := ws) C0 hP hD hS hM hk.1 hk.2 [] (List.range ws.length) rfl (zz_rg ws) ⟨rfl, zz_nd_range _, fun _ _ h => by cases h⟩ hsz hstk hlen hroom hR hrc hrs hf hdg (fun r u H1 locs1 hp hP1 hD1 hS1 => ?_)
  rw [List.append_nil] at hP1
  exact kk r H1 locs1 hp hP1 hS1
end ZKPl
section ZKFsi
variable {p : Program} {l : Launch} {e : Env} {R : Room} {s : State} {m : MethodId} {args : Array Value} {below : List Frame} {meth : Method} {c : Code} {H : Heap} {locs : List Loc} {cells slots : Nat} {Q : State → Prop}
/-- a call whose world is all of this one's -/
theorem zf_si {S : Type} {D : va_G} {tys : List (ClassId × FieldType)} {A : Nat → Prop} {cc0 cc : ByteArray} {own : String} {idx nL maxL n pc : Nat} {y : MethodName} {ret ret0 : Option FieldType} {rm : Room} {av rest st : List Value} {ws : va_W} {post : Int32 → S → Prop} {w1 : S → va_W} {ls : Array Slot}
    (C0 : zX D tys p s m args meth c cc0 ret0 nL own A) (hP : va_P D vwCl ws H) (hD : va_D A ws) (hS : va_S A s.heap H locs)
    (hM : zc_i l D tys y cc maxL ret rm (av) ws post w1 0 0) (hk : zk_ok own idx y cc maxL ret n) (hst : Cond.static y ∈ lw_gd)
    (hsz : ls.size = nL) (hstk : st = av.reverse ++ rest) (hlen : av.length = n) (hroom : (rest.map fun v => v.category).sum ≤ 8) (hR : rm.frames + 1 ≤ R.frames ∧ 8 + (maxL + 11) + rm.locals ≤ R.locals) (hrc : rm.cells = 0) (hrs : rm.slots = 0) (hf : cells ≤ R.cells ∧ slots ≤ R.slots) (hdg : decode cc0 pc = .ok (.invokestatic idx, 3))
    (kk : ∀ (r : Int32) (u : S) (H1 : Heap) (locs1 : List Loc), post r u → va_P D vwCl (w1 u) H1 → va_D A (w1 u) → va_S A s.heap H1 locs1 → W p l e R s m args below meth c H1 locs1 cells slots Q (F0 m (pc + 3) ls (.int r :: rest))) : W p l e R s m args below meth c H locs cells slots Q (F0 m pc ls st) :=
  zk_si (wr := []) C0 hP hD hS hM hk hst (List.range ws.length) [] (zz_rg ws) rfl ⟨zz_nd_range _, rfl, fun _ h => by cases h⟩ hsz hstk hlen hroom hR hrc hrs hf hdg kk
end ZKFsi
section ZKFvi
variable {p : Program} {l : Launch} {e : Env} {R : Room} {s : State} {m : MethodId} {args : Array Value} {below : List Frame} {meth : Method} {c : Code} {H : Heap} {locs : List Loc} {cells slots : Nat} {Q : State → Prop}
/-- a call whose world is all of this one's -/
theorem zf_vi {S : Type} {D : va_G} {tys : List (ClassId × FieldType)} {A : Nat → Prop} {cc0 cc : ByteArray} {own : String} {idx nL maxL n pc : Nat} {y : MethodName} {ret ret0 : Option FieldType} {rm : Room} {b0 : Nat} {av rest st : List Value} {ws : va_W} {post : Int32 → S → Prop} {w1 : S → va_W} {ls : Array Slot}
    (C0 : zX D tys p s m args meth c cc0 ret0 nL own A) (hP : va_P D vwCl ws H) (hD : va_D A ws) (hS : va_S A s.heap H locs)
    (hM : zc_i l D tys y cc maxL ret rm (.ref b0 :: av) ws post w1 0 0) (hk : zk_ok own idx y cc maxL ret n) (hin : Cond.instanceMethod y ∈ lw_gd ∧ Cond.selects y.cls y y ∈ lw_gd) (ci : Nat) {fs : List Value} {T : u_T} {N : Nat} (hcl : vwCl[ci]? = some (y.cls, T, N)) (q0 : Nat) (hrc0 : ws[q0]? = some (b0, .inr (ci, fs)))
    (hsz : ls.size = nL) (hstk : st = av.reverse ++ .ref b0 :: rest) (hlen : av.length = n) (hroom : (rest.map fun v => v.category).sum ≤ 8) (hR : rm.frames + 1 ≤ R.frames ∧ 8 + (maxL + 11) + rm.locals ≤ R.locals) (hrc : rm.cells = 0) (hrs : rm.slots = 0) (hf : cells ≤ R.cells ∧ slots ≤ R.slots) (hdg : decode cc0 pc = .ok (.invokevirtual idx, 3))
    (kk : ∀ (r : Int32) (u : S) (H1 : Heap) (locs1 : List Loc), post r u → va_P D vwCl (w1 u) H1 → va_D A (w1 u) → va_S A s.heap H1 locs1 → W p l e R s m args below meth c H1 locs1 cells slots Q (F0 m (pc + 3) ls (.int r :: rest))) : W p l e R s m args below meth c H locs cells slots Q (F0 m pc ls st) :=
  zk_vi (wr := []) C0 hP hD hS hM hk hin.1 hin.2 ci hcl q0 hrc0 (List.range ws.length) [] (zz_rg ws) rfl ⟨zz_nd_range _, rfl, fun _ h => by cases h⟩ hsz hstk hlen hroom hR hrc hrs hf hdg kk
end ZKFvi
section ZKFsl
variable {p : Program} {l : Launch} {e : Env} {R : Room} {s : State} {m : MethodId} {args : Array Value} {below : List Frame} {meth : Method} {c : Code} {H : Heap} {locs : List Loc} {cells slots : Nat} {Q : State → Prop}
/-- a call whose world is all of this one's -/
theorem zf_sl {S : Type} {D : va_G} {tys : List (ClassId × FieldType)} {A : Nat → Prop} {cc0 cc : ByteArray} {own : String} {idx nL maxL n pc : Nat} {y : MethodName} {ret ret0 : Option FieldType} {rm : Room} {av rest st : List Value} {ws : va_W} {post : Int64 → S → Prop} {w1 : S → va_W} {ls : Array Slot}
    (C0 : zX D tys p s m args meth c cc0 ret0 nL own A) (hP : va_P D vwCl ws H) (hD : va_D A ws) (hS : va_S A s.heap H locs)
    (hM : zc_l l D tys y cc maxL ret rm (av) ws post w1 0 0) (hk : zk_ok own idx y cc maxL ret n) (hst : Cond.static y ∈ lw_gd)
    (hsz : ls.size = nL) (hstk : st = av.reverse ++ rest) (hlen : av.length = n) (hroom : (rest.map fun v => v.category).sum ≤ 8) (hR : rm.frames + 1 ≤ R.frames ∧ 8 + (maxL + 11) + rm.locals ≤ R.locals) (hrc : rm.cells = 0) (hrs : rm.slots = 0) (hf : cells ≤ R.cells ∧ slots ≤ R.slots) (hdg : decode cc0 pc = .ok (.invokestatic idx, 3))
    (kk : ∀ (r : Int64) (u : S) (H1 : Heap) (locs1 : List Loc), post r u → va_P D vwCl (w1 u) H1 → va_D A (w1 u) → va_S A s.heap H1 locs1 → W p l e R s m args below meth c H1 locs1 cells slots Q (F0 m (pc + 3) ls (.long r :: rest))) : W p l e R s m args below meth c H locs cells slots Q (F0 m pc ls st) :=
  zk_sl (wr := []) C0 hP hD hS hM hk hst (List.range ws.length) [] (zz_rg ws) rfl ⟨zz_nd_range _, rfl, fun _ h => by cases h⟩ hsz hstk hlen hroom hR hrc hrs hf hdg kk
end ZKFsl
section ZKFvl
variable {p : Program} {l : Launch} {e : Env} {R : Room} {s : State} {m : MethodId} {args : Array Value} {below : List Frame} {meth : Method} {c : Code} {H : Heap} {locs : List Loc} {cells slots : Nat} {Q : State → Prop}
/-- a call whose world is all of this one's -/
theorem zf_vl {S : Type} {D : va_G} {tys : List (ClassId × FieldType)} {A : Nat → Prop} {cc0 cc : ByteArray} {own : String} {idx nL maxL n pc : Nat} {y : MethodName} {ret ret0 : Option FieldType} {rm : Room} {b0 : Nat} {av rest st : List Value} {ws : va_W} {post : Int64 → S → Prop} {w1 : S → va_W} {ls : Array Slot}
    (C0 : zX D tys p s m args meth c cc0 ret0 nL own A) (hP : va_P D vwCl ws H) (hD : va_D A ws) (hS : va_S A s.heap H locs)
    (hM : zc_l l D tys y cc maxL ret rm (.ref b0 :: av) ws post w1 0 0) (hk : zk_ok own idx y cc maxL ret n) (hin : Cond.instanceMethod y ∈ lw_gd ∧ Cond.selects y.cls y y ∈ lw_gd) (ci : Nat) {fs : List Value} {T : u_T} {N : Nat} (hcl : vwCl[ci]? = some (y.cls, T, N)) (q0 : Nat) (hrc0 : ws[q0]? = some (b0, .inr (ci, fs)))
    (hsz : ls.size = nL) (hstk : st = av.reverse ++ .ref b0 :: rest) (hlen : av.length = n) (hroom : (rest.map fun v => v.category).sum ≤ 8) (hR : rm.frames + 1 ≤ R.frames ∧ 8 + (maxL + 11) + rm.locals ≤ R.locals) (hrc : rm.cells = 0) (hrs : rm.slots = 0) (hf : cells ≤ R.cells ∧ slots ≤ R.slots) (hdg : decode cc0 pc = .ok (.invokevirtual idx, 3))
    (kk : ∀ (r : Int64) (u : S) (H1 : Heap) (locs1 : List Loc), post r u → va_P D vwCl (w1 u) H1 → va_D A (w1 u) → va_S A s.heap H1 locs1 → W p l e R s m args below meth c H1 locs1 cells slots Q (F0 m (pc + 3) ls (.long r :: rest))) : W p l e R s m args below meth c H locs cells slots Q (F0 m pc ls st) :=
  zk_vl (wr := []) C0 hP hD hS hM hk hin.1 hin.2 ci hcl q0 hrc0 (List.range ws.length) [] (zz_rg ws) rfl ⟨zz_nd_range _, rfl, fun _ h => by cases h⟩ hsz hstk hlen hroom hR hrc hrs hf hdg kk
end ZKFvl
section ZKFsv
variable {p : Program} {l : Launch} {e : Env} {R : Room} {s : State} {m : MethodId} {args : Array Value} {below : List Frame} {meth : Method} {c : Code} {H : Heap} {locs : List Loc} {cells slots : Nat} {Q : State → Prop}
/-- a call whose world is all of this one's -/
theorem zf_sv {S : Type} {D : va_G} {tys : List (ClassId × FieldType)} {A : Nat → Prop} {cc0 cc : ByteArray} {own : String} {idx nL maxL n pc : Nat} {y : MethodName} {ret ret0 : Option FieldType} {rm : Room} {av rest st : List Value} {ws : va_W} {post : S → Prop} {w1 : S → va_W} {ls : Array Slot}
    (C0 : zX D tys p s m args meth c cc0 ret0 nL own A) (hP : va_P D vwCl ws H) (hD : va_D A ws) (hS : va_S A s.heap H locs)
    (hM : zc_v l D tys y cc maxL ret rm (av) ws post w1 0 0) (hk : zk_ok own idx y cc maxL ret n) (hst : Cond.static y ∈ lw_gd)
    (hsz : ls.size = nL) (hstk : st = av.reverse ++ rest) (hlen : av.length = n) (hroom : (rest.map fun v => v.category).sum ≤ 8) (hR : rm.frames + 1 ≤ R.frames ∧ 8 + (maxL + 11) + rm.locals ≤ R.locals) (hrc : rm.cells = 0) (hrs : rm.slots = 0) (hf : cells ≤ R.cells ∧ slots ≤ R.slots) (hdg : decode cc0 pc = .ok (.invokestatic idx, 3))
    (kk : ∀ (u : S) (H1 : Heap) (locs1 : List Loc), post u → va_P D vwCl (w1 u) H1 → va_D A (w1 u) → va_S A s.heap H1 locs1 → W p l e R s m args below meth c H1 locs1 cells slots Q (F0 m (pc + 3) ls (rest))) : W p l e R s m args below meth c H locs cells slots Q (F0 m pc ls st) :=
  zk_sv (wr := []) C0 hP hD hS hM hk hst (List.range ws.length) [] (zz_rg ws) rfl ⟨zz_nd_range _, rfl, fun _ h => by cases h⟩ hsz hstk hlen hroom hR hrc hrs hf hdg kk
end ZKFsv
section ZKFvv
variable {p : Program} {l : Launch} {e : Env} {R : Room} {s : State} {m : MethodId} {args : Array Value} {below : List Frame} {meth : Method} {c : Code} {H : Heap} {locs : List Loc} {cells slots : Nat} {Q : State → Prop}
/-- a call whose world is all of this one's -/
theorem zf_vv {S : Type} {D : va_G} {tys : List (ClassId × FieldType)} {A : Nat → Prop} {cc0 cc : ByteArray} {own : String} {idx nL maxL n pc : Nat} {y : MethodName} {ret ret0 : Option FieldType} {rm : Room} {b0 : Nat} {av rest st : List Value} {ws : va_W} {post : S → Prop} {w1 : S → va_W} {ls : Array Slot}
    (C0 : zX D tys p s m args meth c cc0 ret0 nL own A) (hP : va_P D vwCl ws H) (hD : va_D A ws) (hS : va_S A s.heap H locs)
    (hM : zc_v l D tys y cc maxL ret rm (.ref b0 :: av) ws post w1 0 0) (hk : zk_ok own idx y cc maxL ret n) (hin : Cond.instanceMethod y ∈ lw_gd ∧ Cond.selects y.cls y y ∈ lw_gd) (ci : Nat) {fs : List Value} {T : u_T} {N : Nat} (hcl : vwCl[ci]? = some (y.cls, T, N)) (q0 : Nat) (hrc0 : ws[q0]? = some (b0, .inr (ci, fs)))
    (hsz : ls.size = nL) (hstk : st = av.reverse ++ .ref b0 :: rest) (hlen : av.length = n) (hroom : (rest.map fun v => v.category).sum ≤ 8) (hR : rm.frames + 1 ≤ R.frames ∧ 8 + (maxL + 11) + rm.locals ≤ R.locals) (hrc : rm.cells = 0) (hrs : rm.slots = 0) (hf : cells ≤ R.cells ∧ slots ≤ R.slots) (hdg : decode cc0 pc = .ok (.invokevirtual idx, 3))
    (kk : ∀ (u : S) (H1 : Heap) (locs1 : List Loc), post u → va_P D vwCl (w1 u) H1 → va_D A (w1 u) → va_S A s.heap H1 locs1 → W p l e R s m args below meth c H1 locs1 cells slots Q (F0 m (pc + 3) ls (rest))) : W p l e R s m args below meth c H locs cells slots Q (F0 m pc ls st) :=
  zk_vv (wr := []) C0 hP hD hS hM hk hin.1 hin.2 ci hcl q0 hrc0 (List.range ws.length) [] (zz_rg ws) rfl ⟨zz_nd_range _, rfl, fun _ h => by cases h⟩ hsz hstk hlen hroom hR hrc hrs hf hdg kk
end ZKFvv
/-- a truth as an int -/
def zb (b : Bool) : Int32 := if b = true then 1 else 0
theorem zb_f {b : Bool} (h : zb b = 0) : b = false := by cases b; rfl; exact absurd h (by decide)
theorem zb_t {b : Bool} (h : ¬ zb b = 0) : b = true := by cases b; exact absurd rfl h; rfl
theorem zb_n (b : Bool) : narrow .boolean (.int (zb b)) = .int (zb b) := by cases b <;> rfl
section ZL
variable {p : Program} {l : Launch} {e : Env} {R : Room} {s : State} {m : MethodId} {args : Array Value} {below : List Frame} {meth : Method} {c : Code} {H : Heap} {locs : List Loc} {cells slots : Nat} {Q : State → Prop}
variable {cc : ByteArray} {x y : Int64} {pc tgt : Nat} {off : Int} {ls : Array Slot} {rest : List Value}
theorem zl_eq (hx : p.tables.exec = Jvm.exec) (hb : c.code = cc) (h1 : decode cc pc = .ok (.lcmp, 1)) (h2 : decode cc (pc + 1) = .ok (.ifCond .eq off, 3)) (ht : ((pc + 1 : Nat) : Int) + off = (tgt : Int)) (kt : x = y → W p l e R s m args below meth c H locs cells slots Q (F0 m tgt ls rest)) (kf : ¬ (x = y) → W p l e R s m args below meth c H locs cells slots Q (F0 m (pc + 4) ls rest)) : W p l e R s m args below meth c H locs cells slots Q (F0 m pc ls (.long y :: .long x :: rest)) :=
  W.lcmp hx hb h1 (lv_if_eq hx hb h2 ht (fun h => kt ((lg_cmp_eq x y).mp h)) (fun h => kf (fun z => h ((lg_cmp_eq x y).mpr z))))
theorem zl_ne (hx : p.tables.exec = Jvm.exec) (hb : c.code = cc) (h1 : decode cc pc = .ok (.lcmp, 1)) (h2 : decode cc (pc + 1) = .ok (.ifCond .ne off, 3)) (ht : ((pc + 1 : Nat) : Int) + off = (tgt : Int)) (kt : ¬ x = y → W p l e R s m args below meth c H locs cells slots Q (F0 m tgt ls rest)) (kf : x = y → W p l e R s m args below meth c H locs cells slots Q (F0 m (pc + 4) ls rest)) : W p l e R s m args below meth c H locs cells slots Q (F0 m pc ls (.long y :: .long x :: rest)) :=
  W.lcmp hx hb h1 (lv_if_ne hx hb h2 ht (fun h => kt ((not_congr (lg_cmp_eq x y)).mp h)) (fun h => kf ((lg_cmp_eq x y).mp h)))
theorem zl_lt (hx : p.tables.exec = Jvm.exec) (hb : c.code = cc) (h1 : decode cc pc = .ok (.lcmp, 1)) (h2 : decode cc (pc + 1) = .ok (.ifCond .lt off, 3)) (ht : ((pc + 1 : Nat) : Int) + off = (tgt : Int)) (kt : x < y → W p l e R s m args below meth c H locs cells slots Q (F0 m tgt ls rest)) (kf : ¬ (x < y) → W p l e R s m args below meth c H locs cells slots Q (F0 m (pc + 4) ls rest)) : W p l e R s m args below meth c H locs cells slots Q (F0 m pc ls (.long y :: .long x :: rest)) :=
  W.lcmp hx hb h1 (lv_if_lt hx hb h2 ht (fun h => kt ((lg_cmp_lt x y).mp h)) (fun h => kf (fun z => h ((lg_cmp_lt x y).mpr z))))
theorem zl_ge (hx : p.tables.exec = Jvm.exec) (hb : c.code = cc) (h1 : decode cc pc = .ok (.lcmp, 1)) (h2 : decode cc (pc + 1) = .ok (.ifCond .ge off, 3)) (ht : ((pc + 1 : Nat) : Int) + off = (tgt : Int)) (kt : y ≤ x → W p l e R s m args below meth c H locs cells slots Q (F0 m tgt ls rest)) (kf : ¬ (y ≤ x) → W p l e R s m args below meth c H locs cells slots Q (F0 m (pc + 4) ls rest)) : W p l e R s m args below meth c H locs cells slots Q (F0 m pc ls (.long y :: .long x :: rest)) :=
  W.lcmp hx hb h1 (lv_if_ge hx hb h2 ht (fun h => kt ((lg_cmp_ge x y).mp h)) (fun h => kf (fun z => h ((lg_cmp_ge x y).mpr z))))
theorem zl_gt (hx : p.tables.exec = Jvm.exec) (hb : c.code = cc) (h1 : decode cc pc = .ok (.lcmp, 1)) (h2 : decode cc (pc + 1) = .ok (.ifCond .gt off, 3)) (ht : ((pc + 1 : Nat) : Int) + off = (tgt : Int)) (kt : y < x → W p l e R s m args below meth c H locs cells slots Q (F0 m tgt ls rest)) (kf : ¬ (y < x) → W p l e R s m args below meth c H locs cells slots Q (F0 m (pc + 4) ls rest)) : W p l e R s m args below meth c H locs cells slots Q (F0 m pc ls (.long y :: .long x :: rest)) :=
  W.lcmp hx hb h1 (lv_if_gt hx hb h2 ht (fun h => kt ((lg_cmp_gt x y).mp h)) (fun h => kf (fun z => h ((lg_cmp_gt x y).mpr z))))
theorem zl_le (hx : p.tables.exec = Jvm.exec) (hb : c.code = cc) (h1 : decode cc pc = .ok (.lcmp, 1)) (h2 : decode cc (pc + 1) = .ok (.ifCond .le off, 3)) (ht : ((pc + 1 : Nat) : Int) + off = (tgt : Int)) (kt : x ≤ y → W p l e R s m args below meth c H locs cells slots Q (F0 m tgt ls rest)) (kf : ¬ (x ≤ y) → W p l e R s m args below meth c H locs cells slots Q (F0 m (pc + 4) ls rest)) : W p l e R s m args below meth c H locs cells slots Q (F0 m pc ls (.long y :: .long x :: rest)) :=
  W.lcmp hx hb h1 (lv_if_le hx hb h2 ht (fun h => kt ((lg_cmp_le x y).mp h)) (fun h => kf (fun z => h ((lg_cmp_le x y).mpr z))))
end ZL
section ZA
variable {p : Program} {l : Launch} {e : Env} {R : Room} {s : State} {m : MethodId} {args : Array Value} {below : List Frame} {meth : Method} {c : Code} {H : Heap} {locs : List Loc} {cells slots : Nat} {Q : State → Prop}
variable {D : va_G} {tys : List (ClassId × FieldType)} {A : Nat → Prop} {ws : va_W} {a n k pc : Nat} {cA : ClassId} {i : Int32} {cc : ByteArray} {ls : Array Slot} {rest : List Value}
theorem za_iald (hx : p.tables.exec = Jvm.exec) (hb : c.code = cc) (hK : va_K D vwCl tys s) (hP : va_P D vwCl ws H) (q0 t0 : Nat) {f : Nat → Int32} (ha : ws[q0]? = some (a, .inl (cA, n, .inl f))) (ht : tys[t0]? = some (cA, .int)) (hi : i = nI k) (hk : k < n) (hn : n < 2 ^ 31) {v : Int32} (hv : f k = v) (hdg : decode cc pc = .ok (.iaload, 1))
    (kk : W p l e R s m args below meth c H locs cells slots Q (F0 m (pc + 1) ls (.int v :: rest))) : W p l e R s m args below meth c H locs cells slots Q (F0 m pc ls (.int i :: .ref a :: rest)) := by
  subst hi
  refine va_iald hx hb hK hP q0 t0 ha ht (vp_in_nI hk hn) hdg ?_
  rw [nI_clamp (Nat.lt_trans hk hn), hv]
  exact kk
theorem za_lald (hx : p.tables.exec = Jvm.exec) (hb : c.code = cc) (hK : va_K D vwCl tys s) (hP : va_P D vwCl ws H) (q0 t0 : Nat) {f : Nat → Int64} (ha : ws[q0]? = some (a, .inl (cA, n, .inr (.inl f)))) (ht : tys[t0]? = some (cA, .long)) (hi : i = nI k) (hk : k < n) (hn : n < 2 ^ 31) {v : Int64} (hv : f k = v) (hdg : decode cc pc = .ok (.laload, 1))
    (kk : W p l e R s m args below meth c H locs cells slots Q (F0 m (pc + 1) ls (.long v :: rest))) : W p l e R s m args below meth c H locs cells slots Q (F0 m pc ls (.int i :: .ref a :: rest)) := by
  subst hi
  refine va_lald hx hb hK hP q0 t0 ha ht (vp_in_nI hk hn) hdg ?_
  rw [nI_clamp (Nat.lt_trans hk hn), hv]
  exact kk
theorem za_aald (hx : p.tables.exec = Jvm.exec) (hb : c.code = cc) (hK : va_K D vwCl tys s) (hP : va_P D vwCl ws H) (q0 t0 : Nat) {f : Nat → Option Nat} {C : String} {z : Nat} (ha : ws[q0]? = some (a, .inl (cA, n, .inr (.inr (.inr (.inr f)))))) (ht : tys[t0]? = some (cA, .object C)) (hi : i = nI k) (hk : k < n) (hn : n < 2 ^ 31) (hz : f k = some z) (hdg : decode cc pc = .ok (.aaload, 1))
    (kk : W p l e R s m args below meth c H locs cells slots Q (F0 m (pc + 1) ls (.ref z :: rest))) : W p l e R s m args below meth c H locs cells slots Q (F0 m pc ls (.int i :: .ref a :: rest)) := by
  subst hi
  refine va_aldq hx hb hK hP q0 t0 ha ht (vp_in_nI hk hn) hdg ?_
  rw [nI_clamp (Nat.lt_trans hk hn), hz]
  exact kk
theorem za_iast (hx : p.tables.exec = Jvm.exec) (hb : c.code = cc) (hK : va_K D vwCl tys s) (hP : va_P D vwCl ws H) (hD : va_D A ws) (hS : va_S A s.heap H locs) (q0 t0 : Nat) {f : Nat → Int32} {x : Int32} (ha : ws[q0]? = some (a, .inl (cA, n, .inl f))) (ht : tys[t0]? = some (cA, .int)) (hi : i = nI k) (hk : k < n) (hn : n < 2 ^ 31) (hdg : decode cc pc = .ok (.iastore, 1))
    (kk : ∀ (H1 : Heap) (locs1 : List Loc), va_P D vwCl (ws.set q0 (a, .inl (cA, n, .inl (upd f k x)))) H1 → va_D A (ws.set q0 (a, .inl (cA, n, .inl (upd f k x)))) → va_S A s.heap H1 locs1 → W p l e R s m args below meth c H1 locs1 cells slots Q (F0 m (pc + 1) ls rest)) : W p l e R s m args below meth c H locs cells slots Q (F0 m pc ls (.int x :: .int i :: .ref a :: rest)) := by
  subst hi
  refine va_iast hx hb hK hP hD hS q0 t0 ha ht (vp_in_nI hk hn) hdg ?_
  rw [nI_clamp (Nat.lt_trans hk hn)]
  exact kk
theorem za_last (hx : p.tables.exec = Jvm.exec) (hb : c.code = cc) (hK : va_K D vwCl tys s) (hP : va_P D vwCl ws H) (hD : va_D A ws) (hS : va_S A s.heap H locs) (q0 t0 : Nat) {f : Nat → Int64} {x : Int64} (ha : ws[q0]? = some (a, .inl (cA, n, .inr (.inl f)))) (ht : tys[t0]? = some (cA, .long)) (hi : i = nI k) (hk : k < n) (hn : n < 2 ^ 31) (hdg : decode cc pc = .ok (.lastore, 1))
    (kk : ∀ (H1 : Heap) (locs1 : List Loc), va_P D vwCl (ws.set q0 (a, .inl (cA, n, .inr (.inl (vp_updL f k x))))) H1 → va_D A (ws.set q0 (a, .inl (cA, n, .inr (.inl (vp_updL f k x))))) → va_S A s.heap H1 locs1 → W p l e R s m args below meth c H1 locs1 cells slots Q (F0 m (pc + 1) ls rest)) : W p l e R s m args below meth c H locs cells slots Q (F0 m pc ls (.long x :: .int i :: .ref a :: rest)) := by
  subst hi
  refine va_last hx hb hK hP hD hS q0 t0 ha ht (vp_in_nI hk hn) hdg ?_
  rw [nI_clamp (Nat.lt_trans hk hn)]
  exact kk
end ZA
/-- the frame: a contract over fewer cells is one over more -/
theorem zi_frame {S : Type} {l : Launch} {D : va_G} {tys : List (ClassId × FieldType)} {y : MethodName} {cc : ByteArray} {maxL : Nat} {ret : Option FieldType} {rm : Room} {av : List Value} {w0 ws wr : va_W} {post : Int32 → S → Prop} {w1 : S → va_W} {mc ms : Nat} (hM : zc_i l D tys y cc maxL ret rm av w0 post w1 mc ms)
    (isC isR : List Nat) (hC : isC.map (fun i => ws[i]?) = w0.map some) (hRr : isR.map (fun i => ws[i]?) = wr.map some) (hnd : va_nd isC = true ∧ va_nd isR = true ∧ ∀ i ∈ isR, i ∉ isC) : zc_i l D tys y cc maxL ret rm av ws post (fun u => wr ++ w1 u) mc ms := by
  intro sz
  have hsub : ∀ q, va_A w0 sz q → va_A ws sz q := by
    intro q hq
    rcases hq with ⟨k, e, hk⟩ | hq
    · left
      have h1 : w0[k]? = some (q, e) := hk
      have h2 : (isC.map (fun i => ws[i]?))[k]? = some (some (q, e)) := by rw [hC, List.getElem?_map, h1]; rfl
      rw [List.getElem?_map] at h2
      cases h3 : isC[k]? with
      | none => rw [h3] at h2; cases h2
      | some i => rw [h3] at h2; exact ⟨i, e, Option.some.inj h2⟩
    · exact Or.inr hq
  refine MetFree.mono (hM sz) (fun a U h => ?_) (fun _ _ _ _ _ h => h) (fun a U o t h hq => ?_)
  · obtain ⟨h0, h1, hP, hK, hD, hN⟩ := h
    exact ⟨h0, h1, hP.sub isC (zz_fm _ isC w0 hC), hK, hD.sub isC hnd.1 hC, hN⟩
  · obtain ⟨h0, h1, hP, hK, hD, hN⟩ := h
    obtain ⟨⟨⟨r, u, hoc, hp, hP1, hD1⟩, hF⟩, L, hL, hfr⟩ := hq
    have hD' : va_D (va_A ws sz) ws := hD.self
    obtain ⟨hP2, hD2⟩ := va_join (A0 := va_A ws sz) (H := U.heap) (H1 := t.heap) hP hD' isC isR hC hRr hnd.2.1 hnd.2.2 (fun q hq1 hq2 => hF.2 q hq1 (fun z => hq2 (by rw [h1]; exact z))) (fun q hq => hsub q (by rw [← h1]; exact hq)) hP1 (by rw [h1]; exact hD1)
    exact ⟨⟨⟨r, u, hoc, hp, hP2, hD2⟩, hF.1, fun q hq1 hq2 => hF.2 q hq1 (fun z => hq2 (hsub q z))⟩, L, hL, fun q hq => hsub _ (hfr q hq)⟩
/-- the frame: a contract over fewer cells is one over more -/
theorem zl_frame {S : Type} {l : Launch} {D : va_G} {tys : List (ClassId × FieldType)} {y : MethodName} {cc : ByteArray} {maxL : Nat} {ret : Option FieldType} {rm : Room} {av : List Value} {w0 ws wr : va_W} {post : Int64 → S → Prop} {w1 : S → va_W} {mc ms : Nat} (hM : zc_l l D tys y cc maxL ret rm av w0 post w1 mc ms)
    (isC isR : List Nat) (hC : isC.map (fun i => ws[i]?) = w0.map some) (hRr : isR.map (fun i => ws[i]?) = wr.map some) (hnd : va_nd isC = true ∧ va_nd isR = true ∧ ∀ i ∈ isR, i ∉ isC) : zc_l l D tys y cc maxL ret rm av ws post (fun u => wr ++ w1 u) mc ms := by
  intro sz
  have hsub : ∀ q, va_A w0 sz q → va_A ws sz q := by
    intro q hq
    rcases hq with ⟨k, e, hk⟩ | hq
    · left
      have h1 : w0[k]? = some (q, e) := hk
      have h2 : (isC.map (fun i => ws[i]?))[k]? = some (some (q, e)) := by rw [hC, List.getElem?_map, h1]; rfl
      rw [List.getElem?_map] at h2
      cases h3 : isC[k]? with
      | none => rw [h3] at h2; cases h2
      | some i => rw [h3] at h2; exact ⟨i, e, Option.some.inj h2⟩
    · exact Or.inr hq
  refine MetFree.mono (hM sz) (fun a U h => ?_) (fun _ _ _ _ _ h => h) (fun a U o t h hq => ?_)
  · obtain ⟨h0, h1, hP, hK, hD, hN⟩ := h
    exact ⟨h0, h1, hP.sub isC (zz_fm _ isC w0 hC), hK, hD.sub isC hnd.1 hC, hN⟩
  · obtain ⟨h0, h1, hP, hK, hD, hN⟩ := h
    obtain ⟨⟨⟨r, u, hoc, hp, hP1, hD1⟩, hF⟩, L, hL, hfr⟩ := hq
    have hD' : va_D (va_A ws sz) ws := hD.self
    obtain ⟨hP2, hD2⟩ := va_join (A0 := va_A ws sz) (H := U.heap) (H1 := t.heap) hP hD' isC isR hC hRr hnd.2.1 hnd.2.2 (fun q hq1 hq2 => hF.2 q hq1 (fun z => hq2 (by rw [h1]; exact z))) (fun q hq => hsub q (by rw [← h1]; exact hq)) hP1 (by rw [h1]; exact hD1)
    exact ⟨⟨⟨r, u, hoc, hp, hP2, hD2⟩, hF.1, fun q hq1 hq2 => hF.2 q hq1 (fun z => hq2 (hsub q z))⟩, L, hL, fun q hq => hsub _ (hfr q hq)⟩
/-- the frame: a contract over fewer cells is one over more -/
theorem zv_frame {S : Type} {l : Launch} {D : va_G} {tys : List (ClassId × FieldType)} {y : MethodName} {cc : ByteArray} {maxL : Nat} {ret : Option FieldType} {rm : Room} {av : List Value} {w0 ws wr : va_W} {post : S → Prop} {w1 : S → va_W} {mc ms : Nat} (hM : zc_v l D tys y cc maxL ret rm av w0 post w1 mc ms)
    (isC isR : List Nat) (hC : isC.map (fun i => ws[i]?) = w0.map some) (hRr : isR.map (fun i => ws[i]?) = wr.map some) (hnd : va_nd isC = true ∧ va_nd isR = true ∧ ∀ i ∈ isR, i ∉ isC) : zc_v l D tys y cc maxL ret rm av ws post (fun u => wr ++ w1 u) mc ms := by
  intro sz
  have hsub : ∀ q, va_A w0 sz q → va_A ws sz q := by
    intro q hq
    rcases hq with ⟨k, e, hk⟩ | hq
    · left
      have h1 : w0[k]? = some (q, e) := hk
      have h2 : (isC.map (fun i => ws[i]?))[k]? = some (some (q, e)) := by rw [hC, List.getElem?_map, h1]; rfl
      rw [List.getElem?_map] at h2
      cases h3 : isC[k]? with
      | none => rw [h3] at h2; cases h2
      | some i => rw [h3] at h2; exact ⟨i, e, Option.some.inj h2⟩
    · exact Or.inr hq
  refine MetFree.mono (hM sz) (fun a U h => ?_) (fun _ _ _ _ _ h => h) (fun a U o t h hq => ?_)
  · obtain ⟨h0, h1, hP, hK, hD, hN⟩ := h
    exact ⟨h0, h1, hP.sub isC (zz_fm _ isC w0 hC), hK, hD.sub isC hnd.1 hC, hN⟩
  · obtain ⟨h0, h1, hP, hK, hD, hN⟩ := h
    obtain ⟨⟨⟨u, hoc, hp, hP1, hD1⟩, hF⟩, L, hL, hfr⟩ := hq
    have hD' : va_D (va_A ws sz) ws := hD.self
    obtain ⟨hP2, hD2⟩ := va_join (A0 := va_A ws sz) (H := U.heap) (H1 := t.heap) hP hD' isC isR hC hRr hnd.2.1 hnd.2.2 (fun q hq1 hq2 => hF.2 q hq1 (fun z => hq2 (by rw [h1]; exact z))) (fun q hq => hsub q (by rw [← h1]; exact hq)) hP1 (by rw [h1]; exact hD1)
    exact ⟨⟨⟨u, hoc, hp, hP2, hD2⟩, hF.1, fun q hq1 hq2 => hF.2 q hq1 (fun z => hq2 (hsub q z))⟩, L, hL, fun q hq => hsub _ (hfr q hq)⟩
theorem zr_eq {s : State} {a b : ClassId} {ty : FieldType} (hna : ty = .int ∨ ty = .long) (h1 : va_RA s a ty) (h2 : va_RA s b ty) : a = b := by
  rcases hna with rfl | rfl <;> exact Option.some.inj (Eq.trans (Eq.symm h1) h2)
section ZNi
variable {p : Program} {l : Launch} {e : Env} {R : Room} {s : State} {m : MethodId} {args : Array Value} {below : List Frame} {meth : Method} {c : Code} {H : Heap} {locs : List Loc} {cells slots : Nat} {Q : State → Prop}
theorem za_newi {D : va_G} {tys : List (ClassId × FieldType)} {A : Nat → Prop} {ws : va_W} {cI : ClassId} {N t0 pc : Nat} {n : Int32} {cc : ByteArray} {ls : Array Slot} {rest : List Value} (hx : p.tables.exec = Jvm.exec) (hb : c.code = cc) (harr : (Cond.arrayClass .int).before args s = true) (hK : va_K D vwCl tys s) (ht : tys[t0]? = some (cI, .int)) (hP : va_P D vwCl ws H) (hD : va_D A ws) (hS : va_S A s.heap H locs) (hA : ∀ q : Nat, s.heap.size ≤ q → A q) (hn : n = nI N) (hN : N ≤ 100000) (hcells : cells + 1 ≤ R.cells) (hslots : slots + N ≤ R.slots) (hdg : decode cc pc = .ok (.newarray .int, 2))
    (kk : ∀ (q : Nat) (H1 : Heap), va_P D vwCl (ws ++ [(q, .inl (cI, N, .inl (fun _ => 0)))]) H1 → va_D A (ws ++ [(q, .inl (cI, N, .inl (fun _ => 0)))]) → va_S A s.heap H1 locs → W p l e R s m args below meth c H1 locs (cells + 1) (slots + N) Q (F0 m (pc + 2) ls (.ref q :: rest))) : W p l e R s m args below meth c H locs cells slots Q (F0 m pc ls (.int n :: rest)) := by
  subst hn
  refine va_newa (atype := .int) (ty := .int) (a0 := (N, .inl (fun _ => 0))) hx hb harr rfl hK hP hD hS hA (fun cA => rfl) (nI_pos (by omega)) (nI_clamp (by omega)) (by show N * _ ≤ _; simp only [componentBytes]; omega) hcells hslots hdg (fun q cA H1 hK1 hP1 hD1 hS1 => ?_)
  have e : cA = cI := zr_eq (by simp) (hK1.2 tys.length (cA, .int) (by simp)).2 (hK.2 t0 (cI, .int) ht).2
  subst e
  exact kk q H1 hP1 hD1 hS1
end ZNi
section ZNl
variable {p : Program} {l : Launch} {e : Env} {R : Room} {s : State} {m : MethodId} {args : Array Value} {below : List Frame} {meth : Method} {c : Code} {H : Heap} {locs : List Loc} {cells slots : Nat} {Q : State → Prop}
theorem za_newl {D : va_G} {tys : List (ClassId × FieldType)} {A : Nat → Prop} {ws : va_W} {cI : ClassId} {N t0 pc : Nat} {n : Int32} {cc : ByteArray} {ls : Array Slot} {rest : List Value} (hx : p.tables.exec = Jvm.exec) (hb : c.code = cc) (harr : (Cond.arrayClass .long).before args s = true) (hK : va_K D vwCl tys s) (ht : tys[t0]? = some (cI, .long)) (hP : va_P D vwCl ws H) (hD : va_D A ws) (hS : va_S A s.heap H locs) (hA : ∀ q : Nat, s.heap.size ≤ q → A q) (hn : n = nI N) (hN : N ≤ 100000) (hcells : cells + 1 ≤ R.cells) (hslots : slots + N ≤ R.slots) (hdg : decode cc pc = .ok (.newarray .long, 2))
    (kk : ∀ (q : Nat) (H1 : Heap), va_P D vwCl (ws ++ [(q, .inl (cI, N, .inr (.inl (fun _ => 0))))]) H1 → va_D A (ws ++ [(q, .inl (cI, N, .inr (.inl (fun _ => 0))))]) → va_S A s.heap H1 locs → W p l e R s m args below meth c H1 locs (cells + 1) (slots + N) Q (F0 m (pc + 2) ls (.ref q :: rest))) : W p l e R s m args below meth c H locs cells slots Q (F0 m pc ls (.int n :: rest)) := by
  subst hn
  refine va_newa (atype := .long) (ty := .long) (a0 := (N, .inr (.inl (fun _ => 0)))) hx hb harr rfl hK hP hD hS hA (fun cA => rfl) (nI_pos (by omega)) (nI_clamp (by omega)) (by show N * _ ≤ _; simp only [componentBytes]; omega) hcells hslots hdg (fun q cA H1 hK1 hP1 hD1 hS1 => ?_)
  have e : cA = cI := zr_eq (by simp) (hK1.2 tys.length (cA, .long) (by simp)).2 (hK.2 t0 (cI, .long) ht).2
  subst e
  exact kk q H1 hP1 hD1 hS1
end ZNl
section ZNq
variable {p : Program} {l : Launch} {e : Env} {R : Room} {s : State} {m : MethodId} {args : Array Value} {below : List Frame} {meth : Method} {c : Code} {H : Heap} {locs : List Loc} {cells slots : Nat} {Q : State → Prop}
theorem za_newq {D : va_G} {tys : List (ClassId × FieldType)} {A : Nat → Prop} {ws : va_W} {cI : ClassId} {C own : String} {N t0 pc index : Nat} {n : Int32} {cc : ByteArray} {ls : Array Slot} {rest : List Value} (hx : p.tables.exec = Jvm.exec) (hb : c.code = cc) (hown : s.vm.findClass own = some m.cls) (hcl : (Cond.classLink own index C).before args s = true) (hao : va_AO C s) (hK : va_K D vwCl tys s) (ht : tys[t0]? = some (cI, .object C)) (hP : va_P D vwCl ws H) (hD : va_D A ws) (hS : va_S A s.heap H locs) (hA : ∀ q : Nat, s.heap.size ≤ q → A q) (hn : n = nI N) (hN : N ≤ 100000) (hcells : cells + 1 ≤ R.cells) (hslots : slots + N ≤ R.slots) (hdg : decode cc pc = .ok (.anewarray index, 3))
    (kk : ∀ (q : Nat) (H1 : Heap), va_P D vwCl (ws ++ [(q, .inl (cI, N, .inr (.inr (.inr (.inr (fun _ => none))))))]) H1 → va_D A (ws ++ [(q, .inl (cI, N, .inr (.inr (.inr (.inr (fun _ => none))))))]) → va_S A s.heap H1 locs → W p l e R s m args below meth c H1 locs (cells + 1) (slots + N) Q (F0 m (pc + 3) ls (.ref q :: rest))) : W p l e R s m args below meth c H locs cells slots Q (F0 m pc ls (.int n :: rest)) := by
  subst hn
  refine va_newq hx hb hown hcl hao hK hP hD hS hA (nI_pos (by omega)) (nI_clamp (by omega)) (by omega) hcells hslots hdg (fun q cA H1 hK1 hP1 hD1 hS1 => ?_)
  obtain ⟨_, _, _, _, _, h1⟩ := (hK1.2 tys.length (cA, .object C) (by simp)).2
  obtain ⟨_, _, _, _, _, h2⟩ := (hK.2 t0 (cI, .object C) ht).2
  have e : cA = cI := Option.some.inj (h1.symm.trans h2)
  subst e
  exact kk q H1 hP1 hD1 hS1
end ZNq
/-- cells that are alike within their length are the same -/
theorem zq_cong {cA : ClassId} {n : Nat} {f g : Nat → Option Nat} (h : ∀ k, k < n → f k = g k) : vp_cell cA (n, .inr (.inr (.inr (.inr f)))) = vp_cell cA (n, .inr (.inr (.inr (.inr g)))) := by
  rw [vp_cell_q, vp_cell_q]
  unfold arrV
  have e : (fun j : Fin n => va_rf (f j.val)) = fun j : Fin n => va_rf (g j.val) := by
    funext j
    rw [h j.val j.isLt]
  show ({ cls := cA, slots := Array.ofFn (fun j : Fin n => va_rf (f j.val)), vm := .none } : Cell) = _
  rw [e]
theorem zp_set {D : va_G} {ws : va_W} {H : Heap} {k : Nat} {q : Nat} {x y : ClassId × vp_A} (hP : va_P D vwCl ws H) (hk : ws[k]? = some (q, .inl x)) (hxy : vp_cell x.1 x.2 = vp_cell y.1 y.2) : va_P D vwCl (ws.set k (q, .inl y)) H := by
  intro i z hz
  by_cases h : i = k
  · subst h
    rw [List.getElem?_set_self (List.getElem?_eq_some_iff.mp hk).1] at hz
    cases hz
    have := hP i _ hk
    show H[q]? = some (vp_cell y.1 y.2)
    rw [← hxy]
    exact this
  · rw [List.getElem?_set_ne (Ne.symm h)] at hz
    exact hP i z hz
theorem zd_set {A : Nat → Prop} {ws : va_W} {k : Nat} {q : Nat} {x y : va_E} (hD : va_D A ws) (hk : ws[k]? = some (q, x)) : va_D A (ws.set k (q, y)) := va_D.set hD hk
section ZKN
variable {p : Program} {l : Launch} {e : Env} {R : Room} {s : State} {m : MethodId} {args : Array Value} {below : List Frame} {meth : Method} {c : Code} {H : Heap} {locs : List Loc} {cells slots : Nat} {Q : State → Prop}
/-- a constructor of a nest mate -/
theorem zk_xvN {S : Type} {D : va_G} {tys : List (ClassId × FieldType)} {A : Nat → Prop} {cc0 cc : ByteArray} {own host : String} {idx nL maxL n mc ms pc : Nat} {y : MethodName} {ret0 : Option FieldType} {rm : Room} {b0 : Nat} {av rest st : List Value} {w0 ws wr : va_W} {post : S → Prop} {w1 : S → va_W} {ls : Array Slot}
    (C0 : zX D tys p s m args meth c cc0 ret0 nL own A) (hP : va_P D vwCl ws H) (hD : va_D A ws) (hS : va_S A s.heap H locs)
    (hM : zc_v l D tys y cc maxL none rm (.ref b0 :: av) w0 post w1 mc ms) (hcode : Cond.code y cc maxL none ∈ lw_gd) (hini : Cond.initialized y.cls ∈ lw_gd) (hlk : va_Nw (.methodLinkNest own idx y host) s) (hin : Cond.instanceMethod y ∈ lw_gd) (hnm : y.name = "<init>") (hd : y.cls ≠ "java/lang/invoke/MethodHandle" ∧ y.cls ≠ "java/lang/invoke/VarHandle" ∧ (parseMethodDescriptor y.desc).map (fun d => d.parameters.length) = some n)
    (isC isR : List Nat) (hC : isC.map (fun i => ws[i]?) = w0.map some) (hRr : isR.map (fun i => ws[i]?) = wr.map some) (hnd : va_nd isC = true ∧ va_nd isR = true ∧ ∀ i ∈ isR, i ∉ isC)
    (hsz : ls.size = nL) (hstk : st = av.reverse ++ .ref b0 :: rest) (hlen : av.length = n) (hroom : (rest.map fun v => v.category).sum ≤ 8) (hR : rm.frames + 1 ≤ R.frames ∧ 8 + (maxL + 11) + rm.locals ≤ R.locals) (hrc : rm.cells = mc) (hrs : rm.slots = ms) (hf : cells + mc ≤ R.cells ∧ slots + ms ≤ R.slots) (hdg : decode cc0 pc = .ok (.invokespecial idx, 3))
    (kk : ∀ (u : S) (H1 : Heap) (locs1 : List Loc), post u → va_P D vwCl (wr ++ w1 u) H1 → va_D A (wr ++ w1 u) → va_S A s.heap H1 locs1 → W p l e R s m args below meth c H1 locs1 (cells + mc) (slots + ms) Q (F0 m (pc + 3) ls rest)) : W p l e R s m args below meth c H locs cells slots Q (F0 m pc ls st) := by
  obtain ⟨hx, hb, hr, hml, hlocks, hown, hts, hK, hA, hN⟩ := C0
  have hPc : va_P D vwCl w0 H := hP.sub isC (zz_fm _ isC w0 hC)
  have hDc : va_D A w0 := hD.sub isC hnd.1 hC
  have hFc := va_free (wc := w0) hD hS hA isC hC
  have hroom : 2 * (F0 m pc ls st).monitorRoom + (rest.map fun v => v.category).sum ≤ 8 := lv_room hroom
  refine va_callv (va_runIN (b := b0) (As := av) (rest := rest) ⟨hx, hb, hml, hown, hts⟩ (hM H.size) ⟨va_cnB n hts (zk_good hcode) rfl hrc hrs hlk (hts _ hini) hd hR, hnm, hts _ hin⟩ ⟨zc_blind D tys (.ref b0 :: av) w0 H.size, fun U hU hW => ⟨rfl, by rw [hU], by rw [hU]; exact hPc, va_K.moved hW.alike hK, hDc.weaken (fun _ _ _ _ => trivial), zN_warm hW hN⟩⟩ rfl hlen hsz hstk hroom hdg hf) hS (fun q _ h => hFc q h) hFc (fun u t H1 locs1 ht hvm hw hB hz1 hk1 hS1 => ?_)
  obtain ⟨hP1, hD1⟩ := hB
  rw [ht] at hP1
  obtain ⟨hP2, hD2⟩ := va_join hP hD isC isR hC hRr hnd.2.1 hnd.2.2 hk1 hFc hP1 hD1
  exact kk u H1 locs1 hw hP2 hD2 hS1
end ZKN
