section WTH
variable {p : Program} {l : Launch} {e : Env} {R : Room} {s : State} {m : MethodId} {args : Array Value} {below : List Frame} {meth : Method} {c : Code} {cells slots : Nat} {Q : State → Prop}
variable {cc : ByteArray} {own : String} {Ts : List Cond} {nL pc : Nat} {D : va_G} {cl : List vw_C} {tys : List (ClassId × FieldType)} {A : Nat → Prop} {z z' : Bool} {lv lv' : List (Nat × Value)} {st st0 : List Value} {ws ws' w w' : va_W}
/-- thrown: a new E, and the world -/
def XCt (D : va_G) (cl : List vw_C) (tys : List (ClassId × FieldType)) (A : Nat → Prop) (E : String) (w' : va_W) : String → State → State → Prop := vx_X (fun (_ : Unit) => True) (fun E9 _ t => E9 = E ∧ va_P D cl w' t.heap ∧ va_K D cl tys t ∧ va_D A w') A
def QNo (A : Nat → Prop) : Array Value → State → Outcome → State → Prop := va_Qi (fun (_ : Int32) (_ : Unit) => False) (fun _ _ => True) A
/-- a contract: called with av in a world w, it throws a new E, and the world is w' -/
def Ct (l : Launch) (y : MethodName) (wy : List Cond) (fr lo ms : Nat) (D : va_G) (cl : List vw_C) (tys : List (ClassId × FieldType)) (z : Bool) (av : List Value) (w : va_W) (E : String) (w' : va_W) : Prop := ∀ sz : Nat, vx_Met l y wy ({ frames := fr, cells := 1, slots := ms, locals := lo } : Room) (va_Pc av (PreC D cl tys z w sz)) (QNo (va_A w sz)) (XCt D cl tys (va_A w sz) E w') 1 ms (va_A w sz)
def QRt (below : List Frame) (args : Array Value) (s : State) (D : va_G) (cl : List vw_C) (tys : List (ClassId × FieldType)) (A : Nat → Prop) (ms : Nat) (E : String) (w' : va_W) : State → Prop := vx_MQ below (QNo A) (XCt D cl tys A E w') args s 1 ms A
theorem Ct.of {y : MethodName} {wy wy0 : List Cond} {fr lo ms maxL : Nat} {ty : FieldType} {av : List Value} {E : String} (own : String) (ho : y.cls = own) (hy : plainName y.cls = true) (hw : wy = Cond.code y cc maxL (some ty) :: wy0) (hn : (lg_sl av).length ≤ maxL)
    (body : ∀ (p : Program) (e : Env) (s : State) (m : MethodId) (args : Array Value) (below : List Frame) (meth : Method) (c : Code) (A : Nat → Prop), Cx p s m args c cc own wy maxL D cl tys A z → (∀ x ∈ c.exceptionTable.toList, False) → meth.locks = false → Wk p l e ({ frames := fr, cells := 1, slots := ms, locals := lo } : Room) s m args below meth c 0 0 (QRt below args s D cl tys A ms E w') maxL D cl A 0 (lv_args 0 av) [] w) : Ct l y wy fr lo ms D cl tys z av w E w' := by
  intro sz
  refine vx_ofW (cc := cc) (maxL := maxL) (ret := (some ty)) hy hw ?_
  intro p e s m args below meth c s₁ B hml htab hv
  obtain ⟨rfl, hsz, hP, hK, hD0, hz⟩ := hv
  subst hsz
  subst ho
  have hown : s.vm.findClass y.cls = some m.cls := findClass_of_methodNamed B.named
  have hts := atoms_spec (ws := wy) B.pre
  have hD := hD0.self (sz := s.heap.size)
  have hl := lv_entry av (n := maxL) hn
  rw [lg_entry_eq]
  exact body p e s m _ below meth c _ ⟨B.exec, B.bytes, hml, hown, hts, hK, fun q h => Or.inr h, hz⟩ htab B.notSynchronized s.heap [] _ hP hD va_S.rf hl
theorem XCt.here {H : Heap} {locs : List Loc} {E : String} (X : Cx p s m args c cc own Ts nL D cl tys A z) (hP : va_P D cl w' H) (hD : va_D A w') (hS : va_S A s.heap H locs) (t : State) (h1 : s.vm.Alike t.vm) (h2 : H.size ≤ t.heap.size) (h3 : ∀ q : Nat, q < H.size → t.heap[q]? = H[q]?) : XCt D cl tys A E w' E s t :=
  ⟨(), trivial, ⟨rfl, hP.kept (fun k q hk => h3 q.1 (hP k q hk).lt), va_K.moved h1 X.k, hD⟩, Nat.le_trans hS.1 h2, fun q h4 h5 => (h3 q (Nat.lt_of_lt_of_le h4 hS.1)).trans (hS.2.1 q h4 h5)⟩
theorem Wk.throwS (X : Cx p s m args c cc own Ts nL D cl tys A z) (htab : ∀ x ∈ c.exceptionTable.toList, False) (hk : meth.locks = false) (hl : l.stackTraces = false) {cls text : String} {names : List String} {ik is ic ms sa : Nat}
    (hcls : Bundle.fit cls = true) (hnames : names.all Bundle.fit = true) (hlk : (Cond.classLink own ik cls).before args s = true) (hini : (Cond.initialized cls).before args s = true) (hstr : vk_R own is text sa s) (hat : ∀ w ∈ vx_atS own ic cls names, w.before args s = true)
    (hgood : (Cond.classLink own ik cls :: Cond.initialized cls :: vx_atS own ic cls names).all vx_ot = true)
    (hU : vx_Zq Bundle.tN "UNASSIGNED_STACK" Bundle.steD A s s.heap) (hN : vx_Zq Bundle.tN "SUPPRESSED_SENTINEL" Bundle.listD A s s.heap)
    (d0 : decode cc pc = .ok (.new ik, 3)) (d3 : decode cc (pc + 3) = .ok (.dup, 1)) (d4 : decode cc (pc + 4) = .ok (.ldc is, 2)) (d6 : decode cc (pc + 6) = .ok (.invokespecial ic, 3)) (d9 : decode cc (pc + 9) = .ok (.athrow, 1))
    (hR : names.length + 3 < R.frames ∧ 13 * (names.length + 1) + 43 ≤ R.locals ∧ 1 ≤ R.cells ∧ 6 ≤ R.slots ∧ 6 ≤ ms) (hw : ws = w') : Wk p l e R s m args below meth c 0 0 (QRt below args s D cl tys A ms cls w') nL D cl A pc lv [] ws := by
  intro H locs ls hP hD hS hl9
  subst hw
  exact vx_throwS X.x X.b hl X.o hcls (List.all_eq_true.mp hnames) hlk hini hstr hat (List.all_eq_true.mp hgood) hU hN hS (hl9.1.trans X.ml.symm) d0 d3 d4 d6 d9 (fun x h => (htab x h).elim) hR.1
    (by have := hR.2.1; simpa using this) (by omega) (by omega) hk (XCt.here X hP hD hS) hS.2.2 (by omega) (by omega)
theorem Wk.throwN (X : Cx p s m args c cc own Ts nL D cl tys A z) (htab : ∀ x ∈ c.exceptionTable.toList, False) (hk : meth.locks = false) (hl : l.stackTraces = false) {text : String} {ik is ic ms sa : Nat}
    (hlk : (Cond.classLink own ik Bundle.nN).before args s = true) (hini : (Cond.initialized Bundle.nN).before args s = true) (hstr : vk_R own is text sa s) (hat : ∀ w ∈ nq_atS own ic, w.before args s = true)
    (hgood : (Cond.classLink own ik Bundle.nN :: Cond.initialized Bundle.nN :: nq_atS own ic).all vx_ot = true)
    (hU : vx_Zq Bundle.tN "UNASSIGNED_STACK" Bundle.steD A s s.heap) (hN : vx_Zq Bundle.tN "SUPPRESSED_SENTINEL" Bundle.listD A s s.heap)
    (d0 : decode cc pc = .ok (.new ik, 3)) (d3 : decode cc (pc + 3) = .ok (.dup, 1)) (d4 : decode cc (pc + 4) = .ok (.ldc is, 2)) (d6 : decode cc (pc + 6) = .ok (.invokespecial ic, 3)) (d9 : decode cc (pc + 9) = .ok (.athrow, 1))
    (hR : 6 < R.frames ∧ 96 ≤ R.locals ∧ 1 ≤ R.cells ∧ 8 ≤ R.slots ∧ 8 ≤ ms) (hw : ws = w') : Wk p l e R s m args below meth c 0 0 (QRt below args s D cl tys A ms Bundle.nN w') nL D cl A pc lv [] ws := by
  intro H locs ls hP hD hS hl9
  subst hw
  exact nq_throwS X.x X.b hl X.o hlk hini hstr hat (List.all_eq_true.mp hgood) hU hN hS (hl9.1.trans X.ml.symm) d0 d3 d4 d6 d9 (fun x h => (htab x h).elim) hR.1
    (by have := hR.2.1; simpa using this) (by omega) (by omega) hk (XCt.here X hP hD hS) hS.2.2 (by omega) (by omega)
/-- a call that throws, caught here -/
theorem Wk.callVt (X : Cx p s m args c cc own Ts nL D cl tys A z) {index fr lo ms maxL : Nat} {bytes : ByteArray} {y : MethodName} {wy wy0 : List Cond} {ret : Option FieldType} {E name : String} {As : List Value} {n : Nat} {b q0 ci N : Nat} {C : String} {T : u_T} {fs : List Value} (hM : Ct l y wy fr lo ms D cl tys z' (.ref b :: As) w E w') (hg : GoodIn Ts (wsV own index C y wy)) (hwy : wy = Cond.code y bytes maxL ret :: wy0)
    (hd : y.cls = C ∧ y.cls ≠ "java/lang/invoke/MethodHandle" ∧ y.cls ≠ "java/lang/invoke/VarHandle" ∧ (parseMethodDescriptor y.desc).map (fun d => d.parameters.length) = some n) (hR : fr + 1 ≤ R.frames ∧ 8 + (maxL + 11) + lo ≤ R.locals) (F : Fr D cl ws w w' ws') (hz : z' = true → z = true) (hc : cl[ci]? = some (C, T, N)) (he : ws[q0]? = some (b, .inr (ci, fs))) (hn : As.length = n) (hst : st0 = As.reverse ++ .ref b :: st) (hrm : (st.map fun v => v.category).sum ≤ 8) (hcs : cells + 1 ≤ R.cells ∧ slots + ms ≤ R.slots)
    (pre : List ExceptionTableEntry) (x : ExceptionTableEntry) (suf : List ExceptionTableEntry) (hsplit : c.exceptionTable.toList = pre ++ x :: suf) (hpass : ∀ y ∈ pre, covers y pc = false ∨ (y.catchType ≠ 0 ∧ ∃ nm : String, (Cond.classLink own y.catchType nm).before args s = true ∧ va_Nc E nm s)) (hx : covers x pc = true) (h0 : x.catchType ≠ 0)
    (hlink : (Cond.classLink own x.catchType name).before args s = true) (hcast : (Cond.castable E name).before args s = true) (tgt : Nat) (htg : x.handlerPc = tgt)
    (d : decode cc pc = .ok (.invokevirtual index, 3)) (k : ∀ q : Nat, Wk p l e R s m args below meth c (cells + 1) (slots + ms) Q nL D cl A tgt lv [.ref q] ws') : Wk p l e R s m args below meth c (cells) (slots) Q nL D cl A (pc) (lv) (st0) (ws) := by
  subst hst
  subst htg
  intro H locs ls hP hD hS hl
  have hPc := F.1 H hP
  have hDc := F.2.1 A hD
  have hFc := X.free hS hDc
  have hrun := vx_runV (As := As) (rest := st) (g := F0 m pc ls (As.reverse ++ .ref b :: st)) (e := e) (below := below) (meth := meth) (locs := locs) (H := H) (cells := cells) (slots := slots) ⟨X.x, X.b, X.ml, X.o, X.w⟩ (hM H.size) (cwV (R := R) n X.w hg hwy rfl rfl hd hR) ⟨PreC.blind, va_recv X.k hP hc he, fun U hU hW => X.pre hS hFc hPc hDc hz hU hW⟩ rfl hn hl.1 rfl (lv_room hrm) d hcs
  refine vx_calli (S := Unit) (SX := Unit) (post := fun _ _ => False) (px := fun _ => True) (B := fun _ _ => True) (BX := fun E9 _ t => E9 = E ∧ va_P D cl w' t.heap ∧ va_K D cl tys t ∧ va_D (va_A w H.size) w') (AX := va_A w H.size) (A1 := va_A w H.size) hrun hS (fun q _ h => hFc q h) hFc (fun q _ h => hFc q h) ?_ (fun r u t H1 locs1 _ _ hf => hf.elim)
  intro E9 ce q9 u t H1 locs1 ht hvm _ hB hz1 hk1 hS1 hce hcv hcl
  obtain ⟨rfl, hP1, hK1, hD1⟩ := hB
  rw [ht] at hP1
  obtain ⟨hP2, hD2⟩ := F.2.2 A H H1 hP hD hk1 hFc hP1 hD1
  exact vx_catch X.o pre x suf hsplit hpass hx h0 hlink hcast hce hcv hcl (k q9 H1 locs1 ls hP2 hD2 hS1 hl)
/-- an int method that may make cells -/
def Cj (l : Launch) (y : MethodName) (wy : List Cond) (fr lo mc ms : Nat) (D : va_G) (cl : List vw_C) (tys : List (ClassId × FieldType)) (z : Bool) (av : List Value) (w : va_W) (r : Int32) (w' : va_W) : Prop := ∀ sz : Nat, Met l y wy ({ frames := fr, cells := mc, slots := ms, locals := lo } : Room) (va_Pc av (PreC D cl tys z w sz)) (va_Qi (fun (x : Int32) (_ : Unit) => x = r) (fun _ t => va_P D cl w' t.heap ∧ va_K D cl tys t ∧ va_D (va_A w sz) w') (va_A w sz)) mc ms (va_A w sz)
def QRj (below : List Frame) (args : Array Value) (s : State) (D : va_G) (cl : List vw_C) (tys : List (ClassId × FieldType)) (A : Nat → Prop) (mc ms : Nat) (r : Int32) (w' : va_W) : State → Prop := MQ below (va_Qi (fun (x : Int32) (_ : Unit) => x = r) (fun _ t => va_P D cl w' t.heap ∧ va_K D cl tys t ∧ va_D A w') A) args s mc ms A
theorem Cj.ofW {y : MethodName} {wy wy0 : List Cond} {fr lo mc ms maxL : Nat} {ty : FieldType} {av : List Value} {r : Int32} {hh : List (Nat × Nat × Nat × Nat)} (own : String) (ho : y.cls = own) (hy : plainName y.cls = true) (hw : wy = Cond.codeWith y cc maxL (some ty) hh :: wy0) (hn : (lg_sl av).length ≤ maxL)
    (body : ∀ (p : Program) (e : Env) (s : State) (m : MethodId) (args : Array Value) (below : List Frame) (meth : Method) (c : Code) (A : Nat → Prop), Cx p s m args c cc own wy maxL D cl tys A z → meth.sig.returnType = (some ty) → meth.locks = false → c.exceptionTable.toList = tableOf hh → Wk p l e ({ frames := fr, cells := mc, slots := ms, locals := lo } : Room) s m args below meth c 0 0 (QRj below args s D cl tys A mc ms r w') maxL D cl A 0 (lv_args 0 av) [] w) : Cj l y wy fr lo mc ms D cl tys z av w r w' := by
  intro sz
  refine va_MetW (cc := cc) (maxL := maxL) (ret := (some ty)) (hh := hh) hy hw ?_
  intro p e s m args below meth c s₁ B hml hv
  obtain ⟨rfl, hsz, hP, hK, hD0, hz⟩ := hv
  subst hsz
  subst ho
  have hown : s.vm.findClass y.cls = some m.cls := findClass_of_methodNamed B.named
  have hts := atoms_spec (ws := wy) B.pre
  have hD := hD0.self (sz := s.heap.size)
  have hl := lv_entry av (n := maxL) hn
  have htab := vx_table (x := y) B (hts _ (by rw [hw]; exact List.mem_cons_self))
  rw [lg_entry_eq]
  exact body p e s m _ below meth c _ ⟨B.exec, B.bytes, hml, hown, hts, hK, fun q h => Or.inr h, hz⟩ B.returns B.notSynchronized htab s.heap [] _ hP hD va_S.rf hl
theorem Wk.jret (X : Cx p s m args c cc own Ts nL D cl tys A z) (hr : meth.sig.returnType = some .int) (hk : meth.locks = false) {mc ms : Nat} {v r : Int32} (h : v = r) (hw : ws = w') (hc : cells ≤ mc) (hs : slots ≤ ms) (d : decode cc pc = .ok (.ireturn, 1)) : Wk p l e R s m args below meth c cells slots (QRj below args s D cl tys A mc ms r w') nL D cl A pc lv [.int v] ws := fun H locs ls hP hD hS hl => W.widen hc hs (W.iret X.x X.b hr (fun t ht hW => ⟨⟨v, (), rfl, h, by rw [ht]; exact hw ▸ hP, va_K.moved hW.alike X.k, hw ▸ hD⟩, hS.F ht⟩) hS.2.2 d hk)
theorem Wk.callSj (X : Cx p s m args c cc own Ts nL D cl tys A z) {index fr lo mc ms maxL : Nat} {bytes : ByteArray} {y : MethodName} {wy wy0 : List Cond} {ret : Option FieldType} {hh : List (Nat × Nat × Nat × Nat)} {r : Int32} {As : List Value} {n : Nat} (hM : Cj l y wy fr lo mc ms D cl tys z' As w r w') (hg : GoodIn Ts (va_wsS own index y wy)) (hwy : wy = Cond.codeWith y bytes maxL ret hh :: wy0)
    (hd : y.cls ≠ "java/lang/invoke/MethodHandle" ∧ y.cls ≠ "java/lang/invoke/VarHandle" ∧ (parseMethodDescriptor y.desc).map (fun d => d.parameters.length) = some n) (hR : fr + 1 ≤ R.frames ∧ 8 + (maxL + 11) + lo ≤ R.locals) (F : Fr D cl ws w w' ws') (hz : z' = true → z = true) (hn : As.length = n) (hst : st0 = As.reverse ++ st) (hrm : (st.map fun v => v.category).sum ≤ 8) (hcs : cells + mc ≤ R.cells ∧ slots + ms ≤ R.slots)
    (d : decode cc pc = .ok (.invokestatic index, 3)) (k : Wk p l e R s m args below meth c (cells + mc) (slots + ms) Q nL D cl A (pc + 3) (lv) (.int r :: st) (ws')) : Wk p l e R s m args below meth c (cells) (slots) Q nL D cl A (pc) (lv) (st0) (ws) := by
  subst hst
  intro H locs ls hP hD hS hl
  have hPc := F.1 H hP
  have hDc := F.2.1 A hD
  have hFc := X.free hS hDc
  refine va_calli (vx_runSW (As := As) (rest := st) ⟨X.x, X.b, X.ml, X.o, X.w⟩ (hM H.size) (vx_cwSW n X.w hg hwy rfl rfl hd hR) ⟨PreC.blind, fun U hU hW => X.pre hS hFc hPc hDc hz hU hW⟩ rfl hn hl.1 rfl (lv_room hrm) d hcs) hS (fun q _ h => hFc q h) hFc (fun r1 u t H1 locs1 ht hvm hw hB hz1 hk1 hS1 => ?_)
  obtain ⟨hP1, hK1, hD1⟩ := hB
  rw [ht] at hP1
  subst hw
  obtain ⟨hP2, hD2⟩ := F.2.2 A H H1 hP hD hk1 hFc hP1 hD1
  exact k H1 locs1 ls hP2 hD2 hS1 hl
end WTH
