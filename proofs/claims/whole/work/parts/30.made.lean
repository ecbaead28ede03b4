section WM0
variable {p : Program} {l : Launch} {e : Env} {R : Room} {s : State} {m : MethodId} {args : Array Value} {below : List Frame} {meth : Method} {c : Code} {cells slots : Nat} {Q : State → Prop}
variable {cc : ByteArray} {own : String} {Ts : List Cond} {nL pc : Nat} {D : va_G} {cl : List vw_C} {tys : List (ClassId × FieldType)} {A : Nat → Prop} {z z' : Bool} {lv lv' : List (Nat × Value)} {st st0 : List Value} {ws ws' w w' : va_W}
theorem toF {is : List Nat} {a b : va_W} (h : is.map (fun i => a[i]?) = b.map some) : is.filterMap (fun i => a[i]?) = b := by
  have h2 : (is.map (fun i => a[i]?)).filterMap id = (b.map some).filterMap id := by rw [h]
  rw [List.filterMap_map, List.filterMap_map] at h2
  simpa using h2
/-- the world's cells in another order, or fewer -/
theorem Wk.perm (is : List Nat) (hp : is.map (fun i => ws[i]?) = ws'.map some) (hn : va_nd is = true) (k : Wk p l e R s m args below meth c (cells) (slots) Q nL D cl A (pc) (lv) (st) (ws')) : Wk p l e R s m args below meth c (cells) (slots) Q nL D cl A (pc) (lv) (st) (ws) := fun H locs ls hP hD hS hl => k H locs ls (hP.sub is (toF hp)) (hD.sub is hn hp) hS hl
theorem Wk.objInit (X : Cx p s m args c cc own Ts nL D cl tys A z) {idx a : Nat} (hlink : (Cond.methodLink own idx objectInit).before args s = true) (hinst : (Cond.instanceMethod objectInit).before args s = true) (hcode : (Cond.code objectInit ⟨#[0xb1]⟩ 1 none).before args s = true) (d : decode cc pc = .ok (.invokespecial idx, 3)) (hf : 1 ≤ R.frames) (hlo : (st.map fun v => v.category).sum + 12 ≤ R.locals) (k : Wk p l e R s m args below meth c (cells) (slots) Q nL D cl A (pc + 3) (lv) (st) (ws)) : Wk p l e R s m args below meth c (cells) (slots) Q nL D cl A (pc) (lv) (.ref a :: st) (ws) := fun H locs ls hP hD hS hl => W.objInit X.x X.b X.o hlink hinst hcode rfl (hl.1.trans X.ml.symm) rfl d hf (by show 2 * 0 + _ + 12 ≤ _; omega) (W.eq (g2 := F0 m (pc + 3) ls st) rfl (k H locs ls hP hD hS hl))
theorem Wk.newaI (X : Cx p s m args c cc own Ts nL D cl tys A z) {n : Nat} {cA : ClassId} (t0 : Nat) (harr : (Cond.arrayClass .int).before args s = true) (ht : tys[t0]? = some (cA, .int)) (hn : n < 2 ^ 20) (hcells : cells + 1 ≤ R.cells) (hslots : slots + n ≤ R.slots) (d : decode cc pc = .ok (.newarray .int, 2)) (k : ∀ q : Nat, Wk p l e R s m args below meth c (cells + 1) (slots + n) Q nL D cl A (pc + 2) (lv) (.ref q :: st) (ws ++ [(q, .inl (cA, n, .inl (fun _ => (0 : Int32))))])) : Wk p l e R s m args below meth c (cells) (slots) Q nL D cl A (pc) (lv) (.int (nI n) :: st) (ws) := by
  intro H locs ls hP hD hS hl
  refine va_newa (a0 := (n, .inl (fun _ => 0))) (N' := n) (ty := .int) X.x X.b (atype := .int) harr rfl X.k hP hD hS X.a (fun _ => rfl) (nI_pos (by omega)) (nI_clamp (by omega)) (by show n * 4 ≤ 536870912; omega) hcells hslots d (fun q cB H1 hK1 hP1 hD1 hS1 => ?_)
  have e1 : s.vm.findClass ("[" ++ FieldType.toString .int) = some cB := (hK1.2 tys.length (cB, .int) (by simp)).2
  have e2 : s.vm.findClass ("[" ++ FieldType.toString .int) = some cA := (X.k.2 t0 (cA, .int) ht).2
  cases Option.some.inj (e1.symm.trans e2)
  exact k q H1 locs ls hP1 hD1 hS1 hl
theorem Wk.newaJ (X : Cx p s m args c cc own Ts nL D cl tys A z) {n : Nat} {cA : ClassId} (t0 : Nat) (harr : (Cond.arrayClass .long).before args s = true) (ht : tys[t0]? = some (cA, .long)) (hn : n < 2 ^ 20) (hcells : cells + 1 ≤ R.cells) (hslots : slots + n ≤ R.slots) (d : decode cc pc = .ok (.newarray .long, 2)) (k : ∀ q : Nat, Wk p l e R s m args below meth c (cells + 1) (slots + n) Q nL D cl A (pc + 2) (lv) (.ref q :: st) (ws ++ [(q, .inl (cA, n, .inr (.inl (fun _ => (0 : Int64)))))])) : Wk p l e R s m args below meth c (cells) (slots) Q nL D cl A (pc) (lv) (.int (nI n) :: st) (ws) := by
  intro H locs ls hP hD hS hl
  refine va_newa (a0 := (n, .inr (.inl (fun _ => 0)))) (N' := n) (ty := .long) X.x X.b (atype := .long) harr rfl X.k hP hD hS X.a (fun _ => rfl) (nI_pos (by omega)) (nI_clamp (by omega)) (by show n * 8 ≤ 536870912; omega) hcells hslots d (fun q cB H1 hK1 hP1 hD1 hS1 => ?_)
  have e1 : s.vm.findClass ("[" ++ FieldType.toString .long) = some cB := (hK1.2 tys.length (cB, .long) (by simp)).2
  have e2 : s.vm.findClass ("[" ++ FieldType.toString .long) = some cA := (X.k.2 t0 (cA, .long) ht).2
  cases Option.some.inj (e1.symm.trans e2)
  exact k q H1 locs ls hP1 hD1 hS1 hl
theorem Wk.newaZ (X : Cx p s m args c cc own Ts nL D cl tys A z) {n : Nat} {cA : ClassId} (t0 : Nat) (harr : (Cond.arrayClass .boolean).before args s = true) (ht : tys[t0]? = some (cA, .boolean)) (hn : n < 2 ^ 20) (hcells : cells + 1 ≤ R.cells) (hslots : slots + n ≤ R.slots) (d : decode cc pc = .ok (.newarray .boolean, 2)) (k : ∀ q : Nat, Wk p l e R s m args below meth c (cells + 1) (slots + n) Q nL D cl A (pc + 2) (lv) (.ref q :: st) (ws ++ [(q, .inl (cA, n, .inl (fun _ => (0 : Int32))))])) : Wk p l e R s m args below meth c (cells) (slots) Q nL D cl A (pc) (lv) (.int (nI n) :: st) (ws) := by
  intro H locs ls hP hD hS hl
  refine va_newa (a0 := (n, .inl (fun _ => 0))) (N' := n) (ty := .boolean) X.x X.b (atype := .boolean) harr rfl X.k hP hD hS X.a (fun _ => rfl) (nI_pos (by omega)) (nI_clamp (by omega)) (by show n * 1 ≤ 536870912; omega) hcells hslots d (fun q cB H1 hK1 hP1 hD1 hS1 => ?_)
  have e1 : s.vm.findClass ("[" ++ FieldType.toString .boolean) = some cB := (hK1.2 tys.length (cB, .boolean) (by simp)).2
  have e2 : s.vm.findClass ("[" ++ FieldType.toString .boolean) = some cA := (X.k.2 t0 (cA, .boolean) ht).2
  cases Option.some.inj (e1.symm.trans e2)
  exact k q H1 locs ls hP1 hD1 hS1 hl
theorem Wk.new (X : Cx p s m args c cc own Ts nL D cl tys A z) {C : String} {T : u_T} {N ci index : Nat} {fs : List Value} (hin : ∀ w ∈ u_ws C T N, w ∈ Ts) (ty : Nat → FieldType) (hty : ∀ k, k < N → parseFieldDescriptor (T k).2.2.1 = some (ty k)) (hcl : (Cond.classLink own index C).before args s = true) (hinst : (Cond.instantiable C N).before args s = true) (hini : (Cond.initialized C).before args s = true) (hc : cl[ci]? = some (C, T, N)) (hfs : ∀ j, j < N → defaultValue (ty j) = vp_V fs j) (hcells : cells + 1 ≤ R.cells) (hslots : slots + N ≤ R.slots) (d : decode cc pc = .ok (.new index, 3)) (k : ∀ q : Nat, Wk p l e R s m args below meth c (cells + 1) (slots + N) Q nL D cl A (pc + 3) (lv) (.ref q :: st) (ws ++ [(q, .inr (ci, fs))])) : Wk p l e R s m args below meth c (cells) (slots) Q nL D cl A (pc) (lv) (st) (ws) := fun H locs ls hP hD hS hl => va_new X.x X.b X.w hin ty hty X.o hcl hinst hini X.k hP hD hS X.a hc hfs hcells hslots d (fun q H1 hP1 hD1 hS1 => k q H1 locs ls hP1 hD1 hS1 hl)
/-- a constructor: what is there behind it, at addresses that it says -/
def Cn (l : Launch) (y : MethodName) (wy : List Cond) (fr lo mc ms : Nat) (D : va_G) (cl : List vw_C) (tys : List (ClassId × FieldType)) (z : Bool) (av : List Value) (w : va_W) (Wo : (Nat → Nat) → va_W) : Prop := ∀ sz : Nat, Met l y wy ({ frames := fr, cells := mc, slots := ms, locals := lo } : Room) (va_Pc av (PreC D cl tys z w sz)) (va_Qv (fun (_ : Nat → Nat) => True) (fun u t => va_P D cl (Wo u) t.heap ∧ va_K D cl tys t ∧ va_D (va_A w sz) (Wo u)) (va_A w sz)) mc ms (va_A w sz)
def QRn (below : List Frame) (args : Array Value) (s : State) (D : va_G) (cl : List vw_C) (tys : List (ClassId × FieldType)) (A : Nat → Prop) (mc ms : Nat) (Wo : (Nat → Nat) → va_W) : State → Prop := MQ below (va_Qv (fun (_ : Nat → Nat) => True) (fun u t => va_P D cl (Wo u) t.heap ∧ va_K D cl tys t ∧ va_D A (Wo u)) A) args s mc ms A
theorem Cn.of {y : MethodName} {wy wy0 : List Cond} {fr lo mc ms maxL : Nat} {av : List Value} {Wo : (Nat → Nat) → va_W} (own : String) (ho : y.cls = own) (hin : y.name = "<init>") (hy : plainFor y = true) (hw : wy = Cond.code y cc maxL none :: wy0) (hn : (lg_sl av).length ≤ maxL)
    (body : ∀ (p : Program) (e : Env) (s : State) (m : MethodId) (args : Array Value) (below : List Frame) (meth : Method) (c : Code) (A : Nat → Prop), Cx p s m args c cc own wy maxL D cl tys A z → meth.sig.returnType = none → meth.locks = false → meth.name = "<init>" → Wk p l e ({ frames := fr, cells := mc, slots := ms, locals := lo } : Room) s m args below meth c 0 0 (QRn below args s D cl tys A mc ms Wo) maxL D cl A 0 (lv_args 0 av) [] w) : Cn l y wy fr lo mc ms D cl tys z av w Wo := by
  intro sz
  refine ofWF (cc := cc) (maxL := maxL) (ret := none) hy hw ?_
  intro p e s m args below meth c s₁ B hml hv
  obtain ⟨rfl, hsz, hP, hK, hD0, hz⟩ := hv
  subst hsz
  subst ho
  have hown : s.vm.findClass y.cls = some m.cls := findClass_of_methodNamed B.named
  have hts := atoms_spec (ws := wy) B.pre
  have hD := hD0.self (sz := s.heap.size)
  have hl := lv_entry av (n := maxL) hn
  rw [lg_entry_eq]
  exact body p e s m _ below meth c _ ⟨B.exec, B.bytes, hml, hown, hts, hK, fun q h => Or.inr h, hz⟩ B.returns B.notSynchronized ((name_of_methodNamed B.named B.method).1.trans hin) s.heap [] _ hP hD va_S.rf hl
theorem Wk.nret (X : Cx p s m args c cc own Ts nL D cl tys A z) (hr : meth.sig.returnType = none) (hk : meth.locks = false) {mc ms : Nat} {Wo : (Nat → Nat) → va_W} (u : Nat → Nat) (hw : ws = Wo u) (hc : cells ≤ mc) (hs : slots ≤ ms) (d : decode cc pc = .ok (.return_, 1)) : Wk p l e R s m args below meth c cells slots (QRn below args s D cl tys A mc ms Wo) nL D cl A pc lv [] ws := fun H locs ls hP hD hS hl => W.widen hc hs (W.vret X.x X.b hr (fun t ht hW => ⟨⟨u, rfl, trivial, by rw [ht]; exact hw ▸ hP, va_K.moved hW.alike X.k, hw ▸ hD⟩, hS.F ht⟩) hS.2.2 d hk)
theorem Wk.callN (X : Cx p s m args c cc own Ts nL D cl tys A z) {index fr lo mc ms maxL b n : Nat} {bytes : ByteArray} {y : MethodName} {wy wy0 : List Cond} {As : List Value} {Wo : (Nat → Nat) → va_W} (hM : Cn l y wy fr lo mc ms D cl tys z' (.ref b :: As) w Wo) (hg : GoodIn Ts wy) (hwy : wy = Cond.code y bytes maxL none :: wy0) (hlk : (Cond.methodLink own index y).before args s = true) (hini : (Cond.initialized y.cls).before args s = true) (hinst : (Cond.instanceMethod y).before args s = true) (hy1 : y.name = "<init>")
    (hd : y.cls ≠ "java/lang/invoke/MethodHandle" ∧ y.cls ≠ "java/lang/invoke/VarHandle" ∧ (parseMethodDescriptor y.desc).map (fun d => d.parameters.length) = some n) (hR : fr + 1 ≤ R.frames ∧ 8 + (maxL + 11) + lo ≤ R.locals) (hz : z' = true → z = true) (isC isR : List Nat) (hC : isC.map (fun i => ws[i]?) = w.map some) (hRr : isR.map (fun i => ws[i]?) = (isR.filterMap (fun i => ws[i]?)).map some) (hnC : va_nd isC = true) (hnR : va_nd isR = true) (hdis : ∀ i ∈ isR, i ∉ isC) (hn : As.length = n) (hst : st0 = As.reverse ++ .ref b :: st) (hrm : (st.map fun v => v.category).sum ≤ 8) (hcs : cells + mc ≤ R.cells ∧ slots + ms ≤ R.slots)
    (d : decode cc pc = .ok (.invokespecial index, 3)) (k : ∀ u : Nat → Nat, Wk p l e R s m args below meth c (cells + mc) (slots + ms) Q nL D cl A (pc + 3) (lv) (st) ((isR.filterMap (fun i => ws[i]?)) ++ Wo u)) : Wk p l e R s m args below meth c (cells) (slots) Q nL D cl A (pc) (lv) (st0) (ws) := by
  subst hst
  intro H locs ls hP hD hS hl
  have hPc := hP.sub isC (toF hC)
  have hDc := hD.sub isC hnC hC
  have hFc := X.free hS hDc
  refine va_callv (va_runI (As := As) (rest := st) ⟨X.x, X.b, X.ml, X.o, X.w⟩ (hM H.size) (cwI n X.w hg hwy rfl rfl hini hlk hinst hy1 hd hR) ⟨PreC.blind, fun U hU hW => X.pre hS hFc hPc hDc hz hU hW⟩ rfl hn hl.1 rfl (lv_room hrm) d hcs) hS (fun q _ h => hFc q h) hFc (fun u t H1 locs1 ht hvm hw hB hz1 hk1 hS1 => ?_)
  obtain ⟨hP1, hK1, hD1⟩ := hB
  rw [ht] at hP1
  obtain ⟨hP2, hD2⟩ := va_join hP hD isC isR hC hRr hnR hdis hk1 hFc hP1 hD1
  exact k u H1 locs1 ls hP2 hD2 hS1 hl
theorem Wk.callNN (X : Cx p s m args c cc own Ts nL D cl tys A z) {index fr lo mc ms maxL b n : Nat} {bytes : ByteArray} {y : MethodName} {wy wy0 : List Cond} {As : List Value} {Wo : (Nat → Nat) → va_W} (hM : Cn l y wy fr lo mc ms D cl tys z' (.ref b :: As) w Wo) (hg : GoodIn Ts wy) (hwy : wy = Cond.code y bytes maxL none :: wy0) {host : String} (hlk : va_Nw (.methodLinkNest own index y host) s) (hini : (Cond.initialized y.cls).before args s = true) (hinst : (Cond.instanceMethod y).before args s = true) (hy1 : y.name = "<init>")
    (hd : y.cls ≠ "java/lang/invoke/MethodHandle" ∧ y.cls ≠ "java/lang/invoke/VarHandle" ∧ (parseMethodDescriptor y.desc).map (fun d => d.parameters.length) = some n) (hR : fr + 1 ≤ R.frames ∧ 8 + (maxL + 11) + lo ≤ R.locals) (hz : z' = true → z = true) (isC isR : List Nat) (hC : isC.map (fun i => ws[i]?) = w.map some) (hRr : isR.map (fun i => ws[i]?) = (isR.filterMap (fun i => ws[i]?)).map some) (hnC : va_nd isC = true) (hnR : va_nd isR = true) (hdis : ∀ i ∈ isR, i ∉ isC) (hn : As.length = n) (hst : st0 = As.reverse ++ .ref b :: st) (hrm : (st.map fun v => v.category).sum ≤ 8) (hcs : cells + mc ≤ R.cells ∧ slots + ms ≤ R.slots)
    (d : decode cc pc = .ok (.invokespecial index, 3)) (k : ∀ u : Nat → Nat, Wk p l e R s m args below meth c (cells + mc) (slots + ms) Q nL D cl A (pc + 3) (lv) (st) ((isR.filterMap (fun i => ws[i]?)) ++ Wo u)) : Wk p l e R s m args below meth c (cells) (slots) Q nL D cl A (pc) (lv) (st0) (ws) := by
  subst hst
  intro H locs ls hP hD hS hl
  have hPc := hP.sub isC (toF hC)
  have hDc := hD.sub isC hnC hC
  have hFc := X.free hS hDc
  refine va_callv (va_runIN (As := As) (rest := st) ⟨X.x, X.b, X.ml, X.o, X.w⟩ (hM H.size) (⟨va_cnB n X.w hg hwy rfl rfl hlk hini hd hR, hy1, hinst⟩) ⟨PreC.blind, fun U hU hW => X.pre hS hFc hPc hDc hz hU hW⟩ rfl hn hl.1 rfl (lv_room hrm) d hcs) hS (fun q _ h => hFc q h) hFc (fun u t H1 locs1 ht hvm hw hB hz1 hk1 hS1 => ?_)
  obtain ⟨hP1, hK1, hD1⟩ := hB
  rw [ht] at hP1
  obtain ⟨hP2, hD2⟩ := va_join hP hD isC isR hC hRr hnR hdis hk1 hFc hP1 hD1
  exact k u H1 locs1 ls hP2 hD2 hS1 hl
end WM0
