/-! 'throw new NullPointerException("text")', no traces kept: the class's own 'fillInStackTrace' under Throwable's constructor with a message. -/
theorem nq_room {pl : Platform} {V : State} {g : JFrame} {self : Addr} (htop : V.topJava?.isSome) (N T1 : MethodId) (n : NpeT) (hn : n.fill = N) (x y : Cell) {lim : Nat × Nat} (hlim : pl.stackLimits V.me = lim) (hframes : V.frames.length + 2 < lim.1) (hwords : (stackUse (.java g :: V.frames.tail)).2 + 43 ≤ lim.2) :
    pl.stackFull (((V.setTop g).threads[(V.setTop g).cur]?).getD { frames := [] }) (V.setTop g).frames (1 + 2) = false ∧
    pl.stackFull ((((npeInside V g n self x).setTop (fillJ N self 37 [])).threads[((npeInside V g n self x).setTop (fillJ N self 37 [])).cur]?).getD { frames := [] }) ((npeInside V g n self x).setTop (fillJ N self 37 [])).frames (1 + 2) = false ∧
    pl.stackFull ((((fillInside (npeInside V g n self x) (fillJ N self 37 []) T1 self y).setTop (fillJ T1 self 16 [])).threads[((fillInside (npeInside V g n self x) (fillJ N self 37 []) T1 self y).setTop (fillJ T1 self 16 [])).cur]?).getD { frames := [] }) ((fillInside (npeInside V g n self x) (fillJ N self 37 []) T1 self y).setTop (fillJ T1 self 16 [])).frames (nativeFrameWords "java/lang/Throwable" "fillInStackTrace" 2) = false := by
  subst hn
  obtain ⟨g₀, hg⟩ := Option.isSome_iff_exists.mp htop
  obtain ⟨tl, htl⟩ := State.topJava?_eq_some.mp hg
  have hlen : V.frames.length = (Frame.java g :: V.frames.tail).length := by rw [htl]; rfl
  have hfg : (V.setTop g).frames = .java g :: V.frames.tail := by rw [State.frames_setTop _ htl, htl]; rfl
  have hlimg : pl.stackLimits (V.setTop g).me = lim := by rw [State.stackLimits_setTop _ htop]; exact hlim
  have htopE : (V.setCell self (x.withEntry V.cur)).topJava?.isSome := htop
  have hfN : (npeInside V g n self x).frames = .java (entryFrameSync n.fill #[.ref self] 1 self) :: .java g :: V.frames.tail := frames_entered (g := g) htopE _
  have htopN : (npeInside V g n self x).topJava?.isSome := by rw [State.topJava?_of_frames hfN]; rfl
  have hlimN : pl.stackLimits (npeInside V g n self x).me = lim := by
    show pl.stackLimits (fillInside V g n.fill self x).me = lim
    rw [State.stackLimits_pushFrame, State.stackLimits_setTop _ htopE]; exact hlim
  have hw14 : (stackUse [Frame.java (fillJ n.fill self 37 [])]).2 = 14 := by
    rw [stackUse_java, stackUse_nil]
    simp [operandWords]
  have htopE2 : ((npeInside V g n self x).setCell self (y.withEntry (npeInside V g n self x).cur)).topJava?.isSome := by rw [State.topJava?_setCell]; exact htopN
  have hfF : (fillInside (npeInside V g n self x) (fillJ n.fill self 37 []) T1 self y).frames = .java (entryFrameSync T1 #[.ref self] 1 self) :: .java (fillJ n.fill self 37 []) :: .java g :: V.frames.tail := by
    rw [show (fillInside (npeInside V g n self x) (fillJ n.fill self 37 []) T1 self y).frames = _ from frames_entered (g := (fillJ n.fill self 37 [])) htopE2 _]
    show _ :: _ :: ((npeInside V g n self x).frames).tail = _
    rw [hfN]; rfl
  have htopF : (fillInside (npeInside V g n self x) (fillJ n.fill self 37 []) T1 self y).topJava?.isSome := by rw [State.topJava?_of_frames hfF]; rfl
  have hlimF : pl.stackLimits (fillInside (npeInside V g n self x) (fillJ n.fill self 37 []) T1 self y).me = lim := by
    rw [State.stackLimits_pushFrame, State.stackLimits_setTop _ htopE2]; exact hlimN
  have hw28 : (stackUse [Frame.java (fillJ T1 self 16 []), Frame.java (fillJ n.fill self 37 [])]).2 = 28 := by
    rw [stackUse_java, hw14]
    simp [operandWords]
  refine ⟨?_, ?_, ?_⟩
  · exact Jvm.roomAbove (pushed := []) (base := .java g :: V.frames.tail) (free := 43) (lim := lim) hfg hlimg (by rw [← hlen]; simp only [List.length_nil]; omega) hwords (by simp only [stackUse_nil]; omega)
  · exact Jvm.roomAbove (pushed := [.java (fillJ n.fill self 37 [])]) (base := .java g :: V.frames.tail) (free := 43) (lim := lim) (State.frames_setTop _ hfN) (by rw [State.stackLimits_setTop _ htopN]; exact hlimN)
      (by rw [← hlen]; simp only [List.length_cons, List.length_nil]; omega) hwords (by rw [hw14]; omega)
  · exact Jvm.roomAbove (pushed := [.java (fillJ T1 self 16 []), .java (fillJ n.fill self 37 [])]) (base := .java g :: V.frames.tail) (free := 43) (lim := lim) (State.frames_setTop _ hfF) (by rw [State.stackLimits_setTop _ htopF]; exact hlimF)
      (by rw [← hlen]; simp only [List.length_cons, List.length_nil]; omega) hwords (by rw [hw28]; decide)

/-- what the object holds after both of the 'fillInStackTrace' -/
def nq_cell (T : ThrowableT) (N : NpeT) (cell : Cell) (u : Value) (t : ThreadId) : Cell := (((npeCell N cell t).withEntry t).setSlot T.fStack.slot u).left.left

theorem nq_fill (p : Program) {e : Env} {below : List Frame} {s₀ V : State} {g : JFrame} {c : Code} {self : Addr} (h : At V g.method c below) (hexec : p.tables.exec = Jvm.exec)
    (T : ThrowableC) (L : T.Links e.platform s₀) (N : NpeC) (LN : N.Links T e.platform s₀) (hW : s₀.WarmedH V.vm) {t : ThreadId} (ht : V.cur = t) {u0 : RefV} {cell cellS : Cell} {kcell : Class} {ig : Instr} {len : Nat}
    (hcell : V.heap[self]? = some cell) (hobj : ∀ k, cell.vm ≠ .statics k) (hknown : cell.vm ≠ .unknown) (hfree : cell.monitor.owner = none)
    (hkcell : s₀.vm.classes[cell.cls]? = some kcell) (hsel0 : selectMethod e.platform s₀.vm cell.cls T.fill0 = .method T.fill0)
    (hcellS : V.heap[T.aS]? = some cellS) (hneS : T.aS ≠ self) (hknownS : cellS.vm ≠ .unknown) (hvU : cellS.slots[T.fUnassigned.slot]? = some u0.v)
    (hv0 : cell.slots[N.fState.slot]? = some (.int 0)) (hvS : cell.slots[T.fStack.slot]? = some u0.v) (hneSt : T.fStack.slot ≠ N.fState.slot)
    (htS : Takes s₀ cell T.fStack u0.v) (ht1 : Takes s₀ cell N.fState (.int 1))
    (hskip : SkipFacts T e.platform s₀ (fun u => u) u0 ((npeCell N.toNpeT cell t).withEntry t)) (htr : e.platform.stackTraces = false)
    {lim : Nat × Nat} (hlim : e.platform.stackLimits V.me = lim) (hframes : V.frames.length + 2 < lim.1) (hwords : (stackUse (.java g :: V.frames.tail)).2 + 43 ≤ lim.2)
    (hdg : decode c.code g.pc = .ok (ig, len)) :
    ∃ vm', s₀.WarmedH vm' ∧ ∀ target, Steps p.tables e below (((V.setVm vm').setCell self (nq_cell T.toThrowableT N.toNpeT cell u0.v t)).setTop { g with pc := g.pc + len, stack := .ref self :: g.stack }) target →
      Steps p.tables e below (doInvoke e (V.setTop g) [] N.fill #[.ref self]).1 target := by
  have hlt : self < V.heap.size := (Array.getElem?_eq_some_iff.mp hcell).1
  have hheld : ((npeCell N.toNpeT cell t).withEntry t).left = npeCell N.toNpeT cell t := Cell.left_withEntry_held _ rfl (by show 0 < cell.monitor.count + 1; omega)
  have hFmon : (((npeCell N.toNpeT cell t).withEntry t).setSlot T.fStack.slot u0.v).left.monitor = (npeCell N.toNpeT cell t).monitor := by
    rw [Cell.left_monitor_congr (x := ((npeCell N.toNpeT cell t).withEntry t).setSlot T.fStack.slot u0.v) (y := (npeCell N.toNpeT cell t).withEntry t) rfl, hheld]
  obtain ⟨vm', hW', st⟩ := Steps.npeFillColdBy p (V := V) (g := g) (c := c) (self := self) h hexec T L N LN hW (Fi := fun u => u.setCell self (((npeCell N.toNpeT cell t).withEntry t).setSlot T.fStack.slot u0.v).left) (heapOnly_id.thenSetCell self _)
    (fun u => rfl) (fun u x y => by rw [setCell_twice, setCell_twice, setCell_twice]) (cell := cell) (cFi := (((npeCell N.toNpeT cell t).withEntry t).setSlot T.fStack.slot u0.v).left) (kcell := kcell) (ig := ig) (len := len) []
    hcell hobj hknown hfree hkcell hv0 ht1 (fun u hu => heapAt_setCell_self _ (Array.getElem?_eq_some_iff.mp hu).1) (by rw [ht]; exact hFmon) hdg
    (fun vm1 hW1 hB => by
      obtain ⟨-, r2, r3⟩ := nq_room (pl := e.platform) (V := V.setVm vm1) (g := g) (self := self) h.top N.fill T.fill N.toNpeT rfl cell (npeCell N.toNpeT cell t) hlim hframes hwords
      have hc1 : (npeInside (V.setVm vm1) g N.toNpeT self cell).heap[self]? = some (npeCell N.toNpeT cell t) := by
        rw [← ht]
        exact heapAt_setCell_self _ (by show self < (V.heap.setIfInBounds self _).size; simpa using hlt)
      have hc2 : (npeInside (V.setVm vm1) g N.toNpeT self cell).heap[T.aS]? = some cellS := by
        show ((V.heap.setIfInBounds self _).setIfInBounds self _)[T.aS]? = _
        simp [Ne.symm hneS, hcellS]
      have hXcur : (npeInside (V.setVm vm1) g N.toNpeT self cell).cur = t := ht
      have hXvm : ∀ vm, (npeInside (V.setVm vm1) g N.toNpeT self cell).setVm vm = npeInside (V.setVm vm) g N.toNpeT self cell := fun vm => by rw [npeInside_setVm, State.setVm_twice]
      have hXW : s₀.WarmedH (npeInside (V.setVm vm1) g N.toNpeT self cell).vm := hW1
      have r3' : ∀ vm, e.platform.stackFull ((((fillInside ((npeInside (V.setVm vm1) g N.toNpeT self cell).setVm vm) (fillJ N.fill self 37 []) T.fill self (npeCell N.toNpeT cell t)).setTop (fillJ T.fill self 16 [])).threads[((fillInside ((npeInside (V.setVm vm1) g N.toNpeT self cell).setVm vm) (fillJ N.fill self 37 []) T.fill self (npeCell N.toNpeT cell t)).setTop (fillJ T.fill self 16 [])).cur]?).getD { frames := [] }) ((fillInside ((npeInside (V.setVm vm1) g N.toNpeT self cell).setVm vm) (fillJ N.fill self 37 []) T.fill self (npeCell N.toNpeT cell t)).setTop (fillJ T.fill self 16 [])).frames (nativeFrameWords "java/lang/Throwable" "fillInStackTrace" 2) = false := fun vm => by
        rw [hXvm]
        exact (nq_room (pl := e.platform) (V := V.setVm vm) (g := g) (self := self) h.top N.fill T.fill N.toNpeT rfl cell (npeCell N.toNpeT cell t) hlim hframes hwords).2.2
      have hvSN : (npeCell N.toNpeT cell t).slots[T.fStack.slot]? = some u0.v := by simp [npeCell, Cell.setSlot, Cell.withEntry, Ne.symm hneSt, hvS]
      have htS2 : Takes s₀ (npeCell N.toNpeT cell t) T.fStack u0.v := ⟨by simpa [npeCell, Cell.setSlot, Cell.withEntry] using htS.1, htS.2⟩
      generalize npeInside (V.setVm vm1) g N.toNpeT self cell = X at hB hc1 hc2 hXvm hXcur hXW r2 r3' ⊢
      have hltX : self < X.heap.size := (Array.getElem?_eq_some_iff.mp hc1).1
      obtain ⟨vm2, hW2, st⟩ := Steps.fillColdAnyV p (V := X) (g := (fillJ N.fill self 37 [])) (c := N.codeFill) (self := self) hB hexec T L hXW (Nn := fun u => u) heapOnly_id (fun _ _ => rfl) (fun _ => rfl) (fun u x y => setCell_twice _ _ _ _)
        (cell := npeCell N.toNpeT cell t) (cellS := cellS) (cN := (npeCell N.toNpeT cell t).withEntry t) (u0 := u0) (ig := .invokespecial 24) (len := 3) [] hc1 hobj hknown (Or.inr (by rw [hXcur]; rfl)) hvSN hsel0 hc2 hneS hknownS hvU
        (by rw [hXcur]; exact fun _ hu => hu) (fun _ hu => hu) rfl rfl (by rw [hXcur]) rfl htS2
        (by rw [LN.fillBytes]; exact LibCode.NullPointerException.Fill.at_37) (fun _ vm3 hW3 hAt t' hs => L.nativeOff p htr hAt hW3 (r3' vm3) hs) r2 (by rw [hXcur]; exact hskip)
      refine ⟨vm2, hW2, fun t' hs => st t' ?_⟩
      rw [hXvm]
      exact hs) (nq_room (pl := e.platform) (V := V) (g := g) (self := self) h.top N.fill T.fill N.toNpeT rfl cell cell hlim hframes hwords).1
  refine ⟨vm', hW', fun target hrest => st target ?_⟩
  show Steps p.tables e below ((((V.setVm vm').setCell self _).setCell self _).setTop _) target
  rw [setCell_twice]
  exact hrest

theorem nq_init (p : Program) {e : Env} {below : List Frame} {s₀ V : State} {g : JFrame} {c : Code} {self : Addr} (h : At V g.method c below) (hexec : p.tables.exec = Jvm.exec)
    (T : ThrowableC) (L : T.Links e.platform s₀) (Z : Init0T) (LZ : Z.LaidS T.toThrowableT) (M : MsgC) (LM : M.Links T e.platform s₀) (N : NpeC) (LN : N.Links T e.platform s₀) (hW : s₀.WarmedH V.vm) {t : ThreadId} (ht : V.cur = t)
    {u0 sen : RefV} {msg : Value} (hmsg : msg.isRef = true) {cell cellS : Cell} {kcell : Class}
    (hcell : V.heap[self]? = some cell) (hobj : ∀ k, cell.vm ≠ .statics k) (hknown : cell.vm ≠ .unknown) (hfree : cell.monitor.owner = none)
    (hkcell : s₀.vm.classes[cell.cls]? = some kcell) (hsel0 : selectMethod e.platform s₀.vm cell.cls T.fill0 = .method T.fill0) (hselF : selectMethod e.platform s₀.vm cell.cls T.fill = .method N.fill)
    (hcellS : V.heap[T.aS]? = some cellS) (hneS : T.aS ≠ self) (hknownS : cellS.vm ≠ .unknown) (hvU : cellS.slots[T.fUnassigned.slot]? = some u0.v) (hvSen : cellS.slots[T.fSentinel.slot]? = some sen.v)
    (hv0 : cell.slots[N.fState.slot]? = some (.int 0)) (hneC : T.fCause.slot ≠ N.fState.slot) (hneSt : T.fStack.slot ≠ N.fState.slot) (hneP : T.fSupp.slot ≠ N.fState.slot)
    (htC : Takes s₀ cell T.fCause (.ref self)) (htS : Takes s₀ cell T.fStack u0.v) (htP : Takes s₀ cell T.fSupp sen.v) (htM : Takes s₀ cell T.fMsg msg) (ht1 : Takes s₀ cell N.fState (.int 1)) (hobjLocals : T.codeObj.maxLocals = 1)
    (hskip : SkipFacts T e.platform s₀ (fun u => u) u0 ((npeCell N.toNpeT (preparedCellV T.toThrowableT cell self u0 sen) t).withEntry t)) (htr : e.platform.stackTraces = false)
    {ig : Instr} {len : Nat} (acts : List Action) {lim : Nat × Nat} (hlim : e.platform.stackLimits V.me = lim) (hframes : V.frames.length + 3 < lim.1) (hwords : (stackUse (.java g :: V.frames.tail)).2 + 56 ≤ lim.2)
    (hdg : decode c.code g.pc = .ok (ig, len)) :
    ∃ vm', s₀.WarmedH vm' ∧ ∀ target, Steps p.tables e below (((V.setVm vm').setCell self ((nq_cell T.toThrowableT N.toNpeT (preparedCellV T.toThrowableT cell self u0 sen) u0.v t).setSlot T.fMsg.slot msg)).setTop { g with pc := g.pc + len }) target →
      Steps p.tables e below (doInvoke e (V.setTop g) acts (Z.m T.toThrowableT) #[.ref self, msg]).1 target := by
  have hlt : self < V.heap.size := (Array.getElem?_eq_some_iff.mp hcell).1
  obtain ⟨r1, r2, -, -⟩ := plainRoomsV (e := e) (g := g) (self := self) h.top T hobjLocals Z cell u0 sen msg hlim (by omega) (by omega)
  have hfill : ∀ vm1, s₀.WarmedH vm1 → At ((initSInside (V.setVm vm1) g T.toThrowableT Z self msg).setCell self (preparedCellV T.toThrowableT cell self u0 sen)) (Z.m T.toThrowableT) Z.code below → ∃ vm2, s₀.WarmedH vm2 ∧ ∀ t' : State,
      Steps p.tables e below ((((initSInside (V.setVm vm2) g T.toThrowableT Z self msg).setCell self (preparedCellV T.toThrowableT cell self u0 sen)).setCell self (nq_cell T.toThrowableT N.toNpeT (preparedCellV T.toThrowableT cell self u0 sen) u0.v t)).setTop (initSJ T.toThrowableT Z self msg 27 [.ref self])) t' →
      Steps p.tables e below (doInvoke e (((initSInside (V.setVm vm1) g T.toThrowableT Z self msg).setCell self (preparedCellV T.toThrowableT cell self u0 sen)).setTop (initSJ T.toThrowableT Z self msg 24 [])) [] N.fill #[.ref self]).1 t' := fun vm1 hW1 hA => by
    have tk : ∀ {f : Field} {v : Value}, Takes s₀ cell f v → Takes s₀ (preparedCellV T.toThrowableT cell self u0 sen) f v := fun h' => ⟨by simpa [preparedCellV, Cell.setSlot] using h'.1, h'.2⟩
    have hv0P : (preparedCellV T.toThrowableT cell self u0 sen).slots[N.fState.slot]? = some (.int 0) := by simp [preparedCellV, Cell.setSlot, hneC, hneSt, hneP, hv0]
    have hvS : (preparedCellV T.toThrowableT cell self u0 sen).slots[T.fStack.slot]? = some u0.v := by
      have h1 : T.fStack.slot < cell.slots.size := htS.1
      simp [preparedCellV, Cell.setSlot, Ne.symm L.stackApartSupp, h1]
    have hc1 : ((initSInside (V.setVm vm1) g T.toThrowableT Z self msg).setCell self (preparedCellV T.toThrowableT cell self u0 sen)).heap[self]? = some (preparedCellV T.toThrowableT cell self u0 sen) := heapAt_setCell_self (s := (initSInside (V.setVm vm1) g T.toThrowableT Z self msg)) _ hlt
    have hc2 : ((initSInside (V.setVm vm1) g T.toThrowableT Z self msg).setCell self (preparedCellV T.toThrowableT cell self u0 sen)).heap[T.aS]? = some cellS := by rw [heapAt_setCell_ne _ (Ne.symm hneS)]; exact hcellS
    have hXvm : ∀ vm, ((initSInside (V.setVm vm1) g T.toThrowableT Z self msg).setCell self (preparedCellV T.toThrowableT cell self u0 sen)).setVm vm = ((initSInside (V.setVm vm) g T.toThrowableT Z self msg).setCell self (preparedCellV T.toThrowableT cell self u0 sen)) := fun vm => by rw [State.setCell_setVm, initSInside_setVm, State.setVm_twice]
    have hXcur : ((initSInside (V.setVm vm1) g T.toThrowableT Z self msg).setCell self (preparedCellV T.toThrowableT cell self u0 sen)).cur = t := ht
    have hXW : s₀.WarmedH ((initSInside (V.setVm vm1) g T.toThrowableT Z self msg).setCell self (preparedCellV T.toThrowableT cell self u0 sen)).vm := hW1
    have htop1 : (V.setVm vm1).topJava?.isSome := h.top
    obtain ⟨g₀, hg⟩ := Option.isSome_iff_exists.mp h.top
    obtain ⟨tl, htl⟩ := State.topJava?_eq_some.mp hg
    have hfU : ((initSInside (V.setVm vm1) g T.toThrowableT Z self msg).setCell self (preparedCellV T.toThrowableT cell self u0 sen)).frames = .java (initSJ T.toThrowableT Z self msg 0 []) :: .java g :: V.frames.tail := frames_entered htop1 _
    have hlimX : e.platform.stackLimits ((initSInside (V.setVm vm1) g T.toThrowableT Z self msg).setCell self (preparedCellV T.toThrowableT cell self u0 sen)).me = lim := by
      show e.platform.stackLimits (initSInside (V.setVm vm1) g T.toThrowableT Z self msg).me = lim
      rw [State.stackLimits_pushFrame, State.stackLimits_setTop _ htop1]; exact hlim
    have hfrX : ((initSInside (V.setVm vm1) g T.toThrowableT Z self msg).setCell self (preparedCellV T.toThrowableT cell self u0 sen)).frames.length + 2 < lim.1 := by
      rw [hfU]; rw [htl] at hframes; simp only [htl, List.length_cons, List.tail_cons] at hframes ⊢; omega
    have hwX : (stackUse (.java (initSJ T.toThrowableT Z self msg 24 []) :: ((initSInside (V.setVm vm1) g T.toThrowableT Z self msg).setCell self (preparedCellV T.toThrowableT cell self u0 sen)).frames.tail)).2 + 43 ≤ lim.2 := by
      rw [hfU, List.tail_cons, stackUse_java]
      show (stackUse (Frame.java g :: V.frames.tail)).2 + (2 + 11 + 2 * 0 + operandWords []) + 43 ≤ lim.2
      simp only [operandWords, List.foldl_nil]
      omega
    generalize ((initSInside (V.setVm vm1) g T.toThrowableT Z self msg).setCell self (preparedCellV T.toThrowableT cell self u0 sen)) = X at hA hc1 hc2 hXvm hXcur hXW hlimX hfrX hwX ⊢
    obtain ⟨vm2, hW2, st⟩ := nq_fill p (V := X) (g := (initSJ T.toThrowableT Z self msg 24 [])) (c := Z.code) (self := self) hA hexec T L N LN hXW hXcur (u0 := u0) (cell := preparedCellV T.toThrowableT cell self u0 sen) (cellS := cellS) (kcell := kcell) (ig := .invokevirtual 27) (len := 3)
      hc1 hobj hknown hfree hkcell hsel0 hc2 hneS hknownS hvU hv0P hvS hneSt (tk htS) (tk ht1) hskip htr hlimX hfrX hwX (by rw [LZ.bytes]; exact LibCode.Throwable.InitS.at_24)
    refine ⟨vm2, hW2, fun t' hs => st t' ?_⟩
    rw [hXvm]
    exact hs
  obtain ⟨vm', hW', st⟩ := Steps.throwableInitSColdByV p h hexec T L Z LZ M LM hW (F := fun u => u.setCell self (nq_cell T.toThrowableT N.toNpeT (preparedCellV T.toThrowableT cell self u0 sen) u0.v t)) (heapOnly_id.thenSetCell self _) (fun u vm => rfl)
    hmsg (cF := nq_cell T.toThrowableT N.toNpeT (preparedCellV T.toThrowableT cell self u0 sen) u0.v t) hcell hknown (fun u hu => heapAt_setCell_self _ (Array.getElem?_eq_some_iff.mp hu).1)
    (by unfold nq_cell; rw [Cell.left_cls, Cell.left_cls]; rfl) (by unfold nq_cell; rw [Cell.left_data, Cell.left_data]; rfl)
    (by unfold nq_cell; rw [Cell.left_slots, Cell.left_slots]; simp [npeCell, preparedCellV, Cell.setSlot, Cell.withEntry]) htM hdg (mSel := N.fill) (methSel := N.methFill) (kSel := N.kN) hobj hselF LN.method LN.fillAbstract LN.cls LN.notInterface hfill acts
    hcellS hneS hknownS hvU hvSen htC htS htP r1 r2
  refine ⟨vm', hW', fun target hrest => st target ?_⟩
  show Steps p.tables e below ((((V.setVm vm').setCell self _).setCell self _).setCell self _ |>.setTop _) target
  rw [setCell_twice, setCell_twice]
  exact hrest

theorem nq_chain (p : Program) {e : Env} {below : List Frame} {s₀ V : State} {g : JFrame} {c : Code} {self : Addr} (h : At V g.method c below) (hexec : p.tables.exec = Jvm.exec)
    (T : ThrowableC) (L : T.Links e.platform s₀) (Z : Init0T) (LZ : Z.LaidS T.toThrowableT) (M : MsgC) (LM : M.Links T e.platform s₀) (N : NpeC) (LN : N.Links T e.platform s₀) (hW : s₀.WarmedH V.vm) {t : ThreadId} (ht : V.cur = t)
    {u0 sen : RefV} {msg : Value} (hmsg : msg.isRef = true) {cell cellS : Cell} {kcell : Class}
    (hcell : V.heap[self]? = some cell) (hobj : ∀ k, cell.vm ≠ .statics k) (hknown : cell.vm ≠ .unknown) (hfree : cell.monitor.owner = none)
    (hkcell : s₀.vm.classes[cell.cls]? = some kcell) (hsel0 : selectMethod e.platform s₀.vm cell.cls T.fill0 = .method T.fill0) (hselF : selectMethod e.platform s₀.vm cell.cls T.fill = .method N.fill)
    (hcellS : V.heap[T.aS]? = some cellS) (hneS : T.aS ≠ self) (hknownS : cellS.vm ≠ .unknown) (hvU : cellS.slots[T.fUnassigned.slot]? = some u0.v) (hvSen : cellS.slots[T.fSentinel.slot]? = some sen.v)
    (hv0 : cell.slots[N.fState.slot]? = some (.int 0)) (hneC : T.fCause.slot ≠ N.fState.slot) (hneSt : T.fStack.slot ≠ N.fState.slot) (hneP : T.fSupp.slot ≠ N.fState.slot)
    (htC : Takes s₀ cell T.fCause (.ref self)) (htS : Takes s₀ cell T.fStack u0.v) (htP : Takes s₀ cell T.fSupp sen.v) (htM : Takes s₀ cell T.fMsg msg) (ht1 : Takes s₀ cell N.fState (.int 1)) (hobjLocals : T.codeObj.maxLocals = 1)
    (hskip : SkipFacts T e.platform s₀ (fun u => u) u0 ((npeCell N.toNpeT (preparedCellV T.toThrowableT cell self u0 sen) t).withEntry t)) (htr : e.platform.stackTraces = false)
    (Ps : List PassC) (hL : ∀ P, P ∈ Ps → P.LinksS e.platform s₀) (hlink : PassesOn (Z.m T.toThrowableT) (Ps.map (·.toPassT)))
    {ig : Instr} {len : Nat} (acts : List Action) {lim : Nat × Nat} (hlim : e.platform.stackLimits V.me = lim) (hframes : V.frames.length + Ps.length + 3 < lim.1) (hwords : (stackUse (.java g :: V.frames.tail)).2 + 13 * Ps.length + 56 ≤ lim.2)
    (hdg : decode c.code g.pc = .ok (ig, len)) :
    ∃ vm', s₀.WarmedH vm' ∧ ∀ target, Steps p.tables e below (((V.setVm vm').setCell self ((nq_cell T.toThrowableT N.toNpeT (preparedCellV T.toThrowableT cell self u0 sen) u0.v t).setSlot T.fMsg.slot msg)).setTop { g with pc := g.pc + len }) target →
      Steps p.tables e below (doInvoke e (V.setTop g) acts (firstOf (Z.m T.toThrowableT) (Ps.map (·.toPassT))) #[.ref self, msg]).1 target := by
  obtain ⟨f1, -, -, f4, f5, f6⟩ := chainEnd_facts e.platform self msg (Ps.map (·.toPassT)) V g h.top
  have fc := chainEnd_cur self msg (Ps.map (·.toPassT)) V g
  rw [List.length_map] at f5 f6
  refine Steps.initChainSCold hexec (H := fun u => u.setCell self ((nq_cell T.toThrowableT N.toNpeT (preparedCellV T.toThrowableT cell self u0 sen) u0.v t).setSlot T.fMsg.slot msg)) (heapOnly_id.thenSetCell self _) (Z.m T.toThrowableT) hmsg lim Ps V g c ig len acts h hW hL hlink hdg hlim (by omega) (by omega) (fun vm1 hW1 c' ig' len' hA' hdg' => ?_)
  simp only [chainEnd_setVm] at hA' hdg' ⊢
  generalize chainEnd self msg V g (Ps.map (·.toPassT)) = E at f1 f4 f5 f6 fc hA' hdg' ⊢
  obtain ⟨vm2, hW2, st⟩ := nq_init p (V := E.1.setVm vm1) (g := E.2) (self := self) hA' hexec T L Z LZ M LM N LN hW1 (t := t) (fc.trans ht) hmsg
    (by show E.1.heap[self]? = _; rw [f1]; exact hcell) hobj hknown hfree hkcell hsel0 hselF (by show E.1.heap[T.aS]? = _; rw [f1]; exact hcellS) hneS hknownS hvU hvSen hv0 hneC hneSt hneP htC htS htP htM ht1 hobjLocals hskip htr
    [] (lim := lim) (by show e.platform.stackLimits E.1.me = lim; rw [f4]; exact hlim) (by show E.1.frames.length + 3 < lim.1; rw [f5]; omega)
    (by show (stackUse (.java E.2 :: E.1.frames.tail)).2 + 56 ≤ lim.2; rw [f6]; omega) hdg'
  exact ⟨vm2, hW2, fun t' hs => st t' (by rw [State.setVm_twice]; exact hs)⟩

def nq_bare (T : ThrowableT) (N : NpeT) (cell : Cell) (self : Addr) (u0 sen : RefV) (msg : Value) : Cell :=
  ((((((cell.setSlot T.fCause.slot (.ref self)).setSlot T.fStack.slot u0.v).setSlot T.fSupp.slot sen.v).setSlot N.fState.slot (.int 1)).setSlot T.fStack.slot u0.v).setSlot T.fMsg.slot msg)
theorem nq_bare_eq (T : ThrowableT) (N : NpeT) {cell : Cell} (self : Addr) (u0 sen : RefV) (msg : Value) (t : ThreadId) (hfree : cell.monitor.owner = none) (hcount : cell.monitor.count = 0) :
    (nq_cell T N (preparedCellV T cell self u0 sen) u0.v t).setSlot T.fMsg.slot msg = nq_bare T N cell self u0 sen msg := by
  have h1 : ((cell.withEntry t).withEntry t).left = cell.withEntry t := Cell.left_withEntry_held _ rfl (by show 0 < cell.monitor.count + 1; omega)
  have h2 : (cell.withEntry t).left = cell := Cell.left_withEntry t hfree hcount
  simp only [nq_cell, nq_bare, npeCell, preparedCellV, Cell.withEntry_setSlot, Cell.left_setSlot, h1, h2]
