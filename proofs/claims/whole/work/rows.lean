section
-- ===== PART A: goes FIRST, ahead of the names: the tables' words, and 'selects' of the private methods out of them =====
/-- a private method of a class that the tables say can be made, by its rows of tables_1 -/
def lw_okq (q : MethodName × Nat) : Prop := (q.1.cls ≠ "java/lang/invoke/MethodHandle" ∧ q.1.cls ≠ "java/lang/invoke/VarHandle") ∧ Cond.instantiable q.1.cls q.2 ∈ tables_1 ∧ Cond.privateMethod q.1 ∈ tables_1 ∧ Cond.instanceMethod q.1 ∈ tables_1
theorem lw_p0 : lw_okq (⟨"PairedTrees", "startAnew", "()V"⟩, 4) := ⟨⟨by decide +kernel, by decide +kernel⟩, List.mem_of_getElem? (i := 26) (by decide +kernel), List.mem_of_getElem? (i := 161) (by decide +kernel), List.mem_of_getElem? (i := 162) (by decide +kernel)⟩
theorem lw_p1 : lw_okq (⟨"java/lang/NullPointerException", "getExtendedNPEMessage", "()Ljava/lang/String;"⟩, 8) := ⟨⟨by decide +kernel, by decide +kernel⟩, List.mem_of_getElem? (i := 217) (by decide +kernel), List.mem_of_getElem? (i := 215) (by decide +kernel), List.mem_of_getElem? (i := 216) (by decide +kernel)⟩
theorem lw_p2 : lw_okq (⟨"java/lang/Throwable", "fillInStackTrace", "(I)Ljava/lang/Throwable;"⟩, 6) := ⟨⟨by decide +kernel, by decide +kernel⟩, List.mem_of_getElem? (i := 226) (by decide +kernel), List.mem_of_getElem? (i := 224) (by decide +kernel), List.mem_of_getElem? (i := 225) (by decide +kernel)⟩
theorem lw_p3 : lw_okq (⟨"PairedTrees$Things", "pushOfPair", "(III)I"⟩, 5) := ⟨⟨by decide +kernel, by decide +kernel⟩, List.mem_of_getElem? (i := 34) (by decide +kernel), List.mem_of_getElem? (i := 600) (by decide +kernel), List.mem_of_getElem? (i := 601) (by decide +kernel)⟩
theorem lw_p4 : lw_okq (⟨"PairedTrees$Grower", "gather", "(LPairedTrees$Things;I)V"⟩, 5) := ⟨⟨by decide +kernel, by decide +kernel⟩, List.mem_of_getElem? (i := 105) (by decide +kernel), List.mem_of_getElem? (i := 608) (by decide +kernel), List.mem_of_getElem? (i := 609) (by decide +kernel)⟩
theorem lw_p5 : lw_okq (⟨"PairedTrees$Grower", "growNode", "(LPairedTrees$Things;LPairedTrees$Forest;II[I)V"⟩, 5) := ⟨⟨by decide +kernel, by decide +kernel⟩, List.mem_of_getElem? (i := 105) (by decide +kernel), List.mem_of_getElem? (i := 612) (by decide +kernel), List.mem_of_getElem? (i := 613) (by decide +kernel)⟩
theorem lw_p6 : lw_okq (⟨"PairedTrees$Grower", "seekCut", "(LPairedTrees$Things;II)V"⟩, 5) := ⟨⟨by decide +kernel, by decide +kernel⟩, List.mem_of_getElem? (i := 105) (by decide +kernel), List.mem_of_getElem? (i := 619) (by decide +kernel), List.mem_of_getElem? (i := 620) (by decide +kernel)⟩
theorem lw_p7 : lw_okq (⟨"PairedTrees$Grower", "tryCut", "(LPairedTrees$Things;IIIII)V"⟩, 5) := ⟨⟨by decide +kernel, by decide +kernel⟩, List.mem_of_getElem? (i := 105) (by decide +kernel), List.mem_of_getElem? (i := 625) (by decide +kernel), List.mem_of_getElem? (i := 626) (by decide +kernel)⟩
theorem lw_p8 : lw_okq (⟨"PairedTrees$BestCut", "isBetter", "(IIIJJ)Z"⟩, 6) := ⟨⟨by decide +kernel, by decide +kernel⟩, List.mem_of_getElem? (i := 111) (by decide +kernel), List.mem_of_getElem? (i := 634) (by decide +kernel), List.mem_of_getElem? (i := 635) (by decide +kernel)⟩
theorem lw_p9 : lw_okq (⟨"PairedTrees$Grower", "part", "(LPairedTrees$Things;I)V"⟩, 5) := ⟨⟨by decide +kernel, by decide +kernel⟩, List.mem_of_getElem? (i := 105) (by decide +kernel), List.mem_of_getElem? (i := 645) (by decide +kernel), List.mem_of_getElem? (i := 646) (by decide +kernel)⟩
theorem lw_p10 : lw_okq (⟨"PairedTrees$Things", "isAhead", "(II)Z"⟩, 5) := ⟨⟨by decide +kernel, by decide +kernel⟩, List.mem_of_getElem? (i := 34) (by decide +kernel), List.mem_of_getElem? (i := 706) (by decide +kernel), List.mem_of_getElem? (i := 707) (by decide +kernel)⟩
theorem lw_p11 : lw_okq (⟨"PairedTreesModel", "begins", "()V"⟩, 24) := ⟨⟨by decide +kernel, by decide +kernel⟩, List.mem_of_getElem? (i := 805) (by decide +kernel), List.mem_of_getElem? (i := 811) (by decide +kernel), List.mem_of_getElem? (i := 812) (by decide +kernel)⟩
theorem lw_p12 : lw_okq (⟨"PairedTreesModel", "isThing", "(I)Z"⟩, 24) := ⟨⟨by decide +kernel, by decide +kernel⟩, List.mem_of_getElem? (i := 805) (by decide +kernel), List.mem_of_getElem? (i := 904) (by decide +kernel), List.mem_of_getElem? (i := 905) (by decide +kernel)⟩
theorem lw_p13 : lw_okq (⟨"PairedTreesModel", "isAny", "(I)Z"⟩, 24) := ⟨⟨by decide +kernel, by decide +kernel⟩, List.mem_of_getElem? (i := 805) (by decide +kernel), List.mem_of_getElem? (i := 912) (by decide +kernel), List.mem_of_getElem? (i := 913) (by decide +kernel)⟩
theorem lw_p14 : lw_okq (⟨"PairedTreesModel", "score", "()V"⟩, 24) := ⟨⟨by decide +kernel, by decide +kernel⟩, List.mem_of_getElem? (i := 805) (by decide +kernel), List.mem_of_getElem? (i := 935) (by decide +kernel), List.mem_of_getElem? (i := 936) (by decide +kernel)⟩
theorem lw_p15 : lw_okq (⟨"PairedTreesModel", "scoreOf", "(I)J"⟩, 24) := ⟨⟨by decide +kernel, by decide +kernel⟩, List.mem_of_getElem? (i := 805) (by decide +kernel), List.mem_of_getElem? (i := 939) (by decide +kernel), List.mem_of_getElem? (i := 940) (by decide +kernel)⟩
def lw_privs_1 : List (MethodName × Nat) := [(⟨"PairedTrees", "startAnew", "()V"⟩, 4), (⟨"java/lang/NullPointerException", "getExtendedNPEMessage", "()Ljava/lang/String;"⟩, 8), (⟨"java/lang/Throwable", "fillInStackTrace", "(I)Ljava/lang/Throwable;"⟩, 6), (⟨"PairedTrees$Things", "pushOfPair", "(III)I"⟩, 5), (⟨"PairedTrees$Grower", "gather", "(LPairedTrees$Things;I)V"⟩, 5), (⟨"PairedTrees$Grower", "growNode", "(LPairedTrees$Things;LPairedTrees$Forest;II[I)V"⟩, 5), (⟨"PairedTrees$Grower", "seekCut", "(LPairedTrees$Things;II)V"⟩, 5), (⟨"PairedTrees$Grower", "tryCut", "(LPairedTrees$Things;IIIII)V"⟩, 5), (⟨"PairedTrees$BestCut", "isBetter", "(IIIJJ)Z"⟩, 6), (⟨"PairedTrees$Grower", "part", "(LPairedTrees$Things;I)V"⟩, 5), (⟨"PairedTrees$Things", "isAhead", "(II)Z"⟩, 5), (⟨"PairedTreesModel", "begins", "()V"⟩, 24), (⟨"PairedTreesModel", "isThing", "(I)Z"⟩, 24), (⟨"PairedTreesModel", "isAny", "(I)Z"⟩, 24), (⟨"PairedTreesModel", "score", "()V"⟩, 24), (⟨"PairedTreesModel", "scoreOf", "(I)J"⟩, 24)]
theorem lw_r1 : ∀ q ∈ lw_privs_1, lw_okq q := List.forall_mem_cons.mpr ⟨lw_p0, List.forall_mem_cons.mpr ⟨lw_p1, List.forall_mem_cons.mpr ⟨lw_p2, List.forall_mem_cons.mpr ⟨lw_p3, List.forall_mem_cons.mpr ⟨lw_p4, List.forall_mem_cons.mpr ⟨lw_p5, List.forall_mem_cons.mpr ⟨lw_p6, List.forall_mem_cons.mpr ⟨lw_p7, List.forall_mem_cons.mpr ⟨lw_p8, List.forall_mem_cons.mpr ⟨lw_p9, List.forall_mem_cons.mpr ⟨lw_p10, List.forall_mem_cons.mpr ⟨lw_p11, List.forall_mem_cons.mpr ⟨lw_p12, List.forall_mem_cons.mpr ⟨lw_p13, List.forall_mem_cons.mpr ⟨lw_p14, List.forall_mem_cons.mpr ⟨lw_p15, fun _ h => absurd h List.not_mem_nil⟩⟩⟩⟩⟩⟩⟩⟩⟩⟩⟩⟩⟩⟩⟩⟩
theorem lw_p16 : lw_okq (⟨"PairedTreesModel", "valueBy", "(II)I"⟩, 24) := ⟨⟨by decide +kernel, by decide +kernel⟩, List.mem_of_getElem? (i := 805) (by decide +kernel), List.mem_of_getElem? (i := 943) (by decide +kernel), List.mem_of_getElem? (i := 944) (by decide +kernel)⟩
theorem lw_p17 : lw_okq (⟨"PairedTreesModel", "goesLeft", "(IIII)Z"⟩, 24) := ⟨⟨by decide +kernel, by decide +kernel⟩, List.mem_of_getElem? (i := 805) (by decide +kernel), List.mem_of_getElem? (i := 947) (by decide +kernel), List.mem_of_getElem? (i := 948) (by decide +kernel)⟩
theorem lw_p18 : lw_okq (⟨"PairedTreesModel", "pushOf", "(I)I"⟩, 24) := ⟨⟨by decide +kernel, by decide +kernel⟩, List.mem_of_getElem? (i := 805) (by decide +kernel), List.mem_of_getElem? (i := 951) (by decide +kernel), List.mem_of_getElem? (i := 952) (by decide +kernel)⟩
theorem lw_p19 : lw_okq (⟨"PairedTreesModel", "isPair", "(II)Z"⟩, 24) := ⟨⟨by decide +kernel, by decide +kernel⟩, List.mem_of_getElem? (i := 805) (by decide +kernel), List.mem_of_getElem? (i := 955) (by decide +kernel), List.mem_of_getElem? (i := 956) (by decide +kernel)⟩
theorem lw_p20 : lw_okq (⟨"PairedTreesModel", "growNode", "(I)V"⟩, 24) := ⟨⟨by decide +kernel, by decide +kernel⟩, List.mem_of_getElem? (i := 805) (by decide +kernel), List.mem_of_getElem? (i := 959) (by decide +kernel), List.mem_of_getElem? (i := 960) (by decide +kernel)⟩
theorem lw_p21 : lw_okq (⟨"PairedTreesModel", "tries", "(IIII)V"⟩, 24) := ⟨⟨by decide +kernel, by decide +kernel⟩, List.mem_of_getElem? (i := 805) (by decide +kernel), List.mem_of_getElem? (i := 969) (by decide +kernel), List.mem_of_getElem? (i := 970) (by decide +kernel)⟩
theorem lw_p22 : lw_okq (⟨"PairedTreesModel", "isNode", "(II)Z"⟩, 24) := ⟨⟨by decide +kernel, by decide +kernel⟩, List.mem_of_getElem? (i := 805) (by decide +kernel), List.mem_of_getElem? (i := 984) (by decide +kernel), List.mem_of_getElem? (i := 985) (by decide +kernel)⟩
theorem lw_p23 : lw_okq (⟨"PairedTreesModel", "countPairs", "(IZ)I"⟩, 24) := ⟨⟨by decide +kernel, by decide +kernel⟩, List.mem_of_getElem? (i := 805) (by decide +kernel), List.mem_of_getElem? (i := 1014) (by decide +kernel), List.mem_of_getElem? (i := 1015) (by decide +kernel)⟩
def lw_privs_2 : List (MethodName × Nat) := [(⟨"PairedTreesModel", "valueBy", "(II)I"⟩, 24), (⟨"PairedTreesModel", "goesLeft", "(IIII)Z"⟩, 24), (⟨"PairedTreesModel", "pushOf", "(I)I"⟩, 24), (⟨"PairedTreesModel", "isPair", "(II)Z"⟩, 24), (⟨"PairedTreesModel", "growNode", "(I)V"⟩, 24), (⟨"PairedTreesModel", "tries", "(IIII)V"⟩, 24), (⟨"PairedTreesModel", "isNode", "(II)Z"⟩, 24), (⟨"PairedTreesModel", "countPairs", "(IZ)I"⟩, 24)]
theorem lw_r2 : ∀ q ∈ lw_privs_2, lw_okq q := List.forall_mem_cons.mpr ⟨lw_p16, List.forall_mem_cons.mpr ⟨lw_p17, List.forall_mem_cons.mpr ⟨lw_p18, List.forall_mem_cons.mpr ⟨lw_p19, List.forall_mem_cons.mpr ⟨lw_p20, List.forall_mem_cons.mpr ⟨lw_p21, List.forall_mem_cons.mpr ⟨lw_p22, List.forall_mem_cons.mpr ⟨lw_p23, fun _ h => absurd h List.not_mem_nil⟩⟩⟩⟩⟩⟩⟩⟩
def lw_privs : List (MethodName × Nat) := lw_privs_1 ++ (lw_privs_2)
def lw_tbl : List Cond := k2_sels lw_privs ++ tables_1
theorem lw_privs_ok : ∀ q ∈ lw_privs, lw_okq q := by
  show ∀ q ∈ lw_privs_1 ++ (lw_privs_2), lw_okq q
  exact List.forall_mem_append.mpr ⟨lw_r1, lw_r2⟩
end
section
/-! ===== BEGIN words of one list among another's, by their places ===== -/
theorem goodIn_r {big : List Cond} (ws : List Cond) (ps : List Nat) (hp : ws = ps.filterMap (fun i => big[i]?)) (h : ws.all goodWord = true) : GoodIn big ws := by
  intro w hw
  have h1 := List.all_eq_true.mp h w hw
  rw [hp] at hw
  obtain ⟨i, -, hi⟩ := List.mem_filterMap.mp hw
  have hm : w ∈ big := by first | exact List.mem_of_getElem? hi | exact List.getElem?_mem hi
  exact ⟨hm, good_of_word h1⟩
theorem goodIn_app {big a b : List Cond} (ha : GoodIn big a) (hb : GoodIn big b) : GoodIn big (a ++ b) := fun w h => (List.mem_append.mp h).elim (ha w) (hb w)
theorem goodIn_ca {big a b : List Cond} {c : Cond} (ha : GoodIn big (c :: a)) (hb : GoodIn big b) : GoodIn big (c :: (a ++ b)) := fun w h => (List.mem_cons.mp h).elim (fun e => ha w (List.mem_cons.mpr (Or.inl e))) (fun h => (List.mem_append.mp h).elim (fun h => ha w (List.mem_cons.mpr (Or.inr h))) (hb w))
theorem goodIn_sub {big ws : List Cond} (hm : ∀ w ∈ ws, w ∈ big) (h : ws.all goodWord = true) : GoodIn big ws := fun w hw => ⟨hm w hw, good_of_word (List.all_eq_true.mp h w hw)⟩
/-! ===== END ===== -/

/-! ===== BEGIN exceptions that leave a method, and their catching by the caller (launches without stack traces) ===== -/
section VXA
/-! The laws vx_back, vx_callV, vx_callS, vx_callSW, vx_throw0, vx_throwS follow proofs of the library, with one case more: JvmDerived/Free/Laws.lean (Back.of_free), Shelf42/LK1.lean (callV, callS), Shelf/KitTraced.lean (throwNew0V, throwNewS). -/
/-- where a method has thrown q: the class by its name, the cell, what was written, the world -/
def vx_T (XC : String → State → State → Prop) (st : State) (q : Addr) (t : State) (mc ms : Nat) (free : Addr → Prop) : Prop :=
  ∃ (E : String) (ce : Cell) (L : List Loc), XC E st t ∧ t.heap[q]? = some ce ∧ ce.vm = .none ∧ st.vm.findClass E = some ce.cls ∧ st.WarmedH t.vm ∧ st.sameButNew ({ t with vm := st.vm } : State) L mc ms ∧ ∀ z ∈ L, free z.base
def vx_Q (Qc : Array Value → State → Outcome → State → Prop) (XC : String → State → State → Prop) (mc ms : Nat) (free : Addr → Prop) : Array Value → State → Outcome → State → Prop := fun a st o t =>
  (Qc a st o t ∧ ∃ L, FrameEnd st o t L mc ms ∧ ∀ q ∈ L, free q.base) ∨ ∃ q, o = .threw q ∧ vx_T XC st q t mc ms free
/-- a callee that returns or throws -/
def vx_Met (l : Launch) (y : MethodName) (ws : List Cond) (rm : Room) (Pc : Array Value → State → Prop) (Qc : Array Value → State → Outcome → State → Prop) (XC : String → State → State → Prop) (mc ms : Nat) (free : Addr → Prop) : Prop :=
  MetFree l y (headSpec ws rm) Pc (fun _ _ _ _ _ => True) (vx_Q Qc XC mc ms free)
def vx_Post (XC : String → State → State → Prop) (mc ms : Nat) (free : Addr → Prop) : Pt → Array Value → Addr → Pt → Prop := fun A a q B =>
  ∃ (g : JFrame) (mk : MethodId) (t : State) (L : List Loc) (E : String) (ce : Cell), B.U.heap = t.heap ∧ B.U.vm = t.vm ∧ XC E (A.U.calling g mk a) t ∧ t.heap[q]? = some ce ∧ ce.vm = .none ∧ A.U.vm.findClass E = some ce.cls ∧ B.locs = A.locs ++ L ∧ (∀ z ∈ L, free z.base) ∧ B.cells = A.cells + mc ∧ B.slots = A.slots + ms
def vx_Back (l : Launch) (R : Room) (p : Program) (e : Env) (below : List Frame) (s : State) (sargs : Array Value) (y : MethodName) (len W9 : Nat)
    (Pre : Pt → Array Value → Prop) (Post : Pt → Array Value → Option Value → Pt → Prop) (PostX : Pt → Array Value → Addr → Pt → Prop) : Prop :=
  ∀ (m : MethodId) (meth : Method) (c : Code) (A : Pt) (g : JFrame) (ig : Instr) (mk : MethodId) (a : Array Value),
    Stand p l e R s m sargs below meth c A.U A.locs A.cells A.slots → g.method = m → g.locals.size = c.maxLocals → decode c.code g.pc = .ok (ig, len) →
    2 * g.monitorRoom + (g.stack.map fun v => v.category).sum ≤ W9 → A.U.methodNamed? y = some mk → Pre A a →
    (∃ (v : Option Value) (B : Pt), Stand p l e R s m sargs below meth c B.U B.locs B.cells B.slots ∧ Post A a v B ∧
      Steps p.tables e below (doInvoke e (A.U.setTop g) [] mk a).1 (B.U.setTop { g with pc := g.pc + len, stack := v.toList ++ g.stack })) ∨
    (∃ (q : Addr) (B : Pt), Stand p l e R s m sargs below meth c B.U B.locs B.cells B.slots ∧ PostX A a q B ∧
      Steps p.tables e below (doInvoke e (A.U.setTop g) [] mk a).1 ((B.U.setTop g).pushFrame (.throwing q)))
section Payer
variable {l : Launch} {R : Room} {p : Program} {e : Env} {below : List Frame} {s : State} {sargs : Array Value} {y : MethodName} {len W9 : Nat}
theorem vx_back {ws : List Cond} {rm : Room} {Pc : Array Value → State → Prop} {Qc : Array Value → State → Outcome → State → Prop} {XC : String → State → State → Prop} {mc ms : Nat} {free : Addr → Prop} {bytes : ByteArray} {maxL : Nat} {ret : Option FieldType}
    (hM : vx_Met l y ws rm Pc Qc XC mc ms free) (hblind : FrameBlind Pc) (hrc : rm.cells = mc) (hrs : rm.slots = ms)
    (hframes : rm.frames + 1 ≤ R.frames) (hlocals : W9 + (maxL + 11) + rm.locals ≤ R.locals)
    (hws : ∀ w ∈ ws, ∀ a' U, s.WarmedH U.vm → w.before a' U = true) (hcode : Cond.code y bytes maxL ret ∈ ws) (hinit : ∀ a' U, s.WarmedH U.vm → (Cond.initialized y.cls).before a' U = true) :
    vx_Back l R p e below s sargs y len W9 (PreOf R mc ms Pc) (PostOf Qc mc ms free) (vx_Post XC mc ms free) := by
  intro m meth c A g ig mk a X hg hsize hdg hW hn hp
  have h1 : (headSpec ws rm).pre.before a A.U = true := atoms_intro fun w hw => hws w hw _ _ X.warmed
  have h2 : (Cond.code y bytes maxL ret).before a A.U = true := hws _ hcode _ _ X.warmed
  have h3 : (Cond.initialized y.cls).before a A.U = true := hinit _ _ X.warmed
  have h4 : A.cells + (headSpec ws rm).room.cells ≤ R.cells := by rw [show (headSpec ws rm).room.cells = mc from hrc]; exact hp.1
  have h5 : A.slots + (headSpec ws rm).room.slots ≤ R.slots := by rw [show (headSpec ws rm).room.slots = ms from hrs]; exact hp.2.1
  have hPc : Pc a (A.U.calling g mk a) := hblind _ _ _ _ hp.2.2
  obtain ⟨U, Ls, c0, s0⟩ := A
  dsimp only [Pt.U, Pt.locs, Pt.cells, Pt.slots] at h1 h2 h3 h4 h5 X hn hPc ⊢
  obtain ⟨methY, cY, hmY, hcY, -, hlY, -, -, -, -⟩ := Cond.code_spec hn h2
  obtain ⟨kY, hkY, -⟩ := className_of_methodNamed hn
  have hinitY : kY.init = .initialized := Cond.initialized_spec (findClass_of_methodNamed hn) hkY h3
  have h : At U g.method c below := by rw [hg]; exact X.here
  have hlocals9 : W9 + (maxL + 11) + (headSpec ws rm).room.locals ≤ R.locals := hlocals
  have happ : (headSpec ws rm).appliesLoose y e.platform (U.calling g mk a) = true :=
    Spec.appliesLoose_calling (g := g) h hdg hn hkY hinitY
      (X.room_calling (g := g) (R' := (headSpec ws rm).room) hsize hmY hcY hframes (by rw [hlY]; omega) h4 h5) h1
  obtain ⟨mid, hmid⟩ := h.above
  have hfr : (U.setTop g).frames = (.java g :: mid) ++ below := by rw [State.frames_setTop' g h.top, hmid]; rfl
  obtain ⟨o, s₂, hsteps, -, hend, hq⟩ := Steps.callFree hM p X.admits X.cas X.clock (acts := []) hfr happ hPc trivial
  have hq' : vx_Q Qc XC mc ms free a (U.calling g mk a) o s₂ := hq
  rw [State.frames_setTop' g h.top] at hend
  obtain ⟨g₀, hg0⟩ := Option.isSome_iff_exists.mp h.top
  obtain ⟨r, hr⟩ := State.topJava?_eq_some.mp hg0
  have hr' : (({ U with heap := s₂.heap, slotsUsed := s₂.slotsUsed } : State).setVm s₂.vm).frames = .java g₀ :: r := hr
  rcases hq' with ⟨hqc, L, hfe, hL⟩ | ⟨q, rfl, E, ce, L, hx, hce, hcv, hcl, hW₂, hsm, hL⟩
  · obtain ⟨⟨v, rfl⟩, hW₂, e2, q2, q3, q4, q5, q6⟩ := id hfe
    have e3 : s₂ = ({ (U.calling g mk a).setFrames s₂.frames with heap := s₂.heap, slotsUsed := s₂.slotsUsed } : State).setVm s₂.vm := by
      have : s₂ = ({ s₂ with vm := (U.calling g mk a).vm } : State).setVm s₂.vm := rfl
      rw [e2] at this
      exact this
    obtain ⟨c₂, i₂, len₂, hc₂, hd₂, hf₂⟩ := hend
    have hW' : U.WarmedH s₂.vm := hW₂
    have hcc : c₂ = c := by
      have h1 : s₂.code? g.method = U.code? g.method := by
        rw [State.code?_eq, State.code?_eq, hW'.alike.method?]
      exact Option.some.inj (hc₂.symm.trans (h1.trans h.code))
    subst hcc
    have hlen : len₂ = len := by rw [hdg] at hd₂; cases hd₂; rfl
    subst hlen
    have hs₂ : s₂ = (({ U with heap := s₂.heap, slotsUsed := s₂.slotsUsed } : State).setVm s₂.vm).setTop { g with pc := g.pc + len₂, stack := v.toList ++ g.stack } := by
      refine e3.trans ?_
      rw [hf₂, State.calling_eq h.top, State.setFrames_setFrames, State.setTop_of_frames _ hr', hr]
      rfl
    have hsame : U.sameButNew ({ U with heap := s₂.heap, slotsUsed := s₂.slotsUsed } : State) L mc ms := by
      refine ⟨?_, q2, q3, q4, q5, q6⟩
      obtain ⟨t, ht, -⟩ := State.frames_cons hr
      show ({ U with heap := s₂.heap, slotsUsed := s₂.slotsUsed } : State) = { U.setFrames U.frames with heap := s₂.heap, slotsUsed := s₂.slotsUsed }
      rw [State.setFrames_self ht]
    subst hg
    refine Or.inl ⟨v, ⟨(({ U with heap := s₂.heap, slotsUsed := s₂.slotsUsed } : State).setVm s₂.vm), Ls ++ L, c0 + mc, s0 + ms⟩,
      ⟨X.admits, X.cas, X.clock, X.frames, X.room, X.hears, X.method, X.code, (X.here.setHeapUsed s₂.heap s₂.slotsUsed).setVm hW'.alike, X.tail, State.WarmedH.trans X.warmed hW', X.limits, X.bytes, X.same.trans (hsame.setVm s.vm)⟩,
      ⟨g, mk, s₂, L, rfl, rfl, hqc, rfl, hL, rfl, rfl⟩, ?_⟩
    show Steps p.tables e below _ ((({ U with heap := s₂.heap, slotsUsed := s₂.slotsUsed } : State).setVm s₂.vm).setTop { g with pc := g.pc + len₂, stack := v.toList ++ g.stack })
    rw [← hs₂]
    exact hsteps
  · obtain ⟨e2, q2, q3, q4, q5, q6⟩ := id hsm
    have e3 : s₂ = ({ (U.calling g mk a).setFrames s₂.frames with heap := s₂.heap, slotsUsed := s₂.slotsUsed } : State).setVm s₂.vm := by
      have : s₂ = ({ s₂ with vm := (U.calling g mk a).vm } : State).setVm s₂.vm := rfl
      rw [e2] at this
      exact this
    have hf₂ : s₂.frames = .throwing q :: .java g :: U.frames.tail := hend
    have hW' : U.WarmedH s₂.vm := hW₂
    have hs₂ : s₂ = ((({ U with heap := s₂.heap, slotsUsed := s₂.slotsUsed } : State).setVm s₂.vm).setTop g).pushFrame (.throwing q) := by
      refine e3.trans ?_
      rw [hf₂, State.calling_eq h.top, State.setFrames_setFrames, State.pushFrame, State.frames_setTop _ hr', State.setTop_of_frames _ hr', State.setFrames_setFrames, hr]
      rfl
    have hsame : U.sameButNew ({ U with heap := s₂.heap, slotsUsed := s₂.slotsUsed } : State) L mc ms := by
      refine ⟨?_, q2, q3, q4, q5, q6⟩
      obtain ⟨t, ht, -⟩ := State.frames_cons hr
      show ({ U with heap := s₂.heap, slotsUsed := s₂.slotsUsed } : State) = { U.setFrames U.frames with heap := s₂.heap, slotsUsed := s₂.slotsUsed }
      rw [State.setFrames_self ht]
    subst hg
    refine Or.inr ⟨q, ⟨(({ U with heap := s₂.heap, slotsUsed := s₂.slotsUsed } : State).setVm s₂.vm), Ls ++ L, c0 + mc, s0 + ms⟩,
      ⟨X.admits, X.cas, X.clock, X.frames, X.room, X.hears, X.method, X.code, (X.here.setHeapUsed s₂.heap s₂.slotsUsed).setVm hW'.alike, X.tail, State.WarmedH.trans X.warmed hW', X.limits, X.bytes, X.same.trans (hsame.setVm s.vm)⟩,
      ⟨g, mk, s₂, L, E, ce, rfl, rfl, hx, hce, hcv, hcl, rfl, hL, rfl, rfl⟩, ?_⟩
    show Steps p.tables e below _ (((({ U with heap := s₂.heap, slotsUsed := s₂.slotsUsed } : State).setVm s₂.vm).setTop g).pushFrame (.throwing q))
    rw [← hs₂]
    exact hsteps
end Payer
section Calls
variable {p : Program} {l : Launch} {e : Env} {R : Room} {s : State} {m : MethodId} {args : Array Value} {below : List Frame} {meth : Method} {c : Code} {T : State} {locs : List Loc} {cells slots : Nat}
theorem vx_callV (X : Stand p l e R s m args below meth c T locs cells slots) (hexec : p.tables.exec = Jvm.exec) {own C : String} {index : Nat} {y : MethodName} {bytes : ByteArray} {maxL : Nat} {ret : Option FieldType}
    (hown : s.vm.findClass own = some m.cls) (hlink : (Cond.methodLink own index y).before args s = true) (hinst : (Cond.instanceMethod y).before args s = true) (hsel : (Cond.selects C y y).before args s = true)
    (hcode : (Cond.code y bytes maxL ret).before args s = true) (hy : y.cls ≠ "java/lang/invoke/MethodHandle" ∧ y.cls ≠ "java/lang/invoke/VarHandle")
    {W9 : Nat} {Pre : Pt → Array Value → Prop} {Post : Pt → Array Value → Option Value → Pt → Prop} {PostX : Pt → Array Value → Addr → Pt → Prop} (hK : vx_Back l R p e below s args y 3 W9 Pre Post PostX)
    {b : Addr} {cellB : Cell} (hcell : T.heap[b]? = some cellB) (hobj : cellB.vm.isStatics = false) (hcls : s.vm.findClass C = some cellB.cls)
    {g : JFrame} (hg : g.method = m) (hsize : g.locals.size = c.maxLocals) {argsL rest : List Value} (hlen : ∀ sig, parseMethodDescriptor y.desc = some sig → argsL.length = sig.parameters.length)
    (hstack : g.stack = argsL.reverse ++ .ref b :: rest) (hW : 2 * g.monitorRoom + (rest.map fun v => v.category).sum ≤ W9) (hdg : decode c.code g.pc = .ok (.invokevirtual index, 3))
    (hpre : ∀ vm₁, s.WarmedH vm₁ → Pre ⟨T.setVm vm₁, locs, cells, slots⟩ (Value.ref b :: argsL).toArray) :
    (∃ (v : Option Value) (vm₁ : Vm) (B : Pt), s.WarmedH vm₁ ∧ Stand p l e R s m args below meth c B.U B.locs B.cells B.slots ∧ Post ⟨T.setVm vm₁, locs, cells, slots⟩ (Value.ref b :: argsL).toArray v B ∧
      ∀ target, Steps p.tables e below (B.U.setTop { g with pc := g.pc + 3, stack := v.toList ++ rest }) target → Steps p.tables e below (T.setTop g) target) ∨
    (∃ (q : Addr) (vm₁ : Vm) (B : Pt), s.WarmedH vm₁ ∧ Stand p l e R s m args below meth c B.U B.locs B.cells B.slots ∧ PostX ⟨T.setVm vm₁, locs, cells, slots⟩ (Value.ref b :: argsL).toArray q B ∧
      Steps p.tables e below (T.setTop g) ((B.U.setTop { g with stack := rest }).pushFrame (.throwing q))) := by
  obtain ⟨mk, methM, hnamed, hmethM, hstM, habM⟩ := Cond.instanceMethod_spec hinst
  obtain ⟨methM', cM, hmethM', -, -, -, -, -, -, hsigM⟩ := Cond.code_spec hnamed hcode
  cases hmethM.symm.trans hmethM'
  obtain ⟨c2, r2, m2, q1, q2, q3, q4, kP, hkP, hkPi⟩ := Cond.selects_spec hsel
  cases hcls.symm.trans q1
  cases (State.methodFound?_of_named hnamed hy).symm.trans q2
  cases hnamed.symm.trans q3
  have hselP : selectMethod e.platform s.vm cellB.cls mk = .method mk := by rw [Launch.admits_selectMethod X.admits]; exact q4
  obtain ⟨vm₁, X₁, hstep₁⟩ := X.invokevirtual hexec hown hlink hnamed hmethM hstM hkP hkPi hy (a := b) (cell := cellB) hcell
    (fun z h => by rw [h] at hobj; cases hobj) hselP hmethM habM hkP hkPi (g := g) hg (argsL := argsL) (rest := rest) (hlen _ hsigM) hstack hdg
  rcases hK m meth c ⟨T.setVm vm₁, locs, cells, slots⟩ { g with stack := rest } (.invokevirtual index) mk (Value.ref b :: argsL).toArray X₁ hg hsize hdg hW (X₁.named hnamed) (hpre vm₁ X₁.warmed) with ⟨v, B, X', hpost, hsteps⟩ | ⟨q, B, X', hpost, hsteps⟩
  · exact Or.inl ⟨v, vm₁, B, X₁.warmed, X', hpost, fun target h => hstep₁ _ fun acts => by rw [doInvoke_state]; exact hsteps.trans h⟩
  · exact Or.inr ⟨q, vm₁, B, X₁.warmed, X', hpost, hstep₁ _ fun acts => by rw [doInvoke_state]; exact hsteps⟩
theorem vx_callS (X : Stand p l e R s m args below meth c T locs cells slots) (hexec : p.tables.exec = Jvm.exec) {own : String} {index : Nat} {y : MethodName} {bytes : ByteArray} {maxL : Nat} {ret : Option FieldType}
    (hown : s.vm.findClass own = some m.cls) (hlink : (Cond.methodLink own index y).before args s = true) (hstat : (Cond.static y).before args s = true) (hinit : (Cond.initialized y.cls).before args s = true)
    (hcode : (Cond.code y bytes maxL ret).before args s = true) (hy : y.cls ≠ "java/lang/invoke/MethodHandle" ∧ y.cls ≠ "java/lang/invoke/VarHandle")
    {W9 : Nat} {Pre : Pt → Array Value → Prop} {Post : Pt → Array Value → Option Value → Pt → Prop} {PostX : Pt → Array Value → Addr → Pt → Prop} (hK : vx_Back l R p e below s args y 3 W9 Pre Post PostX)
    {g : JFrame} (hg : g.method = m) (hsize : g.locals.size = c.maxLocals) {argsL rest : List Value} (hlen : ∀ sig, parseMethodDescriptor y.desc = some sig → argsL.length = sig.parameters.length)
    (hstack : g.stack = argsL.reverse ++ rest) (hW : 2 * g.monitorRoom + (rest.map fun v => v.category).sum ≤ W9) (hdg : decode c.code g.pc = .ok (.invokestatic index, 3))
    (hpre : ∀ vm₁, s.WarmedH vm₁ → Pre ⟨T.setVm vm₁, locs, cells, slots⟩ argsL.toArray) :
    (∃ (v : Option Value) (vm₁ : Vm) (B : Pt), s.WarmedH vm₁ ∧ Stand p l e R s m args below meth c B.U B.locs B.cells B.slots ∧ Post ⟨T.setVm vm₁, locs, cells, slots⟩ argsL.toArray v B ∧
      ∀ target, Steps p.tables e below (B.U.setTop { g with pc := g.pc + 3, stack := v.toList ++ rest }) target → Steps p.tables e below (T.setTop g) target) ∨
    (∃ (q : Addr) (vm₁ : Vm) (B : Pt), s.WarmedH vm₁ ∧ Stand p l e R s m args below meth c B.U B.locs B.cells B.slots ∧ PostX ⟨T.setVm vm₁, locs, cells, slots⟩ argsL.toArray q B ∧
      Steps p.tables e below (T.setTop g) ((B.U.setTop { g with stack := rest }).pushFrame (.throwing q))) := by
  obtain ⟨mk, hnamed⟩ := Cond.code_named hcode
  obtain ⟨methM, cM, hmethM, -, -, -, -, -, -, hsigM⟩ := Cond.code_spec hnamed hcode
  have hstatic : methM.isStatic = true := Cond.static_spec hnamed hmethM hstat
  obtain ⟨kP, hkP, -⟩ := className_of_methodNamed hnamed
  have hinitP : kP.init = .initialized := Cond.initialized_spec (findClass_of_methodNamed hnamed) hkP hinit
  obtain ⟨vm₁, X₁, hstep₁⟩ := X.invokestatic hexec hown hlink hnamed hmethM hstatic hkP hinitP hy (g := g) hg (argsL := argsL) (rest := rest) (hlen _ hsigM) hstack hdg
  rcases hK m meth c ⟨T.setVm vm₁, locs, cells, slots⟩ { g with stack := rest } (.invokestatic index) mk argsL.toArray X₁ hg hsize hdg hW (X₁.named hnamed) (hpre vm₁ X₁.warmed) with ⟨v, B, X', hpost, hsteps⟩ | ⟨q, B, X', hpost, hsteps⟩
  · exact Or.inl ⟨v, vm₁, B, X₁.warmed, X', hpost, fun target h => hstep₁ _ fun acts => by rw [doInvoke_state]; exact hsteps.trans h⟩
  · exact Or.inr ⟨q, vm₁, B, X₁.warmed, X', hpost, hstep₁ _ fun acts => by rw [doInvoke_state]; exact hsteps⟩
end Calls
theorem vx_cls {s : State} {T : State} {vm₁ : Vm} {E : String} {k : ClassId} (hW : s.WarmedH vm₁) (h : (T.setVm vm₁).vm.findClass E = some k) : s.vm.findClass E = some k := by
  have h1 : vm₁.findClass E = some k := h
  rw [hW.alike.findClass] at h1
  exact h1
/-- the method's frame g, with q thrown over it -/
def vx_W (p : Program) (l : Launch) (e : Env) (R : Room) (s : State) (m : MethodId) (args : Array Value) (below : List Frame) (meth : Method) (c : Code) (H : Heap) (locs : List Loc) (cells slots : Nat) (Q : State → Prop) (g : JFrame) (q : Addr) : Prop :=
  ∀ T : State, T.heap = H → Stand p l e R s m args below meth c T locs cells slots → ∃ t, Steps p.tables e below ((T.setTop g).pushFrame (.throwing q)) t ∧ Q t
def vx_Run (p : Program) (l : Launch) (e : Env) (R : Room) (s : State) (m : MethodId) (args : Array Value) (below : List Frame) (meth : Method) (c : Code) (H : Heap) (locs : List Loc) (cells slots mc ms : Nat) (g : JFrame) (rest : List Value) (Qa : State → Outcome → State → Prop) (XC : String → State → State → Prop) (free : Addr → Prop) : Prop :=
  ∀ T : State, T.heap = H → Stand p l e R s m args below meth c T locs cells slots →
    (∃ (v : Option Value) (st₀ t T' : State) (L : List Loc), st₀.heap = H ∧ Stand p l e R s m args below meth c T' (locs ++ L) (cells + mc) (slots + ms) ∧ (∀ q ∈ L, free q.base) ∧ T'.heap = t.heap ∧ T'.vm = t.vm ∧ Qa st₀ (.returned v) t ∧
      Goes p e below T g T' { g with pc := g.pc + 3, stack := v.toList ++ rest }) ∨
    (∃ (q : Addr) (st₀ t T' : State) (L : List Loc) (E : String) (ce : Cell), st₀.heap = H ∧ Stand p l e R s m args below meth c T' (locs ++ L) (cells + mc) (slots + ms) ∧ (∀ z ∈ L, free z.base) ∧ T'.heap = t.heap ∧ T'.vm = t.vm ∧ XC E st₀ t ∧ t.heap[q]? = some ce ∧ ce.vm = .none ∧ s.vm.findClass E = some ce.cls ∧
      Steps p.tables e below (T.setTop g) ((T'.setTop { g with stack := rest }).pushFrame (.throwing q)))
def vx_X {S : Type} (px : S → Prop) (B : String → S → State → Prop) (A : Nat → Prop) : String → State → State → Prop := fun E st t => ∃ u : S, px u ∧ B E u t ∧ va_F A st t
section Runs
variable {p : Program} {l : Launch} {e : Env} {R : Room} {s : State} {m : MethodId} {args : Array Value} {below : List Frame} {meth : Method} {c : Code} {H : Heap} {locs : List Loc} {cells slots : Nat}
variable {y : MethodName} {bytes cc : ByteArray} {maxL nL mc ms n index : Nat} {ret : Option FieldType} {ws : List Cond} {rm : Room} {Pc : Array Value → State → Prop} {Qc : Array Value → State → Outcome → State → Prop} {XC : String → State → State → Prop} {free : Addr → Prop} {Ts : List Cond} {own C : String} {b : Addr} {As rest : List Value} {g : JFrame}
theorem vx_callBack (cb : CallB R s args own index y bytes maxL ret ws rm mc ms n) (hM : vx_Met l y ws rm Pc Qc XC mc ms free) (hbl : FrameBlind Pc) : vx_Back l R p e below s args y 3 8 (PreOf R mc ms Pc) (PostOf Qc mc ms free) (vx_Post XC mc ms free) := by
  obtain ⟨hrc, hrs, hfr, hlo, hws, hcw, -, hini, -⟩ := cb
  exact vx_back (bytes := bytes) (maxL := maxL) (ret := ret) hM hbl hrc hrs hfr hlo hws hcw (fun a' U hW => word_at hW (Or.inl (by first | rfl | simp [Cond.onTables, Cond.keeps, Cond.steady])) hini)
theorem vx_runV (S : CallFix p m c cc nL s args Ts own) (hM : vx_Met l y ws rm Pc Qc XC mc ms free) (cw : CallW R s args own C index y bytes maxL ret ws rm mc ms n) (hp : PreV s H C b Pc As)
    (hg : g.method = m) (hn : As.length = n) (hsize : g.locals.size = nL) (hstack : g.stack = As.reverse ++ .ref b :: rest) (hW : 2 * g.monitorRoom + (rest.map fun v => v.category).sum ≤ 8) (hdg : decode cc g.pc = .ok (.invokevirtual index, 3)) (hf : cells + mc ≤ R.cells ∧ slots + ms ≤ R.slots) :
    vx_Run p l e R s m args below meth c H locs cells slots mc ms g rest (Qc (Value.ref b :: As).toArray) XC free := by
  have hK : vx_Back l R p e below s args y 3 8 (PreOf R mc ms Pc) (PostOf Qc mc ms free) (vx_Post XC mc ms free) := vx_callBack cw.1 hM hp.1
  obtain ⟨⟨-, -, -, -, -, -, hcode, -, hy, hlen, hl⟩, hin, hse⟩ := cw
  obtain ⟨hx, hb, hml, ho, -⟩ := S
  obtain ⟨-, ⟨cellB, hcB, hoB, hclB⟩, hPc⟩ := hp
  intro T hT X
  rcases vx_callV X hx (C := C) (bytes := bytes) (maxL := maxL) (ret := ret) ho hl hin hse hcode hy hK (by rw [hT]; exact hcB) hoB hclB hg (hsize.trans hml.symm) (argsL := As) (rest := rest) (fun sig h => hn.trans (hlen sig h)) hstack hW (by rw [hb]; exact hdg)
    (fun vm₁ hW₁ => ⟨hf.1, hf.2, hPc (T.setVm vm₁) hT hW₁⟩) with ⟨v, vm₁, ⟨U', l2, c2, s2⟩, hW₁, X', ⟨g', mk, t, L, e1, e2, hq, h1, hL, h2, h3⟩, st⟩ | ⟨q, vm₁, ⟨U', l2, c2, s2⟩, hW₁, X', ⟨g', mk, t, L, E, ce, e1, e2, hq, hce, hcv, hcl, h1, hL, h2, h3⟩, st⟩
  · dsimp only [Pt.U, Pt.locs, Pt.cells, Pt.slots] at X' e1 e2 h1 h2 h3 st
    subst h1; subst h2; subst h3
    exact Or.inl ⟨v, (T.setVm vm₁).calling g' mk (Value.ref b :: As).toArray, t, U', L, hT, X', hL, e1, e2, hq, st⟩
  · dsimp only [Pt.U, Pt.locs, Pt.cells, Pt.slots] at X' e1 e2 h1 h2 h3 st hcl
    subst h1; subst h2; subst h3
    exact Or.inr ⟨q, (T.setVm vm₁).calling g' mk (Value.ref b :: As).toArray, t, U', L, E, ce, hT, X', hL, e1, e2, hq, hce, hcv, vx_cls hW₁ hcl, st⟩
theorem vx_runS (S : CallFix p m c cc nL s args Ts own) (hM : vx_Met l y ws rm Pc Qc XC mc ms free) (cw : CallB R s args own index y bytes maxL ret ws rm mc ms n ∧ (Cond.static y).before args s = true) (hp : PreS s H Pc As)
    (hg : g.method = m) (hn : As.length = n) (hsize : g.locals.size = nL) (hstack : g.stack = As.reverse ++ rest) (hW : 2 * g.monitorRoom + (rest.map fun v => v.category).sum ≤ 8) (hdg : decode cc g.pc = .ok (.invokestatic index, 3)) (hf : cells + mc ≤ R.cells ∧ slots + ms ≤ R.slots) :
    vx_Run p l e R s m args below meth c H locs cells slots mc ms g rest (Qc As.toArray) XC free := by
  have hK : vx_Back l R p e below s args y 3 8 (PreOf R mc ms Pc) (PostOf Qc mc ms free) (vx_Post XC mc ms free) := vx_callBack cw.1 hM hp.1
  obtain ⟨⟨-, -, -, -, -, -, hcode, hini, hy, hlen, hl⟩, hstt⟩ := cw
  obtain ⟨hx, hb, hml, ho, -⟩ := S
  intro T hT X
  rcases vx_callS X hx (bytes := bytes) (maxL := maxL) (ret := ret) ho hl hstt hini hcode hy hK hg (hsize.trans hml.symm) (argsL := As) (rest := rest) (fun sig h => hn.trans (hlen sig h)) hstack hW (by rw [hb]; exact hdg)
    (fun vm₁ hW₁ => ⟨hf.1, hf.2, hp.2 (T.setVm vm₁) hT hW₁⟩) with ⟨v, vm₁, ⟨U', l2, c2, s2⟩, hW₁, X', ⟨g', mk, t, L, e1, e2, hq, h1, hL, h2, h3⟩, st⟩ | ⟨q, vm₁, ⟨U', l2, c2, s2⟩, hW₁, X', ⟨g', mk, t, L, E, ce, e1, e2, hq, hce, hcv, hcl, h1, hL, h2, h3⟩, st⟩
  · dsimp only [Pt.U, Pt.locs, Pt.cells, Pt.slots] at X' e1 e2 h1 h2 h3 st
    subst h1; subst h2; subst h3
    exact Or.inl ⟨v, (T.setVm vm₁).calling g' mk As.toArray, t, U', L, hT, X', hL, e1, e2, hq, st⟩
  · dsimp only [Pt.U, Pt.locs, Pt.cells, Pt.slots] at X' e1 e2 h1 h2 h3 st hcl
    subst h1; subst h2; subst h3
    exact Or.inr ⟨q, (T.setVm vm₁).calling g' mk As.toArray, t, U', L, E, ce, hT, X', hL, e1, e2, hq, hce, hcv, vx_cls hW₁ hcl, st⟩
end Runs
section Rows
variable {p : Program} {l : Launch} {e : Env} {R : Room} {s : State} {m : MethodId} {args : Array Value} {below : List Frame} {meth : Method} {c : Code} {H : Heap} {locs : List Loc} {cells slots : Nat} {Q : State → Prop}
variable {mc ms : Nat} {free : Addr → Prop} {A0 A1 : Nat → Prop} {H0 : Heap} {a : Array Value} {pc : Nat} {ls : Array Slot} {st0 rest : List Value}
theorem vx_keep {st₀ t T' : State} {L : List Loc} (h0 : st₀.heap = H) (e1 : T'.heap = t.heap) (hS : va_S A0 H0 H locs) (hA : ∀ q, q < H.size → A1 q → A0 q) (hf : ∀ q, free q → A0 q) (hL : ∀ q ∈ L, free q.base) (hF : va_F A1 st₀ t) :
    H.size ≤ T'.heap.size ∧ (∀ q : Nat, q < H.size → ¬ A1 q → T'.heap[q]? = H[q]?) ∧ va_S A0 H0 T'.heap (locs ++ L) := by
  obtain ⟨hz, hk⟩ := hF
  rw [h0] at hz hk
  exact ⟨by rw [e1]; exact hz, fun q h1 h2 => by rw [e1]; exact hk q h1 h2,
    ⟨Nat.le_trans hS.1 (by rw [e1]; exact hz), fun q h1 h2 => by rw [e1, hk q (Nat.lt_of_lt_of_le h1 hS.1) (fun z => h2 (hA q (Nat.lt_of_lt_of_le h1 hS.1) z))]; exact hS.2.1 q h1 h2, fun q hq => by
      rcases List.mem_append.mp hq with h | h
      · exact hS.2.2 q h
      · exact hf _ (hL q h)⟩⟩
theorem vx_calli {S SX : Type} {post : Int32 → S → Prop} {px : SX → Prop} {B : S → State → Prop} {BX : String → SX → State → Prop} {AX : Nat → Prop} (hr : vx_Run p l e R s m args below meth c H locs cells slots mc ms (F0 m pc ls st0) rest (va_Qi post B A1 a) (vx_X px BX AX) free) (hS : va_S A0 H0 H locs) (hA : ∀ q, q < H.size → A1 q → A0 q) (hf : ∀ q, free q → A0 q) (hAX : ∀ q, q < H.size → AX q → A0 q)
    (kx : ∀ (E : String) (ce : Cell) (q9 : Addr) (u : SX) (t : State) (H1 : Heap) (locs1 : List Loc), t.heap = H1 → s.vm.Alike t.vm → px u → BX E u t → H.size ≤ H1.size → (∀ q : Nat, q < H.size → ¬ AX q → H1[q]? = H[q]?) → va_S A0 H0 H1 locs1 → H1[q9]? = some ce → ce.vm = .none → s.vm.findClass E = some ce.cls → vx_W p l e R s m args below meth c H1 locs1 (cells + mc) (slots + ms) Q (F0 m pc ls rest) q9)
    (kk : ∀ (r : Int32) (u : S) (t : State) (H1 : Heap) (locs1 : List Loc), t.heap = H1 → s.vm.Alike t.vm → post r u → B u t → H.size ≤ H1.size → (∀ q : Nat, q < H.size → ¬ A1 q → H1[q]? = H[q]?) → va_S A0 H0 H1 locs1 → W p l e R s m args below meth c H1 locs1 (cells + mc) (slots + ms) Q (F0 m (pc + 3) ls (.int r :: rest))) : W p l e R s m args below meth c H locs cells slots Q (F0 m pc ls st0) := by
  intro T hT X
  rcases hr T hT X with ⟨v, st₀, t, T', L, h0, X', hL, e1, e2, ⟨⟨r, u, hv, hp, hb⟩, hF⟩, st⟩ | ⟨q, st₀, t, T', L, E, ce, h0, X', hL, e1, e2, ⟨u, hp, hb, hF⟩, hce, hcv, hcl, st⟩
  · cases hv
    obtain ⟨k1, k2, k3⟩ := vx_keep h0 e1 hS hA hf hL hF
    obtain ⟨t2, a1, b1⟩ := kk r u t T'.heap (locs ++ L) e1.symm (by rw [← e2]; exact X'.warmed.alike) hp hb k1 k2 k3 T' rfl X'
    exact ⟨t2, st t2 a1, b1⟩
  · obtain ⟨k1, k2, k3⟩ := vx_keep h0 e1 hS hAX hf hL hF
    obtain ⟨t2, a1, b1⟩ := kx E ce q u t T'.heap (locs ++ L) e1.symm (by rw [← e2]; exact X'.warmed.alike) hp hb k1 k2 k3 (by rw [e1]; exact hce) hcv hcl T' rfl X'
    exact ⟨t2, st.trans a1, b1⟩
theorem vx_calll {S SX : Type} {post : Int64 → S → Prop} {px : SX → Prop} {B : S → State → Prop} {BX : String → SX → State → Prop} {AX : Nat → Prop} (hr : vx_Run p l e R s m args below meth c H locs cells slots mc ms (F0 m pc ls st0) rest (va_Ql post B A1 a) (vx_X px BX AX) free) (hS : va_S A0 H0 H locs) (hA : ∀ q, q < H.size → A1 q → A0 q) (hf : ∀ q, free q → A0 q) (hAX : ∀ q, q < H.size → AX q → A0 q)
    (kx : ∀ (E : String) (ce : Cell) (q9 : Addr) (u : SX) (t : State) (H1 : Heap) (locs1 : List Loc), t.heap = H1 → s.vm.Alike t.vm → px u → BX E u t → H.size ≤ H1.size → (∀ q : Nat, q < H.size → ¬ AX q → H1[q]? = H[q]?) → va_S A0 H0 H1 locs1 → H1[q9]? = some ce → ce.vm = .none → s.vm.findClass E = some ce.cls → vx_W p l e R s m args below meth c H1 locs1 (cells + mc) (slots + ms) Q (F0 m pc ls rest) q9)
    (kk : ∀ (r : Int64) (u : S) (t : State) (H1 : Heap) (locs1 : List Loc), t.heap = H1 → s.vm.Alike t.vm → post r u → B u t → H.size ≤ H1.size → (∀ q : Nat, q < H.size → ¬ A1 q → H1[q]? = H[q]?) → va_S A0 H0 H1 locs1 → W p l e R s m args below meth c H1 locs1 (cells + mc) (slots + ms) Q (F0 m (pc + 3) ls (.long r :: rest))) : W p l e R s m args below meth c H locs cells slots Q (F0 m pc ls st0) := by
  intro T hT X
  rcases hr T hT X with ⟨v, st₀, t, T', L, h0, X', hL, e1, e2, ⟨⟨r, u, hv, hp, hb⟩, hF⟩, st⟩ | ⟨q, st₀, t, T', L, E, ce, h0, X', hL, e1, e2, ⟨u, hp, hb, hF⟩, hce, hcv, hcl, st⟩
  · cases hv
    obtain ⟨k1, k2, k3⟩ := vx_keep h0 e1 hS hA hf hL hF
    obtain ⟨t2, a1, b1⟩ := kk r u t T'.heap (locs ++ L) e1.symm (by rw [← e2]; exact X'.warmed.alike) hp hb k1 k2 k3 T' rfl X'
    exact ⟨t2, st t2 a1, b1⟩
  · obtain ⟨k1, k2, k3⟩ := vx_keep h0 e1 hS hAX hf hL hF
    obtain ⟨t2, a1, b1⟩ := kx E ce q u t T'.heap (locs ++ L) e1.symm (by rw [← e2]; exact X'.warmed.alike) hp hb k1 k2 k3 (by rw [e1]; exact hce) hcv hcl T' rfl X'
    exact ⟨t2, st.trans a1, b1⟩
theorem vx_callf {S SX : Type} {post : UInt32 → S → Prop} {px : SX → Prop} {B : S → State → Prop} {BX : String → SX → State → Prop} {AX : Nat → Prop} (hr : vx_Run p l e R s m args below meth c H locs cells slots mc ms (F0 m pc ls st0) rest (va_Qf post B A1 a) (vx_X px BX AX) free) (hS : va_S A0 H0 H locs) (hA : ∀ q, q < H.size → A1 q → A0 q) (hf : ∀ q, free q → A0 q) (hAX : ∀ q, q < H.size → AX q → A0 q)
    (kx : ∀ (E : String) (ce : Cell) (q9 : Addr) (u : SX) (t : State) (H1 : Heap) (locs1 : List Loc), t.heap = H1 → s.vm.Alike t.vm → px u → BX E u t → H.size ≤ H1.size → (∀ q : Nat, q < H.size → ¬ AX q → H1[q]? = H[q]?) → va_S A0 H0 H1 locs1 → H1[q9]? = some ce → ce.vm = .none → s.vm.findClass E = some ce.cls → vx_W p l e R s m args below meth c H1 locs1 (cells + mc) (slots + ms) Q (F0 m pc ls rest) q9)
    (kk : ∀ (r : UInt32) (u : S) (t : State) (H1 : Heap) (locs1 : List Loc), t.heap = H1 → s.vm.Alike t.vm → post r u → B u t → H.size ≤ H1.size → (∀ q : Nat, q < H.size → ¬ A1 q → H1[q]? = H[q]?) → va_S A0 H0 H1 locs1 → W p l e R s m args below meth c H1 locs1 (cells + mc) (slots + ms) Q (F0 m (pc + 3) ls (.float r :: rest))) : W p l e R s m args below meth c H locs cells slots Q (F0 m pc ls st0) := by
  intro T hT X
  rcases hr T hT X with ⟨v, st₀, t, T', L, h0, X', hL, e1, e2, ⟨⟨r, u, hv, hp, hb⟩, hF⟩, st⟩ | ⟨q, st₀, t, T', L, E, ce, h0, X', hL, e1, e2, ⟨u, hp, hb, hF⟩, hce, hcv, hcl, st⟩
  · cases hv
    obtain ⟨k1, k2, k3⟩ := vx_keep h0 e1 hS hA hf hL hF
    obtain ⟨t2, a1, b1⟩ := kk r u t T'.heap (locs ++ L) e1.symm (by rw [← e2]; exact X'.warmed.alike) hp hb k1 k2 k3 T' rfl X'
    exact ⟨t2, st t2 a1, b1⟩
  · obtain ⟨k1, k2, k3⟩ := vx_keep h0 e1 hS hAX hf hL hF
    obtain ⟨t2, a1, b1⟩ := kx E ce q u t T'.heap (locs ++ L) e1.symm (by rw [← e2]; exact X'.warmed.alike) hp hb k1 k2 k3 (by rw [e1]; exact hce) hcv hcl T' rfl X'
    exact ⟨t2, st.trans a1, b1⟩
theorem vx_calld {S SX : Type} {post : UInt64 → S → Prop} {px : SX → Prop} {B : S → State → Prop} {BX : String → SX → State → Prop} {AX : Nat → Prop} (hr : vx_Run p l e R s m args below meth c H locs cells slots mc ms (F0 m pc ls st0) rest (va_Qd post B A1 a) (vx_X px BX AX) free) (hS : va_S A0 H0 H locs) (hA : ∀ q, q < H.size → A1 q → A0 q) (hf : ∀ q, free q → A0 q) (hAX : ∀ q, q < H.size → AX q → A0 q)
    (kx : ∀ (E : String) (ce : Cell) (q9 : Addr) (u : SX) (t : State) (H1 : Heap) (locs1 : List Loc), t.heap = H1 → s.vm.Alike t.vm → px u → BX E u t → H.size ≤ H1.size → (∀ q : Nat, q < H.size → ¬ AX q → H1[q]? = H[q]?) → va_S A0 H0 H1 locs1 → H1[q9]? = some ce → ce.vm = .none → s.vm.findClass E = some ce.cls → vx_W p l e R s m args below meth c H1 locs1 (cells + mc) (slots + ms) Q (F0 m pc ls rest) q9)
    (kk : ∀ (r : UInt64) (u : S) (t : State) (H1 : Heap) (locs1 : List Loc), t.heap = H1 → s.vm.Alike t.vm → post r u → B u t → H.size ≤ H1.size → (∀ q : Nat, q < H.size → ¬ A1 q → H1[q]? = H[q]?) → va_S A0 H0 H1 locs1 → W p l e R s m args below meth c H1 locs1 (cells + mc) (slots + ms) Q (F0 m (pc + 3) ls (.double r :: rest))) : W p l e R s m args below meth c H locs cells slots Q (F0 m pc ls st0) := by
  intro T hT X
  rcases hr T hT X with ⟨v, st₀, t, T', L, h0, X', hL, e1, e2, ⟨⟨r, u, hv, hp, hb⟩, hF⟩, st⟩ | ⟨q, st₀, t, T', L, E, ce, h0, X', hL, e1, e2, ⟨u, hp, hb, hF⟩, hce, hcv, hcl, st⟩
  · cases hv
    obtain ⟨k1, k2, k3⟩ := vx_keep h0 e1 hS hA hf hL hF
    obtain ⟨t2, a1, b1⟩ := kk r u t T'.heap (locs ++ L) e1.symm (by rw [← e2]; exact X'.warmed.alike) hp hb k1 k2 k3 T' rfl X'
    exact ⟨t2, st t2 a1, b1⟩
  · obtain ⟨k1, k2, k3⟩ := vx_keep h0 e1 hS hAX hf hL hF
    obtain ⟨t2, a1, b1⟩ := kx E ce q u t T'.heap (locs ++ L) e1.symm (by rw [← e2]; exact X'.warmed.alike) hp hb k1 k2 k3 (by rw [e1]; exact hce) hcv hcl T' rfl X'
    exact ⟨t2, st.trans a1, b1⟩
theorem vx_callv {S SX : Type} {post : S → Prop} {px : SX → Prop} {B : S → State → Prop} {BX : String → SX → State → Prop} {AX : Nat → Prop} (hr : vx_Run p l e R s m args below meth c H locs cells slots mc ms (F0 m pc ls st0) rest (va_Qv post B A1 a) (vx_X px BX AX) free) (hS : va_S A0 H0 H locs) (hA : ∀ q, q < H.size → A1 q → A0 q) (hf : ∀ q, free q → A0 q) (hAX : ∀ q, q < H.size → AX q → A0 q)
    (kx : ∀ (E : String) (ce : Cell) (q9 : Addr) (u : SX) (t : State) (H1 : Heap) (locs1 : List Loc), t.heap = H1 → s.vm.Alike t.vm → px u → BX E u t → H.size ≤ H1.size → (∀ q : Nat, q < H.size → ¬ AX q → H1[q]? = H[q]?) → va_S A0 H0 H1 locs1 → H1[q9]? = some ce → ce.vm = .none → s.vm.findClass E = some ce.cls → vx_W p l e R s m args below meth c H1 locs1 (cells + mc) (slots + ms) Q (F0 m pc ls rest) q9)
    (kk : ∀ (u : S) (t : State) (H1 : Heap) (locs1 : List Loc), t.heap = H1 → s.vm.Alike t.vm → post u → B u t → H.size ≤ H1.size → (∀ q : Nat, q < H.size → ¬ A1 q → H1[q]? = H[q]?) → va_S A0 H0 H1 locs1 → W p l e R s m args below meth c H1 locs1 (cells + mc) (slots + ms) Q (F0 m (pc + 3) ls (rest))) : W p l e R s m args below meth c H locs cells slots Q (F0 m pc ls st0) := by
  intro T hT X
  rcases hr T hT X with ⟨v, st₀, t, T', L, h0, X', hL, e1, e2, ⟨⟨u, hv, hp, hb⟩, hF⟩, st⟩ | ⟨q, st₀, t, T', L, E, ce, h0, X', hL, e1, e2, ⟨u, hp, hb, hF⟩, hce, hcv, hcl, st⟩
  · cases hv
    obtain ⟨k1, k2, k3⟩ := vx_keep h0 e1 hS hA hf hL hF
    obtain ⟨t2, a1, b1⟩ := kk u t T'.heap (locs ++ L) e1.symm (by rw [← e2]; exact X'.warmed.alike) hp hb k1 k2 k3 T' rfl X'
    exact ⟨t2, st t2 a1, b1⟩
  · obtain ⟨k1, k2, k3⟩ := vx_keep h0 e1 hS hAX hf hL hF
    obtain ⟨t2, a1, b1⟩ := kx E ce q u t T'.heap (locs ++ L) e1.symm (by rw [← e2]; exact X'.warmed.alike) hp hb k1 k2 k3 (by rw [e1]; exact hce) hcv hcl T' rfl X'
    exact ⟨t2, st.trans a1, b1⟩
/-- caught by the row x of this method's table; the rows ahead don't take it -/
theorem vx_catch {own name : String} {E : String} {ce : Cell} {q : Addr} (hown : s.vm.findClass own = some m.cls) (pre : List ExceptionTableEntry) (x : ExceptionTableEntry) (suf : List ExceptionTableEntry) (hsplit : c.exceptionTable.toList = pre ++ x :: suf)
    (hpass : ∀ z ∈ pre, covers z pc = false ∨ (z.catchType ≠ 0 ∧ ∃ nm : String, (Cond.classLink own z.catchType nm).before args s = true ∧ va_Nc E nm s)) (hx : covers x pc = true) (h0 : x.catchType ≠ 0)
    (hlink : (Cond.classLink own x.catchType name).before args s = true) (hcast : (Cond.castable E name).before args s = true) (hcell : H[q]? = some ce) (hv : ce.vm = .none) (hcl : s.vm.findClass E = some ce.cls)
    (kk : W p l e R s m args below meth c H locs cells slots Q (F0 m x.handlerPc ls [.ref q])) : vx_W p l e R s m args below meth c H locs cells slots Q (F0 m pc ls rest) q := by
  intro T hT X
  have hpl : e.platform.magicAccessors = ({} : Platform).magicAccessors := by rw [X.admits.platform]
  obtain ⟨c3, c4, hc3, hc4, hasg⟩ := Cond.castable_spec hcast
  cases Option.some.inj (hc3.symm.trans hcl)
  obtain ⟨c5, hc5, hcl5⟩ := Cond.classLink_spec hown hlink e.platform hpl
  cases Option.some.inj (hc4.symm.trans hc5)
  obtain ⟨vm', X', st⟩ := _root_.Jvm.Stand.thenCaughtThrough X q (g := F0 m pc ls rest) rfl (Steps.refl _) (by rw [hT]; exact hcell) (by rw [hv]; rfl) (by obtain ⟨k9, h9, -⟩ := Vm.findClass_spec hcl; exact ⟨k9, h9⟩) pre x suf hsplit
    (fun z hz => by
      rcases hpass z hz with h | ⟨hz0, nm, hl1, hn1⟩
      · exact Or.inl h
      · obtain ⟨c6, hc6, hcl6⟩ := Cond.classLink_spec hown hl1 e.platform hpl
        obtain ⟨a8, b8, h1, h2, h3⟩ := hn1
        cases Option.some.inj (h1.symm.trans hcl)
        cases Option.some.inj (h2.symm.trans hc6)
        exact Or.inr ⟨hz0, _, hcl6, h3⟩) hx (Or.inr ⟨h0, c4, hcl5, hasg⟩)
  obtain ⟨t, a1, b1⟩ := kk (T.setVm vm') hT X'
  exact ⟨t, st.trans a1, b1⟩
end Rows
section Ends
variable {p : Program} {l : Launch} {e : Env} {R : Room} {s : State} {m : MethodId} {args : Array Value} {below : List Frame} {meth : Method} {c : Code} {H : Heap} {locs : List Loc} {cells slots : Nat} {Q : State → Prop}
variable {mc ms : Nat} {free : Addr → Prop} {A0 A1 : Nat → Prop} {H0 : Heap} {a : Array Value} {ls : Array Slot} {st0 rest : List Value}
variable {Qc : Array Value → State → Outcome → State → Prop} {XC : String → State → State → Prop}
/-- what a body that may throw owes at its end -/
def vx_MQ (below : List Frame) (Qc : Array Value → State → Outcome → State → Prop) (XC : String → State → State → Prop) (a : Array Value) (s : State) (mc ms : Nat) (free : Addr → Prop) : State → Prop := fun t =>
  ∃ o, t.status = .running ∧ Ended t below o ∧ vx_Q Qc XC mc ms free a s o t
theorem vx_ret {g : JFrame} {mc ms : Nat} (k : W p l e R s m args below meth c H locs cells slots (MQ below Qc args s mc ms free) g) : W p l e R s m args below meth c H locs cells slots (vx_MQ below Qc XC args s mc ms free) g := by
  intro T hT X
  obtain ⟨t, a1, o, b1, b2, b3, b4⟩ := k T hT X
  exact ⟨t, a1, o, b1, b2, Or.inl ⟨b3, b4⟩⟩
/-- not caught here: it goes on to the caller -/
theorem vx_widen {g : JFrame} {q : Addr} {k n : Nat} (h1 : cells ≤ k) (h2 : slots ≤ n) (kk : vx_W p l e R s m args below meth c H locs k n Q g q) : vx_W p l e R s m args below meth c H locs cells slots Q g q := fun T hT X => kk T hT (stand_widen X h1 h2)
theorem vx_out {pc : Nat} {E : String} {ce : Cell} {q : Addr} {mc ms : Nat} (hout : ∀ x ∈ c.exceptionTable.toList, covers x pc = false) (hlocks : meth.locks = false) (hcell : H[q]? = some ce) (hv : ce.vm = .none) (hcl : s.vm.findClass E = some ce.cls)
    (hx : ∀ t : State, t.heap = H → s.vm.Alike t.vm → XC E s t) (hf : ∀ z ∈ locs, free z.base) (hc : cells ≤ mc) (hs : slots ≤ ms) :
    vx_W p l e R s m args below meth c H locs cells slots (vx_MQ below Qc XC args s mc ms free) (F0 m pc ls rest) q := by
  intro T hT X
  obtain ⟨st1, hrun, hend, hW, hsm⟩ := X.leaveThrown q (g := F0 m pc ls rest) rfl rfl rfl hout hlocks
  have hcell9 : (T.setFrames (.throwing q :: below)).heap[q]? = some ce := by
    show T.heap[q]? = some ce
    rw [hT]; exact hcell
  exact ⟨_, st1, .threw q, hrun, hend, Or.inr ⟨q, rfl, E, ce, locs, hx _ hT hW.alike, hcell9, hv, hcl, hW, hsm.mono hc hs, hf⟩⟩
theorem vx_frame {U : State} {k n : Nat} (h : s.sameButNew ({ U with vm := s.vm } : State) locs k n) : s.heap.size ≤ U.heap.size ∧ ∀ q : Nat, q < s.heap.size → (∀ z ∈ locs, z.base ≠ q) → U.heap[q]? = s.heap[q]? := by
  obtain ⟨-, h2, -, -, -, h6⟩ := h
  refine ⟨h2, fun q hq hz => ?_⟩
  obtain ⟨c9, e1, e2, e3, e4⟩ := h6 q _ (Array.getElem?_eq_getElem hq)
  have hs : c9.slots = (s.heap[q]).slots := Array.ext_getElem? fun i => e4 i fun hm => hz _ hm rfl
  have h9 : c9 = s.heap[q] := by
    rw [hs] at e2
    exact e2
  have e5 : U.heap[q]? = some c9 := e1
  rw [e5, h9, Array.getElem?_eq_getElem hq]
/-- the words of a throw but the four that speak of the heap -/
def vx_no (w : Cond) : Bool := decide (w ≠ .isRef (.static Bundle.tN "UNASSIGNED_STACK" Bundle.steD)) && decide (w ≠ .isRef (.static Bundle.tN "SUPPRESSED_SENTINEL" Bundle.listD)) && decide (w ≠ .laysStatic Bundle.tN "UNASSIGNED_STACK" Bundle.steD) && decide (w ≠ .laysStatic Bundle.tN "SUPPRESSED_SENTINEL" Bundle.listD)
def vx_at0 (own : String) (ic : Nat) (X : String) (names : List String) : List Cond := (Bundle.ownAtoms0 own ic X names).filter vx_no
def vx_atS (own : String) (ic : Nat) (X : String) (names : List String) : List Cond := (Bundle.ownAtoms own ic X names).filter vx_no
/-- a word that the tables alone decide, or a good one -/
def vx_ot (w : Cond) : Bool := w.onTables || goodWord w
theorem vx_ot_at {args a' : Array Value} {s U : State} {w : Cond} (hW : s.WarmedH U.vm) (hvm : s.vm = U.vm) (hg : vx_ot w = true) (h : w.before args s = true) : w.before a' U = true := by
  simp only [vx_ot, Bool.or_eq_true] at hg
  rcases hg with hg | hg
  · exact va_tabs hg hvm h
  · exact word_at hW (good_of_word hg) h
/-- a list's words: the good ones out of the method's own list, the others by premises of their own -/
theorem vx_hat {args : Array Value} {s : State} {L B : List Cond} (h1 : ∀ w ∈ L.filter goodWord, w.before args s = true) (h2 : ∀ w ∈ L.filter (fun w => !goodWord w), w ∈ B) (h3 : ∀ w ∈ B, w.before args s = true) : ∀ w ∈ L, w.before args s = true := by
  intro w hw
  by_cases g : goodWord w = true
  · exact h1 w (List.mem_filter.mpr ⟨hw, g⟩)
  · refine h3 w (h2 w (List.mem_filter.mpr ⟨hw, ?_⟩))
    show (!goodWord w) = true
    cases hgw : goodWord w
    · rfl
    · exact absurd hgw g
theorem vx_c {args : Array Value} {s : State} {w : Cond} {B : List Cond} (h : w.before args s = true) (t : ∀ w ∈ B, w.before args s = true) : ∀ w' ∈ w :: B, w'.before args s = true := fun w' h' => (List.mem_cons.mp h').elim (fun e => by rw [e]; exact h) (t w')
theorem vx_n {args : Array Value} {s : State} : ∀ w ∈ ([] : List Cond), w.before args s = true := fun _ h => nomatch h
theorem vx_own {args : Array Value} {s : State} {L : List Cond} (h1 : ∀ w ∈ L.filter vx_no, w.before args s = true)
    (hU : (Cond.isRef (.static Bundle.tN "UNASSIGNED_STACK" Bundle.steD)).before args s = true) (hN : (Cond.isRef (.static Bundle.tN "SUPPRESSED_SENTINEL" Bundle.listD)).before args s = true)
    (lU : (Cond.laysStatic Bundle.tN "UNASSIGNED_STACK" Bundle.steD).before args s = true) (lN : (Cond.laysStatic Bundle.tN "SUPPRESSED_SENTINEL" Bundle.listD).before args s = true) : ∀ w ∈ L, w.before args s = true := by
  intro w hw
  by_cases e1 : w = .isRef (.static Bundle.tN "UNASSIGNED_STACK" Bundle.steD)
  · rw [e1]; exact hU
  · by_cases e2 : w = .isRef (.static Bundle.tN "SUPPRESSED_SENTINEL" Bundle.listD)
    · rw [e2]; exact hN
    · by_cases e3 : w = .laysStatic Bundle.tN "UNASSIGNED_STACK" Bundle.steD
      · rw [e3]; exact lU
      · by_cases e4 : w = .laysStatic Bundle.tN "SUPPRESSED_SENTINEL" Bundle.listD
        · rw [e4]; exact lN
        · exact h1 w (List.mem_filter.mpr ⟨hw, by unfold vx_no; rw [decide_eq_true e1, decide_eq_true e2, decide_eq_true e3, decide_eq_true e4]; rfl⟩)
/-- where a static field lies, its class's statics cell in H -/
def vx_L (C n d : String) (A : Nat → Prop) (U : State) (H : Heap) : Prop := ∃ (c : ClassId) (k : Class) (i : Nat) (f : Field) (a : Nat) (cell : Cell), U.vm.findClass C = some c ∧ U.fieldFound? C n d = some (c, k, i, f) ∧ f.isStatic = true ∧ k.statics = some a ∧ H[a]? = some cell ∧ cell.vm.isStatics = true ∧ cell.cls = c ∧ f.slot < cell.slots.size ∧ k.staticTypes[f.slot]? = some f.type ∧ ¬ A a
theorem vx_L.moved {C n d : String} {A : Nat → Prop} {u U : State} {H : Heap} (hvm : u.vm.Alike U.vm) (h : vx_L C n d A u H) : vx_L C n d A U H := by
  obtain ⟨c, k, i, f, a, cell, h1, h2, h3, h4, h5, h6, h7, h8, h9, h10⟩ := h
  obtain ⟨k', hi', he⟩ := State.fieldFound?_setVm hvm h2
  exact ⟨c, k', i, f, a, cell, by rw [hvm.findClass]; exact h1, hi', h3, by rw [he]; exact h4, h5, h6, h7, h8, by rw [he]; exact h9, h10⟩
theorem vx_L.kept {C n d : String} {A : Nat → Prop} {U : State} {H H1 : Heap} (h : vx_L C n d A U H) (hq : ∀ a : Nat, a < H.size → ¬ A a → H1[a]? = H[a]?) : vx_L C n d A U H1 := by
  obtain ⟨c, k, i, f, a, cell, h1, h2, h3, h4, h5, h6, h7, h8, h9, h10⟩ := h
  exact ⟨c, k, i, f, a, cell, h1, h2, h3, h4, by rw [hq a (Array.getElem?_eq_some_iff.mp h5).1 h10]; exact h5, h6, h7, h8, h9, h10⟩
theorem vx_L.narrow {C n d : String} {A B : Nat → Prop} {U : State} {H : Heap} (h : vx_L C n d A U H) (hAB : ∀ q, B q → A q) : vx_L C n d B U H := by
  obtain ⟨c, k, i, f, a, cell, h1, h2, h3, h4, h5, h6, h7, h8, h9, h10⟩ := h
  exact ⟨c, k, i, f, a, cell, h1, h2, h3, h4, h5, h6, h7, h8, h9, fun z => h10 (hAB _ z)⟩
theorem vx_L.word {C n d : String} {A : Nat → Prop} {s : State} {args : Array Value} (h : vx_L C n d A s s.heap) : (Cond.laysStatic C n d).before args s = true := by
  obtain ⟨c, k, i, f, a, cell, h1, h2, h3, h4, h5, h6, h7, h8, h9, -⟩ := h
  show (Cond.laysStatic C n d).holds args s none s [] = true
  exact Cond.laysStatic_of h1 h2 h3 h4 h5 h6 h7 h8 h9
/-- .. and what it holds: null or some reference -/
def vx_Zq (C n d : String) (A : Nat → Prop) (U : State) (H : Heap) : Prop := va_Zq C n d A U H ∧ vx_L C n d A U H
theorem vx_Zq.moved {C n d : String} {A : Nat → Prop} {u U : State} {H : Heap} (hvm : u.vm.Alike U.vm) (h : vx_Zq C n d A u H) : vx_Zq C n d A U H := ⟨va_Zq.moved hvm h.1, vx_L.moved hvm h.2⟩
theorem vx_Zq.kept {C n d : String} {A : Nat → Prop} {U : State} {H H1 : Heap} (h : vx_Zq C n d A U H) (hq : ∀ a : Nat, a < H.size → ¬ A a → H1[a]? = H[a]?) : vx_Zq C n d A U H1 := ⟨va_Zq.kept h.1 hq, vx_L.kept h.2 hq⟩
theorem vx_Zq.narrow {C n d : String} {A B : Nat → Prop} {U : State} {H : Heap} (h : vx_Zq C n d A U H) (hAB : ∀ q, B q → A q) : vx_Zq C n d B U H := ⟨va_Zq.narrow h.1 hAB, vx_L.narrow h.2 hAB⟩
theorem vx_Zqof {args : Array Value} {s : State} {C n d : String} {A : Nat → Prop} (hl : (Cond.laysStatic C n d).before args s = true) (hini : (Cond.initialized C).before args s = true) (h : (Cond.isRef (.static C n d)).before args s = true) (hA : ∀ a : Nat, a < s.heap.size → ¬ A a) : vx_Zq C n d A s s.heap := by
  refine ⟨va_Zqof hl hini h hA, ?_⟩
  obtain ⟨c, k, i, f, a, cell, h1, h2, h3, h4, h5, h6, h7, h8, h9⟩ := Cond.laysStatic_spec hl
  exact ⟨c, k, i, f, a, cell, h1, h2, h3, h4, h5, h6, h7, h8, h9, hA a (Array.getElem?_eq_some_iff.mp h5).1⟩
theorem vx_isRef {C n d : String} {v : Value} {A : Nat → Prop} {s : State} {args : Array Value} (h : va_Z C n d v A s s.heap) (hv : v.isRef = true) : (Cond.isRef (.static C n d)).before args s = true := by
  obtain ⟨cf, kf, fi, f, a, cell, h1, h2, h3, h4, h5, h6, h7, -⟩ := h
  have he : (Term.static C n d).eval args s none [] s = some v := by
    simp [Term.eval, State.fieldNamed?, h1, h2, h4, h5, h6, h7]
  simp only [Cond.before, Cond.holds, Cond.value, he]
  cases v <;> simp_all [Value.isRef]
theorem vx_isRefq {C n d : String} {A : Nat → Prop} {s : State} {args : Array Value} (h : va_Zq C n d A s s.heap) : (Cond.isRef (.static C n d)).before args s = true := by
  rcases h with h | ⟨t, h⟩
  · exact vx_isRef h rfl
  · exact vx_isRef h rfl
/-- the same frame, seen from here: as if the method were called anew in this heap -/
theorem vx_rebase {T : State} (X : Stand p l e R s m args below meth c T locs cells slots) {R' : Room} (hf : R'.frames ≤ R.frames) (hl : R'.locals ≤ R.locals) (hc : cells + R'.cells ≤ R.cells) (hs : slots + R'.slots ≤ R.slots) :
    Stand p l e R' ((T.setVm s.vm).setFrames (.invoking m args :: below)) m args below meth c T [] 0 0 := by
  have htop : (T.setVm s.vm).topJava?.isSome := X.here.top
  have hF : ((T.setVm s.vm).setFrames (.invoking m args :: below)).frames = .invoking m args :: below := State.frames_setFrames _ (State.cur_lt_of_top htop)
  obtain ⟨g₀, hg0⟩ := Option.isSome_iff_exists.mp htop
  obtain ⟨r, hr⟩ := State.topJava?_eq_some.mp hg0
  have hl9 : e.platform.stackLimits (T.setVm s.vm).me = e.platform.stackLimits s.me := X.limits
  have hb9 : (T.setVm s.vm).me.stackBytes = s.me.stackBytes := X.bytes
  refine ⟨X.admits, X.cas, X.clock, hF, ?_, X.hears, X.method, X.code, X.here, X.tail, X.warmed, ?_, ?_, ?_⟩
  · have h := X.room
    have hU : ((T.setVm s.vm).setFrames (.invoking m args :: below)).localsInUse = s.localsInUse := by
      rw [State.localsInUse_invoking hF (meth := meth) (c := c) X.method X.code, State.localsInUse_invoking X.frames X.method X.code]
    simp only [State.hasRoom, Bool.and_eq_true, decide_eq_true_eq] at h ⊢
    obtain ⟨⟨⟨⟨h1, h2, h3, h4, h5, h6⟩, h7⟩, h8⟩, h9⟩ := h
    rw [X.frames, List.length_cons] at h2 h3
    have q1 := X.heapSize
    have q2 := X.used
    simp only [hF, hU, List.length_cons, State.stackLimits_setFrames, State.stackBytes_setFrames, hl9, hb9]
    refine ⟨⟨⟨⟨by omega, by omega, by omega, by omega, by omega, h6⟩, ?_⟩, ?_⟩, X.book⟩
    · show T.heap.size + R'.cells ≤ e.platform.maxCells
      omega
    · show T.slotsUsed + R'.slots ≤ e.platform.maxSlots
      omega
  · rw [State.stackLimits_setFrames]; rfl
  · rw [State.stackBytes_setFrames]; rfl
  · refine ⟨?_, Nat.le_refl _, Nat.le_refl _, ?_, ?_, fun a c9 h9 => ⟨c9, h9, rfl, rfl, fun _ _ => rfl⟩⟩
    · obtain ⟨t, ht, -⟩ := State.frames_cons hr
      show T.setVm s.vm = { ((T.setVm s.vm).setFrames (.invoking m args :: below)).setFrames (T.setVm s.vm).frames with heap := T.heap, slotsUsed := T.slotsUsed }
      rw [State.setFrames_setFrames, State.setFrames_self ht]
      rfl
    · show T.slotsUsed = T.slotsUsed + ((T.heap.toList.drop T.heap.size).map (·.slots.size)).sum
      rw [List.drop_eq_nil_of_le (Nat.le_of_eq Array.length_toList)]
      rfl
    · show ((T.heap.toList.drop T.heap.size).map (·.slots.size)).sum ≤ 0
      rw [List.drop_eq_nil_of_le (Nat.le_of_eq Array.length_toList)]
      exact Nat.le_refl _
/-- 'throw new E()': new; dup; invokespecial; athrow -/
theorem vx_throw0 {cc : ByteArray} {pc : Nat} (hexec : p.tables.exec = Jvm.exec) (hb : c.code = cc) (hl : l.stackTraces = false) {own cls : String} {names : List String} {ik ic mc ms : Nat} {A : Nat → Prop}
    (hown : s.vm.findClass own = some m.cls) (hcls : Bundle.fit cls = true) (hnames : ∀ n ∈ names, Bundle.fit n = true)
    (hk : (Cond.classLink own ik cls).before args s = true) (hini : (Cond.initialized cls).before args s = true) (hat : ∀ w ∈ vx_at0 own ic cls names, w.before args s = true)
    (hgood : ∀ w ∈ Cond.classLink own ik cls :: Cond.initialized cls :: vx_at0 own ic cls names, vx_ot w = true)
    (hU : vx_Zq Bundle.tN "UNASSIGNED_STACK" Bundle.steD A s s.heap) (hN : vx_Zq Bundle.tN "SUPPRESSED_SENTINEL" Bundle.listD A s s.heap) (hS : va_S A s.heap H locs) (hsize : ls.size = c.maxLocals)
    (d0 : decode cc pc = .ok (.new ik, 3)) (d3 : decode cc (pc + 3) = .ok (.dup, 1)) (d4 : decode cc (pc + 4) = .ok (.invokespecial ic, 3)) (d7 : decode cc (pc + 7) = .ok (.athrow, 1))
    (hout : ∀ x ∈ c.exceptionTable.toList, covers x (pc + 7) = false)
    (hRframes : names.length + 3 < R.frames) (hRlocals : (rest.map fun v => v.category).sum + (13 * (names.length + 1) + 42) ≤ R.locals) (hRcells : cells + 1 ≤ R.cells) (hRslots : slots + 6 ≤ R.slots) (hlocks : meth.locks = false)
    (hx : ∀ t : State, s.vm.Alike t.vm → H.size ≤ t.heap.size → (∀ q : Nat, q < H.size → t.heap[q]? = H[q]?) → XC cls s t)
    (hf : ∀ z ∈ locs, free z.base) (hc : cells + 1 ≤ mc) (hs : slots + 6 ≤ ms) :
    W p l e R s m args below meth c H locs cells slots (vx_MQ below Qc XC args s mc ms free) (F0 m pc ls rest) := by
  intro T hT X
  have htr : e.platform.stackTraces = false := (show e.platform.stackTraces = l.stackTraces by rw [X.admits.platform]).trans hl
  have Y := vx_rebase X (R' := { frames := R.frames, locals := R.locals, cells := 1, slots := 6 }) (Nat.le_refl _) (Nat.le_refl _) hRcells hRslots
  obtain ⟨s', hA⟩ : ∃ z, z = (T.setVm s.vm).setFrames (.invoking m args :: below) := ⟨_, rfl⟩
  rw [← hA] at Y
  have hvm : s'.vm = s.vm := by rw [hA]; rfl
  have hhp : s'.heap = H := by rw [hA]; exact hT
  have hW0 : s.WarmedH s'.vm := by rw [hvm]; exact State.WarmedH.refl s
  have hat' : ∀ w ∈ vx_at0 own ic cls names, w.before args s' = true := fun w hw => vx_ot_at hW0 hvm.symm (hgood w (List.mem_cons_of_mem _ (List.mem_cons_of_mem _ hw))) (hat w hw)
  have hk' : (Cond.classLink own ik cls).before args s' = true := vx_ot_at hW0 hvm.symm (hgood _ List.mem_cons_self) hk
  have hini' : (Cond.initialized cls).before args s' = true := vx_ot_at hW0 hvm.symm (hgood _ (List.mem_cons_of_mem _ List.mem_cons_self)) hini
  have hU' : vx_Zq Bundle.tN "UNASSIGNED_STACK" Bundle.steD A s' s'.heap := by rw [hhp]; exact vx_Zq.moved hW0.alike (hU.kept hS.2.1)
  have hN' : vx_Zq Bundle.tN "SUPPRESSED_SENTINEL" Bundle.listD A s' s'.heap := by rw [hhp]; exact vx_Zq.moved hW0.alike (hN.kept hS.2.1)
  have h : ∀ w ∈ Bundle.ownAtoms0 own ic cls names, w.before args s' = true := vx_own hat' (vx_isRefq hU'.1) (vx_isRefq hN'.1) hU'.2.word hN'.2.word
  have hown' : s'.vm.findClass own = some m.cls := by rw [hvm]; exact hown
  have hins : (Cond.instantiable cls 6).before args s' = true := h _ (by simp [Bundle.ownAtoms0])
  obtain ⟨vm₁, cX, kX, hfX, hkX, -, -, X₁, st1⟩ := Y.newCold hexec (own := own) (C := cls) (index := ik) (n := 6) hown' hk' hins hini'
    (g := F0 m pc ls rest) rfl (by rw [hb]; exact d0) (Nat.le_refl _) (Nat.le_refl _)
  generalize hT1 : (T.setVm vm₁).pushCell { cls := cX, slots := kX.instanceTypes.map defaultValue, vm := .none } = T1 at X₁ st1
  have hcat : (Value.ref T.heap.size).category = 1 := rfl
  have hcellA : T1.heap[T.heap.size]? = some (freshCell cX kX) := by rw [← hT1]; exact State.heap_pushCell_size _ _
  have d3' : decode c.code (pc + 3) = .ok (.dup, 1) := by rw [hb]; exact d3
  obtain ⟨U, hsteps, hrun, hend, hW, hsame, ce, hce, hO⟩ := X₁.ctorThrow0 hexec htr (own := own) (cls := cls) (names := names) (ic := ic) hown' hcls hnames h (fun x hx => nomatch hx) hfX hkX hcellA (by rw [hhp, hT]; exact Nat.le_refl _)
    (g := { method := m, pc := pc + 4, locals := ls, stack := .ref T.heap.size :: .ref T.heap.size :: rest, locked := none }) rfl hsize rfl rfl (rest := rest) rfl
    (by rw [hb]; exact d4) (by rw [hb]; exact d7) hout hRframes (by simp only [List.map_cons, List.sum_cons, hcat]; omega) hlocks
  obtain ⟨f1, f2⟩ := vx_frame hsame
  rw [hhp] at f1 f2
  have hWs : s.WarmedH U.vm := State.WarmedH.trans hW0 hW
  have hcl : s.vm.findClass cls = some ce.cls := by
    have h9 := hO.cls
    rw [hvm] at h9
    exact h9
  have hall : s.sameButNew ({ U with vm := s.vm } : State) locs mc ms := by
    subst hA
    obtain ⟨e1, e2⟩ := hsame
    rw [State.setFrames_setFrames] at e1
    have h2 : (T.setVm s.vm).sameButNew ({ U with vm := s.vm } : State) [] (0 + 1) (0 + 6) := ⟨e1, e2⟩
    have h3 := X.same.trans h2
    rw [List.append_nil] at h3
    exact h3.mono hc hs
  refine ⟨U, ?_, .threw T.heap.size, hrun, hend, Or.inr ⟨T.heap.size, rfl, cls, ce, locs, hx U hWs.alike f1 (fun q hq => f2 q hq (fun z hz => nomatch hz)), hce, hO.vm, hcl, hWs, hall, hf⟩⟩
  refine st1 _ ?_
  show Steps p.tables e below (T1.setTop { method := m, pc := pc + 3, locals := ls, stack := .ref T.heap.size :: rest, locked := none }) _
  jvm_step X₁.here [X₁.here.top, hexec, d3', Value.category]
  exact hsteps
/-- 'throw new E("text")': new; dup; ldc; invokespecial; athrow -/
theorem vx_throwS {cc : ByteArray} {pc : Nat} (hexec : p.tables.exec = Jvm.exec) (hb : c.code = cc) (hl : l.stackTraces = false) {own cls text : String} {names : List String} {ik is ic mc ms sa : Nat} {A : Nat → Prop}
    (hown : s.vm.findClass own = some m.cls) (hcls : Bundle.fit cls = true) (hnames : ∀ n ∈ names, Bundle.fit n = true)
    (hk : (Cond.classLink own ik cls).before args s = true) (hini : (Cond.initialized cls).before args s = true) (hstr : vk_R own is text sa s) (hat : ∀ w ∈ vx_atS own ic cls names, w.before args s = true)
    (hgood : ∀ w ∈ Cond.classLink own ik cls :: Cond.initialized cls :: vx_atS own ic cls names, vx_ot w = true)
    (hU : vx_Zq Bundle.tN "UNASSIGNED_STACK" Bundle.steD A s s.heap) (hN : vx_Zq Bundle.tN "SUPPRESSED_SENTINEL" Bundle.listD A s s.heap) (hS : va_S A s.heap H locs) (hsize : ls.size = c.maxLocals)
    (d0 : decode cc pc = .ok (.new ik, 3)) (d3 : decode cc (pc + 3) = .ok (.dup, 1)) (d4 : decode cc (pc + 4) = .ok (.ldc is, 2)) (d6 : decode cc (pc + 6) = .ok (.invokespecial ic, 3)) (d9 : decode cc (pc + 9) = .ok (.athrow, 1))
    (hout : ∀ x ∈ c.exceptionTable.toList, covers x (pc + 9) = false)
    (hRframes : names.length + 3 < R.frames) (hRlocals : (rest.map fun v => v.category).sum + (13 * (names.length + 1) + 43) ≤ R.locals) (hRcells : cells + 1 ≤ R.cells) (hRslots : slots + 6 ≤ R.slots) (hlocks : meth.locks = false)
    (hx : ∀ t : State, s.vm.Alike t.vm → H.size ≤ t.heap.size → (∀ q : Nat, q < H.size → t.heap[q]? = H[q]?) → XC cls s t)
    (hf : ∀ z ∈ locs, free z.base) (hc : cells + 1 ≤ mc) (hs : slots + 6 ≤ ms) :
    W p l e R s m args below meth c H locs cells slots (vx_MQ below Qc XC args s mc ms free) (F0 m pc ls rest) := by
  intro T hT X
  have htr : e.platform.stackTraces = false := (show e.platform.stackTraces = l.stackTraces by rw [X.admits.platform]).trans hl
  have Y := vx_rebase X (R' := { frames := R.frames, locals := R.locals, cells := 1, slots := 6 }) (Nat.le_refl _) (Nat.le_refl _) hRcells hRslots
  obtain ⟨s', hA⟩ : ∃ z, z = (T.setVm s.vm).setFrames (.invoking m args :: below) := ⟨_, rfl⟩
  rw [← hA] at Y
  have hvm : s'.vm = s.vm := by rw [hA]; rfl
  have hhp : s'.heap = H := by rw [hA]; exact hT
  have hW0 : s.WarmedH s'.vm := by rw [hvm]; exact State.WarmedH.refl s
  have hat' : ∀ w ∈ vx_atS own ic cls names, w.before args s' = true := fun w hw => vx_ot_at hW0 hvm.symm (hgood w (List.mem_cons_of_mem _ (List.mem_cons_of_mem _ hw))) (hat w hw)
  have hk' : (Cond.classLink own ik cls).before args s' = true := vx_ot_at hW0 hvm.symm (hgood _ List.mem_cons_self) hk
  have hini' : (Cond.initialized cls).before args s' = true := vx_ot_at hW0 hvm.symm (hgood _ (List.mem_cons_of_mem _ List.mem_cons_self)) hini
  have hU' : vx_Zq Bundle.tN "UNASSIGNED_STACK" Bundle.steD A s' s'.heap := by rw [hhp]; exact vx_Zq.moved hW0.alike (hU.kept hS.2.1)
  have hN' : vx_Zq Bundle.tN "SUPPRESSED_SENTINEL" Bundle.listD A s' s'.heap := by rw [hhp]; exact vx_Zq.moved hW0.alike (hN.kept hS.2.1)
  have h : ∀ w ∈ Bundle.ownAtoms own ic cls names, w.before args s' = true := vx_own hat' (vx_isRefq hU'.1) (vx_isRefq hN'.1) hU'.2.word hN'.2.word
  have hown' : s'.vm.findClass own = some m.cls := by rw [hvm]; exact hown
  have hins : (Cond.instantiable cls 6).before args s' = true := h _ (by simp [Bundle.ownAtoms])
  obtain ⟨vm₁, cX, kX, hfX, hkX, -, -, X₁, st1⟩ := Y.newCold hexec (own := own) (C := cls) (index := ik) (n := 6) hown' hk' hins hini'
    (g := F0 m pc ls rest) rfl (by rw [hb]; exact d0) (Nat.le_refl _) (Nat.le_refl _)
  generalize hT1 : (T.setVm vm₁).pushCell { cls := cX, slots := kX.instanceTypes.map defaultValue, vm := .none } = T1 at X₁ st1
  have hcat : (Value.ref T.heap.size).category = 1 := rfl
  have hcellA : T1.heap[T.heap.size]? = some (freshCell cX kX) := by rw [← hT1]; exact State.heap_pushCell_size _ _
  have d3' : decode c.code (pc + 3) = .ok (.dup, 1) := by rw [hb]; exact d3
  have d4' : decode c.code (pc + 4) = .ok (.ldc is, 2) := by rw [hb]; exact d4
  have hstr' : vk_R own is text sa s' := vk_R.warm hW0 hstr
  obtain ⟨U, hsteps, hrun, hend, hW, hsame, ce, hce, hO⟩ := X₁.ctorThrowS hexec htr (own := own) (cls := cls) (names := names) (ic := ic) hown' hcls hnames h (fun x hx => nomatch hx) hfX hkX hcellA (by rw [hhp, hT]; exact Nat.le_refl _) (msg := .ref sa) rfl
    (g := { method := m, pc := pc + 6, locals := ls, stack := .ref sa :: .ref T.heap.size :: .ref T.heap.size :: rest, locked := none }) rfl hsize rfl rfl (rest := rest) rfl
    (by rw [hb]; exact d6) (by rw [hb]; exact d9) hout hRframes (by simp only [List.map_cons, List.sum_cons, hcat]; omega) hlocks
  obtain ⟨f1, f2⟩ := vx_frame hsame
  rw [hhp] at f1 f2
  have hWs : s.WarmedH U.vm := State.WarmedH.trans hW0 hW
  have hcl : s.vm.findClass cls = some ce.cls := by
    have h9 := hO.cls
    rw [hvm] at h9
    exact h9
  have hall : s.sameButNew ({ U with vm := s.vm } : State) locs mc ms := by
    subst hA
    obtain ⟨e1, e2⟩ := hsame
    rw [State.setFrames_setFrames] at e1
    have h2 : (T.setVm s.vm).sameButNew ({ U with vm := s.vm } : State) [] (0 + 1) (0 + 6) := ⟨e1, e2⟩
    have h3 := X.same.trans h2
    rw [List.append_nil] at h3
    exact h3.mono hc hs
  refine ⟨U, ?_, .threw T.heap.size, hrun, hend, Or.inr ⟨T.heap.size, rfl, cls, ce, locs, hx U hWs.alike f1 (fun q hq => f2 q hq (fun z hz => nomatch hz)), hce, hO.vm, hcl, hWs, hall, hf⟩⟩
  refine st1 _ ?_
  show Steps p.tables e below (T1.setTop { method := m, pc := pc + 3, locals := ls, stack := .ref T.heap.size :: rest, locked := none }) _
  jvm_step X₁.here [X₁.here.top, hexec, d3', Value.category]
  exact X₁.ldcString hexec (own := own) (text := text) (index := is) (a := sa) hown' hstr'.1 hstr'.2
    (g := { method := m, pc := pc + 4, locals := ls, stack := .ref T.heap.size :: .ref T.heap.size :: rest, locked := none }) rfl d4' _ hsteps
/-- 'throw new E("text")', the text by a wide index -/
theorem vx_throwSW {cc : ByteArray} {pc : Nat} (hexec : p.tables.exec = Jvm.exec) (hb : c.code = cc) (hl : l.stackTraces = false) {own cls text : String} {names : List String} {ik is ic mc ms sa : Nat} {A : Nat → Prop}
    (hown : s.vm.findClass own = some m.cls) (hcls : Bundle.fit cls = true) (hnames : ∀ n ∈ names, Bundle.fit n = true)
    (hk : (Cond.classLink own ik cls).before args s = true) (hini : (Cond.initialized cls).before args s = true) (hstr : vk_R own is text sa s) (hat : ∀ w ∈ vx_atS own ic cls names, w.before args s = true)
    (hgood : ∀ w ∈ Cond.classLink own ik cls :: Cond.initialized cls :: vx_atS own ic cls names, vx_ot w = true)
    (hU : vx_Zq Bundle.tN "UNASSIGNED_STACK" Bundle.steD A s s.heap) (hN : vx_Zq Bundle.tN "SUPPRESSED_SENTINEL" Bundle.listD A s s.heap) (hS : va_S A s.heap H locs) (hsize : ls.size = c.maxLocals)
    (d0 : decode cc pc = .ok (.new ik, 3)) (d3 : decode cc (pc + 3) = .ok (.dup, 1)) (d4 : decode cc (pc + 4) = .ok (.ldc_w is, 3)) (d7 : decode cc (pc + 7) = .ok (.invokespecial ic, 3)) (d10 : decode cc (pc + 10) = .ok (.athrow, 1))
    (hout : ∀ x ∈ c.exceptionTable.toList, covers x (pc + 10) = false)
    (hRframes : names.length + 3 < R.frames) (hRlocals : (rest.map fun v => v.category).sum + (13 * (names.length + 1) + 43) ≤ R.locals) (hRcells : cells + 1 ≤ R.cells) (hRslots : slots + 6 ≤ R.slots) (hlocks : meth.locks = false)
    (hx : ∀ t : State, s.vm.Alike t.vm → H.size ≤ t.heap.size → (∀ q : Nat, q < H.size → t.heap[q]? = H[q]?) → XC cls s t)
    (hf : ∀ z ∈ locs, free z.base) (hc : cells + 1 ≤ mc) (hs : slots + 6 ≤ ms) :
    W p l e R s m args below meth c H locs cells slots (vx_MQ below Qc XC args s mc ms free) (F0 m pc ls rest) := by
  intro T hT X
  have htr : e.platform.stackTraces = false := (show e.platform.stackTraces = l.stackTraces by rw [X.admits.platform]).trans hl
  have Y := vx_rebase X (R' := { frames := R.frames, locals := R.locals, cells := 1, slots := 6 }) (Nat.le_refl _) (Nat.le_refl _) hRcells hRslots
  obtain ⟨s', hA⟩ : ∃ z, z = (T.setVm s.vm).setFrames (.invoking m args :: below) := ⟨_, rfl⟩
  rw [← hA] at Y
  have hvm : s'.vm = s.vm := by rw [hA]; rfl
  have hhp : s'.heap = H := by rw [hA]; exact hT
  have hW0 : s.WarmedH s'.vm := by rw [hvm]; exact State.WarmedH.refl s
  have hat' : ∀ w ∈ vx_atS own ic cls names, w.before args s' = true := fun w hw => vx_ot_at hW0 hvm.symm (hgood w (List.mem_cons_of_mem _ (List.mem_cons_of_mem _ hw))) (hat w hw)
  have hk' : (Cond.classLink own ik cls).before args s' = true := vx_ot_at hW0 hvm.symm (hgood _ List.mem_cons_self) hk
  have hini' : (Cond.initialized cls).before args s' = true := vx_ot_at hW0 hvm.symm (hgood _ (List.mem_cons_of_mem _ List.mem_cons_self)) hini
  have hU' : vx_Zq Bundle.tN "UNASSIGNED_STACK" Bundle.steD A s' s'.heap := by rw [hhp]; exact vx_Zq.moved hW0.alike (hU.kept hS.2.1)
  have hN' : vx_Zq Bundle.tN "SUPPRESSED_SENTINEL" Bundle.listD A s' s'.heap := by rw [hhp]; exact vx_Zq.moved hW0.alike (hN.kept hS.2.1)
  have h : ∀ w ∈ Bundle.ownAtoms own ic cls names, w.before args s' = true := vx_own hat' (vx_isRefq hU'.1) (vx_isRefq hN'.1) hU'.2.word hN'.2.word
  have hown' : s'.vm.findClass own = some m.cls := by rw [hvm]; exact hown
  have hins : (Cond.instantiable cls 6).before args s' = true := h _ (by simp [Bundle.ownAtoms])
  obtain ⟨vm₁, cX, kX, hfX, hkX, -, -, X₁, st1⟩ := Y.newCold hexec (own := own) (C := cls) (index := ik) (n := 6) hown' hk' hins hini'
    (g := F0 m pc ls rest) rfl (by rw [hb]; exact d0) (Nat.le_refl _) (Nat.le_refl _)
  generalize hT1 : (T.setVm vm₁).pushCell { cls := cX, slots := kX.instanceTypes.map defaultValue, vm := .none } = T1 at X₁ st1
  have hcat : (Value.ref T.heap.size).category = 1 := rfl
  have hcellA : T1.heap[T.heap.size]? = some (freshCell cX kX) := by rw [← hT1]; exact State.heap_pushCell_size _ _
  have d3' : decode c.code (pc + 3) = .ok (.dup, 1) := by rw [hb]; exact d3
  have d4' : decode c.code (pc + 4) = .ok (.ldc_w is, 3) := by rw [hb]; exact d4
  have hstr' : vk_R own is text sa s' := vk_R.warm hW0 hstr
  obtain ⟨U, hsteps, hrun, hend, hW, hsame, ce, hce, hO⟩ := X₁.ctorThrowS hexec htr (own := own) (cls := cls) (names := names) (ic := ic) hown' hcls hnames h (fun x hx => nomatch hx) hfX hkX hcellA (by rw [hhp, hT]; exact Nat.le_refl _) (msg := .ref sa) rfl
    (g := { method := m, pc := pc + 7, locals := ls, stack := .ref sa :: .ref T.heap.size :: .ref T.heap.size :: rest, locked := none }) rfl hsize rfl rfl (rest := rest) rfl
    (by rw [hb]; exact d7) (by rw [hb]; exact d10) hout hRframes (by simp only [List.map_cons, List.sum_cons, hcat]; omega) hlocks
  obtain ⟨f1, f2⟩ := vx_frame hsame
  rw [hhp] at f1 f2
  have hWs : s.WarmedH U.vm := State.WarmedH.trans hW0 hW
  have hcl : s.vm.findClass cls = some ce.cls := by
    have h9 := hO.cls
    rw [hvm] at h9
    exact h9
  have hall : s.sameButNew ({ U with vm := s.vm } : State) locs mc ms := by
    subst hA
    obtain ⟨e1, e2⟩ := hsame
    rw [State.setFrames_setFrames] at e1
    have h2 : (T.setVm s.vm).sameButNew ({ U with vm := s.vm } : State) [] (0 + 1) (0 + 6) := ⟨e1, e2⟩
    have h3 := X.same.trans h2
    rw [List.append_nil] at h3
    exact h3.mono hc hs
  refine ⟨U, ?_, .threw T.heap.size, hrun, hend, Or.inr ⟨T.heap.size, rfl, cls, ce, locs, hx U hWs.alike f1 (fun q hq => f2 q hq (fun z hz => nomatch hz)), hce, hO.vm, hcl, hWs, hall, hf⟩⟩
  refine st1 _ ?_
  show Steps p.tables e below (T1.setTop { method := m, pc := pc + 3, locals := ls, stack := .ref T.heap.size :: rest, locked := none }) _
  jvm_step X₁.here [X₁.here.top, hexec, d3', Value.category]
  exact X₁.ldcStringW hexec (own := own) (text := text) (index := is) (a := sa) hown' hstr'.1 hstr'.2
    (g := { method := m, pc := pc + 4, locals := ls, stack := .ref T.heap.size :: .ref T.heap.size :: rest, locked := none }) rfl d4' _ hsteps
end Ends
section Bodies
variable {l : Launch}
theorem vx_ofW {y : MethodName} {ws ws' : List Cond} {rm : Room} {Pc : Array Value → State → Prop} {Qc : Array Value → State → Outcome → State → Prop} {XC : String → State → State → Prop} {mc ms : Nat} {free : Addr → Prop} {cc : ByteArray} {maxL : Nat} {ret : Option FieldType}
    (hy : plainName y.cls = true) (hw : ws = Cond.code y cc maxL ret :: ws')
    (body : ∀ p e s m args below meth c s₁, BodyLoose p l y (headSpec ws rm) cc maxL ret e s m args below meth c s₁ → c.maxLocals = maxL → (∀ x ∈ c.exceptionTable.toList, False) → Pc args s →
      W p l e (headSpec ws rm).room s m args below meth c s.heap [] 0 0 (vx_MQ below Qc XC args s mc ms free) (entryFrame m args maxL)) : vx_Met l y ws rm Pc Qc XC mc ms free := by
  refine MetFree.of_bodyS (code := cc) (maxLocals := maxL) (ret := ret) hy ?_ ?_
  · intro args s m h hn
    obtain ⟨meth, c, h1, h2, h3, h4, h5, h6, -, -⟩ := Cond.code_spec hn (atoms_spec (ws := ws) h _ (by rw [hw]; exact List.mem_cons_self))
    exact ⟨meth, c, h1, h2, h3, h4, h5, h6⟩
  · intro p e s m args below meth c s₁ B hml hP _
    have hh0 : s₁.heap = s.heap := by rw [B.state]; rfl
    have ht : ∀ x ∈ c.exceptionTable.toList, False := by
      obtain ⟨meth9, c9, h1, h2, -, -, -, -, h7, -⟩ := Cond.code_spec B.named (atoms_spec (ws := ws) B.pre _ (by rw [hw]; exact List.mem_cons_self))
      cases Option.some.inj (h1.symm.trans B.method)
      cases Option.some.inj (h2.symm.trans (Stand.of_body B).code)
      intro x hx
      rw [Array.isEmpty_iff.mp h7] at hx
      cases hx
    obtain ⟨t, a1, o, b1, b2, b3⟩ := body p e s m args below meth c s₁ B hml ht hP s₁ hh0 (Stand.of_body B)
    exact ⟨t, o, a1, b1, b2, b3⟩
/-- the table of a body with handlers -/
theorem vx_table {p : Program} {x y : MethodName} {S : Spec} {cc bytes : ByteArray} {maxL maxL' : Nat} {ret ret' : Option FieldType} {e : Env} {s s₁ : State} {m : MethodId} {args : Array Value} {below : List Frame} {meth : Method} {c : Code} {hh : List (Nat × Nat × Nat × Nat)}
    (B : BodyLoose p l y S cc maxL ret e s m args below meth c s₁) (h : (Cond.codeWith y bytes maxL' ret' hh).before args s = true) : c.exceptionTable.toList = tableOf hh := by
  obtain ⟨m9, meth9, c9, hn9, h1, h2, -, -, h6, -⟩ := Cond.codeWith_spec h
  cases Option.some.inj (hn9.symm.trans B.named)
  cases Option.some.inj (h1.symm.trans B.method)
  cases Option.some.inj (h2.symm.trans (Stand.of_body B).code)
  rw [← h6, table_eq]
end Bodies
end VXA
/-! ===== END ===== -/
/-! ===== BEGIN a static call of a method with an exception table ===== -/
section VXS
variable {p : Program} {l : Launch} {e : Env} {R : Room} {s : State} {m : MethodId} {args : Array Value} {below : List Frame} {meth : Method} {c : Code} {T : State} {H : Heap} {locs : List Loc} {cells slots : Nat}
abbrev vx_CSW (R : Room) (s : State) (args : Array Value) (own : String) (index : Nat) (y : MethodName) (bytes : ByteArray) (maxL : Nat) (ret : Option FieldType) (hh : List (Nat × Nat × Nat × Nat)) (ws : List Cond) (rm : Room) (mc ms n : Nat) : Prop :=
  (rm.cells = mc ∧ rm.slots = ms ∧ rm.frames + 1 ≤ R.frames ∧ 8 + (maxL + 11) + rm.locals ≤ R.locals ∧ (∀ w ∈ ws, ∀ (a' : Array Value) (U : State), s.WarmedH U.vm → w.before a' U = true) ∧ Cond.codeWith y bytes maxL ret hh ∈ ws) ∧
  (Cond.codeWith y bytes maxL ret hh).before args s = true ∧ (Cond.initialized y.cls).before args s = true ∧ (y.cls ≠ "java/lang/invoke/MethodHandle" ∧ y.cls ≠ "java/lang/invoke/VarHandle") ∧
  (∀ sig, parseMethodDescriptor y.desc = some sig → n = sig.parameters.length) ∧ (Cond.methodLink own index y).before args s = true ∧ (Cond.static y).before args s = true
theorem vx_cwSW {own : String} {index maxL mc ms : Nat} {y : MethodName} {bytes : ByteArray} {ret : Option FieldType} {hh : List (Nat × Nat × Nat × Nat)} {Ts ws ws' : List Cond} {rm : Room} (n : Nat) (ht : ∀ w ∈ Ts, w.before args s = true) (hT : GoodIn Ts (va_wsS own index y ws)) (hw : ws = Cond.codeWith y bytes maxL ret hh :: ws') (hrc : rm.cells = mc) (hrs : rm.slots = ms)
    (hd : y.cls ≠ "java/lang/invoke/MethodHandle" ∧ y.cls ≠ "java/lang/invoke/VarHandle" ∧ (parseMethodDescriptor y.desc).map (fun d => d.parameters.length) = some n) (hR : rm.frames + 1 ≤ R.frames ∧ 8 + (maxL + 11) + rm.locals ≤ R.locals) :
    vx_CSW R s args own index y bytes maxL ret hh ws rm mc ms n := by
  have ok : ∀ w ∈ va_wsS own index y ws, w.before args s = true := fun w h => ht w (hT w h).1
  have hG : GoodIn Ts ws := fun w h => hT w (by unfold va_wsS; exact List.mem_append_right _ h)
  have hc : Cond.codeWith y bytes maxL ret hh ∈ ws := by rw [hw]; exact List.mem_cons_self
  refine ⟨⟨hrc, hrs, hR.1, hR.2, pay_in ht hG, hc⟩, ht _ (hG _ hc).1, ok _ (by simp [va_wsS]), ⟨hd.1, hd.2.1⟩, fun sig h => ?_, ok _ (by simp [va_wsS]), ok _ (by simp [va_wsS])⟩
  have h2 := hd.2.2
  rw [h] at h2
  exact (Option.some.inj h2).symm
theorem vx_callSW (X : Stand p l e R s m args below meth c T locs cells slots) (hexec : p.tables.exec = Jvm.exec) {own : String} {index : Nat} {y : MethodName} {bytes : ByteArray} {maxL : Nat} {ret : Option FieldType} {hh : List (Nat × Nat × Nat × Nat)}
    (hown : s.vm.findClass own = some m.cls) (hlink : (Cond.methodLink own index y).before args s = true) (hstat : (Cond.static y).before args s = true) (hinit : (Cond.initialized y.cls).before args s = true)
    (hcode : (Cond.codeWith y bytes maxL ret hh).before args s = true) (hy : y.cls ≠ "java/lang/invoke/MethodHandle" ∧ y.cls ≠ "java/lang/invoke/VarHandle")
    {W9 : Nat} {Pre : Pt → Array Value → Prop} {Post : Pt → Array Value → Option Value → Pt → Prop} (hK : Back l R p e below s args y 3 W9 Pre Post)
    {g : JFrame} (hg : g.method = m) (hsize : g.locals.size = c.maxLocals) {argsL rest : List Value} (hlen : ∀ sig, parseMethodDescriptor y.desc = some sig → argsL.length = sig.parameters.length)
    (hstack : g.stack = argsL.reverse ++ rest) (hW : 2 * g.monitorRoom + (rest.map fun v => v.category).sum ≤ W9) (hdg : decode c.code g.pc = .ok (.invokestatic index, 3))
    (hpre : ∀ vm₁, s.WarmedH vm₁ → Pre ⟨T.setVm vm₁, locs, cells, slots⟩ argsL.toArray) :
    ∃ (v : Option Value) (vm₁ : Vm) (B : Pt), s.WarmedH vm₁ ∧ Stand p l e R s m args below meth c B.U B.locs B.cells B.slots ∧ Post ⟨T.setVm vm₁, locs, cells, slots⟩ argsL.toArray v B ∧
      ∀ target, Steps p.tables e below (B.U.setTop { g with pc := g.pc + 3, stack := v.toList ++ rest }) target → Steps p.tables e below (T.setTop g) target := by
  obtain ⟨mk, methM, cM, hnamed, hmethM, -, -, -, -, -, -, hsigM⟩ := Cond.codeWith_spec hcode
  have hstatic : methM.isStatic = true := Cond.static_spec hnamed hmethM hstat
  obtain ⟨kP, hkP, -⟩ := className_of_methodNamed hnamed
  have hinitP : kP.init = .initialized := Cond.initialized_spec (findClass_of_methodNamed hnamed) hkP hinit
  obtain ⟨vm₁, X₁, hstep₁⟩ := X.invokestatic hexec hown hlink hnamed hmethM hstatic hkP hinitP hy (g := g) hg (argsL := argsL) (rest := rest) (hlen _ hsigM) hstack hdg
  obtain ⟨v, B, X', hpost, hsteps⟩ := hK m meth c ⟨T.setVm vm₁, locs, cells, slots⟩ { g with stack := rest } (.invokestatic index) mk argsL.toArray X₁ hg hsize hdg hW (X₁.named hnamed) (hpre vm₁ X₁.warmed)
  exact ⟨v, vm₁, B, X₁.warmed, X', hpost, fun target h => hstep₁ _ fun acts => by rw [doInvoke_state]; exact hsteps.trans h⟩
theorem vx_runSW {y : MethodName} {bytes cc : ByteArray} {maxL nL mc ms n index : Nat} {ret : Option FieldType} {hh : List (Nat × Nat × Nat × Nat)} {ws : List Cond} {rm : Room} {Pc : Array Value → State → Prop} {Qc : Array Value → State → Outcome → State → Prop} {free : Addr → Prop} {Ts : List Cond} {own : String} {As rest : List Value} {g : JFrame}
    (S : CallFix p m c cc nL s args Ts own) (hM : Met l y ws rm Pc Qc mc ms free) (cw : vx_CSW R s args own index y bytes maxL ret hh ws rm mc ms n) (hp : PreS s H Pc As)
    (hg : g.method = m) (hn : As.length = n) (hsize : g.locals.size = nL) (hstack : g.stack = As.reverse ++ rest) (hW : 2 * g.monitorRoom + (rest.map fun v => v.category).sum ≤ 8) (hdg : decode cc g.pc = .ok (.invokestatic index, 3)) (hf : cells + mc ≤ R.cells ∧ slots + ms ≤ R.slots) :
    va_Run p l e R s m args below meth c H locs cells slots mc ms g rest (Qc As.toArray) (free) := by
  obtain ⟨⟨hrc, hrs, hfr, hlo, hws, hcw⟩, hcode, hini, hy, hlen, hl, hstt⟩ := cw
  have hK : Back l R p e below s args y 3 8 (PreOf R mc ms Pc) (PostOf Qc mc ms free) := va_backW (hh := hh) (bytes := bytes) (maxL := maxL) (ret := ret) hM hp.1 hrc hrs hfr hlo hws hcw (fun a' U hW => word_at hW (Or.inl (by first | rfl | simp [Cond.onTables, Cond.keeps, Cond.steady])) hini)
  obtain ⟨hx, hb, hml, ho, -⟩ := S
  intro T hT X
  obtain ⟨v, vm₁, ⟨U', l2, c2, s2⟩, hW₁, X', ⟨g', mk, t, L, e1, e2, hq, h1, hL, h2, h3⟩, st⟩ := vx_callSW X hx (hh := hh) (bytes := bytes) (maxL := maxL) (ret := ret) ho hl hstt hini hcode hy hK hg (hsize.trans hml.symm) (argsL := As) (rest := rest) (fun sig h => hn.trans (hlen sig h)) hstack hW (by rw [hb]; exact hdg)
    (fun vm₁ hW₁ => ⟨hf.1, hf.2, hp.2 (T.setVm vm₁) hT hW₁⟩)
  dsimp only [Pt.U, Pt.locs, Pt.cells, Pt.slots] at X' e1 e2 h1 h2 h3 st
  subst h1; subst h2; subst h3
  exact ⟨v, (T.setVm vm₁).calling g' mk As.toArray, t, U', L, hT, X', hL, e1, e2, hq, st⟩
/-- not caught here, past rows that name other classes: it goes on to the caller -/
theorem vx_outP {p : Program} {l : Launch} {e : Env} {R : Room} {s : State} {m : MethodId} {args : Array Value} {below : List Frame} {meth : Method} {c : Code} {H : Heap} {locs : List Loc} {cells slots : Nat} {free : Addr → Prop} {ls : Array Slot} {rest : List Value} {Qc : Array Value → State → Outcome → State → Prop} {XC : String → State → State → Prop}
    {pc : Nat} {own E : String} {ce : Cell} {q : Addr} {mc ms : Nat} (hown : s.vm.findClass own = some m.cls) (hlocks : meth.locks = false)
    (hpass : ∀ z ∈ c.exceptionTable.toList, covers z pc = false ∨ (z.catchType ≠ 0 ∧ ∃ nm : String, (Cond.classLink own z.catchType nm).before args s = true ∧ va_Nc E nm s)) (hcell : H[q]? = some ce) (hv : ce.vm = .none) (hcl : s.vm.findClass E = some ce.cls)
    (hx : ∀ t : State, t.heap = H → s.vm.Alike t.vm → XC E s t) (hf : ∀ z ∈ locs, free z.base) (hc : cells ≤ mc) (hs : slots ≤ ms) :
    vx_W p l e R s m args below meth c H locs cells slots (vx_MQ below Qc XC args s mc ms free) (F0 m pc ls rest) q := by
  intro T hT X
  have hpl : e.platform.magicAccessors = ({} : Platform).magicAccessors := by rw [X.admits.platform]
  obtain ⟨vm', hW', X', st⟩ := _root_.Jvm.Stand.outThrough X hlocks q (g := F0 m pc ls rest) rfl rfl rfl (cell := ce) (by rw [hT]; exact hcell) (by rw [hv]; rfl)
    (by obtain ⟨k9, h9, -⟩ := Vm.findClass_spec hcl; exact ⟨k9, h9⟩) (fun z hz => by
      rcases hpass z hz with h | ⟨hz0, nm, hl1, hn1⟩
      · exact Or.inl h
      · obtain ⟨c6, hc6, hcl6⟩ := Cond.classLink_spec hown hl1 e.platform hpl
        obtain ⟨a8, b8, h1, h2, h3⟩ := hn1
        cases Option.some.inj (h1.symm.trans hcl)
        cases Option.some.inj (h2.symm.trans hc6)
        exact Or.inr ⟨hz0, _, hcl6, h3⟩)
  obtain ⟨g₀, hfr⟩ := X'.frames_eq
  have hcell9 : ((T.setVm vm').setFrames (.throwing q :: below)).heap[q]? = some ce := by
    show T.heap[q]? = some ce
    rw [hT]; exact hcell
  have hend : Ended ((T.setVm vm').setFrames (.throwing q :: below)) below (.threw q) := State.frames_setFrames _ (State.cur_lt_of_frames hfr)
  refine ⟨(T.setVm vm').setFrames (.throwing q :: below), ?_, .threw q, X'.here.running, hend, Or.inr ⟨q, rfl, E, ce, locs, hx _ hT (X'.ends _).1.alike, hcell9, hv, hcl, (X'.ends _).1, (X'.ends _).2.mono hc hs, hf⟩⟩
  rw [X.pushThrowing_eq]
  exact st
/-- a thing of a world lies in the heap -/
theorem vx_lt {D : va_G} {cl : List vw_C} {ws : va_W} {H1 : Heap} (h : va_P D cl ws H1) {k : Nat} {q : Nat × va_E} (hk : ws[k]? = some q) : q.1 < H1.size := (h k q hk).lt
end VXS
/-! ===== END ===== -/
/-! ===== BEGIN methods with a table of their own: called by a name, returning or throwing ===== -/
section VXH
/-! vx_backW, vx_callVX, vx_callSX, vx_callVW, vx_runVW, vx_runVX, vx_runSX, vx_ofWH follow the same proofs as their sisters above (Free/Laws.lean, Shelf42/LK1.lean); vx_outP calls Shelf42/NT130.lean (outThrough). -/
section
variable {l : Launch} {R : Room} {p : Program} {e : Env} {below : List Frame} {s : State} {sargs : Array Value} {y : MethodName} {len W9 : Nat}
theorem vx_backW {ws : List Cond} {rm : Room} {Pc : Array Value → State → Prop} {Qc : Array Value → State → Outcome → State → Prop} {XC : String → State → State → Prop} {mc ms : Nat} {free : Addr → Prop} {bytes : ByteArray} {maxL : Nat} {ret : Option FieldType} {hh : List (Nat × Nat × Nat × Nat)}
    (hM : vx_Met l y ws rm Pc Qc XC mc ms free) (hblind : FrameBlind Pc) (hrc : rm.cells = mc) (hrs : rm.slots = ms)
    (hframes : rm.frames + 1 ≤ R.frames) (hlocals : W9 + (maxL + 11) + rm.locals ≤ R.locals)
    (hws : ∀ w ∈ ws, ∀ a' U, s.WarmedH U.vm → w.before a' U = true) (hcode : Cond.codeWith y bytes maxL ret hh ∈ ws) (hinit : ∀ a' U, s.WarmedH U.vm → (Cond.initialized y.cls).before a' U = true) :
    vx_Back l R p e below s sargs y len W9 (PreOf R mc ms Pc) (PostOf Qc mc ms free) (vx_Post XC mc ms free) := by
  intro m meth c A g ig mk a X hg hsize hdg hW hn hp
  have h1 : (headSpec ws rm).pre.before a A.U = true := atoms_intro fun w hw => hws w hw _ _ X.warmed
  have h2 : (Cond.codeWith y bytes maxL ret hh).before a A.U = true := hws _ hcode _ _ X.warmed
  have h3 : (Cond.initialized y.cls).before a A.U = true := hinit _ _ X.warmed
  have h4 : A.cells + (headSpec ws rm).room.cells ≤ R.cells := by rw [show (headSpec ws rm).room.cells = mc from hrc]; exact hp.1
  have h5 : A.slots + (headSpec ws rm).room.slots ≤ R.slots := by rw [show (headSpec ws rm).room.slots = ms from hrs]; exact hp.2.1
  have hPc : Pc a (A.U.calling g mk a) := hblind _ _ _ _ hp.2.2
  obtain ⟨U, Ls, c0, s0⟩ := A
  dsimp only [Pt.U, Pt.locs, Pt.cells, Pt.slots] at h1 h2 h3 h4 h5 X hn hPc ⊢
  obtain ⟨m9, methY, cY, hn9, hmY, hcY, -, hlY, -⟩ := Cond.codeWith_spec h2
  cases Option.some.inj (hn9.symm.trans hn)
  obtain ⟨kY, hkY, -⟩ := className_of_methodNamed hn
  have hinitY : kY.init = .initialized := Cond.initialized_spec (findClass_of_methodNamed hn) hkY h3
  have h : At U g.method c below := by rw [hg]; exact X.here
  have hlocals9 : W9 + (maxL + 11) + (headSpec ws rm).room.locals ≤ R.locals := hlocals
  have happ : (headSpec ws rm).appliesLoose y e.platform (U.calling g mk a) = true :=
    Spec.appliesLoose_calling (g := g) h hdg hn hkY hinitY
      (X.room_calling (g := g) (R' := (headSpec ws rm).room) hsize hmY hcY hframes (by rw [hlY]; omega) h4 h5) h1
  obtain ⟨mid, hmid⟩ := h.above
  have hfr : (U.setTop g).frames = (.java g :: mid) ++ below := by rw [State.frames_setTop' g h.top, hmid]; rfl
  obtain ⟨o, s₂, hsteps, -, hend, hq⟩ := Steps.callFree hM p X.admits X.cas X.clock (acts := []) hfr happ hPc trivial
  have hq' : vx_Q Qc XC mc ms free a (U.calling g mk a) o s₂ := hq
  rw [State.frames_setTop' g h.top] at hend
  obtain ⟨g₀, hg0⟩ := Option.isSome_iff_exists.mp h.top
  obtain ⟨r, hr⟩ := State.topJava?_eq_some.mp hg0
  have hr' : (({ U with heap := s₂.heap, slotsUsed := s₂.slotsUsed } : State).setVm s₂.vm).frames = .java g₀ :: r := hr
  rcases hq' with ⟨hqc, L, hfe, hL⟩ | ⟨q, rfl, E, ce, L, hx, hce, hcv, hcl, hW₂, hsm, hL⟩
  · obtain ⟨⟨v, rfl⟩, hW₂, e2, q2, q3, q4, q5, q6⟩ := id hfe
    have e3 : s₂ = ({ (U.calling g mk a).setFrames s₂.frames with heap := s₂.heap, slotsUsed := s₂.slotsUsed } : State).setVm s₂.vm := by
      have : s₂ = ({ s₂ with vm := (U.calling g mk a).vm } : State).setVm s₂.vm := rfl
      rw [e2] at this
      exact this
    obtain ⟨c₂, i₂, len₂, hc₂, hd₂, hf₂⟩ := hend
    have hW' : U.WarmedH s₂.vm := hW₂
    have hcc : c₂ = c := by
      have h1 : s₂.code? g.method = U.code? g.method := by
        rw [State.code?_eq, State.code?_eq, hW'.alike.method?]
      exact Option.some.inj (hc₂.symm.trans (h1.trans h.code))
    subst hcc
    have hlen : len₂ = len := by rw [hdg] at hd₂; cases hd₂; rfl
    subst hlen
    have hs₂ : s₂ = (({ U with heap := s₂.heap, slotsUsed := s₂.slotsUsed } : State).setVm s₂.vm).setTop { g with pc := g.pc + len₂, stack := v.toList ++ g.stack } := by
      refine e3.trans ?_
      rw [hf₂, State.calling_eq h.top, State.setFrames_setFrames, State.setTop_of_frames _ hr', hr]
      rfl
    have hsame : U.sameButNew ({ U with heap := s₂.heap, slotsUsed := s₂.slotsUsed } : State) L mc ms := by
      refine ⟨?_, q2, q3, q4, q5, q6⟩
      obtain ⟨t, ht, -⟩ := State.frames_cons hr
      show ({ U with heap := s₂.heap, slotsUsed := s₂.slotsUsed } : State) = { U.setFrames U.frames with heap := s₂.heap, slotsUsed := s₂.slotsUsed }
      rw [State.setFrames_self ht]
    subst hg
    refine Or.inl ⟨v, ⟨(({ U with heap := s₂.heap, slotsUsed := s₂.slotsUsed } : State).setVm s₂.vm), Ls ++ L, c0 + mc, s0 + ms⟩,
      ⟨X.admits, X.cas, X.clock, X.frames, X.room, X.hears, X.method, X.code, (X.here.setHeapUsed s₂.heap s₂.slotsUsed).setVm hW'.alike, X.tail, State.WarmedH.trans X.warmed hW', X.limits, X.bytes, X.same.trans (hsame.setVm s.vm)⟩,
      ⟨g, mk, s₂, L, rfl, rfl, hqc, rfl, hL, rfl, rfl⟩, ?_⟩
    show Steps p.tables e below _ ((({ U with heap := s₂.heap, slotsUsed := s₂.slotsUsed } : State).setVm s₂.vm).setTop { g with pc := g.pc + len₂, stack := v.toList ++ g.stack })
    rw [← hs₂]
    exact hsteps
  · obtain ⟨e2, q2, q3, q4, q5, q6⟩ := id hsm
    have e3 : s₂ = ({ (U.calling g mk a).setFrames s₂.frames with heap := s₂.heap, slotsUsed := s₂.slotsUsed } : State).setVm s₂.vm := by
      have : s₂ = ({ s₂ with vm := (U.calling g mk a).vm } : State).setVm s₂.vm := rfl
      rw [e2] at this
      exact this
    have hf₂ : s₂.frames = .throwing q :: .java g :: U.frames.tail := hend
    have hW' : U.WarmedH s₂.vm := hW₂
    have hs₂ : s₂ = ((({ U with heap := s₂.heap, slotsUsed := s₂.slotsUsed } : State).setVm s₂.vm).setTop g).pushFrame (.throwing q) := by
      refine e3.trans ?_
      rw [hf₂, State.calling_eq h.top, State.setFrames_setFrames, State.pushFrame, State.frames_setTop _ hr', State.setTop_of_frames _ hr', State.setFrames_setFrames, hr]
      rfl
    have hsame : U.sameButNew ({ U with heap := s₂.heap, slotsUsed := s₂.slotsUsed } : State) L mc ms := by
      refine ⟨?_, q2, q3, q4, q5, q6⟩
      obtain ⟨t, ht, -⟩ := State.frames_cons hr
      show ({ U with heap := s₂.heap, slotsUsed := s₂.slotsUsed } : State) = { U.setFrames U.frames with heap := s₂.heap, slotsUsed := s₂.slotsUsed }
      rw [State.setFrames_self ht]
    subst hg
    refine Or.inr ⟨q, ⟨(({ U with heap := s₂.heap, slotsUsed := s₂.slotsUsed } : State).setVm s₂.vm), Ls ++ L, c0 + mc, s0 + ms⟩,
      ⟨X.admits, X.cas, X.clock, X.frames, X.room, X.hears, X.method, X.code, (X.here.setHeapUsed s₂.heap s₂.slotsUsed).setVm hW'.alike, X.tail, State.WarmedH.trans X.warmed hW', X.limits, X.bytes, X.same.trans (hsame.setVm s.vm)⟩,
      ⟨g, mk, s₂, L, E, ce, rfl, rfl, hx, hce, hcv, hcl, rfl, hL, rfl, rfl⟩, ?_⟩
    show Steps p.tables e below _ (((({ U with heap := s₂.heap, slotsUsed := s₂.slotsUsed } : State).setVm s₂.vm).setTop g).pushFrame (.throwing q))
    rw [← hs₂]
    exact hsteps
end
variable {p : Program} {l : Launch} {e : Env} {R : Room} {s : State} {m : MethodId} {args : Array Value} {below : List Frame} {meth : Method} {c : Code} {T : State} {H : Heap} {locs : List Loc} {cells slots : Nat}
theorem vx_callVX (X : Stand p l e R s m args below meth c T locs cells slots) (hexec : p.tables.exec = Jvm.exec) {own C : String} {index : Nat} {y : MethodName} {bytes : ByteArray} {maxL : Nat} {ret : Option FieldType} {hh : List (Nat × Nat × Nat × Nat)}
    (hown : s.vm.findClass own = some m.cls) (hlink : (Cond.methodLink own index y).before args s = true) (hinst : (Cond.instanceMethod y).before args s = true) (hsel : (Cond.selects C y y).before args s = true)
    (hcode : (Cond.codeWith y bytes maxL ret hh).before args s = true) (hy : y.cls ≠ "java/lang/invoke/MethodHandle" ∧ y.cls ≠ "java/lang/invoke/VarHandle")
    {W9 : Nat} {Pre : Pt → Array Value → Prop} {Post : Pt → Array Value → Option Value → Pt → Prop} {PostX : Pt → Array Value → Addr → Pt → Prop} (hK : vx_Back l R p e below s args y 3 W9 Pre Post PostX)
    {b : Addr} {cellB : Cell} (hcell : T.heap[b]? = some cellB) (hobj : cellB.vm.isStatics = false) (hcls : s.vm.findClass C = some cellB.cls)
    {g : JFrame} (hg : g.method = m) (hsize : g.locals.size = c.maxLocals) {argsL rest : List Value} (hlen : ∀ sig, parseMethodDescriptor y.desc = some sig → argsL.length = sig.parameters.length)
    (hstack : g.stack = argsL.reverse ++ .ref b :: rest) (hW : 2 * g.monitorRoom + (rest.map fun v => v.category).sum ≤ W9) (hdg : decode c.code g.pc = .ok (.invokevirtual index, 3))
    (hpre : ∀ vm₁, s.WarmedH vm₁ → Pre ⟨T.setVm vm₁, locs, cells, slots⟩ (Value.ref b :: argsL).toArray) :
    (∃ (v : Option Value) (vm₁ : Vm) (B : Pt), s.WarmedH vm₁ ∧ Stand p l e R s m args below meth c B.U B.locs B.cells B.slots ∧ Post ⟨T.setVm vm₁, locs, cells, slots⟩ (Value.ref b :: argsL).toArray v B ∧
      ∀ target, Steps p.tables e below (B.U.setTop { g with pc := g.pc + 3, stack := v.toList ++ rest }) target → Steps p.tables e below (T.setTop g) target) ∨
    (∃ (q : Addr) (vm₁ : Vm) (B : Pt), s.WarmedH vm₁ ∧ Stand p l e R s m args below meth c B.U B.locs B.cells B.slots ∧ PostX ⟨T.setVm vm₁, locs, cells, slots⟩ (Value.ref b :: argsL).toArray q B ∧
      Steps p.tables e below (T.setTop g) ((B.U.setTop { g with stack := rest }).pushFrame (.throwing q))) := by
  obtain ⟨mk, methM, hnamed, hmethM, hstM, habM⟩ := Cond.instanceMethod_spec hinst
  obtain ⟨m8, methM', cM, hn8, hmethM', -, -, -, -, -, -, hsigM⟩ := Cond.codeWith_spec hcode
  cases Option.some.inj (hn8.symm.trans hnamed)
  cases hmethM.symm.trans hmethM'
  obtain ⟨c2, r2, m2, q1, q2, q3, q4, kP, hkP, hkPi⟩ := Cond.selects_spec hsel
  cases hcls.symm.trans q1
  cases (State.methodFound?_of_named hnamed hy).symm.trans q2
  cases hnamed.symm.trans q3
  have hselP : selectMethod e.platform s.vm cellB.cls mk = .method mk := by rw [Launch.admits_selectMethod X.admits]; exact q4
  obtain ⟨vm₁, X₁, hstep₁⟩ := X.invokevirtual hexec hown hlink hnamed hmethM hstM hkP hkPi hy (a := b) (cell := cellB) hcell
    (fun z h => by rw [h] at hobj; cases hobj) hselP hmethM habM hkP hkPi (g := g) hg (argsL := argsL) (rest := rest) (hlen _ hsigM) hstack hdg
  rcases hK m meth c ⟨T.setVm vm₁, locs, cells, slots⟩ { g with stack := rest } (.invokevirtual index) mk (Value.ref b :: argsL).toArray X₁ hg hsize hdg hW (X₁.named hnamed) (hpre vm₁ X₁.warmed) with ⟨v, B, X', hpost, hsteps⟩ | ⟨q, B, X', hpost, hsteps⟩
  · exact Or.inl ⟨v, vm₁, B, X₁.warmed, X', hpost, fun target h => hstep₁ _ fun acts => by rw [doInvoke_state]; exact hsteps.trans h⟩
  · exact Or.inr ⟨q, vm₁, B, X₁.warmed, X', hpost, hstep₁ _ fun acts => by rw [doInvoke_state]; exact hsteps⟩
theorem vx_callSX (X : Stand p l e R s m args below meth c T locs cells slots) (hexec : p.tables.exec = Jvm.exec) {own : String} {index : Nat} {y : MethodName} {bytes : ByteArray} {maxL : Nat} {ret : Option FieldType} {hh : List (Nat × Nat × Nat × Nat)}
    (hown : s.vm.findClass own = some m.cls) (hlink : (Cond.methodLink own index y).before args s = true) (hstat : (Cond.static y).before args s = true) (hinit : (Cond.initialized y.cls).before args s = true)
    (hcode : (Cond.codeWith y bytes maxL ret hh).before args s = true) (hy : y.cls ≠ "java/lang/invoke/MethodHandle" ∧ y.cls ≠ "java/lang/invoke/VarHandle")
    {W9 : Nat} {Pre : Pt → Array Value → Prop} {Post : Pt → Array Value → Option Value → Pt → Prop} {PostX : Pt → Array Value → Addr → Pt → Prop} (hK : vx_Back l R p e below s args y 3 W9 Pre Post PostX)
    {g : JFrame} (hg : g.method = m) (hsize : g.locals.size = c.maxLocals) {argsL rest : List Value} (hlen : ∀ sig, parseMethodDescriptor y.desc = some sig → argsL.length = sig.parameters.length)
    (hstack : g.stack = argsL.reverse ++ rest) (hW : 2 * g.monitorRoom + (rest.map fun v => v.category).sum ≤ W9) (hdg : decode c.code g.pc = .ok (.invokestatic index, 3))
    (hpre : ∀ vm₁, s.WarmedH vm₁ → Pre ⟨T.setVm vm₁, locs, cells, slots⟩ argsL.toArray) :
    (∃ (v : Option Value) (vm₁ : Vm) (B : Pt), s.WarmedH vm₁ ∧ Stand p l e R s m args below meth c B.U B.locs B.cells B.slots ∧ Post ⟨T.setVm vm₁, locs, cells, slots⟩ argsL.toArray v B ∧
      ∀ target, Steps p.tables e below (B.U.setTop { g with pc := g.pc + 3, stack := v.toList ++ rest }) target → Steps p.tables e below (T.setTop g) target) ∨
    (∃ (q : Addr) (vm₁ : Vm) (B : Pt), s.WarmedH vm₁ ∧ Stand p l e R s m args below meth c B.U B.locs B.cells B.slots ∧ PostX ⟨T.setVm vm₁, locs, cells, slots⟩ argsL.toArray q B ∧
      Steps p.tables e below (T.setTop g) ((B.U.setTop { g with stack := rest }).pushFrame (.throwing q))) := by
  obtain ⟨mk, methM, cM, hnamed, hmethM, -, -, -, -, -, -, hsigM⟩ := Cond.codeWith_spec hcode
  have hstatic : methM.isStatic = true := Cond.static_spec hnamed hmethM hstat
  obtain ⟨kP, hkP, -⟩ := className_of_methodNamed hnamed
  have hinitP : kP.init = .initialized := Cond.initialized_spec (findClass_of_methodNamed hnamed) hkP hinit
  obtain ⟨vm₁, X₁, hstep₁⟩ := X.invokestatic hexec hown hlink hnamed hmethM hstatic hkP hinitP hy (g := g) hg (argsL := argsL) (rest := rest) (hlen _ hsigM) hstack hdg
  rcases hK m meth c ⟨T.setVm vm₁, locs, cells, slots⟩ { g with stack := rest } (.invokestatic index) mk argsL.toArray X₁ hg hsize hdg hW (X₁.named hnamed) (hpre vm₁ X₁.warmed) with ⟨v, B, X', hpost, hsteps⟩ | ⟨q, B, X', hpost, hsteps⟩
  · exact Or.inl ⟨v, vm₁, B, X₁.warmed, X', hpost, fun target h => hstep₁ _ fun acts => by rw [doInvoke_state]; exact hsteps.trans h⟩
  · exact Or.inr ⟨q, vm₁, B, X₁.warmed, X', hpost, hstep₁ _ fun acts => by rw [doInvoke_state]; exact hsteps⟩
theorem vx_callVW (X : Stand p l e R s m args below meth c T locs cells slots) (hexec : p.tables.exec = Jvm.exec) {own C : String} {index : Nat} {y : MethodName} {bytes : ByteArray} {maxL : Nat} {ret : Option FieldType} {hh : List (Nat × Nat × Nat × Nat)}
    (hown : s.vm.findClass own = some m.cls) (hlink : (Cond.methodLink own index y).before args s = true) (hinst : (Cond.instanceMethod y).before args s = true) (hsel : (Cond.selects C y y).before args s = true)
    (hcode : (Cond.codeWith y bytes maxL ret hh).before args s = true) (hy : y.cls ≠ "java/lang/invoke/MethodHandle" ∧ y.cls ≠ "java/lang/invoke/VarHandle")
    {W9 : Nat} {Pre : Pt → Array Value → Prop} {Post : Pt → Array Value → Option Value → Pt → Prop} (hK : Back l R p e below s args y 3 W9 Pre Post)
    {b : Addr} {cellB : Cell} (hcell : T.heap[b]? = some cellB) (hobj : cellB.vm.isStatics = false) (hcls : s.vm.findClass C = some cellB.cls)
    {g : JFrame} (hg : g.method = m) (hsize : g.locals.size = c.maxLocals) {argsL rest : List Value} (hlen : ∀ sig, parseMethodDescriptor y.desc = some sig → argsL.length = sig.parameters.length)
    (hstack : g.stack = argsL.reverse ++ .ref b :: rest) (hW : 2 * g.monitorRoom + (rest.map fun v => v.category).sum ≤ W9) (hdg : decode c.code g.pc = .ok (.invokevirtual index, 3))
    (hpre : ∀ vm₁, s.WarmedH vm₁ → Pre ⟨T.setVm vm₁, locs, cells, slots⟩ (Value.ref b :: argsL).toArray) :
    ∃ (v : Option Value) (vm₁ : Vm) (B : Pt), s.WarmedH vm₁ ∧ Stand p l e R s m args below meth c B.U B.locs B.cells B.slots ∧ Post ⟨T.setVm vm₁, locs, cells, slots⟩ (Value.ref b :: argsL).toArray v B ∧
      ∀ target, Steps p.tables e below (B.U.setTop { g with pc := g.pc + 3, stack := v.toList ++ rest }) target → Steps p.tables e below (T.setTop g) target := by
  obtain ⟨mk, methM, hnamed, hmethM, hstM, habM⟩ := Cond.instanceMethod_spec hinst
  obtain ⟨m8, methM', cM, hn8, hmethM', -, -, -, -, -, -, hsigM⟩ := Cond.codeWith_spec hcode
  cases Option.some.inj (hn8.symm.trans hnamed)
  cases hmethM.symm.trans hmethM'
  obtain ⟨c2, r2, m2, q1, q2, q3, q4, kP, hkP, hkPi⟩ := Cond.selects_spec hsel
  cases hcls.symm.trans q1
  cases (State.methodFound?_of_named hnamed hy).symm.trans q2
  cases hnamed.symm.trans q3
  have hselP : selectMethod e.platform s.vm cellB.cls mk = .method mk := by rw [Launch.admits_selectMethod X.admits]; exact q4
  obtain ⟨vm₁, X₁, hstep₁⟩ := X.invokevirtual hexec hown hlink hnamed hmethM hstM hkP hkPi hy (a := b) (cell := cellB) hcell
    (fun z h => by rw [h] at hobj; cases hobj) hselP hmethM habM hkP hkPi (g := g) hg (argsL := argsL) (rest := rest) (hlen _ hsigM) hstack hdg
  obtain ⟨v, B, X', hpost, hsteps⟩ := hK m meth c ⟨T.setVm vm₁, locs, cells, slots⟩ { g with stack := rest } (.invokevirtual index) mk (Value.ref b :: argsL).toArray X₁ hg hsize hdg hW (X₁.named hnamed) (hpre vm₁ X₁.warmed)
  exact ⟨v, vm₁, B, X₁.warmed, X', hpost, fun target h => hstep₁ _ fun acts => by rw [doInvoke_state]; exact hsteps.trans h⟩
abbrev vx_CVW (R : Room) (s : State) (args : Array Value) (own C : String) (index : Nat) (y : MethodName) (bytes : ByteArray) (maxL : Nat) (ret : Option FieldType) (hh : List (Nat × Nat × Nat × Nat)) (ws : List Cond) (rm : Room) (mc ms n : Nat) : Prop :=
  (rm.cells = mc ∧ rm.slots = ms ∧ rm.frames + 1 ≤ R.frames ∧ 8 + (maxL + 11) + rm.locals ≤ R.locals ∧ (∀ w ∈ ws, ∀ (a' : Array Value) (U : State), s.WarmedH U.vm → w.before a' U = true) ∧ Cond.codeWith y bytes maxL ret hh ∈ ws) ∧
  (Cond.codeWith y bytes maxL ret hh).before args s = true ∧ (Cond.initialized y.cls).before args s = true ∧ (y.cls ≠ "java/lang/invoke/MethodHandle" ∧ y.cls ≠ "java/lang/invoke/VarHandle") ∧
  (∀ sig, parseMethodDescriptor y.desc = some sig → n = sig.parameters.length) ∧ (Cond.methodLink own index y).before args s = true ∧ (Cond.instanceMethod y).before args s = true ∧ (Cond.selects C y y).before args s = true
theorem vx_cwVW {own C : String} {index maxL mc ms : Nat} {y : MethodName} {bytes : ByteArray} {ret : Option FieldType} {hh : List (Nat × Nat × Nat × Nat)} {Ts ws ws' : List Cond} {rm : Room} (n : Nat) (ht : ∀ w ∈ Ts, w.before args s = true) (hT : GoodIn Ts (wsV own index C y ws)) (hw : ws = Cond.codeWith y bytes maxL ret hh :: ws') (hrc : rm.cells = mc) (hrs : rm.slots = ms)
    (hd : y.cls = C ∧ y.cls ≠ "java/lang/invoke/MethodHandle" ∧ y.cls ≠ "java/lang/invoke/VarHandle" ∧ (parseMethodDescriptor y.desc).map (fun d => d.parameters.length) = some n) (hR : rm.frames + 1 ≤ R.frames ∧ 8 + (maxL + 11) + rm.locals ≤ R.locals) :
    vx_CVW R s args own C index y bytes maxL ret hh ws rm mc ms n := by
  obtain ⟨hC, hd⟩ := hd
  subst hC
  have ok : ∀ w ∈ wsV own index y.cls y ws, w.before args s = true := fun w h => ht w (hT w h).1
  have hG : GoodIn Ts ws := fun w h => hT w (by unfold wsV; exact List.mem_append_right _ h)
  have hc : Cond.codeWith y bytes maxL ret hh ∈ ws := by rw [hw]; exact List.mem_cons_self
  refine ⟨⟨hrc, hrs, hR.1, hR.2, pay_in ht hG, hc⟩, ht _ (hG _ hc).1, ok _ (by simp [wsV]), ⟨hd.1, hd.2.1⟩, fun sig h => ?_, ok _ (by simp [wsV]), ok _ (by simp [wsV]), ok _ (by simp [wsV])⟩
  have h2 := hd.2.2
  rw [h] at h2
  exact (Option.some.inj h2).symm
theorem vx_runVW {y : MethodName} {bytes cc : ByteArray} {maxL nL mc ms n index : Nat} {ret : Option FieldType} {hh : List (Nat × Nat × Nat × Nat)} {ws : List Cond} {rm : Room} {Pc : Array Value → State → Prop} {Qc : Array Value → State → Outcome → State → Prop} {free : Addr → Prop} {Ts : List Cond} {own C : String} {b : Addr} {As rest : List Value} {g : JFrame}
    (S : CallFix p m c cc nL s args Ts own) (hM : Met l y ws rm Pc Qc mc ms free) (cw : vx_CVW R s args own C index y bytes maxL ret hh ws rm mc ms n) (hp : PreV s H C b Pc As)
    (hg : g.method = m) (hn : As.length = n) (hsize : g.locals.size = nL) (hstack : g.stack = As.reverse ++ .ref b :: rest) (hW : 2 * g.monitorRoom + (rest.map fun v => v.category).sum ≤ 8) (hdg : decode cc g.pc = .ok (.invokevirtual index, 3)) (hf : cells + mc ≤ R.cells ∧ slots + ms ≤ R.slots) :
    va_Run p l e R s m args below meth c H locs cells slots mc ms g rest (Qc (Value.ref b :: As).toArray) free := by
  obtain ⟨⟨hrc, hrs, hfr, hlo, hws, hcw⟩, hcode, hini, hy, hlen, hl, hin, hse⟩ := cw
  have hK : Back l R p e below s args y 3 8 (PreOf R mc ms Pc) (PostOf Qc mc ms free) := va_backW (hh := hh) (bytes := bytes) (maxL := maxL) (ret := ret) hM hp.1 hrc hrs hfr hlo hws hcw (fun a' U hW => word_at hW (Or.inl (by first | rfl | simp [Cond.onTables, Cond.keeps, Cond.steady])) hini)
  obtain ⟨hx, hb, hml, ho, -⟩ := S
  obtain ⟨-, ⟨cellB, hcB, hoB, hclB⟩, hPc⟩ := hp
  intro T hT X
  obtain ⟨v, vm₁, ⟨U', l2, c2, s2⟩, hW₁, X', ⟨g', mk, t, L, e1, e2, hq, h1, hL, h2, h3⟩, st⟩ := vx_callVW X hx (C := C) (hh := hh) (bytes := bytes) (maxL := maxL) (ret := ret) ho hl hin hse hcode hy hK (by rw [hT]; exact hcB) hoB hclB hg (hsize.trans hml.symm) (argsL := As) (rest := rest) (fun sig h => hn.trans (hlen sig h)) hstack hW (by rw [hb]; exact hdg)
    (fun vm₁ hW₁ => ⟨hf.1, hf.2, hPc (T.setVm vm₁) hT hW₁⟩)
  dsimp only [Pt.U, Pt.locs, Pt.cells, Pt.slots] at X' e1 e2 h1 h2 h3 st
  subst h1; subst h2; subst h3
  exact ⟨v, (T.setVm vm₁).calling g' mk (Value.ref b :: As).toArray, t, U', L, hT, X', hL, e1, e2, hq, st⟩
section
variable {y : MethodName} {bytes cc : ByteArray} {maxL nL mc ms n index : Nat} {ret : Option FieldType} {ws : List Cond} {rm : Room} {Pc : Array Value → State → Prop} {Qc : Array Value → State → Outcome → State → Prop} {XC : String → State → State → Prop} {free : Addr → Prop} {Ts : List Cond} {own C : String} {b : Addr} {As rest : List Value} {g : JFrame}
theorem vx_runVX {hh : List (Nat × Nat × Nat × Nat)} (S : CallFix p m c cc nL s args Ts own) (hM : vx_Met l y ws rm Pc Qc XC mc ms free) (cw : vx_CVW R s args own C index y bytes maxL ret hh ws rm mc ms n) (hp : PreV s H C b Pc As)
    (hg : g.method = m) (hn : As.length = n) (hsize : g.locals.size = nL) (hstack : g.stack = As.reverse ++ .ref b :: rest) (hW : 2 * g.monitorRoom + (rest.map fun v => v.category).sum ≤ 8) (hdg : decode cc g.pc = .ok (.invokevirtual index, 3)) (hf : cells + mc ≤ R.cells ∧ slots + ms ≤ R.slots) :
    vx_Run p l e R s m args below meth c H locs cells slots mc ms g rest (Qc (Value.ref b :: As).toArray) XC free := by
  obtain ⟨⟨hrc, hrs, hfr, hlo, hws, hcw⟩, hcode, hini, hy, hlen, hl, hin, hse⟩ := cw
  have hK : vx_Back l R p e below s args y 3 8 (PreOf R mc ms Pc) (PostOf Qc mc ms free) (vx_Post XC mc ms free) := vx_backW (hh := hh) (bytes := bytes) (maxL := maxL) (ret := ret) hM hp.1 hrc hrs hfr hlo hws hcw (fun a' U hW => word_at hW (Or.inl (by first | rfl | simp [Cond.onTables, Cond.keeps, Cond.steady])) hini)
  obtain ⟨hx, hb, hml, ho, -⟩ := S
  obtain ⟨-, ⟨cellB, hcB, hoB, hclB⟩, hPc⟩ := hp
  intro T hT X
  rcases vx_callVX X hx (C := C) (hh := hh) (bytes := bytes) (maxL := maxL) (ret := ret) ho hl hin hse hcode hy hK (by rw [hT]; exact hcB) hoB hclB hg (hsize.trans hml.symm) (argsL := As) (rest := rest) (fun sig h => hn.trans (hlen sig h)) hstack hW (by rw [hb]; exact hdg)
    (fun vm₁ hW₁ => ⟨hf.1, hf.2, hPc (T.setVm vm₁) hT hW₁⟩) with ⟨v, vm₁, ⟨U', l2, c2, s2⟩, hW₁, X', ⟨g', mk, t, L, e1, e2, hq, h1, hL, h2, h3⟩, st⟩ | ⟨q, vm₁, ⟨U', l2, c2, s2⟩, hW₁, X', ⟨g', mk, t, L, E, ce, e1, e2, hq, hce, hcv, hcl, h1, hL, h2, h3⟩, st⟩
  · dsimp only [Pt.U, Pt.locs, Pt.cells, Pt.slots] at X' e1 e2 h1 h2 h3 st
    subst h1; subst h2; subst h3
    exact Or.inl ⟨v, (T.setVm vm₁).calling g' mk (Value.ref b :: As).toArray, t, U', L, hT, X', hL, e1, e2, hq, st⟩
  · dsimp only [Pt.U, Pt.locs, Pt.cells, Pt.slots] at X' e1 e2 h1 h2 h3 st hcl
    subst h1; subst h2; subst h3
    exact Or.inr ⟨q, (T.setVm vm₁).calling g' mk (Value.ref b :: As).toArray, t, U', L, E, ce, hT, X', hL, e1, e2, hq, hce, hcv, vx_cls hW₁ hcl, st⟩
theorem vx_runSX {hh : List (Nat × Nat × Nat × Nat)} (S : CallFix p m c cc nL s args Ts own) (hM : vx_Met l y ws rm Pc Qc XC mc ms free) (cw : vx_CSW R s args own index y bytes maxL ret hh ws rm mc ms n) (hp : PreS s H Pc As)
    (hg : g.method = m) (hn : As.length = n) (hsize : g.locals.size = nL) (hstack : g.stack = As.reverse ++ rest) (hW : 2 * g.monitorRoom + (rest.map fun v => v.category).sum ≤ 8) (hdg : decode cc g.pc = .ok (.invokestatic index, 3)) (hf : cells + mc ≤ R.cells ∧ slots + ms ≤ R.slots) :
    vx_Run p l e R s m args below meth c H locs cells slots mc ms g rest (Qc As.toArray) XC free := by
  obtain ⟨⟨hrc, hrs, hfr, hlo, hws, hcw⟩, hcode, hini, hy, hlen, hl, hstt⟩ := cw
  have hK : vx_Back l R p e below s args y 3 8 (PreOf R mc ms Pc) (PostOf Qc mc ms free) (vx_Post XC mc ms free) := vx_backW (hh := hh) (bytes := bytes) (maxL := maxL) (ret := ret) hM hp.1 hrc hrs hfr hlo hws hcw (fun a' U hW => word_at hW (Or.inl (by first | rfl | simp [Cond.onTables, Cond.keeps, Cond.steady])) hini)
  obtain ⟨hx, hb, hml, ho, -⟩ := S
  intro T hT X
  rcases vx_callSX X hx (hh := hh) (bytes := bytes) (maxL := maxL) (ret := ret) ho hl hstt hini hcode hy hK hg (hsize.trans hml.symm) (argsL := As) (rest := rest) (fun sig h => hn.trans (hlen sig h)) hstack hW (by rw [hb]; exact hdg)
    (fun vm₁ hW₁ => ⟨hf.1, hf.2, hp.2 (T.setVm vm₁) hT hW₁⟩) with ⟨v, vm₁, ⟨U', l2, c2, s2⟩, hW₁, X', ⟨g', mk, t, L, e1, e2, hq, h1, hL, h2, h3⟩, st⟩ | ⟨q, vm₁, ⟨U', l2, c2, s2⟩, hW₁, X', ⟨g', mk, t, L, E, ce, e1, e2, hq, hce, hcv, hcl, h1, hL, h2, h3⟩, st⟩
  · dsimp only [Pt.U, Pt.locs, Pt.cells, Pt.slots] at X' e1 e2 h1 h2 h3 st
    subst h1; subst h2; subst h3
    exact Or.inl ⟨v, (T.setVm vm₁).calling g' mk As.toArray, t, U', L, hT, X', hL, e1, e2, hq, st⟩
  · dsimp only [Pt.U, Pt.locs, Pt.cells, Pt.slots] at X' e1 e2 h1 h2 h3 st hcl
    subst h1; subst h2; subst h3
    exact Or.inr ⟨q, (T.setVm vm₁).calling g' mk As.toArray, t, U', L, E, ce, hT, X', hL, e1, e2, hq, hce, hcv, vx_cls hW₁ hcl, st⟩
end
end VXH
theorem vx_ofWH {l : Launch} {y : MethodName} {ws ws' : List Cond} {rm : Room} {Pc : Array Value → State → Prop} {Qc : Array Value → State → Outcome → State → Prop} {XC : String → State → State → Prop} {mc ms : Nat} {free : Addr → Prop} {cc : ByteArray} {maxL : Nat} {ret : Option FieldType} {hh : List (Nat × Nat × Nat × Nat)}
    (hy : plainName y.cls = true) (hw : ws = Cond.codeWith y cc maxL ret hh :: ws')
    (body : ∀ p e s m args below meth c s₁, BodyLoose p l y (headSpec ws rm) cc maxL ret e s m args below meth c s₁ → c.maxLocals = maxL → Pc args s →
      W p l e (headSpec ws rm).room s m args below meth c s.heap [] 0 0 (vx_MQ below Qc XC args s mc ms free) (entryFrame m args maxL)) : vx_Met l y ws rm Pc Qc XC mc ms free := by
  refine MetFree.of_bodyS (code := cc) (maxLocals := maxL) (ret := ret) hy ?_ ?_
  · intro args s m h hn
    obtain ⟨m9, meth, c, hn9, h1, h2, h3, h4, -, h5, h6, -⟩ := Cond.codeWith_spec (atoms_spec (ws := ws) h _ (by rw [hw]; exact List.mem_cons_self))
    cases hn.symm.trans hn9
    exact ⟨meth, c, h1, h2, h3, h4, h5, h6⟩
  · intro p e s m args below meth c s₁ B hml hP _
    have hh0 : s₁.heap = s.heap := by rw [B.state]; rfl
    obtain ⟨t, a1, o, b1, b2, b3⟩ := body p e s m args below meth c s₁ B hml hP s₁ hh0 (Stand.of_body B)
    exact ⟨t, o, a1, b1, b2, b3⟩
/-! ===== END ===== -/
end
section
def vx_atN (n : Nat) : List Cond := (Bundle.npeArmAtoms n).filter vx_no
def vx_atM (X : String) (names : List String) : List Cond := (Bundle.messageArmAtoms X names).filter vx_no
/-! ===== BEGIN printed: names, fields, word lists, decode rows ===== -/
def RX0 : String := "PairedTrees$BestCut"
def TX0 : u_T := fun k => match k with
  | 0 => ("PairedTrees$BestCut", "isFound", "Z", false)
  | 1 => ("PairedTrees$BestCut", "feature", "I", false)
  | 2 => ("PairedTrees$BestCut", "limit", "I", false)
  | 3 => ("PairedTrees$BestCut", "side", "I", false)
  | 4 => ("PairedTrees$BestCut", "upper", "J", false)
  | _ => ("PairedTrees$BestCut", "lower", "J", false)
def tyX0 : Nat → FieldType := fun k => match k with
  | 0 => .boolean
  | 1 => .int
  | 2 => .int
  | 3 => .int
  | 4 => .long
  | _ => .long
abbrev wsX00 : List Cond := u_ws RX0 TX0 6
theorem nmX0 : ∀ a, a < 6 → ∀ b, b < 6 → a ≠ b → (TX0 a).2.1 ≠ (TX0 b).2.1 := by decide +kernel
theorem tyX0_ok : ∀ k, k < 6 → parseFieldDescriptor (TX0 k).2.2.1 = some (tyX0 k) := by decide +kernel
abbrev cX0_init : ByteArray := prog_2_method_1_code
def yX0_init : MethodName := ⟨RX0, "<init>", "()V"⟩
abbrev cX0_offer : ByteArray := prog_2_method_2_code
def yX0_offer : MethodName := ⟨RX0, "offer", "(IIIJJ)V"⟩
abbrev cX0_isBetter : ByteArray := prog_2_method_3_code
def yX0_isBetter : MethodName := ⟨RX0, "isBetter", "(IIIJJ)Z"⟩
def RX1 : String := "PairedTrees$Forest"
def TX1 : u_T := fun k => match k with
  | 0 => ("PairedTrees$Forest", "count", "I", false)
  | 1 => ("PairedTrees$Forest", "kinds", "[I", true)
  | 2 => ("PairedTrees$Forest", "features", "[I", true)
  | 3 => ("PairedTrees$Forest", "limits", "[I", true)
  | 4 => ("PairedTrees$Forest", "sides", "[I", true)
  | 5 => ("PairedTrees$Forest", "values", "[I", true)
  | 6 => ("PairedTrees$Forest", "held", "[I", true)
  | 7 => ("PairedTrees$Forest", "uppers", "[J", true)
  | _ => ("PairedTrees$Forest", "lowers", "[J", true)
def tyX1 : Nat → FieldType := fun k => match k with
  | 0 => .int
  | 1 => .array .int
  | 2 => .array .int
  | 3 => .array .int
  | 4 => .array .int
  | 5 => .array .int
  | 6 => .array .int
  | 7 => .array .long
  | _ => .array .long
abbrev wsX10 : List Cond := u_ws RX1 TX1 9
theorem nmX1 : ∀ a, a < 9 → ∀ b, b < 9 → a ≠ b → (TX1 a).2.1 ≠ (TX1 b).2.1 := by decide +kernel
theorem tyX1_ok : ∀ k, k < 9 → parseFieldDescriptor (TX1 k).2.2.1 = some (tyX1 k) := by decide +kernel
abbrev cX1_init : ByteArray := prog_3_method_1_code
def yX1_init : MethodName := ⟨RX1, "<init>", "()V"⟩
abbrev cX1_has : ByteArray := prog_3_method_2_code
def yX1_has : MethodName := ⟨RX1, "has", "(I)Z"⟩
abbrev cX1_find : ByteArray := prog_3_method_3_code
def yX1_find : MethodName := ⟨RX1, "find", "(II)I"⟩
abbrev cX1_addTree : ByteArray := prog_3_method_4_code
def yX1_addTree : MethodName := ⟨RX1, "addTree", "()I"⟩
abbrev cX1_setCut : ByteArray := prog_3_method_5_code
def yX1_setCut : MethodName := ⟨RX1, "setCut", "(IILPairedTrees$BestCut;)V"⟩
abbrev cX1_setLeaf : ByteArray := prog_3_method_6_code
def yX1_setLeaf : MethodName := ⟨RX1, "setLeaf", "(III)V"⟩
abbrev cX1_commonDivisor : ByteArray := prog_3_method_7_code
def yX1_commonDivisor : MethodName := ⟨RX1, "commonDivisor", "(JJ)J"⟩
abbrev cX1_valueFor : ByteArray := prog_3_method_8_code
def yX1_valueFor : MethodName := ⟨RX1, "valueFor", "(ILPairedTrees$Things;I)I"⟩
abbrev cX1_sumFor : ByteArray := prog_3_method_9_code
def yX1_sumFor : MethodName := ⟨RX1, "sumFor", "(LPairedTrees$Things;I)J"⟩
abbrev cX1_countLeaves : ByteArray := prog_3_method_10_code
def yX1_countLeaves : MethodName := ⟨RX1, "countLeaves", "(II)I"⟩
abbrev cX1_countCutsBy : ByteArray := prog_3_method_11_code
def yX1_countCutsBy : MethodName := ⟨RX1, "countCutsBy", "(I)I"⟩
def RX2 : String := "PairedTrees$Grower"
def TX2 : u_T := fun k => match k with
  | 0 => ("PairedTrees$Grower", "pushes", "[I", true)
  | 1 => ("PairedTrees$Grower", "places", "[I", true)
  | 2 => ("PairedTrees$Grower", "best", "LPairedTrees$BestCut;", true)
  | 3 => ("PairedTrees$Grower", "held", "I", false)
  | _ => ("PairedTrees$Grower", "sum", "I", false)
def tyX2 : Nat → FieldType := fun k => match k with
  | 0 => .array .int
  | 1 => .array .int
  | 2 => .object "PairedTrees$BestCut"
  | 3 => .int
  | _ => .int
abbrev wsX20 : List Cond := u_ws RX2 TX2 5
theorem nmX2 : ∀ a, a < 5 → ∀ b, b < 5 → a ≠ b → (TX2 a).2.1 ≠ (TX2 b).2.1 := by decide +kernel
theorem tyX2_ok : ∀ k, k < 5 → parseFieldDescriptor (TX2 k).2.2.1 = some (tyX2 k) := by decide +kernel
abbrev cX2_init : ByteArray := prog_4_method_1_code
def yX2_init : MethodName := ⟨RX2, "<init>", "()V"⟩
abbrev cX2_growTree : ByteArray := prog_4_method_2_code
def yX2_growTree : MethodName := ⟨RX2, "growTree", "(LPairedTrees$Things;LPairedTrees$Forest;I[I)V"⟩
abbrev cX2_gather : ByteArray := prog_4_method_3_code
def yX2_gather : MethodName := ⟨RX2, "gather", "(LPairedTrees$Things;I)V"⟩
abbrev cX2_growNode : ByteArray := prog_4_method_4_code
def yX2_growNode : MethodName := ⟨RX2, "growNode", "(LPairedTrees$Things;LPairedTrees$Forest;II[I)V"⟩
abbrev cX2_depthOf : ByteArray := prog_4_method_5_code
def yX2_depthOf : MethodName := ⟨RX2, "depthOf", "(I)I"⟩
abbrev cX2_seekCut : ByteArray := prog_4_method_6_code
def yX2_seekCut : MethodName := ⟨RX2, "seekCut", "(LPairedTrees$Things;II)V"⟩
abbrev cX2_tryCut : ByteArray := prog_4_method_7_code
def yX2_tryCut : MethodName := ⟨RX2, "tryCut", "(LPairedTrees$Things;IIIII)V"⟩
abbrev cX2_part : ByteArray := prog_4_method_8_code
def yX2_part : MethodName := ⟨RX2, "part", "(LPairedTrees$Things;I)V"⟩
def RX3 : String := "PairedTrees$Things"
def TX3 : u_T := fun k => match k with
  | 0 => ("PairedTrees$Things", "count", "I", false)
  | 1 => ("PairedTrees$Things", "lists", "[I", true)
  | 2 => ("PairedTrees$Things", "grades", "[I", true)
  | 3 => ("PairedTrees$Things", "numbers", "[I", true)
  | _ => ("PairedTrees$Things", "scores", "[J", true)
def tyX3 : Nat → FieldType := fun k => match k with
  | 0 => .int
  | 1 => .array .int
  | 2 => .array .int
  | 3 => .array .int
  | _ => .array .long
abbrev wsX30 : List Cond := u_ws RX3 TX3 5
theorem nmX3 : ∀ a, a < 5 → ∀ b, b < 5 → a ≠ b → (TX3 a).2.1 ≠ (TX3 b).2.1 := by decide +kernel
theorem tyX3_ok : ∀ k, k < 5 → parseFieldDescriptor (TX3 k).2.2.1 = some (tyX3 k) := by decide +kernel
abbrev cX3_init : ByteArray := prog_5_method_1_code
def yX3_init : MethodName := ⟨RX3, "<init>", "()V"⟩
abbrev cX3_has : ByteArray := prog_5_method_2_code
def yX3_has : MethodName := ⟨RX3, "has", "(I)Z"⟩
abbrev cX3_rowOf : ByteArray := prog_5_method_3_code
def yX3_rowOf : MethodName := ⟨RX3, "rowOf", "(I)I"⟩
abbrev cX3_take : ByteArray := prog_5_method_4_code
def yX3_take : MethodName := ⟨RX3, "take", "(II)I"⟩
abbrev cX3_forgetRow : ByteArray := prog_5_method_5_code
def yX3_forgetRow : MethodName := ⟨RX3, "forgetRow", "(I)V"⟩
abbrev cX3_numberAt : ByteArray := prog_5_method_6_code
def yX3_numberAt : MethodName := ⟨RX3, "numberAt", "(II)I"⟩
abbrev cX3_replace : ByteArray := prog_5_method_7_code
def yX3_replace : MethodName := ⟨RX3, "replace", "(III)I"⟩
abbrev cX3_goesLeft : ByteArray := prog_5_method_8_code
def yX3_goesLeft : MethodName := ⟨RX3, "goesLeft", "(IIII)Z"⟩
abbrev cX3_takeScores : ByteArray := prog_5_method_9_code
def yX3_takeScores : MethodName := ⟨RX3, "takeScores", "(LPairedTrees$Forest;)V"⟩
abbrev cX3_arePair : ByteArray := prog_5_method_10_code
def yX3_arePair : MethodName := ⟨RX3, "arePair", "(II)Z"⟩
abbrev cX3_pushOf : ByteArray := prog_5_method_11_code
def yX3_pushOf : MethodName := ⟨RX3, "pushOf", "(II)I"⟩
abbrev cX3_pushOfPair : ByteArray := prog_5_method_12_code
def yX3_pushOfPair : MethodName := ⟨RX3, "pushOfPair", "(III)I"⟩
abbrev cX3_countAhead : ByteArray := prog_5_method_13_code
def yX3_countAhead : MethodName := ⟨RX3, "countAhead", "(I)I"⟩
abbrev cX3_isAhead : ByteArray := prog_5_method_14_code
def yX3_isAhead : MethodName := ⟨RX3, "isAhead", "(II)Z"⟩
abbrev cX3_countPairs : ByteArray := prog_5_method_15_code
def yX3_countPairs : MethodName := ⟨RX3, "countPairs", "(IZ)I"⟩
def RX4 : String := "PairedTrees"
def TX4 : u_T := fun k => match k with
  | 0 => ("PairedTrees", "things", "LPairedTrees$Things;", true)
  | 1 => ("PairedTrees", "forest", "LPairedTrees$Forest;", true)
  | 2 => ("PairedTrees", "grower", "LPairedTrees$Grower;", true)
  | _ => ("PairedTrees", "settings", "[I", true)
def tyX4 : Nat → FieldType := fun k => match k with
  | 0 => .object "PairedTrees$Things"
  | 1 => .object "PairedTrees$Forest"
  | 2 => .object "PairedTrees$Grower"
  | _ => .array .int
abbrev wsX40 : List Cond := u_ws RX4 TX4 4
theorem nmX4 : ∀ a, a < 4 → ∀ b, b < 4 → a ≠ b → (TX4 a).2.1 ≠ (TX4 b).2.1 := by decide +kernel
theorem tyX4_ok : ∀ k, k < 4 → parseFieldDescriptor (TX4 k).2.2.1 = some (tyX4 k) := by decide +kernel
abbrev cX4_init : ByteArray := prog_1_method_1_code
def yX4_init : MethodName := ⟨RX4, "<init>", "()V"⟩
abbrev cX4_thing : ByteArray := prog_1_method_2_code
def yX4_thing : MethodName := ⟨RX4, "thing", "(II)I"⟩
abbrev cX4_grade : ByteArray := prog_1_method_3_code
def yX4_grade : MethodName := ⟨RX4, "grade", "(II)I"⟩
abbrev cX4_feature : ByteArray := prog_1_method_4_code
def yX4_feature : MethodName := ⟨RX4, "feature", "(III)I"⟩
abbrev cX4_miss : ByteArray := prog_1_method_5_code
def yX4_miss : MethodName := ⟨RX4, "miss", "(II)I"⟩
abbrev cX4_told : ByteArray := prog_1_method_6_code
def yX4_told : MethodName := ⟨RX4, "told", "(II)I"⟩
abbrev cX4_setting : ByteArray := prog_1_method_7_code
def yX4_setting : MethodName := ⟨RX4, "setting", "(II)I"⟩
abbrev cX4_grow : ByteArray := prog_1_method_8_code
def yX4_grow : MethodName := ⟨RX4, "grow", "()I"⟩
abbrev cX4_cut : ByteArray := prog_1_method_9_code
def yX4_cut : MethodName := ⟨RX4, "cut", "()I"⟩
abbrev cX4_node : ByteArray := prog_1_method_10_code
def yX4_node : MethodName := ⟨RX4, "node", "(III)I"⟩
abbrev cX4_gain : ByteArray := prog_1_method_11_code
def yX4_gain : MethodName := ⟨RX4, "gain", "(III)J"⟩
abbrev cX4_score : ByteArray := prog_1_method_12_code
def yX4_score : MethodName := ⟨RX4, "score", "(I)J"⟩
abbrev cX4_value : ByteArray := prog_1_method_13_code
def yX4_value : MethodName := ⟨RX4, "value", "(II)I"⟩
abbrev cX4_push : ByteArray := prog_1_method_14_code
def yX4_push : MethodName := ⟨RX4, "push", "(I)I"⟩
abbrev cX4_ranked : ByteArray := prog_1_method_15_code
def yX4_ranked : MethodName := ⟨RX4, "ranked", "(II)I"⟩
abbrev cX4_pairs : ByteArray := prog_1_method_16_code
def yX4_pairs : MethodName := ⟨RX4, "pairs", "(II)I"⟩
abbrev cX4_share : ByteArray := prog_1_method_17_code
def yX4_share : MethodName := ⟨RX4, "share", "(I)I"⟩
abbrev cX4_about : ByteArray := prog_1_method_18_code
def yX4_about : MethodName := ⟨RX4, "about", "(I)I"⟩
abbrev cX4_clear : ByteArray := prog_1_method_19_code
def yX4_clear : MethodName := ⟨RX4, "clear", "()I"⟩
abbrev cX4_startAnew : ByteArray := prog_1_method_20_code
def yX4_startAnew : MethodName := ⟨RX4, "startAnew", "()V"⟩
abbrev cX4_isList : ByteArray := prog_1_method_21_code
def yX4_isList : MethodName := ⟨RX4, "isList", "(I)Z"⟩
abbrev cX4_isListOrAll : ByteArray := prog_1_method_22_code
def yX4_isListOrAll : MethodName := ⟨RX4, "isListOrAll", "(I)Z"⟩
abbrev cX4_isGrade : ByteArray := prog_1_method_23_code
def yX4_isGrade : MethodName := ⟨RX4, "isGrade", "(I)Z"⟩
abbrev cX4_isFeature : ByteArray := prog_1_method_24_code
def yX4_isFeature : MethodName := ⟨RX4, "isFeature", "(I)Z"⟩
def RX5 : String := "PairedTreesModel"
def TX5 : u_T := fun k => match k with
  | 0 => ("PairedTreesModel", "thrown", "I", false)
  | 1 => ("PairedTreesModel", "things", "I", false)
  | 2 => ("PairedTreesModel", "listOf", "[I", true)
  | 3 => ("PairedTreesModel", "gradeOf", "[I", true)
  | 4 => ("PairedTreesModel", "number", "[I", true)
  | 5 => ("PairedTreesModel", "has", "[Z", true)
  | 6 => ("PairedTreesModel", "settings", "[I", true)
  | 7 => ("PairedTreesModel", "trees", "I", false)
  | 8 => ("PairedTreesModel", "sort", "[I", true)
  | 9 => ("PairedTreesModel", "byOf", "[I", true)
  | 10 => ("PairedTreesModel", "cutOf", "[I", true)
  | 11 => ("PairedTreesModel", "sideOf", "[I", true)
  | 12 => ("PairedTreesModel", "valueOf", "[I", true)
  | 13 => ("PairedTreesModel", "held", "[I", true)
  | 14 => ("PairedTreesModel", "upper", "[J", true)
  | 15 => ("PairedTreesModel", "lower", "[J", true)
  | 16 => ("PairedTreesModel", "scores", "[J", true)
  | 17 => ("PairedTreesModel", "nodeOf", "[I", true)
  | 18 => ("PairedTreesModel", "pushes", "[I", true)
  | 19 => ("PairedTreesModel", "bestBy", "I", false)
  | 20 => ("PairedTreesModel", "bestCut", "I", false)
  | 21 => ("PairedTreesModel", "bestSide", "I", false)
  | 22 => ("PairedTreesModel", "bestUpper", "J", false)
  | _ => ("PairedTreesModel", "bestLower", "J", false)
def tyX5 : Nat → FieldType := fun k => match k with
  | 0 => .int
  | 1 => .int
  | 2 => .array .int
  | 3 => .array .int
  | 4 => .array .int
  | 5 => .array .boolean
  | 6 => .array .int
  | 7 => .int
  | 8 => .array .int
  | 9 => .array .int
  | 10 => .array .int
  | 11 => .array .int
  | 12 => .array .int
  | 13 => .array .int
  | 14 => .array .long
  | 15 => .array .long
  | 16 => .array .long
  | 17 => .array .int
  | 18 => .array .int
  | 19 => .int
  | 20 => .int
  | 21 => .int
  | 22 => .long
  | _ => .long
abbrev wsX50 : List Cond := u_ws RX5 TX5 24
theorem nmX5 : ∀ a, a < 24 → ∀ b, b < 24 → a ≠ b → (TX5 a).2.1 ≠ (TX5 b).2.1 := by decide +kernel
theorem tyX5_ok : ∀ k, k < 24 → parseFieldDescriptor (TX5 k).2.2.1 = some (tyX5 k) := by decide +kernel
abbrev cX5_init : ByteArray := prog_7_method_1_code
def yX5_init : MethodName := ⟨RX5, "<init>", "()V"⟩
abbrev cX5_begins : ByteArray := prog_7_method_2_code
def yX5_begins : MethodName := ⟨RX5, "begins", "()V"⟩
abbrev cX5_thrown : ByteArray := prog_7_method_3_code
def yX5_thrown : MethodName := ⟨RX5, "thrown", "()I"⟩
abbrev cX5_in : ByteArray := prog_7_method_4_code
def yX5_in : MethodName := ⟨RX5, "in", "(III)Z"⟩
abbrev cX5_isThing : ByteArray := prog_7_method_5_code
def yX5_isThing : MethodName := ⟨RX5, "isThing", "(I)Z"⟩
abbrev cX5_isAny : ByteArray := prog_7_method_6_code
def yX5_isAny : MethodName := ⟨RX5, "isAny", "(I)Z"⟩
abbrev cX5_at : ByteArray := prog_7_method_7_code
def yX5_at : MethodName := ⟨RX5, "at", "(I)I"⟩
abbrev cX5_thing : ByteArray := prog_7_method_8_code
def yX5_thing : MethodName := ⟨RX5, "thing", "(II)I"⟩
abbrev cX5_grade : ByteArray := prog_7_method_9_code
def yX5_grade : MethodName := ⟨RX5, "grade", "(II)I"⟩
abbrev cX5_feature : ByteArray := prog_7_method_10_code
def yX5_feature : MethodName := ⟨RX5, "feature", "(III)I"⟩
abbrev cX5_miss : ByteArray := prog_7_method_11_code
def yX5_miss : MethodName := ⟨RX5, "miss", "(II)I"⟩
abbrev cX5_told : ByteArray := prog_7_method_12_code
def yX5_told : MethodName := ⟨RX5, "told", "(II)I"⟩
abbrev cX5_setting : ByteArray := prog_7_method_13_code
def yX5_setting : MethodName := ⟨RX5, "setting", "(II)I"⟩
abbrev cX5_goesLeft : ByteArray := prog_7_method_14_code
def yX5_goesLeft : MethodName := ⟨RX5, "goesLeft", "(IIII)Z"⟩
abbrev cX5_valueBy : ByteArray := prog_7_method_15_code
def yX5_valueBy : MethodName := ⟨RX5, "valueBy", "(II)I"⟩
abbrev cX5_scoreOf : ByteArray := prog_7_method_16_code
def yX5_scoreOf : MethodName := ⟨RX5, "scoreOf", "(I)J"⟩
abbrev cX5_isPair : ByteArray := prog_7_method_17_code
def yX5_isPair : MethodName := ⟨RX5, "isPair", "(II)Z"⟩
abbrev cX5_score : ByteArray := prog_7_method_18_code
def yX5_score : MethodName := ⟨RX5, "score", "()V"⟩
abbrev cX5_pushOf : ByteArray := prog_7_method_19_code
def yX5_pushOf : MethodName := ⟨RX5, "pushOf", "(I)I"⟩
abbrev cX5_floor : ByteArray := prog_7_method_20_code
def yX5_floor : MethodName := ⟨RX5, "floor", "(II)I"⟩
abbrev cX5_tries : ByteArray := prog_7_method_21_code
def yX5_tries : MethodName := ⟨RX5, "tries", "(IIII)V"⟩
abbrev cX5_below : ByteArray := prog_7_method_22_code
def yX5_below : MethodName := ⟨RX5, "below", "(I)I"⟩
abbrev cX5_growNode : ByteArray := prog_7_method_23_code
def yX5_growNode : MethodName := ⟨RX5, "growNode", "(I)V"⟩
abbrev cX5_common : ByteArray := prog_7_method_24_code
def yX5_common : MethodName := ⟨RX5, "common", "(JJ)J"⟩
abbrev cX5_grow : ByteArray := prog_7_method_25_code
def yX5_grow : MethodName := ⟨RX5, "grow", "()I"⟩
abbrev cX5_cut : ByteArray := prog_7_method_26_code
def yX5_cut : MethodName := ⟨RX5, "cut", "()I"⟩
abbrev cX5_isNode : ByteArray := prog_7_method_27_code
def yX5_isNode : MethodName := ⟨RX5, "isNode", "(II)Z"⟩
abbrev cX5_node : ByteArray := prog_7_method_28_code
def yX5_node : MethodName := ⟨RX5, "node", "(III)I"⟩
abbrev cX5_gain : ByteArray := prog_7_method_29_code
def yX5_gain : MethodName := ⟨RX5, "gain", "(III)J"⟩
abbrev cX5_score_ : ByteArray := prog_7_method_30_code
def yX5_score_ : MethodName := ⟨RX5, "score", "(I)J"⟩
abbrev cX5_value : ByteArray := prog_7_method_31_code
def yX5_value : MethodName := ⟨RX5, "value", "(II)I"⟩
abbrev cX5_push : ByteArray := prog_7_method_32_code
def yX5_push : MethodName := ⟨RX5, "push", "(I)I"⟩
abbrev cX5_ranked : ByteArray := prog_7_method_33_code
def yX5_ranked : MethodName := ⟨RX5, "ranked", "(II)I"⟩
abbrev cX5_countPairs : ByteArray := prog_7_method_34_code
def yX5_countPairs : MethodName := ⟨RX5, "countPairs", "(IZ)I"⟩
abbrev cX5_pairs : ByteArray := prog_7_method_35_code
def yX5_pairs : MethodName := ⟨RX5, "pairs", "(II)I"⟩
abbrev cX5_share : ByteArray := prog_7_method_36_code
def yX5_share : MethodName := ⟨RX5, "share", "(I)I"⟩
abbrev cX5_about : ByteArray := prog_7_method_37_code
def yX5_about : MethodName := ⟨RX5, "about", "(I)I"⟩
abbrev cX5_clear : ByteArray := prog_7_method_38_code
def yX5_clear : MethodName := ⟨RX5, "clear", "()I"⟩
def RJ5 : String := "java/lang/AbstractStringBuilder"
def TJ5 : u_T := fun k => match k with
  | _ => ("", "", "", false)
def tyJ5 : Nat → FieldType := fun k => match k with
  | _ => .int
abbrev wsJ50 : List Cond := u_ws RJ5 TJ5 0
theorem nmJ5 : ∀ a, a < 0 → ∀ b, b < 0 → a ≠ b → (TJ5 a).2.1 ≠ (TJ5 b).2.1 := by decide +kernel
theorem tyJ5_ok : ∀ k, k < 0 → parseFieldDescriptor (TJ5 k).2.2.1 = some (tyJ5 k) := by decide +kernel
abbrev cJ5_init_d00df : ByteArray := prog_8_method_2_code
def yJ5_init_d00df : MethodName := ⟨RJ5, "<init>", "(I)V"⟩
abbrev cJ5_length_8abf5 : ByteArray := prog_8_method_6_code
def yJ5_length_8abf5 : MethodName := ⟨RJ5, "length", "()I"⟩
abbrev cJ5_ensureCapacityInternal_d00df : ByteArray := prog_8_method_9_code
def yJ5_ensureCapacityInternal_d00df : MethodName := ⟨RJ5, "ensureCapacityInternal", "(I)V"⟩
abbrev cJ5_newCapacity_0f7a4 : ByteArray := prog_8_method_10_code
def yJ5_newCapacity_0f7a4 : MethodName := ⟨RJ5, "newCapacity", "(I)I"⟩
abbrev cJ5_inflate_da8c8 : ByteArray := prog_8_method_11_code
def yJ5_inflate_da8c8 : MethodName := ⟨RJ5, "inflate", "()V"⟩
abbrev cJ5_append_cf1ce : ByteArray := prog_8_method_22_code
def yJ5_append_cf1ce : MethodName := ⟨RJ5, "append", "(Ljava/lang/String;)Ljava/lang/AbstractStringBuilder;"⟩
abbrev cJ5_appendNull_278bc : ByteArray := prog_8_method_26_code
def yJ5_appendNull_278bc : MethodName := ⟨RJ5, "appendNull", "()Ljava/lang/AbstractStringBuilder;"⟩
abbrev cJ5_append_c97b9 : ByteArray := prog_8_method_32_code
def yJ5_append_c97b9 : MethodName := ⟨RJ5, "append", "(I)Ljava/lang/AbstractStringBuilder;"⟩
abbrev cJ5_getValue_6d5f1 : ByteArray := prog_8_method_64_code
def yJ5_getValue_6d5f1 : MethodName := ⟨RJ5, "getValue", "()[B"⟩
abbrev cJ5_isLatin1_aae02 : ByteArray := prog_8_method_68_code
def yJ5_isLatin1_aae02 : MethodName := ⟨RJ5, "isLatin1", "()Z"⟩
abbrev cJ5_inflateIfNeededFor_a7421 : ByteArray := prog_8_method_71_code
def yJ5_inflateIfNeededFor_a7421 : MethodName := ⟨RJ5, "inflateIfNeededFor", "(Ljava/lang/String;)V"⟩
abbrev cJ5_putStringAt_47b60 : ByteArray := prog_8_method_73_code
def yJ5_putStringAt_47b60 : MethodName := ⟨RJ5, "putStringAt", "(ILjava/lang/String;)V"⟩
def RJx00060 : String := "java/lang/ArrayIndexOutOfBoundsException"
def TJx00060 : u_T := fun k => match k with
  | 0 => ("java/lang/Throwable", "cause", "Ljava/lang/Throwable;", false)
  | 1 => ("java/lang/Throwable", "stackTrace", "[Ljava/lang/StackTraceElement;", false)
  | 2 => ("java/lang/Throwable", "suppressedExceptions", "Ljava/util/List;", false)
  | 3 => ("java/lang/Throwable", "detailMessage", "Ljava/lang/String;", false)
  | 4 => ("java/lang/Throwable", "backtrace", "Ljava/lang/Object;", false)
  | _ => ("java/lang/Throwable", "depth", "I", false)
def tyJx00060 : Nat → FieldType := fun k => match k with
  | 0 => .object "java/lang/Throwable"
  | 1 => .array (.object "java/lang/StackTraceElement")
  | 2 => .object "java/util/List"
  | 3 => .object "java/lang/String"
  | 4 => .object "java/lang/Object"
  | _ => .int
abbrev wsJx000600 : List Cond := u_ws RJx00060 TJx00060 6
theorem nmJx00060 : ∀ a, a < 6 → ∀ b, b < 6 → a ≠ b → (TJx00060 a).2.1 ≠ (TJx00060 b).2.1 := by decide +kernel
theorem tyJx00060_ok : ∀ k, k < 6 → parseFieldDescriptor (TJx00060 k).2.2.1 = some (tyJx00060 k) := by decide +kernel
abbrev cJx00060_init_a7421 : ByteArray := prog_10_method_2_code
def yJx00060_init_a7421 : MethodName := ⟨RJx00060, "<init>", "(Ljava/lang/String;)V"⟩
abbrev cJx00060_init_d00df : ByteArray := prog_10_method_3_code
def yJx00060_init_d00df : MethodName := ⟨RJx00060, "<init>", "(I)V"⟩
def RJx8e188 : String := "java/lang/Cloneable"
def TJx8e188 : u_T := fun k => match k with
  | _ => ("", "", "", false)
def tyJx8e188 : Nat → FieldType := fun k => match k with
  | _ => .int
abbrev wsJx8e1880 : List Cond := u_ws RJx8e188 TJx8e188 0
theorem nmJx8e188 : ∀ a, a < 0 → ∀ b, b < 0 → a ≠ b → (TJx8e188 a).2.1 ≠ (TJx8e188 b).2.1 := by decide +kernel
theorem tyJx8e188_ok : ∀ k, k < 0 → parseFieldDescriptor (TJx8e188 k).2.2.1 = some (tyJx8e188 k) := by decide +kernel
def RJ6 : String := "java/lang/Integer"
def TJ6 : u_T := fun k => match k with
  | _ => ("", "", "", false)
def tyJ6 : Nat → FieldType := fun k => match k with
  | _ => .int
abbrev wsJ60 : List Cond := u_ws RJ6 TJ6 0
theorem nmJ6 : ∀ a, a < 0 → ∀ b, b < 0 → a ≠ b → (TJ6 a).2.1 ≠ (TJ6 b).2.1 := by decide +kernel
theorem tyJ6_ok : ∀ k, k < 0 → parseFieldDescriptor (TJ6 k).2.2.1 = some (tyJ6 k) := by decide +kernel
abbrev cJ6_getChars_ba4f3 : ByteArray := prog_14_method_12_code
def yJ6_getChars_ba4f3 : MethodName := ⟨RJ6, "getChars", "(II[B)I"⟩
abbrev cJ6_stringSize_0f7a4 : ByteArray := prog_14_method_13_code
def yJ6_stringSize_0f7a4 : MethodName := ⟨RJ6, "stringSize", "(I)I"⟩
def RJ9 : String := "java/lang/Math"
def TJ9 : u_T := fun k => match k with
  | _ => ("", "", "", false)
def tyJ9 : Nat → FieldType := fun k => match k with
  | _ => .int
abbrev wsJ90 : List Cond := u_ws RJ9 TJ9 0
theorem nmJ9 : ∀ a, a < 0 → ∀ b, b < 0 → a ≠ b → (TJ9 a).2.1 ≠ (TJ9 b).2.1 := by decide +kernel
theorem tyJ9_ok : ∀ k, k < 0 → parseFieldDescriptor (TJ9 k).2.2.1 = some (tyJ9 k) := by decide +kernel
abbrev cJ9_floorDiv_7cf53 : ByteArray := prog_15_method_47_code
def yJ9_floorDiv_7cf53 : MethodName := ⟨RJ9, "floorDiv", "(II)I"⟩
abbrev cJ9_max_7cf53 : ByteArray := prog_15_method_65_code
def yJ9_max_7cf53 : MethodName := ⟨RJ9, "max", "(II)I"⟩
abbrev cJ9_min_7cf53 : ByteArray := prog_15_method_69_code
def yJ9_min_7cf53 : MethodName := ⟨RJ9, "min", "(II)I"⟩
def RJx5d777 : String := "java/lang/NullPointerException"
def TJx5d777 : u_T := fun k => match k with
  | 0 => ("java/lang/Throwable", "backtrace", "Ljava/lang/Object;", false)
  | 1 => ("java/lang/Throwable", "detailMessage", "Ljava/lang/String;", false)
  | 2 => ("java/lang/Throwable", "cause", "Ljava/lang/Throwable;", false)
  | 3 => ("java/lang/Throwable", "stackTrace", "[Ljava/lang/StackTraceElement;", false)
  | 4 => ("java/lang/Throwable", "depth", "I", false)
  | 5 => ("java/lang/Throwable", "suppressedExceptions", "Ljava/util/List;", false)
  | 6 => ("java/lang/NullPointerException", "extendedMessageState", "I", false)
  | _ => ("java/lang/NullPointerException", "extendedMessage", "Ljava/lang/String;", false)
def tyJx5d777 : Nat → FieldType := fun k => match k with
  | 0 => .object "java/lang/Object"
  | 1 => .object "java/lang/String"
  | 2 => .object "java/lang/Throwable"
  | 3 => .array (.object "java/lang/StackTraceElement")
  | 4 => .int
  | 5 => .object "java/util/List"
  | 6 => .int
  | _ => .object "java/lang/String"
abbrev wsJx5d7770 : List Cond := u_ws RJx5d777 TJx5d777 8
theorem nmJx5d777 : ∀ a, a < 8 → ∀ b, b < 8 → a ≠ b → (TJx5d777 a).2.1 ≠ (TJx5d777 b).2.1 := by decide +kernel
theorem tyJx5d777_ok : ∀ k, k < 8 → parseFieldDescriptor (TJx5d777 k).2.2.1 = some (tyJx5d777 k) := by decide +kernel
abbrev cJx5d777_init_da8c8 : ByteArray := prog_16_method_1_code
def yJx5d777_init_da8c8 : MethodName := ⟨RJx5d777, "<init>", "()V"⟩
abbrev cJx5d777_init_a7421 : ByteArray := prog_16_method_2_code
def yJx5d777_init_a7421 : MethodName := ⟨RJx5d777, "<init>", "(Ljava/lang/String;)V"⟩
abbrev cJx5d777_fillInStackTrace_cddbd : ByteArray := prog_16_method_3_code
def yJx5d777_fillInStackTrace_cddbd : MethodName := ⟨RJx5d777, "fillInStackTrace", "()Ljava/lang/Throwable;"⟩
def RJ0 : String := "java/lang/String"
def TJ0 : u_T := fun k => match k with
  | 0 => ("java/lang/String", "value", "[B", true)
  | 1 => ("java/lang/String", "coder", "B", true)
  | 2 => ("java/lang/String", "hash", "I", false)
  | _ => ("java/lang/String", "hashIsZero", "Z", false)
def tyJ0 : Nat → FieldType := fun k => match k with
  | 0 => .array .byte
  | 1 => .byte
  | 2 => .int
  | _ => .boolean
abbrev wsJ00 : List Cond := u_ws RJ0 TJ0 4
theorem nmJ0 : ∀ a, a < 4 → ∀ b, b < 4 → a ≠ b → (TJ0 a).2.1 ≠ (TJ0 b).2.1 := by decide +kernel
theorem tyJ0_ok : ∀ k, k < 4 → parseFieldDescriptor (TJ0 k).2.2.1 = some (tyJ0 k) := by decide +kernel
abbrev cJ0_init_81219 : ByteArray := prog_18_method_53_code
def yJ0_init_81219 : MethodName := ⟨RJ0, "<init>", "(Ljava/lang/StringBuilder;)V"⟩
abbrev cJ0_length_8abf5 : ByteArray := prog_18_method_54_code
def yJ0_length_8abf5 : MethodName := ⟨RJ0, "length", "()I"⟩
abbrev cJ0_getBytes_840e7 : ByteArray := prog_18_method_147_code
def yJ0_getBytes_840e7 : MethodName := ⟨RJ0, "getBytes", "([BIB)V"⟩
abbrev cJ0_init_db425 : ByteArray := prog_18_method_150_code
def yJ0_init_db425 : MethodName := ⟨RJ0, "<init>", "(Ljava/lang/AbstractStringBuilder;Ljava/lang/Void;)V"⟩
abbrev cJ0_coder_7d493 : ByteArray := prog_18_method_152_code
def yJ0_coder_7d493 : MethodName := ⟨RJ0, "coder", "()B"⟩
abbrev cJ0_checkBoundsOffCount_cabcc : ByteArray := prog_18_method_157_code
def yJ0_checkBoundsOffCount_cabcc : MethodName := ⟨RJ0, "checkBoundsOffCount", "(III)I"⟩
abbrev cJ0_checkBoundsBeginEnd_23922 : ByteArray := prog_18_method_158_code
def yJ0_checkBoundsBeginEnd_23922 : MethodName := ⟨RJ0, "checkBoundsBeginEnd", "(III)V"⟩
def RJ4 : String := "java/lang/StringBuilder"
def TJ4 : u_T := fun k => match k with
  | 0 => ("java/lang/AbstractStringBuilder", "value", "[B", false)
  | 1 => ("java/lang/AbstractStringBuilder", "coder", "B", false)
  | 2 => ("java/lang/AbstractStringBuilder", "maybeLatin1", "Z", false)
  | _ => ("java/lang/AbstractStringBuilder", "count", "I", false)
def tyJ4 : Nat → FieldType := fun k => match k with
  | 0 => .array .byte
  | 1 => .byte
  | 2 => .boolean
  | _ => .int
abbrev wsJ40 : List Cond := u_ws RJ4 TJ4 4
theorem nmJ4 : ∀ a, a < 4 → ∀ b, b < 4 → a ≠ b → (TJ4 a).2.1 ≠ (TJ4 b).2.1 := by decide +kernel
theorem tyJ4_ok : ∀ k, k < 4 → parseFieldDescriptor (TJ4 k).2.2.1 = some (tyJ4 k) := by decide +kernel
abbrev cJ4_init_da8c8 : ByteArray := prog_19_method_1_code
def yJ4_init_da8c8 : MethodName := ⟨RJ4, "<init>", "()V"⟩
abbrev cJ4_append_15ec4 : ByteArray := prog_19_method_7_code
def yJ4_append_15ec4 : MethodName := ⟨RJ4, "append", "(Ljava/lang/String;)Ljava/lang/StringBuilder;"⟩
abbrev cJ4_append_bf812 : ByteArray := prog_19_method_15_code
def yJ4_append_bf812 : MethodName := ⟨RJ4, "append", "(I)Ljava/lang/StringBuilder;"⟩
abbrev cJ4_toString_0e30d : ByteArray := prog_19_method_42_code
def yJ4_toString_0e30d : MethodName := ⟨RJ4, "toString", "()Ljava/lang/String;"⟩
abbrev cJ4_length_8abf5 : ByteArray := prog_19_method_93_code
def yJ4_length_8abf5 : MethodName := ⟨RJ4, "length", "()I"⟩
def RJ1 : String := "java/lang/StringLatin1"
def TJ1 : u_T := fun k => match k with
  | _ => ("", "", "", false)
def tyJ1 : Nat → FieldType := fun k => match k with
  | _ => .int
abbrev wsJ10 : List Cond := u_ws RJ1 TJ1 0
theorem nmJ1 : ∀ a, a < 0 → ∀ b, b < 0 → a ≠ b → (TJ1 a).2.1 ≠ (TJ1 b).2.1 := by decide +kernel
theorem tyJ1_ok : ∀ k, k < 0 → parseFieldDescriptor (TJ1 k).2.2.1 = some (tyJ1 k) := by decide +kernel
abbrev cJ1_inflate_0e8fd : ByteArray := prog_20_method_50_code
def yJ1_inflate_0e8fd : MethodName := ⟨RJ1, "inflate", "([BI[BII)V"⟩
def RJ2 : String := "java/lang/StringUTF16"
def TJ2 : u_T := fun k => match k with
  | _ => ("", "", "", false)
def tyJ2 : Nat → FieldType := fun k => match k with
  | _ => .int
abbrev wsJ20 : List Cond := u_ws RJ2 TJ2 0
theorem nmJ2 : ∀ a, a < 0 → ∀ b, b < 0 → a ≠ b → (TJ2 a).2.1 ≠ (TJ2 b).2.1 := by decide +kernel
theorem tyJ2_ok : ∀ k, k < 0 → parseFieldDescriptor (TJ2 k).2.2.1 = some (tyJ2 k) := by decide +kernel
abbrev cJ2_newBytesFor_77867 : ByteArray := prog_21_method_2_code
def yJ2_newBytesFor_77867 : MethodName := ⟨RJ2, "newBytesFor", "(I)[B"⟩
abbrev cJ2_newBytesLength_0f7a4 : ByteArray := prog_21_method_3_code
def yJ2_newBytesLength_0f7a4 : MethodName := ⟨RJ2, "newBytesLength", "(I)I"⟩
abbrev cJ2_putChar_b72d1 : ByteArray := prog_21_method_4_code
def yJ2_putChar_b72d1 : MethodName := ⟨RJ2, "putChar", "([BII)V"⟩
abbrev cJ2_getChar_3b067 : ByteArray := prog_21_method_5_code
def yJ2_getChar_3b067 : MethodName := ⟨RJ2, "getChar", "([BI)C"⟩
abbrev cJ2_length_9d52b : ByteArray := prog_21_method_6_code
def yJ2_length_9d52b : MethodName := ⟨RJ2, "length", "([B)I"⟩
abbrev cJ2_coderFromArrayLen_85cad : ByteArray := prog_21_method_15_code
def yJ2_coderFromArrayLen_85cad : MethodName := ⟨RJ2, "coderFromArrayLen", "([BI)B"⟩
abbrev cJ2_compress_39247 : ByteArray := prog_21_method_17_code
def yJ2_compress_39247 : MethodName := ⟨RJ2, "compress", "([BII)[B"⟩
abbrev cJ2_compress_5af95 : ByteArray := prog_21_method_22_code
def yJ2_compress_5af95 : MethodName := ⟨RJ2, "compress", "([BI[BII)I"⟩
abbrev cJ2_getChars_46870 : ByteArray := prog_21_method_77_code
def yJ2_getChars_46870 : MethodName := ⟨RJ2, "getChars", "(III[B)I"⟩
abbrev cJ2_putCharsAt_cd4e5 : ByteArray := prog_21_method_81_code
def yJ2_putCharsAt_cd4e5 : MethodName := ⟨RJ2, "putCharsAt", "([BICCCC)I"⟩
abbrev cJ2_inflate_0e8fd : ByteArray := prog_21_method_86_code
def yJ2_inflate_0e8fd : MethodName := ⟨RJ2, "inflate", "([BI[BII)V"⟩
abbrev cJ2_getChars_ba4f3 : ByteArray := prog_21_method_89_code
def yJ2_getChars_ba4f3 : MethodName := ⟨RJ2, "getChars", "(II[B)I"⟩
abbrev cJ2_checkBoundsBeginEnd_d044e : ByteArray := prog_21_method_93_code
def yJ2_checkBoundsBeginEnd_d044e : MethodName := ⟨RJ2, "checkBoundsBeginEnd", "(II[B)V"⟩
abbrev cJ2_checkBoundsOffCount_d044e : ByteArray := prog_21_method_94_code
def yJ2_checkBoundsOffCount_d044e : MethodName := ⟨RJ2, "checkBoundsOffCount", "(II[B)V"⟩
def RJ10 : String := "java/lang/System"
def TJ10 : u_T := fun k => match k with
  | _ => ("", "", "", false)
def tyJ10 : Nat → FieldType := fun k => match k with
  | _ => .int
abbrev wsJ100 : List Cond := u_ws RJ10 TJ10 0
theorem nmJ10 : ∀ a, a < 0 → ∀ b, b < 0 → a ≠ b → (TJ10 a).2.1 ≠ (TJ10 b).2.1 := by decide +kernel
theorem tyJ10_ok : ∀ k, k < 0 → parseFieldDescriptor (TJ10 k).2.2.1 = some (tyJ10 k) := by decide +kernel
def RJ7 : String := "java/util/Arrays"
def TJ7 : u_T := fun k => match k with
  | _ => ("", "", "", false)
def tyJ7 : Nat → FieldType := fun k => match k with
  | _ => .int
abbrev wsJ70 : List Cond := u_ws RJ7 TJ7 0
theorem nmJ7 : ∀ a, a < 0 → ∀ b, b < 0 → a ≠ b → (TJ7 a).2.1 ≠ (TJ7 b).2.1 := by decide +kernel
theorem tyJ7_ok : ∀ k, k < 0 → parseFieldDescriptor (TJ7 k).2.2.1 = some (tyJ7 k) := by decide +kernel
abbrev cJ7_rangeCheck_23922 : ByteArray := prog_24_method_30_code
def yJ7_rangeCheck_23922 : MethodName := ⟨RJ7, "rangeCheck", "(III)V"⟩
abbrev cJ7_fill_fda19 : ByteArray := prog_24_method_104_code
def yJ7_fill_fda19 : MethodName := ⟨RJ7, "fill", "([IIII)V"⟩
abbrev cJ7_copyOf_9075b : ByteArray := prog_24_method_121_code
def yJ7_copyOf_9075b : MethodName := ⟨RJ7, "copyOf", "([BI)[B"⟩
abbrev cJ7_checkLength_df160 : ByteArray := prog_24_method_131_code
def yJ7_checkLength_df160 : MethodName := ⟨RJ7, "checkLength", "(II)V"⟩
abbrev cJ7_copyOfRange_39247 : ByteArray := prog_24_method_132_code
def yJ7_copyOfRange_39247 : MethodName := ⟨RJ7, "copyOfRange", "([BII)[B"⟩
abbrev cJ7_copyOfRangeByte_39247 : ByteArray := prog_24_method_133_code
def yJ7_copyOfRangeByte_39247 : MethodName := ⟨RJ7, "copyOfRangeByte", "([BII)[B"⟩
def RJ8 : String := "jdk/internal/util/ArraysSupport"
def TJ8 : u_T := fun k => match k with
  | _ => ("", "", "", false)
def tyJ8 : Nat → FieldType := fun k => match k with
  | _ => .int
abbrev wsJ80 : List Cond := u_ws RJ8 TJ8 0
theorem nmJ8 : ∀ a, a < 0 → ∀ b, b < 0 → a ≠ b → (TJ8 a).2.1 ≠ (TJ8 b).2.1 := by decide +kernel
theorem tyJ8_ok : ∀ k, k < 0 → parseFieldDescriptor (TJ8 k).2.2.1 = some (tyJ8 k) := by decide +kernel
abbrev cJ8_newLength_cabcc : ByteArray := prog_25_method_27_code
def yJ8_newLength_cabcc : MethodName := ⟨RJ8, "newLength", "(III)I"⟩
abbrev cJ8_hugeLength_7cf53 : ByteArray := prog_25_method_28_code
def yJ8_hugeLength_7cf53 : MethodName := ⟨RJ8, "hugeLength", "(II)I"⟩
def RJ3 : String := "jdk/internal/util/Preconditions"
def TJ3 : u_T := fun k => match k with
  | _ => ("", "", "", false)
def tyJ3 : Nat → FieldType := fun k => match k with
  | _ => .int
abbrev wsJ30 : List Cond := u_ws RJ3 TJ3 0
theorem nmJ3 : ∀ a, a < 0 → ∀ b, b < 0 → a ≠ b → (TJ3 a).2.1 ≠ (TJ3 b).2.1 := by decide +kernel
theorem tyJ3_ok : ∀ k, k < 0 → parseFieldDescriptor (TJ3 k).2.2.1 = some (tyJ3 k) := by decide +kernel
abbrev cJ3_checkFromToIndex_8c36e : ByteArray := prog_26_method_12_code
def yJ3_checkFromToIndex_8c36e : MethodName := ⟨RJ3, "checkFromToIndex", "(IIILjava/util/function/BiFunction;)I"⟩
abbrev cJ3_checkFromIndexSize_8c36e : ByteArray := prog_26_method_13_code
def yJ3_checkFromIndexSize_8c36e : MethodName := ⟨RJ3, "checkFromIndexSize", "(IIILjava/util/function/BiFunction;)I"⟩
def RL : String := "PairedTreesLaw"
abbrev cL_told : ByteArray := method_3_code
def yL_told : MethodName := ⟨RL, "told", "(LPairedTrees;II[J)I"⟩
abbrev cL_share : ByteArray := method_4_code
def yL_share : MethodName := ⟨RL, "share", "(LPairedTrees;I[J)I"⟩
abbrev cL_law : ByteArray := code
def yL_law : MethodName := ⟨RL, "law", "([I)Z"⟩
def wsX0_init : List Cond := .code yX0_init cX0_init 1 none :: ([.methodLink RX0 1 objectInit, .instanceMethod objectInit, .code objectInit ⟨#[0xb1]⟩ 1 none])
def wsX0_isBetter : List Cond := .code yX0_isBetter cX0_isBetter 12 (some .boolean) :: ([.fieldLink RX0 31 "PairedTrees$BestCut" "lower" "J", .fieldLink RX0 27 "PairedTrees$BestCut" "upper" "J", .fieldLink RX0 17 "PairedTrees$BestCut" "feature" "I", .fieldLink RX0 21 "PairedTrees$BestCut" "limit" "I", .fieldLink RX0 24 "PairedTrees$BestCut" "side" "I"] ++ wsX00)
def wsX0_offer : List Cond := .code yX0_offer cX0_offer 8 none :: ([.fieldLink RX0 7 "PairedTrees$BestCut" "isFound" "Z", .fieldLink RX0 17 "PairedTrees$BestCut" "feature" "I", .fieldLink RX0 21 "PairedTrees$BestCut" "limit" "I", .fieldLink RX0 24 "PairedTrees$BestCut" "side" "I", .fieldLink RX0 27 "PairedTrees$BestCut" "upper" "J", .fieldLink RX0 31 "PairedTrees$BestCut" "lower" "J", .methodLink RX0 13 yX0_isBetter, .instanceMethod yX0_isBetter, .selects RX0 yX0_isBetter yX0_isBetter, .initialized RX0, .code yX0_isBetter cX0_isBetter 12 (some .boolean)] ++ wsX00 ++ (vx_atN 8).filter goodWord)
def wsX1_init : List Cond := .code yX1_init cX1_init 1 none :: ([.methodLink RX1 3 objectInit, .instanceMethod objectInit, .code objectInit ⟨#[0xb1]⟩ 1 none, .arrayClass .int, .fieldLink RX1 9 "PairedTrees$Forest" "kinds" "[I", .fieldLink RX1 15 "PairedTrees$Forest" "features" "[I", .fieldLink RX1 18 "PairedTrees$Forest" "limits" "[I", .fieldLink RX1 21 "PairedTrees$Forest" "sides" "[I", .fieldLink RX1 24 "PairedTrees$Forest" "values" "[I", .fieldLink RX1 27 "PairedTrees$Forest" "held" "[I", .arrayClass .long, .fieldLink RX1 30 "PairedTrees$Forest" "uppers" "[J", .fieldLink RX1 34 "PairedTrees$Forest" "lowers" "[J"] ++ wsX10)
def wsX1_has : List Cond := .code yX1_has cX1_has 2 (some .boolean) :: ([.fieldLink RX1 37 "PairedTrees$Forest" "count" "I"] ++ wsX10)
def wsX1_find : List Cond := .code yX1_find cX1_find 4 (some .int) :: ([.fieldLink RX1 9 "PairedTrees$Forest" "kinds" "[I", .methodLink RX1 41 yX1_has, .instanceMethod yX1_has, .selects RX1 yX1_has yX1_has, .initialized RX1, .code yX1_has cX1_has 2 (some .boolean), .fieldLink RX1 37 "PairedTrees$Forest" "count" "I"] ++ wsX10 ++ (vx_atN 8).filter goodWord ++ (vx_atM "java/lang/ArrayIndexOutOfBoundsException" ["java/lang/IndexOutOfBoundsException", "java/lang/RuntimeException", "java/lang/Exception"]).filter goodWord)
def wsJ7_rangeCheck_23922 : List Cond := .code yJ7_rangeCheck_23922 cJ7_rangeCheck_23922 3 none :: ([.classLink RJ7 68 RJx00060, .instantiable RJx00060 6, .initialized RJx00060] ++ wsJx000600)
def wsJ7_fill_fda19 : List Cond := .code yJ7_fill_fda19 cJ7_fill_fda19 5 none :: ([.methodLink RJ7 13 yJ7_rangeCheck_23922, .static yJ7_rangeCheck_23922, .initialized RJ7, .code yJ7_rangeCheck_23922 cJ7_rangeCheck_23922 3 none, .classLink RJ7 68 RJx00060, .instantiable RJx00060 6, .initialized RJx00060] ++ wsJx000600)
def wsX1_addTree : List Cond := .code yX1_addTree cX1_addTree 2 (some .int) :: ([.fieldLink RX1 37 "PairedTrees$Forest" "count" "I", .fieldLink RX1 9 "PairedTrees$Forest" "kinds" "[I", .methodLink RX1 45 yJ7_fill_fda19, .static yJ7_fill_fda19, .initialized RJ7, .code yJ7_fill_fda19 cJ7_fill_fda19 5 none, .methodLink RJ7 13 yJ7_rangeCheck_23922, .static yJ7_rangeCheck_23922, .code yJ7_rangeCheck_23922 cJ7_rangeCheck_23922 3 none, .classLink RJ7 68 RJx00060, .instantiable RJx00060 6, .initialized RJx00060] ++ wsX10 ++ wsJx000600 ++ (vx_atN 8).filter goodWord)
def wsX1_commonDivisor : List Cond := .code yX1_commonDivisor cX1_commonDivisor 11 (some .long) :: ([] ++ (vx_atM "java/lang/ArithmeticException" ["java/lang/RuntimeException", "java/lang/Exception"]).filter goodWord)
def wsX1_setCut : List Cond := .code yX1_setCut cX1_setCut 6 none :: ([.fieldLink RX1 9 "PairedTrees$Forest" "kinds" "[I", .fieldLink RX1 27 "PairedTrees$Forest" "held" "[I", .fieldLink RX1 15 "PairedTrees$Forest" "features" "[I", .fieldLink RX1 51 "PairedTrees$BestCut" "feature" "I", .fieldLink RX1 18 "PairedTrees$Forest" "limits" "[I", .fieldLink RX1 56 "PairedTrees$BestCut" "limit" "I", .fieldLink RX1 21 "PairedTrees$Forest" "sides" "[I", .fieldLink RX1 59 "PairedTrees$BestCut" "side" "I", .fieldLink RX1 62 "PairedTrees$BestCut" "upper" "J", .fieldLink RX1 66 "PairedTrees$BestCut" "lower" "J", .fieldLink RX1 30 "PairedTrees$Forest" "uppers" "[J", .fieldLink RX1 34 "PairedTrees$Forest" "lowers" "[J", .methodLink RX1 69 yX1_commonDivisor, .static yX1_commonDivisor, .initialized RX1, .code yX1_commonDivisor cX1_commonDivisor 11 (some .long)] ++ wsX10 ++ wsX00 ++ (vx_atM "java/lang/ArrayIndexOutOfBoundsException" ["java/lang/IndexOutOfBoundsException", "java/lang/RuntimeException", "java/lang/Exception"]).filter goodWord ++ (vx_atN 8).filter goodWord ++ (vx_atM "java/lang/ArithmeticException" ["java/lang/RuntimeException", "java/lang/Exception"]).filter goodWord)
def wsX1_setLeaf : List Cond := .code yX1_setLeaf cX1_setLeaf 4 none :: ([.fieldLink RX1 9 "PairedTrees$Forest" "kinds" "[I", .fieldLink RX1 27 "PairedTrees$Forest" "held" "[I", .fieldLink RX1 24 "PairedTrees$Forest" "values" "[I"] ++ wsX10 ++ (vx_atM "java/lang/ArrayIndexOutOfBoundsException" ["java/lang/IndexOutOfBoundsException", "java/lang/RuntimeException", "java/lang/Exception"]).filter goodWord ++ (vx_atN 8).filter goodWord)
def wsX3_numberAt : List Cond := .code yX3_numberAt cX3_numberAt 3 (some .int) :: ([.fieldLink RX3 18 "PairedTrees$Things" "numbers" "[I"] ++ wsX30 ++ (vx_atM "java/lang/ArrayIndexOutOfBoundsException" ["java/lang/IndexOutOfBoundsException", "java/lang/RuntimeException", "java/lang/Exception"]).filter goodWord ++ (vx_atN 8).filter goodWord)
def wsX3_goesLeft : List Cond := .code yX3_goesLeft cX3_goesLeft 6 (some .boolean) :: ([.constant RX3 37 (-2147483648), .methodLink RX3 44 yX3_numberAt, .instanceMethod yX3_numberAt, .selects RX3 yX3_numberAt yX3_numberAt, .initialized RX3, .code yX3_numberAt cX3_numberAt 3 (some .int), .fieldLink RX3 18 "PairedTrees$Things" "numbers" "[I"] ++ wsX30 ++ (vx_atN 8).filter goodWord ++ (vx_atM "java/lang/ArrayIndexOutOfBoundsException" ["java/lang/IndexOutOfBoundsException", "java/lang/RuntimeException", "java/lang/Exception"]).filter goodWord)
def wsX1_valueFor : List Cond := .code yX1_valueFor cX1_valueFor 9 (some .int) :: ([.fieldLink RX1 9 "PairedTrees$Forest" "kinds" "[I", .fieldLink RX1 15 "PairedTrees$Forest" "features" "[I", .fieldLink RX1 18 "PairedTrees$Forest" "limits" "[I", .fieldLink RX1 21 "PairedTrees$Forest" "sides" "[I", .fieldLink RX1 24 "PairedTrees$Forest" "values" "[I", .methodLink RX1 73 yX3_goesLeft, .instanceMethod yX3_goesLeft, .selects RX3 yX3_goesLeft yX3_goesLeft, .initialized RX3, .code yX3_goesLeft cX3_goesLeft 6 (some .boolean), .constant RX3 37 (-2147483648), .methodLink RX3 44 yX3_numberAt, .instanceMethod yX3_numberAt, .selects RX3 yX3_numberAt yX3_numberAt, .code yX3_numberAt cX3_numberAt 3 (some .int), .fieldLink RX3 18 "PairedTrees$Things" "numbers" "[I"] ++ wsX10 ++ wsX30 ++ (vx_atM "java/lang/ArrayIndexOutOfBoundsException" ["java/lang/IndexOutOfBoundsException", "java/lang/RuntimeException", "java/lang/Exception"]).filter goodWord ++ (vx_atN 8).filter goodWord)
def wsX1_sumFor : List Cond := .code yX1_sumFor cX1_sumFor 6 (some .long) :: ([.fieldLink RX1 37 "PairedTrees$Forest" "count" "I", .methodLink RX1 79 yX1_valueFor, .instanceMethod yX1_valueFor, .selects RX1 yX1_valueFor yX1_valueFor, .initialized RX1, .code yX1_valueFor cX1_valueFor 9 (some .int), .fieldLink RX1 9 "PairedTrees$Forest" "kinds" "[I", .fieldLink RX1 15 "PairedTrees$Forest" "features" "[I", .fieldLink RX1 18 "PairedTrees$Forest" "limits" "[I", .fieldLink RX1 21 "PairedTrees$Forest" "sides" "[I", .fieldLink RX1 24 "PairedTrees$Forest" "values" "[I", .methodLink RX1 73 yX3_goesLeft, .instanceMethod yX3_goesLeft, .selects RX3 yX3_goesLeft yX3_goesLeft, .initialized RX3, .code yX3_goesLeft cX3_goesLeft 6 (some .boolean), .constant RX3 37 (-2147483648), .methodLink RX3 44 yX3_numberAt, .instanceMethod yX3_numberAt, .selects RX3 yX3_numberAt yX3_numberAt, .code yX3_numberAt cX3_numberAt 3 (some .int), .fieldLink RX3 18 "PairedTrees$Things" "numbers" "[I"] ++ wsX10 ++ wsX30 ++ (vx_atN 8).filter goodWord ++ (vx_atM "java/lang/ArrayIndexOutOfBoundsException" ["java/lang/IndexOutOfBoundsException", "java/lang/RuntimeException", "java/lang/Exception"]).filter goodWord)
def wsX1_countLeaves : List Cond := .code yX1_countLeaves cX1_countLeaves 5 (some .int) :: ([.fieldLink RX1 9 "PairedTrees$Forest" "kinds" "[I"] ++ wsX10 ++ (vx_atM "java/lang/ArrayIndexOutOfBoundsException" ["java/lang/IndexOutOfBoundsException", "java/lang/RuntimeException", "java/lang/Exception"]).filter goodWord ++ (vx_atN 8).filter goodWord)
def wsX1_countCutsBy : List Cond := .code yX1_countCutsBy cX1_countCutsBy 4 (some .int) :: ([.fieldLink RX1 37 "PairedTrees$Forest" "count" "I", .fieldLink RX1 9 "PairedTrees$Forest" "kinds" "[I", .fieldLink RX1 15 "PairedTrees$Forest" "features" "[I"] ++ wsX10 ++ (vx_atM "java/lang/ArrayIndexOutOfBoundsException" ["java/lang/IndexOutOfBoundsException", "java/lang/RuntimeException", "java/lang/Exception"]).filter goodWord ++ (vx_atN 8).filter goodWord)
def wsX2_init : List Cond := .code yX2_init cX2_init 1 none :: ([.methodLink RX2 3 objectInit, .instanceMethod objectInit, .code objectInit ⟨#[0xb1]⟩ 1 none, .arrayClass .int, .fieldLink RX2 9 "PairedTrees$Grower" "pushes" "[I", .fieldLink RX2 15 "PairedTrees$Grower" "places" "[I", .classLink RX2 18 RX0, .instantiable RX0 6, .initialized RX0, .fieldLink RX2 21 "PairedTrees$Grower" "best" "LPairedTrees$BestCut;", .instanceMethod yX0_init, .code yX0_init cX0_init 1 none, .methodLink RX0 1 objectInit] ++ wsX20 ++ wsX00)
def wsX3_arePair : List Cond := .code yX3_arePair cX3_arePair 3 (some .boolean) :: ([.fieldLink RX3 9 "PairedTrees$Things" "lists" "[I", .fieldLink RX3 15 "PairedTrees$Things" "grades" "[I"] ++ wsX30 ++ (vx_atM "java/lang/ArrayIndexOutOfBoundsException" ["java/lang/IndexOutOfBoundsException", "java/lang/RuntimeException", "java/lang/Exception"]).filter goodWord ++ (vx_atN 8).filter goodWord)
def wsX3_pushOfPair : List Cond := .code yX3_pushOfPair cX3_pushOfPair 4 (some .int) :: ([.fieldLink RX3 21 "PairedTrees$Things" "scores" "[J", .fieldLink RX3 15 "PairedTrees$Things" "grades" "[I", .methodLink RX3 58 yX3_arePair, .instanceMethod yX3_arePair, .selects RX3 yX3_arePair yX3_arePair, .initialized RX3, .code yX3_arePair cX3_arePair 3 (some .boolean), .fieldLink RX3 9 "PairedTrees$Things" "lists" "[I"] ++ wsX30 ++ (vx_atN 8).filter goodWord ++ (vx_atM "java/lang/ArrayIndexOutOfBoundsException" ["java/lang/IndexOutOfBoundsException", "java/lang/RuntimeException", "java/lang/Exception"]).filter goodWord)
def wsX3_pushOf : List Cond := .code yX3_pushOf cX3_pushOf 5 (some .int) :: ([.fieldLink RX3 25 "PairedTrees$Things" "count" "I", .methodLink RX3 54 yX3_pushOfPair, .instanceMethod yX3_pushOfPair, .selects RX3 yX3_pushOfPair yX3_pushOfPair, .initialized RX3, .code yX3_pushOfPair cX3_pushOfPair 4 (some .int), .fieldLink RX3 21 "PairedTrees$Things" "scores" "[J", .fieldLink RX3 15 "PairedTrees$Things" "grades" "[I", .methodLink RX3 58 yX3_arePair, .instanceMethod yX3_arePair, .selects RX3 yX3_arePair yX3_arePair, .code yX3_arePair cX3_arePair 3 (some .boolean), .fieldLink RX3 9 "PairedTrees$Things" "lists" "[I"] ++ wsX30 ++ (vx_atN 8).filter goodWord ++ (vx_atM "java/lang/ArrayIndexOutOfBoundsException" ["java/lang/IndexOutOfBoundsException", "java/lang/RuntimeException", "java/lang/Exception"]).filter goodWord)
def wsX2_gather : List Cond := .code yX2_gather cX2_gather 4 none :: ([.fieldLink RX2 39 "PairedTrees$Grower" "held" "I", .fieldLink RX2 46 "PairedTrees$Grower" "sum" "I", .fieldLink RX2 25 "PairedTrees$Things" "count" "I", .fieldLink RX2 15 "PairedTrees$Grower" "places" "[I", .fieldLink RX2 9 "PairedTrees$Grower" "pushes" "[I"] ++ wsX20 ++ wsX30 ++ (vx_atN 8).filter goodWord ++ (vx_atM "java/lang/ArrayIndexOutOfBoundsException" ["java/lang/IndexOutOfBoundsException", "java/lang/RuntimeException", "java/lang/Exception"]).filter goodWord)
def wsX2_depthOf : List Cond := .code yX2_depthOf cX2_depthOf 1 (some .int) :: ([])
def wsX2_tryCut_r1 : List Cond := [Cond.fieldLink RX2 25 "PairedTrees$Things" "count" "I", Cond.fieldLink RX2 15 "PairedTrees$Grower" "places" "[I", Cond.fieldLink RX2 9 "PairedTrees$Grower" "pushes" "[I", Cond.fieldLink RX2 39 "PairedTrees$Grower" "held" "I", Cond.fieldLink RX2 46 "PairedTrees$Grower" "sum" "I", Cond.fieldLink RX2 21 "PairedTrees$Grower" "best" "LPairedTrees$BestCut;", Cond.methodLink RX2 87 yX3_goesLeft, Cond.instanceMethod yX3_goesLeft, Cond.selects RX3 yX3_goesLeft yX3_goesLeft, Cond.initialized RX3, Cond.code yX3_goesLeft cX3_goesLeft 6 (some .boolean), Cond.constant RX3 37 (-2147483648), Cond.methodLink RX3 44 yX3_numberAt, Cond.instanceMethod yX3_numberAt, Cond.selects RX3 yX3_numberAt yX3_numberAt, Cond.code yX3_numberAt cX3_numberAt 3 (some .int), Cond.fieldLink RX3 18 "PairedTrees$Things" "numbers" "[I", Cond.methodLink RX2 91 yX0_offer, Cond.instanceMethod yX0_offer, Cond.selects RX0 yX0_offer yX0_offer, Cond.initialized RX0, Cond.code yX0_offer cX0_offer 8 none, Cond.fieldLink RX0 7 "PairedTrees$BestCut" "isFound" "Z", Cond.fieldLink RX0 17 "PairedTrees$BestCut" "feature" "I"]
def wsX2_tryCut_r2 : List Cond := [Cond.fieldLink RX0 21 "PairedTrees$BestCut" "limit" "I", Cond.fieldLink RX0 24 "PairedTrees$BestCut" "side" "I", Cond.fieldLink RX0 27 "PairedTrees$BestCut" "upper" "J", Cond.fieldLink RX0 31 "PairedTrees$BestCut" "lower" "J", Cond.methodLink RX0 13 yX0_isBetter, Cond.instanceMethod yX0_isBetter, Cond.selects RX0 yX0_isBetter yX0_isBetter, Cond.code yX0_isBetter cX0_isBetter 12 (some .boolean)]
def wsX2_tryCut : List Cond := .code yX2_tryCut cX2_tryCut 17 none :: ((wsX2_tryCut_r1 ++ wsX2_tryCut_r2) ++ wsX30 ++ wsX20 ++ wsX00 ++ (vx_atN 8).filter goodWord ++ (vx_atM "java/lang/ArrayIndexOutOfBoundsException" ["java/lang/IndexOutOfBoundsException", "java/lang/RuntimeException", "java/lang/Exception"]).filter goodWord)
def wsX2_seekCut_r1 : List Cond := [Cond.fieldLink RX2 25 "PairedTrees$Things" "count" "I", Cond.fieldLink RX2 15 "PairedTrees$Grower" "places" "[I", Cond.constant RX2 82 (-2147483648), Cond.methodLink RX2 79 yX3_numberAt, Cond.instanceMethod yX3_numberAt, Cond.selects RX3 yX3_numberAt yX3_numberAt, Cond.initialized RX3, Cond.code yX3_numberAt cX3_numberAt 3 (some .int), Cond.fieldLink RX3 18 "PairedTrees$Things" "numbers" "[I", Cond.methodLink RX2 83 yX2_tryCut, Cond.instanceMethod yX2_tryCut, Cond.selects RX2 yX2_tryCut yX2_tryCut, Cond.initialized RX2, Cond.code yX2_tryCut cX2_tryCut 17 none, Cond.fieldLink RX2 9 "PairedTrees$Grower" "pushes" "[I", Cond.fieldLink RX2 39 "PairedTrees$Grower" "held" "I", Cond.fieldLink RX2 46 "PairedTrees$Grower" "sum" "I", Cond.fieldLink RX2 21 "PairedTrees$Grower" "best" "LPairedTrees$BestCut;", Cond.methodLink RX2 87 yX3_goesLeft, Cond.instanceMethod yX3_goesLeft, Cond.selects RX3 yX3_goesLeft yX3_goesLeft, Cond.code yX3_goesLeft cX3_goesLeft 6 (some .boolean), Cond.constant RX3 37 (-2147483648), Cond.methodLink RX3 44 yX3_numberAt]
def wsX2_seekCut_r2 : List Cond := [Cond.methodLink RX2 91 yX0_offer, Cond.instanceMethod yX0_offer, Cond.selects RX0 yX0_offer yX0_offer, Cond.initialized RX0, Cond.code yX0_offer cX0_offer 8 none, Cond.fieldLink RX0 7 "PairedTrees$BestCut" "isFound" "Z", Cond.fieldLink RX0 17 "PairedTrees$BestCut" "feature" "I", Cond.fieldLink RX0 21 "PairedTrees$BestCut" "limit" "I", Cond.fieldLink RX0 24 "PairedTrees$BestCut" "side" "I", Cond.fieldLink RX0 27 "PairedTrees$BestCut" "upper" "J", Cond.fieldLink RX0 31 "PairedTrees$BestCut" "lower" "J", Cond.methodLink RX0 13 yX0_isBetter, Cond.instanceMethod yX0_isBetter, Cond.selects RX0 yX0_isBetter yX0_isBetter, Cond.code yX0_isBetter cX0_isBetter 12 (some .boolean)]
def wsX2_seekCut : List Cond := .code yX2_seekCut cX2_seekCut 8 none :: ((wsX2_seekCut_r1 ++ wsX2_seekCut_r2) ++ wsX30 ++ wsX20 ++ wsX00 ++ (vx_atN 8).filter goodWord ++ (vx_atM "java/lang/ArrayIndexOutOfBoundsException" ["java/lang/IndexOutOfBoundsException", "java/lang/RuntimeException", "java/lang/Exception"]).filter goodWord)
def wsX2_part : List Cond := .code yX2_part cX2_part 5 none :: ([.fieldLink RX2 25 "PairedTrees$Things" "count" "I", .fieldLink RX2 15 "PairedTrees$Grower" "places" "[I", .fieldLink RX2 21 "PairedTrees$Grower" "best" "LPairedTrees$BestCut;", .fieldLink RX2 95 "PairedTrees$BestCut" "feature" "I", .fieldLink RX2 98 "PairedTrees$BestCut" "limit" "I", .fieldLink RX2 101 "PairedTrees$BestCut" "side" "I", .methodLink RX2 87 yX3_goesLeft, .instanceMethod yX3_goesLeft, .selects RX3 yX3_goesLeft yX3_goesLeft, .initialized RX3, .code yX3_goesLeft cX3_goesLeft 6 (some .boolean), .constant RX3 37 (-2147483648), .methodLink RX3 44 yX3_numberAt, .instanceMethod yX3_numberAt, .selects RX3 yX3_numberAt yX3_numberAt, .code yX3_numberAt cX3_numberAt 3 (some .int), .fieldLink RX3 18 "PairedTrees$Things" "numbers" "[I"] ++ wsX30 ++ wsX20 ++ wsX00 ++ (vx_atN 8).filter goodWord ++ (vx_atM "java/lang/ArrayIndexOutOfBoundsException" ["java/lang/IndexOutOfBoundsException", "java/lang/RuntimeException", "java/lang/Exception"]).filter goodWord)
def wsJ9_floorDiv_7cf53 : List Cond := .code yJ9_floorDiv_7cf53 cJ9_floorDiv_7cf53 3 (some .int) :: ([])
def wsX2_growNode_r1 : List Cond := [Cond.fieldLink RX2 21 "PairedTrees$Grower" "best" "LPairedTrees$BestCut;", Cond.fieldLink RX2 49 "PairedTrees$BestCut" "isFound" "Z", Cond.fieldLink RX2 39 "PairedTrees$Grower" "held" "I", Cond.fieldLink RX2 46 "PairedTrees$Grower" "sum" "I", Cond.methodLink RX2 53 yX2_depthOf, Cond.static yX2_depthOf, Cond.initialized RX2, Cond.code yX2_depthOf cX2_depthOf 1 (some .int), Cond.methodLink RX2 57 yX2_seekCut, Cond.instanceMethod yX2_seekCut, Cond.selects RX2 yX2_seekCut yX2_seekCut, Cond.code yX2_seekCut cX2_seekCut 8 none, Cond.fieldLink RX2 25 "PairedTrees$Things" "count" "I", Cond.fieldLink RX2 15 "PairedTrees$Grower" "places" "[I", Cond.constant RX2 82 (-2147483648), Cond.methodLink RX2 79 yX3_numberAt, Cond.instanceMethod yX3_numberAt, Cond.selects RX3 yX3_numberAt yX3_numberAt, Cond.initialized RX3, Cond.code yX3_numberAt cX3_numberAt 3 (some .int), Cond.fieldLink RX3 18 "PairedTrees$Things" "numbers" "[I", Cond.methodLink RX2 83 yX2_tryCut, Cond.instanceMethod yX2_tryCut, Cond.selects RX2 yX2_tryCut yX2_tryCut]
def wsX2_growNode_r2 : List Cond := [Cond.code yX2_tryCut cX2_tryCut 17 none, Cond.fieldLink RX2 9 "PairedTrees$Grower" "pushes" "[I", Cond.methodLink RX2 87 yX3_goesLeft, Cond.instanceMethod yX3_goesLeft, Cond.selects RX3 yX3_goesLeft yX3_goesLeft, Cond.code yX3_goesLeft cX3_goesLeft 6 (some .boolean), Cond.constant RX3 37 (-2147483648), Cond.methodLink RX3 44 yX3_numberAt, Cond.methodLink RX2 91 yX0_offer, Cond.instanceMethod yX0_offer, Cond.selects RX0 yX0_offer yX0_offer, Cond.initialized RX0, Cond.code yX0_offer cX0_offer 8 none, Cond.fieldLink RX0 7 "PairedTrees$BestCut" "isFound" "Z", Cond.fieldLink RX0 17 "PairedTrees$BestCut" "feature" "I", Cond.fieldLink RX0 21 "PairedTrees$BestCut" "limit" "I", Cond.fieldLink RX0 24 "PairedTrees$BestCut" "side" "I", Cond.fieldLink RX0 27 "PairedTrees$BestCut" "upper" "J", Cond.fieldLink RX0 31 "PairedTrees$BestCut" "lower" "J", Cond.methodLink RX0 13 yX0_isBetter, Cond.instanceMethod yX0_isBetter, Cond.selects RX0 yX0_isBetter yX0_isBetter, Cond.code yX0_isBetter cX0_isBetter 12 (some .boolean), Cond.methodLink RX2 61 yX1_setCut]
def wsX2_growNode_r3 : List Cond := [Cond.instanceMethod yX1_setCut, Cond.selects RX1 yX1_setCut yX1_setCut, Cond.initialized RX1, Cond.code yX1_setCut cX1_setCut 6 none, Cond.fieldLink RX1 9 "PairedTrees$Forest" "kinds" "[I", Cond.fieldLink RX1 27 "PairedTrees$Forest" "held" "[I", Cond.fieldLink RX1 15 "PairedTrees$Forest" "features" "[I", Cond.fieldLink RX1 51 "PairedTrees$BestCut" "feature" "I", Cond.fieldLink RX1 18 "PairedTrees$Forest" "limits" "[I", Cond.fieldLink RX1 56 "PairedTrees$BestCut" "limit" "I", Cond.fieldLink RX1 21 "PairedTrees$Forest" "sides" "[I", Cond.fieldLink RX1 59 "PairedTrees$BestCut" "side" "I", Cond.fieldLink RX1 62 "PairedTrees$BestCut" "upper" "J", Cond.fieldLink RX1 66 "PairedTrees$BestCut" "lower" "J", Cond.fieldLink RX1 30 "PairedTrees$Forest" "uppers" "[J", Cond.fieldLink RX1 34 "PairedTrees$Forest" "lowers" "[J", Cond.methodLink RX1 69 yX1_commonDivisor, Cond.static yX1_commonDivisor, Cond.code yX1_commonDivisor cX1_commonDivisor 11 (some .long), Cond.methodLink RX2 67 yX2_part, Cond.instanceMethod yX2_part, Cond.selects RX2 yX2_part yX2_part, Cond.code yX2_part cX2_part 5 none, Cond.fieldLink RX2 95 "PairedTrees$BestCut" "feature" "I"]
def wsX2_growNode_r4 : List Cond := [Cond.fieldLink RX2 98 "PairedTrees$BestCut" "limit" "I", Cond.fieldLink RX2 101 "PairedTrees$BestCut" "side" "I", Cond.methodLink RX2 70 yJ9_floorDiv_7cf53, Cond.static yJ9_floorDiv_7cf53, Cond.initialized RJ9, Cond.code yJ9_floorDiv_7cf53 cJ9_floorDiv_7cf53 3 (some .int), Cond.methodLink RX2 75 yX1_setLeaf, Cond.instanceMethod yX1_setLeaf, Cond.selects RX1 yX1_setLeaf yX1_setLeaf, Cond.code yX1_setLeaf cX1_setLeaf 4 none, Cond.fieldLink RX1 24 "PairedTrees$Forest" "values" "[I"]
def wsX2_growNode : List Cond := .code yX2_growNode cX2_growNode 7 none :: ((wsX2_growNode_r1 ++ (wsX2_growNode_r2 ++ (wsX2_growNode_r3 ++ wsX2_growNode_r4))) ++ wsX20 ++ wsX00 ++ wsX30 ++ wsX10 ++ (vx_atN 8).filter goodWord ++ (vx_atM "java/lang/ArrayIndexOutOfBoundsException" ["java/lang/IndexOutOfBoundsException", "java/lang/RuntimeException", "java/lang/Exception"]).filter goodWord ++ (vx_atM "java/lang/ArithmeticException" ["java/lang/RuntimeException", "java/lang/Exception"]).filter goodWord)
def wsX2_growTree_r1 : List Cond := [Cond.fieldLink RX2 25 "PairedTrees$Things" "count" "I", Cond.fieldLink RX2 9 "PairedTrees$Grower" "pushes" "[I", Cond.fieldLink RX2 15 "PairedTrees$Grower" "places" "[I", Cond.fieldLink RX2 39 "PairedTrees$Grower" "held" "I", Cond.methodLink RX2 31 yX3_pushOf, Cond.instanceMethod yX3_pushOf, Cond.selects RX3 yX3_pushOf yX3_pushOf, Cond.initialized RX3, Cond.code yX3_pushOf cX3_pushOf 5 (some .int), Cond.fieldLink RX3 25 "PairedTrees$Things" "count" "I", Cond.methodLink RX3 54 yX3_pushOfPair, Cond.instanceMethod yX3_pushOfPair, Cond.selects RX3 yX3_pushOfPair yX3_pushOfPair, Cond.code yX3_pushOfPair cX3_pushOfPair 4 (some .int), Cond.fieldLink RX3 21 "PairedTrees$Things" "scores" "[J", Cond.fieldLink RX3 15 "PairedTrees$Things" "grades" "[I", Cond.methodLink RX3 58 yX3_arePair, Cond.instanceMethod yX3_arePair, Cond.selects RX3 yX3_arePair yX3_arePair, Cond.code yX3_arePair cX3_arePair 3 (some .boolean), Cond.fieldLink RX3 9 "PairedTrees$Things" "lists" "[I", Cond.methodLink RX2 35 yX2_gather, Cond.instanceMethod yX2_gather, Cond.selects RX2 yX2_gather yX2_gather]
def wsX2_growTree_r2 : List Cond := [Cond.initialized RX2, Cond.code yX2_gather cX2_gather 4 none, Cond.fieldLink RX2 46 "PairedTrees$Grower" "sum" "I", Cond.methodLink RX2 42 yX2_growNode, Cond.instanceMethod yX2_growNode, Cond.selects RX2 yX2_growNode yX2_growNode, Cond.code yX2_growNode cX2_growNode 7 none, Cond.fieldLink RX2 21 "PairedTrees$Grower" "best" "LPairedTrees$BestCut;", Cond.fieldLink RX2 49 "PairedTrees$BestCut" "isFound" "Z", Cond.methodLink RX2 53 yX2_depthOf, Cond.static yX2_depthOf, Cond.code yX2_depthOf cX2_depthOf 1 (some .int), Cond.methodLink RX2 57 yX2_seekCut, Cond.instanceMethod yX2_seekCut, Cond.selects RX2 yX2_seekCut yX2_seekCut, Cond.code yX2_seekCut cX2_seekCut 8 none, Cond.constant RX2 82 (-2147483648), Cond.methodLink RX2 79 yX3_numberAt, Cond.instanceMethod yX3_numberAt, Cond.selects RX3 yX3_numberAt yX3_numberAt, Cond.code yX3_numberAt cX3_numberAt 3 (some .int), Cond.fieldLink RX3 18 "PairedTrees$Things" "numbers" "[I", Cond.methodLink RX2 83 yX2_tryCut, Cond.instanceMethod yX2_tryCut]
def wsX2_growTree_r3 : List Cond := [Cond.selects RX2 yX2_tryCut yX2_tryCut, Cond.code yX2_tryCut cX2_tryCut 17 none, Cond.methodLink RX2 87 yX3_goesLeft, Cond.instanceMethod yX3_goesLeft, Cond.selects RX3 yX3_goesLeft yX3_goesLeft, Cond.code yX3_goesLeft cX3_goesLeft 6 (some .boolean), Cond.constant RX3 37 (-2147483648), Cond.methodLink RX3 44 yX3_numberAt, Cond.methodLink RX2 91 yX0_offer, Cond.instanceMethod yX0_offer, Cond.selects RX0 yX0_offer yX0_offer, Cond.initialized RX0, Cond.code yX0_offer cX0_offer 8 none, Cond.fieldLink RX0 7 "PairedTrees$BestCut" "isFound" "Z", Cond.fieldLink RX0 17 "PairedTrees$BestCut" "feature" "I", Cond.fieldLink RX0 21 "PairedTrees$BestCut" "limit" "I", Cond.fieldLink RX0 24 "PairedTrees$BestCut" "side" "I", Cond.fieldLink RX0 27 "PairedTrees$BestCut" "upper" "J", Cond.fieldLink RX0 31 "PairedTrees$BestCut" "lower" "J", Cond.methodLink RX0 13 yX0_isBetter, Cond.instanceMethod yX0_isBetter, Cond.selects RX0 yX0_isBetter yX0_isBetter, Cond.code yX0_isBetter cX0_isBetter 12 (some .boolean), Cond.methodLink RX2 61 yX1_setCut]
def wsX2_growTree_r4 : List Cond := [Cond.instanceMethod yX1_setCut, Cond.selects RX1 yX1_setCut yX1_setCut, Cond.initialized RX1, Cond.code yX1_setCut cX1_setCut 6 none, Cond.fieldLink RX1 9 "PairedTrees$Forest" "kinds" "[I", Cond.fieldLink RX1 27 "PairedTrees$Forest" "held" "[I", Cond.fieldLink RX1 15 "PairedTrees$Forest" "features" "[I", Cond.fieldLink RX1 51 "PairedTrees$BestCut" "feature" "I", Cond.fieldLink RX1 18 "PairedTrees$Forest" "limits" "[I", Cond.fieldLink RX1 56 "PairedTrees$BestCut" "limit" "I", Cond.fieldLink RX1 21 "PairedTrees$Forest" "sides" "[I", Cond.fieldLink RX1 59 "PairedTrees$BestCut" "side" "I", Cond.fieldLink RX1 62 "PairedTrees$BestCut" "upper" "J", Cond.fieldLink RX1 66 "PairedTrees$BestCut" "lower" "J", Cond.fieldLink RX1 30 "PairedTrees$Forest" "uppers" "[J", Cond.fieldLink RX1 34 "PairedTrees$Forest" "lowers" "[J", Cond.methodLink RX1 69 yX1_commonDivisor, Cond.static yX1_commonDivisor, Cond.code yX1_commonDivisor cX1_commonDivisor 11 (some .long), Cond.methodLink RX2 67 yX2_part, Cond.instanceMethod yX2_part, Cond.selects RX2 yX2_part yX2_part, Cond.code yX2_part cX2_part 5 none, Cond.fieldLink RX2 95 "PairedTrees$BestCut" "feature" "I"]
def wsX2_growTree_r5 : List Cond := [Cond.fieldLink RX2 98 "PairedTrees$BestCut" "limit" "I", Cond.fieldLink RX2 101 "PairedTrees$BestCut" "side" "I", Cond.methodLink RX2 70 yJ9_floorDiv_7cf53, Cond.static yJ9_floorDiv_7cf53, Cond.initialized RJ9, Cond.code yJ9_floorDiv_7cf53 cJ9_floorDiv_7cf53 3 (some .int), Cond.methodLink RX2 75 yX1_setLeaf, Cond.instanceMethod yX1_setLeaf, Cond.selects RX1 yX1_setLeaf yX1_setLeaf, Cond.code yX1_setLeaf cX1_setLeaf 4 none, Cond.fieldLink RX1 24 "PairedTrees$Forest" "values" "[I"]
def wsX2_growTree : List Cond := .code yX2_growTree cX2_growTree 6 none :: ((wsX2_growTree_r1 ++ (wsX2_growTree_r2 ++ (wsX2_growTree_r3 ++ (wsX2_growTree_r4 ++ wsX2_growTree_r5)))) ++ wsX30 ++ wsX20 ++ wsX00 ++ wsX10 ++ (vx_atN 8).filter goodWord ++ (vx_atM "java/lang/ArrayIndexOutOfBoundsException" ["java/lang/IndexOutOfBoundsException", "java/lang/RuntimeException", "java/lang/Exception"]).filter goodWord ++ (vx_atM "java/lang/ArithmeticException" ["java/lang/RuntimeException", "java/lang/Exception"]).filter goodWord)
def wsX3_init : List Cond := .code yX3_init cX3_init 1 none :: ([.methodLink RX3 3 objectInit, .instanceMethod objectInit, .code objectInit ⟨#[0xb1]⟩ 1 none, .arrayClass .int, .fieldLink RX3 9 "PairedTrees$Things" "lists" "[I", .fieldLink RX3 15 "PairedTrees$Things" "grades" "[I", .fieldLink RX3 18 "PairedTrees$Things" "numbers" "[I", .arrayClass .long, .fieldLink RX3 21 "PairedTrees$Things" "scores" "[J"] ++ wsX30)
def wsX3_has : List Cond := .code yX3_has cX3_has 2 (some .boolean) :: ([.fieldLink RX3 25 "PairedTrees$Things" "count" "I"] ++ wsX30)
def wsX3_rowOf : List Cond := .code yX3_rowOf cX3_rowOf 2 (some .int) :: ([.methodLink RX3 29 yX3_has, .instanceMethod yX3_has, .selects RX3 yX3_has yX3_has, .initialized RX3, .code yX3_has cX3_has 2 (some .boolean), .fieldLink RX3 25 "PairedTrees$Things" "count" "I"] ++ wsX30 ++ (vx_atN 8).filter goodWord)
def wsX3_forgetRow : List Cond := .code yX3_forgetRow cX3_forgetRow 2 none :: ([.fieldLink RX3 18 "PairedTrees$Things" "numbers" "[I", .constant RX3 37 (-2147483648), .methodLink RX3 38 yJ7_fill_fda19, .static yJ7_fill_fda19, .initialized RJ7, .code yJ7_fill_fda19 cJ7_fill_fda19 5 none, .methodLink RJ7 13 yJ7_rangeCheck_23922, .static yJ7_rangeCheck_23922, .code yJ7_rangeCheck_23922 cJ7_rangeCheck_23922 3 none, .classLink RJ7 68 RJx00060, .instantiable RJx00060 6, .initialized RJx00060] ++ wsX30 ++ wsJx000600)
def wsX3_take : List Cond := .code yX3_take cX3_take 4 (some .int) :: ([.fieldLink RX3 25 "PairedTrees$Things" "count" "I", .fieldLink RX3 9 "PairedTrees$Things" "lists" "[I", .fieldLink RX3 15 "PairedTrees$Things" "grades" "[I", .methodLink RX3 33 yX3_forgetRow, .instanceMethod yX3_forgetRow, .selects RX3 yX3_forgetRow yX3_forgetRow, .initialized RX3, .code yX3_forgetRow cX3_forgetRow 2 none, .fieldLink RX3 18 "PairedTrees$Things" "numbers" "[I", .constant RX3 37 (-2147483648), .methodLink RX3 38 yJ7_fill_fda19, .static yJ7_fill_fda19, .initialized RJ7, .code yJ7_fill_fda19 cJ7_fill_fda19 5 none, .methodLink RJ7 13 yJ7_rangeCheck_23922, .static yJ7_rangeCheck_23922, .code yJ7_rangeCheck_23922 cJ7_rangeCheck_23922 3 none, .classLink RJ7 68 RJx00060, .instantiable RJx00060 6, .initialized RJx00060] ++ wsX30 ++ wsJx000600 ++ (vx_atM "java/lang/ArrayIndexOutOfBoundsException" ["java/lang/IndexOutOfBoundsException", "java/lang/RuntimeException", "java/lang/Exception"]).filter goodWord ++ (vx_atN 8).filter goodWord)
def wsX3_replace : List Cond := .code yX3_replace cX3_replace 5 (some .int) :: ([.fieldLink RX3 18 "PairedTrees$Things" "numbers" "[I"] ++ wsX30 ++ (vx_atM "java/lang/ArrayIndexOutOfBoundsException" ["java/lang/IndexOutOfBoundsException", "java/lang/RuntimeException", "java/lang/Exception"]).filter goodWord ++ (vx_atN 8).filter goodWord)
def wsX3_takeScores_r1 : List Cond := [Cond.fieldLink RX3 25 "PairedTrees$Things" "count" "I", Cond.fieldLink RX3 21 "PairedTrees$Things" "scores" "[J", Cond.methodLink RX3 48 yX1_sumFor, Cond.instanceMethod yX1_sumFor, Cond.selects RX1 yX1_sumFor yX1_sumFor, Cond.initialized RX1, Cond.code yX1_sumFor cX1_sumFor 6 (some .long), Cond.fieldLink RX1 37 "PairedTrees$Forest" "count" "I", Cond.methodLink RX1 79 yX1_valueFor, Cond.instanceMethod yX1_valueFor, Cond.selects RX1 yX1_valueFor yX1_valueFor, Cond.code yX1_valueFor cX1_valueFor 9 (some .int), Cond.fieldLink RX1 9 "PairedTrees$Forest" "kinds" "[I", Cond.fieldLink RX1 15 "PairedTrees$Forest" "features" "[I", Cond.fieldLink RX1 18 "PairedTrees$Forest" "limits" "[I", Cond.fieldLink RX1 21 "PairedTrees$Forest" "sides" "[I", Cond.fieldLink RX1 24 "PairedTrees$Forest" "values" "[I", Cond.methodLink RX1 73 yX3_goesLeft, Cond.instanceMethod yX3_goesLeft, Cond.selects RX3 yX3_goesLeft yX3_goesLeft, Cond.initialized RX3, Cond.code yX3_goesLeft cX3_goesLeft 6 (some .boolean), Cond.constant RX3 37 (-2147483648), Cond.methodLink RX3 44 yX3_numberAt]
def wsX3_takeScores_r2 : List Cond := [Cond.instanceMethod yX3_numberAt, Cond.selects RX3 yX3_numberAt yX3_numberAt, Cond.code yX3_numberAt cX3_numberAt 3 (some .int), Cond.fieldLink RX3 18 "PairedTrees$Things" "numbers" "[I"]
def wsX3_takeScores : List Cond := .code yX3_takeScores cX3_takeScores 3 none :: ((wsX3_takeScores_r1 ++ wsX3_takeScores_r2) ++ wsX30 ++ wsX10 ++ (vx_atN 8).filter goodWord ++ (vx_atM "java/lang/ArrayIndexOutOfBoundsException" ["java/lang/IndexOutOfBoundsException", "java/lang/RuntimeException", "java/lang/Exception"]).filter goodWord)
def wsX3_isAhead : List Cond := .code yX3_isAhead cX3_isAhead 3 (some .boolean) :: ([.fieldLink RX3 21 "PairedTrees$Things" "scores" "[J"] ++ wsX30 ++ (vx_atM "java/lang/ArrayIndexOutOfBoundsException" ["java/lang/IndexOutOfBoundsException", "java/lang/RuntimeException", "java/lang/Exception"]).filter goodWord ++ (vx_atN 8).filter goodWord)
def wsX3_countAhead : List Cond := .code yX3_countAhead cX3_countAhead 4 (some .int) :: ([.fieldLink RX3 25 "PairedTrees$Things" "count" "I", .fieldLink RX3 9 "PairedTrees$Things" "lists" "[I", .methodLink RX3 62 yX3_isAhead, .instanceMethod yX3_isAhead, .selects RX3 yX3_isAhead yX3_isAhead, .initialized RX3, .code yX3_isAhead cX3_isAhead 3 (some .boolean), .fieldLink RX3 21 "PairedTrees$Things" "scores" "[J"] ++ wsX30 ++ (vx_atM "java/lang/ArrayIndexOutOfBoundsException" ["java/lang/IndexOutOfBoundsException", "java/lang/RuntimeException", "java/lang/Exception"]).filter goodWord ++ (vx_atN 8).filter goodWord)
def wsX3_countPairs : List Cond := .code yX3_countPairs cX3_countPairs 8 (some .int) :: ([.fieldLink RX3 25 "PairedTrees$Things" "count" "I", .fieldLink RX3 9 "PairedTrees$Things" "lists" "[I", .fieldLink RX3 21 "PairedTrees$Things" "scores" "[J", .methodLink RX3 58 yX3_arePair, .instanceMethod yX3_arePair, .selects RX3 yX3_arePair yX3_arePair, .initialized RX3, .code yX3_arePair cX3_arePair 3 (some .boolean), .fieldLink RX3 15 "PairedTrees$Things" "grades" "[I"] ++ wsX30 ++ (vx_atM "java/lang/ArrayIndexOutOfBoundsException" ["java/lang/IndexOutOfBoundsException", "java/lang/RuntimeException", "java/lang/Exception"]).filter goodWord ++ (vx_atN 8).filter goodWord)
def wsX4_startAnew_r1 : List Cond := [Cond.fieldLink RX4 14 "PairedTrees" "things" "LPairedTrees$Things;", Cond.fieldLink RX4 46 "PairedTrees$Things" "count" "I", Cond.fieldLink RX4 21 "PairedTrees" "forest" "LPairedTrees$Forest;", Cond.fieldLink RX4 97 "PairedTrees$Forest" "count" "I", Cond.fieldLink RX4 182 "PairedTrees" "FIRST_SETTING" "[I", Cond.fieldLink RX4 32 "PairedTrees" "settings" "[I", Cond.methodLink RX4 185 arraycopyName, Cond.native arraycopyName, Cond.static arraycopyName, Cond.initialized "java/lang/System", Cond.methodLink RX4 178 yX3_forgetRow, Cond.instanceMethod yX3_forgetRow, Cond.selects RX3 yX3_forgetRow yX3_forgetRow, Cond.initialized RX3, Cond.code yX3_forgetRow cX3_forgetRow 2 none, Cond.fieldLink RX3 18 "PairedTrees$Things" "numbers" "[I", Cond.constant RX3 37 (-2147483648), Cond.methodLink RX3 38 yJ7_fill_fda19, Cond.static yJ7_fill_fda19, Cond.initialized RJ7, Cond.code yJ7_fill_fda19 cJ7_fill_fda19 5 none, Cond.methodLink RJ7 13 yJ7_rangeCheck_23922, Cond.static yJ7_rangeCheck_23922, Cond.code yJ7_rangeCheck_23922 cJ7_rangeCheck_23922 3 none]
def wsX4_startAnew_r2 : List Cond := [Cond.classLink RJ7 68 RJx00060, Cond.instantiable RJx00060 6, Cond.initialized RJx00060]
def wsX4_startAnew : List Cond := .code yX4_startAnew cX4_startAnew 1 none :: ((wsX4_startAnew_r1 ++ wsX4_startAnew_r2) ++ wsX40 ++ wsX30 ++ wsX10 ++ wsJx000600 ++ (vx_atN 8).filter goodWord)
def wsX4_init_r1 : List Cond := [Cond.methodLink RX4 5 objectInit, Cond.instanceMethod objectInit, Cond.code objectInit ⟨#[0xb1]⟩ 1 none, Cond.classLink RX4 11 RX3, Cond.instantiable RX3 5, Cond.initialized RX3, Cond.fieldLink RX4 14 "PairedTrees" "things" "LPairedTrees$Things;", Cond.classLink RX4 18 RX1, Cond.instantiable RX1 9, Cond.initialized RX1, Cond.fieldLink RX4 21 "PairedTrees" "forest" "LPairedTrees$Forest;", Cond.classLink RX4 25 RX2, Cond.instantiable RX2 5, Cond.initialized RX2, Cond.fieldLink RX4 28 "PairedTrees" "grower" "LPairedTrees$Grower;", Cond.arrayClass .int, Cond.fieldLink RX4 32 "PairedTrees" "settings" "[I", Cond.instanceMethod yX3_init, Cond.code yX3_init cX3_init 1 none, Cond.methodLink RX3 3 objectInit, Cond.fieldLink RX3 9 "PairedTrees$Things" "lists" "[I", Cond.fieldLink RX3 15 "PairedTrees$Things" "grades" "[I", Cond.fieldLink RX3 18 "PairedTrees$Things" "numbers" "[I", Cond.arrayClass .long]
def wsX4_init_r2 : List Cond := [Cond.fieldLink RX3 21 "PairedTrees$Things" "scores" "[J", Cond.instanceMethod yX1_init, Cond.code yX1_init cX1_init 1 none, Cond.methodLink RX1 3 objectInit, Cond.fieldLink RX1 9 "PairedTrees$Forest" "kinds" "[I", Cond.fieldLink RX1 15 "PairedTrees$Forest" "features" "[I", Cond.fieldLink RX1 18 "PairedTrees$Forest" "limits" "[I", Cond.fieldLink RX1 21 "PairedTrees$Forest" "sides" "[I", Cond.fieldLink RX1 24 "PairedTrees$Forest" "values" "[I", Cond.fieldLink RX1 27 "PairedTrees$Forest" "held" "[I", Cond.fieldLink RX1 30 "PairedTrees$Forest" "uppers" "[J", Cond.fieldLink RX1 34 "PairedTrees$Forest" "lowers" "[J", Cond.instanceMethod yX2_init, Cond.code yX2_init cX2_init 1 none, Cond.methodLink RX2 3 objectInit, Cond.fieldLink RX2 9 "PairedTrees$Grower" "pushes" "[I", Cond.fieldLink RX2 15 "PairedTrees$Grower" "places" "[I", Cond.classLink RX2 18 RX0, Cond.instantiable RX0 6, Cond.initialized RX0, Cond.fieldLink RX2 21 "PairedTrees$Grower" "best" "LPairedTrees$BestCut;", Cond.instanceMethod yX0_init, Cond.code yX0_init cX0_init 1 none, Cond.methodLink RX0 1 objectInit]
def wsX4_init_r3 : List Cond := [Cond.methodLink RX4 36 yX4_startAnew, Cond.instanceMethod yX4_startAnew, Cond.selects RX4 yX4_startAnew yX4_startAnew, Cond.initialized RX4, Cond.code yX4_startAnew cX4_startAnew 1 none, Cond.fieldLink RX4 46 "PairedTrees$Things" "count" "I", Cond.fieldLink RX4 97 "PairedTrees$Forest" "count" "I", Cond.fieldLink RX4 182 "PairedTrees" "FIRST_SETTING" "[I", Cond.methodLink RX4 185 arraycopyName, Cond.native arraycopyName, Cond.static arraycopyName, Cond.initialized "java/lang/System", Cond.methodLink RX4 178 yX3_forgetRow, Cond.instanceMethod yX3_forgetRow, Cond.selects RX3 yX3_forgetRow yX3_forgetRow, Cond.code yX3_forgetRow cX3_forgetRow 2 none, Cond.constant RX3 37 (-2147483648), Cond.methodLink RX3 38 yJ7_fill_fda19, Cond.static yJ7_fill_fda19, Cond.initialized RJ7, Cond.code yJ7_fill_fda19 cJ7_fill_fda19 5 none, Cond.methodLink RJ7 13 yJ7_rangeCheck_23922, Cond.static yJ7_rangeCheck_23922, Cond.code yJ7_rangeCheck_23922 cJ7_rangeCheck_23922 3 none]
def wsX4_init_r4 : List Cond := [Cond.classLink RJ7 68 RJx00060, Cond.instantiable RJx00060 6, Cond.initialized RJx00060]
def wsX4_init : List Cond := .code yX4_init cX4_init 1 none :: ((wsX4_init_r1 ++ (wsX4_init_r2 ++ (wsX4_init_r3 ++ wsX4_init_r4))) ++ wsX30 ++ wsX40 ++ wsX10 ++ wsX20 ++ wsX00 ++ wsJx000600 ++ (vx_atN 8).filter goodWord)
def wsX4_isList : List Cond := .code yX4_isList cX4_isList 1 (some .boolean) :: ([])
def wsX4_isGrade : List Cond := .code yX4_isGrade cX4_isGrade 1 (some .boolean) :: ([])
def wsX4_thing_r1 : List Cond := [Cond.fieldLink RX4 14 "PairedTrees" "things" "LPairedTrees$Things;", Cond.fieldLink RX4 46 "PairedTrees$Things" "count" "I", Cond.methodLink RX4 39 yX4_isList, Cond.static yX4_isList, Cond.initialized RX4, Cond.code yX4_isList cX4_isList 1 (some .boolean), Cond.methodLink RX4 43 yX4_isGrade, Cond.static yX4_isGrade, Cond.code yX4_isGrade cX4_isGrade 1 (some .boolean), Cond.methodLink RX4 50 yX3_take, Cond.instanceMethod yX3_take, Cond.selects RX3 yX3_take yX3_take, Cond.initialized RX3, Cond.code yX3_take cX3_take 4 (some .int), Cond.fieldLink RX3 25 "PairedTrees$Things" "count" "I", Cond.fieldLink RX3 9 "PairedTrees$Things" "lists" "[I", Cond.fieldLink RX3 15 "PairedTrees$Things" "grades" "[I", Cond.methodLink RX3 33 yX3_forgetRow, Cond.instanceMethod yX3_forgetRow, Cond.selects RX3 yX3_forgetRow yX3_forgetRow, Cond.code yX3_forgetRow cX3_forgetRow 2 none, Cond.fieldLink RX3 18 "PairedTrees$Things" "numbers" "[I", Cond.constant RX3 37 (-2147483648), Cond.methodLink RX3 38 yJ7_fill_fda19]
def wsX4_thing_r2 : List Cond := [Cond.static yJ7_fill_fda19, Cond.initialized RJ7, Cond.code yJ7_fill_fda19 cJ7_fill_fda19 5 none, Cond.methodLink RJ7 13 yJ7_rangeCheck_23922, Cond.static yJ7_rangeCheck_23922, Cond.code yJ7_rangeCheck_23922 cJ7_rangeCheck_23922 3 none, Cond.classLink RJ7 68 RJx00060, Cond.instantiable RJx00060 6, Cond.initialized RJx00060]
def wsX4_thing : List Cond := .code yX4_thing cX4_thing 3 (some .int) :: ((wsX4_thing_r1 ++ wsX4_thing_r2) ++ wsX40 ++ wsX30 ++ wsJx000600 ++ (vx_atN 8).filter goodWord ++ (vx_atM "java/lang/ArrayIndexOutOfBoundsException" ["java/lang/IndexOutOfBoundsException", "java/lang/RuntimeException", "java/lang/Exception"]).filter goodWord)
def wsX4_grade : List Cond := .code yX4_grade cX4_grade 4 (some .int) :: ([.fieldLink RX4 14 "PairedTrees" "things" "LPairedTrees$Things;", .fieldLink RX4 57 "PairedTrees$Things" "grades" "[I", .methodLink RX4 54 yX3_has, .instanceMethod yX3_has, .selects RX3 yX3_has yX3_has, .initialized RX3, .code yX3_has cX3_has 2 (some .boolean), .fieldLink RX3 25 "PairedTrees$Things" "count" "I", .methodLink RX4 43 yX4_isGrade, .static yX4_isGrade, .initialized RX4, .code yX4_isGrade cX4_isGrade 1 (some .boolean)] ++ wsX40 ++ wsX30 ++ (vx_atN 8).filter goodWord ++ (vx_atM "java/lang/ArrayIndexOutOfBoundsException" ["java/lang/IndexOutOfBoundsException", "java/lang/RuntimeException", "java/lang/Exception"]).filter goodWord)
def wsX4_isFeature : List Cond := .code yX4_isFeature cX4_isFeature 1 (some .boolean) :: ([])
def wsX4_feature : List Cond := .code yX4_feature cX4_feature 5 (some .int) :: ([.fieldLink RX4 14 "PairedTrees" "things" "LPairedTrees$Things;", .constant RX4 71 (-2147483648), .methodLink RX4 60 yX3_rowOf, .instanceMethod yX3_rowOf, .selects RX3 yX3_rowOf yX3_rowOf, .initialized RX3, .code yX3_rowOf cX3_rowOf 2 (some .int), .methodLink RX3 29 yX3_has, .instanceMethod yX3_has, .selects RX3 yX3_has yX3_has, .code yX3_has cX3_has 2 (some .boolean), .fieldLink RX3 25 "PairedTrees$Things" "count" "I", .methodLink RX4 64 yX4_isFeature, .static yX4_isFeature, .initialized RX4, .code yX4_isFeature cX4_isFeature 1 (some .boolean), .methodLink RX4 67 yX3_replace, .instanceMethod yX3_replace, .selects RX3 yX3_replace yX3_replace, .code yX3_replace cX3_replace 5 (some .int), .fieldLink RX3 18 "PairedTrees$Things" "numbers" "[I"] ++ wsX40 ++ wsX30 ++ (vx_atN 8).filter goodWord ++ (vx_atM "java/lang/ArrayIndexOutOfBoundsException" ["java/lang/IndexOutOfBoundsException", "java/lang/RuntimeException", "java/lang/Exception"]).filter goodWord)
def wsX4_miss : List Cond := .code yX4_miss cX4_miss 4 (some .int) :: ([.fieldLink RX4 14 "PairedTrees" "things" "LPairedTrees$Things;", .constant RX4 71 (-2147483648), .methodLink RX4 60 yX3_rowOf, .instanceMethod yX3_rowOf, .selects RX3 yX3_rowOf yX3_rowOf, .initialized RX3, .code yX3_rowOf cX3_rowOf 2 (some .int), .methodLink RX3 29 yX3_has, .instanceMethod yX3_has, .selects RX3 yX3_has yX3_has, .code yX3_has cX3_has 2 (some .boolean), .fieldLink RX3 25 "PairedTrees$Things" "count" "I", .methodLink RX4 64 yX4_isFeature, .static yX4_isFeature, .initialized RX4, .code yX4_isFeature cX4_isFeature 1 (some .boolean), .methodLink RX4 67 yX3_replace, .instanceMethod yX3_replace, .selects RX3 yX3_replace yX3_replace, .code yX3_replace cX3_replace 5 (some .int), .fieldLink RX3 18 "PairedTrees$Things" "numbers" "[I"] ++ wsX40 ++ wsX30 ++ (vx_atN 8).filter goodWord ++ (vx_atM "java/lang/ArrayIndexOutOfBoundsException" ["java/lang/IndexOutOfBoundsException", "java/lang/RuntimeException", "java/lang/Exception"]).filter goodWord)
def wsX4_told : List Cond := .code yX4_told cX4_told 4 (some .int) :: ([.classLink RX4 72 RJx00060, .instantiable RJx00060 6, .initialized RJx00060, .fieldLink RX4 14 "PairedTrees" "things" "LPairedTrees$Things;", .classLink RX4 79 RJx5d777, .instantiable RJx5d777 8, .initialized RJx5d777, .constant RX4 71 (-2147483648), .methodLink RX4 54 yX3_has, .instanceMethod yX3_has, .selects RX3 yX3_has yX3_has, .initialized RX3, .code yX3_has cX3_has 2 (some .boolean), .fieldLink RX3 25 "PairedTrees$Things" "count" "I", .methodLink RX4 64 yX4_isFeature, .static yX4_isFeature, .initialized RX4, .code yX4_isFeature cX4_isFeature 1 (some .boolean), .methodLink RX4 86 yX3_numberAt, .instanceMethod yX3_numberAt, .selects RX3 yX3_numberAt yX3_numberAt, .code yX3_numberAt cX3_numberAt 3 (some .int), .fieldLink RX3 18 "PairedTrees$Things" "numbers" "[I"] ++ wsJx000600 ++ wsX40 ++ wsJx5d7770 ++ wsX30 ++ (vx_atN 8).filter goodWord ++ (vx_atM "java/lang/ArrayIndexOutOfBoundsException" ["java/lang/IndexOutOfBoundsException", "java/lang/RuntimeException", "java/lang/Exception"]).filter goodWord)
def wsX4_setting : List Cond := .code yX4_setting cX4_setting 4 (some .int) :: ([.fieldLink RX4 91 "PairedTrees" "LOWEST_SETTING" "[I", .fieldLink RX4 94 "PairedTrees" "HIGHEST_SETTING" "[I", .fieldLink RX4 32 "PairedTrees" "settings" "[I"] ++ wsX40 ++ (vx_atM "java/lang/ArrayIndexOutOfBoundsException" ["java/lang/IndexOutOfBoundsException", "java/lang/RuntimeException", "java/lang/Exception"]).filter goodWord ++ (vx_atN 8).filter goodWord)
def wsX4_grow_r1 : List Cond := [Cond.fieldLink RX4 21 "PairedTrees" "forest" "LPairedTrees$Forest;", Cond.fieldLink RX4 97 "PairedTrees$Forest" "count" "I", Cond.fieldLink RX4 14 "PairedTrees" "things" "LPairedTrees$Things;", Cond.fieldLink RX4 46 "PairedTrees$Things" "count" "I", Cond.fieldLink RX4 28 "PairedTrees" "grower" "LPairedTrees$Grower;", Cond.fieldLink RX4 32 "PairedTrees" "settings" "[I", Cond.methodLink RX4 98 yX3_takeScores, Cond.instanceMethod yX3_takeScores, Cond.selects RX3 yX3_takeScores yX3_takeScores, Cond.initialized RX3, Cond.code yX3_takeScores cX3_takeScores 3 none, Cond.fieldLink RX3 25 "PairedTrees$Things" "count" "I", Cond.fieldLink RX3 21 "PairedTrees$Things" "scores" "[J", Cond.methodLink RX3 48 yX1_sumFor, Cond.instanceMethod yX1_sumFor, Cond.selects RX1 yX1_sumFor yX1_sumFor, Cond.initialized RX1, Cond.code yX1_sumFor cX1_sumFor 6 (some .long), Cond.fieldLink RX1 37 "PairedTrees$Forest" "count" "I", Cond.methodLink RX1 79 yX1_valueFor, Cond.instanceMethod yX1_valueFor, Cond.selects RX1 yX1_valueFor yX1_valueFor, Cond.code yX1_valueFor cX1_valueFor 9 (some .int), Cond.fieldLink RX1 9 "PairedTrees$Forest" "kinds" "[I"]
def wsX4_grow_r2 : List Cond := [Cond.fieldLink RX1 15 "PairedTrees$Forest" "features" "[I", Cond.fieldLink RX1 18 "PairedTrees$Forest" "limits" "[I", Cond.fieldLink RX1 21 "PairedTrees$Forest" "sides" "[I", Cond.fieldLink RX1 24 "PairedTrees$Forest" "values" "[I", Cond.methodLink RX1 73 yX3_goesLeft, Cond.instanceMethod yX3_goesLeft, Cond.selects RX3 yX3_goesLeft yX3_goesLeft, Cond.code yX3_goesLeft cX3_goesLeft 6 (some .boolean), Cond.constant RX3 37 (-2147483648), Cond.methodLink RX3 44 yX3_numberAt, Cond.instanceMethod yX3_numberAt, Cond.selects RX3 yX3_numberAt yX3_numberAt, Cond.code yX3_numberAt cX3_numberAt 3 (some .int), Cond.fieldLink RX3 18 "PairedTrees$Things" "numbers" "[I", Cond.methodLink RX4 102 yX1_addTree, Cond.instanceMethod yX1_addTree, Cond.selects RX1 yX1_addTree yX1_addTree, Cond.code yX1_addTree cX1_addTree 2 (some .int), Cond.methodLink RX1 45 yJ7_fill_fda19, Cond.static yJ7_fill_fda19, Cond.initialized RJ7, Cond.code yJ7_fill_fda19 cJ7_fill_fda19 5 none, Cond.methodLink RJ7 13 yJ7_rangeCheck_23922, Cond.static yJ7_rangeCheck_23922]
def wsX4_grow_r3 : List Cond := [Cond.code yJ7_rangeCheck_23922 cJ7_rangeCheck_23922 3 none, Cond.classLink RJ7 68 RJx00060, Cond.instantiable RJx00060 6, Cond.initialized RJx00060, Cond.methodLink RX4 106 yX2_growTree, Cond.instanceMethod yX2_growTree, Cond.selects RX2 yX2_growTree yX2_growTree, Cond.initialized RX2, Cond.code yX2_growTree cX2_growTree 6 none, Cond.fieldLink RX2 25 "PairedTrees$Things" "count" "I", Cond.fieldLink RX2 9 "PairedTrees$Grower" "pushes" "[I", Cond.fieldLink RX2 15 "PairedTrees$Grower" "places" "[I", Cond.fieldLink RX2 39 "PairedTrees$Grower" "held" "I", Cond.methodLink RX2 31 yX3_pushOf, Cond.instanceMethod yX3_pushOf, Cond.selects RX3 yX3_pushOf yX3_pushOf, Cond.code yX3_pushOf cX3_pushOf 5 (some .int), Cond.methodLink RX3 54 yX3_pushOfPair, Cond.instanceMethod yX3_pushOfPair, Cond.selects RX3 yX3_pushOfPair yX3_pushOfPair, Cond.code yX3_pushOfPair cX3_pushOfPair 4 (some .int), Cond.fieldLink RX3 15 "PairedTrees$Things" "grades" "[I", Cond.methodLink RX3 58 yX3_arePair, Cond.instanceMethod yX3_arePair]
def wsX4_grow_r4 : List Cond := [Cond.selects RX3 yX3_arePair yX3_arePair, Cond.code yX3_arePair cX3_arePair 3 (some .boolean), Cond.fieldLink RX3 9 "PairedTrees$Things" "lists" "[I", Cond.methodLink RX2 35 yX2_gather, Cond.instanceMethod yX2_gather, Cond.selects RX2 yX2_gather yX2_gather, Cond.code yX2_gather cX2_gather 4 none, Cond.fieldLink RX2 46 "PairedTrees$Grower" "sum" "I", Cond.methodLink RX2 42 yX2_growNode, Cond.instanceMethod yX2_growNode, Cond.selects RX2 yX2_growNode yX2_growNode, Cond.code yX2_growNode cX2_growNode 7 none, Cond.fieldLink RX2 21 "PairedTrees$Grower" "best" "LPairedTrees$BestCut;", Cond.fieldLink RX2 49 "PairedTrees$BestCut" "isFound" "Z", Cond.methodLink RX2 53 yX2_depthOf, Cond.static yX2_depthOf, Cond.code yX2_depthOf cX2_depthOf 1 (some .int), Cond.methodLink RX2 57 yX2_seekCut, Cond.instanceMethod yX2_seekCut, Cond.selects RX2 yX2_seekCut yX2_seekCut, Cond.code yX2_seekCut cX2_seekCut 8 none, Cond.constant RX2 82 (-2147483648), Cond.methodLink RX2 79 yX3_numberAt, Cond.methodLink RX2 83 yX2_tryCut]
def wsX4_grow_r5 : List Cond := [Cond.instanceMethod yX2_tryCut, Cond.selects RX2 yX2_tryCut yX2_tryCut, Cond.code yX2_tryCut cX2_tryCut 17 none, Cond.methodLink RX2 87 yX3_goesLeft, Cond.methodLink RX2 91 yX0_offer, Cond.instanceMethod yX0_offer, Cond.selects RX0 yX0_offer yX0_offer, Cond.initialized RX0, Cond.code yX0_offer cX0_offer 8 none, Cond.fieldLink RX0 7 "PairedTrees$BestCut" "isFound" "Z", Cond.fieldLink RX0 17 "PairedTrees$BestCut" "feature" "I", Cond.fieldLink RX0 21 "PairedTrees$BestCut" "limit" "I", Cond.fieldLink RX0 24 "PairedTrees$BestCut" "side" "I", Cond.fieldLink RX0 27 "PairedTrees$BestCut" "upper" "J", Cond.fieldLink RX0 31 "PairedTrees$BestCut" "lower" "J", Cond.methodLink RX0 13 yX0_isBetter, Cond.instanceMethod yX0_isBetter, Cond.selects RX0 yX0_isBetter yX0_isBetter, Cond.code yX0_isBetter cX0_isBetter 12 (some .boolean), Cond.methodLink RX2 61 yX1_setCut, Cond.instanceMethod yX1_setCut, Cond.selects RX1 yX1_setCut yX1_setCut, Cond.code yX1_setCut cX1_setCut 6 none, Cond.fieldLink RX1 27 "PairedTrees$Forest" "held" "[I"]
def wsX4_grow_r6 : List Cond := [Cond.fieldLink RX1 51 "PairedTrees$BestCut" "feature" "I", Cond.fieldLink RX1 56 "PairedTrees$BestCut" "limit" "I", Cond.fieldLink RX1 59 "PairedTrees$BestCut" "side" "I", Cond.fieldLink RX1 62 "PairedTrees$BestCut" "upper" "J", Cond.fieldLink RX1 66 "PairedTrees$BestCut" "lower" "J", Cond.fieldLink RX1 30 "PairedTrees$Forest" "uppers" "[J", Cond.fieldLink RX1 34 "PairedTrees$Forest" "lowers" "[J", Cond.methodLink RX1 69 yX1_commonDivisor, Cond.static yX1_commonDivisor, Cond.code yX1_commonDivisor cX1_commonDivisor 11 (some .long), Cond.methodLink RX2 67 yX2_part, Cond.instanceMethod yX2_part, Cond.selects RX2 yX2_part yX2_part, Cond.code yX2_part cX2_part 5 none, Cond.fieldLink RX2 95 "PairedTrees$BestCut" "feature" "I", Cond.fieldLink RX2 98 "PairedTrees$BestCut" "limit" "I", Cond.fieldLink RX2 101 "PairedTrees$BestCut" "side" "I", Cond.methodLink RX2 70 yJ9_floorDiv_7cf53, Cond.static yJ9_floorDiv_7cf53, Cond.initialized RJ9, Cond.code yJ9_floorDiv_7cf53 cJ9_floorDiv_7cf53 3 (some .int), Cond.methodLink RX2 75 yX1_setLeaf, Cond.instanceMethod yX1_setLeaf, Cond.selects RX1 yX1_setLeaf yX1_setLeaf]
def wsX4_grow_r7 : List Cond := [Cond.code yX1_setLeaf cX1_setLeaf 4 none, Cond.methodLink RX4 110 yX1_countLeaves, Cond.instanceMethod yX1_countLeaves, Cond.selects RX1 yX1_countLeaves yX1_countLeaves, Cond.code yX1_countLeaves cX1_countLeaves 5 (some .int)]
def wsX4_grow : List Cond := .code yX4_grow cX4_grow 2 (some .int) :: ((wsX4_grow_r1 ++ (wsX4_grow_r2 ++ (wsX4_grow_r3 ++ (wsX4_grow_r4 ++ (wsX4_grow_r5 ++ (wsX4_grow_r6 ++ wsX4_grow_r7)))))) ++ wsX40 ++ wsX10 ++ wsX30 ++ wsJx000600 ++ wsX20 ++ wsX00 ++ (vx_atN 8).filter goodWord ++ (vx_atM "java/lang/ArrayIndexOutOfBoundsException" ["java/lang/IndexOutOfBoundsException", "java/lang/RuntimeException", "java/lang/Exception"]).filter goodWord ++ (vx_atM "java/lang/ArithmeticException" ["java/lang/RuntimeException", "java/lang/Exception"]).filter goodWord)
def wsX4_cut : List Cond := .code yX4_cut cX4_cut 1 (some .int) :: ([.fieldLink RX4 21 "PairedTrees" "forest" "LPairedTrees$Forest;", .fieldLink RX4 97 "PairedTrees$Forest" "count" "I"] ++ wsX40 ++ wsX10 ++ (vx_atN 8).filter goodWord)
def wsX4_node : List Cond := .code yX4_node cX4_node 6 (some .int) :: ([.fieldLink RX4 21 "PairedTrees" "forest" "LPairedTrees$Forest;", .fieldLink RX4 116 "PairedTrees$Forest" "kinds" "[I", .fieldLink RX4 119 "PairedTrees$Forest" "features" "[I", .fieldLink RX4 122 "PairedTrees$Forest" "limits" "[I", .fieldLink RX4 125 "PairedTrees$Forest" "sides" "[I", .fieldLink RX4 128 "PairedTrees$Forest" "values" "[I", .fieldLink RX4 131 "PairedTrees$Forest" "held" "[I", .methodLink RX4 113 yX1_find, .instanceMethod yX1_find, .selects RX1 yX1_find yX1_find, .initialized RX1, .code yX1_find cX1_find 4 (some .int), .fieldLink RX1 9 "PairedTrees$Forest" "kinds" "[I", .methodLink RX1 41 yX1_has, .instanceMethod yX1_has, .selects RX1 yX1_has yX1_has, .code yX1_has cX1_has 2 (some .boolean), .fieldLink RX1 37 "PairedTrees$Forest" "count" "I"] ++ wsX40 ++ wsX10 ++ (vx_atN 8).filter goodWord ++ (vx_atM "java/lang/ArrayIndexOutOfBoundsException" ["java/lang/IndexOutOfBoundsException", "java/lang/RuntimeException", "java/lang/Exception"]).filter goodWord)
def wsX4_gain : List Cond := .code yX4_gain cX4_gain 5 (some .long) :: ([.fieldLink RX4 21 "PairedTrees" "forest" "LPairedTrees$Forest;", .fieldLink RX4 116 "PairedTrees$Forest" "kinds" "[I", .constantLong RX4 134 (-10001), .fieldLink RX4 136 "PairedTrees$Forest" "uppers" "[J", .fieldLink RX4 140 "PairedTrees$Forest" "lowers" "[J", .constantLong RX4 143 (-10002), .methodLink RX4 113 yX1_find, .instanceMethod yX1_find, .selects RX1 yX1_find yX1_find, .initialized RX1, .code yX1_find cX1_find 4 (some .int), .fieldLink RX1 9 "PairedTrees$Forest" "kinds" "[I", .methodLink RX1 41 yX1_has, .instanceMethod yX1_has, .selects RX1 yX1_has yX1_has, .code yX1_has cX1_has 2 (some .boolean), .fieldLink RX1 37 "PairedTrees$Forest" "count" "I"] ++ wsX40 ++ wsX10 ++ (vx_atN 8).filter goodWord ++ (vx_atM "java/lang/ArrayIndexOutOfBoundsException" ["java/lang/IndexOutOfBoundsException", "java/lang/RuntimeException", "java/lang/Exception"]).filter goodWord)
def wsX4_score_r1 : List Cond := [Cond.fieldLink RX4 14 "PairedTrees" "things" "LPairedTrees$Things;", Cond.constantLong RX4 134 (-10001), Cond.fieldLink RX4 21 "PairedTrees" "forest" "LPairedTrees$Forest;", Cond.methodLink RX4 60 yX3_rowOf, Cond.instanceMethod yX3_rowOf, Cond.selects RX3 yX3_rowOf yX3_rowOf, Cond.initialized RX3, Cond.code yX3_rowOf cX3_rowOf 2 (some .int), Cond.methodLink RX3 29 yX3_has, Cond.instanceMethod yX3_has, Cond.selects RX3 yX3_has yX3_has, Cond.code yX3_has cX3_has 2 (some .boolean), Cond.fieldLink RX3 25 "PairedTrees$Things" "count" "I", Cond.methodLink RX4 145 yX1_sumFor, Cond.instanceMethod yX1_sumFor, Cond.selects RX1 yX1_sumFor yX1_sumFor, Cond.initialized RX1, Cond.code yX1_sumFor cX1_sumFor 6 (some .long), Cond.fieldLink RX1 37 "PairedTrees$Forest" "count" "I", Cond.methodLink RX1 79 yX1_valueFor, Cond.instanceMethod yX1_valueFor, Cond.selects RX1 yX1_valueFor yX1_valueFor, Cond.code yX1_valueFor cX1_valueFor 9 (some .int), Cond.fieldLink RX1 9 "PairedTrees$Forest" "kinds" "[I"]
def wsX4_score_r2 : List Cond := [Cond.fieldLink RX1 15 "PairedTrees$Forest" "features" "[I", Cond.fieldLink RX1 18 "PairedTrees$Forest" "limits" "[I", Cond.fieldLink RX1 21 "PairedTrees$Forest" "sides" "[I", Cond.fieldLink RX1 24 "PairedTrees$Forest" "values" "[I", Cond.methodLink RX1 73 yX3_goesLeft, Cond.instanceMethod yX3_goesLeft, Cond.selects RX3 yX3_goesLeft yX3_goesLeft, Cond.code yX3_goesLeft cX3_goesLeft 6 (some .boolean), Cond.constant RX3 37 (-2147483648), Cond.methodLink RX3 44 yX3_numberAt, Cond.instanceMethod yX3_numberAt, Cond.selects RX3 yX3_numberAt yX3_numberAt, Cond.code yX3_numberAt cX3_numberAt 3 (some .int), Cond.fieldLink RX3 18 "PairedTrees$Things" "numbers" "[I"]
def wsX4_score : List Cond := .code yX4_score cX4_score 3 (some .long) :: ((wsX4_score_r1 ++ wsX4_score_r2) ++ wsX40 ++ wsX30 ++ wsX10 ++ (vx_atN 8).filter goodWord ++ (vx_atM "java/lang/ArrayIndexOutOfBoundsException" ["java/lang/IndexOutOfBoundsException", "java/lang/RuntimeException", "java/lang/Exception"]).filter goodWord)
def wsX4_value_r1 : List Cond := [Cond.fieldLink RX4 14 "PairedTrees" "things" "LPairedTrees$Things;", Cond.fieldLink RX4 21 "PairedTrees" "forest" "LPairedTrees$Forest;", Cond.methodLink RX4 60 yX3_rowOf, Cond.instanceMethod yX3_rowOf, Cond.selects RX3 yX3_rowOf yX3_rowOf, Cond.initialized RX3, Cond.code yX3_rowOf cX3_rowOf 2 (some .int), Cond.methodLink RX3 29 yX3_has, Cond.instanceMethod yX3_has, Cond.selects RX3 yX3_has yX3_has, Cond.code yX3_has cX3_has 2 (some .boolean), Cond.fieldLink RX3 25 "PairedTrees$Things" "count" "I", Cond.methodLink RX4 149 yX1_has, Cond.instanceMethod yX1_has, Cond.selects RX1 yX1_has yX1_has, Cond.initialized RX1, Cond.code yX1_has cX1_has 2 (some .boolean), Cond.fieldLink RX1 37 "PairedTrees$Forest" "count" "I", Cond.methodLink RX4 150 yX1_valueFor, Cond.instanceMethod yX1_valueFor, Cond.selects RX1 yX1_valueFor yX1_valueFor, Cond.code yX1_valueFor cX1_valueFor 9 (some .int), Cond.fieldLink RX1 9 "PairedTrees$Forest" "kinds" "[I", Cond.fieldLink RX1 15 "PairedTrees$Forest" "features" "[I"]
def wsX4_value_r2 : List Cond := [Cond.fieldLink RX1 18 "PairedTrees$Forest" "limits" "[I", Cond.fieldLink RX1 21 "PairedTrees$Forest" "sides" "[I", Cond.fieldLink RX1 24 "PairedTrees$Forest" "values" "[I", Cond.methodLink RX1 73 yX3_goesLeft, Cond.instanceMethod yX3_goesLeft, Cond.selects RX3 yX3_goesLeft yX3_goesLeft, Cond.code yX3_goesLeft cX3_goesLeft 6 (some .boolean), Cond.constant RX3 37 (-2147483648), Cond.methodLink RX3 44 yX3_numberAt, Cond.instanceMethod yX3_numberAt, Cond.selects RX3 yX3_numberAt yX3_numberAt, Cond.code yX3_numberAt cX3_numberAt 3 (some .int), Cond.fieldLink RX3 18 "PairedTrees$Things" "numbers" "[I"]
def wsX4_value : List Cond := .code yX4_value cX4_value 4 (some .int) :: ((wsX4_value_r1 ++ wsX4_value_r2) ++ wsX40 ++ wsX30 ++ wsX10 ++ (vx_atN 8).filter goodWord ++ (vx_atM "java/lang/ArrayIndexOutOfBoundsException" ["java/lang/IndexOutOfBoundsException", "java/lang/RuntimeException", "java/lang/Exception"]).filter goodWord)
def wsX4_push_r1 : List Cond := [Cond.fieldLink RX4 14 "PairedTrees" "things" "LPairedTrees$Things;", Cond.fieldLink RX4 21 "PairedTrees" "forest" "LPairedTrees$Forest;", Cond.fieldLink RX4 32 "PairedTrees" "settings" "[I", Cond.methodLink RX4 54 yX3_has, Cond.instanceMethod yX3_has, Cond.selects RX3 yX3_has yX3_has, Cond.initialized RX3, Cond.code yX3_has cX3_has 2 (some .boolean), Cond.fieldLink RX3 25 "PairedTrees$Things" "count" "I", Cond.methodLink RX4 98 yX3_takeScores, Cond.instanceMethod yX3_takeScores, Cond.selects RX3 yX3_takeScores yX3_takeScores, Cond.code yX3_takeScores cX3_takeScores 3 none, Cond.fieldLink RX3 21 "PairedTrees$Things" "scores" "[J", Cond.methodLink RX3 48 yX1_sumFor, Cond.instanceMethod yX1_sumFor, Cond.selects RX1 yX1_sumFor yX1_sumFor, Cond.initialized RX1, Cond.code yX1_sumFor cX1_sumFor 6 (some .long), Cond.fieldLink RX1 37 "PairedTrees$Forest" "count" "I", Cond.methodLink RX1 79 yX1_valueFor, Cond.instanceMethod yX1_valueFor, Cond.selects RX1 yX1_valueFor yX1_valueFor, Cond.code yX1_valueFor cX1_valueFor 9 (some .int)]
def wsX4_push_r2 : List Cond := [Cond.fieldLink RX1 9 "PairedTrees$Forest" "kinds" "[I", Cond.fieldLink RX1 15 "PairedTrees$Forest" "features" "[I", Cond.fieldLink RX1 18 "PairedTrees$Forest" "limits" "[I", Cond.fieldLink RX1 21 "PairedTrees$Forest" "sides" "[I", Cond.fieldLink RX1 24 "PairedTrees$Forest" "values" "[I", Cond.methodLink RX1 73 yX3_goesLeft, Cond.instanceMethod yX3_goesLeft, Cond.selects RX3 yX3_goesLeft yX3_goesLeft, Cond.code yX3_goesLeft cX3_goesLeft 6 (some .boolean), Cond.constant RX3 37 (-2147483648), Cond.methodLink RX3 44 yX3_numberAt, Cond.instanceMethod yX3_numberAt, Cond.selects RX3 yX3_numberAt yX3_numberAt, Cond.code yX3_numberAt cX3_numberAt 3 (some .int), Cond.fieldLink RX3 18 "PairedTrees$Things" "numbers" "[I", Cond.methodLink RX4 154 yX3_pushOf, Cond.instanceMethod yX3_pushOf, Cond.selects RX3 yX3_pushOf yX3_pushOf, Cond.code yX3_pushOf cX3_pushOf 5 (some .int), Cond.methodLink RX3 54 yX3_pushOfPair, Cond.instanceMethod yX3_pushOfPair, Cond.selects RX3 yX3_pushOfPair yX3_pushOfPair, Cond.code yX3_pushOfPair cX3_pushOfPair 4 (some .int), Cond.fieldLink RX3 15 "PairedTrees$Things" "grades" "[I"]
def wsX4_push_r3 : List Cond := [Cond.methodLink RX3 58 yX3_arePair, Cond.instanceMethod yX3_arePair, Cond.selects RX3 yX3_arePair yX3_arePair, Cond.code yX3_arePair cX3_arePair 3 (some .boolean), Cond.fieldLink RX3 9 "PairedTrees$Things" "lists" "[I"]
def wsX4_push : List Cond := .code yX4_push cX4_push 2 (some .int) :: ((wsX4_push_r1 ++ (wsX4_push_r2 ++ wsX4_push_r3)) ++ wsX40 ++ wsX30 ++ wsX10 ++ (vx_atN 8).filter goodWord ++ (vx_atM "java/lang/ArrayIndexOutOfBoundsException" ["java/lang/IndexOutOfBoundsException", "java/lang/RuntimeException", "java/lang/Exception"]).filter goodWord)
def wsX4_ranked_r1 : List Cond := [Cond.fieldLink RX4 14 "PairedTrees" "things" "LPairedTrees$Things;", Cond.fieldLink RX4 21 "PairedTrees" "forest" "LPairedTrees$Forest;", Cond.fieldLink RX4 46 "PairedTrees$Things" "count" "I", Cond.fieldLink RX4 157 "PairedTrees$Things" "lists" "[I", Cond.methodLink RX4 39 yX4_isList, Cond.static yX4_isList, Cond.initialized RX4, Cond.code yX4_isList cX4_isList 1 (some .boolean), Cond.methodLink RX4 98 yX3_takeScores, Cond.instanceMethod yX3_takeScores, Cond.selects RX3 yX3_takeScores yX3_takeScores, Cond.initialized RX3, Cond.code yX3_takeScores cX3_takeScores 3 none, Cond.fieldLink RX3 25 "PairedTrees$Things" "count" "I", Cond.fieldLink RX3 21 "PairedTrees$Things" "scores" "[J", Cond.methodLink RX3 48 yX1_sumFor, Cond.instanceMethod yX1_sumFor, Cond.selects RX1 yX1_sumFor yX1_sumFor, Cond.initialized RX1, Cond.code yX1_sumFor cX1_sumFor 6 (some .long), Cond.fieldLink RX1 37 "PairedTrees$Forest" "count" "I", Cond.methodLink RX1 79 yX1_valueFor, Cond.instanceMethod yX1_valueFor, Cond.selects RX1 yX1_valueFor yX1_valueFor]
def wsX4_ranked_r2 : List Cond := [Cond.code yX1_valueFor cX1_valueFor 9 (some .int), Cond.fieldLink RX1 9 "PairedTrees$Forest" "kinds" "[I", Cond.fieldLink RX1 15 "PairedTrees$Forest" "features" "[I", Cond.fieldLink RX1 18 "PairedTrees$Forest" "limits" "[I", Cond.fieldLink RX1 21 "PairedTrees$Forest" "sides" "[I", Cond.fieldLink RX1 24 "PairedTrees$Forest" "values" "[I", Cond.methodLink RX1 73 yX3_goesLeft, Cond.instanceMethod yX3_goesLeft, Cond.selects RX3 yX3_goesLeft yX3_goesLeft, Cond.code yX3_goesLeft cX3_goesLeft 6 (some .boolean), Cond.constant RX3 37 (-2147483648), Cond.methodLink RX3 44 yX3_numberAt, Cond.instanceMethod yX3_numberAt, Cond.selects RX3 yX3_numberAt yX3_numberAt, Cond.code yX3_numberAt cX3_numberAt 3 (some .int), Cond.fieldLink RX3 18 "PairedTrees$Things" "numbers" "[I", Cond.methodLink RX4 160 yX3_countAhead, Cond.instanceMethod yX3_countAhead, Cond.selects RX3 yX3_countAhead yX3_countAhead, Cond.code yX3_countAhead cX3_countAhead 4 (some .int), Cond.fieldLink RX3 9 "PairedTrees$Things" "lists" "[I", Cond.methodLink RX3 62 yX3_isAhead, Cond.instanceMethod yX3_isAhead, Cond.selects RX3 yX3_isAhead yX3_isAhead]
def wsX4_ranked_r3 : List Cond := [Cond.code yX3_isAhead cX3_isAhead 3 (some .boolean)]
def wsX4_ranked : List Cond := .code yX4_ranked cX4_ranked 4 (some .int) :: ((wsX4_ranked_r1 ++ (wsX4_ranked_r2 ++ wsX4_ranked_r3)) ++ wsX40 ++ wsX30 ++ wsX10 ++ (vx_atN 8).filter goodWord ++ (vx_atM "java/lang/ArrayIndexOutOfBoundsException" ["java/lang/IndexOutOfBoundsException", "java/lang/RuntimeException", "java/lang/Exception"]).filter goodWord)
def wsX4_isListOrAll : List Cond := .code yX4_isListOrAll cX4_isListOrAll 1 (some .boolean) :: ([.methodLink RX4 39 yX4_isList, .static yX4_isList, .initialized RX4, .code yX4_isList cX4_isList 1 (some .boolean)])
def wsX4_pairs_r1 : List Cond := [Cond.fieldLink RX4 14 "PairedTrees" "things" "LPairedTrees$Things;", Cond.fieldLink RX4 21 "PairedTrees" "forest" "LPairedTrees$Forest;", Cond.methodLink RX4 163 yX4_isListOrAll, Cond.static yX4_isListOrAll, Cond.initialized RX4, Cond.code yX4_isListOrAll cX4_isListOrAll 1 (some .boolean), Cond.methodLink RX4 39 yX4_isList, Cond.static yX4_isList, Cond.code yX4_isList cX4_isList 1 (some .boolean), Cond.methodLink RX4 98 yX3_takeScores, Cond.instanceMethod yX3_takeScores, Cond.selects RX3 yX3_takeScores yX3_takeScores, Cond.initialized RX3, Cond.code yX3_takeScores cX3_takeScores 3 none, Cond.fieldLink RX3 25 "PairedTrees$Things" "count" "I", Cond.fieldLink RX3 21 "PairedTrees$Things" "scores" "[J", Cond.methodLink RX3 48 yX1_sumFor, Cond.instanceMethod yX1_sumFor, Cond.selects RX1 yX1_sumFor yX1_sumFor, Cond.initialized RX1, Cond.code yX1_sumFor cX1_sumFor 6 (some .long), Cond.fieldLink RX1 37 "PairedTrees$Forest" "count" "I", Cond.methodLink RX1 79 yX1_valueFor, Cond.instanceMethod yX1_valueFor]
def wsX4_pairs_r2 : List Cond := [Cond.selects RX1 yX1_valueFor yX1_valueFor, Cond.code yX1_valueFor cX1_valueFor 9 (some .int), Cond.fieldLink RX1 9 "PairedTrees$Forest" "kinds" "[I", Cond.fieldLink RX1 15 "PairedTrees$Forest" "features" "[I", Cond.fieldLink RX1 18 "PairedTrees$Forest" "limits" "[I", Cond.fieldLink RX1 21 "PairedTrees$Forest" "sides" "[I", Cond.fieldLink RX1 24 "PairedTrees$Forest" "values" "[I", Cond.methodLink RX1 73 yX3_goesLeft, Cond.instanceMethod yX3_goesLeft, Cond.selects RX3 yX3_goesLeft yX3_goesLeft, Cond.code yX3_goesLeft cX3_goesLeft 6 (some .boolean), Cond.constant RX3 37 (-2147483648), Cond.methodLink RX3 44 yX3_numberAt, Cond.instanceMethod yX3_numberAt, Cond.selects RX3 yX3_numberAt yX3_numberAt, Cond.code yX3_numberAt cX3_numberAt 3 (some .int), Cond.fieldLink RX3 18 "PairedTrees$Things" "numbers" "[I", Cond.methodLink RX4 166 yX3_countPairs, Cond.instanceMethod yX3_countPairs, Cond.selects RX3 yX3_countPairs yX3_countPairs, Cond.code yX3_countPairs cX3_countPairs 8 (some .int), Cond.fieldLink RX3 9 "PairedTrees$Things" "lists" "[I", Cond.methodLink RX3 58 yX3_arePair, Cond.instanceMethod yX3_arePair]
def wsX4_pairs_r3 : List Cond := [Cond.selects RX3 yX3_arePair yX3_arePair, Cond.code yX3_arePair cX3_arePair 3 (some .boolean), Cond.fieldLink RX3 15 "PairedTrees$Things" "grades" "[I"]
def wsX4_pairs : List Cond := .code yX4_pairs cX4_pairs 3 (some .int) :: ((wsX4_pairs_r1 ++ (wsX4_pairs_r2 ++ wsX4_pairs_r3)) ++ wsX40 ++ wsX30 ++ wsX10 ++ (vx_atN 8).filter goodWord ++ (vx_atM "java/lang/ArrayIndexOutOfBoundsException" ["java/lang/IndexOutOfBoundsException", "java/lang/RuntimeException", "java/lang/Exception"]).filter goodWord)
def wsX4_share_r1 : List Cond := [Cond.classLink RX4 170 "java/lang/ArithmeticException", Cond.initialized "java/lang/ArithmeticException", Cond.fieldLink RX4 14 "PairedTrees" "things" "LPairedTrees$Things;", Cond.fieldLink RX4 21 "PairedTrees" "forest" "LPairedTrees$Forest;", Cond.methodLink RX4 163 yX4_isListOrAll, Cond.static yX4_isListOrAll, Cond.initialized RX4, Cond.code yX4_isListOrAll cX4_isListOrAll 1 (some .boolean), Cond.methodLink RX4 39 yX4_isList, Cond.static yX4_isList, Cond.code yX4_isList cX4_isList 1 (some .boolean), Cond.methodLink RX4 98 yX3_takeScores, Cond.instanceMethod yX3_takeScores, Cond.selects RX3 yX3_takeScores yX3_takeScores, Cond.initialized RX3, Cond.code yX3_takeScores cX3_takeScores 3 none, Cond.fieldLink RX3 25 "PairedTrees$Things" "count" "I", Cond.fieldLink RX3 21 "PairedTrees$Things" "scores" "[J", Cond.methodLink RX3 48 yX1_sumFor, Cond.instanceMethod yX1_sumFor, Cond.selects RX1 yX1_sumFor yX1_sumFor, Cond.initialized RX1, Cond.code yX1_sumFor cX1_sumFor 6 (some .long), Cond.fieldLink RX1 37 "PairedTrees$Forest" "count" "I"]
def wsX4_share_r2 : List Cond := [Cond.methodLink RX1 79 yX1_valueFor, Cond.instanceMethod yX1_valueFor, Cond.selects RX1 yX1_valueFor yX1_valueFor, Cond.code yX1_valueFor cX1_valueFor 9 (some .int), Cond.fieldLink RX1 9 "PairedTrees$Forest" "kinds" "[I", Cond.fieldLink RX1 15 "PairedTrees$Forest" "features" "[I", Cond.fieldLink RX1 18 "PairedTrees$Forest" "limits" "[I", Cond.fieldLink RX1 21 "PairedTrees$Forest" "sides" "[I", Cond.fieldLink RX1 24 "PairedTrees$Forest" "values" "[I", Cond.methodLink RX1 73 yX3_goesLeft, Cond.instanceMethod yX3_goesLeft, Cond.selects RX3 yX3_goesLeft yX3_goesLeft, Cond.code yX3_goesLeft cX3_goesLeft 6 (some .boolean), Cond.constant RX3 37 (-2147483648), Cond.methodLink RX3 44 yX3_numberAt, Cond.instanceMethod yX3_numberAt, Cond.selects RX3 yX3_numberAt yX3_numberAt, Cond.code yX3_numberAt cX3_numberAt 3 (some .int), Cond.fieldLink RX3 18 "PairedTrees$Things" "numbers" "[I", Cond.methodLink RX4 166 yX3_countPairs, Cond.instanceMethod yX3_countPairs, Cond.selects RX3 yX3_countPairs yX3_countPairs, Cond.code yX3_countPairs cX3_countPairs 8 (some .int), Cond.fieldLink RX3 9 "PairedTrees$Things" "lists" "[I"]
def wsX4_share_r3 : List Cond := [Cond.methodLink RX3 58 yX3_arePair, Cond.instanceMethod yX3_arePair, Cond.selects RX3 yX3_arePair yX3_arePair, Cond.code yX3_arePair cX3_arePair 3 (some .boolean), Cond.fieldLink RX3 15 "PairedTrees$Things" "grades" "[I"]
def wsX4_share : List Cond := .code yX4_share cX4_share 3 (some .int) :: ((wsX4_share_r1 ++ (wsX4_share_r2 ++ wsX4_share_r3)) ++ wsX40 ++ wsX30 ++ wsX10 ++ (vx_atN 8).filter goodWord ++ (vx_atS RX4 174 "java/lang/ArithmeticException" ["java/lang/RuntimeException", "java/lang/Exception"]).filter goodWord ++ (vx_atM "java/lang/ArithmeticException" ["java/lang/RuntimeException", "java/lang/Exception"]).filter goodWord ++ (vx_atM "java/lang/ArrayIndexOutOfBoundsException" ["java/lang/IndexOutOfBoundsException", "java/lang/RuntimeException", "java/lang/Exception"]).filter goodWord)
def wsX4_about : List Cond := .code yX4_about cX4_about 2 (some .int) :: ([.fieldLink RX4 14 "PairedTrees" "things" "LPairedTrees$Things;", .fieldLink RX4 46 "PairedTrees$Things" "count" "I", .fieldLink RX4 21 "PairedTrees" "forest" "LPairedTrees$Forest;", .fieldLink RX4 97 "PairedTrees$Forest" "count" "I", .methodLink RX4 110 yX1_countLeaves, .instanceMethod yX1_countLeaves, .selects RX1 yX1_countLeaves yX1_countLeaves, .initialized RX1, .code yX1_countLeaves cX1_countLeaves 5 (some .int), .fieldLink RX1 9 "PairedTrees$Forest" "kinds" "[I", .methodLink RX4 175 yX1_countCutsBy, .instanceMethod yX1_countCutsBy, .selects RX1 yX1_countCutsBy yX1_countCutsBy, .code yX1_countCutsBy cX1_countCutsBy 4 (some .int), .fieldLink RX1 37 "PairedTrees$Forest" "count" "I", .fieldLink RX1 15 "PairedTrees$Forest" "features" "[I"] ++ wsX40 ++ wsX30 ++ wsX10 ++ (vx_atN 8).filter goodWord ++ (vx_atM "java/lang/ArrayIndexOutOfBoundsException" ["java/lang/IndexOutOfBoundsException", "java/lang/RuntimeException", "java/lang/Exception"]).filter goodWord)
def wsX4_clear_r1 : List Cond := [Cond.fieldLink RX4 14 "PairedTrees" "things" "LPairedTrees$Things;", Cond.fieldLink RX4 46 "PairedTrees$Things" "count" "I", Cond.methodLink RX4 36 yX4_startAnew, Cond.instanceMethod yX4_startAnew, Cond.selects RX4 yX4_startAnew yX4_startAnew, Cond.initialized RX4, Cond.code yX4_startAnew cX4_startAnew 1 none, Cond.fieldLink RX4 21 "PairedTrees" "forest" "LPairedTrees$Forest;", Cond.fieldLink RX4 97 "PairedTrees$Forest" "count" "I", Cond.fieldLink RX4 182 "PairedTrees" "FIRST_SETTING" "[I", Cond.fieldLink RX4 32 "PairedTrees" "settings" "[I", Cond.methodLink RX4 185 arraycopyName, Cond.native arraycopyName, Cond.static arraycopyName, Cond.initialized "java/lang/System", Cond.methodLink RX4 178 yX3_forgetRow, Cond.instanceMethod yX3_forgetRow, Cond.selects RX3 yX3_forgetRow yX3_forgetRow, Cond.initialized RX3, Cond.code yX3_forgetRow cX3_forgetRow 2 none, Cond.fieldLink RX3 18 "PairedTrees$Things" "numbers" "[I", Cond.constant RX3 37 (-2147483648), Cond.methodLink RX3 38 yJ7_fill_fda19, Cond.static yJ7_fill_fda19]
def wsX4_clear_r2 : List Cond := [Cond.initialized RJ7, Cond.code yJ7_fill_fda19 cJ7_fill_fda19 5 none, Cond.methodLink RJ7 13 yJ7_rangeCheck_23922, Cond.static yJ7_rangeCheck_23922, Cond.code yJ7_rangeCheck_23922 cJ7_rangeCheck_23922 3 none, Cond.classLink RJ7 68 RJx00060, Cond.instantiable RJx00060 6, Cond.initialized RJx00060]
def wsX4_clear : List Cond := .code yX4_clear cX4_clear 2 (some .int) :: ((wsX4_clear_r1 ++ wsX4_clear_r2) ++ wsX40 ++ wsX30 ++ wsX10 ++ wsJx000600 ++ (vx_atN 8).filter goodWord)
def wsX5_begins : List Cond := .code yX5_begins cX5_begins 2 none :: ([.fieldLink RX5 63 "PairedTreesModel" "things" "I", .fieldLink RX5 67 "PairedTreesModel" "trees" "I", .fieldLink RX5 19 "PairedTreesModel" "has" "[Z", .fieldLink RX5 23 "PairedTreesModel" "settings" "[I"] ++ wsX50 ++ (vx_atM "java/lang/ArrayIndexOutOfBoundsException" ["java/lang/IndexOutOfBoundsException", "java/lang/RuntimeException", "java/lang/Exception"]).filter goodWord ++ (vx_atN 8).filter goodWord)
def wsX5_init_r1 : List Cond := [Cond.methodLink RX5 1 objectInit, Cond.instanceMethod objectInit, Cond.code objectInit ⟨#[0xb1]⟩ 1 none, Cond.arrayClass .int, Cond.fieldLink RX5 7 "PairedTreesModel" "listOf" "[I", Cond.fieldLink RX5 13 "PairedTreesModel" "gradeOf" "[I", Cond.fieldLink RX5 16 "PairedTreesModel" "number" "[I", Cond.arrayClass .boolean, Cond.fieldLink RX5 19 "PairedTreesModel" "has" "[Z", Cond.fieldLink RX5 23 "PairedTreesModel" "settings" "[I", Cond.fieldLink RX5 26 "PairedTreesModel" "sort" "[I", Cond.fieldLink RX5 29 "PairedTreesModel" "byOf" "[I", Cond.fieldLink RX5 32 "PairedTreesModel" "cutOf" "[I", Cond.fieldLink RX5 35 "PairedTreesModel" "sideOf" "[I", Cond.fieldLink RX5 38 "PairedTreesModel" "valueOf" "[I", Cond.fieldLink RX5 41 "PairedTreesModel" "held" "[I", Cond.arrayClass .long, Cond.fieldLink RX5 44 "PairedTreesModel" "upper" "[J", Cond.fieldLink RX5 48 "PairedTreesModel" "lower" "[J", Cond.fieldLink RX5 51 "PairedTreesModel" "scores" "[J", Cond.fieldLink RX5 54 "PairedTreesModel" "nodeOf" "[I", Cond.fieldLink RX5 57 "PairedTreesModel" "pushes" "[I", Cond.methodLink RX5 60 yX5_begins, Cond.instanceMethod yX5_begins]
def wsX5_init_r2 : List Cond := [Cond.selects RX5 yX5_begins yX5_begins, Cond.initialized RX5, Cond.code yX5_begins cX5_begins 2 none, Cond.fieldLink RX5 63 "PairedTreesModel" "things" "I", Cond.fieldLink RX5 67 "PairedTreesModel" "trees" "I"]
def wsX5_init : List Cond := .code yX5_init cX5_init 1 none :: ((wsX5_init_r1 ++ wsX5_init_r2) ++ wsX50 ++ (vx_atN 8).filter goodWord ++ (vx_atM "java/lang/ArrayIndexOutOfBoundsException" ["java/lang/IndexOutOfBoundsException", "java/lang/RuntimeException", "java/lang/Exception"]).filter goodWord)
def wsX5_thrown : List Cond := .code yX5_thrown cX5_thrown 1 (some .int) :: ([.fieldLink RX5 70 "PairedTreesModel" "thrown" "I"] ++ wsX50)
def wsX5_in : List Cond := .code yX5_in cX5_in 3 (some .boolean) :: ([])
def wsX5_isThing : List Cond := .code yX5_isThing cX5_isThing 2 (some .boolean) :: ([.fieldLink RX5 63 "PairedTreesModel" "things" "I", .methodLink RX5 73 yX5_in, .static yX5_in, .initialized RX5, .code yX5_in cX5_in 3 (some .boolean)] ++ wsX50)
def wsX5_isAny : List Cond := .code yX5_isAny cX5_isAny 2 (some .boolean) :: ([.methodLink RX5 77 yX5_isThing, .instanceMethod yX5_isThing, .selects RX5 yX5_isThing yX5_isThing, .initialized RX5, .code yX5_isThing cX5_isThing 2 (some .boolean), .fieldLink RX5 63 "PairedTreesModel" "things" "I", .methodLink RX5 73 yX5_in, .static yX5_in, .code yX5_in cX5_in 3 (some .boolean)] ++ wsX50 ++ (vx_atN 8).filter goodWord)
def wsX5_at : List Cond := .code yX5_at cX5_at 1 (some .int) :: ([])
def wsX5_thing : List Cond := .code yX5_thing cX5_thing 4 (some .int) :: ([.fieldLink RX5 70 "PairedTreesModel" "thrown" "I", .fieldLink RX5 63 "PairedTreesModel" "things" "I", .fieldLink RX5 7 "PairedTreesModel" "listOf" "[I", .fieldLink RX5 13 "PairedTreesModel" "gradeOf" "[I", .fieldLink RX5 19 "PairedTreesModel" "has" "[Z", .methodLink RX5 73 yX5_in, .static yX5_in, .initialized RX5, .code yX5_in cX5_in 3 (some .boolean)] ++ wsX50 ++ (vx_atM "java/lang/ArrayIndexOutOfBoundsException" ["java/lang/IndexOutOfBoundsException", "java/lang/RuntimeException", "java/lang/Exception"]).filter goodWord ++ (vx_atN 8).filter goodWord)
def wsX5_grade : List Cond := .code yX5_grade cX5_grade 4 (some .int) :: ([.fieldLink RX5 70 "PairedTreesModel" "thrown" "I", .fieldLink RX5 13 "PairedTreesModel" "gradeOf" "[I", .methodLink RX5 77 yX5_isThing, .instanceMethod yX5_isThing, .selects RX5 yX5_isThing yX5_isThing, .initialized RX5, .code yX5_isThing cX5_isThing 2 (some .boolean), .fieldLink RX5 63 "PairedTreesModel" "things" "I", .methodLink RX5 73 yX5_in, .static yX5_in, .code yX5_in cX5_in 3 (some .boolean)] ++ wsX50 ++ (vx_atN 8).filter goodWord ++ (vx_atM "java/lang/ArrayIndexOutOfBoundsException" ["java/lang/IndexOutOfBoundsException", "java/lang/RuntimeException", "java/lang/Exception"]).filter goodWord)
def wsX5_feature : List Cond := .code yX5_feature cX5_feature 5 (some .int) :: ([.fieldLink RX5 70 "PairedTreesModel" "thrown" "I", .fieldLink RX5 19 "PairedTreesModel" "has" "[Z", .fieldLink RX5 16 "PairedTreesModel" "number" "[I", .methodLink RX5 81 yX5_isAny, .instanceMethod yX5_isAny, .selects RX5 yX5_isAny yX5_isAny, .initialized RX5, .code yX5_isAny cX5_isAny 2 (some .boolean), .methodLink RX5 77 yX5_isThing, .instanceMethod yX5_isThing, .selects RX5 yX5_isThing yX5_isThing, .code yX5_isThing cX5_isThing 2 (some .boolean), .fieldLink RX5 63 "PairedTreesModel" "things" "I", .methodLink RX5 73 yX5_in, .static yX5_in, .code yX5_in cX5_in 3 (some .boolean), .methodLink RX5 84 yX5_at, .static yX5_at, .code yX5_at cX5_at 1 (some .int)] ++ wsX50 ++ (vx_atN 8).filter goodWord ++ (vx_atM "java/lang/ArrayIndexOutOfBoundsException" ["java/lang/IndexOutOfBoundsException", "java/lang/RuntimeException", "java/lang/Exception"]).filter goodWord)
def wsX5_miss : List Cond := .code yX5_miss cX5_miss 4 (some .int) :: ([.fieldLink RX5 70 "PairedTreesModel" "thrown" "I", .fieldLink RX5 19 "PairedTreesModel" "has" "[Z", .methodLink RX5 81 yX5_isAny, .instanceMethod yX5_isAny, .selects RX5 yX5_isAny yX5_isAny, .initialized RX5, .code yX5_isAny cX5_isAny 2 (some .boolean), .methodLink RX5 77 yX5_isThing, .instanceMethod yX5_isThing, .selects RX5 yX5_isThing yX5_isThing, .code yX5_isThing cX5_isThing 2 (some .boolean), .fieldLink RX5 63 "PairedTreesModel" "things" "I", .methodLink RX5 73 yX5_in, .static yX5_in, .code yX5_in cX5_in 3 (some .boolean), .methodLink RX5 84 yX5_at, .static yX5_at, .code yX5_at cX5_at 1 (some .int)] ++ wsX50 ++ (vx_atN 8).filter goodWord ++ (vx_atM "java/lang/ArrayIndexOutOfBoundsException" ["java/lang/IndexOutOfBoundsException", "java/lang/RuntimeException", "java/lang/Exception"]).filter goodWord)
def wsX5_told : List Cond := .code yX5_told cX5_told 3 (some .int) :: ([.fieldLink RX5 63 "PairedTreesModel" "things" "I", .fieldLink RX5 19 "PairedTreesModel" "has" "[Z", .fieldLink RX5 70 "PairedTreesModel" "thrown" "I", .fieldLink RX5 16 "PairedTreesModel" "number" "[I", .methodLink RX5 73 yX5_in, .static yX5_in, .initialized RX5, .code yX5_in cX5_in 3 (some .boolean)] ++ wsX50 ++ (vx_atM "java/lang/ArrayIndexOutOfBoundsException" ["java/lang/IndexOutOfBoundsException", "java/lang/RuntimeException", "java/lang/Exception"]).filter goodWord ++ (vx_atN 8).filter goodWord)
def wsX5_setting : List Cond := .code yX5_setting cX5_setting 5 (some .int) :: ([.fieldLink RX5 70 "PairedTreesModel" "thrown" "I", .fieldLink RX5 23 "PairedTreesModel" "settings" "[I", .methodLink RX5 73 yX5_in, .static yX5_in, .initialized RX5, .code yX5_in cX5_in 3 (some .boolean)] ++ wsX50 ++ (vx_atM "java/lang/ArrayIndexOutOfBoundsException" ["java/lang/IndexOutOfBoundsException", "java/lang/RuntimeException", "java/lang/Exception"]).filter goodWord ++ (vx_atN 8).filter goodWord)
def wsX5_goesLeft : List Cond := .code yX5_goesLeft cX5_goesLeft 5 (some .boolean) :: ([.fieldLink RX5 19 "PairedTreesModel" "has" "[Z", .fieldLink RX5 16 "PairedTreesModel" "number" "[I", .methodLink RX5 84 yX5_at, .static yX5_at, .initialized RX5, .code yX5_at cX5_at 1 (some .int)] ++ wsX50 ++ (vx_atM "java/lang/ArrayIndexOutOfBoundsException" ["java/lang/IndexOutOfBoundsException", "java/lang/RuntimeException", "java/lang/Exception"]).filter goodWord ++ (vx_atN 8).filter goodWord)
def wsX5_valueBy : List Cond := .code yX5_valueBy cX5_valueBy 5 (some .int) :: ([.fieldLink RX5 26 "PairedTreesModel" "sort" "[I", .fieldLink RX5 29 "PairedTreesModel" "byOf" "[I", .fieldLink RX5 32 "PairedTreesModel" "cutOf" "[I", .fieldLink RX5 35 "PairedTreesModel" "sideOf" "[I", .fieldLink RX5 38 "PairedTreesModel" "valueOf" "[I", .methodLink RX5 88 yX5_goesLeft, .instanceMethod yX5_goesLeft, .selects RX5 yX5_goesLeft yX5_goesLeft, .initialized RX5, .code yX5_goesLeft cX5_goesLeft 5 (some .boolean), .fieldLink RX5 19 "PairedTreesModel" "has" "[Z", .fieldLink RX5 16 "PairedTreesModel" "number" "[I", .methodLink RX5 84 yX5_at, .static yX5_at, .code yX5_at cX5_at 1 (some .int)] ++ wsX50 ++ (vx_atM "java/lang/ArrayIndexOutOfBoundsException" ["java/lang/IndexOutOfBoundsException", "java/lang/RuntimeException", "java/lang/Exception"]).filter goodWord ++ (vx_atN 8).filter goodWord)
def wsX5_scoreOf : List Cond := .code yX5_scoreOf cX5_scoreOf 5 (some .long) :: ([.fieldLink RX5 67 "PairedTreesModel" "trees" "I", .methodLink RX5 92 yX5_valueBy, .instanceMethod yX5_valueBy, .selects RX5 yX5_valueBy yX5_valueBy, .initialized RX5, .code yX5_valueBy cX5_valueBy 5 (some .int), .fieldLink RX5 26 "PairedTreesModel" "sort" "[I", .fieldLink RX5 29 "PairedTreesModel" "byOf" "[I", .fieldLink RX5 32 "PairedTreesModel" "cutOf" "[I", .fieldLink RX5 35 "PairedTreesModel" "sideOf" "[I", .fieldLink RX5 38 "PairedTreesModel" "valueOf" "[I", .methodLink RX5 88 yX5_goesLeft, .instanceMethod yX5_goesLeft, .selects RX5 yX5_goesLeft yX5_goesLeft, .code yX5_goesLeft cX5_goesLeft 5 (some .boolean), .fieldLink RX5 19 "PairedTreesModel" "has" "[Z", .fieldLink RX5 16 "PairedTreesModel" "number" "[I", .methodLink RX5 84 yX5_at, .static yX5_at, .code yX5_at cX5_at 1 (some .int)] ++ wsX50 ++ (vx_atN 8).filter goodWord ++ (vx_atM "java/lang/ArrayIndexOutOfBoundsException" ["java/lang/IndexOutOfBoundsException", "java/lang/RuntimeException", "java/lang/Exception"]).filter goodWord)
def wsX5_isPair : List Cond := .code yX5_isPair cX5_isPair 3 (some .boolean) :: ([.fieldLink RX5 7 "PairedTreesModel" "listOf" "[I", .fieldLink RX5 13 "PairedTreesModel" "gradeOf" "[I"] ++ wsX50 ++ (vx_atM "java/lang/ArrayIndexOutOfBoundsException" ["java/lang/IndexOutOfBoundsException", "java/lang/RuntimeException", "java/lang/Exception"]).filter goodWord ++ (vx_atN 8).filter goodWord)
def wsX5_score_r1 : List Cond := [Cond.fieldLink RX5 63 "PairedTreesModel" "things" "I", Cond.fieldLink RX5 51 "PairedTreesModel" "scores" "[J", Cond.methodLink RX5 96 yX5_scoreOf, Cond.instanceMethod yX5_scoreOf, Cond.selects RX5 yX5_scoreOf yX5_scoreOf, Cond.initialized RX5, Cond.code yX5_scoreOf cX5_scoreOf 5 (some .long), Cond.fieldLink RX5 67 "PairedTreesModel" "trees" "I", Cond.methodLink RX5 92 yX5_valueBy, Cond.instanceMethod yX5_valueBy, Cond.selects RX5 yX5_valueBy yX5_valueBy, Cond.code yX5_valueBy cX5_valueBy 5 (some .int), Cond.fieldLink RX5 26 "PairedTreesModel" "sort" "[I", Cond.fieldLink RX5 29 "PairedTreesModel" "byOf" "[I", Cond.fieldLink RX5 32 "PairedTreesModel" "cutOf" "[I", Cond.fieldLink RX5 35 "PairedTreesModel" "sideOf" "[I", Cond.fieldLink RX5 38 "PairedTreesModel" "valueOf" "[I", Cond.methodLink RX5 88 yX5_goesLeft, Cond.instanceMethod yX5_goesLeft, Cond.selects RX5 yX5_goesLeft yX5_goesLeft, Cond.code yX5_goesLeft cX5_goesLeft 5 (some .boolean), Cond.fieldLink RX5 19 "PairedTreesModel" "has" "[Z", Cond.fieldLink RX5 16 "PairedTreesModel" "number" "[I", Cond.methodLink RX5 84 yX5_at]
def wsX5_score_r2 : List Cond := [Cond.static yX5_at, Cond.code yX5_at cX5_at 1 (some .int)]
def wsX5_score : List Cond := .code yX5_score cX5_score 2 none :: ((wsX5_score_r1 ++ wsX5_score_r2) ++ wsX50 ++ (vx_atN 8).filter goodWord ++ (vx_atM "java/lang/ArrayIndexOutOfBoundsException" ["java/lang/IndexOutOfBoundsException", "java/lang/RuntimeException", "java/lang/Exception"]).filter goodWord)
def wsX5_pushOf : List Cond := .code yX5_pushOf cX5_pushOf 4 (some .int) :: ([.fieldLink RX5 63 "PairedTreesModel" "things" "I", .fieldLink RX5 51 "PairedTreesModel" "scores" "[J", .fieldLink RX5 23 "PairedTreesModel" "settings" "[I", .fieldLink RX5 13 "PairedTreesModel" "gradeOf" "[I", .methodLink RX5 100 yX5_isPair, .instanceMethod yX5_isPair, .selects RX5 yX5_isPair yX5_isPair, .initialized RX5, .code yX5_isPair cX5_isPair 3 (some .boolean), .fieldLink RX5 7 "PairedTreesModel" "listOf" "[I"] ++ wsX50 ++ (vx_atN 8).filter goodWord ++ (vx_atM "java/lang/ArrayIndexOutOfBoundsException" ["java/lang/IndexOutOfBoundsException", "java/lang/RuntimeException", "java/lang/Exception"]).filter goodWord)
def wsX5_floor : List Cond := .code yX5_floor cX5_floor 3 (some .int) :: ([] ++ (vx_atM "java/lang/ArithmeticException" ["java/lang/RuntimeException", "java/lang/Exception"]).filter goodWord)
def wsX5_tries : List Cond := .code yX5_tries cX5_tries 21 none :: ([.fieldLink RX5 63 "PairedTreesModel" "things" "I", .fieldLink RX5 54 "PairedTreesModel" "nodeOf" "[I", .fieldLink RX5 57 "PairedTreesModel" "pushes" "[I", .fieldLink RX5 23 "PairedTreesModel" "settings" "[I", .fieldLink RX5 104 "PairedTreesModel" "bestLower" "J", .fieldLink RX5 108 "PairedTreesModel" "bestUpper" "J", .fieldLink RX5 111 "PairedTreesModel" "bestBy" "I", .fieldLink RX5 114 "PairedTreesModel" "bestCut" "I", .fieldLink RX5 117 "PairedTreesModel" "bestSide" "I", .methodLink RX5 88 yX5_goesLeft, .instanceMethod yX5_goesLeft, .selects RX5 yX5_goesLeft yX5_goesLeft, .initialized RX5, .code yX5_goesLeft cX5_goesLeft 5 (some .boolean), .fieldLink RX5 19 "PairedTreesModel" "has" "[Z", .fieldLink RX5 16 "PairedTreesModel" "number" "[I", .methodLink RX5 84 yX5_at, .static yX5_at, .code yX5_at cX5_at 1 (some .int)] ++ wsX50 ++ (vx_atM "java/lang/ArrayIndexOutOfBoundsException" ["java/lang/IndexOutOfBoundsException", "java/lang/RuntimeException", "java/lang/Exception"]).filter goodWord ++ (vx_atN 8).filter goodWord)
def wsX5_below : List Cond := .code yX5_below cX5_below 1 (some .int) :: ([])
def wsX5_common : List Cond := .code yX5_common cX5_common 10 (some .long) :: ([] ++ (vx_atM "java/lang/ArithmeticException" ["java/lang/RuntimeException", "java/lang/Exception"]).filter goodWord)
def wsX5_growNode_r1 : List Cond := [Cond.fieldLink RX5 67 "PairedTreesModel" "trees" "I", Cond.fieldLink RX5 63 "PairedTreesModel" "things" "I", Cond.fieldLink RX5 54 "PairedTreesModel" "nodeOf" "[I", Cond.fieldLink RX5 57 "PairedTreesModel" "pushes" "[I", Cond.fieldLink RX5 26 "PairedTreesModel" "sort" "[I", Cond.fieldLink RX5 41 "PairedTreesModel" "held" "[I", Cond.fieldLink RX5 38 "PairedTreesModel" "valueOf" "[I", Cond.fieldLink RX5 23 "PairedTreesModel" "settings" "[I", Cond.fieldLink RX5 108 "PairedTreesModel" "bestUpper" "J", Cond.fieldLink RX5 104 "PairedTreesModel" "bestLower" "J", Cond.fieldLink RX5 19 "PairedTreesModel" "has" "[Z", Cond.fieldLink RX5 16 "PairedTreesModel" "number" "[I", Cond.fieldLink RX5 29 "PairedTreesModel" "byOf" "[I", Cond.fieldLink RX5 111 "PairedTreesModel" "bestBy" "I", Cond.fieldLink RX5 32 "PairedTreesModel" "cutOf" "[I", Cond.fieldLink RX5 114 "PairedTreesModel" "bestCut" "I", Cond.fieldLink RX5 35 "PairedTreesModel" "sideOf" "[I", Cond.fieldLink RX5 117 "PairedTreesModel" "bestSide" "I", Cond.fieldLink RX5 44 "PairedTreesModel" "upper" "[J", Cond.fieldLink RX5 48 "PairedTreesModel" "lower" "[J", Cond.methodLink RX5 120 yX5_floor, Cond.static yX5_floor, Cond.initialized RX5, Cond.code yX5_floor cX5_floor 3 (some .int)]
def wsX5_growNode_r2 : List Cond := [Cond.methodLink RX5 123 yX5_below, Cond.static yX5_below, Cond.code yX5_below cX5_below 1 (some .int), Cond.methodLink RX5 126 yX5_tries, Cond.instanceMethod yX5_tries, Cond.selects RX5 yX5_tries yX5_tries, Cond.code yX5_tries cX5_tries 21 none, Cond.methodLink RX5 88 yX5_goesLeft, Cond.instanceMethod yX5_goesLeft, Cond.selects RX5 yX5_goesLeft yX5_goesLeft, Cond.code yX5_goesLeft cX5_goesLeft 5 (some .boolean), Cond.methodLink RX5 84 yX5_at, Cond.static yX5_at, Cond.code yX5_at cX5_at 1 (some .int), Cond.methodLink RX5 130 yX5_common, Cond.static yX5_common, Cond.code yX5_common cX5_common 10 (some .long)]
def wsX5_growNode : List Cond := .code yX5_growNode cX5_growNode 11 none :: ((wsX5_growNode_r1 ++ wsX5_growNode_r2) ++ wsX50 ++ (vx_atM "java/lang/ArrayIndexOutOfBoundsException" ["java/lang/IndexOutOfBoundsException", "java/lang/RuntimeException", "java/lang/Exception"]).filter goodWord ++ (vx_atN 8).filter goodWord ++ (vx_atM "java/lang/ArithmeticException" ["java/lang/RuntimeException", "java/lang/Exception"]).filter goodWord)
def wsX5_grow_r1 : List Cond := [Cond.fieldLink RX5 70 "PairedTreesModel" "thrown" "I", Cond.fieldLink RX5 67 "PairedTreesModel" "trees" "I", Cond.fieldLink RX5 63 "PairedTreesModel" "things" "I", Cond.fieldLink RX5 54 "PairedTreesModel" "nodeOf" "[I", Cond.fieldLink RX5 57 "PairedTreesModel" "pushes" "[I", Cond.fieldLink RX5 26 "PairedTreesModel" "sort" "[I", Cond.methodLink RX5 134 yX5_score, Cond.instanceMethod yX5_score, Cond.selects RX5 yX5_score yX5_score, Cond.initialized RX5, Cond.code yX5_score cX5_score 2 none, Cond.fieldLink RX5 51 "PairedTreesModel" "scores" "[J", Cond.methodLink RX5 96 yX5_scoreOf, Cond.instanceMethod yX5_scoreOf, Cond.selects RX5 yX5_scoreOf yX5_scoreOf, Cond.code yX5_scoreOf cX5_scoreOf 5 (some .long), Cond.methodLink RX5 92 yX5_valueBy, Cond.instanceMethod yX5_valueBy, Cond.selects RX5 yX5_valueBy yX5_valueBy, Cond.code yX5_valueBy cX5_valueBy 5 (some .int), Cond.fieldLink RX5 29 "PairedTreesModel" "byOf" "[I", Cond.fieldLink RX5 32 "PairedTreesModel" "cutOf" "[I", Cond.fieldLink RX5 35 "PairedTreesModel" "sideOf" "[I", Cond.fieldLink RX5 38 "PairedTreesModel" "valueOf" "[I"]
def wsX5_grow_r2 : List Cond := [Cond.methodLink RX5 88 yX5_goesLeft, Cond.instanceMethod yX5_goesLeft, Cond.selects RX5 yX5_goesLeft yX5_goesLeft, Cond.code yX5_goesLeft cX5_goesLeft 5 (some .boolean), Cond.fieldLink RX5 19 "PairedTreesModel" "has" "[Z", Cond.fieldLink RX5 16 "PairedTreesModel" "number" "[I", Cond.methodLink RX5 84 yX5_at, Cond.static yX5_at, Cond.code yX5_at cX5_at 1 (some .int), Cond.methodLink RX5 137 yX5_pushOf, Cond.instanceMethod yX5_pushOf, Cond.selects RX5 yX5_pushOf yX5_pushOf, Cond.code yX5_pushOf cX5_pushOf 4 (some .int), Cond.fieldLink RX5 23 "PairedTreesModel" "settings" "[I", Cond.fieldLink RX5 13 "PairedTreesModel" "gradeOf" "[I", Cond.methodLink RX5 100 yX5_isPair, Cond.instanceMethod yX5_isPair, Cond.selects RX5 yX5_isPair yX5_isPair, Cond.code yX5_isPair cX5_isPair 3 (some .boolean), Cond.fieldLink RX5 7 "PairedTreesModel" "listOf" "[I", Cond.methodLink RX5 140 yX5_growNode, Cond.instanceMethod yX5_growNode, Cond.selects RX5 yX5_growNode yX5_growNode, Cond.code yX5_growNode cX5_growNode 11 none]
def wsX5_grow_r3 : List Cond := [Cond.fieldLink RX5 41 "PairedTreesModel" "held" "[I", Cond.fieldLink RX5 108 "PairedTreesModel" "bestUpper" "J", Cond.fieldLink RX5 104 "PairedTreesModel" "bestLower" "J", Cond.fieldLink RX5 111 "PairedTreesModel" "bestBy" "I", Cond.fieldLink RX5 114 "PairedTreesModel" "bestCut" "I", Cond.fieldLink RX5 117 "PairedTreesModel" "bestSide" "I", Cond.fieldLink RX5 44 "PairedTreesModel" "upper" "[J", Cond.fieldLink RX5 48 "PairedTreesModel" "lower" "[J", Cond.methodLink RX5 120 yX5_floor, Cond.static yX5_floor, Cond.code yX5_floor cX5_floor 3 (some .int), Cond.methodLink RX5 123 yX5_below, Cond.static yX5_below, Cond.code yX5_below cX5_below 1 (some .int), Cond.methodLink RX5 126 yX5_tries, Cond.instanceMethod yX5_tries, Cond.selects RX5 yX5_tries yX5_tries, Cond.code yX5_tries cX5_tries 21 none, Cond.methodLink RX5 130 yX5_common, Cond.static yX5_common, Cond.code yX5_common cX5_common 10 (some .long)]
def wsX5_grow : List Cond := .code yX5_grow cX5_grow 3 (some .int) :: ((wsX5_grow_r1 ++ (wsX5_grow_r2 ++ wsX5_grow_r3)) ++ wsX50 ++ (vx_atN 8).filter goodWord ++ (vx_atM "java/lang/ArrayIndexOutOfBoundsException" ["java/lang/IndexOutOfBoundsException", "java/lang/RuntimeException", "java/lang/Exception"]).filter goodWord ++ (vx_atM "java/lang/ArithmeticException" ["java/lang/RuntimeException", "java/lang/Exception"]).filter goodWord)
def wsX5_cut : List Cond := .code yX5_cut cX5_cut 1 (some .int) :: ([.fieldLink RX5 70 "PairedTreesModel" "thrown" "I", .fieldLink RX5 67 "PairedTreesModel" "trees" "I"] ++ wsX50 ++ (vx_atN 8).filter goodWord)
def wsX5_isNode : List Cond := .code yX5_isNode cX5_isNode 3 (some .boolean) :: ([.fieldLink RX5 67 "PairedTreesModel" "trees" "I", .fieldLink RX5 26 "PairedTreesModel" "sort" "[I", .methodLink RX5 73 yX5_in, .static yX5_in, .initialized RX5, .code yX5_in cX5_in 3 (some .boolean)] ++ wsX50 ++ (vx_atM "java/lang/ArrayIndexOutOfBoundsException" ["java/lang/IndexOutOfBoundsException", "java/lang/RuntimeException", "java/lang/Exception"]).filter goodWord ++ (vx_atN 8).filter goodWord)
def wsX5_node : List Cond := .code yX5_node cX5_node 6 (some .int) :: ([.fieldLink RX5 70 "PairedTreesModel" "thrown" "I", .fieldLink RX5 26 "PairedTreesModel" "sort" "[I", .fieldLink RX5 29 "PairedTreesModel" "byOf" "[I", .fieldLink RX5 32 "PairedTreesModel" "cutOf" "[I", .fieldLink RX5 35 "PairedTreesModel" "sideOf" "[I", .fieldLink RX5 38 "PairedTreesModel" "valueOf" "[I", .fieldLink RX5 41 "PairedTreesModel" "held" "[I", .methodLink RX5 144 yX5_isNode, .instanceMethod yX5_isNode, .selects RX5 yX5_isNode yX5_isNode, .initialized RX5, .code yX5_isNode cX5_isNode 3 (some .boolean), .fieldLink RX5 67 "PairedTreesModel" "trees" "I", .methodLink RX5 73 yX5_in, .static yX5_in, .code yX5_in cX5_in 3 (some .boolean)] ++ wsX50 ++ (vx_atN 8).filter goodWord ++ (vx_atM "java/lang/ArrayIndexOutOfBoundsException" ["java/lang/IndexOutOfBoundsException", "java/lang/RuntimeException", "java/lang/Exception"]).filter goodWord)
def wsX5_gain : List Cond := .code yX5_gain cX5_gain 4 (some .long) :: ([.fieldLink RX5 70 "PairedTreesModel" "thrown" "I", .fieldLink RX5 26 "PairedTreesModel" "sort" "[I", .constantLong RX5 147 (-10001), .fieldLink RX5 44 "PairedTreesModel" "upper" "[J", .fieldLink RX5 48 "PairedTreesModel" "lower" "[J", .constantLong RX5 149 (-10002), .methodLink RX5 144 yX5_isNode, .instanceMethod yX5_isNode, .selects RX5 yX5_isNode yX5_isNode, .initialized RX5, .code yX5_isNode cX5_isNode 3 (some .boolean), .fieldLink RX5 67 "PairedTreesModel" "trees" "I", .methodLink RX5 73 yX5_in, .static yX5_in, .code yX5_in cX5_in 3 (some .boolean)] ++ wsX50 ++ (vx_atN 8).filter goodWord ++ (vx_atM "java/lang/ArrayIndexOutOfBoundsException" ["java/lang/IndexOutOfBoundsException", "java/lang/RuntimeException", "java/lang/Exception"]).filter goodWord)
def wsX5_score__r1 : List Cond := [Cond.fieldLink RX5 70 "PairedTreesModel" "thrown" "I", Cond.constantLong RX5 147 (-10001), Cond.methodLink RX5 81 yX5_isAny, Cond.instanceMethod yX5_isAny, Cond.selects RX5 yX5_isAny yX5_isAny, Cond.initialized RX5, Cond.code yX5_isAny cX5_isAny 2 (some .boolean), Cond.methodLink RX5 77 yX5_isThing, Cond.instanceMethod yX5_isThing, Cond.selects RX5 yX5_isThing yX5_isThing, Cond.code yX5_isThing cX5_isThing 2 (some .boolean), Cond.fieldLink RX5 63 "PairedTreesModel" "things" "I", Cond.methodLink RX5 73 yX5_in, Cond.static yX5_in, Cond.code yX5_in cX5_in 3 (some .boolean), Cond.methodLink RX5 96 yX5_scoreOf, Cond.instanceMethod yX5_scoreOf, Cond.selects RX5 yX5_scoreOf yX5_scoreOf, Cond.code yX5_scoreOf cX5_scoreOf 5 (some .long), Cond.fieldLink RX5 67 "PairedTreesModel" "trees" "I", Cond.methodLink RX5 92 yX5_valueBy, Cond.instanceMethod yX5_valueBy, Cond.selects RX5 yX5_valueBy yX5_valueBy, Cond.code yX5_valueBy cX5_valueBy 5 (some .int)]
def wsX5_score__r2 : List Cond := [Cond.fieldLink RX5 26 "PairedTreesModel" "sort" "[I", Cond.fieldLink RX5 29 "PairedTreesModel" "byOf" "[I", Cond.fieldLink RX5 32 "PairedTreesModel" "cutOf" "[I", Cond.fieldLink RX5 35 "PairedTreesModel" "sideOf" "[I", Cond.fieldLink RX5 38 "PairedTreesModel" "valueOf" "[I", Cond.methodLink RX5 88 yX5_goesLeft, Cond.instanceMethod yX5_goesLeft, Cond.selects RX5 yX5_goesLeft yX5_goesLeft, Cond.code yX5_goesLeft cX5_goesLeft 5 (some .boolean), Cond.fieldLink RX5 19 "PairedTreesModel" "has" "[Z", Cond.fieldLink RX5 16 "PairedTreesModel" "number" "[I", Cond.methodLink RX5 84 yX5_at, Cond.static yX5_at, Cond.code yX5_at cX5_at 1 (some .int)]
def wsX5_score_ : List Cond := .code yX5_score_ cX5_score_ 2 (some .long) :: ((wsX5_score__r1 ++ wsX5_score__r2) ++ wsX50 ++ (vx_atN 8).filter goodWord ++ (vx_atM "java/lang/ArrayIndexOutOfBoundsException" ["java/lang/IndexOutOfBoundsException", "java/lang/RuntimeException", "java/lang/Exception"]).filter goodWord)
def wsX5_value_r1 : List Cond := [Cond.fieldLink RX5 70 "PairedTreesModel" "thrown" "I", Cond.fieldLink RX5 67 "PairedTreesModel" "trees" "I", Cond.methodLink RX5 73 yX5_in, Cond.static yX5_in, Cond.initialized RX5, Cond.code yX5_in cX5_in 3 (some .boolean), Cond.methodLink RX5 81 yX5_isAny, Cond.instanceMethod yX5_isAny, Cond.selects RX5 yX5_isAny yX5_isAny, Cond.code yX5_isAny cX5_isAny 2 (some .boolean), Cond.methodLink RX5 77 yX5_isThing, Cond.instanceMethod yX5_isThing, Cond.selects RX5 yX5_isThing yX5_isThing, Cond.code yX5_isThing cX5_isThing 2 (some .boolean), Cond.fieldLink RX5 63 "PairedTreesModel" "things" "I", Cond.methodLink RX5 92 yX5_valueBy, Cond.instanceMethod yX5_valueBy, Cond.selects RX5 yX5_valueBy yX5_valueBy, Cond.code yX5_valueBy cX5_valueBy 5 (some .int), Cond.fieldLink RX5 26 "PairedTreesModel" "sort" "[I", Cond.fieldLink RX5 29 "PairedTreesModel" "byOf" "[I", Cond.fieldLink RX5 32 "PairedTreesModel" "cutOf" "[I", Cond.fieldLink RX5 35 "PairedTreesModel" "sideOf" "[I", Cond.fieldLink RX5 38 "PairedTreesModel" "valueOf" "[I"]
def wsX5_value_r2 : List Cond := [Cond.methodLink RX5 88 yX5_goesLeft, Cond.instanceMethod yX5_goesLeft, Cond.selects RX5 yX5_goesLeft yX5_goesLeft, Cond.code yX5_goesLeft cX5_goesLeft 5 (some .boolean), Cond.fieldLink RX5 19 "PairedTreesModel" "has" "[Z", Cond.fieldLink RX5 16 "PairedTreesModel" "number" "[I", Cond.methodLink RX5 84 yX5_at, Cond.static yX5_at, Cond.code yX5_at cX5_at 1 (some .int)]
def wsX5_value : List Cond := .code yX5_value cX5_value 3 (some .int) :: ((wsX5_value_r1 ++ wsX5_value_r2) ++ wsX50 ++ (vx_atN 8).filter goodWord ++ (vx_atM "java/lang/ArrayIndexOutOfBoundsException" ["java/lang/IndexOutOfBoundsException", "java/lang/RuntimeException", "java/lang/Exception"]).filter goodWord)
def wsX5_push_r1 : List Cond := [Cond.fieldLink RX5 70 "PairedTreesModel" "thrown" "I", Cond.methodLink RX5 77 yX5_isThing, Cond.instanceMethod yX5_isThing, Cond.selects RX5 yX5_isThing yX5_isThing, Cond.initialized RX5, Cond.code yX5_isThing cX5_isThing 2 (some .boolean), Cond.fieldLink RX5 63 "PairedTreesModel" "things" "I", Cond.methodLink RX5 73 yX5_in, Cond.static yX5_in, Cond.code yX5_in cX5_in 3 (some .boolean), Cond.methodLink RX5 134 yX5_score, Cond.instanceMethod yX5_score, Cond.selects RX5 yX5_score yX5_score, Cond.code yX5_score cX5_score 2 none, Cond.fieldLink RX5 51 "PairedTreesModel" "scores" "[J", Cond.methodLink RX5 96 yX5_scoreOf, Cond.instanceMethod yX5_scoreOf, Cond.selects RX5 yX5_scoreOf yX5_scoreOf, Cond.code yX5_scoreOf cX5_scoreOf 5 (some .long), Cond.fieldLink RX5 67 "PairedTreesModel" "trees" "I", Cond.methodLink RX5 92 yX5_valueBy, Cond.instanceMethod yX5_valueBy, Cond.selects RX5 yX5_valueBy yX5_valueBy, Cond.code yX5_valueBy cX5_valueBy 5 (some .int)]
def wsX5_push_r2 : List Cond := [Cond.fieldLink RX5 26 "PairedTreesModel" "sort" "[I", Cond.fieldLink RX5 29 "PairedTreesModel" "byOf" "[I", Cond.fieldLink RX5 32 "PairedTreesModel" "cutOf" "[I", Cond.fieldLink RX5 35 "PairedTreesModel" "sideOf" "[I", Cond.fieldLink RX5 38 "PairedTreesModel" "valueOf" "[I", Cond.methodLink RX5 88 yX5_goesLeft, Cond.instanceMethod yX5_goesLeft, Cond.selects RX5 yX5_goesLeft yX5_goesLeft, Cond.code yX5_goesLeft cX5_goesLeft 5 (some .boolean), Cond.fieldLink RX5 19 "PairedTreesModel" "has" "[Z", Cond.fieldLink RX5 16 "PairedTreesModel" "number" "[I", Cond.methodLink RX5 84 yX5_at, Cond.static yX5_at, Cond.code yX5_at cX5_at 1 (some .int), Cond.methodLink RX5 137 yX5_pushOf, Cond.instanceMethod yX5_pushOf, Cond.selects RX5 yX5_pushOf yX5_pushOf, Cond.code yX5_pushOf cX5_pushOf 4 (some .int), Cond.fieldLink RX5 23 "PairedTreesModel" "settings" "[I", Cond.fieldLink RX5 13 "PairedTreesModel" "gradeOf" "[I", Cond.methodLink RX5 100 yX5_isPair, Cond.instanceMethod yX5_isPair, Cond.selects RX5 yX5_isPair yX5_isPair, Cond.code yX5_isPair cX5_isPair 3 (some .boolean)]
def wsX5_push_r3 : List Cond := [Cond.fieldLink RX5 7 "PairedTreesModel" "listOf" "[I"]
def wsX5_push : List Cond := .code yX5_push cX5_push 2 (some .int) :: ((wsX5_push_r1 ++ (wsX5_push_r2 ++ wsX5_push_r3)) ++ wsX50 ++ (vx_atN 8).filter goodWord ++ (vx_atM "java/lang/ArrayIndexOutOfBoundsException" ["java/lang/IndexOutOfBoundsException", "java/lang/RuntimeException", "java/lang/Exception"]).filter goodWord)
def wsX5_ranked_r1 : List Cond := [Cond.fieldLink RX5 70 "PairedTreesModel" "thrown" "I", Cond.fieldLink RX5 63 "PairedTreesModel" "things" "I", Cond.fieldLink RX5 51 "PairedTreesModel" "scores" "[J", Cond.fieldLink RX5 7 "PairedTreesModel" "listOf" "[I", Cond.methodLink RX5 73 yX5_in, Cond.static yX5_in, Cond.initialized RX5, Cond.code yX5_in cX5_in 3 (some .boolean), Cond.methodLink RX5 134 yX5_score, Cond.instanceMethod yX5_score, Cond.selects RX5 yX5_score yX5_score, Cond.code yX5_score cX5_score 2 none, Cond.methodLink RX5 96 yX5_scoreOf, Cond.instanceMethod yX5_scoreOf, Cond.selects RX5 yX5_scoreOf yX5_scoreOf, Cond.code yX5_scoreOf cX5_scoreOf 5 (some .long), Cond.fieldLink RX5 67 "PairedTreesModel" "trees" "I", Cond.methodLink RX5 92 yX5_valueBy, Cond.instanceMethod yX5_valueBy, Cond.selects RX5 yX5_valueBy yX5_valueBy, Cond.code yX5_valueBy cX5_valueBy 5 (some .int), Cond.fieldLink RX5 26 "PairedTreesModel" "sort" "[I", Cond.fieldLink RX5 29 "PairedTreesModel" "byOf" "[I", Cond.fieldLink RX5 32 "PairedTreesModel" "cutOf" "[I"]
def wsX5_ranked_r2 : List Cond := [Cond.fieldLink RX5 35 "PairedTreesModel" "sideOf" "[I", Cond.fieldLink RX5 38 "PairedTreesModel" "valueOf" "[I", Cond.methodLink RX5 88 yX5_goesLeft, Cond.instanceMethod yX5_goesLeft, Cond.selects RX5 yX5_goesLeft yX5_goesLeft, Cond.code yX5_goesLeft cX5_goesLeft 5 (some .boolean), Cond.fieldLink RX5 19 "PairedTreesModel" "has" "[Z", Cond.fieldLink RX5 16 "PairedTreesModel" "number" "[I", Cond.methodLink RX5 84 yX5_at, Cond.static yX5_at, Cond.code yX5_at cX5_at 1 (some .int)]
def wsX5_ranked : List Cond := .code yX5_ranked cX5_ranked 7 (some .int) :: ((wsX5_ranked_r1 ++ wsX5_ranked_r2) ++ wsX50 ++ (vx_atN 8).filter goodWord ++ (vx_atM "java/lang/ArrayIndexOutOfBoundsException" ["java/lang/IndexOutOfBoundsException", "java/lang/RuntimeException", "java/lang/Exception"]).filter goodWord)
def wsX5_countPairs_r1 : List Cond := [Cond.fieldLink RX5 63 "PairedTreesModel" "things" "I", Cond.fieldLink RX5 7 "PairedTreesModel" "listOf" "[I", Cond.fieldLink RX5 51 "PairedTreesModel" "scores" "[J", Cond.methodLink RX5 134 yX5_score, Cond.instanceMethod yX5_score, Cond.selects RX5 yX5_score yX5_score, Cond.initialized RX5, Cond.code yX5_score cX5_score 2 none, Cond.methodLink RX5 96 yX5_scoreOf, Cond.instanceMethod yX5_scoreOf, Cond.selects RX5 yX5_scoreOf yX5_scoreOf, Cond.code yX5_scoreOf cX5_scoreOf 5 (some .long), Cond.fieldLink RX5 67 "PairedTreesModel" "trees" "I", Cond.methodLink RX5 92 yX5_valueBy, Cond.instanceMethod yX5_valueBy, Cond.selects RX5 yX5_valueBy yX5_valueBy, Cond.code yX5_valueBy cX5_valueBy 5 (some .int), Cond.fieldLink RX5 26 "PairedTreesModel" "sort" "[I", Cond.fieldLink RX5 29 "PairedTreesModel" "byOf" "[I", Cond.fieldLink RX5 32 "PairedTreesModel" "cutOf" "[I", Cond.fieldLink RX5 35 "PairedTreesModel" "sideOf" "[I", Cond.fieldLink RX5 38 "PairedTreesModel" "valueOf" "[I", Cond.methodLink RX5 88 yX5_goesLeft, Cond.instanceMethod yX5_goesLeft]
def wsX5_countPairs_r2 : List Cond := [Cond.selects RX5 yX5_goesLeft yX5_goesLeft, Cond.code yX5_goesLeft cX5_goesLeft 5 (some .boolean), Cond.fieldLink RX5 19 "PairedTreesModel" "has" "[Z", Cond.fieldLink RX5 16 "PairedTreesModel" "number" "[I", Cond.methodLink RX5 84 yX5_at, Cond.static yX5_at, Cond.code yX5_at cX5_at 1 (some .int), Cond.methodLink RX5 100 yX5_isPair, Cond.instanceMethod yX5_isPair, Cond.selects RX5 yX5_isPair yX5_isPair, Cond.code yX5_isPair cX5_isPair 3 (some .boolean), Cond.fieldLink RX5 13 "PairedTreesModel" "gradeOf" "[I"]
def wsX5_countPairs : List Cond := .code yX5_countPairs cX5_countPairs 7 (some .int) :: ((wsX5_countPairs_r1 ++ wsX5_countPairs_r2) ++ wsX50 ++ (vx_atN 8).filter goodWord ++ (vx_atM "java/lang/ArrayIndexOutOfBoundsException" ["java/lang/IndexOutOfBoundsException", "java/lang/RuntimeException", "java/lang/Exception"]).filter goodWord)
def wsX5_pairs_r1 : List Cond := [Cond.fieldLink RX5 70 "PairedTreesModel" "thrown" "I", Cond.methodLink RX5 73 yX5_in, Cond.static yX5_in, Cond.initialized RX5, Cond.code yX5_in cX5_in 3 (some .boolean), Cond.methodLink RX5 151 yX5_countPairs, Cond.instanceMethod yX5_countPairs, Cond.selects RX5 yX5_countPairs yX5_countPairs, Cond.code yX5_countPairs cX5_countPairs 7 (some .int), Cond.fieldLink RX5 63 "PairedTreesModel" "things" "I", Cond.fieldLink RX5 7 "PairedTreesModel" "listOf" "[I", Cond.fieldLink RX5 51 "PairedTreesModel" "scores" "[J", Cond.methodLink RX5 134 yX5_score, Cond.instanceMethod yX5_score, Cond.selects RX5 yX5_score yX5_score, Cond.code yX5_score cX5_score 2 none, Cond.methodLink RX5 96 yX5_scoreOf, Cond.instanceMethod yX5_scoreOf, Cond.selects RX5 yX5_scoreOf yX5_scoreOf, Cond.code yX5_scoreOf cX5_scoreOf 5 (some .long), Cond.fieldLink RX5 67 "PairedTreesModel" "trees" "I", Cond.methodLink RX5 92 yX5_valueBy, Cond.instanceMethod yX5_valueBy, Cond.selects RX5 yX5_valueBy yX5_valueBy]
def wsX5_pairs_r2 : List Cond := [Cond.code yX5_valueBy cX5_valueBy 5 (some .int), Cond.fieldLink RX5 26 "PairedTreesModel" "sort" "[I", Cond.fieldLink RX5 29 "PairedTreesModel" "byOf" "[I", Cond.fieldLink RX5 32 "PairedTreesModel" "cutOf" "[I", Cond.fieldLink RX5 35 "PairedTreesModel" "sideOf" "[I", Cond.fieldLink RX5 38 "PairedTreesModel" "valueOf" "[I", Cond.methodLink RX5 88 yX5_goesLeft, Cond.instanceMethod yX5_goesLeft, Cond.selects RX5 yX5_goesLeft yX5_goesLeft, Cond.code yX5_goesLeft cX5_goesLeft 5 (some .boolean), Cond.fieldLink RX5 19 "PairedTreesModel" "has" "[Z", Cond.fieldLink RX5 16 "PairedTreesModel" "number" "[I", Cond.methodLink RX5 84 yX5_at, Cond.static yX5_at, Cond.code yX5_at cX5_at 1 (some .int), Cond.methodLink RX5 100 yX5_isPair, Cond.instanceMethod yX5_isPair, Cond.selects RX5 yX5_isPair yX5_isPair, Cond.code yX5_isPair cX5_isPair 3 (some .boolean), Cond.fieldLink RX5 13 "PairedTreesModel" "gradeOf" "[I"]
def wsX5_pairs : List Cond := .code yX5_pairs cX5_pairs 3 (some .int) :: ((wsX5_pairs_r1 ++ wsX5_pairs_r2) ++ wsX50 ++ (vx_atN 8).filter goodWord ++ (vx_atM "java/lang/ArrayIndexOutOfBoundsException" ["java/lang/IndexOutOfBoundsException", "java/lang/RuntimeException", "java/lang/Exception"]).filter goodWord)
def wsX5_share_r1 : List Cond := [Cond.fieldLink RX5 70 "PairedTreesModel" "thrown" "I", Cond.methodLink RX5 73 yX5_in, Cond.static yX5_in, Cond.initialized RX5, Cond.code yX5_in cX5_in 3 (some .boolean), Cond.methodLink RX5 151 yX5_countPairs, Cond.instanceMethod yX5_countPairs, Cond.selects RX5 yX5_countPairs yX5_countPairs, Cond.code yX5_countPairs cX5_countPairs 7 (some .int), Cond.fieldLink RX5 63 "PairedTreesModel" "things" "I", Cond.fieldLink RX5 7 "PairedTreesModel" "listOf" "[I", Cond.fieldLink RX5 51 "PairedTreesModel" "scores" "[J", Cond.methodLink RX5 134 yX5_score, Cond.instanceMethod yX5_score, Cond.selects RX5 yX5_score yX5_score, Cond.code yX5_score cX5_score 2 none, Cond.methodLink RX5 96 yX5_scoreOf, Cond.instanceMethod yX5_scoreOf, Cond.selects RX5 yX5_scoreOf yX5_scoreOf, Cond.code yX5_scoreOf cX5_scoreOf 5 (some .long), Cond.fieldLink RX5 67 "PairedTreesModel" "trees" "I", Cond.methodLink RX5 92 yX5_valueBy, Cond.instanceMethod yX5_valueBy, Cond.selects RX5 yX5_valueBy yX5_valueBy]
def wsX5_share_r2 : List Cond := [Cond.code yX5_valueBy cX5_valueBy 5 (some .int), Cond.fieldLink RX5 26 "PairedTreesModel" "sort" "[I", Cond.fieldLink RX5 29 "PairedTreesModel" "byOf" "[I", Cond.fieldLink RX5 32 "PairedTreesModel" "cutOf" "[I", Cond.fieldLink RX5 35 "PairedTreesModel" "sideOf" "[I", Cond.fieldLink RX5 38 "PairedTreesModel" "valueOf" "[I", Cond.methodLink RX5 88 yX5_goesLeft, Cond.instanceMethod yX5_goesLeft, Cond.selects RX5 yX5_goesLeft yX5_goesLeft, Cond.code yX5_goesLeft cX5_goesLeft 5 (some .boolean), Cond.fieldLink RX5 19 "PairedTreesModel" "has" "[Z", Cond.fieldLink RX5 16 "PairedTreesModel" "number" "[I", Cond.methodLink RX5 84 yX5_at, Cond.static yX5_at, Cond.code yX5_at cX5_at 1 (some .int), Cond.methodLink RX5 100 yX5_isPair, Cond.instanceMethod yX5_isPair, Cond.selects RX5 yX5_isPair yX5_isPair, Cond.code yX5_isPair cX5_isPair 3 (some .boolean), Cond.fieldLink RX5 13 "PairedTreesModel" "gradeOf" "[I"]
def wsX5_share : List Cond := .code yX5_share cX5_share 3 (some .int) :: ((wsX5_share_r1 ++ wsX5_share_r2) ++ wsX50 ++ (vx_atN 8).filter goodWord ++ (vx_atM "java/lang/ArithmeticException" ["java/lang/RuntimeException", "java/lang/Exception"]).filter goodWord ++ (vx_atM "java/lang/ArrayIndexOutOfBoundsException" ["java/lang/IndexOutOfBoundsException", "java/lang/RuntimeException", "java/lang/Exception"]).filter goodWord)
def wsX5_about : List Cond := .code yX5_about cX5_about 5 (some .int) :: ([.fieldLink RX5 70 "PairedTreesModel" "thrown" "I", .fieldLink RX5 63 "PairedTreesModel" "things" "I", .fieldLink RX5 67 "PairedTreesModel" "trees" "I", .fieldLink RX5 26 "PairedTreesModel" "sort" "[I", .fieldLink RX5 29 "PairedTreesModel" "byOf" "[I", .methodLink RX5 73 yX5_in, .static yX5_in, .initialized RX5, .code yX5_in cX5_in 3 (some .boolean)] ++ wsX50 ++ (vx_atM "java/lang/ArrayIndexOutOfBoundsException" ["java/lang/IndexOutOfBoundsException", "java/lang/RuntimeException", "java/lang/Exception"]).filter goodWord ++ (vx_atN 8).filter goodWord)
def wsX5_clear : List Cond := .code yX5_clear cX5_clear 2 (some .int) :: ([.fieldLink RX5 70 "PairedTreesModel" "thrown" "I", .fieldLink RX5 63 "PairedTreesModel" "things" "I", .methodLink RX5 60 yX5_begins, .instanceMethod yX5_begins, .selects RX5 yX5_begins yX5_begins, .initialized RX5, .code yX5_begins cX5_begins 2 none, .fieldLink RX5 67 "PairedTreesModel" "trees" "I", .fieldLink RX5 19 "PairedTreesModel" "has" "[Z", .fieldLink RX5 23 "PairedTreesModel" "settings" "[I"] ++ wsX50 ++ (vx_atN 8).filter goodWord ++ (vx_atM "java/lang/ArrayIndexOutOfBoundsException" ["java/lang/IndexOutOfBoundsException", "java/lang/RuntimeException", "java/lang/Exception"]).filter goodWord)
def wsJ2_newBytesLength_0f7a4 : List Cond := .code yJ2_newBytesLength_0f7a4 cJ2_newBytesLength_0f7a4 1 (some .int) :: ([.constant RJ2 20 (1073741823)])
def wsJ2_newBytesFor_77867 : List Cond := .code yJ2_newBytesFor_77867 cJ2_newBytesFor_77867 1 (some (.array .byte)) :: ([.arrayClass .byte, .methodLink RJ2 11 yJ2_newBytesLength_0f7a4, .static yJ2_newBytesLength_0f7a4, .initialized RJ2, .code yJ2_newBytesLength_0f7a4 cJ2_newBytesLength_0f7a4 1 (some .int), .constant RJ2 20 (1073741823)])
def wsJ5_init_d00df : List Cond := .code yJ5_init_d00df cJ5_init_d00df 2 none :: ([.methodLink RJ5 3 objectInit, .instanceMethod objectInit, .code objectInit ⟨#[0xb1]⟩ 1 none, .fieldLink RJ5 18 "java/lang/String" "COMPACT_STRINGS" "Z", .arrayClass .byte, .fieldLink RJ5 15 "java/lang/AbstractStringBuilder" "value" "[B", .fieldLink RJ5 22 "java/lang/AbstractStringBuilder" "coder" "B", .methodLink RJ5 26 yJ2_newBytesFor_77867, .static yJ2_newBytesFor_77867, .initialized RJ2, .code yJ2_newBytesFor_77867 cJ2_newBytesFor_77867 1 (some (.array .byte)), .methodLink RJ2 11 yJ2_newBytesLength_0f7a4, .static yJ2_newBytesLength_0f7a4, .code yJ2_newBytesLength_0f7a4 cJ2_newBytesLength_0f7a4 1 (some .int), .constant RJ2 20 (1073741823)] ++ wsJ40)
def wsJ5_length_8abf5 : List Cond := .code yJ5_length_8abf5 cJ5_length_8abf5 1 (some .int) :: ([.fieldLink RJ5 79 "java/lang/AbstractStringBuilder" "count" "I"] ++ wsJ40)
def wsJ8_hugeLength_7cf53 : List Cond := .code yJ8_hugeLength_7cf53 cJ8_hugeLength_7cf53 3 (some .int) :: ([.constant RJ8 200 (2147483639)])
def wsJ8_newLength_cabcc : List Cond := .code yJ8_newLength_cabcc cJ8_newLength_cabcc 4 (some .int) :: ([.methodLink RJ8 194 Lib.Math.max.name, .static Lib.Math.max.name, .initialized "java/lang/Math", .code Lib.Math.max.name Lib.Math.max.code 2 (some .int), .constant RJ8 200 (2147483639), .methodLink RJ8 201 yJ8_hugeLength_7cf53, .static yJ8_hugeLength_7cf53, .initialized RJ8, .code yJ8_hugeLength_7cf53 cJ8_hugeLength_7cf53 3 (some .int)])
def wsJ5_newCapacity_0f7a4 : List Cond := .code yJ5_newCapacity_0f7a4 cJ5_newCapacity_0f7a4 6 (some .int) :: ([.fieldLink RJ5 15 "java/lang/AbstractStringBuilder" "value" "[B", .fieldLink RJ5 22 "java/lang/AbstractStringBuilder" "coder" "B", .constant RJ5 39 (2147483647), .methodLink RJ5 114 yJ8_newLength_cabcc, .static yJ8_newLength_cabcc, .initialized RJ8, .code yJ8_newLength_cabcc cJ8_newLength_cabcc 4 (some .int), .methodLink RJ8 194 Lib.Math.max.name, .static Lib.Math.max.name, .initialized "java/lang/Math", .code Lib.Math.max.name Lib.Math.max.code 2 (some .int), .constant RJ8 200 (2147483639), .methodLink RJ8 201 yJ8_hugeLength_7cf53, .static yJ8_hugeLength_7cf53, .code yJ8_hugeLength_7cf53 cJ8_hugeLength_7cf53 3 (some .int)] ++ wsJ40)
def wsJ7_copyOf_9075b : List Cond := .code yJ7_copyOf_9075b cJ7_copyOf_9075b 3 (some (.array .byte)) :: ([.methodLink RJ7 310 ⟨"[B", "clone", "()Ljava/lang/Object;"⟩, .sameMethod "[B" "java/lang/Object" "clone" "()Ljava/lang/Object;", .native ⟨"java/lang/Object", "clone", "()Ljava/lang/Object;"⟩, .instanceMethod ⟨"java/lang/Object", "clone", "()Ljava/lang/Object;"⟩, .selects "[B" ⟨"[B", "clone", "()Ljava/lang/Object;"⟩ ⟨"java/lang/Object", "clone", "()Ljava/lang/Object;"⟩, .classLink RJ7 311 "[B", .arrayClass .byte, .methodLink RJ7 304 Lib.Math.min.name, .static Lib.Math.min.name, .initialized "java/lang/Math", .code Lib.Math.min.name Lib.Math.min.code 2 (some .int), .methodLink RJ7 150 arraycopyName, .native arraycopyName, .static arraycopyName, .initialized "java/lang/System"])
def wsJ5_ensureCapacityInternal_d00df_r1 : List Cond := [Cond.fieldLink RJ5 15 "java/lang/AbstractStringBuilder" "value" "[B", Cond.fieldLink RJ5 22 "java/lang/AbstractStringBuilder" "coder" "B", Cond.methodLink RJ5 104 ⟨"java/lang/AbstractStringBuilder", "newCapacity", "(I)I"⟩, Cond.sameMethod "java/lang/AbstractStringBuilder" "java/lang/AbstractStringBuilder" "newCapacity" "(I)I", Cond.selects RJ4 ⟨"java/lang/AbstractStringBuilder", "newCapacity", "(I)I"⟩ yJ5_newCapacity_0f7a4, Cond.instanceMethod yJ5_newCapacity_0f7a4, Cond.initialized RJ5, Cond.code yJ5_newCapacity_0f7a4 cJ5_newCapacity_0f7a4 6 (some .int), Cond.constant RJ5 39 (2147483647), Cond.methodLink RJ5 114 yJ8_newLength_cabcc, Cond.static yJ8_newLength_cabcc, Cond.initialized RJ8, Cond.code yJ8_newLength_cabcc cJ8_newLength_cabcc 4 (some .int), Cond.methodLink RJ8 194 Lib.Math.max.name, Cond.static Lib.Math.max.name, Cond.initialized "java/lang/Math", Cond.code Lib.Math.max.name Lib.Math.max.code 2 (some .int), Cond.constant RJ8 200 (2147483639), Cond.methodLink RJ8 201 yJ8_hugeLength_7cf53, Cond.static yJ8_hugeLength_7cf53, Cond.code yJ8_hugeLength_7cf53 cJ8_hugeLength_7cf53 3 (some .int), Cond.methodLink RJ5 108 yJ7_copyOf_9075b, Cond.static yJ7_copyOf_9075b, Cond.initialized RJ7]
def wsJ5_ensureCapacityInternal_d00df_r2 : List Cond := [Cond.code yJ7_copyOf_9075b cJ7_copyOf_9075b 3 (some (.array .byte)), Cond.methodLink RJ7 310 ⟨"[B", "clone", "()Ljava/lang/Object;"⟩, Cond.sameMethod "[B" "java/lang/Object" "clone" "()Ljava/lang/Object;", Cond.native ⟨"java/lang/Object", "clone", "()Ljava/lang/Object;"⟩, Cond.instanceMethod ⟨"java/lang/Object", "clone", "()Ljava/lang/Object;"⟩, Cond.selects "[B" ⟨"[B", "clone", "()Ljava/lang/Object;"⟩ ⟨"java/lang/Object", "clone", "()Ljava/lang/Object;"⟩, Cond.classLink RJ7 311 "[B", Cond.arrayClass .byte, Cond.methodLink RJ7 304 Lib.Math.min.name, Cond.static Lib.Math.min.name, Cond.code Lib.Math.min.name Lib.Math.min.code 2 (some .int), Cond.methodLink RJ7 150 arraycopyName, Cond.native arraycopyName, Cond.static arraycopyName, Cond.initialized "java/lang/System"]
def wsJ5_ensureCapacityInternal_d00df : List Cond := .code yJ5_ensureCapacityInternal_d00df cJ5_ensureCapacityInternal_d00df 3 none :: ((wsJ5_ensureCapacityInternal_d00df_r1 ++ wsJ5_ensureCapacityInternal_d00df_r2) ++ wsJ40)
def wsJ5_isLatin1_aae02 : List Cond := .code yJ5_isLatin1_aae02 cJ5_isLatin1_aae02 1 (some .boolean) :: ([.fieldLink RJ5 18 "java/lang/String" "COMPACT_STRINGS" "Z", .fieldLink RJ5 22 "java/lang/AbstractStringBuilder" "coder" "B"] ++ wsJ40)
def wsJ2_length_9d52b : List Cond := .code yJ2_length_9d52b cJ2_length_9d52b 1 (some .int) :: ([])
def wsJ3_checkFromIndexSize_8c36e : List Cond := .code yJ3_checkFromIndexSize_8c36e cJ3_checkFromIndexSize_8c36e 4 (some .int) :: ([])
def wsJ0_checkBoundsOffCount_cabcc : List Cond := .code yJ0_checkBoundsOffCount_cabcc cJ0_checkBoundsOffCount_cabcc 3 (some .int) :: ([.fieldLink RJ0 1053 "jdk/internal/util/Preconditions" "SIOOBE_FORMATTER" "Ljava/util/function/BiFunction;", .methodLink RJ0 1065 yJ3_checkFromIndexSize_8c36e, .static yJ3_checkFromIndexSize_8c36e, .initialized RJ3, .code yJ3_checkFromIndexSize_8c36e cJ3_checkFromIndexSize_8c36e 4 (some .int)])
def wsJ2_checkBoundsOffCount_d044e : List Cond := .code yJ2_checkBoundsOffCount_d044e cJ2_checkBoundsOffCount_d044e 3 none :: ([.methodLink RJ2 48 yJ2_length_9d52b, .static yJ2_length_9d52b, .initialized RJ2, .code yJ2_length_9d52b cJ2_length_9d52b 1 (some .int), .methodLink RJ2 419 yJ0_checkBoundsOffCount_cabcc, .static yJ0_checkBoundsOffCount_cabcc, .initialized RJ0, .code yJ0_checkBoundsOffCount_cabcc cJ0_checkBoundsOffCount_cabcc 3 (some .int), .fieldLink RJ0 1053 "jdk/internal/util/Preconditions" "SIOOBE_FORMATTER" "Ljava/util/function/BiFunction;", .methodLink RJ0 1065 yJ3_checkFromIndexSize_8c36e, .static yJ3_checkFromIndexSize_8c36e, .initialized RJ3, .code yJ3_checkFromIndexSize_8c36e cJ3_checkFromIndexSize_8c36e 4 (some .int)])
def wsJ2_putChar_b72d1 : List Cond := .code yJ2_putChar_b72d1 cJ2_putChar_b72d1 3 none :: ([.fieldLink RJ2 44 "java/lang/StringUTF16" "$assertionsDisabled" "Z", .fieldLink RJ2 59 "java/lang/StringUTF16" "HI_BYTE_SHIFT" "I", .fieldLink RJ2 63 "java/lang/StringUTF16" "LO_BYTE_SHIFT" "I", .methodLink RJ2 48 yJ2_length_9d52b, .static yJ2_length_9d52b, .initialized RJ2, .code yJ2_length_9d52b cJ2_length_9d52b 1 (some .int)])
def wsJ2_inflate_0e8fd : List Cond := .code yJ2_inflate_0e8fd cJ2_inflate_0e8fd 6 none :: ([.methodLink RJ2 173 yJ2_checkBoundsOffCount_d044e, .static yJ2_checkBoundsOffCount_d044e, .initialized RJ2, .code yJ2_checkBoundsOffCount_d044e cJ2_checkBoundsOffCount_d044e 3 none, .methodLink RJ2 48 yJ2_length_9d52b, .static yJ2_length_9d52b, .code yJ2_length_9d52b cJ2_length_9d52b 1 (some .int), .methodLink RJ2 419 yJ0_checkBoundsOffCount_cabcc, .static yJ0_checkBoundsOffCount_cabcc, .initialized RJ0, .code yJ0_checkBoundsOffCount_cabcc cJ0_checkBoundsOffCount_cabcc 3 (some .int), .fieldLink RJ0 1053 "jdk/internal/util/Preconditions" "SIOOBE_FORMATTER" "Ljava/util/function/BiFunction;", .methodLink RJ0 1065 yJ3_checkFromIndexSize_8c36e, .static yJ3_checkFromIndexSize_8c36e, .initialized RJ3, .code yJ3_checkFromIndexSize_8c36e cJ3_checkFromIndexSize_8c36e 4 (some .int), .methodLink RJ2 111 yJ2_putChar_b72d1, .static yJ2_putChar_b72d1, .code yJ2_putChar_b72d1 cJ2_putChar_b72d1 3 none, .fieldLink RJ2 44 "java/lang/StringUTF16" "$assertionsDisabled" "Z", .fieldLink RJ2 59 "java/lang/StringUTF16" "HI_BYTE_SHIFT" "I", .fieldLink RJ2 63 "java/lang/StringUTF16" "LO_BYTE_SHIFT" "I"])
def wsJ1_inflate_0e8fd_r1 : List Cond := [Cond.methodLink RJ1 240 yJ2_inflate_0e8fd, Cond.static yJ2_inflate_0e8fd, Cond.initialized RJ2, Cond.code yJ2_inflate_0e8fd cJ2_inflate_0e8fd 6 none, Cond.methodLink RJ2 173 yJ2_checkBoundsOffCount_d044e, Cond.static yJ2_checkBoundsOffCount_d044e, Cond.code yJ2_checkBoundsOffCount_d044e cJ2_checkBoundsOffCount_d044e 3 none, Cond.methodLink RJ2 48 yJ2_length_9d52b, Cond.static yJ2_length_9d52b, Cond.code yJ2_length_9d52b cJ2_length_9d52b 1 (some .int), Cond.methodLink RJ2 419 yJ0_checkBoundsOffCount_cabcc, Cond.static yJ0_checkBoundsOffCount_cabcc, Cond.initialized RJ0, Cond.code yJ0_checkBoundsOffCount_cabcc cJ0_checkBoundsOffCount_cabcc 3 (some .int), Cond.fieldLink RJ0 1053 "jdk/internal/util/Preconditions" "SIOOBE_FORMATTER" "Ljava/util/function/BiFunction;", Cond.methodLink RJ0 1065 yJ3_checkFromIndexSize_8c36e, Cond.static yJ3_checkFromIndexSize_8c36e, Cond.initialized RJ3, Cond.code yJ3_checkFromIndexSize_8c36e cJ3_checkFromIndexSize_8c36e 4 (some .int), Cond.methodLink RJ2 111 yJ2_putChar_b72d1, Cond.static yJ2_putChar_b72d1, Cond.code yJ2_putChar_b72d1 cJ2_putChar_b72d1 3 none, Cond.fieldLink RJ2 44 "java/lang/StringUTF16" "$assertionsDisabled" "Z", Cond.fieldLink RJ2 59 "java/lang/StringUTF16" "HI_BYTE_SHIFT" "I"]
def wsJ1_inflate_0e8fd_r2 : List Cond := [Cond.fieldLink RJ2 63 "java/lang/StringUTF16" "LO_BYTE_SHIFT" "I"]
def wsJ1_inflate_0e8fd : List Cond := .code yJ1_inflate_0e8fd cJ1_inflate_0e8fd 5 none :: ((wsJ1_inflate_0e8fd_r1 ++ wsJ1_inflate_0e8fd_r2))
def wsJ5_inflate_da8c8_r1 : List Cond := [Cond.fieldLink RJ5 15 "java/lang/AbstractStringBuilder" "value" "[B", Cond.fieldLink RJ5 79 "java/lang/AbstractStringBuilder" "count" "I", Cond.fieldLink RJ5 22 "java/lang/AbstractStringBuilder" "coder" "B", Cond.methodLink RJ5 83 ⟨"java/lang/AbstractStringBuilder", "isLatin1", "()Z"⟩, Cond.sameMethod "java/lang/AbstractStringBuilder" "java/lang/AbstractStringBuilder" "isLatin1" "()Z", Cond.selects RJ4 ⟨"java/lang/AbstractStringBuilder", "isLatin1", "()Z"⟩ yJ5_isLatin1_aae02, Cond.instanceMethod yJ5_isLatin1_aae02, Cond.initialized RJ5, Cond.code yJ5_isLatin1_aae02 cJ5_isLatin1_aae02 1 (some .boolean), Cond.fieldLink RJ5 18 "java/lang/String" "COMPACT_STRINGS" "Z", Cond.methodLink RJ5 26 yJ2_newBytesFor_77867, Cond.static yJ2_newBytesFor_77867, Cond.initialized RJ2, Cond.code yJ2_newBytesFor_77867 cJ2_newBytesFor_77867 1 (some (.array .byte)), Cond.arrayClass .byte, Cond.methodLink RJ2 11 yJ2_newBytesLength_0f7a4, Cond.static yJ2_newBytesLength_0f7a4, Cond.code yJ2_newBytesLength_0f7a4 cJ2_newBytesLength_0f7a4 1 (some .int), Cond.constant RJ2 20 (1073741823), Cond.methodLink RJ5 125 yJ1_inflate_0e8fd, Cond.static yJ1_inflate_0e8fd, Cond.initialized RJ1, Cond.code yJ1_inflate_0e8fd cJ1_inflate_0e8fd 5 none, Cond.methodLink RJ1 240 yJ2_inflate_0e8fd]
def wsJ5_inflate_da8c8_r2 : List Cond := [Cond.static yJ2_inflate_0e8fd, Cond.code yJ2_inflate_0e8fd cJ2_inflate_0e8fd 6 none, Cond.methodLink RJ2 173 yJ2_checkBoundsOffCount_d044e, Cond.static yJ2_checkBoundsOffCount_d044e, Cond.code yJ2_checkBoundsOffCount_d044e cJ2_checkBoundsOffCount_d044e 3 none, Cond.methodLink RJ2 48 yJ2_length_9d52b, Cond.static yJ2_length_9d52b, Cond.code yJ2_length_9d52b cJ2_length_9d52b 1 (some .int), Cond.methodLink RJ2 419 yJ0_checkBoundsOffCount_cabcc, Cond.static yJ0_checkBoundsOffCount_cabcc, Cond.initialized RJ0, Cond.code yJ0_checkBoundsOffCount_cabcc cJ0_checkBoundsOffCount_cabcc 3 (some .int), Cond.fieldLink RJ0 1053 "jdk/internal/util/Preconditions" "SIOOBE_FORMATTER" "Ljava/util/function/BiFunction;", Cond.methodLink RJ0 1065 yJ3_checkFromIndexSize_8c36e, Cond.static yJ3_checkFromIndexSize_8c36e, Cond.initialized RJ3, Cond.code yJ3_checkFromIndexSize_8c36e cJ3_checkFromIndexSize_8c36e 4 (some .int), Cond.methodLink RJ2 111 yJ2_putChar_b72d1, Cond.static yJ2_putChar_b72d1, Cond.code yJ2_putChar_b72d1 cJ2_putChar_b72d1 3 none, Cond.fieldLink RJ2 44 "java/lang/StringUTF16" "$assertionsDisabled" "Z", Cond.fieldLink RJ2 59 "java/lang/StringUTF16" "HI_BYTE_SHIFT" "I", Cond.fieldLink RJ2 63 "java/lang/StringUTF16" "LO_BYTE_SHIFT" "I"]
def wsJ5_inflate_da8c8 : List Cond := .code yJ5_inflate_da8c8 cJ5_inflate_da8c8 2 none :: ((wsJ5_inflate_da8c8_r1 ++ wsJ5_inflate_da8c8_r2) ++ wsJ40)
def wsJ3_checkFromToIndex_8c36e : List Cond := .code yJ3_checkFromToIndex_8c36e cJ3_checkFromToIndex_8c36e 4 (some .int) :: ([])
def wsJ0_checkBoundsBeginEnd_23922 : List Cond := .code yJ0_checkBoundsBeginEnd_23922 cJ0_checkBoundsBeginEnd_23922 3 none :: ([.fieldLink RJ0 1053 "jdk/internal/util/Preconditions" "SIOOBE_FORMATTER" "Ljava/util/function/BiFunction;", .methodLink RJ0 1062 yJ3_checkFromToIndex_8c36e, .static yJ3_checkFromToIndex_8c36e, .initialized RJ3, .code yJ3_checkFromToIndex_8c36e cJ3_checkFromToIndex_8c36e 4 (some .int)])
def wsJ2_checkBoundsBeginEnd_d044e : List Cond := .code yJ2_checkBoundsBeginEnd_d044e cJ2_checkBoundsBeginEnd_d044e 3 none :: ([.methodLink RJ2 48 yJ2_length_9d52b, .static yJ2_length_9d52b, .initialized RJ2, .code yJ2_length_9d52b cJ2_length_9d52b 1 (some .int), .methodLink RJ2 241 yJ0_checkBoundsBeginEnd_23922, .static yJ0_checkBoundsBeginEnd_23922, .initialized RJ0, .code yJ0_checkBoundsBeginEnd_23922 cJ0_checkBoundsBeginEnd_23922 3 none, .fieldLink RJ0 1053 "jdk/internal/util/Preconditions" "SIOOBE_FORMATTER" "Ljava/util/function/BiFunction;", .methodLink RJ0 1062 yJ3_checkFromToIndex_8c36e, .static yJ3_checkFromToIndex_8c36e, .initialized RJ3, .code yJ3_checkFromToIndex_8c36e cJ3_checkFromToIndex_8c36e 4 (some .int)])
def wsJ2_putCharsAt_cd4e5 : List Cond := .code yJ2_putCharsAt_cd4e5 cJ2_putCharsAt_cd4e5 7 (some .int) :: ([.fieldLink RJ2 44 "java/lang/StringUTF16" "$assertionsDisabled" "Z", .methodLink RJ2 96 yJ2_checkBoundsBeginEnd_d044e, .static yJ2_checkBoundsBeginEnd_d044e, .initialized RJ2, .code yJ2_checkBoundsBeginEnd_d044e cJ2_checkBoundsBeginEnd_d044e 3 none, .methodLink RJ2 48 yJ2_length_9d52b, .static yJ2_length_9d52b, .code yJ2_length_9d52b cJ2_length_9d52b 1 (some .int), .methodLink RJ2 241 yJ0_checkBoundsBeginEnd_23922, .static yJ0_checkBoundsBeginEnd_23922, .initialized RJ0, .code yJ0_checkBoundsBeginEnd_23922 cJ0_checkBoundsBeginEnd_23922 3 none, .fieldLink RJ0 1053 "jdk/internal/util/Preconditions" "SIOOBE_FORMATTER" "Ljava/util/function/BiFunction;", .methodLink RJ0 1062 yJ3_checkFromToIndex_8c36e, .static yJ3_checkFromToIndex_8c36e, .initialized RJ3, .code yJ3_checkFromToIndex_8c36e cJ3_checkFromToIndex_8c36e 4 (some .int), .methodLink RJ2 111 yJ2_putChar_b72d1, .static yJ2_putChar_b72d1, .code yJ2_putChar_b72d1 cJ2_putChar_b72d1 3 none, .fieldLink RJ2 59 "java/lang/StringUTF16" "HI_BYTE_SHIFT" "I", .fieldLink RJ2 63 "java/lang/StringUTF16" "LO_BYTE_SHIFT" "I"])
def wsJ5_appendNull_278bc_r1 : List Cond := [Cond.fieldLink RJ5 79 "java/lang/AbstractStringBuilder" "count" "I", Cond.fieldLink RJ5 15 "java/lang/AbstractStringBuilder" "value" "[B", Cond.methodLink RJ5 100 ⟨"java/lang/AbstractStringBuilder", "ensureCapacityInternal", "(I)V"⟩, Cond.sameMethod "java/lang/AbstractStringBuilder" "java/lang/AbstractStringBuilder" "ensureCapacityInternal" "(I)V", Cond.selects RJ4 ⟨"java/lang/AbstractStringBuilder", "ensureCapacityInternal", "(I)V"⟩ yJ5_ensureCapacityInternal_d00df, Cond.instanceMethod yJ5_ensureCapacityInternal_d00df, Cond.initialized RJ5, Cond.code yJ5_ensureCapacityInternal_d00df cJ5_ensureCapacityInternal_d00df 3 none, Cond.fieldLink RJ5 22 "java/lang/AbstractStringBuilder" "coder" "B", Cond.methodLink RJ5 104 ⟨"java/lang/AbstractStringBuilder", "newCapacity", "(I)I"⟩, Cond.sameMethod "java/lang/AbstractStringBuilder" "java/lang/AbstractStringBuilder" "newCapacity" "(I)I", Cond.selects RJ4 ⟨"java/lang/AbstractStringBuilder", "newCapacity", "(I)I"⟩ yJ5_newCapacity_0f7a4, Cond.instanceMethod yJ5_newCapacity_0f7a4, Cond.code yJ5_newCapacity_0f7a4 cJ5_newCapacity_0f7a4 6 (some .int), Cond.constant RJ5 39 (2147483647), Cond.methodLink RJ5 114 yJ8_newLength_cabcc, Cond.static yJ8_newLength_cabcc, Cond.initialized RJ8, Cond.code yJ8_newLength_cabcc cJ8_newLength_cabcc 4 (some .int), Cond.methodLink RJ8 194 Lib.Math.max.name, Cond.static Lib.Math.max.name, Cond.initialized "java/lang/Math", Cond.code Lib.Math.max.name Lib.Math.max.code 2 (some .int), Cond.constant RJ8 200 (2147483639)]
def wsJ5_appendNull_278bc_r2 : List Cond := [Cond.methodLink RJ8 201 yJ8_hugeLength_7cf53, Cond.static yJ8_hugeLength_7cf53, Cond.code yJ8_hugeLength_7cf53 cJ8_hugeLength_7cf53 3 (some .int), Cond.methodLink RJ5 108 yJ7_copyOf_9075b, Cond.static yJ7_copyOf_9075b, Cond.initialized RJ7, Cond.code yJ7_copyOf_9075b cJ7_copyOf_9075b 3 (some (.array .byte)), Cond.methodLink RJ7 310 ⟨"[B", "clone", "()Ljava/lang/Object;"⟩, Cond.sameMethod "[B" "java/lang/Object" "clone" "()Ljava/lang/Object;", Cond.native ⟨"java/lang/Object", "clone", "()Ljava/lang/Object;"⟩, Cond.instanceMethod ⟨"java/lang/Object", "clone", "()Ljava/lang/Object;"⟩, Cond.selects "[B" ⟨"[B", "clone", "()Ljava/lang/Object;"⟩ ⟨"java/lang/Object", "clone", "()Ljava/lang/Object;"⟩, Cond.classLink RJ7 311 "[B", Cond.arrayClass .byte, Cond.methodLink RJ7 304 Lib.Math.min.name, Cond.static Lib.Math.min.name, Cond.code Lib.Math.min.name Lib.Math.min.code 2 (some .int), Cond.methodLink RJ7 150 arraycopyName, Cond.native arraycopyName, Cond.static arraycopyName, Cond.initialized "java/lang/System", Cond.methodLink RJ5 83 ⟨"java/lang/AbstractStringBuilder", "isLatin1", "()Z"⟩, Cond.sameMethod "java/lang/AbstractStringBuilder" "java/lang/AbstractStringBuilder" "isLatin1" "()Z", Cond.selects RJ4 ⟨"java/lang/AbstractStringBuilder", "isLatin1", "()Z"⟩ yJ5_isLatin1_aae02]
def wsJ5_appendNull_278bc_r3 : List Cond := [Cond.instanceMethod yJ5_isLatin1_aae02, Cond.code yJ5_isLatin1_aae02 cJ5_isLatin1_aae02 1 (some .boolean), Cond.fieldLink RJ5 18 "java/lang/String" "COMPACT_STRINGS" "Z", Cond.methodLink RJ5 226 yJ2_putCharsAt_cd4e5, Cond.static yJ2_putCharsAt_cd4e5, Cond.initialized RJ2, Cond.code yJ2_putCharsAt_cd4e5 cJ2_putCharsAt_cd4e5 7 (some .int), Cond.fieldLink RJ2 44 "java/lang/StringUTF16" "$assertionsDisabled" "Z", Cond.methodLink RJ2 96 yJ2_checkBoundsBeginEnd_d044e, Cond.static yJ2_checkBoundsBeginEnd_d044e, Cond.code yJ2_checkBoundsBeginEnd_d044e cJ2_checkBoundsBeginEnd_d044e 3 none, Cond.methodLink RJ2 48 yJ2_length_9d52b, Cond.static yJ2_length_9d52b, Cond.code yJ2_length_9d52b cJ2_length_9d52b 1 (some .int), Cond.methodLink RJ2 241 yJ0_checkBoundsBeginEnd_23922, Cond.static yJ0_checkBoundsBeginEnd_23922, Cond.initialized RJ0, Cond.code yJ0_checkBoundsBeginEnd_23922 cJ0_checkBoundsBeginEnd_23922 3 none, Cond.fieldLink RJ0 1053 "jdk/internal/util/Preconditions" "SIOOBE_FORMATTER" "Ljava/util/function/BiFunction;", Cond.methodLink RJ0 1062 yJ3_checkFromToIndex_8c36e, Cond.static yJ3_checkFromToIndex_8c36e, Cond.initialized RJ3, Cond.code yJ3_checkFromToIndex_8c36e cJ3_checkFromToIndex_8c36e 4 (some .int), Cond.methodLink RJ2 111 yJ2_putChar_b72d1]
def wsJ5_appendNull_278bc_r4 : List Cond := [Cond.static yJ2_putChar_b72d1, Cond.code yJ2_putChar_b72d1 cJ2_putChar_b72d1 3 none, Cond.fieldLink RJ2 59 "java/lang/StringUTF16" "HI_BYTE_SHIFT" "I", Cond.fieldLink RJ2 63 "java/lang/StringUTF16" "LO_BYTE_SHIFT" "I"]
def wsJ5_appendNull_278bc : List Cond := .code yJ5_appendNull_278bc cJ5_appendNull_278bc 3 (some (.object "java/lang/AbstractStringBuilder")) :: ((wsJ5_appendNull_278bc_r1 ++ (wsJ5_appendNull_278bc_r2 ++ (wsJ5_appendNull_278bc_r3 ++ wsJ5_appendNull_278bc_r4))) ++ wsJ40)
def wsJ0_coder_7d493 : List Cond := .code yJ0_coder_7d493 cJ0_coder_7d493 1 (some .byte) :: ([.fieldLink RJ0 38 "java/lang/String" "COMPACT_STRINGS" "Z", .fieldLink RJ0 15 "java/lang/String" "coder" "B"] ++ wsJ00)
def wsJ0_length_8abf5 : List Cond := .code yJ0_length_8abf5 cJ0_length_8abf5 1 (some .int) :: ([.fieldLink RJ0 9 "java/lang/String" "value" "[B", .methodLink RJ0 335 yJ0_coder_7d493, .instanceMethod yJ0_coder_7d493, .selects RJ0 yJ0_coder_7d493 yJ0_coder_7d493, .initialized RJ0, .code yJ0_coder_7d493 cJ0_coder_7d493 1 (some .byte), .fieldLink RJ0 38 "java/lang/String" "COMPACT_STRINGS" "Z", .fieldLink RJ0 15 "java/lang/String" "coder" "B"] ++ wsJ00)
def wsJ5_inflateIfNeededFor_a7421_r1 : List Cond := [Cond.fieldLink RJ5 18 "java/lang/String" "COMPACT_STRINGS" "Z", Cond.fieldLink RJ5 22 "java/lang/AbstractStringBuilder" "coder" "B", Cond.methodLink RJ5 40 yJ0_coder_7d493, Cond.instanceMethod yJ0_coder_7d493, Cond.selects RJ0 yJ0_coder_7d493 yJ0_coder_7d493, Cond.initialized RJ0, Cond.code yJ0_coder_7d493 cJ0_coder_7d493 1 (some .byte), Cond.fieldLink RJ0 38 "java/lang/String" "COMPACT_STRINGS" "Z", Cond.fieldLink RJ0 15 "java/lang/String" "coder" "B", Cond.methodLink RJ5 195 ⟨"java/lang/AbstractStringBuilder", "inflate", "()V"⟩, Cond.sameMethod "java/lang/AbstractStringBuilder" "java/lang/AbstractStringBuilder" "inflate" "()V", Cond.selects RJ4 ⟨"java/lang/AbstractStringBuilder", "inflate", "()V"⟩ yJ5_inflate_da8c8, Cond.instanceMethod yJ5_inflate_da8c8, Cond.initialized RJ5, Cond.code yJ5_inflate_da8c8 cJ5_inflate_da8c8 2 none, Cond.fieldLink RJ5 15 "java/lang/AbstractStringBuilder" "value" "[B", Cond.fieldLink RJ5 79 "java/lang/AbstractStringBuilder" "count" "I", Cond.methodLink RJ5 83 ⟨"java/lang/AbstractStringBuilder", "isLatin1", "()Z"⟩, Cond.sameMethod "java/lang/AbstractStringBuilder" "java/lang/AbstractStringBuilder" "isLatin1" "()Z", Cond.selects RJ4 ⟨"java/lang/AbstractStringBuilder", "isLatin1", "()Z"⟩ yJ5_isLatin1_aae02, Cond.instanceMethod yJ5_isLatin1_aae02, Cond.code yJ5_isLatin1_aae02 cJ5_isLatin1_aae02 1 (some .boolean), Cond.methodLink RJ5 26 yJ2_newBytesFor_77867, Cond.static yJ2_newBytesFor_77867]
def wsJ5_inflateIfNeededFor_a7421_r2 : List Cond := [Cond.initialized RJ2, Cond.code yJ2_newBytesFor_77867 cJ2_newBytesFor_77867 1 (some (.array .byte)), Cond.arrayClass .byte, Cond.methodLink RJ2 11 yJ2_newBytesLength_0f7a4, Cond.static yJ2_newBytesLength_0f7a4, Cond.code yJ2_newBytesLength_0f7a4 cJ2_newBytesLength_0f7a4 1 (some .int), Cond.constant RJ2 20 (1073741823), Cond.methodLink RJ5 125 yJ1_inflate_0e8fd, Cond.static yJ1_inflate_0e8fd, Cond.initialized RJ1, Cond.code yJ1_inflate_0e8fd cJ1_inflate_0e8fd 5 none, Cond.methodLink RJ1 240 yJ2_inflate_0e8fd, Cond.static yJ2_inflate_0e8fd, Cond.code yJ2_inflate_0e8fd cJ2_inflate_0e8fd 6 none, Cond.methodLink RJ2 173 yJ2_checkBoundsOffCount_d044e, Cond.static yJ2_checkBoundsOffCount_d044e, Cond.code yJ2_checkBoundsOffCount_d044e cJ2_checkBoundsOffCount_d044e 3 none, Cond.methodLink RJ2 48 yJ2_length_9d52b, Cond.static yJ2_length_9d52b, Cond.code yJ2_length_9d52b cJ2_length_9d52b 1 (some .int), Cond.methodLink RJ2 419 yJ0_checkBoundsOffCount_cabcc, Cond.static yJ0_checkBoundsOffCount_cabcc, Cond.code yJ0_checkBoundsOffCount_cabcc cJ0_checkBoundsOffCount_cabcc 3 (some .int), Cond.fieldLink RJ0 1053 "jdk/internal/util/Preconditions" "SIOOBE_FORMATTER" "Ljava/util/function/BiFunction;"]
def wsJ5_inflateIfNeededFor_a7421_r3 : List Cond := [Cond.methodLink RJ0 1065 yJ3_checkFromIndexSize_8c36e, Cond.static yJ3_checkFromIndexSize_8c36e, Cond.initialized RJ3, Cond.code yJ3_checkFromIndexSize_8c36e cJ3_checkFromIndexSize_8c36e 4 (some .int), Cond.methodLink RJ2 111 yJ2_putChar_b72d1, Cond.static yJ2_putChar_b72d1, Cond.code yJ2_putChar_b72d1 cJ2_putChar_b72d1 3 none, Cond.fieldLink RJ2 44 "java/lang/StringUTF16" "$assertionsDisabled" "Z", Cond.fieldLink RJ2 59 "java/lang/StringUTF16" "HI_BYTE_SHIFT" "I", Cond.fieldLink RJ2 63 "java/lang/StringUTF16" "LO_BYTE_SHIFT" "I"]
def wsJ5_inflateIfNeededFor_a7421 : List Cond := .code yJ5_inflateIfNeededFor_a7421 cJ5_inflateIfNeededFor_a7421 2 none :: ((wsJ5_inflateIfNeededFor_a7421_r1 ++ (wsJ5_inflateIfNeededFor_a7421_r2 ++ wsJ5_inflateIfNeededFor_a7421_r3)) ++ wsJ40 ++ wsJ00)
def wsJ0_getBytes_840e7_r1 : List Cond := [Cond.fieldLink RJ0 9 "java/lang/String" "value" "[B", Cond.methodLink RJ0 212 arraycopyName, Cond.native arraycopyName, Cond.static arraycopyName, Cond.initialized "java/lang/System", Cond.methodLink RJ0 335 yJ0_coder_7d493, Cond.instanceMethod yJ0_coder_7d493, Cond.selects RJ0 yJ0_coder_7d493 yJ0_coder_7d493, Cond.initialized RJ0, Cond.code yJ0_coder_7d493 cJ0_coder_7d493 1 (some .byte), Cond.fieldLink RJ0 38 "java/lang/String" "COMPACT_STRINGS" "Z", Cond.fieldLink RJ0 15 "java/lang/String" "coder" "B", Cond.methodLink RJ0 106 yJ1_inflate_0e8fd, Cond.static yJ1_inflate_0e8fd, Cond.initialized RJ1, Cond.code yJ1_inflate_0e8fd cJ1_inflate_0e8fd 5 none, Cond.methodLink RJ1 240 yJ2_inflate_0e8fd, Cond.static yJ2_inflate_0e8fd, Cond.initialized RJ2, Cond.code yJ2_inflate_0e8fd cJ2_inflate_0e8fd 6 none, Cond.methodLink RJ2 173 yJ2_checkBoundsOffCount_d044e, Cond.static yJ2_checkBoundsOffCount_d044e, Cond.code yJ2_checkBoundsOffCount_d044e cJ2_checkBoundsOffCount_d044e 3 none, Cond.methodLink RJ2 48 yJ2_length_9d52b]
def wsJ0_getBytes_840e7_r2 : List Cond := [Cond.static yJ2_length_9d52b, Cond.code yJ2_length_9d52b cJ2_length_9d52b 1 (some .int), Cond.methodLink RJ2 419 yJ0_checkBoundsOffCount_cabcc, Cond.static yJ0_checkBoundsOffCount_cabcc, Cond.code yJ0_checkBoundsOffCount_cabcc cJ0_checkBoundsOffCount_cabcc 3 (some .int), Cond.fieldLink RJ0 1053 "jdk/internal/util/Preconditions" "SIOOBE_FORMATTER" "Ljava/util/function/BiFunction;", Cond.methodLink RJ0 1065 yJ3_checkFromIndexSize_8c36e, Cond.static yJ3_checkFromIndexSize_8c36e, Cond.initialized RJ3, Cond.code yJ3_checkFromIndexSize_8c36e cJ3_checkFromIndexSize_8c36e 4 (some .int), Cond.methodLink RJ2 111 yJ2_putChar_b72d1, Cond.static yJ2_putChar_b72d1, Cond.code yJ2_putChar_b72d1 cJ2_putChar_b72d1 3 none, Cond.fieldLink RJ2 44 "java/lang/StringUTF16" "$assertionsDisabled" "Z", Cond.fieldLink RJ2 59 "java/lang/StringUTF16" "HI_BYTE_SHIFT" "I", Cond.fieldLink RJ2 63 "java/lang/StringUTF16" "LO_BYTE_SHIFT" "I"]
def wsJ0_getBytes_840e7 : List Cond := .code yJ0_getBytes_840e7 cJ0_getBytes_840e7 4 none :: ((wsJ0_getBytes_840e7_r1 ++ wsJ0_getBytes_840e7_r2) ++ wsJ00)
def wsJ5_putStringAt_47b60_r1 : List Cond := [Cond.fieldLink RJ5 15 "java/lang/AbstractStringBuilder" "value" "[B", Cond.fieldLink RJ5 22 "java/lang/AbstractStringBuilder" "coder" "B", Cond.methodLink RJ5 397 ⟨"java/lang/AbstractStringBuilder", "inflateIfNeededFor", "(Ljava/lang/String;)V"⟩, Cond.sameMethod "java/lang/AbstractStringBuilder" "java/lang/AbstractStringBuilder" "inflateIfNeededFor" "(Ljava/lang/String;)V", Cond.selects RJ4 ⟨"java/lang/AbstractStringBuilder", "inflateIfNeededFor", "(Ljava/lang/String;)V"⟩ yJ5_inflateIfNeededFor_a7421, Cond.instanceMethod yJ5_inflateIfNeededFor_a7421, Cond.initialized RJ5, Cond.code yJ5_inflateIfNeededFor_a7421 cJ5_inflateIfNeededFor_a7421 2 none, Cond.fieldLink RJ5 18 "java/lang/String" "COMPACT_STRINGS" "Z", Cond.methodLink RJ5 40 yJ0_coder_7d493, Cond.instanceMethod yJ0_coder_7d493, Cond.selects RJ0 yJ0_coder_7d493 yJ0_coder_7d493, Cond.initialized RJ0, Cond.code yJ0_coder_7d493 cJ0_coder_7d493 1 (some .byte), Cond.fieldLink RJ0 38 "java/lang/String" "COMPACT_STRINGS" "Z", Cond.fieldLink RJ0 15 "java/lang/String" "coder" "B", Cond.methodLink RJ5 195 ⟨"java/lang/AbstractStringBuilder", "inflate", "()V"⟩, Cond.sameMethod "java/lang/AbstractStringBuilder" "java/lang/AbstractStringBuilder" "inflate" "()V", Cond.selects RJ4 ⟨"java/lang/AbstractStringBuilder", "inflate", "()V"⟩ yJ5_inflate_da8c8, Cond.instanceMethod yJ5_inflate_da8c8, Cond.code yJ5_inflate_da8c8 cJ5_inflate_da8c8 2 none, Cond.fieldLink RJ5 79 "java/lang/AbstractStringBuilder" "count" "I", Cond.methodLink RJ5 83 ⟨"java/lang/AbstractStringBuilder", "isLatin1", "()Z"⟩, Cond.sameMethod "java/lang/AbstractStringBuilder" "java/lang/AbstractStringBuilder" "isLatin1" "()Z"]
def wsJ5_putStringAt_47b60_r2 : List Cond := [Cond.selects RJ4 ⟨"java/lang/AbstractStringBuilder", "isLatin1", "()Z"⟩ yJ5_isLatin1_aae02, Cond.instanceMethod yJ5_isLatin1_aae02, Cond.code yJ5_isLatin1_aae02 cJ5_isLatin1_aae02 1 (some .boolean), Cond.methodLink RJ5 26 yJ2_newBytesFor_77867, Cond.static yJ2_newBytesFor_77867, Cond.initialized RJ2, Cond.code yJ2_newBytesFor_77867 cJ2_newBytesFor_77867 1 (some (.array .byte)), Cond.arrayClass .byte, Cond.methodLink RJ2 11 yJ2_newBytesLength_0f7a4, Cond.static yJ2_newBytesLength_0f7a4, Cond.code yJ2_newBytesLength_0f7a4 cJ2_newBytesLength_0f7a4 1 (some .int), Cond.constant RJ2 20 (1073741823), Cond.methodLink RJ5 125 yJ1_inflate_0e8fd, Cond.static yJ1_inflate_0e8fd, Cond.initialized RJ1, Cond.code yJ1_inflate_0e8fd cJ1_inflate_0e8fd 5 none, Cond.methodLink RJ1 240 yJ2_inflate_0e8fd, Cond.static yJ2_inflate_0e8fd, Cond.code yJ2_inflate_0e8fd cJ2_inflate_0e8fd 6 none, Cond.methodLink RJ2 173 yJ2_checkBoundsOffCount_d044e, Cond.static yJ2_checkBoundsOffCount_d044e, Cond.code yJ2_checkBoundsOffCount_d044e cJ2_checkBoundsOffCount_d044e 3 none, Cond.methodLink RJ2 48 yJ2_length_9d52b, Cond.static yJ2_length_9d52b]
def wsJ5_putStringAt_47b60_r3 : List Cond := [Cond.code yJ2_length_9d52b cJ2_length_9d52b 1 (some .int), Cond.methodLink RJ2 419 yJ0_checkBoundsOffCount_cabcc, Cond.static yJ0_checkBoundsOffCount_cabcc, Cond.code yJ0_checkBoundsOffCount_cabcc cJ0_checkBoundsOffCount_cabcc 3 (some .int), Cond.fieldLink RJ0 1053 "jdk/internal/util/Preconditions" "SIOOBE_FORMATTER" "Ljava/util/function/BiFunction;", Cond.methodLink RJ0 1065 yJ3_checkFromIndexSize_8c36e, Cond.static yJ3_checkFromIndexSize_8c36e, Cond.initialized RJ3, Cond.code yJ3_checkFromIndexSize_8c36e cJ3_checkFromIndexSize_8c36e 4 (some .int), Cond.methodLink RJ2 111 yJ2_putChar_b72d1, Cond.static yJ2_putChar_b72d1, Cond.code yJ2_putChar_b72d1 cJ2_putChar_b72d1 3 none, Cond.fieldLink RJ2 44 "java/lang/StringUTF16" "$assertionsDisabled" "Z", Cond.fieldLink RJ2 59 "java/lang/StringUTF16" "HI_BYTE_SHIFT" "I", Cond.fieldLink RJ2 63 "java/lang/StringUTF16" "LO_BYTE_SHIFT" "I", Cond.methodLink RJ5 399 yJ0_getBytes_840e7, Cond.instanceMethod yJ0_getBytes_840e7, Cond.selects RJ0 yJ0_getBytes_840e7 yJ0_getBytes_840e7, Cond.code yJ0_getBytes_840e7 cJ0_getBytes_840e7 4 none, Cond.fieldLink RJ0 9 "java/lang/String" "value" "[B", Cond.methodLink RJ0 212 arraycopyName, Cond.native arraycopyName, Cond.static arraycopyName, Cond.initialized "java/lang/System"]
def wsJ5_putStringAt_47b60_r4 : List Cond := [Cond.methodLink RJ0 335 yJ0_coder_7d493, Cond.methodLink RJ0 106 yJ1_inflate_0e8fd]
def wsJ5_putStringAt_47b60 : List Cond := .code yJ5_putStringAt_47b60 cJ5_putStringAt_47b60 3 none :: ((wsJ5_putStringAt_47b60_r1 ++ (wsJ5_putStringAt_47b60_r2 ++ (wsJ5_putStringAt_47b60_r3 ++ wsJ5_putStringAt_47b60_r4))) ++ wsJ40 ++ wsJ00)
def wsJ5_append_cf1ce_r1 : List Cond := [Cond.fieldLink RJ5 79 "java/lang/AbstractStringBuilder" "count" "I", Cond.methodLink RJ5 204 ⟨"java/lang/AbstractStringBuilder", "appendNull", "()Ljava/lang/AbstractStringBuilder;"⟩, Cond.sameMethod "java/lang/AbstractStringBuilder" "java/lang/AbstractStringBuilder" "appendNull" "()Ljava/lang/AbstractStringBuilder;", Cond.selects RJ4 ⟨"java/lang/AbstractStringBuilder", "appendNull", "()Ljava/lang/AbstractStringBuilder;"⟩ yJ5_appendNull_278bc, Cond.instanceMethod yJ5_appendNull_278bc, Cond.initialized RJ5, Cond.code yJ5_appendNull_278bc cJ5_appendNull_278bc 3 (some (.object "java/lang/AbstractStringBuilder")), Cond.fieldLink RJ5 15 "java/lang/AbstractStringBuilder" "value" "[B", Cond.methodLink RJ5 100 ⟨"java/lang/AbstractStringBuilder", "ensureCapacityInternal", "(I)V"⟩, Cond.sameMethod "java/lang/AbstractStringBuilder" "java/lang/AbstractStringBuilder" "ensureCapacityInternal" "(I)V", Cond.selects RJ4 ⟨"java/lang/AbstractStringBuilder", "ensureCapacityInternal", "(I)V"⟩ yJ5_ensureCapacityInternal_d00df, Cond.instanceMethod yJ5_ensureCapacityInternal_d00df, Cond.code yJ5_ensureCapacityInternal_d00df cJ5_ensureCapacityInternal_d00df 3 none, Cond.fieldLink RJ5 22 "java/lang/AbstractStringBuilder" "coder" "B", Cond.methodLink RJ5 104 ⟨"java/lang/AbstractStringBuilder", "newCapacity", "(I)I"⟩, Cond.sameMethod "java/lang/AbstractStringBuilder" "java/lang/AbstractStringBuilder" "newCapacity" "(I)I", Cond.selects RJ4 ⟨"java/lang/AbstractStringBuilder", "newCapacity", "(I)I"⟩ yJ5_newCapacity_0f7a4, Cond.instanceMethod yJ5_newCapacity_0f7a4, Cond.code yJ5_newCapacity_0f7a4 cJ5_newCapacity_0f7a4 6 (some .int), Cond.constant RJ5 39 (2147483647), Cond.methodLink RJ5 114 yJ8_newLength_cabcc, Cond.static yJ8_newLength_cabcc, Cond.initialized RJ8, Cond.code yJ8_newLength_cabcc cJ8_newLength_cabcc 4 (some .int)]
def wsJ5_append_cf1ce_r2 : List Cond := [Cond.methodLink RJ8 194 Lib.Math.max.name, Cond.static Lib.Math.max.name, Cond.initialized "java/lang/Math", Cond.code Lib.Math.max.name Lib.Math.max.code 2 (some .int), Cond.constant RJ8 200 (2147483639), Cond.methodLink RJ8 201 yJ8_hugeLength_7cf53, Cond.static yJ8_hugeLength_7cf53, Cond.code yJ8_hugeLength_7cf53 cJ8_hugeLength_7cf53 3 (some .int), Cond.methodLink RJ5 108 yJ7_copyOf_9075b, Cond.static yJ7_copyOf_9075b, Cond.initialized RJ7, Cond.code yJ7_copyOf_9075b cJ7_copyOf_9075b 3 (some (.array .byte)), Cond.methodLink RJ7 310 ⟨"[B", "clone", "()Ljava/lang/Object;"⟩, Cond.sameMethod "[B" "java/lang/Object" "clone" "()Ljava/lang/Object;", Cond.native ⟨"java/lang/Object", "clone", "()Ljava/lang/Object;"⟩, Cond.instanceMethod ⟨"java/lang/Object", "clone", "()Ljava/lang/Object;"⟩, Cond.selects "[B" ⟨"[B", "clone", "()Ljava/lang/Object;"⟩ ⟨"java/lang/Object", "clone", "()Ljava/lang/Object;"⟩, Cond.classLink RJ7 311 "[B", Cond.arrayClass .byte, Cond.methodLink RJ7 304 Lib.Math.min.name, Cond.static Lib.Math.min.name, Cond.code Lib.Math.min.name Lib.Math.min.code 2 (some .int), Cond.methodLink RJ7 150 arraycopyName, Cond.native arraycopyName]
def wsJ5_append_cf1ce_r3 : List Cond := [Cond.static arraycopyName, Cond.initialized "java/lang/System", Cond.methodLink RJ5 83 ⟨"java/lang/AbstractStringBuilder", "isLatin1", "()Z"⟩, Cond.sameMethod "java/lang/AbstractStringBuilder" "java/lang/AbstractStringBuilder" "isLatin1" "()Z", Cond.selects RJ4 ⟨"java/lang/AbstractStringBuilder", "isLatin1", "()Z"⟩ yJ5_isLatin1_aae02, Cond.instanceMethod yJ5_isLatin1_aae02, Cond.code yJ5_isLatin1_aae02 cJ5_isLatin1_aae02 1 (some .boolean), Cond.fieldLink RJ5 18 "java/lang/String" "COMPACT_STRINGS" "Z", Cond.methodLink RJ5 226 yJ2_putCharsAt_cd4e5, Cond.static yJ2_putCharsAt_cd4e5, Cond.initialized RJ2, Cond.code yJ2_putCharsAt_cd4e5 cJ2_putCharsAt_cd4e5 7 (some .int), Cond.fieldLink RJ2 44 "java/lang/StringUTF16" "$assertionsDisabled" "Z", Cond.methodLink RJ2 96 yJ2_checkBoundsBeginEnd_d044e, Cond.static yJ2_checkBoundsBeginEnd_d044e, Cond.code yJ2_checkBoundsBeginEnd_d044e cJ2_checkBoundsBeginEnd_d044e 3 none, Cond.methodLink RJ2 48 yJ2_length_9d52b, Cond.static yJ2_length_9d52b, Cond.code yJ2_length_9d52b cJ2_length_9d52b 1 (some .int), Cond.methodLink RJ2 241 yJ0_checkBoundsBeginEnd_23922, Cond.static yJ0_checkBoundsBeginEnd_23922, Cond.initialized RJ0, Cond.code yJ0_checkBoundsBeginEnd_23922 cJ0_checkBoundsBeginEnd_23922 3 none, Cond.fieldLink RJ0 1053 "jdk/internal/util/Preconditions" "SIOOBE_FORMATTER" "Ljava/util/function/BiFunction;"]
def wsJ5_append_cf1ce_r4 : List Cond := [Cond.methodLink RJ0 1062 yJ3_checkFromToIndex_8c36e, Cond.static yJ3_checkFromToIndex_8c36e, Cond.initialized RJ3, Cond.code yJ3_checkFromToIndex_8c36e cJ3_checkFromToIndex_8c36e 4 (some .int), Cond.methodLink RJ2 111 yJ2_putChar_b72d1, Cond.static yJ2_putChar_b72d1, Cond.code yJ2_putChar_b72d1 cJ2_putChar_b72d1 3 none, Cond.fieldLink RJ2 59 "java/lang/StringUTF16" "HI_BYTE_SHIFT" "I", Cond.fieldLink RJ2 63 "java/lang/StringUTF16" "LO_BYTE_SHIFT" "I", Cond.methodLink RJ5 32 yJ0_length_8abf5, Cond.instanceMethod yJ0_length_8abf5, Cond.selects RJ0 yJ0_length_8abf5 yJ0_length_8abf5, Cond.code yJ0_length_8abf5 cJ0_length_8abf5 1 (some .int), Cond.fieldLink RJ0 9 "java/lang/String" "value" "[B", Cond.methodLink RJ0 335 yJ0_coder_7d493, Cond.instanceMethod yJ0_coder_7d493, Cond.selects RJ0 yJ0_coder_7d493 yJ0_coder_7d493, Cond.code yJ0_coder_7d493 cJ0_coder_7d493 1 (some .byte), Cond.fieldLink RJ0 38 "java/lang/String" "COMPACT_STRINGS" "Z", Cond.fieldLink RJ0 15 "java/lang/String" "coder" "B", Cond.methodLink RJ5 208 ⟨"java/lang/AbstractStringBuilder", "putStringAt", "(ILjava/lang/String;)V"⟩, Cond.sameMethod "java/lang/AbstractStringBuilder" "java/lang/AbstractStringBuilder" "putStringAt" "(ILjava/lang/String;)V", Cond.selects RJ4 ⟨"java/lang/AbstractStringBuilder", "putStringAt", "(ILjava/lang/String;)V"⟩ yJ5_putStringAt_47b60, Cond.instanceMethod yJ5_putStringAt_47b60]
def wsJ5_append_cf1ce_r5 : List Cond := [Cond.code yJ5_putStringAt_47b60 cJ5_putStringAt_47b60 3 none, Cond.methodLink RJ5 397 ⟨"java/lang/AbstractStringBuilder", "inflateIfNeededFor", "(Ljava/lang/String;)V"⟩, Cond.sameMethod "java/lang/AbstractStringBuilder" "java/lang/AbstractStringBuilder" "inflateIfNeededFor" "(Ljava/lang/String;)V", Cond.selects RJ4 ⟨"java/lang/AbstractStringBuilder", "inflateIfNeededFor", "(Ljava/lang/String;)V"⟩ yJ5_inflateIfNeededFor_a7421, Cond.instanceMethod yJ5_inflateIfNeededFor_a7421, Cond.code yJ5_inflateIfNeededFor_a7421 cJ5_inflateIfNeededFor_a7421 2 none, Cond.methodLink RJ5 40 yJ0_coder_7d493, Cond.methodLink RJ5 195 ⟨"java/lang/AbstractStringBuilder", "inflate", "()V"⟩, Cond.sameMethod "java/lang/AbstractStringBuilder" "java/lang/AbstractStringBuilder" "inflate" "()V", Cond.selects RJ4 ⟨"java/lang/AbstractStringBuilder", "inflate", "()V"⟩ yJ5_inflate_da8c8, Cond.instanceMethod yJ5_inflate_da8c8, Cond.code yJ5_inflate_da8c8 cJ5_inflate_da8c8 2 none, Cond.methodLink RJ5 26 yJ2_newBytesFor_77867, Cond.static yJ2_newBytesFor_77867, Cond.code yJ2_newBytesFor_77867 cJ2_newBytesFor_77867 1 (some (.array .byte)), Cond.methodLink RJ2 11 yJ2_newBytesLength_0f7a4, Cond.static yJ2_newBytesLength_0f7a4, Cond.code yJ2_newBytesLength_0f7a4 cJ2_newBytesLength_0f7a4 1 (some .int), Cond.constant RJ2 20 (1073741823), Cond.methodLink RJ5 125 yJ1_inflate_0e8fd, Cond.static yJ1_inflate_0e8fd, Cond.initialized RJ1, Cond.code yJ1_inflate_0e8fd cJ1_inflate_0e8fd 5 none, Cond.methodLink RJ1 240 yJ2_inflate_0e8fd]
def wsJ5_append_cf1ce_r6 : List Cond := [Cond.static yJ2_inflate_0e8fd, Cond.code yJ2_inflate_0e8fd cJ2_inflate_0e8fd 6 none, Cond.methodLink RJ2 173 yJ2_checkBoundsOffCount_d044e, Cond.static yJ2_checkBoundsOffCount_d044e, Cond.code yJ2_checkBoundsOffCount_d044e cJ2_checkBoundsOffCount_d044e 3 none, Cond.methodLink RJ2 419 yJ0_checkBoundsOffCount_cabcc, Cond.static yJ0_checkBoundsOffCount_cabcc, Cond.code yJ0_checkBoundsOffCount_cabcc cJ0_checkBoundsOffCount_cabcc 3 (some .int), Cond.methodLink RJ0 1065 yJ3_checkFromIndexSize_8c36e, Cond.static yJ3_checkFromIndexSize_8c36e, Cond.code yJ3_checkFromIndexSize_8c36e cJ3_checkFromIndexSize_8c36e 4 (some .int), Cond.methodLink RJ5 399 yJ0_getBytes_840e7, Cond.instanceMethod yJ0_getBytes_840e7, Cond.selects RJ0 yJ0_getBytes_840e7 yJ0_getBytes_840e7, Cond.code yJ0_getBytes_840e7 cJ0_getBytes_840e7 4 none, Cond.methodLink RJ0 212 arraycopyName, Cond.methodLink RJ0 106 yJ1_inflate_0e8fd]
def wsJ5_append_cf1ce : List Cond := .code yJ5_append_cf1ce cJ5_append_cf1ce 3 (some (.object "java/lang/AbstractStringBuilder")) :: ((wsJ5_append_cf1ce_r1 ++ (wsJ5_append_cf1ce_r2 ++ (wsJ5_append_cf1ce_r3 ++ (wsJ5_append_cf1ce_r4 ++ (wsJ5_append_cf1ce_r5 ++ wsJ5_append_cf1ce_r6))))) ++ wsJ40 ++ wsJ00)
def wsJ6_stringSize_0f7a4 : List Cond := .code yJ6_stringSize_0f7a4 cJ6_stringSize_0f7a4 4 (some .int) :: ([])
def wsJ6_getChars_ba4f3 : List Cond := .code yJ6_getChars_ba4f3 cJ6_getChars_ba4f3 7 (some .int) :: ([.fieldLink RJ6 83 "java/lang/Integer" "DigitOnes" "[B", .fieldLink RJ6 87 "java/lang/Integer" "DigitTens" "[B"])
def wsJ2_getChars_ba4f3 : List Cond := .code yJ2_getChars_ba4f3 cJ2_getChars_ba4f3 7 (some .int) :: ([.fieldLink RJ2 403 "java/lang/Integer" "DigitOnes" "[B", .fieldLink RJ2 407 "java/lang/Integer" "DigitTens" "[B", .methodLink RJ2 111 yJ2_putChar_b72d1, .static yJ2_putChar_b72d1, .initialized RJ2, .code yJ2_putChar_b72d1 cJ2_putChar_b72d1 3 none, .fieldLink RJ2 44 "java/lang/StringUTF16" "$assertionsDisabled" "Z", .fieldLink RJ2 59 "java/lang/StringUTF16" "HI_BYTE_SHIFT" "I", .fieldLink RJ2 63 "java/lang/StringUTF16" "LO_BYTE_SHIFT" "I", .methodLink RJ2 48 yJ2_length_9d52b, .static yJ2_length_9d52b, .code yJ2_length_9d52b cJ2_length_9d52b 1 (some .int)])
def wsJ2_getChars_46870_r1 : List Cond := [Cond.fieldLink RJ2 44 "java/lang/StringUTF16" "$assertionsDisabled" "Z", Cond.methodLink RJ2 96 yJ2_checkBoundsBeginEnd_d044e, Cond.static yJ2_checkBoundsBeginEnd_d044e, Cond.initialized RJ2, Cond.code yJ2_checkBoundsBeginEnd_d044e cJ2_checkBoundsBeginEnd_d044e 3 none, Cond.methodLink RJ2 48 yJ2_length_9d52b, Cond.static yJ2_length_9d52b, Cond.code yJ2_length_9d52b cJ2_length_9d52b 1 (some .int), Cond.methodLink RJ2 241 yJ0_checkBoundsBeginEnd_23922, Cond.static yJ0_checkBoundsBeginEnd_23922, Cond.initialized RJ0, Cond.code yJ0_checkBoundsBeginEnd_23922 cJ0_checkBoundsBeginEnd_23922 3 none, Cond.fieldLink RJ0 1053 "jdk/internal/util/Preconditions" "SIOOBE_FORMATTER" "Ljava/util/function/BiFunction;", Cond.methodLink RJ0 1062 yJ3_checkFromToIndex_8c36e, Cond.static yJ3_checkFromToIndex_8c36e, Cond.initialized RJ3, Cond.code yJ3_checkFromToIndex_8c36e cJ3_checkFromToIndex_8c36e 4 (some .int), Cond.methodLink RJ2 393 yJ2_getChars_ba4f3, Cond.static yJ2_getChars_ba4f3, Cond.code yJ2_getChars_ba4f3 cJ2_getChars_ba4f3 7 (some .int), Cond.fieldLink RJ2 403 "java/lang/Integer" "DigitOnes" "[B", Cond.fieldLink RJ2 407 "java/lang/Integer" "DigitTens" "[B", Cond.methodLink RJ2 111 yJ2_putChar_b72d1, Cond.static yJ2_putChar_b72d1]
def wsJ2_getChars_46870_r2 : List Cond := [Cond.code yJ2_putChar_b72d1 cJ2_putChar_b72d1 3 none, Cond.fieldLink RJ2 59 "java/lang/StringUTF16" "HI_BYTE_SHIFT" "I", Cond.fieldLink RJ2 63 "java/lang/StringUTF16" "LO_BYTE_SHIFT" "I"]
def wsJ2_getChars_46870 : List Cond := .code yJ2_getChars_46870 cJ2_getChars_46870 5 (some .int) :: ((wsJ2_getChars_46870_r1 ++ wsJ2_getChars_46870_r2))
def wsJ5_append_c97b9_r1 : List Cond := [Cond.fieldLink RJ5 79 "java/lang/AbstractStringBuilder" "count" "I", Cond.fieldLink RJ5 15 "java/lang/AbstractStringBuilder" "value" "[B", Cond.methodLink RJ5 245 yJ6_stringSize_0f7a4, Cond.static yJ6_stringSize_0f7a4, Cond.initialized RJ6, Cond.code yJ6_stringSize_0f7a4 cJ6_stringSize_0f7a4 4 (some .int), Cond.methodLink RJ5 100 ⟨"java/lang/AbstractStringBuilder", "ensureCapacityInternal", "(I)V"⟩, Cond.sameMethod "java/lang/AbstractStringBuilder" "java/lang/AbstractStringBuilder" "ensureCapacityInternal" "(I)V", Cond.selects RJ4 ⟨"java/lang/AbstractStringBuilder", "ensureCapacityInternal", "(I)V"⟩ yJ5_ensureCapacityInternal_d00df, Cond.instanceMethod yJ5_ensureCapacityInternal_d00df, Cond.initialized RJ5, Cond.code yJ5_ensureCapacityInternal_d00df cJ5_ensureCapacityInternal_d00df 3 none, Cond.fieldLink RJ5 22 "java/lang/AbstractStringBuilder" "coder" "B", Cond.methodLink RJ5 104 ⟨"java/lang/AbstractStringBuilder", "newCapacity", "(I)I"⟩, Cond.sameMethod "java/lang/AbstractStringBuilder" "java/lang/AbstractStringBuilder" "newCapacity" "(I)I", Cond.selects RJ4 ⟨"java/lang/AbstractStringBuilder", "newCapacity", "(I)I"⟩ yJ5_newCapacity_0f7a4, Cond.instanceMethod yJ5_newCapacity_0f7a4, Cond.code yJ5_newCapacity_0f7a4 cJ5_newCapacity_0f7a4 6 (some .int), Cond.constant RJ5 39 (2147483647), Cond.methodLink RJ5 114 yJ8_newLength_cabcc, Cond.static yJ8_newLength_cabcc, Cond.initialized RJ8, Cond.code yJ8_newLength_cabcc cJ8_newLength_cabcc 4 (some .int), Cond.methodLink RJ8 194 Lib.Math.max.name]
def wsJ5_append_c97b9_r2 : List Cond := [Cond.static Lib.Math.max.name, Cond.initialized "java/lang/Math", Cond.code Lib.Math.max.name Lib.Math.max.code 2 (some .int), Cond.constant RJ8 200 (2147483639), Cond.methodLink RJ8 201 yJ8_hugeLength_7cf53, Cond.static yJ8_hugeLength_7cf53, Cond.code yJ8_hugeLength_7cf53 cJ8_hugeLength_7cf53 3 (some .int), Cond.methodLink RJ5 108 yJ7_copyOf_9075b, Cond.static yJ7_copyOf_9075b, Cond.initialized RJ7, Cond.code yJ7_copyOf_9075b cJ7_copyOf_9075b 3 (some (.array .byte)), Cond.methodLink RJ7 310 ⟨"[B", "clone", "()Ljava/lang/Object;"⟩, Cond.sameMethod "[B" "java/lang/Object" "clone" "()Ljava/lang/Object;", Cond.native ⟨"java/lang/Object", "clone", "()Ljava/lang/Object;"⟩, Cond.instanceMethod ⟨"java/lang/Object", "clone", "()Ljava/lang/Object;"⟩, Cond.selects "[B" ⟨"[B", "clone", "()Ljava/lang/Object;"⟩ ⟨"java/lang/Object", "clone", "()Ljava/lang/Object;"⟩, Cond.classLink RJ7 311 "[B", Cond.arrayClass .byte, Cond.methodLink RJ7 304 Lib.Math.min.name, Cond.static Lib.Math.min.name, Cond.code Lib.Math.min.name Lib.Math.min.code 2 (some .int), Cond.methodLink RJ7 150 arraycopyName, Cond.native arraycopyName, Cond.static arraycopyName]
def wsJ5_append_c97b9_r3 : List Cond := [Cond.initialized "java/lang/System", Cond.methodLink RJ5 83 ⟨"java/lang/AbstractStringBuilder", "isLatin1", "()Z"⟩, Cond.sameMethod "java/lang/AbstractStringBuilder" "java/lang/AbstractStringBuilder" "isLatin1" "()Z", Cond.selects RJ4 ⟨"java/lang/AbstractStringBuilder", "isLatin1", "()Z"⟩ yJ5_isLatin1_aae02, Cond.instanceMethod yJ5_isLatin1_aae02, Cond.code yJ5_isLatin1_aae02 cJ5_isLatin1_aae02 1 (some .boolean), Cond.fieldLink RJ5 18 "java/lang/String" "COMPACT_STRINGS" "Z", Cond.methodLink RJ5 248 yJ6_getChars_ba4f3, Cond.static yJ6_getChars_ba4f3, Cond.code yJ6_getChars_ba4f3 cJ6_getChars_ba4f3 7 (some .int), Cond.fieldLink RJ6 83 "java/lang/Integer" "DigitOnes" "[B", Cond.fieldLink RJ6 87 "java/lang/Integer" "DigitTens" "[B", Cond.methodLink RJ5 251 yJ2_getChars_46870, Cond.static yJ2_getChars_46870, Cond.initialized RJ2, Cond.code yJ2_getChars_46870 cJ2_getChars_46870 5 (some .int), Cond.fieldLink RJ2 44 "java/lang/StringUTF16" "$assertionsDisabled" "Z", Cond.methodLink RJ2 96 yJ2_checkBoundsBeginEnd_d044e, Cond.static yJ2_checkBoundsBeginEnd_d044e, Cond.code yJ2_checkBoundsBeginEnd_d044e cJ2_checkBoundsBeginEnd_d044e 3 none, Cond.methodLink RJ2 48 yJ2_length_9d52b, Cond.static yJ2_length_9d52b, Cond.code yJ2_length_9d52b cJ2_length_9d52b 1 (some .int), Cond.methodLink RJ2 241 yJ0_checkBoundsBeginEnd_23922]
def wsJ5_append_c97b9_r4 : List Cond := [Cond.static yJ0_checkBoundsBeginEnd_23922, Cond.initialized RJ0, Cond.code yJ0_checkBoundsBeginEnd_23922 cJ0_checkBoundsBeginEnd_23922 3 none, Cond.fieldLink RJ0 1053 "jdk/internal/util/Preconditions" "SIOOBE_FORMATTER" "Ljava/util/function/BiFunction;", Cond.methodLink RJ0 1062 yJ3_checkFromToIndex_8c36e, Cond.static yJ3_checkFromToIndex_8c36e, Cond.initialized RJ3, Cond.code yJ3_checkFromToIndex_8c36e cJ3_checkFromToIndex_8c36e 4 (some .int), Cond.methodLink RJ2 393 yJ2_getChars_ba4f3, Cond.static yJ2_getChars_ba4f3, Cond.code yJ2_getChars_ba4f3 cJ2_getChars_ba4f3 7 (some .int), Cond.fieldLink RJ2 403 "java/lang/Integer" "DigitOnes" "[B", Cond.fieldLink RJ2 407 "java/lang/Integer" "DigitTens" "[B", Cond.methodLink RJ2 111 yJ2_putChar_b72d1, Cond.static yJ2_putChar_b72d1, Cond.code yJ2_putChar_b72d1 cJ2_putChar_b72d1 3 none, Cond.fieldLink RJ2 59 "java/lang/StringUTF16" "HI_BYTE_SHIFT" "I", Cond.fieldLink RJ2 63 "java/lang/StringUTF16" "LO_BYTE_SHIFT" "I"]
def wsJ5_append_c97b9 : List Cond := .code yJ5_append_c97b9 cJ5_append_c97b9 4 (some (.object "java/lang/AbstractStringBuilder")) :: ((wsJ5_append_c97b9_r1 ++ (wsJ5_append_c97b9_r2 ++ (wsJ5_append_c97b9_r3 ++ wsJ5_append_c97b9_r4))) ++ wsJ40)
def wsJ5_getValue_6d5f1 : List Cond := .code yJ5_getValue_6d5f1 cJ5_getValue_6d5f1 1 (some (.array .byte)) :: ([.fieldLink RJ5 15 "java/lang/AbstractStringBuilder" "value" "[B"] ++ wsJ40)
def wsJx00060_init_a7421 : List Cond := .code yJx00060_init_a7421 cJx00060_init_a7421 2 none :: ([])
def wsJ4_init_da8c8 : List Cond := .code yJ4_init_da8c8 cJ4_init_da8c8 1 none :: ([.methodLink RJ4 1 yJ5_init_d00df, .instanceMethod yJ5_init_d00df, .initialized RJ5, .code yJ5_init_d00df cJ5_init_d00df 2 none, .methodLink RJ5 3 objectInit, .instanceMethod objectInit, .code objectInit ⟨#[0xb1]⟩ 1 none, .fieldLink RJ5 18 "java/lang/String" "COMPACT_STRINGS" "Z", .arrayClass .byte, .fieldLink RJ5 15 "java/lang/AbstractStringBuilder" "value" "[B", .fieldLink RJ5 22 "java/lang/AbstractStringBuilder" "coder" "B", .methodLink RJ5 26 yJ2_newBytesFor_77867, .static yJ2_newBytesFor_77867, .initialized RJ2, .code yJ2_newBytesFor_77867 cJ2_newBytesFor_77867 1 (some (.array .byte)), .methodLink RJ2 11 yJ2_newBytesLength_0f7a4, .static yJ2_newBytesLength_0f7a4, .code yJ2_newBytesLength_0f7a4 cJ2_newBytesLength_0f7a4 1 (some .int), .constant RJ2 20 (1073741823)] ++ wsJ40)
def wsJ4_append_15ec4_r1 : List Cond := [Cond.methodLink RJ4 29 yJ5_append_cf1ce, Cond.sameMethod "java/lang/AbstractStringBuilder" "java/lang/AbstractStringBuilder" "append" "(Ljava/lang/String;)Ljava/lang/AbstractStringBuilder;", Cond.superclass RJ4 RJ5, Cond.instanceMethod yJ5_append_cf1ce, Cond.initialized RJ5, Cond.code yJ5_append_cf1ce cJ5_append_cf1ce 3 (some (.object "java/lang/AbstractStringBuilder")), Cond.fieldLink RJ5 79 "java/lang/AbstractStringBuilder" "count" "I", Cond.methodLink RJ5 204 ⟨"java/lang/AbstractStringBuilder", "appendNull", "()Ljava/lang/AbstractStringBuilder;"⟩, Cond.sameMethod "java/lang/AbstractStringBuilder" "java/lang/AbstractStringBuilder" "appendNull" "()Ljava/lang/AbstractStringBuilder;", Cond.selects RJ4 ⟨"java/lang/AbstractStringBuilder", "appendNull", "()Ljava/lang/AbstractStringBuilder;"⟩ yJ5_appendNull_278bc, Cond.instanceMethod yJ5_appendNull_278bc, Cond.code yJ5_appendNull_278bc cJ5_appendNull_278bc 3 (some (.object "java/lang/AbstractStringBuilder")), Cond.fieldLink RJ5 15 "java/lang/AbstractStringBuilder" "value" "[B", Cond.methodLink RJ5 100 ⟨"java/lang/AbstractStringBuilder", "ensureCapacityInternal", "(I)V"⟩, Cond.sameMethod "java/lang/AbstractStringBuilder" "java/lang/AbstractStringBuilder" "ensureCapacityInternal" "(I)V", Cond.selects RJ4 ⟨"java/lang/AbstractStringBuilder", "ensureCapacityInternal", "(I)V"⟩ yJ5_ensureCapacityInternal_d00df, Cond.instanceMethod yJ5_ensureCapacityInternal_d00df, Cond.code yJ5_ensureCapacityInternal_d00df cJ5_ensureCapacityInternal_d00df 3 none, Cond.fieldLink RJ5 22 "java/lang/AbstractStringBuilder" "coder" "B", Cond.methodLink RJ5 104 ⟨"java/lang/AbstractStringBuilder", "newCapacity", "(I)I"⟩, Cond.sameMethod "java/lang/AbstractStringBuilder" "java/lang/AbstractStringBuilder" "newCapacity" "(I)I", Cond.selects RJ4 ⟨"java/lang/AbstractStringBuilder", "newCapacity", "(I)I"⟩ yJ5_newCapacity_0f7a4, Cond.instanceMethod yJ5_newCapacity_0f7a4, Cond.code yJ5_newCapacity_0f7a4 cJ5_newCapacity_0f7a4 6 (some .int)]
def wsJ4_append_15ec4_r2 : List Cond := [Cond.constant RJ5 39 (2147483647), Cond.methodLink RJ5 114 yJ8_newLength_cabcc, Cond.static yJ8_newLength_cabcc, Cond.initialized RJ8, Cond.code yJ8_newLength_cabcc cJ8_newLength_cabcc 4 (some .int), Cond.methodLink RJ8 194 Lib.Math.max.name, Cond.static Lib.Math.max.name, Cond.initialized "java/lang/Math", Cond.code Lib.Math.max.name Lib.Math.max.code 2 (some .int), Cond.constant RJ8 200 (2147483639), Cond.methodLink RJ8 201 yJ8_hugeLength_7cf53, Cond.static yJ8_hugeLength_7cf53, Cond.code yJ8_hugeLength_7cf53 cJ8_hugeLength_7cf53 3 (some .int), Cond.methodLink RJ5 108 yJ7_copyOf_9075b, Cond.static yJ7_copyOf_9075b, Cond.initialized RJ7, Cond.code yJ7_copyOf_9075b cJ7_copyOf_9075b 3 (some (.array .byte)), Cond.methodLink RJ7 310 ⟨"[B", "clone", "()Ljava/lang/Object;"⟩, Cond.sameMethod "[B" "java/lang/Object" "clone" "()Ljava/lang/Object;", Cond.native ⟨"java/lang/Object", "clone", "()Ljava/lang/Object;"⟩, Cond.instanceMethod ⟨"java/lang/Object", "clone", "()Ljava/lang/Object;"⟩, Cond.selects "[B" ⟨"[B", "clone", "()Ljava/lang/Object;"⟩ ⟨"java/lang/Object", "clone", "()Ljava/lang/Object;"⟩, Cond.classLink RJ7 311 "[B", Cond.arrayClass .byte]
def wsJ4_append_15ec4_r3 : List Cond := [Cond.methodLink RJ7 304 Lib.Math.min.name, Cond.static Lib.Math.min.name, Cond.code Lib.Math.min.name Lib.Math.min.code 2 (some .int), Cond.methodLink RJ7 150 arraycopyName, Cond.native arraycopyName, Cond.static arraycopyName, Cond.initialized "java/lang/System", Cond.methodLink RJ5 83 ⟨"java/lang/AbstractStringBuilder", "isLatin1", "()Z"⟩, Cond.sameMethod "java/lang/AbstractStringBuilder" "java/lang/AbstractStringBuilder" "isLatin1" "()Z", Cond.selects RJ4 ⟨"java/lang/AbstractStringBuilder", "isLatin1", "()Z"⟩ yJ5_isLatin1_aae02, Cond.instanceMethod yJ5_isLatin1_aae02, Cond.code yJ5_isLatin1_aae02 cJ5_isLatin1_aae02 1 (some .boolean), Cond.fieldLink RJ5 18 "java/lang/String" "COMPACT_STRINGS" "Z", Cond.methodLink RJ5 226 yJ2_putCharsAt_cd4e5, Cond.static yJ2_putCharsAt_cd4e5, Cond.initialized RJ2, Cond.code yJ2_putCharsAt_cd4e5 cJ2_putCharsAt_cd4e5 7 (some .int), Cond.fieldLink RJ2 44 "java/lang/StringUTF16" "$assertionsDisabled" "Z", Cond.methodLink RJ2 96 yJ2_checkBoundsBeginEnd_d044e, Cond.static yJ2_checkBoundsBeginEnd_d044e, Cond.code yJ2_checkBoundsBeginEnd_d044e cJ2_checkBoundsBeginEnd_d044e 3 none, Cond.methodLink RJ2 48 yJ2_length_9d52b, Cond.static yJ2_length_9d52b, Cond.code yJ2_length_9d52b cJ2_length_9d52b 1 (some .int)]
def wsJ4_append_15ec4_r4 : List Cond := [Cond.methodLink RJ2 241 yJ0_checkBoundsBeginEnd_23922, Cond.static yJ0_checkBoundsBeginEnd_23922, Cond.initialized RJ0, Cond.code yJ0_checkBoundsBeginEnd_23922 cJ0_checkBoundsBeginEnd_23922 3 none, Cond.fieldLink RJ0 1053 "jdk/internal/util/Preconditions" "SIOOBE_FORMATTER" "Ljava/util/function/BiFunction;", Cond.methodLink RJ0 1062 yJ3_checkFromToIndex_8c36e, Cond.static yJ3_checkFromToIndex_8c36e, Cond.initialized RJ3, Cond.code yJ3_checkFromToIndex_8c36e cJ3_checkFromToIndex_8c36e 4 (some .int), Cond.methodLink RJ2 111 yJ2_putChar_b72d1, Cond.static yJ2_putChar_b72d1, Cond.code yJ2_putChar_b72d1 cJ2_putChar_b72d1 3 none, Cond.fieldLink RJ2 59 "java/lang/StringUTF16" "HI_BYTE_SHIFT" "I", Cond.fieldLink RJ2 63 "java/lang/StringUTF16" "LO_BYTE_SHIFT" "I", Cond.methodLink RJ5 32 yJ0_length_8abf5, Cond.instanceMethod yJ0_length_8abf5, Cond.selects RJ0 yJ0_length_8abf5 yJ0_length_8abf5, Cond.code yJ0_length_8abf5 cJ0_length_8abf5 1 (some .int), Cond.fieldLink RJ0 9 "java/lang/String" "value" "[B", Cond.methodLink RJ0 335 yJ0_coder_7d493, Cond.instanceMethod yJ0_coder_7d493, Cond.selects RJ0 yJ0_coder_7d493 yJ0_coder_7d493, Cond.code yJ0_coder_7d493 cJ0_coder_7d493 1 (some .byte), Cond.fieldLink RJ0 38 "java/lang/String" "COMPACT_STRINGS" "Z"]
def wsJ4_append_15ec4_r5 : List Cond := [Cond.fieldLink RJ0 15 "java/lang/String" "coder" "B", Cond.methodLink RJ5 208 ⟨"java/lang/AbstractStringBuilder", "putStringAt", "(ILjava/lang/String;)V"⟩, Cond.sameMethod "java/lang/AbstractStringBuilder" "java/lang/AbstractStringBuilder" "putStringAt" "(ILjava/lang/String;)V", Cond.selects RJ4 ⟨"java/lang/AbstractStringBuilder", "putStringAt", "(ILjava/lang/String;)V"⟩ yJ5_putStringAt_47b60, Cond.instanceMethod yJ5_putStringAt_47b60, Cond.code yJ5_putStringAt_47b60 cJ5_putStringAt_47b60 3 none, Cond.methodLink RJ5 397 ⟨"java/lang/AbstractStringBuilder", "inflateIfNeededFor", "(Ljava/lang/String;)V"⟩, Cond.sameMethod "java/lang/AbstractStringBuilder" "java/lang/AbstractStringBuilder" "inflateIfNeededFor" "(Ljava/lang/String;)V", Cond.selects RJ4 ⟨"java/lang/AbstractStringBuilder", "inflateIfNeededFor", "(Ljava/lang/String;)V"⟩ yJ5_inflateIfNeededFor_a7421, Cond.instanceMethod yJ5_inflateIfNeededFor_a7421, Cond.code yJ5_inflateIfNeededFor_a7421 cJ5_inflateIfNeededFor_a7421 2 none, Cond.methodLink RJ5 40 yJ0_coder_7d493, Cond.methodLink RJ5 195 ⟨"java/lang/AbstractStringBuilder", "inflate", "()V"⟩, Cond.sameMethod "java/lang/AbstractStringBuilder" "java/lang/AbstractStringBuilder" "inflate" "()V", Cond.selects RJ4 ⟨"java/lang/AbstractStringBuilder", "inflate", "()V"⟩ yJ5_inflate_da8c8, Cond.instanceMethod yJ5_inflate_da8c8, Cond.code yJ5_inflate_da8c8 cJ5_inflate_da8c8 2 none, Cond.methodLink RJ5 26 yJ2_newBytesFor_77867, Cond.static yJ2_newBytesFor_77867, Cond.code yJ2_newBytesFor_77867 cJ2_newBytesFor_77867 1 (some (.array .byte)), Cond.methodLink RJ2 11 yJ2_newBytesLength_0f7a4, Cond.static yJ2_newBytesLength_0f7a4, Cond.code yJ2_newBytesLength_0f7a4 cJ2_newBytesLength_0f7a4 1 (some .int), Cond.constant RJ2 20 (1073741823)]
def wsJ4_append_15ec4_r6 : List Cond := [Cond.methodLink RJ5 125 yJ1_inflate_0e8fd, Cond.static yJ1_inflate_0e8fd, Cond.initialized RJ1, Cond.code yJ1_inflate_0e8fd cJ1_inflate_0e8fd 5 none, Cond.methodLink RJ1 240 yJ2_inflate_0e8fd, Cond.static yJ2_inflate_0e8fd, Cond.code yJ2_inflate_0e8fd cJ2_inflate_0e8fd 6 none, Cond.methodLink RJ2 173 yJ2_checkBoundsOffCount_d044e, Cond.static yJ2_checkBoundsOffCount_d044e, Cond.code yJ2_checkBoundsOffCount_d044e cJ2_checkBoundsOffCount_d044e 3 none, Cond.methodLink RJ2 419 yJ0_checkBoundsOffCount_cabcc, Cond.static yJ0_checkBoundsOffCount_cabcc, Cond.code yJ0_checkBoundsOffCount_cabcc cJ0_checkBoundsOffCount_cabcc 3 (some .int), Cond.methodLink RJ0 1065 yJ3_checkFromIndexSize_8c36e, Cond.static yJ3_checkFromIndexSize_8c36e, Cond.code yJ3_checkFromIndexSize_8c36e cJ3_checkFromIndexSize_8c36e 4 (some .int), Cond.methodLink RJ5 399 yJ0_getBytes_840e7, Cond.instanceMethod yJ0_getBytes_840e7, Cond.selects RJ0 yJ0_getBytes_840e7 yJ0_getBytes_840e7, Cond.code yJ0_getBytes_840e7 cJ0_getBytes_840e7 4 none, Cond.methodLink RJ0 212 arraycopyName, Cond.methodLink RJ0 106 yJ1_inflate_0e8fd]
def wsJ4_append_15ec4 : List Cond := .code yJ4_append_15ec4 cJ4_append_15ec4 2 (some (.object "java/lang/StringBuilder")) :: ((wsJ4_append_15ec4_r1 ++ (wsJ4_append_15ec4_r2 ++ (wsJ4_append_15ec4_r3 ++ (wsJ4_append_15ec4_r4 ++ (wsJ4_append_15ec4_r5 ++ wsJ4_append_15ec4_r6))))) ++ wsJ40 ++ wsJ00)
def wsJ4_append_bf812_r1 : List Cond := [Cond.methodLink RJ4 53 yJ5_append_c97b9, Cond.sameMethod "java/lang/AbstractStringBuilder" "java/lang/AbstractStringBuilder" "append" "(I)Ljava/lang/AbstractStringBuilder;", Cond.superclass RJ4 RJ5, Cond.instanceMethod yJ5_append_c97b9, Cond.initialized RJ5, Cond.code yJ5_append_c97b9 cJ5_append_c97b9 4 (some (.object "java/lang/AbstractStringBuilder")), Cond.fieldLink RJ5 79 "java/lang/AbstractStringBuilder" "count" "I", Cond.fieldLink RJ5 15 "java/lang/AbstractStringBuilder" "value" "[B", Cond.methodLink RJ5 245 yJ6_stringSize_0f7a4, Cond.static yJ6_stringSize_0f7a4, Cond.initialized RJ6, Cond.code yJ6_stringSize_0f7a4 cJ6_stringSize_0f7a4 4 (some .int), Cond.methodLink RJ5 100 ⟨"java/lang/AbstractStringBuilder", "ensureCapacityInternal", "(I)V"⟩, Cond.sameMethod "java/lang/AbstractStringBuilder" "java/lang/AbstractStringBuilder" "ensureCapacityInternal" "(I)V", Cond.selects RJ4 ⟨"java/lang/AbstractStringBuilder", "ensureCapacityInternal", "(I)V"⟩ yJ5_ensureCapacityInternal_d00df, Cond.instanceMethod yJ5_ensureCapacityInternal_d00df, Cond.code yJ5_ensureCapacityInternal_d00df cJ5_ensureCapacityInternal_d00df 3 none, Cond.fieldLink RJ5 22 "java/lang/AbstractStringBuilder" "coder" "B", Cond.methodLink RJ5 104 ⟨"java/lang/AbstractStringBuilder", "newCapacity", "(I)I"⟩, Cond.sameMethod "java/lang/AbstractStringBuilder" "java/lang/AbstractStringBuilder" "newCapacity" "(I)I", Cond.selects RJ4 ⟨"java/lang/AbstractStringBuilder", "newCapacity", "(I)I"⟩ yJ5_newCapacity_0f7a4, Cond.instanceMethod yJ5_newCapacity_0f7a4, Cond.code yJ5_newCapacity_0f7a4 cJ5_newCapacity_0f7a4 6 (some .int), Cond.constant RJ5 39 (2147483647)]
def wsJ4_append_bf812_r2 : List Cond := [Cond.methodLink RJ5 114 yJ8_newLength_cabcc, Cond.static yJ8_newLength_cabcc, Cond.initialized RJ8, Cond.code yJ8_newLength_cabcc cJ8_newLength_cabcc 4 (some .int), Cond.methodLink RJ8 194 Lib.Math.max.name, Cond.static Lib.Math.max.name, Cond.initialized "java/lang/Math", Cond.code Lib.Math.max.name Lib.Math.max.code 2 (some .int), Cond.constant RJ8 200 (2147483639), Cond.methodLink RJ8 201 yJ8_hugeLength_7cf53, Cond.static yJ8_hugeLength_7cf53, Cond.code yJ8_hugeLength_7cf53 cJ8_hugeLength_7cf53 3 (some .int), Cond.methodLink RJ5 108 yJ7_copyOf_9075b, Cond.static yJ7_copyOf_9075b, Cond.initialized RJ7, Cond.code yJ7_copyOf_9075b cJ7_copyOf_9075b 3 (some (.array .byte)), Cond.methodLink RJ7 310 ⟨"[B", "clone", "()Ljava/lang/Object;"⟩, Cond.sameMethod "[B" "java/lang/Object" "clone" "()Ljava/lang/Object;", Cond.native ⟨"java/lang/Object", "clone", "()Ljava/lang/Object;"⟩, Cond.instanceMethod ⟨"java/lang/Object", "clone", "()Ljava/lang/Object;"⟩, Cond.selects "[B" ⟨"[B", "clone", "()Ljava/lang/Object;"⟩ ⟨"java/lang/Object", "clone", "()Ljava/lang/Object;"⟩, Cond.classLink RJ7 311 "[B", Cond.arrayClass .byte, Cond.methodLink RJ7 304 Lib.Math.min.name]
def wsJ4_append_bf812_r3 : List Cond := [Cond.static Lib.Math.min.name, Cond.code Lib.Math.min.name Lib.Math.min.code 2 (some .int), Cond.methodLink RJ7 150 arraycopyName, Cond.native arraycopyName, Cond.static arraycopyName, Cond.initialized "java/lang/System", Cond.methodLink RJ5 83 ⟨"java/lang/AbstractStringBuilder", "isLatin1", "()Z"⟩, Cond.sameMethod "java/lang/AbstractStringBuilder" "java/lang/AbstractStringBuilder" "isLatin1" "()Z", Cond.selects RJ4 ⟨"java/lang/AbstractStringBuilder", "isLatin1", "()Z"⟩ yJ5_isLatin1_aae02, Cond.instanceMethod yJ5_isLatin1_aae02, Cond.code yJ5_isLatin1_aae02 cJ5_isLatin1_aae02 1 (some .boolean), Cond.fieldLink RJ5 18 "java/lang/String" "COMPACT_STRINGS" "Z", Cond.methodLink RJ5 248 yJ6_getChars_ba4f3, Cond.static yJ6_getChars_ba4f3, Cond.code yJ6_getChars_ba4f3 cJ6_getChars_ba4f3 7 (some .int), Cond.fieldLink RJ6 83 "java/lang/Integer" "DigitOnes" "[B", Cond.fieldLink RJ6 87 "java/lang/Integer" "DigitTens" "[B", Cond.methodLink RJ5 251 yJ2_getChars_46870, Cond.static yJ2_getChars_46870, Cond.initialized RJ2, Cond.code yJ2_getChars_46870 cJ2_getChars_46870 5 (some .int), Cond.fieldLink RJ2 44 "java/lang/StringUTF16" "$assertionsDisabled" "Z", Cond.methodLink RJ2 96 yJ2_checkBoundsBeginEnd_d044e, Cond.static yJ2_checkBoundsBeginEnd_d044e]
def wsJ4_append_bf812_r4 : List Cond := [Cond.code yJ2_checkBoundsBeginEnd_d044e cJ2_checkBoundsBeginEnd_d044e 3 none, Cond.methodLink RJ2 48 yJ2_length_9d52b, Cond.static yJ2_length_9d52b, Cond.code yJ2_length_9d52b cJ2_length_9d52b 1 (some .int), Cond.methodLink RJ2 241 yJ0_checkBoundsBeginEnd_23922, Cond.static yJ0_checkBoundsBeginEnd_23922, Cond.initialized RJ0, Cond.code yJ0_checkBoundsBeginEnd_23922 cJ0_checkBoundsBeginEnd_23922 3 none, Cond.fieldLink RJ0 1053 "jdk/internal/util/Preconditions" "SIOOBE_FORMATTER" "Ljava/util/function/BiFunction;", Cond.methodLink RJ0 1062 yJ3_checkFromToIndex_8c36e, Cond.static yJ3_checkFromToIndex_8c36e, Cond.initialized RJ3, Cond.code yJ3_checkFromToIndex_8c36e cJ3_checkFromToIndex_8c36e 4 (some .int), Cond.methodLink RJ2 393 yJ2_getChars_ba4f3, Cond.static yJ2_getChars_ba4f3, Cond.code yJ2_getChars_ba4f3 cJ2_getChars_ba4f3 7 (some .int), Cond.fieldLink RJ2 403 "java/lang/Integer" "DigitOnes" "[B", Cond.fieldLink RJ2 407 "java/lang/Integer" "DigitTens" "[B", Cond.methodLink RJ2 111 yJ2_putChar_b72d1, Cond.static yJ2_putChar_b72d1, Cond.code yJ2_putChar_b72d1 cJ2_putChar_b72d1 3 none, Cond.fieldLink RJ2 59 "java/lang/StringUTF16" "HI_BYTE_SHIFT" "I", Cond.fieldLink RJ2 63 "java/lang/StringUTF16" "LO_BYTE_SHIFT" "I"]
def wsJ4_append_bf812 : List Cond := .code yJ4_append_bf812 cJ4_append_bf812 2 (some (.object "java/lang/StringBuilder")) :: ((wsJ4_append_bf812_r1 ++ (wsJ4_append_bf812_r2 ++ (wsJ4_append_bf812_r3 ++ wsJ4_append_bf812_r4))) ++ wsJ40)
def wsJ4_length_8abf5 : List Cond := .code yJ4_length_8abf5 cJ4_length_8abf5 1 (some .int) :: ([.methodLink RJ4 343 yJ5_length_8abf5, .sameMethod "java/lang/AbstractStringBuilder" "java/lang/AbstractStringBuilder" "length" "()I", .superclass RJ4 RJ5, .instanceMethod yJ5_length_8abf5, .initialized RJ5, .code yJ5_length_8abf5 cJ5_length_8abf5 1 (some .int), .fieldLink RJ5 79 "java/lang/AbstractStringBuilder" "count" "I"] ++ wsJ40)
def wsJ7_checkLength_df160 : List Cond := .code yJ7_checkLength_df160 cJ7_checkLength_df160 2 none :: ([])
def wsJ7_copyOfRangeByte_39247 : List Cond := .code yJ7_copyOfRangeByte_39247 cJ7_copyOfRangeByte_39247 5 (some (.array .byte)) :: ([.arrayClass .byte, .methodLink RJ7 304 Lib.Math.min.name, .static Lib.Math.min.name, .initialized "java/lang/Math", .code Lib.Math.min.name Lib.Math.min.code 2 (some .int), .methodLink RJ7 150 arraycopyName, .native arraycopyName, .static arraycopyName, .initialized "java/lang/System", .methodLink RJ7 343 yJ7_checkLength_df160, .static yJ7_checkLength_df160, .initialized RJ7, .code yJ7_checkLength_df160 cJ7_checkLength_df160 2 none])
def wsJ7_copyOfRange_39247 : List Cond := .code yJ7_copyOfRange_39247 cJ7_copyOfRange_39247 3 (some (.array .byte)) :: ([.methodLink RJ7 310 ⟨"[B", "clone", "()Ljava/lang/Object;"⟩, .sameMethod "[B" "java/lang/Object" "clone" "()Ljava/lang/Object;", .native ⟨"java/lang/Object", "clone", "()Ljava/lang/Object;"⟩, .instanceMethod ⟨"java/lang/Object", "clone", "()Ljava/lang/Object;"⟩, .selects "[B" ⟨"[B", "clone", "()Ljava/lang/Object;"⟩ ⟨"java/lang/Object", "clone", "()Ljava/lang/Object;"⟩, .classLink RJ7 311 "[B", .methodLink RJ7 339 yJ7_copyOfRangeByte_39247, .static yJ7_copyOfRangeByte_39247, .initialized RJ7, .code yJ7_copyOfRangeByte_39247 cJ7_copyOfRangeByte_39247 5 (some (.array .byte)), .arrayClass .byte, .methodLink RJ7 304 Lib.Math.min.name, .static Lib.Math.min.name, .initialized "java/lang/Math", .code Lib.Math.min.name Lib.Math.min.code 2 (some .int), .methodLink RJ7 150 arraycopyName, .native arraycopyName, .static arraycopyName, .initialized "java/lang/System", .methodLink RJ7 343 yJ7_checkLength_df160, .static yJ7_checkLength_df160, .code yJ7_checkLength_df160 cJ7_checkLength_df160 2 none])
def wsJ2_getChar_3b067 : List Cond := .code yJ2_getChar_3b067 cJ2_getChar_3b067 2 (some .char) :: ([.fieldLink RJ2 44 "java/lang/StringUTF16" "$assertionsDisabled" "Z", .fieldLink RJ2 59 "java/lang/StringUTF16" "HI_BYTE_SHIFT" "I", .fieldLink RJ2 63 "java/lang/StringUTF16" "LO_BYTE_SHIFT" "I", .methodLink RJ2 48 yJ2_length_9d52b, .static yJ2_length_9d52b, .initialized RJ2, .code yJ2_length_9d52b cJ2_length_9d52b 1 (some .int)])
def wsJ2_compress_5af95 : List Cond := .code yJ2_compress_5af95 cJ2_compress_5af95 7 (some .int) :: ([.methodLink RJ2 173 yJ2_checkBoundsOffCount_d044e, .static yJ2_checkBoundsOffCount_d044e, .initialized RJ2, .code yJ2_checkBoundsOffCount_d044e cJ2_checkBoundsOffCount_d044e 3 none, .methodLink RJ2 48 yJ2_length_9d52b, .static yJ2_length_9d52b, .code yJ2_length_9d52b cJ2_length_9d52b 1 (some .int), .methodLink RJ2 419 yJ0_checkBoundsOffCount_cabcc, .static yJ0_checkBoundsOffCount_cabcc, .initialized RJ0, .code yJ0_checkBoundsOffCount_cabcc cJ0_checkBoundsOffCount_cabcc 3 (some .int), .fieldLink RJ0 1053 "jdk/internal/util/Preconditions" "SIOOBE_FORMATTER" "Ljava/util/function/BiFunction;", .methodLink RJ0 1065 yJ3_checkFromIndexSize_8c36e, .static yJ3_checkFromIndexSize_8c36e, .initialized RJ3, .code yJ3_checkFromIndexSize_8c36e cJ3_checkFromIndexSize_8c36e 4 (some .int), .methodLink RJ2 71 yJ2_getChar_3b067, .static yJ2_getChar_3b067, .code yJ2_getChar_3b067 cJ2_getChar_3b067 2 (some .char), .fieldLink RJ2 44 "java/lang/StringUTF16" "$assertionsDisabled" "Z", .fieldLink RJ2 59 "java/lang/StringUTF16" "HI_BYTE_SHIFT" "I", .fieldLink RJ2 63 "java/lang/StringUTF16" "LO_BYTE_SHIFT" "I"])
def wsJ2_compress_39247_r1 : List Cond := [Cond.arrayClass .byte, Cond.methodLink RJ2 123 yJ2_compress_5af95, Cond.static yJ2_compress_5af95, Cond.initialized RJ2, Cond.code yJ2_compress_5af95 cJ2_compress_5af95 7 (some .int), Cond.methodLink RJ2 173 yJ2_checkBoundsOffCount_d044e, Cond.static yJ2_checkBoundsOffCount_d044e, Cond.code yJ2_checkBoundsOffCount_d044e cJ2_checkBoundsOffCount_d044e 3 none, Cond.methodLink RJ2 48 yJ2_length_9d52b, Cond.static yJ2_length_9d52b, Cond.code yJ2_length_9d52b cJ2_length_9d52b 1 (some .int), Cond.methodLink RJ2 419 yJ0_checkBoundsOffCount_cabcc, Cond.static yJ0_checkBoundsOffCount_cabcc, Cond.initialized RJ0, Cond.code yJ0_checkBoundsOffCount_cabcc cJ0_checkBoundsOffCount_cabcc 3 (some .int), Cond.fieldLink RJ0 1053 "jdk/internal/util/Preconditions" "SIOOBE_FORMATTER" "Ljava/util/function/BiFunction;", Cond.methodLink RJ0 1065 yJ3_checkFromIndexSize_8c36e, Cond.static yJ3_checkFromIndexSize_8c36e, Cond.initialized RJ3, Cond.code yJ3_checkFromIndexSize_8c36e cJ3_checkFromIndexSize_8c36e 4 (some .int), Cond.methodLink RJ2 71 yJ2_getChar_3b067, Cond.static yJ2_getChar_3b067, Cond.code yJ2_getChar_3b067 cJ2_getChar_3b067 2 (some .char), Cond.fieldLink RJ2 44 "java/lang/StringUTF16" "$assertionsDisabled" "Z"]
def wsJ2_compress_39247_r2 : List Cond := [Cond.fieldLink RJ2 59 "java/lang/StringUTF16" "HI_BYTE_SHIFT" "I", Cond.fieldLink RJ2 63 "java/lang/StringUTF16" "LO_BYTE_SHIFT" "I", Cond.methodLink RJ2 11 yJ2_newBytesLength_0f7a4, Cond.static yJ2_newBytesLength_0f7a4, Cond.code yJ2_newBytesLength_0f7a4 cJ2_newBytesLength_0f7a4 1 (some .int), Cond.constant RJ2 20 (1073741823), Cond.methodLink RJ2 126 yJ7_copyOfRange_39247, Cond.static yJ7_copyOfRange_39247, Cond.initialized RJ7, Cond.code yJ7_copyOfRange_39247 cJ7_copyOfRange_39247 3 (some (.array .byte)), Cond.methodLink RJ7 310 ⟨"[B", "clone", "()Ljava/lang/Object;"⟩, Cond.sameMethod "[B" "java/lang/Object" "clone" "()Ljava/lang/Object;", Cond.native ⟨"java/lang/Object", "clone", "()Ljava/lang/Object;"⟩, Cond.instanceMethod ⟨"java/lang/Object", "clone", "()Ljava/lang/Object;"⟩, Cond.selects "[B" ⟨"[B", "clone", "()Ljava/lang/Object;"⟩ ⟨"java/lang/Object", "clone", "()Ljava/lang/Object;"⟩, Cond.classLink RJ7 311 "[B", Cond.methodLink RJ7 339 yJ7_copyOfRangeByte_39247, Cond.static yJ7_copyOfRangeByte_39247, Cond.code yJ7_copyOfRangeByte_39247 cJ7_copyOfRangeByte_39247 5 (some (.array .byte)), Cond.methodLink RJ7 304 Lib.Math.min.name, Cond.static Lib.Math.min.name, Cond.initialized "java/lang/Math", Cond.code Lib.Math.min.name Lib.Math.min.code 2 (some .int), Cond.methodLink RJ7 150 arraycopyName]
def wsJ2_compress_39247_r3 : List Cond := [Cond.native arraycopyName, Cond.static arraycopyName, Cond.initialized "java/lang/System", Cond.methodLink RJ7 343 yJ7_checkLength_df160, Cond.static yJ7_checkLength_df160, Cond.code yJ7_checkLength_df160 cJ7_checkLength_df160 2 none]
def wsJ2_compress_39247 : List Cond := .code yJ2_compress_39247 cJ2_compress_39247 6 (some (.array .byte)) :: ((wsJ2_compress_39247_r1 ++ (wsJ2_compress_39247_r2 ++ wsJ2_compress_39247_r3)))
def wsJ2_coderFromArrayLen_85cad : List Cond := .code yJ2_coderFromArrayLen_85cad cJ2_coderFromArrayLen_85cad 2 (some .byte) :: ([])
def wsJ0_init_db425_r1 : List Cond := [Cond.methodLink RJ0 1 objectInit, Cond.instanceMethod objectInit, Cond.code objectInit ⟨#[0xb1]⟩ 1 none, Cond.fieldLink RJ0 15 "java/lang/String" "coder" "B", Cond.fieldLink RJ0 9 "java/lang/String" "value" "[B", Cond.fieldLink RJ0 38 "java/lang/String" "COMPACT_STRINGS" "Z", Cond.fieldLink RJ0 1048 "java/lang/AbstractStringBuilder" "maybeLatin1" "Z", Cond.methodLink RJ0 552 ⟨"java/lang/AbstractStringBuilder", "getValue", "()[B"⟩, Cond.sameMethod "java/lang/AbstractStringBuilder" "java/lang/AbstractStringBuilder" "getValue" "()[B", Cond.selects RJ4 ⟨"java/lang/AbstractStringBuilder", "getValue", "()[B"⟩ yJ5_getValue_6d5f1, Cond.instanceMethod yJ5_getValue_6d5f1, Cond.initialized RJ5, Cond.code yJ5_getValue_6d5f1 cJ5_getValue_6d5f1 1 (some (.array .byte)), Cond.fieldLink RJ5 15 "java/lang/AbstractStringBuilder" "value" "[B", Cond.methodLink RJ0 549 ⟨"java/lang/AbstractStringBuilder", "length", "()I"⟩, Cond.sameMethod "java/lang/AbstractStringBuilder" "java/lang/AbstractStringBuilder" "length" "()I", Cond.instanceMethod ⟨"java/lang/AbstractStringBuilder", "length", "()I"⟩, Cond.selects RJ4 ⟨"java/lang/AbstractStringBuilder", "length", "()I"⟩ yJ4_length_8abf5, Cond.instanceMethod yJ4_length_8abf5, Cond.initialized RJ4, Cond.code yJ4_length_8abf5 cJ4_length_8abf5 1 (some .int), Cond.methodLink RJ4 343 yJ5_length_8abf5, Cond.superclass RJ4 RJ5, Cond.instanceMethod yJ5_length_8abf5]
def wsJ0_init_db425_r2 : List Cond := [Cond.code yJ5_length_8abf5 cJ5_length_8abf5 1 (some .int), Cond.fieldLink RJ5 79 "java/lang/AbstractStringBuilder" "count" "I", Cond.methodLink RJ0 1047 ⟨"java/lang/AbstractStringBuilder", "isLatin1", "()Z"⟩, Cond.sameMethod "java/lang/AbstractStringBuilder" "java/lang/AbstractStringBuilder" "isLatin1" "()Z", Cond.selects RJ4 ⟨"java/lang/AbstractStringBuilder", "isLatin1", "()Z"⟩ yJ5_isLatin1_aae02, Cond.instanceMethod yJ5_isLatin1_aae02, Cond.code yJ5_isLatin1_aae02 cJ5_isLatin1_aae02 1 (some .boolean), Cond.fieldLink RJ5 18 "java/lang/String" "COMPACT_STRINGS" "Z", Cond.fieldLink RJ5 22 "java/lang/AbstractStringBuilder" "coder" "B", Cond.methodLink RJ0 54 yJ7_copyOfRange_39247, Cond.static yJ7_copyOfRange_39247, Cond.initialized RJ7, Cond.code yJ7_copyOfRange_39247 cJ7_copyOfRange_39247 3 (some (.array .byte)), Cond.methodLink RJ7 310 ⟨"[B", "clone", "()Ljava/lang/Object;"⟩, Cond.sameMethod "[B" "java/lang/Object" "clone" "()Ljava/lang/Object;", Cond.native ⟨"java/lang/Object", "clone", "()Ljava/lang/Object;"⟩, Cond.instanceMethod ⟨"java/lang/Object", "clone", "()Ljava/lang/Object;"⟩, Cond.selects "[B" ⟨"[B", "clone", "()Ljava/lang/Object;"⟩ ⟨"java/lang/Object", "clone", "()Ljava/lang/Object;"⟩, Cond.classLink RJ7 311 "[B", Cond.methodLink RJ7 339 yJ7_copyOfRangeByte_39247, Cond.static yJ7_copyOfRangeByte_39247, Cond.code yJ7_copyOfRangeByte_39247 cJ7_copyOfRangeByte_39247 5 (some (.array .byte)), Cond.arrayClass .byte, Cond.methodLink RJ7 304 Lib.Math.min.name]
def wsJ0_init_db425_r3 : List Cond := [Cond.static Lib.Math.min.name, Cond.initialized "java/lang/Math", Cond.code Lib.Math.min.name Lib.Math.min.code 2 (some .int), Cond.methodLink RJ7 150 arraycopyName, Cond.native arraycopyName, Cond.static arraycopyName, Cond.initialized "java/lang/System", Cond.methodLink RJ7 343 yJ7_checkLength_df160, Cond.static yJ7_checkLength_df160, Cond.code yJ7_checkLength_df160 cJ7_checkLength_df160 2 none, Cond.methodLink RJ0 1051 yJ2_compress_39247, Cond.static yJ2_compress_39247, Cond.initialized RJ2, Cond.code yJ2_compress_39247 cJ2_compress_39247 6 (some (.array .byte)), Cond.methodLink RJ2 123 yJ2_compress_5af95, Cond.static yJ2_compress_5af95, Cond.code yJ2_compress_5af95 cJ2_compress_5af95 7 (some .int), Cond.methodLink RJ2 173 yJ2_checkBoundsOffCount_d044e, Cond.static yJ2_checkBoundsOffCount_d044e, Cond.code yJ2_checkBoundsOffCount_d044e cJ2_checkBoundsOffCount_d044e 3 none, Cond.methodLink RJ2 48 yJ2_length_9d52b, Cond.static yJ2_length_9d52b, Cond.code yJ2_length_9d52b cJ2_length_9d52b 1 (some .int), Cond.methodLink RJ2 419 yJ0_checkBoundsOffCount_cabcc]
def wsJ0_init_db425_r4 : List Cond := [Cond.static yJ0_checkBoundsOffCount_cabcc, Cond.initialized RJ0, Cond.code yJ0_checkBoundsOffCount_cabcc cJ0_checkBoundsOffCount_cabcc 3 (some .int), Cond.fieldLink RJ0 1053 "jdk/internal/util/Preconditions" "SIOOBE_FORMATTER" "Ljava/util/function/BiFunction;", Cond.methodLink RJ0 1065 yJ3_checkFromIndexSize_8c36e, Cond.static yJ3_checkFromIndexSize_8c36e, Cond.initialized RJ3, Cond.code yJ3_checkFromIndexSize_8c36e cJ3_checkFromIndexSize_8c36e 4 (some .int), Cond.methodLink RJ2 71 yJ2_getChar_3b067, Cond.static yJ2_getChar_3b067, Cond.code yJ2_getChar_3b067 cJ2_getChar_3b067 2 (some .char), Cond.fieldLink RJ2 44 "java/lang/StringUTF16" "$assertionsDisabled" "Z", Cond.fieldLink RJ2 59 "java/lang/StringUTF16" "HI_BYTE_SHIFT" "I", Cond.fieldLink RJ2 63 "java/lang/StringUTF16" "LO_BYTE_SHIFT" "I", Cond.methodLink RJ2 11 yJ2_newBytesLength_0f7a4, Cond.static yJ2_newBytesLength_0f7a4, Cond.code yJ2_newBytesLength_0f7a4 cJ2_newBytesLength_0f7a4 1 (some .int), Cond.constant RJ2 20 (1073741823), Cond.methodLink RJ2 126 yJ7_copyOfRange_39247, Cond.methodLink RJ0 47 yJ2_coderFromArrayLen_85cad, Cond.static yJ2_coderFromArrayLen_85cad, Cond.code yJ2_coderFromArrayLen_85cad cJ2_coderFromArrayLen_85cad 2 (some .byte)]
def wsJ0_init_db425 : List Cond := .code yJ0_init_db425 cJ0_init_db425 5 none :: ((wsJ0_init_db425_r1 ++ (wsJ0_init_db425_r2 ++ (wsJ0_init_db425_r3 ++ wsJ0_init_db425_r4))) ++ wsJ00 ++ wsJ40)
def wsJ0_init_81219_r1 : List Cond := [Cond.methodLink RJ0 489 yJ0_init_db425, Cond.instanceMethod yJ0_init_db425, Cond.initialized RJ0, Cond.code yJ0_init_db425 cJ0_init_db425 5 none, Cond.methodLink RJ0 1 objectInit, Cond.instanceMethod objectInit, Cond.code objectInit ⟨#[0xb1]⟩ 1 none, Cond.fieldLink RJ0 15 "java/lang/String" "coder" "B", Cond.fieldLink RJ0 9 "java/lang/String" "value" "[B", Cond.fieldLink RJ0 38 "java/lang/String" "COMPACT_STRINGS" "Z", Cond.fieldLink RJ0 1048 "java/lang/AbstractStringBuilder" "maybeLatin1" "Z", Cond.methodLink RJ0 552 ⟨"java/lang/AbstractStringBuilder", "getValue", "()[B"⟩, Cond.sameMethod "java/lang/AbstractStringBuilder" "java/lang/AbstractStringBuilder" "getValue" "()[B", Cond.selects RJ4 ⟨"java/lang/AbstractStringBuilder", "getValue", "()[B"⟩ yJ5_getValue_6d5f1, Cond.instanceMethod yJ5_getValue_6d5f1, Cond.initialized RJ5, Cond.code yJ5_getValue_6d5f1 cJ5_getValue_6d5f1 1 (some (.array .byte)), Cond.fieldLink RJ5 15 "java/lang/AbstractStringBuilder" "value" "[B", Cond.methodLink RJ0 549 ⟨"java/lang/AbstractStringBuilder", "length", "()I"⟩, Cond.sameMethod "java/lang/AbstractStringBuilder" "java/lang/AbstractStringBuilder" "length" "()I", Cond.instanceMethod ⟨"java/lang/AbstractStringBuilder", "length", "()I"⟩, Cond.selects RJ4 ⟨"java/lang/AbstractStringBuilder", "length", "()I"⟩ yJ4_length_8abf5, Cond.instanceMethod yJ4_length_8abf5, Cond.initialized RJ4]
def wsJ0_init_81219_r2 : List Cond := [Cond.code yJ4_length_8abf5 cJ4_length_8abf5 1 (some .int), Cond.methodLink RJ4 343 yJ5_length_8abf5, Cond.superclass RJ4 RJ5, Cond.instanceMethod yJ5_length_8abf5, Cond.code yJ5_length_8abf5 cJ5_length_8abf5 1 (some .int), Cond.fieldLink RJ5 79 "java/lang/AbstractStringBuilder" "count" "I", Cond.methodLink RJ0 1047 ⟨"java/lang/AbstractStringBuilder", "isLatin1", "()Z"⟩, Cond.sameMethod "java/lang/AbstractStringBuilder" "java/lang/AbstractStringBuilder" "isLatin1" "()Z", Cond.selects RJ4 ⟨"java/lang/AbstractStringBuilder", "isLatin1", "()Z"⟩ yJ5_isLatin1_aae02, Cond.instanceMethod yJ5_isLatin1_aae02, Cond.code yJ5_isLatin1_aae02 cJ5_isLatin1_aae02 1 (some .boolean), Cond.fieldLink RJ5 18 "java/lang/String" "COMPACT_STRINGS" "Z", Cond.fieldLink RJ5 22 "java/lang/AbstractStringBuilder" "coder" "B", Cond.methodLink RJ0 54 yJ7_copyOfRange_39247, Cond.static yJ7_copyOfRange_39247, Cond.initialized RJ7, Cond.code yJ7_copyOfRange_39247 cJ7_copyOfRange_39247 3 (some (.array .byte)), Cond.methodLink RJ7 310 ⟨"[B", "clone", "()Ljava/lang/Object;"⟩, Cond.sameMethod "[B" "java/lang/Object" "clone" "()Ljava/lang/Object;", Cond.native ⟨"java/lang/Object", "clone", "()Ljava/lang/Object;"⟩, Cond.instanceMethod ⟨"java/lang/Object", "clone", "()Ljava/lang/Object;"⟩, Cond.selects "[B" ⟨"[B", "clone", "()Ljava/lang/Object;"⟩ ⟨"java/lang/Object", "clone", "()Ljava/lang/Object;"⟩, Cond.classLink RJ7 311 "[B", Cond.methodLink RJ7 339 yJ7_copyOfRangeByte_39247]
def wsJ0_init_81219_r3 : List Cond := [Cond.static yJ7_copyOfRangeByte_39247, Cond.code yJ7_copyOfRangeByte_39247 cJ7_copyOfRangeByte_39247 5 (some (.array .byte)), Cond.arrayClass .byte, Cond.methodLink RJ7 304 Lib.Math.min.name, Cond.static Lib.Math.min.name, Cond.initialized "java/lang/Math", Cond.code Lib.Math.min.name Lib.Math.min.code 2 (some .int), Cond.methodLink RJ7 150 arraycopyName, Cond.native arraycopyName, Cond.static arraycopyName, Cond.initialized "java/lang/System", Cond.methodLink RJ7 343 yJ7_checkLength_df160, Cond.static yJ7_checkLength_df160, Cond.code yJ7_checkLength_df160 cJ7_checkLength_df160 2 none, Cond.methodLink RJ0 1051 yJ2_compress_39247, Cond.static yJ2_compress_39247, Cond.initialized RJ2, Cond.code yJ2_compress_39247 cJ2_compress_39247 6 (some (.array .byte)), Cond.methodLink RJ2 123 yJ2_compress_5af95, Cond.static yJ2_compress_5af95, Cond.code yJ2_compress_5af95 cJ2_compress_5af95 7 (some .int), Cond.methodLink RJ2 173 yJ2_checkBoundsOffCount_d044e, Cond.static yJ2_checkBoundsOffCount_d044e, Cond.code yJ2_checkBoundsOffCount_d044e cJ2_checkBoundsOffCount_d044e 3 none]
def wsJ0_init_81219_r4 : List Cond := [Cond.methodLink RJ2 48 yJ2_length_9d52b, Cond.static yJ2_length_9d52b, Cond.code yJ2_length_9d52b cJ2_length_9d52b 1 (some .int), Cond.methodLink RJ2 419 yJ0_checkBoundsOffCount_cabcc, Cond.static yJ0_checkBoundsOffCount_cabcc, Cond.code yJ0_checkBoundsOffCount_cabcc cJ0_checkBoundsOffCount_cabcc 3 (some .int), Cond.fieldLink RJ0 1053 "jdk/internal/util/Preconditions" "SIOOBE_FORMATTER" "Ljava/util/function/BiFunction;", Cond.methodLink RJ0 1065 yJ3_checkFromIndexSize_8c36e, Cond.static yJ3_checkFromIndexSize_8c36e, Cond.initialized RJ3, Cond.code yJ3_checkFromIndexSize_8c36e cJ3_checkFromIndexSize_8c36e 4 (some .int), Cond.methodLink RJ2 71 yJ2_getChar_3b067, Cond.static yJ2_getChar_3b067, Cond.code yJ2_getChar_3b067 cJ2_getChar_3b067 2 (some .char), Cond.fieldLink RJ2 44 "java/lang/StringUTF16" "$assertionsDisabled" "Z", Cond.fieldLink RJ2 59 "java/lang/StringUTF16" "HI_BYTE_SHIFT" "I", Cond.fieldLink RJ2 63 "java/lang/StringUTF16" "LO_BYTE_SHIFT" "I", Cond.methodLink RJ2 11 yJ2_newBytesLength_0f7a4, Cond.static yJ2_newBytesLength_0f7a4, Cond.code yJ2_newBytesLength_0f7a4 cJ2_newBytesLength_0f7a4 1 (some .int), Cond.constant RJ2 20 (1073741823), Cond.methodLink RJ2 126 yJ7_copyOfRange_39247, Cond.methodLink RJ0 47 yJ2_coderFromArrayLen_85cad, Cond.static yJ2_coderFromArrayLen_85cad]
def wsJ0_init_81219_r5 : List Cond := [Cond.code yJ2_coderFromArrayLen_85cad cJ2_coderFromArrayLen_85cad 2 (some .byte)]
def wsJ0_init_81219 : List Cond := .code yJ0_init_81219 cJ0_init_81219 2 none :: ((wsJ0_init_81219_r1 ++ (wsJ0_init_81219_r2 ++ (wsJ0_init_81219_r3 ++ (wsJ0_init_81219_r4 ++ wsJ0_init_81219_r5)))) ++ wsJ00 ++ wsJ40)
def wsJ4_toString_0e30d_r1 : List Cond := [Cond.classLink RJ4 18 RJ0, Cond.instantiable RJ0 4, Cond.initialized RJ0, Cond.methodLink RJ4 137 yJ0_init_81219, Cond.instanceMethod yJ0_init_81219, Cond.code yJ0_init_81219 cJ0_init_81219 2 none, Cond.methodLink RJ0 489 yJ0_init_db425, Cond.instanceMethod yJ0_init_db425, Cond.code yJ0_init_db425 cJ0_init_db425 5 none, Cond.methodLink RJ0 1 objectInit, Cond.instanceMethod objectInit, Cond.code objectInit ⟨#[0xb1]⟩ 1 none, Cond.fieldLink RJ0 15 "java/lang/String" "coder" "B", Cond.fieldLink RJ0 9 "java/lang/String" "value" "[B", Cond.fieldLink RJ0 38 "java/lang/String" "COMPACT_STRINGS" "Z", Cond.fieldLink RJ0 1048 "java/lang/AbstractStringBuilder" "maybeLatin1" "Z", Cond.methodLink RJ0 552 ⟨"java/lang/AbstractStringBuilder", "getValue", "()[B"⟩, Cond.sameMethod "java/lang/AbstractStringBuilder" "java/lang/AbstractStringBuilder" "getValue" "()[B", Cond.selects RJ4 ⟨"java/lang/AbstractStringBuilder", "getValue", "()[B"⟩ yJ5_getValue_6d5f1, Cond.instanceMethod yJ5_getValue_6d5f1, Cond.initialized RJ5, Cond.code yJ5_getValue_6d5f1 cJ5_getValue_6d5f1 1 (some (.array .byte)), Cond.fieldLink RJ5 15 "java/lang/AbstractStringBuilder" "value" "[B", Cond.methodLink RJ0 549 ⟨"java/lang/AbstractStringBuilder", "length", "()I"⟩]
def wsJ4_toString_0e30d_r2 : List Cond := [Cond.sameMethod "java/lang/AbstractStringBuilder" "java/lang/AbstractStringBuilder" "length" "()I", Cond.instanceMethod ⟨"java/lang/AbstractStringBuilder", "length", "()I"⟩, Cond.selects RJ4 ⟨"java/lang/AbstractStringBuilder", "length", "()I"⟩ yJ4_length_8abf5, Cond.instanceMethod yJ4_length_8abf5, Cond.initialized RJ4, Cond.code yJ4_length_8abf5 cJ4_length_8abf5 1 (some .int), Cond.methodLink RJ4 343 yJ5_length_8abf5, Cond.superclass RJ4 RJ5, Cond.instanceMethod yJ5_length_8abf5, Cond.code yJ5_length_8abf5 cJ5_length_8abf5 1 (some .int), Cond.fieldLink RJ5 79 "java/lang/AbstractStringBuilder" "count" "I", Cond.methodLink RJ0 1047 ⟨"java/lang/AbstractStringBuilder", "isLatin1", "()Z"⟩, Cond.sameMethod "java/lang/AbstractStringBuilder" "java/lang/AbstractStringBuilder" "isLatin1" "()Z", Cond.selects RJ4 ⟨"java/lang/AbstractStringBuilder", "isLatin1", "()Z"⟩ yJ5_isLatin1_aae02, Cond.instanceMethod yJ5_isLatin1_aae02, Cond.code yJ5_isLatin1_aae02 cJ5_isLatin1_aae02 1 (some .boolean), Cond.fieldLink RJ5 18 "java/lang/String" "COMPACT_STRINGS" "Z", Cond.fieldLink RJ5 22 "java/lang/AbstractStringBuilder" "coder" "B", Cond.methodLink RJ0 54 yJ7_copyOfRange_39247, Cond.static yJ7_copyOfRange_39247, Cond.initialized RJ7, Cond.code yJ7_copyOfRange_39247 cJ7_copyOfRange_39247 3 (some (.array .byte)), Cond.methodLink RJ7 310 ⟨"[B", "clone", "()Ljava/lang/Object;"⟩, Cond.sameMethod "[B" "java/lang/Object" "clone" "()Ljava/lang/Object;"]
def wsJ4_toString_0e30d_r3 : List Cond := [Cond.native ⟨"java/lang/Object", "clone", "()Ljava/lang/Object;"⟩, Cond.instanceMethod ⟨"java/lang/Object", "clone", "()Ljava/lang/Object;"⟩, Cond.selects "[B" ⟨"[B", "clone", "()Ljava/lang/Object;"⟩ ⟨"java/lang/Object", "clone", "()Ljava/lang/Object;"⟩, Cond.classLink RJ7 311 "[B", Cond.methodLink RJ7 339 yJ7_copyOfRangeByte_39247, Cond.static yJ7_copyOfRangeByte_39247, Cond.code yJ7_copyOfRangeByte_39247 cJ7_copyOfRangeByte_39247 5 (some (.array .byte)), Cond.arrayClass .byte, Cond.methodLink RJ7 304 Lib.Math.min.name, Cond.static Lib.Math.min.name, Cond.initialized "java/lang/Math", Cond.code Lib.Math.min.name Lib.Math.min.code 2 (some .int), Cond.methodLink RJ7 150 arraycopyName, Cond.native arraycopyName, Cond.static arraycopyName, Cond.initialized "java/lang/System", Cond.methodLink RJ7 343 yJ7_checkLength_df160, Cond.static yJ7_checkLength_df160, Cond.code yJ7_checkLength_df160 cJ7_checkLength_df160 2 none, Cond.methodLink RJ0 1051 yJ2_compress_39247, Cond.static yJ2_compress_39247, Cond.initialized RJ2, Cond.code yJ2_compress_39247 cJ2_compress_39247 6 (some (.array .byte)), Cond.methodLink RJ2 123 yJ2_compress_5af95]
def wsJ4_toString_0e30d_r4 : List Cond := [Cond.static yJ2_compress_5af95, Cond.code yJ2_compress_5af95 cJ2_compress_5af95 7 (some .int), Cond.methodLink RJ2 173 yJ2_checkBoundsOffCount_d044e, Cond.static yJ2_checkBoundsOffCount_d044e, Cond.code yJ2_checkBoundsOffCount_d044e cJ2_checkBoundsOffCount_d044e 3 none, Cond.methodLink RJ2 48 yJ2_length_9d52b, Cond.static yJ2_length_9d52b, Cond.code yJ2_length_9d52b cJ2_length_9d52b 1 (some .int), Cond.methodLink RJ2 419 yJ0_checkBoundsOffCount_cabcc, Cond.static yJ0_checkBoundsOffCount_cabcc, Cond.code yJ0_checkBoundsOffCount_cabcc cJ0_checkBoundsOffCount_cabcc 3 (some .int), Cond.fieldLink RJ0 1053 "jdk/internal/util/Preconditions" "SIOOBE_FORMATTER" "Ljava/util/function/BiFunction;", Cond.methodLink RJ0 1065 yJ3_checkFromIndexSize_8c36e, Cond.static yJ3_checkFromIndexSize_8c36e, Cond.initialized RJ3, Cond.code yJ3_checkFromIndexSize_8c36e cJ3_checkFromIndexSize_8c36e 4 (some .int), Cond.methodLink RJ2 71 yJ2_getChar_3b067, Cond.static yJ2_getChar_3b067, Cond.code yJ2_getChar_3b067 cJ2_getChar_3b067 2 (some .char), Cond.fieldLink RJ2 44 "java/lang/StringUTF16" "$assertionsDisabled" "Z", Cond.fieldLink RJ2 59 "java/lang/StringUTF16" "HI_BYTE_SHIFT" "I", Cond.fieldLink RJ2 63 "java/lang/StringUTF16" "LO_BYTE_SHIFT" "I", Cond.methodLink RJ2 11 yJ2_newBytesLength_0f7a4, Cond.static yJ2_newBytesLength_0f7a4]
def wsJ4_toString_0e30d_r5 : List Cond := [Cond.code yJ2_newBytesLength_0f7a4 cJ2_newBytesLength_0f7a4 1 (some .int), Cond.constant RJ2 20 (1073741823), Cond.methodLink RJ2 126 yJ7_copyOfRange_39247, Cond.methodLink RJ0 47 yJ2_coderFromArrayLen_85cad, Cond.static yJ2_coderFromArrayLen_85cad, Cond.code yJ2_coderFromArrayLen_85cad cJ2_coderFromArrayLen_85cad 2 (some .byte)]
def wsJ4_toString_0e30d : List Cond := .code yJ4_toString_0e30d cJ4_toString_0e30d 1 (some (.object "java/lang/String")) :: ((wsJ4_toString_0e30d_r1 ++ (wsJ4_toString_0e30d_r2 ++ (wsJ4_toString_0e30d_r3 ++ (wsJ4_toString_0e30d_r4 ++ wsJ4_toString_0e30d_r5)))) ++ wsJ00 ++ wsJ40)
def wsJx00060_init_d00df_r1 : List Cond := [Cond.classLink RJx00060 10 RJ4, Cond.instantiable RJ4 4, Cond.initialized RJ4, Cond.methodLink RJx00060 12 yJ4_init_da8c8, Cond.instanceMethod yJ4_init_da8c8, Cond.code yJ4_init_da8c8 cJ4_init_da8c8 1 none, Cond.methodLink RJ4 1 yJ5_init_d00df, Cond.instanceMethod yJ5_init_d00df, Cond.initialized RJ5, Cond.code yJ5_init_d00df cJ5_init_d00df 2 none, Cond.methodLink RJ5 3 objectInit, Cond.instanceMethod objectInit, Cond.code objectInit ⟨#[0xb1]⟩ 1 none, Cond.fieldLink RJ5 18 "java/lang/String" "COMPACT_STRINGS" "Z", Cond.arrayClass .byte, Cond.fieldLink RJ5 15 "java/lang/AbstractStringBuilder" "value" "[B", Cond.fieldLink RJ5 22 "java/lang/AbstractStringBuilder" "coder" "B", Cond.methodLink RJ5 26 yJ2_newBytesFor_77867, Cond.static yJ2_newBytesFor_77867, Cond.initialized RJ2, Cond.code yJ2_newBytesFor_77867 cJ2_newBytesFor_77867 1 (some (.array .byte)), Cond.methodLink RJ2 11 yJ2_newBytesLength_0f7a4, Cond.static yJ2_newBytesLength_0f7a4, Cond.code yJ2_newBytesLength_0f7a4 cJ2_newBytesLength_0f7a4 1 (some .int)]
def wsJx00060_init_d00df_r2 : List Cond := [Cond.constant RJ2 20 (1073741823), Cond.methodLink RJx00060 15 yJ4_append_15ec4, Cond.instanceMethod yJ4_append_15ec4, Cond.selects RJ4 yJ4_append_15ec4 yJ4_append_15ec4, Cond.code yJ4_append_15ec4 cJ4_append_15ec4 2 (some (.object "java/lang/StringBuilder")), Cond.methodLink RJ4 29 yJ5_append_cf1ce, Cond.sameMethod "java/lang/AbstractStringBuilder" "java/lang/AbstractStringBuilder" "append" "(Ljava/lang/String;)Ljava/lang/AbstractStringBuilder;", Cond.superclass RJ4 RJ5, Cond.instanceMethod yJ5_append_cf1ce, Cond.code yJ5_append_cf1ce cJ5_append_cf1ce 3 (some (.object "java/lang/AbstractStringBuilder")), Cond.fieldLink RJ5 79 "java/lang/AbstractStringBuilder" "count" "I", Cond.methodLink RJ5 204 ⟨"java/lang/AbstractStringBuilder", "appendNull", "()Ljava/lang/AbstractStringBuilder;"⟩, Cond.sameMethod "java/lang/AbstractStringBuilder" "java/lang/AbstractStringBuilder" "appendNull" "()Ljava/lang/AbstractStringBuilder;", Cond.selects RJ4 ⟨"java/lang/AbstractStringBuilder", "appendNull", "()Ljava/lang/AbstractStringBuilder;"⟩ yJ5_appendNull_278bc, Cond.instanceMethod yJ5_appendNull_278bc, Cond.code yJ5_appendNull_278bc cJ5_appendNull_278bc 3 (some (.object "java/lang/AbstractStringBuilder")), Cond.methodLink RJ5 100 ⟨"java/lang/AbstractStringBuilder", "ensureCapacityInternal", "(I)V"⟩, Cond.sameMethod "java/lang/AbstractStringBuilder" "java/lang/AbstractStringBuilder" "ensureCapacityInternal" "(I)V", Cond.selects RJ4 ⟨"java/lang/AbstractStringBuilder", "ensureCapacityInternal", "(I)V"⟩ yJ5_ensureCapacityInternal_d00df, Cond.instanceMethod yJ5_ensureCapacityInternal_d00df, Cond.code yJ5_ensureCapacityInternal_d00df cJ5_ensureCapacityInternal_d00df 3 none, Cond.methodLink RJ5 104 ⟨"java/lang/AbstractStringBuilder", "newCapacity", "(I)I"⟩, Cond.sameMethod "java/lang/AbstractStringBuilder" "java/lang/AbstractStringBuilder" "newCapacity" "(I)I", Cond.selects RJ4 ⟨"java/lang/AbstractStringBuilder", "newCapacity", "(I)I"⟩ yJ5_newCapacity_0f7a4]
def wsJx00060_init_d00df_r3 : List Cond := [Cond.instanceMethod yJ5_newCapacity_0f7a4, Cond.code yJ5_newCapacity_0f7a4 cJ5_newCapacity_0f7a4 6 (some .int), Cond.constant RJ5 39 (2147483647), Cond.methodLink RJ5 114 yJ8_newLength_cabcc, Cond.static yJ8_newLength_cabcc, Cond.initialized RJ8, Cond.code yJ8_newLength_cabcc cJ8_newLength_cabcc 4 (some .int), Cond.methodLink RJ8 194 Lib.Math.max.name, Cond.static Lib.Math.max.name, Cond.initialized "java/lang/Math", Cond.code Lib.Math.max.name Lib.Math.max.code 2 (some .int), Cond.constant RJ8 200 (2147483639), Cond.methodLink RJ8 201 yJ8_hugeLength_7cf53, Cond.static yJ8_hugeLength_7cf53, Cond.code yJ8_hugeLength_7cf53 cJ8_hugeLength_7cf53 3 (some .int), Cond.methodLink RJ5 108 yJ7_copyOf_9075b, Cond.static yJ7_copyOf_9075b, Cond.initialized RJ7, Cond.code yJ7_copyOf_9075b cJ7_copyOf_9075b 3 (some (.array .byte)), Cond.methodLink RJ7 310 ⟨"[B", "clone", "()Ljava/lang/Object;"⟩, Cond.sameMethod "[B" "java/lang/Object" "clone" "()Ljava/lang/Object;", Cond.native ⟨"java/lang/Object", "clone", "()Ljava/lang/Object;"⟩, Cond.instanceMethod ⟨"java/lang/Object", "clone", "()Ljava/lang/Object;"⟩, Cond.selects "[B" ⟨"[B", "clone", "()Ljava/lang/Object;"⟩ ⟨"java/lang/Object", "clone", "()Ljava/lang/Object;"⟩]
def wsJx00060_init_d00df_r4 : List Cond := [Cond.classLink RJ7 311 "[B", Cond.methodLink RJ7 304 Lib.Math.min.name, Cond.static Lib.Math.min.name, Cond.code Lib.Math.min.name Lib.Math.min.code 2 (some .int), Cond.methodLink RJ7 150 arraycopyName, Cond.native arraycopyName, Cond.static arraycopyName, Cond.initialized "java/lang/System", Cond.methodLink RJ5 83 ⟨"java/lang/AbstractStringBuilder", "isLatin1", "()Z"⟩, Cond.sameMethod "java/lang/AbstractStringBuilder" "java/lang/AbstractStringBuilder" "isLatin1" "()Z", Cond.selects RJ4 ⟨"java/lang/AbstractStringBuilder", "isLatin1", "()Z"⟩ yJ5_isLatin1_aae02, Cond.instanceMethod yJ5_isLatin1_aae02, Cond.code yJ5_isLatin1_aae02 cJ5_isLatin1_aae02 1 (some .boolean), Cond.methodLink RJ5 226 yJ2_putCharsAt_cd4e5, Cond.static yJ2_putCharsAt_cd4e5, Cond.code yJ2_putCharsAt_cd4e5 cJ2_putCharsAt_cd4e5 7 (some .int), Cond.fieldLink RJ2 44 "java/lang/StringUTF16" "$assertionsDisabled" "Z", Cond.methodLink RJ2 96 yJ2_checkBoundsBeginEnd_d044e, Cond.static yJ2_checkBoundsBeginEnd_d044e, Cond.code yJ2_checkBoundsBeginEnd_d044e cJ2_checkBoundsBeginEnd_d044e 3 none, Cond.methodLink RJ2 48 yJ2_length_9d52b, Cond.static yJ2_length_9d52b, Cond.code yJ2_length_9d52b cJ2_length_9d52b 1 (some .int), Cond.methodLink RJ2 241 yJ0_checkBoundsBeginEnd_23922]
def wsJx00060_init_d00df_r5 : List Cond := [Cond.static yJ0_checkBoundsBeginEnd_23922, Cond.initialized RJ0, Cond.code yJ0_checkBoundsBeginEnd_23922 cJ0_checkBoundsBeginEnd_23922 3 none, Cond.fieldLink RJ0 1053 "jdk/internal/util/Preconditions" "SIOOBE_FORMATTER" "Ljava/util/function/BiFunction;", Cond.methodLink RJ0 1062 yJ3_checkFromToIndex_8c36e, Cond.static yJ3_checkFromToIndex_8c36e, Cond.initialized RJ3, Cond.code yJ3_checkFromToIndex_8c36e cJ3_checkFromToIndex_8c36e 4 (some .int), Cond.methodLink RJ2 111 yJ2_putChar_b72d1, Cond.static yJ2_putChar_b72d1, Cond.code yJ2_putChar_b72d1 cJ2_putChar_b72d1 3 none, Cond.fieldLink RJ2 59 "java/lang/StringUTF16" "HI_BYTE_SHIFT" "I", Cond.fieldLink RJ2 63 "java/lang/StringUTF16" "LO_BYTE_SHIFT" "I", Cond.methodLink RJ5 32 yJ0_length_8abf5, Cond.instanceMethod yJ0_length_8abf5, Cond.selects RJ0 yJ0_length_8abf5 yJ0_length_8abf5, Cond.code yJ0_length_8abf5 cJ0_length_8abf5 1 (some .int), Cond.fieldLink RJ0 9 "java/lang/String" "value" "[B", Cond.methodLink RJ0 335 yJ0_coder_7d493, Cond.instanceMethod yJ0_coder_7d493, Cond.selects RJ0 yJ0_coder_7d493 yJ0_coder_7d493, Cond.code yJ0_coder_7d493 cJ0_coder_7d493 1 (some .byte), Cond.fieldLink RJ0 38 "java/lang/String" "COMPACT_STRINGS" "Z", Cond.fieldLink RJ0 15 "java/lang/String" "coder" "B"]
def wsJx00060_init_d00df_r6 : List Cond := [Cond.methodLink RJ5 208 ⟨"java/lang/AbstractStringBuilder", "putStringAt", "(ILjava/lang/String;)V"⟩, Cond.sameMethod "java/lang/AbstractStringBuilder" "java/lang/AbstractStringBuilder" "putStringAt" "(ILjava/lang/String;)V", Cond.selects RJ4 ⟨"java/lang/AbstractStringBuilder", "putStringAt", "(ILjava/lang/String;)V"⟩ yJ5_putStringAt_47b60, Cond.instanceMethod yJ5_putStringAt_47b60, Cond.code yJ5_putStringAt_47b60 cJ5_putStringAt_47b60 3 none, Cond.methodLink RJ5 397 ⟨"java/lang/AbstractStringBuilder", "inflateIfNeededFor", "(Ljava/lang/String;)V"⟩, Cond.sameMethod "java/lang/AbstractStringBuilder" "java/lang/AbstractStringBuilder" "inflateIfNeededFor" "(Ljava/lang/String;)V", Cond.selects RJ4 ⟨"java/lang/AbstractStringBuilder", "inflateIfNeededFor", "(Ljava/lang/String;)V"⟩ yJ5_inflateIfNeededFor_a7421, Cond.instanceMethod yJ5_inflateIfNeededFor_a7421, Cond.code yJ5_inflateIfNeededFor_a7421 cJ5_inflateIfNeededFor_a7421 2 none, Cond.methodLink RJ5 40 yJ0_coder_7d493, Cond.methodLink RJ5 195 ⟨"java/lang/AbstractStringBuilder", "inflate", "()V"⟩, Cond.sameMethod "java/lang/AbstractStringBuilder" "java/lang/AbstractStringBuilder" "inflate" "()V", Cond.selects RJ4 ⟨"java/lang/AbstractStringBuilder", "inflate", "()V"⟩ yJ5_inflate_da8c8, Cond.instanceMethod yJ5_inflate_da8c8, Cond.code yJ5_inflate_da8c8 cJ5_inflate_da8c8 2 none, Cond.methodLink RJ5 125 yJ1_inflate_0e8fd, Cond.static yJ1_inflate_0e8fd, Cond.initialized RJ1, Cond.code yJ1_inflate_0e8fd cJ1_inflate_0e8fd 5 none, Cond.methodLink RJ1 240 yJ2_inflate_0e8fd, Cond.static yJ2_inflate_0e8fd, Cond.code yJ2_inflate_0e8fd cJ2_inflate_0e8fd 6 none, Cond.methodLink RJ2 173 yJ2_checkBoundsOffCount_d044e]
def wsJx00060_init_d00df_r7 : List Cond := [Cond.static yJ2_checkBoundsOffCount_d044e, Cond.code yJ2_checkBoundsOffCount_d044e cJ2_checkBoundsOffCount_d044e 3 none, Cond.methodLink RJ2 419 yJ0_checkBoundsOffCount_cabcc, Cond.static yJ0_checkBoundsOffCount_cabcc, Cond.code yJ0_checkBoundsOffCount_cabcc cJ0_checkBoundsOffCount_cabcc 3 (some .int), Cond.methodLink RJ0 1065 yJ3_checkFromIndexSize_8c36e, Cond.static yJ3_checkFromIndexSize_8c36e, Cond.code yJ3_checkFromIndexSize_8c36e cJ3_checkFromIndexSize_8c36e 4 (some .int), Cond.methodLink RJ5 399 yJ0_getBytes_840e7, Cond.instanceMethod yJ0_getBytes_840e7, Cond.selects RJ0 yJ0_getBytes_840e7 yJ0_getBytes_840e7, Cond.code yJ0_getBytes_840e7 cJ0_getBytes_840e7 4 none, Cond.methodLink RJ0 212 arraycopyName, Cond.methodLink RJ0 106 yJ1_inflate_0e8fd, Cond.methodLink RJx00060 19 yJ4_append_bf812, Cond.instanceMethod yJ4_append_bf812, Cond.selects RJ4 yJ4_append_bf812 yJ4_append_bf812, Cond.code yJ4_append_bf812 cJ4_append_bf812 2 (some (.object "java/lang/StringBuilder")), Cond.methodLink RJ4 53 yJ5_append_c97b9, Cond.sameMethod "java/lang/AbstractStringBuilder" "java/lang/AbstractStringBuilder" "append" "(I)Ljava/lang/AbstractStringBuilder;", Cond.instanceMethod yJ5_append_c97b9, Cond.code yJ5_append_c97b9 cJ5_append_c97b9 4 (some (.object "java/lang/AbstractStringBuilder")), Cond.methodLink RJ5 245 yJ6_stringSize_0f7a4, Cond.static yJ6_stringSize_0f7a4]
def wsJx00060_init_d00df_r8 : List Cond := [Cond.initialized RJ6, Cond.code yJ6_stringSize_0f7a4 cJ6_stringSize_0f7a4 4 (some .int), Cond.methodLink RJ5 248 yJ6_getChars_ba4f3, Cond.static yJ6_getChars_ba4f3, Cond.code yJ6_getChars_ba4f3 cJ6_getChars_ba4f3 7 (some .int), Cond.fieldLink RJ6 83 "java/lang/Integer" "DigitOnes" "[B", Cond.fieldLink RJ6 87 "java/lang/Integer" "DigitTens" "[B", Cond.methodLink RJ5 251 yJ2_getChars_46870, Cond.static yJ2_getChars_46870, Cond.code yJ2_getChars_46870 cJ2_getChars_46870 5 (some .int), Cond.methodLink RJ2 393 yJ2_getChars_ba4f3, Cond.static yJ2_getChars_ba4f3, Cond.code yJ2_getChars_ba4f3 cJ2_getChars_ba4f3 7 (some .int), Cond.fieldLink RJ2 403 "java/lang/Integer" "DigitOnes" "[B", Cond.fieldLink RJ2 407 "java/lang/Integer" "DigitTens" "[B", Cond.methodLink RJx00060 22 yJ4_toString_0e30d, Cond.instanceMethod yJ4_toString_0e30d, Cond.selects RJ4 yJ4_toString_0e30d yJ4_toString_0e30d, Cond.code yJ4_toString_0e30d cJ4_toString_0e30d 1 (some (.object "java/lang/String")), Cond.classLink RJ4 18 RJ0, Cond.instantiable RJ0 4, Cond.methodLink RJ4 137 yJ0_init_81219, Cond.instanceMethod yJ0_init_81219, Cond.code yJ0_init_81219 cJ0_init_81219 2 none]
def wsJx00060_init_d00df_r9 : List Cond := [Cond.methodLink RJ0 489 yJ0_init_db425, Cond.instanceMethod yJ0_init_db425, Cond.code yJ0_init_db425 cJ0_init_db425 5 none, Cond.methodLink RJ0 1 objectInit, Cond.fieldLink RJ0 1048 "java/lang/AbstractStringBuilder" "maybeLatin1" "Z", Cond.methodLink RJ0 552 ⟨"java/lang/AbstractStringBuilder", "getValue", "()[B"⟩, Cond.sameMethod "java/lang/AbstractStringBuilder" "java/lang/AbstractStringBuilder" "getValue" "()[B", Cond.selects RJ4 ⟨"java/lang/AbstractStringBuilder", "getValue", "()[B"⟩ yJ5_getValue_6d5f1, Cond.instanceMethod yJ5_getValue_6d5f1, Cond.code yJ5_getValue_6d5f1 cJ5_getValue_6d5f1 1 (some (.array .byte)), Cond.methodLink RJ0 549 ⟨"java/lang/AbstractStringBuilder", "length", "()I"⟩, Cond.sameMethod "java/lang/AbstractStringBuilder" "java/lang/AbstractStringBuilder" "length" "()I", Cond.instanceMethod ⟨"java/lang/AbstractStringBuilder", "length", "()I"⟩, Cond.selects RJ4 ⟨"java/lang/AbstractStringBuilder", "length", "()I"⟩ yJ4_length_8abf5, Cond.instanceMethod yJ4_length_8abf5, Cond.code yJ4_length_8abf5 cJ4_length_8abf5 1 (some .int), Cond.methodLink RJ4 343 yJ5_length_8abf5, Cond.instanceMethod yJ5_length_8abf5, Cond.code yJ5_length_8abf5 cJ5_length_8abf5 1 (some .int), Cond.methodLink RJ0 1047 ⟨"java/lang/AbstractStringBuilder", "isLatin1", "()Z"⟩, Cond.methodLink RJ0 54 yJ7_copyOfRange_39247, Cond.static yJ7_copyOfRange_39247, Cond.code yJ7_copyOfRange_39247 cJ7_copyOfRange_39247 3 (some (.array .byte)), Cond.methodLink RJ7 339 yJ7_copyOfRangeByte_39247]
def wsJx00060_init_d00df_r10 : List Cond := [Cond.static yJ7_copyOfRangeByte_39247, Cond.code yJ7_copyOfRangeByte_39247 cJ7_copyOfRangeByte_39247 5 (some (.array .byte)), Cond.methodLink RJ7 343 yJ7_checkLength_df160, Cond.static yJ7_checkLength_df160, Cond.code yJ7_checkLength_df160 cJ7_checkLength_df160 2 none, Cond.methodLink RJ0 1051 yJ2_compress_39247, Cond.static yJ2_compress_39247, Cond.code yJ2_compress_39247 cJ2_compress_39247 6 (some (.array .byte)), Cond.methodLink RJ2 123 yJ2_compress_5af95, Cond.static yJ2_compress_5af95, Cond.code yJ2_compress_5af95 cJ2_compress_5af95 7 (some .int), Cond.methodLink RJ2 71 yJ2_getChar_3b067, Cond.static yJ2_getChar_3b067, Cond.code yJ2_getChar_3b067 cJ2_getChar_3b067 2 (some .char), Cond.methodLink RJ2 126 yJ7_copyOfRange_39247, Cond.methodLink RJ0 47 yJ2_coderFromArrayLen_85cad, Cond.static yJ2_coderFromArrayLen_85cad, Cond.code yJ2_coderFromArrayLen_85cad cJ2_coderFromArrayLen_85cad 2 (some .byte)]
def wsJx00060_init_d00df : List Cond := .code yJx00060_init_d00df cJx00060_init_d00df 2 none :: ((wsJx00060_init_d00df_r1 ++ (wsJx00060_init_d00df_r2 ++ (wsJx00060_init_d00df_r3 ++ (wsJx00060_init_d00df_r4 ++ (wsJx00060_init_d00df_r5 ++ (wsJx00060_init_d00df_r6 ++ (wsJx00060_init_d00df_r7 ++ (wsJx00060_init_d00df_r8 ++ (wsJx00060_init_d00df_r9 ++ wsJx00060_init_d00df_r10))))))))) ++ wsJ40 ++ wsJ00)
def wsJ9_max_7cf53 : List Cond := .code yJ9_max_7cf53 cJ9_max_7cf53 2 (some .int) :: ([])
def wsJ9_min_7cf53 : List Cond := .code yJ9_min_7cf53 cJ9_min_7cf53 2 (some .int) :: ([])
def wsJx5d777_init_da8c8 : List Cond := .code yJx5d777_init_da8c8 cJx5d777_init_da8c8 1 none :: ([])
def wsJx5d777_init_a7421 : List Cond := .code yJx5d777_init_a7421 cJx5d777_init_a7421 2 none :: ([])
def wsJx5d777_fillInStackTrace_cddbd : List Cond := .code yJx5d777_fillInStackTrace_cddbd cJx5d777_fillInStackTrace_cddbd 1 (some (.object "java/lang/Throwable")) :: ([.fieldLink RJx5d777 10 "java/lang/NullPointerException" "extendedMessageState" "I", .fieldLink RJx5d777 20 "java/lang/NullPointerException" "extendedMessage" "Ljava/lang/String;"] ++ wsJx5d7770)
def wsL_told_r1 : List Cond := [Cond.classLink RL 13 "java/lang/NullPointerException", Cond.classLink RL 15 "java/lang/ArrayIndexOutOfBoundsException", Cond.methodLink RL 7 yX4_told, Cond.instanceMethod yX4_told, Cond.selects RX4 yX4_told yX4_told, Cond.initialized RX4, Cond.code yX4_told cX4_told 4 (some .int), Cond.classLink RX4 72 RJx00060, Cond.instantiable RJx00060 6, Cond.initialized RJx00060, Cond.fieldLink RX4 14 "PairedTrees" "things" "LPairedTrees$Things;", Cond.classLink RX4 79 RJx5d777, Cond.instantiable RJx5d777 8, Cond.initialized RJx5d777, Cond.constant RX4 71 (-2147483648), Cond.methodLink RX4 54 yX3_has, Cond.instanceMethod yX3_has, Cond.selects RX3 yX3_has yX3_has, Cond.initialized RX3, Cond.code yX3_has cX3_has 2 (some .boolean), Cond.fieldLink RX3 25 "PairedTrees$Things" "count" "I", Cond.methodLink RX4 64 yX4_isFeature, Cond.static yX4_isFeature, Cond.code yX4_isFeature cX4_isFeature 1 (some .boolean)]
def wsL_told_r2 : List Cond := [Cond.methodLink RX4 86 yX3_numberAt, Cond.instanceMethod yX3_numberAt, Cond.selects RX3 yX3_numberAt yX3_numberAt, Cond.code yX3_numberAt cX3_numberAt 3 (some .int), Cond.fieldLink RX3 18 "PairedTrees$Things" "numbers" "[I"]
def wsL_told : List Cond := .codeWith yL_told cL_told 5 (some .int) [(0, 10, 13, 13), (0, 10, 17, 15)] :: ((wsL_told_r1 ++ wsL_told_r2) ++ wsJx000600 ++ wsX40 ++ wsJx5d7770 ++ wsX30 ++ (vx_atN 8).filter goodWord ++ (vx_atM "java/lang/ArrayIndexOutOfBoundsException" ["java/lang/IndexOutOfBoundsException", "java/lang/RuntimeException", "java/lang/Exception"]).filter goodWord)
def wsL_share_r1 : List Cond := [Cond.classLink RL 21 "java/lang/ArithmeticException", Cond.methodLink RL 17 yX4_share, Cond.instanceMethod yX4_share, Cond.selects RX4 yX4_share yX4_share, Cond.initialized RX4, Cond.code yX4_share cX4_share 3 (some .int), Cond.classLink RX4 170 "java/lang/ArithmeticException", Cond.initialized "java/lang/ArithmeticException", Cond.fieldLink RX4 14 "PairedTrees" "things" "LPairedTrees$Things;", Cond.fieldLink RX4 21 "PairedTrees" "forest" "LPairedTrees$Forest;", Cond.methodLink RX4 163 yX4_isListOrAll, Cond.static yX4_isListOrAll, Cond.code yX4_isListOrAll cX4_isListOrAll 1 (some .boolean), Cond.methodLink RX4 39 yX4_isList, Cond.static yX4_isList, Cond.code yX4_isList cX4_isList 1 (some .boolean), Cond.methodLink RX4 98 yX3_takeScores, Cond.instanceMethod yX3_takeScores, Cond.selects RX3 yX3_takeScores yX3_takeScores, Cond.initialized RX3, Cond.code yX3_takeScores cX3_takeScores 3 none, Cond.fieldLink RX3 25 "PairedTrees$Things" "count" "I", Cond.fieldLink RX3 21 "PairedTrees$Things" "scores" "[J", Cond.methodLink RX3 48 yX1_sumFor]
def wsL_share_r2 : List Cond := [Cond.instanceMethod yX1_sumFor, Cond.selects RX1 yX1_sumFor yX1_sumFor, Cond.initialized RX1, Cond.code yX1_sumFor cX1_sumFor 6 (some .long), Cond.fieldLink RX1 37 "PairedTrees$Forest" "count" "I", Cond.methodLink RX1 79 yX1_valueFor, Cond.instanceMethod yX1_valueFor, Cond.selects RX1 yX1_valueFor yX1_valueFor, Cond.code yX1_valueFor cX1_valueFor 9 (some .int), Cond.fieldLink RX1 9 "PairedTrees$Forest" "kinds" "[I", Cond.fieldLink RX1 15 "PairedTrees$Forest" "features" "[I", Cond.fieldLink RX1 18 "PairedTrees$Forest" "limits" "[I", Cond.fieldLink RX1 21 "PairedTrees$Forest" "sides" "[I", Cond.fieldLink RX1 24 "PairedTrees$Forest" "values" "[I", Cond.methodLink RX1 73 yX3_goesLeft, Cond.instanceMethod yX3_goesLeft, Cond.selects RX3 yX3_goesLeft yX3_goesLeft, Cond.code yX3_goesLeft cX3_goesLeft 6 (some .boolean), Cond.constant RX3 37 (-2147483648), Cond.methodLink RX3 44 yX3_numberAt, Cond.instanceMethod yX3_numberAt, Cond.selects RX3 yX3_numberAt yX3_numberAt, Cond.code yX3_numberAt cX3_numberAt 3 (some .int), Cond.fieldLink RX3 18 "PairedTrees$Things" "numbers" "[I"]
def wsL_share_r3 : List Cond := [Cond.methodLink RX4 166 yX3_countPairs, Cond.instanceMethod yX3_countPairs, Cond.selects RX3 yX3_countPairs yX3_countPairs, Cond.code yX3_countPairs cX3_countPairs 8 (some .int), Cond.fieldLink RX3 9 "PairedTrees$Things" "lists" "[I", Cond.methodLink RX3 58 yX3_arePair, Cond.instanceMethod yX3_arePair, Cond.selects RX3 yX3_arePair yX3_arePair, Cond.code yX3_arePair cX3_arePair 3 (some .boolean), Cond.fieldLink RX3 15 "PairedTrees$Things" "grades" "[I"]
def wsL_share : List Cond := .codeWith yL_share cL_share 4 (some .int) [(0, 9, 12, 21)] :: ((wsL_share_r1 ++ (wsL_share_r2 ++ wsL_share_r3)) ++ wsX40 ++ wsX30 ++ wsX10 ++ (vx_atN 8).filter goodWord ++ (vx_atM "java/lang/ArrayIndexOutOfBoundsException" ["java/lang/IndexOutOfBoundsException", "java/lang/RuntimeException", "java/lang/Exception"]).filter goodWord ++ (vx_atS RX4 174 "java/lang/ArithmeticException" ["java/lang/RuntimeException", "java/lang/Exception"]).filter goodWord ++ (vx_atM "java/lang/ArithmeticException" ["java/lang/RuntimeException", "java/lang/Exception"]).filter goodWord)
def wsL_law0_r1 : List Cond := [Cond.classLink RL 8 RX4, Cond.instantiable RX4 4, Cond.initialized RX4, Cond.classLink RL 24 RX5, Cond.instantiable RX5 24, Cond.initialized RX5, Cond.arrayClass .long, Cond.methodLink RL 23 yX4_init, Cond.instanceMethod yX4_init, Cond.code yX4_init cX4_init 1 none, Cond.methodLink RX4 5 objectInit, Cond.instanceMethod objectInit, Cond.code objectInit ⟨#[0xb1]⟩ 1 none, Cond.classLink RX4 11 RX3, Cond.instantiable RX3 5, Cond.initialized RX3, Cond.fieldLink RX4 14 "PairedTrees" "things" "LPairedTrees$Things;", Cond.classLink RX4 18 RX1, Cond.instantiable RX1 9, Cond.initialized RX1, Cond.fieldLink RX4 21 "PairedTrees" "forest" "LPairedTrees$Forest;", Cond.classLink RX4 25 RX2, Cond.instantiable RX2 5, Cond.initialized RX2]
def wsL_law0_r2 : List Cond := [Cond.fieldLink RX4 28 "PairedTrees" "grower" "LPairedTrees$Grower;", Cond.arrayClass .int, Cond.fieldLink RX4 32 "PairedTrees" "settings" "[I", Cond.instanceMethod yX3_init, Cond.code yX3_init cX3_init 1 none, Cond.methodLink RX3 3 objectInit, Cond.fieldLink RX3 9 "PairedTrees$Things" "lists" "[I", Cond.fieldLink RX3 15 "PairedTrees$Things" "grades" "[I", Cond.fieldLink RX3 18 "PairedTrees$Things" "numbers" "[I", Cond.fieldLink RX3 21 "PairedTrees$Things" "scores" "[J", Cond.instanceMethod yX1_init, Cond.code yX1_init cX1_init 1 none, Cond.methodLink RX1 3 objectInit, Cond.fieldLink RX1 9 "PairedTrees$Forest" "kinds" "[I", Cond.fieldLink RX1 15 "PairedTrees$Forest" "features" "[I", Cond.fieldLink RX1 18 "PairedTrees$Forest" "limits" "[I", Cond.fieldLink RX1 21 "PairedTrees$Forest" "sides" "[I", Cond.fieldLink RX1 24 "PairedTrees$Forest" "values" "[I", Cond.fieldLink RX1 27 "PairedTrees$Forest" "held" "[I", Cond.fieldLink RX1 30 "PairedTrees$Forest" "uppers" "[J", Cond.fieldLink RX1 34 "PairedTrees$Forest" "lowers" "[J", Cond.instanceMethod yX2_init, Cond.code yX2_init cX2_init 1 none, Cond.methodLink RX2 3 objectInit]
def wsL_law0_r3 : List Cond := [Cond.fieldLink RX2 9 "PairedTrees$Grower" "pushes" "[I", Cond.fieldLink RX2 15 "PairedTrees$Grower" "places" "[I", Cond.classLink RX2 18 RX0, Cond.instantiable RX0 6, Cond.initialized RX0, Cond.fieldLink RX2 21 "PairedTrees$Grower" "best" "LPairedTrees$BestCut;", Cond.instanceMethod yX0_init, Cond.code yX0_init cX0_init 1 none, Cond.methodLink RX0 1 objectInit, Cond.methodLink RX4 36 yX4_startAnew, Cond.instanceMethod yX4_startAnew, Cond.selects RX4 yX4_startAnew yX4_startAnew, Cond.code yX4_startAnew cX4_startAnew 1 none, Cond.fieldLink RX4 46 "PairedTrees$Things" "count" "I", Cond.fieldLink RX4 97 "PairedTrees$Forest" "count" "I", Cond.fieldLink RX4 182 "PairedTrees" "FIRST_SETTING" "[I", Cond.methodLink RX4 185 arraycopyName, Cond.native arraycopyName, Cond.static arraycopyName, Cond.initialized "java/lang/System", Cond.methodLink RX4 178 yX3_forgetRow, Cond.instanceMethod yX3_forgetRow, Cond.selects RX3 yX3_forgetRow yX3_forgetRow, Cond.code yX3_forgetRow cX3_forgetRow 2 none]
def wsL_law0_r4 : List Cond := [Cond.constant RX3 37 (-2147483648), Cond.methodLink RX3 38 yJ7_fill_fda19, Cond.static yJ7_fill_fda19, Cond.initialized RJ7, Cond.code yJ7_fill_fda19 cJ7_fill_fda19 5 none, Cond.methodLink RJ7 13 yJ7_rangeCheck_23922, Cond.static yJ7_rangeCheck_23922, Cond.code yJ7_rangeCheck_23922 cJ7_rangeCheck_23922 3 none, Cond.classLink RJ7 68 RJx00060, Cond.instantiable RJx00060 6, Cond.initialized RJx00060, Cond.methodLink RL 26 yX5_init, Cond.instanceMethod yX5_init, Cond.code yX5_init cX5_init 1 none, Cond.methodLink RX5 1 objectInit, Cond.fieldLink RX5 7 "PairedTreesModel" "listOf" "[I", Cond.fieldLink RX5 13 "PairedTreesModel" "gradeOf" "[I", Cond.fieldLink RX5 16 "PairedTreesModel" "number" "[I", Cond.arrayClass .boolean, Cond.fieldLink RX5 19 "PairedTreesModel" "has" "[Z", Cond.fieldLink RX5 23 "PairedTreesModel" "settings" "[I", Cond.fieldLink RX5 26 "PairedTreesModel" "sort" "[I", Cond.fieldLink RX5 29 "PairedTreesModel" "byOf" "[I", Cond.fieldLink RX5 32 "PairedTreesModel" "cutOf" "[I"]
def wsL_law0_r5 : List Cond := [Cond.fieldLink RX5 35 "PairedTreesModel" "sideOf" "[I", Cond.fieldLink RX5 38 "PairedTreesModel" "valueOf" "[I", Cond.fieldLink RX5 41 "PairedTreesModel" "held" "[I", Cond.fieldLink RX5 44 "PairedTreesModel" "upper" "[J", Cond.fieldLink RX5 48 "PairedTreesModel" "lower" "[J", Cond.fieldLink RX5 51 "PairedTreesModel" "scores" "[J", Cond.fieldLink RX5 54 "PairedTreesModel" "nodeOf" "[I", Cond.fieldLink RX5 57 "PairedTreesModel" "pushes" "[I", Cond.methodLink RX5 60 yX5_begins, Cond.instanceMethod yX5_begins, Cond.selects RX5 yX5_begins yX5_begins, Cond.code yX5_begins cX5_begins 2 none, Cond.fieldLink RX5 63 "PairedTreesModel" "things" "I", Cond.fieldLink RX5 67 "PairedTreesModel" "trees" "I", Cond.methodLink RL 27 yX4_thing, Cond.instanceMethod yX4_thing, Cond.selects RX4 yX4_thing yX4_thing, Cond.code yX4_thing cX4_thing 3 (some .int), Cond.methodLink RX4 39 yX4_isList, Cond.static yX4_isList, Cond.code yX4_isList cX4_isList 1 (some .boolean), Cond.methodLink RX4 43 yX4_isGrade, Cond.static yX4_isGrade, Cond.code yX4_isGrade cX4_isGrade 1 (some .boolean)]
def wsL_law0_r6 : List Cond := [Cond.methodLink RX4 50 yX3_take, Cond.instanceMethod yX3_take, Cond.selects RX3 yX3_take yX3_take, Cond.code yX3_take cX3_take 4 (some .int), Cond.fieldLink RX3 25 "PairedTrees$Things" "count" "I", Cond.methodLink RX3 33 yX3_forgetRow, Cond.methodLink RL 30 yX5_thing, Cond.instanceMethod yX5_thing, Cond.selects RX5 yX5_thing yX5_thing, Cond.code yX5_thing cX5_thing 4 (some .int), Cond.fieldLink RX5 70 "PairedTreesModel" "thrown" "I", Cond.methodLink RX5 73 yX5_in, Cond.static yX5_in, Cond.code yX5_in cX5_in 3 (some .boolean), Cond.methodLink RL 31 yX4_grade, Cond.instanceMethod yX4_grade, Cond.selects RX4 yX4_grade yX4_grade, Cond.code yX4_grade cX4_grade 4 (some .int), Cond.fieldLink RX4 57 "PairedTrees$Things" "grades" "[I", Cond.methodLink RX4 54 yX3_has, Cond.instanceMethod yX3_has, Cond.selects RX3 yX3_has yX3_has, Cond.code yX3_has cX3_has 2 (some .boolean), Cond.methodLink RL 34 yX5_grade]
def wsL_law0_r7 : List Cond := [Cond.instanceMethod yX5_grade, Cond.selects RX5 yX5_grade yX5_grade, Cond.code yX5_grade cX5_grade 4 (some .int), Cond.methodLink RX5 77 yX5_isThing, Cond.instanceMethod yX5_isThing, Cond.selects RX5 yX5_isThing yX5_isThing, Cond.code yX5_isThing cX5_isThing 2 (some .boolean), Cond.methodLink RL 35 yX4_feature, Cond.instanceMethod yX4_feature, Cond.selects RX4 yX4_feature yX4_feature, Cond.code yX4_feature cX4_feature 5 (some .int), Cond.constant RX4 71 (-2147483648), Cond.methodLink RX4 60 yX3_rowOf, Cond.instanceMethod yX3_rowOf, Cond.selects RX3 yX3_rowOf yX3_rowOf, Cond.code yX3_rowOf cX3_rowOf 2 (some .int), Cond.methodLink RX3 29 yX3_has, Cond.methodLink RX4 64 yX4_isFeature, Cond.static yX4_isFeature, Cond.code yX4_isFeature cX4_isFeature 1 (some .boolean), Cond.methodLink RX4 67 yX3_replace, Cond.instanceMethod yX3_replace, Cond.selects RX3 yX3_replace yX3_replace, Cond.code yX3_replace cX3_replace 5 (some .int)]
def wsL_law0_r8 : List Cond := [Cond.methodLink RL 39 yX5_feature, Cond.instanceMethod yX5_feature, Cond.selects RX5 yX5_feature yX5_feature, Cond.code yX5_feature cX5_feature 5 (some .int), Cond.methodLink RX5 81 yX5_isAny, Cond.instanceMethod yX5_isAny, Cond.selects RX5 yX5_isAny yX5_isAny, Cond.code yX5_isAny cX5_isAny 2 (some .boolean), Cond.methodLink RX5 84 yX5_at, Cond.static yX5_at, Cond.code yX5_at cX5_at 1 (some .int), Cond.methodLink RL 40 yX4_miss, Cond.instanceMethod yX4_miss, Cond.selects RX4 yX4_miss yX4_miss, Cond.code yX4_miss cX4_miss 4 (some .int), Cond.methodLink RL 43 yX5_miss, Cond.instanceMethod yX5_miss, Cond.selects RX5 yX5_miss yX5_miss, Cond.code yX5_miss cX5_miss 4 (some .int), Cond.methodLink RL 44 yL_told, Cond.static yL_told, Cond.initialized RL, Cond.codeWith yL_told cL_told 5 (some .int) [(0, 10, 13, 13), (0, 10, 17, 15)], Cond.classLink RL 13 "java/lang/NullPointerException"]
def wsL_law0_r9 : List Cond := [Cond.classLink RL 15 "java/lang/ArrayIndexOutOfBoundsException", Cond.methodLink RL 7 yX4_told, Cond.instanceMethod yX4_told, Cond.selects RX4 yX4_told yX4_told, Cond.code yX4_told cX4_told 4 (some .int), Cond.classLink RX4 72 RJx00060, Cond.classLink RX4 79 RJx5d777, Cond.instantiable RJx5d777 8, Cond.initialized RJx5d777, Cond.methodLink RX4 86 yX3_numberAt, Cond.instanceMethod yX3_numberAt, Cond.selects RX3 yX3_numberAt yX3_numberAt, Cond.code yX3_numberAt cX3_numberAt 3 (some .int), Cond.methodLink RL 49 yX5_told, Cond.instanceMethod yX5_told, Cond.selects RX5 yX5_told yX5_told, Cond.code yX5_told cX5_told 3 (some .int), Cond.methodLink RL 50 yX5_thrown, Cond.instanceMethod yX5_thrown, Cond.selects RX5 yX5_thrown yX5_thrown, Cond.code yX5_thrown cX5_thrown 1 (some .int), Cond.methodLink RL 54 yX4_setting, Cond.instanceMethod yX4_setting, Cond.selects RX4 yX4_setting yX4_setting]
def wsL_law0_r10 : List Cond := [Cond.code yX4_setting cX4_setting 4 (some .int), Cond.fieldLink RX4 91 "PairedTrees" "LOWEST_SETTING" "[I", Cond.fieldLink RX4 94 "PairedTrees" "HIGHEST_SETTING" "[I", Cond.methodLink RL 57 yX5_setting, Cond.instanceMethod yX5_setting, Cond.selects RX5 yX5_setting yX5_setting, Cond.code yX5_setting cX5_setting 5 (some .int), Cond.methodLink RL 58 yX4_grow, Cond.instanceMethod yX4_grow, Cond.selects RX4 yX4_grow yX4_grow, Cond.code yX4_grow cX4_grow 2 (some .int), Cond.methodLink RX4 98 yX3_takeScores, Cond.instanceMethod yX3_takeScores, Cond.selects RX3 yX3_takeScores yX3_takeScores, Cond.code yX3_takeScores cX3_takeScores 3 none, Cond.methodLink RX3 48 yX1_sumFor, Cond.instanceMethod yX1_sumFor, Cond.selects RX1 yX1_sumFor yX1_sumFor, Cond.code yX1_sumFor cX1_sumFor 6 (some .long), Cond.fieldLink RX1 37 "PairedTrees$Forest" "count" "I", Cond.methodLink RX1 79 yX1_valueFor, Cond.instanceMethod yX1_valueFor, Cond.selects RX1 yX1_valueFor yX1_valueFor, Cond.code yX1_valueFor cX1_valueFor 9 (some .int)]
def wsL_law0_r11 : List Cond := [Cond.methodLink RX1 73 yX3_goesLeft, Cond.instanceMethod yX3_goesLeft, Cond.selects RX3 yX3_goesLeft yX3_goesLeft, Cond.code yX3_goesLeft cX3_goesLeft 6 (some .boolean), Cond.methodLink RX3 44 yX3_numberAt, Cond.methodLink RX4 102 yX1_addTree, Cond.instanceMethod yX1_addTree, Cond.selects RX1 yX1_addTree yX1_addTree, Cond.code yX1_addTree cX1_addTree 2 (some .int), Cond.methodLink RX1 45 yJ7_fill_fda19, Cond.methodLink RX4 106 yX2_growTree, Cond.instanceMethod yX2_growTree, Cond.selects RX2 yX2_growTree yX2_growTree, Cond.code yX2_growTree cX2_growTree 6 none, Cond.fieldLink RX2 25 "PairedTrees$Things" "count" "I", Cond.fieldLink RX2 39 "PairedTrees$Grower" "held" "I", Cond.methodLink RX2 31 yX3_pushOf, Cond.instanceMethod yX3_pushOf, Cond.selects RX3 yX3_pushOf yX3_pushOf, Cond.code yX3_pushOf cX3_pushOf 5 (some .int), Cond.methodLink RX3 54 yX3_pushOfPair, Cond.instanceMethod yX3_pushOfPair, Cond.selects RX3 yX3_pushOfPair yX3_pushOfPair, Cond.code yX3_pushOfPair cX3_pushOfPair 4 (some .int)]
def wsL_law0_r12 : List Cond := [Cond.methodLink RX3 58 yX3_arePair, Cond.instanceMethod yX3_arePair, Cond.selects RX3 yX3_arePair yX3_arePair, Cond.code yX3_arePair cX3_arePair 3 (some .boolean), Cond.methodLink RX2 35 yX2_gather, Cond.instanceMethod yX2_gather, Cond.selects RX2 yX2_gather yX2_gather, Cond.code yX2_gather cX2_gather 4 none, Cond.fieldLink RX2 46 "PairedTrees$Grower" "sum" "I", Cond.methodLink RX2 42 yX2_growNode, Cond.instanceMethod yX2_growNode, Cond.selects RX2 yX2_growNode yX2_growNode, Cond.code yX2_growNode cX2_growNode 7 none, Cond.fieldLink RX2 49 "PairedTrees$BestCut" "isFound" "Z", Cond.methodLink RX2 53 yX2_depthOf, Cond.static yX2_depthOf, Cond.code yX2_depthOf cX2_depthOf 1 (some .int), Cond.methodLink RX2 57 yX2_seekCut, Cond.instanceMethod yX2_seekCut, Cond.selects RX2 yX2_seekCut yX2_seekCut, Cond.code yX2_seekCut cX2_seekCut 8 none, Cond.constant RX2 82 (-2147483648), Cond.methodLink RX2 79 yX3_numberAt, Cond.methodLink RX2 83 yX2_tryCut]
def wsL_law0_r13 : List Cond := [Cond.instanceMethod yX2_tryCut, Cond.selects RX2 yX2_tryCut yX2_tryCut, Cond.code yX2_tryCut cX2_tryCut 17 none, Cond.methodLink RX2 87 yX3_goesLeft, Cond.methodLink RX2 91 yX0_offer, Cond.instanceMethod yX0_offer, Cond.selects RX0 yX0_offer yX0_offer, Cond.code yX0_offer cX0_offer 8 none, Cond.fieldLink RX0 7 "PairedTrees$BestCut" "isFound" "Z", Cond.fieldLink RX0 17 "PairedTrees$BestCut" "feature" "I", Cond.fieldLink RX0 21 "PairedTrees$BestCut" "limit" "I", Cond.fieldLink RX0 24 "PairedTrees$BestCut" "side" "I", Cond.fieldLink RX0 27 "PairedTrees$BestCut" "upper" "J", Cond.fieldLink RX0 31 "PairedTrees$BestCut" "lower" "J", Cond.methodLink RX0 13 yX0_isBetter, Cond.instanceMethod yX0_isBetter, Cond.selects RX0 yX0_isBetter yX0_isBetter, Cond.code yX0_isBetter cX0_isBetter 12 (some .boolean), Cond.methodLink RX2 61 yX1_setCut, Cond.instanceMethod yX1_setCut, Cond.selects RX1 yX1_setCut yX1_setCut, Cond.code yX1_setCut cX1_setCut 6 none, Cond.fieldLink RX1 51 "PairedTrees$BestCut" "feature" "I", Cond.fieldLink RX1 56 "PairedTrees$BestCut" "limit" "I"]
def wsL_law0_r14 : List Cond := [Cond.fieldLink RX1 59 "PairedTrees$BestCut" "side" "I", Cond.fieldLink RX1 62 "PairedTrees$BestCut" "upper" "J", Cond.fieldLink RX1 66 "PairedTrees$BestCut" "lower" "J", Cond.methodLink RX1 69 yX1_commonDivisor, Cond.static yX1_commonDivisor, Cond.code yX1_commonDivisor cX1_commonDivisor 11 (some .long), Cond.methodLink RX2 67 yX2_part, Cond.instanceMethod yX2_part, Cond.selects RX2 yX2_part yX2_part, Cond.code yX2_part cX2_part 5 none, Cond.fieldLink RX2 95 "PairedTrees$BestCut" "feature" "I", Cond.fieldLink RX2 98 "PairedTrees$BestCut" "limit" "I", Cond.fieldLink RX2 101 "PairedTrees$BestCut" "side" "I", Cond.methodLink RX2 70 yJ9_floorDiv_7cf53, Cond.static yJ9_floorDiv_7cf53, Cond.initialized RJ9, Cond.code yJ9_floorDiv_7cf53 cJ9_floorDiv_7cf53 3 (some .int), Cond.methodLink RX2 75 yX1_setLeaf, Cond.instanceMethod yX1_setLeaf, Cond.selects RX1 yX1_setLeaf yX1_setLeaf, Cond.code yX1_setLeaf cX1_setLeaf 4 none, Cond.methodLink RX4 110 yX1_countLeaves, Cond.instanceMethod yX1_countLeaves, Cond.selects RX1 yX1_countLeaves yX1_countLeaves]
def wsL_law0_r15 : List Cond := [Cond.code yX1_countLeaves cX1_countLeaves 5 (some .int), Cond.methodLink RL 61 yX5_grow, Cond.instanceMethod yX5_grow, Cond.selects RX5 yX5_grow yX5_grow, Cond.code yX5_grow cX5_grow 3 (some .int), Cond.methodLink RX5 134 yX5_score, Cond.instanceMethod yX5_score, Cond.selects RX5 yX5_score yX5_score, Cond.code yX5_score cX5_score 2 none, Cond.methodLink RX5 96 yX5_scoreOf, Cond.instanceMethod yX5_scoreOf, Cond.selects RX5 yX5_scoreOf yX5_scoreOf, Cond.code yX5_scoreOf cX5_scoreOf 5 (some .long), Cond.methodLink RX5 92 yX5_valueBy, Cond.instanceMethod yX5_valueBy, Cond.selects RX5 yX5_valueBy yX5_valueBy, Cond.code yX5_valueBy cX5_valueBy 5 (some .int), Cond.methodLink RX5 88 yX5_goesLeft, Cond.instanceMethod yX5_goesLeft, Cond.selects RX5 yX5_goesLeft yX5_goesLeft, Cond.code yX5_goesLeft cX5_goesLeft 5 (some .boolean), Cond.methodLink RX5 137 yX5_pushOf, Cond.instanceMethod yX5_pushOf, Cond.selects RX5 yX5_pushOf yX5_pushOf]
def wsL_law0_r16 : List Cond := [Cond.code yX5_pushOf cX5_pushOf 4 (some .int), Cond.methodLink RX5 100 yX5_isPair, Cond.instanceMethod yX5_isPair, Cond.selects RX5 yX5_isPair yX5_isPair, Cond.code yX5_isPair cX5_isPair 3 (some .boolean), Cond.methodLink RX5 140 yX5_growNode, Cond.instanceMethod yX5_growNode, Cond.selects RX5 yX5_growNode yX5_growNode, Cond.code yX5_growNode cX5_growNode 11 none, Cond.fieldLink RX5 108 "PairedTreesModel" "bestUpper" "J", Cond.fieldLink RX5 104 "PairedTreesModel" "bestLower" "J", Cond.fieldLink RX5 111 "PairedTreesModel" "bestBy" "I", Cond.fieldLink RX5 114 "PairedTreesModel" "bestCut" "I", Cond.fieldLink RX5 117 "PairedTreesModel" "bestSide" "I", Cond.methodLink RX5 120 yX5_floor, Cond.static yX5_floor, Cond.code yX5_floor cX5_floor 3 (some .int), Cond.methodLink RX5 123 yX5_below, Cond.static yX5_below, Cond.code yX5_below cX5_below 1 (some .int), Cond.methodLink RX5 126 yX5_tries, Cond.instanceMethod yX5_tries, Cond.selects RX5 yX5_tries yX5_tries, Cond.code yX5_tries cX5_tries 21 none]
def wsL_law0_r17 : List Cond := [Cond.methodLink RX5 130 yX5_common, Cond.static yX5_common, Cond.code yX5_common cX5_common 10 (some .long), Cond.methodLink RL 62 yX4_cut, Cond.instanceMethod yX4_cut, Cond.selects RX4 yX4_cut yX4_cut, Cond.code yX4_cut cX4_cut 1 (some .int), Cond.methodLink RL 65 yX5_cut, Cond.instanceMethod yX5_cut, Cond.selects RX5 yX5_cut yX5_cut, Cond.code yX5_cut cX5_cut 1 (some .int), Cond.methodLink RL 66 yX4_node, Cond.instanceMethod yX4_node, Cond.selects RX4 yX4_node yX4_node, Cond.code yX4_node cX4_node 6 (some .int), Cond.fieldLink RX4 116 "PairedTrees$Forest" "kinds" "[I", Cond.fieldLink RX4 119 "PairedTrees$Forest" "features" "[I", Cond.fieldLink RX4 122 "PairedTrees$Forest" "limits" "[I", Cond.fieldLink RX4 125 "PairedTrees$Forest" "sides" "[I", Cond.fieldLink RX4 128 "PairedTrees$Forest" "values" "[I", Cond.fieldLink RX4 131 "PairedTrees$Forest" "held" "[I", Cond.methodLink RX4 113 yX1_find, Cond.instanceMethod yX1_find, Cond.selects RX1 yX1_find yX1_find]
def wsL_law0_r18 : List Cond := [Cond.code yX1_find cX1_find 4 (some .int), Cond.methodLink RX1 41 yX1_has, Cond.instanceMethod yX1_has, Cond.selects RX1 yX1_has yX1_has, Cond.code yX1_has cX1_has 2 (some .boolean), Cond.methodLink RL 69 yX5_node, Cond.instanceMethod yX5_node, Cond.selects RX5 yX5_node yX5_node, Cond.code yX5_node cX5_node 6 (some .int), Cond.methodLink RX5 144 yX5_isNode, Cond.instanceMethod yX5_isNode, Cond.selects RX5 yX5_isNode yX5_isNode, Cond.code yX5_isNode cX5_isNode 3 (some .boolean), Cond.methodLink RL 70 yX4_gain, Cond.instanceMethod yX4_gain, Cond.selects RX4 yX4_gain yX4_gain, Cond.code yX4_gain cX4_gain 5 (some .long), Cond.constantLong RX4 134 (-10001), Cond.fieldLink RX4 136 "PairedTrees$Forest" "uppers" "[J", Cond.fieldLink RX4 140 "PairedTrees$Forest" "lowers" "[J", Cond.constantLong RX4 143 (-10002), Cond.methodLink RL 74 yX5_gain, Cond.instanceMethod yX5_gain, Cond.selects RX5 yX5_gain yX5_gain]
def wsL_law0_r19 : List Cond := [Cond.code yX5_gain cX5_gain 4 (some .long), Cond.constantLong RX5 147 (-10001), Cond.constantLong RX5 149 (-10002), Cond.methodLink RL 75 yX4_score, Cond.instanceMethod yX4_score, Cond.selects RX4 yX4_score yX4_score, Cond.code yX4_score cX4_score 3 (some .long), Cond.methodLink RX4 145 yX1_sumFor, Cond.methodLink RL 79 yX5_score_, Cond.instanceMethod yX5_score_, Cond.selects RX5 yX5_score_ yX5_score_, Cond.code yX5_score_ cX5_score_ 2 (some .long), Cond.methodLink RL 80 yX4_value, Cond.instanceMethod yX4_value, Cond.selects RX4 yX4_value yX4_value, Cond.code yX4_value cX4_value 4 (some .int), Cond.methodLink RX4 149 yX1_has, Cond.methodLink RX4 150 yX1_valueFor, Cond.methodLink RL 83 yX5_value, Cond.instanceMethod yX5_value, Cond.selects RX5 yX5_value yX5_value, Cond.code yX5_value cX5_value 3 (some .int), Cond.methodLink RL 84 yX4_push, Cond.instanceMethod yX4_push]
def wsL_law0_r20 : List Cond := [Cond.selects RX4 yX4_push yX4_push, Cond.code yX4_push cX4_push 2 (some .int), Cond.methodLink RX4 154 yX3_pushOf, Cond.methodLink RL 87 yX5_push, Cond.instanceMethod yX5_push, Cond.selects RX5 yX5_push yX5_push, Cond.code yX5_push cX5_push 2 (some .int), Cond.methodLink RL 88 yX4_ranked, Cond.instanceMethod yX4_ranked, Cond.selects RX4 yX4_ranked yX4_ranked, Cond.code yX4_ranked cX4_ranked 4 (some .int), Cond.fieldLink RX4 157 "PairedTrees$Things" "lists" "[I", Cond.methodLink RX4 160 yX3_countAhead, Cond.instanceMethod yX3_countAhead, Cond.selects RX3 yX3_countAhead yX3_countAhead, Cond.code yX3_countAhead cX3_countAhead 4 (some .int), Cond.methodLink RX3 62 yX3_isAhead, Cond.instanceMethod yX3_isAhead, Cond.selects RX3 yX3_isAhead yX3_isAhead, Cond.code yX3_isAhead cX3_isAhead 3 (some .boolean), Cond.methodLink RL 91 yX5_ranked, Cond.instanceMethod yX5_ranked, Cond.selects RX5 yX5_ranked yX5_ranked, Cond.code yX5_ranked cX5_ranked 7 (some .int)]
def wsL_law0_r21 : List Cond := [Cond.methodLink RL 92 yX4_pairs, Cond.instanceMethod yX4_pairs, Cond.selects RX4 yX4_pairs yX4_pairs, Cond.code yX4_pairs cX4_pairs 3 (some .int), Cond.methodLink RX4 163 yX4_isListOrAll, Cond.static yX4_isListOrAll, Cond.code yX4_isListOrAll cX4_isListOrAll 1 (some .boolean), Cond.methodLink RX4 166 yX3_countPairs, Cond.instanceMethod yX3_countPairs, Cond.selects RX3 yX3_countPairs yX3_countPairs, Cond.code yX3_countPairs cX3_countPairs 8 (some .int), Cond.methodLink RL 95 yX5_pairs, Cond.instanceMethod yX5_pairs, Cond.selects RX5 yX5_pairs yX5_pairs, Cond.code yX5_pairs cX5_pairs 3 (some .int), Cond.methodLink RX5 151 yX5_countPairs, Cond.instanceMethod yX5_countPairs, Cond.selects RX5 yX5_countPairs yX5_countPairs, Cond.code yX5_countPairs cX5_countPairs 7 (some .int), Cond.methodLink RL 96 yL_share, Cond.static yL_share, Cond.codeWith yL_share cL_share 4 (some .int) [(0, 9, 12, 21)], Cond.classLink RL 21 "java/lang/ArithmeticException", Cond.methodLink RL 17 yX4_share]
def wsL_law0_r22 : List Cond := [Cond.instanceMethod yX4_share, Cond.selects RX4 yX4_share yX4_share, Cond.code yX4_share cX4_share 3 (some .int), Cond.classLink RX4 170 "java/lang/ArithmeticException", Cond.initialized "java/lang/ArithmeticException", Cond.methodLink RL 99 yX5_share, Cond.instanceMethod yX5_share, Cond.selects RX5 yX5_share yX5_share, Cond.code yX5_share cX5_share 3 (some .int), Cond.methodLink RL 100 yX4_about, Cond.instanceMethod yX4_about, Cond.selects RX4 yX4_about yX4_about, Cond.code yX4_about cX4_about 2 (some .int), Cond.methodLink RX4 175 yX1_countCutsBy, Cond.instanceMethod yX1_countCutsBy, Cond.selects RX1 yX1_countCutsBy yX1_countCutsBy, Cond.code yX1_countCutsBy cX1_countCutsBy 4 (some .int), Cond.methodLink RL 103 yX5_about, Cond.instanceMethod yX5_about, Cond.selects RX5 yX5_about yX5_about, Cond.code yX5_about cX5_about 5 (some .int), Cond.methodLink RL 104 yX4_clear, Cond.instanceMethod yX4_clear, Cond.selects RX4 yX4_clear yX4_clear]
def wsL_law0_r23 : List Cond := [Cond.code yX4_clear cX4_clear 2 (some .int), Cond.methodLink RL 107 yX5_clear, Cond.instanceMethod yX5_clear, Cond.selects RX5 yX5_clear yX5_clear, Cond.code yX5_clear cX5_clear 2 (some .int)]
def wsL_law0 : List Cond := (wsL_law0_r1 ++ (wsL_law0_r2 ++ (wsL_law0_r3 ++ (wsL_law0_r4 ++ (wsL_law0_r5 ++ (wsL_law0_r6 ++ (wsL_law0_r7 ++ (wsL_law0_r8 ++ (wsL_law0_r9 ++ (wsL_law0_r10 ++ (wsL_law0_r11 ++ (wsL_law0_r12 ++ (wsL_law0_r13 ++ (wsL_law0_r14 ++ (wsL_law0_r15 ++ (wsL_law0_r16 ++ (wsL_law0_r17 ++ (wsL_law0_r18 ++ (wsL_law0_r19 ++ (wsL_law0_r20 ++ (wsL_law0_r21 ++ (wsL_law0_r22 ++ wsL_law0_r23)))))))))))))))))))))) ++ wsX40 ++ wsX50 ++ wsX30 ++ wsX10 ++ wsX20 ++ wsX00 ++ wsJx000600 ++ wsJx5d7770 ++ ([] : List Cond)
def wsL_law : List Cond := wsL_law0 ++ (vx_atN 8).filter goodWord ++ (vx_atM "java/lang/ArrayIndexOutOfBoundsException" ["java/lang/IndexOutOfBoundsException", "java/lang/RuntimeException", "java/lang/Exception"]).filter goodWord ++ (vx_atM "java/lang/ArithmeticException" ["java/lang/RuntimeException", "java/lang/Exception"]).filter goodWord ++ (vx_atS RX4 174 "java/lang/ArithmeticException" ["java/lang/RuntimeException", "java/lang/Exception"]).filter goodWord
abbrev cl6 : List vw_C := [(RX0, TX0, 6), (RX1, TX1, 9), (RX2, TX2, 5), (RX3, TX3, 5), (RX4, TX4, 4), (RX5, TX5, 24)]
end
section
theorem dX0_init_0 : decode cX0_init 0 = .ok (.aload_n 0, 1) := by decide +kernel
theorem dX0_init_1 : decode cX0_init 1 = .ok (.invokespecial 1, 3) := by decide +kernel
theorem dX0_init_4 : decode cX0_init 4 = .ok (.return_, 1) := by decide +kernel
set_option maxRecDepth 20000 in
theorem ggX0_offer_X0_isBetter : GoodIn wsX0_offer wsX0_isBetter := goodIn_r _ [11, 6, 5, 2, 3, 4, 12, 13, 14, 15, 16, 17] (by decide +kernel) (by decide +kernel)
set_option maxRecDepth 20000 in
theorem gX0_offer_X0_isBetter : GoodIn wsX0_offer (wsV RX0 13 RX0 yX0_isBetter wsX0_isBetter) := goodIn_app (goodIn_of _ (by decide +kernel)) ggX0_offer_X0_isBetter
theorem dX0_offer_0 : decode cX0_offer 0 = .ok (.aload_n 0, 1) := by decide +kernel
theorem dX0_offer_1 : decode cX0_offer 1 = .ok (.getfield 7, 3) := by decide +kernel
theorem dX0_offer_4 : decode cX0_offer 4 = .ok (.ifCond .eq 18, 3) := by decide +kernel
theorem dX0_offer_7 : decode cX0_offer 7 = .ok (.aload_n 0, 1) := by decide +kernel
theorem dX0_offer_8 : decode cX0_offer 8 = .ok (.iload_n 1, 1) := by decide +kernel
theorem dX0_offer_9 : decode cX0_offer 9 = .ok (.iload_n 2, 1) := by decide +kernel
theorem dX0_offer_10 : decode cX0_offer 10 = .ok (.iload_n 3, 1) := by decide +kernel
theorem dX0_offer_11 : decode cX0_offer 11 = .ok (.lload 4, 2) := by decide +kernel
theorem dX0_offer_13 : decode cX0_offer 13 = .ok (.lload 6, 2) := by decide +kernel
theorem dX0_offer_15 : decode cX0_offer 15 = .ok (.invokevirtual 13, 3) := by decide +kernel
theorem dX0_offer_18 : decode cX0_offer 18 = .ok (.ifCond .ne 4, 3) := by decide +kernel
theorem dX0_offer_21 : decode cX0_offer 21 = .ok (.return_, 1) := by decide +kernel
theorem dX0_offer_22 : decode cX0_offer 22 = .ok (.aload_n 0, 1) := by decide +kernel
theorem dX0_offer_23 : decode cX0_offer 23 = .ok (.iconst 1, 1) := by decide +kernel
theorem dX0_offer_24 : decode cX0_offer 24 = .ok (.putfield 7, 3) := by decide +kernel
theorem dX0_offer_27 : decode cX0_offer 27 = .ok (.aload_n 0, 1) := by decide +kernel
theorem dX0_offer_28 : decode cX0_offer 28 = .ok (.iload_n 1, 1) := by decide +kernel
theorem dX0_offer_29 : decode cX0_offer 29 = .ok (.putfield 17, 3) := by decide +kernel
theorem dX0_offer_32 : decode cX0_offer 32 = .ok (.aload_n 0, 1) := by decide +kernel
theorem dX0_offer_33 : decode cX0_offer 33 = .ok (.iload_n 2, 1) := by decide +kernel
theorem dX0_offer_34 : decode cX0_offer 34 = .ok (.putfield 21, 3) := by decide +kernel
theorem dX0_offer_37 : decode cX0_offer 37 = .ok (.aload_n 0, 1) := by decide +kernel
theorem dX0_offer_38 : decode cX0_offer 38 = .ok (.iload_n 3, 1) := by decide +kernel
theorem dX0_offer_39 : decode cX0_offer 39 = .ok (.putfield 24, 3) := by decide +kernel
theorem dX0_offer_42 : decode cX0_offer 42 = .ok (.aload_n 0, 1) := by decide +kernel
theorem dX0_offer_43 : decode cX0_offer 43 = .ok (.lload 4, 2) := by decide +kernel
theorem dX0_offer_45 : decode cX0_offer 45 = .ok (.putfield 27, 3) := by decide +kernel
theorem dX0_offer_48 : decode cX0_offer 48 = .ok (.aload_n 0, 1) := by decide +kernel
theorem dX0_offer_49 : decode cX0_offer 49 = .ok (.lload 6, 2) := by decide +kernel
theorem dX0_offer_51 : decode cX0_offer 51 = .ok (.putfield 31, 3) := by decide +kernel
theorem dX0_offer_54 : decode cX0_offer 54 = .ok (.return_, 1) := by decide +kernel
theorem dX0_isBetter_0 : decode cX0_isBetter 0 = .ok (.lload 4, 2) := by decide +kernel
theorem dX0_isBetter_2 : decode cX0_isBetter 2 = .ok (.aload_n 0, 1) := by decide +kernel
theorem dX0_isBetter_3 : decode cX0_isBetter 3 = .ok (.getfield 31, 3) := by decide +kernel
theorem dX0_isBetter_6 : decode cX0_isBetter 6 = .ok (.lmul, 1) := by decide +kernel
theorem dX0_isBetter_7 : decode cX0_isBetter 7 = .ok (.lstore 8, 2) := by decide +kernel
theorem dX0_isBetter_9 : decode cX0_isBetter 9 = .ok (.aload_n 0, 1) := by decide +kernel
theorem dX0_isBetter_10 : decode cX0_isBetter 10 = .ok (.getfield 27, 3) := by decide +kernel
theorem dX0_isBetter_13 : decode cX0_isBetter 13 = .ok (.lload 6, 2) := by decide +kernel
theorem dX0_isBetter_15 : decode cX0_isBetter 15 = .ok (.lmul, 1) := by decide +kernel
theorem dX0_isBetter_16 : decode cX0_isBetter 16 = .ok (.lstore 10, 2) := by decide +kernel
theorem dX0_isBetter_18 : decode cX0_isBetter 18 = .ok (.lload 8, 2) := by decide +kernel
theorem dX0_isBetter_20 : decode cX0_isBetter 20 = .ok (.lload 10, 2) := by decide +kernel
theorem dX0_isBetter_22 : decode cX0_isBetter 22 = .ok (.lcmp, 1) := by decide +kernel
theorem dX0_isBetter_23 : decode cX0_isBetter 23 = .ok (.ifCond .eq 17, 3) := by decide +kernel
theorem dX0_isBetter_26 : decode cX0_isBetter 26 = .ok (.lload 8, 2) := by decide +kernel
theorem dX0_isBetter_28 : decode cX0_isBetter 28 = .ok (.lload 10, 2) := by decide +kernel
theorem dX0_isBetter_30 : decode cX0_isBetter 30 = .ok (.lcmp, 1) := by decide +kernel
theorem dX0_isBetter_31 : decode cX0_isBetter 31 = .ok (.ifCond .le 7, 3) := by decide +kernel
theorem dX0_isBetter_34 : decode cX0_isBetter 34 = .ok (.iconst 1, 1) := by decide +kernel
theorem dX0_isBetter_35 : decode cX0_isBetter 35 = .ok (.goto 4, 3) := by decide +kernel
theorem dX0_isBetter_38 : decode cX0_isBetter 38 = .ok (.iconst 0, 1) := by decide +kernel
theorem dX0_isBetter_39 : decode cX0_isBetter 39 = .ok (.ireturn, 1) := by decide +kernel
theorem dX0_isBetter_40 : decode cX0_isBetter 40 = .ok (.iload_n 1, 1) := by decide +kernel
theorem dX0_isBetter_41 : decode cX0_isBetter 41 = .ok (.aload_n 0, 1) := by decide +kernel
theorem dX0_isBetter_42 : decode cX0_isBetter 42 = .ok (.getfield 17, 3) := by decide +kernel
theorem dX0_isBetter_45 : decode cX0_isBetter 45 = .ok (.if_icmp .eq 17, 3) := by decide +kernel
theorem dX0_isBetter_48 : decode cX0_isBetter 48 = .ok (.iload_n 1, 1) := by decide +kernel
theorem dX0_isBetter_49 : decode cX0_isBetter 49 = .ok (.aload_n 0, 1) := by decide +kernel
theorem dX0_isBetter_50 : decode cX0_isBetter 50 = .ok (.getfield 17, 3) := by decide +kernel
theorem dX0_isBetter_53 : decode cX0_isBetter 53 = .ok (.if_icmp .ge 7, 3) := by decide +kernel
theorem dX0_isBetter_56 : decode cX0_isBetter 56 = .ok (.iconst 1, 1) := by decide +kernel
theorem dX0_isBetter_57 : decode cX0_isBetter 57 = .ok (.goto 4, 3) := by decide +kernel
theorem dX0_isBetter_60 : decode cX0_isBetter 60 = .ok (.iconst 0, 1) := by decide +kernel
theorem dX0_isBetter_61 : decode cX0_isBetter 61 = .ok (.ireturn, 1) := by decide +kernel
theorem dX0_isBetter_62 : decode cX0_isBetter 62 = .ok (.iload_n 2, 1) := by decide +kernel
theorem dX0_isBetter_63 : decode cX0_isBetter 63 = .ok (.aload_n 0, 1) := by decide +kernel
theorem dX0_isBetter_64 : decode cX0_isBetter 64 = .ok (.getfield 21, 3) := by decide +kernel
theorem dX0_isBetter_67 : decode cX0_isBetter 67 = .ok (.if_icmp .eq 19, 3) := by decide +kernel
theorem dX0_isBetter_70 : decode cX0_isBetter 70 = .ok (.iload_n 2, 1) := by decide +kernel
theorem dX0_isBetter_71 : decode cX0_isBetter 71 = .ok (.aload_n 0, 1) := by decide +kernel
theorem dX0_isBetter_72 : decode cX0_isBetter 72 = .ok (.getfield 21, 3) := by decide +kernel
theorem dX0_isBetter_75 : decode cX0_isBetter 75 = .ok (.if_icmp .ge 7, 3) := by decide +kernel
theorem dX0_isBetter_78 : decode cX0_isBetter 78 = .ok (.iconst 1, 1) := by decide +kernel
theorem dX0_isBetter_79 : decode cX0_isBetter 79 = .ok (.goto 20, 3) := by decide +kernel
theorem dX0_isBetter_82 : decode cX0_isBetter 82 = .ok (.iconst 0, 1) := by decide +kernel
theorem dX0_isBetter_83 : decode cX0_isBetter 83 = .ok (.goto 16, 3) := by decide +kernel
theorem dX0_isBetter_86 : decode cX0_isBetter 86 = .ok (.iload_n 3, 1) := by decide +kernel
theorem dX0_isBetter_87 : decode cX0_isBetter 87 = .ok (.aload_n 0, 1) := by decide +kernel
theorem dX0_isBetter_88 : decode cX0_isBetter 88 = .ok (.getfield 24, 3) := by decide +kernel
theorem dX0_isBetter_91 : decode cX0_isBetter 91 = .ok (.if_icmp .ge 7, 3) := by decide +kernel
theorem dX0_isBetter_94 : decode cX0_isBetter 94 = .ok (.iconst 1, 1) := by decide +kernel
theorem dX0_isBetter_95 : decode cX0_isBetter 95 = .ok (.goto 4, 3) := by decide +kernel
theorem dX0_isBetter_98 : decode cX0_isBetter 98 = .ok (.iconst 0, 1) := by decide +kernel
theorem dX0_isBetter_99 : decode cX0_isBetter 99 = .ok (.ireturn, 1) := by decide +kernel
theorem dX1_init_0 : decode cX1_init 0 = .ok (.aload_n 0, 1) := by decide +kernel
theorem dX1_init_1 : decode cX1_init 1 = .ok (.invokespecial 3, 3) := by decide +kernel
theorem dX1_init_4 : decode cX1_init 4 = .ok (.aload_n 0, 1) := by decide +kernel
theorem dX1_init_5 : decode cX1_init 5 = .ok (.sipush 300, 3) := by decide +kernel
theorem dX1_init_8 : decode cX1_init 8 = .ok (.newarray .int, 2) := by decide +kernel
theorem dX1_init_10 : decode cX1_init 10 = .ok (.putfield 9, 3) := by decide +kernel
theorem dX1_init_13 : decode cX1_init 13 = .ok (.aload_n 0, 1) := by decide +kernel
theorem dX1_init_14 : decode cX1_init 14 = .ok (.sipush 300, 3) := by decide +kernel
theorem dX1_init_17 : decode cX1_init 17 = .ok (.newarray .int, 2) := by decide +kernel
theorem dX1_init_19 : decode cX1_init 19 = .ok (.putfield 15, 3) := by decide +kernel
theorem dX1_init_22 : decode cX1_init 22 = .ok (.aload_n 0, 1) := by decide +kernel
theorem dX1_init_23 : decode cX1_init 23 = .ok (.sipush 300, 3) := by decide +kernel
theorem dX1_init_26 : decode cX1_init 26 = .ok (.newarray .int, 2) := by decide +kernel
theorem dX1_init_28 : decode cX1_init 28 = .ok (.putfield 18, 3) := by decide +kernel
theorem dX1_init_31 : decode cX1_init 31 = .ok (.aload_n 0, 1) := by decide +kernel
theorem dX1_init_32 : decode cX1_init 32 = .ok (.sipush 300, 3) := by decide +kernel
theorem dX1_init_35 : decode cX1_init 35 = .ok (.newarray .int, 2) := by decide +kernel
theorem dX1_init_37 : decode cX1_init 37 = .ok (.putfield 21, 3) := by decide +kernel
theorem dX1_init_40 : decode cX1_init 40 = .ok (.aload_n 0, 1) := by decide +kernel
theorem dX1_init_41 : decode cX1_init 41 = .ok (.sipush 300, 3) := by decide +kernel
theorem dX1_init_44 : decode cX1_init 44 = .ok (.newarray .int, 2) := by decide +kernel
theorem dX1_init_46 : decode cX1_init 46 = .ok (.putfield 24, 3) := by decide +kernel
theorem dX1_init_49 : decode cX1_init 49 = .ok (.aload_n 0, 1) := by decide +kernel
theorem dX1_init_50 : decode cX1_init 50 = .ok (.sipush 300, 3) := by decide +kernel
theorem dX1_init_53 : decode cX1_init 53 = .ok (.newarray .int, 2) := by decide +kernel
theorem dX1_init_55 : decode cX1_init 55 = .ok (.putfield 27, 3) := by decide +kernel
theorem dX1_init_58 : decode cX1_init 58 = .ok (.aload_n 0, 1) := by decide +kernel
theorem dX1_init_59 : decode cX1_init 59 = .ok (.sipush 300, 3) := by decide +kernel
theorem dX1_init_62 : decode cX1_init 62 = .ok (.newarray .long, 2) := by decide +kernel
theorem dX1_init_64 : decode cX1_init 64 = .ok (.putfield 30, 3) := by decide +kernel
theorem dX1_init_67 : decode cX1_init 67 = .ok (.aload_n 0, 1) := by decide +kernel
theorem dX1_init_68 : decode cX1_init 68 = .ok (.sipush 300, 3) := by decide +kernel
theorem dX1_init_71 : decode cX1_init 71 = .ok (.newarray .long, 2) := by decide +kernel
theorem dX1_init_73 : decode cX1_init 73 = .ok (.putfield 34, 3) := by decide +kernel
theorem dX1_init_76 : decode cX1_init 76 = .ok (.return_, 1) := by decide +kernel
theorem dX1_has_0 : decode cX1_has 0 = .ok (.iload_n 1, 1) := by decide +kernel
theorem dX1_has_1 : decode cX1_has 1 = .ok (.ifCond .lt 15, 3) := by decide +kernel
theorem dX1_has_4 : decode cX1_has 4 = .ok (.iload_n 1, 1) := by decide +kernel
theorem dX1_has_5 : decode cX1_has 5 = .ok (.aload_n 0, 1) := by decide +kernel
theorem dX1_has_6 : decode cX1_has 6 = .ok (.getfield 37, 3) := by decide +kernel
theorem dX1_has_9 : decode cX1_has 9 = .ok (.if_icmp .ge 7, 3) := by decide +kernel
theorem dX1_has_12 : decode cX1_has 12 = .ok (.iconst 1, 1) := by decide +kernel
theorem dX1_has_13 : decode cX1_has 13 = .ok (.goto 4, 3) := by decide +kernel
theorem dX1_has_16 : decode cX1_has 16 = .ok (.iconst 0, 1) := by decide +kernel
theorem dX1_has_17 : decode cX1_has 17 = .ok (.ireturn, 1) := by decide +kernel
set_option maxRecDepth 20000 in
theorem ggX1_find_X1_has : GoodIn wsX1_find wsX1_has := goodIn_r _ [6, 7, 8, 9, 10, 11, 12, 13, 14, 15, 16] (by decide +kernel) (by decide +kernel)
set_option maxRecDepth 20000 in
theorem gX1_find_X1_has : GoodIn wsX1_find (wsV RX1 41 RX1 yX1_has wsX1_has) := goodIn_app (goodIn_of _ (by decide +kernel)) ggX1_find_X1_has
theorem dX1_find_0 : decode cX1_find 0 = .ok (.aload_n 0, 1) := by decide +kernel
theorem dX1_find_1 : decode cX1_find 1 = .ok (.iload_n 1, 1) := by decide +kernel
theorem dX1_find_2 : decode cX1_find 2 = .ok (.invokevirtual 41, 3) := by decide +kernel
theorem dX1_find_5 : decode cX1_find 5 = .ok (.ifCond .eq 13, 3) := by decide +kernel
theorem dX1_find_8 : decode cX1_find 8 = .ok (.iload_n 2, 1) := by decide +kernel
theorem dX1_find_9 : decode cX1_find 9 = .ok (.ifCond .lt 9, 3) := by decide +kernel
theorem dX1_find_12 : decode cX1_find 12 = .ok (.iload_n 2, 1) := by decide +kernel
theorem dX1_find_13 : decode cX1_find 13 = .ok (.bipush 15, 2) := by decide +kernel
theorem dX1_find_15 : decode cX1_find 15 = .ok (.if_icmp .lt 5, 3) := by decide +kernel
theorem dX1_find_18 : decode cX1_find 18 = .ok (.iconst (-1), 1) := by decide +kernel
theorem dX1_find_19 : decode cX1_find 19 = .ok (.ireturn, 1) := by decide +kernel
theorem dX1_find_20 : decode cX1_find 20 = .ok (.iload_n 1, 1) := by decide +kernel
theorem dX1_find_21 : decode cX1_find 21 = .ok (.bipush 15, 2) := by decide +kernel
theorem dX1_find_23 : decode cX1_find 23 = .ok (.imul, 1) := by decide +kernel
theorem dX1_find_24 : decode cX1_find 24 = .ok (.iload_n 2, 1) := by decide +kernel
theorem dX1_find_25 : decode cX1_find 25 = .ok (.iadd, 1) := by decide +kernel
theorem dX1_find_26 : decode cX1_find 26 = .ok (.istore_n 3, 1) := by decide +kernel
theorem dX1_find_27 : decode cX1_find 27 = .ok (.aload_n 0, 1) := by decide +kernel
theorem dX1_find_28 : decode cX1_find 28 = .ok (.getfield 9, 3) := by decide +kernel
theorem dX1_find_31 : decode cX1_find 31 = .ok (.iload_n 3, 1) := by decide +kernel
theorem dX1_find_32 : decode cX1_find 32 = .ok (.iaload, 1) := by decide +kernel
theorem dX1_find_33 : decode cX1_find 33 = .ok (.ifCond .ne 7, 3) := by decide +kernel
theorem dX1_find_36 : decode cX1_find 36 = .ok (.iconst (-1), 1) := by decide +kernel
theorem dX1_find_37 : decode cX1_find 37 = .ok (.goto 4, 3) := by decide +kernel
theorem dX1_find_40 : decode cX1_find 40 = .ok (.iload_n 3, 1) := by decide +kernel
theorem dX1_find_41 : decode cX1_find 41 = .ok (.ireturn, 1) := by decide +kernel
set_option maxRecDepth 20000 in
theorem ggX1_addTree_J7_fill_fda19 : GoodIn wsX1_addTree wsJ7_fill_fda19 := goodIn_r _ [6, 7, 8, 5, 9, 10, 11, 12, 22, 23, 24, 25, 26, 27] (by decide +kernel) (by decide +kernel)
set_option maxRecDepth 20000 in
theorem gX1_addTree_J7_fill_fda19 : GoodIn wsX1_addTree (va_wsS RX1 45 yJ7_fill_fda19 wsJ7_fill_fda19) := goodIn_app (goodIn_of _ (by decide +kernel)) ggX1_addTree_J7_fill_fda19
theorem dX1_addTree_0 : decode cX1_addTree 0 = .ok (.aload_n 0, 1) := by decide +kernel
theorem dX1_addTree_1 : decode cX1_addTree 1 = .ok (.getfield 37, 3) := by decide +kernel
theorem dX1_addTree_4 : decode cX1_addTree 4 = .ok (.istore_n 1, 1) := by decide +kernel
theorem dX1_addTree_5 : decode cX1_addTree 5 = .ok (.aload_n 0, 1) := by decide +kernel
theorem dX1_addTree_6 : decode cX1_addTree 6 = .ok (.getfield 9, 3) := by decide +kernel
theorem dX1_addTree_9 : decode cX1_addTree 9 = .ok (.iload_n 1, 1) := by decide +kernel
theorem dX1_addTree_10 : decode cX1_addTree 10 = .ok (.bipush 15, 2) := by decide +kernel
theorem dX1_addTree_12 : decode cX1_addTree 12 = .ok (.imul, 1) := by decide +kernel
theorem dX1_addTree_13 : decode cX1_addTree 13 = .ok (.iload_n 1, 1) := by decide +kernel
theorem dX1_addTree_14 : decode cX1_addTree 14 = .ok (.iconst 1, 1) := by decide +kernel
theorem dX1_addTree_15 : decode cX1_addTree 15 = .ok (.iadd, 1) := by decide +kernel
theorem dX1_addTree_16 : decode cX1_addTree 16 = .ok (.bipush 15, 2) := by decide +kernel
theorem dX1_addTree_18 : decode cX1_addTree 18 = .ok (.imul, 1) := by decide +kernel
theorem dX1_addTree_19 : decode cX1_addTree 19 = .ok (.iconst 0, 1) := by decide +kernel
theorem dX1_addTree_20 : decode cX1_addTree 20 = .ok (.invokestatic 45, 3) := by decide +kernel
theorem dX1_addTree_23 : decode cX1_addTree 23 = .ok (.aload_n 0, 1) := by decide +kernel
theorem dX1_addTree_24 : decode cX1_addTree 24 = .ok (.dup, 1) := by decide +kernel
theorem dX1_addTree_25 : decode cX1_addTree 25 = .ok (.getfield 37, 3) := by decide +kernel
theorem dX1_addTree_28 : decode cX1_addTree 28 = .ok (.iconst 1, 1) := by decide +kernel
theorem dX1_addTree_29 : decode cX1_addTree 29 = .ok (.iadd, 1) := by decide +kernel
theorem dX1_addTree_30 : decode cX1_addTree 30 = .ok (.putfield 37, 3) := by decide +kernel
theorem dX1_addTree_33 : decode cX1_addTree 33 = .ok (.iload_n 1, 1) := by decide +kernel
theorem dX1_addTree_34 : decode cX1_addTree 34 = .ok (.ireturn, 1) := by decide +kernel
set_option maxRecDepth 20000 in
theorem ggX1_setCut_X1_commonDivisor : GoodIn wsX1_setCut wsX1_commonDivisor := goodIn_ca (goodIn_r _ [16] (by decide +kernel) (by decide +kernel)) (goodIn_sub (fun _ h => List.mem_cons_of_mem _ (List.mem_append_right _ h)) (by decide +kernel))
set_option maxRecDepth 20000 in
theorem gX1_setCut_X1_commonDivisor : GoodIn wsX1_setCut (va_wsS RX1 69 yX1_commonDivisor wsX1_commonDivisor) := goodIn_app (goodIn_of _ (by decide +kernel)) ggX1_setCut_X1_commonDivisor
theorem dX1_setCut_0 : decode cX1_setCut 0 = .ok (.aload_n 0, 1) := by decide +kernel
theorem dX1_setCut_1 : decode cX1_setCut 1 = .ok (.getfield 9, 3) := by decide +kernel
theorem dX1_setCut_4 : decode cX1_setCut 4 = .ok (.iload_n 1, 1) := by decide +kernel
theorem dX1_setCut_5 : decode cX1_setCut 5 = .ok (.iconst 2, 1) := by decide +kernel
theorem dX1_setCut_6 : decode cX1_setCut 6 = .ok (.iastore, 1) := by decide +kernel
theorem dX1_setCut_7 : decode cX1_setCut 7 = .ok (.aload_n 0, 1) := by decide +kernel
theorem dX1_setCut_8 : decode cX1_setCut 8 = .ok (.getfield 27, 3) := by decide +kernel
theorem dX1_setCut_11 : decode cX1_setCut 11 = .ok (.iload_n 1, 1) := by decide +kernel
theorem dX1_setCut_12 : decode cX1_setCut 12 = .ok (.iload_n 2, 1) := by decide +kernel
theorem dX1_setCut_13 : decode cX1_setCut 13 = .ok (.iastore, 1) := by decide +kernel
theorem dX1_setCut_14 : decode cX1_setCut 14 = .ok (.aload_n 0, 1) := by decide +kernel
theorem dX1_setCut_15 : decode cX1_setCut 15 = .ok (.getfield 15, 3) := by decide +kernel
theorem dX1_setCut_18 : decode cX1_setCut 18 = .ok (.iload_n 1, 1) := by decide +kernel
theorem dX1_setCut_19 : decode cX1_setCut 19 = .ok (.aload_n 3, 1) := by decide +kernel
theorem dX1_setCut_20 : decode cX1_setCut 20 = .ok (.getfield 51, 3) := by decide +kernel
theorem dX1_setCut_23 : decode cX1_setCut 23 = .ok (.iastore, 1) := by decide +kernel
theorem dX1_setCut_24 : decode cX1_setCut 24 = .ok (.aload_n 0, 1) := by decide +kernel
theorem dX1_setCut_25 : decode cX1_setCut 25 = .ok (.getfield 18, 3) := by decide +kernel
theorem dX1_setCut_28 : decode cX1_setCut 28 = .ok (.iload_n 1, 1) := by decide +kernel
theorem dX1_setCut_29 : decode cX1_setCut 29 = .ok (.aload_n 3, 1) := by decide +kernel
theorem dX1_setCut_30 : decode cX1_setCut 30 = .ok (.getfield 56, 3) := by decide +kernel
theorem dX1_setCut_33 : decode cX1_setCut 33 = .ok (.iastore, 1) := by decide +kernel
theorem dX1_setCut_34 : decode cX1_setCut 34 = .ok (.aload_n 0, 1) := by decide +kernel
theorem dX1_setCut_35 : decode cX1_setCut 35 = .ok (.getfield 21, 3) := by decide +kernel
theorem dX1_setCut_38 : decode cX1_setCut 38 = .ok (.iload_n 1, 1) := by decide +kernel
theorem dX1_setCut_39 : decode cX1_setCut 39 = .ok (.aload_n 3, 1) := by decide +kernel
theorem dX1_setCut_40 : decode cX1_setCut 40 = .ok (.getfield 59, 3) := by decide +kernel
theorem dX1_setCut_43 : decode cX1_setCut 43 = .ok (.iastore, 1) := by decide +kernel
theorem dX1_setCut_44 : decode cX1_setCut 44 = .ok (.aload_n 3, 1) := by decide +kernel
theorem dX1_setCut_45 : decode cX1_setCut 45 = .ok (.getfield 62, 3) := by decide +kernel
theorem dX1_setCut_48 : decode cX1_setCut 48 = .ok (.aload_n 3, 1) := by decide +kernel
theorem dX1_setCut_49 : decode cX1_setCut 49 = .ok (.getfield 66, 3) := by decide +kernel
theorem dX1_setCut_52 : decode cX1_setCut 52 = .ok (.invokestatic 69, 3) := by decide +kernel
theorem dX1_setCut_55 : decode cX1_setCut 55 = .ok (.lstore 4, 2) := by decide +kernel
theorem dX1_setCut_57 : decode cX1_setCut 57 = .ok (.aload_n 0, 1) := by decide +kernel
theorem dX1_setCut_58 : decode cX1_setCut 58 = .ok (.getfield 30, 3) := by decide +kernel
theorem dX1_setCut_61 : decode cX1_setCut 61 = .ok (.iload_n 1, 1) := by decide +kernel
theorem dX1_setCut_62 : decode cX1_setCut 62 = .ok (.lload 4, 2) := by decide +kernel
theorem dX1_setCut_64 : decode cX1_setCut 64 = .ok (.lconst 1, 1) := by decide +kernel
theorem dX1_setCut_65 : decode cX1_setCut 65 = .ok (.lcmp, 1) := by decide +kernel
theorem dX1_setCut_66 : decode cX1_setCut 66 = .ok (.ifCond .le 13, 3) := by decide +kernel
theorem dX1_setCut_69 : decode cX1_setCut 69 = .ok (.aload_n 3, 1) := by decide +kernel
theorem dX1_setCut_70 : decode cX1_setCut 70 = .ok (.getfield 62, 3) := by decide +kernel
theorem dX1_setCut_73 : decode cX1_setCut 73 = .ok (.lload 4, 2) := by decide +kernel
theorem dX1_setCut_75 : decode cX1_setCut 75 = .ok (.ldiv, 1) := by decide +kernel
theorem dX1_setCut_76 : decode cX1_setCut 76 = .ok (.goto 7, 3) := by decide +kernel
theorem dX1_setCut_79 : decode cX1_setCut 79 = .ok (.aload_n 3, 1) := by decide +kernel
theorem dX1_setCut_80 : decode cX1_setCut 80 = .ok (.getfield 62, 3) := by decide +kernel
theorem dX1_setCut_83 : decode cX1_setCut 83 = .ok (.lastore, 1) := by decide +kernel
theorem dX1_setCut_84 : decode cX1_setCut 84 = .ok (.aload_n 0, 1) := by decide +kernel
theorem dX1_setCut_85 : decode cX1_setCut 85 = .ok (.getfield 34, 3) := by decide +kernel
theorem dX1_setCut_88 : decode cX1_setCut 88 = .ok (.iload_n 1, 1) := by decide +kernel
theorem dX1_setCut_89 : decode cX1_setCut 89 = .ok (.lload 4, 2) := by decide +kernel
theorem dX1_setCut_91 : decode cX1_setCut 91 = .ok (.lconst 1, 1) := by decide +kernel
theorem dX1_setCut_92 : decode cX1_setCut 92 = .ok (.lcmp, 1) := by decide +kernel
theorem dX1_setCut_93 : decode cX1_setCut 93 = .ok (.ifCond .le 13, 3) := by decide +kernel
theorem dX1_setCut_96 : decode cX1_setCut 96 = .ok (.aload_n 3, 1) := by decide +kernel
theorem dX1_setCut_97 : decode cX1_setCut 97 = .ok (.getfield 66, 3) := by decide +kernel
theorem dX1_setCut_100 : decode cX1_setCut 100 = .ok (.lload 4, 2) := by decide +kernel
theorem dX1_setCut_102 : decode cX1_setCut 102 = .ok (.ldiv, 1) := by decide +kernel
theorem dX1_setCut_103 : decode cX1_setCut 103 = .ok (.goto 7, 3) := by decide +kernel
theorem dX1_setCut_106 : decode cX1_setCut 106 = .ok (.aload_n 3, 1) := by decide +kernel
theorem dX1_setCut_107 : decode cX1_setCut 107 = .ok (.getfield 66, 3) := by decide +kernel
theorem dX1_setCut_110 : decode cX1_setCut 110 = .ok (.lastore, 1) := by decide +kernel
theorem dX1_setCut_111 : decode cX1_setCut 111 = .ok (.return_, 1) := by decide +kernel
theorem dX1_setLeaf_0 : decode cX1_setLeaf 0 = .ok (.aload_n 0, 1) := by decide +kernel
theorem dX1_setLeaf_1 : decode cX1_setLeaf 1 = .ok (.getfield 9, 3) := by decide +kernel
theorem dX1_setLeaf_4 : decode cX1_setLeaf 4 = .ok (.iload_n 1, 1) := by decide +kernel
theorem dX1_setLeaf_5 : decode cX1_setLeaf 5 = .ok (.iconst 1, 1) := by decide +kernel
theorem dX1_setLeaf_6 : decode cX1_setLeaf 6 = .ok (.iastore, 1) := by decide +kernel
theorem dX1_setLeaf_7 : decode cX1_setLeaf 7 = .ok (.aload_n 0, 1) := by decide +kernel
theorem dX1_setLeaf_8 : decode cX1_setLeaf 8 = .ok (.getfield 27, 3) := by decide +kernel
theorem dX1_setLeaf_11 : decode cX1_setLeaf 11 = .ok (.iload_n 1, 1) := by decide +kernel
theorem dX1_setLeaf_12 : decode cX1_setLeaf 12 = .ok (.iload_n 2, 1) := by decide +kernel
theorem dX1_setLeaf_13 : decode cX1_setLeaf 13 = .ok (.iastore, 1) := by decide +kernel
theorem dX1_setLeaf_14 : decode cX1_setLeaf 14 = .ok (.aload_n 0, 1) := by decide +kernel
theorem dX1_setLeaf_15 : decode cX1_setLeaf 15 = .ok (.getfield 24, 3) := by decide +kernel
theorem dX1_setLeaf_18 : decode cX1_setLeaf 18 = .ok (.iload_n 1, 1) := by decide +kernel
theorem dX1_setLeaf_19 : decode cX1_setLeaf 19 = .ok (.iload_n 3, 1) := by decide +kernel
theorem dX1_setLeaf_20 : decode cX1_setLeaf 20 = .ok (.iastore, 1) := by decide +kernel
theorem dX1_setLeaf_21 : decode cX1_setLeaf 21 = .ok (.return_, 1) := by decide +kernel
theorem dX1_commonDivisor_0 : decode cX1_commonDivisor 0 = .ok (.lload_n 0, 1) := by decide +kernel
theorem dX1_commonDivisor_1 : decode cX1_commonDivisor 1 = .ok (.lstore 4, 2) := by decide +kernel
theorem dX1_commonDivisor_3 : decode cX1_commonDivisor 3 = .ok (.lload_n 2, 1) := by decide +kernel
theorem dX1_commonDivisor_4 : decode cX1_commonDivisor 4 = .ok (.lstore 6, 2) := by decide +kernel
theorem dX1_commonDivisor_6 : decode cX1_commonDivisor 6 = .ok (.iconst 0, 1) := by decide +kernel
theorem dX1_commonDivisor_7 : decode cX1_commonDivisor 7 = .ok (.istore 8, 2) := by decide +kernel
theorem dX1_commonDivisor_9 : decode cX1_commonDivisor 9 = .ok (.iload 8, 2) := by decide +kernel
theorem dX1_commonDivisor_11 : decode cX1_commonDivisor 11 = .ok (.bipush 100, 2) := by decide +kernel
theorem dX1_commonDivisor_13 : decode cX1_commonDivisor 13 = .ok (.if_icmp .ge 31, 3) := by decide +kernel
theorem dX1_commonDivisor_16 : decode cX1_commonDivisor 16 = .ok (.lload 6, 2) := by decide +kernel
theorem dX1_commonDivisor_18 : decode cX1_commonDivisor 18 = .ok (.lconst 0, 1) := by decide +kernel
theorem dX1_commonDivisor_19 : decode cX1_commonDivisor 19 = .ok (.lcmp, 1) := by decide +kernel
theorem dX1_commonDivisor_20 : decode cX1_commonDivisor 20 = .ok (.ifCond .eq 24, 3) := by decide +kernel
theorem dX1_commonDivisor_23 : decode cX1_commonDivisor 23 = .ok (.lload 4, 2) := by decide +kernel
theorem dX1_commonDivisor_25 : decode cX1_commonDivisor 25 = .ok (.lload 6, 2) := by decide +kernel
theorem dX1_commonDivisor_27 : decode cX1_commonDivisor 27 = .ok (.lrem, 1) := by decide +kernel
theorem dX1_commonDivisor_28 : decode cX1_commonDivisor 28 = .ok (.lstore 9, 2) := by decide +kernel
theorem dX1_commonDivisor_30 : decode cX1_commonDivisor 30 = .ok (.lload 6, 2) := by decide +kernel
theorem dX1_commonDivisor_32 : decode cX1_commonDivisor 32 = .ok (.lstore 4, 2) := by decide +kernel
theorem dX1_commonDivisor_34 : decode cX1_commonDivisor 34 = .ok (.lload 9, 2) := by decide +kernel
theorem dX1_commonDivisor_36 : decode cX1_commonDivisor 36 = .ok (.lstore 6, 2) := by decide +kernel
theorem dX1_commonDivisor_38 : decode cX1_commonDivisor 38 = .ok (.iinc 8 1, 3) := by decide +kernel
theorem dX1_commonDivisor_41 : decode cX1_commonDivisor 41 = .ok (.goto (-32), 3) := by decide +kernel
theorem dX1_commonDivisor_44 : decode cX1_commonDivisor 44 = .ok (.lload 4, 2) := by decide +kernel
theorem dX1_commonDivisor_46 : decode cX1_commonDivisor 46 = .ok (.lreturn, 1) := by decide +kernel
set_option maxRecDepth 20000 in
theorem ggX1_valueFor_X3_goesLeft : GoodIn wsX1_valueFor wsX3_goesLeft := goodIn_ca (goodIn_ca (goodIn_r _ [10, 11, 12, 13, 14, 9, 15, 16, 26, 27, 28, 29, 30] (by decide +kernel) (by decide +kernel)) (goodIn_sub (fun _ h => List.mem_cons_of_mem _ (List.mem_append_right _ h)) (by decide +kernel))) (goodIn_sub (fun _ h => List.mem_cons_of_mem _ (List.mem_append_left _ (List.mem_append_right _ h))) (by decide +kernel))
set_option maxRecDepth 20000 in
theorem gX1_valueFor_X3_goesLeft : GoodIn wsX1_valueFor (wsV RX1 73 RX3 yX3_goesLeft wsX3_goesLeft) := goodIn_app (goodIn_of _ (by decide +kernel)) ggX1_valueFor_X3_goesLeft
theorem dX1_valueFor_0 : decode cX1_valueFor 0 = .ok (.iload_n 1, 1) := by decide +kernel
theorem dX1_valueFor_1 : decode cX1_valueFor 1 = .ok (.bipush 15, 2) := by decide +kernel
theorem dX1_valueFor_3 : decode cX1_valueFor 3 = .ok (.imul, 1) := by decide +kernel
theorem dX1_valueFor_4 : decode cX1_valueFor 4 = .ok (.istore 4, 2) := by decide +kernel
theorem dX1_valueFor_6 : decode cX1_valueFor 6 = .ok (.iconst 0, 1) := by decide +kernel
theorem dX1_valueFor_7 : decode cX1_valueFor 7 = .ok (.istore 5, 2) := by decide +kernel
theorem dX1_valueFor_9 : decode cX1_valueFor 9 = .ok (.iconst 0, 1) := by decide +kernel
theorem dX1_valueFor_10 : decode cX1_valueFor 10 = .ok (.istore 6, 2) := by decide +kernel
theorem dX1_valueFor_12 : decode cX1_valueFor 12 = .ok (.iload 6, 2) := by decide +kernel
theorem dX1_valueFor_14 : decode cX1_valueFor 14 = .ok (.iconst 3, 1) := by decide +kernel
theorem dX1_valueFor_15 : decode cX1_valueFor 15 = .ok (.if_icmp .ge 80, 3) := by decide +kernel
theorem dX1_valueFor_18 : decode cX1_valueFor 18 = .ok (.aload_n 0, 1) := by decide +kernel
theorem dX1_valueFor_19 : decode cX1_valueFor 19 = .ok (.getfield 9, 3) := by decide +kernel
theorem dX1_valueFor_22 : decode cX1_valueFor 22 = .ok (.iload 4, 2) := by decide +kernel
theorem dX1_valueFor_24 : decode cX1_valueFor 24 = .ok (.iload 5, 2) := by decide +kernel
theorem dX1_valueFor_26 : decode cX1_valueFor 26 = .ok (.iadd, 1) := by decide +kernel
theorem dX1_valueFor_27 : decode cX1_valueFor 27 = .ok (.iaload, 1) := by decide +kernel
theorem dX1_valueFor_28 : decode cX1_valueFor 28 = .ok (.iconst 2, 1) := by decide +kernel
theorem dX1_valueFor_29 : decode cX1_valueFor 29 = .ok (.if_icmp .ne 66, 3) := by decide +kernel
theorem dX1_valueFor_32 : decode cX1_valueFor 32 = .ok (.iload 4, 2) := by decide +kernel
theorem dX1_valueFor_34 : decode cX1_valueFor 34 = .ok (.iload 5, 2) := by decide +kernel
theorem dX1_valueFor_36 : decode cX1_valueFor 36 = .ok (.iadd, 1) := by decide +kernel
theorem dX1_valueFor_37 : decode cX1_valueFor 37 = .ok (.istore 7, 2) := by decide +kernel
theorem dX1_valueFor_39 : decode cX1_valueFor 39 = .ok (.aload_n 2, 1) := by decide +kernel
theorem dX1_valueFor_40 : decode cX1_valueFor 40 = .ok (.iload_n 3, 1) := by decide +kernel
theorem dX1_valueFor_41 : decode cX1_valueFor 41 = .ok (.aload_n 0, 1) := by decide +kernel
theorem dX1_valueFor_42 : decode cX1_valueFor 42 = .ok (.getfield 15, 3) := by decide +kernel
theorem dX1_valueFor_45 : decode cX1_valueFor 45 = .ok (.iload 7, 2) := by decide +kernel
theorem dX1_valueFor_47 : decode cX1_valueFor 47 = .ok (.iaload, 1) := by decide +kernel
theorem dX1_valueFor_48 : decode cX1_valueFor 48 = .ok (.aload_n 0, 1) := by decide +kernel
theorem dX1_valueFor_49 : decode cX1_valueFor 49 = .ok (.getfield 18, 3) := by decide +kernel
theorem dX1_valueFor_52 : decode cX1_valueFor 52 = .ok (.iload 7, 2) := by decide +kernel
theorem dX1_valueFor_54 : decode cX1_valueFor 54 = .ok (.iaload, 1) := by decide +kernel
theorem dX1_valueFor_55 : decode cX1_valueFor 55 = .ok (.aload_n 0, 1) := by decide +kernel
theorem dX1_valueFor_56 : decode cX1_valueFor 56 = .ok (.getfield 21, 3) := by decide +kernel
theorem dX1_valueFor_59 : decode cX1_valueFor 59 = .ok (.iload 7, 2) := by decide +kernel
theorem dX1_valueFor_61 : decode cX1_valueFor 61 = .ok (.iaload, 1) := by decide +kernel
theorem dX1_valueFor_62 : decode cX1_valueFor 62 = .ok (.invokevirtual 73, 3) := by decide +kernel
theorem dX1_valueFor_65 : decode cX1_valueFor 65 = .ok (.istore 8, 2) := by decide +kernel
theorem dX1_valueFor_67 : decode cX1_valueFor 67 = .ok (.iload 8, 2) := by decide +kernel
theorem dX1_valueFor_69 : decode cX1_valueFor 69 = .ok (.ifCond .eq 12, 3) := by decide +kernel
theorem dX1_valueFor_72 : decode cX1_valueFor 72 = .ok (.iconst 2, 1) := by decide +kernel
theorem dX1_valueFor_73 : decode cX1_valueFor 73 = .ok (.iload 5, 2) := by decide +kernel
theorem dX1_valueFor_75 : decode cX1_valueFor 75 = .ok (.imul, 1) := by decide +kernel
theorem dX1_valueFor_76 : decode cX1_valueFor 76 = .ok (.iconst 1, 1) := by decide +kernel
theorem dX1_valueFor_77 : decode cX1_valueFor 77 = .ok (.iadd, 1) := by decide +kernel
theorem dX1_valueFor_78 : decode cX1_valueFor 78 = .ok (.goto 9, 3) := by decide +kernel
theorem dX1_valueFor_81 : decode cX1_valueFor 81 = .ok (.iconst 2, 1) := by decide +kernel
theorem dX1_valueFor_82 : decode cX1_valueFor 82 = .ok (.iload 5, 2) := by decide +kernel
theorem dX1_valueFor_84 : decode cX1_valueFor 84 = .ok (.imul, 1) := by decide +kernel
theorem dX1_valueFor_85 : decode cX1_valueFor 85 = .ok (.iconst 2, 1) := by decide +kernel
theorem dX1_valueFor_86 : decode cX1_valueFor 86 = .ok (.iadd, 1) := by decide +kernel
theorem dX1_valueFor_87 : decode cX1_valueFor 87 = .ok (.istore 5, 2) := by decide +kernel
theorem dX1_valueFor_89 : decode cX1_valueFor 89 = .ok (.iinc 6 1, 3) := by decide +kernel
theorem dX1_valueFor_92 : decode cX1_valueFor 92 = .ok (.goto (-80), 3) := by decide +kernel
theorem dX1_valueFor_95 : decode cX1_valueFor 95 = .ok (.aload_n 0, 1) := by decide +kernel
theorem dX1_valueFor_96 : decode cX1_valueFor 96 = .ok (.getfield 24, 3) := by decide +kernel
theorem dX1_valueFor_99 : decode cX1_valueFor 99 = .ok (.iload 4, 2) := by decide +kernel
theorem dX1_valueFor_101 : decode cX1_valueFor 101 = .ok (.iload 5, 2) := by decide +kernel
theorem dX1_valueFor_103 : decode cX1_valueFor 103 = .ok (.iadd, 1) := by decide +kernel
theorem dX1_valueFor_104 : decode cX1_valueFor 104 = .ok (.iaload, 1) := by decide +kernel
theorem dX1_valueFor_105 : decode cX1_valueFor 105 = .ok (.ireturn, 1) := by decide +kernel
set_option maxRecDepth 20000 in
theorem ggX1_sumFor_X1_valueFor : GoodIn wsX1_sumFor wsX1_valueFor := goodIn_ca (goodIn_ca (goodIn_r _ [6, 7, 8, 9, 10, 11, 12, 13, 14, 15, 16, 17, 18, 19, 20, 21, 22, 23, 24, 25, 26, 27, 28, 29, 30, 31, 32, 33, 34, 35, 36] (by decide +kernel) (by decide +kernel)) (goodIn_sub (fun _ h => List.mem_cons_of_mem _ (List.mem_append_right _ h)) (by decide +kernel))) (goodIn_sub (fun _ h => List.mem_cons_of_mem _ (List.mem_append_left _ (List.mem_append_right _ h))) (by decide +kernel))
set_option maxRecDepth 20000 in
theorem gX1_sumFor_X1_valueFor : GoodIn wsX1_sumFor (wsV RX1 79 RX1 yX1_valueFor wsX1_valueFor) := goodIn_app (goodIn_of _ (by decide +kernel)) ggX1_sumFor_X1_valueFor
theorem dX1_sumFor_0 : decode cX1_sumFor 0 = .ok (.lconst 0, 1) := by decide +kernel
theorem dX1_sumFor_1 : decode cX1_sumFor 1 = .ok (.lstore_n 3, 1) := by decide +kernel
theorem dX1_sumFor_2 : decode cX1_sumFor 2 = .ok (.iconst 0, 1) := by decide +kernel
theorem dX1_sumFor_3 : decode cX1_sumFor 3 = .ok (.istore 5, 2) := by decide +kernel
theorem dX1_sumFor_5 : decode cX1_sumFor 5 = .ok (.iload 5, 2) := by decide +kernel
theorem dX1_sumFor_7 : decode cX1_sumFor 7 = .ok (.aload_n 0, 1) := by decide +kernel
theorem dX1_sumFor_8 : decode cX1_sumFor 8 = .ok (.getfield 37, 3) := by decide +kernel
theorem dX1_sumFor_11 : decode cX1_sumFor 11 = .ok (.if_icmp .ge 21, 3) := by decide +kernel
theorem dX1_sumFor_14 : decode cX1_sumFor 14 = .ok (.lload_n 3, 1) := by decide +kernel
theorem dX1_sumFor_15 : decode cX1_sumFor 15 = .ok (.aload_n 0, 1) := by decide +kernel
theorem dX1_sumFor_16 : decode cX1_sumFor 16 = .ok (.iload 5, 2) := by decide +kernel
theorem dX1_sumFor_18 : decode cX1_sumFor 18 = .ok (.aload_n 1, 1) := by decide +kernel
theorem dX1_sumFor_19 : decode cX1_sumFor 19 = .ok (.iload_n 2, 1) := by decide +kernel
theorem dX1_sumFor_20 : decode cX1_sumFor 20 = .ok (.invokevirtual 79, 3) := by decide +kernel
theorem dX1_sumFor_23 : decode cX1_sumFor 23 = .ok (.i2l, 1) := by decide +kernel
theorem dX1_sumFor_24 : decode cX1_sumFor 24 = .ok (.ladd, 1) := by decide +kernel
theorem dX1_sumFor_25 : decode cX1_sumFor 25 = .ok (.lstore_n 3, 1) := by decide +kernel
theorem dX1_sumFor_26 : decode cX1_sumFor 26 = .ok (.iinc 5 1, 3) := by decide +kernel
theorem dX1_sumFor_29 : decode cX1_sumFor 29 = .ok (.goto (-24), 3) := by decide +kernel
theorem dX1_sumFor_32 : decode cX1_sumFor 32 = .ok (.lload_n 3, 1) := by decide +kernel
theorem dX1_sumFor_33 : decode cX1_sumFor 33 = .ok (.lreturn, 1) := by decide +kernel
theorem dX1_countLeaves_0 : decode cX1_countLeaves 0 = .ok (.iconst 0, 1) := by decide +kernel
theorem dX1_countLeaves_1 : decode cX1_countLeaves 1 = .ok (.istore_n 3, 1) := by decide +kernel
theorem dX1_countLeaves_2 : decode cX1_countLeaves 2 = .ok (.iload_n 1, 1) := by decide +kernel
theorem dX1_countLeaves_3 : decode cX1_countLeaves 3 = .ok (.bipush 15, 2) := by decide +kernel
theorem dX1_countLeaves_5 : decode cX1_countLeaves 5 = .ok (.imul, 1) := by decide +kernel
theorem dX1_countLeaves_6 : decode cX1_countLeaves 6 = .ok (.istore 4, 2) := by decide +kernel
theorem dX1_countLeaves_8 : decode cX1_countLeaves 8 = .ok (.iload 4, 2) := by decide +kernel
theorem dX1_countLeaves_10 : decode cX1_countLeaves 10 = .ok (.iload_n 2, 1) := by decide +kernel
theorem dX1_countLeaves_11 : decode cX1_countLeaves 11 = .ok (.bipush 15, 2) := by decide +kernel
theorem dX1_countLeaves_13 : decode cX1_countLeaves 13 = .ok (.imul, 1) := by decide +kernel
theorem dX1_countLeaves_14 : decode cX1_countLeaves 14 = .ok (.if_icmp .ge 23, 3) := by decide +kernel
theorem dX1_countLeaves_17 : decode cX1_countLeaves 17 = .ok (.aload_n 0, 1) := by decide +kernel
theorem dX1_countLeaves_18 : decode cX1_countLeaves 18 = .ok (.getfield 9, 3) := by decide +kernel
theorem dX1_countLeaves_21 : decode cX1_countLeaves 21 = .ok (.iload 4, 2) := by decide +kernel
theorem dX1_countLeaves_23 : decode cX1_countLeaves 23 = .ok (.iaload, 1) := by decide +kernel
theorem dX1_countLeaves_24 : decode cX1_countLeaves 24 = .ok (.iconst 1, 1) := by decide +kernel
theorem dX1_countLeaves_25 : decode cX1_countLeaves 25 = .ok (.if_icmp .ne 6, 3) := by decide +kernel
theorem dX1_countLeaves_28 : decode cX1_countLeaves 28 = .ok (.iinc 3 1, 3) := by decide +kernel
theorem dX1_countLeaves_31 : decode cX1_countLeaves 31 = .ok (.iinc 4 1, 3) := by decide +kernel
theorem dX1_countLeaves_34 : decode cX1_countLeaves 34 = .ok (.goto (-26), 3) := by decide +kernel
theorem dX1_countLeaves_37 : decode cX1_countLeaves 37 = .ok (.iload_n 3, 1) := by decide +kernel
theorem dX1_countLeaves_38 : decode cX1_countLeaves 38 = .ok (.ireturn, 1) := by decide +kernel
theorem dX1_countCutsBy_0 : decode cX1_countCutsBy 0 = .ok (.iconst 0, 1) := by decide +kernel
theorem dX1_countCutsBy_1 : decode cX1_countCutsBy 1 = .ok (.istore_n 2, 1) := by decide +kernel
theorem dX1_countCutsBy_2 : decode cX1_countCutsBy 2 = .ok (.iconst 0, 1) := by decide +kernel
theorem dX1_countCutsBy_3 : decode cX1_countCutsBy 3 = .ok (.istore_n 3, 1) := by decide +kernel
theorem dX1_countCutsBy_4 : decode cX1_countCutsBy 4 = .ok (.iload_n 3, 1) := by decide +kernel
theorem dX1_countCutsBy_5 : decode cX1_countCutsBy 5 = .ok (.aload_n 0, 1) := by decide +kernel
theorem dX1_countCutsBy_6 : decode cX1_countCutsBy 6 = .ok (.getfield 37, 3) := by decide +kernel
theorem dX1_countCutsBy_9 : decode cX1_countCutsBy 9 = .ok (.bipush 15, 2) := by decide +kernel
theorem dX1_countCutsBy_11 : decode cX1_countCutsBy 11 = .ok (.imul, 1) := by decide +kernel
theorem dX1_countCutsBy_12 : decode cX1_countCutsBy 12 = .ok (.if_icmp .ge 32, 3) := by decide +kernel
theorem dX1_countCutsBy_15 : decode cX1_countCutsBy 15 = .ok (.aload_n 0, 1) := by decide +kernel
theorem dX1_countCutsBy_16 : decode cX1_countCutsBy 16 = .ok (.getfield 9, 3) := by decide +kernel
theorem dX1_countCutsBy_19 : decode cX1_countCutsBy 19 = .ok (.iload_n 3, 1) := by decide +kernel
theorem dX1_countCutsBy_20 : decode cX1_countCutsBy 20 = .ok (.iaload, 1) := by decide +kernel
theorem dX1_countCutsBy_21 : decode cX1_countCutsBy 21 = .ok (.iconst 2, 1) := by decide +kernel
theorem dX1_countCutsBy_22 : decode cX1_countCutsBy 22 = .ok (.if_icmp .ne 16, 3) := by decide +kernel
theorem dX1_countCutsBy_25 : decode cX1_countCutsBy 25 = .ok (.aload_n 0, 1) := by decide +kernel
theorem dX1_countCutsBy_26 : decode cX1_countCutsBy 26 = .ok (.getfield 15, 3) := by decide +kernel
theorem dX1_countCutsBy_29 : decode cX1_countCutsBy 29 = .ok (.iload_n 3, 1) := by decide +kernel
theorem dX1_countCutsBy_30 : decode cX1_countCutsBy 30 = .ok (.iaload, 1) := by decide +kernel
theorem dX1_countCutsBy_31 : decode cX1_countCutsBy 31 = .ok (.iload_n 1, 1) := by decide +kernel
theorem dX1_countCutsBy_32 : decode cX1_countCutsBy 32 = .ok (.if_icmp .ne 6, 3) := by decide +kernel
theorem dX1_countCutsBy_35 : decode cX1_countCutsBy 35 = .ok (.iinc 2 1, 3) := by decide +kernel
theorem dX1_countCutsBy_38 : decode cX1_countCutsBy 38 = .ok (.iinc 3 1, 3) := by decide +kernel
theorem dX1_countCutsBy_41 : decode cX1_countCutsBy 41 = .ok (.goto (-37), 3) := by decide +kernel
theorem dX1_countCutsBy_44 : decode cX1_countCutsBy 44 = .ok (.iload_n 2, 1) := by decide +kernel
theorem dX1_countCutsBy_45 : decode cX1_countCutsBy 45 = .ok (.ireturn, 1) := by decide +kernel
set_option maxRecDepth 20000 in
theorem ggX2_init_X0_init : GoodIn wsX2_init wsX0_init := goodIn_r _ [12, 13, 2, 3] (by decide +kernel) (by decide +kernel)
set_option maxRecDepth 20000 in
theorem gX2_init_X0_init_n20 : GoodIn wsX2_init (wsX0_init) := ggX2_init_X0_init
theorem dX2_init_0 : decode cX2_init 0 = .ok (.aload_n 0, 1) := by decide +kernel
theorem dX2_init_1 : decode cX2_init 1 = .ok (.invokespecial 3, 3) := by decide +kernel
theorem dX2_init_4 : decode cX2_init 4 = .ok (.aload_n 0, 1) := by decide +kernel
theorem dX2_init_5 : decode cX2_init 5 = .ok (.bipush 24, 2) := by decide +kernel
theorem dX2_init_7 : decode cX2_init 7 = .ok (.newarray .int, 2) := by decide +kernel
theorem dX2_init_9 : decode cX2_init 9 = .ok (.putfield 9, 3) := by decide +kernel
theorem dX2_init_12 : decode cX2_init 12 = .ok (.aload_n 0, 1) := by decide +kernel
theorem dX2_init_13 : decode cX2_init 13 = .ok (.bipush 24, 2) := by decide +kernel
theorem dX2_init_15 : decode cX2_init 15 = .ok (.newarray .int, 2) := by decide +kernel
theorem dX2_init_17 : decode cX2_init 17 = .ok (.putfield 15, 3) := by decide +kernel
theorem dX2_init_20 : decode cX2_init 20 = .ok (.aload_n 0, 1) := by decide +kernel
theorem dX2_init_21 : decode cX2_init 21 = .ok (.new 18, 3) := by decide +kernel
theorem dX2_init_24 : decode cX2_init 24 = .ok (.dup, 1) := by decide +kernel
theorem dX2_init_25 : decode cX2_init 25 = .ok (.invokespecial 20, 3) := by decide +kernel
theorem dX2_init_28 : decode cX2_init 28 = .ok (.putfield 21, 3) := by decide +kernel
theorem dX2_init_31 : decode cX2_init 31 = .ok (.return_, 1) := by decide +kernel
set_option maxRecDepth 20000 in
theorem ggX2_growTree_X3_pushOf : GoodIn wsX2_growTree wsX3_pushOf := goodIn_ca (goodIn_ca (goodIn_r _ [9, 10, 11, 12, 13, 8, 14, 15, 16, 17, 18, 19, 20, 21, 108, 109, 110, 111, 112] (by decide +kernel) (by decide +kernel)) (goodIn_sub (fun _ h => List.mem_cons_of_mem _ (List.mem_append_left _ (List.mem_append_left _ (List.mem_append_right _ h)))) (by decide +kernel))) (goodIn_sub (fun _ h => List.mem_cons_of_mem _ (List.mem_append_left _ (List.mem_append_right _ h))) (by decide +kernel))
set_option maxRecDepth 20000 in
theorem gX2_growTree_X3_pushOf : GoodIn wsX2_growTree (wsV RX2 31 RX3 yX3_pushOf wsX3_pushOf) := goodIn_app (goodIn_of _ (by decide +kernel)) ggX2_growTree_X3_pushOf
set_option maxRecDepth 20000 in
theorem ggX2_growTree_X2_gather : GoodIn wsX2_growTree wsX2_gather := goodIn_ca (goodIn_ca (goodIn_r _ [26, 4, 27, 1, 3, 2, 113, 114, 115, 116, 117, 108, 109, 110, 111, 112] (by decide +kernel) (by decide +kernel)) (goodIn_sub (fun _ h => List.mem_cons_of_mem _ (List.mem_append_left _ (List.mem_append_left _ (List.mem_append_right _ h)))) (by decide +kernel))) (goodIn_sub (fun _ h => List.mem_cons_of_mem _ (List.mem_append_left _ (List.mem_append_right _ h))) (by decide +kernel))
set_option maxRecDepth 20000 in
theorem gX2_growTree_X2_gather : GoodIn wsX2_growTree (wsV RX2 35 RX2 yX2_gather wsX2_gather) := goodIn_app (goodIn_of _ (by decide +kernel)) ggX2_growTree_X2_gather
set_option maxRecDepth 20000 in
theorem ggX2_growTree_X2_growNode : GoodIn wsX2_growTree wsX2_growNode := goodIn_ca (goodIn_ca (goodIn_ca (goodIn_r _ [31, 32, 33, 4, 27, 34, 35, 25, 36, 37, 38, 39, 40, 1, 3, 41, 42, 43, 44, 8, 45, 46, 47, 48, 49, 50, 2, 51, 52, 53, 54, 55, 56, 57, 58, 59, 60, 61, 62, 63, 64, 65, 66, 67, 68, 69, 70, 71, 72, 73, 74, 75, 76, 77, 78, 79, 80, 81, 82, 83, 84, 85, 86, 87, 88, 89, 90, 91, 92, 93, 94, 95, 96, 97, 98, 99, 100, 101, 102, 103, 104, 105, 106, 107, 113, 114, 115, 116, 117, 118, 119, 120, 121, 122, 123, 108, 109, 110, 111, 112, 124, 125, 126, 127, 128, 129, 130, 131, 132] (by decide +kernel) (by decide +kernel)) (goodIn_sub (fun _ h => List.mem_cons_of_mem _ (List.mem_append_left _ (List.mem_append_left _ (List.mem_append_right _ h)))) (by decide +kernel))) (goodIn_sub (fun _ h => List.mem_cons_of_mem _ (List.mem_append_left _ (List.mem_append_right _ h))) (by decide +kernel))) (goodIn_sub (fun _ h => List.mem_cons_of_mem _ (List.mem_append_right _ h)) (by decide +kernel))
set_option maxRecDepth 20000 in
theorem gX2_growTree_X2_growNode : GoodIn wsX2_growTree (wsV RX2 42 RX2 yX2_growNode wsX2_growNode) := goodIn_app (goodIn_of _ (by decide +kernel)) ggX2_growTree_X2_growNode
theorem dX2_growTree_0 : decode cX2_growTree 0 = .ok (.iconst 0, 1) := by decide +kernel
theorem dX2_growTree_1 : decode cX2_growTree 1 = .ok (.istore 5, 2) := by decide +kernel
theorem dX2_growTree_3 : decode cX2_growTree 3 = .ok (.iload 5, 2) := by decide +kernel
theorem dX2_growTree_5 : decode cX2_growTree 5 = .ok (.aload_n 1, 1) := by decide +kernel
theorem dX2_growTree_6 : decode cX2_growTree 6 = .ok (.getfield 25, 3) := by decide +kernel
theorem dX2_growTree_9 : decode cX2_growTree 9 = .ok (.if_icmp .ge 34, 3) := by decide +kernel
theorem dX2_growTree_12 : decode cX2_growTree 12 = .ok (.aload_n 0, 1) := by decide +kernel
theorem dX2_growTree_13 : decode cX2_growTree 13 = .ok (.getfield 9, 3) := by decide +kernel
theorem dX2_growTree_16 : decode cX2_growTree 16 = .ok (.iload 5, 2) := by decide +kernel
theorem dX2_growTree_18 : decode cX2_growTree 18 = .ok (.aload_n 1, 1) := by decide +kernel
theorem dX2_growTree_19 : decode cX2_growTree 19 = .ok (.iload 5, 2) := by decide +kernel
theorem dX2_growTree_21 : decode cX2_growTree 21 = .ok (.aload 4, 2) := by decide +kernel
theorem dX2_growTree_23 : decode cX2_growTree 23 = .ok (.iconst 0, 1) := by decide +kernel
theorem dX2_growTree_24 : decode cX2_growTree 24 = .ok (.iaload, 1) := by decide +kernel
theorem dX2_growTree_25 : decode cX2_growTree 25 = .ok (.invokevirtual 31, 3) := by decide +kernel
theorem dX2_growTree_28 : decode cX2_growTree 28 = .ok (.iastore, 1) := by decide +kernel
theorem dX2_growTree_29 : decode cX2_growTree 29 = .ok (.aload_n 0, 1) := by decide +kernel
theorem dX2_growTree_30 : decode cX2_growTree 30 = .ok (.getfield 15, 3) := by decide +kernel
theorem dX2_growTree_33 : decode cX2_growTree 33 = .ok (.iload 5, 2) := by decide +kernel
theorem dX2_growTree_35 : decode cX2_growTree 35 = .ok (.iconst 0, 1) := by decide +kernel
theorem dX2_growTree_36 : decode cX2_growTree 36 = .ok (.iastore, 1) := by decide +kernel
theorem dX2_growTree_37 : decode cX2_growTree 37 = .ok (.iinc 5 1, 3) := by decide +kernel
theorem dX2_growTree_40 : decode cX2_growTree 40 = .ok (.goto (-37), 3) := by decide +kernel
theorem dX2_growTree_43 : decode cX2_growTree 43 = .ok (.iconst 0, 1) := by decide +kernel
theorem dX2_growTree_44 : decode cX2_growTree 44 = .ok (.istore 5, 2) := by decide +kernel
theorem dX2_growTree_46 : decode cX2_growTree 46 = .ok (.iload 5, 2) := by decide +kernel
theorem dX2_growTree_48 : decode cX2_growTree 48 = .ok (.bipush 15, 2) := by decide +kernel
theorem dX2_growTree_50 : decode cX2_growTree 50 = .ok (.if_icmp .ge 34, 3) := by decide +kernel
theorem dX2_growTree_53 : decode cX2_growTree 53 = .ok (.aload_n 0, 1) := by decide +kernel
theorem dX2_growTree_54 : decode cX2_growTree 54 = .ok (.aload_n 1, 1) := by decide +kernel
theorem dX2_growTree_55 : decode cX2_growTree 55 = .ok (.iload 5, 2) := by decide +kernel
theorem dX2_growTree_57 : decode cX2_growTree 57 = .ok (.invokevirtual 35, 3) := by decide +kernel
theorem dX2_growTree_60 : decode cX2_growTree 60 = .ok (.aload_n 0, 1) := by decide +kernel
theorem dX2_growTree_61 : decode cX2_growTree 61 = .ok (.getfield 39, 3) := by decide +kernel
theorem dX2_growTree_64 : decode cX2_growTree 64 = .ok (.ifCond .le 14, 3) := by decide +kernel
theorem dX2_growTree_67 : decode cX2_growTree 67 = .ok (.aload_n 0, 1) := by decide +kernel
theorem dX2_growTree_68 : decode cX2_growTree 68 = .ok (.aload_n 1, 1) := by decide +kernel
theorem dX2_growTree_69 : decode cX2_growTree 69 = .ok (.aload_n 2, 1) := by decide +kernel
theorem dX2_growTree_70 : decode cX2_growTree 70 = .ok (.iload_n 3, 1) := by decide +kernel
theorem dX2_growTree_71 : decode cX2_growTree 71 = .ok (.iload 5, 2) := by decide +kernel
theorem dX2_growTree_73 : decode cX2_growTree 73 = .ok (.aload 4, 2) := by decide +kernel
theorem dX2_growTree_75 : decode cX2_growTree 75 = .ok (.invokevirtual 42, 3) := by decide +kernel
theorem dX2_growTree_78 : decode cX2_growTree 78 = .ok (.iinc 5 1, 3) := by decide +kernel
theorem dX2_growTree_81 : decode cX2_growTree 81 = .ok (.goto (-35), 3) := by decide +kernel
theorem dX2_growTree_84 : decode cX2_growTree 84 = .ok (.return_, 1) := by decide +kernel
theorem dX2_gather_0 : decode cX2_gather 0 = .ok (.aload_n 0, 1) := by decide +kernel
theorem dX2_gather_1 : decode cX2_gather 1 = .ok (.iconst 0, 1) := by decide +kernel
theorem dX2_gather_2 : decode cX2_gather 2 = .ok (.putfield 39, 3) := by decide +kernel
theorem dX2_gather_5 : decode cX2_gather 5 = .ok (.aload_n 0, 1) := by decide +kernel
theorem dX2_gather_6 : decode cX2_gather 6 = .ok (.iconst 0, 1) := by decide +kernel
theorem dX2_gather_7 : decode cX2_gather 7 = .ok (.putfield 46, 3) := by decide +kernel
theorem dX2_gather_10 : decode cX2_gather 10 = .ok (.iconst 0, 1) := by decide +kernel
theorem dX2_gather_11 : decode cX2_gather 11 = .ok (.istore_n 3, 1) := by decide +kernel
theorem dX2_gather_12 : decode cX2_gather 12 = .ok (.iload_n 3, 1) := by decide +kernel
theorem dX2_gather_13 : decode cX2_gather 13 = .ok (.aload_n 1, 1) := by decide +kernel
theorem dX2_gather_14 : decode cX2_gather 14 = .ok (.getfield 25, 3) := by decide +kernel
theorem dX2_gather_17 : decode cX2_gather 17 = .ok (.if_icmp .ge 44, 3) := by decide +kernel
theorem dX2_gather_20 : decode cX2_gather 20 = .ok (.aload_n 0, 1) := by decide +kernel
theorem dX2_gather_21 : decode cX2_gather 21 = .ok (.getfield 15, 3) := by decide +kernel
theorem dX2_gather_24 : decode cX2_gather 24 = .ok (.iload_n 3, 1) := by decide +kernel
theorem dX2_gather_25 : decode cX2_gather 25 = .ok (.iaload, 1) := by decide +kernel
theorem dX2_gather_26 : decode cX2_gather 26 = .ok (.iload_n 2, 1) := by decide +kernel
theorem dX2_gather_27 : decode cX2_gather 27 = .ok (.if_icmp .ne 28, 3) := by decide +kernel
theorem dX2_gather_30 : decode cX2_gather 30 = .ok (.aload_n 0, 1) := by decide +kernel
theorem dX2_gather_31 : decode cX2_gather 31 = .ok (.dup, 1) := by decide +kernel
theorem dX2_gather_32 : decode cX2_gather 32 = .ok (.getfield 39, 3) := by decide +kernel
theorem dX2_gather_35 : decode cX2_gather 35 = .ok (.iconst 1, 1) := by decide +kernel
theorem dX2_gather_36 : decode cX2_gather 36 = .ok (.iadd, 1) := by decide +kernel
theorem dX2_gather_37 : decode cX2_gather 37 = .ok (.putfield 39, 3) := by decide +kernel
theorem dX2_gather_40 : decode cX2_gather 40 = .ok (.aload_n 0, 1) := by decide +kernel
theorem dX2_gather_41 : decode cX2_gather 41 = .ok (.dup, 1) := by decide +kernel
theorem dX2_gather_42 : decode cX2_gather 42 = .ok (.getfield 46, 3) := by decide +kernel
theorem dX2_gather_45 : decode cX2_gather 45 = .ok (.aload_n 0, 1) := by decide +kernel
theorem dX2_gather_46 : decode cX2_gather 46 = .ok (.getfield 9, 3) := by decide +kernel
theorem dX2_gather_49 : decode cX2_gather 49 = .ok (.iload_n 3, 1) := by decide +kernel
theorem dX2_gather_50 : decode cX2_gather 50 = .ok (.iaload, 1) := by decide +kernel
theorem dX2_gather_51 : decode cX2_gather 51 = .ok (.iadd, 1) := by decide +kernel
theorem dX2_gather_52 : decode cX2_gather 52 = .ok (.putfield 46, 3) := by decide +kernel
theorem dX2_gather_55 : decode cX2_gather 55 = .ok (.iinc 3 1, 3) := by decide +kernel
theorem dX2_gather_58 : decode cX2_gather 58 = .ok (.goto (-46), 3) := by decide +kernel
theorem dX2_gather_61 : decode cX2_gather 61 = .ok (.return_, 1) := by decide +kernel
set_option maxRecDepth 20000 in
theorem ggX2_growNode_X2_depthOf : GoodIn wsX2_growNode wsX2_depthOf := goodIn_r _ [8] (by decide +kernel) (by decide +kernel)
set_option maxRecDepth 20000 in
theorem gX2_growNode_X2_depthOf : GoodIn wsX2_growNode (va_wsS RX2 53 yX2_depthOf wsX2_depthOf) := goodIn_app (goodIn_of _ (by decide +kernel)) ggX2_growNode_X2_depthOf
set_option maxRecDepth 20000 in
theorem ggX2_growNode_X2_seekCut : GoodIn wsX2_growNode wsX2_seekCut := goodIn_ca (goodIn_ca (goodIn_r _ [12, 13, 14, 15, 16, 17, 18, 19, 20, 21, 22, 23, 24, 7, 25, 26, 3, 4, 1, 27, 28, 29, 30, 31, 32, 33, 34, 35, 36, 37, 38, 39, 40, 41, 42, 43, 44, 45, 46, 47, 95, 96, 97, 98, 99, 84, 85, 86, 87, 88, 89, 90, 91, 92, 93, 94] (by decide +kernel) (by decide +kernel)) (goodIn_sub (fun _ h => List.mem_cons_of_mem _ (List.mem_append_left _ (List.mem_append_left _ (List.mem_append_right _ h)))) (by decide +kernel))) (goodIn_sub (fun _ h => List.mem_cons_of_mem _ (List.mem_append_left _ (List.mem_append_right _ h))) (by decide +kernel))
set_option maxRecDepth 20000 in
theorem gX2_growNode_X2_seekCut : GoodIn wsX2_growNode (wsV RX2 57 RX2 yX2_seekCut wsX2_seekCut) := goodIn_app (goodIn_of _ (by decide +kernel)) ggX2_growNode_X2_seekCut
set_option maxRecDepth 20000 in
theorem ggX2_growNode_X1_setCut : GoodIn wsX2_growNode wsX1_setCut := goodIn_ca (goodIn_ca (goodIn_ca (goodIn_r _ [52, 53, 54, 55, 56, 57, 58, 59, 60, 61, 62, 63, 64, 65, 66, 51, 67, 100, 101, 102, 103, 104, 105, 106, 107, 108, 89, 90, 91, 92, 93, 94] (by decide +kernel) (by decide +kernel)) (goodIn_sub (fun _ h => List.mem_cons_of_mem _ (List.mem_append_left _ (List.mem_append_right _ h))) (by decide +kernel))) (goodIn_sub (fun _ h => List.mem_cons_of_mem _ (List.mem_append_left _ (List.mem_append_left _ (List.mem_append_right _ h)))) (by decide +kernel))) (goodIn_sub (fun _ h => List.mem_cons_of_mem _ (List.mem_append_right _ h)) (by decide +kernel))
set_option maxRecDepth 20000 in
theorem gX2_growNode_X1_setCut : GoodIn wsX2_growNode (wsV RX2 61 RX1 yX1_setCut wsX1_setCut) := goodIn_app (goodIn_of _ (by decide +kernel)) ggX2_growNode_X1_setCut
set_option maxRecDepth 20000 in
theorem ggX2_growNode_X2_part : GoodIn wsX2_growNode wsX2_part := goodIn_ca (goodIn_ca (goodIn_r _ [71, 13, 14, 1, 72, 73, 74, 27, 28, 29, 19, 30, 31, 32, 17, 18, 20, 21, 95, 96, 97, 98, 99, 84, 85, 86, 87, 88, 89, 90, 91, 92, 93, 94] (by decide +kernel) (by decide +kernel)) (goodIn_sub (fun _ h => List.mem_cons_of_mem _ (List.mem_append_left _ (List.mem_append_left _ (List.mem_append_right _ h)))) (by decide +kernel))) (goodIn_sub (fun _ h => List.mem_cons_of_mem _ (List.mem_append_left _ (List.mem_append_right _ h))) (by decide +kernel))
set_option maxRecDepth 20000 in
theorem gX2_growNode_X2_part : GoodIn wsX2_growNode (wsV RX2 67 RX2 yX2_part wsX2_part) := goodIn_app (goodIn_of _ (by decide +kernel)) ggX2_growNode_X2_part
set_option maxRecDepth 20000 in
theorem ggX2_growNode_J9_floorDiv_7cf53 : GoodIn wsX2_growNode wsJ9_floorDiv_7cf53 := goodIn_r _ [78] (by decide +kernel) (by decide +kernel)
set_option maxRecDepth 20000 in
theorem gX2_growNode_J9_floorDiv_7cf53 : GoodIn wsX2_growNode (va_wsS RX2 70 yJ9_floorDiv_7cf53 wsJ9_floorDiv_7cf53) := goodIn_app (goodIn_of _ (by decide +kernel)) ggX2_growNode_J9_floorDiv_7cf53
set_option maxRecDepth 20000 in
theorem ggX2_growNode_X1_setLeaf : GoodIn wsX2_growNode wsX1_setLeaf := goodIn_ca (goodIn_ca (goodIn_r _ [82, 53, 54, 83, 100, 101, 102, 103, 104, 105, 106, 107, 108] (by decide +kernel) (by decide +kernel)) (goodIn_sub (fun _ h => List.mem_cons_of_mem _ (List.mem_append_left _ (List.mem_append_right _ h))) (by decide +kernel))) (goodIn_sub (fun _ h => List.mem_cons_of_mem _ (List.mem_append_left _ (List.mem_append_left _ (List.mem_append_right _ h)))) (by decide +kernel))
set_option maxRecDepth 20000 in
theorem gX2_growNode_X1_setLeaf : GoodIn wsX2_growNode (wsV RX2 75 RX1 yX1_setLeaf wsX1_setLeaf) := goodIn_app (goodIn_of _ (by decide +kernel)) ggX2_growNode_X1_setLeaf
theorem dX2_growNode_0 : decode cX2_growNode 0 = .ok (.iload_n 3, 1) := by decide +kernel
theorem dX2_growNode_1 : decode cX2_growNode 1 = .ok (.bipush 15, 2) := by decide +kernel
theorem dX2_growNode_3 : decode cX2_growNode 3 = .ok (.imul, 1) := by decide +kernel
theorem dX2_growNode_4 : decode cX2_growNode 4 = .ok (.iload 4, 2) := by decide +kernel
theorem dX2_growNode_6 : decode cX2_growNode 6 = .ok (.iadd, 1) := by decide +kernel
theorem dX2_growNode_7 : decode cX2_growNode 7 = .ok (.istore 6, 2) := by decide +kernel
theorem dX2_growNode_9 : decode cX2_growNode 9 = .ok (.aload_n 0, 1) := by decide +kernel
theorem dX2_growNode_10 : decode cX2_growNode 10 = .ok (.getfield 21, 3) := by decide +kernel
theorem dX2_growNode_13 : decode cX2_growNode 13 = .ok (.iconst 0, 1) := by decide +kernel
theorem dX2_growNode_14 : decode cX2_growNode 14 = .ok (.putfield 49, 3) := by decide +kernel
theorem dX2_growNode_17 : decode cX2_growNode 17 = .ok (.iload 4, 2) := by decide +kernel
theorem dX2_growNode_19 : decode cX2_growNode 19 = .ok (.invokestatic 53, 3) := by decide +kernel
theorem dX2_growNode_22 : decode cX2_growNode 22 = .ok (.aload 5, 2) := by decide +kernel
theorem dX2_growNode_24 : decode cX2_growNode 24 = .ok (.iconst 2, 1) := by decide +kernel
theorem dX2_growNode_25 : decode cX2_growNode 25 = .ok (.iaload, 1) := by decide +kernel
theorem dX2_growNode_26 : decode cX2_growNode 26 = .ok (.if_icmp .ge 14, 3) := by decide +kernel
theorem dX2_growNode_29 : decode cX2_growNode 29 = .ok (.aload_n 0, 1) := by decide +kernel
theorem dX2_growNode_30 : decode cX2_growNode 30 = .ok (.aload_n 1, 1) := by decide +kernel
theorem dX2_growNode_31 : decode cX2_growNode 31 = .ok (.iload 4, 2) := by decide +kernel
theorem dX2_growNode_33 : decode cX2_growNode 33 = .ok (.aload 5, 2) := by decide +kernel
theorem dX2_growNode_35 : decode cX2_growNode 35 = .ok (.iconst 3, 1) := by decide +kernel
theorem dX2_growNode_36 : decode cX2_growNode 36 = .ok (.iaload, 1) := by decide +kernel
theorem dX2_growNode_37 : decode cX2_growNode 37 = .ok (.invokevirtual 57, 3) := by decide +kernel
theorem dX2_growNode_40 : decode cX2_growNode 40 = .ok (.aload_n 0, 1) := by decide +kernel
theorem dX2_growNode_41 : decode cX2_growNode 41 = .ok (.getfield 21, 3) := by decide +kernel
theorem dX2_growNode_44 : decode cX2_growNode 44 = .ok (.getfield 49, 3) := by decide +kernel
theorem dX2_growNode_47 : decode cX2_growNode 47 = .ok (.ifCond .eq 27, 3) := by decide +kernel
theorem dX2_growNode_50 : decode cX2_growNode 50 = .ok (.aload_n 2, 1) := by decide +kernel
theorem dX2_growNode_51 : decode cX2_growNode 51 = .ok (.iload 6, 2) := by decide +kernel
theorem dX2_growNode_53 : decode cX2_growNode 53 = .ok (.aload_n 0, 1) := by decide +kernel
theorem dX2_growNode_54 : decode cX2_growNode 54 = .ok (.getfield 39, 3) := by decide +kernel
theorem dX2_growNode_57 : decode cX2_growNode 57 = .ok (.aload_n 0, 1) := by decide +kernel
theorem dX2_growNode_58 : decode cX2_growNode 58 = .ok (.getfield 21, 3) := by decide +kernel
theorem dX2_growNode_61 : decode cX2_growNode 61 = .ok (.invokevirtual 61, 3) := by decide +kernel
theorem dX2_growNode_64 : decode cX2_growNode 64 = .ok (.aload_n 0, 1) := by decide +kernel
theorem dX2_growNode_65 : decode cX2_growNode 65 = .ok (.aload_n 1, 1) := by decide +kernel
theorem dX2_growNode_66 : decode cX2_growNode 66 = .ok (.iload 4, 2) := by decide +kernel
theorem dX2_growNode_68 : decode cX2_growNode 68 = .ok (.invokevirtual 67, 3) := by decide +kernel
theorem dX2_growNode_71 : decode cX2_growNode 71 = .ok (.goto 40, 3) := by decide +kernel
theorem dX2_growNode_74 : decode cX2_growNode 74 = .ok (.aload_n 2, 1) := by decide +kernel
theorem dX2_growNode_75 : decode cX2_growNode 75 = .ok (.iload 6, 2) := by decide +kernel
theorem dX2_growNode_77 : decode cX2_growNode 77 = .ok (.aload_n 0, 1) := by decide +kernel
theorem dX2_growNode_78 : decode cX2_growNode 78 = .ok (.getfield 39, 3) := by decide +kernel
theorem dX2_growNode_81 : decode cX2_growNode 81 = .ok (.aload_n 0, 1) := by decide +kernel
theorem dX2_growNode_82 : decode cX2_growNode 82 = .ok (.getfield 39, 3) := by decide +kernel
theorem dX2_growNode_85 : decode cX2_growNode 85 = .ok (.ifCond .le 22, 3) := by decide +kernel
theorem dX2_growNode_88 : decode cX2_growNode 88 = .ok (.aload 5, 2) := by decide +kernel
theorem dX2_growNode_90 : decode cX2_growNode 90 = .ok (.iconst 1, 1) := by decide +kernel
theorem dX2_growNode_91 : decode cX2_growNode 91 = .ok (.iaload, 1) := by decide +kernel
theorem dX2_growNode_92 : decode cX2_growNode 92 = .ok (.aload_n 0, 1) := by decide +kernel
theorem dX2_growNode_93 : decode cX2_growNode 93 = .ok (.getfield 46, 3) := by decide +kernel
theorem dX2_growNode_96 : decode cX2_growNode 96 = .ok (.imul, 1) := by decide +kernel
theorem dX2_growNode_97 : decode cX2_growNode 97 = .ok (.aload_n 0, 1) := by decide +kernel
theorem dX2_growNode_98 : decode cX2_growNode 98 = .ok (.getfield 39, 3) := by decide +kernel
theorem dX2_growNode_101 : decode cX2_growNode 101 = .ok (.invokestatic 70, 3) := by decide +kernel
theorem dX2_growNode_104 : decode cX2_growNode 104 = .ok (.goto 4, 3) := by decide +kernel
theorem dX2_growNode_107 : decode cX2_growNode 107 = .ok (.iconst 0, 1) := by decide +kernel
theorem dX2_growNode_108 : decode cX2_growNode 108 = .ok (.invokevirtual 75, 3) := by decide +kernel
theorem dX2_growNode_111 : decode cX2_growNode 111 = .ok (.return_, 1) := by decide +kernel
theorem dX2_depthOf_0 : decode cX2_depthOf 0 = .ok (.iload_n 0, 1) := by decide +kernel
theorem dX2_depthOf_1 : decode cX2_depthOf 1 = .ok (.ifCond .ne 5, 3) := by decide +kernel
theorem dX2_depthOf_4 : decode cX2_depthOf 4 = .ok (.iconst 0, 1) := by decide +kernel
theorem dX2_depthOf_5 : decode cX2_depthOf 5 = .ok (.ireturn, 1) := by decide +kernel
theorem dX2_depthOf_6 : decode cX2_depthOf 6 = .ok (.iload_n 0, 1) := by decide +kernel
theorem dX2_depthOf_7 : decode cX2_depthOf 7 = .ok (.iconst 2, 1) := by decide +kernel
theorem dX2_depthOf_8 : decode cX2_depthOf 8 = .ok (.if_icmp .gt 5, 3) := by decide +kernel
theorem dX2_depthOf_11 : decode cX2_depthOf 11 = .ok (.iconst 1, 1) := by decide +kernel
theorem dX2_depthOf_12 : decode cX2_depthOf 12 = .ok (.ireturn, 1) := by decide +kernel
theorem dX2_depthOf_13 : decode cX2_depthOf 13 = .ok (.iload_n 0, 1) := by decide +kernel
theorem dX2_depthOf_14 : decode cX2_depthOf 14 = .ok (.bipush 6, 2) := by decide +kernel
theorem dX2_depthOf_16 : decode cX2_depthOf 16 = .ok (.if_icmp .gt 7, 3) := by decide +kernel
theorem dX2_depthOf_19 : decode cX2_depthOf 19 = .ok (.iconst 2, 1) := by decide +kernel
theorem dX2_depthOf_20 : decode cX2_depthOf 20 = .ok (.goto 4, 3) := by decide +kernel
theorem dX2_depthOf_23 : decode cX2_depthOf 23 = .ok (.iconst 3, 1) := by decide +kernel
theorem dX2_depthOf_24 : decode cX2_depthOf 24 = .ok (.ireturn, 1) := by decide +kernel
set_option maxRecDepth 20000 in
theorem ggX2_seekCut_X3_numberAt : GoodIn wsX2_seekCut wsX3_numberAt := goodIn_ca (goodIn_ca (goodIn_r _ [8, 9, 40, 41, 42, 43, 44] (by decide +kernel) (by decide +kernel)) (goodIn_sub (fun _ h => List.mem_cons_of_mem _ (List.mem_append_right _ h)) (by decide +kernel))) (goodIn_sub (fun _ h => List.mem_cons_of_mem _ (List.mem_append_left _ (List.mem_append_right _ h))) (by decide +kernel))
set_option maxRecDepth 20000 in
theorem gX2_seekCut_X3_numberAt : GoodIn wsX2_seekCut (wsV RX2 79 RX3 yX3_numberAt wsX3_numberAt) := goodIn_app (goodIn_of _ (by decide +kernel)) ggX2_seekCut_X3_numberAt
set_option maxRecDepth 20000 in
theorem ggX2_seekCut_X2_tryCut : GoodIn wsX2_seekCut wsX2_tryCut := goodIn_ca (goodIn_ca (goodIn_r _ [14, 1, 2, 15, 16, 17, 18, 19, 20, 21, 7, 22, 23, 24, 5, 6, 8, 9, 25, 26, 27, 28, 29, 30, 31, 32, 33, 34, 35, 36, 37, 38, 39, 40, 41, 42, 43, 44, 45, 46, 47, 48, 49, 50, 51, 52, 53, 54, 55] (by decide +kernel) (by decide +kernel)) (goodIn_sub (fun _ h => List.mem_cons_of_mem _ (List.mem_append_left _ (List.mem_append_right _ h))) (by decide +kernel))) (goodIn_sub (fun _ h => List.mem_cons_of_mem _ (List.mem_append_right _ h)) (by decide +kernel))
set_option maxRecDepth 20000 in
theorem gX2_seekCut_X2_tryCut : GoodIn wsX2_seekCut (wsV RX2 83 RX2 yX2_tryCut wsX2_tryCut) := goodIn_app (goodIn_of _ (by decide +kernel)) ggX2_seekCut_X2_tryCut
theorem dX2_seekCut_0 : decode cX2_seekCut 0 = .ok (.iconst 0, 1) := by decide +kernel
theorem dX2_seekCut_1 : decode cX2_seekCut 1 = .ok (.istore 4, 2) := by decide +kernel
theorem dX2_seekCut_3 : decode cX2_seekCut 3 = .ok (.iload 4, 2) := by decide +kernel
theorem dX2_seekCut_5 : decode cX2_seekCut 5 = .ok (.iconst 4, 1) := by decide +kernel
theorem dX2_seekCut_6 : decode cX2_seekCut 6 = .ok (.if_icmp .ge 83, 3) := by decide +kernel
theorem dX2_seekCut_9 : decode cX2_seekCut 9 = .ok (.iconst 0, 1) := by decide +kernel
theorem dX2_seekCut_10 : decode cX2_seekCut 10 = .ok (.istore 5, 2) := by decide +kernel
theorem dX2_seekCut_12 : decode cX2_seekCut 12 = .ok (.iload 5, 2) := by decide +kernel
theorem dX2_seekCut_14 : decode cX2_seekCut 14 = .ok (.aload_n 1, 1) := by decide +kernel
theorem dX2_seekCut_15 : decode cX2_seekCut 15 = .ok (.getfield 25, 3) := by decide +kernel
theorem dX2_seekCut_18 : decode cX2_seekCut 18 = .ok (.if_icmp .ge 65, 3) := by decide +kernel
theorem dX2_seekCut_21 : decode cX2_seekCut 21 = .ok (.aload_n 1, 1) := by decide +kernel
theorem dX2_seekCut_22 : decode cX2_seekCut 22 = .ok (.iload 5, 2) := by decide +kernel
theorem dX2_seekCut_24 : decode cX2_seekCut 24 = .ok (.iload 4, 2) := by decide +kernel
theorem dX2_seekCut_26 : decode cX2_seekCut 26 = .ok (.invokevirtual 79, 3) := by decide +kernel
theorem dX2_seekCut_29 : decode cX2_seekCut 29 = .ok (.istore 6, 2) := by decide +kernel
theorem dX2_seekCut_31 : decode cX2_seekCut 31 = .ok (.aload_n 0, 1) := by decide +kernel
theorem dX2_seekCut_32 : decode cX2_seekCut 32 = .ok (.getfield 15, 3) := by decide +kernel
theorem dX2_seekCut_35 : decode cX2_seekCut 35 = .ok (.iload 5, 2) := by decide +kernel
theorem dX2_seekCut_37 : decode cX2_seekCut 37 = .ok (.iaload, 1) := by decide +kernel
theorem dX2_seekCut_38 : decode cX2_seekCut 38 = .ok (.iload_n 2, 1) := by decide +kernel
theorem dX2_seekCut_39 : decode cX2_seekCut 39 = .ok (.if_icmp .ne 38, 3) := by decide +kernel
theorem dX2_seekCut_42 : decode cX2_seekCut 42 = .ok (.iload 6, 2) := by decide +kernel
theorem dX2_seekCut_44 : decode cX2_seekCut 44 = .ok (.ldc 82, 2) := by decide +kernel
theorem dX2_seekCut_46 : decode cX2_seekCut 46 = .ok (.if_icmp .eq 31, 3) := by decide +kernel
theorem dX2_seekCut_49 : decode cX2_seekCut 49 = .ok (.iconst 0, 1) := by decide +kernel
theorem dX2_seekCut_50 : decode cX2_seekCut 50 = .ok (.istore 7, 2) := by decide +kernel
theorem dX2_seekCut_52 : decode cX2_seekCut 52 = .ok (.iload 7, 2) := by decide +kernel
theorem dX2_seekCut_54 : decode cX2_seekCut 54 = .ok (.iconst 2, 1) := by decide +kernel
theorem dX2_seekCut_55 : decode cX2_seekCut 55 = .ok (.if_icmp .ge 22, 3) := by decide +kernel
theorem dX2_seekCut_58 : decode cX2_seekCut 58 = .ok (.aload_n 0, 1) := by decide +kernel
theorem dX2_seekCut_59 : decode cX2_seekCut 59 = .ok (.aload_n 1, 1) := by decide +kernel
theorem dX2_seekCut_60 : decode cX2_seekCut 60 = .ok (.iload_n 2, 1) := by decide +kernel
theorem dX2_seekCut_61 : decode cX2_seekCut 61 = .ok (.iload 4, 2) := by decide +kernel
theorem dX2_seekCut_63 : decode cX2_seekCut 63 = .ok (.iload 6, 2) := by decide +kernel
theorem dX2_seekCut_65 : decode cX2_seekCut 65 = .ok (.iload 7, 2) := by decide +kernel
theorem dX2_seekCut_67 : decode cX2_seekCut 67 = .ok (.iload_n 3, 1) := by decide +kernel
theorem dX2_seekCut_68 : decode cX2_seekCut 68 = .ok (.invokevirtual 83, 3) := by decide +kernel
theorem dX2_seekCut_71 : decode cX2_seekCut 71 = .ok (.iinc 7 1, 3) := by decide +kernel
theorem dX2_seekCut_74 : decode cX2_seekCut 74 = .ok (.goto (-22), 3) := by decide +kernel
theorem dX2_seekCut_77 : decode cX2_seekCut 77 = .ok (.iinc 5 1, 3) := by decide +kernel
theorem dX2_seekCut_80 : decode cX2_seekCut 80 = .ok (.goto (-68), 3) := by decide +kernel
theorem dX2_seekCut_83 : decode cX2_seekCut 83 = .ok (.iinc 4 1, 3) := by decide +kernel
theorem dX2_seekCut_86 : decode cX2_seekCut 86 = .ok (.goto (-83), 3) := by decide +kernel
theorem dX2_seekCut_89 : decode cX2_seekCut 89 = .ok (.return_, 1) := by decide +kernel
set_option maxRecDepth 20000 in
theorem ggX2_tryCut_X3_goesLeft : GoodIn wsX2_tryCut wsX3_goesLeft := goodIn_ca (goodIn_ca (goodIn_r _ [11, 12, 13, 14, 15, 10, 16, 17, 33, 34, 35, 36, 37] (by decide +kernel) (by decide +kernel)) (goodIn_sub (fun _ h => List.mem_cons_of_mem _ (List.mem_append_left _ (List.mem_append_right _ h))) (by decide +kernel))) (goodIn_sub (fun _ h => List.mem_cons_of_mem _ (List.mem_append_right _ h)) (by decide +kernel))
set_option maxRecDepth 20000 in
theorem gX2_tryCut_X3_goesLeft : GoodIn wsX2_tryCut (wsV RX2 87 RX3 yX3_goesLeft wsX3_goesLeft) := goodIn_app (goodIn_of _ (by decide +kernel)) ggX2_tryCut_X3_goesLeft
set_option maxRecDepth 20000 in
theorem ggX2_tryCut_X0_offer : GoodIn wsX2_tryCut wsX0_offer := goodIn_ca (goodIn_r _ [22, 23, 24, 25, 26, 27, 28, 29, 30, 31, 21, 32, 43, 44, 45, 46, 47, 48] (by decide +kernel) (by decide +kernel)) (goodIn_sub (fun _ h => List.mem_cons_of_mem _ (List.mem_append_left _ (List.mem_append_right _ h))) (by decide +kernel))
set_option maxRecDepth 20000 in
theorem gX2_tryCut_X0_offer : GoodIn wsX2_tryCut (wsV RX2 91 RX0 yX0_offer wsX0_offer) := goodIn_app (goodIn_of _ (by decide +kernel)) ggX2_tryCut_X0_offer
theorem dX2_tryCut_0 : decode cX2_tryCut 0 = .ok (.lconst 0, 1) := by decide +kernel
theorem dX2_tryCut_1 : decode cX2_tryCut 1 = .ok (.lstore 7, 2) := by decide +kernel
theorem dX2_tryCut_3 : decode cX2_tryCut 3 = .ok (.lconst 0, 1) := by decide +kernel
theorem dX2_tryCut_4 : decode cX2_tryCut 4 = .ok (.lstore 9, 2) := by decide +kernel
theorem dX2_tryCut_6 : decode cX2_tryCut 6 = .ok (.iconst 0, 1) := by decide +kernel
theorem dX2_tryCut_7 : decode cX2_tryCut 7 = .ok (.istore 11, 2) := by decide +kernel
theorem dX2_tryCut_9 : decode cX2_tryCut 9 = .ok (.iload 11, 2) := by decide +kernel
theorem dX2_tryCut_11 : decode cX2_tryCut 11 = .ok (.aload_n 1, 1) := by decide +kernel
theorem dX2_tryCut_12 : decode cX2_tryCut 12 = .ok (.getfield 25, 3) := by decide +kernel
theorem dX2_tryCut_15 : decode cX2_tryCut 15 = .ok (.if_icmp .ge 53, 3) := by decide +kernel
theorem dX2_tryCut_18 : decode cX2_tryCut 18 = .ok (.aload_n 0, 1) := by decide +kernel
theorem dX2_tryCut_19 : decode cX2_tryCut 19 = .ok (.getfield 15, 3) := by decide +kernel
theorem dX2_tryCut_22 : decode cX2_tryCut 22 = .ok (.iload 11, 2) := by decide +kernel
theorem dX2_tryCut_24 : decode cX2_tryCut 24 = .ok (.iaload, 1) := by decide +kernel
theorem dX2_tryCut_25 : decode cX2_tryCut 25 = .ok (.iload_n 2, 1) := by decide +kernel
theorem dX2_tryCut_26 : decode cX2_tryCut 26 = .ok (.if_icmp .ne 36, 3) := by decide +kernel
theorem dX2_tryCut_29 : decode cX2_tryCut 29 = .ok (.aload_n 1, 1) := by decide +kernel
theorem dX2_tryCut_30 : decode cX2_tryCut 30 = .ok (.iload 11, 2) := by decide +kernel
theorem dX2_tryCut_32 : decode cX2_tryCut 32 = .ok (.iload_n 3, 1) := by decide +kernel
theorem dX2_tryCut_33 : decode cX2_tryCut 33 = .ok (.iload 4, 2) := by decide +kernel
theorem dX2_tryCut_35 : decode cX2_tryCut 35 = .ok (.iload 5, 2) := by decide +kernel
theorem dX2_tryCut_37 : decode cX2_tryCut 37 = .ok (.invokevirtual 87, 3) := by decide +kernel
theorem dX2_tryCut_40 : decode cX2_tryCut 40 = .ok (.ifCond .eq 22, 3) := by decide +kernel
theorem dX2_tryCut_43 : decode cX2_tryCut 43 = .ok (.lload 7, 2) := by decide +kernel
theorem dX2_tryCut_45 : decode cX2_tryCut 45 = .ok (.lconst 1, 1) := by decide +kernel
theorem dX2_tryCut_46 : decode cX2_tryCut 46 = .ok (.ladd, 1) := by decide +kernel
theorem dX2_tryCut_47 : decode cX2_tryCut 47 = .ok (.lstore 7, 2) := by decide +kernel
theorem dX2_tryCut_49 : decode cX2_tryCut 49 = .ok (.lload 9, 2) := by decide +kernel
theorem dX2_tryCut_51 : decode cX2_tryCut 51 = .ok (.aload_n 0, 1) := by decide +kernel
theorem dX2_tryCut_52 : decode cX2_tryCut 52 = .ok (.getfield 9, 3) := by decide +kernel
theorem dX2_tryCut_55 : decode cX2_tryCut 55 = .ok (.iload 11, 2) := by decide +kernel
theorem dX2_tryCut_57 : decode cX2_tryCut 57 = .ok (.iaload, 1) := by decide +kernel
theorem dX2_tryCut_58 : decode cX2_tryCut 58 = .ok (.i2l, 1) := by decide +kernel
theorem dX2_tryCut_59 : decode cX2_tryCut 59 = .ok (.ladd, 1) := by decide +kernel
theorem dX2_tryCut_60 : decode cX2_tryCut 60 = .ok (.lstore 9, 2) := by decide +kernel
theorem dX2_tryCut_62 : decode cX2_tryCut 62 = .ok (.iinc 11 1, 3) := by decide +kernel
theorem dX2_tryCut_65 : decode cX2_tryCut 65 = .ok (.goto (-56), 3) := by decide +kernel
theorem dX2_tryCut_68 : decode cX2_tryCut 68 = .ok (.aload_n 0, 1) := by decide +kernel
theorem dX2_tryCut_69 : decode cX2_tryCut 69 = .ok (.getfield 39, 3) := by decide +kernel
theorem dX2_tryCut_72 : decode cX2_tryCut 72 = .ok (.i2l, 1) := by decide +kernel
theorem dX2_tryCut_73 : decode cX2_tryCut 73 = .ok (.lload 7, 2) := by decide +kernel
theorem dX2_tryCut_75 : decode cX2_tryCut 75 = .ok (.lsub, 1) := by decide +kernel
theorem dX2_tryCut_76 : decode cX2_tryCut 76 = .ok (.lstore 11, 2) := by decide +kernel
theorem dX2_tryCut_78 : decode cX2_tryCut 78 = .ok (.aload_n 0, 1) := by decide +kernel
theorem dX2_tryCut_79 : decode cX2_tryCut 79 = .ok (.getfield 46, 3) := by decide +kernel
theorem dX2_tryCut_82 : decode cX2_tryCut 82 = .ok (.i2l, 1) := by decide +kernel
theorem dX2_tryCut_83 : decode cX2_tryCut 83 = .ok (.lload 9, 2) := by decide +kernel
theorem dX2_tryCut_85 : decode cX2_tryCut 85 = .ok (.lsub, 1) := by decide +kernel
theorem dX2_tryCut_86 : decode cX2_tryCut 86 = .ok (.lstore 13, 2) := by decide +kernel
theorem dX2_tryCut_88 : decode cX2_tryCut 88 = .ok (.lload 9, 2) := by decide +kernel
theorem dX2_tryCut_90 : decode cX2_tryCut 90 = .ok (.lload 11, 2) := by decide +kernel
theorem dX2_tryCut_92 : decode cX2_tryCut 92 = .ok (.lmul, 1) := by decide +kernel
theorem dX2_tryCut_93 : decode cX2_tryCut 93 = .ok (.lload 13, 2) := by decide +kernel
theorem dX2_tryCut_95 : decode cX2_tryCut 95 = .ok (.lload 7, 2) := by decide +kernel
theorem dX2_tryCut_97 : decode cX2_tryCut 97 = .ok (.lmul, 1) := by decide +kernel
theorem dX2_tryCut_98 : decode cX2_tryCut 98 = .ok (.lsub, 1) := by decide +kernel
theorem dX2_tryCut_99 : decode cX2_tryCut 99 = .ok (.lstore 15, 2) := by decide +kernel
theorem dX2_tryCut_101 : decode cX2_tryCut 101 = .ok (.lload 7, 2) := by decide +kernel
theorem dX2_tryCut_103 : decode cX2_tryCut 103 = .ok (.iload 6, 2) := by decide +kernel
theorem dX2_tryCut_105 : decode cX2_tryCut 105 = .ok (.i2l, 1) := by decide +kernel
theorem dX2_tryCut_106 : decode cX2_tryCut 106 = .ok (.lcmp, 1) := by decide +kernel
theorem dX2_tryCut_107 : decode cX2_tryCut 107 = .ok (.ifCond .lt 47, 3) := by decide +kernel
theorem dX2_tryCut_110 : decode cX2_tryCut 110 = .ok (.lload 11, 2) := by decide +kernel
theorem dX2_tryCut_112 : decode cX2_tryCut 112 = .ok (.iload 6, 2) := by decide +kernel
theorem dX2_tryCut_114 : decode cX2_tryCut 114 = .ok (.i2l, 1) := by decide +kernel
theorem dX2_tryCut_115 : decode cX2_tryCut 115 = .ok (.lcmp, 1) := by decide +kernel
theorem dX2_tryCut_116 : decode cX2_tryCut 116 = .ok (.ifCond .lt 38, 3) := by decide +kernel
theorem dX2_tryCut_119 : decode cX2_tryCut 119 = .ok (.lload 15, 2) := by decide +kernel
theorem dX2_tryCut_121 : decode cX2_tryCut 121 = .ok (.lconst 0, 1) := by decide +kernel
theorem dX2_tryCut_122 : decode cX2_tryCut 122 = .ok (.lcmp, 1) := by decide +kernel
theorem dX2_tryCut_123 : decode cX2_tryCut 123 = .ok (.ifCond .eq 31, 3) := by decide +kernel
theorem dX2_tryCut_126 : decode cX2_tryCut 126 = .ok (.aload_n 0, 1) := by decide +kernel
theorem dX2_tryCut_127 : decode cX2_tryCut 127 = .ok (.getfield 21, 3) := by decide +kernel
theorem dX2_tryCut_130 : decode cX2_tryCut 130 = .ok (.iload_n 3, 1) := by decide +kernel
theorem dX2_tryCut_131 : decode cX2_tryCut 131 = .ok (.iload 4, 2) := by decide +kernel
theorem dX2_tryCut_133 : decode cX2_tryCut 133 = .ok (.iload 5, 2) := by decide +kernel
theorem dX2_tryCut_135 : decode cX2_tryCut 135 = .ok (.lload 15, 2) := by decide +kernel
theorem dX2_tryCut_137 : decode cX2_tryCut 137 = .ok (.lload 15, 2) := by decide +kernel
theorem dX2_tryCut_139 : decode cX2_tryCut 139 = .ok (.lmul, 1) := by decide +kernel
theorem dX2_tryCut_140 : decode cX2_tryCut 140 = .ok (.lload 7, 2) := by decide +kernel
theorem dX2_tryCut_142 : decode cX2_tryCut 142 = .ok (.lload 11, 2) := by decide +kernel
theorem dX2_tryCut_144 : decode cX2_tryCut 144 = .ok (.lmul, 1) := by decide +kernel
theorem dX2_tryCut_145 : decode cX2_tryCut 145 = .ok (.aload_n 0, 1) := by decide +kernel
theorem dX2_tryCut_146 : decode cX2_tryCut 146 = .ok (.getfield 39, 3) := by decide +kernel
theorem dX2_tryCut_149 : decode cX2_tryCut 149 = .ok (.i2l, 1) := by decide +kernel
theorem dX2_tryCut_150 : decode cX2_tryCut 150 = .ok (.lmul, 1) := by decide +kernel
theorem dX2_tryCut_151 : decode cX2_tryCut 151 = .ok (.invokevirtual 91, 3) := by decide +kernel
theorem dX2_tryCut_154 : decode cX2_tryCut 154 = .ok (.return_, 1) := by decide +kernel
set_option maxRecDepth 20000 in
theorem ggX2_part_X3_goesLeft : GoodIn wsX2_part wsX3_goesLeft := goodIn_ca (goodIn_ca (goodIn_r _ [11, 12, 13, 14, 15, 10, 16, 17, 18, 19, 20, 21, 22] (by decide +kernel) (by decide +kernel)) (goodIn_sub (fun _ h => List.mem_cons_of_mem _ (List.mem_append_left _ (List.mem_append_right _ h))) (by decide +kernel))) (goodIn_sub (fun _ h => List.mem_cons_of_mem _ (List.mem_append_right _ h)) (by decide +kernel))
set_option maxRecDepth 20000 in
theorem gX2_part_X3_goesLeft : GoodIn wsX2_part (wsV RX2 87 RX3 yX3_goesLeft wsX3_goesLeft) := goodIn_app (goodIn_of _ (by decide +kernel)) ggX2_part_X3_goesLeft
theorem dX2_part_0 : decode cX2_part 0 = .ok (.iconst 0, 1) := by decide +kernel
theorem dX2_part_1 : decode cX2_part 1 = .ok (.istore_n 3, 1) := by decide +kernel
theorem dX2_part_2 : decode cX2_part 2 = .ok (.iload_n 3, 1) := by decide +kernel
theorem dX2_part_3 : decode cX2_part 3 = .ok (.aload_n 1, 1) := by decide +kernel
theorem dX2_part_4 : decode cX2_part 4 = .ok (.getfield 25, 3) := by decide +kernel
theorem dX2_part_7 : decode cX2_part 7 = .ok (.if_icmp .ge 71, 3) := by decide +kernel
theorem dX2_part_10 : decode cX2_part 10 = .ok (.aload_n 0, 1) := by decide +kernel
theorem dX2_part_11 : decode cX2_part 11 = .ok (.getfield 15, 3) := by decide +kernel
theorem dX2_part_14 : decode cX2_part 14 = .ok (.iload_n 3, 1) := by decide +kernel
theorem dX2_part_15 : decode cX2_part 15 = .ok (.iaload, 1) := by decide +kernel
theorem dX2_part_16 : decode cX2_part 16 = .ok (.iload_n 2, 1) := by decide +kernel
theorem dX2_part_17 : decode cX2_part 17 = .ok (.if_icmp .ne 55, 3) := by decide +kernel
theorem dX2_part_20 : decode cX2_part 20 = .ok (.aload_n 1, 1) := by decide +kernel
theorem dX2_part_21 : decode cX2_part 21 = .ok (.iload_n 3, 1) := by decide +kernel
theorem dX2_part_22 : decode cX2_part 22 = .ok (.aload_n 0, 1) := by decide +kernel
theorem dX2_part_23 : decode cX2_part 23 = .ok (.getfield 21, 3) := by decide +kernel
theorem dX2_part_26 : decode cX2_part 26 = .ok (.getfield 95, 3) := by decide +kernel
theorem dX2_part_29 : decode cX2_part 29 = .ok (.aload_n 0, 1) := by decide +kernel
theorem dX2_part_30 : decode cX2_part 30 = .ok (.getfield 21, 3) := by decide +kernel
theorem dX2_part_33 : decode cX2_part 33 = .ok (.getfield 98, 3) := by decide +kernel
theorem dX2_part_36 : decode cX2_part 36 = .ok (.aload_n 0, 1) := by decide +kernel
theorem dX2_part_37 : decode cX2_part 37 = .ok (.getfield 21, 3) := by decide +kernel
theorem dX2_part_40 : decode cX2_part 40 = .ok (.getfield 101, 3) := by decide +kernel
theorem dX2_part_43 : decode cX2_part 43 = .ok (.invokevirtual 87, 3) := by decide +kernel
theorem dX2_part_46 : decode cX2_part 46 = .ok (.istore 4, 2) := by decide +kernel
theorem dX2_part_48 : decode cX2_part 48 = .ok (.aload_n 0, 1) := by decide +kernel
theorem dX2_part_49 : decode cX2_part 49 = .ok (.getfield 15, 3) := by decide +kernel
theorem dX2_part_52 : decode cX2_part 52 = .ok (.iload_n 3, 1) := by decide +kernel
theorem dX2_part_53 : decode cX2_part 53 = .ok (.iload 4, 2) := by decide +kernel
theorem dX2_part_55 : decode cX2_part 55 = .ok (.ifCond .eq 11, 3) := by decide +kernel
theorem dX2_part_58 : decode cX2_part 58 = .ok (.iconst 2, 1) := by decide +kernel
theorem dX2_part_59 : decode cX2_part 59 = .ok (.iload_n 2, 1) := by decide +kernel
theorem dX2_part_60 : decode cX2_part 60 = .ok (.imul, 1) := by decide +kernel
theorem dX2_part_61 : decode cX2_part 61 = .ok (.iconst 1, 1) := by decide +kernel
theorem dX2_part_62 : decode cX2_part 62 = .ok (.iadd, 1) := by decide +kernel
theorem dX2_part_63 : decode cX2_part 63 = .ok (.goto 8, 3) := by decide +kernel
theorem dX2_part_66 : decode cX2_part 66 = .ok (.iconst 2, 1) := by decide +kernel
theorem dX2_part_67 : decode cX2_part 67 = .ok (.iload_n 2, 1) := by decide +kernel
theorem dX2_part_68 : decode cX2_part 68 = .ok (.imul, 1) := by decide +kernel
theorem dX2_part_69 : decode cX2_part 69 = .ok (.iconst 2, 1) := by decide +kernel
theorem dX2_part_70 : decode cX2_part 70 = .ok (.iadd, 1) := by decide +kernel
theorem dX2_part_71 : decode cX2_part 71 = .ok (.iastore, 1) := by decide +kernel
theorem dX2_part_72 : decode cX2_part 72 = .ok (.iinc 3 1, 3) := by decide +kernel
theorem dX2_part_75 : decode cX2_part 75 = .ok (.goto (-73), 3) := by decide +kernel
theorem dX2_part_78 : decode cX2_part 78 = .ok (.return_, 1) := by decide +kernel
theorem dX3_init_0 : decode cX3_init 0 = .ok (.aload_n 0, 1) := by decide +kernel
theorem dX3_init_1 : decode cX3_init 1 = .ok (.invokespecial 3, 3) := by decide +kernel
theorem dX3_init_4 : decode cX3_init 4 = .ok (.aload_n 0, 1) := by decide +kernel
theorem dX3_init_5 : decode cX3_init 5 = .ok (.bipush 24, 2) := by decide +kernel
theorem dX3_init_7 : decode cX3_init 7 = .ok (.newarray .int, 2) := by decide +kernel
theorem dX3_init_9 : decode cX3_init 9 = .ok (.putfield 9, 3) := by decide +kernel
theorem dX3_init_12 : decode cX3_init 12 = .ok (.aload_n 0, 1) := by decide +kernel
theorem dX3_init_13 : decode cX3_init 13 = .ok (.bipush 24, 2) := by decide +kernel
theorem dX3_init_15 : decode cX3_init 15 = .ok (.newarray .int, 2) := by decide +kernel
theorem dX3_init_17 : decode cX3_init 17 = .ok (.putfield 15, 3) := by decide +kernel
theorem dX3_init_20 : decode cX3_init 20 = .ok (.aload_n 0, 1) := by decide +kernel
theorem dX3_init_21 : decode cX3_init 21 = .ok (.bipush 100, 2) := by decide +kernel
theorem dX3_init_23 : decode cX3_init 23 = .ok (.newarray .int, 2) := by decide +kernel
theorem dX3_init_25 : decode cX3_init 25 = .ok (.putfield 18, 3) := by decide +kernel
theorem dX3_init_28 : decode cX3_init 28 = .ok (.aload_n 0, 1) := by decide +kernel
theorem dX3_init_29 : decode cX3_init 29 = .ok (.bipush 24, 2) := by decide +kernel
theorem dX3_init_31 : decode cX3_init 31 = .ok (.newarray .long, 2) := by decide +kernel
theorem dX3_init_33 : decode cX3_init 33 = .ok (.putfield 21, 3) := by decide +kernel
theorem dX3_init_36 : decode cX3_init 36 = .ok (.return_, 1) := by decide +kernel
theorem dX3_has_0 : decode cX3_has 0 = .ok (.iload_n 1, 1) := by decide +kernel
theorem dX3_has_1 : decode cX3_has 1 = .ok (.ifCond .lt 15, 3) := by decide +kernel
theorem dX3_has_4 : decode cX3_has 4 = .ok (.iload_n 1, 1) := by decide +kernel
theorem dX3_has_5 : decode cX3_has 5 = .ok (.aload_n 0, 1) := by decide +kernel
theorem dX3_has_6 : decode cX3_has 6 = .ok (.getfield 25, 3) := by decide +kernel
theorem dX3_has_9 : decode cX3_has 9 = .ok (.if_icmp .ge 7, 3) := by decide +kernel
theorem dX3_has_12 : decode cX3_has 12 = .ok (.iconst 1, 1) := by decide +kernel
theorem dX3_has_13 : decode cX3_has 13 = .ok (.goto 4, 3) := by decide +kernel
theorem dX3_has_16 : decode cX3_has 16 = .ok (.iconst 0, 1) := by decide +kernel
theorem dX3_has_17 : decode cX3_has 17 = .ok (.ireturn, 1) := by decide +kernel
set_option maxRecDepth 20000 in
theorem ggX3_rowOf_X3_has : GoodIn wsX3_rowOf wsX3_has := goodIn_r _ [5, 6, 7, 8, 9, 10, 11] (by decide +kernel) (by decide +kernel)
set_option maxRecDepth 20000 in
theorem gX3_rowOf_X3_has : GoodIn wsX3_rowOf (wsV RX3 29 RX3 yX3_has wsX3_has) := goodIn_app (goodIn_of _ (by decide +kernel)) ggX3_rowOf_X3_has
theorem dX3_rowOf_0 : decode cX3_rowOf 0 = .ok (.iload_n 1, 1) := by decide +kernel
theorem dX3_rowOf_1 : decode cX3_rowOf 1 = .ok (.iconst (-1), 1) := by decide +kernel
theorem dX3_rowOf_2 : decode cX3_rowOf 2 = .ok (.if_icmp .ne 6, 3) := by decide +kernel
theorem dX3_rowOf_5 : decode cX3_rowOf 5 = .ok (.bipush 24, 2) := by decide +kernel
theorem dX3_rowOf_7 : decode cX3_rowOf 7 = .ok (.ireturn, 1) := by decide +kernel
theorem dX3_rowOf_8 : decode cX3_rowOf 8 = .ok (.aload_n 0, 1) := by decide +kernel
theorem dX3_rowOf_9 : decode cX3_rowOf 9 = .ok (.iload_n 1, 1) := by decide +kernel
theorem dX3_rowOf_10 : decode cX3_rowOf 10 = .ok (.invokevirtual 29, 3) := by decide +kernel
theorem dX3_rowOf_13 : decode cX3_rowOf 13 = .ok (.ifCond .eq 7, 3) := by decide +kernel
theorem dX3_rowOf_16 : decode cX3_rowOf 16 = .ok (.iload_n 1, 1) := by decide +kernel
theorem dX3_rowOf_17 : decode cX3_rowOf 17 = .ok (.goto 4, 3) := by decide +kernel
theorem dX3_rowOf_20 : decode cX3_rowOf 20 = .ok (.iconst (-1), 1) := by decide +kernel
theorem dX3_rowOf_21 : decode cX3_rowOf 21 = .ok (.ireturn, 1) := by decide +kernel
set_option maxRecDepth 20000 in
theorem ggX3_take_X3_forgetRow : GoodIn wsX3_take wsX3_forgetRow := goodIn_r _ [8, 9, 10, 11, 12, 13, 14, 15, 16, 17, 18, 19, 20, 21, 22, 23, 24, 25, 26, 27, 28, 29, 30, 31] (by decide +kernel) (by decide +kernel)
set_option maxRecDepth 20000 in
theorem gX3_take_X3_forgetRow : GoodIn wsX3_take (wsV RX3 33 RX3 yX3_forgetRow wsX3_forgetRow) := goodIn_app (goodIn_of _ (by decide +kernel)) ggX3_take_X3_forgetRow
theorem dX3_take_0 : decode cX3_take 0 = .ok (.aload_n 0, 1) := by decide +kernel
theorem dX3_take_1 : decode cX3_take 1 = .ok (.getfield 25, 3) := by decide +kernel
theorem dX3_take_4 : decode cX3_take 4 = .ok (.istore_n 3, 1) := by decide +kernel
theorem dX3_take_5 : decode cX3_take 5 = .ok (.aload_n 0, 1) := by decide +kernel
theorem dX3_take_6 : decode cX3_take 6 = .ok (.getfield 9, 3) := by decide +kernel
theorem dX3_take_9 : decode cX3_take 9 = .ok (.iload_n 3, 1) := by decide +kernel
theorem dX3_take_10 : decode cX3_take 10 = .ok (.iload_n 1, 1) := by decide +kernel
theorem dX3_take_11 : decode cX3_take 11 = .ok (.iastore, 1) := by decide +kernel
theorem dX3_take_12 : decode cX3_take 12 = .ok (.aload_n 0, 1) := by decide +kernel
theorem dX3_take_13 : decode cX3_take 13 = .ok (.getfield 15, 3) := by decide +kernel
theorem dX3_take_16 : decode cX3_take 16 = .ok (.iload_n 3, 1) := by decide +kernel
theorem dX3_take_17 : decode cX3_take 17 = .ok (.iload_n 2, 1) := by decide +kernel
theorem dX3_take_18 : decode cX3_take 18 = .ok (.iastore, 1) := by decide +kernel
theorem dX3_take_19 : decode cX3_take 19 = .ok (.aload_n 0, 1) := by decide +kernel
theorem dX3_take_20 : decode cX3_take 20 = .ok (.iload_n 3, 1) := by decide +kernel
theorem dX3_take_21 : decode cX3_take 21 = .ok (.invokevirtual 33, 3) := by decide +kernel
theorem dX3_take_24 : decode cX3_take 24 = .ok (.aload_n 0, 1) := by decide +kernel
theorem dX3_take_25 : decode cX3_take 25 = .ok (.dup, 1) := by decide +kernel
theorem dX3_take_26 : decode cX3_take 26 = .ok (.getfield 25, 3) := by decide +kernel
theorem dX3_take_29 : decode cX3_take 29 = .ok (.iconst 1, 1) := by decide +kernel
theorem dX3_take_30 : decode cX3_take 30 = .ok (.iadd, 1) := by decide +kernel
theorem dX3_take_31 : decode cX3_take 31 = .ok (.putfield 25, 3) := by decide +kernel
theorem dX3_take_34 : decode cX3_take 34 = .ok (.iload_n 3, 1) := by decide +kernel
theorem dX3_take_35 : decode cX3_take 35 = .ok (.ireturn, 1) := by decide +kernel
set_option maxRecDepth 20000 in
theorem ggX3_forgetRow_J7_fill_fda19 : GoodIn wsX3_forgetRow wsJ7_fill_fda19 := goodIn_r _ [6, 7, 8, 5, 9, 10, 11, 12, 18, 19, 20, 21, 22, 23] (by decide +kernel) (by decide +kernel)
set_option maxRecDepth 20000 in
theorem gX3_forgetRow_J7_fill_fda19 : GoodIn wsX3_forgetRow (va_wsS RX3 38 yJ7_fill_fda19 wsJ7_fill_fda19) := goodIn_app (goodIn_of _ (by decide +kernel)) ggX3_forgetRow_J7_fill_fda19
theorem dX3_forgetRow_0 : decode cX3_forgetRow 0 = .ok (.aload_n 0, 1) := by decide +kernel
theorem dX3_forgetRow_1 : decode cX3_forgetRow 1 = .ok (.getfield 18, 3) := by decide +kernel
theorem dX3_forgetRow_4 : decode cX3_forgetRow 4 = .ok (.iload_n 1, 1) := by decide +kernel
theorem dX3_forgetRow_5 : decode cX3_forgetRow 5 = .ok (.iconst 4, 1) := by decide +kernel
theorem dX3_forgetRow_6 : decode cX3_forgetRow 6 = .ok (.imul, 1) := by decide +kernel
theorem dX3_forgetRow_7 : decode cX3_forgetRow 7 = .ok (.iload_n 1, 1) := by decide +kernel
theorem dX3_forgetRow_8 : decode cX3_forgetRow 8 = .ok (.iconst 1, 1) := by decide +kernel
theorem dX3_forgetRow_9 : decode cX3_forgetRow 9 = .ok (.iadd, 1) := by decide +kernel
theorem dX3_forgetRow_10 : decode cX3_forgetRow 10 = .ok (.iconst 4, 1) := by decide +kernel
theorem dX3_forgetRow_11 : decode cX3_forgetRow 11 = .ok (.imul, 1) := by decide +kernel
theorem dX3_forgetRow_12 : decode cX3_forgetRow 12 = .ok (.ldc 37, 2) := by decide +kernel
theorem dX3_forgetRow_14 : decode cX3_forgetRow 14 = .ok (.invokestatic 38, 3) := by decide +kernel
theorem dX3_forgetRow_17 : decode cX3_forgetRow 17 = .ok (.return_, 1) := by decide +kernel
theorem dX3_numberAt_0 : decode cX3_numberAt 0 = .ok (.aload_n 0, 1) := by decide +kernel
theorem dX3_numberAt_1 : decode cX3_numberAt 1 = .ok (.getfield 18, 3) := by decide +kernel
theorem dX3_numberAt_4 : decode cX3_numberAt 4 = .ok (.iload_n 1, 1) := by decide +kernel
theorem dX3_numberAt_5 : decode cX3_numberAt 5 = .ok (.iconst 4, 1) := by decide +kernel
theorem dX3_numberAt_6 : decode cX3_numberAt 6 = .ok (.imul, 1) := by decide +kernel
theorem dX3_numberAt_7 : decode cX3_numberAt 7 = .ok (.iload_n 2, 1) := by decide +kernel
theorem dX3_numberAt_8 : decode cX3_numberAt 8 = .ok (.iadd, 1) := by decide +kernel
theorem dX3_numberAt_9 : decode cX3_numberAt 9 = .ok (.iaload, 1) := by decide +kernel
theorem dX3_numberAt_10 : decode cX3_numberAt 10 = .ok (.ireturn, 1) := by decide +kernel
theorem dX3_replace_0 : decode cX3_replace 0 = .ok (.aload_n 0, 1) := by decide +kernel
theorem dX3_replace_1 : decode cX3_replace 1 = .ok (.getfield 18, 3) := by decide +kernel
theorem dX3_replace_4 : decode cX3_replace 4 = .ok (.iload_n 1, 1) := by decide +kernel
theorem dX3_replace_5 : decode cX3_replace 5 = .ok (.iconst 4, 1) := by decide +kernel
theorem dX3_replace_6 : decode cX3_replace 6 = .ok (.imul, 1) := by decide +kernel
theorem dX3_replace_7 : decode cX3_replace 7 = .ok (.iload_n 2, 1) := by decide +kernel
theorem dX3_replace_8 : decode cX3_replace 8 = .ok (.iadd, 1) := by decide +kernel
theorem dX3_replace_9 : decode cX3_replace 9 = .ok (.iaload, 1) := by decide +kernel
theorem dX3_replace_10 : decode cX3_replace 10 = .ok (.istore 4, 2) := by decide +kernel
theorem dX3_replace_12 : decode cX3_replace 12 = .ok (.aload_n 0, 1) := by decide +kernel
theorem dX3_replace_13 : decode cX3_replace 13 = .ok (.getfield 18, 3) := by decide +kernel
theorem dX3_replace_16 : decode cX3_replace 16 = .ok (.iload_n 1, 1) := by decide +kernel
theorem dX3_replace_17 : decode cX3_replace 17 = .ok (.iconst 4, 1) := by decide +kernel
theorem dX3_replace_18 : decode cX3_replace 18 = .ok (.imul, 1) := by decide +kernel
theorem dX3_replace_19 : decode cX3_replace 19 = .ok (.iload_n 2, 1) := by decide +kernel
theorem dX3_replace_20 : decode cX3_replace 20 = .ok (.iadd, 1) := by decide +kernel
theorem dX3_replace_21 : decode cX3_replace 21 = .ok (.iload_n 3, 1) := by decide +kernel
theorem dX3_replace_22 : decode cX3_replace 22 = .ok (.iastore, 1) := by decide +kernel
theorem dX3_replace_23 : decode cX3_replace 23 = .ok (.iload 4, 2) := by decide +kernel
theorem dX3_replace_25 : decode cX3_replace 25 = .ok (.ireturn, 1) := by decide +kernel
set_option maxRecDepth 20000 in
theorem ggX3_goesLeft_X3_numberAt : GoodIn wsX3_goesLeft wsX3_numberAt := goodIn_ca (goodIn_ca (goodIn_r _ [6, 7, 8, 9, 10, 11, 12] (by decide +kernel) (by decide +kernel)) (goodIn_sub (fun _ h => List.mem_cons_of_mem _ (List.mem_append_right _ h)) (by decide +kernel))) (goodIn_sub (fun _ h => List.mem_cons_of_mem _ (List.mem_append_left _ (List.mem_append_right _ h))) (by decide +kernel))
set_option maxRecDepth 20000 in
theorem gX3_goesLeft_X3_numberAt : GoodIn wsX3_goesLeft (wsV RX3 44 RX3 yX3_numberAt wsX3_numberAt) := goodIn_app (goodIn_of _ (by decide +kernel)) ggX3_goesLeft_X3_numberAt
theorem dX3_goesLeft_0 : decode cX3_goesLeft 0 = .ok (.aload_n 0, 1) := by decide +kernel
theorem dX3_goesLeft_1 : decode cX3_goesLeft 1 = .ok (.iload_n 1, 1) := by decide +kernel
theorem dX3_goesLeft_2 : decode cX3_goesLeft 2 = .ok (.iload_n 2, 1) := by decide +kernel
theorem dX3_goesLeft_3 : decode cX3_goesLeft 3 = .ok (.invokevirtual 44, 3) := by decide +kernel
theorem dX3_goesLeft_6 : decode cX3_goesLeft 6 = .ok (.istore 5, 2) := by decide +kernel
theorem dX3_goesLeft_8 : decode cX3_goesLeft 8 = .ok (.iload 5, 2) := by decide +kernel
theorem dX3_goesLeft_10 : decode cX3_goesLeft 10 = .ok (.ldc 37, 2) := by decide +kernel
theorem dX3_goesLeft_12 : decode cX3_goesLeft 12 = .ok (.if_icmp .ne 16, 3) := by decide +kernel
theorem dX3_goesLeft_15 : decode cX3_goesLeft 15 = .ok (.iload 4, 2) := by decide +kernel
theorem dX3_goesLeft_17 : decode cX3_goesLeft 17 = .ok (.ifCond .ne 7, 3) := by decide +kernel
theorem dX3_goesLeft_20 : decode cX3_goesLeft 20 = .ok (.iconst 1, 1) := by decide +kernel
theorem dX3_goesLeft_21 : decode cX3_goesLeft 21 = .ok (.goto 18, 3) := by decide +kernel
theorem dX3_goesLeft_24 : decode cX3_goesLeft 24 = .ok (.iconst 0, 1) := by decide +kernel
theorem dX3_goesLeft_25 : decode cX3_goesLeft 25 = .ok (.goto 14, 3) := by decide +kernel
theorem dX3_goesLeft_28 : decode cX3_goesLeft 28 = .ok (.iload 5, 2) := by decide +kernel
theorem dX3_goesLeft_30 : decode cX3_goesLeft 30 = .ok (.iload_n 3, 1) := by decide +kernel
theorem dX3_goesLeft_31 : decode cX3_goesLeft 31 = .ok (.if_icmp .gt 7, 3) := by decide +kernel
theorem dX3_goesLeft_34 : decode cX3_goesLeft 34 = .ok (.iconst 1, 1) := by decide +kernel
theorem dX3_goesLeft_35 : decode cX3_goesLeft 35 = .ok (.goto 4, 3) := by decide +kernel
theorem dX3_goesLeft_38 : decode cX3_goesLeft 38 = .ok (.iconst 0, 1) := by decide +kernel
theorem dX3_goesLeft_39 : decode cX3_goesLeft 39 = .ok (.ireturn, 1) := by decide +kernel
set_option maxRecDepth 20000 in
theorem ggX3_takeScores_X1_sumFor : GoodIn wsX3_takeScores wsX1_sumFor := goodIn_ca (goodIn_ca (goodIn_r _ [7, 8, 9, 10, 11, 6, 12, 13, 14, 15, 16, 17, 18, 19, 20, 21, 22, 23, 24, 25, 26, 27, 28, 34, 35, 36, 37, 38, 39, 40, 41, 42, 29, 30, 31, 32, 33] (by decide +kernel) (by decide +kernel)) (goodIn_sub (fun _ h => List.mem_cons_of_mem _ (List.mem_append_left _ (List.mem_append_right _ h))) (by decide +kernel))) (goodIn_sub (fun _ h => List.mem_cons_of_mem _ (List.mem_append_right _ h)) (by decide +kernel))
set_option maxRecDepth 20000 in
theorem gX3_takeScores_X1_sumFor : GoodIn wsX3_takeScores (wsV RX3 48 RX1 yX1_sumFor wsX1_sumFor) := goodIn_app (goodIn_of _ (by decide +kernel)) ggX3_takeScores_X1_sumFor
theorem dX3_takeScores_0 : decode cX3_takeScores 0 = .ok (.iconst 0, 1) := by decide +kernel
theorem dX3_takeScores_1 : decode cX3_takeScores 1 = .ok (.istore_n 2, 1) := by decide +kernel
theorem dX3_takeScores_2 : decode cX3_takeScores 2 = .ok (.iload_n 2, 1) := by decide +kernel
theorem dX3_takeScores_3 : decode cX3_takeScores 3 = .ok (.aload_n 0, 1) := by decide +kernel
theorem dX3_takeScores_4 : decode cX3_takeScores 4 = .ok (.getfield 25, 3) := by decide +kernel
theorem dX3_takeScores_7 : decode cX3_takeScores 7 = .ok (.if_icmp .ge 21, 3) := by decide +kernel
theorem dX3_takeScores_10 : decode cX3_takeScores 10 = .ok (.aload_n 0, 1) := by decide +kernel
theorem dX3_takeScores_11 : decode cX3_takeScores 11 = .ok (.getfield 21, 3) := by decide +kernel
theorem dX3_takeScores_14 : decode cX3_takeScores 14 = .ok (.iload_n 2, 1) := by decide +kernel
theorem dX3_takeScores_15 : decode cX3_takeScores 15 = .ok (.aload_n 1, 1) := by decide +kernel
theorem dX3_takeScores_16 : decode cX3_takeScores 16 = .ok (.aload_n 0, 1) := by decide +kernel
theorem dX3_takeScores_17 : decode cX3_takeScores 17 = .ok (.iload_n 2, 1) := by decide +kernel
theorem dX3_takeScores_18 : decode cX3_takeScores 18 = .ok (.invokevirtual 48, 3) := by decide +kernel
theorem dX3_takeScores_21 : decode cX3_takeScores 21 = .ok (.lastore, 1) := by decide +kernel
theorem dX3_takeScores_22 : decode cX3_takeScores 22 = .ok (.iinc 2 1, 3) := by decide +kernel
theorem dX3_takeScores_25 : decode cX3_takeScores 25 = .ok (.goto (-23), 3) := by decide +kernel
theorem dX3_takeScores_28 : decode cX3_takeScores 28 = .ok (.return_, 1) := by decide +kernel
theorem dX3_arePair_0 : decode cX3_arePair 0 = .ok (.aload_n 0, 1) := by decide +kernel
theorem dX3_arePair_1 : decode cX3_arePair 1 = .ok (.getfield 9, 3) := by decide +kernel
theorem dX3_arePair_4 : decode cX3_arePair 4 = .ok (.iload_n 1, 1) := by decide +kernel
theorem dX3_arePair_5 : decode cX3_arePair 5 = .ok (.iaload, 1) := by decide +kernel
theorem dX3_arePair_6 : decode cX3_arePair 6 = .ok (.aload_n 0, 1) := by decide +kernel
theorem dX3_arePair_7 : decode cX3_arePair 7 = .ok (.getfield 9, 3) := by decide +kernel
theorem dX3_arePair_10 : decode cX3_arePair 10 = .ok (.iload_n 2, 1) := by decide +kernel
theorem dX3_arePair_11 : decode cX3_arePair 11 = .ok (.iaload, 1) := by decide +kernel
theorem dX3_arePair_12 : decode cX3_arePair 12 = .ok (.if_icmp .ne 22, 3) := by decide +kernel
theorem dX3_arePair_15 : decode cX3_arePair 15 = .ok (.aload_n 0, 1) := by decide +kernel
theorem dX3_arePair_16 : decode cX3_arePair 16 = .ok (.getfield 15, 3) := by decide +kernel
theorem dX3_arePair_19 : decode cX3_arePair 19 = .ok (.iload_n 1, 1) := by decide +kernel
theorem dX3_arePair_20 : decode cX3_arePair 20 = .ok (.iaload, 1) := by decide +kernel
theorem dX3_arePair_21 : decode cX3_arePair 21 = .ok (.aload_n 0, 1) := by decide +kernel
theorem dX3_arePair_22 : decode cX3_arePair 22 = .ok (.getfield 15, 3) := by decide +kernel
theorem dX3_arePair_25 : decode cX3_arePair 25 = .ok (.iload_n 2, 1) := by decide +kernel
theorem dX3_arePair_26 : decode cX3_arePair 26 = .ok (.iaload, 1) := by decide +kernel
theorem dX3_arePair_27 : decode cX3_arePair 27 = .ok (.if_icmp .le 7, 3) := by decide +kernel
theorem dX3_arePair_30 : decode cX3_arePair 30 = .ok (.iconst 1, 1) := by decide +kernel
theorem dX3_arePair_31 : decode cX3_arePair 31 = .ok (.goto 4, 3) := by decide +kernel
theorem dX3_arePair_34 : decode cX3_arePair 34 = .ok (.iconst 0, 1) := by decide +kernel
theorem dX3_arePair_35 : decode cX3_arePair 35 = .ok (.ireturn, 1) := by decide +kernel
set_option maxRecDepth 20000 in
theorem ggX3_pushOf_X3_pushOfPair : GoodIn wsX3_pushOf wsX3_pushOfPair := goodIn_ca (goodIn_ca (goodIn_r _ [6, 7, 8, 9, 10, 11, 5, 12, 13, 14, 15, 16, 17, 18] (by decide +kernel) (by decide +kernel)) (goodIn_sub (fun _ h => List.mem_cons_of_mem _ (List.mem_append_left _ (List.mem_append_right _ h))) (by decide +kernel))) (goodIn_sub (fun _ h => List.mem_cons_of_mem _ (List.mem_append_right _ h)) (by decide +kernel))
set_option maxRecDepth 20000 in
theorem gX3_pushOf_X3_pushOfPair : GoodIn wsX3_pushOf (wsV RX3 54 RX3 yX3_pushOfPair wsX3_pushOfPair) := goodIn_app (goodIn_of _ (by decide +kernel)) ggX3_pushOf_X3_pushOfPair
theorem dX3_pushOf_0 : decode cX3_pushOf 0 = .ok (.iconst 0, 1) := by decide +kernel
theorem dX3_pushOf_1 : decode cX3_pushOf 1 = .ok (.istore_n 3, 1) := by decide +kernel
theorem dX3_pushOf_2 : decode cX3_pushOf 2 = .ok (.iconst 0, 1) := by decide +kernel
theorem dX3_pushOf_3 : decode cX3_pushOf 3 = .ok (.istore 4, 2) := by decide +kernel
theorem dX3_pushOf_5 : decode cX3_pushOf 5 = .ok (.iload 4, 2) := by decide +kernel
theorem dX3_pushOf_7 : decode cX3_pushOf 7 = .ok (.aload_n 0, 1) := by decide +kernel
theorem dX3_pushOf_8 : decode cX3_pushOf 8 = .ok (.getfield 25, 3) := by decide +kernel
theorem dX3_pushOf_11 : decode cX3_pushOf 11 = .ok (.if_icmp .ge 29, 3) := by decide +kernel
theorem dX3_pushOf_14 : decode cX3_pushOf 14 = .ok (.iload_n 3, 1) := by decide +kernel
theorem dX3_pushOf_15 : decode cX3_pushOf 15 = .ok (.aload_n 0, 1) := by decide +kernel
theorem dX3_pushOf_16 : decode cX3_pushOf 16 = .ok (.iload_n 1, 1) := by decide +kernel
theorem dX3_pushOf_17 : decode cX3_pushOf 17 = .ok (.iload 4, 2) := by decide +kernel
theorem dX3_pushOf_19 : decode cX3_pushOf 19 = .ok (.iload_n 2, 1) := by decide +kernel
theorem dX3_pushOf_20 : decode cX3_pushOf 20 = .ok (.invokevirtual 54, 3) := by decide +kernel
theorem dX3_pushOf_23 : decode cX3_pushOf 23 = .ok (.aload_n 0, 1) := by decide +kernel
theorem dX3_pushOf_24 : decode cX3_pushOf 24 = .ok (.iload 4, 2) := by decide +kernel
theorem dX3_pushOf_26 : decode cX3_pushOf 26 = .ok (.iload_n 1, 1) := by decide +kernel
theorem dX3_pushOf_27 : decode cX3_pushOf 27 = .ok (.iload_n 2, 1) := by decide +kernel
theorem dX3_pushOf_28 : decode cX3_pushOf 28 = .ok (.invokevirtual 54, 3) := by decide +kernel
theorem dX3_pushOf_31 : decode cX3_pushOf 31 = .ok (.isub, 1) := by decide +kernel
theorem dX3_pushOf_32 : decode cX3_pushOf 32 = .ok (.iadd, 1) := by decide +kernel
theorem dX3_pushOf_33 : decode cX3_pushOf 33 = .ok (.istore_n 3, 1) := by decide +kernel
theorem dX3_pushOf_34 : decode cX3_pushOf 34 = .ok (.iinc 4 1, 3) := by decide +kernel
theorem dX3_pushOf_37 : decode cX3_pushOf 37 = .ok (.goto (-32), 3) := by decide +kernel
theorem dX3_pushOf_40 : decode cX3_pushOf 40 = .ok (.iload_n 3, 1) := by decide +kernel
theorem dX3_pushOf_41 : decode cX3_pushOf 41 = .ok (.ireturn, 1) := by decide +kernel
set_option maxRecDepth 20000 in
theorem ggX3_pushOfPair_X3_arePair : GoodIn wsX3_pushOfPair wsX3_arePair := goodIn_ca (goodIn_ca (goodIn_r _ [7, 8, 2, 9, 10, 11, 12, 13] (by decide +kernel) (by decide +kernel)) (goodIn_sub (fun _ h => List.mem_cons_of_mem _ (List.mem_append_right _ h)) (by decide +kernel))) (goodIn_sub (fun _ h => List.mem_cons_of_mem _ (List.mem_append_left _ (List.mem_append_right _ h))) (by decide +kernel))
set_option maxRecDepth 20000 in
theorem gX3_pushOfPair_X3_arePair : GoodIn wsX3_pushOfPair (wsV RX3 58 RX3 yX3_arePair wsX3_arePair) := goodIn_app (goodIn_of _ (by decide +kernel)) ggX3_pushOfPair_X3_arePair
theorem dX3_pushOfPair_0 : decode cX3_pushOfPair 0 = .ok (.aload_n 0, 1) := by decide +kernel
theorem dX3_pushOfPair_1 : decode cX3_pushOfPair 1 = .ok (.iload_n 1, 1) := by decide +kernel
theorem dX3_pushOfPair_2 : decode cX3_pushOfPair 2 = .ok (.iload_n 2, 1) := by decide +kernel
theorem dX3_pushOfPair_3 : decode cX3_pushOfPair 3 = .ok (.invokevirtual 58, 3) := by decide +kernel
theorem dX3_pushOfPair_6 : decode cX3_pushOfPair 6 = .ok (.ifCond .eq 22, 3) := by decide +kernel
theorem dX3_pushOfPair_9 : decode cX3_pushOfPair 9 = .ok (.aload_n 0, 1) := by decide +kernel
theorem dX3_pushOfPair_10 : decode cX3_pushOfPair 10 = .ok (.getfield 21, 3) := by decide +kernel
theorem dX3_pushOfPair_13 : decode cX3_pushOfPair 13 = .ok (.iload_n 1, 1) := by decide +kernel
theorem dX3_pushOfPair_14 : decode cX3_pushOfPair 14 = .ok (.laload, 1) := by decide +kernel
theorem dX3_pushOfPair_15 : decode cX3_pushOfPair 15 = .ok (.aload_n 0, 1) := by decide +kernel
theorem dX3_pushOfPair_16 : decode cX3_pushOfPair 16 = .ok (.getfield 21, 3) := by decide +kernel
theorem dX3_pushOfPair_19 : decode cX3_pushOfPair 19 = .ok (.iload_n 2, 1) := by decide +kernel
theorem dX3_pushOfPair_20 : decode cX3_pushOfPair 20 = .ok (.laload, 1) := by decide +kernel
theorem dX3_pushOfPair_21 : decode cX3_pushOfPair 21 = .ok (.lsub, 1) := by decide +kernel
theorem dX3_pushOfPair_22 : decode cX3_pushOfPair 22 = .ok (.iload_n 3, 1) := by decide +kernel
theorem dX3_pushOfPair_23 : decode cX3_pushOfPair 23 = .ok (.i2l, 1) := by decide +kernel
theorem dX3_pushOfPair_24 : decode cX3_pushOfPair 24 = .ok (.lcmp, 1) := by decide +kernel
theorem dX3_pushOfPair_25 : decode cX3_pushOfPair 25 = .ok (.ifCond .lt 5, 3) := by decide +kernel
theorem dX3_pushOfPair_28 : decode cX3_pushOfPair 28 = .ok (.iconst 0, 1) := by decide +kernel
theorem dX3_pushOfPair_29 : decode cX3_pushOfPair 29 = .ok (.ireturn, 1) := by decide +kernel
theorem dX3_pushOfPair_30 : decode cX3_pushOfPair 30 = .ok (.aload_n 0, 1) := by decide +kernel
theorem dX3_pushOfPair_31 : decode cX3_pushOfPair 31 = .ok (.getfield 15, 3) := by decide +kernel
theorem dX3_pushOfPair_34 : decode cX3_pushOfPair 34 = .ok (.iload_n 1, 1) := by decide +kernel
theorem dX3_pushOfPair_35 : decode cX3_pushOfPair 35 = .ok (.iaload, 1) := by decide +kernel
theorem dX3_pushOfPair_36 : decode cX3_pushOfPair 36 = .ok (.aload_n 0, 1) := by decide +kernel
theorem dX3_pushOfPair_37 : decode cX3_pushOfPair 37 = .ok (.getfield 15, 3) := by decide +kernel
theorem dX3_pushOfPair_40 : decode cX3_pushOfPair 40 = .ok (.iload_n 2, 1) := by decide +kernel
theorem dX3_pushOfPair_41 : decode cX3_pushOfPair 41 = .ok (.iaload, 1) := by decide +kernel
theorem dX3_pushOfPair_42 : decode cX3_pushOfPair 42 = .ok (.isub, 1) := by decide +kernel
theorem dX3_pushOfPair_43 : decode cX3_pushOfPair 43 = .ok (.ireturn, 1) := by decide +kernel
set_option maxRecDepth 20000 in
theorem ggX3_countAhead_X3_isAhead : GoodIn wsX3_countAhead wsX3_isAhead := goodIn_ca (goodIn_ca (goodIn_r _ [7, 8, 9, 10, 11, 12, 13] (by decide +kernel) (by decide +kernel)) (goodIn_sub (fun _ h => List.mem_cons_of_mem _ (List.mem_append_left _ (List.mem_append_right _ h))) (by decide +kernel))) (goodIn_sub (fun _ h => List.mem_cons_of_mem _ (List.mem_append_right _ h)) (by decide +kernel))
set_option maxRecDepth 20000 in
theorem gX3_countAhead_X3_isAhead : GoodIn wsX3_countAhead (wsV RX3 62 RX3 yX3_isAhead wsX3_isAhead) := goodIn_app (goodIn_of _ (by decide +kernel)) ggX3_countAhead_X3_isAhead
theorem dX3_countAhead_0 : decode cX3_countAhead 0 = .ok (.iconst 0, 1) := by decide +kernel
theorem dX3_countAhead_1 : decode cX3_countAhead 1 = .ok (.istore_n 2, 1) := by decide +kernel
theorem dX3_countAhead_2 : decode cX3_countAhead 2 = .ok (.iconst 0, 1) := by decide +kernel
theorem dX3_countAhead_3 : decode cX3_countAhead 3 = .ok (.istore_n 3, 1) := by decide +kernel
theorem dX3_countAhead_4 : decode cX3_countAhead 4 = .ok (.iload_n 3, 1) := by decide +kernel
theorem dX3_countAhead_5 : decode cX3_countAhead 5 = .ok (.aload_n 0, 1) := by decide +kernel
theorem dX3_countAhead_6 : decode cX3_countAhead 6 = .ok (.getfield 25, 3) := by decide +kernel
theorem dX3_countAhead_9 : decode cX3_countAhead 9 = .ok (.if_icmp .ge 36, 3) := by decide +kernel
theorem dX3_countAhead_12 : decode cX3_countAhead 12 = .ok (.aload_n 0, 1) := by decide +kernel
theorem dX3_countAhead_13 : decode cX3_countAhead 13 = .ok (.getfield 9, 3) := by decide +kernel
theorem dX3_countAhead_16 : decode cX3_countAhead 16 = .ok (.iload_n 3, 1) := by decide +kernel
theorem dX3_countAhead_17 : decode cX3_countAhead 17 = .ok (.iaload, 1) := by decide +kernel
theorem dX3_countAhead_18 : decode cX3_countAhead 18 = .ok (.aload_n 0, 1) := by decide +kernel
theorem dX3_countAhead_19 : decode cX3_countAhead 19 = .ok (.getfield 9, 3) := by decide +kernel
theorem dX3_countAhead_22 : decode cX3_countAhead 22 = .ok (.iload_n 1, 1) := by decide +kernel
theorem dX3_countAhead_23 : decode cX3_countAhead 23 = .ok (.iaload, 1) := by decide +kernel
theorem dX3_countAhead_24 : decode cX3_countAhead 24 = .ok (.if_icmp .ne 15, 3) := by decide +kernel
theorem dX3_countAhead_27 : decode cX3_countAhead 27 = .ok (.aload_n 0, 1) := by decide +kernel
theorem dX3_countAhead_28 : decode cX3_countAhead 28 = .ok (.iload_n 3, 1) := by decide +kernel
theorem dX3_countAhead_29 : decode cX3_countAhead 29 = .ok (.iload_n 1, 1) := by decide +kernel
theorem dX3_countAhead_30 : decode cX3_countAhead 30 = .ok (.invokevirtual 62, 3) := by decide +kernel
theorem dX3_countAhead_33 : decode cX3_countAhead 33 = .ok (.ifCond .eq 6, 3) := by decide +kernel
theorem dX3_countAhead_36 : decode cX3_countAhead 36 = .ok (.iinc 2 1, 3) := by decide +kernel
theorem dX3_countAhead_39 : decode cX3_countAhead 39 = .ok (.iinc 3 1, 3) := by decide +kernel
theorem dX3_countAhead_42 : decode cX3_countAhead 42 = .ok (.goto (-38), 3) := by decide +kernel
theorem dX3_countAhead_45 : decode cX3_countAhead 45 = .ok (.iload_n 2, 1) := by decide +kernel
theorem dX3_countAhead_46 : decode cX3_countAhead 46 = .ok (.ireturn, 1) := by decide +kernel
theorem dX3_isAhead_0 : decode cX3_isAhead 0 = .ok (.aload_n 0, 1) := by decide +kernel
theorem dX3_isAhead_1 : decode cX3_isAhead 1 = .ok (.getfield 21, 3) := by decide +kernel
theorem dX3_isAhead_4 : decode cX3_isAhead 4 = .ok (.iload_n 1, 1) := by decide +kernel
theorem dX3_isAhead_5 : decode cX3_isAhead 5 = .ok (.laload, 1) := by decide +kernel
theorem dX3_isAhead_6 : decode cX3_isAhead 6 = .ok (.aload_n 0, 1) := by decide +kernel
theorem dX3_isAhead_7 : decode cX3_isAhead 7 = .ok (.getfield 21, 3) := by decide +kernel
theorem dX3_isAhead_10 : decode cX3_isAhead 10 = .ok (.iload_n 2, 1) := by decide +kernel
theorem dX3_isAhead_11 : decode cX3_isAhead 11 = .ok (.laload, 1) := by decide +kernel
theorem dX3_isAhead_12 : decode cX3_isAhead 12 = .ok (.lcmp, 1) := by decide +kernel
theorem dX3_isAhead_13 : decode cX3_isAhead 13 = .ok (.ifCond .eq 25, 3) := by decide +kernel
theorem dX3_isAhead_16 : decode cX3_isAhead 16 = .ok (.aload_n 0, 1) := by decide +kernel
theorem dX3_isAhead_17 : decode cX3_isAhead 17 = .ok (.getfield 21, 3) := by decide +kernel
theorem dX3_isAhead_20 : decode cX3_isAhead 20 = .ok (.iload_n 1, 1) := by decide +kernel
theorem dX3_isAhead_21 : decode cX3_isAhead 21 = .ok (.laload, 1) := by decide +kernel
theorem dX3_isAhead_22 : decode cX3_isAhead 22 = .ok (.aload_n 0, 1) := by decide +kernel
theorem dX3_isAhead_23 : decode cX3_isAhead 23 = .ok (.getfield 21, 3) := by decide +kernel
theorem dX3_isAhead_26 : decode cX3_isAhead 26 = .ok (.iload_n 2, 1) := by decide +kernel
theorem dX3_isAhead_27 : decode cX3_isAhead 27 = .ok (.laload, 1) := by decide +kernel
theorem dX3_isAhead_28 : decode cX3_isAhead 28 = .ok (.lcmp, 1) := by decide +kernel
theorem dX3_isAhead_29 : decode cX3_isAhead 29 = .ok (.ifCond .le 7, 3) := by decide +kernel
theorem dX3_isAhead_32 : decode cX3_isAhead 32 = .ok (.iconst 1, 1) := by decide +kernel
theorem dX3_isAhead_33 : decode cX3_isAhead 33 = .ok (.goto 4, 3) := by decide +kernel
theorem dX3_isAhead_36 : decode cX3_isAhead 36 = .ok (.iconst 0, 1) := by decide +kernel
theorem dX3_isAhead_37 : decode cX3_isAhead 37 = .ok (.ireturn, 1) := by decide +kernel
theorem dX3_isAhead_38 : decode cX3_isAhead 38 = .ok (.iload_n 1, 1) := by decide +kernel
theorem dX3_isAhead_39 : decode cX3_isAhead 39 = .ok (.iload_n 2, 1) := by decide +kernel
theorem dX3_isAhead_40 : decode cX3_isAhead 40 = .ok (.if_icmp .ge 7, 3) := by decide +kernel
theorem dX3_isAhead_43 : decode cX3_isAhead 43 = .ok (.iconst 1, 1) := by decide +kernel
theorem dX3_isAhead_44 : decode cX3_isAhead 44 = .ok (.goto 4, 3) := by decide +kernel
theorem dX3_isAhead_47 : decode cX3_isAhead 47 = .ok (.iconst 0, 1) := by decide +kernel
theorem dX3_isAhead_48 : decode cX3_isAhead 48 = .ok (.ireturn, 1) := by decide +kernel
set_option maxRecDepth 20000 in
theorem ggX3_countPairs_X3_arePair : GoodIn wsX3_countPairs wsX3_arePair := goodIn_ca (goodIn_ca (goodIn_r _ [8, 2, 9, 10, 11, 12, 13, 14] (by decide +kernel) (by decide +kernel)) (goodIn_sub (fun _ h => List.mem_cons_of_mem _ (List.mem_append_left _ (List.mem_append_right _ h))) (by decide +kernel))) (goodIn_sub (fun _ h => List.mem_cons_of_mem _ (List.mem_append_right _ h)) (by decide +kernel))
set_option maxRecDepth 20000 in
theorem gX3_countPairs_X3_arePair : GoodIn wsX3_countPairs (wsV RX3 58 RX3 yX3_arePair wsX3_arePair) := goodIn_app (goodIn_of _ (by decide +kernel)) ggX3_countPairs_X3_arePair
theorem dX3_countPairs_0 : decode cX3_countPairs 0 = .ok (.iconst 0, 1) := by decide +kernel
theorem dX3_countPairs_1 : decode cX3_countPairs 1 = .ok (.istore_n 3, 1) := by decide +kernel
theorem dX3_countPairs_2 : decode cX3_countPairs 2 = .ok (.iconst 0, 1) := by decide +kernel
theorem dX3_countPairs_3 : decode cX3_countPairs 3 = .ok (.istore 4, 2) := by decide +kernel
theorem dX3_countPairs_5 : decode cX3_countPairs 5 = .ok (.iload 4, 2) := by decide +kernel
theorem dX3_countPairs_7 : decode cX3_countPairs 7 = .ok (.aload_n 0, 1) := by decide +kernel
theorem dX3_countPairs_8 : decode cX3_countPairs 8 = .ok (.getfield 25, 3) := by decide +kernel
theorem dX3_countPairs_11 : decode cX3_countPairs 11 = .ok (.if_icmp .ge 103, 3) := by decide +kernel
theorem dX3_countPairs_14 : decode cX3_countPairs 14 = .ok (.iconst 0, 1) := by decide +kernel
theorem dX3_countPairs_15 : decode cX3_countPairs 15 = .ok (.istore 5, 2) := by decide +kernel
theorem dX3_countPairs_17 : decode cX3_countPairs 17 = .ok (.iload 5, 2) := by decide +kernel
theorem dX3_countPairs_19 : decode cX3_countPairs 19 = .ok (.aload_n 0, 1) := by decide +kernel
theorem dX3_countPairs_20 : decode cX3_countPairs 20 = .ok (.getfield 25, 3) := by decide +kernel
theorem dX3_countPairs_23 : decode cX3_countPairs 23 = .ok (.if_icmp .ge 85, 3) := by decide +kernel
theorem dX3_countPairs_26 : decode cX3_countPairs 26 = .ok (.iload_n 1, 1) := by decide +kernel
theorem dX3_countPairs_27 : decode cX3_countPairs 27 = .ok (.iconst (-1), 1) := by decide +kernel
theorem dX3_countPairs_28 : decode cX3_countPairs 28 = .ok (.if_icmp .eq 14, 3) := by decide +kernel
theorem dX3_countPairs_31 : decode cX3_countPairs 31 = .ok (.aload_n 0, 1) := by decide +kernel
theorem dX3_countPairs_32 : decode cX3_countPairs 32 = .ok (.getfield 9, 3) := by decide +kernel
theorem dX3_countPairs_35 : decode cX3_countPairs 35 = .ok (.iload 4, 2) := by decide +kernel
theorem dX3_countPairs_37 : decode cX3_countPairs 37 = .ok (.iaload, 1) := by decide +kernel
theorem dX3_countPairs_38 : decode cX3_countPairs 38 = .ok (.iload_n 1, 1) := by decide +kernel
theorem dX3_countPairs_39 : decode cX3_countPairs 39 = .ok (.if_icmp .ne 7, 3) := by decide +kernel
theorem dX3_countPairs_42 : decode cX3_countPairs 42 = .ok (.iconst 1, 1) := by decide +kernel
theorem dX3_countPairs_43 : decode cX3_countPairs 43 = .ok (.goto 4, 3) := by decide +kernel
theorem dX3_countPairs_46 : decode cX3_countPairs 46 = .ok (.iconst 0, 1) := by decide +kernel
theorem dX3_countPairs_47 : decode cX3_countPairs 47 = .ok (.istore 6, 2) := by decide +kernel
theorem dX3_countPairs_49 : decode cX3_countPairs 49 = .ok (.aload_n 0, 1) := by decide +kernel
theorem dX3_countPairs_50 : decode cX3_countPairs 50 = .ok (.getfield 21, 3) := by decide +kernel
theorem dX3_countPairs_53 : decode cX3_countPairs 53 = .ok (.iload 4, 2) := by decide +kernel
theorem dX3_countPairs_55 : decode cX3_countPairs 55 = .ok (.laload, 1) := by decide +kernel
theorem dX3_countPairs_56 : decode cX3_countPairs 56 = .ok (.aload_n 0, 1) := by decide +kernel
theorem dX3_countPairs_57 : decode cX3_countPairs 57 = .ok (.getfield 21, 3) := by decide +kernel
theorem dX3_countPairs_60 : decode cX3_countPairs 60 = .ok (.iload 5, 2) := by decide +kernel
theorem dX3_countPairs_62 : decode cX3_countPairs 62 = .ok (.laload, 1) := by decide +kernel
theorem dX3_countPairs_63 : decode cX3_countPairs 63 = .ok (.lcmp, 1) := by decide +kernel
theorem dX3_countPairs_64 : decode cX3_countPairs 64 = .ok (.ifCond .gt 7, 3) := by decide +kernel
theorem dX3_countPairs_67 : decode cX3_countPairs 67 = .ok (.iconst 1, 1) := by decide +kernel
theorem dX3_countPairs_68 : decode cX3_countPairs 68 = .ok (.goto 4, 3) := by decide +kernel
theorem dX3_countPairs_71 : decode cX3_countPairs 71 = .ok (.iconst 0, 1) := by decide +kernel
theorem dX3_countPairs_72 : decode cX3_countPairs 72 = .ok (.istore 7, 2) := by decide +kernel
theorem dX3_countPairs_74 : decode cX3_countPairs 74 = .ok (.iload 6, 2) := by decide +kernel
theorem dX3_countPairs_76 : decode cX3_countPairs 76 = .ok (.ifCond .eq 26, 3) := by decide +kernel
theorem dX3_countPairs_79 : decode cX3_countPairs 79 = .ok (.aload_n 0, 1) := by decide +kernel
theorem dX3_countPairs_80 : decode cX3_countPairs 80 = .ok (.iload 4, 2) := by decide +kernel
theorem dX3_countPairs_82 : decode cX3_countPairs 82 = .ok (.iload 5, 2) := by decide +kernel
theorem dX3_countPairs_84 : decode cX3_countPairs 84 = .ok (.invokevirtual 58, 3) := by decide +kernel
theorem dX3_countPairs_87 : decode cX3_countPairs 87 = .ok (.ifCond .eq 15, 3) := by decide +kernel
theorem dX3_countPairs_90 : decode cX3_countPairs 90 = .ok (.iload 7, 2) := by decide +kernel
theorem dX3_countPairs_92 : decode cX3_countPairs 92 = .ok (.ifCond .ne 7, 3) := by decide +kernel
theorem dX3_countPairs_95 : decode cX3_countPairs 95 = .ok (.iload_n 2, 1) := by decide +kernel
theorem dX3_countPairs_96 : decode cX3_countPairs 96 = .ok (.ifCond .ne 6, 3) := by decide +kernel
theorem dX3_countPairs_99 : decode cX3_countPairs 99 = .ok (.iinc 3 1, 3) := by decide +kernel
theorem dX3_countPairs_102 : decode cX3_countPairs 102 = .ok (.iinc 5 1, 3) := by decide +kernel
theorem dX3_countPairs_105 : decode cX3_countPairs 105 = .ok (.goto (-88), 3) := by decide +kernel
theorem dX3_countPairs_108 : decode cX3_countPairs 108 = .ok (.iinc 4 1, 3) := by decide +kernel
theorem dX3_countPairs_111 : decode cX3_countPairs 111 = .ok (.goto (-106), 3) := by decide +kernel
theorem dX3_countPairs_114 : decode cX3_countPairs 114 = .ok (.iload_n 3, 1) := by decide +kernel
theorem dX3_countPairs_115 : decode cX3_countPairs 115 = .ok (.ireturn, 1) := by decide +kernel
end
section
set_option maxRecDepth 20000 in
theorem ggX4_init_X3_init : GoodIn wsX4_init wsX3_init := goodIn_r _ [19, 20, 2, 3, 16, 21, 22, 23, 24, 25, 76, 77, 78, 79, 80] (by decide +kernel) (by decide +kernel)
set_option maxRecDepth 20000 in
theorem gX4_init_X3_init_n13 : GoodIn wsX4_init (wsX3_init) := ggX4_init_X3_init
set_option maxRecDepth 20000 in
theorem ggX4_init_X1_init : GoodIn wsX4_init wsX1_init := goodIn_r _ [27, 28, 2, 3, 16, 29, 30, 31, 32, 33, 34, 24, 35, 36, 85, 86, 87, 88, 89, 90, 91, 92, 93] (by decide +kernel) (by decide +kernel)
set_option maxRecDepth 20000 in
theorem gX4_init_X1_init_n20 : GoodIn wsX4_init (wsX1_init) := ggX4_init_X1_init
set_option maxRecDepth 20000 in
theorem ggX4_init_X2_init : GoodIn wsX4_init wsX2_init := goodIn_r _ [38, 39, 2, 3, 16, 40, 41, 42, 43, 44, 45, 46, 47, 48, 94, 95, 96, 97, 98, 99, 100, 101, 102, 103, 104] (by decide +kernel) (by decide +kernel)
set_option maxRecDepth 20000 in
theorem gX4_init_X2_init_n27 : GoodIn wsX4_init (wsX2_init) := ggX4_init_X2_init
set_option maxRecDepth 20000 in
theorem ggX4_init_X4_startAnew : GoodIn wsX4_init wsX4_startAnew := goodIn_ca (goodIn_r _ [53, 7, 54, 11, 55, 56, 17, 57, 58, 59, 60, 61, 62, 63, 6, 64, 23, 65, 66, 67, 68, 69, 70, 71, 72, 73, 74, 75, 81, 82, 83, 84, 76, 77, 78, 79, 80, 85, 86, 87, 88, 89, 90, 91, 92, 93, 105, 106, 107, 108, 109, 110] (by decide +kernel) (by decide +kernel)) (goodIn_sub (fun _ h => List.mem_cons_of_mem _ (List.mem_append_right _ h)) (by decide +kernel))
set_option maxRecDepth 20000 in
theorem gX4_init_X4_startAnew : GoodIn wsX4_init (wsV RX4 36 RX4 yX4_startAnew wsX4_startAnew) := goodIn_app (goodIn_of _ (by decide +kernel)) ggX4_init_X4_startAnew
theorem dX4_init_0 : decode cX4_init 0 = .ok (.aload_n 0, 1) := by decide +kernel
theorem dX4_init_1 : decode cX4_init 1 = .ok (.invokespecial 5, 3) := by decide +kernel
theorem dX4_init_4 : decode cX4_init 4 = .ok (.aload_n 0, 1) := by decide +kernel
theorem dX4_init_5 : decode cX4_init 5 = .ok (.new 11, 3) := by decide +kernel
theorem dX4_init_8 : decode cX4_init 8 = .ok (.dup, 1) := by decide +kernel
theorem dX4_init_9 : decode cX4_init 9 = .ok (.invokespecial 13, 3) := by decide +kernel
theorem dX4_init_12 : decode cX4_init 12 = .ok (.putfield 14, 3) := by decide +kernel
theorem dX4_init_15 : decode cX4_init 15 = .ok (.aload_n 0, 1) := by decide +kernel
theorem dX4_init_16 : decode cX4_init 16 = .ok (.new 18, 3) := by decide +kernel
theorem dX4_init_19 : decode cX4_init 19 = .ok (.dup, 1) := by decide +kernel
theorem dX4_init_20 : decode cX4_init 20 = .ok (.invokespecial 20, 3) := by decide +kernel
theorem dX4_init_23 : decode cX4_init 23 = .ok (.putfield 21, 3) := by decide +kernel
theorem dX4_init_26 : decode cX4_init 26 = .ok (.aload_n 0, 1) := by decide +kernel
theorem dX4_init_27 : decode cX4_init 27 = .ok (.new 25, 3) := by decide +kernel
theorem dX4_init_30 : decode cX4_init 30 = .ok (.dup, 1) := by decide +kernel
theorem dX4_init_31 : decode cX4_init 31 = .ok (.invokespecial 27, 3) := by decide +kernel
theorem dX4_init_34 : decode cX4_init 34 = .ok (.putfield 28, 3) := by decide +kernel
theorem dX4_init_37 : decode cX4_init 37 = .ok (.aload_n 0, 1) := by decide +kernel
theorem dX4_init_38 : decode cX4_init 38 = .ok (.iconst 4, 1) := by decide +kernel
theorem dX4_init_39 : decode cX4_init 39 = .ok (.newarray .int, 2) := by decide +kernel
theorem dX4_init_41 : decode cX4_init 41 = .ok (.putfield 32, 3) := by decide +kernel
theorem dX4_init_44 : decode cX4_init 44 = .ok (.aload_n 0, 1) := by decide +kernel
theorem dX4_init_45 : decode cX4_init 45 = .ok (.invokevirtual 36, 3) := by decide +kernel
theorem dX4_init_48 : decode cX4_init 48 = .ok (.return_, 1) := by decide +kernel
set_option maxRecDepth 20000 in
theorem ggX4_thing_X4_isList : GoodIn wsX4_thing wsX4_isList := goodIn_r _ [6] (by decide +kernel) (by decide +kernel)
set_option maxRecDepth 20000 in
theorem gX4_thing_X4_isList : GoodIn wsX4_thing (va_wsS RX4 39 yX4_isList wsX4_isList) := goodIn_app (goodIn_of _ (by decide +kernel)) ggX4_thing_X4_isList
set_option maxRecDepth 20000 in
theorem ggX4_thing_X4_isGrade : GoodIn wsX4_thing wsX4_isGrade := goodIn_r _ [9] (by decide +kernel) (by decide +kernel)
set_option maxRecDepth 20000 in
theorem gX4_thing_X4_isGrade : GoodIn wsX4_thing (va_wsS RX4 43 yX4_isGrade wsX4_isGrade) := goodIn_app (goodIn_of _ (by decide +kernel)) ggX4_thing_X4_isGrade
set_option maxRecDepth 20000 in
theorem ggX4_thing_X3_take : GoodIn wsX4_thing wsX3_take := goodIn_ca (goodIn_ca (goodIn_r _ [14, 15, 16, 17, 18, 19, 20, 13, 21, 22, 23, 24, 25, 26, 27, 28, 29, 30, 31, 32, 33, 38, 39, 40, 41, 42, 43, 44, 45, 46, 47, 48] (by decide +kernel) (by decide +kernel)) (goodIn_sub (fun _ h => List.mem_cons_of_mem _ (List.mem_append_right _ h)) (by decide +kernel))) (goodIn_sub (fun _ h => List.mem_cons_of_mem _ (List.mem_append_left _ (List.mem_append_right _ h))) (by decide +kernel))
set_option maxRecDepth 20000 in
theorem gX4_thing_X3_take : GoodIn wsX4_thing (wsV RX4 50 RX3 yX3_take wsX3_take) := goodIn_app (goodIn_of _ (by decide +kernel)) ggX4_thing_X3_take
theorem dX4_thing_0 : decode cX4_thing 0 = .ok (.iload_n 1, 1) := by decide +kernel
theorem dX4_thing_1 : decode cX4_thing 1 = .ok (.invokestatic 39, 3) := by decide +kernel
theorem dX4_thing_4 : decode cX4_thing 4 = .ok (.ifCond .eq 10, 3) := by decide +kernel
theorem dX4_thing_7 : decode cX4_thing 7 = .ok (.iload_n 2, 1) := by decide +kernel
theorem dX4_thing_8 : decode cX4_thing 8 = .ok (.invokestatic 43, 3) := by decide +kernel
theorem dX4_thing_11 : decode cX4_thing 11 = .ok (.ifCond .ne 7, 3) := by decide +kernel
theorem dX4_thing_14 : decode cX4_thing 14 = .ok (.sipush (-10002), 3) := by decide +kernel
theorem dX4_thing_17 : decode cX4_thing 17 = .ok (.ireturn, 1) := by decide +kernel
theorem dX4_thing_18 : decode cX4_thing 18 = .ok (.aload_n 0, 1) := by decide +kernel
theorem dX4_thing_19 : decode cX4_thing 19 = .ok (.getfield 14, 3) := by decide +kernel
theorem dX4_thing_22 : decode cX4_thing 22 = .ok (.getfield 46, 3) := by decide +kernel
theorem dX4_thing_25 : decode cX4_thing 25 = .ok (.bipush 24, 2) := by decide +kernel
theorem dX4_thing_27 : decode cX4_thing 27 = .ok (.if_icmp .lt 7, 3) := by decide +kernel
theorem dX4_thing_30 : decode cX4_thing 30 = .ok (.sipush (-10003), 3) := by decide +kernel
theorem dX4_thing_33 : decode cX4_thing 33 = .ok (.ireturn, 1) := by decide +kernel
theorem dX4_thing_34 : decode cX4_thing 34 = .ok (.aload_n 0, 1) := by decide +kernel
theorem dX4_thing_35 : decode cX4_thing 35 = .ok (.getfield 14, 3) := by decide +kernel
theorem dX4_thing_38 : decode cX4_thing 38 = .ok (.iload_n 1, 1) := by decide +kernel
theorem dX4_thing_39 : decode cX4_thing 39 = .ok (.iload_n 2, 1) := by decide +kernel
theorem dX4_thing_40 : decode cX4_thing 40 = .ok (.invokevirtual 50, 3) := by decide +kernel
theorem dX4_thing_43 : decode cX4_thing 43 = .ok (.ireturn, 1) := by decide +kernel
set_option maxRecDepth 20000 in
theorem ggX4_grade_X3_has : GoodIn wsX4_grade wsX3_has := goodIn_r _ [7, 8, 17, 18, 19, 20, 21] (by decide +kernel) (by decide +kernel)
set_option maxRecDepth 20000 in
theorem gX4_grade_X3_has : GoodIn wsX4_grade (wsV RX4 54 RX3 yX3_has wsX3_has) := goodIn_app (goodIn_of _ (by decide +kernel)) ggX4_grade_X3_has
set_option maxRecDepth 20000 in
theorem ggX4_grade_X4_isGrade : GoodIn wsX4_grade wsX4_isGrade := goodIn_r _ [12] (by decide +kernel) (by decide +kernel)
set_option maxRecDepth 20000 in
theorem gX4_grade_X4_isGrade : GoodIn wsX4_grade (va_wsS RX4 43 yX4_isGrade wsX4_isGrade) := goodIn_app (goodIn_of _ (by decide +kernel)) ggX4_grade_X4_isGrade
theorem dX4_grade_0 : decode cX4_grade 0 = .ok (.aload_n 0, 1) := by decide +kernel
theorem dX4_grade_1 : decode cX4_grade 1 = .ok (.getfield 14, 3) := by decide +kernel
theorem dX4_grade_4 : decode cX4_grade 4 = .ok (.iload_n 1, 1) := by decide +kernel
theorem dX4_grade_5 : decode cX4_grade 5 = .ok (.invokevirtual 54, 3) := by decide +kernel
theorem dX4_grade_8 : decode cX4_grade 8 = .ok (.ifCond .ne 7, 3) := by decide +kernel
theorem dX4_grade_11 : decode cX4_grade 11 = .ok (.sipush (-10001), 3) := by decide +kernel
theorem dX4_grade_14 : decode cX4_grade 14 = .ok (.ireturn, 1) := by decide +kernel
theorem dX4_grade_15 : decode cX4_grade 15 = .ok (.iload_n 2, 1) := by decide +kernel
theorem dX4_grade_16 : decode cX4_grade 16 = .ok (.invokestatic 43, 3) := by decide +kernel
theorem dX4_grade_19 : decode cX4_grade 19 = .ok (.ifCond .ne 7, 3) := by decide +kernel
theorem dX4_grade_22 : decode cX4_grade 22 = .ok (.sipush (-10002), 3) := by decide +kernel
theorem dX4_grade_25 : decode cX4_grade 25 = .ok (.ireturn, 1) := by decide +kernel
theorem dX4_grade_26 : decode cX4_grade 26 = .ok (.aload_n 0, 1) := by decide +kernel
theorem dX4_grade_27 : decode cX4_grade 27 = .ok (.getfield 14, 3) := by decide +kernel
theorem dX4_grade_30 : decode cX4_grade 30 = .ok (.getfield 57, 3) := by decide +kernel
theorem dX4_grade_33 : decode cX4_grade 33 = .ok (.iload_n 1, 1) := by decide +kernel
theorem dX4_grade_34 : decode cX4_grade 34 = .ok (.iaload, 1) := by decide +kernel
theorem dX4_grade_35 : decode cX4_grade 35 = .ok (.istore_n 3, 1) := by decide +kernel
theorem dX4_grade_36 : decode cX4_grade 36 = .ok (.aload_n 0, 1) := by decide +kernel
theorem dX4_grade_37 : decode cX4_grade 37 = .ok (.getfield 14, 3) := by decide +kernel
theorem dX4_grade_40 : decode cX4_grade 40 = .ok (.getfield 57, 3) := by decide +kernel
theorem dX4_grade_43 : decode cX4_grade 43 = .ok (.iload_n 1, 1) := by decide +kernel
theorem dX4_grade_44 : decode cX4_grade 44 = .ok (.iload_n 2, 1) := by decide +kernel
theorem dX4_grade_45 : decode cX4_grade 45 = .ok (.iastore, 1) := by decide +kernel
theorem dX4_grade_46 : decode cX4_grade 46 = .ok (.iload_n 3, 1) := by decide +kernel
theorem dX4_grade_47 : decode cX4_grade 47 = .ok (.ireturn, 1) := by decide +kernel
set_option maxRecDepth 20000 in
theorem ggX4_feature_X3_rowOf : GoodIn wsX4_feature wsX3_rowOf := goodIn_ca (goodIn_r _ [7, 8, 9, 10, 6, 11, 12, 26, 27, 28, 29, 30] (by decide +kernel) (by decide +kernel)) (goodIn_sub (fun _ h => List.mem_cons_of_mem _ (List.mem_append_left _ (List.mem_append_right _ h))) (by decide +kernel))
set_option maxRecDepth 20000 in
theorem gX4_feature_X3_rowOf : GoodIn wsX4_feature (wsV RX4 60 RX3 yX3_rowOf wsX3_rowOf) := goodIn_app (goodIn_of _ (by decide +kernel)) ggX4_feature_X3_rowOf
set_option maxRecDepth 20000 in
theorem ggX4_feature_X4_isFeature : GoodIn wsX4_feature wsX4_isFeature := goodIn_r _ [16] (by decide +kernel) (by decide +kernel)
set_option maxRecDepth 20000 in
theorem gX4_feature_X4_isFeature : GoodIn wsX4_feature (va_wsS RX4 64 yX4_isFeature wsX4_isFeature) := goodIn_app (goodIn_of _ (by decide +kernel)) ggX4_feature_X4_isFeature
set_option maxRecDepth 20000 in
theorem ggX4_feature_X3_replace : GoodIn wsX4_feature wsX3_replace := goodIn_ca (goodIn_ca (goodIn_r _ [20, 21, 26, 27, 28, 29, 30] (by decide +kernel) (by decide +kernel)) (goodIn_sub (fun _ h => List.mem_cons_of_mem _ (List.mem_append_right _ h)) (by decide +kernel))) (goodIn_sub (fun _ h => List.mem_cons_of_mem _ (List.mem_append_left _ (List.mem_append_right _ h))) (by decide +kernel))
set_option maxRecDepth 20000 in
theorem gX4_feature_X3_replace : GoodIn wsX4_feature (wsV RX4 67 RX3 yX3_replace wsX3_replace) := goodIn_app (goodIn_of _ (by decide +kernel)) ggX4_feature_X3_replace
theorem dX4_feature_0 : decode cX4_feature 0 = .ok (.aload_n 0, 1) := by decide +kernel
theorem dX4_feature_1 : decode cX4_feature 1 = .ok (.getfield 14, 3) := by decide +kernel
theorem dX4_feature_4 : decode cX4_feature 4 = .ok (.iload_n 1, 1) := by decide +kernel
theorem dX4_feature_5 : decode cX4_feature 5 = .ok (.invokevirtual 60, 3) := by decide +kernel
theorem dX4_feature_8 : decode cX4_feature 8 = .ok (.istore 4, 2) := by decide +kernel
theorem dX4_feature_10 : decode cX4_feature 10 = .ok (.iload 4, 2) := by decide +kernel
theorem dX4_feature_12 : decode cX4_feature 12 = .ok (.iconst (-1), 1) := by decide +kernel
theorem dX4_feature_13 : decode cX4_feature 13 = .ok (.if_icmp .ne 7, 3) := by decide +kernel
theorem dX4_feature_16 : decode cX4_feature 16 = .ok (.sipush (-10001), 3) := by decide +kernel
theorem dX4_feature_19 : decode cX4_feature 19 = .ok (.ireturn, 1) := by decide +kernel
theorem dX4_feature_20 : decode cX4_feature 20 = .ok (.iload_n 2, 1) := by decide +kernel
theorem dX4_feature_21 : decode cX4_feature 21 = .ok (.invokestatic 64, 3) := by decide +kernel
theorem dX4_feature_24 : decode cX4_feature 24 = .ok (.ifCond .eq 17, 3) := by decide +kernel
theorem dX4_feature_27 : decode cX4_feature 27 = .ok (.iload_n 3, 1) := by decide +kernel
theorem dX4_feature_28 : decode cX4_feature 28 = .ok (.sipush (-1000), 3) := by decide +kernel
theorem dX4_feature_31 : decode cX4_feature 31 = .ok (.if_icmp .lt 10, 3) := by decide +kernel
theorem dX4_feature_34 : decode cX4_feature 34 = .ok (.iload_n 3, 1) := by decide +kernel
theorem dX4_feature_35 : decode cX4_feature 35 = .ok (.sipush 1000, 3) := by decide +kernel
theorem dX4_feature_38 : decode cX4_feature 38 = .ok (.if_icmp .le 7, 3) := by decide +kernel
theorem dX4_feature_41 : decode cX4_feature 41 = .ok (.sipush (-10002), 3) := by decide +kernel
theorem dX4_feature_44 : decode cX4_feature 44 = .ok (.ireturn, 1) := by decide +kernel
theorem dX4_feature_45 : decode cX4_feature 45 = .ok (.aload_n 0, 1) := by decide +kernel
theorem dX4_feature_46 : decode cX4_feature 46 = .ok (.getfield 14, 3) := by decide +kernel
theorem dX4_feature_49 : decode cX4_feature 49 = .ok (.iload 4, 2) := by decide +kernel
theorem dX4_feature_51 : decode cX4_feature 51 = .ok (.iload_n 2, 1) := by decide +kernel
theorem dX4_feature_52 : decode cX4_feature 52 = .ok (.iload_n 3, 1) := by decide +kernel
theorem dX4_feature_53 : decode cX4_feature 53 = .ok (.invokevirtual 67, 3) := by decide +kernel
theorem dX4_feature_56 : decode cX4_feature 56 = .ok (.ldc 71, 2) := by decide +kernel
theorem dX4_feature_58 : decode cX4_feature 58 = .ok (.if_icmp .ne 7, 3) := by decide +kernel
theorem dX4_feature_61 : decode cX4_feature 61 = .ok (.iconst 0, 1) := by decide +kernel
theorem dX4_feature_62 : decode cX4_feature 62 = .ok (.goto 4, 3) := by decide +kernel
theorem dX4_feature_65 : decode cX4_feature 65 = .ok (.iconst 1, 1) := by decide +kernel
theorem dX4_feature_66 : decode cX4_feature 66 = .ok (.ireturn, 1) := by decide +kernel
set_option maxRecDepth 20000 in
theorem ggX4_miss_X3_rowOf : GoodIn wsX4_miss wsX3_rowOf := goodIn_ca (goodIn_r _ [7, 8, 9, 10, 6, 11, 12, 26, 27, 28, 29, 30] (by decide +kernel) (by decide +kernel)) (goodIn_sub (fun _ h => List.mem_cons_of_mem _ (List.mem_append_left _ (List.mem_append_right _ h))) (by decide +kernel))
set_option maxRecDepth 20000 in
theorem gX4_miss_X3_rowOf : GoodIn wsX4_miss (wsV RX4 60 RX3 yX3_rowOf wsX3_rowOf) := goodIn_app (goodIn_of _ (by decide +kernel)) ggX4_miss_X3_rowOf
set_option maxRecDepth 20000 in
theorem ggX4_miss_X4_isFeature : GoodIn wsX4_miss wsX4_isFeature := goodIn_r _ [16] (by decide +kernel) (by decide +kernel)
set_option maxRecDepth 20000 in
theorem gX4_miss_X4_isFeature : GoodIn wsX4_miss (va_wsS RX4 64 yX4_isFeature wsX4_isFeature) := goodIn_app (goodIn_of _ (by decide +kernel)) ggX4_miss_X4_isFeature
set_option maxRecDepth 20000 in
theorem ggX4_miss_X3_replace : GoodIn wsX4_miss wsX3_replace := goodIn_ca (goodIn_ca (goodIn_r _ [20, 21, 26, 27, 28, 29, 30] (by decide +kernel) (by decide +kernel)) (goodIn_sub (fun _ h => List.mem_cons_of_mem _ (List.mem_append_right _ h)) (by decide +kernel))) (goodIn_sub (fun _ h => List.mem_cons_of_mem _ (List.mem_append_left _ (List.mem_append_right _ h))) (by decide +kernel))
set_option maxRecDepth 20000 in
theorem gX4_miss_X3_replace : GoodIn wsX4_miss (wsV RX4 67 RX3 yX3_replace wsX3_replace) := goodIn_app (goodIn_of _ (by decide +kernel)) ggX4_miss_X3_replace
theorem dX4_miss_0 : decode cX4_miss 0 = .ok (.aload_n 0, 1) := by decide +kernel
theorem dX4_miss_1 : decode cX4_miss 1 = .ok (.getfield 14, 3) := by decide +kernel
theorem dX4_miss_4 : decode cX4_miss 4 = .ok (.iload_n 1, 1) := by decide +kernel
theorem dX4_miss_5 : decode cX4_miss 5 = .ok (.invokevirtual 60, 3) := by decide +kernel
theorem dX4_miss_8 : decode cX4_miss 8 = .ok (.istore_n 3, 1) := by decide +kernel
theorem dX4_miss_9 : decode cX4_miss 9 = .ok (.iload_n 3, 1) := by decide +kernel
theorem dX4_miss_10 : decode cX4_miss 10 = .ok (.iconst (-1), 1) := by decide +kernel
theorem dX4_miss_11 : decode cX4_miss 11 = .ok (.if_icmp .ne 7, 3) := by decide +kernel
theorem dX4_miss_14 : decode cX4_miss 14 = .ok (.sipush (-10001), 3) := by decide +kernel
theorem dX4_miss_17 : decode cX4_miss 17 = .ok (.ireturn, 1) := by decide +kernel
theorem dX4_miss_18 : decode cX4_miss 18 = .ok (.iload_n 2, 1) := by decide +kernel
theorem dX4_miss_19 : decode cX4_miss 19 = .ok (.invokestatic 64, 3) := by decide +kernel
theorem dX4_miss_22 : decode cX4_miss 22 = .ok (.ifCond .ne 7, 3) := by decide +kernel
theorem dX4_miss_25 : decode cX4_miss 25 = .ok (.sipush (-10002), 3) := by decide +kernel
theorem dX4_miss_28 : decode cX4_miss 28 = .ok (.ireturn, 1) := by decide +kernel
theorem dX4_miss_29 : decode cX4_miss 29 = .ok (.aload_n 0, 1) := by decide +kernel
theorem dX4_miss_30 : decode cX4_miss 30 = .ok (.getfield 14, 3) := by decide +kernel
theorem dX4_miss_33 : decode cX4_miss 33 = .ok (.iload_n 3, 1) := by decide +kernel
theorem dX4_miss_34 : decode cX4_miss 34 = .ok (.iload_n 2, 1) := by decide +kernel
theorem dX4_miss_35 : decode cX4_miss 35 = .ok (.ldc 71, 2) := by decide +kernel
theorem dX4_miss_37 : decode cX4_miss 37 = .ok (.invokevirtual 67, 3) := by decide +kernel
theorem dX4_miss_40 : decode cX4_miss 40 = .ok (.ldc 71, 2) := by decide +kernel
theorem dX4_miss_42 : decode cX4_miss 42 = .ok (.if_icmp .ne 7, 3) := by decide +kernel
theorem dX4_miss_45 : decode cX4_miss 45 = .ok (.iconst 0, 1) := by decide +kernel
theorem dX4_miss_46 : decode cX4_miss 46 = .ok (.goto 4, 3) := by decide +kernel
theorem dX4_miss_49 : decode cX4_miss 49 = .ok (.iconst 1, 1) := by decide +kernel
theorem dX4_miss_50 : decode cX4_miss 50 = .ok (.ireturn, 1) := by decide +kernel
set_option maxRecDepth 20000 in
theorem ggX4_told_X3_has : GoodIn wsX4_told wsX3_has := goodIn_r _ [13, 14, 42, 43, 44, 45, 46] (by decide +kernel) (by decide +kernel)
set_option maxRecDepth 20000 in
theorem gX4_told_X3_has : GoodIn wsX4_told (wsV RX4 54 RX3 yX3_has wsX3_has) := goodIn_app (goodIn_of _ (by decide +kernel)) ggX4_told_X3_has
set_option maxRecDepth 20000 in
theorem ggX4_told_X4_isFeature : GoodIn wsX4_told wsX4_isFeature := goodIn_r _ [18] (by decide +kernel) (by decide +kernel)
set_option maxRecDepth 20000 in
theorem gX4_told_X4_isFeature : GoodIn wsX4_told (va_wsS RX4 64 yX4_isFeature wsX4_isFeature) := goodIn_app (goodIn_of _ (by decide +kernel)) ggX4_told_X4_isFeature
set_option maxRecDepth 20000 in
theorem ggX4_told_X3_numberAt : GoodIn wsX4_told wsX3_numberAt := goodIn_ca (goodIn_ca (goodIn_r _ [22, 23, 42, 43, 44, 45, 46] (by decide +kernel) (by decide +kernel)) (goodIn_sub (fun _ h => List.mem_cons_of_mem _ (List.mem_append_right _ h)) (by decide +kernel))) (goodIn_sub (fun _ h => List.mem_cons_of_mem _ (List.mem_append_left _ (List.mem_append_right _ h))) (by decide +kernel))
set_option maxRecDepth 20000 in
theorem gX4_told_X3_numberAt : GoodIn wsX4_told (wsV RX4 86 RX3 yX3_numberAt wsX3_numberAt) := goodIn_app (goodIn_of _ (by decide +kernel)) ggX4_told_X3_numberAt
theorem dX4_told_0 : decode cX4_told 0 = .ok (.iload_n 1, 1) := by decide +kernel
theorem dX4_told_1 : decode cX4_told 1 = .ok (.ifCond .lt 9, 3) := by decide +kernel
theorem dX4_told_4 : decode cX4_told 4 = .ok (.iload_n 1, 1) := by decide +kernel
theorem dX4_told_5 : decode cX4_told 5 = .ok (.bipush 24, 2) := by decide +kernel
theorem dX4_told_7 : decode cX4_told 7 = .ok (.if_icmp .lt 13, 3) := by decide +kernel
theorem dX4_told_10 : decode cX4_told 10 = .ok (.new 72, 3) := by decide +kernel
theorem dX4_told_13 : decode cX4_told 13 = .ok (.dup, 1) := by decide +kernel
theorem dX4_told_14 : decode cX4_told 14 = .ok (.ldc 74, 2) := by decide +kernel
theorem dX4_told_16 : decode cX4_told 16 = .ok (.invokespecial 76, 3) := by decide +kernel
theorem dX4_told_19 : decode cX4_told 19 = .ok (.athrow, 1) := by decide +kernel
theorem dX4_told_20 : decode cX4_told 20 = .ok (.aload_n 0, 1) := by decide +kernel
theorem dX4_told_21 : decode cX4_told 21 = .ok (.getfield 14, 3) := by decide +kernel
theorem dX4_told_24 : decode cX4_told 24 = .ok (.iload_n 1, 1) := by decide +kernel
theorem dX4_told_25 : decode cX4_told 25 = .ok (.invokevirtual 54, 3) := by decide +kernel
theorem dX4_told_28 : decode cX4_told 28 = .ok (.ifCond .ne 13, 3) := by decide +kernel
theorem dX4_told_31 : decode cX4_told 31 = .ok (.new 79, 3) := by decide +kernel
theorem dX4_told_34 : decode cX4_told 34 = .ok (.dup, 1) := by decide +kernel
theorem dX4_told_35 : decode cX4_told 35 = .ok (.ldc 81, 2) := by decide +kernel
theorem dX4_told_37 : decode cX4_told 37 = .ok (.invokespecial 83, 3) := by decide +kernel
theorem dX4_told_40 : decode cX4_told 40 = .ok (.athrow, 1) := by decide +kernel
theorem dX4_told_41 : decode cX4_told 41 = .ok (.iload_n 2, 1) := by decide +kernel
theorem dX4_told_42 : decode cX4_told 42 = .ok (.invokestatic 64, 3) := by decide +kernel
theorem dX4_told_45 : decode cX4_told 45 = .ok (.ifCond .ne 13, 3) := by decide +kernel
theorem dX4_told_48 : decode cX4_told 48 = .ok (.new 72, 3) := by decide +kernel
theorem dX4_told_51 : decode cX4_told 51 = .ok (.dup, 1) := by decide +kernel
theorem dX4_told_52 : decode cX4_told 52 = .ok (.ldc 84, 2) := by decide +kernel
theorem dX4_told_54 : decode cX4_told 54 = .ok (.invokespecial 76, 3) := by decide +kernel
theorem dX4_told_57 : decode cX4_told 57 = .ok (.athrow, 1) := by decide +kernel
theorem dX4_told_58 : decode cX4_told 58 = .ok (.aload_n 0, 1) := by decide +kernel
theorem dX4_told_59 : decode cX4_told 59 = .ok (.getfield 14, 3) := by decide +kernel
theorem dX4_told_62 : decode cX4_told 62 = .ok (.iload_n 1, 1) := by decide +kernel
theorem dX4_told_63 : decode cX4_told 63 = .ok (.iload_n 2, 1) := by decide +kernel
theorem dX4_told_64 : decode cX4_told 64 = .ok (.invokevirtual 86, 3) := by decide +kernel
theorem dX4_told_67 : decode cX4_told 67 = .ok (.istore_n 3, 1) := by decide +kernel
theorem dX4_told_68 : decode cX4_told 68 = .ok (.iload_n 3, 1) := by decide +kernel
theorem dX4_told_69 : decode cX4_told 69 = .ok (.ldc 71, 2) := by decide +kernel
theorem dX4_told_71 : decode cX4_told 71 = .ok (.if_icmp .ne 13, 3) := by decide +kernel
theorem dX4_told_74 : decode cX4_told 74 = .ok (.new 79, 3) := by decide +kernel
theorem dX4_told_77 : decode cX4_told 77 = .ok (.dup, 1) := by decide +kernel
theorem dX4_told_78 : decode cX4_told 78 = .ok (.ldc 89, 2) := by decide +kernel
theorem dX4_told_80 : decode cX4_told 80 = .ok (.invokespecial 83, 3) := by decide +kernel
theorem dX4_told_83 : decode cX4_told 83 = .ok (.athrow, 1) := by decide +kernel
theorem dX4_told_84 : decode cX4_told 84 = .ok (.iload_n 3, 1) := by decide +kernel
theorem dX4_told_85 : decode cX4_told 85 = .ok (.ireturn, 1) := by decide +kernel
theorem dX4_setting_0 : decode cX4_setting 0 = .ok (.iload_n 1, 1) := by decide +kernel
theorem dX4_setting_1 : decode cX4_setting 1 = .ok (.ifCond .lt 8, 3) := by decide +kernel
theorem dX4_setting_4 : decode cX4_setting 4 = .ok (.iload_n 1, 1) := by decide +kernel
theorem dX4_setting_5 : decode cX4_setting 5 = .ok (.iconst 4, 1) := by decide +kernel
theorem dX4_setting_6 : decode cX4_setting 6 = .ok (.if_icmp .lt 7, 3) := by decide +kernel
theorem dX4_setting_9 : decode cX4_setting 9 = .ok (.sipush (-10002), 3) := by decide +kernel
theorem dX4_setting_12 : decode cX4_setting 12 = .ok (.ireturn, 1) := by decide +kernel
theorem dX4_setting_13 : decode cX4_setting 13 = .ok (.iload_n 2, 1) := by decide +kernel
theorem dX4_setting_14 : decode cX4_setting 14 = .ok (.getstatic 91, 3) := by decide +kernel
theorem dX4_setting_17 : decode cX4_setting 17 = .ok (.iload_n 1, 1) := by decide +kernel
theorem dX4_setting_18 : decode cX4_setting 18 = .ok (.iaload, 1) := by decide +kernel
theorem dX4_setting_19 : decode cX4_setting 19 = .ok (.if_icmp .lt 12, 3) := by decide +kernel
theorem dX4_setting_22 : decode cX4_setting 22 = .ok (.iload_n 2, 1) := by decide +kernel
theorem dX4_setting_23 : decode cX4_setting 23 = .ok (.getstatic 94, 3) := by decide +kernel
theorem dX4_setting_26 : decode cX4_setting 26 = .ok (.iload_n 1, 1) := by decide +kernel
theorem dX4_setting_27 : decode cX4_setting 27 = .ok (.iaload, 1) := by decide +kernel
theorem dX4_setting_28 : decode cX4_setting 28 = .ok (.if_icmp .le 7, 3) := by decide +kernel
theorem dX4_setting_31 : decode cX4_setting 31 = .ok (.sipush (-10002), 3) := by decide +kernel
theorem dX4_setting_34 : decode cX4_setting 34 = .ok (.ireturn, 1) := by decide +kernel
theorem dX4_setting_35 : decode cX4_setting 35 = .ok (.aload_n 0, 1) := by decide +kernel
theorem dX4_setting_36 : decode cX4_setting 36 = .ok (.getfield 32, 3) := by decide +kernel
theorem dX4_setting_39 : decode cX4_setting 39 = .ok (.iload_n 1, 1) := by decide +kernel
theorem dX4_setting_40 : decode cX4_setting 40 = .ok (.iaload, 1) := by decide +kernel
theorem dX4_setting_41 : decode cX4_setting 41 = .ok (.istore_n 3, 1) := by decide +kernel
theorem dX4_setting_42 : decode cX4_setting 42 = .ok (.aload_n 0, 1) := by decide +kernel
theorem dX4_setting_43 : decode cX4_setting 43 = .ok (.getfield 32, 3) := by decide +kernel
theorem dX4_setting_46 : decode cX4_setting 46 = .ok (.iload_n 1, 1) := by decide +kernel
theorem dX4_setting_47 : decode cX4_setting 47 = .ok (.iload_n 2, 1) := by decide +kernel
theorem dX4_setting_48 : decode cX4_setting 48 = .ok (.iastore, 1) := by decide +kernel
theorem dX4_setting_49 : decode cX4_setting 49 = .ok (.iload_n 3, 1) := by decide +kernel
theorem dX4_setting_50 : decode cX4_setting 50 = .ok (.ireturn, 1) := by decide +kernel
set_option maxRecDepth 20000 in
theorem ggX4_grow_X3_takeScores : GoodIn wsX4_grow wsX3_takeScores := goodIn_ca (goodIn_ca (goodIn_r _ [11, 12, 13, 14, 15, 16, 17, 18, 19, 20, 21, 22, 23, 24, 25, 26, 27, 28, 29, 30, 31, 10, 32, 33, 34, 35, 36, 37, 38, 163, 164, 165, 166, 167, 154, 155, 156, 157, 158, 159, 160, 161, 162] (by decide +kernel) (by decide +kernel)) (goodIn_sub (fun _ h => List.mem_cons_of_mem _ (List.mem_append_left _ (List.mem_append_left _ (List.mem_append_right _ h)))) (by decide +kernel))) (goodIn_sub (fun _ h => List.mem_cons_of_mem _ (List.mem_append_left _ (List.mem_append_right _ h))) (by decide +kernel))
set_option maxRecDepth 20000 in
theorem gX4_grow_X3_takeScores : GoodIn wsX4_grow (wsV RX4 98 RX3 yX3_takeScores wsX3_takeScores) := goodIn_app (goodIn_of _ (by decide +kernel)) ggX4_grow_X3_takeScores
set_option maxRecDepth 20000 in
theorem ggX4_grow_X1_addTree : GoodIn wsX4_grow wsX1_addTree := goodIn_ca (goodIn_r _ [42, 19, 24, 43, 44, 45, 46, 47, 48, 49, 50, 51, 52, 154, 155, 156, 157, 158, 159, 160, 161, 162, 168, 169, 170, 171, 172, 173] (by decide +kernel) (by decide +kernel)) (goodIn_sub (fun _ h => List.mem_cons_of_mem _ (List.mem_append_left _ (List.mem_append_left _ (List.mem_append_right _ h)))) (by decide +kernel))
set_option maxRecDepth 20000 in
theorem gX4_grow_X1_addTree : GoodIn wsX4_grow (wsV RX4 102 RX1 yX1_addTree wsX1_addTree) := goodIn_app (goodIn_of _ (by decide +kernel)) ggX4_grow_X1_addTree
set_option maxRecDepth 20000 in
theorem ggX4_grow_X2_growTree : GoodIn wsX4_grow wsX2_growTree := goodIn_ca (goodIn_ca (goodIn_ca (goodIn_r _ [57, 58, 59, 60, 61, 62, 63, 64, 10, 65, 12, 66, 67, 68, 69, 13, 70, 71, 72, 73, 74, 75, 76, 77, 78, 56, 79, 80, 81, 82, 83, 84, 85, 86, 87, 88, 89, 90, 91, 92, 93, 94, 95, 35, 36, 37, 38, 96, 97, 98, 99, 100, 30, 31, 32, 33, 34, 101, 102, 103, 104, 105, 106, 107, 108, 109, 110, 111, 112, 113, 114, 115, 116, 117, 118, 17, 119, 24, 120, 25, 121, 26, 122, 27, 123, 124, 125, 126, 127, 128, 129, 130, 131, 132, 133, 134, 135, 136, 137, 138, 139, 140, 141, 142, 143, 144, 145, 28, 163, 164, 165, 166, 167, 174, 175, 176, 177, 178, 179, 180, 181, 182, 183, 184, 154, 155, 156, 157, 158, 159, 160, 161, 162] (by decide +kernel) (by decide +kernel)) (goodIn_sub (fun _ h => List.mem_cons_of_mem _ (List.mem_append_left _ (List.mem_append_left _ (List.mem_append_right _ h)))) (by decide +kernel))) (goodIn_sub (fun _ h => List.mem_cons_of_mem _ (List.mem_append_left _ (List.mem_append_right _ h))) (by decide +kernel))) (goodIn_sub (fun _ h => List.mem_cons_of_mem _ (List.mem_append_right _ h)) (by decide +kernel))
set_option maxRecDepth 20000 in
theorem gX4_grow_X2_growTree : GoodIn wsX4_grow (wsV RX4 106 RX2 yX2_growTree wsX2_growTree) := goodIn_app (goodIn_of _ (by decide +kernel)) ggX4_grow_X2_growTree
set_option maxRecDepth 20000 in
theorem ggX4_grow_X1_countLeaves : GoodIn wsX4_grow wsX1_countLeaves := goodIn_ca (goodIn_ca (goodIn_r _ [149, 24, 154, 155, 156, 157, 158, 159, 160, 161, 162] (by decide +kernel) (by decide +kernel)) (goodIn_sub (fun _ h => List.mem_cons_of_mem _ (List.mem_append_left _ (List.mem_append_right _ h))) (by decide +kernel))) (goodIn_sub (fun _ h => List.mem_cons_of_mem _ (List.mem_append_left _ (List.mem_append_left _ (List.mem_append_right _ h)))) (by decide +kernel))
set_option maxRecDepth 20000 in
theorem gX4_grow_X1_countLeaves : GoodIn wsX4_grow (wsV RX4 110 RX1 yX1_countLeaves wsX1_countLeaves) := goodIn_app (goodIn_of _ (by decide +kernel)) ggX4_grow_X1_countLeaves
theorem dX4_grow_0 : decode cX4_grow 0 = .ok (.aload_n 0, 1) := by decide +kernel
theorem dX4_grow_1 : decode cX4_grow 1 = .ok (.getfield 21, 3) := by decide +kernel
theorem dX4_grow_4 : decode cX4_grow 4 = .ok (.getfield 97, 3) := by decide +kernel
theorem dX4_grow_7 : decode cX4_grow 7 = .ok (.bipush 20, 2) := by decide +kernel
theorem dX4_grow_9 : decode cX4_grow 9 = .ok (.if_icmp .lt 7, 3) := by decide +kernel
theorem dX4_grow_12 : decode cX4_grow 12 = .ok (.sipush (-10003), 3) := by decide +kernel
theorem dX4_grow_15 : decode cX4_grow 15 = .ok (.ireturn, 1) := by decide +kernel
theorem dX4_grow_16 : decode cX4_grow 16 = .ok (.aload_n 0, 1) := by decide +kernel
theorem dX4_grow_17 : decode cX4_grow 17 = .ok (.getfield 14, 3) := by decide +kernel
theorem dX4_grow_20 : decode cX4_grow 20 = .ok (.getfield 46, 3) := by decide +kernel
theorem dX4_grow_23 : decode cX4_grow 23 = .ok (.ifCond .ne 7, 3) := by decide +kernel
theorem dX4_grow_26 : decode cX4_grow 26 = .ok (.sipush (-10004), 3) := by decide +kernel
theorem dX4_grow_29 : decode cX4_grow 29 = .ok (.ireturn, 1) := by decide +kernel
theorem dX4_grow_30 : decode cX4_grow 30 = .ok (.aload_n 0, 1) := by decide +kernel
theorem dX4_grow_31 : decode cX4_grow 31 = .ok (.getfield 14, 3) := by decide +kernel
theorem dX4_grow_34 : decode cX4_grow 34 = .ok (.aload_n 0, 1) := by decide +kernel
theorem dX4_grow_35 : decode cX4_grow 35 = .ok (.getfield 21, 3) := by decide +kernel
theorem dX4_grow_38 : decode cX4_grow 38 = .ok (.invokevirtual 98, 3) := by decide +kernel
theorem dX4_grow_41 : decode cX4_grow 41 = .ok (.aload_n 0, 1) := by decide +kernel
theorem dX4_grow_42 : decode cX4_grow 42 = .ok (.getfield 21, 3) := by decide +kernel
theorem dX4_grow_45 : decode cX4_grow 45 = .ok (.invokevirtual 102, 3) := by decide +kernel
theorem dX4_grow_48 : decode cX4_grow 48 = .ok (.istore_n 1, 1) := by decide +kernel
theorem dX4_grow_49 : decode cX4_grow 49 = .ok (.aload_n 0, 1) := by decide +kernel
theorem dX4_grow_50 : decode cX4_grow 50 = .ok (.getfield 28, 3) := by decide +kernel
theorem dX4_grow_53 : decode cX4_grow 53 = .ok (.aload_n 0, 1) := by decide +kernel
theorem dX4_grow_54 : decode cX4_grow 54 = .ok (.getfield 14, 3) := by decide +kernel
theorem dX4_grow_57 : decode cX4_grow 57 = .ok (.aload_n 0, 1) := by decide +kernel
theorem dX4_grow_58 : decode cX4_grow 58 = .ok (.getfield 21, 3) := by decide +kernel
theorem dX4_grow_61 : decode cX4_grow 61 = .ok (.iload_n 1, 1) := by decide +kernel
theorem dX4_grow_62 : decode cX4_grow 62 = .ok (.aload_n 0, 1) := by decide +kernel
theorem dX4_grow_63 : decode cX4_grow 63 = .ok (.getfield 32, 3) := by decide +kernel
theorem dX4_grow_66 : decode cX4_grow 66 = .ok (.invokevirtual 106, 3) := by decide +kernel
theorem dX4_grow_69 : decode cX4_grow 69 = .ok (.aload_n 0, 1) := by decide +kernel
theorem dX4_grow_70 : decode cX4_grow 70 = .ok (.getfield 21, 3) := by decide +kernel
theorem dX4_grow_73 : decode cX4_grow 73 = .ok (.iload_n 1, 1) := by decide +kernel
theorem dX4_grow_74 : decode cX4_grow 74 = .ok (.iload_n 1, 1) := by decide +kernel
theorem dX4_grow_75 : decode cX4_grow 75 = .ok (.iconst 1, 1) := by decide +kernel
theorem dX4_grow_76 : decode cX4_grow 76 = .ok (.iadd, 1) := by decide +kernel
theorem dX4_grow_77 : decode cX4_grow 77 = .ok (.invokevirtual 110, 3) := by decide +kernel
theorem dX4_grow_80 : decode cX4_grow 80 = .ok (.ireturn, 1) := by decide +kernel
theorem dX4_cut_0 : decode cX4_cut 0 = .ok (.aload_n 0, 1) := by decide +kernel
theorem dX4_cut_1 : decode cX4_cut 1 = .ok (.getfield 21, 3) := by decide +kernel
theorem dX4_cut_4 : decode cX4_cut 4 = .ok (.getfield 97, 3) := by decide +kernel
theorem dX4_cut_7 : decode cX4_cut 7 = .ok (.ifCond .ne 7, 3) := by decide +kernel
theorem dX4_cut_10 : decode cX4_cut 10 = .ok (.sipush (-10004), 3) := by decide +kernel
theorem dX4_cut_13 : decode cX4_cut 13 = .ok (.ireturn, 1) := by decide +kernel
theorem dX4_cut_14 : decode cX4_cut 14 = .ok (.aload_n 0, 1) := by decide +kernel
theorem dX4_cut_15 : decode cX4_cut 15 = .ok (.getfield 21, 3) := by decide +kernel
theorem dX4_cut_18 : decode cX4_cut 18 = .ok (.dup, 1) := by decide +kernel
theorem dX4_cut_19 : decode cX4_cut 19 = .ok (.getfield 97, 3) := by decide +kernel
theorem dX4_cut_22 : decode cX4_cut 22 = .ok (.iconst 1, 1) := by decide +kernel
theorem dX4_cut_23 : decode cX4_cut 23 = .ok (.isub, 1) := by decide +kernel
theorem dX4_cut_24 : decode cX4_cut 24 = .ok (.putfield 97, 3) := by decide +kernel
theorem dX4_cut_27 : decode cX4_cut 27 = .ok (.aload_n 0, 1) := by decide +kernel
theorem dX4_cut_28 : decode cX4_cut 28 = .ok (.getfield 21, 3) := by decide +kernel
theorem dX4_cut_31 : decode cX4_cut 31 = .ok (.getfield 97, 3) := by decide +kernel
theorem dX4_cut_34 : decode cX4_cut 34 = .ok (.ireturn, 1) := by decide +kernel
set_option maxRecDepth 20000 in
theorem ggX4_node_X1_find : GoodIn wsX4_node wsX1_find := goodIn_ca (goodIn_ca (goodIn_r _ [12, 13, 14, 15, 16, 11, 17, 18, 23, 24, 25, 26, 27, 28, 29, 30, 31] (by decide +kernel) (by decide +kernel)) (goodIn_sub (fun _ h => List.mem_cons_of_mem _ (List.mem_append_left _ (List.mem_append_right _ h))) (by decide +kernel))) (goodIn_sub (fun _ h => List.mem_cons_of_mem _ (List.mem_append_right _ h)) (by decide +kernel))
set_option maxRecDepth 20000 in
theorem gX4_node_X1_find : GoodIn wsX4_node (wsV RX4 113 RX1 yX1_find wsX1_find) := goodIn_app (goodIn_of _ (by decide +kernel)) ggX4_node_X1_find
theorem dX4_node_0 : decode cX4_node 0 = .ok (.aload_n 0, 1) := by decide +kernel
theorem dX4_node_1 : decode cX4_node 1 = .ok (.getfield 21, 3) := by decide +kernel
theorem dX4_node_4 : decode cX4_node 4 = .ok (.iload_n 1, 1) := by decide +kernel
theorem dX4_node_5 : decode cX4_node 5 = .ok (.iload_n 2, 1) := by decide +kernel
theorem dX4_node_6 : decode cX4_node 6 = .ok (.invokevirtual 113, 3) := by decide +kernel
theorem dX4_node_9 : decode cX4_node 9 = .ok (.istore 4, 2) := by decide +kernel
theorem dX4_node_11 : decode cX4_node 11 = .ok (.iload 4, 2) := by decide +kernel
theorem dX4_node_13 : decode cX4_node 13 = .ok (.iconst (-1), 1) := by decide +kernel
theorem dX4_node_14 : decode cX4_node 14 = .ok (.if_icmp .ne 7, 3) := by decide +kernel
theorem dX4_node_17 : decode cX4_node 17 = .ok (.sipush (-10001), 3) := by decide +kernel
theorem dX4_node_20 : decode cX4_node 20 = .ok (.ireturn, 1) := by decide +kernel
theorem dX4_node_21 : decode cX4_node 21 = .ok (.aload_n 0, 1) := by decide +kernel
theorem dX4_node_22 : decode cX4_node 22 = .ok (.getfield 21, 3) := by decide +kernel
theorem dX4_node_25 : decode cX4_node 25 = .ok (.getfield 116, 3) := by decide +kernel
theorem dX4_node_28 : decode cX4_node 28 = .ok (.iload 4, 2) := by decide +kernel
theorem dX4_node_30 : decode cX4_node 30 = .ok (.iaload, 1) := by decide +kernel
theorem dX4_node_31 : decode cX4_node 31 = .ok (.iconst 2, 1) := by decide +kernel
theorem dX4_node_32 : decode cX4_node 32 = .ok (.if_icmp .ne 7, 3) := by decide +kernel
theorem dX4_node_35 : decode cX4_node 35 = .ok (.iconst 1, 1) := by decide +kernel
theorem dX4_node_36 : decode cX4_node 36 = .ok (.goto 4, 3) := by decide +kernel
theorem dX4_node_39 : decode cX4_node 39 = .ok (.iconst 0, 1) := by decide +kernel
theorem dX4_node_40 : decode cX4_node 40 = .ok (.istore 5, 2) := by decide +kernel
theorem dX4_node_42 : decode cX4_node 42 = .ok (.iload_n 3, 1) := by decide +kernel
theorem dX4_node_43 : decode cX4_node 43 = .ok (.tableswitch 147 0 5 #[37, 48, 70, 92, 114, 136], 37) := by decide +kernel
theorem dX4_node_80 : decode cX4_node 80 = .ok (.iload 5, 2) := by decide +kernel
theorem dX4_node_82 : decode cX4_node 82 = .ok (.ifCond .eq 7, 3) := by decide +kernel
theorem dX4_node_85 : decode cX4_node 85 = .ok (.iconst 1, 1) := by decide +kernel
theorem dX4_node_86 : decode cX4_node 86 = .ok (.goto 4, 3) := by decide +kernel
theorem dX4_node_89 : decode cX4_node 89 = .ok (.iconst 0, 1) := by decide +kernel
theorem dX4_node_90 : decode cX4_node 90 = .ok (.ireturn, 1) := by decide +kernel
theorem dX4_node_91 : decode cX4_node 91 = .ok (.iload 5, 2) := by decide +kernel
theorem dX4_node_93 : decode cX4_node 93 = .ok (.ifCond .eq 16, 3) := by decide +kernel
theorem dX4_node_96 : decode cX4_node 96 = .ok (.aload_n 0, 1) := by decide +kernel
theorem dX4_node_97 : decode cX4_node 97 = .ok (.getfield 21, 3) := by decide +kernel
theorem dX4_node_100 : decode cX4_node 100 = .ok (.getfield 119, 3) := by decide +kernel
theorem dX4_node_103 : decode cX4_node 103 = .ok (.iload 4, 2) := by decide +kernel
theorem dX4_node_105 : decode cX4_node 105 = .ok (.iaload, 1) := by decide +kernel
theorem dX4_node_106 : decode cX4_node 106 = .ok (.goto 6, 3) := by decide +kernel
theorem dX4_node_109 : decode cX4_node 109 = .ok (.sipush (-10002), 3) := by decide +kernel
theorem dX4_node_112 : decode cX4_node 112 = .ok (.ireturn, 1) := by decide +kernel
theorem dX4_node_113 : decode cX4_node 113 = .ok (.iload 5, 2) := by decide +kernel
theorem dX4_node_115 : decode cX4_node 115 = .ok (.ifCond .eq 16, 3) := by decide +kernel
theorem dX4_node_118 : decode cX4_node 118 = .ok (.aload_n 0, 1) := by decide +kernel
theorem dX4_node_119 : decode cX4_node 119 = .ok (.getfield 21, 3) := by decide +kernel
theorem dX4_node_122 : decode cX4_node 122 = .ok (.getfield 122, 3) := by decide +kernel
theorem dX4_node_125 : decode cX4_node 125 = .ok (.iload 4, 2) := by decide +kernel
theorem dX4_node_127 : decode cX4_node 127 = .ok (.iaload, 1) := by decide +kernel
theorem dX4_node_128 : decode cX4_node 128 = .ok (.goto 6, 3) := by decide +kernel
theorem dX4_node_131 : decode cX4_node 131 = .ok (.sipush (-10002), 3) := by decide +kernel
theorem dX4_node_134 : decode cX4_node 134 = .ok (.ireturn, 1) := by decide +kernel
theorem dX4_node_135 : decode cX4_node 135 = .ok (.iload 5, 2) := by decide +kernel
theorem dX4_node_137 : decode cX4_node 137 = .ok (.ifCond .eq 16, 3) := by decide +kernel
theorem dX4_node_140 : decode cX4_node 140 = .ok (.aload_n 0, 1) := by decide +kernel
theorem dX4_node_141 : decode cX4_node 141 = .ok (.getfield 21, 3) := by decide +kernel
theorem dX4_node_144 : decode cX4_node 144 = .ok (.getfield 125, 3) := by decide +kernel
theorem dX4_node_147 : decode cX4_node 147 = .ok (.iload 4, 2) := by decide +kernel
theorem dX4_node_149 : decode cX4_node 149 = .ok (.iaload, 1) := by decide +kernel
theorem dX4_node_150 : decode cX4_node 150 = .ok (.goto 6, 3) := by decide +kernel
theorem dX4_node_153 : decode cX4_node 153 = .ok (.sipush (-10002), 3) := by decide +kernel
theorem dX4_node_156 : decode cX4_node 156 = .ok (.ireturn, 1) := by decide +kernel
theorem dX4_node_157 : decode cX4_node 157 = .ok (.iload 5, 2) := by decide +kernel
theorem dX4_node_159 : decode cX4_node 159 = .ok (.ifCond .eq 9, 3) := by decide +kernel
theorem dX4_node_162 : decode cX4_node 162 = .ok (.sipush (-10002), 3) := by decide +kernel
theorem dX4_node_165 : decode cX4_node 165 = .ok (.goto 13, 3) := by decide +kernel
theorem dX4_node_168 : decode cX4_node 168 = .ok (.aload_n 0, 1) := by decide +kernel
theorem dX4_node_169 : decode cX4_node 169 = .ok (.getfield 21, 3) := by decide +kernel
theorem dX4_node_172 : decode cX4_node 172 = .ok (.getfield 128, 3) := by decide +kernel
theorem dX4_node_175 : decode cX4_node 175 = .ok (.iload 4, 2) := by decide +kernel
theorem dX4_node_177 : decode cX4_node 177 = .ok (.iaload, 1) := by decide +kernel
theorem dX4_node_178 : decode cX4_node 178 = .ok (.ireturn, 1) := by decide +kernel
theorem dX4_node_179 : decode cX4_node 179 = .ok (.aload_n 0, 1) := by decide +kernel
theorem dX4_node_180 : decode cX4_node 180 = .ok (.getfield 21, 3) := by decide +kernel
theorem dX4_node_183 : decode cX4_node 183 = .ok (.getfield 131, 3) := by decide +kernel
theorem dX4_node_186 : decode cX4_node 186 = .ok (.iload 4, 2) := by decide +kernel
theorem dX4_node_188 : decode cX4_node 188 = .ok (.iaload, 1) := by decide +kernel
theorem dX4_node_189 : decode cX4_node 189 = .ok (.ireturn, 1) := by decide +kernel
theorem dX4_node_190 : decode cX4_node 190 = .ok (.sipush (-10002), 3) := by decide +kernel
theorem dX4_node_193 : decode cX4_node 193 = .ok (.ireturn, 1) := by decide +kernel
set_option maxRecDepth 20000 in
theorem ggX4_gain_X1_find : GoodIn wsX4_gain wsX1_find := goodIn_ca (goodIn_ca (goodIn_r _ [11, 12, 13, 14, 15, 10, 16, 17, 22, 23, 24, 25, 26, 27, 28, 29, 30] (by decide +kernel) (by decide +kernel)) (goodIn_sub (fun _ h => List.mem_cons_of_mem _ (List.mem_append_left _ (List.mem_append_right _ h))) (by decide +kernel))) (goodIn_sub (fun _ h => List.mem_cons_of_mem _ (List.mem_append_right _ h)) (by decide +kernel))
set_option maxRecDepth 20000 in
theorem gX4_gain_X1_find : GoodIn wsX4_gain (wsV RX4 113 RX1 yX1_find wsX1_find) := goodIn_app (goodIn_of _ (by decide +kernel)) ggX4_gain_X1_find
theorem dX4_gain_0 : decode cX4_gain 0 = .ok (.aload_n 0, 1) := by decide +kernel
theorem dX4_gain_1 : decode cX4_gain 1 = .ok (.getfield 21, 3) := by decide +kernel
theorem dX4_gain_4 : decode cX4_gain 4 = .ok (.iload_n 1, 1) := by decide +kernel
theorem dX4_gain_5 : decode cX4_gain 5 = .ok (.iload_n 2, 1) := by decide +kernel
theorem dX4_gain_6 : decode cX4_gain 6 = .ok (.invokevirtual 113, 3) := by decide +kernel
theorem dX4_gain_9 : decode cX4_gain 9 = .ok (.istore 4, 2) := by decide +kernel
theorem dX4_gain_11 : decode cX4_gain 11 = .ok (.iload 4, 2) := by decide +kernel
theorem dX4_gain_13 : decode cX4_gain 13 = .ok (.iconst (-1), 1) := by decide +kernel
theorem dX4_gain_14 : decode cX4_gain 14 = .ok (.if_icmp .eq 17, 3) := by decide +kernel
theorem dX4_gain_17 : decode cX4_gain 17 = .ok (.aload_n 0, 1) := by decide +kernel
theorem dX4_gain_18 : decode cX4_gain 18 = .ok (.getfield 21, 3) := by decide +kernel
theorem dX4_gain_21 : decode cX4_gain 21 = .ok (.getfield 116, 3) := by decide +kernel
theorem dX4_gain_24 : decode cX4_gain 24 = .ok (.iload 4, 2) := by decide +kernel
theorem dX4_gain_26 : decode cX4_gain 26 = .ok (.iaload, 1) := by decide +kernel
theorem dX4_gain_27 : decode cX4_gain 27 = .ok (.iconst 2, 1) := by decide +kernel
theorem dX4_gain_28 : decode cX4_gain 28 = .ok (.if_icmp .eq 7, 3) := by decide +kernel
theorem dX4_gain_31 : decode cX4_gain 31 = .ok (.ldc2_w 134, 3) := by decide +kernel
theorem dX4_gain_34 : decode cX4_gain 34 = .ok (.lreturn, 1) := by decide +kernel
theorem dX4_gain_35 : decode cX4_gain 35 = .ok (.iload_n 3, 1) := by decide +kernel
theorem dX4_gain_36 : decode cX4_gain 36 = .ok (.lookupswitch 50 #[(0, 28), (1, 39)], 28) := by decide +kernel
theorem dX4_gain_64 : decode cX4_gain 64 = .ok (.aload_n 0, 1) := by decide +kernel
theorem dX4_gain_65 : decode cX4_gain 65 = .ok (.getfield 21, 3) := by decide +kernel
theorem dX4_gain_68 : decode cX4_gain 68 = .ok (.getfield 136, 3) := by decide +kernel
theorem dX4_gain_71 : decode cX4_gain 71 = .ok (.iload 4, 2) := by decide +kernel
theorem dX4_gain_73 : decode cX4_gain 73 = .ok (.laload, 1) := by decide +kernel
theorem dX4_gain_74 : decode cX4_gain 74 = .ok (.lreturn, 1) := by decide +kernel
theorem dX4_gain_75 : decode cX4_gain 75 = .ok (.aload_n 0, 1) := by decide +kernel
theorem dX4_gain_76 : decode cX4_gain 76 = .ok (.getfield 21, 3) := by decide +kernel
theorem dX4_gain_79 : decode cX4_gain 79 = .ok (.getfield 140, 3) := by decide +kernel
theorem dX4_gain_82 : decode cX4_gain 82 = .ok (.iload 4, 2) := by decide +kernel
theorem dX4_gain_84 : decode cX4_gain 84 = .ok (.laload, 1) := by decide +kernel
theorem dX4_gain_85 : decode cX4_gain 85 = .ok (.lreturn, 1) := by decide +kernel
theorem dX4_gain_86 : decode cX4_gain 86 = .ok (.ldc2_w 143, 3) := by decide +kernel
theorem dX4_gain_89 : decode cX4_gain 89 = .ok (.lreturn, 1) := by decide +kernel
set_option maxRecDepth 20000 in
theorem ggX4_score_X3_rowOf : GoodIn wsX4_score wsX3_rowOf := goodIn_ca (goodIn_r _ [8, 9, 10, 11, 7, 12, 13, 43, 44, 45, 46, 47] (by decide +kernel) (by decide +kernel)) (goodIn_sub (fun _ h => List.mem_cons_of_mem _ (List.mem_append_left _ (List.mem_append_right _ h))) (by decide +kernel))
set_option maxRecDepth 20000 in
theorem gX4_score_X3_rowOf : GoodIn wsX4_score (wsV RX4 60 RX3 yX3_rowOf wsX3_rowOf) := goodIn_app (goodIn_of _ (by decide +kernel)) ggX4_score_X3_rowOf
set_option maxRecDepth 20000 in
theorem ggX4_score_X1_sumFor : GoodIn wsX4_score wsX1_sumFor := goodIn_ca (goodIn_ca (goodIn_r _ [18, 19, 20, 21, 22, 17, 23, 24, 25, 26, 27, 28, 29, 30, 31, 7, 32, 33, 34, 35, 36, 37, 38, 48, 49, 50, 51, 52, 53, 54, 55, 56, 43, 44, 45, 46, 47] (by decide +kernel) (by decide +kernel)) (goodIn_sub (fun _ h => List.mem_cons_of_mem _ (List.mem_append_left _ (List.mem_append_right _ h))) (by decide +kernel))) (goodIn_sub (fun _ h => List.mem_cons_of_mem _ (List.mem_append_right _ h)) (by decide +kernel))
set_option maxRecDepth 20000 in
theorem gX4_score_X1_sumFor : GoodIn wsX4_score (wsV RX4 145 RX1 yX1_sumFor wsX1_sumFor) := goodIn_app (goodIn_of _ (by decide +kernel)) ggX4_score_X1_sumFor
theorem dX4_score_0 : decode cX4_score 0 = .ok (.aload_n 0, 1) := by decide +kernel
theorem dX4_score_1 : decode cX4_score 1 = .ok (.getfield 14, 3) := by decide +kernel
theorem dX4_score_4 : decode cX4_score 4 = .ok (.iload_n 1, 1) := by decide +kernel
theorem dX4_score_5 : decode cX4_score 5 = .ok (.invokevirtual 60, 3) := by decide +kernel
theorem dX4_score_8 : decode cX4_score 8 = .ok (.istore_n 2, 1) := by decide +kernel
theorem dX4_score_9 : decode cX4_score 9 = .ok (.iload_n 2, 1) := by decide +kernel
theorem dX4_score_10 : decode cX4_score 10 = .ok (.iconst (-1), 1) := by decide +kernel
theorem dX4_score_11 : decode cX4_score 11 = .ok (.if_icmp .ne 7, 3) := by decide +kernel
theorem dX4_score_14 : decode cX4_score 14 = .ok (.ldc2_w 134, 3) := by decide +kernel
theorem dX4_score_17 : decode cX4_score 17 = .ok (.lreturn, 1) := by decide +kernel
theorem dX4_score_18 : decode cX4_score 18 = .ok (.aload_n 0, 1) := by decide +kernel
theorem dX4_score_19 : decode cX4_score 19 = .ok (.getfield 21, 3) := by decide +kernel
theorem dX4_score_22 : decode cX4_score 22 = .ok (.aload_n 0, 1) := by decide +kernel
theorem dX4_score_23 : decode cX4_score 23 = .ok (.getfield 14, 3) := by decide +kernel
theorem dX4_score_26 : decode cX4_score 26 = .ok (.iload_n 2, 1) := by decide +kernel
theorem dX4_score_27 : decode cX4_score 27 = .ok (.invokevirtual 145, 3) := by decide +kernel
theorem dX4_score_30 : decode cX4_score 30 = .ok (.lreturn, 1) := by decide +kernel
set_option maxRecDepth 20000 in
theorem ggX4_value_X3_rowOf : GoodIn wsX4_value wsX3_rowOf := goodIn_ca (goodIn_r _ [7, 8, 9, 10, 6, 11, 12, 42, 43, 44, 45, 46] (by decide +kernel) (by decide +kernel)) (goodIn_sub (fun _ h => List.mem_cons_of_mem _ (List.mem_append_left _ (List.mem_append_right _ h))) (by decide +kernel))
set_option maxRecDepth 20000 in
theorem gX4_value_X3_rowOf : GoodIn wsX4_value (wsV RX4 60 RX3 yX3_rowOf wsX3_rowOf) := goodIn_app (goodIn_of _ (by decide +kernel)) ggX4_value_X3_rowOf
set_option maxRecDepth 20000 in
theorem ggX4_value_X1_has : GoodIn wsX4_value wsX1_has := goodIn_r _ [17, 18, 47, 48, 49, 50, 51, 52, 53, 54, 55] (by decide +kernel) (by decide +kernel)
set_option maxRecDepth 20000 in
theorem gX4_value_X1_has : GoodIn wsX4_value (wsV RX4 149 RX1 yX1_has wsX1_has) := goodIn_app (goodIn_of _ (by decide +kernel)) ggX4_value_X1_has
set_option maxRecDepth 20000 in
theorem ggX4_value_X1_valueFor : GoodIn wsX4_value wsX1_valueFor := goodIn_ca (goodIn_ca (goodIn_r _ [22, 23, 24, 25, 26, 27, 28, 29, 30, 6, 31, 32, 33, 34, 35, 36, 37, 47, 48, 49, 50, 51, 52, 53, 54, 55, 42, 43, 44, 45, 46] (by decide +kernel) (by decide +kernel)) (goodIn_sub (fun _ h => List.mem_cons_of_mem _ (List.mem_append_right _ h)) (by decide +kernel))) (goodIn_sub (fun _ h => List.mem_cons_of_mem _ (List.mem_append_left _ (List.mem_append_right _ h))) (by decide +kernel))
set_option maxRecDepth 20000 in
theorem gX4_value_X1_valueFor : GoodIn wsX4_value (wsV RX4 150 RX1 yX1_valueFor wsX1_valueFor) := goodIn_app (goodIn_of _ (by decide +kernel)) ggX4_value_X1_valueFor
theorem dX4_value_0 : decode cX4_value 0 = .ok (.aload_n 0, 1) := by decide +kernel
theorem dX4_value_1 : decode cX4_value 1 = .ok (.getfield 14, 3) := by decide +kernel
theorem dX4_value_4 : decode cX4_value 4 = .ok (.iload_n 2, 1) := by decide +kernel
theorem dX4_value_5 : decode cX4_value 5 = .ok (.invokevirtual 60, 3) := by decide +kernel
theorem dX4_value_8 : decode cX4_value 8 = .ok (.istore_n 3, 1) := by decide +kernel
theorem dX4_value_9 : decode cX4_value 9 = .ok (.aload_n 0, 1) := by decide +kernel
theorem dX4_value_10 : decode cX4_value 10 = .ok (.getfield 21, 3) := by decide +kernel
theorem dX4_value_13 : decode cX4_value 13 = .ok (.iload_n 1, 1) := by decide +kernel
theorem dX4_value_14 : decode cX4_value 14 = .ok (.invokevirtual 149, 3) := by decide +kernel
theorem dX4_value_17 : decode cX4_value 17 = .ok (.ifCond .eq 8, 3) := by decide +kernel
theorem dX4_value_20 : decode cX4_value 20 = .ok (.iload_n 3, 1) := by decide +kernel
theorem dX4_value_21 : decode cX4_value 21 = .ok (.iconst (-1), 1) := by decide +kernel
theorem dX4_value_22 : decode cX4_value 22 = .ok (.if_icmp .ne 7, 3) := by decide +kernel
theorem dX4_value_25 : decode cX4_value 25 = .ok (.sipush (-10001), 3) := by decide +kernel
theorem dX4_value_28 : decode cX4_value 28 = .ok (.ireturn, 1) := by decide +kernel
theorem dX4_value_29 : decode cX4_value 29 = .ok (.aload_n 0, 1) := by decide +kernel
theorem dX4_value_30 : decode cX4_value 30 = .ok (.getfield 21, 3) := by decide +kernel
theorem dX4_value_33 : decode cX4_value 33 = .ok (.iload_n 1, 1) := by decide +kernel
theorem dX4_value_34 : decode cX4_value 34 = .ok (.aload_n 0, 1) := by decide +kernel
theorem dX4_value_35 : decode cX4_value 35 = .ok (.getfield 14, 3) := by decide +kernel
theorem dX4_value_38 : decode cX4_value 38 = .ok (.iload_n 3, 1) := by decide +kernel
theorem dX4_value_39 : decode cX4_value 39 = .ok (.invokevirtual 150, 3) := by decide +kernel
theorem dX4_value_42 : decode cX4_value 42 = .ok (.ireturn, 1) := by decide +kernel
set_option maxRecDepth 20000 in
theorem ggX4_push_X3_has : GoodIn wsX4_push wsX3_has := goodIn_r _ [8, 9, 58, 59, 60, 61, 62] (by decide +kernel) (by decide +kernel)
set_option maxRecDepth 20000 in
theorem gX4_push_X3_has : GoodIn wsX4_push (wsV RX4 54 RX3 yX3_has wsX3_has) := goodIn_app (goodIn_of _ (by decide +kernel)) ggX4_push_X3_has
set_option maxRecDepth 20000 in
theorem ggX4_push_X3_takeScores : GoodIn wsX4_push wsX3_takeScores := goodIn_ca (goodIn_ca (goodIn_r _ [13, 9, 14, 15, 16, 17, 18, 19, 20, 21, 22, 23, 24, 25, 26, 27, 28, 29, 30, 31, 32, 7, 33, 34, 35, 36, 37, 38, 39, 58, 59, 60, 61, 62, 63, 64, 65, 66, 67, 68, 69, 70, 71] (by decide +kernel) (by decide +kernel)) (goodIn_sub (fun _ h => List.mem_cons_of_mem _ (List.mem_append_left _ (List.mem_append_right _ h))) (by decide +kernel))) (goodIn_sub (fun _ h => List.mem_cons_of_mem _ (List.mem_append_right _ h)) (by decide +kernel))
set_option maxRecDepth 20000 in
theorem gX4_push_X3_takeScores : GoodIn wsX4_push (wsV RX4 98 RX3 yX3_takeScores wsX3_takeScores) := goodIn_app (goodIn_of _ (by decide +kernel)) ggX4_push_X3_takeScores
set_option maxRecDepth 20000 in
theorem ggX4_push_X3_pushOf : GoodIn wsX4_push wsX3_pushOf := goodIn_ca (goodIn_ca (goodIn_r _ [43, 9, 44, 45, 46, 7, 47, 14, 48, 49, 50, 51, 52, 53, 58, 59, 60, 61, 62] (by decide +kernel) (by decide +kernel)) (goodIn_sub (fun _ h => List.mem_cons_of_mem _ (List.mem_append_left _ (List.mem_append_right _ h))) (by decide +kernel))) (goodIn_sub (fun _ h => List.mem_cons_of_mem _ (List.mem_append_right _ h)) (by decide +kernel))
set_option maxRecDepth 20000 in
theorem gX4_push_X3_pushOf : GoodIn wsX4_push (wsV RX4 154 RX3 yX3_pushOf wsX3_pushOf) := goodIn_app (goodIn_of _ (by decide +kernel)) ggX4_push_X3_pushOf
theorem dX4_push_0 : decode cX4_push 0 = .ok (.aload_n 0, 1) := by decide +kernel
theorem dX4_push_1 : decode cX4_push 1 = .ok (.getfield 14, 3) := by decide +kernel
theorem dX4_push_4 : decode cX4_push 4 = .ok (.iload_n 1, 1) := by decide +kernel
theorem dX4_push_5 : decode cX4_push 5 = .ok (.invokevirtual 54, 3) := by decide +kernel
theorem dX4_push_8 : decode cX4_push 8 = .ok (.ifCond .ne 7, 3) := by decide +kernel
theorem dX4_push_11 : decode cX4_push 11 = .ok (.sipush (-10001), 3) := by decide +kernel
theorem dX4_push_14 : decode cX4_push 14 = .ok (.ireturn, 1) := by decide +kernel
theorem dX4_push_15 : decode cX4_push 15 = .ok (.aload_n 0, 1) := by decide +kernel
theorem dX4_push_16 : decode cX4_push 16 = .ok (.getfield 14, 3) := by decide +kernel
theorem dX4_push_19 : decode cX4_push 19 = .ok (.aload_n 0, 1) := by decide +kernel
theorem dX4_push_20 : decode cX4_push 20 = .ok (.getfield 21, 3) := by decide +kernel
theorem dX4_push_23 : decode cX4_push 23 = .ok (.invokevirtual 98, 3) := by decide +kernel
theorem dX4_push_26 : decode cX4_push 26 = .ok (.aload_n 0, 1) := by decide +kernel
theorem dX4_push_27 : decode cX4_push 27 = .ok (.getfield 14, 3) := by decide +kernel
theorem dX4_push_30 : decode cX4_push 30 = .ok (.iload_n 1, 1) := by decide +kernel
theorem dX4_push_31 : decode cX4_push 31 = .ok (.aload_n 0, 1) := by decide +kernel
theorem dX4_push_32 : decode cX4_push 32 = .ok (.getfield 32, 3) := by decide +kernel
theorem dX4_push_35 : decode cX4_push 35 = .ok (.iconst 0, 1) := by decide +kernel
theorem dX4_push_36 : decode cX4_push 36 = .ok (.iaload, 1) := by decide +kernel
theorem dX4_push_37 : decode cX4_push 37 = .ok (.invokevirtual 154, 3) := by decide +kernel
theorem dX4_push_40 : decode cX4_push 40 = .ok (.ireturn, 1) := by decide +kernel
set_option maxRecDepth 20000 in
theorem ggX4_ranked_X4_isList : GoodIn wsX4_ranked wsX4_isList := goodIn_r _ [8] (by decide +kernel) (by decide +kernel)
set_option maxRecDepth 20000 in
theorem gX4_ranked_X4_isList : GoodIn wsX4_ranked (va_wsS RX4 39 yX4_isList wsX4_isList) := goodIn_app (goodIn_of _ (by decide +kernel)) ggX4_ranked_X4_isList
set_option maxRecDepth 20000 in
theorem ggX4_ranked_X3_takeScores : GoodIn wsX4_ranked wsX3_takeScores := goodIn_ca (goodIn_ca (goodIn_r _ [13, 14, 15, 16, 17, 18, 19, 20, 21, 22, 23, 24, 25, 26, 27, 28, 29, 30, 31, 32, 33, 12, 34, 35, 36, 37, 38, 39, 40, 54, 55, 56, 57, 58, 59, 60, 61, 62, 63, 64, 65, 66, 67] (by decide +kernel) (by decide +kernel)) (goodIn_sub (fun _ h => List.mem_cons_of_mem _ (List.mem_append_left _ (List.mem_append_right _ h))) (by decide +kernel))) (goodIn_sub (fun _ h => List.mem_cons_of_mem _ (List.mem_append_right _ h)) (by decide +kernel))
set_option maxRecDepth 20000 in
theorem gX4_ranked_X3_takeScores : GoodIn wsX4_ranked (wsV RX4 98 RX3 yX3_takeScores wsX3_takeScores) := goodIn_app (goodIn_of _ (by decide +kernel)) ggX4_ranked_X3_takeScores
set_option maxRecDepth 20000 in
theorem ggX4_ranked_X3_countAhead : GoodIn wsX4_ranked wsX3_countAhead := goodIn_ca (goodIn_ca (goodIn_r _ [44, 14, 45, 46, 47, 48, 12, 49, 15, 54, 55, 56, 57, 58] (by decide +kernel) (by decide +kernel)) (goodIn_sub (fun _ h => List.mem_cons_of_mem _ (List.mem_append_right _ h)) (by decide +kernel))) (goodIn_sub (fun _ h => List.mem_cons_of_mem _ (List.mem_append_left _ (List.mem_append_right _ h))) (by decide +kernel))
set_option maxRecDepth 20000 in
theorem gX4_ranked_X3_countAhead : GoodIn wsX4_ranked (wsV RX4 160 RX3 yX3_countAhead wsX3_countAhead) := goodIn_app (goodIn_of _ (by decide +kernel)) ggX4_ranked_X3_countAhead
theorem dX4_ranked_0 : decode cX4_ranked 0 = .ok (.iload_n 1, 1) := by decide +kernel
theorem dX4_ranked_1 : decode cX4_ranked 1 = .ok (.invokestatic 39, 3) := by decide +kernel
theorem dX4_ranked_4 : decode cX4_ranked 4 = .ok (.ifCond .ne 7, 3) := by decide +kernel
theorem dX4_ranked_7 : decode cX4_ranked 7 = .ok (.sipush (-10002), 3) := by decide +kernel
theorem dX4_ranked_10 : decode cX4_ranked 10 = .ok (.ireturn, 1) := by decide +kernel
theorem dX4_ranked_11 : decode cX4_ranked 11 = .ok (.aload_n 0, 1) := by decide +kernel
theorem dX4_ranked_12 : decode cX4_ranked 12 = .ok (.getfield 14, 3) := by decide +kernel
theorem dX4_ranked_15 : decode cX4_ranked 15 = .ok (.aload_n 0, 1) := by decide +kernel
theorem dX4_ranked_16 : decode cX4_ranked 16 = .ok (.getfield 21, 3) := by decide +kernel
theorem dX4_ranked_19 : decode cX4_ranked 19 = .ok (.invokevirtual 98, 3) := by decide +kernel
theorem dX4_ranked_22 : decode cX4_ranked 22 = .ok (.iconst 0, 1) := by decide +kernel
theorem dX4_ranked_23 : decode cX4_ranked 23 = .ok (.istore_n 3, 1) := by decide +kernel
theorem dX4_ranked_24 : decode cX4_ranked 24 = .ok (.iload_n 3, 1) := by decide +kernel
theorem dX4_ranked_25 : decode cX4_ranked 25 = .ok (.aload_n 0, 1) := by decide +kernel
theorem dX4_ranked_26 : decode cX4_ranked 26 = .ok (.getfield 14, 3) := by decide +kernel
theorem dX4_ranked_29 : decode cX4_ranked 29 = .ok (.getfield 46, 3) := by decide +kernel
theorem dX4_ranked_32 : decode cX4_ranked 32 = .ok (.if_icmp .ge 36, 3) := by decide +kernel
theorem dX4_ranked_35 : decode cX4_ranked 35 = .ok (.aload_n 0, 1) := by decide +kernel
theorem dX4_ranked_36 : decode cX4_ranked 36 = .ok (.getfield 14, 3) := by decide +kernel
theorem dX4_ranked_39 : decode cX4_ranked 39 = .ok (.getfield 157, 3) := by decide +kernel
theorem dX4_ranked_42 : decode cX4_ranked 42 = .ok (.iload_n 3, 1) := by decide +kernel
theorem dX4_ranked_43 : decode cX4_ranked 43 = .ok (.iaload, 1) := by decide +kernel
theorem dX4_ranked_44 : decode cX4_ranked 44 = .ok (.iload_n 1, 1) := by decide +kernel
theorem dX4_ranked_45 : decode cX4_ranked 45 = .ok (.if_icmp .ne 17, 3) := by decide +kernel
theorem dX4_ranked_48 : decode cX4_ranked 48 = .ok (.aload_n 0, 1) := by decide +kernel
theorem dX4_ranked_49 : decode cX4_ranked 49 = .ok (.getfield 14, 3) := by decide +kernel
theorem dX4_ranked_52 : decode cX4_ranked 52 = .ok (.iload_n 3, 1) := by decide +kernel
theorem dX4_ranked_53 : decode cX4_ranked 53 = .ok (.invokevirtual 160, 3) := by decide +kernel
theorem dX4_ranked_56 : decode cX4_ranked 56 = .ok (.iload_n 2, 1) := by decide +kernel
theorem dX4_ranked_57 : decode cX4_ranked 57 = .ok (.if_icmp .ne 5, 3) := by decide +kernel
theorem dX4_ranked_60 : decode cX4_ranked 60 = .ok (.iload_n 3, 1) := by decide +kernel
theorem dX4_ranked_61 : decode cX4_ranked 61 = .ok (.ireturn, 1) := by decide +kernel
theorem dX4_ranked_62 : decode cX4_ranked 62 = .ok (.iinc 3 1, 3) := by decide +kernel
theorem dX4_ranked_65 : decode cX4_ranked 65 = .ok (.goto (-41), 3) := by decide +kernel
theorem dX4_ranked_68 : decode cX4_ranked 68 = .ok (.iconst (-1), 1) := by decide +kernel
theorem dX4_ranked_69 : decode cX4_ranked 69 = .ok (.ireturn, 1) := by decide +kernel
set_option maxRecDepth 20000 in
theorem ggX4_pairs_X4_isListOrAll : GoodIn wsX4_pairs wsX4_isListOrAll := goodIn_r _ [6, 7, 8, 5, 9] (by decide +kernel) (by decide +kernel)
set_option maxRecDepth 20000 in
theorem gX4_pairs_X4_isListOrAll : GoodIn wsX4_pairs (va_wsS RX4 163 yX4_isListOrAll wsX4_isListOrAll) := goodIn_app (goodIn_of _ (by decide +kernel)) ggX4_pairs_X4_isListOrAll
set_option maxRecDepth 20000 in
theorem ggX4_pairs_X3_takeScores : GoodIn wsX4_pairs wsX3_takeScores := goodIn_ca (goodIn_ca (goodIn_r _ [14, 15, 16, 17, 18, 19, 20, 21, 22, 23, 24, 25, 26, 27, 28, 29, 30, 31, 32, 33, 34, 13, 35, 36, 37, 38, 39, 40, 41, 56, 57, 58, 59, 60, 61, 62, 63, 64, 65, 66, 67, 68, 69] (by decide +kernel) (by decide +kernel)) (goodIn_sub (fun _ h => List.mem_cons_of_mem _ (List.mem_append_left _ (List.mem_append_right _ h))) (by decide +kernel))) (goodIn_sub (fun _ h => List.mem_cons_of_mem _ (List.mem_append_right _ h)) (by decide +kernel))
set_option maxRecDepth 20000 in
theorem gX4_pairs_X3_takeScores : GoodIn wsX4_pairs (wsV RX4 98 RX3 yX3_takeScores wsX3_takeScores) := goodIn_app (goodIn_of _ (by decide +kernel)) ggX4_pairs_X3_takeScores
set_option maxRecDepth 20000 in
theorem ggX4_pairs_X3_countPairs : GoodIn wsX4_pairs wsX3_countPairs := goodIn_ca (goodIn_ca (goodIn_r _ [45, 15, 46, 16, 47, 48, 49, 13, 50, 51, 56, 57, 58, 59, 60] (by decide +kernel) (by decide +kernel)) (goodIn_sub (fun _ h => List.mem_cons_of_mem _ (List.mem_append_right _ h)) (by decide +kernel))) (goodIn_sub (fun _ h => List.mem_cons_of_mem _ (List.mem_append_left _ (List.mem_append_right _ h))) (by decide +kernel))
set_option maxRecDepth 20000 in
theorem gX4_pairs_X3_countPairs : GoodIn wsX4_pairs (wsV RX4 166 RX3 yX3_countPairs wsX3_countPairs) := goodIn_app (goodIn_of _ (by decide +kernel)) ggX4_pairs_X3_countPairs
theorem dX4_pairs_0 : decode cX4_pairs 0 = .ok (.iload_n 1, 1) := by decide +kernel
theorem dX4_pairs_1 : decode cX4_pairs 1 = .ok (.invokestatic 163, 3) := by decide +kernel
theorem dX4_pairs_4 : decode cX4_pairs 4 = .ok (.ifCond .eq 12, 3) := by decide +kernel
theorem dX4_pairs_7 : decode cX4_pairs 7 = .ok (.iload_n 2, 1) := by decide +kernel
theorem dX4_pairs_8 : decode cX4_pairs 8 = .ok (.ifCond .lt 8, 3) := by decide +kernel
theorem dX4_pairs_11 : decode cX4_pairs 11 = .ok (.iload_n 2, 1) := by decide +kernel
theorem dX4_pairs_12 : decode cX4_pairs 12 = .ok (.iconst 1, 1) := by decide +kernel
theorem dX4_pairs_13 : decode cX4_pairs 13 = .ok (.if_icmp .le 7, 3) := by decide +kernel
theorem dX4_pairs_16 : decode cX4_pairs 16 = .ok (.sipush (-10002), 3) := by decide +kernel
theorem dX4_pairs_19 : decode cX4_pairs 19 = .ok (.ireturn, 1) := by decide +kernel
theorem dX4_pairs_20 : decode cX4_pairs 20 = .ok (.aload_n 0, 1) := by decide +kernel
theorem dX4_pairs_21 : decode cX4_pairs 21 = .ok (.getfield 14, 3) := by decide +kernel
theorem dX4_pairs_24 : decode cX4_pairs 24 = .ok (.aload_n 0, 1) := by decide +kernel
theorem dX4_pairs_25 : decode cX4_pairs 25 = .ok (.getfield 21, 3) := by decide +kernel
theorem dX4_pairs_28 : decode cX4_pairs 28 = .ok (.invokevirtual 98, 3) := by decide +kernel
theorem dX4_pairs_31 : decode cX4_pairs 31 = .ok (.aload_n 0, 1) := by decide +kernel
theorem dX4_pairs_32 : decode cX4_pairs 32 = .ok (.getfield 14, 3) := by decide +kernel
theorem dX4_pairs_35 : decode cX4_pairs 35 = .ok (.iload_n 1, 1) := by decide +kernel
theorem dX4_pairs_36 : decode cX4_pairs 36 = .ok (.iload_n 2, 1) := by decide +kernel
theorem dX4_pairs_37 : decode cX4_pairs 37 = .ok (.iconst 1, 1) := by decide +kernel
theorem dX4_pairs_38 : decode cX4_pairs 38 = .ok (.if_icmp .ne 7, 3) := by decide +kernel
theorem dX4_pairs_41 : decode cX4_pairs 41 = .ok (.iconst 1, 1) := by decide +kernel
theorem dX4_pairs_42 : decode cX4_pairs 42 = .ok (.goto 4, 3) := by decide +kernel
theorem dX4_pairs_45 : decode cX4_pairs 45 = .ok (.iconst 0, 1) := by decide +kernel
theorem dX4_pairs_46 : decode cX4_pairs 46 = .ok (.invokevirtual 166, 3) := by decide +kernel
theorem dX4_pairs_49 : decode cX4_pairs 49 = .ok (.ireturn, 1) := by decide +kernel
set_option maxRecDepth 20000 in
theorem ggX4_share_X4_isListOrAll : GoodIn wsX4_share wsX4_isListOrAll := goodIn_r _ [8, 9, 10, 7, 11] (by decide +kernel) (by decide +kernel)
set_option maxRecDepth 20000 in
theorem gX4_share_X4_isListOrAll : GoodIn wsX4_share (va_wsS RX4 163 yX4_isListOrAll wsX4_isListOrAll) := goodIn_app (goodIn_of _ (by decide +kernel)) ggX4_share_X4_isListOrAll
set_option maxRecDepth 20000 in
theorem ggX4_share_X3_takeScores : GoodIn wsX4_share wsX3_takeScores := goodIn_ca (goodIn_ca (goodIn_r _ [16, 17, 18, 19, 20, 21, 22, 23, 24, 25, 26, 27, 28, 29, 30, 31, 32, 33, 34, 35, 36, 15, 37, 38, 39, 40, 41, 42, 43, 58, 59, 60, 61, 62, 63, 64, 65, 66, 67, 68, 69, 70, 71] (by decide +kernel) (by decide +kernel)) (goodIn_sub (fun _ h => List.mem_cons_of_mem _ (List.mem_append_left _ (List.mem_append_left _ (List.mem_append_left _ (List.mem_append_right _ h))))) (by decide +kernel))) (goodIn_sub (fun _ h => List.mem_cons_of_mem _ (List.mem_append_right _ h)) (by decide +kernel))
set_option maxRecDepth 20000 in
theorem gX4_share_X3_takeScores : GoodIn wsX4_share (wsV RX4 98 RX3 yX3_takeScores wsX3_takeScores) := goodIn_app (goodIn_of _ (by decide +kernel)) ggX4_share_X3_takeScores
set_option maxRecDepth 20000 in
theorem ggX4_share_X3_countPairs : GoodIn wsX4_share wsX3_countPairs := goodIn_ca (goodIn_ca (goodIn_r _ [47, 17, 48, 18, 49, 50, 51, 15, 52, 53, 58, 59, 60, 61, 62] (by decide +kernel) (by decide +kernel)) (goodIn_sub (fun _ h => List.mem_cons_of_mem _ (List.mem_append_right _ h)) (by decide +kernel))) (goodIn_sub (fun _ h => List.mem_cons_of_mem _ (List.mem_append_left _ (List.mem_append_left _ (List.mem_append_left _ (List.mem_append_right _ h))))) (by decide +kernel))
set_option maxRecDepth 20000 in
theorem gX4_share_X3_countPairs : GoodIn wsX4_share (wsV RX4 166 RX3 yX3_countPairs wsX3_countPairs) := goodIn_app (goodIn_of _ (by decide +kernel)) ggX4_share_X3_countPairs
theorem dX4_share_0 : decode cX4_share 0 = .ok (.iload_n 1, 1) := by decide +kernel
theorem dX4_share_1 : decode cX4_share 1 = .ok (.invokestatic 163, 3) := by decide +kernel
theorem dX4_share_4 : decode cX4_share 4 = .ok (.ifCond .ne 7, 3) := by decide +kernel
theorem dX4_share_7 : decode cX4_share 7 = .ok (.sipush (-10002), 3) := by decide +kernel
theorem dX4_share_10 : decode cX4_share 10 = .ok (.ireturn, 1) := by decide +kernel
theorem dX4_share_11 : decode cX4_share 11 = .ok (.aload_n 0, 1) := by decide +kernel
theorem dX4_share_12 : decode cX4_share 12 = .ok (.getfield 14, 3) := by decide +kernel
theorem dX4_share_15 : decode cX4_share 15 = .ok (.aload_n 0, 1) := by decide +kernel
theorem dX4_share_16 : decode cX4_share 16 = .ok (.getfield 21, 3) := by decide +kernel
theorem dX4_share_19 : decode cX4_share 19 = .ok (.invokevirtual 98, 3) := by decide +kernel
theorem dX4_share_22 : decode cX4_share 22 = .ok (.aload_n 0, 1) := by decide +kernel
theorem dX4_share_23 : decode cX4_share 23 = .ok (.getfield 14, 3) := by decide +kernel
theorem dX4_share_26 : decode cX4_share 26 = .ok (.iload_n 1, 1) := by decide +kernel
theorem dX4_share_27 : decode cX4_share 27 = .ok (.iconst 0, 1) := by decide +kernel
theorem dX4_share_28 : decode cX4_share 28 = .ok (.invokevirtual 166, 3) := by decide +kernel
theorem dX4_share_31 : decode cX4_share 31 = .ok (.istore_n 2, 1) := by decide +kernel
theorem dX4_share_32 : decode cX4_share 32 = .ok (.iload_n 2, 1) := by decide +kernel
theorem dX4_share_33 : decode cX4_share 33 = .ok (.ifCond .ne 13, 3) := by decide +kernel
theorem dX4_share_36 : decode cX4_share 36 = .ok (.new 170, 3) := by decide +kernel
theorem dX4_share_39 : decode cX4_share 39 = .ok (.dup, 1) := by decide +kernel
theorem dX4_share_40 : decode cX4_share 40 = .ok (.ldc 172, 2) := by decide +kernel
theorem dX4_share_42 : decode cX4_share 42 = .ok (.invokespecial 174, 3) := by decide +kernel
theorem dX4_share_45 : decode cX4_share 45 = .ok (.athrow, 1) := by decide +kernel
theorem dX4_share_46 : decode cX4_share 46 = .ok (.aload_n 0, 1) := by decide +kernel
theorem dX4_share_47 : decode cX4_share 47 = .ok (.getfield 14, 3) := by decide +kernel
theorem dX4_share_50 : decode cX4_share 50 = .ok (.iload_n 1, 1) := by decide +kernel
theorem dX4_share_51 : decode cX4_share 51 = .ok (.iconst 1, 1) := by decide +kernel
theorem dX4_share_52 : decode cX4_share 52 = .ok (.invokevirtual 166, 3) := by decide +kernel
theorem dX4_share_55 : decode cX4_share 55 = .ok (.sipush 1000, 3) := by decide +kernel
theorem dX4_share_58 : decode cX4_share 58 = .ok (.imul, 1) := by decide +kernel
theorem dX4_share_59 : decode cX4_share 59 = .ok (.iload_n 2, 1) := by decide +kernel
theorem dX4_share_60 : decode cX4_share 60 = .ok (.idiv, 1) := by decide +kernel
theorem dX4_share_61 : decode cX4_share 61 = .ok (.ireturn, 1) := by decide +kernel
set_option maxRecDepth 20000 in
theorem ggX4_about_X1_countLeaves : GoodIn wsX4_about wsX1_countLeaves := goodIn_ca (goodIn_ca (goodIn_r _ [9, 10, 26, 27, 28, 29, 30, 31, 32, 33, 34] (by decide +kernel) (by decide +kernel)) (goodIn_sub (fun _ h => List.mem_cons_of_mem _ (List.mem_append_right _ h)) (by decide +kernel))) (goodIn_sub (fun _ h => List.mem_cons_of_mem _ (List.mem_append_left _ (List.mem_append_right _ h))) (by decide +kernel))
set_option maxRecDepth 20000 in
theorem gX4_about_X1_countLeaves : GoodIn wsX4_about (wsV RX4 110 RX1 yX1_countLeaves wsX1_countLeaves) := goodIn_app (goodIn_of _ (by decide +kernel)) ggX4_about_X1_countLeaves
set_option maxRecDepth 20000 in
theorem ggX4_about_X1_countCutsBy : GoodIn wsX4_about wsX1_countCutsBy := goodIn_ca (goodIn_ca (goodIn_r _ [14, 15, 10, 16, 26, 27, 28, 29, 30, 31, 32, 33, 34] (by decide +kernel) (by decide +kernel)) (goodIn_sub (fun _ h => List.mem_cons_of_mem _ (List.mem_append_right _ h)) (by decide +kernel))) (goodIn_sub (fun _ h => List.mem_cons_of_mem _ (List.mem_append_left _ (List.mem_append_right _ h))) (by decide +kernel))
set_option maxRecDepth 20000 in
theorem gX4_about_X1_countCutsBy : GoodIn wsX4_about (wsV RX4 175 RX1 yX1_countCutsBy wsX1_countCutsBy) := goodIn_app (goodIn_of _ (by decide +kernel)) ggX4_about_X1_countCutsBy
theorem dX4_about_0 : decode cX4_about 0 = .ok (.iload_n 1, 1) := by decide +kernel
theorem dX4_about_1 : decode cX4_about 1 = .ok (.tableswitch 115 0 13 #[71, 79, 87, 115, 115, 115, 115, 115, 115, 115, 103, 103, 103, 103], 71) := by decide +kernel
theorem dX4_about_72 : decode cX4_about 72 = .ok (.aload_n 0, 1) := by decide +kernel
theorem dX4_about_73 : decode cX4_about 73 = .ok (.getfield 14, 3) := by decide +kernel
theorem dX4_about_76 : decode cX4_about 76 = .ok (.getfield 46, 3) := by decide +kernel
theorem dX4_about_79 : decode cX4_about 79 = .ok (.ireturn, 1) := by decide +kernel
theorem dX4_about_80 : decode cX4_about 80 = .ok (.aload_n 0, 1) := by decide +kernel
theorem dX4_about_81 : decode cX4_about 81 = .ok (.getfield 21, 3) := by decide +kernel
theorem dX4_about_84 : decode cX4_about 84 = .ok (.getfield 97, 3) := by decide +kernel
theorem dX4_about_87 : decode cX4_about 87 = .ok (.ireturn, 1) := by decide +kernel
theorem dX4_about_88 : decode cX4_about 88 = .ok (.aload_n 0, 1) := by decide +kernel
theorem dX4_about_89 : decode cX4_about 89 = .ok (.getfield 21, 3) := by decide +kernel
theorem dX4_about_92 : decode cX4_about 92 = .ok (.iconst 0, 1) := by decide +kernel
theorem dX4_about_93 : decode cX4_about 93 = .ok (.aload_n 0, 1) := by decide +kernel
theorem dX4_about_94 : decode cX4_about 94 = .ok (.getfield 21, 3) := by decide +kernel
theorem dX4_about_97 : decode cX4_about 97 = .ok (.getfield 97, 3) := by decide +kernel
theorem dX4_about_100 : decode cX4_about 100 = .ok (.invokevirtual 110, 3) := by decide +kernel
theorem dX4_about_103 : decode cX4_about 103 = .ok (.ireturn, 1) := by decide +kernel
theorem dX4_about_104 : decode cX4_about 104 = .ok (.aload_n 0, 1) := by decide +kernel
theorem dX4_about_105 : decode cX4_about 105 = .ok (.getfield 21, 3) := by decide +kernel
theorem dX4_about_108 : decode cX4_about 108 = .ok (.iload_n 1, 1) := by decide +kernel
theorem dX4_about_109 : decode cX4_about 109 = .ok (.bipush 10, 2) := by decide +kernel
theorem dX4_about_111 : decode cX4_about 111 = .ok (.isub, 1) := by decide +kernel
theorem dX4_about_112 : decode cX4_about 112 = .ok (.invokevirtual 175, 3) := by decide +kernel
theorem dX4_about_115 : decode cX4_about 115 = .ok (.ireturn, 1) := by decide +kernel
theorem dX4_about_116 : decode cX4_about 116 = .ok (.sipush (-10002), 3) := by decide +kernel
theorem dX4_about_119 : decode cX4_about 119 = .ok (.ireturn, 1) := by decide +kernel
set_option maxRecDepth 20000 in
theorem ggX4_clear_X4_startAnew : GoodIn wsX4_clear wsX4_startAnew := goodIn_ca (goodIn_r _ [7, 1, 2, 8, 9, 10, 11, 12, 13, 14, 15, 16, 17, 18, 19, 20, 21, 22, 23, 24, 25, 26, 27, 28, 29, 30, 31, 32, 33, 34, 35, 36, 37, 38, 39, 40, 41, 42, 43, 44, 45, 46, 47, 48, 49, 50, 51, 52, 53, 54, 55, 56] (by decide +kernel) (by decide +kernel)) (goodIn_sub (fun _ h => List.mem_cons_of_mem _ (List.mem_append_right _ h)) (by decide +kernel))
set_option maxRecDepth 20000 in
theorem gX4_clear_X4_startAnew : GoodIn wsX4_clear (wsV RX4 36 RX4 yX4_startAnew wsX4_startAnew) := goodIn_app (goodIn_of _ (by decide +kernel)) ggX4_clear_X4_startAnew
theorem dX4_clear_0 : decode cX4_clear 0 = .ok (.aload_n 0, 1) := by decide +kernel
theorem dX4_clear_1 : decode cX4_clear 1 = .ok (.getfield 14, 3) := by decide +kernel
theorem dX4_clear_4 : decode cX4_clear 4 = .ok (.getfield 46, 3) := by decide +kernel
theorem dX4_clear_7 : decode cX4_clear 7 = .ok (.istore_n 1, 1) := by decide +kernel
theorem dX4_clear_8 : decode cX4_clear 8 = .ok (.aload_n 0, 1) := by decide +kernel
theorem dX4_clear_9 : decode cX4_clear 9 = .ok (.invokevirtual 36, 3) := by decide +kernel
theorem dX4_clear_12 : decode cX4_clear 12 = .ok (.iload_n 1, 1) := by decide +kernel
theorem dX4_clear_13 : decode cX4_clear 13 = .ok (.ireturn, 1) := by decide +kernel
set_option maxRecDepth 20000 in
theorem ggX4_startAnew_X3_forgetRow : GoodIn wsX4_startAnew wsX3_forgetRow := goodIn_r _ [15, 16, 17, 18, 19, 20, 21, 22, 23, 24, 25, 26, 27, 32, 33, 34, 35, 36, 46, 47, 48, 49, 50, 51] (by decide +kernel) (by decide +kernel)
set_option maxRecDepth 20000 in
theorem gX4_startAnew_X3_forgetRow : GoodIn wsX4_startAnew (wsV RX4 178 RX3 yX3_forgetRow wsX3_forgetRow) := goodIn_app (goodIn_of _ (by decide +kernel)) ggX4_startAnew_X3_forgetRow
theorem dX4_startAnew_0 : decode cX4_startAnew 0 = .ok (.aload_n 0, 1) := by decide +kernel
theorem dX4_startAnew_1 : decode cX4_startAnew 1 = .ok (.getfield 14, 3) := by decide +kernel
theorem dX4_startAnew_4 : decode cX4_startAnew 4 = .ok (.iconst 0, 1) := by decide +kernel
theorem dX4_startAnew_5 : decode cX4_startAnew 5 = .ok (.putfield 46, 3) := by decide +kernel
theorem dX4_startAnew_8 : decode cX4_startAnew 8 = .ok (.aload_n 0, 1) := by decide +kernel
theorem dX4_startAnew_9 : decode cX4_startAnew 9 = .ok (.getfield 14, 3) := by decide +kernel
theorem dX4_startAnew_12 : decode cX4_startAnew 12 = .ok (.bipush 24, 2) := by decide +kernel
theorem dX4_startAnew_14 : decode cX4_startAnew 14 = .ok (.invokevirtual 178, 3) := by decide +kernel
theorem dX4_startAnew_17 : decode cX4_startAnew 17 = .ok (.aload_n 0, 1) := by decide +kernel
theorem dX4_startAnew_18 : decode cX4_startAnew 18 = .ok (.getfield 21, 3) := by decide +kernel
theorem dX4_startAnew_21 : decode cX4_startAnew 21 = .ok (.iconst 0, 1) := by decide +kernel
theorem dX4_startAnew_22 : decode cX4_startAnew 22 = .ok (.putfield 97, 3) := by decide +kernel
theorem dX4_startAnew_25 : decode cX4_startAnew 25 = .ok (.getstatic 182, 3) := by decide +kernel
theorem dX4_startAnew_28 : decode cX4_startAnew 28 = .ok (.iconst 0, 1) := by decide +kernel
theorem dX4_startAnew_29 : decode cX4_startAnew 29 = .ok (.aload_n 0, 1) := by decide +kernel
theorem dX4_startAnew_30 : decode cX4_startAnew 30 = .ok (.getfield 32, 3) := by decide +kernel
theorem dX4_startAnew_33 : decode cX4_startAnew 33 = .ok (.iconst 0, 1) := by decide +kernel
theorem dX4_startAnew_34 : decode cX4_startAnew 34 = .ok (.iconst 4, 1) := by decide +kernel
theorem dX4_startAnew_35 : decode cX4_startAnew 35 = .ok (.invokestatic 185, 3) := by decide +kernel
theorem dX4_startAnew_38 : decode cX4_startAnew 38 = .ok (.return_, 1) := by decide +kernel
theorem dX4_isList_0 : decode cX4_isList 0 = .ok (.iload_n 0, 1) := by decide +kernel
theorem dX4_isList_1 : decode cX4_isList 1 = .ok (.ifCond .lt 12, 3) := by decide +kernel
theorem dX4_isList_4 : decode cX4_isList 4 = .ok (.iload_n 0, 1) := by decide +kernel
theorem dX4_isList_5 : decode cX4_isList 5 = .ok (.iconst 4, 1) := by decide +kernel
theorem dX4_isList_6 : decode cX4_isList 6 = .ok (.if_icmp .ge 7, 3) := by decide +kernel
theorem dX4_isList_9 : decode cX4_isList 9 = .ok (.iconst 1, 1) := by decide +kernel
theorem dX4_isList_10 : decode cX4_isList 10 = .ok (.goto 4, 3) := by decide +kernel
theorem dX4_isList_13 : decode cX4_isList 13 = .ok (.iconst 0, 1) := by decide +kernel
theorem dX4_isList_14 : decode cX4_isList 14 = .ok (.ireturn, 1) := by decide +kernel
set_option maxRecDepth 20000 in
theorem ggX4_isListOrAll_X4_isList : GoodIn wsX4_isListOrAll wsX4_isList := goodIn_r _ [4] (by decide +kernel) (by decide +kernel)
set_option maxRecDepth 20000 in
theorem gX4_isListOrAll_X4_isList : GoodIn wsX4_isListOrAll (va_wsS RX4 39 yX4_isList wsX4_isList) := goodIn_app (goodIn_of _ (by decide +kernel)) ggX4_isListOrAll_X4_isList
theorem dX4_isListOrAll_0 : decode cX4_isListOrAll 0 = .ok (.iload_n 0, 1) := by decide +kernel
theorem dX4_isListOrAll_1 : decode cX4_isListOrAll 1 = .ok (.iconst (-1), 1) := by decide +kernel
theorem dX4_isListOrAll_2 : decode cX4_isListOrAll 2 = .ok (.if_icmp .eq 10, 3) := by decide +kernel
theorem dX4_isListOrAll_5 : decode cX4_isListOrAll 5 = .ok (.iload_n 0, 1) := by decide +kernel
theorem dX4_isListOrAll_6 : decode cX4_isListOrAll 6 = .ok (.invokestatic 39, 3) := by decide +kernel
theorem dX4_isListOrAll_9 : decode cX4_isListOrAll 9 = .ok (.ifCond .eq 7, 3) := by decide +kernel
theorem dX4_isListOrAll_12 : decode cX4_isListOrAll 12 = .ok (.iconst 1, 1) := by decide +kernel
theorem dX4_isListOrAll_13 : decode cX4_isListOrAll 13 = .ok (.goto 4, 3) := by decide +kernel
theorem dX4_isListOrAll_16 : decode cX4_isListOrAll 16 = .ok (.iconst 0, 1) := by decide +kernel
theorem dX4_isListOrAll_17 : decode cX4_isListOrAll 17 = .ok (.ireturn, 1) := by decide +kernel
theorem dX4_isGrade_0 : decode cX4_isGrade 0 = .ok (.iload_n 0, 1) := by decide +kernel
theorem dX4_isGrade_1 : decode cX4_isGrade 1 = .ok (.ifCond .lt 12, 3) := by decide +kernel
theorem dX4_isGrade_4 : decode cX4_isGrade 4 = .ok (.iload_n 0, 1) := by decide +kernel
theorem dX4_isGrade_5 : decode cX4_isGrade 5 = .ok (.iconst 4, 1) := by decide +kernel
theorem dX4_isGrade_6 : decode cX4_isGrade 6 = .ok (.if_icmp .gt 7, 3) := by decide +kernel
theorem dX4_isGrade_9 : decode cX4_isGrade 9 = .ok (.iconst 1, 1) := by decide +kernel
theorem dX4_isGrade_10 : decode cX4_isGrade 10 = .ok (.goto 4, 3) := by decide +kernel
theorem dX4_isGrade_13 : decode cX4_isGrade 13 = .ok (.iconst 0, 1) := by decide +kernel
theorem dX4_isGrade_14 : decode cX4_isGrade 14 = .ok (.ireturn, 1) := by decide +kernel
theorem dX4_isFeature_0 : decode cX4_isFeature 0 = .ok (.iload_n 0, 1) := by decide +kernel
theorem dX4_isFeature_1 : decode cX4_isFeature 1 = .ok (.ifCond .lt 12, 3) := by decide +kernel
theorem dX4_isFeature_4 : decode cX4_isFeature 4 = .ok (.iload_n 0, 1) := by decide +kernel
theorem dX4_isFeature_5 : decode cX4_isFeature 5 = .ok (.iconst 4, 1) := by decide +kernel
theorem dX4_isFeature_6 : decode cX4_isFeature 6 = .ok (.if_icmp .ge 7, 3) := by decide +kernel
theorem dX4_isFeature_9 : decode cX4_isFeature 9 = .ok (.iconst 1, 1) := by decide +kernel
theorem dX4_isFeature_10 : decode cX4_isFeature 10 = .ok (.goto 4, 3) := by decide +kernel
theorem dX4_isFeature_13 : decode cX4_isFeature 13 = .ok (.iconst 0, 1) := by decide +kernel
theorem dX4_isFeature_14 : decode cX4_isFeature 14 = .ok (.ireturn, 1) := by decide +kernel
end
section
set_option maxRecDepth 20000 in
theorem ggX5_init_X5_begins : GoodIn wsX5_init wsX5_begins := goodIn_ca (goodIn_ca (goodIn_r _ [27, 28, 29, 9, 10, 30, 31, 32, 33, 34, 35, 36, 37, 38, 39, 40, 41, 42, 43, 44, 45, 46, 47, 48, 49, 50, 51, 52, 53] (by decide +kernel) (by decide +kernel)) (goodIn_sub (fun _ h => List.mem_cons_of_mem _ (List.mem_append_right _ h)) (by decide +kernel))) (goodIn_sub (fun _ h => List.mem_cons_of_mem _ (List.mem_append_left _ (List.mem_append_right _ h))) (by decide +kernel))
set_option maxRecDepth 20000 in
theorem gX5_init_X5_begins : GoodIn wsX5_init (wsV RX5 60 RX5 yX5_begins wsX5_begins) := goodIn_app (goodIn_of _ (by decide +kernel)) ggX5_init_X5_begins
theorem dX5_init_0 : decode cX5_init 0 = .ok (.aload_n 0, 1) := by decide +kernel
theorem dX5_init_1 : decode cX5_init 1 = .ok (.invokespecial 1, 3) := by decide +kernel
theorem dX5_init_4 : decode cX5_init 4 = .ok (.aload_n 0, 1) := by decide +kernel
theorem dX5_init_5 : decode cX5_init 5 = .ok (.bipush 24, 2) := by decide +kernel
theorem dX5_init_7 : decode cX5_init 7 = .ok (.newarray .int, 2) := by decide +kernel
theorem dX5_init_9 : decode cX5_init 9 = .ok (.putfield 7, 3) := by decide +kernel
theorem dX5_init_12 : decode cX5_init 12 = .ok (.aload_n 0, 1) := by decide +kernel
theorem dX5_init_13 : decode cX5_init 13 = .ok (.bipush 24, 2) := by decide +kernel
theorem dX5_init_15 : decode cX5_init 15 = .ok (.newarray .int, 2) := by decide +kernel
theorem dX5_init_17 : decode cX5_init 17 = .ok (.putfield 13, 3) := by decide +kernel
theorem dX5_init_20 : decode cX5_init 20 = .ok (.aload_n 0, 1) := by decide +kernel
theorem dX5_init_21 : decode cX5_init 21 = .ok (.bipush 100, 2) := by decide +kernel
theorem dX5_init_23 : decode cX5_init 23 = .ok (.newarray .int, 2) := by decide +kernel
theorem dX5_init_25 : decode cX5_init 25 = .ok (.putfield 16, 3) := by decide +kernel
theorem dX5_init_28 : decode cX5_init 28 = .ok (.aload_n 0, 1) := by decide +kernel
theorem dX5_init_29 : decode cX5_init 29 = .ok (.bipush 100, 2) := by decide +kernel
theorem dX5_init_31 : decode cX5_init 31 = .ok (.newarray .boolean, 2) := by decide +kernel
theorem dX5_init_33 : decode cX5_init 33 = .ok (.putfield 19, 3) := by decide +kernel
theorem dX5_init_36 : decode cX5_init 36 = .ok (.aload_n 0, 1) := by decide +kernel
theorem dX5_init_37 : decode cX5_init 37 = .ok (.iconst 4, 1) := by decide +kernel
theorem dX5_init_38 : decode cX5_init 38 = .ok (.newarray .int, 2) := by decide +kernel
theorem dX5_init_40 : decode cX5_init 40 = .ok (.putfield 23, 3) := by decide +kernel
theorem dX5_init_43 : decode cX5_init 43 = .ok (.aload_n 0, 1) := by decide +kernel
theorem dX5_init_44 : decode cX5_init 44 = .ok (.sipush 300, 3) := by decide +kernel
theorem dX5_init_47 : decode cX5_init 47 = .ok (.newarray .int, 2) := by decide +kernel
theorem dX5_init_49 : decode cX5_init 49 = .ok (.putfield 26, 3) := by decide +kernel
theorem dX5_init_52 : decode cX5_init 52 = .ok (.aload_n 0, 1) := by decide +kernel
theorem dX5_init_53 : decode cX5_init 53 = .ok (.sipush 300, 3) := by decide +kernel
theorem dX5_init_56 : decode cX5_init 56 = .ok (.newarray .int, 2) := by decide +kernel
theorem dX5_init_58 : decode cX5_init 58 = .ok (.putfield 29, 3) := by decide +kernel
theorem dX5_init_61 : decode cX5_init 61 = .ok (.aload_n 0, 1) := by decide +kernel
theorem dX5_init_62 : decode cX5_init 62 = .ok (.sipush 300, 3) := by decide +kernel
theorem dX5_init_65 : decode cX5_init 65 = .ok (.newarray .int, 2) := by decide +kernel
theorem dX5_init_67 : decode cX5_init 67 = .ok (.putfield 32, 3) := by decide +kernel
theorem dX5_init_70 : decode cX5_init 70 = .ok (.aload_n 0, 1) := by decide +kernel
theorem dX5_init_71 : decode cX5_init 71 = .ok (.sipush 300, 3) := by decide +kernel
theorem dX5_init_74 : decode cX5_init 74 = .ok (.newarray .int, 2) := by decide +kernel
theorem dX5_init_76 : decode cX5_init 76 = .ok (.putfield 35, 3) := by decide +kernel
theorem dX5_init_79 : decode cX5_init 79 = .ok (.aload_n 0, 1) := by decide +kernel
theorem dX5_init_80 : decode cX5_init 80 = .ok (.sipush 300, 3) := by decide +kernel
theorem dX5_init_83 : decode cX5_init 83 = .ok (.newarray .int, 2) := by decide +kernel
theorem dX5_init_85 : decode cX5_init 85 = .ok (.putfield 38, 3) := by decide +kernel
theorem dX5_init_88 : decode cX5_init 88 = .ok (.aload_n 0, 1) := by decide +kernel
theorem dX5_init_89 : decode cX5_init 89 = .ok (.sipush 300, 3) := by decide +kernel
theorem dX5_init_92 : decode cX5_init 92 = .ok (.newarray .int, 2) := by decide +kernel
theorem dX5_init_94 : decode cX5_init 94 = .ok (.putfield 41, 3) := by decide +kernel
theorem dX5_init_97 : decode cX5_init 97 = .ok (.aload_n 0, 1) := by decide +kernel
theorem dX5_init_98 : decode cX5_init 98 = .ok (.sipush 300, 3) := by decide +kernel
theorem dX5_init_101 : decode cX5_init 101 = .ok (.newarray .long, 2) := by decide +kernel
theorem dX5_init_103 : decode cX5_init 103 = .ok (.putfield 44, 3) := by decide +kernel
theorem dX5_init_106 : decode cX5_init 106 = .ok (.aload_n 0, 1) := by decide +kernel
theorem dX5_init_107 : decode cX5_init 107 = .ok (.sipush 300, 3) := by decide +kernel
theorem dX5_init_110 : decode cX5_init 110 = .ok (.newarray .long, 2) := by decide +kernel
theorem dX5_init_112 : decode cX5_init 112 = .ok (.putfield 48, 3) := by decide +kernel
theorem dX5_init_115 : decode cX5_init 115 = .ok (.aload_n 0, 1) := by decide +kernel
theorem dX5_init_116 : decode cX5_init 116 = .ok (.bipush 24, 2) := by decide +kernel
theorem dX5_init_118 : decode cX5_init 118 = .ok (.newarray .long, 2) := by decide +kernel
theorem dX5_init_120 : decode cX5_init 120 = .ok (.putfield 51, 3) := by decide +kernel
theorem dX5_init_123 : decode cX5_init 123 = .ok (.aload_n 0, 1) := by decide +kernel
theorem dX5_init_124 : decode cX5_init 124 = .ok (.bipush 24, 2) := by decide +kernel
theorem dX5_init_126 : decode cX5_init 126 = .ok (.newarray .int, 2) := by decide +kernel
theorem dX5_init_128 : decode cX5_init 128 = .ok (.putfield 54, 3) := by decide +kernel
theorem dX5_init_131 : decode cX5_init 131 = .ok (.aload_n 0, 1) := by decide +kernel
theorem dX5_init_132 : decode cX5_init 132 = .ok (.bipush 24, 2) := by decide +kernel
theorem dX5_init_134 : decode cX5_init 134 = .ok (.newarray .int, 2) := by decide +kernel
theorem dX5_init_136 : decode cX5_init 136 = .ok (.putfield 57, 3) := by decide +kernel
theorem dX5_init_139 : decode cX5_init 139 = .ok (.aload_n 0, 1) := by decide +kernel
theorem dX5_init_140 : decode cX5_init 140 = .ok (.invokevirtual 60, 3) := by decide +kernel
theorem dX5_init_143 : decode cX5_init 143 = .ok (.return_, 1) := by decide +kernel
theorem dX5_begins_0 : decode cX5_begins 0 = .ok (.aload_n 0, 1) := by decide +kernel
theorem dX5_begins_1 : decode cX5_begins 1 = .ok (.iconst 0, 1) := by decide +kernel
theorem dX5_begins_2 : decode cX5_begins 2 = .ok (.putfield 63, 3) := by decide +kernel
theorem dX5_begins_5 : decode cX5_begins 5 = .ok (.aload_n 0, 1) := by decide +kernel
theorem dX5_begins_6 : decode cX5_begins 6 = .ok (.iconst 0, 1) := by decide +kernel
theorem dX5_begins_7 : decode cX5_begins 7 = .ok (.putfield 67, 3) := by decide +kernel
theorem dX5_begins_10 : decode cX5_begins 10 = .ok (.iconst 0, 1) := by decide +kernel
theorem dX5_begins_11 : decode cX5_begins 11 = .ok (.istore_n 1, 1) := by decide +kernel
theorem dX5_begins_12 : decode cX5_begins 12 = .ok (.iload_n 1, 1) := by decide +kernel
theorem dX5_begins_13 : decode cX5_begins 13 = .ok (.bipush 100, 2) := by decide +kernel
theorem dX5_begins_15 : decode cX5_begins 15 = .ok (.if_icmp .ge 16, 3) := by decide +kernel
theorem dX5_begins_18 : decode cX5_begins 18 = .ok (.aload_n 0, 1) := by decide +kernel
theorem dX5_begins_19 : decode cX5_begins 19 = .ok (.getfield 19, 3) := by decide +kernel
theorem dX5_begins_22 : decode cX5_begins 22 = .ok (.iload_n 1, 1) := by decide +kernel
theorem dX5_begins_23 : decode cX5_begins 23 = .ok (.iconst 0, 1) := by decide +kernel
theorem dX5_begins_24 : decode cX5_begins 24 = .ok (.bastore, 1) := by decide +kernel
theorem dX5_begins_25 : decode cX5_begins 25 = .ok (.iinc 1 1, 3) := by decide +kernel
theorem dX5_begins_28 : decode cX5_begins 28 = .ok (.goto (-16), 3) := by decide +kernel
theorem dX5_begins_31 : decode cX5_begins 31 = .ok (.aload_n 0, 1) := by decide +kernel
theorem dX5_begins_32 : decode cX5_begins 32 = .ok (.getfield 23, 3) := by decide +kernel
theorem dX5_begins_35 : decode cX5_begins 35 = .ok (.iconst 0, 1) := by decide +kernel
theorem dX5_begins_36 : decode cX5_begins 36 = .ok (.bipush 10, 2) := by decide +kernel
theorem dX5_begins_38 : decode cX5_begins 38 = .ok (.iastore, 1) := by decide +kernel
theorem dX5_begins_39 : decode cX5_begins 39 = .ok (.aload_n 0, 1) := by decide +kernel
theorem dX5_begins_40 : decode cX5_begins 40 = .ok (.getfield 23, 3) := by decide +kernel
theorem dX5_begins_43 : decode cX5_begins 43 = .ok (.iconst 1, 1) := by decide +kernel
theorem dX5_begins_44 : decode cX5_begins 44 = .ok (.bipush 10, 2) := by decide +kernel
theorem dX5_begins_46 : decode cX5_begins 46 = .ok (.iastore, 1) := by decide +kernel
theorem dX5_begins_47 : decode cX5_begins 47 = .ok (.aload_n 0, 1) := by decide +kernel
theorem dX5_begins_48 : decode cX5_begins 48 = .ok (.getfield 23, 3) := by decide +kernel
theorem dX5_begins_51 : decode cX5_begins 51 = .ok (.iconst 2, 1) := by decide +kernel
theorem dX5_begins_52 : decode cX5_begins 52 = .ok (.iconst 2, 1) := by decide +kernel
theorem dX5_begins_53 : decode cX5_begins 53 = .ok (.iastore, 1) := by decide +kernel
theorem dX5_begins_54 : decode cX5_begins 54 = .ok (.aload_n 0, 1) := by decide +kernel
theorem dX5_begins_55 : decode cX5_begins 55 = .ok (.getfield 23, 3) := by decide +kernel
theorem dX5_begins_58 : decode cX5_begins 58 = .ok (.iconst 3, 1) := by decide +kernel
theorem dX5_begins_59 : decode cX5_begins 59 = .ok (.iconst 1, 1) := by decide +kernel
theorem dX5_begins_60 : decode cX5_begins 60 = .ok (.iastore, 1) := by decide +kernel
theorem dX5_begins_61 : decode cX5_begins 61 = .ok (.return_, 1) := by decide +kernel
theorem dX5_thrown_0 : decode cX5_thrown 0 = .ok (.aload_n 0, 1) := by decide +kernel
theorem dX5_thrown_1 : decode cX5_thrown 1 = .ok (.getfield 70, 3) := by decide +kernel
theorem dX5_thrown_4 : decode cX5_thrown 4 = .ok (.ireturn, 1) := by decide +kernel
theorem dX5_in_0 : decode cX5_in 0 = .ok (.iload_n 0, 1) := by decide +kernel
theorem dX5_in_1 : decode cX5_in 1 = .ok (.iload_n 1, 1) := by decide +kernel
theorem dX5_in_2 : decode cX5_in 2 = .ok (.if_icmp .lt 12, 3) := by decide +kernel
theorem dX5_in_5 : decode cX5_in 5 = .ok (.iload_n 0, 1) := by decide +kernel
theorem dX5_in_6 : decode cX5_in 6 = .ok (.iload_n 2, 1) := by decide +kernel
theorem dX5_in_7 : decode cX5_in 7 = .ok (.if_icmp .gt 7, 3) := by decide +kernel
theorem dX5_in_10 : decode cX5_in 10 = .ok (.iconst 1, 1) := by decide +kernel
theorem dX5_in_11 : decode cX5_in 11 = .ok (.goto 4, 3) := by decide +kernel
theorem dX5_in_14 : decode cX5_in 14 = .ok (.iconst 0, 1) := by decide +kernel
theorem dX5_in_15 : decode cX5_in 15 = .ok (.ireturn, 1) := by decide +kernel
set_option maxRecDepth 20000 in
theorem ggX5_isThing_X5_in : GoodIn wsX5_isThing wsX5_in := goodIn_r _ [5] (by decide +kernel) (by decide +kernel)
set_option maxRecDepth 20000 in
theorem gX5_isThing_X5_in : GoodIn wsX5_isThing (va_wsS RX5 73 yX5_in wsX5_in) := goodIn_app (goodIn_of _ (by decide +kernel)) ggX5_isThing_X5_in
theorem dX5_isThing_0 : decode cX5_isThing 0 = .ok (.iload_n 1, 1) := by decide +kernel
theorem dX5_isThing_1 : decode cX5_isThing 1 = .ok (.iconst 0, 1) := by decide +kernel
theorem dX5_isThing_2 : decode cX5_isThing 2 = .ok (.aload_n 0, 1) := by decide +kernel
theorem dX5_isThing_3 : decode cX5_isThing 3 = .ok (.getfield 63, 3) := by decide +kernel
theorem dX5_isThing_6 : decode cX5_isThing 6 = .ok (.iconst 1, 1) := by decide +kernel
theorem dX5_isThing_7 : decode cX5_isThing 7 = .ok (.isub, 1) := by decide +kernel
theorem dX5_isThing_8 : decode cX5_isThing 8 = .ok (.invokestatic 73, 3) := by decide +kernel
theorem dX5_isThing_11 : decode cX5_isThing 11 = .ok (.ireturn, 1) := by decide +kernel
set_option maxRecDepth 20000 in
theorem ggX5_isAny_X5_isThing : GoodIn wsX5_isAny wsX5_isThing := goodIn_r _ [5, 6, 7, 8, 4, 9, 10, 11, 12, 13, 14, 15, 16, 17, 18, 19, 20, 21, 22, 23, 24, 25, 26, 27, 28, 29, 30, 31, 32, 33] (by decide +kernel) (by decide +kernel)
set_option maxRecDepth 20000 in
theorem gX5_isAny_X5_isThing : GoodIn wsX5_isAny (wsV RX5 77 RX5 yX5_isThing wsX5_isThing) := goodIn_app (goodIn_of _ (by decide +kernel)) ggX5_isAny_X5_isThing
theorem dX5_isAny_0 : decode cX5_isAny 0 = .ok (.iload_n 1, 1) := by decide +kernel
theorem dX5_isAny_1 : decode cX5_isAny 1 = .ok (.iconst (-1), 1) := by decide +kernel
theorem dX5_isAny_2 : decode cX5_isAny 2 = .ok (.if_icmp .eq 11, 3) := by decide +kernel
theorem dX5_isAny_5 : decode cX5_isAny 5 = .ok (.aload_n 0, 1) := by decide +kernel
theorem dX5_isAny_6 : decode cX5_isAny 6 = .ok (.iload_n 1, 1) := by decide +kernel
theorem dX5_isAny_7 : decode cX5_isAny 7 = .ok (.invokevirtual 77, 3) := by decide +kernel
theorem dX5_isAny_10 : decode cX5_isAny 10 = .ok (.ifCond .eq 7, 3) := by decide +kernel
theorem dX5_isAny_13 : decode cX5_isAny 13 = .ok (.iconst 1, 1) := by decide +kernel
theorem dX5_isAny_14 : decode cX5_isAny 14 = .ok (.goto 4, 3) := by decide +kernel
theorem dX5_isAny_17 : decode cX5_isAny 17 = .ok (.iconst 0, 1) := by decide +kernel
theorem dX5_isAny_18 : decode cX5_isAny 18 = .ok (.ireturn, 1) := by decide +kernel
theorem dX5_at_0 : decode cX5_at 0 = .ok (.iload_n 0, 1) := by decide +kernel
theorem dX5_at_1 : decode cX5_at 1 = .ok (.iconst (-1), 1) := by decide +kernel
theorem dX5_at_2 : decode cX5_at 2 = .ok (.if_icmp .ne 8, 3) := by decide +kernel
theorem dX5_at_5 : decode cX5_at 5 = .ok (.bipush 96, 2) := by decide +kernel
theorem dX5_at_7 : decode cX5_at 7 = .ok (.goto 6, 3) := by decide +kernel
theorem dX5_at_10 : decode cX5_at 10 = .ok (.iconst 4, 1) := by decide +kernel
theorem dX5_at_11 : decode cX5_at 11 = .ok (.iload_n 0, 1) := by decide +kernel
theorem dX5_at_12 : decode cX5_at 12 = .ok (.imul, 1) := by decide +kernel
theorem dX5_at_13 : decode cX5_at 13 = .ok (.ireturn, 1) := by decide +kernel
set_option maxRecDepth 20000 in
theorem ggX5_thing_X5_in : GoodIn wsX5_thing wsX5_in := goodIn_r _ [9] (by decide +kernel) (by decide +kernel)
set_option maxRecDepth 20000 in
theorem gX5_thing_X5_in : GoodIn wsX5_thing (va_wsS RX5 73 yX5_in wsX5_in) := goodIn_app (goodIn_of _ (by decide +kernel)) ggX5_thing_X5_in
theorem dX5_thing_0 : decode cX5_thing 0 = .ok (.aload_n 0, 1) := by decide +kernel
theorem dX5_thing_1 : decode cX5_thing 1 = .ok (.iconst 0, 1) := by decide +kernel
theorem dX5_thing_2 : decode cX5_thing 2 = .ok (.putfield 70, 3) := by decide +kernel
theorem dX5_thing_5 : decode cX5_thing 5 = .ok (.iload_n 1, 1) := by decide +kernel
theorem dX5_thing_6 : decode cX5_thing 6 = .ok (.iconst 0, 1) := by decide +kernel
theorem dX5_thing_7 : decode cX5_thing 7 = .ok (.iconst 3, 1) := by decide +kernel
theorem dX5_thing_8 : decode cX5_thing 8 = .ok (.invokestatic 73, 3) := by decide +kernel
theorem dX5_thing_11 : decode cX5_thing 11 = .ok (.ifCond .eq 12, 3) := by decide +kernel
theorem dX5_thing_14 : decode cX5_thing 14 = .ok (.iload_n 2, 1) := by decide +kernel
theorem dX5_thing_15 : decode cX5_thing 15 = .ok (.iconst 0, 1) := by decide +kernel
theorem dX5_thing_16 : decode cX5_thing 16 = .ok (.iconst 4, 1) := by decide +kernel
theorem dX5_thing_17 : decode cX5_thing 17 = .ok (.invokestatic 73, 3) := by decide +kernel
theorem dX5_thing_20 : decode cX5_thing 20 = .ok (.ifCond .ne 7, 3) := by decide +kernel
theorem dX5_thing_23 : decode cX5_thing 23 = .ok (.sipush (-10002), 3) := by decide +kernel
theorem dX5_thing_26 : decode cX5_thing 26 = .ok (.ireturn, 1) := by decide +kernel
theorem dX5_thing_27 : decode cX5_thing 27 = .ok (.aload_n 0, 1) := by decide +kernel
theorem dX5_thing_28 : decode cX5_thing 28 = .ok (.getfield 63, 3) := by decide +kernel
theorem dX5_thing_31 : decode cX5_thing 31 = .ok (.bipush 24, 2) := by decide +kernel
theorem dX5_thing_33 : decode cX5_thing 33 = .ok (.if_icmp .ne 7, 3) := by decide +kernel
theorem dX5_thing_36 : decode cX5_thing 36 = .ok (.sipush (-10003), 3) := by decide +kernel
theorem dX5_thing_39 : decode cX5_thing 39 = .ok (.ireturn, 1) := by decide +kernel
theorem dX5_thing_40 : decode cX5_thing 40 = .ok (.aload_n 0, 1) := by decide +kernel
theorem dX5_thing_41 : decode cX5_thing 41 = .ok (.getfield 7, 3) := by decide +kernel
theorem dX5_thing_44 : decode cX5_thing 44 = .ok (.aload_n 0, 1) := by decide +kernel
theorem dX5_thing_45 : decode cX5_thing 45 = .ok (.getfield 63, 3) := by decide +kernel
theorem dX5_thing_48 : decode cX5_thing 48 = .ok (.iload_n 1, 1) := by decide +kernel
theorem dX5_thing_49 : decode cX5_thing 49 = .ok (.iastore, 1) := by decide +kernel
theorem dX5_thing_50 : decode cX5_thing 50 = .ok (.aload_n 0, 1) := by decide +kernel
theorem dX5_thing_51 : decode cX5_thing 51 = .ok (.getfield 13, 3) := by decide +kernel
theorem dX5_thing_54 : decode cX5_thing 54 = .ok (.aload_n 0, 1) := by decide +kernel
theorem dX5_thing_55 : decode cX5_thing 55 = .ok (.getfield 63, 3) := by decide +kernel
theorem dX5_thing_58 : decode cX5_thing 58 = .ok (.iload_n 2, 1) := by decide +kernel
theorem dX5_thing_59 : decode cX5_thing 59 = .ok (.iastore, 1) := by decide +kernel
theorem dX5_thing_60 : decode cX5_thing 60 = .ok (.iconst 0, 1) := by decide +kernel
theorem dX5_thing_61 : decode cX5_thing 61 = .ok (.istore_n 3, 1) := by decide +kernel
theorem dX5_thing_62 : decode cX5_thing 62 = .ok (.iload_n 3, 1) := by decide +kernel
theorem dX5_thing_63 : decode cX5_thing 63 = .ok (.iconst 4, 1) := by decide +kernel
theorem dX5_thing_64 : decode cX5_thing 64 = .ok (.if_icmp .ge 23, 3) := by decide +kernel
theorem dX5_thing_67 : decode cX5_thing 67 = .ok (.aload_n 0, 1) := by decide +kernel
theorem dX5_thing_68 : decode cX5_thing 68 = .ok (.getfield 19, 3) := by decide +kernel
theorem dX5_thing_71 : decode cX5_thing 71 = .ok (.iconst 4, 1) := by decide +kernel
theorem dX5_thing_72 : decode cX5_thing 72 = .ok (.aload_n 0, 1) := by decide +kernel
theorem dX5_thing_73 : decode cX5_thing 73 = .ok (.getfield 63, 3) := by decide +kernel
theorem dX5_thing_76 : decode cX5_thing 76 = .ok (.imul, 1) := by decide +kernel
theorem dX5_thing_77 : decode cX5_thing 77 = .ok (.iload_n 3, 1) := by decide +kernel
theorem dX5_thing_78 : decode cX5_thing 78 = .ok (.iadd, 1) := by decide +kernel
theorem dX5_thing_79 : decode cX5_thing 79 = .ok (.iconst 0, 1) := by decide +kernel
theorem dX5_thing_80 : decode cX5_thing 80 = .ok (.bastore, 1) := by decide +kernel
theorem dX5_thing_81 : decode cX5_thing 81 = .ok (.iinc 3 1, 3) := by decide +kernel
theorem dX5_thing_84 : decode cX5_thing 84 = .ok (.goto (-22), 3) := by decide +kernel
theorem dX5_thing_87 : decode cX5_thing 87 = .ok (.aload_n 0, 1) := by decide +kernel
theorem dX5_thing_88 : decode cX5_thing 88 = .ok (.dup, 1) := by decide +kernel
theorem dX5_thing_89 : decode cX5_thing 89 = .ok (.getfield 63, 3) := by decide +kernel
theorem dX5_thing_92 : decode cX5_thing 92 = .ok (.iconst 1, 1) := by decide +kernel
theorem dX5_thing_93 : decode cX5_thing 93 = .ok (.iadd, 1) := by decide +kernel
theorem dX5_thing_94 : decode cX5_thing 94 = .ok (.putfield 63, 3) := by decide +kernel
theorem dX5_thing_97 : decode cX5_thing 97 = .ok (.aload_n 0, 1) := by decide +kernel
theorem dX5_thing_98 : decode cX5_thing 98 = .ok (.getfield 63, 3) := by decide +kernel
theorem dX5_thing_101 : decode cX5_thing 101 = .ok (.iconst 1, 1) := by decide +kernel
theorem dX5_thing_102 : decode cX5_thing 102 = .ok (.isub, 1) := by decide +kernel
theorem dX5_thing_103 : decode cX5_thing 103 = .ok (.ireturn, 1) := by decide +kernel
set_option maxRecDepth 20000 in
theorem ggX5_grade_X5_isThing : GoodIn wsX5_grade wsX5_isThing := goodIn_r _ [7, 8, 9, 10, 6, 11, 12, 13, 14, 15, 16, 17, 18, 19, 20, 21, 22, 23, 24, 25, 26, 27, 28, 29, 30, 31, 32, 33, 34, 35] (by decide +kernel) (by decide +kernel)
set_option maxRecDepth 20000 in
theorem gX5_grade_X5_isThing : GoodIn wsX5_grade (wsV RX5 77 RX5 yX5_isThing wsX5_isThing) := goodIn_app (goodIn_of _ (by decide +kernel)) ggX5_grade_X5_isThing
set_option maxRecDepth 20000 in
theorem ggX5_grade_X5_in : GoodIn wsX5_grade wsX5_in := goodIn_r _ [11] (by decide +kernel) (by decide +kernel)
set_option maxRecDepth 20000 in
theorem gX5_grade_X5_in : GoodIn wsX5_grade (va_wsS RX5 73 yX5_in wsX5_in) := goodIn_app (goodIn_of _ (by decide +kernel)) ggX5_grade_X5_in
theorem dX5_grade_0 : decode cX5_grade 0 = .ok (.aload_n 0, 1) := by decide +kernel
theorem dX5_grade_1 : decode cX5_grade 1 = .ok (.iconst 0, 1) := by decide +kernel
theorem dX5_grade_2 : decode cX5_grade 2 = .ok (.putfield 70, 3) := by decide +kernel
theorem dX5_grade_5 : decode cX5_grade 5 = .ok (.aload_n 0, 1) := by decide +kernel
theorem dX5_grade_6 : decode cX5_grade 6 = .ok (.iload_n 1, 1) := by decide +kernel
theorem dX5_grade_7 : decode cX5_grade 7 = .ok (.invokevirtual 77, 3) := by decide +kernel
theorem dX5_grade_10 : decode cX5_grade 10 = .ok (.ifCond .ne 7, 3) := by decide +kernel
theorem dX5_grade_13 : decode cX5_grade 13 = .ok (.sipush (-10001), 3) := by decide +kernel
theorem dX5_grade_16 : decode cX5_grade 16 = .ok (.ireturn, 1) := by decide +kernel
theorem dX5_grade_17 : decode cX5_grade 17 = .ok (.iload_n 2, 1) := by decide +kernel
theorem dX5_grade_18 : decode cX5_grade 18 = .ok (.iconst 0, 1) := by decide +kernel
theorem dX5_grade_19 : decode cX5_grade 19 = .ok (.iconst 4, 1) := by decide +kernel
theorem dX5_grade_20 : decode cX5_grade 20 = .ok (.invokestatic 73, 3) := by decide +kernel
theorem dX5_grade_23 : decode cX5_grade 23 = .ok (.ifCond .ne 7, 3) := by decide +kernel
theorem dX5_grade_26 : decode cX5_grade 26 = .ok (.sipush (-10002), 3) := by decide +kernel
theorem dX5_grade_29 : decode cX5_grade 29 = .ok (.ireturn, 1) := by decide +kernel
theorem dX5_grade_30 : decode cX5_grade 30 = .ok (.aload_n 0, 1) := by decide +kernel
theorem dX5_grade_31 : decode cX5_grade 31 = .ok (.getfield 13, 3) := by decide +kernel
theorem dX5_grade_34 : decode cX5_grade 34 = .ok (.iload_n 1, 1) := by decide +kernel
theorem dX5_grade_35 : decode cX5_grade 35 = .ok (.iaload, 1) := by decide +kernel
theorem dX5_grade_36 : decode cX5_grade 36 = .ok (.istore_n 3, 1) := by decide +kernel
theorem dX5_grade_37 : decode cX5_grade 37 = .ok (.aload_n 0, 1) := by decide +kernel
theorem dX5_grade_38 : decode cX5_grade 38 = .ok (.getfield 13, 3) := by decide +kernel
theorem dX5_grade_41 : decode cX5_grade 41 = .ok (.iload_n 1, 1) := by decide +kernel
theorem dX5_grade_42 : decode cX5_grade 42 = .ok (.iload_n 2, 1) := by decide +kernel
theorem dX5_grade_43 : decode cX5_grade 43 = .ok (.iastore, 1) := by decide +kernel
theorem dX5_grade_44 : decode cX5_grade 44 = .ok (.iload_n 3, 1) := by decide +kernel
theorem dX5_grade_45 : decode cX5_grade 45 = .ok (.ireturn, 1) := by decide +kernel
set_option maxRecDepth 20000 in
theorem ggX5_feature_X5_isAny : GoodIn wsX5_feature wsX5_isAny := goodIn_ca (goodIn_r _ [8, 9, 10, 11, 7, 12, 13, 14, 15, 16, 20, 21, 22, 23, 24, 25, 26, 27, 28, 29, 30, 31, 32, 33, 34, 35, 36, 37, 38, 39, 40, 41, 42, 43] (by decide +kernel) (by decide +kernel)) (goodIn_sub (fun _ h => List.mem_cons_of_mem _ (List.mem_append_left _ (List.mem_append_right _ h))) (by decide +kernel))
set_option maxRecDepth 20000 in
theorem gX5_feature_X5_isAny : GoodIn wsX5_feature (wsV RX5 81 RX5 yX5_isAny wsX5_isAny) := goodIn_app (goodIn_of _ (by decide +kernel)) ggX5_feature_X5_isAny
set_option maxRecDepth 20000 in
theorem ggX5_feature_X5_in : GoodIn wsX5_feature wsX5_in := goodIn_r _ [16] (by decide +kernel) (by decide +kernel)
set_option maxRecDepth 20000 in
theorem gX5_feature_X5_in : GoodIn wsX5_feature (va_wsS RX5 73 yX5_in wsX5_in) := goodIn_app (goodIn_of _ (by decide +kernel)) ggX5_feature_X5_in
set_option maxRecDepth 20000 in
theorem ggX5_feature_X5_at : GoodIn wsX5_feature wsX5_at := goodIn_r _ [19] (by decide +kernel) (by decide +kernel)
set_option maxRecDepth 20000 in
theorem gX5_feature_X5_at : GoodIn wsX5_feature (va_wsS RX5 84 yX5_at wsX5_at) := goodIn_app (goodIn_of _ (by decide +kernel)) ggX5_feature_X5_at
theorem dX5_feature_0 : decode cX5_feature 0 = .ok (.aload_n 0, 1) := by decide +kernel
theorem dX5_feature_1 : decode cX5_feature 1 = .ok (.iconst 0, 1) := by decide +kernel
theorem dX5_feature_2 : decode cX5_feature 2 = .ok (.putfield 70, 3) := by decide +kernel
theorem dX5_feature_5 : decode cX5_feature 5 = .ok (.aload_n 0, 1) := by decide +kernel
theorem dX5_feature_6 : decode cX5_feature 6 = .ok (.iload_n 1, 1) := by decide +kernel
theorem dX5_feature_7 : decode cX5_feature 7 = .ok (.invokevirtual 81, 3) := by decide +kernel
theorem dX5_feature_10 : decode cX5_feature 10 = .ok (.ifCond .ne 7, 3) := by decide +kernel
theorem dX5_feature_13 : decode cX5_feature 13 = .ok (.sipush (-10001), 3) := by decide +kernel
theorem dX5_feature_16 : decode cX5_feature 16 = .ok (.ireturn, 1) := by decide +kernel
theorem dX5_feature_17 : decode cX5_feature 17 = .ok (.iload_n 2, 1) := by decide +kernel
theorem dX5_feature_18 : decode cX5_feature 18 = .ok (.iconst 0, 1) := by decide +kernel
theorem dX5_feature_19 : decode cX5_feature 19 = .ok (.iconst 3, 1) := by decide +kernel
theorem dX5_feature_20 : decode cX5_feature 20 = .ok (.invokestatic 73, 3) := by decide +kernel
theorem dX5_feature_23 : decode cX5_feature 23 = .ok (.ifCond .eq 16, 3) := by decide +kernel
theorem dX5_feature_26 : decode cX5_feature 26 = .ok (.iload_n 3, 1) := by decide +kernel
theorem dX5_feature_27 : decode cX5_feature 27 = .ok (.sipush (-1000), 3) := by decide +kernel
theorem dX5_feature_30 : decode cX5_feature 30 = .ok (.sipush 1000, 3) := by decide +kernel
theorem dX5_feature_33 : decode cX5_feature 33 = .ok (.invokestatic 73, 3) := by decide +kernel
theorem dX5_feature_36 : decode cX5_feature 36 = .ok (.ifCond .ne 7, 3) := by decide +kernel
theorem dX5_feature_39 : decode cX5_feature 39 = .ok (.sipush (-10002), 3) := by decide +kernel
theorem dX5_feature_42 : decode cX5_feature 42 = .ok (.ireturn, 1) := by decide +kernel
theorem dX5_feature_43 : decode cX5_feature 43 = .ok (.aload_n 0, 1) := by decide +kernel
theorem dX5_feature_44 : decode cX5_feature 44 = .ok (.getfield 19, 3) := by decide +kernel
theorem dX5_feature_47 : decode cX5_feature 47 = .ok (.iload_n 1, 1) := by decide +kernel
theorem dX5_feature_48 : decode cX5_feature 48 = .ok (.invokestatic 84, 3) := by decide +kernel
theorem dX5_feature_51 : decode cX5_feature 51 = .ok (.iload_n 2, 1) := by decide +kernel
theorem dX5_feature_52 : decode cX5_feature 52 = .ok (.iadd, 1) := by decide +kernel
theorem dX5_feature_53 : decode cX5_feature 53 = .ok (.baload, 1) := by decide +kernel
theorem dX5_feature_54 : decode cX5_feature 54 = .ok (.ifCond .eq 7, 3) := by decide +kernel
theorem dX5_feature_57 : decode cX5_feature 57 = .ok (.iconst 1, 1) := by decide +kernel
theorem dX5_feature_58 : decode cX5_feature 58 = .ok (.goto 4, 3) := by decide +kernel
theorem dX5_feature_61 : decode cX5_feature 61 = .ok (.iconst 0, 1) := by decide +kernel
theorem dX5_feature_62 : decode cX5_feature 62 = .ok (.istore 4, 2) := by decide +kernel
theorem dX5_feature_64 : decode cX5_feature 64 = .ok (.aload_n 0, 1) := by decide +kernel
theorem dX5_feature_65 : decode cX5_feature 65 = .ok (.getfield 19, 3) := by decide +kernel
theorem dX5_feature_68 : decode cX5_feature 68 = .ok (.iload_n 1, 1) := by decide +kernel
theorem dX5_feature_69 : decode cX5_feature 69 = .ok (.invokestatic 84, 3) := by decide +kernel
theorem dX5_feature_72 : decode cX5_feature 72 = .ok (.iload_n 2, 1) := by decide +kernel
theorem dX5_feature_73 : decode cX5_feature 73 = .ok (.iadd, 1) := by decide +kernel
theorem dX5_feature_74 : decode cX5_feature 74 = .ok (.iconst 1, 1) := by decide +kernel
theorem dX5_feature_75 : decode cX5_feature 75 = .ok (.bastore, 1) := by decide +kernel
theorem dX5_feature_76 : decode cX5_feature 76 = .ok (.aload_n 0, 1) := by decide +kernel
theorem dX5_feature_77 : decode cX5_feature 77 = .ok (.getfield 16, 3) := by decide +kernel
theorem dX5_feature_80 : decode cX5_feature 80 = .ok (.iload_n 1, 1) := by decide +kernel
theorem dX5_feature_81 : decode cX5_feature 81 = .ok (.invokestatic 84, 3) := by decide +kernel
theorem dX5_feature_84 : decode cX5_feature 84 = .ok (.iload_n 2, 1) := by decide +kernel
theorem dX5_feature_85 : decode cX5_feature 85 = .ok (.iadd, 1) := by decide +kernel
theorem dX5_feature_86 : decode cX5_feature 86 = .ok (.iload_n 3, 1) := by decide +kernel
theorem dX5_feature_87 : decode cX5_feature 87 = .ok (.iastore, 1) := by decide +kernel
theorem dX5_feature_88 : decode cX5_feature 88 = .ok (.iload 4, 2) := by decide +kernel
theorem dX5_feature_90 : decode cX5_feature 90 = .ok (.ireturn, 1) := by decide +kernel
set_option maxRecDepth 20000 in
theorem ggX5_miss_X5_isAny : GoodIn wsX5_miss wsX5_isAny := goodIn_ca (goodIn_r _ [7, 8, 9, 10, 6, 11, 12, 13, 14, 15, 19, 20, 21, 22, 23, 24, 25, 26, 27, 28, 29, 30, 31, 32, 33, 34, 35, 36, 37, 38, 39, 40, 41, 42] (by decide +kernel) (by decide +kernel)) (goodIn_sub (fun _ h => List.mem_cons_of_mem _ (List.mem_append_left _ (List.mem_append_right _ h))) (by decide +kernel))
set_option maxRecDepth 20000 in
theorem gX5_miss_X5_isAny : GoodIn wsX5_miss (wsV RX5 81 RX5 yX5_isAny wsX5_isAny) := goodIn_app (goodIn_of _ (by decide +kernel)) ggX5_miss_X5_isAny
set_option maxRecDepth 20000 in
theorem ggX5_miss_X5_in : GoodIn wsX5_miss wsX5_in := goodIn_r _ [15] (by decide +kernel) (by decide +kernel)
set_option maxRecDepth 20000 in
theorem gX5_miss_X5_in : GoodIn wsX5_miss (va_wsS RX5 73 yX5_in wsX5_in) := goodIn_app (goodIn_of _ (by decide +kernel)) ggX5_miss_X5_in
set_option maxRecDepth 20000 in
theorem ggX5_miss_X5_at : GoodIn wsX5_miss wsX5_at := goodIn_r _ [18] (by decide +kernel) (by decide +kernel)
set_option maxRecDepth 20000 in
theorem gX5_miss_X5_at : GoodIn wsX5_miss (va_wsS RX5 84 yX5_at wsX5_at) := goodIn_app (goodIn_of _ (by decide +kernel)) ggX5_miss_X5_at
theorem dX5_miss_0 : decode cX5_miss 0 = .ok (.aload_n 0, 1) := by decide +kernel
theorem dX5_miss_1 : decode cX5_miss 1 = .ok (.iconst 0, 1) := by decide +kernel
theorem dX5_miss_2 : decode cX5_miss 2 = .ok (.putfield 70, 3) := by decide +kernel
theorem dX5_miss_5 : decode cX5_miss 5 = .ok (.aload_n 0, 1) := by decide +kernel
theorem dX5_miss_6 : decode cX5_miss 6 = .ok (.iload_n 1, 1) := by decide +kernel
theorem dX5_miss_7 : decode cX5_miss 7 = .ok (.invokevirtual 81, 3) := by decide +kernel
theorem dX5_miss_10 : decode cX5_miss 10 = .ok (.ifCond .ne 7, 3) := by decide +kernel
theorem dX5_miss_13 : decode cX5_miss 13 = .ok (.sipush (-10001), 3) := by decide +kernel
theorem dX5_miss_16 : decode cX5_miss 16 = .ok (.ireturn, 1) := by decide +kernel
theorem dX5_miss_17 : decode cX5_miss 17 = .ok (.iload_n 2, 1) := by decide +kernel
theorem dX5_miss_18 : decode cX5_miss 18 = .ok (.iconst 0, 1) := by decide +kernel
theorem dX5_miss_19 : decode cX5_miss 19 = .ok (.iconst 3, 1) := by decide +kernel
theorem dX5_miss_20 : decode cX5_miss 20 = .ok (.invokestatic 73, 3) := by decide +kernel
theorem dX5_miss_23 : decode cX5_miss 23 = .ok (.ifCond .ne 7, 3) := by decide +kernel
theorem dX5_miss_26 : decode cX5_miss 26 = .ok (.sipush (-10002), 3) := by decide +kernel
theorem dX5_miss_29 : decode cX5_miss 29 = .ok (.ireturn, 1) := by decide +kernel
theorem dX5_miss_30 : decode cX5_miss 30 = .ok (.aload_n 0, 1) := by decide +kernel
theorem dX5_miss_31 : decode cX5_miss 31 = .ok (.getfield 19, 3) := by decide +kernel
theorem dX5_miss_34 : decode cX5_miss 34 = .ok (.iload_n 1, 1) := by decide +kernel
theorem dX5_miss_35 : decode cX5_miss 35 = .ok (.invokestatic 84, 3) := by decide +kernel
theorem dX5_miss_38 : decode cX5_miss 38 = .ok (.iload_n 2, 1) := by decide +kernel
theorem dX5_miss_39 : decode cX5_miss 39 = .ok (.iadd, 1) := by decide +kernel
theorem dX5_miss_40 : decode cX5_miss 40 = .ok (.baload, 1) := by decide +kernel
theorem dX5_miss_41 : decode cX5_miss 41 = .ok (.ifCond .eq 7, 3) := by decide +kernel
theorem dX5_miss_44 : decode cX5_miss 44 = .ok (.iconst 1, 1) := by decide +kernel
theorem dX5_miss_45 : decode cX5_miss 45 = .ok (.goto 4, 3) := by decide +kernel
theorem dX5_miss_48 : decode cX5_miss 48 = .ok (.iconst 0, 1) := by decide +kernel
theorem dX5_miss_49 : decode cX5_miss 49 = .ok (.istore_n 3, 1) := by decide +kernel
theorem dX5_miss_50 : decode cX5_miss 50 = .ok (.aload_n 0, 1) := by decide +kernel
theorem dX5_miss_51 : decode cX5_miss 51 = .ok (.getfield 19, 3) := by decide +kernel
theorem dX5_miss_54 : decode cX5_miss 54 = .ok (.iload_n 1, 1) := by decide +kernel
theorem dX5_miss_55 : decode cX5_miss 55 = .ok (.invokestatic 84, 3) := by decide +kernel
theorem dX5_miss_58 : decode cX5_miss 58 = .ok (.iload_n 2, 1) := by decide +kernel
theorem dX5_miss_59 : decode cX5_miss 59 = .ok (.iadd, 1) := by decide +kernel
theorem dX5_miss_60 : decode cX5_miss 60 = .ok (.iconst 0, 1) := by decide +kernel
theorem dX5_miss_61 : decode cX5_miss 61 = .ok (.bastore, 1) := by decide +kernel
theorem dX5_miss_62 : decode cX5_miss 62 = .ok (.iload_n 3, 1) := by decide +kernel
theorem dX5_miss_63 : decode cX5_miss 63 = .ok (.ireturn, 1) := by decide +kernel
set_option maxRecDepth 20000 in
theorem ggX5_told_X5_in : GoodIn wsX5_told wsX5_in := goodIn_r _ [8] (by decide +kernel) (by decide +kernel)
set_option maxRecDepth 20000 in
theorem gX5_told_X5_in : GoodIn wsX5_told (va_wsS RX5 73 yX5_in wsX5_in) := goodIn_app (goodIn_of _ (by decide +kernel)) ggX5_told_X5_in
theorem dX5_told_0 : decode cX5_told 0 = .ok (.aload_n 0, 1) := by decide +kernel
theorem dX5_told_1 : decode cX5_told 1 = .ok (.iload_n 1, 1) := by decide +kernel
theorem dX5_told_2 : decode cX5_told 2 = .ok (.iconst 0, 1) := by decide +kernel
theorem dX5_told_3 : decode cX5_told 3 = .ok (.bipush 23, 2) := by decide +kernel
theorem dX5_told_5 : decode cX5_told 5 = .ok (.invokestatic 73, 3) := by decide +kernel
theorem dX5_told_8 : decode cX5_told 8 = .ok (.ifCond .ne 7, 3) := by decide +kernel
theorem dX5_told_11 : decode cX5_told 11 = .ok (.iconst 2, 1) := by decide +kernel
theorem dX5_told_12 : decode cX5_told 12 = .ok (.goto 46, 3) := by decide +kernel
theorem dX5_told_15 : decode cX5_told 15 = .ok (.iload_n 1, 1) := by decide +kernel
theorem dX5_told_16 : decode cX5_told 16 = .ok (.aload_n 0, 1) := by decide +kernel
theorem dX5_told_17 : decode cX5_told 17 = .ok (.getfield 63, 3) := by decide +kernel
theorem dX5_told_20 : decode cX5_told 20 = .ok (.if_icmp .lt 7, 3) := by decide +kernel
theorem dX5_told_23 : decode cX5_told 23 = .ok (.iconst 1, 1) := by decide +kernel
theorem dX5_told_24 : decode cX5_told 24 = .ok (.goto 34, 3) := by decide +kernel
theorem dX5_told_27 : decode cX5_told 27 = .ok (.iload_n 2, 1) := by decide +kernel
theorem dX5_told_28 : decode cX5_told 28 = .ok (.iconst 0, 1) := by decide +kernel
theorem dX5_told_29 : decode cX5_told 29 = .ok (.iconst 3, 1) := by decide +kernel
theorem dX5_told_30 : decode cX5_told 30 = .ok (.invokestatic 73, 3) := by decide +kernel
theorem dX5_told_33 : decode cX5_told 33 = .ok (.ifCond .ne 7, 3) := by decide +kernel
theorem dX5_told_36 : decode cX5_told 36 = .ok (.iconst 2, 1) := by decide +kernel
theorem dX5_told_37 : decode cX5_told 37 = .ok (.goto 21, 3) := by decide +kernel
theorem dX5_told_40 : decode cX5_told 40 = .ok (.aload_n 0, 1) := by decide +kernel
theorem dX5_told_41 : decode cX5_told 41 = .ok (.getfield 19, 3) := by decide +kernel
theorem dX5_told_44 : decode cX5_told 44 = .ok (.iconst 4, 1) := by decide +kernel
theorem dX5_told_45 : decode cX5_told 45 = .ok (.iload_n 1, 1) := by decide +kernel
theorem dX5_told_46 : decode cX5_told 46 = .ok (.imul, 1) := by decide +kernel
theorem dX5_told_47 : decode cX5_told 47 = .ok (.iload_n 2, 1) := by decide +kernel
theorem dX5_told_48 : decode cX5_told 48 = .ok (.iadd, 1) := by decide +kernel
theorem dX5_told_49 : decode cX5_told 49 = .ok (.baload, 1) := by decide +kernel
theorem dX5_told_50 : decode cX5_told 50 = .ok (.ifCond .eq 7, 3) := by decide +kernel
theorem dX5_told_53 : decode cX5_told 53 = .ok (.iconst 0, 1) := by decide +kernel
theorem dX5_told_54 : decode cX5_told 54 = .ok (.goto 4, 3) := by decide +kernel
theorem dX5_told_57 : decode cX5_told 57 = .ok (.iconst 1, 1) := by decide +kernel
theorem dX5_told_58 : decode cX5_told 58 = .ok (.putfield 70, 3) := by decide +kernel
theorem dX5_told_61 : decode cX5_told 61 = .ok (.aload_n 0, 1) := by decide +kernel
theorem dX5_told_62 : decode cX5_told 62 = .ok (.getfield 70, 3) := by decide +kernel
theorem dX5_told_65 : decode cX5_told 65 = .ok (.ifCond .le 7, 3) := by decide +kernel
theorem dX5_told_68 : decode cX5_told 68 = .ok (.iconst 0, 1) := by decide +kernel
theorem dX5_told_69 : decode cX5_told 69 = .ok (.goto 13, 3) := by decide +kernel
theorem dX5_told_72 : decode cX5_told 72 = .ok (.aload_n 0, 1) := by decide +kernel
theorem dX5_told_73 : decode cX5_told 73 = .ok (.getfield 16, 3) := by decide +kernel
theorem dX5_told_76 : decode cX5_told 76 = .ok (.iconst 4, 1) := by decide +kernel
theorem dX5_told_77 : decode cX5_told 77 = .ok (.iload_n 1, 1) := by decide +kernel
theorem dX5_told_78 : decode cX5_told 78 = .ok (.imul, 1) := by decide +kernel
theorem dX5_told_79 : decode cX5_told 79 = .ok (.iload_n 2, 1) := by decide +kernel
theorem dX5_told_80 : decode cX5_told 80 = .ok (.iadd, 1) := by decide +kernel
theorem dX5_told_81 : decode cX5_told 81 = .ok (.iaload, 1) := by decide +kernel
theorem dX5_told_82 : decode cX5_told 82 = .ok (.ireturn, 1) := by decide +kernel
set_option maxRecDepth 20000 in
theorem ggX5_setting_X5_in : GoodIn wsX5_setting wsX5_in := goodIn_r _ [6] (by decide +kernel) (by decide +kernel)
set_option maxRecDepth 20000 in
theorem gX5_setting_X5_in : GoodIn wsX5_setting (va_wsS RX5 73 yX5_in wsX5_in) := goodIn_app (goodIn_of _ (by decide +kernel)) ggX5_setting_X5_in
theorem dX5_setting_0 : decode cX5_setting 0 = .ok (.aload_n 0, 1) := by decide +kernel
theorem dX5_setting_1 : decode cX5_setting 1 = .ok (.iconst 0, 1) := by decide +kernel
theorem dX5_setting_2 : decode cX5_setting 2 = .ok (.putfield 70, 3) := by decide +kernel
theorem dX5_setting_5 : decode cX5_setting 5 = .ok (.iload_n 1, 1) := by decide +kernel
theorem dX5_setting_6 : decode cX5_setting 6 = .ok (.ifCond .ne 14, 3) := by decide +kernel
theorem dX5_setting_9 : decode cX5_setting 9 = .ok (.iload_n 2, 1) := by decide +kernel
theorem dX5_setting_10 : decode cX5_setting 10 = .ok (.iconst 0, 1) := by decide +kernel
theorem dX5_setting_11 : decode cX5_setting 11 = .ok (.sipush 1000, 3) := by decide +kernel
theorem dX5_setting_14 : decode cX5_setting 14 = .ok (.invokestatic 73, 3) := by decide +kernel
theorem dX5_setting_17 : decode cX5_setting 17 = .ok (.goto 52, 3) := by decide +kernel
theorem dX5_setting_20 : decode cX5_setting 20 = .ok (.iload_n 1, 1) := by decide +kernel
theorem dX5_setting_21 : decode cX5_setting 21 = .ok (.iconst 1, 1) := by decide +kernel
theorem dX5_setting_22 : decode cX5_setting 22 = .ok (.if_icmp .ne 13, 3) := by decide +kernel
theorem dX5_setting_25 : decode cX5_setting 25 = .ok (.iload_n 2, 1) := by decide +kernel
theorem dX5_setting_26 : decode cX5_setting 26 = .ok (.iconst 1, 1) := by decide +kernel
theorem dX5_setting_27 : decode cX5_setting 27 = .ok (.bipush 100, 2) := by decide +kernel
theorem dX5_setting_29 : decode cX5_setting 29 = .ok (.invokestatic 73, 3) := by decide +kernel
theorem dX5_setting_32 : decode cX5_setting 32 = .ok (.goto 37, 3) := by decide +kernel
theorem dX5_setting_35 : decode cX5_setting 35 = .ok (.iload_n 1, 1) := by decide +kernel
theorem dX5_setting_36 : decode cX5_setting 36 = .ok (.iconst 2, 1) := by decide +kernel
theorem dX5_setting_37 : decode cX5_setting 37 = .ok (.if_icmp .ne 12, 3) := by decide +kernel
theorem dX5_setting_40 : decode cX5_setting 40 = .ok (.iload_n 2, 1) := by decide +kernel
theorem dX5_setting_41 : decode cX5_setting 41 = .ok (.iconst 1, 1) := by decide +kernel
theorem dX5_setting_42 : decode cX5_setting 42 = .ok (.iconst 3, 1) := by decide +kernel
theorem dX5_setting_43 : decode cX5_setting 43 = .ok (.invokestatic 73, 3) := by decide +kernel
theorem dX5_setting_46 : decode cX5_setting 46 = .ok (.goto 23, 3) := by decide +kernel
theorem dX5_setting_49 : decode cX5_setting 49 = .ok (.iload_n 1, 1) := by decide +kernel
theorem dX5_setting_50 : decode cX5_setting 50 = .ok (.iconst 3, 1) := by decide +kernel
theorem dX5_setting_51 : decode cX5_setting 51 = .ok (.if_icmp .ne 17, 3) := by decide +kernel
theorem dX5_setting_54 : decode cX5_setting 54 = .ok (.iload_n 2, 1) := by decide +kernel
theorem dX5_setting_55 : decode cX5_setting 55 = .ok (.iconst 1, 1) := by decide +kernel
theorem dX5_setting_56 : decode cX5_setting 56 = .ok (.bipush 8, 2) := by decide +kernel
theorem dX5_setting_58 : decode cX5_setting 58 = .ok (.invokestatic 73, 3) := by decide +kernel
theorem dX5_setting_61 : decode cX5_setting 61 = .ok (.ifCond .eq 7, 3) := by decide +kernel
theorem dX5_setting_64 : decode cX5_setting 64 = .ok (.iconst 1, 1) := by decide +kernel
theorem dX5_setting_65 : decode cX5_setting 65 = .ok (.goto 4, 3) := by decide +kernel
theorem dX5_setting_68 : decode cX5_setting 68 = .ok (.iconst 0, 1) := by decide +kernel
theorem dX5_setting_69 : decode cX5_setting 69 = .ok (.istore_n 3, 1) := by decide +kernel
theorem dX5_setting_70 : decode cX5_setting 70 = .ok (.iload_n 3, 1) := by decide +kernel
theorem dX5_setting_71 : decode cX5_setting 71 = .ok (.ifCond .ne 7, 3) := by decide +kernel
theorem dX5_setting_74 : decode cX5_setting 74 = .ok (.sipush (-10002), 3) := by decide +kernel
theorem dX5_setting_77 : decode cX5_setting 77 = .ok (.ireturn, 1) := by decide +kernel
theorem dX5_setting_78 : decode cX5_setting 78 = .ok (.aload_n 0, 1) := by decide +kernel
theorem dX5_setting_79 : decode cX5_setting 79 = .ok (.getfield 23, 3) := by decide +kernel
theorem dX5_setting_82 : decode cX5_setting 82 = .ok (.iload_n 1, 1) := by decide +kernel
theorem dX5_setting_83 : decode cX5_setting 83 = .ok (.iaload, 1) := by decide +kernel
theorem dX5_setting_84 : decode cX5_setting 84 = .ok (.istore 4, 2) := by decide +kernel
theorem dX5_setting_86 : decode cX5_setting 86 = .ok (.aload_n 0, 1) := by decide +kernel
theorem dX5_setting_87 : decode cX5_setting 87 = .ok (.getfield 23, 3) := by decide +kernel
theorem dX5_setting_90 : decode cX5_setting 90 = .ok (.iload_n 1, 1) := by decide +kernel
theorem dX5_setting_91 : decode cX5_setting 91 = .ok (.iload_n 2, 1) := by decide +kernel
theorem dX5_setting_92 : decode cX5_setting 92 = .ok (.iastore, 1) := by decide +kernel
theorem dX5_setting_93 : decode cX5_setting 93 = .ok (.iload 4, 2) := by decide +kernel
theorem dX5_setting_95 : decode cX5_setting 95 = .ok (.ireturn, 1) := by decide +kernel
set_option maxRecDepth 20000 in
theorem ggX5_goesLeft_X5_at : GoodIn wsX5_goesLeft wsX5_at := goodIn_r _ [6] (by decide +kernel) (by decide +kernel)
set_option maxRecDepth 20000 in
theorem gX5_goesLeft_X5_at : GoodIn wsX5_goesLeft (va_wsS RX5 84 yX5_at wsX5_at) := goodIn_app (goodIn_of _ (by decide +kernel)) ggX5_goesLeft_X5_at
theorem dX5_goesLeft_0 : decode cX5_goesLeft 0 = .ok (.aload_n 0, 1) := by decide +kernel
theorem dX5_goesLeft_1 : decode cX5_goesLeft 1 = .ok (.getfield 19, 3) := by decide +kernel
theorem dX5_goesLeft_4 : decode cX5_goesLeft 4 = .ok (.iload_n 1, 1) := by decide +kernel
theorem dX5_goesLeft_5 : decode cX5_goesLeft 5 = .ok (.invokestatic 84, 3) := by decide +kernel
theorem dX5_goesLeft_8 : decode cX5_goesLeft 8 = .ok (.iload_n 2, 1) := by decide +kernel
theorem dX5_goesLeft_9 : decode cX5_goesLeft 9 = .ok (.iadd, 1) := by decide +kernel
theorem dX5_goesLeft_10 : decode cX5_goesLeft 10 = .ok (.baload, 1) := by decide +kernel
theorem dX5_goesLeft_11 : decode cX5_goesLeft 11 = .ok (.ifCond .eq 26, 3) := by decide +kernel
theorem dX5_goesLeft_14 : decode cX5_goesLeft 14 = .ok (.aload_n 0, 1) := by decide +kernel
theorem dX5_goesLeft_15 : decode cX5_goesLeft 15 = .ok (.getfield 16, 3) := by decide +kernel
theorem dX5_goesLeft_18 : decode cX5_goesLeft 18 = .ok (.iload_n 1, 1) := by decide +kernel
theorem dX5_goesLeft_19 : decode cX5_goesLeft 19 = .ok (.invokestatic 84, 3) := by decide +kernel
theorem dX5_goesLeft_22 : decode cX5_goesLeft 22 = .ok (.iload_n 2, 1) := by decide +kernel
theorem dX5_goesLeft_23 : decode cX5_goesLeft 23 = .ok (.iadd, 1) := by decide +kernel
theorem dX5_goesLeft_24 : decode cX5_goesLeft 24 = .ok (.iaload, 1) := by decide +kernel
theorem dX5_goesLeft_25 : decode cX5_goesLeft 25 = .ok (.iload_n 3, 1) := by decide +kernel
theorem dX5_goesLeft_26 : decode cX5_goesLeft 26 = .ok (.if_icmp .gt 7, 3) := by decide +kernel
theorem dX5_goesLeft_29 : decode cX5_goesLeft 29 = .ok (.iconst 1, 1) := by decide +kernel
theorem dX5_goesLeft_30 : decode cX5_goesLeft 30 = .ok (.goto 17, 3) := by decide +kernel
theorem dX5_goesLeft_33 : decode cX5_goesLeft 33 = .ok (.iconst 0, 1) := by decide +kernel
theorem dX5_goesLeft_34 : decode cX5_goesLeft 34 = .ok (.goto 13, 3) := by decide +kernel
theorem dX5_goesLeft_37 : decode cX5_goesLeft 37 = .ok (.iload 4, 2) := by decide +kernel
theorem dX5_goesLeft_39 : decode cX5_goesLeft 39 = .ok (.ifCond .ne 7, 3) := by decide +kernel
theorem dX5_goesLeft_42 : decode cX5_goesLeft 42 = .ok (.iconst 1, 1) := by decide +kernel
theorem dX5_goesLeft_43 : decode cX5_goesLeft 43 = .ok (.goto 4, 3) := by decide +kernel
theorem dX5_goesLeft_46 : decode cX5_goesLeft 46 = .ok (.iconst 0, 1) := by decide +kernel
theorem dX5_goesLeft_47 : decode cX5_goesLeft 47 = .ok (.ireturn, 1) := by decide +kernel
set_option maxRecDepth 20000 in
theorem ggX5_valueBy_X5_goesLeft : GoodIn wsX5_valueBy wsX5_goesLeft := goodIn_ca (goodIn_ca (goodIn_r _ [10, 11, 12, 13, 14, 9, 15, 16, 17, 18, 19, 20, 21, 22, 23, 24, 25, 26, 27, 28, 29, 30, 31, 32, 33, 34, 35, 36, 37, 38, 39] (by decide +kernel) (by decide +kernel)) (goodIn_sub (fun _ h => List.mem_cons_of_mem _ (List.mem_append_left _ (List.mem_append_right _ h))) (by decide +kernel))) (goodIn_sub (fun _ h => List.mem_cons_of_mem _ (List.mem_append_right _ h)) (by decide +kernel))
set_option maxRecDepth 20000 in
theorem gX5_valueBy_X5_goesLeft : GoodIn wsX5_valueBy (wsV RX5 88 RX5 yX5_goesLeft wsX5_goesLeft) := goodIn_app (goodIn_of _ (by decide +kernel)) ggX5_valueBy_X5_goesLeft
theorem dX5_valueBy_0 : decode cX5_valueBy 0 = .ok (.iconst 0, 1) := by decide +kernel
theorem dX5_valueBy_1 : decode cX5_valueBy 1 = .ok (.istore_n 3, 1) := by decide +kernel
theorem dX5_valueBy_2 : decode cX5_valueBy 2 = .ok (.aload_n 0, 1) := by decide +kernel
theorem dX5_valueBy_3 : decode cX5_valueBy 3 = .ok (.getfield 26, 3) := by decide +kernel
theorem dX5_valueBy_6 : decode cX5_valueBy 6 = .ok (.bipush 15, 2) := by decide +kernel
theorem dX5_valueBy_8 : decode cX5_valueBy 8 = .ok (.iload_n 1, 1) := by decide +kernel
theorem dX5_valueBy_9 : decode cX5_valueBy 9 = .ok (.imul, 1) := by decide +kernel
theorem dX5_valueBy_10 : decode cX5_valueBy 10 = .ok (.iload_n 3, 1) := by decide +kernel
theorem dX5_valueBy_11 : decode cX5_valueBy 11 = .ok (.iadd, 1) := by decide +kernel
theorem dX5_valueBy_12 : decode cX5_valueBy 12 = .ok (.iaload, 1) := by decide +kernel
theorem dX5_valueBy_13 : decode cX5_valueBy 13 = .ok (.iconst 2, 1) := by decide +kernel
theorem dX5_valueBy_14 : decode cX5_valueBy 14 = .ok (.if_icmp .ne 57, 3) := by decide +kernel
theorem dX5_valueBy_17 : decode cX5_valueBy 17 = .ok (.bipush 15, 2) := by decide +kernel
theorem dX5_valueBy_19 : decode cX5_valueBy 19 = .ok (.iload_n 1, 1) := by decide +kernel
theorem dX5_valueBy_20 : decode cX5_valueBy 20 = .ok (.imul, 1) := by decide +kernel
theorem dX5_valueBy_21 : decode cX5_valueBy 21 = .ok (.iload_n 3, 1) := by decide +kernel
theorem dX5_valueBy_22 : decode cX5_valueBy 22 = .ok (.iadd, 1) := by decide +kernel
theorem dX5_valueBy_23 : decode cX5_valueBy 23 = .ok (.istore 4, 2) := by decide +kernel
theorem dX5_valueBy_25 : decode cX5_valueBy 25 = .ok (.aload_n 0, 1) := by decide +kernel
theorem dX5_valueBy_26 : decode cX5_valueBy 26 = .ok (.iload_n 2, 1) := by decide +kernel
theorem dX5_valueBy_27 : decode cX5_valueBy 27 = .ok (.aload_n 0, 1) := by decide +kernel
theorem dX5_valueBy_28 : decode cX5_valueBy 28 = .ok (.getfield 29, 3) := by decide +kernel
theorem dX5_valueBy_31 : decode cX5_valueBy 31 = .ok (.iload 4, 2) := by decide +kernel
theorem dX5_valueBy_33 : decode cX5_valueBy 33 = .ok (.iaload, 1) := by decide +kernel
theorem dX5_valueBy_34 : decode cX5_valueBy 34 = .ok (.aload_n 0, 1) := by decide +kernel
theorem dX5_valueBy_35 : decode cX5_valueBy 35 = .ok (.getfield 32, 3) := by decide +kernel
theorem dX5_valueBy_38 : decode cX5_valueBy 38 = .ok (.iload 4, 2) := by decide +kernel
theorem dX5_valueBy_40 : decode cX5_valueBy 40 = .ok (.iaload, 1) := by decide +kernel
theorem dX5_valueBy_41 : decode cX5_valueBy 41 = .ok (.aload_n 0, 1) := by decide +kernel
theorem dX5_valueBy_42 : decode cX5_valueBy 42 = .ok (.getfield 35, 3) := by decide +kernel
theorem dX5_valueBy_45 : decode cX5_valueBy 45 = .ok (.iload 4, 2) := by decide +kernel
theorem dX5_valueBy_47 : decode cX5_valueBy 47 = .ok (.iaload, 1) := by decide +kernel
theorem dX5_valueBy_48 : decode cX5_valueBy 48 = .ok (.invokevirtual 88, 3) := by decide +kernel
theorem dX5_valueBy_51 : decode cX5_valueBy 51 = .ok (.ifCond .eq 11, 3) := by decide +kernel
theorem dX5_valueBy_54 : decode cX5_valueBy 54 = .ok (.iconst 2, 1) := by decide +kernel
theorem dX5_valueBy_55 : decode cX5_valueBy 55 = .ok (.iload_n 3, 1) := by decide +kernel
theorem dX5_valueBy_56 : decode cX5_valueBy 56 = .ok (.imul, 1) := by decide +kernel
theorem dX5_valueBy_57 : decode cX5_valueBy 57 = .ok (.iconst 1, 1) := by decide +kernel
theorem dX5_valueBy_58 : decode cX5_valueBy 58 = .ok (.iadd, 1) := by decide +kernel
theorem dX5_valueBy_59 : decode cX5_valueBy 59 = .ok (.goto 8, 3) := by decide +kernel
theorem dX5_valueBy_62 : decode cX5_valueBy 62 = .ok (.iconst 2, 1) := by decide +kernel
theorem dX5_valueBy_63 : decode cX5_valueBy 63 = .ok (.iload_n 3, 1) := by decide +kernel
theorem dX5_valueBy_64 : decode cX5_valueBy 64 = .ok (.imul, 1) := by decide +kernel
theorem dX5_valueBy_65 : decode cX5_valueBy 65 = .ok (.iconst 2, 1) := by decide +kernel
theorem dX5_valueBy_66 : decode cX5_valueBy 66 = .ok (.iadd, 1) := by decide +kernel
theorem dX5_valueBy_67 : decode cX5_valueBy 67 = .ok (.istore_n 3, 1) := by decide +kernel
theorem dX5_valueBy_68 : decode cX5_valueBy 68 = .ok (.goto (-66), 3) := by decide +kernel
theorem dX5_valueBy_71 : decode cX5_valueBy 71 = .ok (.aload_n 0, 1) := by decide +kernel
theorem dX5_valueBy_72 : decode cX5_valueBy 72 = .ok (.getfield 38, 3) := by decide +kernel
theorem dX5_valueBy_75 : decode cX5_valueBy 75 = .ok (.bipush 15, 2) := by decide +kernel
theorem dX5_valueBy_77 : decode cX5_valueBy 77 = .ok (.iload_n 1, 1) := by decide +kernel
theorem dX5_valueBy_78 : decode cX5_valueBy 78 = .ok (.imul, 1) := by decide +kernel
theorem dX5_valueBy_79 : decode cX5_valueBy 79 = .ok (.iload_n 3, 1) := by decide +kernel
theorem dX5_valueBy_80 : decode cX5_valueBy 80 = .ok (.iadd, 1) := by decide +kernel
theorem dX5_valueBy_81 : decode cX5_valueBy 81 = .ok (.iaload, 1) := by decide +kernel
theorem dX5_valueBy_82 : decode cX5_valueBy 82 = .ok (.ireturn, 1) := by decide +kernel
set_option maxRecDepth 20000 in
theorem ggX5_scoreOf_X5_valueBy : GoodIn wsX5_scoreOf wsX5_valueBy := goodIn_ca (goodIn_ca (goodIn_r _ [6, 7, 8, 9, 10, 11, 12, 13, 14, 5, 15, 16, 17, 18, 19, 20, 21, 22, 23, 24, 25, 26, 27, 28, 29, 30, 31, 32, 33, 34, 35, 36, 37, 38, 39, 40, 41, 42, 43, 44] (by decide +kernel) (by decide +kernel)) (goodIn_sub (fun _ h => List.mem_cons_of_mem _ (List.mem_append_right _ h)) (by decide +kernel))) (goodIn_sub (fun _ h => List.mem_cons_of_mem _ (List.mem_append_left _ (List.mem_append_right _ h))) (by decide +kernel))
set_option maxRecDepth 20000 in
theorem gX5_scoreOf_X5_valueBy : GoodIn wsX5_scoreOf (wsV RX5 92 RX5 yX5_valueBy wsX5_valueBy) := goodIn_app (goodIn_of _ (by decide +kernel)) ggX5_scoreOf_X5_valueBy
theorem dX5_scoreOf_0 : decode cX5_scoreOf 0 = .ok (.lconst 0, 1) := by decide +kernel
theorem dX5_scoreOf_1 : decode cX5_scoreOf 1 = .ok (.lstore_n 2, 1) := by decide +kernel
theorem dX5_scoreOf_2 : decode cX5_scoreOf 2 = .ok (.iconst 0, 1) := by decide +kernel
theorem dX5_scoreOf_3 : decode cX5_scoreOf 3 = .ok (.istore 4, 2) := by decide +kernel
theorem dX5_scoreOf_5 : decode cX5_scoreOf 5 = .ok (.iload 4, 2) := by decide +kernel
theorem dX5_scoreOf_7 : decode cX5_scoreOf 7 = .ok (.aload_n 0, 1) := by decide +kernel
theorem dX5_scoreOf_8 : decode cX5_scoreOf 8 = .ok (.getfield 67, 3) := by decide +kernel
theorem dX5_scoreOf_11 : decode cX5_scoreOf 11 = .ok (.if_icmp .ge 20, 3) := by decide +kernel
theorem dX5_scoreOf_14 : decode cX5_scoreOf 14 = .ok (.lload_n 2, 1) := by decide +kernel
theorem dX5_scoreOf_15 : decode cX5_scoreOf 15 = .ok (.aload_n 0, 1) := by decide +kernel
theorem dX5_scoreOf_16 : decode cX5_scoreOf 16 = .ok (.iload 4, 2) := by decide +kernel
theorem dX5_scoreOf_18 : decode cX5_scoreOf 18 = .ok (.iload_n 1, 1) := by decide +kernel
theorem dX5_scoreOf_19 : decode cX5_scoreOf 19 = .ok (.invokevirtual 92, 3) := by decide +kernel
theorem dX5_scoreOf_22 : decode cX5_scoreOf 22 = .ok (.i2l, 1) := by decide +kernel
theorem dX5_scoreOf_23 : decode cX5_scoreOf 23 = .ok (.ladd, 1) := by decide +kernel
theorem dX5_scoreOf_24 : decode cX5_scoreOf 24 = .ok (.lstore_n 2, 1) := by decide +kernel
theorem dX5_scoreOf_25 : decode cX5_scoreOf 25 = .ok (.iinc 4 1, 3) := by decide +kernel
theorem dX5_scoreOf_28 : decode cX5_scoreOf 28 = .ok (.goto (-23), 3) := by decide +kernel
theorem dX5_scoreOf_31 : decode cX5_scoreOf 31 = .ok (.lload_n 2, 1) := by decide +kernel
theorem dX5_scoreOf_32 : decode cX5_scoreOf 32 = .ok (.lreturn, 1) := by decide +kernel
theorem dX5_isPair_0 : decode cX5_isPair 0 = .ok (.aload_n 0, 1) := by decide +kernel
theorem dX5_isPair_1 : decode cX5_isPair 1 = .ok (.getfield 7, 3) := by decide +kernel
theorem dX5_isPair_4 : decode cX5_isPair 4 = .ok (.iload_n 1, 1) := by decide +kernel
theorem dX5_isPair_5 : decode cX5_isPair 5 = .ok (.iaload, 1) := by decide +kernel
theorem dX5_isPair_6 : decode cX5_isPair 6 = .ok (.aload_n 0, 1) := by decide +kernel
theorem dX5_isPair_7 : decode cX5_isPair 7 = .ok (.getfield 7, 3) := by decide +kernel
theorem dX5_isPair_10 : decode cX5_isPair 10 = .ok (.iload_n 2, 1) := by decide +kernel
theorem dX5_isPair_11 : decode cX5_isPair 11 = .ok (.iaload, 1) := by decide +kernel
theorem dX5_isPair_12 : decode cX5_isPair 12 = .ok (.if_icmp .ne 22, 3) := by decide +kernel
theorem dX5_isPair_15 : decode cX5_isPair 15 = .ok (.aload_n 0, 1) := by decide +kernel
theorem dX5_isPair_16 : decode cX5_isPair 16 = .ok (.getfield 13, 3) := by decide +kernel
theorem dX5_isPair_19 : decode cX5_isPair 19 = .ok (.iload_n 1, 1) := by decide +kernel
theorem dX5_isPair_20 : decode cX5_isPair 20 = .ok (.iaload, 1) := by decide +kernel
theorem dX5_isPair_21 : decode cX5_isPair 21 = .ok (.aload_n 0, 1) := by decide +kernel
theorem dX5_isPair_22 : decode cX5_isPair 22 = .ok (.getfield 13, 3) := by decide +kernel
theorem dX5_isPair_25 : decode cX5_isPair 25 = .ok (.iload_n 2, 1) := by decide +kernel
theorem dX5_isPair_26 : decode cX5_isPair 26 = .ok (.iaload, 1) := by decide +kernel
theorem dX5_isPair_27 : decode cX5_isPair 27 = .ok (.if_icmp .le 7, 3) := by decide +kernel
theorem dX5_isPair_30 : decode cX5_isPair 30 = .ok (.iconst 1, 1) := by decide +kernel
theorem dX5_isPair_31 : decode cX5_isPair 31 = .ok (.goto 4, 3) := by decide +kernel
theorem dX5_isPair_34 : decode cX5_isPair 34 = .ok (.iconst 0, 1) := by decide +kernel
theorem dX5_isPair_35 : decode cX5_isPair 35 = .ok (.ireturn, 1) := by decide +kernel
set_option maxRecDepth 20000 in
theorem ggX5_score_X5_scoreOf : GoodIn wsX5_score wsX5_scoreOf := goodIn_ca (goodIn_ca (goodIn_r _ [7, 8, 9, 10, 11, 6, 12, 13, 14, 15, 16, 17, 18, 19, 20, 21, 22, 23, 24, 25, 26, 27, 28, 29, 30, 31, 32, 33, 34, 35, 36, 37, 38, 39, 40, 41, 42, 43, 44, 45, 46, 47, 48, 49, 50] (by decide +kernel) (by decide +kernel)) (goodIn_sub (fun _ h => List.mem_cons_of_mem _ (List.mem_append_left _ (List.mem_append_right _ h))) (by decide +kernel))) (goodIn_sub (fun _ h => List.mem_cons_of_mem _ (List.mem_append_right _ h)) (by decide +kernel))
set_option maxRecDepth 20000 in
theorem gX5_score_X5_scoreOf : GoodIn wsX5_score (wsV RX5 96 RX5 yX5_scoreOf wsX5_scoreOf) := goodIn_app (goodIn_of _ (by decide +kernel)) ggX5_score_X5_scoreOf
theorem dX5_score_0 : decode cX5_score 0 = .ok (.iconst 0, 1) := by decide +kernel
theorem dX5_score_1 : decode cX5_score 1 = .ok (.istore_n 1, 1) := by decide +kernel
theorem dX5_score_2 : decode cX5_score 2 = .ok (.iload_n 1, 1) := by decide +kernel
theorem dX5_score_3 : decode cX5_score 3 = .ok (.aload_n 0, 1) := by decide +kernel
theorem dX5_score_4 : decode cX5_score 4 = .ok (.getfield 63, 3) := by decide +kernel
theorem dX5_score_7 : decode cX5_score 7 = .ok (.if_icmp .ge 20, 3) := by decide +kernel
theorem dX5_score_10 : decode cX5_score 10 = .ok (.aload_n 0, 1) := by decide +kernel
theorem dX5_score_11 : decode cX5_score 11 = .ok (.getfield 51, 3) := by decide +kernel
theorem dX5_score_14 : decode cX5_score 14 = .ok (.iload_n 1, 1) := by decide +kernel
theorem dX5_score_15 : decode cX5_score 15 = .ok (.aload_n 0, 1) := by decide +kernel
theorem dX5_score_16 : decode cX5_score 16 = .ok (.iload_n 1, 1) := by decide +kernel
theorem dX5_score_17 : decode cX5_score 17 = .ok (.invokevirtual 96, 3) := by decide +kernel
theorem dX5_score_20 : decode cX5_score 20 = .ok (.lastore, 1) := by decide +kernel
theorem dX5_score_21 : decode cX5_score 21 = .ok (.iinc 1 1, 3) := by decide +kernel
theorem dX5_score_24 : decode cX5_score 24 = .ok (.goto (-22), 3) := by decide +kernel
theorem dX5_score_27 : decode cX5_score 27 = .ok (.return_, 1) := by decide +kernel
set_option maxRecDepth 20000 in
theorem ggX5_pushOf_X5_isPair : GoodIn wsX5_pushOf wsX5_isPair := goodIn_ca (goodIn_ca (goodIn_r _ [9, 10, 4, 11, 12, 13, 14, 15, 16, 17, 18, 19, 20, 21, 22, 23, 24, 25, 26, 27, 28, 29, 30, 31, 32, 33, 34] (by decide +kernel) (by decide +kernel)) (goodIn_sub (fun _ h => List.mem_cons_of_mem _ (List.mem_append_right _ h)) (by decide +kernel))) (goodIn_sub (fun _ h => List.mem_cons_of_mem _ (List.mem_append_left _ (List.mem_append_right _ h))) (by decide +kernel))
set_option maxRecDepth 20000 in
theorem gX5_pushOf_X5_isPair : GoodIn wsX5_pushOf (wsV RX5 100 RX5 yX5_isPair wsX5_isPair) := goodIn_app (goodIn_of _ (by decide +kernel)) ggX5_pushOf_X5_isPair
theorem dX5_pushOf_0 : decode cX5_pushOf 0 = .ok (.iconst 0, 1) := by decide +kernel
theorem dX5_pushOf_1 : decode cX5_pushOf 1 = .ok (.istore_n 2, 1) := by decide +kernel
theorem dX5_pushOf_2 : decode cX5_pushOf 2 = .ok (.iconst 0, 1) := by decide +kernel
theorem dX5_pushOf_3 : decode cX5_pushOf 3 = .ok (.istore_n 3, 1) := by decide +kernel
theorem dX5_pushOf_4 : decode cX5_pushOf 4 = .ok (.iload_n 3, 1) := by decide +kernel
theorem dX5_pushOf_5 : decode cX5_pushOf 5 = .ok (.aload_n 0, 1) := by decide +kernel
theorem dX5_pushOf_6 : decode cX5_pushOf 6 = .ok (.getfield 63, 3) := by decide +kernel
theorem dX5_pushOf_9 : decode cX5_pushOf 9 = .ok (.if_icmp .ge 107, 3) := by decide +kernel
theorem dX5_pushOf_12 : decode cX5_pushOf 12 = .ok (.aload_n 0, 1) := by decide +kernel
theorem dX5_pushOf_13 : decode cX5_pushOf 13 = .ok (.iload_n 1, 1) := by decide +kernel
theorem dX5_pushOf_14 : decode cX5_pushOf 14 = .ok (.iload_n 3, 1) := by decide +kernel
theorem dX5_pushOf_15 : decode cX5_pushOf 15 = .ok (.invokevirtual 100, 3) := by decide +kernel
theorem dX5_pushOf_18 : decode cX5_pushOf 18 = .ok (.ifCond .eq 43, 3) := by decide +kernel
theorem dX5_pushOf_21 : decode cX5_pushOf 21 = .ok (.aload_n 0, 1) := by decide +kernel
theorem dX5_pushOf_22 : decode cX5_pushOf 22 = .ok (.getfield 51, 3) := by decide +kernel
theorem dX5_pushOf_25 : decode cX5_pushOf 25 = .ok (.iload_n 1, 1) := by decide +kernel
theorem dX5_pushOf_26 : decode cX5_pushOf 26 = .ok (.laload, 1) := by decide +kernel
theorem dX5_pushOf_27 : decode cX5_pushOf 27 = .ok (.aload_n 0, 1) := by decide +kernel
theorem dX5_pushOf_28 : decode cX5_pushOf 28 = .ok (.getfield 51, 3) := by decide +kernel
theorem dX5_pushOf_31 : decode cX5_pushOf 31 = .ok (.iload_n 3, 1) := by decide +kernel
theorem dX5_pushOf_32 : decode cX5_pushOf 32 = .ok (.laload, 1) := by decide +kernel
theorem dX5_pushOf_33 : decode cX5_pushOf 33 = .ok (.lsub, 1) := by decide +kernel
theorem dX5_pushOf_34 : decode cX5_pushOf 34 = .ok (.aload_n 0, 1) := by decide +kernel
theorem dX5_pushOf_35 : decode cX5_pushOf 35 = .ok (.getfield 23, 3) := by decide +kernel
theorem dX5_pushOf_38 : decode cX5_pushOf 38 = .ok (.iconst 0, 1) := by decide +kernel
theorem dX5_pushOf_39 : decode cX5_pushOf 39 = .ok (.iaload, 1) := by decide +kernel
theorem dX5_pushOf_40 : decode cX5_pushOf 40 = .ok (.i2l, 1) := by decide +kernel
theorem dX5_pushOf_41 : decode cX5_pushOf 41 = .ok (.lcmp, 1) := by decide +kernel
theorem dX5_pushOf_42 : decode cX5_pushOf 42 = .ok (.ifCond .ge 19, 3) := by decide +kernel
theorem dX5_pushOf_45 : decode cX5_pushOf 45 = .ok (.iload_n 2, 1) := by decide +kernel
theorem dX5_pushOf_46 : decode cX5_pushOf 46 = .ok (.aload_n 0, 1) := by decide +kernel
theorem dX5_pushOf_47 : decode cX5_pushOf 47 = .ok (.getfield 13, 3) := by decide +kernel
theorem dX5_pushOf_50 : decode cX5_pushOf 50 = .ok (.iload_n 1, 1) := by decide +kernel
theorem dX5_pushOf_51 : decode cX5_pushOf 51 = .ok (.iaload, 1) := by decide +kernel
theorem dX5_pushOf_52 : decode cX5_pushOf 52 = .ok (.aload_n 0, 1) := by decide +kernel
theorem dX5_pushOf_53 : decode cX5_pushOf 53 = .ok (.getfield 13, 3) := by decide +kernel
theorem dX5_pushOf_56 : decode cX5_pushOf 56 = .ok (.iload_n 3, 1) := by decide +kernel
theorem dX5_pushOf_57 : decode cX5_pushOf 57 = .ok (.iaload, 1) := by decide +kernel
theorem dX5_pushOf_58 : decode cX5_pushOf 58 = .ok (.isub, 1) := by decide +kernel
theorem dX5_pushOf_59 : decode cX5_pushOf 59 = .ok (.iadd, 1) := by decide +kernel
theorem dX5_pushOf_60 : decode cX5_pushOf 60 = .ok (.istore_n 2, 1) := by decide +kernel
theorem dX5_pushOf_61 : decode cX5_pushOf 61 = .ok (.aload_n 0, 1) := by decide +kernel
theorem dX5_pushOf_62 : decode cX5_pushOf 62 = .ok (.iload_n 3, 1) := by decide +kernel
theorem dX5_pushOf_63 : decode cX5_pushOf 63 = .ok (.iload_n 1, 1) := by decide +kernel
theorem dX5_pushOf_64 : decode cX5_pushOf 64 = .ok (.invokevirtual 100, 3) := by decide +kernel
theorem dX5_pushOf_67 : decode cX5_pushOf 67 = .ok (.ifCond .eq 43, 3) := by decide +kernel
theorem dX5_pushOf_70 : decode cX5_pushOf 70 = .ok (.aload_n 0, 1) := by decide +kernel
theorem dX5_pushOf_71 : decode cX5_pushOf 71 = .ok (.getfield 51, 3) := by decide +kernel
theorem dX5_pushOf_74 : decode cX5_pushOf 74 = .ok (.iload_n 3, 1) := by decide +kernel
theorem dX5_pushOf_75 : decode cX5_pushOf 75 = .ok (.laload, 1) := by decide +kernel
theorem dX5_pushOf_76 : decode cX5_pushOf 76 = .ok (.aload_n 0, 1) := by decide +kernel
theorem dX5_pushOf_77 : decode cX5_pushOf 77 = .ok (.getfield 51, 3) := by decide +kernel
theorem dX5_pushOf_80 : decode cX5_pushOf 80 = .ok (.iload_n 1, 1) := by decide +kernel
theorem dX5_pushOf_81 : decode cX5_pushOf 81 = .ok (.laload, 1) := by decide +kernel
theorem dX5_pushOf_82 : decode cX5_pushOf 82 = .ok (.lsub, 1) := by decide +kernel
theorem dX5_pushOf_83 : decode cX5_pushOf 83 = .ok (.aload_n 0, 1) := by decide +kernel
theorem dX5_pushOf_84 : decode cX5_pushOf 84 = .ok (.getfield 23, 3) := by decide +kernel
theorem dX5_pushOf_87 : decode cX5_pushOf 87 = .ok (.iconst 0, 1) := by decide +kernel
theorem dX5_pushOf_88 : decode cX5_pushOf 88 = .ok (.iaload, 1) := by decide +kernel
theorem dX5_pushOf_89 : decode cX5_pushOf 89 = .ok (.i2l, 1) := by decide +kernel
theorem dX5_pushOf_90 : decode cX5_pushOf 90 = .ok (.lcmp, 1) := by decide +kernel
theorem dX5_pushOf_91 : decode cX5_pushOf 91 = .ok (.ifCond .ge 19, 3) := by decide +kernel
theorem dX5_pushOf_94 : decode cX5_pushOf 94 = .ok (.iload_n 2, 1) := by decide +kernel
theorem dX5_pushOf_95 : decode cX5_pushOf 95 = .ok (.aload_n 0, 1) := by decide +kernel
theorem dX5_pushOf_96 : decode cX5_pushOf 96 = .ok (.getfield 13, 3) := by decide +kernel
theorem dX5_pushOf_99 : decode cX5_pushOf 99 = .ok (.iload_n 3, 1) := by decide +kernel
theorem dX5_pushOf_100 : decode cX5_pushOf 100 = .ok (.iaload, 1) := by decide +kernel
theorem dX5_pushOf_101 : decode cX5_pushOf 101 = .ok (.aload_n 0, 1) := by decide +kernel
theorem dX5_pushOf_102 : decode cX5_pushOf 102 = .ok (.getfield 13, 3) := by decide +kernel
theorem dX5_pushOf_105 : decode cX5_pushOf 105 = .ok (.iload_n 1, 1) := by decide +kernel
theorem dX5_pushOf_106 : decode cX5_pushOf 106 = .ok (.iaload, 1) := by decide +kernel
theorem dX5_pushOf_107 : decode cX5_pushOf 107 = .ok (.isub, 1) := by decide +kernel
theorem dX5_pushOf_108 : decode cX5_pushOf 108 = .ok (.isub, 1) := by decide +kernel
theorem dX5_pushOf_109 : decode cX5_pushOf 109 = .ok (.istore_n 2, 1) := by decide +kernel
theorem dX5_pushOf_110 : decode cX5_pushOf 110 = .ok (.iinc 3 1, 3) := by decide +kernel
theorem dX5_pushOf_113 : decode cX5_pushOf 113 = .ok (.goto (-109), 3) := by decide +kernel
theorem dX5_pushOf_116 : decode cX5_pushOf 116 = .ok (.iload_n 2, 1) := by decide +kernel
theorem dX5_pushOf_117 : decode cX5_pushOf 117 = .ok (.ireturn, 1) := by decide +kernel
theorem dX5_floor_0 : decode cX5_floor 0 = .ok (.iload_n 0, 1) := by decide +kernel
theorem dX5_floor_1 : decode cX5_floor 1 = .ok (.iload_n 1, 1) := by decide +kernel
theorem dX5_floor_2 : decode cX5_floor 2 = .ok (.idiv, 1) := by decide +kernel
theorem dX5_floor_3 : decode cX5_floor 3 = .ok (.istore_n 2, 1) := by decide +kernel
theorem dX5_floor_4 : decode cX5_floor 4 = .ok (.iload_n 0, 1) := by decide +kernel
theorem dX5_floor_5 : decode cX5_floor 5 = .ok (.iload_n 1, 1) := by decide +kernel
theorem dX5_floor_6 : decode cX5_floor 6 = .ok (.irem, 1) := by decide +kernel
theorem dX5_floor_7 : decode cX5_floor 7 = .ok (.ifCond .ge 9, 3) := by decide +kernel
theorem dX5_floor_10 : decode cX5_floor 10 = .ok (.iload_n 2, 1) := by decide +kernel
theorem dX5_floor_11 : decode cX5_floor 11 = .ok (.iconst 1, 1) := by decide +kernel
theorem dX5_floor_12 : decode cX5_floor 12 = .ok (.isub, 1) := by decide +kernel
theorem dX5_floor_13 : decode cX5_floor 13 = .ok (.goto 4, 3) := by decide +kernel
theorem dX5_floor_16 : decode cX5_floor 16 = .ok (.iload_n 2, 1) := by decide +kernel
theorem dX5_floor_17 : decode cX5_floor 17 = .ok (.ireturn, 1) := by decide +kernel
set_option maxRecDepth 20000 in
theorem ggX5_tries_X5_goesLeft : GoodIn wsX5_tries wsX5_goesLeft := goodIn_ca (goodIn_ca (goodIn_r _ [14, 15, 16, 17, 18, 13, 19, 20, 21, 22, 23, 24, 25, 26, 27, 28, 29, 30, 31, 32, 33, 34, 35, 36, 37, 38, 39, 40, 41, 42, 43] (by decide +kernel) (by decide +kernel)) (goodIn_sub (fun _ h => List.mem_cons_of_mem _ (List.mem_append_left _ (List.mem_append_right _ h))) (by decide +kernel))) (goodIn_sub (fun _ h => List.mem_cons_of_mem _ (List.mem_append_right _ h)) (by decide +kernel))
set_option maxRecDepth 20000 in
theorem gX5_tries_X5_goesLeft : GoodIn wsX5_tries (wsV RX5 88 RX5 yX5_goesLeft wsX5_goesLeft) := goodIn_app (goodIn_of _ (by decide +kernel)) ggX5_tries_X5_goesLeft
theorem dX5_tries_0 : decode cX5_tries 0 = .ok (.lconst 0, 1) := by decide +kernel
theorem dX5_tries_1 : decode cX5_tries 1 = .ok (.lstore 5, 2) := by decide +kernel
theorem dX5_tries_3 : decode cX5_tries 3 = .ok (.lconst 0, 1) := by decide +kernel
theorem dX5_tries_4 : decode cX5_tries 4 = .ok (.lstore 7, 2) := by decide +kernel
theorem dX5_tries_6 : decode cX5_tries 6 = .ok (.lconst 0, 1) := by decide +kernel
theorem dX5_tries_7 : decode cX5_tries 7 = .ok (.lstore 9, 2) := by decide +kernel
theorem dX5_tries_9 : decode cX5_tries 9 = .ok (.lconst 0, 1) := by decide +kernel
theorem dX5_tries_10 : decode cX5_tries 10 = .ok (.lstore 11, 2) := by decide +kernel
theorem dX5_tries_12 : decode cX5_tries 12 = .ok (.iconst 0, 1) := by decide +kernel
theorem dX5_tries_13 : decode cX5_tries 13 = .ok (.istore 13, 2) := by decide +kernel
theorem dX5_tries_15 : decode cX5_tries 15 = .ok (.iload 13, 2) := by decide +kernel
theorem dX5_tries_17 : decode cX5_tries 17 = .ok (.aload_n 0, 1) := by decide +kernel
theorem dX5_tries_18 : decode cX5_tries 18 = .ok (.getfield 63, 3) := by decide +kernel
theorem dX5_tries_21 : decode cX5_tries 21 = .ok (.if_icmp .ge 88, 3) := by decide +kernel
theorem dX5_tries_24 : decode cX5_tries 24 = .ok (.aload_n 0, 1) := by decide +kernel
theorem dX5_tries_25 : decode cX5_tries 25 = .ok (.getfield 54, 3) := by decide +kernel
theorem dX5_tries_28 : decode cX5_tries 28 = .ok (.iload 13, 2) := by decide +kernel
theorem dX5_tries_30 : decode cX5_tries 30 = .ok (.iaload, 1) := by decide +kernel
theorem dX5_tries_31 : decode cX5_tries 31 = .ok (.iload_n 1, 1) := by decide +kernel
theorem dX5_tries_32 : decode cX5_tries 32 = .ok (.if_icmp .ne 71, 3) := by decide +kernel
theorem dX5_tries_35 : decode cX5_tries 35 = .ok (.aload_n 0, 1) := by decide +kernel
theorem dX5_tries_36 : decode cX5_tries 36 = .ok (.iload 13, 2) := by decide +kernel
theorem dX5_tries_38 : decode cX5_tries 38 = .ok (.iload_n 2, 1) := by decide +kernel
theorem dX5_tries_39 : decode cX5_tries 39 = .ok (.iload_n 3, 1) := by decide +kernel
theorem dX5_tries_40 : decode cX5_tries 40 = .ok (.iload 4, 2) := by decide +kernel
theorem dX5_tries_42 : decode cX5_tries 42 = .ok (.invokevirtual 88, 3) := by decide +kernel
theorem dX5_tries_45 : decode cX5_tries 45 = .ok (.istore 14, 2) := by decide +kernel
theorem dX5_tries_47 : decode cX5_tries 47 = .ok (.lload 9, 2) := by decide +kernel
theorem dX5_tries_49 : decode cX5_tries 49 = .ok (.lconst 1, 1) := by decide +kernel
theorem dX5_tries_50 : decode cX5_tries 50 = .ok (.ladd, 1) := by decide +kernel
theorem dX5_tries_51 : decode cX5_tries 51 = .ok (.lstore 9, 2) := by decide +kernel
theorem dX5_tries_53 : decode cX5_tries 53 = .ok (.lload 11, 2) := by decide +kernel
theorem dX5_tries_55 : decode cX5_tries 55 = .ok (.aload_n 0, 1) := by decide +kernel
theorem dX5_tries_56 : decode cX5_tries 56 = .ok (.getfield 57, 3) := by decide +kernel
theorem dX5_tries_59 : decode cX5_tries 59 = .ok (.iload 13, 2) := by decide +kernel
theorem dX5_tries_61 : decode cX5_tries 61 = .ok (.iaload, 1) := by decide +kernel
theorem dX5_tries_62 : decode cX5_tries 62 = .ok (.i2l, 1) := by decide +kernel
theorem dX5_tries_63 : decode cX5_tries 63 = .ok (.ladd, 1) := by decide +kernel
theorem dX5_tries_64 : decode cX5_tries 64 = .ok (.lstore 11, 2) := by decide +kernel
theorem dX5_tries_66 : decode cX5_tries 66 = .ok (.lload 5, 2) := by decide +kernel
theorem dX5_tries_68 : decode cX5_tries 68 = .ok (.iload 14, 2) := by decide +kernel
theorem dX5_tries_70 : decode cX5_tries 70 = .ok (.ifCond .eq 7, 3) := by decide +kernel
theorem dX5_tries_73 : decode cX5_tries 73 = .ok (.lconst 1, 1) := by decide +kernel
theorem dX5_tries_74 : decode cX5_tries 74 = .ok (.goto 4, 3) := by decide +kernel
theorem dX5_tries_77 : decode cX5_tries 77 = .ok (.lconst 0, 1) := by decide +kernel
theorem dX5_tries_78 : decode cX5_tries 78 = .ok (.ladd, 1) := by decide +kernel
theorem dX5_tries_79 : decode cX5_tries 79 = .ok (.lstore 5, 2) := by decide +kernel
theorem dX5_tries_81 : decode cX5_tries 81 = .ok (.lload 7, 2) := by decide +kernel
theorem dX5_tries_83 : decode cX5_tries 83 = .ok (.iload 14, 2) := by decide +kernel
theorem dX5_tries_85 : decode cX5_tries 85 = .ok (.ifCond .eq 14, 3) := by decide +kernel
theorem dX5_tries_88 : decode cX5_tries 88 = .ok (.aload_n 0, 1) := by decide +kernel
theorem dX5_tries_89 : decode cX5_tries 89 = .ok (.getfield 57, 3) := by decide +kernel
theorem dX5_tries_92 : decode cX5_tries 92 = .ok (.iload 13, 2) := by decide +kernel
theorem dX5_tries_94 : decode cX5_tries 94 = .ok (.iaload, 1) := by decide +kernel
theorem dX5_tries_95 : decode cX5_tries 95 = .ok (.i2l, 1) := by decide +kernel
theorem dX5_tries_96 : decode cX5_tries 96 = .ok (.goto 4, 3) := by decide +kernel
theorem dX5_tries_99 : decode cX5_tries 99 = .ok (.lconst 0, 1) := by decide +kernel
theorem dX5_tries_100 : decode cX5_tries 100 = .ok (.ladd, 1) := by decide +kernel
theorem dX5_tries_101 : decode cX5_tries 101 = .ok (.lstore 7, 2) := by decide +kernel
theorem dX5_tries_103 : decode cX5_tries 103 = .ok (.iinc 13 1, 3) := by decide +kernel
theorem dX5_tries_106 : decode cX5_tries 106 = .ok (.goto (-91), 3) := by decide +kernel
theorem dX5_tries_109 : decode cX5_tries 109 = .ok (.lload 9, 2) := by decide +kernel
theorem dX5_tries_111 : decode cX5_tries 111 = .ok (.lload 5, 2) := by decide +kernel
theorem dX5_tries_113 : decode cX5_tries 113 = .ok (.lsub, 1) := by decide +kernel
theorem dX5_tries_114 : decode cX5_tries 114 = .ok (.lstore 13, 2) := by decide +kernel
theorem dX5_tries_116 : decode cX5_tries 116 = .ok (.lload 5, 2) := by decide +kernel
theorem dX5_tries_118 : decode cX5_tries 118 = .ok (.aload_n 0, 1) := by decide +kernel
theorem dX5_tries_119 : decode cX5_tries 119 = .ok (.getfield 23, 3) := by decide +kernel
theorem dX5_tries_122 : decode cX5_tries 122 = .ok (.iconst 3, 1) := by decide +kernel
theorem dX5_tries_123 : decode cX5_tries 123 = .ok (.iaload, 1) := by decide +kernel
theorem dX5_tries_124 : decode cX5_tries 124 = .ok (.i2l, 1) := by decide +kernel
theorem dX5_tries_125 : decode cX5_tries 125 = .ok (.lcmp, 1) := by decide +kernel
theorem dX5_tries_126 : decode cX5_tries 126 = .ok (.ifCond .lt 16, 3) := by decide +kernel
theorem dX5_tries_129 : decode cX5_tries 129 = .ok (.lload 13, 2) := by decide +kernel
theorem dX5_tries_131 : decode cX5_tries 131 = .ok (.aload_n 0, 1) := by decide +kernel
theorem dX5_tries_132 : decode cX5_tries 132 = .ok (.getfield 23, 3) := by decide +kernel
theorem dX5_tries_135 : decode cX5_tries 135 = .ok (.iconst 3, 1) := by decide +kernel
theorem dX5_tries_136 : decode cX5_tries 136 = .ok (.iaload, 1) := by decide +kernel
theorem dX5_tries_137 : decode cX5_tries 137 = .ok (.i2l, 1) := by decide +kernel
theorem dX5_tries_138 : decode cX5_tries 138 = .ok (.lcmp, 1) := by decide +kernel
theorem dX5_tries_139 : decode cX5_tries 139 = .ok (.ifCond .ge 4, 3) := by decide +kernel
theorem dX5_tries_142 : decode cX5_tries 142 = .ok (.return_, 1) := by decide +kernel
theorem dX5_tries_143 : decode cX5_tries 143 = .ok (.lload 7, 2) := by decide +kernel
theorem dX5_tries_145 : decode cX5_tries 145 = .ok (.lload 13, 2) := by decide +kernel
theorem dX5_tries_147 : decode cX5_tries 147 = .ok (.lmul, 1) := by decide +kernel
theorem dX5_tries_148 : decode cX5_tries 148 = .ok (.lload 11, 2) := by decide +kernel
theorem dX5_tries_150 : decode cX5_tries 150 = .ok (.lload 7, 2) := by decide +kernel
theorem dX5_tries_152 : decode cX5_tries 152 = .ok (.lsub, 1) := by decide +kernel
theorem dX5_tries_153 : decode cX5_tries 153 = .ok (.lload 5, 2) := by decide +kernel
theorem dX5_tries_155 : decode cX5_tries 155 = .ok (.lmul, 1) := by decide +kernel
theorem dX5_tries_156 : decode cX5_tries 156 = .ok (.lsub, 1) := by decide +kernel
theorem dX5_tries_157 : decode cX5_tries 157 = .ok (.lstore 15, 2) := by decide +kernel
theorem dX5_tries_159 : decode cX5_tries 159 = .ok (.lload 15, 2) := by decide +kernel
theorem dX5_tries_161 : decode cX5_tries 161 = .ok (.lload 15, 2) := by decide +kernel
theorem dX5_tries_163 : decode cX5_tries 163 = .ok (.lmul, 1) := by decide +kernel
theorem dX5_tries_164 : decode cX5_tries 164 = .ok (.lstore 17, 2) := by decide +kernel
theorem dX5_tries_166 : decode cX5_tries 166 = .ok (.lload 5, 2) := by decide +kernel
theorem dX5_tries_168 : decode cX5_tries 168 = .ok (.lload 13, 2) := by decide +kernel
theorem dX5_tries_170 : decode cX5_tries 170 = .ok (.lmul, 1) := by decide +kernel
theorem dX5_tries_171 : decode cX5_tries 171 = .ok (.lload 9, 2) := by decide +kernel
theorem dX5_tries_173 : decode cX5_tries 173 = .ok (.lmul, 1) := by decide +kernel
theorem dX5_tries_174 : decode cX5_tries 174 = .ok (.lstore 19, 2) := by decide +kernel
theorem dX5_tries_176 : decode cX5_tries 176 = .ok (.lload 17, 2) := by decide +kernel
theorem dX5_tries_178 : decode cX5_tries 178 = .ok (.aload_n 0, 1) := by decide +kernel
theorem dX5_tries_179 : decode cX5_tries 179 = .ok (.getfield 104, 3) := by decide +kernel
theorem dX5_tries_182 : decode cX5_tries 182 = .ok (.lmul, 1) := by decide +kernel
theorem dX5_tries_183 : decode cX5_tries 183 = .ok (.aload_n 0, 1) := by decide +kernel
theorem dX5_tries_184 : decode cX5_tries 184 = .ok (.getfield 108, 3) := by decide +kernel
theorem dX5_tries_187 : decode cX5_tries 187 = .ok (.lload 19, 2) := by decide +kernel
theorem dX5_tries_189 : decode cX5_tries 189 = .ok (.lmul, 1) := by decide +kernel
theorem dX5_tries_190 : decode cX5_tries 190 = .ok (.lcmp, 1) := by decide +kernel
theorem dX5_tries_191 : decode cX5_tries 191 = .ok (.ifCond .le 31, 3) := by decide +kernel
theorem dX5_tries_194 : decode cX5_tries 194 = .ok (.aload_n 0, 1) := by decide +kernel
theorem dX5_tries_195 : decode cX5_tries 195 = .ok (.iload_n 2, 1) := by decide +kernel
theorem dX5_tries_196 : decode cX5_tries 196 = .ok (.putfield 111, 3) := by decide +kernel
theorem dX5_tries_199 : decode cX5_tries 199 = .ok (.aload_n 0, 1) := by decide +kernel
theorem dX5_tries_200 : decode cX5_tries 200 = .ok (.iload_n 3, 1) := by decide +kernel
theorem dX5_tries_201 : decode cX5_tries 201 = .ok (.putfield 114, 3) := by decide +kernel
theorem dX5_tries_204 : decode cX5_tries 204 = .ok (.aload_n 0, 1) := by decide +kernel
theorem dX5_tries_205 : decode cX5_tries 205 = .ok (.iload 4, 2) := by decide +kernel
theorem dX5_tries_207 : decode cX5_tries 207 = .ok (.putfield 117, 3) := by decide +kernel
theorem dX5_tries_210 : decode cX5_tries 210 = .ok (.aload_n 0, 1) := by decide +kernel
theorem dX5_tries_211 : decode cX5_tries 211 = .ok (.lload 17, 2) := by decide +kernel
theorem dX5_tries_213 : decode cX5_tries 213 = .ok (.putfield 108, 3) := by decide +kernel
theorem dX5_tries_216 : decode cX5_tries 216 = .ok (.aload_n 0, 1) := by decide +kernel
theorem dX5_tries_217 : decode cX5_tries 217 = .ok (.lload 19, 2) := by decide +kernel
theorem dX5_tries_219 : decode cX5_tries 219 = .ok (.putfield 104, 3) := by decide +kernel
theorem dX5_tries_222 : decode cX5_tries 222 = .ok (.return_, 1) := by decide +kernel
theorem dX5_below_0 : decode cX5_below 0 = .ok (.iload_n 0, 1) := by decide +kernel
theorem dX5_below_1 : decode cX5_below 1 = .ok (.ifCond .ne 7, 3) := by decide +kernel
theorem dX5_below_4 : decode cX5_below 4 = .ok (.iconst 0, 1) := by decide +kernel
theorem dX5_below_5 : decode cX5_below 5 = .ok (.goto 23, 3) := by decide +kernel
theorem dX5_below_8 : decode cX5_below 8 = .ok (.iload_n 0, 1) := by decide +kernel
theorem dX5_below_9 : decode cX5_below 9 = .ok (.iconst 3, 1) := by decide +kernel
theorem dX5_below_10 : decode cX5_below 10 = .ok (.if_icmp .ge 7, 3) := by decide +kernel
theorem dX5_below_13 : decode cX5_below 13 = .ok (.iconst 1, 1) := by decide +kernel
theorem dX5_below_14 : decode cX5_below 14 = .ok (.goto 14, 3) := by decide +kernel
theorem dX5_below_17 : decode cX5_below 17 = .ok (.iload_n 0, 1) := by decide +kernel
theorem dX5_below_18 : decode cX5_below 18 = .ok (.bipush 7, 2) := by decide +kernel
theorem dX5_below_20 : decode cX5_below 20 = .ok (.if_icmp .ge 7, 3) := by decide +kernel
theorem dX5_below_23 : decode cX5_below 23 = .ok (.iconst 2, 1) := by decide +kernel
theorem dX5_below_24 : decode cX5_below 24 = .ok (.goto 4, 3) := by decide +kernel
theorem dX5_below_27 : decode cX5_below 27 = .ok (.iconst 3, 1) := by decide +kernel
theorem dX5_below_28 : decode cX5_below 28 = .ok (.ireturn, 1) := by decide +kernel
set_option maxRecDepth 20000 in
theorem ggX5_growNode_X5_floor : GoodIn wsX5_growNode wsX5_floor := goodIn_ca (goodIn_r _ [24] (by decide +kernel) (by decide +kernel)) (goodIn_sub (fun _ h => List.mem_cons_of_mem _ (List.mem_append_right _ h)) (by decide +kernel))
set_option maxRecDepth 20000 in
theorem gX5_growNode_X5_floor : GoodIn wsX5_growNode (va_wsS RX5 120 yX5_floor wsX5_floor) := goodIn_app (goodIn_of _ (by decide +kernel)) ggX5_growNode_X5_floor
set_option maxRecDepth 20000 in
theorem ggX5_growNode_X5_below : GoodIn wsX5_growNode wsX5_below := goodIn_r _ [27] (by decide +kernel) (by decide +kernel)
set_option maxRecDepth 20000 in
theorem gX5_growNode_X5_below : GoodIn wsX5_growNode (va_wsS RX5 123 yX5_below wsX5_below) := goodIn_app (goodIn_of _ (by decide +kernel)) ggX5_growNode_X5_below
set_option maxRecDepth 20000 in
theorem ggX5_growNode_X5_tries : GoodIn wsX5_growNode wsX5_tries := goodIn_ca (goodIn_ca (goodIn_r _ [31, 2, 3, 4, 8, 10, 9, 14, 16, 18, 32, 33, 34, 23, 35, 11, 12, 36, 37, 38, 42, 43, 44, 45, 46, 47, 48, 49, 50, 51, 52, 53, 54, 55, 56, 57, 58, 59, 60, 61, 62, 63, 64, 65] (by decide +kernel) (by decide +kernel)) (goodIn_sub (fun _ h => List.mem_cons_of_mem _ (List.mem_append_left _ (List.mem_append_left _ (List.mem_append_right _ h)))) (by decide +kernel))) (goodIn_sub (fun _ h => List.mem_cons_of_mem _ (List.mem_append_left _ (List.mem_append_right _ h))) (by decide +kernel))
set_option maxRecDepth 20000 in
theorem gX5_growNode_X5_tries : GoodIn wsX5_growNode (wsV RX5 126 RX5 yX5_tries wsX5_tries) := goodIn_app (goodIn_of _ (by decide +kernel)) ggX5_growNode_X5_tries
set_option maxRecDepth 20000 in
theorem ggX5_growNode_X5_common : GoodIn wsX5_growNode wsX5_common := goodIn_ca (goodIn_r _ [41] (by decide +kernel) (by decide +kernel)) (goodIn_sub (fun _ h => List.mem_cons_of_mem _ (List.mem_append_right _ h)) (by decide +kernel))
set_option maxRecDepth 20000 in
theorem gX5_growNode_X5_common : GoodIn wsX5_growNode (va_wsS RX5 130 yX5_common wsX5_common) := goodIn_app (goodIn_of _ (by decide +kernel)) ggX5_growNode_X5_common
set_option maxRecDepth 20000 in
theorem ggX5_growNode_X5_goesLeft : GoodIn wsX5_growNode wsX5_goesLeft := goodIn_ca (goodIn_ca (goodIn_r _ [35, 11, 12, 36, 37, 23, 38, 42, 43, 44, 45, 46, 47, 48, 49, 50, 51, 52, 53, 54, 55, 56, 57, 58, 59, 60, 61, 62, 63, 64, 65] (by decide +kernel) (by decide +kernel)) (goodIn_sub (fun _ h => List.mem_cons_of_mem _ (List.mem_append_left _ (List.mem_append_left _ (List.mem_append_right _ h)))) (by decide +kernel))) (goodIn_sub (fun _ h => List.mem_cons_of_mem _ (List.mem_append_left _ (List.mem_append_right _ h))) (by decide +kernel))
set_option maxRecDepth 20000 in
theorem gX5_growNode_X5_goesLeft : GoodIn wsX5_growNode (wsV RX5 88 RX5 yX5_goesLeft wsX5_goesLeft) := goodIn_app (goodIn_of _ (by decide +kernel)) ggX5_growNode_X5_goesLeft
theorem dX5_growNode_0 : decode cX5_growNode 0 = .ok (.bipush 15, 2) := by decide +kernel
theorem dX5_growNode_2 : decode cX5_growNode 2 = .ok (.aload_n 0, 1) := by decide +kernel
theorem dX5_growNode_3 : decode cX5_growNode 3 = .ok (.getfield 67, 3) := by decide +kernel
theorem dX5_growNode_6 : decode cX5_growNode 6 = .ok (.imul, 1) := by decide +kernel
theorem dX5_growNode_7 : decode cX5_growNode 7 = .ok (.iload_n 1, 1) := by decide +kernel
theorem dX5_growNode_8 : decode cX5_growNode 8 = .ok (.iadd, 1) := by decide +kernel
theorem dX5_growNode_9 : decode cX5_growNode 9 = .ok (.istore_n 2, 1) := by decide +kernel
theorem dX5_growNode_10 : decode cX5_growNode 10 = .ok (.iconst 0, 1) := by decide +kernel
theorem dX5_growNode_11 : decode cX5_growNode 11 = .ok (.istore_n 3, 1) := by decide +kernel
theorem dX5_growNode_12 : decode cX5_growNode 12 = .ok (.iconst 0, 1) := by decide +kernel
theorem dX5_growNode_13 : decode cX5_growNode 13 = .ok (.istore 4, 2) := by decide +kernel
theorem dX5_growNode_15 : decode cX5_growNode 15 = .ok (.iconst 0, 1) := by decide +kernel
theorem dX5_growNode_16 : decode cX5_growNode 16 = .ok (.istore 5, 2) := by decide +kernel
theorem dX5_growNode_18 : decode cX5_growNode 18 = .ok (.iload 5, 2) := by decide +kernel
theorem dX5_growNode_20 : decode cX5_growNode 20 = .ok (.aload_n 0, 1) := by decide +kernel
theorem dX5_growNode_21 : decode cX5_growNode 21 = .ok (.getfield 63, 3) := by decide +kernel
theorem dX5_growNode_24 : decode cX5_growNode 24 = .ok (.if_icmp .ge 55, 3) := by decide +kernel
theorem dX5_growNode_27 : decode cX5_growNode 27 = .ok (.iload_n 3, 1) := by decide +kernel
theorem dX5_growNode_28 : decode cX5_growNode 28 = .ok (.aload_n 0, 1) := by decide +kernel
theorem dX5_growNode_29 : decode cX5_growNode 29 = .ok (.getfield 54, 3) := by decide +kernel
theorem dX5_growNode_32 : decode cX5_growNode 32 = .ok (.iload 5, 2) := by decide +kernel
theorem dX5_growNode_34 : decode cX5_growNode 34 = .ok (.iaload, 1) := by decide +kernel
theorem dX5_growNode_35 : decode cX5_growNode 35 = .ok (.iload_n 1, 1) := by decide +kernel
theorem dX5_growNode_36 : decode cX5_growNode 36 = .ok (.if_icmp .ne 7, 3) := by decide +kernel
theorem dX5_growNode_39 : decode cX5_growNode 39 = .ok (.iconst 1, 1) := by decide +kernel
theorem dX5_growNode_40 : decode cX5_growNode 40 = .ok (.goto 4, 3) := by decide +kernel
theorem dX5_growNode_43 : decode cX5_growNode 43 = .ok (.iconst 0, 1) := by decide +kernel
theorem dX5_growNode_44 : decode cX5_growNode 44 = .ok (.iadd, 1) := by decide +kernel
theorem dX5_growNode_45 : decode cX5_growNode 45 = .ok (.istore_n 3, 1) := by decide +kernel
theorem dX5_growNode_46 : decode cX5_growNode 46 = .ok (.iload 4, 2) := by decide +kernel
theorem dX5_growNode_48 : decode cX5_growNode 48 = .ok (.aload_n 0, 1) := by decide +kernel
theorem dX5_growNode_49 : decode cX5_growNode 49 = .ok (.getfield 54, 3) := by decide +kernel
theorem dX5_growNode_52 : decode cX5_growNode 52 = .ok (.iload 5, 2) := by decide +kernel
theorem dX5_growNode_54 : decode cX5_growNode 54 = .ok (.iaload, 1) := by decide +kernel
theorem dX5_growNode_55 : decode cX5_growNode 55 = .ok (.iload_n 1, 1) := by decide +kernel
theorem dX5_growNode_56 : decode cX5_growNode 56 = .ok (.if_icmp .ne 13, 3) := by decide +kernel
theorem dX5_growNode_59 : decode cX5_growNode 59 = .ok (.aload_n 0, 1) := by decide +kernel
theorem dX5_growNode_60 : decode cX5_growNode 60 = .ok (.getfield 57, 3) := by decide +kernel
theorem dX5_growNode_63 : decode cX5_growNode 63 = .ok (.iload 5, 2) := by decide +kernel
theorem dX5_growNode_65 : decode cX5_growNode 65 = .ok (.iaload, 1) := by decide +kernel
theorem dX5_growNode_66 : decode cX5_growNode 66 = .ok (.goto 4, 3) := by decide +kernel
theorem dX5_growNode_69 : decode cX5_growNode 69 = .ok (.iconst 0, 1) := by decide +kernel
theorem dX5_growNode_70 : decode cX5_growNode 70 = .ok (.iadd, 1) := by decide +kernel
theorem dX5_growNode_71 : decode cX5_growNode 71 = .ok (.istore 4, 2) := by decide +kernel
theorem dX5_growNode_73 : decode cX5_growNode 73 = .ok (.iinc 5 1, 3) := by decide +kernel
theorem dX5_growNode_76 : decode cX5_growNode 76 = .ok (.goto (-58), 3) := by decide +kernel
theorem dX5_growNode_79 : decode cX5_growNode 79 = .ok (.aload_n 0, 1) := by decide +kernel
theorem dX5_growNode_80 : decode cX5_growNode 80 = .ok (.getfield 26, 3) := by decide +kernel
theorem dX5_growNode_83 : decode cX5_growNode 83 = .ok (.iload_n 2, 1) := by decide +kernel
theorem dX5_growNode_84 : decode cX5_growNode 84 = .ok (.iload_n 3, 1) := by decide +kernel
theorem dX5_growNode_85 : decode cX5_growNode 85 = .ok (.ifCond .ne 7, 3) := by decide +kernel
theorem dX5_growNode_88 : decode cX5_growNode 88 = .ok (.iconst 0, 1) := by decide +kernel
theorem dX5_growNode_89 : decode cX5_growNode 89 = .ok (.goto 4, 3) := by decide +kernel
theorem dX5_growNode_92 : decode cX5_growNode 92 = .ok (.iconst 1, 1) := by decide +kernel
theorem dX5_growNode_93 : decode cX5_growNode 93 = .ok (.iastore, 1) := by decide +kernel
theorem dX5_growNode_94 : decode cX5_growNode 94 = .ok (.aload_n 0, 1) := by decide +kernel
theorem dX5_growNode_95 : decode cX5_growNode 95 = .ok (.getfield 41, 3) := by decide +kernel
theorem dX5_growNode_98 : decode cX5_growNode 98 = .ok (.iload_n 2, 1) := by decide +kernel
theorem dX5_growNode_99 : decode cX5_growNode 99 = .ok (.iload_n 3, 1) := by decide +kernel
theorem dX5_growNode_100 : decode cX5_growNode 100 = .ok (.iastore, 1) := by decide +kernel
theorem dX5_growNode_101 : decode cX5_growNode 101 = .ok (.iload_n 3, 1) := by decide +kernel
theorem dX5_growNode_102 : decode cX5_growNode 102 = .ok (.ifCond .ne 4, 3) := by decide +kernel
theorem dX5_growNode_105 : decode cX5_growNode 105 = .ok (.return_, 1) := by decide +kernel
theorem dX5_growNode_106 : decode cX5_growNode 106 = .ok (.aload_n 0, 1) := by decide +kernel
theorem dX5_growNode_107 : decode cX5_growNode 107 = .ok (.getfield 38, 3) := by decide +kernel
theorem dX5_growNode_110 : decode cX5_growNode 110 = .ok (.iload_n 2, 1) := by decide +kernel
theorem dX5_growNode_111 : decode cX5_growNode 111 = .ok (.aload_n 0, 1) := by decide +kernel
theorem dX5_growNode_112 : decode cX5_growNode 112 = .ok (.getfield 23, 3) := by decide +kernel
theorem dX5_growNode_115 : decode cX5_growNode 115 = .ok (.iconst 1, 1) := by decide +kernel
theorem dX5_growNode_116 : decode cX5_growNode 116 = .ok (.iaload, 1) := by decide +kernel
theorem dX5_growNode_117 : decode cX5_growNode 117 = .ok (.iload 4, 2) := by decide +kernel
theorem dX5_growNode_119 : decode cX5_growNode 119 = .ok (.imul, 1) := by decide +kernel
theorem dX5_growNode_120 : decode cX5_growNode 120 = .ok (.iload_n 3, 1) := by decide +kernel
theorem dX5_growNode_121 : decode cX5_growNode 121 = .ok (.invokestatic 120, 3) := by decide +kernel
theorem dX5_growNode_124 : decode cX5_growNode 124 = .ok (.iastore, 1) := by decide +kernel
theorem dX5_growNode_125 : decode cX5_growNode 125 = .ok (.aload_n 0, 1) := by decide +kernel
theorem dX5_growNode_126 : decode cX5_growNode 126 = .ok (.lconst 0, 1) := by decide +kernel
theorem dX5_growNode_127 : decode cX5_growNode 127 = .ok (.putfield 108, 3) := by decide +kernel
theorem dX5_growNode_130 : decode cX5_growNode 130 = .ok (.aload_n 0, 1) := by decide +kernel
theorem dX5_growNode_131 : decode cX5_growNode 131 = .ok (.lconst 1, 1) := by decide +kernel
theorem dX5_growNode_132 : decode cX5_growNode 132 = .ok (.putfield 104, 3) := by decide +kernel
theorem dX5_growNode_135 : decode cX5_growNode 135 = .ok (.iconst 0, 1) := by decide +kernel
theorem dX5_growNode_136 : decode cX5_growNode 136 = .ok (.istore 5, 2) := by decide +kernel
theorem dX5_growNode_138 : decode cX5_growNode 138 = .ok (.iload 5, 2) := by decide +kernel
theorem dX5_growNode_140 : decode cX5_growNode 140 = .ok (.iconst 4, 1) := by decide +kernel
theorem dX5_growNode_141 : decode cX5_growNode 141 = .ok (.if_icmp .ge 202, 3) := by decide +kernel
theorem dX5_growNode_144 : decode cX5_growNode 144 = .ok (.iload_n 1, 1) := by decide +kernel
theorem dX5_growNode_145 : decode cX5_growNode 145 = .ok (.invokestatic 123, 3) := by decide +kernel
theorem dX5_growNode_148 : decode cX5_growNode 148 = .ok (.aload_n 0, 1) := by decide +kernel
theorem dX5_growNode_149 : decode cX5_growNode 149 = .ok (.getfield 23, 3) := by decide +kernel
theorem dX5_growNode_152 : decode cX5_growNode 152 = .ok (.iconst 2, 1) := by decide +kernel
theorem dX5_growNode_153 : decode cX5_growNode 153 = .ok (.iaload, 1) := by decide +kernel
theorem dX5_growNode_154 : decode cX5_growNode 154 = .ok (.if_icmp .ge 189, 3) := by decide +kernel
theorem dX5_growNode_157 : decode cX5_growNode 157 = .ok (.sipush (-1001), 3) := by decide +kernel
theorem dX5_growNode_160 : decode cX5_growNode 160 = .ok (.istore 6, 2) := by decide +kernel
theorem dX5_growNode_162 : decode cX5_growNode 162 = .ok (.iconst 1, 1) := by decide +kernel
theorem dX5_growNode_163 : decode cX5_growNode 163 = .ok (.istore 7, 2) := by decide +kernel
theorem dX5_growNode_165 : decode cX5_growNode 165 = .ok (.iload 7, 2) := by decide +kernel
theorem dX5_growNode_167 : decode cX5_growNode 167 = .ok (.ifCond .eq 170, 3) := by decide +kernel
theorem dX5_growNode_170 : decode cX5_growNode 170 = .ok (.sipush 1001, 3) := by decide +kernel
theorem dX5_growNode_173 : decode cX5_growNode 173 = .ok (.istore 8, 2) := by decide +kernel
theorem dX5_growNode_175 : decode cX5_growNode 175 = .ok (.iconst 0, 1) := by decide +kernel
theorem dX5_growNode_176 : decode cX5_growNode 176 = .ok (.istore 9, 2) := by decide +kernel
theorem dX5_growNode_178 : decode cX5_growNode 178 = .ok (.iload 9, 2) := by decide +kernel
theorem dX5_growNode_180 : decode cX5_growNode 180 = .ok (.aload_n 0, 1) := by decide +kernel
theorem dX5_growNode_181 : decode cX5_growNode 181 = .ok (.getfield 63, 3) := by decide +kernel
theorem dX5_growNode_184 : decode cX5_growNode 184 = .ok (.if_icmp .ge 100, 3) := by decide +kernel
theorem dX5_growNode_187 : decode cX5_growNode 187 = .ok (.aload_n 0, 1) := by decide +kernel
theorem dX5_growNode_188 : decode cX5_growNode 188 = .ok (.getfield 54, 3) := by decide +kernel
theorem dX5_growNode_191 : decode cX5_growNode 191 = .ok (.iload 9, 2) := by decide +kernel
theorem dX5_growNode_193 : decode cX5_growNode 193 = .ok (.iaload, 1) := by decide +kernel
theorem dX5_growNode_194 : decode cX5_growNode 194 = .ok (.iload_n 1, 1) := by decide +kernel
theorem dX5_growNode_195 : decode cX5_growNode 195 = .ok (.if_icmp .ne 39, 3) := by decide +kernel
theorem dX5_growNode_198 : decode cX5_growNode 198 = .ok (.aload_n 0, 1) := by decide +kernel
theorem dX5_growNode_199 : decode cX5_growNode 199 = .ok (.getfield 19, 3) := by decide +kernel
theorem dX5_growNode_202 : decode cX5_growNode 202 = .ok (.iconst 4, 1) := by decide +kernel
theorem dX5_growNode_203 : decode cX5_growNode 203 = .ok (.iload 9, 2) := by decide +kernel
theorem dX5_growNode_205 : decode cX5_growNode 205 = .ok (.imul, 1) := by decide +kernel
theorem dX5_growNode_206 : decode cX5_growNode 206 = .ok (.iload 5, 2) := by decide +kernel
theorem dX5_growNode_208 : decode cX5_growNode 208 = .ok (.iadd, 1) := by decide +kernel
theorem dX5_growNode_209 : decode cX5_growNode 209 = .ok (.baload, 1) := by decide +kernel
theorem dX5_growNode_210 : decode cX5_growNode 210 = .ok (.ifCond .eq 24, 3) := by decide +kernel
theorem dX5_growNode_213 : decode cX5_growNode 213 = .ok (.aload_n 0, 1) := by decide +kernel
theorem dX5_growNode_214 : decode cX5_growNode 214 = .ok (.getfield 16, 3) := by decide +kernel
theorem dX5_growNode_217 : decode cX5_growNode 217 = .ok (.iconst 4, 1) := by decide +kernel
theorem dX5_growNode_218 : decode cX5_growNode 218 = .ok (.iload 9, 2) := by decide +kernel
theorem dX5_growNode_220 : decode cX5_growNode 220 = .ok (.imul, 1) := by decide +kernel
theorem dX5_growNode_221 : decode cX5_growNode 221 = .ok (.iload 5, 2) := by decide +kernel
theorem dX5_growNode_223 : decode cX5_growNode 223 = .ok (.iadd, 1) := by decide +kernel
theorem dX5_growNode_224 : decode cX5_growNode 224 = .ok (.iaload, 1) := by decide +kernel
theorem dX5_growNode_225 : decode cX5_growNode 225 = .ok (.iload 6, 2) := by decide +kernel
theorem dX5_growNode_227 : decode cX5_growNode 227 = .ok (.if_icmp .le 7, 3) := by decide +kernel
theorem dX5_growNode_230 : decode cX5_growNode 230 = .ok (.iconst 1, 1) := by decide +kernel
theorem dX5_growNode_231 : decode cX5_growNode 231 = .ok (.goto 4, 3) := by decide +kernel
theorem dX5_growNode_234 : decode cX5_growNode 234 = .ok (.iconst 0, 1) := by decide +kernel
theorem dX5_growNode_235 : decode cX5_growNode 235 = .ok (.istore 10, 2) := by decide +kernel
theorem dX5_growNode_237 : decode cX5_growNode 237 = .ok (.iload 10, 2) := by decide +kernel
theorem dX5_growNode_239 : decode cX5_growNode 239 = .ok (.ifCond .eq 35, 3) := by decide +kernel
theorem dX5_growNode_242 : decode cX5_growNode 242 = .ok (.aload_n 0, 1) := by decide +kernel
theorem dX5_growNode_243 : decode cX5_growNode 243 = .ok (.getfield 16, 3) := by decide +kernel
theorem dX5_growNode_246 : decode cX5_growNode 246 = .ok (.iconst 4, 1) := by decide +kernel
theorem dX5_growNode_247 : decode cX5_growNode 247 = .ok (.iload 9, 2) := by decide +kernel
theorem dX5_growNode_249 : decode cX5_growNode 249 = .ok (.imul, 1) := by decide +kernel
theorem dX5_growNode_250 : decode cX5_growNode 250 = .ok (.iload 5, 2) := by decide +kernel
theorem dX5_growNode_252 : decode cX5_growNode 252 = .ok (.iadd, 1) := by decide +kernel
theorem dX5_growNode_253 : decode cX5_growNode 253 = .ok (.iaload, 1) := by decide +kernel
theorem dX5_growNode_254 : decode cX5_growNode 254 = .ok (.iload 8, 2) := by decide +kernel
theorem dX5_growNode_256 : decode cX5_growNode 256 = .ok (.if_icmp .ge 18, 3) := by decide +kernel
theorem dX5_growNode_259 : decode cX5_growNode 259 = .ok (.aload_n 0, 1) := by decide +kernel
theorem dX5_growNode_260 : decode cX5_growNode 260 = .ok (.getfield 16, 3) := by decide +kernel
theorem dX5_growNode_263 : decode cX5_growNode 263 = .ok (.iconst 4, 1) := by decide +kernel
theorem dX5_growNode_264 : decode cX5_growNode 264 = .ok (.iload 9, 2) := by decide +kernel
theorem dX5_growNode_266 : decode cX5_growNode 266 = .ok (.imul, 1) := by decide +kernel
theorem dX5_growNode_267 : decode cX5_growNode 267 = .ok (.iload 5, 2) := by decide +kernel
theorem dX5_growNode_269 : decode cX5_growNode 269 = .ok (.iadd, 1) := by decide +kernel
theorem dX5_growNode_270 : decode cX5_growNode 270 = .ok (.iaload, 1) := by decide +kernel
theorem dX5_growNode_271 : decode cX5_growNode 271 = .ok (.goto 5, 3) := by decide +kernel
theorem dX5_growNode_274 : decode cX5_growNode 274 = .ok (.iload 8, 2) := by decide +kernel
theorem dX5_growNode_276 : decode cX5_growNode 276 = .ok (.istore 8, 2) := by decide +kernel
theorem dX5_growNode_278 : decode cX5_growNode 278 = .ok (.iinc 9 1, 3) := by decide +kernel
theorem dX5_growNode_281 : decode cX5_growNode 281 = .ok (.goto (-103), 3) := by decide +kernel
theorem dX5_growNode_284 : decode cX5_growNode 284 = .ok (.iload 8, 2) := by decide +kernel
theorem dX5_growNode_286 : decode cX5_growNode 286 = .ok (.sipush 1001, 3) := by decide +kernel
theorem dX5_growNode_289 : decode cX5_growNode 289 = .ok (.if_icmp .ge 7, 3) := by decide +kernel
theorem dX5_growNode_292 : decode cX5_growNode 292 = .ok (.iconst 1, 1) := by decide +kernel
theorem dX5_growNode_293 : decode cX5_growNode 293 = .ok (.goto 4, 3) := by decide +kernel
theorem dX5_growNode_296 : decode cX5_growNode 296 = .ok (.iconst 0, 1) := by decide +kernel
theorem dX5_growNode_297 : decode cX5_growNode 297 = .ok (.istore 7, 2) := by decide +kernel
theorem dX5_growNode_299 : decode cX5_growNode 299 = .ok (.iload 8, 2) := by decide +kernel
theorem dX5_growNode_301 : decode cX5_growNode 301 = .ok (.istore 6, 2) := by decide +kernel
theorem dX5_growNode_303 : decode cX5_growNode 303 = .ok (.iconst 0, 1) := by decide +kernel
theorem dX5_growNode_304 : decode cX5_growNode 304 = .ok (.istore 9, 2) := by decide +kernel
theorem dX5_growNode_306 : decode cX5_growNode 306 = .ok (.iload 9, 2) := by decide +kernel
theorem dX5_growNode_308 : decode cX5_growNode 308 = .ok (.iconst 2, 1) := by decide +kernel
theorem dX5_growNode_309 : decode cX5_growNode 309 = .ok (.if_icmp .ge 25, 3) := by decide +kernel
theorem dX5_growNode_312 : decode cX5_growNode 312 = .ok (.iload 7, 2) := by decide +kernel
theorem dX5_growNode_314 : decode cX5_growNode 314 = .ok (.ifCond .eq 20, 3) := by decide +kernel
theorem dX5_growNode_317 : decode cX5_growNode 317 = .ok (.aload_n 0, 1) := by decide +kernel
theorem dX5_growNode_318 : decode cX5_growNode 318 = .ok (.iload_n 1, 1) := by decide +kernel
theorem dX5_growNode_319 : decode cX5_growNode 319 = .ok (.iload 5, 2) := by decide +kernel
theorem dX5_growNode_321 : decode cX5_growNode 321 = .ok (.iload 6, 2) := by decide +kernel
theorem dX5_growNode_323 : decode cX5_growNode 323 = .ok (.iload 9, 2) := by decide +kernel
theorem dX5_growNode_325 : decode cX5_growNode 325 = .ok (.invokevirtual 126, 3) := by decide +kernel
theorem dX5_growNode_328 : decode cX5_growNode 328 = .ok (.iinc 9 1, 3) := by decide +kernel
theorem dX5_growNode_331 : decode cX5_growNode 331 = .ok (.goto (-25), 3) := by decide +kernel
theorem dX5_growNode_334 : decode cX5_growNode 334 = .ok (.goto (-169), 3) := by decide +kernel
theorem dX5_growNode_337 : decode cX5_growNode 337 = .ok (.iinc 5 1, 3) := by decide +kernel
theorem dX5_growNode_340 : decode cX5_growNode 340 = .ok (.goto (-202), 3) := by decide +kernel
theorem dX5_growNode_343 : decode cX5_growNode 343 = .ok (.aload_n 0, 1) := by decide +kernel
theorem dX5_growNode_344 : decode cX5_growNode 344 = .ok (.getfield 108, 3) := by decide +kernel
theorem dX5_growNode_347 : decode cX5_growNode 347 = .ok (.lconst 0, 1) := by decide +kernel
theorem dX5_growNode_348 : decode cX5_growNode 348 = .ok (.lcmp, 1) := by decide +kernel
theorem dX5_growNode_349 : decode cX5_growNode 349 = .ok (.ifCond .le 149, 3) := by decide +kernel
theorem dX5_growNode_352 : decode cX5_growNode 352 = .ok (.aload_n 0, 1) := by decide +kernel
theorem dX5_growNode_353 : decode cX5_growNode 353 = .ok (.getfield 26, 3) := by decide +kernel
theorem dX5_growNode_356 : decode cX5_growNode 356 = .ok (.iload_n 2, 1) := by decide +kernel
theorem dX5_growNode_357 : decode cX5_growNode 357 = .ok (.iconst 2, 1) := by decide +kernel
theorem dX5_growNode_358 : decode cX5_growNode 358 = .ok (.iastore, 1) := by decide +kernel
theorem dX5_growNode_359 : decode cX5_growNode 359 = .ok (.aload_n 0, 1) := by decide +kernel
theorem dX5_growNode_360 : decode cX5_growNode 360 = .ok (.getfield 29, 3) := by decide +kernel
theorem dX5_growNode_363 : decode cX5_growNode 363 = .ok (.iload_n 2, 1) := by decide +kernel
theorem dX5_growNode_364 : decode cX5_growNode 364 = .ok (.aload_n 0, 1) := by decide +kernel
theorem dX5_growNode_365 : decode cX5_growNode 365 = .ok (.getfield 111, 3) := by decide +kernel
theorem dX5_growNode_368 : decode cX5_growNode 368 = .ok (.iastore, 1) := by decide +kernel
theorem dX5_growNode_369 : decode cX5_growNode 369 = .ok (.aload_n 0, 1) := by decide +kernel
theorem dX5_growNode_370 : decode cX5_growNode 370 = .ok (.getfield 32, 3) := by decide +kernel
theorem dX5_growNode_373 : decode cX5_growNode 373 = .ok (.iload_n 2, 1) := by decide +kernel
theorem dX5_growNode_374 : decode cX5_growNode 374 = .ok (.aload_n 0, 1) := by decide +kernel
theorem dX5_growNode_375 : decode cX5_growNode 375 = .ok (.getfield 114, 3) := by decide +kernel
theorem dX5_growNode_378 : decode cX5_growNode 378 = .ok (.iastore, 1) := by decide +kernel
theorem dX5_growNode_379 : decode cX5_growNode 379 = .ok (.aload_n 0, 1) := by decide +kernel
theorem dX5_growNode_380 : decode cX5_growNode 380 = .ok (.getfield 35, 3) := by decide +kernel
theorem dX5_growNode_383 : decode cX5_growNode 383 = .ok (.iload_n 2, 1) := by decide +kernel
theorem dX5_growNode_384 : decode cX5_growNode 384 = .ok (.aload_n 0, 1) := by decide +kernel
theorem dX5_growNode_385 : decode cX5_growNode 385 = .ok (.getfield 117, 3) := by decide +kernel
theorem dX5_growNode_388 : decode cX5_growNode 388 = .ok (.iastore, 1) := by decide +kernel
theorem dX5_growNode_389 : decode cX5_growNode 389 = .ok (.aload_n 0, 1) := by decide +kernel
theorem dX5_growNode_390 : decode cX5_growNode 390 = .ok (.getfield 108, 3) := by decide +kernel
theorem dX5_growNode_393 : decode cX5_growNode 393 = .ok (.aload_n 0, 1) := by decide +kernel
theorem dX5_growNode_394 : decode cX5_growNode 394 = .ok (.getfield 104, 3) := by decide +kernel
theorem dX5_growNode_397 : decode cX5_growNode 397 = .ok (.invokestatic 130, 3) := by decide +kernel
theorem dX5_growNode_400 : decode cX5_growNode 400 = .ok (.lstore 5, 2) := by decide +kernel
theorem dX5_growNode_402 : decode cX5_growNode 402 = .ok (.aload_n 0, 1) := by decide +kernel
theorem dX5_growNode_403 : decode cX5_growNode 403 = .ok (.getfield 44, 3) := by decide +kernel
theorem dX5_growNode_406 : decode cX5_growNode 406 = .ok (.iload_n 2, 1) := by decide +kernel
theorem dX5_growNode_407 : decode cX5_growNode 407 = .ok (.aload_n 0, 1) := by decide +kernel
theorem dX5_growNode_408 : decode cX5_growNode 408 = .ok (.getfield 108, 3) := by decide +kernel
theorem dX5_growNode_411 : decode cX5_growNode 411 = .ok (.lload 5, 2) := by decide +kernel
theorem dX5_growNode_413 : decode cX5_growNode 413 = .ok (.ldiv, 1) := by decide +kernel
theorem dX5_growNode_414 : decode cX5_growNode 414 = .ok (.lastore, 1) := by decide +kernel
theorem dX5_growNode_415 : decode cX5_growNode 415 = .ok (.aload_n 0, 1) := by decide +kernel
theorem dX5_growNode_416 : decode cX5_growNode 416 = .ok (.getfield 48, 3) := by decide +kernel
theorem dX5_growNode_419 : decode cX5_growNode 419 = .ok (.iload_n 2, 1) := by decide +kernel
theorem dX5_growNode_420 : decode cX5_growNode 420 = .ok (.aload_n 0, 1) := by decide +kernel
theorem dX5_growNode_421 : decode cX5_growNode 421 = .ok (.getfield 104, 3) := by decide +kernel
theorem dX5_growNode_424 : decode cX5_growNode 424 = .ok (.lload 5, 2) := by decide +kernel
theorem dX5_growNode_426 : decode cX5_growNode 426 = .ok (.ldiv, 1) := by decide +kernel
theorem dX5_growNode_427 : decode cX5_growNode 427 = .ok (.lastore, 1) := by decide +kernel
theorem dX5_growNode_428 : decode cX5_growNode 428 = .ok (.iconst 0, 1) := by decide +kernel
theorem dX5_growNode_429 : decode cX5_growNode 429 = .ok (.istore 7, 2) := by decide +kernel
theorem dX5_growNode_431 : decode cX5_growNode 431 = .ok (.iload 7, 2) := by decide +kernel
theorem dX5_growNode_433 : decode cX5_growNode 433 = .ok (.aload_n 0, 1) := by decide +kernel
theorem dX5_growNode_434 : decode cX5_growNode 434 = .ok (.getfield 63, 3) := by decide +kernel
theorem dX5_growNode_437 : decode cX5_growNode 437 = .ok (.if_icmp .ge 61, 3) := by decide +kernel
theorem dX5_growNode_440 : decode cX5_growNode 440 = .ok (.aload_n 0, 1) := by decide +kernel
theorem dX5_growNode_441 : decode cX5_growNode 441 = .ok (.getfield 54, 3) := by decide +kernel
theorem dX5_growNode_444 : decode cX5_growNode 444 = .ok (.iload 7, 2) := by decide +kernel
theorem dX5_growNode_446 : decode cX5_growNode 446 = .ok (.iaload, 1) := by decide +kernel
theorem dX5_growNode_447 : decode cX5_growNode 447 = .ok (.iload_n 1, 1) := by decide +kernel
theorem dX5_growNode_448 : decode cX5_growNode 448 = .ok (.if_icmp .ne 44, 3) := by decide +kernel
theorem dX5_growNode_451 : decode cX5_growNode 451 = .ok (.aload_n 0, 1) := by decide +kernel
theorem dX5_growNode_452 : decode cX5_growNode 452 = .ok (.getfield 54, 3) := by decide +kernel
theorem dX5_growNode_455 : decode cX5_growNode 455 = .ok (.iload 7, 2) := by decide +kernel
theorem dX5_growNode_457 : decode cX5_growNode 457 = .ok (.aload_n 0, 1) := by decide +kernel
theorem dX5_growNode_458 : decode cX5_growNode 458 = .ok (.iload 7, 2) := by decide +kernel
theorem dX5_growNode_460 : decode cX5_growNode 460 = .ok (.aload_n 0, 1) := by decide +kernel
theorem dX5_growNode_461 : decode cX5_growNode 461 = .ok (.getfield 111, 3) := by decide +kernel
theorem dX5_growNode_464 : decode cX5_growNode 464 = .ok (.aload_n 0, 1) := by decide +kernel
theorem dX5_growNode_465 : decode cX5_growNode 465 = .ok (.getfield 114, 3) := by decide +kernel
theorem dX5_growNode_468 : decode cX5_growNode 468 = .ok (.aload_n 0, 1) := by decide +kernel
theorem dX5_growNode_469 : decode cX5_growNode 469 = .ok (.getfield 117, 3) := by decide +kernel
theorem dX5_growNode_472 : decode cX5_growNode 472 = .ok (.invokevirtual 88, 3) := by decide +kernel
theorem dX5_growNode_475 : decode cX5_growNode 475 = .ok (.ifCond .eq 11, 3) := by decide +kernel
theorem dX5_growNode_478 : decode cX5_growNode 478 = .ok (.iconst 2, 1) := by decide +kernel
theorem dX5_growNode_479 : decode cX5_growNode 479 = .ok (.iload_n 1, 1) := by decide +kernel
theorem dX5_growNode_480 : decode cX5_growNode 480 = .ok (.imul, 1) := by decide +kernel
theorem dX5_growNode_481 : decode cX5_growNode 481 = .ok (.iconst 1, 1) := by decide +kernel
theorem dX5_growNode_482 : decode cX5_growNode 482 = .ok (.iadd, 1) := by decide +kernel
theorem dX5_growNode_483 : decode cX5_growNode 483 = .ok (.goto 8, 3) := by decide +kernel
theorem dX5_growNode_486 : decode cX5_growNode 486 = .ok (.iconst 2, 1) := by decide +kernel
theorem dX5_growNode_487 : decode cX5_growNode 487 = .ok (.iload_n 1, 1) := by decide +kernel
theorem dX5_growNode_488 : decode cX5_growNode 488 = .ok (.imul, 1) := by decide +kernel
theorem dX5_growNode_489 : decode cX5_growNode 489 = .ok (.iconst 2, 1) := by decide +kernel
theorem dX5_growNode_490 : decode cX5_growNode 490 = .ok (.iadd, 1) := by decide +kernel
theorem dX5_growNode_491 : decode cX5_growNode 491 = .ok (.iastore, 1) := by decide +kernel
theorem dX5_growNode_492 : decode cX5_growNode 492 = .ok (.iinc 7 1, 3) := by decide +kernel
theorem dX5_growNode_495 : decode cX5_growNode 495 = .ok (.goto (-64), 3) := by decide +kernel
theorem dX5_growNode_498 : decode cX5_growNode 498 = .ok (.return_, 1) := by decide +kernel
theorem dX5_common_0 : decode cX5_common 0 = .ok (.lload_n 0, 1) := by decide +kernel
theorem dX5_common_1 : decode cX5_common 1 = .ok (.lstore 4, 2) := by decide +kernel
theorem dX5_common_3 : decode cX5_common 3 = .ok (.lload_n 2, 1) := by decide +kernel
theorem dX5_common_4 : decode cX5_common 4 = .ok (.lstore 6, 2) := by decide +kernel
theorem dX5_common_6 : decode cX5_common 6 = .ok (.lload 6, 2) := by decide +kernel
theorem dX5_common_8 : decode cX5_common 8 = .ok (.lconst 0, 1) := by decide +kernel
theorem dX5_common_9 : decode cX5_common 9 = .ok (.lcmp, 1) := by decide +kernel
theorem dX5_common_10 : decode cX5_common 10 = .ok (.ifCond .eq 21, 3) := by decide +kernel
theorem dX5_common_13 : decode cX5_common 13 = .ok (.lload 4, 2) := by decide +kernel
theorem dX5_common_15 : decode cX5_common 15 = .ok (.lload 6, 2) := by decide +kernel
theorem dX5_common_17 : decode cX5_common 17 = .ok (.lrem, 1) := by decide +kernel
theorem dX5_common_18 : decode cX5_common 18 = .ok (.lstore 8, 2) := by decide +kernel
theorem dX5_common_20 : decode cX5_common 20 = .ok (.lload 6, 2) := by decide +kernel
theorem dX5_common_22 : decode cX5_common 22 = .ok (.lstore 4, 2) := by decide +kernel
theorem dX5_common_24 : decode cX5_common 24 = .ok (.lload 8, 2) := by decide +kernel
theorem dX5_common_26 : decode cX5_common 26 = .ok (.lstore 6, 2) := by decide +kernel
theorem dX5_common_28 : decode cX5_common 28 = .ok (.goto (-22), 3) := by decide +kernel
theorem dX5_common_31 : decode cX5_common 31 = .ok (.lload 4, 2) := by decide +kernel
theorem dX5_common_33 : decode cX5_common 33 = .ok (.lreturn, 1) := by decide +kernel
set_option maxRecDepth 20000 in
theorem ggX5_grow_X5_score : GoodIn wsX5_grow wsX5_score := goodIn_ca (goodIn_ca (goodIn_r _ [11, 3, 12, 13, 14, 15, 10, 16, 2, 17, 18, 19, 20, 6, 21, 22, 23, 24, 25, 26, 27, 28, 29, 30, 31, 32, 33, 70, 71, 72, 73, 74, 75, 76, 77, 78, 79, 80, 81, 82, 83, 84, 85, 86, 87, 88, 89, 90, 91, 92, 93] (by decide +kernel) (by decide +kernel)) (goodIn_sub (fun _ h => List.mem_cons_of_mem _ (List.mem_append_left _ (List.mem_append_left _ (List.mem_append_right _ h)))) (by decide +kernel))) (goodIn_sub (fun _ h => List.mem_cons_of_mem _ (List.mem_append_left _ (List.mem_append_right _ h))) (by decide +kernel))
set_option maxRecDepth 20000 in
theorem gX5_grow_X5_score : GoodIn wsX5_grow (wsV RX5 134 RX5 yX5_score wsX5_score) := goodIn_app (goodIn_of _ (by decide +kernel)) ggX5_grow_X5_score
set_option maxRecDepth 20000 in
theorem ggX5_grow_X5_pushOf : GoodIn wsX5_grow wsX5_pushOf := goodIn_ca (goodIn_ca (goodIn_r _ [37, 3, 12, 38, 39, 40, 41, 42, 10, 43, 44, 70, 71, 72, 73, 74, 75, 76, 77, 78, 79, 80, 81, 82, 83, 84, 85, 86, 87, 88, 89, 90, 91, 92, 93] (by decide +kernel) (by decide +kernel)) (goodIn_sub (fun _ h => List.mem_cons_of_mem _ (List.mem_append_left _ (List.mem_append_left _ (List.mem_append_right _ h)))) (by decide +kernel))) (goodIn_sub (fun _ h => List.mem_cons_of_mem _ (List.mem_append_left _ (List.mem_append_right _ h))) (by decide +kernel))
set_option maxRecDepth 20000 in
theorem gX5_grow_X5_pushOf : GoodIn wsX5_grow (wsV RX5 137 RX5 yX5_pushOf wsX5_pushOf) := goodIn_app (goodIn_of _ (by decide +kernel)) ggX5_grow_X5_pushOf
set_option maxRecDepth 20000 in
theorem ggX5_grow_X5_growNode : GoodIn wsX5_grow wsX5_growNode := goodIn_ca (goodIn_ca (goodIn_ca (goodIn_r _ [48, 2, 3, 4, 5, 6, 49, 24, 38, 50, 51, 29, 30, 21, 52, 22, 53, 23, 54, 55, 56, 57, 58, 10, 59, 60, 61, 62, 63, 64, 65, 66, 25, 26, 27, 28, 31, 32, 33, 67, 68, 69, 70, 71, 72, 73, 74, 75, 76, 77, 78, 79, 80, 81, 82, 83, 84, 85, 86, 87, 88, 89, 90, 91, 92, 93] (by decide +kernel) (by decide +kernel)) (goodIn_sub (fun _ h => List.mem_cons_of_mem _ (List.mem_append_left _ (List.mem_append_right _ h))) (by decide +kernel))) (goodIn_sub (fun _ h => List.mem_cons_of_mem _ (List.mem_append_left _ (List.mem_append_left _ (List.mem_append_right _ h)))) (by decide +kernel))) (goodIn_sub (fun _ h => List.mem_cons_of_mem _ (List.mem_append_right _ h)) (by decide +kernel))
set_option maxRecDepth 20000 in
theorem gX5_grow_X5_growNode : GoodIn wsX5_grow (wsV RX5 140 RX5 yX5_growNode wsX5_growNode) := goodIn_app (goodIn_of _ (by decide +kernel)) ggX5_grow_X5_growNode
theorem dX5_grow_0 : decode cX5_grow 0 = .ok (.aload_n 0, 1) := by decide +kernel
theorem dX5_grow_1 : decode cX5_grow 1 = .ok (.iconst 0, 1) := by decide +kernel
theorem dX5_grow_2 : decode cX5_grow 2 = .ok (.putfield 70, 3) := by decide +kernel
theorem dX5_grow_5 : decode cX5_grow 5 = .ok (.aload_n 0, 1) := by decide +kernel
theorem dX5_grow_6 : decode cX5_grow 6 = .ok (.getfield 67, 3) := by decide +kernel
theorem dX5_grow_9 : decode cX5_grow 9 = .ok (.bipush 20, 2) := by decide +kernel
theorem dX5_grow_11 : decode cX5_grow 11 = .ok (.if_icmp .ne 7, 3) := by decide +kernel
theorem dX5_grow_14 : decode cX5_grow 14 = .ok (.sipush (-10003), 3) := by decide +kernel
theorem dX5_grow_17 : decode cX5_grow 17 = .ok (.ireturn, 1) := by decide +kernel
theorem dX5_grow_18 : decode cX5_grow 18 = .ok (.aload_n 0, 1) := by decide +kernel
theorem dX5_grow_19 : decode cX5_grow 19 = .ok (.getfield 63, 3) := by decide +kernel
theorem dX5_grow_22 : decode cX5_grow 22 = .ok (.ifCond .ne 7, 3) := by decide +kernel
theorem dX5_grow_25 : decode cX5_grow 25 = .ok (.sipush (-10004), 3) := by decide +kernel
theorem dX5_grow_28 : decode cX5_grow 28 = .ok (.ireturn, 1) := by decide +kernel
theorem dX5_grow_29 : decode cX5_grow 29 = .ok (.aload_n 0, 1) := by decide +kernel
theorem dX5_grow_30 : decode cX5_grow 30 = .ok (.invokevirtual 134, 3) := by decide +kernel
theorem dX5_grow_33 : decode cX5_grow 33 = .ok (.iconst 0, 1) := by decide +kernel
theorem dX5_grow_34 : decode cX5_grow 34 = .ok (.istore_n 1, 1) := by decide +kernel
theorem dX5_grow_35 : decode cX5_grow 35 = .ok (.iload_n 1, 1) := by decide +kernel
theorem dX5_grow_36 : decode cX5_grow 36 = .ok (.aload_n 0, 1) := by decide +kernel
theorem dX5_grow_37 : decode cX5_grow 37 = .ok (.getfield 63, 3) := by decide +kernel
theorem dX5_grow_40 : decode cX5_grow 40 = .ok (.if_icmp .ge 27, 3) := by decide +kernel
theorem dX5_grow_43 : decode cX5_grow 43 = .ok (.aload_n 0, 1) := by decide +kernel
theorem dX5_grow_44 : decode cX5_grow 44 = .ok (.getfield 54, 3) := by decide +kernel
theorem dX5_grow_47 : decode cX5_grow 47 = .ok (.iload_n 1, 1) := by decide +kernel
theorem dX5_grow_48 : decode cX5_grow 48 = .ok (.iconst 0, 1) := by decide +kernel
theorem dX5_grow_49 : decode cX5_grow 49 = .ok (.iastore, 1) := by decide +kernel
theorem dX5_grow_50 : decode cX5_grow 50 = .ok (.aload_n 0, 1) := by decide +kernel
theorem dX5_grow_51 : decode cX5_grow 51 = .ok (.getfield 57, 3) := by decide +kernel
theorem dX5_grow_54 : decode cX5_grow 54 = .ok (.iload_n 1, 1) := by decide +kernel
theorem dX5_grow_55 : decode cX5_grow 55 = .ok (.aload_n 0, 1) := by decide +kernel
theorem dX5_grow_56 : decode cX5_grow 56 = .ok (.iload_n 1, 1) := by decide +kernel
theorem dX5_grow_57 : decode cX5_grow 57 = .ok (.invokevirtual 137, 3) := by decide +kernel
theorem dX5_grow_60 : decode cX5_grow 60 = .ok (.iastore, 1) := by decide +kernel
theorem dX5_grow_61 : decode cX5_grow 61 = .ok (.iinc 1 1, 3) := by decide +kernel
theorem dX5_grow_64 : decode cX5_grow 64 = .ok (.goto (-29), 3) := by decide +kernel
theorem dX5_grow_67 : decode cX5_grow 67 = .ok (.iconst 0, 1) := by decide +kernel
theorem dX5_grow_68 : decode cX5_grow 68 = .ok (.istore_n 1, 1) := by decide +kernel
theorem dX5_grow_69 : decode cX5_grow 69 = .ok (.iconst 0, 1) := by decide +kernel
theorem dX5_grow_70 : decode cX5_grow 70 = .ok (.istore_n 2, 1) := by decide +kernel
theorem dX5_grow_71 : decode cX5_grow 71 = .ok (.iload_n 2, 1) := by decide +kernel
theorem dX5_grow_72 : decode cX5_grow 72 = .ok (.bipush 15, 2) := by decide +kernel
theorem dX5_grow_74 : decode cX5_grow 74 = .ok (.if_icmp .ge 40, 3) := by decide +kernel
theorem dX5_grow_77 : decode cX5_grow 77 = .ok (.aload_n 0, 1) := by decide +kernel
theorem dX5_grow_78 : decode cX5_grow 78 = .ok (.iload_n 2, 1) := by decide +kernel
theorem dX5_grow_79 : decode cX5_grow 79 = .ok (.invokevirtual 140, 3) := by decide +kernel
theorem dX5_grow_82 : decode cX5_grow 82 = .ok (.iload_n 1, 1) := by decide +kernel
theorem dX5_grow_83 : decode cX5_grow 83 = .ok (.aload_n 0, 1) := by decide +kernel
theorem dX5_grow_84 : decode cX5_grow 84 = .ok (.getfield 26, 3) := by decide +kernel
theorem dX5_grow_87 : decode cX5_grow 87 = .ok (.bipush 15, 2) := by decide +kernel
theorem dX5_grow_89 : decode cX5_grow 89 = .ok (.aload_n 0, 1) := by decide +kernel
theorem dX5_grow_90 : decode cX5_grow 90 = .ok (.getfield 67, 3) := by decide +kernel
theorem dX5_grow_93 : decode cX5_grow 93 = .ok (.imul, 1) := by decide +kernel
theorem dX5_grow_94 : decode cX5_grow 94 = .ok (.iload_n 2, 1) := by decide +kernel
theorem dX5_grow_95 : decode cX5_grow 95 = .ok (.iadd, 1) := by decide +kernel
theorem dX5_grow_96 : decode cX5_grow 96 = .ok (.iaload, 1) := by decide +kernel
theorem dX5_grow_97 : decode cX5_grow 97 = .ok (.iconst 1, 1) := by decide +kernel
theorem dX5_grow_98 : decode cX5_grow 98 = .ok (.if_icmp .ne 7, 3) := by decide +kernel
theorem dX5_grow_101 : decode cX5_grow 101 = .ok (.iconst 1, 1) := by decide +kernel
theorem dX5_grow_102 : decode cX5_grow 102 = .ok (.goto 4, 3) := by decide +kernel
theorem dX5_grow_105 : decode cX5_grow 105 = .ok (.iconst 0, 1) := by decide +kernel
theorem dX5_grow_106 : decode cX5_grow 106 = .ok (.iadd, 1) := by decide +kernel
theorem dX5_grow_107 : decode cX5_grow 107 = .ok (.istore_n 1, 1) := by decide +kernel
theorem dX5_grow_108 : decode cX5_grow 108 = .ok (.iinc 2 1, 3) := by decide +kernel
theorem dX5_grow_111 : decode cX5_grow 111 = .ok (.goto (-40), 3) := by decide +kernel
theorem dX5_grow_114 : decode cX5_grow 114 = .ok (.aload_n 0, 1) := by decide +kernel
theorem dX5_grow_115 : decode cX5_grow 115 = .ok (.dup, 1) := by decide +kernel
theorem dX5_grow_116 : decode cX5_grow 116 = .ok (.getfield 67, 3) := by decide +kernel
theorem dX5_grow_119 : decode cX5_grow 119 = .ok (.iconst 1, 1) := by decide +kernel
theorem dX5_grow_120 : decode cX5_grow 120 = .ok (.iadd, 1) := by decide +kernel
theorem dX5_grow_121 : decode cX5_grow 121 = .ok (.putfield 67, 3) := by decide +kernel
theorem dX5_grow_124 : decode cX5_grow 124 = .ok (.iload_n 1, 1) := by decide +kernel
theorem dX5_grow_125 : decode cX5_grow 125 = .ok (.ireturn, 1) := by decide +kernel
theorem dX5_cut_0 : decode cX5_cut 0 = .ok (.aload_n 0, 1) := by decide +kernel
theorem dX5_cut_1 : decode cX5_cut 1 = .ok (.iconst 0, 1) := by decide +kernel
theorem dX5_cut_2 : decode cX5_cut 2 = .ok (.putfield 70, 3) := by decide +kernel
theorem dX5_cut_5 : decode cX5_cut 5 = .ok (.aload_n 0, 1) := by decide +kernel
theorem dX5_cut_6 : decode cX5_cut 6 = .ok (.getfield 67, 3) := by decide +kernel
theorem dX5_cut_9 : decode cX5_cut 9 = .ok (.ifCond .ne 7, 3) := by decide +kernel
theorem dX5_cut_12 : decode cX5_cut 12 = .ok (.sipush (-10004), 3) := by decide +kernel
theorem dX5_cut_15 : decode cX5_cut 15 = .ok (.ireturn, 1) := by decide +kernel
theorem dX5_cut_16 : decode cX5_cut 16 = .ok (.aload_n 0, 1) := by decide +kernel
theorem dX5_cut_17 : decode cX5_cut 17 = .ok (.dup, 1) := by decide +kernel
theorem dX5_cut_18 : decode cX5_cut 18 = .ok (.getfield 67, 3) := by decide +kernel
theorem dX5_cut_21 : decode cX5_cut 21 = .ok (.iconst 1, 1) := by decide +kernel
theorem dX5_cut_22 : decode cX5_cut 22 = .ok (.isub, 1) := by decide +kernel
theorem dX5_cut_23 : decode cX5_cut 23 = .ok (.putfield 67, 3) := by decide +kernel
theorem dX5_cut_26 : decode cX5_cut 26 = .ok (.aload_n 0, 1) := by decide +kernel
theorem dX5_cut_27 : decode cX5_cut 27 = .ok (.getfield 67, 3) := by decide +kernel
theorem dX5_cut_30 : decode cX5_cut 30 = .ok (.ireturn, 1) := by decide +kernel
set_option maxRecDepth 20000 in
theorem ggX5_isNode_X5_in : GoodIn wsX5_isNode wsX5_in := goodIn_r _ [6] (by decide +kernel) (by decide +kernel)
set_option maxRecDepth 20000 in
theorem gX5_isNode_X5_in : GoodIn wsX5_isNode (va_wsS RX5 73 yX5_in wsX5_in) := goodIn_app (goodIn_of _ (by decide +kernel)) ggX5_isNode_X5_in
theorem dX5_isNode_0 : decode cX5_isNode 0 = .ok (.iload_n 1, 1) := by decide +kernel
theorem dX5_isNode_1 : decode cX5_isNode 1 = .ok (.iconst 0, 1) := by decide +kernel
theorem dX5_isNode_2 : decode cX5_isNode 2 = .ok (.aload_n 0, 1) := by decide +kernel
theorem dX5_isNode_3 : decode cX5_isNode 3 = .ok (.getfield 67, 3) := by decide +kernel
theorem dX5_isNode_6 : decode cX5_isNode 6 = .ok (.iconst 1, 1) := by decide +kernel
theorem dX5_isNode_7 : decode cX5_isNode 7 = .ok (.isub, 1) := by decide +kernel
theorem dX5_isNode_8 : decode cX5_isNode 8 = .ok (.invokestatic 73, 3) := by decide +kernel
theorem dX5_isNode_11 : decode cX5_isNode 11 = .ok (.ifCond .eq 31, 3) := by decide +kernel
theorem dX5_isNode_14 : decode cX5_isNode 14 = .ok (.iload_n 2, 1) := by decide +kernel
theorem dX5_isNode_15 : decode cX5_isNode 15 = .ok (.iconst 0, 1) := by decide +kernel
theorem dX5_isNode_16 : decode cX5_isNode 16 = .ok (.bipush 14, 2) := by decide +kernel
theorem dX5_isNode_18 : decode cX5_isNode 18 = .ok (.invokestatic 73, 3) := by decide +kernel
theorem dX5_isNode_21 : decode cX5_isNode 21 = .ok (.ifCond .eq 21, 3) := by decide +kernel
theorem dX5_isNode_24 : decode cX5_isNode 24 = .ok (.aload_n 0, 1) := by decide +kernel
theorem dX5_isNode_25 : decode cX5_isNode 25 = .ok (.getfield 26, 3) := by decide +kernel
theorem dX5_isNode_28 : decode cX5_isNode 28 = .ok (.bipush 15, 2) := by decide +kernel
theorem dX5_isNode_30 : decode cX5_isNode 30 = .ok (.iload_n 1, 1) := by decide +kernel
theorem dX5_isNode_31 : decode cX5_isNode 31 = .ok (.imul, 1) := by decide +kernel
theorem dX5_isNode_32 : decode cX5_isNode 32 = .ok (.iload_n 2, 1) := by decide +kernel
theorem dX5_isNode_33 : decode cX5_isNode 33 = .ok (.iadd, 1) := by decide +kernel
theorem dX5_isNode_34 : decode cX5_isNode 34 = .ok (.iaload, 1) := by decide +kernel
theorem dX5_isNode_35 : decode cX5_isNode 35 = .ok (.ifCond .le 7, 3) := by decide +kernel
theorem dX5_isNode_38 : decode cX5_isNode 38 = .ok (.iconst 1, 1) := by decide +kernel
theorem dX5_isNode_39 : decode cX5_isNode 39 = .ok (.goto 4, 3) := by decide +kernel
theorem dX5_isNode_42 : decode cX5_isNode 42 = .ok (.iconst 0, 1) := by decide +kernel
theorem dX5_isNode_43 : decode cX5_isNode 43 = .ok (.ireturn, 1) := by decide +kernel
set_option maxRecDepth 20000 in
theorem ggX5_node_X5_isNode : GoodIn wsX5_node wsX5_isNode := goodIn_ca (goodIn_ca (goodIn_r _ [12, 13, 2, 14, 15, 11, 16, 17, 18, 19, 20, 21, 22, 23, 24, 25, 26, 27, 28, 29, 30, 31, 32, 33, 34, 35, 36, 37, 38, 39, 40] (by decide +kernel) (by decide +kernel)) (goodIn_sub (fun _ h => List.mem_cons_of_mem _ (List.mem_append_right _ h)) (by decide +kernel))) (goodIn_sub (fun _ h => List.mem_cons_of_mem _ (List.mem_append_left _ (List.mem_append_right _ h))) (by decide +kernel))
set_option maxRecDepth 20000 in
theorem gX5_node_X5_isNode : GoodIn wsX5_node (wsV RX5 144 RX5 yX5_isNode wsX5_isNode) := goodIn_app (goodIn_of _ (by decide +kernel)) ggX5_node_X5_isNode
set_option maxRecDepth 20000 in
theorem ggX5_node_X5_in : GoodIn wsX5_node wsX5_in := goodIn_r _ [16] (by decide +kernel) (by decide +kernel)
set_option maxRecDepth 20000 in
theorem gX5_node_X5_in : GoodIn wsX5_node (va_wsS RX5 73 yX5_in wsX5_in) := goodIn_app (goodIn_of _ (by decide +kernel)) ggX5_node_X5_in
theorem dX5_node_0 : decode cX5_node 0 = .ok (.aload_n 0, 1) := by decide +kernel
theorem dX5_node_1 : decode cX5_node 1 = .ok (.iconst 0, 1) := by decide +kernel
theorem dX5_node_2 : decode cX5_node 2 = .ok (.putfield 70, 3) := by decide +kernel
theorem dX5_node_5 : decode cX5_node 5 = .ok (.aload_n 0, 1) := by decide +kernel
theorem dX5_node_6 : decode cX5_node 6 = .ok (.iload_n 1, 1) := by decide +kernel
theorem dX5_node_7 : decode cX5_node 7 = .ok (.iload_n 2, 1) := by decide +kernel
theorem dX5_node_8 : decode cX5_node 8 = .ok (.invokevirtual 144, 3) := by decide +kernel
theorem dX5_node_11 : decode cX5_node 11 = .ok (.ifCond .ne 7, 3) := by decide +kernel
theorem dX5_node_14 : decode cX5_node 14 = .ok (.sipush (-10001), 3) := by decide +kernel
theorem dX5_node_17 : decode cX5_node 17 = .ok (.ireturn, 1) := by decide +kernel
theorem dX5_node_18 : decode cX5_node 18 = .ok (.bipush 15, 2) := by decide +kernel
theorem dX5_node_20 : decode cX5_node 20 = .ok (.iload_n 1, 1) := by decide +kernel
theorem dX5_node_21 : decode cX5_node 21 = .ok (.imul, 1) := by decide +kernel
theorem dX5_node_22 : decode cX5_node 22 = .ok (.iload_n 2, 1) := by decide +kernel
theorem dX5_node_23 : decode cX5_node 23 = .ok (.iadd, 1) := by decide +kernel
theorem dX5_node_24 : decode cX5_node 24 = .ok (.istore 4, 2) := by decide +kernel
theorem dX5_node_26 : decode cX5_node 26 = .ok (.aload_n 0, 1) := by decide +kernel
theorem dX5_node_27 : decode cX5_node 27 = .ok (.getfield 26, 3) := by decide +kernel
theorem dX5_node_30 : decode cX5_node 30 = .ok (.iload 4, 2) := by decide +kernel
theorem dX5_node_32 : decode cX5_node 32 = .ok (.iaload, 1) := by decide +kernel
theorem dX5_node_33 : decode cX5_node 33 = .ok (.iconst 2, 1) := by decide +kernel
theorem dX5_node_34 : decode cX5_node 34 = .ok (.if_icmp .ne 7, 3) := by decide +kernel
theorem dX5_node_37 : decode cX5_node 37 = .ok (.iconst 1, 1) := by decide +kernel
theorem dX5_node_38 : decode cX5_node 38 = .ok (.goto 4, 3) := by decide +kernel
theorem dX5_node_41 : decode cX5_node 41 = .ok (.iconst 0, 1) := by decide +kernel
theorem dX5_node_42 : decode cX5_node 42 = .ok (.istore 5, 2) := by decide +kernel
theorem dX5_node_44 : decode cX5_node 44 = .ok (.iload_n 3, 1) := by decide +kernel
theorem dX5_node_45 : decode cX5_node 45 = .ok (.iconst 0, 1) := by decide +kernel
theorem dX5_node_46 : decode cX5_node 46 = .ok (.iconst 5, 1) := by decide +kernel
theorem dX5_node_47 : decode cX5_node 47 = .ok (.invokestatic 73, 3) := by decide +kernel
theorem dX5_node_50 : decode cX5_node 50 = .ok (.ifCond .eq 27, 3) := by decide +kernel
theorem dX5_node_53 : decode cX5_node 53 = .ok (.iload_n 3, 1) := by decide +kernel
theorem dX5_node_54 : decode cX5_node 54 = .ok (.iconst 1, 1) := by decide +kernel
theorem dX5_node_55 : decode cX5_node 55 = .ok (.iconst 3, 1) := by decide +kernel
theorem dX5_node_56 : decode cX5_node 56 = .ok (.invokestatic 73, 3) := by decide +kernel
theorem dX5_node_59 : decode cX5_node 59 = .ok (.ifCond .eq 8, 3) := by decide +kernel
theorem dX5_node_62 : decode cX5_node 62 = .ok (.iload 5, 2) := by decide +kernel
theorem dX5_node_64 : decode cX5_node 64 = .ok (.ifCond .eq 13, 3) := by decide +kernel
theorem dX5_node_67 : decode cX5_node 67 = .ok (.iload_n 3, 1) := by decide +kernel
theorem dX5_node_68 : decode cX5_node 68 = .ok (.iconst 4, 1) := by decide +kernel
theorem dX5_node_69 : decode cX5_node 69 = .ok (.if_icmp .ne 12, 3) := by decide +kernel
theorem dX5_node_72 : decode cX5_node 72 = .ok (.iload 5, 2) := by decide +kernel
theorem dX5_node_74 : decode cX5_node 74 = .ok (.ifCond .eq 7, 3) := by decide +kernel
theorem dX5_node_77 : decode cX5_node 77 = .ok (.sipush (-10002), 3) := by decide +kernel
theorem dX5_node_80 : decode cX5_node 80 = .ok (.ireturn, 1) := by decide +kernel
theorem dX5_node_81 : decode cX5_node 81 = .ok (.iload_n 3, 1) := by decide +kernel
theorem dX5_node_82 : decode cX5_node 82 = .ok (.tableswitch 77 0 4 #[34, 45, 53, 61, 69], 34) := by decide +kernel
theorem dX5_node_116 : decode cX5_node 116 = .ok (.iload 5, 2) := by decide +kernel
theorem dX5_node_118 : decode cX5_node 118 = .ok (.ifCond .eq 7, 3) := by decide +kernel
theorem dX5_node_121 : decode cX5_node 121 = .ok (.iconst 1, 1) := by decide +kernel
theorem dX5_node_122 : decode cX5_node 122 = .ok (.goto 4, 3) := by decide +kernel
theorem dX5_node_125 : decode cX5_node 125 = .ok (.iconst 0, 1) := by decide +kernel
theorem dX5_node_126 : decode cX5_node 126 = .ok (.ireturn, 1) := by decide +kernel
theorem dX5_node_127 : decode cX5_node 127 = .ok (.aload_n 0, 1) := by decide +kernel
theorem dX5_node_128 : decode cX5_node 128 = .ok (.getfield 29, 3) := by decide +kernel
theorem dX5_node_131 : decode cX5_node 131 = .ok (.iload 4, 2) := by decide +kernel
theorem dX5_node_133 : decode cX5_node 133 = .ok (.iaload, 1) := by decide +kernel
theorem dX5_node_134 : decode cX5_node 134 = .ok (.ireturn, 1) := by decide +kernel
theorem dX5_node_135 : decode cX5_node 135 = .ok (.aload_n 0, 1) := by decide +kernel
theorem dX5_node_136 : decode cX5_node 136 = .ok (.getfield 32, 3) := by decide +kernel
theorem dX5_node_139 : decode cX5_node 139 = .ok (.iload 4, 2) := by decide +kernel
theorem dX5_node_141 : decode cX5_node 141 = .ok (.iaload, 1) := by decide +kernel
theorem dX5_node_142 : decode cX5_node 142 = .ok (.ireturn, 1) := by decide +kernel
theorem dX5_node_143 : decode cX5_node 143 = .ok (.aload_n 0, 1) := by decide +kernel
theorem dX5_node_144 : decode cX5_node 144 = .ok (.getfield 35, 3) := by decide +kernel
theorem dX5_node_147 : decode cX5_node 147 = .ok (.iload 4, 2) := by decide +kernel
theorem dX5_node_149 : decode cX5_node 149 = .ok (.iaload, 1) := by decide +kernel
theorem dX5_node_150 : decode cX5_node 150 = .ok (.ireturn, 1) := by decide +kernel
theorem dX5_node_151 : decode cX5_node 151 = .ok (.aload_n 0, 1) := by decide +kernel
theorem dX5_node_152 : decode cX5_node 152 = .ok (.getfield 38, 3) := by decide +kernel
theorem dX5_node_155 : decode cX5_node 155 = .ok (.iload 4, 2) := by decide +kernel
theorem dX5_node_157 : decode cX5_node 157 = .ok (.iaload, 1) := by decide +kernel
theorem dX5_node_158 : decode cX5_node 158 = .ok (.ireturn, 1) := by decide +kernel
theorem dX5_node_159 : decode cX5_node 159 = .ok (.aload_n 0, 1) := by decide +kernel
theorem dX5_node_160 : decode cX5_node 160 = .ok (.getfield 41, 3) := by decide +kernel
theorem dX5_node_163 : decode cX5_node 163 = .ok (.iload 4, 2) := by decide +kernel
theorem dX5_node_165 : decode cX5_node 165 = .ok (.iaload, 1) := by decide +kernel
theorem dX5_node_166 : decode cX5_node 166 = .ok (.ireturn, 1) := by decide +kernel
set_option maxRecDepth 20000 in
theorem ggX5_gain_X5_isNode : GoodIn wsX5_gain wsX5_isNode := goodIn_ca (goodIn_ca (goodIn_r _ [11, 12, 2, 13, 14, 10, 15, 16, 17, 18, 19, 20, 21, 22, 23, 24, 25, 26, 27, 28, 29, 30, 31, 32, 33, 34, 35, 36, 37, 38, 39] (by decide +kernel) (by decide +kernel)) (goodIn_sub (fun _ h => List.mem_cons_of_mem _ (List.mem_append_right _ h)) (by decide +kernel))) (goodIn_sub (fun _ h => List.mem_cons_of_mem _ (List.mem_append_left _ (List.mem_append_right _ h))) (by decide +kernel))
set_option maxRecDepth 20000 in
theorem gX5_gain_X5_isNode : GoodIn wsX5_gain (wsV RX5 144 RX5 yX5_isNode wsX5_isNode) := goodIn_app (goodIn_of _ (by decide +kernel)) ggX5_gain_X5_isNode
theorem dX5_gain_0 : decode cX5_gain 0 = .ok (.aload_n 0, 1) := by decide +kernel
theorem dX5_gain_1 : decode cX5_gain 1 = .ok (.iconst 0, 1) := by decide +kernel
theorem dX5_gain_2 : decode cX5_gain 2 = .ok (.putfield 70, 3) := by decide +kernel
theorem dX5_gain_5 : decode cX5_gain 5 = .ok (.aload_n 0, 1) := by decide +kernel
theorem dX5_gain_6 : decode cX5_gain 6 = .ok (.iload_n 1, 1) := by decide +kernel
theorem dX5_gain_7 : decode cX5_gain 7 = .ok (.iload_n 2, 1) := by decide +kernel
theorem dX5_gain_8 : decode cX5_gain 8 = .ok (.invokevirtual 144, 3) := by decide +kernel
theorem dX5_gain_11 : decode cX5_gain 11 = .ok (.ifCond .eq 18, 3) := by decide +kernel
theorem dX5_gain_14 : decode cX5_gain 14 = .ok (.aload_n 0, 1) := by decide +kernel
theorem dX5_gain_15 : decode cX5_gain 15 = .ok (.getfield 26, 3) := by decide +kernel
theorem dX5_gain_18 : decode cX5_gain 18 = .ok (.bipush 15, 2) := by decide +kernel
theorem dX5_gain_20 : decode cX5_gain 20 = .ok (.iload_n 1, 1) := by decide +kernel
theorem dX5_gain_21 : decode cX5_gain 21 = .ok (.imul, 1) := by decide +kernel
theorem dX5_gain_22 : decode cX5_gain 22 = .ok (.iload_n 2, 1) := by decide +kernel
theorem dX5_gain_23 : decode cX5_gain 23 = .ok (.iadd, 1) := by decide +kernel
theorem dX5_gain_24 : decode cX5_gain 24 = .ok (.iaload, 1) := by decide +kernel
theorem dX5_gain_25 : decode cX5_gain 25 = .ok (.iconst 2, 1) := by decide +kernel
theorem dX5_gain_26 : decode cX5_gain 26 = .ok (.if_icmp .eq 7, 3) := by decide +kernel
theorem dX5_gain_29 : decode cX5_gain 29 = .ok (.ldc2_w 147, 3) := by decide +kernel
theorem dX5_gain_32 : decode cX5_gain 32 = .ok (.lreturn, 1) := by decide +kernel
theorem dX5_gain_33 : decode cX5_gain 33 = .ok (.iload_n 3, 1) := by decide +kernel
theorem dX5_gain_34 : decode cX5_gain 34 = .ok (.ifCond .ne 17, 3) := by decide +kernel
theorem dX5_gain_37 : decode cX5_gain 37 = .ok (.aload_n 0, 1) := by decide +kernel
theorem dX5_gain_38 : decode cX5_gain 38 = .ok (.getfield 44, 3) := by decide +kernel
theorem dX5_gain_41 : decode cX5_gain 41 = .ok (.bipush 15, 2) := by decide +kernel
theorem dX5_gain_43 : decode cX5_gain 43 = .ok (.iload_n 1, 1) := by decide +kernel
theorem dX5_gain_44 : decode cX5_gain 44 = .ok (.imul, 1) := by decide +kernel
theorem dX5_gain_45 : decode cX5_gain 45 = .ok (.iload_n 2, 1) := by decide +kernel
theorem dX5_gain_46 : decode cX5_gain 46 = .ok (.iadd, 1) := by decide +kernel
theorem dX5_gain_47 : decode cX5_gain 47 = .ok (.laload, 1) := by decide +kernel
theorem dX5_gain_48 : decode cX5_gain 48 = .ok (.goto 25, 3) := by decide +kernel
theorem dX5_gain_51 : decode cX5_gain 51 = .ok (.iload_n 3, 1) := by decide +kernel
theorem dX5_gain_52 : decode cX5_gain 52 = .ok (.iconst 1, 1) := by decide +kernel
theorem dX5_gain_53 : decode cX5_gain 53 = .ok (.if_icmp .ne 17, 3) := by decide +kernel
theorem dX5_gain_56 : decode cX5_gain 56 = .ok (.aload_n 0, 1) := by decide +kernel
theorem dX5_gain_57 : decode cX5_gain 57 = .ok (.getfield 48, 3) := by decide +kernel
theorem dX5_gain_60 : decode cX5_gain 60 = .ok (.bipush 15, 2) := by decide +kernel
theorem dX5_gain_62 : decode cX5_gain 62 = .ok (.iload_n 1, 1) := by decide +kernel
theorem dX5_gain_63 : decode cX5_gain 63 = .ok (.imul, 1) := by decide +kernel
theorem dX5_gain_64 : decode cX5_gain 64 = .ok (.iload_n 2, 1) := by decide +kernel
theorem dX5_gain_65 : decode cX5_gain 65 = .ok (.iadd, 1) := by decide +kernel
theorem dX5_gain_66 : decode cX5_gain 66 = .ok (.laload, 1) := by decide +kernel
theorem dX5_gain_67 : decode cX5_gain 67 = .ok (.goto 6, 3) := by decide +kernel
theorem dX5_gain_70 : decode cX5_gain 70 = .ok (.ldc2_w 149, 3) := by decide +kernel
theorem dX5_gain_73 : decode cX5_gain 73 = .ok (.lreturn, 1) := by decide +kernel
set_option maxRecDepth 20000 in
theorem ggX5_score__X5_isAny : GoodIn wsX5_score_ wsX5_isAny := goodIn_ca (goodIn_r _ [7, 8, 9, 10, 6, 11, 12, 13, 14, 15, 39, 40, 41, 42, 43, 44, 45, 46, 47, 48, 49, 50, 51, 52, 53, 54, 55, 56, 57, 58, 59, 60, 61, 62] (by decide +kernel) (by decide +kernel)) (goodIn_sub (fun _ h => List.mem_cons_of_mem _ (List.mem_append_left _ (List.mem_append_right _ h))) (by decide +kernel))
set_option maxRecDepth 20000 in
theorem gX5_score__X5_isAny : GoodIn wsX5_score_ (wsV RX5 81 RX5 yX5_isAny wsX5_isAny) := goodIn_app (goodIn_of _ (by decide +kernel)) ggX5_score__X5_isAny
set_option maxRecDepth 20000 in
theorem ggX5_score__X5_scoreOf : GoodIn wsX5_score_ wsX5_scoreOf := goodIn_ca (goodIn_ca (goodIn_r _ [19, 20, 21, 22, 23, 6, 24, 25, 26, 27, 28, 29, 30, 31, 32, 33, 34, 35, 36, 37, 38, 39, 40, 41, 42, 43, 44, 45, 46, 47, 48, 49, 50, 51, 52, 53, 54, 55, 56, 57, 58, 59, 60, 61, 62] (by decide +kernel) (by decide +kernel)) (goodIn_sub (fun _ h => List.mem_cons_of_mem _ (List.mem_append_left _ (List.mem_append_right _ h))) (by decide +kernel))) (goodIn_sub (fun _ h => List.mem_cons_of_mem _ (List.mem_append_right _ h)) (by decide +kernel))
set_option maxRecDepth 20000 in
theorem gX5_score__X5_scoreOf : GoodIn wsX5_score_ (wsV RX5 96 RX5 yX5_scoreOf wsX5_scoreOf) := goodIn_app (goodIn_of _ (by decide +kernel)) ggX5_score__X5_scoreOf
theorem dX5_score__0 : decode cX5_score_ 0 = .ok (.aload_n 0, 1) := by decide +kernel
theorem dX5_score__1 : decode cX5_score_ 1 = .ok (.iconst 0, 1) := by decide +kernel
theorem dX5_score__2 : decode cX5_score_ 2 = .ok (.putfield 70, 3) := by decide +kernel
theorem dX5_score__5 : decode cX5_score_ 5 = .ok (.aload_n 0, 1) := by decide +kernel
theorem dX5_score__6 : decode cX5_score_ 6 = .ok (.iload_n 1, 1) := by decide +kernel
theorem dX5_score__7 : decode cX5_score_ 7 = .ok (.invokevirtual 81, 3) := by decide +kernel
theorem dX5_score__10 : decode cX5_score_ 10 = .ok (.ifCond .eq 11, 3) := by decide +kernel
theorem dX5_score__13 : decode cX5_score_ 13 = .ok (.aload_n 0, 1) := by decide +kernel
theorem dX5_score__14 : decode cX5_score_ 14 = .ok (.iload_n 1, 1) := by decide +kernel
theorem dX5_score__15 : decode cX5_score_ 15 = .ok (.invokevirtual 96, 3) := by decide +kernel
theorem dX5_score__18 : decode cX5_score_ 18 = .ok (.goto 6, 3) := by decide +kernel
theorem dX5_score__21 : decode cX5_score_ 21 = .ok (.ldc2_w 147, 3) := by decide +kernel
theorem dX5_score__24 : decode cX5_score_ 24 = .ok (.lreturn, 1) := by decide +kernel
set_option maxRecDepth 20000 in
theorem ggX5_value_X5_in : GoodIn wsX5_value wsX5_in := goodIn_r _ [6] (by decide +kernel) (by decide +kernel)
set_option maxRecDepth 20000 in
theorem gX5_value_X5_in : GoodIn wsX5_value (va_wsS RX5 73 yX5_in wsX5_in) := goodIn_app (goodIn_of _ (by decide +kernel)) ggX5_value_X5_in
set_option maxRecDepth 20000 in
theorem ggX5_value_X5_isAny : GoodIn wsX5_value wsX5_isAny := goodIn_ca (goodIn_r _ [10, 11, 12, 13, 5, 14, 15, 3, 4, 6, 34, 35, 36, 37, 38, 39, 40, 41, 42, 43, 44, 45, 46, 47, 48, 49, 50, 51, 52, 53, 54, 55, 56, 57] (by decide +kernel) (by decide +kernel)) (goodIn_sub (fun _ h => List.mem_cons_of_mem _ (List.mem_append_left _ (List.mem_append_right _ h))) (by decide +kernel))
set_option maxRecDepth 20000 in
theorem gX5_value_X5_isAny : GoodIn wsX5_value (wsV RX5 81 RX5 yX5_isAny wsX5_isAny) := goodIn_app (goodIn_of _ (by decide +kernel)) ggX5_value_X5_isAny
set_option maxRecDepth 20000 in
theorem ggX5_value_X5_valueBy : GoodIn wsX5_value wsX5_valueBy := goodIn_ca (goodIn_ca (goodIn_r _ [19, 20, 21, 22, 23, 24, 25, 26, 27, 5, 28, 29, 30, 31, 32, 33, 34, 35, 36, 37, 38, 39, 40, 41, 42, 43, 44, 45, 46, 47, 48, 49, 50, 51, 52, 53, 54, 55, 56, 57] (by decide +kernel) (by decide +kernel)) (goodIn_sub (fun _ h => List.mem_cons_of_mem _ (List.mem_append_right _ h)) (by decide +kernel))) (goodIn_sub (fun _ h => List.mem_cons_of_mem _ (List.mem_append_left _ (List.mem_append_right _ h))) (by decide +kernel))
set_option maxRecDepth 20000 in
theorem gX5_value_X5_valueBy : GoodIn wsX5_value (wsV RX5 92 RX5 yX5_valueBy wsX5_valueBy) := goodIn_app (goodIn_of _ (by decide +kernel)) ggX5_value_X5_valueBy
theorem dX5_value_0 : decode cX5_value 0 = .ok (.aload_n 0, 1) := by decide +kernel
theorem dX5_value_1 : decode cX5_value 1 = .ok (.iconst 0, 1) := by decide +kernel
theorem dX5_value_2 : decode cX5_value 2 = .ok (.putfield 70, 3) := by decide +kernel
theorem dX5_value_5 : decode cX5_value 5 = .ok (.iload_n 1, 1) := by decide +kernel
theorem dX5_value_6 : decode cX5_value 6 = .ok (.iconst 0, 1) := by decide +kernel
theorem dX5_value_7 : decode cX5_value 7 = .ok (.aload_n 0, 1) := by decide +kernel
theorem dX5_value_8 : decode cX5_value 8 = .ok (.getfield 67, 3) := by decide +kernel
theorem dX5_value_11 : decode cX5_value 11 = .ok (.iconst 1, 1) := by decide +kernel
theorem dX5_value_12 : decode cX5_value 12 = .ok (.isub, 1) := by decide +kernel
theorem dX5_value_13 : decode cX5_value 13 = .ok (.invokestatic 73, 3) := by decide +kernel
theorem dX5_value_16 : decode cX5_value 16 = .ok (.ifCond .eq 20, 3) := by decide +kernel
theorem dX5_value_19 : decode cX5_value 19 = .ok (.aload_n 0, 1) := by decide +kernel
theorem dX5_value_20 : decode cX5_value 20 = .ok (.iload_n 2, 1) := by decide +kernel
theorem dX5_value_21 : decode cX5_value 21 = .ok (.invokevirtual 81, 3) := by decide +kernel
theorem dX5_value_24 : decode cX5_value 24 = .ok (.ifCond .eq 12, 3) := by decide +kernel
theorem dX5_value_27 : decode cX5_value 27 = .ok (.aload_n 0, 1) := by decide +kernel
theorem dX5_value_28 : decode cX5_value 28 = .ok (.iload_n 1, 1) := by decide +kernel
theorem dX5_value_29 : decode cX5_value 29 = .ok (.iload_n 2, 1) := by decide +kernel
theorem dX5_value_30 : decode cX5_value 30 = .ok (.invokevirtual 92, 3) := by decide +kernel
theorem dX5_value_33 : decode cX5_value 33 = .ok (.goto 6, 3) := by decide +kernel
theorem dX5_value_36 : decode cX5_value 36 = .ok (.sipush (-10001), 3) := by decide +kernel
theorem dX5_value_39 : decode cX5_value 39 = .ok (.ireturn, 1) := by decide +kernel
set_option maxRecDepth 20000 in
theorem ggX5_push_X5_isThing : GoodIn wsX5_push wsX5_isThing := goodIn_r _ [6, 7, 8, 9, 5, 10, 50, 51, 52, 53, 54, 55, 56, 57, 58, 59, 60, 61, 62, 63, 64, 65, 66, 67, 68, 69, 70, 71, 72, 73] (by decide +kernel) (by decide +kernel)
set_option maxRecDepth 20000 in
theorem gX5_push_X5_isThing : GoodIn wsX5_push (wsV RX5 77 RX5 yX5_isThing wsX5_isThing) := goodIn_app (goodIn_of _ (by decide +kernel)) ggX5_push_X5_isThing
set_option maxRecDepth 20000 in
theorem ggX5_push_X5_score : GoodIn wsX5_push wsX5_score := goodIn_ca (goodIn_ca (goodIn_r _ [14, 7, 15, 16, 17, 18, 5, 19, 20, 21, 22, 23, 24, 25, 26, 27, 28, 29, 30, 31, 32, 33, 34, 35, 36, 37, 38, 50, 51, 52, 53, 54, 55, 56, 57, 58, 59, 60, 61, 62, 63, 64, 65, 66, 67, 68, 69, 70, 71, 72, 73] (by decide +kernel) (by decide +kernel)) (goodIn_sub (fun _ h => List.mem_cons_of_mem _ (List.mem_append_left _ (List.mem_append_right _ h))) (by decide +kernel))) (goodIn_sub (fun _ h => List.mem_cons_of_mem _ (List.mem_append_right _ h)) (by decide +kernel))
set_option maxRecDepth 20000 in
theorem gX5_push_X5_score : GoodIn wsX5_push (wsV RX5 134 RX5 yX5_score wsX5_score) := goodIn_app (goodIn_of _ (by decide +kernel)) ggX5_push_X5_score
set_option maxRecDepth 20000 in
theorem ggX5_push_X5_pushOf : GoodIn wsX5_push wsX5_pushOf := goodIn_ca (goodIn_ca (goodIn_r _ [42, 7, 15, 43, 44, 45, 46, 47, 5, 48, 49, 50, 51, 52, 53, 54, 55, 56, 57, 58, 59, 60, 61, 62, 63, 64, 65, 66, 67, 68, 69, 70, 71, 72, 73] (by decide +kernel) (by decide +kernel)) (goodIn_sub (fun _ h => List.mem_cons_of_mem _ (List.mem_append_left _ (List.mem_append_right _ h))) (by decide +kernel))) (goodIn_sub (fun _ h => List.mem_cons_of_mem _ (List.mem_append_right _ h)) (by decide +kernel))
set_option maxRecDepth 20000 in
theorem gX5_push_X5_pushOf : GoodIn wsX5_push (wsV RX5 137 RX5 yX5_pushOf wsX5_pushOf) := goodIn_app (goodIn_of _ (by decide +kernel)) ggX5_push_X5_pushOf
theorem dX5_push_0 : decode cX5_push 0 = .ok (.aload_n 0, 1) := by decide +kernel
theorem dX5_push_1 : decode cX5_push 1 = .ok (.iconst 0, 1) := by decide +kernel
theorem dX5_push_2 : decode cX5_push 2 = .ok (.putfield 70, 3) := by decide +kernel
theorem dX5_push_5 : decode cX5_push 5 = .ok (.aload_n 0, 1) := by decide +kernel
theorem dX5_push_6 : decode cX5_push 6 = .ok (.iload_n 1, 1) := by decide +kernel
theorem dX5_push_7 : decode cX5_push 7 = .ok (.invokevirtual 77, 3) := by decide +kernel
theorem dX5_push_10 : decode cX5_push 10 = .ok (.ifCond .ne 7, 3) := by decide +kernel
theorem dX5_push_13 : decode cX5_push 13 = .ok (.sipush (-10001), 3) := by decide +kernel
theorem dX5_push_16 : decode cX5_push 16 = .ok (.ireturn, 1) := by decide +kernel
theorem dX5_push_17 : decode cX5_push 17 = .ok (.aload_n 0, 1) := by decide +kernel
theorem dX5_push_18 : decode cX5_push 18 = .ok (.invokevirtual 134, 3) := by decide +kernel
theorem dX5_push_21 : decode cX5_push 21 = .ok (.aload_n 0, 1) := by decide +kernel
theorem dX5_push_22 : decode cX5_push 22 = .ok (.iload_n 1, 1) := by decide +kernel
theorem dX5_push_23 : decode cX5_push 23 = .ok (.invokevirtual 137, 3) := by decide +kernel
theorem dX5_push_26 : decode cX5_push 26 = .ok (.ireturn, 1) := by decide +kernel
set_option maxRecDepth 20000 in
theorem ggX5_ranked_X5_in : GoodIn wsX5_ranked wsX5_in := goodIn_r _ [8] (by decide +kernel) (by decide +kernel)
set_option maxRecDepth 20000 in
theorem gX5_ranked_X5_in : GoodIn wsX5_ranked (va_wsS RX5 73 yX5_in wsX5_in) := goodIn_app (goodIn_of _ (by decide +kernel)) ggX5_ranked_X5_in
set_option maxRecDepth 20000 in
theorem ggX5_ranked_X5_score : GoodIn wsX5_ranked wsX5_score := goodIn_ca (goodIn_ca (goodIn_r _ [12, 2, 3, 13, 14, 15, 7, 16, 17, 18, 19, 20, 21, 22, 23, 24, 25, 26, 27, 28, 29, 30, 31, 32, 33, 34, 35, 36, 37, 38, 39, 40, 41, 42, 43, 44, 45, 46, 47, 48, 49, 50, 51, 52, 53, 54, 55, 56, 57, 58, 59] (by decide +kernel) (by decide +kernel)) (goodIn_sub (fun _ h => List.mem_cons_of_mem _ (List.mem_append_left _ (List.mem_append_right _ h))) (by decide +kernel))) (goodIn_sub (fun _ h => List.mem_cons_of_mem _ (List.mem_append_right _ h)) (by decide +kernel))
set_option maxRecDepth 20000 in
theorem gX5_ranked_X5_score : GoodIn wsX5_ranked (wsV RX5 134 RX5 yX5_score wsX5_score) := goodIn_app (goodIn_of _ (by decide +kernel)) ggX5_ranked_X5_score
theorem dX5_ranked_0 : decode cX5_ranked 0 = .ok (.aload_n 0, 1) := by decide +kernel
theorem dX5_ranked_1 : decode cX5_ranked 1 = .ok (.iconst 0, 1) := by decide +kernel
theorem dX5_ranked_2 : decode cX5_ranked 2 = .ok (.putfield 70, 3) := by decide +kernel
theorem dX5_ranked_5 : decode cX5_ranked 5 = .ok (.iload_n 1, 1) := by decide +kernel
theorem dX5_ranked_6 : decode cX5_ranked 6 = .ok (.iconst 0, 1) := by decide +kernel
theorem dX5_ranked_7 : decode cX5_ranked 7 = .ok (.iconst 3, 1) := by decide +kernel
theorem dX5_ranked_8 : decode cX5_ranked 8 = .ok (.invokestatic 73, 3) := by decide +kernel
theorem dX5_ranked_11 : decode cX5_ranked 11 = .ok (.ifCond .ne 7, 3) := by decide +kernel
theorem dX5_ranked_14 : decode cX5_ranked 14 = .ok (.sipush (-10002), 3) := by decide +kernel
theorem dX5_ranked_17 : decode cX5_ranked 17 = .ok (.ireturn, 1) := by decide +kernel
theorem dX5_ranked_18 : decode cX5_ranked 18 = .ok (.aload_n 0, 1) := by decide +kernel
theorem dX5_ranked_19 : decode cX5_ranked 19 = .ok (.invokevirtual 134, 3) := by decide +kernel
theorem dX5_ranked_22 : decode cX5_ranked 22 = .ok (.iconst 0, 1) := by decide +kernel
theorem dX5_ranked_23 : decode cX5_ranked 23 = .ok (.istore_n 3, 1) := by decide +kernel
theorem dX5_ranked_24 : decode cX5_ranked 24 = .ok (.iload_n 3, 1) := by decide +kernel
theorem dX5_ranked_25 : decode cX5_ranked 25 = .ok (.aload_n 0, 1) := by decide +kernel
theorem dX5_ranked_26 : decode cX5_ranked 26 = .ok (.getfield 63, 3) := by decide +kernel
theorem dX5_ranked_29 : decode cX5_ranked 29 = .ok (.if_icmp .ge 121, 3) := by decide +kernel
theorem dX5_ranked_32 : decode cX5_ranked 32 = .ok (.iconst 0, 1) := by decide +kernel
theorem dX5_ranked_33 : decode cX5_ranked 33 = .ok (.istore 4, 2) := by decide +kernel
theorem dX5_ranked_35 : decode cX5_ranked 35 = .ok (.iconst 0, 1) := by decide +kernel
theorem dX5_ranked_36 : decode cX5_ranked 36 = .ok (.istore 5, 2) := by decide +kernel
theorem dX5_ranked_38 : decode cX5_ranked 38 = .ok (.iload 5, 2) := by decide +kernel
theorem dX5_ranked_40 : decode cX5_ranked 40 = .ok (.aload_n 0, 1) := by decide +kernel
theorem dX5_ranked_41 : decode cX5_ranked 41 = .ok (.getfield 63, 3) := by decide +kernel
theorem dX5_ranked_44 : decode cX5_ranked 44 = .ok (.if_icmp .ge 82, 3) := by decide +kernel
theorem dX5_ranked_47 : decode cX5_ranked 47 = .ok (.aload_n 0, 1) := by decide +kernel
theorem dX5_ranked_48 : decode cX5_ranked 48 = .ok (.getfield 51, 3) := by decide +kernel
theorem dX5_ranked_51 : decode cX5_ranked 51 = .ok (.iload 5, 2) := by decide +kernel
theorem dX5_ranked_53 : decode cX5_ranked 53 = .ok (.laload, 1) := by decide +kernel
theorem dX5_ranked_54 : decode cX5_ranked 54 = .ok (.aload_n 0, 1) := by decide +kernel
theorem dX5_ranked_55 : decode cX5_ranked 55 = .ok (.getfield 51, 3) := by decide +kernel
theorem dX5_ranked_58 : decode cX5_ranked 58 = .ok (.iload_n 3, 1) := by decide +kernel
theorem dX5_ranked_59 : decode cX5_ranked 59 = .ok (.laload, 1) := by decide +kernel
theorem dX5_ranked_60 : decode cX5_ranked 60 = .ok (.lcmp, 1) := by decide +kernel
theorem dX5_ranked_61 : decode cX5_ranked 61 = .ok (.ifCond .gt 26, 3) := by decide +kernel
theorem dX5_ranked_64 : decode cX5_ranked 64 = .ok (.aload_n 0, 1) := by decide +kernel
theorem dX5_ranked_65 : decode cX5_ranked 65 = .ok (.getfield 51, 3) := by decide +kernel
theorem dX5_ranked_68 : decode cX5_ranked 68 = .ok (.iload 5, 2) := by decide +kernel
theorem dX5_ranked_70 : decode cX5_ranked 70 = .ok (.laload, 1) := by decide +kernel
theorem dX5_ranked_71 : decode cX5_ranked 71 = .ok (.aload_n 0, 1) := by decide +kernel
theorem dX5_ranked_72 : decode cX5_ranked 72 = .ok (.getfield 51, 3) := by decide +kernel
theorem dX5_ranked_75 : decode cX5_ranked 75 = .ok (.iload_n 3, 1) := by decide +kernel
theorem dX5_ranked_76 : decode cX5_ranked 76 = .ok (.laload, 1) := by decide +kernel
theorem dX5_ranked_77 : decode cX5_ranked 77 = .ok (.lcmp, 1) := by decide +kernel
theorem dX5_ranked_78 : decode cX5_ranked 78 = .ok (.ifCond .ne 13, 3) := by decide +kernel
theorem dX5_ranked_81 : decode cX5_ranked 81 = .ok (.iload 5, 2) := by decide +kernel
theorem dX5_ranked_83 : decode cX5_ranked 83 = .ok (.iload_n 3, 1) := by decide +kernel
theorem dX5_ranked_84 : decode cX5_ranked 84 = .ok (.if_icmp .ge 7, 3) := by decide +kernel
theorem dX5_ranked_87 : decode cX5_ranked 87 = .ok (.iconst 1, 1) := by decide +kernel
theorem dX5_ranked_88 : decode cX5_ranked 88 = .ok (.goto 4, 3) := by decide +kernel
theorem dX5_ranked_91 : decode cX5_ranked 91 = .ok (.iconst 0, 1) := by decide +kernel
theorem dX5_ranked_92 : decode cX5_ranked 92 = .ok (.istore 6, 2) := by decide +kernel
theorem dX5_ranked_94 : decode cX5_ranked 94 = .ok (.iload 4, 2) := by decide +kernel
theorem dX5_ranked_96 : decode cX5_ranked 96 = .ok (.aload_n 0, 1) := by decide +kernel
theorem dX5_ranked_97 : decode cX5_ranked 97 = .ok (.getfield 7, 3) := by decide +kernel
theorem dX5_ranked_100 : decode cX5_ranked 100 = .ok (.iload 5, 2) := by decide +kernel
theorem dX5_ranked_102 : decode cX5_ranked 102 = .ok (.iaload, 1) := by decide +kernel
theorem dX5_ranked_103 : decode cX5_ranked 103 = .ok (.iload_n 1, 1) := by decide +kernel
theorem dX5_ranked_104 : decode cX5_ranked 104 = .ok (.if_icmp .ne 12, 3) := by decide +kernel
theorem dX5_ranked_107 : decode cX5_ranked 107 = .ok (.iload 6, 2) := by decide +kernel
theorem dX5_ranked_109 : decode cX5_ranked 109 = .ok (.ifCond .eq 7, 3) := by decide +kernel
theorem dX5_ranked_112 : decode cX5_ranked 112 = .ok (.iconst 1, 1) := by decide +kernel
theorem dX5_ranked_113 : decode cX5_ranked 113 = .ok (.goto 4, 3) := by decide +kernel
theorem dX5_ranked_116 : decode cX5_ranked 116 = .ok (.iconst 0, 1) := by decide +kernel
theorem dX5_ranked_117 : decode cX5_ranked 117 = .ok (.iadd, 1) := by decide +kernel
theorem dX5_ranked_118 : decode cX5_ranked 118 = .ok (.istore 4, 2) := by decide +kernel
theorem dX5_ranked_120 : decode cX5_ranked 120 = .ok (.iinc 5 1, 3) := by decide +kernel
theorem dX5_ranked_123 : decode cX5_ranked 123 = .ok (.goto (-85), 3) := by decide +kernel
theorem dX5_ranked_126 : decode cX5_ranked 126 = .ok (.aload_n 0, 1) := by decide +kernel
theorem dX5_ranked_127 : decode cX5_ranked 127 = .ok (.getfield 7, 3) := by decide +kernel
theorem dX5_ranked_130 : decode cX5_ranked 130 = .ok (.iload_n 3, 1) := by decide +kernel
theorem dX5_ranked_131 : decode cX5_ranked 131 = .ok (.iaload, 1) := by decide +kernel
theorem dX5_ranked_132 : decode cX5_ranked 132 = .ok (.iload_n 1, 1) := by decide +kernel
theorem dX5_ranked_133 : decode cX5_ranked 133 = .ok (.if_icmp .ne 11, 3) := by decide +kernel
theorem dX5_ranked_136 : decode cX5_ranked 136 = .ok (.iload 4, 2) := by decide +kernel
theorem dX5_ranked_138 : decode cX5_ranked 138 = .ok (.iload_n 2, 1) := by decide +kernel
theorem dX5_ranked_139 : decode cX5_ranked 139 = .ok (.if_icmp .ne 5, 3) := by decide +kernel
theorem dX5_ranked_142 : decode cX5_ranked 142 = .ok (.iload_n 3, 1) := by decide +kernel
theorem dX5_ranked_143 : decode cX5_ranked 143 = .ok (.ireturn, 1) := by decide +kernel
theorem dX5_ranked_144 : decode cX5_ranked 144 = .ok (.iinc 3 1, 3) := by decide +kernel
theorem dX5_ranked_147 : decode cX5_ranked 147 = .ok (.goto (-123), 3) := by decide +kernel
theorem dX5_ranked_150 : decode cX5_ranked 150 = .ok (.iconst (-1), 1) := by decide +kernel
theorem dX5_ranked_151 : decode cX5_ranked 151 = .ok (.ireturn, 1) := by decide +kernel
set_option maxRecDepth 20000 in
theorem ggX5_countPairs_X5_score : GoodIn wsX5_countPairs wsX5_score := goodIn_ca (goodIn_ca (goodIn_r _ [8, 1, 3, 9, 10, 11, 7, 12, 13, 14, 15, 16, 17, 18, 19, 20, 21, 22, 23, 24, 25, 26, 27, 28, 29, 30, 31, 37, 38, 39, 40, 41, 42, 43, 44, 45, 46, 47, 48, 49, 50, 51, 52, 53, 54, 55, 56, 57, 58, 59, 60] (by decide +kernel) (by decide +kernel)) (goodIn_sub (fun _ h => List.mem_cons_of_mem _ (List.mem_append_left _ (List.mem_append_right _ h))) (by decide +kernel))) (goodIn_sub (fun _ h => List.mem_cons_of_mem _ (List.mem_append_right _ h)) (by decide +kernel))
set_option maxRecDepth 20000 in
theorem gX5_countPairs_X5_score : GoodIn wsX5_countPairs (wsV RX5 134 RX5 yX5_score wsX5_score) := goodIn_app (goodIn_of _ (by decide +kernel)) ggX5_countPairs_X5_score
set_option maxRecDepth 20000 in
theorem ggX5_countPairs_X5_isPair : GoodIn wsX5_countPairs wsX5_isPair := goodIn_ca (goodIn_ca (goodIn_r _ [35, 2, 36, 37, 38, 39, 40, 41, 42, 43, 44, 45, 46, 47, 48, 49, 50, 51, 52, 53, 54, 55, 56, 57, 58, 59, 60] (by decide +kernel) (by decide +kernel)) (goodIn_sub (fun _ h => List.mem_cons_of_mem _ (List.mem_append_right _ h)) (by decide +kernel))) (goodIn_sub (fun _ h => List.mem_cons_of_mem _ (List.mem_append_left _ (List.mem_append_right _ h))) (by decide +kernel))
set_option maxRecDepth 20000 in
theorem gX5_countPairs_X5_isPair : GoodIn wsX5_countPairs (wsV RX5 100 RX5 yX5_isPair wsX5_isPair) := goodIn_app (goodIn_of _ (by decide +kernel)) ggX5_countPairs_X5_isPair
theorem dX5_countPairs_0 : decode cX5_countPairs 0 = .ok (.aload_n 0, 1) := by decide +kernel
theorem dX5_countPairs_1 : decode cX5_countPairs 1 = .ok (.invokevirtual 134, 3) := by decide +kernel
theorem dX5_countPairs_4 : decode cX5_countPairs 4 = .ok (.iconst 0, 1) := by decide +kernel
theorem dX5_countPairs_5 : decode cX5_countPairs 5 = .ok (.istore_n 3, 1) := by decide +kernel
theorem dX5_countPairs_6 : decode cX5_countPairs 6 = .ok (.iconst 0, 1) := by decide +kernel
theorem dX5_countPairs_7 : decode cX5_countPairs 7 = .ok (.istore 4, 2) := by decide +kernel
theorem dX5_countPairs_9 : decode cX5_countPairs 9 = .ok (.iload 4, 2) := by decide +kernel
theorem dX5_countPairs_11 : decode cX5_countPairs 11 = .ok (.aload_n 0, 1) := by decide +kernel
theorem dX5_countPairs_12 : decode cX5_countPairs 12 = .ok (.getfield 63, 3) := by decide +kernel
theorem dX5_countPairs_15 : decode cX5_countPairs 15 = .ok (.if_icmp .ge 96, 3) := by decide +kernel
theorem dX5_countPairs_18 : decode cX5_countPairs 18 = .ok (.iconst 0, 1) := by decide +kernel
theorem dX5_countPairs_19 : decode cX5_countPairs 19 = .ok (.istore 5, 2) := by decide +kernel
theorem dX5_countPairs_21 : decode cX5_countPairs 21 = .ok (.iload 5, 2) := by decide +kernel
theorem dX5_countPairs_23 : decode cX5_countPairs 23 = .ok (.aload_n 0, 1) := by decide +kernel
theorem dX5_countPairs_24 : decode cX5_countPairs 24 = .ok (.getfield 63, 3) := by decide +kernel
theorem dX5_countPairs_27 : decode cX5_countPairs 27 = .ok (.if_icmp .ge 78, 3) := by decide +kernel
theorem dX5_countPairs_30 : decode cX5_countPairs 30 = .ok (.aload_n 0, 1) := by decide +kernel
theorem dX5_countPairs_31 : decode cX5_countPairs 31 = .ok (.iload 4, 2) := by decide +kernel
theorem dX5_countPairs_33 : decode cX5_countPairs 33 = .ok (.iload 5, 2) := by decide +kernel
theorem dX5_countPairs_35 : decode cX5_countPairs 35 = .ok (.invokevirtual 100, 3) := by decide +kernel
theorem dX5_countPairs_38 : decode cX5_countPairs 38 = .ok (.ifCond .eq 45, 3) := by decide +kernel
theorem dX5_countPairs_41 : decode cX5_countPairs 41 = .ok (.iload_n 1, 1) := by decide +kernel
theorem dX5_countPairs_42 : decode cX5_countPairs 42 = .ok (.iconst (-1), 1) := by decide +kernel
theorem dX5_countPairs_43 : decode cX5_countPairs 43 = .ok (.if_icmp .eq 14, 3) := by decide +kernel
theorem dX5_countPairs_46 : decode cX5_countPairs 46 = .ok (.aload_n 0, 1) := by decide +kernel
theorem dX5_countPairs_47 : decode cX5_countPairs 47 = .ok (.getfield 7, 3) := by decide +kernel
theorem dX5_countPairs_50 : decode cX5_countPairs 50 = .ok (.iload 4, 2) := by decide +kernel
theorem dX5_countPairs_52 : decode cX5_countPairs 52 = .ok (.iaload, 1) := by decide +kernel
theorem dX5_countPairs_53 : decode cX5_countPairs 53 = .ok (.iload_n 1, 1) := by decide +kernel
theorem dX5_countPairs_54 : decode cX5_countPairs 54 = .ok (.if_icmp .ne 29, 3) := by decide +kernel
theorem dX5_countPairs_57 : decode cX5_countPairs 57 = .ok (.iload_n 2, 1) := by decide +kernel
theorem dX5_countPairs_58 : decode cX5_countPairs 58 = .ok (.ifCond .eq 21, 3) := by decide +kernel
theorem dX5_countPairs_61 : decode cX5_countPairs 61 = .ok (.aload_n 0, 1) := by decide +kernel
theorem dX5_countPairs_62 : decode cX5_countPairs 62 = .ok (.getfield 51, 3) := by decide +kernel
theorem dX5_countPairs_65 : decode cX5_countPairs 65 = .ok (.iload 4, 2) := by decide +kernel
theorem dX5_countPairs_67 : decode cX5_countPairs 67 = .ok (.laload, 1) := by decide +kernel
theorem dX5_countPairs_68 : decode cX5_countPairs 68 = .ok (.aload_n 0, 1) := by decide +kernel
theorem dX5_countPairs_69 : decode cX5_countPairs 69 = .ok (.getfield 51, 3) := by decide +kernel
theorem dX5_countPairs_72 : decode cX5_countPairs 72 = .ok (.iload 5, 2) := by decide +kernel
theorem dX5_countPairs_74 : decode cX5_countPairs 74 = .ok (.laload, 1) := by decide +kernel
theorem dX5_countPairs_75 : decode cX5_countPairs 75 = .ok (.lcmp, 1) := by decide +kernel
theorem dX5_countPairs_76 : decode cX5_countPairs 76 = .ok (.ifCond .gt 7, 3) := by decide +kernel
theorem dX5_countPairs_79 : decode cX5_countPairs 79 = .ok (.iconst 1, 1) := by decide +kernel
theorem dX5_countPairs_80 : decode cX5_countPairs 80 = .ok (.goto 4, 3) := by decide +kernel
theorem dX5_countPairs_83 : decode cX5_countPairs 83 = .ok (.iconst 0, 1) := by decide +kernel
theorem dX5_countPairs_84 : decode cX5_countPairs 84 = .ok (.istore 6, 2) := by decide +kernel
theorem dX5_countPairs_86 : decode cX5_countPairs 86 = .ok (.iload_n 3, 1) := by decide +kernel
theorem dX5_countPairs_87 : decode cX5_countPairs 87 = .ok (.iload 6, 2) := by decide +kernel
theorem dX5_countPairs_89 : decode cX5_countPairs 89 = .ok (.ifCond .eq 7, 3) := by decide +kernel
theorem dX5_countPairs_92 : decode cX5_countPairs 92 = .ok (.iconst 1, 1) := by decide +kernel
theorem dX5_countPairs_93 : decode cX5_countPairs 93 = .ok (.goto 4, 3) := by decide +kernel
theorem dX5_countPairs_96 : decode cX5_countPairs 96 = .ok (.iconst 0, 1) := by decide +kernel
theorem dX5_countPairs_97 : decode cX5_countPairs 97 = .ok (.iadd, 1) := by decide +kernel
theorem dX5_countPairs_98 : decode cX5_countPairs 98 = .ok (.istore_n 3, 1) := by decide +kernel
theorem dX5_countPairs_99 : decode cX5_countPairs 99 = .ok (.iinc 5 1, 3) := by decide +kernel
theorem dX5_countPairs_102 : decode cX5_countPairs 102 = .ok (.goto (-81), 3) := by decide +kernel
theorem dX5_countPairs_105 : decode cX5_countPairs 105 = .ok (.iinc 4 1, 3) := by decide +kernel
theorem dX5_countPairs_108 : decode cX5_countPairs 108 = .ok (.goto (-99), 3) := by decide +kernel
theorem dX5_countPairs_111 : decode cX5_countPairs 111 = .ok (.iload_n 3, 1) := by decide +kernel
theorem dX5_countPairs_112 : decode cX5_countPairs 112 = .ok (.ireturn, 1) := by decide +kernel
set_option maxRecDepth 20000 in
theorem ggX5_pairs_X5_in : GoodIn wsX5_pairs wsX5_in := goodIn_r _ [5] (by decide +kernel) (by decide +kernel)
set_option maxRecDepth 20000 in
theorem gX5_pairs_X5_in : GoodIn wsX5_pairs (va_wsS RX5 73 yX5_in wsX5_in) := goodIn_app (goodIn_of _ (by decide +kernel)) ggX5_pairs_X5_in
set_option maxRecDepth 20000 in
theorem ggX5_pairs_X5_countPairs : GoodIn wsX5_pairs wsX5_countPairs := goodIn_ca (goodIn_ca (goodIn_r _ [9, 10, 11, 12, 13, 14, 15, 4, 16, 17, 18, 19, 20, 21, 22, 23, 24, 25, 26, 27, 28, 29, 30, 31, 32, 33, 34, 35, 36, 37, 38, 39, 40, 41, 42, 43, 44, 45, 46, 47, 48, 49, 50, 51, 52, 53, 54, 55, 56, 57, 58, 59, 60, 61, 62, 63, 64, 65, 66, 67, 68] (by decide +kernel) (by decide +kernel)) (goodIn_sub (fun _ h => List.mem_cons_of_mem _ (List.mem_append_left _ (List.mem_append_right _ h))) (by decide +kernel))) (goodIn_sub (fun _ h => List.mem_cons_of_mem _ (List.mem_append_right _ h)) (by decide +kernel))
set_option maxRecDepth 20000 in
theorem gX5_pairs_X5_countPairs : GoodIn wsX5_pairs (wsV RX5 151 RX5 yX5_countPairs wsX5_countPairs) := goodIn_app (goodIn_of _ (by decide +kernel)) ggX5_pairs_X5_countPairs
theorem dX5_pairs_0 : decode cX5_pairs 0 = .ok (.aload_n 0, 1) := by decide +kernel
theorem dX5_pairs_1 : decode cX5_pairs 1 = .ok (.iconst 0, 1) := by decide +kernel
theorem dX5_pairs_2 : decode cX5_pairs 2 = .ok (.putfield 70, 3) := by decide +kernel
theorem dX5_pairs_5 : decode cX5_pairs 5 = .ok (.iload_n 1, 1) := by decide +kernel
theorem dX5_pairs_6 : decode cX5_pairs 6 = .ok (.iconst (-1), 1) := by decide +kernel
theorem dX5_pairs_7 : decode cX5_pairs 7 = .ok (.iconst 3, 1) := by decide +kernel
theorem dX5_pairs_8 : decode cX5_pairs 8 = .ok (.invokestatic 73, 3) := by decide +kernel
theorem dX5_pairs_11 : decode cX5_pairs 11 = .ok (.ifCond .eq 30, 3) := by decide +kernel
theorem dX5_pairs_14 : decode cX5_pairs 14 = .ok (.iload_n 2, 1) := by decide +kernel
theorem dX5_pairs_15 : decode cX5_pairs 15 = .ok (.iconst 0, 1) := by decide +kernel
theorem dX5_pairs_16 : decode cX5_pairs 16 = .ok (.iconst 1, 1) := by decide +kernel
theorem dX5_pairs_17 : decode cX5_pairs 17 = .ok (.invokestatic 73, 3) := by decide +kernel
theorem dX5_pairs_20 : decode cX5_pairs 20 = .ok (.ifCond .eq 21, 3) := by decide +kernel
theorem dX5_pairs_23 : decode cX5_pairs 23 = .ok (.aload_n 0, 1) := by decide +kernel
theorem dX5_pairs_24 : decode cX5_pairs 24 = .ok (.iload_n 1, 1) := by decide +kernel
theorem dX5_pairs_25 : decode cX5_pairs 25 = .ok (.iload_n 2, 1) := by decide +kernel
theorem dX5_pairs_26 : decode cX5_pairs 26 = .ok (.iconst 1, 1) := by decide +kernel
theorem dX5_pairs_27 : decode cX5_pairs 27 = .ok (.if_icmp .ne 7, 3) := by decide +kernel
theorem dX5_pairs_30 : decode cX5_pairs 30 = .ok (.iconst 1, 1) := by decide +kernel
theorem dX5_pairs_31 : decode cX5_pairs 31 = .ok (.goto 4, 3) := by decide +kernel
theorem dX5_pairs_34 : decode cX5_pairs 34 = .ok (.iconst 0, 1) := by decide +kernel
theorem dX5_pairs_35 : decode cX5_pairs 35 = .ok (.invokevirtual 151, 3) := by decide +kernel
theorem dX5_pairs_38 : decode cX5_pairs 38 = .ok (.goto 6, 3) := by decide +kernel
theorem dX5_pairs_41 : decode cX5_pairs 41 = .ok (.sipush (-10002), 3) := by decide +kernel
theorem dX5_pairs_44 : decode cX5_pairs 44 = .ok (.ireturn, 1) := by decide +kernel
set_option maxRecDepth 20000 in
theorem ggX5_share_X5_in : GoodIn wsX5_share wsX5_in := goodIn_r _ [5] (by decide +kernel) (by decide +kernel)
set_option maxRecDepth 20000 in
theorem gX5_share_X5_in : GoodIn wsX5_share (va_wsS RX5 73 yX5_in wsX5_in) := goodIn_app (goodIn_of _ (by decide +kernel)) ggX5_share_X5_in
set_option maxRecDepth 20000 in
theorem ggX5_share_X5_countPairs : GoodIn wsX5_share wsX5_countPairs := goodIn_ca (goodIn_ca (goodIn_r _ [9, 10, 11, 12, 13, 14, 15, 4, 16, 17, 18, 19, 20, 21, 22, 23, 24, 25, 26, 27, 28, 29, 30, 31, 32, 33, 34, 35, 36, 37, 38, 39, 40, 41, 42, 43, 44, 45, 46, 47, 48, 49, 50, 51, 52, 53, 54, 55, 56, 57, 58, 59, 60, 61, 62, 63, 64, 65, 66, 67, 68] (by decide +kernel) (by decide +kernel)) (goodIn_sub (fun _ h => List.mem_cons_of_mem _ (List.mem_append_left _ (List.mem_append_left _ (List.mem_append_right _ h)))) (by decide +kernel))) (goodIn_sub (fun _ h => List.mem_cons_of_mem _ (List.mem_append_right _ h)) (by decide +kernel))
set_option maxRecDepth 20000 in
theorem gX5_share_X5_countPairs : GoodIn wsX5_share (wsV RX5 151 RX5 yX5_countPairs wsX5_countPairs) := goodIn_app (goodIn_of _ (by decide +kernel)) ggX5_share_X5_countPairs
theorem dX5_share_0 : decode cX5_share 0 = .ok (.aload_n 0, 1) := by decide +kernel
theorem dX5_share_1 : decode cX5_share 1 = .ok (.iconst 0, 1) := by decide +kernel
theorem dX5_share_2 : decode cX5_share 2 = .ok (.putfield 70, 3) := by decide +kernel
theorem dX5_share_5 : decode cX5_share 5 = .ok (.iload_n 1, 1) := by decide +kernel
theorem dX5_share_6 : decode cX5_share 6 = .ok (.iconst (-1), 1) := by decide +kernel
theorem dX5_share_7 : decode cX5_share 7 = .ok (.iconst 3, 1) := by decide +kernel
theorem dX5_share_8 : decode cX5_share 8 = .ok (.invokestatic 73, 3) := by decide +kernel
theorem dX5_share_11 : decode cX5_share 11 = .ok (.ifCond .ne 7, 3) := by decide +kernel
theorem dX5_share_14 : decode cX5_share 14 = .ok (.sipush (-10002), 3) := by decide +kernel
theorem dX5_share_17 : decode cX5_share 17 = .ok (.ireturn, 1) := by decide +kernel
theorem dX5_share_18 : decode cX5_share 18 = .ok (.aload_n 0, 1) := by decide +kernel
theorem dX5_share_19 : decode cX5_share 19 = .ok (.iload_n 1, 1) := by decide +kernel
theorem dX5_share_20 : decode cX5_share 20 = .ok (.iconst 0, 1) := by decide +kernel
theorem dX5_share_21 : decode cX5_share 21 = .ok (.invokevirtual 151, 3) := by decide +kernel
theorem dX5_share_24 : decode cX5_share 24 = .ok (.istore_n 2, 1) := by decide +kernel
theorem dX5_share_25 : decode cX5_share 25 = .ok (.aload_n 0, 1) := by decide +kernel
theorem dX5_share_26 : decode cX5_share 26 = .ok (.iload_n 2, 1) := by decide +kernel
theorem dX5_share_27 : decode cX5_share 27 = .ok (.ifCond .ne 7, 3) := by decide +kernel
theorem dX5_share_30 : decode cX5_share 30 = .ok (.iconst 1, 1) := by decide +kernel
theorem dX5_share_31 : decode cX5_share 31 = .ok (.goto 4, 3) := by decide +kernel
theorem dX5_share_34 : decode cX5_share 34 = .ok (.iconst 0, 1) := by decide +kernel
theorem dX5_share_35 : decode cX5_share 35 = .ok (.putfield 70, 3) := by decide +kernel
theorem dX5_share_38 : decode cX5_share 38 = .ok (.aload_n 0, 1) := by decide +kernel
theorem dX5_share_39 : decode cX5_share 39 = .ok (.getfield 70, 3) := by decide +kernel
theorem dX5_share_42 : decode cX5_share 42 = .ok (.ifCond .le 7, 3) := by decide +kernel
theorem dX5_share_45 : decode cX5_share 45 = .ok (.iconst 0, 1) := by decide +kernel
theorem dX5_share_46 : decode cX5_share 46 = .ok (.goto 15, 3) := by decide +kernel
theorem dX5_share_49 : decode cX5_share 49 = .ok (.sipush 1000, 3) := by decide +kernel
theorem dX5_share_52 : decode cX5_share 52 = .ok (.aload_n 0, 1) := by decide +kernel
theorem dX5_share_53 : decode cX5_share 53 = .ok (.iload_n 1, 1) := by decide +kernel
theorem dX5_share_54 : decode cX5_share 54 = .ok (.iconst 1, 1) := by decide +kernel
theorem dX5_share_55 : decode cX5_share 55 = .ok (.invokevirtual 151, 3) := by decide +kernel
theorem dX5_share_58 : decode cX5_share 58 = .ok (.imul, 1) := by decide +kernel
theorem dX5_share_59 : decode cX5_share 59 = .ok (.iload_n 2, 1) := by decide +kernel
theorem dX5_share_60 : decode cX5_share 60 = .ok (.idiv, 1) := by decide +kernel
theorem dX5_share_61 : decode cX5_share 61 = .ok (.ireturn, 1) := by decide +kernel
set_option maxRecDepth 20000 in
theorem ggX5_about_X5_in : GoodIn wsX5_about wsX5_in := goodIn_r _ [9] (by decide +kernel) (by decide +kernel)
set_option maxRecDepth 20000 in
theorem gX5_about_X5_in : GoodIn wsX5_about (va_wsS RX5 73 yX5_in wsX5_in) := goodIn_app (goodIn_of _ (by decide +kernel)) ggX5_about_X5_in
theorem dX5_about_0 : decode cX5_about 0 = .ok (.aload_n 0, 1) := by decide +kernel
theorem dX5_about_1 : decode cX5_about 1 = .ok (.iconst 0, 1) := by decide +kernel
theorem dX5_about_2 : decode cX5_about 2 = .ok (.putfield 70, 3) := by decide +kernel
theorem dX5_about_5 : decode cX5_about 5 = .ok (.iload_n 1, 1) := by decide +kernel
theorem dX5_about_6 : decode cX5_about 6 = .ok (.ifCond .eq 8, 3) := by decide +kernel
theorem dX5_about_9 : decode cX5_about 9 = .ok (.iload_n 1, 1) := by decide +kernel
theorem dX5_about_10 : decode cX5_about 10 = .ok (.iconst 1, 1) := by decide +kernel
theorem dX5_about_11 : decode cX5_about 11 = .ok (.if_icmp .ne 19, 3) := by decide +kernel
theorem dX5_about_14 : decode cX5_about 14 = .ok (.iload_n 1, 1) := by decide +kernel
theorem dX5_about_15 : decode cX5_about 15 = .ok (.ifCond .ne 10, 3) := by decide +kernel
theorem dX5_about_18 : decode cX5_about 18 = .ok (.aload_n 0, 1) := by decide +kernel
theorem dX5_about_19 : decode cX5_about 19 = .ok (.getfield 63, 3) := by decide +kernel
theorem dX5_about_22 : decode cX5_about 22 = .ok (.goto 7, 3) := by decide +kernel
theorem dX5_about_25 : decode cX5_about 25 = .ok (.aload_n 0, 1) := by decide +kernel
theorem dX5_about_26 : decode cX5_about 26 = .ok (.getfield 67, 3) := by decide +kernel
theorem dX5_about_29 : decode cX5_about 29 = .ok (.ireturn, 1) := by decide +kernel
theorem dX5_about_30 : decode cX5_about 30 = .ok (.iload_n 1, 1) := by decide +kernel
theorem dX5_about_31 : decode cX5_about 31 = .ok (.iconst 2, 1) := by decide +kernel
theorem dX5_about_32 : decode cX5_about 32 = .ok (.if_icmp .eq 18, 3) := by decide +kernel
theorem dX5_about_35 : decode cX5_about 35 = .ok (.iload_n 1, 1) := by decide +kernel
theorem dX5_about_36 : decode cX5_about 36 = .ok (.bipush 10, 2) := by decide +kernel
theorem dX5_about_38 : decode cX5_about 38 = .ok (.bipush 13, 2) := by decide +kernel
theorem dX5_about_40 : decode cX5_about 40 = .ok (.invokestatic 73, 3) := by decide +kernel
theorem dX5_about_43 : decode cX5_about 43 = .ok (.ifCond .ne 7, 3) := by decide +kernel
theorem dX5_about_46 : decode cX5_about 46 = .ok (.sipush (-10002), 3) := by decide +kernel
theorem dX5_about_49 : decode cX5_about 49 = .ok (.ireturn, 1) := by decide +kernel
theorem dX5_about_50 : decode cX5_about 50 = .ok (.iconst 0, 1) := by decide +kernel
theorem dX5_about_51 : decode cX5_about 51 = .ok (.istore_n 2, 1) := by decide +kernel
theorem dX5_about_52 : decode cX5_about 52 = .ok (.iconst 0, 1) := by decide +kernel
theorem dX5_about_53 : decode cX5_about 53 = .ok (.istore_n 3, 1) := by decide +kernel
theorem dX5_about_54 : decode cX5_about 54 = .ok (.iload_n 3, 1) := by decide +kernel
theorem dX5_about_55 : decode cX5_about 55 = .ok (.bipush 15, 2) := by decide +kernel
theorem dX5_about_57 : decode cX5_about 57 = .ok (.aload_n 0, 1) := by decide +kernel
theorem dX5_about_58 : decode cX5_about 58 = .ok (.getfield 67, 3) := by decide +kernel
theorem dX5_about_61 : decode cX5_about 61 = .ok (.imul, 1) := by decide +kernel
theorem dX5_about_62 : decode cX5_about 62 = .ok (.if_icmp .ge 75, 3) := by decide +kernel
theorem dX5_about_65 : decode cX5_about 65 = .ok (.iload_n 1, 1) := by decide +kernel
theorem dX5_about_66 : decode cX5_about 66 = .ok (.iconst 2, 1) := by decide +kernel
theorem dX5_about_67 : decode cX5_about 67 = .ok (.if_icmp .ne 21, 3) := by decide +kernel
theorem dX5_about_70 : decode cX5_about 70 = .ok (.aload_n 0, 1) := by decide +kernel
theorem dX5_about_71 : decode cX5_about 71 = .ok (.getfield 26, 3) := by decide +kernel
theorem dX5_about_74 : decode cX5_about 74 = .ok (.iload_n 3, 1) := by decide +kernel
theorem dX5_about_75 : decode cX5_about 75 = .ok (.iaload, 1) := by decide +kernel
theorem dX5_about_76 : decode cX5_about 76 = .ok (.iconst 1, 1) := by decide +kernel
theorem dX5_about_77 : decode cX5_about 77 = .ok (.if_icmp .ne 7, 3) := by decide +kernel
theorem dX5_about_80 : decode cX5_about 80 = .ok (.iconst 1, 1) := by decide +kernel
theorem dX5_about_81 : decode cX5_about 81 = .ok (.goto 35, 3) := by decide +kernel
theorem dX5_about_84 : decode cX5_about 84 = .ok (.iconst 0, 1) := by decide +kernel
theorem dX5_about_85 : decode cX5_about 85 = .ok (.goto 31, 3) := by decide +kernel
theorem dX5_about_88 : decode cX5_about 88 = .ok (.aload_n 0, 1) := by decide +kernel
theorem dX5_about_89 : decode cX5_about 89 = .ok (.getfield 26, 3) := by decide +kernel
theorem dX5_about_92 : decode cX5_about 92 = .ok (.iload_n 3, 1) := by decide +kernel
theorem dX5_about_93 : decode cX5_about 93 = .ok (.iaload, 1) := by decide +kernel
theorem dX5_about_94 : decode cX5_about 94 = .ok (.iconst 2, 1) := by decide +kernel
theorem dX5_about_95 : decode cX5_about 95 = .ok (.if_icmp .ne 20, 3) := by decide +kernel
theorem dX5_about_98 : decode cX5_about 98 = .ok (.aload_n 0, 1) := by decide +kernel
theorem dX5_about_99 : decode cX5_about 99 = .ok (.getfield 29, 3) := by decide +kernel
theorem dX5_about_102 : decode cX5_about 102 = .ok (.iload_n 3, 1) := by decide +kernel
theorem dX5_about_103 : decode cX5_about 103 = .ok (.iaload, 1) := by decide +kernel
theorem dX5_about_104 : decode cX5_about 104 = .ok (.iload_n 1, 1) := by decide +kernel
theorem dX5_about_105 : decode cX5_about 105 = .ok (.bipush 10, 2) := by decide +kernel
theorem dX5_about_107 : decode cX5_about 107 = .ok (.isub, 1) := by decide +kernel
theorem dX5_about_108 : decode cX5_about 108 = .ok (.if_icmp .ne 7, 3) := by decide +kernel
theorem dX5_about_111 : decode cX5_about 111 = .ok (.iconst 1, 1) := by decide +kernel
theorem dX5_about_112 : decode cX5_about 112 = .ok (.goto 4, 3) := by decide +kernel
theorem dX5_about_115 : decode cX5_about 115 = .ok (.iconst 0, 1) := by decide +kernel
theorem dX5_about_116 : decode cX5_about 116 = .ok (.istore 4, 2) := by decide +kernel
theorem dX5_about_118 : decode cX5_about 118 = .ok (.iload_n 2, 1) := by decide +kernel
theorem dX5_about_119 : decode cX5_about 119 = .ok (.iload 4, 2) := by decide +kernel
theorem dX5_about_121 : decode cX5_about 121 = .ok (.ifCond .eq 7, 3) := by decide +kernel
theorem dX5_about_124 : decode cX5_about 124 = .ok (.iconst 1, 1) := by decide +kernel
theorem dX5_about_125 : decode cX5_about 125 = .ok (.goto 4, 3) := by decide +kernel
theorem dX5_about_128 : decode cX5_about 128 = .ok (.iconst 0, 1) := by decide +kernel
theorem dX5_about_129 : decode cX5_about 129 = .ok (.iadd, 1) := by decide +kernel
theorem dX5_about_130 : decode cX5_about 130 = .ok (.istore_n 2, 1) := by decide +kernel
theorem dX5_about_131 : decode cX5_about 131 = .ok (.iinc 3 1, 3) := by decide +kernel
theorem dX5_about_134 : decode cX5_about 134 = .ok (.goto (-80), 3) := by decide +kernel
theorem dX5_about_137 : decode cX5_about 137 = .ok (.iload_n 2, 1) := by decide +kernel
theorem dX5_about_138 : decode cX5_about 138 = .ok (.ireturn, 1) := by decide +kernel
set_option maxRecDepth 20000 in
theorem ggX5_clear_X5_begins : GoodIn wsX5_clear wsX5_begins := goodIn_ca (goodIn_ca (goodIn_r _ [7, 2, 8, 9, 10, 11, 12, 13, 14, 15, 16, 17, 18, 19, 20, 21, 22, 23, 24, 25, 26, 27, 28, 29, 30, 31, 32, 33, 34] (by decide +kernel) (by decide +kernel)) (goodIn_sub (fun _ h => List.mem_cons_of_mem _ (List.mem_append_right _ h)) (by decide +kernel))) (goodIn_sub (fun _ h => List.mem_cons_of_mem _ (List.mem_append_left _ (List.mem_append_right _ h))) (by decide +kernel))
set_option maxRecDepth 20000 in
theorem gX5_clear_X5_begins : GoodIn wsX5_clear (wsV RX5 60 RX5 yX5_begins wsX5_begins) := goodIn_app (goodIn_of _ (by decide +kernel)) ggX5_clear_X5_begins
theorem dX5_clear_0 : decode cX5_clear 0 = .ok (.aload_n 0, 1) := by decide +kernel
theorem dX5_clear_1 : decode cX5_clear 1 = .ok (.iconst 0, 1) := by decide +kernel
theorem dX5_clear_2 : decode cX5_clear 2 = .ok (.putfield 70, 3) := by decide +kernel
theorem dX5_clear_5 : decode cX5_clear 5 = .ok (.aload_n 0, 1) := by decide +kernel
theorem dX5_clear_6 : decode cX5_clear 6 = .ok (.getfield 63, 3) := by decide +kernel
theorem dX5_clear_9 : decode cX5_clear 9 = .ok (.istore_n 1, 1) := by decide +kernel
theorem dX5_clear_10 : decode cX5_clear 10 = .ok (.aload_n 0, 1) := by decide +kernel
theorem dX5_clear_11 : decode cX5_clear 11 = .ok (.invokevirtual 60, 3) := by decide +kernel
theorem dX5_clear_14 : decode cX5_clear 14 = .ok (.iload_n 1, 1) := by decide +kernel
theorem dX5_clear_15 : decode cX5_clear 15 = .ok (.ireturn, 1) := by decide +kernel
end
section
theorem dJ9_floorDiv_7cf53_0 : decode cJ9_floorDiv_7cf53 0 = .ok (.iload_n 0, 1) := by decide +kernel
theorem dJ9_floorDiv_7cf53_1 : decode cJ9_floorDiv_7cf53 1 = .ok (.iload_n 1, 1) := by decide +kernel
theorem dJ9_floorDiv_7cf53_2 : decode cJ9_floorDiv_7cf53 2 = .ok (.idiv, 1) := by decide +kernel
theorem dJ9_floorDiv_7cf53_3 : decode cJ9_floorDiv_7cf53 3 = .ok (.istore_n 2, 1) := by decide +kernel
theorem dJ9_floorDiv_7cf53_4 : decode cJ9_floorDiv_7cf53 4 = .ok (.iload_n 0, 1) := by decide +kernel
theorem dJ9_floorDiv_7cf53_5 : decode cJ9_floorDiv_7cf53 5 = .ok (.iload_n 1, 1) := by decide +kernel
theorem dJ9_floorDiv_7cf53_6 : decode cJ9_floorDiv_7cf53 6 = .ok (.ixor, 1) := by decide +kernel
theorem dJ9_floorDiv_7cf53_7 : decode cJ9_floorDiv_7cf53 7 = .ok (.ifCond .ge 14, 3) := by decide +kernel
theorem dJ9_floorDiv_7cf53_10 : decode cJ9_floorDiv_7cf53 10 = .ok (.iload_n 2, 1) := by decide +kernel
theorem dJ9_floorDiv_7cf53_11 : decode cJ9_floorDiv_7cf53 11 = .ok (.iload_n 1, 1) := by decide +kernel
theorem dJ9_floorDiv_7cf53_12 : decode cJ9_floorDiv_7cf53 12 = .ok (.imul, 1) := by decide +kernel
theorem dJ9_floorDiv_7cf53_13 : decode cJ9_floorDiv_7cf53 13 = .ok (.iload_n 0, 1) := by decide +kernel
theorem dJ9_floorDiv_7cf53_14 : decode cJ9_floorDiv_7cf53 14 = .ok (.if_icmp .eq 7, 3) := by decide +kernel
theorem dJ9_floorDiv_7cf53_17 : decode cJ9_floorDiv_7cf53 17 = .ok (.iload_n 2, 1) := by decide +kernel
theorem dJ9_floorDiv_7cf53_18 : decode cJ9_floorDiv_7cf53 18 = .ok (.iconst 1, 1) := by decide +kernel
theorem dJ9_floorDiv_7cf53_19 : decode cJ9_floorDiv_7cf53 19 = .ok (.isub, 1) := by decide +kernel
theorem dJ9_floorDiv_7cf53_20 : decode cJ9_floorDiv_7cf53 20 = .ok (.ireturn, 1) := by decide +kernel
theorem dJ9_floorDiv_7cf53_21 : decode cJ9_floorDiv_7cf53 21 = .ok (.iload_n 2, 1) := by decide +kernel
theorem dJ9_floorDiv_7cf53_22 : decode cJ9_floorDiv_7cf53 22 = .ok (.ireturn, 1) := by decide +kernel
theorem dJ7_rangeCheck_23922_0 : decode cJ7_rangeCheck_23922 0 = .ok (.iload_n 1, 1) := by decide +kernel
theorem dJ7_rangeCheck_23922_1 : decode cJ7_rangeCheck_23922 1 = .ok (.iload_n 2, 1) := by decide +kernel
theorem dJ7_rangeCheck_23922_2 : decode cJ7_rangeCheck_23922 2 = .ok (.if_icmp .le 44, 3) := by decide +kernel
theorem dJ7_rangeCheck_23922_5 : decode cJ7_rangeCheck_23922 5 = .ok (.new 43, 3) := by decide +kernel
theorem dJ7_rangeCheck_23922_8 : decode cJ7_rangeCheck_23922 8 = .ok (.dup, 1) := by decide +kernel
theorem dJ7_rangeCheck_23922_9 : decode cJ7_rangeCheck_23922 9 = .ok (.new 45, 3) := by decide +kernel
theorem dJ7_rangeCheck_23922_12 : decode cJ7_rangeCheck_23922 12 = .ok (.dup, 1) := by decide +kernel
theorem dJ7_rangeCheck_23922_13 : decode cJ7_rangeCheck_23922 13 = .ok (.invokespecial 47, 3) := by decide +kernel
theorem dJ7_rangeCheck_23922_16 : decode cJ7_rangeCheck_23922 16 = .ok (.ldc 48, 2) := by decide +kernel
theorem dJ7_rangeCheck_23922_18 : decode cJ7_rangeCheck_23922 18 = .ok (.invokevirtual 50, 3) := by decide +kernel
theorem dJ7_rangeCheck_23922_21 : decode cJ7_rangeCheck_23922 21 = .ok (.iload_n 1, 1) := by decide +kernel
theorem dJ7_rangeCheck_23922_22 : decode cJ7_rangeCheck_23922 22 = .ok (.invokevirtual 54, 3) := by decide +kernel
theorem dJ7_rangeCheck_23922_25 : decode cJ7_rangeCheck_23922 25 = .ok (.ldc 57, 2) := by decide +kernel
theorem dJ7_rangeCheck_23922_27 : decode cJ7_rangeCheck_23922 27 = .ok (.invokevirtual 50, 3) := by decide +kernel
theorem dJ7_rangeCheck_23922_30 : decode cJ7_rangeCheck_23922 30 = .ok (.iload_n 2, 1) := by decide +kernel
theorem dJ7_rangeCheck_23922_31 : decode cJ7_rangeCheck_23922 31 = .ok (.invokevirtual 54, 3) := by decide +kernel
theorem dJ7_rangeCheck_23922_34 : decode cJ7_rangeCheck_23922 34 = .ok (.ldc 59, 2) := by decide +kernel
theorem dJ7_rangeCheck_23922_36 : decode cJ7_rangeCheck_23922 36 = .ok (.invokevirtual 50, 3) := by decide +kernel
theorem dJ7_rangeCheck_23922_39 : decode cJ7_rangeCheck_23922 39 = .ok (.invokevirtual 61, 3) := by decide +kernel
theorem dJ7_rangeCheck_23922_42 : decode cJ7_rangeCheck_23922 42 = .ok (.invokespecial 65, 3) := by decide +kernel
theorem dJ7_rangeCheck_23922_45 : decode cJ7_rangeCheck_23922 45 = .ok (.athrow, 1) := by decide +kernel
theorem dJ7_rangeCheck_23922_46 : decode cJ7_rangeCheck_23922 46 = .ok (.iload_n 1, 1) := by decide +kernel
theorem dJ7_rangeCheck_23922_47 : decode cJ7_rangeCheck_23922 47 = .ok (.ifCond .ge 12, 3) := by decide +kernel
theorem dJ7_rangeCheck_23922_50 : decode cJ7_rangeCheck_23922 50 = .ok (.new 68, 3) := by decide +kernel
theorem dJ7_rangeCheck_23922_53 : decode cJ7_rangeCheck_23922 53 = .ok (.dup, 1) := by decide +kernel
theorem dJ7_rangeCheck_23922_54 : decode cJ7_rangeCheck_23922 54 = .ok (.iload_n 1, 1) := by decide +kernel
theorem dJ7_rangeCheck_23922_55 : decode cJ7_rangeCheck_23922 55 = .ok (.invokespecial 70, 3) := by decide +kernel
theorem dJ7_rangeCheck_23922_58 : decode cJ7_rangeCheck_23922 58 = .ok (.athrow, 1) := by decide +kernel
theorem dJ7_rangeCheck_23922_59 : decode cJ7_rangeCheck_23922 59 = .ok (.iload_n 2, 1) := by decide +kernel
theorem dJ7_rangeCheck_23922_60 : decode cJ7_rangeCheck_23922 60 = .ok (.iload_n 0, 1) := by decide +kernel
theorem dJ7_rangeCheck_23922_61 : decode cJ7_rangeCheck_23922 61 = .ok (.if_icmp .le 12, 3) := by decide +kernel
theorem dJ7_rangeCheck_23922_64 : decode cJ7_rangeCheck_23922 64 = .ok (.new 68, 3) := by decide +kernel
theorem dJ7_rangeCheck_23922_67 : decode cJ7_rangeCheck_23922 67 = .ok (.dup, 1) := by decide +kernel
theorem dJ7_rangeCheck_23922_68 : decode cJ7_rangeCheck_23922 68 = .ok (.iload_n 2, 1) := by decide +kernel
theorem dJ7_rangeCheck_23922_69 : decode cJ7_rangeCheck_23922 69 = .ok (.invokespecial 70, 3) := by decide +kernel
theorem dJ7_rangeCheck_23922_72 : decode cJ7_rangeCheck_23922 72 = .ok (.athrow, 1) := by decide +kernel
theorem dJ7_rangeCheck_23922_73 : decode cJ7_rangeCheck_23922 73 = .ok (.return_, 1) := by decide +kernel
set_option maxRecDepth 20000 in
theorem ggJ7_fill_fda19_J7_rangeCheck_23922 : GoodIn wsJ7_fill_fda19 wsJ7_rangeCheck_23922 := goodIn_r _ [4, 5, 6, 7, 8, 9, 10, 11, 12, 13] (by decide +kernel) (by decide +kernel)
set_option maxRecDepth 20000 in
theorem gJ7_fill_fda19_J7_rangeCheck_23922 : GoodIn wsJ7_fill_fda19 (va_wsS RJ7 13 yJ7_rangeCheck_23922 wsJ7_rangeCheck_23922) := goodIn_app (goodIn_of _ (by decide +kernel)) ggJ7_fill_fda19_J7_rangeCheck_23922
theorem dJ7_fill_fda19_0 : decode cJ7_fill_fda19 0 = .ok (.aload_n 0, 1) := by decide +kernel
theorem dJ7_fill_fda19_1 : decode cJ7_fill_fda19 1 = .ok (.arraylength, 1) := by decide +kernel
theorem dJ7_fill_fda19_2 : decode cJ7_fill_fda19 2 = .ok (.iload_n 1, 1) := by decide +kernel
theorem dJ7_fill_fda19_3 : decode cJ7_fill_fda19 3 = .ok (.iload_n 2, 1) := by decide +kernel
theorem dJ7_fill_fda19_4 : decode cJ7_fill_fda19 4 = .ok (.invokestatic 13, 3) := by decide +kernel
theorem dJ7_fill_fda19_7 : decode cJ7_fill_fda19 7 = .ok (.iload_n 1, 1) := by decide +kernel
theorem dJ7_fill_fda19_8 : decode cJ7_fill_fda19 8 = .ok (.istore 4, 2) := by decide +kernel
theorem dJ7_fill_fda19_10 : decode cJ7_fill_fda19 10 = .ok (.iload 4, 2) := by decide +kernel
theorem dJ7_fill_fda19_12 : decode cJ7_fill_fda19 12 = .ok (.iload_n 2, 1) := by decide +kernel
theorem dJ7_fill_fda19_13 : decode cJ7_fill_fda19 13 = .ok (.if_icmp .ge 14, 3) := by decide +kernel
theorem dJ7_fill_fda19_16 : decode cJ7_fill_fda19 16 = .ok (.aload_n 0, 1) := by decide +kernel
theorem dJ7_fill_fda19_17 : decode cJ7_fill_fda19 17 = .ok (.iload 4, 2) := by decide +kernel
theorem dJ7_fill_fda19_19 : decode cJ7_fill_fda19 19 = .ok (.iload_n 3, 1) := by decide +kernel
theorem dJ7_fill_fda19_20 : decode cJ7_fill_fda19 20 = .ok (.iastore, 1) := by decide +kernel
theorem dJ7_fill_fda19_21 : decode cJ7_fill_fda19 21 = .ok (.iinc 4 1, 3) := by decide +kernel
theorem dJ7_fill_fda19_24 : decode cJ7_fill_fda19 24 = .ok (.goto (-14), 3) := by decide +kernel
theorem dJ7_fill_fda19_27 : decode cJ7_fill_fda19 27 = .ok (.return_, 1) := by decide +kernel
end
section
/-! what is read of the start: the class's three static rows, Throwable's two statics, the texts of the throws -/
def sxF (j : Nat) : Int32 := ([10, 10, 2, 1] : List Int32).getD j 0
def sxL (j : Nat) : Int32 := ([0, 1, 1, 1] : List Int32).getD j 0
def sxH (j : Nat) : Int32 := ([1000, 100, 3, 8] : List Int32).getD j 0
def sxA (n : String) (f : Nat → Int32) (A : Nat → Prop) (U : State) : Prop := ∃ a : Nat, va_Z RX4 n "[I" (.ref a) A U U.heap ∧ va_T .int a 4 (fun j => .int (f j)) A U U.heap
def sxS (k : Nat) (tx : String) (U : State) : Prop := ∃ a : Nat, vk_R RX4 k tx a U
def SX (A : Nat → Prop) (U : State) : Prop :=
  sxA "FIRST_SETTING" sxF A U ∧ sxA "LOWEST_SETTING" sxL A U ∧ sxA "HIGHEST_SETTING" sxH A U ∧
  vx_Zq Bundle.tN "UNASSIGNED_STACK" Bundle.steD A U U.heap ∧ vx_Zq Bundle.tN "SUPPRESSED_SENTINEL" Bundle.listD A U U.heap ∧
  sxS 74 "no thing can have this number" U ∧ sxS 81 "there is no such thing" U ∧ sxS 84 "no feature has this number" U ∧ sxS 89 "the feature is missing" U ∧ sxS 172 "there are no pairs" U
theorem sxA.to {n : String} {f : Nat → Int32} {A B : Nat → Prop} {s U : State} (h : sxA n f A s) (hW : s.WarmedH U.vm) (hq : ∀ a : Nat, a < s.heap.size → ¬ A a → U.heap[a]? = s.heap[a]?) (hAB : ∀ q, B q → A q) : sxA n f B U := by
  obtain ⟨a, h1, h2⟩ := h
  exact ⟨a, ((h1.moved hW.alike).kept hq).narrow hAB, ((h2.moved hW.alike).kept hq).narrow hAB⟩
theorem sxS.to {k : Nat} {tx : String} {s U : State} (h : sxS k tx s) (hW : s.WarmedH U.vm) : sxS k tx U := by
  obtain ⟨a, h1⟩ := h
  exact ⟨a, h1.warm hW⟩
theorem SX.to {A B : Nat → Prop} {s U : State} (h : SX A s) (hW : s.WarmedH U.vm) (hq : ∀ a : Nat, a < s.heap.size → ¬ A a → U.heap[a]? = s.heap[a]?) (hAB : ∀ q, B q → A q) : SX B U := by
  obtain ⟨h1, h2, h3, h4, h5, h6, h7, h8, h9, h10⟩ := h
  exact ⟨h1.to hW hq hAB, h2.to hW hq hAB, h3.to hW hq hAB, ((h4.moved hW.alike).kept hq).narrow hAB, ((h5.moved hW.alike).kept hq).narrow hAB, h6.to hW, h7.to hW, h8.to hW, h9.to hW, h10.to hW⟩
theorem SX.call {A : Nat → Prop} {U : State} (g : JFrame) (mk : MethodId) (a : Array Value) (h : SX A U) : SX A (U.calling g mk a) :=
  h.to (s := U) (U := U.calling g mk a) (State.WarmedH.refl U) (fun _ _ _ => rfl) (fun _ h => h)
section WK
variable {p : Program} {l : Launch} {e : Env} {R : Room} {s : State} {m : MethodId} {args : Array Value} {below : List Frame} {meth : Method} {c : Code} {cells slots : Nat} {Q : State → Prop}
variable {cc : ByteArray} {own : String} {Ts : List Cond} {nL pc : Nat} {D : va_G} {cl : List vw_C} {tys : List (ClassId × FieldType)} {A : Nat → Prop} {z : Bool} {lv lv' : List (Nat × Value)} {st : List Value} {ws ws' : va_W}
/-- what stays fixed in a walk -/
def Cx (p : Program) (s : State) (m : MethodId) (args : Array Value) (c : Code) (cc : ByteArray) (own : String) (Ts : List Cond) (nL : Nat) (D : va_G) (cl : List vw_C) (tys : List (ClassId × FieldType)) (A : Nat → Prop) (z : Bool) : Prop :=
  p.tables.exec = Jvm.exec ∧ c.code = cc ∧ c.maxLocals = nL ∧ s.vm.findClass own = some m.cls ∧ (∀ w ∈ Ts, w.before args s = true) ∧ va_K D cl tys s ∧ (∀ q : Nat, s.heap.size ≤ q → A q) ∧ (z = true → SX A s)
theorem Cx.x (X : Cx p s m args c cc own Ts nL D cl tys A z) : p.tables.exec = Jvm.exec := X.1
theorem Cx.b (X : Cx p s m args c cc own Ts nL D cl tys A z) : c.code = cc := X.2.1
theorem Cx.ml (X : Cx p s m args c cc own Ts nL D cl tys A z) : c.maxLocals = nL := X.2.2.1
theorem Cx.o (X : Cx p s m args c cc own Ts nL D cl tys A z) : s.vm.findClass own = some m.cls := X.2.2.2.1
theorem Cx.w (X : Cx p s m args c cc own Ts nL D cl tys A z) : ∀ w ∈ Ts, w.before args s = true := X.2.2.2.2.1
theorem Cx.k (X : Cx p s m args c cc own Ts nL D cl tys A z) : va_K D cl tys s := X.2.2.2.2.2.1
theorem Cx.a (X : Cx p s m args c cc own Ts nL D cl tys A z) : ∀ q : Nat, s.heap.size ≤ q → A q := X.2.2.2.2.2.2.1
theorem Cx.sx (X : Cx p s m args c cc own Ts nL D cl tys A z) : z = true → SX A s := X.2.2.2.2.2.2.2
/-- the machine at pc with these locals, this stack, this world, whatever the heap is otherwise -/
def Wk (p : Program) (l : Launch) (e : Env) (R : Room) (s : State) (m : MethodId) (args : Array Value) (below : List Frame) (meth : Method) (c : Code) (cells slots : Nat) (Q : State → Prop) (nL : Nat) (D : va_G) (cl : List vw_C) (A : Nat → Prop) (pc : Nat) (lv : List (Nat × Value)) (st : List Value) (ws : va_W) : Prop :=
  ∀ (H : Heap) (locs : List Loc) (ls : Array Slot), va_P D cl ws H → va_D A ws → va_S A s.heap H locs → lv_has ls nL lv → W p l e R s m args below meth c H locs cells slots Q (F0 m pc ls st)
theorem Wk.lvs (ks : List Nat) (hl : lv_pick lv ks = lv') (k : Wk p l e R s m args below meth c (cells) (slots) Q nL D cl A (pc) (lv') (st) (ws)) : Wk p l e R s m args below meth c (cells) (slots) Q nL D cl A (pc) (lv) (st) (ws) := fun H locs ls hP hD hS h => k H locs ls hP hD hS (lv_sub h ks hl)
theorem Wk.topi {x y : Int32} (h : x = y) (k : Wk p l e R s m args below meth c (cells) (slots) Q nL D cl A (pc) (lv) (.int y :: st) (ws)) : Wk p l e R s m args below meth c (cells) (slots) Q nL D cl A (pc) (lv) (.int x :: st) (ws) := h ▸ k
theorem Wk.topl {x y : Int64} (h : x = y) (k : Wk p l e R s m args below meth c (cells) (slots) Q nL D cl A (pc) (lv) (.long y :: st) (ws)) : Wk p l e R s m args below meth c (cells) (slots) Q nL D cl A (pc) (lv) (.long x :: st) (ws) := h ▸ k
theorem Wk.wsq (h : ws = ws') (k : Wk p l e R s m args below meth c (cells) (slots) Q nL D cl A (pc) (lv) (st) (ws')) : Wk p l e R s m args below meth c (cells) (slots) Q nL D cl A (pc) (lv) (st) (ws) := h ▸ k
theorem Wk.stq {st' : List Value} (h : st = st') (k : Wk p l e R s m args below meth c (cells) (slots) Q nL D cl A (pc) (lv) (st') (ws)) : Wk p l e R s m args below meth c (cells) (slots) Q nL D cl A (pc) (lv) (st) (ws) := h ▸ k
theorem Wk.wide {k n : Nat} (h1 : cells ≤ k) (h2 : slots ≤ n) (kk : Wk p l e R s m args below meth c (k) (n) Q nL D cl A (pc) (lv) (st) (ws)) : Wk p l e R s m args below meth c (cells) (slots) Q nL D cl A (pc) (lv) (st) (ws) := fun H locs ls hP hD hS h => W.widen h1 h2 (kk H locs ls hP hD hS h)
theorem Wk.iconst (X : Cx p s m args c cc own Ts nL D cl tys A z) {n : Int} {v : Int32} (d : decode cc pc = .ok (.iconst n, 1)) (hv : Int32.ofInt n = v) (k : Wk p l e R s m args below meth c (cells) (slots) Q nL D cl A (pc + 1) (lv) (.int v :: st) (ws)) : Wk p l e R s m args below meth c (cells) (slots) Q nL D cl A (pc) (lv) (st) (ws) := fun H locs ls hP hD hS hl => lv_iconst X.x X.b d hv (k H locs ls hP hD hS hl)
theorem Wk.bipush (X : Cx p s m args c cc own Ts nL D cl tys A z) {n : Int} {v : Int32} (d : decode cc pc = .ok (.bipush n, 2)) (hv : (Int8.ofInt n).toInt32 = v) (k : Wk p l e R s m args below meth c (cells) (slots) Q nL D cl A (pc + 2) (lv) (.int v :: st) (ws)) : Wk p l e R s m args below meth c (cells) (slots) Q nL D cl A (pc) (lv) (st) (ws) := fun H locs ls hP hD hS hl => lv_bipush X.x X.b d hv (k H locs ls hP hD hS hl)
theorem Wk.sipush (X : Cx p s m args c cc own Ts nL D cl tys A z) {n : Int} {v : Int32} (d : decode cc pc = .ok (.sipush n, 3)) (hv : (Int16.ofInt n).toInt32 = v) (k : Wk p l e R s m args below meth c (cells) (slots) Q nL D cl A (pc + 3) (lv) (.int v :: st) (ws)) : Wk p l e R s m args below meth c (cells) (slots) Q nL D cl A (pc) (lv) (st) (ws) := fun H locs ls hP hD hS hl => lv_sipush X.x X.b d hv (k H locs ls hP hD hS hl)
theorem Wk.lconst (X : Cx p s m args c cc own Ts nL D cl tys A z) {n : Fin 2} {v : Int64} (d : decode cc pc = .ok (.lconst n, 1)) (hv : Int64.ofNat (n : Nat) = v) (k : Wk p l e R s m args below meth c (cells) (slots) Q nL D cl A (pc + 1) (lv) (.long v :: st) (ws)) : Wk p l e R s m args below meth c (cells) (slots) Q nL D cl A (pc) (lv) (st) (ws) := fun H locs ls hP hD hS hl => lv_lconst X.x X.b d hv (k H locs ls hP hD hS hl)
theorem Wk.ldc (X : Cx p s m args c cc own Ts nL D cl tys A z) {index : Nat} {v : Int32} (hc : (Jvm.Cond.constant own index v).before args s = true) (d : decode cc pc = .ok (.ldc index, 2)) (k : Wk p l e R s m args below meth c (cells) (slots) Q nL D cl A (pc + 2) (lv) (.int v :: st) (ws)) : Wk p l e R s m args below meth c (cells) (slots) Q nL D cl A (pc) (lv) (st) (ws) := fun H locs ls hP hD hS hl => lv_ldc X.x X.b X.o hc d (k H locs ls hP hD hS hl)
theorem Wk.ldc2 (X : Cx p s m args c cc own Ts nL D cl tys A z) {index : Nat} {v : Int64} (hc : (Jvm.Cond.constantLong own index v).before args s = true) (d : decode cc pc = .ok (.ldc2_w index, 3)) (k : Wk p l e R s m args below meth c (cells) (slots) Q nL D cl A (pc + 3) (lv) (.long v :: st) (ws)) : Wk p l e R s m args below meth c (cells) (slots) Q nL D cl A (pc) (lv) (st) (ws) := fun H locs ls hP hD hS hl => lv_ldc2 X.x X.b X.o hc d (k H locs ls hP hD hS hl)
theorem Wk.iload_n (X : Cx p s m args c cc own Ts nL D cl tys A z) {k0 : Fin 4} {i : Nat} {x : Int32} (j : Nat) (hj : lv[j]? = some (i, .int x)) (d : decode cc pc = .ok (.iload_n k0, 1)) (hi : (k0 : Nat) = i) (k : Wk p l e R s m args below meth c (cells) (slots) Q nL D cl A (pc + 1) (lv) (.int x :: st) (ws)) : Wk p l e R s m args below meth c (cells) (slots) Q nL D cl A (pc) (lv) (st) (ws) := fun H locs ls hP hD hS hl => lv_iload_n X.x X.b d hi (lv_at hl j hj) (k H locs ls hP hD hS hl)
theorem Wk.iload (X : Cx p s m args c cc own Ts nL D cl tys A z) {i : Nat} {x : Int32} (j : Nat) (hj : lv[j]? = some (i, .int x)) (d : decode cc pc = .ok (.iload i, 2)) (k : Wk p l e R s m args below meth c (cells) (slots) Q nL D cl A (pc + 2) (lv) (.int x :: st) (ws)) : Wk p l e R s m args below meth c (cells) (slots) Q nL D cl A (pc) (lv) (st) (ws) := fun H locs ls hP hD hS hl => lv_iload X.x X.b d (lv_at hl j hj) (k H locs ls hP hD hS hl)
theorem Wk.istore_n (X : Cx p s m args c cc own Ts nL D cl tys A z) {k0 : Fin 4} {i : Nat} {x : Int32} (d : decode cc pc = .ok (.istore_n k0, 1)) (hi : (k0 : Nat) = i) (hn : i < nL) (hq : (i, Value.int x) :: lv.filter (fun q => !(q.1 == i) && !(q.1 + 1 == i && q.2.category == 2)) = lv') (k : Wk p l e R s m args below meth c (cells) (slots) Q nL D cl A (pc + 1) (lv') (st) (ws)) : Wk p l e R s m args below meth c (cells) (slots) Q nL D cl A (pc) (lv) (.int x :: st) (ws) := fun H locs ls hP hD hS hl => lv_istore_n X.x X.b d hi hl hn hq (fun ls hl => k H locs ls hP hD hS hl)
theorem Wk.istore (X : Cx p s m args c cc own Ts nL D cl tys A z) {i : Nat} {x : Int32} (d : decode cc pc = .ok (.istore i, 2)) (hn : i < nL) (hq : (i, Value.int x) :: lv.filter (fun q => !(q.1 == i) && !(q.1 + 1 == i && q.2.category == 2)) = lv') (k : Wk p l e R s m args below meth c (cells) (slots) Q nL D cl A (pc + 2) (lv') (st) (ws)) : Wk p l e R s m args below meth c (cells) (slots) Q nL D cl A (pc) (lv) (.int x :: st) (ws) := fun H locs ls hP hD hS hl => lv_istore X.x X.b d hl hn hq (fun ls hl => k H locs ls hP hD hS hl)
theorem Wk.lload_n (X : Cx p s m args c cc own Ts nL D cl tys A z) {k0 : Fin 4} {i : Nat} {x : Int64} (j : Nat) (hj : lv[j]? = some (i, .long x)) (d : decode cc pc = .ok (.lload_n k0, 1)) (hi : (k0 : Nat) = i) (k : Wk p l e R s m args below meth c (cells) (slots) Q nL D cl A (pc + 1) (lv) (.long x :: st) (ws)) : Wk p l e R s m args below meth c (cells) (slots) Q nL D cl A (pc) (lv) (st) (ws) := fun H locs ls hP hD hS hl => lv_lload_n X.x X.b d hi (lv_at hl j hj) (k H locs ls hP hD hS hl)
theorem Wk.lload (X : Cx p s m args c cc own Ts nL D cl tys A z) {i : Nat} {x : Int64} (j : Nat) (hj : lv[j]? = some (i, .long x)) (d : decode cc pc = .ok (.lload i, 2)) (k : Wk p l e R s m args below meth c (cells) (slots) Q nL D cl A (pc + 2) (lv) (.long x :: st) (ws)) : Wk p l e R s m args below meth c (cells) (slots) Q nL D cl A (pc) (lv) (st) (ws) := fun H locs ls hP hD hS hl => lv_lload X.x X.b d (lv_at hl j hj) (k H locs ls hP hD hS hl)
theorem Wk.lstore_n (X : Cx p s m args c cc own Ts nL D cl tys A z) {k0 : Fin 4} {i : Nat} {x : Int64} (d : decode cc pc = .ok (.lstore_n k0, 1)) (hi : (k0 : Nat) = i) (hn : i + 1 < nL) (hq : (i, Value.long x) :: lv.filter (fun q => !(q.1 == i) && (!(q.1 == i + 1) && !(q.1 + 1 == i && q.2.category == 2))) = lv') (k : Wk p l e R s m args below meth c (cells) (slots) Q nL D cl A (pc + 1) (lv') (st) (ws)) : Wk p l e R s m args below meth c (cells) (slots) Q nL D cl A (pc) (lv) (.long x :: st) (ws) := fun H locs ls hP hD hS hl => lv_lstore_n X.x X.b d hi hl hn hq (fun ls hl => k H locs ls hP hD hS hl)
theorem Wk.lstore (X : Cx p s m args c cc own Ts nL D cl tys A z) {i : Nat} {x : Int64} (d : decode cc pc = .ok (.lstore i, 2)) (hn : i + 1 < nL) (hq : (i, Value.long x) :: lv.filter (fun q => !(q.1 == i) && (!(q.1 == i + 1) && !(q.1 + 1 == i && q.2.category == 2))) = lv') (k : Wk p l e R s m args below meth c (cells) (slots) Q nL D cl A (pc + 2) (lv') (st) (ws)) : Wk p l e R s m args below meth c (cells) (slots) Q nL D cl A (pc) (lv) (.long x :: st) (ws) := fun H locs ls hP hD hS hl => lv_lstore X.x X.b d hl hn hq (fun ls hl => k H locs ls hP hD hS hl)
theorem Wk.aload_n (X : Cx p s m args c cc own Ts nL D cl tys A z) {k0 : Fin 4} {i : Nat} {x : Nat} (j : Nat) (hj : lv[j]? = some (i, .ref x)) (d : decode cc pc = .ok (.aload_n k0, 1)) (hi : (k0 : Nat) = i) (k : Wk p l e R s m args below meth c (cells) (slots) Q nL D cl A (pc + 1) (lv) (.ref x :: st) (ws)) : Wk p l e R s m args below meth c (cells) (slots) Q nL D cl A (pc) (lv) (st) (ws) := fun H locs ls hP hD hS hl => lv_aload_n X.x X.b d hi (lv_at hl j hj) (k H locs ls hP hD hS hl)
theorem Wk.aload (X : Cx p s m args c cc own Ts nL D cl tys A z) {i : Nat} {x : Nat} (j : Nat) (hj : lv[j]? = some (i, .ref x)) (d : decode cc pc = .ok (.aload i, 2)) (k : Wk p l e R s m args below meth c (cells) (slots) Q nL D cl A (pc + 2) (lv) (.ref x :: st) (ws)) : Wk p l e R s m args below meth c (cells) (slots) Q nL D cl A (pc) (lv) (st) (ws) := fun H locs ls hP hD hS hl => lv_aload X.x X.b d (lv_at hl j hj) (k H locs ls hP hD hS hl)
theorem Wk.astore_n (X : Cx p s m args c cc own Ts nL D cl tys A z) {k0 : Fin 4} {i : Nat} {x : Nat} (d : decode cc pc = .ok (.astore_n k0, 1)) (hi : (k0 : Nat) = i) (hn : i < nL) (hq : (i, Value.ref x) :: lv.filter (fun q => !(q.1 == i) && !(q.1 + 1 == i && q.2.category == 2)) = lv') (k : Wk p l e R s m args below meth c (cells) (slots) Q nL D cl A (pc + 1) (lv') (st) (ws)) : Wk p l e R s m args below meth c (cells) (slots) Q nL D cl A (pc) (lv) (.ref x :: st) (ws) := fun H locs ls hP hD hS hl => lv_astore_n X.x X.b d hi hl hn hq (fun ls hl => k H locs ls hP hD hS hl)
theorem Wk.astore (X : Cx p s m args c cc own Ts nL D cl tys A z) {i : Nat} {x : Nat} (d : decode cc pc = .ok (.astore i, 2)) (hn : i < nL) (hq : (i, Value.ref x) :: lv.filter (fun q => !(q.1 == i) && !(q.1 + 1 == i && q.2.category == 2)) = lv') (k : Wk p l e R s m args below meth c (cells) (slots) Q nL D cl A (pc + 2) (lv') (st) (ws)) : Wk p l e R s m args below meth c (cells) (slots) Q nL D cl A (pc) (lv) (.ref x :: st) (ws) := fun H locs ls hP hD hS hl => lv_astore X.x X.b d hl hn hq (fun ls hl => k H locs ls hP hD hS hl)
theorem Wk.iinc (X : Cx p s m args c cc own Ts nL D cl tys A z) {i : Nat} {n : Int} {x v : Int32} (j : Nat) (hj : lv[j]? = some (i, .int x)) (d : decode cc pc = .ok (.iinc i n, 3)) (hv : x + Int32.ofInt n = v) (hn : i < nL) (hq : (i, Value.int v) :: lv.filter (fun q => !(q.1 == i) && !(q.1 + 1 == i && q.2.category == 2)) = lv') (k : Wk p l e R s m args below meth c (cells) (slots) Q nL D cl A (pc + 3) (lv') (st) (ws)) : Wk p l e R s m args below meth c (cells) (slots) Q nL D cl A (pc) (lv) (st) (ws) := fun H locs ls hP hD hS hl => lv_iinc X.x X.b d hl hj hv hn hq (fun ls hl => k H locs ls hP hD hS hl)
theorem Wk.iadd (X : Cx p s m args c cc own Ts nL D cl tys A z) {x y : Int32} (d : decode cc pc = .ok (.iadd, 1)) (k : Wk p l e R s m args below meth c (cells) (slots) Q nL D cl A (pc + 1) (lv) (.int (x + y) :: st) (ws)) : Wk p l e R s m args below meth c (cells) (slots) Q nL D cl A (pc) (lv) (.int y :: .int x :: st) (ws) := fun H locs ls hP hD hS hl => lv_iadd X.x X.b d (k H locs ls hP hD hS hl)
theorem Wk.isub (X : Cx p s m args c cc own Ts nL D cl tys A z) {x y : Int32} (d : decode cc pc = .ok (.isub, 1)) (k : Wk p l e R s m args below meth c (cells) (slots) Q nL D cl A (pc + 1) (lv) (.int (x - y) :: st) (ws)) : Wk p l e R s m args below meth c (cells) (slots) Q nL D cl A (pc) (lv) (.int y :: .int x :: st) (ws) := fun H locs ls hP hD hS hl => lv_isub X.x X.b d (k H locs ls hP hD hS hl)
theorem Wk.imul (X : Cx p s m args c cc own Ts nL D cl tys A z) {x y : Int32} (d : decode cc pc = .ok (.imul, 1)) (k : Wk p l e R s m args below meth c (cells) (slots) Q nL D cl A (pc + 1) (lv) (.int (x * y) :: st) (ws)) : Wk p l e R s m args below meth c (cells) (slots) Q nL D cl A (pc) (lv) (.int y :: .int x :: st) (ws) := fun H locs ls hP hD hS hl => lv_imul X.x X.b d (k H locs ls hP hD hS hl)
theorem Wk.iand (X : Cx p s m args c cc own Ts nL D cl tys A z) {x y : Int32} (d : decode cc pc = .ok (.iand, 1)) (k : Wk p l e R s m args below meth c (cells) (slots) Q nL D cl A (pc + 1) (lv) (.int (x &&& y) :: st) (ws)) : Wk p l e R s m args below meth c (cells) (slots) Q nL D cl A (pc) (lv) (.int y :: .int x :: st) (ws) := fun H locs ls hP hD hS hl => lv_iand X.x X.b d (k H locs ls hP hD hS hl)
theorem Wk.ixor (X : Cx p s m args c cc own Ts nL D cl tys A z) {x y : Int32} (d : decode cc pc = .ok (.ixor, 1)) (k : Wk p l e R s m args below meth c (cells) (slots) Q nL D cl A (pc + 1) (lv) (.int (x ^^^ y) :: st) (ws)) : Wk p l e R s m args below meth c (cells) (slots) Q nL D cl A (pc) (lv) (.int y :: .int x :: st) (ws) := fun H locs ls hP hD hS hl => lv_ixor X.x X.b d (k H locs ls hP hD hS hl)
theorem Wk.idiv (X : Cx p s m args c cc own Ts nL D cl tys A z) {x y : Int32} (d : decode cc pc = .ok (.idiv, 1)) (hne : ¬ y = 0) (k : Wk p l e R s m args below meth c (cells) (slots) Q nL D cl A (pc + 1) (lv) (.int (x / y) :: st) (ws)) : Wk p l e R s m args below meth c (cells) (slots) Q nL D cl A (pc) (lv) (.int y :: .int x :: st) (ws) := fun H locs ls hP hD hS hl => lv_idiv X.x X.b d hne (k H locs ls hP hD hS hl)
theorem Wk.irem (X : Cx p s m args c cc own Ts nL D cl tys A z) {x y : Int32} (d : decode cc pc = .ok (.irem, 1)) (hne : ¬ y = 0) (k : Wk p l e R s m args below meth c (cells) (slots) Q nL D cl A (pc + 1) (lv) (.int (x - x / y * y) :: st) (ws)) : Wk p l e R s m args below meth c (cells) (slots) Q nL D cl A (pc) (lv) (.int y :: .int x :: st) (ws) := fun H locs ls hP hD hS hl => lv_irem X.x X.b d hne (k H locs ls hP hD hS hl)
theorem Wk.ladd (X : Cx p s m args c cc own Ts nL D cl tys A z) {x y : Int64} (d : decode cc pc = .ok (.ladd, 1)) (k : Wk p l e R s m args below meth c (cells) (slots) Q nL D cl A (pc + 1) (lv) (.long (x + y) :: st) (ws)) : Wk p l e R s m args below meth c (cells) (slots) Q nL D cl A (pc) (lv) (.long y :: .long x :: st) (ws) := fun H locs ls hP hD hS hl => lv_ladd X.x X.b d (k H locs ls hP hD hS hl)
theorem Wk.lsub (X : Cx p s m args c cc own Ts nL D cl tys A z) {x y : Int64} (d : decode cc pc = .ok (.lsub, 1)) (k : Wk p l e R s m args below meth c (cells) (slots) Q nL D cl A (pc + 1) (lv) (.long (x - y) :: st) (ws)) : Wk p l e R s m args below meth c (cells) (slots) Q nL D cl A (pc) (lv) (.long y :: .long x :: st) (ws) := fun H locs ls hP hD hS hl => lv_lsub X.x X.b d (k H locs ls hP hD hS hl)
theorem Wk.lmul (X : Cx p s m args c cc own Ts nL D cl tys A z) {x y : Int64} (d : decode cc pc = .ok (.lmul, 1)) (k : Wk p l e R s m args below meth c (cells) (slots) Q nL D cl A (pc + 1) (lv) (.long (x * y) :: st) (ws)) : Wk p l e R s m args below meth c (cells) (slots) Q nL D cl A (pc) (lv) (.long y :: .long x :: st) (ws) := fun H locs ls hP hD hS hl => lv_lmul X.x X.b d (k H locs ls hP hD hS hl)
theorem Wk.ldiv (X : Cx p s m args c cc own Ts nL D cl tys A z) {x y : Int64} (d : decode cc pc = .ok (.ldiv, 1)) (hne : ¬ y = 0) (k : Wk p l e R s m args below meth c (cells) (slots) Q nL D cl A (pc + 1) (lv) (.long (x / y) :: st) (ws)) : Wk p l e R s m args below meth c (cells) (slots) Q nL D cl A (pc) (lv) (.long y :: .long x :: st) (ws) := fun H locs ls hP hD hS hl => lv_ldiv X.x X.b d hne (k H locs ls hP hD hS hl)
theorem Wk.lrem (X : Cx p s m args c cc own Ts nL D cl tys A z) {x y : Int64} (d : decode cc pc = .ok (.lrem, 1)) (hne : ¬ y = 0) (k : Wk p l e R s m args below meth c (cells) (slots) Q nL D cl A (pc + 1) (lv) (.long (x - x / y * y) :: st) (ws)) : Wk p l e R s m args below meth c (cells) (slots) Q nL D cl A (pc) (lv) (.long y :: .long x :: st) (ws) := fun H locs ls hP hD hS hl => lv_lrem X.x X.b d hne (k H locs ls hP hD hS hl)
theorem Wk.i2l (X : Cx p s m args c cc own Ts nL D cl tys A z) {x : Int32} (d : decode cc pc = .ok (.i2l, 1)) (k : Wk p l e R s m args below meth c (cells) (slots) Q nL D cl A (pc + 1) (lv) (.long x.toInt64 :: st) (ws)) : Wk p l e R s m args below meth c (cells) (slots) Q nL D cl A (pc) (lv) (.int x :: st) (ws) := fun H locs ls hP hD hS hl => lv_i2l X.x X.b d rfl (k H locs ls hP hD hS hl)
theorem nIc1 : nI 1 = 1 := by decide
theorem nI_ofInt (n : Nat) : Int32.ofInt (n : Int) = nI n := Int32.ofInt_eq_ofNat
theorem Wk.iaddN (X : Cx p s m args c cc own Ts nL D cl tys A z) {a b : Nat} (d : decode cc pc = .ok (.iadd, 1)) (k : Wk p l e R s m args below meth c (cells) (slots) Q nL D cl A (pc + 1) (lv) (.int (nI (a + b)) :: st) (ws)) : Wk p l e R s m args below meth c (cells) (slots) Q nL D cl A (pc) (lv) (.int (nI b) :: .int (nI a) :: st) (ws) := Wk.iadd X d (Wk.topi (nI_add a b) k)
theorem Wk.imulN (X : Cx p s m args c cc own Ts nL D cl tys A z) {a b : Nat} (d : decode cc pc = .ok (.imul, 1)) (k : Wk p l e R s m args below meth c (cells) (slots) Q nL D cl A (pc + 1) (lv) (.int (nI (a * b)) :: st) (ws)) : Wk p l e R s m args below meth c (cells) (slots) Q nL D cl A (pc) (lv) (.int (nI b) :: .int (nI a) :: st) (ws) := Wk.imul X d (Wk.topi (pk_mul a b) k)
theorem Wk.isubN (X : Cx p s m args c cc own Ts nL D cl tys A z) {a b : Nat} (h : b ≤ a) (d : decode cc pc = .ok (.isub, 1)) (k : Wk p l e R s m args below meth c (cells) (slots) Q nL D cl A (pc + 1) (lv) (.int (nI (a - b)) :: st) (ws)) : Wk p l e R s m args below meth c (cells) (slots) Q nL D cl A (pc) (lv) (.int (nI b) :: .int (nI a) :: st) (ws) := Wk.isub X d (Wk.topi (pk_sub h) k)
theorem Wk.iincN (X : Cx p s m args c cc own Ts nL D cl tys A z) {i a n : Nat} (j : Nat) (hj : lv[j]? = some (i, .int (nI a))) (d : decode cc pc = .ok (.iinc i (n : Int), 3)) (hn : i < nL) (hq : (i, Value.int (nI (a + n))) :: lv.filter (fun q => !(q.1 == i) && !(q.1 + 1 == i && q.2.category == 2)) = lv') (k : Wk p l e R s m args below meth c (cells) (slots) Q nL D cl A (pc + 3) (lv') (st) (ws)) : Wk p l e R s m args below meth c (cells) (slots) Q nL D cl A (pc) (lv) (st) (ws) := Wk.iinc X j hj d ((by rw [nI_ofInt]; exact nI_add a n)) hn hq k
theorem Wk.dup (X : Cx p s m args c cc own Ts nL D cl tys A z) {v : Value} (d : decode cc pc = .ok (.dup, 1)) (hv : v.category = 1) (k : Wk p l e R s m args below meth c (cells) (slots) Q nL D cl A (pc + 1) (lv) (v :: v :: st) (ws)) : Wk p l e R s m args below meth c (cells) (slots) Q nL D cl A (pc) (lv) (v :: st) (ws) := fun H locs ls hP hD hS hl => lv_dup X.x X.b d hv (k H locs ls hP hD hS hl)
theorem Wk.if_eq (X : Cx p s m args c cc own Ts nL D cl tys A z) {x : Int32} {off : Int} (tgt : Nat) (d : decode cc pc = .ok (.ifCond .eq off, 3)) (ht : (pc : Int) + off = (tgt : Int)) (kt : x = 0 → Wk p l e R s m args below meth c (cells) (slots) Q nL D cl A (tgt) (lv) (st) (ws)) (kf : ¬ x = 0 → Wk p l e R s m args below meth c (cells) (slots) Q nL D cl A (pc + 3) (lv) (st) (ws)) : Wk p l e R s m args below meth c (cells) (slots) Q nL D cl A (pc) (lv) (.int x :: st) (ws) := fun H locs ls hP hD hS hl => lv_if_eq X.x X.b d ht (fun h => kt h H locs ls hP hD hS hl) (fun h => kf h H locs ls hP hD hS hl)
theorem Wk.icmp_eq (X : Cx p s m args c cc own Ts nL D cl tys A z) {x y : Int32} {off : Int} (tgt : Nat) (d : decode cc pc = .ok (.if_icmp .eq off, 3)) (ht : (pc : Int) + off = (tgt : Int)) (kt : x = y → Wk p l e R s m args below meth c (cells) (slots) Q nL D cl A (tgt) (lv) (st) (ws)) (kf : ¬ x = y → Wk p l e R s m args below meth c (cells) (slots) Q nL D cl A (pc + 3) (lv) (st) (ws)) : Wk p l e R s m args below meth c (cells) (slots) Q nL D cl A (pc) (lv) (.int y :: .int x :: st) (ws) := fun H locs ls hP hD hS hl => lv_icmp_eq X.x X.b d ht (fun h => kt h H locs ls hP hD hS hl) (fun h => kf h H locs ls hP hD hS hl)
theorem Wk.if_ne (X : Cx p s m args c cc own Ts nL D cl tys A z) {x : Int32} {off : Int} (tgt : Nat) (d : decode cc pc = .ok (.ifCond .ne off, 3)) (ht : (pc : Int) + off = (tgt : Int)) (kt : ¬ x = 0 → Wk p l e R s m args below meth c (cells) (slots) Q nL D cl A (tgt) (lv) (st) (ws)) (kf : x = 0 → Wk p l e R s m args below meth c (cells) (slots) Q nL D cl A (pc + 3) (lv) (st) (ws)) : Wk p l e R s m args below meth c (cells) (slots) Q nL D cl A (pc) (lv) (.int x :: st) (ws) := fun H locs ls hP hD hS hl => lv_if_ne X.x X.b d ht (fun h => kt h H locs ls hP hD hS hl) (fun h => kf h H locs ls hP hD hS hl)
theorem Wk.icmp_ne (X : Cx p s m args c cc own Ts nL D cl tys A z) {x y : Int32} {off : Int} (tgt : Nat) (d : decode cc pc = .ok (.if_icmp .ne off, 3)) (ht : (pc : Int) + off = (tgt : Int)) (kt : ¬ x = y → Wk p l e R s m args below meth c (cells) (slots) Q nL D cl A (tgt) (lv) (st) (ws)) (kf : x = y → Wk p l e R s m args below meth c (cells) (slots) Q nL D cl A (pc + 3) (lv) (st) (ws)) : Wk p l e R s m args below meth c (cells) (slots) Q nL D cl A (pc) (lv) (.int y :: .int x :: st) (ws) := fun H locs ls hP hD hS hl => lv_icmp_ne X.x X.b d ht (fun h => kt h H locs ls hP hD hS hl) (fun h => kf h H locs ls hP hD hS hl)
theorem Wk.if_lt (X : Cx p s m args c cc own Ts nL D cl tys A z) {x : Int32} {off : Int} (tgt : Nat) (d : decode cc pc = .ok (.ifCond .lt off, 3)) (ht : (pc : Int) + off = (tgt : Int)) (kt : x < 0 → Wk p l e R s m args below meth c (cells) (slots) Q nL D cl A (tgt) (lv) (st) (ws)) (kf : ¬ x < 0 → Wk p l e R s m args below meth c (cells) (slots) Q nL D cl A (pc + 3) (lv) (st) (ws)) : Wk p l e R s m args below meth c (cells) (slots) Q nL D cl A (pc) (lv) (.int x :: st) (ws) := fun H locs ls hP hD hS hl => lv_if_lt X.x X.b d ht (fun h => kt h H locs ls hP hD hS hl) (fun h => kf h H locs ls hP hD hS hl)
theorem Wk.icmp_lt (X : Cx p s m args c cc own Ts nL D cl tys A z) {x y : Int32} {off : Int} (tgt : Nat) (d : decode cc pc = .ok (.if_icmp .lt off, 3)) (ht : (pc : Int) + off = (tgt : Int)) (kt : x < y → Wk p l e R s m args below meth c (cells) (slots) Q nL D cl A (tgt) (lv) (st) (ws)) (kf : ¬ x < y → Wk p l e R s m args below meth c (cells) (slots) Q nL D cl A (pc + 3) (lv) (st) (ws)) : Wk p l e R s m args below meth c (cells) (slots) Q nL D cl A (pc) (lv) (.int y :: .int x :: st) (ws) := fun H locs ls hP hD hS hl => lv_icmp_lt X.x X.b d ht (fun h => kt h H locs ls hP hD hS hl) (fun h => kf h H locs ls hP hD hS hl)
theorem Wk.if_ge (X : Cx p s m args c cc own Ts nL D cl tys A z) {x : Int32} {off : Int} (tgt : Nat) (d : decode cc pc = .ok (.ifCond .ge off, 3)) (ht : (pc : Int) + off = (tgt : Int)) (kt : 0 ≤ x → Wk p l e R s m args below meth c (cells) (slots) Q nL D cl A (tgt) (lv) (st) (ws)) (kf : ¬ 0 ≤ x → Wk p l e R s m args below meth c (cells) (slots) Q nL D cl A (pc + 3) (lv) (st) (ws)) : Wk p l e R s m args below meth c (cells) (slots) Q nL D cl A (pc) (lv) (.int x :: st) (ws) := fun H locs ls hP hD hS hl => lv_if_ge X.x X.b d ht (fun h => kt h H locs ls hP hD hS hl) (fun h => kf h H locs ls hP hD hS hl)
theorem Wk.icmp_ge (X : Cx p s m args c cc own Ts nL D cl tys A z) {x y : Int32} {off : Int} (tgt : Nat) (d : decode cc pc = .ok (.if_icmp .ge off, 3)) (ht : (pc : Int) + off = (tgt : Int)) (kt : y ≤ x → Wk p l e R s m args below meth c (cells) (slots) Q nL D cl A (tgt) (lv) (st) (ws)) (kf : ¬ y ≤ x → Wk p l e R s m args below meth c (cells) (slots) Q nL D cl A (pc + 3) (lv) (st) (ws)) : Wk p l e R s m args below meth c (cells) (slots) Q nL D cl A (pc) (lv) (.int y :: .int x :: st) (ws) := fun H locs ls hP hD hS hl => lv_icmp_ge X.x X.b d ht (fun h => kt h H locs ls hP hD hS hl) (fun h => kf h H locs ls hP hD hS hl)
theorem Wk.if_gt (X : Cx p s m args c cc own Ts nL D cl tys A z) {x : Int32} {off : Int} (tgt : Nat) (d : decode cc pc = .ok (.ifCond .gt off, 3)) (ht : (pc : Int) + off = (tgt : Int)) (kt : 0 < x → Wk p l e R s m args below meth c (cells) (slots) Q nL D cl A (tgt) (lv) (st) (ws)) (kf : ¬ 0 < x → Wk p l e R s m args below meth c (cells) (slots) Q nL D cl A (pc + 3) (lv) (st) (ws)) : Wk p l e R s m args below meth c (cells) (slots) Q nL D cl A (pc) (lv) (.int x :: st) (ws) := fun H locs ls hP hD hS hl => lv_if_gt X.x X.b d ht (fun h => kt h H locs ls hP hD hS hl) (fun h => kf h H locs ls hP hD hS hl)
theorem Wk.icmp_gt (X : Cx p s m args c cc own Ts nL D cl tys A z) {x y : Int32} {off : Int} (tgt : Nat) (d : decode cc pc = .ok (.if_icmp .gt off, 3)) (ht : (pc : Int) + off = (tgt : Int)) (kt : y < x → Wk p l e R s m args below meth c (cells) (slots) Q nL D cl A (tgt) (lv) (st) (ws)) (kf : ¬ y < x → Wk p l e R s m args below meth c (cells) (slots) Q nL D cl A (pc + 3) (lv) (st) (ws)) : Wk p l e R s m args below meth c (cells) (slots) Q nL D cl A (pc) (lv) (.int y :: .int x :: st) (ws) := fun H locs ls hP hD hS hl => lv_icmp_gt X.x X.b d ht (fun h => kt h H locs ls hP hD hS hl) (fun h => kf h H locs ls hP hD hS hl)
theorem Wk.if_le (X : Cx p s m args c cc own Ts nL D cl tys A z) {x : Int32} {off : Int} (tgt : Nat) (d : decode cc pc = .ok (.ifCond .le off, 3)) (ht : (pc : Int) + off = (tgt : Int)) (kt : x ≤ 0 → Wk p l e R s m args below meth c (cells) (slots) Q nL D cl A (tgt) (lv) (st) (ws)) (kf : ¬ x ≤ 0 → Wk p l e R s m args below meth c (cells) (slots) Q nL D cl A (pc + 3) (lv) (st) (ws)) : Wk p l e R s m args below meth c (cells) (slots) Q nL D cl A (pc) (lv) (.int x :: st) (ws) := fun H locs ls hP hD hS hl => lv_if_le X.x X.b d ht (fun h => kt h H locs ls hP hD hS hl) (fun h => kf h H locs ls hP hD hS hl)
theorem Wk.icmp_le (X : Cx p s m args c cc own Ts nL D cl tys A z) {x y : Int32} {off : Int} (tgt : Nat) (d : decode cc pc = .ok (.if_icmp .le off, 3)) (ht : (pc : Int) + off = (tgt : Int)) (kt : x ≤ y → Wk p l e R s m args below meth c (cells) (slots) Q nL D cl A (tgt) (lv) (st) (ws)) (kf : ¬ x ≤ y → Wk p l e R s m args below meth c (cells) (slots) Q nL D cl A (pc + 3) (lv) (st) (ws)) : Wk p l e R s m args below meth c (cells) (slots) Q nL D cl A (pc) (lv) (.int y :: .int x :: st) (ws) := fun H locs ls hP hD hS hl => lv_icmp_le X.x X.b d ht (fun h => kt h H locs ls hP hD hS hl) (fun h => kf h H locs ls hP hD hS hl)
theorem Wk.lcmp_eq (X : Cx p s m args c cc own Ts nL D cl tys A z) {x y : Int64} {off : Int} (tgt : Nat) (d0 : decode cc pc = .ok (.lcmp, 1)) (d : decode cc (pc + 1) = .ok (.ifCond .eq off, 3)) (ht : ((pc + 1 : Nat) : Int) + off = (tgt : Int)) (kt : x = y → Wk p l e R s m args below meth c (cells) (slots) Q nL D cl A (tgt) (lv) (st) (ws)) (kf : ¬ x = y → Wk p l e R s m args below meth c (cells) (slots) Q nL D cl A (pc + 1 + 3) (lv) (st) (ws)) : Wk p l e R s m args below meth c (cells) (slots) Q nL D cl A (pc) (lv) (.long y :: .long x :: st) (ws) := fun H locs ls hP hD hS hl => W.lcmp X.x X.b d0 (Wk.if_eq X tgt d ht (fun h => kt ((lg_cmp_eq x y).mp h)) (fun h => kf (fun q => h ((lg_cmp_eq x y).mpr q))) H locs ls hP hD hS hl)
theorem Wk.lcmp_ne (X : Cx p s m args c cc own Ts nL D cl tys A z) {x y : Int64} {off : Int} (tgt : Nat) (d0 : decode cc pc = .ok (.lcmp, 1)) (d : decode cc (pc + 1) = .ok (.ifCond .ne off, 3)) (ht : ((pc + 1 : Nat) : Int) + off = (tgt : Int)) (kt : ¬ x = y → Wk p l e R s m args below meth c (cells) (slots) Q nL D cl A (tgt) (lv) (st) (ws)) (kf : x = y → Wk p l e R s m args below meth c (cells) (slots) Q nL D cl A (pc + 1 + 3) (lv) (st) (ws)) : Wk p l e R s m args below meth c (cells) (slots) Q nL D cl A (pc) (lv) (.long y :: .long x :: st) (ws) := fun H locs ls hP hD hS hl => W.lcmp X.x X.b d0 (Wk.if_ne X tgt d ht (fun h => kt (fun q => h ((lg_cmp_eq x y).mpr q))) (fun h => kf ((lg_cmp_eq x y).mp h)) H locs ls hP hD hS hl)
theorem Wk.lcmp_lt (X : Cx p s m args c cc own Ts nL D cl tys A z) {x y : Int64} {off : Int} (tgt : Nat) (d0 : decode cc pc = .ok (.lcmp, 1)) (d : decode cc (pc + 1) = .ok (.ifCond .lt off, 3)) (ht : ((pc + 1 : Nat) : Int) + off = (tgt : Int)) (kt : x < y → Wk p l e R s m args below meth c (cells) (slots) Q nL D cl A (tgt) (lv) (st) (ws)) (kf : ¬ x < y → Wk p l e R s m args below meth c (cells) (slots) Q nL D cl A (pc + 1 + 3) (lv) (st) (ws)) : Wk p l e R s m args below meth c (cells) (slots) Q nL D cl A (pc) (lv) (.long y :: .long x :: st) (ws) := fun H locs ls hP hD hS hl => W.lcmp X.x X.b d0 (Wk.if_lt X tgt d ht (fun h => kt ((lg_cmp_lt x y).mp h)) (fun h => kf (fun q => h ((lg_cmp_lt x y).mpr q))) H locs ls hP hD hS hl)
theorem Wk.lcmp_ge (X : Cx p s m args c cc own Ts nL D cl tys A z) {x y : Int64} {off : Int} (tgt : Nat) (d0 : decode cc pc = .ok (.lcmp, 1)) (d : decode cc (pc + 1) = .ok (.ifCond .ge off, 3)) (ht : ((pc + 1 : Nat) : Int) + off = (tgt : Int)) (kt : y ≤ x → Wk p l e R s m args below meth c (cells) (slots) Q nL D cl A (tgt) (lv) (st) (ws)) (kf : ¬ y ≤ x → Wk p l e R s m args below meth c (cells) (slots) Q nL D cl A (pc + 1 + 3) (lv) (st) (ws)) : Wk p l e R s m args below meth c (cells) (slots) Q nL D cl A (pc) (lv) (.long y :: .long x :: st) (ws) := fun H locs ls hP hD hS hl => W.lcmp X.x X.b d0 (Wk.if_ge X tgt d ht (fun h => kt ((lg_cmp_ge x y).mp h)) (fun h => kf (fun q => h ((lg_cmp_ge x y).mpr q))) H locs ls hP hD hS hl)
theorem Wk.lcmp_gt (X : Cx p s m args c cc own Ts nL D cl tys A z) {x y : Int64} {off : Int} (tgt : Nat) (d0 : decode cc pc = .ok (.lcmp, 1)) (d : decode cc (pc + 1) = .ok (.ifCond .gt off, 3)) (ht : ((pc + 1 : Nat) : Int) + off = (tgt : Int)) (kt : y < x → Wk p l e R s m args below meth c (cells) (slots) Q nL D cl A (tgt) (lv) (st) (ws)) (kf : ¬ y < x → Wk p l e R s m args below meth c (cells) (slots) Q nL D cl A (pc + 1 + 3) (lv) (st) (ws)) : Wk p l e R s m args below meth c (cells) (slots) Q nL D cl A (pc) (lv) (.long y :: .long x :: st) (ws) := fun H locs ls hP hD hS hl => W.lcmp X.x X.b d0 (Wk.if_gt X tgt d ht (fun h => kt ((lg_cmp_gt x y).mp h)) (fun h => kf (fun q => h ((lg_cmp_gt x y).mpr q))) H locs ls hP hD hS hl)
theorem Wk.lcmp_le (X : Cx p s m args c cc own Ts nL D cl tys A z) {x y : Int64} {off : Int} (tgt : Nat) (d0 : decode cc pc = .ok (.lcmp, 1)) (d : decode cc (pc + 1) = .ok (.ifCond .le off, 3)) (ht : ((pc + 1 : Nat) : Int) + off = (tgt : Int)) (kt : x ≤ y → Wk p l e R s m args below meth c (cells) (slots) Q nL D cl A (tgt) (lv) (st) (ws)) (kf : ¬ x ≤ y → Wk p l e R s m args below meth c (cells) (slots) Q nL D cl A (pc + 1 + 3) (lv) (st) (ws)) : Wk p l e R s m args below meth c (cells) (slots) Q nL D cl A (pc) (lv) (.long y :: .long x :: st) (ws) := fun H locs ls hP hD hS hl => W.lcmp X.x X.b d0 (Wk.if_le X tgt d ht (fun h => kt ((lg_cmp_le x y).mp h)) (fun h => kf (fun q => h ((lg_cmp_le x y).mpr q))) H locs ls hP hD hS hl)
theorem Wk.icmpN_eq (X : Cx p s m args c cc own Ts nL D cl tys A z) {a b : Nat} {off : Int} (tgt : Nat) (ha : a < 2 ^ 31) (hb : b < 2 ^ 31) (d : decode cc pc = .ok (.if_icmp .eq off, 3)) (ht : (pc : Int) + off = (tgt : Int)) (kt : a = b → Wk p l e R s m args below meth c (cells) (slots) Q nL D cl A (tgt) (lv) (st) (ws)) (kf : ¬ a = b → Wk p l e R s m args below meth c (cells) (slots) Q nL D cl A (pc + 3) (lv) (st) (ws)) : Wk p l e R s m args below meth c (cells) (slots) Q nL D cl A (pc) (lv) (.int (nI b) :: .int (nI a) :: st) (ws) := Wk.icmp_eq X tgt d ht (fun h => kt ((nI_eq ha hb).mp h)) (fun h => kf (fun q => h ((nI_eq ha hb).mpr q)))
theorem Wk.icmpN_ne (X : Cx p s m args c cc own Ts nL D cl tys A z) {a b : Nat} {off : Int} (tgt : Nat) (ha : a < 2 ^ 31) (hb : b < 2 ^ 31) (d : decode cc pc = .ok (.if_icmp .ne off, 3)) (ht : (pc : Int) + off = (tgt : Int)) (kt : ¬ a = b → Wk p l e R s m args below meth c (cells) (slots) Q nL D cl A (tgt) (lv) (st) (ws)) (kf : a = b → Wk p l e R s m args below meth c (cells) (slots) Q nL D cl A (pc + 3) (lv) (st) (ws)) : Wk p l e R s m args below meth c (cells) (slots) Q nL D cl A (pc) (lv) (.int (nI b) :: .int (nI a) :: st) (ws) := Wk.icmp_ne X tgt d ht (fun h => kt (fun q => h ((nI_eq ha hb).mpr q))) (fun h => kf ((nI_eq ha hb).mp h))
theorem Wk.icmpN_lt (X : Cx p s m args c cc own Ts nL D cl tys A z) {a b : Nat} {off : Int} (tgt : Nat) (ha : a < 2 ^ 31) (hb : b < 2 ^ 31) (d : decode cc pc = .ok (.if_icmp .lt off, 3)) (ht : (pc : Int) + off = (tgt : Int)) (kt : a < b → Wk p l e R s m args below meth c (cells) (slots) Q nL D cl A (tgt) (lv) (st) (ws)) (kf : ¬ a < b → Wk p l e R s m args below meth c (cells) (slots) Q nL D cl A (pc + 3) (lv) (st) (ws)) : Wk p l e R s m args below meth c (cells) (slots) Q nL D cl A (pc) (lv) (.int (nI b) :: .int (nI a) :: st) (ws) := Wk.icmp_lt X tgt d ht (fun h => kt ((nI_ltI ha hb).mp h)) (fun h => kf (fun q => h ((nI_ltI ha hb).mpr q)))
theorem Wk.icmpN_ge (X : Cx p s m args c cc own Ts nL D cl tys A z) {a b : Nat} {off : Int} (tgt : Nat) (ha : a < 2 ^ 31) (hb : b < 2 ^ 31) (d : decode cc pc = .ok (.if_icmp .ge off, 3)) (ht : (pc : Int) + off = (tgt : Int)) (kt : b ≤ a → Wk p l e R s m args below meth c (cells) (slots) Q nL D cl A (tgt) (lv) (st) (ws)) (kf : ¬ b ≤ a → Wk p l e R s m args below meth c (cells) (slots) Q nL D cl A (pc + 3) (lv) (st) (ws)) : Wk p l e R s m args below meth c (cells) (slots) Q nL D cl A (pc) (lv) (.int (nI b) :: .int (nI a) :: st) (ws) := Wk.icmp_ge X tgt d ht (fun h => kt ((nI_leI hb ha).mp h)) (fun h => kf (fun q => h ((nI_leI hb ha).mpr q)))
theorem Wk.icmpN_gt (X : Cx p s m args c cc own Ts nL D cl tys A z) {a b : Nat} {off : Int} (tgt : Nat) (ha : a < 2 ^ 31) (hb : b < 2 ^ 31) (d : decode cc pc = .ok (.if_icmp .gt off, 3)) (ht : (pc : Int) + off = (tgt : Int)) (kt : b < a → Wk p l e R s m args below meth c (cells) (slots) Q nL D cl A (tgt) (lv) (st) (ws)) (kf : ¬ b < a → Wk p l e R s m args below meth c (cells) (slots) Q nL D cl A (pc + 3) (lv) (st) (ws)) : Wk p l e R s m args below meth c (cells) (slots) Q nL D cl A (pc) (lv) (.int (nI b) :: .int (nI a) :: st) (ws) := Wk.icmp_gt X tgt d ht (fun h => kt ((nI_ltI hb ha).mp h)) (fun h => kf (fun q => h ((nI_ltI hb ha).mpr q)))
theorem Wk.icmpN_le (X : Cx p s m args c cc own Ts nL D cl tys A z) {a b : Nat} {off : Int} (tgt : Nat) (ha : a < 2 ^ 31) (hb : b < 2 ^ 31) (d : decode cc pc = .ok (.if_icmp .le off, 3)) (ht : (pc : Int) + off = (tgt : Int)) (kt : a ≤ b → Wk p l e R s m args below meth c (cells) (slots) Q nL D cl A (tgt) (lv) (st) (ws)) (kf : ¬ a ≤ b → Wk p l e R s m args below meth c (cells) (slots) Q nL D cl A (pc + 3) (lv) (st) (ws)) : Wk p l e R s m args below meth c (cells) (slots) Q nL D cl A (pc) (lv) (.int (nI b) :: .int (nI a) :: st) (ws) := Wk.icmp_le X tgt d ht (fun h => kt ((nI_leI ha hb).mp h)) (fun h => kf (fun q => h ((nI_leI ha hb).mpr q)))
/-- a truth value as the machine has it -/
def bI (b : Bool) : Int32 := if b = true then 1 else 0
theorem bI_t : bI true = 1 := rfl
theorem bI_f : bI false = 0 := rfl
theorem bI_0 {b : Bool} : bI b = 0 ↔ b = false := by cases b <;> decide
theorem bI_n0 {b : Bool} : ¬ bI b = 0 ↔ b = true := by cases b <;> decide
theorem bI_fit (b : Bool) : fits .boolean (.int (bI b)) = true := by cases b <;> decide
theorem bI_vp (b : Bool) : vp_nar .boolean (bI b) = bI b := by cases b <;> decide
def updB (f : Nat → Bool) (k : Nat) (x : Bool) : Nat → Bool := fun j => if j = k then x else f j
theorem updB_bI (f : Nat → Bool) (k : Nat) (x : Bool) : upd (fun j => bI (f j)) k (bI x) = fun j => bI (updB f k x j) := by
  funext j
  unfold upd updB
  by_cases h : j = k <;> simp [h]
theorem bI_nar (b : Bool) : narrow .boolean (.int (bI b)) = .int (bI b) := by cases b <;> decide
theorem Wk.ifB_eq (X : Cx p s m args c cc own Ts nL D cl tys A z) {b : Bool} {off : Int} (tgt : Nat) (d : decode cc pc = .ok (.ifCond .eq off, 3)) (ht : (pc : Int) + off = (tgt : Int)) (kt : b = false → Wk p l e R s m args below meth c (cells) (slots) Q nL D cl A (tgt) (lv) (st) (ws)) (kf : b = true → Wk p l e R s m args below meth c (cells) (slots) Q nL D cl A (pc + 3) (lv) (st) (ws)) : Wk p l e R s m args below meth c (cells) (slots) Q nL D cl A (pc) (lv) (.int (bI b) :: st) (ws) := Wk.if_eq X tgt d ht (fun h => kt (bI_0.mp h)) (fun h => kf (bI_n0.mp h))
theorem Wk.ifB_ne (X : Cx p s m args c cc own Ts nL D cl tys A z) {b : Bool} {off : Int} (tgt : Nat) (d : decode cc pc = .ok (.ifCond .ne off, 3)) (ht : (pc : Int) + off = (tgt : Int)) (kt : b = true → Wk p l e R s m args below meth c (cells) (slots) Q nL D cl A (tgt) (lv) (st) (ws)) (kf : b = false → Wk p l e R s m args below meth c (cells) (slots) Q nL D cl A (pc + 3) (lv) (st) (ws)) : Wk p l e R s m args below meth c (cells) (slots) Q nL D cl A (pc) (lv) (.int (bI b) :: st) (ws) := Wk.if_ne X tgt d ht (fun h => kt (bI_n0.mp h)) (fun h => kf (bI_0.mp h))
theorem Wk.goto (X : Cx p s m args c cc own Ts nL D cl tys A z) {off : Int} (tgt : Nat) (d : decode cc pc = .ok (.goto off, 3)) (ht : (pc : Int) + off = (tgt : Int)) (k : Wk p l e R s m args below meth c (cells) (slots) Q nL D cl A (tgt) (lv) (st) (ws)) : Wk p l e R s m args below meth c (cells) (slots) Q nL D cl A (pc) (lv) (st) (ws) := fun H locs ls hP hD hS hl => lv_goto X.x X.b d ht (k H locs ls hP hD hS hl)
theorem Wk.tableIn (X : Cx p s m args c cc own Ts nL D cl tys A z) {dflt lo hi : Int} {offs : Array Int} {len : Nat} {x : Int32} {off : Int} (tgt : Nat) (d : decode cc pc = .ok (.tableswitch dflt lo hi offs, len)) (h1 : ¬ x.toInt < lo) (h2 : ¬ hi < x.toInt) (ho : offs[(x.toInt - lo).toNat]? = some off) (ht : (pc : Int) + off = (tgt : Int)) (k : Wk p l e R s m args below meth c (cells) (slots) Q nL D cl A (tgt) (lv) (st) (ws)) : Wk p l e R s m args below meth c (cells) (slots) Q nL D cl A (pc) (lv) (.int x :: st) (ws) := fun H locs ls hP hD hS hl => lv_tableIn X.x X.b d h1 h2 ho ht (k H locs ls hP hD hS hl)
theorem Wk.tableOut (X : Cx p s m args c cc own Ts nL D cl tys A z) {dflt lo hi : Int} {offs : Array Int} {len : Nat} {x : Int32} (tgt : Nat) (d : decode cc pc = .ok (.tableswitch dflt lo hi offs, len)) (h : x.toInt < lo ∨ hi < x.toInt) (ht : (pc : Int) + dflt = (tgt : Int)) (k : Wk p l e R s m args below meth c (cells) (slots) Q nL D cl A (tgt) (lv) (st) (ws)) : Wk p l e R s m args below meth c (cells) (slots) Q nL D cl A (pc) (lv) (.int x :: st) (ws) := fun H locs ls hP hD hS hl => lv_tableOut X.x X.b d h ht (k H locs ls hP hD hS hl)
theorem Wk.lookup (X : Cx p s m args c cc own Ts nL D cl tys A z) {dflt : Int} {ps : Array (Int × Int)} {len : Nat} {x : Int32} {off : Int} (tgt : Nat) (d : decode cc pc = .ok (.lookupswitch dflt ps, len)) (hp : (ps.toList.zip (ps.toList.drop 1)).all (fun (a, next) => a.1 < next.1) = true) (ho : Op.lookupswitch.offset ps.toList dflt x.toInt = off) (ht : (pc : Int) + off = (tgt : Int)) (k : Wk p l e R s m args below meth c (cells) (slots) Q nL D cl A (tgt) (lv) (st) (ws)) : Wk p l e R s m args below meth c (cells) (slots) Q nL D cl A (pc) (lv) (.int x :: st) (ws) := fun H locs ls hP hD hS hl => lv_lookup X.x X.b d hp ho ht (k H locs ls hP hD hS hl)
theorem Wk.get (X : Cx p s m args c cc own Ts nL D cl tys A z) {ref C : String} {T : u_T} {N ci index a : Nat} {fs : List Value} {v : Value} (hin : ∀ w ∈ u_ws C T N, w ∈ Ts) (q0 k0 : Nat) (hlink : (Cond.fieldLink own index ref (T k0).2.1 (T k0).2.2.1).before args s = true) (hsame : ∀ x, s.fieldFound? (T k0).1 (T k0).2.1 (T k0).2.2.1 = some x → s.fieldFound? ref (T k0).2.1 (T k0).2.2.1 = some x) (he : ws[q0]? = some (a, .inr (ci, fs))) (hc : cl[ci]? = some (C, T, N)) (hk : k0 < N) (hv : fs[k0]? = some v) (d : decode cc pc = .ok (.getfield index, 3)) (k : Wk p l e R s m args below meth c (cells) (slots) Q nL D cl A (pc + 3) (lv) (v :: st) (ws)) : Wk p l e R s m args below meth c (cells) (slots) Q nL D cl A (pc) (lv) (.ref a :: st) (ws) := fun H locs ls hP hD hS hl => va_get X.x X.b X.w hin X.o X.k hP q0 he hc k0 hk hlink hsame hv d (k H locs ls hP hD hS hl)
theorem Wk.put (X : Cx p s m args c cc own Ts nL D cl tys A z) {ref C : String} {T : u_T} {N ci index a : Nat} {fs : List Value} {v : Value} {ty : FieldType} (hin : ∀ w ∈ u_ws C T N, w ∈ Ts) (ty0 : Nat → FieldType) (hty : ∀ k, k < N → parseFieldDescriptor (T k).2.2.1 = some (ty0 k)) (hnm : ∀ a, a < N → ∀ b, b < N → a ≠ b → (T a).2.1 ≠ (T b).2.1) (q0 k0 : Nat) (hlink : (Cond.fieldLink own index ref (T k0).2.1 (T k0).2.2.1).before args s = true) (hsame : ∀ x, s.fieldFound? (T k0).1 (T k0).2.1 (T k0).2.2.1 = some x → s.fieldFound? ref (T k0).2.1 (T k0).2.2.1 = some x) (he : ws[q0]? = some (a, .inr (ci, fs))) (hc : cl[ci]? = some (C, T, N)) (hk : k0 < N) (hfin : (T k0).2.2.2 = false) (hd : parseFieldDescriptor (T k0).2.2.1 = some ty) (hn : narrow ty v = v) (hfit : fits ty v = true) (hl0 : k0 < fs.length) (hw : ws.set q0 (a, .inr (ci, fs.set k0 v)) = ws') (d : decode cc pc = .ok (.putfield index, 3)) (k : Wk p l e R s m args below meth c (cells) (slots) Q nL D cl A (pc + 3) (lv) (st) (ws')) : Wk p l e R s m args below meth c (cells) (slots) Q nL D cl A (pc) (lv) (v :: .ref a :: st) (ws) := fun H locs ls hP hD hS hl => va_put X.x X.b X.w hin ty0 hty hnm X.o X.k hP hD hS q0 he hc k0 hk hlink hsame hfin hd hn hfit hl0 d (fun H locs hP hD hS => k H locs ls (hw ▸ hP) (hw ▸ hD) hS hl)
theorem Wk.putF (X : Cx p s m args c cc own Ts nL D cl tys A z) {ref C : String} {T : u_T} {N ci index a : Nat} {fs : List Value} {v : Value} {ty : FieldType} (hin : ∀ w ∈ u_ws C T N, w ∈ Ts) (ty0 : Nat → FieldType) (hty : ∀ k, k < N → parseFieldDescriptor (T k).2.2.1 = some (ty0 k)) (hnm : ∀ a, a < N → ∀ b, b < N → a ≠ b → (T a).2.1 ≠ (T b).2.1) (q0 k0 : Nat) (hlink : (Cond.fieldLink own index ref (T k0).2.1 (T k0).2.2.1).before args s = true) (hsame : ∀ x, s.fieldFound? (T k0).1 (T k0).2.1 (T k0).2.2.1 = some x → s.fieldFound? ref (T k0).2.1 (T k0).2.2.1 = some x) (he : ws[q0]? = some (a, .inr (ci, fs))) (hc : cl[ci]? = some (C, T, N)) (hk : k0 < N) (hfin : (T k0).2.2.2 = true) (hi2 : meth.name = "<init>") (hdecl : (T k0).1 = own) (hd : parseFieldDescriptor (T k0).2.2.1 = some ty) (hn : narrow ty v = v) (hfit : fits ty v = true) (hl0 : k0 < fs.length) (hw : ws.set q0 (a, .inr (ci, fs.set k0 v)) = ws') (d : decode cc pc = .ok (.putfield index, 3)) (k : Wk p l e R s m args below meth c (cells) (slots) Q nL D cl A (pc + 3) (lv) (st) (ws')) : Wk p l e R s m args below meth c (cells) (slots) Q nL D cl A (pc) (lv) (v :: .ref a :: st) (ws) := fun H locs ls hP hD hS hl => va_putF X.x X.b X.w hin ty0 hty hnm X.o X.k hP hD hS q0 he hc k0 hk hlink hsame hfin hi2 hdecl hd hn hfit hl0 d (fun H locs hP hD hS => k H locs ls (hw ▸ hP) (hw ▸ hD) hS hl)
theorem Wk.iald (X : Cx p s m args c cc own Ts nL D cl tys A z) {cA : ClassId} {n a : Nat} {f : Nat → Int32} {j : Nat} (q0 t0 : Nat) (ha : ws[q0]? = some (a, .inl (cA, n, .inl f))) (ht : tys[t0]? = some (cA, .int)) (hj : j < n) (hn : n < 2 ^ 31) (d : decode cc pc = .ok (.iaload, 1)) (k : Wk p l e R s m args below meth c (cells) (slots) Q nL D cl A (pc + 1) (lv) (.int (f j) :: st) (ws)) : Wk p l e R s m args below meth c (cells) (slots) Q nL D cl A (pc) (lv) (.int (nI j) :: .ref a :: st) (ws) := fun H locs ls hP hD hS hl => va_iald X.x X.b X.k hP q0 t0 ha ht (vp_in_nI hj hn) d (by rw [nI_clamp (Nat.lt_trans hj hn)]; exact (k H locs ls hP hD hS hl))
theorem Wk.lald (X : Cx p s m args c cc own Ts nL D cl tys A z) {cA : ClassId} {n a : Nat} {f : Nat → Int64} {j : Nat} (q0 t0 : Nat) (ha : ws[q0]? = some (a, .inl (cA, n, .inr (.inl f)))) (ht : tys[t0]? = some (cA, .long)) (hj : j < n) (hn : n < 2 ^ 31) (d : decode cc pc = .ok (.laload, 1)) (k : Wk p l e R s m args below meth c (cells) (slots) Q nL D cl A (pc + 1) (lv) (.long (f j) :: st) (ws)) : Wk p l e R s m args below meth c (cells) (slots) Q nL D cl A (pc) (lv) (.int (nI j) :: .ref a :: st) (ws) := fun H locs ls hP hD hS hl => va_lald X.x X.b X.k hP q0 t0 ha ht (vp_in_nI hj hn) d (by rw [nI_clamp (Nat.lt_trans hj hn)]; exact (k H locs ls hP hD hS hl))
theorem Wk.zald (X : Cx p s m args c cc own Ts nL D cl tys A z) {cA : ClassId} {n a : Nat} {f : Nat → Int32} {j : Nat} (q0 t0 : Nat) (ha : ws[q0]? = some (a, .inl (cA, n, .inl f))) (ht : tys[t0]? = some (cA, .boolean)) (hj : j < n) (hn : n < 2 ^ 31) (d : decode cc pc = .ok (.baload, 1)) (k : Wk p l e R s m args below meth c (cells) (slots) Q nL D cl A (pc + 1) (lv) (.int (f j) :: st) (ws)) : Wk p l e R s m args below meth c (cells) (slots) Q nL D cl A (pc) (lv) (.int (nI j) :: .ref a :: st) (ws) := fun H locs ls hP hD hS hl => va_zald X.x X.b X.k hP q0 t0 ha ht (vp_in_nI hj hn) d (by rw [nI_clamp (Nat.lt_trans hj hn)]; exact (k H locs ls hP hD hS hl))
theorem Wk.iast (X : Cx p s m args c cc own Ts nL D cl tys A z) {cA : ClassId} {n a : Nat} {f : Nat → Int32} {j : Nat} {x : Int32} (q0 t0 : Nat) (ha : ws[q0]? = some (a, .inl (cA, n, .inl f))) (ht : tys[t0]? = some (cA, .int)) (hj : j < n) (hn : n < 2 ^ 31) (hw : ws.set q0 (a, .inl (cA, n, .inl (upd f j x))) = ws') (d : decode cc pc = .ok (.iastore, 1)) (k : Wk p l e R s m args below meth c (cells) (slots) Q nL D cl A (pc + 1) (lv) (st) (ws')) : Wk p l e R s m args below meth c (cells) (slots) Q nL D cl A (pc) (lv) (.int x :: .int (nI j) :: .ref a :: st) (ws) := fun H locs ls hP hD hS hl => va_iast X.x X.b X.k hP hD hS q0 t0 ha ht (vp_in_nI hj hn) d (by rw [nI_clamp (Nat.lt_trans hj hn), hw]; exact fun H locs hP hD hS => k H locs ls hP hD hS hl)
theorem Wk.last (X : Cx p s m args c cc own Ts nL D cl tys A z) {cA : ClassId} {n a : Nat} {f : Nat → Int64} {j : Nat} {x : Int64} (q0 t0 : Nat) (ha : ws[q0]? = some (a, .inl (cA, n, .inr (.inl f)))) (ht : tys[t0]? = some (cA, .long)) (hj : j < n) (hn : n < 2 ^ 31) (hw : ws.set q0 (a, .inl (cA, n, .inr (.inl (vp_updL f j x)))) = ws') (d : decode cc pc = .ok (.lastore, 1)) (k : Wk p l e R s m args below meth c (cells) (slots) Q nL D cl A (pc + 1) (lv) (st) (ws')) : Wk p l e R s m args below meth c (cells) (slots) Q nL D cl A (pc) (lv) (.long x :: .int (nI j) :: .ref a :: st) (ws) := fun H locs ls hP hD hS hl => va_last X.x X.b X.k hP hD hS q0 t0 ha ht (vp_in_nI hj hn) d (by rw [nI_clamp (Nat.lt_trans hj hn), hw]; exact fun H locs hP hD hS => k H locs ls hP hD hS hl)
theorem Wk.zast (X : Cx p s m args c cc own Ts nL D cl tys A z) {cA : ClassId} {n a : Nat} {f : Nat → Int32} {j : Nat} {x : Int32} (q0 t0 : Nat) (ha : ws[q0]? = some (a, .inl (cA, n, .inl f))) (ht : tys[t0]? = some (cA, .boolean)) (hj : j < n) (hn : n < 2 ^ 31) (hx : vp_nar .boolean x = x) (hw : ws.set q0 (a, .inl (cA, n, .inl (upd f j x))) = ws') (d : decode cc pc = .ok (.bastore, 1)) (k : Wk p l e R s m args below meth c (cells) (slots) Q nL D cl A (pc + 1) (lv) (st) (ws')) : Wk p l e R s m args below meth c (cells) (slots) Q nL D cl A (pc) (lv) (.int x :: .int (nI j) :: .ref a :: st) (ws) := fun H locs ls hP hD hS hl => va_zast X.x X.b X.k hP hD hS q0 t0 ha ht (vp_in_nI hj hn) d (by rw [hx, nI_clamp (Nat.lt_trans hj hn), hw]; exact fun H locs hP hD hS => k H locs ls hP hD hS hl)
theorem Wk.alen (X : Cx p s m args c cc own Ts nL D cl tys A z) {cA : ClassId} {a : Nat} {x : vp_A} {ty : FieldType} (q0 t0 : Nat) (ha : ws[q0]? = some (a, .inl (cA, x))) (ht : tys[t0]? = some (cA, ty)) (d : decode cc pc = .ok (.arraylength, 1)) (k : Wk p l e R s m args below meth c (cells) (slots) Q nL D cl A (pc + 1) (lv) (.int (nI x.1) :: st) (ws)) : Wk p l e R s m args below meth c (cells) (slots) Q nL D cl A (pc) (lv) (.ref a :: st) (ws) := fun H locs ls hP hD hS hl => va_alen X.x X.b X.k hP q0 t0 ha ht rfl d (k H locs ls hP hD hS hl)
theorem Wk.lvq (h : lv = lv') (k : Wk p l e R s m args below meth c (cells) (slots) Q nL D cl A (pc) (lv') (st) (ws)) : Wk p l e R s m args below meth c (cells) (slots) Q nL D cl A (pc) (lv) (st) (ws) := h ▸ k
end WK
section WC
variable {p : Program} {l : Launch} {e : Env} {R : Room} {s : State} {m : MethodId} {args : Array Value} {below : List Frame} {meth : Method} {c : Code} {cells slots : Nat} {Q : State → Prop}
variable {cc : ByteArray} {own : String} {Ts : List Cond} {nL pc : Nat} {D : va_G} {cl : List vw_C} {tys : List (ClassId × FieldType)} {A : Nat → Prop} {z z' : Bool} {lv lv' : List (Nat × Value)} {st st0 : List Value} {ws ws' w w' : va_W}
/-- how a callee's world lies in the caller's, and what the caller's is behind the call -/
def Fr (D : va_G) (cl : List vw_C) (ws w w' ws' : va_W) : Prop := (∀ H, va_P D cl ws H → va_P D cl w H) ∧ (∀ A, va_D A ws → va_D A w) ∧
  ∀ (A0 : Nat → Prop) (H H1 : Heap), va_P D cl ws H → va_D A0 ws → (∀ q : Nat, q < H.size → ¬ va_A w H.size q → H1[q]? = H[q]?) → (∀ q, va_A w H.size q → A0 q) → va_P D cl w' H1 → va_D (va_A w H.size) w' → va_P D cl ws' H1 ∧ va_D A0 ws'
theorem Fr.all : Fr D cl w w w' w' := ⟨fun _ h => h, fun _ h => h, fun A0 H H1 _ _ _ hF hP hD => ⟨hP, hD.weaken (fun _ q _ h => hF q.1 h)⟩⟩
theorem Fr.mk (isC isR perm : List Nat) {wr : va_W} (hC : isC.map (fun i => ws[i]?) = w.map some) (hR : isR.map (fun i => ws[i]?) = wr.map some) (hnC : va_nd isC = true) (hn : va_nd isR = true) (hdis : ∀ i ∈ isR, i ∉ isC) (hp : perm.map (fun i => (wr ++ w')[i]?) = ws'.map some) (hnp : va_nd perm = true) : Fr D cl ws w w' ws' := by
  have toF : ∀ {is : List Nat} {a b : va_W}, is.map (fun i => a[i]?) = b.map some → is.filterMap (fun i => a[i]?) = b := by
    intro is a b h
    have h2 : (is.map (fun i => a[i]?)).filterMap id = (b.map some).filterMap id := by rw [h]
    rw [List.filterMap_map, List.filterMap_map] at h2
    simpa using h2
  refine ⟨fun H hP => hP.sub isC (toF hC), fun A hD => hD.sub isC hnC hC, fun A0 H H1 hP hD hk hF hP1 hD1 => ?_⟩
  obtain ⟨a, b⟩ := va_join hP hD isC isR hC hR hn hdis hk hF hP1 hD1
  exact ⟨a.sub perm (toF hp), b.sub perm hnp hp⟩
theorem Fr.mk2 (isC isR perm : List Nat) (hC : isC.map (fun i => ws[i]?) = w.map some) (hR : isR.map (fun i => ws[i]?) = (isR.filterMap (fun i => ws[i]?)).map some) (hnC : va_nd isC = true) (hn : va_nd isR = true) (hdis : ∀ i ∈ isR, i ∉ isC) (hp : perm.map (fun i => ((isR.filterMap (fun i => ws[i]?)) ++ w')[i]?) = ws'.map some) (hnp : va_nd perm = true) : Fr D cl ws w w' ws' := Fr.mk isC isR perm hC hR hnC hn hdis hp hnp
theorem Fr.nil : Fr D cl ws [] [] ws := by
  refine ⟨fun H _ k q h => by simp at h, fun A _ => ⟨fun i j p q h => by simp at h, fun k q h => by simp at h⟩, fun A0 H H1 hP hD hk hF _ _ => ⟨fun k q hq => (hP k q hq).kept (hk q.1 ((hP k q hq).lt) (fun h => ?_)), hD⟩⟩
  rcases h with ⟨k2, e2, h⟩ | h
  · simp at h
  · have := (hP k q hq).lt
    omega
/-- a contract's start -/
def PreC (D : va_G) (cl : List vw_C) (tys : List (ClassId × FieldType)) (z : Bool) (w : va_W) (sz : Nat) (U : State) : Prop := U.heap.size = sz ∧ va_P D cl w U.heap ∧ va_K D cl tys U ∧ va_D (fun _ => True) w ∧ (z = true → SX (va_A w sz) U)
theorem PreC.blind {av : List Value} {sz : Nat} : FrameBlind (va_Pc av (PreC D cl tys z w sz)) := fun a U g mk q => by
  obtain ⟨q0, q1, qP, qK, qD, qz⟩ := q
  exact ⟨q0, q1, qP, va_K.moved (u := U) (U := U.calling g mk a) (Vm.Alike.refl U.vm) qK, qD, fun h => SX.call g mk a (qz h)⟩
theorem Cx.pre (X : Cx p s m args c cc own Ts nL D cl tys A z) {H : Heap} {locs : List Loc} (hS : va_S A s.heap H locs) (hF : ∀ q, va_A w H.size q → A q) (hP : va_P D cl w H) (hD : va_D A w) (hz : z' = true → z = true) {av : List Value} {U : State} (hU : U.heap = H) (hW : s.WarmedH U.vm) : va_Pc av (PreC D cl tys z' w H.size) av.toArray U :=
  ⟨rfl, by rw [hU], by rw [hU]; exact hP, va_K.moved hW.alike X.k, hD.weaken (fun _ _ _ _ => trivial), fun h => (X.sx (hz h)).to hW (fun a h1 h2 => by rw [hU]; exact hS.2.1 a h1 h2) hF⟩
theorem Cx.free (X : Cx p s m args c cc own Ts nL D cl tys A z) {H : Heap} {locs : List Loc} (hS : va_S A s.heap H locs) (hD : va_D A w) : ∀ q, va_A w H.size q → A q := by
  intro q h
  rcases h with ⟨k, e, h⟩ | h
  · exact hD.2 k (q, e) h
  · exact X.a q (Nat.le_trans hS.1 h)
/-- a contract: called with av in a world w, it answers r, and the world is w' -/
def Ci (l : Launch) (y : MethodName) (wy : List Cond) (fr lo : Nat) (D : va_G) (cl : List vw_C) (tys : List (ClassId × FieldType)) (z : Bool) (av : List Value) (w : va_W) (r : Int32) (w' : va_W) : Prop := ∀ sz : Nat, Met l y wy ({ frames := fr, cells := 0, slots := 0, locals := lo } : Room) (va_Pc av (PreC D cl tys z w sz)) (va_Qi (fun (x : Int32) (_ : Unit) => x = r) (fun _ t => va_P D cl w' t.heap ∧ va_K D cl tys t ∧ va_D (va_A w sz) w') (va_A w sz)) 0 0 (va_A w sz)
def QRi (below : List Frame) (args : Array Value) (s : State) (D : va_G) (cl : List vw_C) (tys : List (ClassId × FieldType)) (A : Nat → Prop) (r : Int32) (w' : va_W) : State → Prop := MQ below (va_Qi (fun (x : Int32) (_ : Unit) => x = r) (fun _ t => va_P D cl w' t.heap ∧ va_K D cl tys t ∧ va_D (A) w') (A)) args s 0 0 A
theorem Ci.of {y : MethodName} {wy wy0 : List Cond} {fr lo maxL : Nat} {ty : FieldType} {av : List Value} {r : Int32} (own : String) (ho : y.cls = own) (hy : plainName y.cls = true) (hw : wy = Cond.code y cc maxL (some ty) :: wy0) (hn : (lg_sl av).length ≤ maxL)
    (body : ∀ (p : Program) (e : Env) (s : State) (m : MethodId) (args : Array Value) (below : List Frame) (meth : Method) (c : Code) (A : Nat → Prop), Cx p s m args c cc own wy maxL D cl tys A z → meth.sig.returnType = (some ty) → meth.locks = false → Wk p l e ({ frames := fr, cells := 0, slots := 0, locals := lo } : Room) s m args below meth c 0 0 (QRi below args s D cl tys A r w') maxL D cl A 0 (lv_args 0 av) [] w) : Ci l y wy fr lo D cl tys z av w r w' := by
  intro sz
  refine Met.ofW (cc := cc) (maxL := maxL) (ret := (some ty)) hy hw ?_
  intro p e s m args below meth c s₁ B hml hv
  obtain ⟨rfl, hsz, hP, hK, hD0, hz⟩ := hv
  subst hsz
  subst ho
  have hown : s.vm.findClass y.cls = some m.cls := findClass_of_methodNamed B.named
  have hts := atoms_spec (ws := wy) B.pre
  have hD := hD0.self (sz := s.heap.size)
  have hl := lv_entry av (n := maxL) hn
  rw [lg_entry_eq]
  exact body p e s m _ below meth c _ ⟨B.exec, B.bytes, hml, hown, hts, hK, fun q h => Or.inr h, hz⟩ B.returns B.notSynchronized s.heap [] _ hP hD va_S.rf hl
/-- a contract: called with av in a world w, it answers r, and the world is w' -/
def Cl (l : Launch) (y : MethodName) (wy : List Cond) (fr lo : Nat) (D : va_G) (cl : List vw_C) (tys : List (ClassId × FieldType)) (z : Bool) (av : List Value) (w : va_W) (r : Int64) (w' : va_W) : Prop := ∀ sz : Nat, Met l y wy ({ frames := fr, cells := 0, slots := 0, locals := lo } : Room) (va_Pc av (PreC D cl tys z w sz)) (va_Ql (fun (x : Int64) (_ : Unit) => x = r) (fun _ t => va_P D cl w' t.heap ∧ va_K D cl tys t ∧ va_D (va_A w sz) w') (va_A w sz)) 0 0 (va_A w sz)
def QRl (below : List Frame) (args : Array Value) (s : State) (D : va_G) (cl : List vw_C) (tys : List (ClassId × FieldType)) (A : Nat → Prop) (r : Int64) (w' : va_W) : State → Prop := MQ below (va_Ql (fun (x : Int64) (_ : Unit) => x = r) (fun _ t => va_P D cl w' t.heap ∧ va_K D cl tys t ∧ va_D (A) w') (A)) args s 0 0 A
theorem Cl.of {y : MethodName} {wy wy0 : List Cond} {fr lo maxL : Nat} {ty : FieldType} {av : List Value} {r : Int64} (own : String) (ho : y.cls = own) (hy : plainName y.cls = true) (hw : wy = Cond.code y cc maxL (some ty) :: wy0) (hn : (lg_sl av).length ≤ maxL)
    (body : ∀ (p : Program) (e : Env) (s : State) (m : MethodId) (args : Array Value) (below : List Frame) (meth : Method) (c : Code) (A : Nat → Prop), Cx p s m args c cc own wy maxL D cl tys A z → meth.sig.returnType = (some ty) → meth.locks = false → Wk p l e ({ frames := fr, cells := 0, slots := 0, locals := lo } : Room) s m args below meth c 0 0 (QRl below args s D cl tys A r w') maxL D cl A 0 (lv_args 0 av) [] w) : Cl l y wy fr lo D cl tys z av w r w' := by
  intro sz
  refine Met.ofW (cc := cc) (maxL := maxL) (ret := (some ty)) hy hw ?_
  intro p e s m args below meth c s₁ B hml hv
  obtain ⟨rfl, hsz, hP, hK, hD0, hz⟩ := hv
  subst hsz
  subst ho
  have hown : s.vm.findClass y.cls = some m.cls := findClass_of_methodNamed B.named
  have hts := atoms_spec (ws := wy) B.pre
  have hD := hD0.self (sz := s.heap.size)
  have hl := lv_entry av (n := maxL) hn
  rw [lg_entry_eq]
  exact body p e s m _ below meth c _ ⟨B.exec, B.bytes, hml, hown, hts, hK, fun q h => Or.inr h, hz⟩ B.returns B.notSynchronized s.heap [] _ hP hD va_S.rf hl
/-- a contract: called with av in a world w, it answers, and the world is w' -/
def Cv (l : Launch) (y : MethodName) (wy : List Cond) (fr lo : Nat) (D : va_G) (cl : List vw_C) (tys : List (ClassId × FieldType)) (z : Bool) (av : List Value) (w : va_W) (w' : va_W) : Prop := ∀ sz : Nat, Met l y wy ({ frames := fr, cells := 0, slots := 0, locals := lo } : Room) (va_Pc av (PreC D cl tys z w sz)) (va_Qv (fun (_ : Unit) => True) (fun _ t => va_P D cl w' t.heap ∧ va_K D cl tys t ∧ va_D (va_A w sz) w') (va_A w sz)) 0 0 (va_A w sz)
def QRv (below : List Frame) (args : Array Value) (s : State) (D : va_G) (cl : List vw_C) (tys : List (ClassId × FieldType)) (A : Nat → Prop) (w' : va_W) : State → Prop := MQ below (va_Qv (fun (_ : Unit) => True) (fun _ t => va_P D cl w' t.heap ∧ va_K D cl tys t ∧ va_D (A) w') (A)) args s 0 0 A
theorem Cv.of {y : MethodName} {wy wy0 : List Cond} {fr lo maxL : Nat} {av : List Value} (own : String) (ho : y.cls = own) (hy : plainName y.cls = true) (hw : wy = Cond.code y cc maxL none :: wy0) (hn : (lg_sl av).length ≤ maxL)
    (body : ∀ (p : Program) (e : Env) (s : State) (m : MethodId) (args : Array Value) (below : List Frame) (meth : Method) (c : Code) (A : Nat → Prop), Cx p s m args c cc own wy maxL D cl tys A z → meth.sig.returnType = none → meth.locks = false → Wk p l e ({ frames := fr, cells := 0, slots := 0, locals := lo } : Room) s m args below meth c 0 0 (QRv below args s D cl tys A w') maxL D cl A 0 (lv_args 0 av) [] w) : Cv l y wy fr lo D cl tys z av w w' := by
  intro sz
  refine Met.ofW (cc := cc) (maxL := maxL) (ret := none) hy hw ?_
  intro p e s m args below meth c s₁ B hml hv
  obtain ⟨rfl, hsz, hP, hK, hD0, hz⟩ := hv
  subst hsz
  subst ho
  have hown : s.vm.findClass y.cls = some m.cls := findClass_of_methodNamed B.named
  have hts := atoms_spec (ws := wy) B.pre
  have hD := hD0.self (sz := s.heap.size)
  have hl := lv_entry av (n := maxL) hn
  rw [lg_entry_eq]
  exact body p e s m _ below meth c _ ⟨B.exec, B.bytes, hml, hown, hts, hK, fun q h => Or.inr h, hz⟩ B.returns B.notSynchronized s.heap [] _ hP hD va_S.rf hl
theorem Wk.iret (X : Cx p s m args c cc own Ts nL D cl tys A z) (hr : meth.sig.returnType = some .int) (hk : meth.locks = false) {v r : Int32} (h : v = r) (hw : ws = w') (d : decode cc pc = .ok (.ireturn, 1)) : Wk p l e R s m args below meth c 0 0 (QRi below args s D cl tys A r w') nL D cl A pc lv [.int v] ws := fun H locs ls hP hD hS hl => W.iret X.x X.b hr (fun t ht hW => ⟨⟨v, (), rfl, h, by rw [ht]; exact hw ▸ hP, va_K.moved hW.alike X.k, hw ▸ hD⟩, hS.F ht⟩) hS.2.2 d hk
theorem Wk.zret (X : Cx p s m args c cc own Ts nL D cl tys A z) (hr : meth.sig.returnType = some .boolean) (hk : meth.locks = false) {v r : Int32} (hn : narrow .boolean (.int v) = .int v) (h : v = r) (hw : ws = w') (d : decode cc pc = .ok (.ireturn, 1)) : Wk p l e R s m args below meth c 0 0 (QRi below args s D cl tys A r w') nL D cl A pc lv [.int v] ws := fun H locs ls hP hD hS hl => W.zret X.x X.b hr hn (fun t ht hW => ⟨⟨v, (), rfl, h, by rw [ht]; exact hw ▸ hP, va_K.moved hW.alike X.k, hw ▸ hD⟩, hS.F ht⟩) hS.2.2 d hk
theorem Wk.lret (X : Cx p s m args c cc own Ts nL D cl tys A z) (hr : meth.sig.returnType = some .long) (hk : meth.locks = false) {v r : Int64} (h : v = r) (hw : ws = w') (d : decode cc pc = .ok (.lreturn, 1)) : Wk p l e R s m args below meth c 0 0 (QRl below args s D cl tys A r w') nL D cl A pc lv [.long v] ws := fun H locs ls hP hD hS hl => W.lret X.x X.b hr (fun t ht hW => ⟨⟨v, (), rfl, h, by rw [ht]; exact hw ▸ hP, va_K.moved hW.alike X.k, hw ▸ hD⟩, hS.F ht⟩) hS.2.2 d hk
theorem Wk.vret (X : Cx p s m args c cc own Ts nL D cl tys A z) (hr : meth.sig.returnType = none) (hk : meth.locks = false) (hw : ws = w') (d : decode cc pc = .ok (.return_, 1)) : Wk p l e R s m args below meth c 0 0 (QRv below args s D cl tys A w') nL D cl A pc lv [] ws := fun H locs ls hP hD hS hl => W.vret X.x X.b hr (fun t ht hW => ⟨⟨(), rfl, trivial, by rw [ht]; exact hw ▸ hP, va_K.moved hW.alike X.k, hw ▸ hD⟩, hS.F ht⟩) hS.2.2 d hk
theorem Wk.callVi (X : Cx p s m args c cc own Ts nL D cl tys A z) {index fr lo maxL : Nat} {bytes : ByteArray} {y : MethodName} {wy wy0 : List Cond} {ret : Option FieldType} {r : Int32} {As : List Value} {n : Nat} {b q0 ci N : Nat} {C : String} {T : u_T} {fs : List Value} (hM : Ci l y wy fr lo D cl tys z' (.ref b :: As) w r w') (hg : GoodIn Ts (wsV own index C y wy)) (hwy : wy = Cond.code y bytes maxL ret :: wy0)
    (hd : y.cls = C ∧ y.cls ≠ "java/lang/invoke/MethodHandle" ∧ y.cls ≠ "java/lang/invoke/VarHandle" ∧ (parseMethodDescriptor y.desc).map (fun d => d.parameters.length) = some n) (hR : fr + 1 ≤ R.frames ∧ 8 + (maxL + 11) + lo ≤ R.locals) (F : Fr D cl ws w w' ws') (hz : z' = true → z = true) (hc : cl[ci]? = some (C, T, N)) (he : ws[q0]? = some (b, .inr (ci, fs))) (hn : As.length = n) (hst : st0 = As.reverse ++ .ref b :: st) (hrm : (st.map fun v => v.category).sum ≤ 8) (hcs : cells ≤ R.cells ∧ slots ≤ R.slots)
    (d : decode cc pc = .ok (.invokevirtual index, 3)) (k : Wk p l e R s m args below meth c (cells) (slots) Q nL D cl A (pc + 3) (lv) (.int r :: st) (ws')) : Wk p l e R s m args below meth c (cells) (slots) Q nL D cl A (pc) (lv) (st0) (ws) := by
  subst hst
  intro H locs ls hP hD hS hl
  have hPc := F.1 H hP
  have hDc := F.2.1 A hD
  have hFc := X.free hS hDc
  refine va_calli (va_runV (As := As) (rest := st) ⟨X.x, X.b, X.ml, X.o, X.w⟩ (hM H.size) (cwV n X.w hg hwy rfl rfl hd hR) ⟨PreC.blind, va_recv X.k hP hc he, fun U hU hW => X.pre hS hFc hPc hDc hz hU hW⟩ rfl hn hl.1 rfl (lv_room hrm) d hcs) hS (fun q _ h => hFc q h) hFc (fun r1 u t H1 locs1 ht hvm hw hB hz1 hk1 hS1 => ?_)
  obtain ⟨hP1, hK1, hD1⟩ := hB
  rw [ht] at hP1
  subst hw
  obtain ⟨hP2, hD2⟩ := F.2.2 A H H1 hP hD hk1 hFc hP1 hD1
  exact k H1 locs1 ls hP2 hD2 hS1 hl
theorem Wk.callSi (X : Cx p s m args c cc own Ts nL D cl tys A z) {index fr lo maxL : Nat} {bytes : ByteArray} {y : MethodName} {wy wy0 : List Cond} {ret : Option FieldType} {r : Int32} {As : List Value} {n : Nat} (hM : Ci l y wy fr lo D cl tys z' As w r w') (hg : GoodIn Ts (va_wsS own index y wy)) (hwy : wy = Cond.code y bytes maxL ret :: wy0)
    (hd : y.cls ≠ "java/lang/invoke/MethodHandle" ∧ y.cls ≠ "java/lang/invoke/VarHandle" ∧ (parseMethodDescriptor y.desc).map (fun d => d.parameters.length) = some n) (hR : fr + 1 ≤ R.frames ∧ 8 + (maxL + 11) + lo ≤ R.locals) (F : Fr D cl ws w w' ws') (hz : z' = true → z = true) (hn : As.length = n) (hst : st0 = As.reverse ++ st) (hrm : (st.map fun v => v.category).sum ≤ 8) (hcs : cells ≤ R.cells ∧ slots ≤ R.slots)
    (d : decode cc pc = .ok (.invokestatic index, 3)) (k : Wk p l e R s m args below meth c (cells) (slots) Q nL D cl A (pc + 3) (lv) (.int r :: st) (ws')) : Wk p l e R s m args below meth c (cells) (slots) Q nL D cl A (pc) (lv) (st0) (ws) := by
  subst hst
  intro H locs ls hP hD hS hl
  have hPc := F.1 H hP
  have hDc := F.2.1 A hD
  have hFc := X.free hS hDc
  refine va_calli (va_runS (As := As) (rest := st) ⟨X.x, X.b, X.ml, X.o, X.w⟩ (hM H.size) (va_cwS n X.w hg hwy rfl rfl hd hR) ⟨PreC.blind, fun U hU hW => X.pre hS hFc hPc hDc hz hU hW⟩ rfl hn hl.1 rfl (lv_room hrm) d hcs) hS (fun q _ h => hFc q h) hFc (fun r1 u t H1 locs1 ht hvm hw hB hz1 hk1 hS1 => ?_)
  obtain ⟨hP1, hK1, hD1⟩ := hB
  rw [ht] at hP1
  subst hw
  obtain ⟨hP2, hD2⟩ := F.2.2 A H H1 hP hD hk1 hFc hP1 hD1
  exact k H1 locs1 ls hP2 hD2 hS1 hl
theorem Wk.callVl (X : Cx p s m args c cc own Ts nL D cl tys A z) {index fr lo maxL : Nat} {bytes : ByteArray} {y : MethodName} {wy wy0 : List Cond} {ret : Option FieldType} {r : Int64} {As : List Value} {n : Nat} {b q0 ci N : Nat} {C : String} {T : u_T} {fs : List Value} (hM : Cl l y wy fr lo D cl tys z' (.ref b :: As) w r w') (hg : GoodIn Ts (wsV own index C y wy)) (hwy : wy = Cond.code y bytes maxL ret :: wy0)
    (hd : y.cls = C ∧ y.cls ≠ "java/lang/invoke/MethodHandle" ∧ y.cls ≠ "java/lang/invoke/VarHandle" ∧ (parseMethodDescriptor y.desc).map (fun d => d.parameters.length) = some n) (hR : fr + 1 ≤ R.frames ∧ 8 + (maxL + 11) + lo ≤ R.locals) (F : Fr D cl ws w w' ws') (hz : z' = true → z = true) (hc : cl[ci]? = some (C, T, N)) (he : ws[q0]? = some (b, .inr (ci, fs))) (hn : As.length = n) (hst : st0 = As.reverse ++ .ref b :: st) (hrm : (st.map fun v => v.category).sum ≤ 8) (hcs : cells ≤ R.cells ∧ slots ≤ R.slots)
    (d : decode cc pc = .ok (.invokevirtual index, 3)) (k : Wk p l e R s m args below meth c (cells) (slots) Q nL D cl A (pc + 3) (lv) (.long r :: st) (ws')) : Wk p l e R s m args below meth c (cells) (slots) Q nL D cl A (pc) (lv) (st0) (ws) := by
  subst hst
  intro H locs ls hP hD hS hl
  have hPc := F.1 H hP
  have hDc := F.2.1 A hD
  have hFc := X.free hS hDc
  refine va_calll (va_runV (As := As) (rest := st) ⟨X.x, X.b, X.ml, X.o, X.w⟩ (hM H.size) (cwV n X.w hg hwy rfl rfl hd hR) ⟨PreC.blind, va_recv X.k hP hc he, fun U hU hW => X.pre hS hFc hPc hDc hz hU hW⟩ rfl hn hl.1 rfl (lv_room hrm) d hcs) hS (fun q _ h => hFc q h) hFc (fun r1 u t H1 locs1 ht hvm hw hB hz1 hk1 hS1 => ?_)
  obtain ⟨hP1, hK1, hD1⟩ := hB
  rw [ht] at hP1
  subst hw
  obtain ⟨hP2, hD2⟩ := F.2.2 A H H1 hP hD hk1 hFc hP1 hD1
  exact k H1 locs1 ls hP2 hD2 hS1 hl
theorem Wk.callSl (X : Cx p s m args c cc own Ts nL D cl tys A z) {index fr lo maxL : Nat} {bytes : ByteArray} {y : MethodName} {wy wy0 : List Cond} {ret : Option FieldType} {r : Int64} {As : List Value} {n : Nat} (hM : Cl l y wy fr lo D cl tys z' As w r w') (hg : GoodIn Ts (va_wsS own index y wy)) (hwy : wy = Cond.code y bytes maxL ret :: wy0)
    (hd : y.cls ≠ "java/lang/invoke/MethodHandle" ∧ y.cls ≠ "java/lang/invoke/VarHandle" ∧ (parseMethodDescriptor y.desc).map (fun d => d.parameters.length) = some n) (hR : fr + 1 ≤ R.frames ∧ 8 + (maxL + 11) + lo ≤ R.locals) (F : Fr D cl ws w w' ws') (hz : z' = true → z = true) (hn : As.length = n) (hst : st0 = As.reverse ++ st) (hrm : (st.map fun v => v.category).sum ≤ 8) (hcs : cells ≤ R.cells ∧ slots ≤ R.slots)
    (d : decode cc pc = .ok (.invokestatic index, 3)) (k : Wk p l e R s m args below meth c (cells) (slots) Q nL D cl A (pc + 3) (lv) (.long r :: st) (ws')) : Wk p l e R s m args below meth c (cells) (slots) Q nL D cl A (pc) (lv) (st0) (ws) := by
  subst hst
  intro H locs ls hP hD hS hl
  have hPc := F.1 H hP
  have hDc := F.2.1 A hD
  have hFc := X.free hS hDc
  refine va_calll (va_runS (As := As) (rest := st) ⟨X.x, X.b, X.ml, X.o, X.w⟩ (hM H.size) (va_cwS n X.w hg hwy rfl rfl hd hR) ⟨PreC.blind, fun U hU hW => X.pre hS hFc hPc hDc hz hU hW⟩ rfl hn hl.1 rfl (lv_room hrm) d hcs) hS (fun q _ h => hFc q h) hFc (fun r1 u t H1 locs1 ht hvm hw hB hz1 hk1 hS1 => ?_)
  obtain ⟨hP1, hK1, hD1⟩ := hB
  rw [ht] at hP1
  subst hw
  obtain ⟨hP2, hD2⟩ := F.2.2 A H H1 hP hD hk1 hFc hP1 hD1
  exact k H1 locs1 ls hP2 hD2 hS1 hl
theorem Wk.callVv (X : Cx p s m args c cc own Ts nL D cl tys A z) {index fr lo maxL : Nat} {bytes : ByteArray} {y : MethodName} {wy wy0 : List Cond} {ret : Option FieldType} {As : List Value} {n : Nat} {b q0 ci N : Nat} {C : String} {T : u_T} {fs : List Value} (hM : Cv l y wy fr lo D cl tys z' (.ref b :: As) w w') (hg : GoodIn Ts (wsV own index C y wy)) (hwy : wy = Cond.code y bytes maxL ret :: wy0)
    (hd : y.cls = C ∧ y.cls ≠ "java/lang/invoke/MethodHandle" ∧ y.cls ≠ "java/lang/invoke/VarHandle" ∧ (parseMethodDescriptor y.desc).map (fun d => d.parameters.length) = some n) (hR : fr + 1 ≤ R.frames ∧ 8 + (maxL + 11) + lo ≤ R.locals) (F : Fr D cl ws w w' ws') (hz : z' = true → z = true) (hc : cl[ci]? = some (C, T, N)) (he : ws[q0]? = some (b, .inr (ci, fs))) (hn : As.length = n) (hst : st0 = As.reverse ++ .ref b :: st) (hrm : (st.map fun v => v.category).sum ≤ 8) (hcs : cells ≤ R.cells ∧ slots ≤ R.slots)
    (d : decode cc pc = .ok (.invokevirtual index, 3)) (k : Wk p l e R s m args below meth c (cells) (slots) Q nL D cl A (pc + 3) (lv) (st) (ws')) : Wk p l e R s m args below meth c (cells) (slots) Q nL D cl A (pc) (lv) (st0) (ws) := by
  subst hst
  intro H locs ls hP hD hS hl
  have hPc := F.1 H hP
  have hDc := F.2.1 A hD
  have hFc := X.free hS hDc
  refine va_callv (va_runV (As := As) (rest := st) ⟨X.x, X.b, X.ml, X.o, X.w⟩ (hM H.size) (cwV n X.w hg hwy rfl rfl hd hR) ⟨PreC.blind, va_recv X.k hP hc he, fun U hU hW => X.pre hS hFc hPc hDc hz hU hW⟩ rfl hn hl.1 rfl (lv_room hrm) d hcs) hS (fun q _ h => hFc q h) hFc (fun u t H1 locs1 ht hvm hw hB hz1 hk1 hS1 => ?_)
  obtain ⟨hP1, hK1, hD1⟩ := hB
  rw [ht] at hP1
  obtain ⟨hP2, hD2⟩ := F.2.2 A H H1 hP hD hk1 hFc hP1 hD1
  exact k H1 locs1 ls hP2 hD2 hS1 hl
theorem Wk.callSv (X : Cx p s m args c cc own Ts nL D cl tys A z) {index fr lo maxL : Nat} {bytes : ByteArray} {y : MethodName} {wy wy0 : List Cond} {ret : Option FieldType} {As : List Value} {n : Nat} (hM : Cv l y wy fr lo D cl tys z' As w w') (hg : GoodIn Ts (va_wsS own index y wy)) (hwy : wy = Cond.code y bytes maxL ret :: wy0)
    (hd : y.cls ≠ "java/lang/invoke/MethodHandle" ∧ y.cls ≠ "java/lang/invoke/VarHandle" ∧ (parseMethodDescriptor y.desc).map (fun d => d.parameters.length) = some n) (hR : fr + 1 ≤ R.frames ∧ 8 + (maxL + 11) + lo ≤ R.locals) (F : Fr D cl ws w w' ws') (hz : z' = true → z = true) (hn : As.length = n) (hst : st0 = As.reverse ++ st) (hrm : (st.map fun v => v.category).sum ≤ 8) (hcs : cells ≤ R.cells ∧ slots ≤ R.slots)
    (d : decode cc pc = .ok (.invokestatic index, 3)) (k : Wk p l e R s m args below meth c (cells) (slots) Q nL D cl A (pc + 3) (lv) (st) (ws')) : Wk p l e R s m args below meth c (cells) (slots) Q nL D cl A (pc) (lv) (st0) (ws) := by
  subst hst
  intro H locs ls hP hD hS hl
  have hPc := F.1 H hP
  have hDc := F.2.1 A hD
  have hFc := X.free hS hDc
  refine va_callv (va_runS (As := As) (rest := st) ⟨X.x, X.b, X.ml, X.o, X.w⟩ (hM H.size) (va_cwS n X.w hg hwy rfl rfl hd hR) ⟨PreC.blind, fun U hU hW => X.pre hS hFc hPc hDc hz hU hW⟩ rfl hn hl.1 rfl (lv_room hrm) d hcs) hS (fun q _ h => hFc q h) hFc (fun u t H1 locs1 ht hvm hw hB hz1 hk1 hS1 => ?_)
  obtain ⟨hP1, hK1, hD1⟩ := hB
  rw [ht] at hP1
  obtain ⟨hP2, hD2⟩ := F.2.2 A H H1 hP hD hk1 hFc hP1 hD1
  exact k H1 locs1 ls hP2 hD2 hS1 hl
end WC
end
section
abbrev TY (cI cJ cZ : ClassId) : List (ClassId × FieldType) := [(cI, .int), (cJ, .long), (cZ, .boolean)]
def Wc (h : Nat → Nat) (cI cJ cZ : ClassId) (n : Nat) (li : Nat → Int32) (gr : Nat → Int32) (nb : Nat → Int32) (sc : Nat → Int64) (t : Nat) (ki : Nat → Int32) (fe : Nat → Int32) (lm : Nat → Int32) (si : Nat → Int32) (va : Nat → Int32) (he : Nat → Int32) (up : Nat → Int64) (lo : Nat → Int64) (pu : Nat → Int32) (pl : Nat → Int32) (gh : Nat) (gs : Int32) (bf : Bool) (b1 : Int32) (b2 : Int32) (b3 : Int32) (bu : Int64) (bl : Int64) (se : Nat → Int32) : va_W :=
  [(h 0, .inr (4, [.ref (h 1), .ref (h 6), .ref (h 15), .ref (h 19)])),
   (h 1, .inr (3, [.int (nI n), .ref (h 2), .ref (h 3), .ref (h 4), .ref (h 5)])),
   (h 2, .inl (cI, 24, .inl li)),
   (h 3, .inl (cI, 24, .inl gr)),
   (h 4, .inl (cI, 100, .inl nb)),
   (h 5, .inl (cJ, 24, .inr (.inl sc))),
   (h 6, .inr (1, [.int (nI t), .ref (h 7), .ref (h 8), .ref (h 9), .ref (h 10), .ref (h 11), .ref (h 12), .ref (h 13), .ref (h 14)])),
   (h 7, .inl (cI, 300, .inl ki)),
   (h 8, .inl (cI, 300, .inl fe)),
   (h 9, .inl (cI, 300, .inl lm)),
   (h 10, .inl (cI, 300, .inl si)),
   (h 11, .inl (cI, 300, .inl va)),
   (h 12, .inl (cI, 300, .inl he)),
   (h 13, .inl (cJ, 300, .inr (.inl up))),
   (h 14, .inl (cJ, 300, .inr (.inl lo))),
   (h 15, .inr (2, [.ref (h 16), .ref (h 17), .ref (h 18), .int (nI gh), .int gs])),
   (h 16, .inl (cI, 24, .inl pu)),
   (h 17, .inl (cI, 24, .inl pl)),
   (h 18, .inr (0, [.int (bI bf), .int b1, .int b2, .int b3, .long bu, .long bl])),
   (h 19, .inl (cI, 4, .inl se))]
def Wm (h : Nat → Nat) (cI cJ cZ : ClassId) (th : Int32) (n : Nat) (li : Nat → Int32) (gr : Nat → Int32) (nu : Nat → Int32) (hb : Nat → Bool) (se : Nat → Int32) (t : Nat) (ki : Nat → Int32) (fe : Nat → Int32) (lm : Nat → Int32) (si : Nat → Int32) (va : Nat → Int32) (he : Nat → Int32) (up : Nat → Int64) (lo : Nat → Int64) (sc : Nat → Int64) (no : Nat → Int32) (pu : Nat → Int32) (b1 : Int32) (b2 : Int32) (b3 : Int32) (bu : Int64) (bl : Int64) : va_W :=
  [(h 0, .inr (5, [.int th, .int (nI n), .ref (h 1), .ref (h 2), .ref (h 3), .ref (h 4), .ref (h 5), .int (nI t), .ref (h 6), .ref (h 7), .ref (h 8), .ref (h 9), .ref (h 10), .ref (h 11), .ref (h 12), .ref (h 13), .ref (h 14), .ref (h 15), .ref (h 16), .int b1, .int b2, .int b3, .long bu, .long bl])),
   (h 1, .inl (cI, 24, .inl li)),
   (h 2, .inl (cI, 24, .inl gr)),
   (h 3, .inl (cI, 100, .inl nu)),
   (h 4, .inl (cZ, 100, .inl (fun j => bI (hb j)))),
   (h 5, .inl (cI, 4, .inl se)),
   (h 6, .inl (cI, 300, .inl ki)),
   (h 7, .inl (cI, 300, .inl fe)),
   (h 8, .inl (cI, 300, .inl lm)),
   (h 9, .inl (cI, 300, .inl si)),
   (h 10, .inl (cI, 300, .inl va)),
   (h 11, .inl (cI, 300, .inl he)),
   (h 12, .inl (cJ, 300, .inr (.inl up))),
   (h 13, .inl (cJ, 300, .inr (.inl lo))),
   (h 14, .inl (cJ, 24, .inr (.inl sc))),
   (h 15, .inl (cI, 24, .inl no)),
   (h 16, .inl (cI, 24, .inl pu))]
def Wf (h : Nat → Nat) (cI cJ cZ : ClassId) (sz : Nat) (f : Nat → Int32) : va_W :=
  [(h 0, .inl (cI, sz, .inl f))]
end
section
/-- x names one of n things -/
def inN (x : Int32) (n : Nat) : Bool := decide (¬ x < 0 ∧ ¬ nI n ≤ x)
theorem inN_t {x : Int32} {n : Nat} (hn : n < 2 ^ 31) (h : inN x n = true) : ∃ j : Nat, j < n ∧ x = nI j := by
  unfold inN at h
  have h := of_decide_eq_true h
  rcases pk_ix x hn with q | q | q
  · exact absurd q h.1
  · exact absurd q h.2
  · exact q
theorem inN_nI {j n : Nat} (hj : j < n) (hn : n < 2 ^ 31) : inN (nI j) n = true := decide_eq_true ⟨nI_pos (by omega), nI_ge hj hn⟩
set_option maxHeartbeats 4000000 in
set_option maxRecDepth 100000 in
theorem c_X3_has (l : Launch) (dC : Nat → ClassId) (dI : Nat → Nat → Nat) (cI cJ cZ : ClassId) (h : Nat → Nat) (n : Nat) (li : Nat → Int32) (gr : Nat → Int32) (nb : Nat → Int32) (sc : Nat → Int64) (t : Nat) (ki : Nat → Int32) (fe : Nat → Int32) (lm : Nat → Int32) (si : Nat → Int32) (va : Nat → Int32) (he : Nat → Int32) (up : Nat → Int64) (lo : Nat → Int64) (pu : Nat → Int32) (pl : Nat → Int32) (gh : Nat) (gs : Int32) (bf : Bool) (b1 : Int32) (b2 : Int32) (b3 : Int32) (bu : Int64) (bl : Int64) (se : Nat → Int32) (x : Int32) : Ci l yX3_has wsX3_has 0 0 (dC, dI) cl6 (TY cI cJ cZ) false [.ref (h 1), .int x] (Wc h cI cJ cZ n li gr nb sc t ki fe lm si va he up lo pu pl gh gs bf b1 b2 b3 bu bl se) (bI (inN x n)) (Wc h cI cJ cZ n li gr nb sc t ki fe lm si va he up lo pu pl gh gs bf b1 b2 b3 bu bl se) := by
  refine Ci.of (cc := cX3_has) (maxL := 2) (ty := .boolean) (own := RX3) rfl (by decide) rfl (Nat.le_of_ble_eq_true rfl) ?_
  intro pg ev s0 md ar bw mt cd A X hr hk
  show Wk pg l ev _ s0 md ar bw mt cd 0 0 _ 2 (dC, dI) cl6 A 0 [(0, .ref (h 1)), (1, .int x)] [] (Wc h cI cJ cZ n li gr nb sc t ki fe lm si va he up lo pu pl gh gs bf b1 b2 b3 bu bl se)
  have inX3 : ∀ w ∈ u_ws RX3 TX3 5, w ∈ wsX3_has := by decide +kernel
  have lk25 := X.w (.fieldLink RX3 25 "PairedTrees$Things" "count" "I") (by decide +kernel)
  refine Wk.iload_n X 1 rfl dX3_has_0 rfl ?_
  refine Wk.if_lt X 16 dX3_has_1 (by decide) (fun c1 => ?_) (fun c1 => ?_)
  · skip
    refine Wk.iconst (v := nI 0) X dX3_has_16 (by decide) ?_
    exact Wk.zret X hr hk (by decide) (by simp [inN, bI, nI_0, nIc1, *]) rfl dX3_has_17
  · skip
    refine Wk.iload_n X 1 rfl dX3_has_4 rfl ?_
    refine Wk.aload_n X 0 rfl dX3_has_5 rfl ?_
    refine Wk.get X inX3 1 0 lk25 (fun _ h9 => h9) rfl rfl (by decide) rfl dX3_has_6 ?_
    refine Wk.icmp_ge X 16 dX3_has_9 (by decide) (fun c2 => ?_) (fun c2 => ?_)
    · skip
      refine Wk.iconst (v := nI 0) X dX3_has_16 (by decide) ?_
      exact Wk.zret X hr hk (by decide) (by simp [inN, bI, nI_0, nIc1, *]) rfl dX3_has_17
    · skip
      refine Wk.iconst (v := nI 1) X dX3_has_12 (by decide) ?_
      refine Wk.goto X 17 dX3_has_13 (by decide) ?_
      exact Wk.zret X hr hk (by decide) (by simp [inN, bI, nI_0, nIc1, *]) rfl dX3_has_17

set_option maxHeartbeats 4000000 in
set_option maxRecDepth 100000 in
theorem c_X3_numberAt (l : Launch) (dC : Nat → ClassId) (dI : Nat → Nat → Nat) (cI cJ cZ : ClassId) (h : Nat → Nat) (n : Nat) (li : Nat → Int32) (gr : Nat → Int32) (nb : Nat → Int32) (sc : Nat → Int64) (t : Nat) (ki : Nat → Int32) (fe : Nat → Int32) (lm : Nat → Int32) (si : Nat → Int32) (va : Nat → Int32) (he : Nat → Int32) (up : Nat → Int64) (lo : Nat → Int64) (pu : Nat → Int32) (pl : Nat → Int32) (gh : Nat) (gs : Int32) (bf : Bool) (b1 : Int32) (b2 : Int32) (b3 : Int32) (bu : Int64) (bl : Int64) (se : Nat → Int32) (r : Nat) (f : Nat) (hr0 : r < 25) (hf0 : f < 4) : Ci l yX3_numberAt wsX3_numberAt 0 0 (dC, dI) cl6 (TY cI cJ cZ) false [.ref (h 1), .int (nI r), .int (nI f)] (Wc h cI cJ cZ n li gr nb sc t ki fe lm si va he up lo pu pl gh gs bf b1 b2 b3 bu bl se) (nb (r * 4 + f)) (Wc h cI cJ cZ n li gr nb sc t ki fe lm si va he up lo pu pl gh gs bf b1 b2 b3 bu bl se) := by
  refine Ci.of (cc := cX3_numberAt) (maxL := 3) (ty := .int) (own := RX3) rfl (by decide) rfl (Nat.le_of_ble_eq_true rfl) ?_
  intro pg ev s0 md ar bw mt cd A X hr hk
  show Wk pg l ev _ s0 md ar bw mt cd 0 0 _ 3 (dC, dI) cl6 A 0 [(0, .ref (h 1)), (1, .int (nI r)), (2, .int (nI f))] [] (Wc h cI cJ cZ n li gr nb sc t ki fe lm si va he up lo pu pl gh gs bf b1 b2 b3 bu bl se)
  have inX3 : ∀ w ∈ u_ws RX3 TX3 5, w ∈ wsX3_numberAt := by decide +kernel
  have lk18 := X.w (.fieldLink RX3 18 "PairedTrees$Things" "numbers" "[I") (by decide +kernel)
  refine Wk.aload_n X 0 rfl dX3_numberAt_0 rfl ?_
  refine Wk.get X inX3 1 3 lk18 (fun _ h9 => h9) rfl rfl (by decide) rfl dX3_numberAt_1 ?_
  refine Wk.iload_n X 1 rfl dX3_numberAt_4 rfl ?_
  refine Wk.iconst (v := nI 4) X dX3_numberAt_5 (by decide) ?_
  refine Wk.imulN X dX3_numberAt_6 ?_
  refine Wk.iload_n X 2 rfl dX3_numberAt_7 rfl ?_
  refine Wk.iaddN X dX3_numberAt_8 ?_
  refine Wk.iald X 4 0 rfl rfl (by omega) (by decide) dX3_numberAt_9 ?_
  exact Wk.iret X hr hk (by first | rfl | omega | (simp [*]; done)) rfl dX3_numberAt_10

/-- which way a row goes -/
def glC (nb : Nat → Int32) (r f : Nat) (c s : Int32) : Bool := if nb (r * 4 + f) = -2147483648 then decide (s = 0) else decide (nb (r * 4 + f) ≤ c)
/-- the row of a thing's features -/
def rowC (x : Int32) (n : Nat) : Int32 := if x = -1 then nI 24 else if inN x n = true then x else -1
def pairB (li gr : Nat → Int32) (i j : Nat) : Bool := decide (li i = li j ∧ ¬ gr i ≤ gr j)
def ppC (li gr : Nat → Int32) (sc : Nat → Int64) (mg : Int32) (i j : Nat) : Int32 := if pairB li gr i j = true ∧ sc i - sc j < mg.toInt64 then gr i - gr j else 0
def psC (li gr : Nat → Int32) (sc : Nat → Int64) (mg : Int32) (i : Nat) : Nat → Int32
  | 0 => 0
  | k + 1 => psC li gr sc mg i k + (ppC li gr sc mg i k - ppC li gr sc mg k i)
def ahB (sc : Nat → Int64) (i j : Nat) : Bool := if sc i = sc j then decide (i < j) else decide (¬ sc i ≤ sc j)
def ahC (li : Nat → Int32) (sc : Nat → Int64) (i : Nat) : Nat → Nat
  | 0 => 0
  | k + 1 => if li k = li i ∧ ahB sc k i = true then ahC li sc i k + 1 else ahC li sc i k
def cpB (li gr : Nat → Int32) (sc : Nat → Int64) (ls : Int32) (ow : Bool) (i j : Nat) : Bool := decide (ls = -1 ∨ li i = ls) && (pairB li gr i j && (decide (sc i ≤ sc j) || !ow))
def cpI (li gr : Nat → Int32) (sc : Nat → Int64) (ls : Int32) (ow : Bool) (i : Nat) : Nat → Nat
  | 0 => 0
  | k + 1 => if cpB li gr sc ls ow i k = true then cpI li gr sc ls ow i k + 1 else cpI li gr sc ls ow i k
def cpO (li gr : Nat → Int32) (sc : Nat → Int64) (ls : Int32) (ow : Bool) (n : Nat) : Nat → Nat
  | 0 => 0
  | k + 1 => cpO li gr sc ls ow n k + cpI li gr sc ls ow k n
/-- a stretch of a row set -/
def filF (f : Nat → Int32) (a : Nat) (v : Int32) : Nat → Nat → Int32
  | 0 => f
  | k + 1 => upd (filF f a v k) (a + k) v
set_option maxHeartbeats 4000000 in
set_option maxRecDepth 100000 in
theorem c_X3_goesLeft (l : Launch) (dC : Nat → ClassId) (dI : Nat → Nat → Nat) (cI cJ cZ : ClassId) (h : Nat → Nat) (n : Nat) (li : Nat → Int32) (gr : Nat → Int32) (nb : Nat → Int32) (sc : Nat → Int64) (t : Nat) (ki : Nat → Int32) (fe : Nat → Int32) (lm : Nat → Int32) (si : Nat → Int32) (va : Nat → Int32) (he : Nat → Int32) (up : Nat → Int64) (lo : Nat → Int64) (pu : Nat → Int32) (pl : Nat → Int32) (gh : Nat) (gs : Int32) (bf : Bool) (b1 : Int32) (b2 : Int32) (b3 : Int32) (bu : Int64) (bl : Int64) (se : Nat → Int32) (r : Nat) (f : Nat) (cv : Int32) (sd : Int32) (hr0 : r < 25) (hf0 : f < 4) : Ci l yX3_goesLeft wsX3_goesLeft 1 22 (dC, dI) cl6 (TY cI cJ cZ) false [.ref (h 1), .int (nI r), .int (nI f), .int cv, .int sd] (Wc h cI cJ cZ n li gr nb sc t ki fe lm si va he up lo pu pl gh gs bf b1 b2 b3 bu bl se) (bI (glC nb r f cv sd)) (Wc h cI cJ cZ n li gr nb sc t ki fe lm si va he up lo pu pl gh gs bf b1 b2 b3 bu bl se) := by
  refine Ci.of (cc := cX3_goesLeft) (maxL := 6) (ty := .boolean) (own := RX3) rfl (by decide) rfl (Nat.le_of_ble_eq_true rfl) ?_
  intro pg ev s0 md ar bw mt cd A X hr hk
  show Wk pg l ev _ s0 md ar bw mt cd 0 0 _ 6 (dC, dI) cl6 A 0 [(0, .ref (h 1)), (1, .int (nI r)), (2, .int (nI f)), (3, .int cv), (4, .int sd)] [] (Wc h cI cJ cZ n li gr nb sc t ki fe lm si va he up lo pu pl gh gs bf b1 b2 b3 bu bl se)
  have kc37 := X.w (.constant RX3 37 (-2147483648)) (by decide +kernel)
  refine Wk.aload_n X 0 rfl dX3_goesLeft_0 rfl ?_
  refine Wk.iload_n X 1 rfl dX3_goesLeft_1 rfl ?_
  refine Wk.iload_n X 2 rfl dX3_goesLeft_2 rfl ?_
  refine Wk.callVi (n := 2) (q0 := 1) X (c_X3_numberAt l dC dI cI cJ cZ h n li gr nb sc t ki fe lm si va he up lo pu pl gh gs bf b1 b2 b3 bu bl se r f (by first | omega | assumption) (by first | omega | assumption)) gX3_goesLeft_X3_numberAt rfl (by decide +kernel) (by decide) Fr.all (fun h9 => h9) rfl rfl rfl rfl (Nat.le_of_ble_eq_true rfl) ⟨Nat.zero_le _, Nat.zero_le _⟩ dX3_goesLeft_3 ?_
  refine Wk.istore (lv' := [(5, .int (nb (r * 4 + f))), (0, .ref (h 1)), (1, .int (nI r)), (2, .int (nI f)), (3, .int cv), (4, .int sd)]) X dX3_goesLeft_6 (by decide) rfl ?_
  refine Wk.iload X 0 rfl dX3_goesLeft_8 ?_
  refine Wk.ldc X kc37 dX3_goesLeft_10 ?_
  refine Wk.icmp_ne X 28 dX3_goesLeft_12 (by decide) (fun c1 => ?_) (fun c1 => ?_)
  · skip
    refine Wk.iload X 0 rfl dX3_goesLeft_28 ?_
    refine Wk.iload_n X 4 rfl dX3_goesLeft_30 rfl ?_
    refine Wk.icmp_gt X 38 dX3_goesLeft_31 (by decide) (fun c2 => ?_) (fun c2 => ?_)
    · skip
      refine Wk.iconst (v := nI 0) X dX3_goesLeft_38 (by decide) ?_
      exact Wk.zret X hr hk (by decide) (by simp [glC, bI, nI_0, nIc1, *]) rfl dX3_goesLeft_39
    · skip
      refine Wk.iconst (v := nI 1) X dX3_goesLeft_34 (by decide) ?_
      refine Wk.goto X 39 dX3_goesLeft_35 (by decide) ?_
      exact Wk.zret X hr hk (by decide) (by simp [glC, bI, nI_0, nIc1, *]) rfl dX3_goesLeft_39
  · skip
    refine Wk.iload X 5 rfl dX3_goesLeft_15 ?_
    refine Wk.if_ne X 24 dX3_goesLeft_17 (by decide) (fun c3 => ?_) (fun c3 => ?_)
    · skip
      refine Wk.iconst (v := nI 0) X dX3_goesLeft_24 (by decide) ?_
      refine Wk.goto X 39 dX3_goesLeft_25 (by decide) ?_
      exact Wk.zret X hr hk (by decide) (by simp [glC, bI, nI_0, nIc1, *]) rfl dX3_goesLeft_39
    · skip
      refine Wk.iconst (v := nI 1) X dX3_goesLeft_20 (by decide) ?_
      refine Wk.goto X 39 dX3_goesLeft_21 (by decide) ?_
      exact Wk.zret X hr hk (by decide) (by simp [glC, bI, nI_0, nIc1, *]) rfl dX3_goesLeft_39

set_option maxHeartbeats 4000000 in
set_option maxRecDepth 100000 in
theorem c_X3_rowOf (l : Launch) (dC : Nat → ClassId) (dI : Nat → Nat → Nat) (cI cJ cZ : ClassId) (h : Nat → Nat) (n : Nat) (li : Nat → Int32) (gr : Nat → Int32) (nb : Nat → Int32) (sc : Nat → Int64) (t : Nat) (ki : Nat → Int32) (fe : Nat → Int32) (lm : Nat → Int32) (si : Nat → Int32) (va : Nat → Int32) (he : Nat → Int32) (up : Nat → Int64) (lo : Nat → Int64) (pu : Nat → Int32) (pl : Nat → Int32) (gh : Nat) (gs : Int32) (bf : Bool) (b1 : Int32) (b2 : Int32) (b3 : Int32) (bu : Int64) (bl : Int64) (se : Nat → Int32) (x : Int32) : Ci l yX3_rowOf wsX3_rowOf 1 21 (dC, dI) cl6 (TY cI cJ cZ) false [.ref (h 1), .int x] (Wc h cI cJ cZ n li gr nb sc t ki fe lm si va he up lo pu pl gh gs bf b1 b2 b3 bu bl se) (rowC x n) (Wc h cI cJ cZ n li gr nb sc t ki fe lm si va he up lo pu pl gh gs bf b1 b2 b3 bu bl se) := by
  refine Ci.of (cc := cX3_rowOf) (maxL := 2) (ty := .int) (own := RX3) rfl (by decide) rfl (Nat.le_of_ble_eq_true rfl) ?_
  intro pg ev s0 md ar bw mt cd A X hr hk
  show Wk pg l ev _ s0 md ar bw mt cd 0 0 _ 2 (dC, dI) cl6 A 0 [(0, .ref (h 1)), (1, .int x)] [] (Wc h cI cJ cZ n li gr nb sc t ki fe lm si va he up lo pu pl gh gs bf b1 b2 b3 bu bl se)
  refine Wk.iload_n X 1 rfl dX3_rowOf_0 rfl ?_
  refine Wk.iconst (v := -1) X dX3_rowOf_1 (by decide) ?_
  refine Wk.icmp_ne X 8 dX3_rowOf_2 (by decide) (fun c1 => ?_) (fun c1 => ?_)
  · skip
    refine Wk.aload_n X 0 rfl dX3_rowOf_8 rfl ?_
    refine Wk.iload_n X 1 rfl dX3_rowOf_9 rfl ?_
    refine Wk.callVi (n := 1) (q0 := 1) X (c_X3_has l dC dI cI cJ cZ h n li gr nb sc t ki fe lm si va he up lo pu pl gh gs bf b1 b2 b3 bu bl se x) gX3_rowOf_X3_has rfl (by decide +kernel) (by decide) Fr.all (fun h9 => h9) rfl rfl rfl rfl (Nat.le_of_ble_eq_true rfl) ⟨Nat.zero_le _, Nat.zero_le _⟩ dX3_rowOf_10 ?_
    refine Wk.ifB_eq X 20 dX3_rowOf_13 (by decide) (fun c2 => ?_) (fun c2 => ?_)
    · skip
      refine Wk.iconst (v := -1) X dX3_rowOf_20 (by decide) ?_
      exact Wk.iret X hr hk (by simp [rowC, *]) rfl dX3_rowOf_21
    · skip
      refine Wk.iload_n X 1 rfl dX3_rowOf_16 rfl ?_
      refine Wk.goto X 21 dX3_rowOf_17 (by decide) ?_
      exact Wk.iret X hr hk (by simp [rowC, *]) rfl dX3_rowOf_21
  · skip
    refine Wk.bipush (v := nI 24) X dX3_rowOf_5 (by decide) ?_
    exact Wk.iret X hr hk (by simp [rowC, *]) rfl dX3_rowOf_7

set_option maxHeartbeats 4000000 in
set_option maxRecDepth 100000 in
theorem c_X3_replace (l : Launch) (dC : Nat → ClassId) (dI : Nat → Nat → Nat) (cI cJ cZ : ClassId) (h : Nat → Nat) (n : Nat) (li : Nat → Int32) (gr : Nat → Int32) (nb : Nat → Int32) (sc : Nat → Int64) (t : Nat) (ki : Nat → Int32) (fe : Nat → Int32) (lm : Nat → Int32) (si : Nat → Int32) (va : Nat → Int32) (he : Nat → Int32) (up : Nat → Int64) (lo : Nat → Int64) (pu : Nat → Int32) (pl : Nat → Int32) (gh : Nat) (gs : Int32) (bf : Bool) (b1 : Int32) (b2 : Int32) (b3 : Int32) (bu : Int64) (bl : Int64) (se : Nat → Int32) (r : Nat) (f : Nat) (v : Int32) (hr0 : r < 25) (hf0 : f < 4) : Ci l yX3_replace wsX3_replace 0 0 (dC, dI) cl6 (TY cI cJ cZ) false [.ref (h 1), .int (nI r), .int (nI f), .int v] (Wc h cI cJ cZ n li gr nb sc t ki fe lm si va he up lo pu pl gh gs bf b1 b2 b3 bu bl se) (nb (r * 4 + f)) (Wc h cI cJ cZ n li gr (upd nb (r * 4 + f) v) sc t ki fe lm si va he up lo pu pl gh gs bf b1 b2 b3 bu bl se) := by
  refine Ci.of (cc := cX3_replace) (maxL := 5) (ty := .int) (own := RX3) rfl (by decide) rfl (Nat.le_of_ble_eq_true rfl) ?_
  intro pg ev s0 md ar bw mt cd A X hr hk
  show Wk pg l ev _ s0 md ar bw mt cd 0 0 _ 5 (dC, dI) cl6 A 0 [(0, .ref (h 1)), (1, .int (nI r)), (2, .int (nI f)), (3, .int v)] [] (Wc h cI cJ cZ n li gr nb sc t ki fe lm si va he up lo pu pl gh gs bf b1 b2 b3 bu bl se)
  have inX3 : ∀ w ∈ u_ws RX3 TX3 5, w ∈ wsX3_replace := by decide +kernel
  have lk18 := X.w (.fieldLink RX3 18 "PairedTrees$Things" "numbers" "[I") (by decide +kernel)
  refine Wk.aload_n X 0 rfl dX3_replace_0 rfl ?_
  refine Wk.get X inX3 1 3 lk18 (fun _ h9 => h9) rfl rfl (by decide) rfl dX3_replace_1 ?_
  refine Wk.iload_n X 1 rfl dX3_replace_4 rfl ?_
  refine Wk.iconst (v := nI 4) X dX3_replace_5 (by decide) ?_
  refine Wk.imulN X dX3_replace_6 ?_
  refine Wk.iload_n X 2 rfl dX3_replace_7 rfl ?_
  refine Wk.iaddN X dX3_replace_8 ?_
  refine Wk.iald X 4 0 rfl rfl (by omega) (by decide) dX3_replace_9 ?_
  refine Wk.istore (lv' := [(4, .int (nb (r * 4 + f))), (0, .ref (h 1)), (1, .int (nI r)), (2, .int (nI f)), (3, .int v)]) X dX3_replace_10 (by decide) rfl ?_
  refine Wk.aload_n X 1 rfl dX3_replace_12 rfl ?_
  refine Wk.get X inX3 1 3 lk18 (fun _ h9 => h9) rfl rfl (by decide) rfl dX3_replace_13 ?_
  refine Wk.iload_n X 2 rfl dX3_replace_16 rfl ?_
  refine Wk.iconst (v := nI 4) X dX3_replace_17 (by decide) ?_
  refine Wk.imulN X dX3_replace_18 ?_
  refine Wk.iload_n X 3 rfl dX3_replace_19 rfl ?_
  refine Wk.iaddN X dX3_replace_20 ?_
  refine Wk.iload_n X 4 rfl dX3_replace_21 rfl ?_
  refine Wk.iast (ws' := Wc h cI cJ cZ n li gr (upd nb (r * 4 + f) v) sc t ki fe lm si va he up lo pu pl gh gs bf b1 b2 b3 bu bl se) X 4 0 rfl rfl (by omega) (by decide) rfl dX3_replace_22 ?_
  refine Wk.iload X 0 rfl dX3_replace_23 ?_
  exact Wk.iret X hr hk (by first | rfl | omega | (simp [*]; done)) rfl dX3_replace_25

set_option maxHeartbeats 4000000 in
set_option maxRecDepth 100000 in
theorem c_X3_arePair (l : Launch) (dC : Nat → ClassId) (dI : Nat → Nat → Nat) (cI cJ cZ : ClassId) (h : Nat → Nat) (n : Nat) (li : Nat → Int32) (gr : Nat → Int32) (nb : Nat → Int32) (sc : Nat → Int64) (t : Nat) (ki : Nat → Int32) (fe : Nat → Int32) (lm : Nat → Int32) (si : Nat → Int32) (va : Nat → Int32) (he : Nat → Int32) (up : Nat → Int64) (lo : Nat → Int64) (pu : Nat → Int32) (pl : Nat → Int32) (gh : Nat) (gs : Int32) (bf : Bool) (b1 : Int32) (b2 : Int32) (b3 : Int32) (bu : Int64) (bl : Int64) (se : Nat → Int32) (i : Nat) (j : Nat) (hi0 : i < 24) (hj0 : j < 24) : Ci l yX3_arePair wsX3_arePair 0 0 (dC, dI) cl6 (TY cI cJ cZ) false [.ref (h 1), .int (nI i), .int (nI j)] (Wc h cI cJ cZ n li gr nb sc t ki fe lm si va he up lo pu pl gh gs bf b1 b2 b3 bu bl se) (bI (pairB li gr i j)) (Wc h cI cJ cZ n li gr nb sc t ki fe lm si va he up lo pu pl gh gs bf b1 b2 b3 bu bl se) := by
  refine Ci.of (cc := cX3_arePair) (maxL := 3) (ty := .boolean) (own := RX3) rfl (by decide) rfl (Nat.le_of_ble_eq_true rfl) ?_
  intro pg ev s0 md ar bw mt cd A X hr hk
  show Wk pg l ev _ s0 md ar bw mt cd 0 0 _ 3 (dC, dI) cl6 A 0 [(0, .ref (h 1)), (1, .int (nI i)), (2, .int (nI j))] [] (Wc h cI cJ cZ n li gr nb sc t ki fe lm si va he up lo pu pl gh gs bf b1 b2 b3 bu bl se)
  have inX3 : ∀ w ∈ u_ws RX3 TX3 5, w ∈ wsX3_arePair := by decide +kernel
  have lk9 := X.w (.fieldLink RX3 9 "PairedTrees$Things" "lists" "[I") (by decide +kernel)
  have lk15 := X.w (.fieldLink RX3 15 "PairedTrees$Things" "grades" "[I") (by decide +kernel)
  refine Wk.aload_n X 0 rfl dX3_arePair_0 rfl ?_
  refine Wk.get X inX3 1 1 lk9 (fun _ h9 => h9) rfl rfl (by decide) rfl dX3_arePair_1 ?_
  refine Wk.iload_n X 1 rfl dX3_arePair_4 rfl ?_
  refine Wk.iald X 2 0 rfl rfl (by omega) (by decide) dX3_arePair_5 ?_
  refine Wk.aload_n X 0 rfl dX3_arePair_6 rfl ?_
  refine Wk.get X inX3 1 1 lk9 (fun _ h9 => h9) rfl rfl (by decide) rfl dX3_arePair_7 ?_
  refine Wk.iload_n X 2 rfl dX3_arePair_10 rfl ?_
  refine Wk.iald X 2 0 rfl rfl (by omega) (by decide) dX3_arePair_11 ?_
  refine Wk.icmp_ne X 34 dX3_arePair_12 (by decide) (fun c1 => ?_) (fun c1 => ?_)
  · skip
    refine Wk.iconst (v := nI 0) X dX3_arePair_34 (by decide) ?_
    exact Wk.zret X hr hk (by decide) (by simp [pairB, bI, nI_0, nIc1, *]) rfl dX3_arePair_35
  · skip
    refine Wk.aload_n X 0 rfl dX3_arePair_15 rfl ?_
    refine Wk.get X inX3 1 2 lk15 (fun _ h9 => h9) rfl rfl (by decide) rfl dX3_arePair_16 ?_
    refine Wk.iload_n X 1 rfl dX3_arePair_19 rfl ?_
    refine Wk.iald X 3 0 rfl rfl (by omega) (by decide) dX3_arePair_20 ?_
    refine Wk.aload_n X 0 rfl dX3_arePair_21 rfl ?_
    refine Wk.get X inX3 1 2 lk15 (fun _ h9 => h9) rfl rfl (by decide) rfl dX3_arePair_22 ?_
    refine Wk.iload_n X 2 rfl dX3_arePair_25 rfl ?_
    refine Wk.iald X 3 0 rfl rfl (by omega) (by decide) dX3_arePair_26 ?_
    refine Wk.icmp_le X 34 dX3_arePair_27 (by decide) (fun c2 => ?_) (fun c2 => ?_)
    · skip
      refine Wk.iconst (v := nI 0) X dX3_arePair_34 (by decide) ?_
      exact Wk.zret X hr hk (by decide) (by simp [pairB, bI, nI_0, nIc1, *]) rfl dX3_arePair_35
    · skip
      refine Wk.iconst (v := nI 1) X dX3_arePair_30 (by decide) ?_
      refine Wk.goto X 35 dX3_arePair_31 (by decide) ?_
      exact Wk.zret X hr hk (by decide) (by simp [pairB, bI, nI_0, nIc1, *]) rfl dX3_arePair_35

set_option maxHeartbeats 4000000 in
set_option maxRecDepth 100000 in
theorem c_X3_isAhead (l : Launch) (dC : Nat → ClassId) (dI : Nat → Nat → Nat) (cI cJ cZ : ClassId) (h : Nat → Nat) (n : Nat) (li : Nat → Int32) (gr : Nat → Int32) (nb : Nat → Int32) (sc : Nat → Int64) (t : Nat) (ki : Nat → Int32) (fe : Nat → Int32) (lm : Nat → Int32) (si : Nat → Int32) (va : Nat → Int32) (he : Nat → Int32) (up : Nat → Int64) (lo : Nat → Int64) (pu : Nat → Int32) (pl : Nat → Int32) (gh : Nat) (gs : Int32) (bf : Bool) (b1 : Int32) (b2 : Int32) (b3 : Int32) (bu : Int64) (bl : Int64) (se : Nat → Int32) (i : Nat) (j : Nat) (hi0 : i < 24) (hj0 : j < 24) : Ci l yX3_isAhead wsX3_isAhead 0 0 (dC, dI) cl6 (TY cI cJ cZ) false [.ref (h 1), .int (nI i), .int (nI j)] (Wc h cI cJ cZ n li gr nb sc t ki fe lm si va he up lo pu pl gh gs bf b1 b2 b3 bu bl se) (bI (ahB sc i j)) (Wc h cI cJ cZ n li gr nb sc t ki fe lm si va he up lo pu pl gh gs bf b1 b2 b3 bu bl se) := by
  refine Ci.of (cc := cX3_isAhead) (maxL := 3) (ty := .boolean) (own := RX3) rfl (by decide) rfl (Nat.le_of_ble_eq_true rfl) ?_
  intro pg ev s0 md ar bw mt cd A X hr hk
  show Wk pg l ev _ s0 md ar bw mt cd 0 0 _ 3 (dC, dI) cl6 A 0 [(0, .ref (h 1)), (1, .int (nI i)), (2, .int (nI j))] [] (Wc h cI cJ cZ n li gr nb sc t ki fe lm si va he up lo pu pl gh gs bf b1 b2 b3 bu bl se)
  have inX3 : ∀ w ∈ u_ws RX3 TX3 5, w ∈ wsX3_isAhead := by decide +kernel
  have lk21 := X.w (.fieldLink RX3 21 "PairedTrees$Things" "scores" "[J") (by decide +kernel)
  refine Wk.aload_n X 0 rfl dX3_isAhead_0 rfl ?_
  refine Wk.get X inX3 1 4 lk21 (fun _ h9 => h9) rfl rfl (by decide) rfl dX3_isAhead_1 ?_
  refine Wk.iload_n X 1 rfl dX3_isAhead_4 rfl ?_
  refine Wk.lald X 5 1 rfl rfl (by omega) (by decide) dX3_isAhead_5 ?_
  refine Wk.aload_n X 0 rfl dX3_isAhead_6 rfl ?_
  refine Wk.get X inX3 1 4 lk21 (fun _ h9 => h9) rfl rfl (by decide) rfl dX3_isAhead_7 ?_
  refine Wk.iload_n X 2 rfl dX3_isAhead_10 rfl ?_
  refine Wk.lald X 5 1 rfl rfl (by omega) (by decide) dX3_isAhead_11 ?_
  refine Wk.lcmp_eq X 38 dX3_isAhead_12 dX3_isAhead_13 (by decide) (fun c1 => ?_) (fun c1 => ?_)
  · skip
    refine Wk.iload_n X 1 rfl dX3_isAhead_38 rfl ?_
    refine Wk.iload_n X 2 rfl dX3_isAhead_39 rfl ?_
    refine Wk.icmpN_ge X 47 (by omega) (by omega) dX3_isAhead_40 (by decide) (fun c2 => ?_) (fun c2 => ?_)
    · skip
      refine Wk.iconst (v := nI 0) X dX3_isAhead_47 (by decide) ?_
      exact Wk.zret X hr hk (by decide) (by simp [ahB, bI, nI_0, nIc1, *]) rfl dX3_isAhead_48
    · skip
      refine Wk.iconst (v := nI 1) X dX3_isAhead_43 (by decide) ?_
      refine Wk.goto X 48 dX3_isAhead_44 (by decide) ?_
      exact Wk.zret X hr hk (by decide) (by simp [ahB, bI, nI_0, nIc1, *]) rfl dX3_isAhead_48
  · skip
    refine Wk.aload_n X 0 rfl dX3_isAhead_16 rfl ?_
    refine Wk.get X inX3 1 4 lk21 (fun _ h9 => h9) rfl rfl (by decide) rfl dX3_isAhead_17 ?_
    refine Wk.iload_n X 1 rfl dX3_isAhead_20 rfl ?_
    refine Wk.lald X 5 1 rfl rfl (by omega) (by decide) dX3_isAhead_21 ?_
    refine Wk.aload_n X 0 rfl dX3_isAhead_22 rfl ?_
    refine Wk.get X inX3 1 4 lk21 (fun _ h9 => h9) rfl rfl (by decide) rfl dX3_isAhead_23 ?_
    refine Wk.iload_n X 2 rfl dX3_isAhead_26 rfl ?_
    refine Wk.lald X 5 1 rfl rfl (by omega) (by decide) dX3_isAhead_27 ?_
    refine Wk.lcmp_le X 36 dX3_isAhead_28 dX3_isAhead_29 (by decide) (fun c3 => ?_) (fun c3 => ?_)
    · skip
      refine Wk.iconst (v := nI 0) X dX3_isAhead_36 (by decide) ?_
      exact Wk.zret X hr hk (by decide) (by simp [ahB, bI, nI_0, nIc1, *]) rfl dX3_isAhead_37
    · skip
      refine Wk.iconst (v := nI 1) X dX3_isAhead_32 (by decide) ?_
      refine Wk.goto X 37 dX3_isAhead_33 (by decide) ?_
      exact Wk.zret X hr hk (by decide) (by simp [ahB, bI, nI_0, nIc1, *]) rfl dX3_isAhead_37

set_option maxHeartbeats 4000000 in
set_option maxRecDepth 100000 in
theorem c_X3_pushOfPair (l : Launch) (dC : Nat → ClassId) (dI : Nat → Nat → Nat) (cI cJ cZ : ClassId) (h : Nat → Nat) (n : Nat) (li : Nat → Int32) (gr : Nat → Int32) (nb : Nat → Int32) (sc : Nat → Int64) (t : Nat) (ki : Nat → Int32) (fe : Nat → Int32) (lm : Nat → Int32) (si : Nat → Int32) (va : Nat → Int32) (he : Nat → Int32) (up : Nat → Int64) (lo : Nat → Int64) (pu : Nat → Int32) (pl : Nat → Int32) (gh : Nat) (gs : Int32) (bf : Bool) (b1 : Int32) (b2 : Int32) (b3 : Int32) (bu : Int64) (bl : Int64) (se : Nat → Int32) (i : Nat) (j : Nat) (mg : Int32) (hi0 : i < 24) (hj0 : j < 24) : Ci l yX3_pushOfPair wsX3_pushOfPair 1 22 (dC, dI) cl6 (TY cI cJ cZ) false [.ref (h 1), .int (nI i), .int (nI j), .int mg] (Wc h cI cJ cZ n li gr nb sc t ki fe lm si va he up lo pu pl gh gs bf b1 b2 b3 bu bl se) (ppC li gr sc mg i j) (Wc h cI cJ cZ n li gr nb sc t ki fe lm si va he up lo pu pl gh gs bf b1 b2 b3 bu bl se) := by
  refine Ci.of (cc := cX3_pushOfPair) (maxL := 4) (ty := .int) (own := RX3) rfl (by decide) rfl (Nat.le_of_ble_eq_true rfl) ?_
  intro pg ev s0 md ar bw mt cd A X hr hk
  show Wk pg l ev _ s0 md ar bw mt cd 0 0 _ 4 (dC, dI) cl6 A 0 [(0, .ref (h 1)), (1, .int (nI i)), (2, .int (nI j)), (3, .int mg)] [] (Wc h cI cJ cZ n li gr nb sc t ki fe lm si va he up lo pu pl gh gs bf b1 b2 b3 bu bl se)
  have inX3 : ∀ w ∈ u_ws RX3 TX3 5, w ∈ wsX3_pushOfPair := by decide +kernel
  have lk15 := X.w (.fieldLink RX3 15 "PairedTrees$Things" "grades" "[I") (by decide +kernel)
  have lk21 := X.w (.fieldLink RX3 21 "PairedTrees$Things" "scores" "[J") (by decide +kernel)
  refine Wk.aload_n X 0 rfl dX3_pushOfPair_0 rfl ?_
  refine Wk.iload_n X 1 rfl dX3_pushOfPair_1 rfl ?_
  refine Wk.iload_n X 2 rfl dX3_pushOfPair_2 rfl ?_
  refine Wk.callVi (n := 2) (q0 := 1) X (c_X3_arePair l dC dI cI cJ cZ h n li gr nb sc t ki fe lm si va he up lo pu pl gh gs bf b1 b2 b3 bu bl se i j (by first | omega | assumption) (by first | omega | assumption)) gX3_pushOfPair_X3_arePair rfl (by decide +kernel) (by decide) Fr.all (fun h9 => h9) rfl rfl rfl rfl (Nat.le_of_ble_eq_true rfl) ⟨Nat.zero_le _, Nat.zero_le _⟩ dX3_pushOfPair_3 ?_
  refine Wk.ifB_eq X 28 dX3_pushOfPair_6 (by decide) (fun c1 => ?_) (fun c1 => ?_)
  · skip
    refine Wk.iconst (v := nI 0) X dX3_pushOfPair_28 (by decide) ?_
    exact Wk.iret X hr hk (by simp [ppC, nI_0, *]) rfl dX3_pushOfPair_29
  · skip
    refine Wk.aload_n X 0 rfl dX3_pushOfPair_9 rfl ?_
    refine Wk.get X inX3 1 4 lk21 (fun _ h9 => h9) rfl rfl (by decide) rfl dX3_pushOfPair_10 ?_
    refine Wk.iload_n X 1 rfl dX3_pushOfPair_13 rfl ?_
    refine Wk.lald X 5 1 rfl rfl (by omega) (by decide) dX3_pushOfPair_14 ?_
    refine Wk.aload_n X 0 rfl dX3_pushOfPair_15 rfl ?_
    refine Wk.get X inX3 1 4 lk21 (fun _ h9 => h9) rfl rfl (by decide) rfl dX3_pushOfPair_16 ?_
    refine Wk.iload_n X 2 rfl dX3_pushOfPair_19 rfl ?_
    refine Wk.lald X 5 1 rfl rfl (by omega) (by decide) dX3_pushOfPair_20 ?_
    refine Wk.lsub X dX3_pushOfPair_21 ?_
    refine Wk.iload_n X 3 rfl dX3_pushOfPair_22 rfl ?_
    refine Wk.i2l X dX3_pushOfPair_23 ?_
    refine Wk.lcmp_lt X 30 dX3_pushOfPair_24 dX3_pushOfPair_25 (by decide) (fun c2 => ?_) (fun c2 => ?_)
    · skip
      refine Wk.aload_n X 0 rfl dX3_pushOfPair_30 rfl ?_
      refine Wk.get X inX3 1 2 lk15 (fun _ h9 => h9) rfl rfl (by decide) rfl dX3_pushOfPair_31 ?_
      refine Wk.iload_n X 1 rfl dX3_pushOfPair_34 rfl ?_
      refine Wk.iald X 3 0 rfl rfl (by omega) (by decide) dX3_pushOfPair_35 ?_
      refine Wk.aload_n X 0 rfl dX3_pushOfPair_36 rfl ?_
      refine Wk.get X inX3 1 2 lk15 (fun _ h9 => h9) rfl rfl (by decide) rfl dX3_pushOfPair_37 ?_
      refine Wk.iload_n X 2 rfl dX3_pushOfPair_40 rfl ?_
      refine Wk.iald X 3 0 rfl rfl (by omega) (by decide) dX3_pushOfPair_41 ?_
      refine Wk.isub X dX3_pushOfPair_42 ?_
      exact Wk.iret X hr hk (by simp [ppC, nI_0, *]) rfl dX3_pushOfPair_43
    · skip
      refine Wk.iconst (v := nI 0) X dX3_pushOfPair_28 (by decide) ?_
      exact Wk.iret X hr hk (by simp [ppC, nI_0, *]) rfl dX3_pushOfPair_29

set_option maxHeartbeats 4000000 in
set_option maxRecDepth 100000 in
theorem c_X3_pushOf (l : Launch) (dC : Nat → ClassId) (dI : Nat → Nat → Nat) (cI cJ cZ : ClassId) (h : Nat → Nat) (n : Nat) (li : Nat → Int32) (gr : Nat → Int32) (nb : Nat → Int32) (sc : Nat → Int64) (t : Nat) (ki : Nat → Int32) (fe : Nat → Int32) (lm : Nat → Int32) (si : Nat → Int32) (va : Nat → Int32) (he : Nat → Int32) (up : Nat → Int64) (lo : Nat → Int64) (pu : Nat → Int32) (pl : Nat → Int32) (gh : Nat) (gs : Int32) (bf : Bool) (b1 : Int32) (b2 : Int32) (b3 : Int32) (bu : Int64) (bl : Int64) (se : Nat → Int32) (i : Nat) (mg : Int32) (hi0 : i < 24) (hn0 : n ≤ 24) : Ci l yX3_pushOf wsX3_pushOf 2 45 (dC, dI) cl6 (TY cI cJ cZ) false [.ref (h 1), .int (nI i), .int mg] (Wc h cI cJ cZ n li gr nb sc t ki fe lm si va he up lo pu pl gh gs bf b1 b2 b3 bu bl se) (psC li gr sc mg i n) (Wc h cI cJ cZ n li gr nb sc t ki fe lm si va he up lo pu pl gh gs bf b1 b2 b3 bu bl se) := by
  refine Ci.of (cc := cX3_pushOf) (maxL := 5) (ty := .int) (own := RX3) rfl (by decide) rfl (Nat.le_of_ble_eq_true rfl) ?_
  intro pg ev s0 md ar bw mt cd A X hr hk
  show Wk pg l ev _ s0 md ar bw mt cd 0 0 _ 5 (dC, dI) cl6 A 0 [(0, .ref (h 1)), (1, .int (nI i)), (2, .int mg)] [] (Wc h cI cJ cZ n li gr nb sc t ki fe lm si va he up lo pu pl gh gs bf b1 b2 b3 bu bl se)
  have inX3 : ∀ w ∈ u_ws RX3 TX3 5, w ∈ wsX3_pushOf := by decide +kernel
  have lk25 := X.w (.fieldLink RX3 25 "PairedTrees$Things" "count" "I") (by decide +kernel)
  refine Wk.iconst (v := nI 0) X dX3_pushOf_0 (by decide) ?_
  refine Wk.istore_n (lv' := [(3, .int (nI 0)), (0, .ref (h 1)), (1, .int (nI i)), (2, .int mg)]) X dX3_pushOf_1 rfl (by decide) rfl ?_
  refine Wk.iconst (v := nI 0) X dX3_pushOf_2 (by decide) ?_
  refine Wk.istore (lv' := [(4, .int (nI 0)), (3, .int (nI 0)), (0, .ref (h 1)), (1, .int (nI i)), (2, .int mg)]) X dX3_pushOf_3 (by decide) rfl ?_
  have L5 : ∀ (fu5 : Nat) (j : Nat) (a : Int32) (hq : n + 1 ≤ j + fu5) (hj : j ≤ n) (ha : a = psC li gr sc mg i j), Wk pg l ev ({ frames := 2, cells := 0, slots := 0, locals := 45 } : Room) s0 md ar bw mt cd 0 0 (QRi bw ar s0 (dC, dI) cl6 (TY cI cJ cZ) A (psC li gr sc mg i n) (Wc h cI cJ cZ n li gr nb sc t ki fe lm si va he up lo pu pl gh gs bf b1 b2 b3 bu bl se)) 5 (dC, dI) cl6 A 5 [(0, .ref (h 1)), (1, .int (nI i)), (2, .int mg), (3, .int a), (4, .int (nI j))] [] (Wc h cI cJ cZ n li gr nb sc t ki fe lm si va he up lo pu pl gh gs bf b1 b2 b3 bu bl se) := by
    intro fu5
    induction fu5 with
    | zero => intro j a hq hj ha; exact absurd hq (by omega)
    | succ fu5 ih5 =>
      intro j a hq hj ha
      refine Wk.iload X 4 rfl dX3_pushOf_5 ?_
      refine Wk.aload_n X 0 rfl dX3_pushOf_7 rfl ?_
      refine Wk.get X inX3 1 0 lk25 (fun _ h9 => h9) rfl rfl (by decide) rfl dX3_pushOf_8 ?_
      refine Wk.icmpN_ge X 40 (by omega) (by omega) dX3_pushOf_11 (by decide) (fun c1 => ?_) (fun c1 => ?_)
      · skip
        refine Wk.iload_n X 3 rfl dX3_pushOf_40 rfl ?_
        exact Wk.iret X hr hk (by rw [ha, show j = n by omega]) rfl dX3_pushOf_41
      · skip
        refine Wk.iload_n X 3 rfl dX3_pushOf_14 rfl ?_
        refine Wk.aload_n X 0 rfl dX3_pushOf_15 rfl ?_
        refine Wk.iload_n X 1 rfl dX3_pushOf_16 rfl ?_
        refine Wk.iload X 4 rfl dX3_pushOf_17 ?_
        refine Wk.iload_n X 2 rfl dX3_pushOf_19 rfl ?_
        refine Wk.callVi (n := 3) (q0 := 1) X (c_X3_pushOfPair l dC dI cI cJ cZ h n li gr nb sc t ki fe lm si va he up lo pu pl gh gs bf b1 b2 b3 bu bl se i j mg (by first | omega | assumption) (by first | omega | assumption)) gX3_pushOf_X3_pushOfPair rfl (by decide +kernel) (by decide) Fr.all (fun h9 => h9) rfl rfl rfl rfl (Nat.le_of_ble_eq_true rfl) ⟨Nat.zero_le _, Nat.zero_le _⟩ dX3_pushOf_20 ?_
        refine Wk.aload_n X 0 rfl dX3_pushOf_23 rfl ?_
        refine Wk.iload X 4 rfl dX3_pushOf_24 ?_
        refine Wk.iload_n X 1 rfl dX3_pushOf_26 rfl ?_
        refine Wk.iload_n X 2 rfl dX3_pushOf_27 rfl ?_
        refine Wk.callVi (n := 3) (q0 := 1) X (c_X3_pushOfPair l dC dI cI cJ cZ h n li gr nb sc t ki fe lm si va he up lo pu pl gh gs bf b1 b2 b3 bu bl se j i mg (by first | omega | assumption) (by first | omega | assumption)) gX3_pushOf_X3_pushOfPair rfl (by decide +kernel) (by decide) Fr.all (fun h9 => h9) rfl rfl rfl rfl (Nat.le_of_ble_eq_true rfl) ⟨Nat.zero_le _, Nat.zero_le _⟩ dX3_pushOf_28 ?_
        refine Wk.isub X dX3_pushOf_31 ?_
        refine Wk.iadd X dX3_pushOf_32 ?_
        refine Wk.istore_n (lv' := [(3, .int (a + ((ppC li gr sc mg i j) - (ppC li gr sc mg j i)))), (0, .ref (h 1)), (1, .int (nI i)), (2, .int mg), (4, .int (nI j))]) X dX3_pushOf_33 rfl (by decide) rfl ?_
        refine Wk.iincN (n := 1) (lv' := [(4, .int (nI (j + 1))), (3, .int (a + ((ppC li gr sc mg i j) - (ppC li gr sc mg j i)))), (0, .ref (h 1)), (1, .int (nI i)), (2, .int mg)]) X 4 rfl dX3_pushOf_34 (by decide) rfl ?_
        refine Wk.goto X 5 dX3_pushOf_37 (by decide) ?_
        refine Wk.lvs (lv' := [(0, .ref (h 1)), (1, .int (nI i)), (2, .int mg), (3, .int (a + ((ppC li gr sc mg i j) - (ppC li gr sc mg j i)))), (4, .int (nI (j + 1)))]) [2, 3, 4, 1, 0] rfl ?_
        exact ih5 (j + 1) (a + ((ppC li gr sc mg i j) - (ppC li gr sc mg j i))) (by omega) (by omega) (by rw [ha]; rfl)
  refine Wk.lvs (lv' := [(0, .ref (h 1)), (1, .int (nI i)), (2, .int mg), (3, .int (nI 0)), (4, .int (nI 0))]) [2, 3, 4, 1, 0] rfl ?_
  exact L5 (n + 1) 0 (nI 0) (by omega) (by omega) (by simp [psC, nI_0])

set_option maxHeartbeats 4000000 in
set_option maxRecDepth 100000 in
theorem c_X3_countAhead (l : Launch) (dC : Nat → ClassId) (dI : Nat → Nat → Nat) (cI cJ cZ : ClassId) (h : Nat → Nat) (n : Nat) (li : Nat → Int32) (gr : Nat → Int32) (nb : Nat → Int32) (sc : Nat → Int64) (t : Nat) (ki : Nat → Int32) (fe : Nat → Int32) (lm : Nat → Int32) (si : Nat → Int32) (va : Nat → Int32) (he : Nat → Int32) (up : Nat → Int64) (lo : Nat → Int64) (pu : Nat → Int32) (pl : Nat → Int32) (gh : Nat) (gs : Int32) (bf : Bool) (b1 : Int32) (b2 : Int32) (b3 : Int32) (bu : Int64) (bl : Int64) (se : Nat → Int32) (i : Nat) (hi0 : i < 24) (hn0 : n ≤ 24) : Ci l yX3_countAhead wsX3_countAhead 1 22 (dC, dI) cl6 (TY cI cJ cZ) false [.ref (h 1), .int (nI i)] (Wc h cI cJ cZ n li gr nb sc t ki fe lm si va he up lo pu pl gh gs bf b1 b2 b3 bu bl se) (nI (ahC li sc i n)) (Wc h cI cJ cZ n li gr nb sc t ki fe lm si va he up lo pu pl gh gs bf b1 b2 b3 bu bl se) := by
  refine Ci.of (cc := cX3_countAhead) (maxL := 4) (ty := .int) (own := RX3) rfl (by decide) rfl (Nat.le_of_ble_eq_true rfl) ?_
  intro pg ev s0 md ar bw mt cd A X hr hk
  show Wk pg l ev _ s0 md ar bw mt cd 0 0 _ 4 (dC, dI) cl6 A 0 [(0, .ref (h 1)), (1, .int (nI i))] [] (Wc h cI cJ cZ n li gr nb sc t ki fe lm si va he up lo pu pl gh gs bf b1 b2 b3 bu bl se)
  have inX3 : ∀ w ∈ u_ws RX3 TX3 5, w ∈ wsX3_countAhead := by decide +kernel
  have lk9 := X.w (.fieldLink RX3 9 "PairedTrees$Things" "lists" "[I") (by decide +kernel)
  have lk25 := X.w (.fieldLink RX3 25 "PairedTrees$Things" "count" "I") (by decide +kernel)
  refine Wk.iconst (v := nI 0) X dX3_countAhead_0 (by decide) ?_
  refine Wk.istore_n (lv' := [(2, .int (nI 0)), (0, .ref (h 1)), (1, .int (nI i))]) X dX3_countAhead_1 rfl (by decide) rfl ?_
  refine Wk.iconst (v := nI 0) X dX3_countAhead_2 (by decide) ?_
  refine Wk.istore_n (lv' := [(3, .int (nI 0)), (2, .int (nI 0)), (0, .ref (h 1)), (1, .int (nI i))]) X dX3_countAhead_3 rfl (by decide) rfl ?_
  have L4 : ∀ (fu4 : Nat) (j : Nat) (a : Nat) (hq : n + 1 ≤ j + fu4) (hj : j ≤ n) (ha : a = ahC li sc i j), Wk pg l ev ({ frames := 1, cells := 0, slots := 0, locals := 22 } : Room) s0 md ar bw mt cd 0 0 (QRi bw ar s0 (dC, dI) cl6 (TY cI cJ cZ) A (nI (ahC li sc i n)) (Wc h cI cJ cZ n li gr nb sc t ki fe lm si va he up lo pu pl gh gs bf b1 b2 b3 bu bl se)) 4 (dC, dI) cl6 A 4 [(0, .ref (h 1)), (1, .int (nI i)), (2, .int (nI a)), (3, .int (nI j))] [] (Wc h cI cJ cZ n li gr nb sc t ki fe lm si va he up lo pu pl gh gs bf b1 b2 b3 bu bl se) := by
    intro fu4
    induction fu4 with
    | zero => intro j a hq hj ha; exact absurd hq (by omega)
    | succ fu4 ih4 =>
      intro j a hq hj ha
      refine Wk.iload_n X 3 rfl dX3_countAhead_4 rfl ?_
      refine Wk.aload_n X 0 rfl dX3_countAhead_5 rfl ?_
      refine Wk.get X inX3 1 0 lk25 (fun _ h9 => h9) rfl rfl (by decide) rfl dX3_countAhead_6 ?_
      refine Wk.icmpN_ge X 45 (by omega) (by omega) dX3_countAhead_9 (by decide) (fun c1 => ?_) (fun c1 => ?_)
      · skip
        refine Wk.iload_n X 2 rfl dX3_countAhead_45 rfl ?_
        exact Wk.iret X hr hk (by rw [ha, show j = n by omega]) rfl dX3_countAhead_46
      · skip
        refine Wk.aload_n X 0 rfl dX3_countAhead_12 rfl ?_
        refine Wk.get X inX3 1 1 lk9 (fun _ h9 => h9) rfl rfl (by decide) rfl dX3_countAhead_13 ?_
        refine Wk.iload_n X 3 rfl dX3_countAhead_16 rfl ?_
        refine Wk.iald X 2 0 rfl rfl (by omega) (by decide) dX3_countAhead_17 ?_
        refine Wk.aload_n X 0 rfl dX3_countAhead_18 rfl ?_
        refine Wk.get X inX3 1 1 lk9 (fun _ h9 => h9) rfl rfl (by decide) rfl dX3_countAhead_19 ?_
        refine Wk.iload_n X 1 rfl dX3_countAhead_22 rfl ?_
        refine Wk.iald X 2 0 rfl rfl (by omega) (by decide) dX3_countAhead_23 ?_
        refine Wk.icmp_ne X 39 dX3_countAhead_24 (by decide) (fun c2 => ?_) (fun c2 => ?_)
        · skip
          refine Wk.iincN (n := 1) (lv' := [(3, .int (nI (j + 1))), (0, .ref (h 1)), (1, .int (nI i)), (2, .int (nI a))]) X 3 rfl dX3_countAhead_39 (by decide) rfl ?_
          refine Wk.goto X 4 dX3_countAhead_42 (by decide) ?_
          refine Wk.lvs (lv' := [(0, .ref (h 1)), (1, .int (nI i)), (2, .int (nI a)), (3, .int (nI (j + 1)))]) [1, 2, 3, 0] rfl ?_
          exact ih4 (j + 1) a (by omega) (by omega) (by simp [ahC, *])
        · skip
          refine Wk.aload_n X 0 rfl dX3_countAhead_27 rfl ?_
          refine Wk.iload_n X 3 rfl dX3_countAhead_28 rfl ?_
          refine Wk.iload_n X 1 rfl dX3_countAhead_29 rfl ?_
          refine Wk.callVi (n := 2) (q0 := 1) X (c_X3_isAhead l dC dI cI cJ cZ h n li gr nb sc t ki fe lm si va he up lo pu pl gh gs bf b1 b2 b3 bu bl se j i (by first | omega | assumption) (by first | omega | assumption)) gX3_countAhead_X3_isAhead rfl (by decide +kernel) (by decide) Fr.all (fun h9 => h9) rfl rfl rfl rfl (Nat.le_of_ble_eq_true rfl) ⟨Nat.zero_le _, Nat.zero_le _⟩ dX3_countAhead_30 ?_
          refine Wk.ifB_eq X 39 dX3_countAhead_33 (by decide) (fun c3 => ?_) (fun c3 => ?_)
          · skip
            refine Wk.iincN (n := 1) (lv' := [(3, .int (nI (j + 1))), (0, .ref (h 1)), (1, .int (nI i)), (2, .int (nI a))]) X 3 rfl dX3_countAhead_39 (by decide) rfl ?_
            refine Wk.goto X 4 dX3_countAhead_42 (by decide) ?_
            refine Wk.lvs (lv' := [(0, .ref (h 1)), (1, .int (nI i)), (2, .int (nI a)), (3, .int (nI (j + 1)))]) [1, 2, 3, 0] rfl ?_
            exact ih4 (j + 1) a (by omega) (by omega) (by simp [ahC, *])
          · skip
            refine Wk.iincN (n := 1) (lv' := [(2, .int (nI (a + 1))), (0, .ref (h 1)), (1, .int (nI i)), (3, .int (nI j))]) X 2 rfl dX3_countAhead_36 (by decide) rfl ?_
            refine Wk.iincN (n := 1) (lv' := [(3, .int (nI (j + 1))), (2, .int (nI (a + 1))), (0, .ref (h 1)), (1, .int (nI i))]) X 3 rfl dX3_countAhead_39 (by decide) rfl ?_
            refine Wk.goto X 4 dX3_countAhead_42 (by decide) ?_
            refine Wk.lvs (lv' := [(0, .ref (h 1)), (1, .int (nI i)), (2, .int (nI (a + 1))), (3, .int (nI (j + 1)))]) [2, 3, 1, 0] rfl ?_
            exact ih4 (j + 1) (a + 1) (by omega) (by omega) (by simp [ahC, *])
  refine Wk.lvs (lv' := [(0, .ref (h 1)), (1, .int (nI i)), (2, .int (nI 0)), (3, .int (nI 0))]) [2, 3, 1, 0] rfl ?_
  exact L4 (n + 1) 0 0 (by omega) (by omega) (by rfl)

set_option maxHeartbeats 4000000 in
set_option maxRecDepth 100000 in
theorem c_X3_countPairs (l : Launch) (dC : Nat → ClassId) (dI : Nat → Nat → Nat) (cI cJ cZ : ClassId) (h : Nat → Nat) (n : Nat) (li : Nat → Int32) (gr : Nat → Int32) (nb : Nat → Int32) (sc : Nat → Int64) (t : Nat) (ki : Nat → Int32) (fe : Nat → Int32) (lm : Nat → Int32) (si : Nat → Int32) (va : Nat → Int32) (he : Nat → Int32) (up : Nat → Int64) (lo : Nat → Int64) (pu : Nat → Int32) (pl : Nat → Int32) (gh : Nat) (gs : Int32) (bf : Bool) (b1 : Int32) (b2 : Int32) (b3 : Int32) (bu : Int64) (bl : Int64) (se : Nat → Int32) (ls : Int32) (ow : Bool) (hn0 : n ≤ 24) : Ci l yX3_countPairs wsX3_countPairs 1 22 (dC, dI) cl6 (TY cI cJ cZ) false [.ref (h 1), .int ls, .int (bI ow)] (Wc h cI cJ cZ n li gr nb sc t ki fe lm si va he up lo pu pl gh gs bf b1 b2 b3 bu bl se) (nI (cpO li gr sc ls ow n n)) (Wc h cI cJ cZ n li gr nb sc t ki fe lm si va he up lo pu pl gh gs bf b1 b2 b3 bu bl se) := by
  refine Ci.of (cc := cX3_countPairs) (maxL := 8) (ty := .int) (own := RX3) rfl (by decide) rfl (Nat.le_of_ble_eq_true rfl) ?_
  intro pg ev s0 md ar bw mt cd A X hr hk
  show Wk pg l ev _ s0 md ar bw mt cd 0 0 _ 8 (dC, dI) cl6 A 0 [(0, .ref (h 1)), (1, .int ls), (2, .int (bI ow))] [] (Wc h cI cJ cZ n li gr nb sc t ki fe lm si va he up lo pu pl gh gs bf b1 b2 b3 bu bl se)
  have inX3 : ∀ w ∈ u_ws RX3 TX3 5, w ∈ wsX3_countPairs := by decide +kernel
  have lk9 := X.w (.fieldLink RX3 9 "PairedTrees$Things" "lists" "[I") (by decide +kernel)
  have lk21 := X.w (.fieldLink RX3 21 "PairedTrees$Things" "scores" "[J") (by decide +kernel)
  have lk25 := X.w (.fieldLink RX3 25 "PairedTrees$Things" "count" "I") (by decide +kernel)
  refine Wk.iconst (v := nI 0) X dX3_countPairs_0 (by decide) ?_
  refine Wk.istore_n (lv' := [(3, .int (nI 0)), (0, .ref (h 1)), (1, .int ls), (2, .int (bI ow))]) X dX3_countPairs_1 rfl (by decide) rfl ?_
  refine Wk.iconst (v := nI 0) X dX3_countPairs_2 (by decide) ?_
  refine Wk.istore (lv' := [(4, .int (nI 0)), (3, .int (nI 0)), (0, .ref (h 1)), (1, .int ls), (2, .int (bI ow))]) X dX3_countPairs_3 (by decide) rfl ?_
  have L5 : ∀ (fu5 : Nat) (i : Nat) (a : Nat) (hq : n + 1 ≤ i + fu5) (hi : i ≤ n) (ha : a = cpO li gr sc ls ow n i), Wk pg l ev ({ frames := 1, cells := 0, slots := 0, locals := 22 } : Room) s0 md ar bw mt cd 0 0 (QRi bw ar s0 (dC, dI) cl6 (TY cI cJ cZ) A (nI (cpO li gr sc ls ow n n)) (Wc h cI cJ cZ n li gr nb sc t ki fe lm si va he up lo pu pl gh gs bf b1 b2 b3 bu bl se)) 8 (dC, dI) cl6 A 5 [(0, .ref (h 1)), (1, .int ls), (2, .int (bI ow)), (3, .int (nI a)), (4, .int (nI i))] [] (Wc h cI cJ cZ n li gr nb sc t ki fe lm si va he up lo pu pl gh gs bf b1 b2 b3 bu bl se) := by
    intro fu5
    induction fu5 with
    | zero => intro i a hq hi ha; exact absurd hq (by omega)
    | succ fu5 ih5 =>
      intro i a hq hi ha
      refine Wk.iload X 4 rfl dX3_countPairs_5 ?_
      refine Wk.aload_n X 0 rfl dX3_countPairs_7 rfl ?_
      refine Wk.get X inX3 1 0 lk25 (fun _ h9 => h9) rfl rfl (by decide) rfl dX3_countPairs_8 ?_
      refine Wk.icmpN_ge X 114 (by omega) (by omega) dX3_countPairs_11 (by decide) (fun c1 => ?_) (fun c1 => ?_)
      · skip
        refine Wk.iload_n X 3 rfl dX3_countPairs_114 rfl ?_
        exact Wk.iret X hr hk (by rw [ha, show i = n by omega]) rfl dX3_countPairs_115
      · skip
        refine Wk.iconst (v := nI 0) X dX3_countPairs_14 (by decide) ?_
        refine Wk.istore (lv' := [(5, .int (nI 0)), (0, .ref (h 1)), (1, .int ls), (2, .int (bI ow)), (3, .int (nI a)), (4, .int (nI i))]) X dX3_countPairs_15 (by decide) rfl ?_
        have L17 : ∀ (fu17 : Nat) (j : Nat) (b : Nat) (hq2 : n + 1 ≤ j + fu17) (hj : j ≤ n) (hb : b = a + cpI li gr sc ls ow i j), Wk pg l ev ({ frames := 1, cells := 0, slots := 0, locals := 22 } : Room) s0 md ar bw mt cd 0 0 (QRi bw ar s0 (dC, dI) cl6 (TY cI cJ cZ) A (nI (cpO li gr sc ls ow n n)) (Wc h cI cJ cZ n li gr nb sc t ki fe lm si va he up lo pu pl gh gs bf b1 b2 b3 bu bl se)) 8 (dC, dI) cl6 A 17 [(0, .ref (h 1)), (1, .int ls), (2, .int (bI ow)), (3, .int (nI b)), (4, .int (nI i)), (5, .int (nI j))] [] (Wc h cI cJ cZ n li gr nb sc t ki fe lm si va he up lo pu pl gh gs bf b1 b2 b3 bu bl se) := by
          intro fu17
          induction fu17 with
          | zero => intro j b hq2 hj hb; exact absurd hq2 (by omega)
          | succ fu17 ih17 =>
            intro j b hq2 hj hb
            refine Wk.iload X 5 rfl dX3_countPairs_17 ?_
            refine Wk.aload_n X 0 rfl dX3_countPairs_19 rfl ?_
            refine Wk.get X inX3 1 0 lk25 (fun _ h9 => h9) rfl rfl (by decide) rfl dX3_countPairs_20 ?_
            refine Wk.icmpN_ge X 108 (by omega) (by omega) dX3_countPairs_23 (by decide) (fun c2 => ?_) (fun c2 => ?_)
            · skip
              refine Wk.iincN (n := 1) (lv' := [(4, .int (nI (i + 1))), (0, .ref (h 1)), (1, .int ls), (2, .int (bI ow)), (3, .int (nI b)), (5, .int (nI j))]) X 4 rfl dX3_countPairs_108 (by decide) rfl ?_
              refine Wk.goto X 5 dX3_countPairs_111 (by decide) ?_
              refine Wk.lvs (lv' := [(0, .ref (h 1)), (1, .int ls), (2, .int (bI ow)), (3, .int (nI b)), (4, .int (nI (i + 1)))]) [1, 2, 3, 4, 0] rfl ?_
              exact ih5 (i + 1) b (by omega) (by omega) (by rw [hb, show j = n by omega, ha]; rfl)
            · skip
              have J47 : Wk pg l ev ({ frames := 1, cells := 0, slots := 0, locals := 22 } : Room) s0 md ar bw mt cd 0 0 (QRi bw ar s0 (dC, dI) cl6 (TY cI cJ cZ) A (nI (cpO li gr sc ls ow n n)) (Wc h cI cJ cZ n li gr nb sc t ki fe lm si va he up lo pu pl gh gs bf b1 b2 b3 bu bl se)) 8 (dC, dI) cl6 A 47 [(0, .ref (h 1)), (1, .int ls), (2, .int (bI ow)), (3, .int (nI b)), (4, .int (nI i)), (5, .int (nI j))] [.int (bI (decide (ls = -1 ∨ li i = ls)))] (Wc h cI cJ cZ n li gr nb sc t ki fe lm si va he up lo pu pl gh gs bf b1 b2 b3 bu bl se) := by
                refine Wk.istore (lv' := [(6, .int (bI (decide (ls = -1 ∨ li i = ls)))), (0, .ref (h 1)), (1, .int ls), (2, .int (bI ow)), (3, .int (nI b)), (4, .int (nI i)), (5, .int (nI j))]) X dX3_countPairs_47 (by decide) rfl ?_
                have J72 : Wk pg l ev ({ frames := 1, cells := 0, slots := 0, locals := 22 } : Room) s0 md ar bw mt cd 0 0 (QRi bw ar s0 (dC, dI) cl6 (TY cI cJ cZ) A (nI (cpO li gr sc ls ow n n)) (Wc h cI cJ cZ n li gr nb sc t ki fe lm si va he up lo pu pl gh gs bf b1 b2 b3 bu bl se)) 8 (dC, dI) cl6 A 72 [(6, .int (bI (decide (ls = -1 ∨ li i = ls)))), (0, .ref (h 1)), (1, .int ls), (2, .int (bI ow)), (3, .int (nI b)), (4, .int (nI i)), (5, .int (nI j))] [.int (bI (decide (sc i ≤ sc j)))] (Wc h cI cJ cZ n li gr nb sc t ki fe lm si va he up lo pu pl gh gs bf b1 b2 b3 bu bl se) := by
                  refine Wk.istore (lv' := [(7, .int (bI (decide (sc i ≤ sc j)))), (6, .int (bI (decide (ls = -1 ∨ li i = ls)))), (0, .ref (h 1)), (1, .int ls), (2, .int (bI ow)), (3, .int (nI b)), (4, .int (nI i)), (5, .int (nI j))]) X dX3_countPairs_72 (by decide) rfl ?_
                  refine Wk.iload X 1 rfl dX3_countPairs_74 ?_
                  refine Wk.ifB_eq X 102 dX3_countPairs_76 (by decide) (fun c3 => ?_) (fun c3 => ?_)
                  · skip
                    refine Wk.iincN (n := 1) (lv' := [(5, .int (nI (j + 1))), (7, .int (bI (decide (sc i ≤ sc j)))), (6, .int (bI (decide (ls = -1 ∨ li i = ls)))), (0, .ref (h 1)), (1, .int ls), (2, .int (bI ow)), (3, .int (nI b)), (4, .int (nI i))]) X 7 rfl dX3_countPairs_102 (by decide) rfl ?_
                    refine Wk.goto X 17 dX3_countPairs_105 (by decide) ?_
                    refine Wk.lvs (lv' := [(0, .ref (h 1)), (1, .int ls), (2, .int (bI ow)), (3, .int (nI b)), (4, .int (nI i)), (5, .int (nI (j + 1)))]) [3, 4, 5, 6, 7, 0] rfl ?_
                    exact ih17 (j + 1) b (by omega) (by omega) (by simp [cpI, cpB, *] <;> omega)
                  · skip
                    refine Wk.aload_n X 2 rfl dX3_countPairs_79 rfl ?_
                    refine Wk.iload X 6 rfl dX3_countPairs_80 ?_
                    refine Wk.iload X 7 rfl dX3_countPairs_82 ?_
                    refine Wk.callVi (n := 2) (q0 := 1) X (c_X3_arePair l dC dI cI cJ cZ h n li gr nb sc t ki fe lm si va he up lo pu pl gh gs bf b1 b2 b3 bu bl se i j (by first | omega | assumption) (by first | omega | assumption)) gX3_countPairs_X3_arePair rfl (by decide +kernel) (by decide) Fr.all (fun h9 => h9) rfl rfl rfl rfl (Nat.le_of_ble_eq_true rfl) ⟨Nat.zero_le _, Nat.zero_le _⟩ dX3_countPairs_84 ?_
                    refine Wk.ifB_eq X 102 dX3_countPairs_87 (by decide) (fun c4 => ?_) (fun c4 => ?_)
                    · skip
                      refine Wk.iincN (n := 1) (lv' := [(5, .int (nI (j + 1))), (7, .int (bI (decide (sc i ≤ sc j)))), (6, .int (bI (decide (ls = -1 ∨ li i = ls)))), (0, .ref (h 1)), (1, .int ls), (2, .int (bI ow)), (3, .int (nI b)), (4, .int (nI i))]) X 7 rfl dX3_countPairs_102 (by decide) rfl ?_
                      refine Wk.goto X 17 dX3_countPairs_105 (by decide) ?_
                      refine Wk.lvs (lv' := [(0, .ref (h 1)), (1, .int ls), (2, .int (bI ow)), (3, .int (nI b)), (4, .int (nI i)), (5, .int (nI (j + 1)))]) [3, 4, 5, 6, 7, 0] rfl ?_
                      exact ih17 (j + 1) b (by omega) (by omega) (by simp [cpI, cpB, *] <;> omega)
                    · skip
                      refine Wk.iload X 0 rfl dX3_countPairs_90 ?_
                      refine Wk.ifB_ne X 99 dX3_countPairs_92 (by decide) (fun c5 => ?_) (fun c5 => ?_)
                      · skip
                        refine Wk.iincN (n := 1) (lv' := [(3, .int (nI (b + 1))), (7, .int (bI (decide (sc i ≤ sc j)))), (6, .int (bI (decide (ls = -1 ∨ li i = ls)))), (0, .ref (h 1)), (1, .int ls), (2, .int (bI ow)), (4, .int (nI i)), (5, .int (nI j))]) X 5 rfl dX3_countPairs_99 (by decide) rfl ?_
                        refine Wk.iincN (n := 1) (lv' := [(5, .int (nI (j + 1))), (3, .int (nI (b + 1))), (7, .int (bI (decide (sc i ≤ sc j)))), (6, .int (bI (decide (ls = -1 ∨ li i = ls)))), (0, .ref (h 1)), (1, .int ls), (2, .int (bI ow)), (4, .int (nI i))]) X 7 rfl dX3_countPairs_102 (by decide) rfl ?_
                        refine Wk.goto X 17 dX3_countPairs_105 (by decide) ?_
                        refine Wk.lvs (lv' := [(0, .ref (h 1)), (1, .int ls), (2, .int (bI ow)), (3, .int (nI (b + 1))), (4, .int (nI i)), (5, .int (nI (j + 1)))]) [4, 5, 6, 1, 7, 0] rfl ?_
                        exact ih17 (j + 1) (b + 1) (by omega) (by omega) (by simp [cpI, cpB, *] <;> omega)
                      · skip
                        refine Wk.iload_n X 4 rfl dX3_countPairs_95 rfl ?_
                        refine Wk.ifB_ne X 102 dX3_countPairs_96 (by decide) (fun c6 => ?_) (fun c6 => ?_)
                        · skip
                          refine Wk.iincN (n := 1) (lv' := [(5, .int (nI (j + 1))), (7, .int (bI (decide (sc i ≤ sc j)))), (6, .int (bI (decide (ls = -1 ∨ li i = ls)))), (0, .ref (h 1)), (1, .int ls), (2, .int (bI ow)), (3, .int (nI b)), (4, .int (nI i))]) X 7 rfl dX3_countPairs_102 (by decide) rfl ?_
                          refine Wk.goto X 17 dX3_countPairs_105 (by decide) ?_
                          refine Wk.lvs (lv' := [(0, .ref (h 1)), (1, .int ls), (2, .int (bI ow)), (3, .int (nI b)), (4, .int (nI i)), (5, .int (nI (j + 1)))]) [3, 4, 5, 6, 7, 0] rfl ?_
                          exact ih17 (j + 1) b (by omega) (by omega) (by simp [cpI, cpB, *] <;> omega)
                        · skip
                          refine Wk.iincN (n := 1) (lv' := [(3, .int (nI (b + 1))), (7, .int (bI (decide (sc i ≤ sc j)))), (6, .int (bI (decide (ls = -1 ∨ li i = ls)))), (0, .ref (h 1)), (1, .int ls), (2, .int (bI ow)), (4, .int (nI i)), (5, .int (nI j))]) X 5 rfl dX3_countPairs_99 (by decide) rfl ?_
                          refine Wk.iincN (n := 1) (lv' := [(5, .int (nI (j + 1))), (3, .int (nI (b + 1))), (7, .int (bI (decide (sc i ≤ sc j)))), (6, .int (bI (decide (ls = -1 ∨ li i = ls)))), (0, .ref (h 1)), (1, .int ls), (2, .int (bI ow)), (4, .int (nI i))]) X 7 rfl dX3_countPairs_102 (by decide) rfl ?_
                          refine Wk.goto X 17 dX3_countPairs_105 (by decide) ?_
                          refine Wk.lvs (lv' := [(0, .ref (h 1)), (1, .int ls), (2, .int (bI ow)), (3, .int (nI (b + 1))), (4, .int (nI i)), (5, .int (nI (j + 1)))]) [4, 5, 6, 1, 7, 0] rfl ?_
                          exact ih17 (j + 1) (b + 1) (by omega) (by omega) (by simp [cpI, cpB, *] <;> omega)
                refine Wk.aload_n X 1 rfl dX3_countPairs_49 rfl ?_
                refine Wk.get X inX3 1 4 lk21 (fun _ h9 => h9) rfl rfl (by decide) rfl dX3_countPairs_50 ?_
                refine Wk.iload X 5 rfl dX3_countPairs_53 ?_
                refine Wk.lald X 5 1 rfl rfl (by omega) (by decide) dX3_countPairs_55 ?_
                refine Wk.aload_n X 1 rfl dX3_countPairs_56 rfl ?_
                refine Wk.get X inX3 1 4 lk21 (fun _ h9 => h9) rfl rfl (by decide) rfl dX3_countPairs_57 ?_
                refine Wk.iload X 6 rfl dX3_countPairs_60 ?_
                refine Wk.lald X 5 1 rfl rfl (by omega) (by decide) dX3_countPairs_62 ?_
                refine Wk.lcmp_gt X 71 dX3_countPairs_63 dX3_countPairs_64 (by decide) (fun c7 => ?_) (fun c7 => ?_)
                · skip
                  refine Wk.iconst (v := nI 0) X dX3_countPairs_71 (by decide) ?_
                  refine Wk.topi (y := bI (decide (sc i ≤ sc j))) (by simp [bI, nI_0, nIc1, *]) ?_
                  exact J72
                · skip
                  refine Wk.iconst (v := nI 1) X dX3_countPairs_67 (by decide) ?_
                  refine Wk.goto X 72 dX3_countPairs_68 (by decide) ?_
                  refine Wk.topi (y := bI (decide (sc i ≤ sc j))) (by simp [bI, nI_0, nIc1, *]) ?_
                  exact J72
              refine Wk.iload_n X 1 rfl dX3_countPairs_26 rfl ?_
              refine Wk.iconst (v := -1) X dX3_countPairs_27 (by decide) ?_
              refine Wk.icmp_eq X 42 dX3_countPairs_28 (by decide) (fun c8 => ?_) (fun c8 => ?_)
              · skip
                refine Wk.iconst (v := nI 1) X dX3_countPairs_42 (by decide) ?_
                refine Wk.goto X 47 dX3_countPairs_43 (by decide) ?_
                refine Wk.topi (y := bI (decide (ls = -1 ∨ li i = ls))) (by simp [bI, nI_0, nIc1, *]) ?_
                exact J47
              · skip
                refine Wk.aload_n X 0 rfl dX3_countPairs_31 rfl ?_
                refine Wk.get X inX3 1 1 lk9 (fun _ h9 => h9) rfl rfl (by decide) rfl dX3_countPairs_32 ?_
                refine Wk.iload X 4 rfl dX3_countPairs_35 ?_
                refine Wk.iald X 2 0 rfl rfl (by omega) (by decide) dX3_countPairs_37 ?_
                refine Wk.iload_n X 1 rfl dX3_countPairs_38 rfl ?_
                refine Wk.icmp_ne X 46 dX3_countPairs_39 (by decide) (fun c9 => ?_) (fun c9 => ?_)
                · skip
                  refine Wk.iconst (v := nI 0) X dX3_countPairs_46 (by decide) ?_
                  refine Wk.topi (y := bI (decide (ls = -1 ∨ li i = ls))) (by simp [bI, nI_0, nIc1, *]) ?_
                  exact J47
                · skip
                  refine Wk.iconst (v := nI 1) X dX3_countPairs_42 (by decide) ?_
                  refine Wk.goto X 47 dX3_countPairs_43 (by decide) ?_
                  refine Wk.topi (y := bI (decide (ls = -1 ∨ li i = ls))) (by simp [bI, nI_0, nIc1, *]) ?_
                  exact J47
        refine Wk.lvs (lv' := [(0, .ref (h 1)), (1, .int ls), (2, .int (bI ow)), (3, .int (nI a)), (4, .int (nI i)), (5, .int (nI 0))]) [1, 2, 3, 4, 5, 0] rfl ?_
        exact L17 (n + 1) 0 a (by omega) (by omega) (by rfl)
  refine Wk.lvs (lv' := [(0, .ref (h 1)), (1, .int ls), (2, .int (bI ow)), (3, .int (nI 0)), (4, .int (nI 0))]) [2, 3, 4, 1, 0] rfl ?_
  exact L5 (n + 1) 0 0 (by omega) (by omega) (by rfl)

set_option maxHeartbeats 4000000 in
set_option maxRecDepth 100000 in
theorem c_J7_rangeCheck_23922 (l : Launch) (dC : Nat → ClassId) (dI : Nat → Nat → Nat) (cI cJ cZ : ClassId) (z : Nat) (a : Nat) (b : Nat) (h1 : a ≤ b) (h2 : b ≤ z) (h3 : z < 2 ^ 31) : Cv l yJ7_rangeCheck_23922 wsJ7_rangeCheck_23922 0 0 (dC, dI) cl6 (TY cI cJ cZ) false [.int (nI z), .int (nI a), .int (nI b)] ([]) ([]) := by
  refine Cv.of (cc := cJ7_rangeCheck_23922) (maxL := 3) (own := RJ7) rfl (by decide) rfl (Nat.le_of_ble_eq_true rfl) ?_
  intro pg ev s0 md ar bw mt cd A X hr hk
  show Wk pg l ev _ s0 md ar bw mt cd 0 0 _ 3 (dC, dI) cl6 A 0 [(0, .int (nI z)), (1, .int (nI a)), (2, .int (nI b))] [] ([])
  refine Wk.iload_n X 1 rfl dJ7_rangeCheck_23922_0 rfl ?_
  refine Wk.iload_n X 2 rfl dJ7_rangeCheck_23922_1 rfl ?_
  refine Wk.icmpN_le X 46 (by omega) (by omega) dJ7_rangeCheck_23922_2 (by decide) (fun c1 => ?_) (fun c1 => ?_)
  · skip
    refine Wk.iload_n X 1 rfl dJ7_rangeCheck_23922_46 rfl ?_
    refine Wk.if_ge X 59 dJ7_rangeCheck_23922_47 (by decide) (fun c2 => ?_) (fun c2 => ?_)
    · skip
      refine Wk.iload_n X 2 rfl dJ7_rangeCheck_23922_59 rfl ?_
      refine Wk.iload_n X 0 rfl dJ7_rangeCheck_23922_60 rfl ?_
      refine Wk.icmpN_le X 73 (by omega) (by omega) dJ7_rangeCheck_23922_61 (by decide) (fun c3 => ?_) (fun c3 => ?_)
      · skip
        exact Wk.vret X hr hk rfl dJ7_rangeCheck_23922_73
      · skip
        exfalso; omega
    · skip
      exact absurd (nI_pos' (by omega)) c2
  · skip
    exfalso; omega

set_option maxHeartbeats 4000000 in
set_option maxRecDepth 100000 in
theorem c_J7_fill_fda19 (l : Launch) (dC : Nat → ClassId) (dI : Nat → Nat → Nat) (cI cJ cZ : ClassId) (h : Nat → Nat) (sz : Nat) (f : Nat → Int32) (a : Nat) (b : Nat) (v : Int32) (h1 : a ≤ b) (h2 : b ≤ sz) (h3 : sz < 2 ^ 31) : Cv l yJ7_fill_fda19 wsJ7_fill_fda19 1 22 (dC, dI) cl6 (TY cI cJ cZ) false [.ref (h 0), .int (nI a), .int (nI b), .int v] (Wf h cI cJ cZ sz f) (Wf h cI cJ cZ sz (filF f a v (b - a))) := by
  refine Cv.of (cc := cJ7_fill_fda19) (maxL := 5) (own := RJ7) rfl (by decide) rfl (Nat.le_of_ble_eq_true rfl) ?_
  intro pg ev s0 md ar bw mt cd A X hr hk
  show Wk pg l ev _ s0 md ar bw mt cd 0 0 _ 5 (dC, dI) cl6 A 0 [(0, .ref (h 0)), (1, .int (nI a)), (2, .int (nI b)), (3, .int v)] [] (Wf h cI cJ cZ sz f)
  refine Wk.aload_n X 0 rfl dJ7_fill_fda19_0 rfl ?_
  refine Wk.alen X 0 0 rfl rfl dJ7_fill_fda19_1 ?_
  refine Wk.iload_n X 1 rfl dJ7_fill_fda19_2 rfl ?_
  refine Wk.iload_n X 2 rfl dJ7_fill_fda19_3 rfl ?_
  refine Wk.callSv (n := 3) X (c_J7_rangeCheck_23922 l dC dI cI cJ cZ sz a b (by first | omega | assumption) (by first | omega | assumption) (by first | omega | assumption)) gJ7_fill_fda19_J7_rangeCheck_23922 rfl (by decide +kernel) (by decide) Fr.nil (fun h9 => h9) rfl rfl (Nat.le_of_ble_eq_true rfl) ⟨Nat.zero_le _, Nat.zero_le _⟩ dJ7_fill_fda19_4 ?_
  refine Wk.iload_n X 1 rfl dJ7_fill_fda19_7 rfl ?_
  refine Wk.istore (lv' := [(4, .int (nI a)), (0, .ref (h 0)), (1, .int (nI a)), (2, .int (nI b)), (3, .int v)]) X dJ7_fill_fda19_8 (by decide) rfl ?_
  have L10 : ∀ (fu10 : Nat) (k : Nat) (hq : b + 1 ≤ a + k + fu10) (hk0 : a + k ≤ b), Wk pg l ev ({ frames := 1, cells := 0, slots := 0, locals := 22 } : Room) s0 md ar bw mt cd 0 0 (QRv bw ar s0 (dC, dI) cl6 (TY cI cJ cZ) A (Wf h cI cJ cZ sz (filF f a v (b - a)))) 5 (dC, dI) cl6 A 10 [(0, .ref (h 0)), (1, .int (nI a)), (2, .int (nI b)), (3, .int v), (4, .int (nI (a + k)))] [] (Wf h cI cJ cZ sz (filF f a v k)) := by
    intro fu10
    induction fu10 with
    | zero => intro k hq hk0; exact absurd hq (by omega)
    | succ fu10 ih10 =>
      intro k hq hk0
      refine Wk.iload X 4 rfl dJ7_fill_fda19_10 ?_
      refine Wk.iload_n X 2 rfl dJ7_fill_fda19_12 rfl ?_
      refine Wk.icmpN_ge X 27 (by omega) (by omega) dJ7_fill_fda19_13 (by decide) (fun c1 => ?_) (fun c1 => ?_)
      · skip
        exact Wk.vret X hr hk (by rw [show b - a = k by omega]) dJ7_fill_fda19_27
      · skip
        refine Wk.aload_n X 0 rfl dJ7_fill_fda19_16 rfl ?_
        refine Wk.iload X 4 rfl dJ7_fill_fda19_17 ?_
        refine Wk.iload_n X 3 rfl dJ7_fill_fda19_19 rfl ?_
        refine Wk.iast (ws' := Wf h cI cJ cZ sz (upd (filF f a v k) (a + k) v)) X 0 0 rfl rfl (by omega) (by omega) rfl dJ7_fill_fda19_20 ?_
        refine Wk.iincN (n := 1) (lv' := [(4, .int (nI (a + k + 1))), (0, .ref (h 0)), (1, .int (nI a)), (2, .int (nI b)), (3, .int v)]) X 4 rfl dJ7_fill_fda19_21 (by decide) rfl ?_
        refine Wk.goto X 10 dJ7_fill_fda19_24 (by decide) ?_
        refine Wk.lvs (lv' := [(0, .ref (h 0)), (1, .int (nI a)), (2, .int (nI b)), (3, .int v), (4, .int (nI (a + k + 1)))]) [1, 2, 3, 4, 0] rfl ?_
        exact ih10 (k + 1) (by omega) (by omega)
  refine Wk.lvs (lv' := [(0, .ref (h 0)), (1, .int (nI a)), (2, .int (nI b)), (3, .int v), (4, .int (nI a))]) [1, 2, 3, 4, 0] rfl ?_
  exact L10 (b + 1) 0 (by omega) (by omega)
end
section
/-- from node k down, at most d steps: where the row comes to -/
def vfC (ki : Nat → Int32) (g : Nat → Bool) (b : Nat) : Nat → Nat → Nat
  | 0, k => k
  | d + 1, k => if ki (b + k) = nI 2 then vfC ki g b d (if g (b + k) = true then 2 * k + 1 else 2 * k + 2) else k
def gC (fe lm si nb : Nat → Int32) (r : Nat) : Nat → Bool := fun j => glC nb r (fe j).toNatClampNeg (lm j) (si j)
def smC (ki va : Nat → Int32) (g : Nat → Bool) : Nat → Int64
  | 0 => 0
  | k + 1 => smC ki va g k + (va (k * 15 + vfC ki g (k * 15) 3 0)).toInt64
def scoreC (ki fe lm si va nb : Nat → Int32) (t r : Nat) : Int64 := smC ki va (gC fe lm si nb r) t
def scT (sc f : Nat → Int64) : Nat → Nat → Int64
  | 0 => sc
  | k + 1 => vp_updL (scT sc f k) k (f k)
def gcC : Nat → Int64 → Int64 → Int64
  | 0, x, _ => x
  | k + 1, x, y => if y = 0 then x else gcC k y (x - x / y * y)
def redC (g x : Int64) : Int64 := if g ≤ 1 then x else x / g
def clC (ki : Nat → Int32) (a : Nat) : Nat → Nat
  | 0 => 0
  | k + 1 => if ki (a + k) = nI 1 then clC ki a k + 1 else clC ki a k
def ccC (ki fe : Nat → Int32) (f : Int32) : Nat → Nat
  | 0 => 0
  | k + 1 => if ki k = nI 2 ∧ fe k = f then ccC ki fe f k + 1 else ccC ki fe f k
def fdC (ki : Nat → Int32) (t : Nat) (x y : Int32) : Int32 := if inN x t = true ∧ inN y 15 = true ∧ ¬ ki (x.toNatClampNeg * 15 + y.toNatClampNeg) = 0 then nI (x.toNatClampNeg * 15 + y.toNatClampNeg) else -1
def ibC (f c s : Int32) (gu gl : Int64) (b1 b2 b3 : Int32) (bu bl : Int64) : Bool := if gu * bl = bu * gl then (if f = b1 then (if c = b2 then decide (¬ b3 ≤ s) else decide (¬ b2 ≤ c)) else decide (¬ b1 ≤ f)) else decide (¬ gu * bl ≤ bu * gl)
/-- is the offered cut taken -/
def ofC (f c s : Int32) (gu gl : Int64) (bf : Bool) (b1 b2 b3 : Int32) (bu bl : Int64) : Bool := !bf || ibC f c s gu gl b1 b2 b3 bu bl
set_option maxHeartbeats 4000000 in
set_option maxRecDepth 100000 in
theorem c_X3_forgetRow (l : Launch) (dC : Nat → ClassId) (dI : Nat → Nat → Nat) (cI cJ cZ : ClassId) (h : Nat → Nat) (n : Nat) (li : Nat → Int32) (gr : Nat → Int32) (nb : Nat → Int32) (sc : Nat → Int64) (t : Nat) (ki : Nat → Int32) (fe : Nat → Int32) (lm : Nat → Int32) (si : Nat → Int32) (va : Nat → Int32) (he : Nat → Int32) (up : Nat → Int64) (lo : Nat → Int64) (pu : Nat → Int32) (pl : Nat → Int32) (gh : Nat) (gs : Int32) (bf : Bool) (b1 : Int32) (b2 : Int32) (b3 : Int32) (bu : Int64) (bl : Int64) (se : Nat → Int32) (r : Nat) (hr0 : r < 25) : Cv l yX3_forgetRow wsX3_forgetRow 2 46 (dC, dI) cl6 (TY cI cJ cZ) false [.ref (h 1), .int (nI r)] (Wc h cI cJ cZ n li gr nb sc t ki fe lm si va he up lo pu pl gh gs bf b1 b2 b3 bu bl se) (Wc h cI cJ cZ n li gr (filF nb (r * 4) (-2147483648) 4) sc t ki fe lm si va he up lo pu pl gh gs bf b1 b2 b3 bu bl se) := by
  refine Cv.of (cc := cX3_forgetRow) (maxL := 2) (own := RX3) rfl (by decide) rfl (Nat.le_of_ble_eq_true rfl) ?_
  intro pg ev s0 md ar bw mt cd A X hr hk
  show Wk pg l ev _ s0 md ar bw mt cd 0 0 _ 2 (dC, dI) cl6 A 0 [(0, .ref (h 1)), (1, .int (nI r))] [] (Wc h cI cJ cZ n li gr nb sc t ki fe lm si va he up lo pu pl gh gs bf b1 b2 b3 bu bl se)
  have inX3 : ∀ w ∈ u_ws RX3 TX3 5, w ∈ wsX3_forgetRow := by decide +kernel
  have lk18 := X.w (.fieldLink RX3 18 "PairedTrees$Things" "numbers" "[I") (by decide +kernel)
  have kc37 := X.w (.constant RX3 37 (-2147483648)) (by decide +kernel)
  refine Wk.aload_n X 0 rfl dX3_forgetRow_0 rfl ?_
  refine Wk.get X inX3 1 3 lk18 (fun _ h9 => h9) rfl rfl (by decide) rfl dX3_forgetRow_1 ?_
  refine Wk.iload_n X 1 rfl dX3_forgetRow_4 rfl ?_
  refine Wk.iconst (v := nI 4) X dX3_forgetRow_5 (by decide) ?_
  refine Wk.imulN X dX3_forgetRow_6 ?_
  refine Wk.iload_n X 1 rfl dX3_forgetRow_7 rfl ?_
  refine Wk.iconst (v := nI 1) X dX3_forgetRow_8 (by decide) ?_
  refine Wk.iaddN X dX3_forgetRow_9 ?_
  refine Wk.iconst (v := nI 4) X dX3_forgetRow_10 (by decide) ?_
  refine Wk.imulN X dX3_forgetRow_11 ?_
  refine Wk.ldc X kc37 dX3_forgetRow_12 ?_
  refine Wk.callSv (n := 4) X (c_J7_fill_fda19 l dC dI cI cJ cZ (fun _ => h 4) 100 nb (r * 4) ((r + 1) * 4) (-2147483648) (by first | omega | assumption) (by first | omega | assumption) (by first | omega | assumption)) gX3_forgetRow_J7_fill_fda19 rfl (by decide +kernel) (by decide) (Fr.mk2 (ws' := Wc h cI cJ cZ n li gr (filF nb (r * 4) (-2147483648) (((r + 1) * 4) - (r * 4))) sc t ki fe lm si va he up lo pu pl gh gs bf b1 b2 b3 bu bl se) [4] [0, 1, 2, 3, 5, 6, 7, 8, 9, 10, 11, 12, 13, 14, 15, 16, 17, 18, 19] [0, 1, 2, 3, 19, 4, 5, 6, 7, 8, 9, 10, 11, 12, 13, 14, 15, 16, 17, 18] rfl rfl rfl rfl (by decide) rfl rfl) (fun h9 => h9) rfl rfl (Nat.le_of_ble_eq_true rfl) ⟨Nat.zero_le _, Nat.zero_le _⟩ dX3_forgetRow_14 ?_
  exact Wk.vret X hr hk (by rw [show (r + 1) * 4 - r * 4 = 4 by omega]) dX3_forgetRow_17

set_option maxHeartbeats 4000000 in
set_option maxRecDepth 100000 in
theorem c_X3_take (l : Launch) (dC : Nat → ClassId) (dI : Nat → Nat → Nat) (cI cJ cZ : ClassId) (h : Nat → Nat) (n : Nat) (li : Nat → Int32) (gr : Nat → Int32) (nb : Nat → Int32) (sc : Nat → Int64) (t : Nat) (ki : Nat → Int32) (fe : Nat → Int32) (lm : Nat → Int32) (si : Nat → Int32) (va : Nat → Int32) (he : Nat → Int32) (up : Nat → Int64) (lo : Nat → Int64) (pu : Nat → Int32) (pl : Nat → Int32) (gh : Nat) (gs : Int32) (bf : Bool) (b1 : Int32) (b2 : Int32) (b3 : Int32) (bu : Int64) (bl : Int64) (se : Nat → Int32) (ls : Int32) (gd : Int32) (hn0 : n < 24) : Ci l yX3_take wsX3_take 3 67 (dC, dI) cl6 (TY cI cJ cZ) false [.ref (h 1), .int ls, .int gd] (Wc h cI cJ cZ n li gr nb sc t ki fe lm si va he up lo pu pl gh gs bf b1 b2 b3 bu bl se) (nI n) (Wc h cI cJ cZ (n + 1) (upd li n ls) (upd gr n gd) (filF nb (n * 4) (-2147483648) 4) sc t ki fe lm si va he up lo pu pl gh gs bf b1 b2 b3 bu bl se) := by
  refine Ci.of (cc := cX3_take) (maxL := 4) (ty := .int) (own := RX3) rfl (by decide) rfl (Nat.le_of_ble_eq_true rfl) ?_
  intro pg ev s0 md ar bw mt cd A X hr hk
  show Wk pg l ev _ s0 md ar bw mt cd 0 0 _ 4 (dC, dI) cl6 A 0 [(0, .ref (h 1)), (1, .int ls), (2, .int gd)] [] (Wc h cI cJ cZ n li gr nb sc t ki fe lm si va he up lo pu pl gh gs bf b1 b2 b3 bu bl se)
  have inX3 : ∀ w ∈ u_ws RX3 TX3 5, w ∈ wsX3_take := by decide +kernel
  have lk9 := X.w (.fieldLink RX3 9 "PairedTrees$Things" "lists" "[I") (by decide +kernel)
  have lk15 := X.w (.fieldLink RX3 15 "PairedTrees$Things" "grades" "[I") (by decide +kernel)
  have lk25 := X.w (.fieldLink RX3 25 "PairedTrees$Things" "count" "I") (by decide +kernel)
  refine Wk.aload_n X 0 rfl dX3_take_0 rfl ?_
  refine Wk.get X inX3 1 0 lk25 (fun _ h9 => h9) rfl rfl (by decide) rfl dX3_take_1 ?_
  refine Wk.istore_n (lv' := [(3, .int (nI n)), (0, .ref (h 1)), (1, .int ls), (2, .int gd)]) X dX3_take_4 rfl (by decide) rfl ?_
  refine Wk.aload_n X 1 rfl dX3_take_5 rfl ?_
  refine Wk.get X inX3 1 1 lk9 (fun _ h9 => h9) rfl rfl (by decide) rfl dX3_take_6 ?_
  refine Wk.iload_n X 0 rfl dX3_take_9 rfl ?_
  refine Wk.iload_n X 2 rfl dX3_take_10 rfl ?_
  refine Wk.iast (ws' := Wc h cI cJ cZ n (upd li n ls) gr nb sc t ki fe lm si va he up lo pu pl gh gs bf b1 b2 b3 bu bl se) X 2 0 rfl rfl (by omega) (by decide) rfl dX3_take_11 ?_
  refine Wk.aload_n X 1 rfl dX3_take_12 rfl ?_
  refine Wk.get X inX3 1 2 lk15 (fun _ h9 => h9) rfl rfl (by decide) rfl dX3_take_13 ?_
  refine Wk.iload_n X 0 rfl dX3_take_16 rfl ?_
  refine Wk.iload_n X 3 rfl dX3_take_17 rfl ?_
  refine Wk.iast (ws' := Wc h cI cJ cZ n (upd li n ls) (upd gr n gd) nb sc t ki fe lm si va he up lo pu pl gh gs bf b1 b2 b3 bu bl se) X 3 0 rfl rfl (by omega) (by decide) rfl dX3_take_18 ?_
  refine Wk.aload_n X 1 rfl dX3_take_19 rfl ?_
  refine Wk.iload_n X 0 rfl dX3_take_20 rfl ?_
  refine Wk.callVv (n := 1) (q0 := 1) X (c_X3_forgetRow l dC dI cI cJ cZ h n (upd li n ls) (upd gr n gd) nb sc t ki fe lm si va he up lo pu pl gh gs bf b1 b2 b3 bu bl se n (by first | omega | assumption)) gX3_take_X3_forgetRow rfl (by decide +kernel) (by decide) Fr.all (fun h9 => h9) rfl rfl rfl rfl (Nat.le_of_ble_eq_true rfl) ⟨Nat.zero_le _, Nat.zero_le _⟩ dX3_take_21 ?_
  refine Wk.aload_n X 1 rfl dX3_take_24 rfl ?_
  refine Wk.dup X dX3_take_25 rfl ?_
  refine Wk.get X inX3 1 0 lk25 (fun _ h9 => h9) rfl rfl (by decide) rfl dX3_take_26 ?_
  refine Wk.iconst (v := nI 1) X dX3_take_29 (by decide) ?_
  refine Wk.iaddN X dX3_take_30 ?_
  refine Wk.put (ws' := Wc h cI cJ cZ (n + 1) (upd li n ls) (upd gr n gd) (filF nb (n * 4) (-2147483648) 4) sc t ki fe lm si va he up lo pu pl gh gs bf b1 b2 b3 bu bl se) X inX3 tyX3 tyX3_ok nmX3 1 0 lk25 (fun _ h9 => h9) rfl rfl (by decide) rfl (tyX3_ok 0 (by decide)) rfl rfl (Nat.le_of_ble_eq_true rfl) rfl dX3_take_31 ?_
  refine Wk.iload_n X 0 rfl dX3_take_34 rfl ?_
  exact Wk.iret X hr hk (by first | rfl | omega | (simp [*]; done)) rfl dX3_take_35

set_option maxHeartbeats 4000000 in
set_option maxRecDepth 100000 in
theorem c_X1_has (l : Launch) (dC : Nat → ClassId) (dI : Nat → Nat → Nat) (cI cJ cZ : ClassId) (h : Nat → Nat) (n : Nat) (li : Nat → Int32) (gr : Nat → Int32) (nb : Nat → Int32) (sc : Nat → Int64) (t : Nat) (ki : Nat → Int32) (fe : Nat → Int32) (lm : Nat → Int32) (si : Nat → Int32) (va : Nat → Int32) (he : Nat → Int32) (up : Nat → Int64) (lo : Nat → Int64) (pu : Nat → Int32) (pl : Nat → Int32) (gh : Nat) (gs : Int32) (bf : Bool) (b1 : Int32) (b2 : Int32) (b3 : Int32) (bu : Int64) (bl : Int64) (se : Nat → Int32) (x : Int32) : Ci l yX1_has wsX1_has 0 0 (dC, dI) cl6 (TY cI cJ cZ) false [.ref (h 6), .int x] (Wc h cI cJ cZ n li gr nb sc t ki fe lm si va he up lo pu pl gh gs bf b1 b2 b3 bu bl se) (bI (inN x t)) (Wc h cI cJ cZ n li gr nb sc t ki fe lm si va he up lo pu pl gh gs bf b1 b2 b3 bu bl se) := by
  refine Ci.of (cc := cX1_has) (maxL := 2) (ty := .boolean) (own := RX1) rfl (by decide) rfl (Nat.le_of_ble_eq_true rfl) ?_
  intro pg ev s0 md ar bw mt cd A X hr hk
  show Wk pg l ev _ s0 md ar bw mt cd 0 0 _ 2 (dC, dI) cl6 A 0 [(0, .ref (h 6)), (1, .int x)] [] (Wc h cI cJ cZ n li gr nb sc t ki fe lm si va he up lo pu pl gh gs bf b1 b2 b3 bu bl se)
  have inX1 : ∀ w ∈ u_ws RX1 TX1 9, w ∈ wsX1_has := by decide +kernel
  have lk37 := X.w (.fieldLink RX1 37 "PairedTrees$Forest" "count" "I") (by decide +kernel)
  refine Wk.iload_n X 1 rfl dX1_has_0 rfl ?_
  refine Wk.if_lt X 16 dX1_has_1 (by decide) (fun c1 => ?_) (fun c1 => ?_)
  · skip
    refine Wk.iconst (v := nI 0) X dX1_has_16 (by decide) ?_
    exact Wk.zret X hr hk (by decide) (by simp [inN, bI, nI_0, nIc1, *]) rfl dX1_has_17
  · skip
    refine Wk.iload_n X 1 rfl dX1_has_4 rfl ?_
    refine Wk.aload_n X 0 rfl dX1_has_5 rfl ?_
    refine Wk.get X inX1 6 0 lk37 (fun _ h9 => h9) rfl rfl (by decide) rfl dX1_has_6 ?_
    refine Wk.icmp_ge X 16 dX1_has_9 (by decide) (fun c2 => ?_) (fun c2 => ?_)
    · skip
      refine Wk.iconst (v := nI 0) X dX1_has_16 (by decide) ?_
      exact Wk.zret X hr hk (by decide) (by simp [inN, bI, nI_0, nIc1, *]) rfl dX1_has_17
    · skip
      refine Wk.iconst (v := nI 1) X dX1_has_12 (by decide) ?_
      refine Wk.goto X 17 dX1_has_13 (by decide) ?_
      exact Wk.zret X hr hk (by decide) (by simp [inN, bI, nI_0, nIc1, *]) rfl dX1_has_17

set_option maxHeartbeats 4000000 in
set_option maxRecDepth 100000 in
theorem c_X1_find (l : Launch) (dC : Nat → ClassId) (dI : Nat → Nat → Nat) (cI cJ cZ : ClassId) (h : Nat → Nat) (n : Nat) (li : Nat → Int32) (gr : Nat → Int32) (nb : Nat → Int32) (sc : Nat → Int64) (t : Nat) (ki : Nat → Int32) (fe : Nat → Int32) (lm : Nat → Int32) (si : Nat → Int32) (va : Nat → Int32) (he : Nat → Int32) (up : Nat → Int64) (lo : Nat → Int64) (pu : Nat → Int32) (pl : Nat → Int32) (gh : Nat) (gs : Int32) (bf : Bool) (b1 : Int32) (b2 : Int32) (b3 : Int32) (bu : Int64) (bl : Int64) (se : Nat → Int32) (x : Int32) (y : Int32) (ht0 : t ≤ 20) : Ci l yX1_find wsX1_find 1 21 (dC, dI) cl6 (TY cI cJ cZ) false [.ref (h 6), .int x, .int y] (Wc h cI cJ cZ n li gr nb sc t ki fe lm si va he up lo pu pl gh gs bf b1 b2 b3 bu bl se) (fdC ki t x y) (Wc h cI cJ cZ n li gr nb sc t ki fe lm si va he up lo pu pl gh gs bf b1 b2 b3 bu bl se) := by
  refine Ci.of (cc := cX1_find) (maxL := 4) (ty := .int) (own := RX1) rfl (by decide) rfl (Nat.le_of_ble_eq_true rfl) ?_
  intro pg ev s0 md ar bw mt cd A X hr hk
  show Wk pg l ev _ s0 md ar bw mt cd 0 0 _ 4 (dC, dI) cl6 A 0 [(0, .ref (h 6)), (1, .int x), (2, .int y)] [] (Wc h cI cJ cZ n li gr nb sc t ki fe lm si va he up lo pu pl gh gs bf b1 b2 b3 bu bl se)
  have inX1 : ∀ w ∈ u_ws RX1 TX1 9, w ∈ wsX1_find := by decide +kernel
  have lk9 := X.w (.fieldLink RX1 9 "PairedTrees$Forest" "kinds" "[I") (by decide +kernel)
  refine Wk.aload_n X 0 rfl dX1_find_0 rfl ?_
  refine Wk.iload_n X 1 rfl dX1_find_1 rfl ?_
  refine Wk.callVi (n := 1) (q0 := 6) X (c_X1_has l dC dI cI cJ cZ h n li gr nb sc t ki fe lm si va he up lo pu pl gh gs bf b1 b2 b3 bu bl se x) gX1_find_X1_has rfl (by decide +kernel) (by decide) Fr.all (fun h9 => h9) rfl rfl rfl rfl (Nat.le_of_ble_eq_true rfl) ⟨Nat.zero_le _, Nat.zero_le _⟩ dX1_find_2 ?_
  refine Wk.ifB_eq X 18 dX1_find_5 (by decide) (fun c1 => ?_) (fun c1 => ?_)
  · skip
    refine Wk.iconst (v := -1) X dX1_find_18 (by decide) ?_
    exact Wk.iret X hr hk (by first | (simp [fdC, *]; done) | (have h9 : inN y 15 = false := (by simp [inN, *]); simp [fdC, *])) rfl dX1_find_19
  · skip
    refine Wk.iload_n X 2 rfl dX1_find_8 rfl ?_
    refine Wk.if_lt X 18 dX1_find_9 (by decide) (fun c2 => ?_) (fun c2 => ?_)
    · skip
      refine Wk.iconst (v := -1) X dX1_find_18 (by decide) ?_
      exact Wk.iret X hr hk (by first | (simp [fdC, *]; done) | (have h9 : inN y 15 = false := (by simp [inN, *]); simp [fdC, *])) rfl dX1_find_19
    · skip
      refine Wk.iload_n X 2 rfl dX1_find_12 rfl ?_
      refine Wk.bipush (v := nI 15) X dX1_find_13 (by decide) ?_
      refine Wk.icmp_lt X 20 dX1_find_15 (by decide) (fun c3 => ?_) (fun c3 => ?_)
      · skip
        obtain ⟨a, ha, rfl⟩ := inN_t (by omega) c1
        obtain ⟨b, hb, rfl⟩ := inN_t (x := y) (n := 15) (by decide) (by simp [inN, *]; done)
        refine Wk.iload_n X 1 rfl dX1_find_20 rfl ?_
        refine Wk.bipush (v := nI 15) X dX1_find_21 (by decide) ?_
        refine Wk.imulN X dX1_find_23 ?_
        refine Wk.iload_n X 2 rfl dX1_find_24 rfl ?_
        refine Wk.iaddN X dX1_find_25 ?_
        refine Wk.istore_n (lv' := [(3, .int (nI (a * 15 + b))), (0, .ref (h 6)), (1, .int (nI a)), (2, .int (nI b))]) X dX1_find_26 rfl (by decide) rfl ?_
        refine Wk.aload_n X 1 rfl dX1_find_27 rfl ?_
        refine Wk.get X inX1 6 1 lk9 (fun _ h9 => h9) rfl rfl (by decide) rfl dX1_find_28 ?_
        refine Wk.iload_n X 0 rfl dX1_find_31 rfl ?_
        refine Wk.iald X 7 0 rfl rfl (by omega) (by decide) dX1_find_32 ?_
        refine Wk.if_ne X 40 dX1_find_33 (by decide) (fun c4 => ?_) (fun c4 => ?_)
        · skip
          refine Wk.iload_n X 0 rfl dX1_find_40 rfl ?_
          exact Wk.iret X hr hk (by simp [fdC, inN_nI ha (by omega), inN_nI hb (by omega), nI_clamp (show a < 2 ^ 31 by omega), nI_clamp (show b < 2 ^ 31 by omega), *]) rfl dX1_find_41
        · skip
          refine Wk.iconst (v := -1) X dX1_find_36 (by decide) ?_
          refine Wk.goto X 41 dX1_find_37 (by decide) ?_
          exact Wk.iret X hr hk (by simp [fdC, inN_nI ha (by omega), inN_nI hb (by omega), nI_clamp (show a < 2 ^ 31 by omega), nI_clamp (show b < 2 ^ 31 by omega), *]) rfl dX1_find_41
      · skip
        refine Wk.iconst (v := -1) X dX1_find_18 (by decide) ?_
        exact Wk.iret X hr hk (by first | (simp [fdC, *]; done) | (have h9 : inN y 15 = false := (by simp [inN, *]); simp [fdC, *])) rfl dX1_find_19

set_option maxHeartbeats 4000000 in
set_option maxRecDepth 100000 in
theorem c_X1_addTree (l : Launch) (dC : Nat → ClassId) (dI : Nat → Nat → Nat) (cI cJ cZ : ClassId) (h : Nat → Nat) (n : Nat) (li : Nat → Int32) (gr : Nat → Int32) (nb : Nat → Int32) (sc : Nat → Int64) (t : Nat) (ki : Nat → Int32) (fe : Nat → Int32) (lm : Nat → Int32) (si : Nat → Int32) (va : Nat → Int32) (he : Nat → Int32) (up : Nat → Int64) (lo : Nat → Int64) (pu : Nat → Int32) (pl : Nat → Int32) (gh : Nat) (gs : Int32) (bf : Bool) (b1 : Int32) (b2 : Int32) (b3 : Int32) (bu : Int64) (bl : Int64) (se : Nat → Int32) (ht0 : t < 20) : Ci l yX1_addTree wsX1_addTree 2 46 (dC, dI) cl6 (TY cI cJ cZ) false [.ref (h 6)] (Wc h cI cJ cZ n li gr nb sc t ki fe lm si va he up lo pu pl gh gs bf b1 b2 b3 bu bl se) (nI t) (Wc h cI cJ cZ n li gr nb sc (t + 1) (filF ki (t * 15) (nI 0) 15) fe lm si va he up lo pu pl gh gs bf b1 b2 b3 bu bl se) := by
  refine Ci.of (cc := cX1_addTree) (maxL := 2) (ty := .int) (own := RX1) rfl (by decide) rfl (Nat.le_of_ble_eq_true rfl) ?_
  intro pg ev s0 md ar bw mt cd A X hr hk
  show Wk pg l ev _ s0 md ar bw mt cd 0 0 _ 2 (dC, dI) cl6 A 0 [(0, .ref (h 6))] [] (Wc h cI cJ cZ n li gr nb sc t ki fe lm si va he up lo pu pl gh gs bf b1 b2 b3 bu bl se)
  have inX1 : ∀ w ∈ u_ws RX1 TX1 9, w ∈ wsX1_addTree := by decide +kernel
  have lk9 := X.w (.fieldLink RX1 9 "PairedTrees$Forest" "kinds" "[I") (by decide +kernel)
  have lk37 := X.w (.fieldLink RX1 37 "PairedTrees$Forest" "count" "I") (by decide +kernel)
  refine Wk.aload_n X 0 rfl dX1_addTree_0 rfl ?_
  refine Wk.get X inX1 6 0 lk37 (fun _ h9 => h9) rfl rfl (by decide) rfl dX1_addTree_1 ?_
  refine Wk.istore_n (lv' := [(1, .int (nI t)), (0, .ref (h 6))]) X dX1_addTree_4 rfl (by decide) rfl ?_
  refine Wk.aload_n X 1 rfl dX1_addTree_5 rfl ?_
  refine Wk.get X inX1 6 1 lk9 (fun _ h9 => h9) rfl rfl (by decide) rfl dX1_addTree_6 ?_
  refine Wk.iload_n X 0 rfl dX1_addTree_9 rfl ?_
  refine Wk.bipush (v := nI 15) X dX1_addTree_10 (by decide) ?_
  refine Wk.imulN X dX1_addTree_12 ?_
  refine Wk.iload_n X 0 rfl dX1_addTree_13 rfl ?_
  refine Wk.iconst (v := nI 1) X dX1_addTree_14 (by decide) ?_
  refine Wk.iaddN X dX1_addTree_15 ?_
  refine Wk.bipush (v := nI 15) X dX1_addTree_16 (by decide) ?_
  refine Wk.imulN X dX1_addTree_18 ?_
  refine Wk.iconst (v := nI 0) X dX1_addTree_19 (by decide) ?_
  refine Wk.callSv (n := 4) X (c_J7_fill_fda19 l dC dI cI cJ cZ (fun _ => h 7) 300 ki (t * 15) ((t + 1) * 15) (nI 0) (by first | omega | assumption) (by first | omega | assumption) (by first | omega | assumption)) gX1_addTree_J7_fill_fda19 rfl (by decide +kernel) (by decide) (Fr.mk2 (ws' := Wc h cI cJ cZ n li gr nb sc t (filF ki (t * 15) (nI 0) (((t + 1) * 15) - (t * 15))) fe lm si va he up lo pu pl gh gs bf b1 b2 b3 bu bl se) [7] [0, 1, 2, 3, 4, 5, 6, 8, 9, 10, 11, 12, 13, 14, 15, 16, 17, 18, 19] [0, 1, 2, 3, 4, 5, 6, 19, 7, 8, 9, 10, 11, 12, 13, 14, 15, 16, 17, 18] rfl rfl rfl rfl (by decide) rfl rfl) (fun h9 => h9) rfl rfl (Nat.le_of_ble_eq_true rfl) ⟨Nat.zero_le _, Nat.zero_le _⟩ dX1_addTree_20 ?_
  refine Wk.aload_n X 1 rfl dX1_addTree_23 rfl ?_
  refine Wk.dup X dX1_addTree_24 rfl ?_
  refine Wk.get X inX1 6 0 lk37 (fun _ h9 => h9) rfl rfl (by decide) rfl dX1_addTree_25 ?_
  refine Wk.iconst (v := nI 1) X dX1_addTree_28 (by decide) ?_
  refine Wk.iaddN X dX1_addTree_29 ?_
  refine Wk.put (ws' := Wc h cI cJ cZ n li gr nb sc (t + 1) (filF ki (t * 15) (nI 0) (((t + 1) * 15) - (t * 15))) fe lm si va he up lo pu pl gh gs bf b1 b2 b3 bu bl se) X inX1 tyX1 tyX1_ok nmX1 6 0 lk37 (fun _ h9 => h9) rfl rfl (by decide) rfl (tyX1_ok 0 (by decide)) rfl rfl (Nat.le_of_ble_eq_true rfl) rfl dX1_addTree_30 ?_
  refine Wk.iload_n X 0 rfl dX1_addTree_33 rfl ?_
  exact Wk.iret X hr hk (by first | rfl | omega | (simp [*]; done)) (by rw [show (t + 1) * 15 - t * 15 = 15 by omega]) dX1_addTree_34

set_option maxHeartbeats 4000000 in
set_option maxRecDepth 100000 in
theorem c_X1_commonDivisor (l : Launch) (dC : Nat → ClassId) (dI : Nat → Nat → Nat) (cI cJ cZ : ClassId) (a : Int64) (b : Int64) : Cl l yX1_commonDivisor wsX1_commonDivisor 0 0 (dC, dI) cl6 (TY cI cJ cZ) false [.long a, .long b] ([]) (gcC 100 a b) ([]) := by
  refine Cl.of (cc := cX1_commonDivisor) (maxL := 11) (ty := .long) (own := RX1) rfl (by decide) rfl (Nat.le_of_ble_eq_true rfl) ?_
  intro pg ev s0 md ar bw mt cd A X hr hk
  show Wk pg l ev _ s0 md ar bw mt cd 0 0 _ 11 (dC, dI) cl6 A 0 [(0, .long a), (2, .long b)] [] ([])
  refine Wk.lload_n X 0 rfl dX1_commonDivisor_0 rfl ?_
  refine Wk.lstore (lv' := [(4, .long a), (0, .long a), (2, .long b)]) X dX1_commonDivisor_1 (by decide) rfl ?_
  refine Wk.lload_n X 2 rfl dX1_commonDivisor_3 rfl ?_
  refine Wk.lstore (lv' := [(6, .long b), (4, .long a), (0, .long a), (2, .long b)]) X dX1_commonDivisor_4 (by decide) rfl ?_
  refine Wk.iconst (v := nI 0) X dX1_commonDivisor_6 (by decide) ?_
  refine Wk.istore (lv' := [(8, .int (nI 0)), (6, .long b), (4, .long a), (0, .long a), (2, .long b)]) X dX1_commonDivisor_7 (by decide) rfl ?_
  have L9 : ∀ (fu9 : Nat) (k : Nat) (x : Int64) (y : Int64) (hq : 101 ≤ k + fu9) (hk0 : k ≤ 100) (hv : gcC (100 - k) x y = gcC 100 a b), Wk pg l ev ({ frames := 0, cells := 0, slots := 0, locals := 0 } : Room) s0 md ar bw mt cd 0 0 (QRl bw ar s0 (dC, dI) cl6 (TY cI cJ cZ) A (gcC 100 a b) ([])) 11 (dC, dI) cl6 A 9 [(4, .long x), (6, .long y), (8, .int (nI k))] [] ([]) := by
    intro fu9
    induction fu9 with
    | zero => intro k x y hq hk0 hv; exact absurd hq (by omega)
    | succ fu9 ih9 =>
      intro k x y hq hk0 hv
      refine Wk.iload X 2 rfl dX1_commonDivisor_9 ?_
      refine Wk.bipush (v := nI 100) X dX1_commonDivisor_11 (by decide) ?_
      refine Wk.icmpN_ge X 44 (by omega) (by omega) dX1_commonDivisor_13 (by decide) (fun c1 => ?_) (fun c1 => ?_)
      · skip
        refine Wk.lload X 0 rfl dX1_commonDivisor_44 ?_
        exact Wk.lret X hr hk (by first | (rw [← hv, show 100 - k = 0 by omega]; rfl) | (rw [← hv, show 100 - k = (100 - (k + 1)) + 1 by omega]; simp [gcC, *])) rfl dX1_commonDivisor_46
      · skip
        refine Wk.lload X 1 rfl dX1_commonDivisor_16 ?_
        refine Wk.lconst (v := 0) X dX1_commonDivisor_18 (by decide) ?_
        refine Wk.lcmp_eq X 44 dX1_commonDivisor_19 dX1_commonDivisor_20 (by decide) (fun c2 => ?_) (fun c2 => ?_)
        · skip
          refine Wk.lload X 0 rfl dX1_commonDivisor_44 ?_
          exact Wk.lret X hr hk (by first | (rw [← hv, show 100 - k = 0 by omega]; rfl) | (rw [← hv, show 100 - k = (100 - (k + 1)) + 1 by omega]; simp [gcC, *])) rfl dX1_commonDivisor_46
        · skip
          refine Wk.lload X 0 rfl dX1_commonDivisor_23 ?_
          refine Wk.lload X 1 rfl dX1_commonDivisor_25 ?_
          refine Wk.lrem X dX1_commonDivisor_27 (by assumption) ?_
          refine Wk.lstore (lv' := [(9, .long (x - x / y * y)), (4, .long x), (6, .long y), (8, .int (nI k))]) X dX1_commonDivisor_28 (by decide) rfl ?_
          refine Wk.lload X 2 rfl dX1_commonDivisor_30 ?_
          refine Wk.lstore (lv' := [(4, .long y), (9, .long (x - x / y * y)), (6, .long y), (8, .int (nI k))]) X dX1_commonDivisor_32 (by decide) rfl ?_
          refine Wk.lload X 1 rfl dX1_commonDivisor_34 ?_
          refine Wk.lstore (lv' := [(6, .long (x - x / y * y)), (4, .long y), (9, .long (x - x / y * y)), (8, .int (nI k))]) X dX1_commonDivisor_36 (by decide) rfl ?_
          refine Wk.iincN (n := 1) (lv' := [(8, .int (nI (k + 1))), (6, .long (x - x / y * y)), (4, .long y), (9, .long (x - x / y * y))]) X 3 rfl dX1_commonDivisor_38 (by decide) rfl ?_
          refine Wk.goto X 9 dX1_commonDivisor_41 (by decide) ?_
          refine Wk.lvs (lv' := [(4, .long y), (6, .long (x - x / y * y)), (8, .int (nI (k + 1)))]) [2, 1, 0] rfl ?_
          exact ih9 (k + 1) y (x - x / y * y) (by omega) (by omega) (by rw [← hv, show 100 - k = (100 - (k + 1)) + 1 by omega]; simp [gcC, *])
  refine Wk.lvs (lv' := [(4, .long a), (6, .long b), (8, .int (nI 0))]) [2, 1, 0] rfl ?_
  exact L9 101 0 a b (by omega) (by omega) (by rfl)

set_option maxHeartbeats 4000000 in
set_option maxRecDepth 100000 in
theorem c_X1_setCut (l : Launch) (dC : Nat → ClassId) (dI : Nat → Nat → Nat) (cI cJ cZ : ClassId) (h : Nat → Nat) (n : Nat) (li : Nat → Int32) (gr : Nat → Int32) (nb : Nat → Int32) (sc : Nat → Int64) (t : Nat) (ki : Nat → Int32) (fe : Nat → Int32) (lm : Nat → Int32) (si : Nat → Int32) (va : Nat → Int32) (he : Nat → Int32) (up : Nat → Int64) (lo : Nat → Int64) (pu : Nat → Int32) (pl : Nat → Int32) (gh : Nat) (gs : Int32) (bf : Bool) (b1 : Int32) (b2 : Int32) (b3 : Int32) (bu : Int64) (bl : Int64) (se : Nat → Int32) (at1 : Nat) (hd : Nat) (ha0 : at1 < 300) : Cv l yX1_setCut wsX1_setCut 1 30 (dC, dI) cl6 (TY cI cJ cZ) false [.ref (h 6), .int (nI at1), .int (nI hd), .ref (h 18)] (Wc h cI cJ cZ n li gr nb sc t ki fe lm si va he up lo pu pl gh gs bf b1 b2 b3 bu bl se) (Wc h cI cJ cZ n li gr nb sc t (upd ki at1 (nI 2)) (upd fe at1 b1) (upd lm at1 b2) (upd si at1 b3) va (upd he at1 (nI hd)) (vp_updL up at1 (redC (gcC 100 bu bl) bu)) (vp_updL lo at1 (redC (gcC 100 bu bl) bl)) pu pl gh gs bf b1 b2 b3 bu bl se) := by
  refine Cv.of (cc := cX1_setCut) (maxL := 6) (own := RX1) rfl (by decide) rfl (Nat.le_of_ble_eq_true rfl) ?_
  intro pg ev s0 md ar bw mt cd A X hr hk
  show Wk pg l ev _ s0 md ar bw mt cd 0 0 _ 6 (dC, dI) cl6 A 0 [(0, .ref (h 6)), (1, .int (nI at1)), (2, .int (nI hd)), (3, .ref (h 18))] [] (Wc h cI cJ cZ n li gr nb sc t ki fe lm si va he up lo pu pl gh gs bf b1 b2 b3 bu bl se)
  have inX0 : ∀ w ∈ u_ws RX0 TX0 6, w ∈ wsX1_setCut := by decide +kernel
  have inX1 : ∀ w ∈ u_ws RX1 TX1 9, w ∈ wsX1_setCut := by decide +kernel
  have lk9 := X.w (.fieldLink RX1 9 "PairedTrees$Forest" "kinds" "[I") (by decide +kernel)
  have lk15 := X.w (.fieldLink RX1 15 "PairedTrees$Forest" "features" "[I") (by decide +kernel)
  have lk18 := X.w (.fieldLink RX1 18 "PairedTrees$Forest" "limits" "[I") (by decide +kernel)
  have lk21 := X.w (.fieldLink RX1 21 "PairedTrees$Forest" "sides" "[I") (by decide +kernel)
  have lk27 := X.w (.fieldLink RX1 27 "PairedTrees$Forest" "held" "[I") (by decide +kernel)
  have lk30 := X.w (.fieldLink RX1 30 "PairedTrees$Forest" "uppers" "[J") (by decide +kernel)
  have lk34 := X.w (.fieldLink RX1 34 "PairedTrees$Forest" "lowers" "[J") (by decide +kernel)
  have lk51 := X.w (.fieldLink RX1 51 "PairedTrees$BestCut" "feature" "I") (by decide +kernel)
  have lk56 := X.w (.fieldLink RX1 56 "PairedTrees$BestCut" "limit" "I") (by decide +kernel)
  have lk59 := X.w (.fieldLink RX1 59 "PairedTrees$BestCut" "side" "I") (by decide +kernel)
  have lk62 := X.w (.fieldLink RX1 62 "PairedTrees$BestCut" "upper" "J") (by decide +kernel)
  have lk66 := X.w (.fieldLink RX1 66 "PairedTrees$BestCut" "lower" "J") (by decide +kernel)
  refine Wk.aload_n X 0 rfl dX1_setCut_0 rfl ?_
  refine Wk.get X inX1 6 1 lk9 (fun _ h9 => h9) rfl rfl (by decide) rfl dX1_setCut_1 ?_
  refine Wk.iload_n X 1 rfl dX1_setCut_4 rfl ?_
  refine Wk.iconst (v := nI 2) X dX1_setCut_5 (by decide) ?_
  refine Wk.iast (ws' := Wc h cI cJ cZ n li gr nb sc t (upd ki at1 (nI 2)) fe lm si va he up lo pu pl gh gs bf b1 b2 b3 bu bl se) X 7 0 rfl rfl (by omega) (by decide) rfl dX1_setCut_6 ?_
  refine Wk.aload_n X 0 rfl dX1_setCut_7 rfl ?_
  refine Wk.get X inX1 6 6 lk27 (fun _ h9 => h9) rfl rfl (by decide) rfl dX1_setCut_8 ?_
  refine Wk.iload_n X 1 rfl dX1_setCut_11 rfl ?_
  refine Wk.iload_n X 2 rfl dX1_setCut_12 rfl ?_
  refine Wk.iast (ws' := Wc h cI cJ cZ n li gr nb sc t (upd ki at1 (nI 2)) fe lm si va (upd he at1 (nI hd)) up lo pu pl gh gs bf b1 b2 b3 bu bl se) X 12 0 rfl rfl (by omega) (by decide) rfl dX1_setCut_13 ?_
  refine Wk.aload_n X 0 rfl dX1_setCut_14 rfl ?_
  refine Wk.get X inX1 6 2 lk15 (fun _ h9 => h9) rfl rfl (by decide) rfl dX1_setCut_15 ?_
  refine Wk.iload_n X 1 rfl dX1_setCut_18 rfl ?_
  refine Wk.aload_n X 3 rfl dX1_setCut_19 rfl ?_
  refine Wk.get X inX0 18 1 lk51 (fun _ h9 => h9) rfl rfl (by decide) rfl dX1_setCut_20 ?_
  refine Wk.iast (ws' := Wc h cI cJ cZ n li gr nb sc t (upd ki at1 (nI 2)) (upd fe at1 b1) lm si va (upd he at1 (nI hd)) up lo pu pl gh gs bf b1 b2 b3 bu bl se) X 8 0 rfl rfl (by omega) (by decide) rfl dX1_setCut_23 ?_
  refine Wk.aload_n X 0 rfl dX1_setCut_24 rfl ?_
  refine Wk.get X inX1 6 3 lk18 (fun _ h9 => h9) rfl rfl (by decide) rfl dX1_setCut_25 ?_
  refine Wk.iload_n X 1 rfl dX1_setCut_28 rfl ?_
  refine Wk.aload_n X 3 rfl dX1_setCut_29 rfl ?_
  refine Wk.get X inX0 18 2 lk56 (fun _ h9 => h9) rfl rfl (by decide) rfl dX1_setCut_30 ?_
  refine Wk.iast (ws' := Wc h cI cJ cZ n li gr nb sc t (upd ki at1 (nI 2)) (upd fe at1 b1) (upd lm at1 b2) si va (upd he at1 (nI hd)) up lo pu pl gh gs bf b1 b2 b3 bu bl se) X 9 0 rfl rfl (by omega) (by decide) rfl dX1_setCut_33 ?_
  refine Wk.aload_n X 0 rfl dX1_setCut_34 rfl ?_
  refine Wk.get X inX1 6 4 lk21 (fun _ h9 => h9) rfl rfl (by decide) rfl dX1_setCut_35 ?_
  refine Wk.iload_n X 1 rfl dX1_setCut_38 rfl ?_
  refine Wk.aload_n X 3 rfl dX1_setCut_39 rfl ?_
  refine Wk.get X inX0 18 3 lk59 (fun _ h9 => h9) rfl rfl (by decide) rfl dX1_setCut_40 ?_
  refine Wk.iast (ws' := Wc h cI cJ cZ n li gr nb sc t (upd ki at1 (nI 2)) (upd fe at1 b1) (upd lm at1 b2) (upd si at1 b3) va (upd he at1 (nI hd)) up lo pu pl gh gs bf b1 b2 b3 bu bl se) X 10 0 rfl rfl (by omega) (by decide) rfl dX1_setCut_43 ?_
  refine Wk.aload_n X 3 rfl dX1_setCut_44 rfl ?_
  refine Wk.get X inX0 18 4 lk62 (fun _ h9 => h9) rfl rfl (by decide) rfl dX1_setCut_45 ?_
  refine Wk.aload_n X 3 rfl dX1_setCut_48 rfl ?_
  refine Wk.get X inX0 18 5 lk66 (fun _ h9 => h9) rfl rfl (by decide) rfl dX1_setCut_49 ?_
  refine Wk.callSl (n := 2) X (c_X1_commonDivisor l dC dI cI cJ cZ bu bl) gX1_setCut_X1_commonDivisor rfl (by decide +kernel) (by decide) Fr.nil (fun h9 => h9) rfl rfl (Nat.le_of_ble_eq_true rfl) ⟨Nat.zero_le _, Nat.zero_le _⟩ dX1_setCut_52 ?_
  refine Wk.lstore (lv' := [(4, .long (gcC 100 bu bl)), (0, .ref (h 6)), (1, .int (nI at1)), (2, .int (nI hd)), (3, .ref (h 18))]) X dX1_setCut_55 (by decide) rfl ?_
  refine Wk.aload_n X 1 rfl dX1_setCut_57 rfl ?_
  refine Wk.get X inX1 6 7 lk30 (fun _ h9 => h9) rfl rfl (by decide) rfl dX1_setCut_58 ?_
  refine Wk.iload_n X 2 rfl dX1_setCut_61 rfl ?_
  have J83 : Wk pg l ev ({ frames := 1, cells := 0, slots := 0, locals := 30 } : Room) s0 md ar bw mt cd 0 0 (QRv bw ar s0 (dC, dI) cl6 (TY cI cJ cZ) A (Wc h cI cJ cZ n li gr nb sc t (upd ki at1 (nI 2)) (upd fe at1 b1) (upd lm at1 b2) (upd si at1 b3) va (upd he at1 (nI hd)) (vp_updL up at1 (redC (gcC 100 bu bl) bu)) (vp_updL lo at1 (redC (gcC 100 bu bl) bl)) pu pl gh gs bf b1 b2 b3 bu bl se)) 6 (dC, dI) cl6 A 83 [(4, .long (gcC 100 bu bl)), (0, .ref (h 6)), (1, .int (nI at1)), (2, .int (nI hd)), (3, .ref (h 18))] [.long (redC (gcC 100 bu bl) bu), .int (nI at1), .ref (h 13)] (Wc h cI cJ cZ n li gr nb sc t (upd ki at1 (nI 2)) (upd fe at1 b1) (upd lm at1 b2) (upd si at1 b3) va (upd he at1 (nI hd)) up lo pu pl gh gs bf b1 b2 b3 bu bl se) := by
    refine Wk.last (ws' := Wc h cI cJ cZ n li gr nb sc t (upd ki at1 (nI 2)) (upd fe at1 b1) (upd lm at1 b2) (upd si at1 b3) va (upd he at1 (nI hd)) (vp_updL up at1 (redC (gcC 100 bu bl) bu)) lo pu pl gh gs bf b1 b2 b3 bu bl se) X 13 1 rfl rfl (by omega) (by decide) rfl dX1_setCut_83 ?_
    refine Wk.aload_n X 1 rfl dX1_setCut_84 rfl ?_
    refine Wk.get X inX1 6 8 lk34 (fun _ h9 => h9) rfl rfl (by decide) rfl dX1_setCut_85 ?_
    refine Wk.iload_n X 2 rfl dX1_setCut_88 rfl ?_
    have J110 : Wk pg l ev ({ frames := 1, cells := 0, slots := 0, locals := 30 } : Room) s0 md ar bw mt cd 0 0 (QRv bw ar s0 (dC, dI) cl6 (TY cI cJ cZ) A (Wc h cI cJ cZ n li gr nb sc t (upd ki at1 (nI 2)) (upd fe at1 b1) (upd lm at1 b2) (upd si at1 b3) va (upd he at1 (nI hd)) (vp_updL up at1 (redC (gcC 100 bu bl) bu)) (vp_updL lo at1 (redC (gcC 100 bu bl) bl)) pu pl gh gs bf b1 b2 b3 bu bl se)) 6 (dC, dI) cl6 A 110 [(4, .long (gcC 100 bu bl)), (0, .ref (h 6)), (1, .int (nI at1)), (2, .int (nI hd)), (3, .ref (h 18))] [.long (redC (gcC 100 bu bl) bl), .int (nI at1), .ref (h 14)] (Wc h cI cJ cZ n li gr nb sc t (upd ki at1 (nI 2)) (upd fe at1 b1) (upd lm at1 b2) (upd si at1 b3) va (upd he at1 (nI hd)) (vp_updL up at1 (redC (gcC 100 bu bl) bu)) lo pu pl gh gs bf b1 b2 b3 bu bl se) := by
      refine Wk.last (ws' := Wc h cI cJ cZ n li gr nb sc t (upd ki at1 (nI 2)) (upd fe at1 b1) (upd lm at1 b2) (upd si at1 b3) va (upd he at1 (nI hd)) (vp_updL up at1 (redC (gcC 100 bu bl) bu)) (vp_updL lo at1 (redC (gcC 100 bu bl) bl)) pu pl gh gs bf b1 b2 b3 bu bl se) X 14 1 rfl rfl (by omega) (by decide) rfl dX1_setCut_110 ?_
      exact Wk.vret X hr hk rfl dX1_setCut_111
    refine Wk.lload X 0 rfl dX1_setCut_89 ?_
    refine Wk.lconst (v := 1) X dX1_setCut_91 (by decide) ?_
    refine Wk.lcmp_le X 106 dX1_setCut_92 dX1_setCut_93 (by decide) (fun c1 => ?_) (fun c1 => ?_)
    · skip
      refine Wk.aload_n X 4 rfl dX1_setCut_106 rfl ?_
      refine Wk.get X inX0 18 5 lk66 (fun _ h9 => h9) rfl rfl (by decide) rfl dX1_setCut_107 ?_
      refine Wk.topl (y := redC (gcC 100 bu bl) bl) (by simp [redC, *]) ?_
      exact J110
    · skip
      refine Wk.aload_n X 4 rfl dX1_setCut_96 rfl ?_
      refine Wk.get X inX0 18 5 lk66 (fun _ h9 => h9) rfl rfl (by decide) rfl dX1_setCut_97 ?_
      refine Wk.lload X 0 rfl dX1_setCut_100 ?_
      refine Wk.ldiv X dX1_setCut_102 (fun h9 => by rw [h9] at c1; exact c1 (by decide)) ?_
      refine Wk.goto X 110 dX1_setCut_103 (by decide) ?_
      refine Wk.topl (y := redC (gcC 100 bu bl) bl) (by simp [redC, *]) ?_
      exact J110
  refine Wk.lload X 0 rfl dX1_setCut_62 ?_
  refine Wk.lconst (v := 1) X dX1_setCut_64 (by decide) ?_
  refine Wk.lcmp_le X 79 dX1_setCut_65 dX1_setCut_66 (by decide) (fun c2 => ?_) (fun c2 => ?_)
  · skip
    refine Wk.aload_n X 4 rfl dX1_setCut_79 rfl ?_
    refine Wk.get X inX0 18 4 lk62 (fun _ h9 => h9) rfl rfl (by decide) rfl dX1_setCut_80 ?_
    refine Wk.topl (y := redC (gcC 100 bu bl) bu) (by simp [redC, *]) ?_
    exact J83
  · skip
    refine Wk.aload_n X 4 rfl dX1_setCut_69 rfl ?_
    refine Wk.get X inX0 18 4 lk62 (fun _ h9 => h9) rfl rfl (by decide) rfl dX1_setCut_70 ?_
    refine Wk.lload X 0 rfl dX1_setCut_73 ?_
    refine Wk.ldiv X dX1_setCut_75 (fun h9 => by rw [h9] at c2; exact c2 (by decide)) ?_
    refine Wk.goto X 83 dX1_setCut_76 (by decide) ?_
    refine Wk.topl (y := redC (gcC 100 bu bl) bu) (by simp [redC, *]) ?_
    exact J83

set_option maxHeartbeats 4000000 in
set_option maxRecDepth 100000 in
theorem c_X1_setLeaf (l : Launch) (dC : Nat → ClassId) (dI : Nat → Nat → Nat) (cI cJ cZ : ClassId) (h : Nat → Nat) (n : Nat) (li : Nat → Int32) (gr : Nat → Int32) (nb : Nat → Int32) (sc : Nat → Int64) (t : Nat) (ki : Nat → Int32) (fe : Nat → Int32) (lm : Nat → Int32) (si : Nat → Int32) (va : Nat → Int32) (he : Nat → Int32) (up : Nat → Int64) (lo : Nat → Int64) (pu : Nat → Int32) (pl : Nat → Int32) (gh : Nat) (gs : Int32) (bf : Bool) (b1 : Int32) (b2 : Int32) (b3 : Int32) (bu : Int64) (bl : Int64) (se : Nat → Int32) (at1 : Nat) (hd : Nat) (v : Int32) (ha0 : at1 < 300) : Cv l yX1_setLeaf wsX1_setLeaf 0 0 (dC, dI) cl6 (TY cI cJ cZ) false [.ref (h 6), .int (nI at1), .int (nI hd), .int v] (Wc h cI cJ cZ n li gr nb sc t ki fe lm si va he up lo pu pl gh gs bf b1 b2 b3 bu bl se) (Wc h cI cJ cZ n li gr nb sc t (upd ki at1 (nI 1)) fe lm si (upd va at1 v) (upd he at1 (nI hd)) up lo pu pl gh gs bf b1 b2 b3 bu bl se) := by
  refine Cv.of (cc := cX1_setLeaf) (maxL := 4) (own := RX1) rfl (by decide) rfl (Nat.le_of_ble_eq_true rfl) ?_
  intro pg ev s0 md ar bw mt cd A X hr hk
  show Wk pg l ev _ s0 md ar bw mt cd 0 0 _ 4 (dC, dI) cl6 A 0 [(0, .ref (h 6)), (1, .int (nI at1)), (2, .int (nI hd)), (3, .int v)] [] (Wc h cI cJ cZ n li gr nb sc t ki fe lm si va he up lo pu pl gh gs bf b1 b2 b3 bu bl se)
  have inX1 : ∀ w ∈ u_ws RX1 TX1 9, w ∈ wsX1_setLeaf := by decide +kernel
  have lk9 := X.w (.fieldLink RX1 9 "PairedTrees$Forest" "kinds" "[I") (by decide +kernel)
  have lk24 := X.w (.fieldLink RX1 24 "PairedTrees$Forest" "values" "[I") (by decide +kernel)
  have lk27 := X.w (.fieldLink RX1 27 "PairedTrees$Forest" "held" "[I") (by decide +kernel)
  refine Wk.aload_n X 0 rfl dX1_setLeaf_0 rfl ?_
  refine Wk.get X inX1 6 1 lk9 (fun _ h9 => h9) rfl rfl (by decide) rfl dX1_setLeaf_1 ?_
  refine Wk.iload_n X 1 rfl dX1_setLeaf_4 rfl ?_
  refine Wk.iconst (v := nI 1) X dX1_setLeaf_5 (by decide) ?_
  refine Wk.iast (ws' := Wc h cI cJ cZ n li gr nb sc t (upd ki at1 (nI 1)) fe lm si va he up lo pu pl gh gs bf b1 b2 b3 bu bl se) X 7 0 rfl rfl (by omega) (by decide) rfl dX1_setLeaf_6 ?_
  refine Wk.aload_n X 0 rfl dX1_setLeaf_7 rfl ?_
  refine Wk.get X inX1 6 6 lk27 (fun _ h9 => h9) rfl rfl (by decide) rfl dX1_setLeaf_8 ?_
  refine Wk.iload_n X 1 rfl dX1_setLeaf_11 rfl ?_
  refine Wk.iload_n X 2 rfl dX1_setLeaf_12 rfl ?_
  refine Wk.iast (ws' := Wc h cI cJ cZ n li gr nb sc t (upd ki at1 (nI 1)) fe lm si va (upd he at1 (nI hd)) up lo pu pl gh gs bf b1 b2 b3 bu bl se) X 12 0 rfl rfl (by omega) (by decide) rfl dX1_setLeaf_13 ?_
  refine Wk.aload_n X 0 rfl dX1_setLeaf_14 rfl ?_
  refine Wk.get X inX1 6 5 lk24 (fun _ h9 => h9) rfl rfl (by decide) rfl dX1_setLeaf_15 ?_
  refine Wk.iload_n X 1 rfl dX1_setLeaf_18 rfl ?_
  refine Wk.iload_n X 3 rfl dX1_setLeaf_19 rfl ?_
  refine Wk.iast (ws' := Wc h cI cJ cZ n li gr nb sc t (upd ki at1 (nI 1)) fe lm si (upd va at1 v) (upd he at1 (nI hd)) up lo pu pl gh gs bf b1 b2 b3 bu bl se) X 11 0 rfl rfl (by omega) (by decide) rfl dX1_setLeaf_20 ?_
  exact Wk.vret X hr hk rfl dX1_setLeaf_21

set_option maxHeartbeats 4000000 in
set_option maxRecDepth 100000 in
theorem c_X1_valueFor (l : Launch) (dC : Nat → ClassId) (dI : Nat → Nat → Nat) (cI cJ cZ : ClassId) (h : Nat → Nat) (n : Nat) (li : Nat → Int32) (gr : Nat → Int32) (nb : Nat → Int32) (sc : Nat → Int64) (t : Nat) (ki : Nat → Int32) (fe : Nat → Int32) (lm : Nat → Int32) (si : Nat → Int32) (va : Nat → Int32) (he : Nat → Int32) (up : Nat → Int64) (lo : Nat → Int64) (pu : Nat → Int32) (pl : Nat → Int32) (gh : Nat) (gs : Int32) (bf : Bool) (b1 : Int32) (b2 : Int32) (b3 : Int32) (bu : Int64) (bl : Int64) (se : Nat → Int32) (tr : Nat) (r : Nat) (ht0 : tr < 20) (hr0 : r < 25) (hfe : ∀ k, k < 15 → ki (tr * 15 + k) = nI 2 → ∃ f, f < 4 ∧ fe (tr * 15 + k) = nI f) : Ci l yX1_valueFor wsX1_valueFor 2 47 (dC, dI) cl6 (TY cI cJ cZ) false [.ref (h 6), .int (nI tr), .ref (h 1), .int (nI r)] (Wc h cI cJ cZ n li gr nb sc t ki fe lm si va he up lo pu pl gh gs bf b1 b2 b3 bu bl se) (va (tr * 15 + vfC ki (gC fe lm si nb r) (tr * 15) 3 0)) (Wc h cI cJ cZ n li gr nb sc t ki fe lm si va he up lo pu pl gh gs bf b1 b2 b3 bu bl se) := by
  refine Ci.of (cc := cX1_valueFor) (maxL := 9) (ty := .int) (own := RX1) rfl (by decide) rfl (Nat.le_of_ble_eq_true rfl) ?_
  intro pg ev s0 md ar bw mt cd A X hr hk
  show Wk pg l ev _ s0 md ar bw mt cd 0 0 _ 9 (dC, dI) cl6 A 0 [(0, .ref (h 6)), (1, .int (nI tr)), (2, .ref (h 1)), (3, .int (nI r))] [] (Wc h cI cJ cZ n li gr nb sc t ki fe lm si va he up lo pu pl gh gs bf b1 b2 b3 bu bl se)
  have inX1 : ∀ w ∈ u_ws RX1 TX1 9, w ∈ wsX1_valueFor := by decide +kernel
  have lk9 := X.w (.fieldLink RX1 9 "PairedTrees$Forest" "kinds" "[I") (by decide +kernel)
  have lk15 := X.w (.fieldLink RX1 15 "PairedTrees$Forest" "features" "[I") (by decide +kernel)
  have lk18 := X.w (.fieldLink RX1 18 "PairedTrees$Forest" "limits" "[I") (by decide +kernel)
  have lk21 := X.w (.fieldLink RX1 21 "PairedTrees$Forest" "sides" "[I") (by decide +kernel)
  have lk24 := X.w (.fieldLink RX1 24 "PairedTrees$Forest" "values" "[I") (by decide +kernel)
  refine Wk.iload_n X 1 rfl dX1_valueFor_0 rfl ?_
  refine Wk.bipush (v := nI 15) X dX1_valueFor_1 (by decide) ?_
  refine Wk.imulN X dX1_valueFor_3 ?_
  refine Wk.istore (lv' := [(4, .int (nI (tr * 15))), (0, .ref (h 6)), (1, .int (nI tr)), (2, .ref (h 1)), (3, .int (nI r))]) X dX1_valueFor_4 (by decide) rfl ?_
  refine Wk.iconst (v := nI 0) X dX1_valueFor_6 (by decide) ?_
  refine Wk.istore (lv' := [(5, .int (nI 0)), (4, .int (nI (tr * 15))), (0, .ref (h 6)), (1, .int (nI tr)), (2, .ref (h 1)), (3, .int (nI r))]) X dX1_valueFor_7 (by decide) rfl ?_
  refine Wk.iconst (v := nI 0) X dX1_valueFor_9 (by decide) ?_
  refine Wk.istore (lv' := [(6, .int (nI 0)), (5, .int (nI 0)), (4, .int (nI (tr * 15))), (0, .ref (h 6)), (1, .int (nI tr)), (2, .ref (h 1)), (3, .int (nI r))]) X dX1_valueFor_10 (by decide) rfl ?_
  have L12 : ∀ (fu12 : Nat) (dp : Nat) (k : Nat) (hq : 4 ≤ dp + fu12) (hd : dp ≤ 3 ∧ (dp = 0 → k = 0) ∧ (dp = 1 → k ≤ 2) ∧ (dp = 2 → k ≤ 6) ∧ (dp = 3 → k ≤ 14)) (hv : vfC ki (gC fe lm si nb r) (tr * 15) (3 - dp) k = vfC ki (gC fe lm si nb r) (tr * 15) 3 0), Wk pg l ev ({ frames := 2, cells := 0, slots := 0, locals := 47 } : Room) s0 md ar bw mt cd 0 0 (QRi bw ar s0 (dC, dI) cl6 (TY cI cJ cZ) A (va (tr * 15 + vfC ki (gC fe lm si nb r) (tr * 15) 3 0)) (Wc h cI cJ cZ n li gr nb sc t ki fe lm si va he up lo pu pl gh gs bf b1 b2 b3 bu bl se)) 9 (dC, dI) cl6 A 12 [(0, .ref (h 6)), (1, .int (nI tr)), (2, .ref (h 1)), (3, .int (nI r)), (4, .int (nI (tr * 15))), (5, .int (nI k)), (6, .int (nI dp))] [] (Wc h cI cJ cZ n li gr nb sc t ki fe lm si va he up lo pu pl gh gs bf b1 b2 b3 bu bl se) := by
    intro fu12
    induction fu12 with
    | zero => intro dp k hq hd hv; exact absurd hq (by omega)
    | succ fu12 ih12 =>
      intro dp k hq hd hv
      refine Wk.iload X 6 rfl dX1_valueFor_12 ?_
      refine Wk.iconst (v := nI 3) X dX1_valueFor_14 (by decide) ?_
      refine Wk.icmpN_ge X 95 (by omega) (by omega) dX1_valueFor_15 (by decide) (fun c1 => ?_) (fun c1 => ?_)
      · skip
        refine Wk.aload_n X 0 rfl dX1_valueFor_95 rfl ?_
        refine Wk.get X inX1 6 5 lk24 (fun _ h9 => h9) rfl rfl (by decide) rfl dX1_valueFor_96 ?_
        refine Wk.iload X 4 rfl dX1_valueFor_99 ?_
        refine Wk.iload X 5 rfl dX1_valueFor_101 ?_
        refine Wk.iaddN X dX1_valueFor_103 ?_
        refine Wk.iald X 11 0 rfl rfl (by omega) (by decide) dX1_valueFor_104 ?_
        exact Wk.iret X hr hk (by first | (rw [← hv, show 3 - dp = 0 by omega]; rfl) | (rw [← hv, show 3 - dp = (3 - (dp + 1)) + 1 by omega]; simp [vfC, *])) rfl dX1_valueFor_105
      · skip
        refine Wk.aload_n X 0 rfl dX1_valueFor_18 rfl ?_
        refine Wk.get X inX1 6 1 lk9 (fun _ h9 => h9) rfl rfl (by decide) rfl dX1_valueFor_19 ?_
        refine Wk.iload X 4 rfl dX1_valueFor_22 ?_
        refine Wk.iload X 5 rfl dX1_valueFor_24 ?_
        refine Wk.iaddN X dX1_valueFor_26 ?_
        refine Wk.iald X 7 0 rfl rfl (by omega) (by decide) dX1_valueFor_27 ?_
        refine Wk.iconst (v := nI 2) X dX1_valueFor_28 (by decide) ?_
        refine Wk.icmp_ne X 95 dX1_valueFor_29 (by decide) (fun c2 => ?_) (fun c2 => ?_)
        · skip
          refine Wk.aload_n X 0 rfl dX1_valueFor_95 rfl ?_
          refine Wk.get X inX1 6 5 lk24 (fun _ h9 => h9) rfl rfl (by decide) rfl dX1_valueFor_96 ?_
          refine Wk.iload X 4 rfl dX1_valueFor_99 ?_
          refine Wk.iload X 5 rfl dX1_valueFor_101 ?_
          refine Wk.iaddN X dX1_valueFor_103 ?_
          refine Wk.iald X 11 0 rfl rfl (by omega) (by decide) dX1_valueFor_104 ?_
          exact Wk.iret X hr hk (by first | (rw [← hv, show 3 - dp = 0 by omega]; rfl) | (rw [← hv, show 3 - dp = (3 - (dp + 1)) + 1 by omega]; simp [vfC, *])) rfl dX1_valueFor_105
        · skip
          refine Wk.iload X 4 rfl dX1_valueFor_32 ?_
          refine Wk.iload X 5 rfl dX1_valueFor_34 ?_
          refine Wk.iaddN X dX1_valueFor_36 ?_
          refine Wk.istore (lv' := [(7, .int (nI (tr * 15 + k))), (0, .ref (h 6)), (1, .int (nI tr)), (2, .ref (h 1)), (3, .int (nI r)), (4, .int (nI (tr * 15))), (5, .int (nI k)), (6, .int (nI dp))]) X dX1_valueFor_37 (by decide) rfl ?_
          refine Wk.aload_n X 3 rfl dX1_valueFor_39 rfl ?_
          refine Wk.iload_n X 4 rfl dX1_valueFor_40 rfl ?_
          refine Wk.aload_n X 1 rfl dX1_valueFor_41 rfl ?_
          refine Wk.get X inX1 6 2 lk15 (fun _ h9 => h9) rfl rfl (by decide) rfl dX1_valueFor_42 ?_
          refine Wk.iload X 0 rfl dX1_valueFor_45 ?_
          refine Wk.iald X 8 0 rfl rfl (by omega) (by decide) dX1_valueFor_47 ?_
          obtain ⟨f1, hf1, ef1⟩ := hfe k (by omega) c2
          refine Wk.topi ef1 ?_
          refine Wk.aload_n X 1 rfl dX1_valueFor_48 rfl ?_
          refine Wk.get X inX1 6 3 lk18 (fun _ h9 => h9) rfl rfl (by decide) rfl dX1_valueFor_49 ?_
          refine Wk.iload X 0 rfl dX1_valueFor_52 ?_
          refine Wk.iald X 9 0 rfl rfl (by omega) (by decide) dX1_valueFor_54 ?_
          refine Wk.aload_n X 1 rfl dX1_valueFor_55 rfl ?_
          refine Wk.get X inX1 6 4 lk21 (fun _ h9 => h9) rfl rfl (by decide) rfl dX1_valueFor_56 ?_
          refine Wk.iload X 0 rfl dX1_valueFor_59 ?_
          refine Wk.iald X 10 0 rfl rfl (by omega) (by decide) dX1_valueFor_61 ?_
          refine Wk.callVi (n := 4) (q0 := 1) X (c_X3_goesLeft l dC dI cI cJ cZ h n li gr nb sc t ki fe lm si va he up lo pu pl gh gs bf b1 b2 b3 bu bl se r f1 (lm (tr * 15 + k)) (si (tr * 15 + k)) (by first | omega | assumption) (by first | omega | assumption)) gX1_valueFor_X3_goesLeft rfl (by decide +kernel) (by decide) Fr.all (fun h9 => h9) rfl rfl rfl rfl (Nat.le_of_ble_eq_true rfl) ⟨Nat.zero_le _, Nat.zero_le _⟩ dX1_valueFor_62 ?_
          refine Wk.istore (lv' := [(8, .int (bI (glC nb r f1 (lm (tr * 15 + k)) (si (tr * 15 + k))))), (7, .int (nI (tr * 15 + k))), (0, .ref (h 6)), (1, .int (nI tr)), (2, .ref (h 1)), (3, .int (nI r)), (4, .int (nI (tr * 15))), (5, .int (nI k)), (6, .int (nI dp))]) X dX1_valueFor_65 (by decide) rfl ?_
          refine Wk.iload X 0 rfl dX1_valueFor_67 ?_
          refine Wk.ifB_eq X 81 dX1_valueFor_69 (by decide) (fun c3 => ?_) (fun c3 => ?_)
          · skip
            refine Wk.iconst (v := nI 2) X dX1_valueFor_81 (by decide) ?_
            refine Wk.iload X 7 rfl dX1_valueFor_82 ?_
            refine Wk.imulN X dX1_valueFor_84 ?_
            refine Wk.iconst (v := nI 2) X dX1_valueFor_85 (by decide) ?_
            refine Wk.iaddN X dX1_valueFor_86 ?_
            refine Wk.istore (lv' := [(5, .int (nI (2 * k + 2))), (8, .int (bI (glC nb r f1 (lm (tr * 15 + k)) (si (tr * 15 + k))))), (7, .int (nI (tr * 15 + k))), (0, .ref (h 6)), (1, .int (nI tr)), (2, .ref (h 1)), (3, .int (nI r)), (4, .int (nI (tr * 15))), (6, .int (nI dp))]) X dX1_valueFor_87 (by decide) rfl ?_
            refine Wk.iincN (n := 1) (lv' := [(6, .int (nI (dp + 1))), (5, .int (nI (2 * k + 2))), (8, .int (bI (glC nb r f1 (lm (tr * 15 + k)) (si (tr * 15 + k))))), (7, .int (nI (tr * 15 + k))), (0, .ref (h 6)), (1, .int (nI tr)), (2, .ref (h 1)), (3, .int (nI r)), (4, .int (nI (tr * 15)))]) X 8 rfl dX1_valueFor_89 (by decide) rfl ?_
            refine Wk.goto X 12 dX1_valueFor_92 (by decide) ?_
            refine Wk.lvs (lv' := [(0, .ref (h 6)), (1, .int (nI tr)), (2, .ref (h 1)), (3, .int (nI r)), (4, .int (nI (tr * 15))), (5, .int (nI (2 * k + 2))), (6, .int (nI (dp + 1)))]) [4, 5, 6, 7, 8, 1, 0] rfl ?_
            exact ih12 (dp + 1) (2 * k + 2) (by omega) (by omega) (by rw [← hv, show 3 - dp = (3 - (dp + 1)) + 1 by omega]; simp [vfC, gC, nI_clamp (show f1 < 2 ^ 31 by omega), *])
          · skip
            refine Wk.iconst (v := nI 2) X dX1_valueFor_72 (by decide) ?_
            refine Wk.iload X 7 rfl dX1_valueFor_73 ?_
            refine Wk.imulN X dX1_valueFor_75 ?_
            refine Wk.iconst (v := nI 1) X dX1_valueFor_76 (by decide) ?_
            refine Wk.iaddN X dX1_valueFor_77 ?_
            refine Wk.goto X 87 dX1_valueFor_78 (by decide) ?_
            refine Wk.istore (lv' := [(5, .int (nI (2 * k + 1))), (8, .int (bI (glC nb r f1 (lm (tr * 15 + k)) (si (tr * 15 + k))))), (7, .int (nI (tr * 15 + k))), (0, .ref (h 6)), (1, .int (nI tr)), (2, .ref (h 1)), (3, .int (nI r)), (4, .int (nI (tr * 15))), (6, .int (nI dp))]) X dX1_valueFor_87 (by decide) rfl ?_
            refine Wk.iincN (n := 1) (lv' := [(6, .int (nI (dp + 1))), (5, .int (nI (2 * k + 1))), (8, .int (bI (glC nb r f1 (lm (tr * 15 + k)) (si (tr * 15 + k))))), (7, .int (nI (tr * 15 + k))), (0, .ref (h 6)), (1, .int (nI tr)), (2, .ref (h 1)), (3, .int (nI r)), (4, .int (nI (tr * 15)))]) X 8 rfl dX1_valueFor_89 (by decide) rfl ?_
            refine Wk.goto X 12 dX1_valueFor_92 (by decide) ?_
            refine Wk.lvs (lv' := [(0, .ref (h 6)), (1, .int (nI tr)), (2, .ref (h 1)), (3, .int (nI r)), (4, .int (nI (tr * 15))), (5, .int (nI (2 * k + 1))), (6, .int (nI (dp + 1)))]) [4, 5, 6, 7, 8, 1, 0] rfl ?_
            exact ih12 (dp + 1) (2 * k + 1) (by omega) (by omega) (by rw [← hv, show 3 - dp = (3 - (dp + 1)) + 1 by omega]; simp [vfC, gC, nI_clamp (show f1 < 2 ^ 31 by omega), *])
  refine Wk.lvs (lv' := [(0, .ref (h 6)), (1, .int (nI tr)), (2, .ref (h 1)), (3, .int (nI r)), (4, .int (nI (tr * 15))), (5, .int (nI 0)), (6, .int (nI 0))]) [3, 4, 5, 6, 2, 1, 0] rfl ?_
  exact L12 4 0 0 (by omega) (by omega) (by rfl)

set_option maxHeartbeats 4000000 in
set_option maxRecDepth 100000 in
theorem c_X1_sumFor (l : Launch) (dC : Nat → ClassId) (dI : Nat → Nat → Nat) (cI cJ cZ : ClassId) (h : Nat → Nat) (n : Nat) (li : Nat → Int32) (gr : Nat → Int32) (nb : Nat → Int32) (sc : Nat → Int64) (t : Nat) (ki : Nat → Int32) (fe : Nat → Int32) (lm : Nat → Int32) (si : Nat → Int32) (va : Nat → Int32) (he : Nat → Int32) (up : Nat → Int64) (lo : Nat → Int64) (pu : Nat → Int32) (pl : Nat → Int32) (gh : Nat) (gs : Int32) (bf : Bool) (b1 : Int32) (b2 : Int32) (b3 : Int32) (bu : Int64) (bl : Int64) (se : Nat → Int32) (r : Nat) (ht0 : t ≤ 20) (hr0 : r < 25) (hfe : ∀ j, j < t * 15 → ki j = nI 2 → ∃ f, f < 4 ∧ fe j = nI f) : Cl l yX1_sumFor wsX1_sumFor 3 75 (dC, dI) cl6 (TY cI cJ cZ) false [.ref (h 6), .ref (h 1), .int (nI r)] (Wc h cI cJ cZ n li gr nb sc t ki fe lm si va he up lo pu pl gh gs bf b1 b2 b3 bu bl se) (scoreC ki fe lm si va nb t r) (Wc h cI cJ cZ n li gr nb sc t ki fe lm si va he up lo pu pl gh gs bf b1 b2 b3 bu bl se) := by
  refine Cl.of (cc := cX1_sumFor) (maxL := 6) (ty := .long) (own := RX1) rfl (by decide) rfl (Nat.le_of_ble_eq_true rfl) ?_
  intro pg ev s0 md ar bw mt cd A X hr hk
  show Wk pg l ev _ s0 md ar bw mt cd 0 0 _ 6 (dC, dI) cl6 A 0 [(0, .ref (h 6)), (1, .ref (h 1)), (2, .int (nI r))] [] (Wc h cI cJ cZ n li gr nb sc t ki fe lm si va he up lo pu pl gh gs bf b1 b2 b3 bu bl se)
  have inX1 : ∀ w ∈ u_ws RX1 TX1 9, w ∈ wsX1_sumFor := by decide +kernel
  have lk37 := X.w (.fieldLink RX1 37 "PairedTrees$Forest" "count" "I") (by decide +kernel)
  refine Wk.lconst (v := 0) X dX1_sumFor_0 (by decide) ?_
  refine Wk.lstore_n (lv' := [(3, .long 0), (0, .ref (h 6)), (1, .ref (h 1)), (2, .int (nI r))]) X dX1_sumFor_1 rfl (by decide) rfl ?_
  refine Wk.iconst (v := nI 0) X dX1_sumFor_2 (by decide) ?_
  refine Wk.istore (lv' := [(5, .int (nI 0)), (3, .long 0), (0, .ref (h 6)), (1, .ref (h 1)), (2, .int (nI r))]) X dX1_sumFor_3 (by decide) rfl ?_
  have L5 : ∀ (fu5 : Nat) (k : Nat) (a : Int64) (hq : t + 1 ≤ k + fu5) (hk0 : k ≤ t) (ha : a = smC ki va (gC fe lm si nb r) k), Wk pg l ev ({ frames := 3, cells := 0, slots := 0, locals := 75 } : Room) s0 md ar bw mt cd 0 0 (QRl bw ar s0 (dC, dI) cl6 (TY cI cJ cZ) A (scoreC ki fe lm si va nb t r) (Wc h cI cJ cZ n li gr nb sc t ki fe lm si va he up lo pu pl gh gs bf b1 b2 b3 bu bl se)) 6 (dC, dI) cl6 A 5 [(0, .ref (h 6)), (1, .ref (h 1)), (2, .int (nI r)), (3, .long a), (5, .int (nI k))] [] (Wc h cI cJ cZ n li gr nb sc t ki fe lm si va he up lo pu pl gh gs bf b1 b2 b3 bu bl se) := by
    intro fu5
    induction fu5 with
    | zero => intro k a hq hk0 ha; exact absurd hq (by omega)
    | succ fu5 ih5 =>
      intro k a hq hk0 ha
      refine Wk.iload X 4 rfl dX1_sumFor_5 ?_
      refine Wk.aload_n X 0 rfl dX1_sumFor_7 rfl ?_
      refine Wk.get X inX1 6 0 lk37 (fun _ h9 => h9) rfl rfl (by decide) rfl dX1_sumFor_8 ?_
      refine Wk.icmpN_ge X 32 (by omega) (by omega) dX1_sumFor_11 (by decide) (fun c1 => ?_) (fun c1 => ?_)
      · skip
        refine Wk.lload_n X 3 rfl dX1_sumFor_32 rfl ?_
        exact Wk.lret X hr hk (by rw [ha, show k = t by omega]; rfl) rfl dX1_sumFor_33
      · skip
        refine Wk.lload_n X 3 rfl dX1_sumFor_14 rfl ?_
        refine Wk.aload_n X 0 rfl dX1_sumFor_15 rfl ?_
        refine Wk.iload X 4 rfl dX1_sumFor_16 ?_
        refine Wk.aload_n X 1 rfl dX1_sumFor_18 rfl ?_
        refine Wk.iload_n X 2 rfl dX1_sumFor_19 rfl ?_
        refine Wk.callVi (n := 3) (q0 := 6) X (c_X1_valueFor l dC dI cI cJ cZ h n li gr nb sc t ki fe lm si va he up lo pu pl gh gs bf b1 b2 b3 bu bl se k r (by first | omega | assumption) (by first | omega | assumption) (by exact fun k1 h1 h2 => hfe _ (by omega) h2)) gX1_sumFor_X1_valueFor rfl (by decide +kernel) (by decide) Fr.all (fun h9 => h9) rfl rfl rfl rfl (Nat.le_of_ble_eq_true rfl) ⟨Nat.zero_le _, Nat.zero_le _⟩ dX1_sumFor_20 ?_
        refine Wk.i2l X dX1_sumFor_23 ?_
        refine Wk.ladd X dX1_sumFor_24 ?_
        refine Wk.lstore_n (lv' := [(3, .long (a + ((va (k * 15 + vfC ki (gC fe lm si nb r) (k * 15) 3 0)).toInt64))), (0, .ref (h 6)), (1, .ref (h 1)), (2, .int (nI r)), (5, .int (nI k))]) X dX1_sumFor_25 rfl (by decide) rfl ?_
        refine Wk.iincN (n := 1) (lv' := [(5, .int (nI (k + 1))), (3, .long (a + ((va (k * 15 + vfC ki (gC fe lm si nb r) (k * 15) 3 0)).toInt64))), (0, .ref (h 6)), (1, .ref (h 1)), (2, .int (nI r))]) X 4 rfl dX1_sumFor_26 (by decide) rfl ?_
        refine Wk.goto X 5 dX1_sumFor_29 (by decide) ?_
        refine Wk.lvs (lv' := [(0, .ref (h 6)), (1, .ref (h 1)), (2, .int (nI r)), (3, .long (a + ((va (k * 15 + vfC ki (gC fe lm si nb r) (k * 15) 3 0)).toInt64))), (5, .int (nI (k + 1)))]) [2, 3, 4, 1, 0] rfl ?_
        exact ih5 (k + 1) (a + ((va (k * 15 + vfC ki (gC fe lm si nb r) (k * 15) 3 0)).toInt64)) (by omega) (by omega) (by rw [ha]; rfl)
  refine Wk.lvs (lv' := [(0, .ref (h 6)), (1, .ref (h 1)), (2, .int (nI r)), (3, .long 0), (5, .int (nI 0))]) [2, 3, 4, 1, 0] rfl ?_
  exact L5 (t + 1) 0 0 (by omega) (by omega) (by rfl)

set_option maxHeartbeats 4000000 in
set_option maxRecDepth 100000 in
theorem c_X1_countLeaves (l : Launch) (dC : Nat → ClassId) (dI : Nat → Nat → Nat) (cI cJ cZ : ClassId) (h : Nat → Nat) (n : Nat) (li : Nat → Int32) (gr : Nat → Int32) (nb : Nat → Int32) (sc : Nat → Int64) (t : Nat) (ki : Nat → Int32) (fe : Nat → Int32) (lm : Nat → Int32) (si : Nat → Int32) (va : Nat → Int32) (he : Nat → Int32) (up : Nat → Int64) (lo : Nat → Int64) (pu : Nat → Int32) (pl : Nat → Int32) (gh : Nat) (gs : Int32) (bf : Bool) (b1 : Int32) (b2 : Int32) (b3 : Int32) (bu : Int64) (bl : Int64) (se : Nat → Int32) (a : Nat) (b : Nat) (h1 : a ≤ b) (h2 : b ≤ 20) : Ci l yX1_countLeaves wsX1_countLeaves 0 0 (dC, dI) cl6 (TY cI cJ cZ) false [.ref (h 6), .int (nI a), .int (nI b)] (Wc h cI cJ cZ n li gr nb sc t ki fe lm si va he up lo pu pl gh gs bf b1 b2 b3 bu bl se) (nI (clC ki (a * 15) (b * 15 - a * 15))) (Wc h cI cJ cZ n li gr nb sc t ki fe lm si va he up lo pu pl gh gs bf b1 b2 b3 bu bl se) := by
  refine Ci.of (cc := cX1_countLeaves) (maxL := 5) (ty := .int) (own := RX1) rfl (by decide) rfl (Nat.le_of_ble_eq_true rfl) ?_
  intro pg ev s0 md ar bw mt cd A X hr hk
  show Wk pg l ev _ s0 md ar bw mt cd 0 0 _ 5 (dC, dI) cl6 A 0 [(0, .ref (h 6)), (1, .int (nI a)), (2, .int (nI b))] [] (Wc h cI cJ cZ n li gr nb sc t ki fe lm si va he up lo pu pl gh gs bf b1 b2 b3 bu bl se)
  have inX1 : ∀ w ∈ u_ws RX1 TX1 9, w ∈ wsX1_countLeaves := by decide +kernel
  have lk9 := X.w (.fieldLink RX1 9 "PairedTrees$Forest" "kinds" "[I") (by decide +kernel)
  refine Wk.iconst (v := nI 0) X dX1_countLeaves_0 (by decide) ?_
  refine Wk.istore_n (lv' := [(3, .int (nI 0)), (0, .ref (h 6)), (1, .int (nI a)), (2, .int (nI b))]) X dX1_countLeaves_1 rfl (by decide) rfl ?_
  refine Wk.iload_n X 2 rfl dX1_countLeaves_2 rfl ?_
  refine Wk.bipush (v := nI 15) X dX1_countLeaves_3 (by decide) ?_
  refine Wk.imulN X dX1_countLeaves_5 ?_
  refine Wk.istore (lv' := [(4, .int (nI (a * 15))), (3, .int (nI 0)), (0, .ref (h 6)), (1, .int (nI a)), (2, .int (nI b))]) X dX1_countLeaves_6 (by decide) rfl ?_
  have L8 : ∀ (fu8 : Nat) (k : Nat) (x : Nat) (hq : b * 15 + 1 ≤ a * 15 + k + fu8) (hk0 : a * 15 + k ≤ b * 15) (hx : x = clC ki (a * 15) k), Wk pg l ev ({ frames := 0, cells := 0, slots := 0, locals := 0 } : Room) s0 md ar bw mt cd 0 0 (QRi bw ar s0 (dC, dI) cl6 (TY cI cJ cZ) A (nI (clC ki (a * 15) (b * 15 - a * 15))) (Wc h cI cJ cZ n li gr nb sc t ki fe lm si va he up lo pu pl gh gs bf b1 b2 b3 bu bl se)) 5 (dC, dI) cl6 A 8 [(0, .ref (h 6)), (1, .int (nI a)), (2, .int (nI b)), (3, .int (nI x)), (4, .int (nI (a * 15 + k)))] [] (Wc h cI cJ cZ n li gr nb sc t ki fe lm si va he up lo pu pl gh gs bf b1 b2 b3 bu bl se) := by
    intro fu8
    induction fu8 with
    | zero => intro k x hq hk0 hx; exact absurd hq (by omega)
    | succ fu8 ih8 =>
      intro k x hq hk0 hx
      refine Wk.iload X 4 rfl dX1_countLeaves_8 ?_
      refine Wk.iload_n X 2 rfl dX1_countLeaves_10 rfl ?_
      refine Wk.bipush (v := nI 15) X dX1_countLeaves_11 (by decide) ?_
      refine Wk.imulN X dX1_countLeaves_13 ?_
      refine Wk.icmpN_ge X 37 (by omega) (by omega) dX1_countLeaves_14 (by decide) (fun c1 => ?_) (fun c1 => ?_)
      · skip
        refine Wk.iload_n X 3 rfl dX1_countLeaves_37 rfl ?_
        exact Wk.iret X hr hk (by rw [hx, show b * 15 - a * 15 = k by omega]) rfl dX1_countLeaves_38
      · skip
        refine Wk.aload_n X 0 rfl dX1_countLeaves_17 rfl ?_
        refine Wk.get X inX1 6 1 lk9 (fun _ h9 => h9) rfl rfl (by decide) rfl dX1_countLeaves_18 ?_
        refine Wk.iload X 4 rfl dX1_countLeaves_21 ?_
        refine Wk.iald X 7 0 rfl rfl (by omega) (by decide) dX1_countLeaves_23 ?_
        refine Wk.iconst (v := nI 1) X dX1_countLeaves_24 (by decide) ?_
        refine Wk.icmp_ne X 31 dX1_countLeaves_25 (by decide) (fun c2 => ?_) (fun c2 => ?_)
        · skip
          refine Wk.iincN (n := 1) (lv' := [(4, .int (nI (a * 15 + k + 1))), (0, .ref (h 6)), (1, .int (nI a)), (2, .int (nI b)), (3, .int (nI x))]) X 4 rfl dX1_countLeaves_31 (by decide) rfl ?_
          refine Wk.goto X 8 dX1_countLeaves_34 (by decide) ?_
          refine Wk.lvs (lv' := [(0, .ref (h 6)), (1, .int (nI a)), (2, .int (nI b)), (3, .int (nI x)), (4, .int (nI (a * 15 + k + 1)))]) [1, 2, 3, 4, 0] rfl ?_
          exact ih8 (k + 1) x (by omega) (by omega) (by simp [clC, *])
        · skip
          refine Wk.iincN (n := 1) (lv' := [(3, .int (nI (x + 1))), (0, .ref (h 6)), (1, .int (nI a)), (2, .int (nI b)), (4, .int (nI (a * 15 + k)))]) X 3 rfl dX1_countLeaves_28 (by decide) rfl ?_
          refine Wk.iincN (n := 1) (lv' := [(4, .int (nI (a * 15 + k + 1))), (3, .int (nI (x + 1))), (0, .ref (h 6)), (1, .int (nI a)), (2, .int (nI b))]) X 4 rfl dX1_countLeaves_31 (by decide) rfl ?_
          refine Wk.goto X 8 dX1_countLeaves_34 (by decide) ?_
          refine Wk.lvs (lv' := [(0, .ref (h 6)), (1, .int (nI a)), (2, .int (nI b)), (3, .int (nI (x + 1))), (4, .int (nI (a * 15 + k + 1)))]) [2, 3, 4, 1, 0] rfl ?_
          exact ih8 (k + 1) (x + 1) (by omega) (by omega) (by simp [clC, *])
  refine Wk.lvs (lv' := [(0, .ref (h 6)), (1, .int (nI a)), (2, .int (nI b)), (3, .int (nI 0)), (4, .int (nI (a * 15)))]) [2, 3, 4, 1, 0] rfl ?_
  exact L8 (b * 15 + 1) 0 0 (by omega) (by omega) (by rfl)

set_option maxHeartbeats 4000000 in
set_option maxRecDepth 100000 in
theorem c_X1_countCutsBy (l : Launch) (dC : Nat → ClassId) (dI : Nat → Nat → Nat) (cI cJ cZ : ClassId) (h : Nat → Nat) (n : Nat) (li : Nat → Int32) (gr : Nat → Int32) (nb : Nat → Int32) (sc : Nat → Int64) (t : Nat) (ki : Nat → Int32) (fe : Nat → Int32) (lm : Nat → Int32) (si : Nat → Int32) (va : Nat → Int32) (he : Nat → Int32) (up : Nat → Int64) (lo : Nat → Int64) (pu : Nat → Int32) (pl : Nat → Int32) (gh : Nat) (gs : Int32) (bf : Bool) (b1 : Int32) (b2 : Int32) (b3 : Int32) (bu : Int64) (bl : Int64) (se : Nat → Int32) (f : Int32) (ht0 : t ≤ 20) : Ci l yX1_countCutsBy wsX1_countCutsBy 0 0 (dC, dI) cl6 (TY cI cJ cZ) false [.ref (h 6), .int f] (Wc h cI cJ cZ n li gr nb sc t ki fe lm si va he up lo pu pl gh gs bf b1 b2 b3 bu bl se) (nI (ccC ki fe f (t * 15))) (Wc h cI cJ cZ n li gr nb sc t ki fe lm si va he up lo pu pl gh gs bf b1 b2 b3 bu bl se) := by
  refine Ci.of (cc := cX1_countCutsBy) (maxL := 4) (ty := .int) (own := RX1) rfl (by decide) rfl (Nat.le_of_ble_eq_true rfl) ?_
  intro pg ev s0 md ar bw mt cd A X hr hk
  show Wk pg l ev _ s0 md ar bw mt cd 0 0 _ 4 (dC, dI) cl6 A 0 [(0, .ref (h 6)), (1, .int f)] [] (Wc h cI cJ cZ n li gr nb sc t ki fe lm si va he up lo pu pl gh gs bf b1 b2 b3 bu bl se)
  have inX1 : ∀ w ∈ u_ws RX1 TX1 9, w ∈ wsX1_countCutsBy := by decide +kernel
  have lk9 := X.w (.fieldLink RX1 9 "PairedTrees$Forest" "kinds" "[I") (by decide +kernel)
  have lk15 := X.w (.fieldLink RX1 15 "PairedTrees$Forest" "features" "[I") (by decide +kernel)
  have lk37 := X.w (.fieldLink RX1 37 "PairedTrees$Forest" "count" "I") (by decide +kernel)
  refine Wk.iconst (v := nI 0) X dX1_countCutsBy_0 (by decide) ?_
  refine Wk.istore_n (lv' := [(2, .int (nI 0)), (0, .ref (h 6)), (1, .int f)]) X dX1_countCutsBy_1 rfl (by decide) rfl ?_
  refine Wk.iconst (v := nI 0) X dX1_countCutsBy_2 (by decide) ?_
  refine Wk.istore_n (lv' := [(3, .int (nI 0)), (2, .int (nI 0)), (0, .ref (h 6)), (1, .int f)]) X dX1_countCutsBy_3 rfl (by decide) rfl ?_
  have L4 : ∀ (fu4 : Nat) (k : Nat) (x : Nat) (hq : t * 15 + 1 ≤ k + fu4) (hk0 : k ≤ t * 15) (hx : x = ccC ki fe f k), Wk pg l ev ({ frames := 0, cells := 0, slots := 0, locals := 0 } : Room) s0 md ar bw mt cd 0 0 (QRi bw ar s0 (dC, dI) cl6 (TY cI cJ cZ) A (nI (ccC ki fe f (t * 15))) (Wc h cI cJ cZ n li gr nb sc t ki fe lm si va he up lo pu pl gh gs bf b1 b2 b3 bu bl se)) 4 (dC, dI) cl6 A 4 [(0, .ref (h 6)), (1, .int f), (2, .int (nI x)), (3, .int (nI k))] [] (Wc h cI cJ cZ n li gr nb sc t ki fe lm si va he up lo pu pl gh gs bf b1 b2 b3 bu bl se) := by
    intro fu4
    induction fu4 with
    | zero => intro k x hq hk0 hx; exact absurd hq (by omega)
    | succ fu4 ih4 =>
      intro k x hq hk0 hx
      refine Wk.iload_n X 3 rfl dX1_countCutsBy_4 rfl ?_
      refine Wk.aload_n X 0 rfl dX1_countCutsBy_5 rfl ?_
      refine Wk.get X inX1 6 0 lk37 (fun _ h9 => h9) rfl rfl (by decide) rfl dX1_countCutsBy_6 ?_
      refine Wk.bipush (v := nI 15) X dX1_countCutsBy_9 (by decide) ?_
      refine Wk.imulN X dX1_countCutsBy_11 ?_
      refine Wk.icmpN_ge X 44 (by omega) (by omega) dX1_countCutsBy_12 (by decide) (fun c1 => ?_) (fun c1 => ?_)
      · skip
        refine Wk.iload_n X 2 rfl dX1_countCutsBy_44 rfl ?_
        exact Wk.iret X hr hk (by rw [hx, show t * 15 = k by omega]) rfl dX1_countCutsBy_45
      · skip
        refine Wk.aload_n X 0 rfl dX1_countCutsBy_15 rfl ?_
        refine Wk.get X inX1 6 1 lk9 (fun _ h9 => h9) rfl rfl (by decide) rfl dX1_countCutsBy_16 ?_
        refine Wk.iload_n X 3 rfl dX1_countCutsBy_19 rfl ?_
        refine Wk.iald X 7 0 rfl rfl (by omega) (by decide) dX1_countCutsBy_20 ?_
        refine Wk.iconst (v := nI 2) X dX1_countCutsBy_21 (by decide) ?_
        refine Wk.icmp_ne X 38 dX1_countCutsBy_22 (by decide) (fun c2 => ?_) (fun c2 => ?_)
        · skip
          refine Wk.iincN (n := 1) (lv' := [(3, .int (nI (k + 1))), (0, .ref (h 6)), (1, .int f), (2, .int (nI x))]) X 3 rfl dX1_countCutsBy_38 (by decide) rfl ?_
          refine Wk.goto X 4 dX1_countCutsBy_41 (by decide) ?_
          refine Wk.lvs (lv' := [(0, .ref (h 6)), (1, .int f), (2, .int (nI x)), (3, .int (nI (k + 1)))]) [1, 2, 3, 0] rfl ?_
          exact ih4 (k + 1) x (by omega) (by omega) (by simp [ccC, *])
        · skip
          refine Wk.aload_n X 0 rfl dX1_countCutsBy_25 rfl ?_
          refine Wk.get X inX1 6 2 lk15 (fun _ h9 => h9) rfl rfl (by decide) rfl dX1_countCutsBy_26 ?_
          refine Wk.iload_n X 3 rfl dX1_countCutsBy_29 rfl ?_
          refine Wk.iald X 8 0 rfl rfl (by omega) (by decide) dX1_countCutsBy_30 ?_
          refine Wk.iload_n X 1 rfl dX1_countCutsBy_31 rfl ?_
          refine Wk.icmp_ne X 38 dX1_countCutsBy_32 (by decide) (fun c3 => ?_) (fun c3 => ?_)
          · skip
            refine Wk.iincN (n := 1) (lv' := [(3, .int (nI (k + 1))), (0, .ref (h 6)), (1, .int f), (2, .int (nI x))]) X 3 rfl dX1_countCutsBy_38 (by decide) rfl ?_
            refine Wk.goto X 4 dX1_countCutsBy_41 (by decide) ?_
            refine Wk.lvs (lv' := [(0, .ref (h 6)), (1, .int f), (2, .int (nI x)), (3, .int (nI (k + 1)))]) [1, 2, 3, 0] rfl ?_
            exact ih4 (k + 1) x (by omega) (by omega) (by simp [ccC, *])
          · skip
            refine Wk.iincN (n := 1) (lv' := [(2, .int (nI (x + 1))), (0, .ref (h 6)), (1, .int f), (3, .int (nI k))]) X 2 rfl dX1_countCutsBy_35 (by decide) rfl ?_
            refine Wk.iincN (n := 1) (lv' := [(3, .int (nI (k + 1))), (2, .int (nI (x + 1))), (0, .ref (h 6)), (1, .int f)]) X 3 rfl dX1_countCutsBy_38 (by decide) rfl ?_
            refine Wk.goto X 4 dX1_countCutsBy_41 (by decide) ?_
            refine Wk.lvs (lv' := [(0, .ref (h 6)), (1, .int f), (2, .int (nI (x + 1))), (3, .int (nI (k + 1)))]) [2, 3, 1, 0] rfl ?_
            exact ih4 (k + 1) (x + 1) (by omega) (by omega) (by simp [ccC, *])
  refine Wk.lvs (lv' := [(0, .ref (h 6)), (1, .int f), (2, .int (nI 0)), (3, .int (nI 0))]) [2, 3, 1, 0] rfl ?_
  exact L4 (t * 15 + 1) 0 0 (by omega) (by omega) (by rfl)

set_option maxHeartbeats 4000000 in
set_option maxRecDepth 100000 in
theorem c_X3_takeScores (l : Launch) (dC : Nat → ClassId) (dI : Nat → Nat → Nat) (cI cJ cZ : ClassId) (h : Nat → Nat) (n : Nat) (li : Nat → Int32) (gr : Nat → Int32) (nb : Nat → Int32) (sc : Nat → Int64) (t : Nat) (ki : Nat → Int32) (fe : Nat → Int32) (lm : Nat → Int32) (si : Nat → Int32) (va : Nat → Int32) (he : Nat → Int32) (up : Nat → Int64) (lo : Nat → Int64) (pu : Nat → Int32) (pl : Nat → Int32) (gh : Nat) (gs : Int32) (bf : Bool) (b1 : Int32) (b2 : Int32) (b3 : Int32) (bu : Int64) (bl : Int64) (se : Nat → Int32) (hn0 : n ≤ 24) (ht0 : t ≤ 20) (hfe : ∀ j, j < t * 15 → ki j = nI 2 → ∃ f, f < 4 ∧ fe j = nI f) : Cv l yX3_takeScores wsX3_takeScores 4 100 (dC, dI) cl6 (TY cI cJ cZ) false [.ref (h 1), .ref (h 6)] (Wc h cI cJ cZ n li gr nb sc t ki fe lm si va he up lo pu pl gh gs bf b1 b2 b3 bu bl se) (Wc h cI cJ cZ n li gr nb (scT sc (scoreC ki fe lm si va nb t) n) t ki fe lm si va he up lo pu pl gh gs bf b1 b2 b3 bu bl se) := by
  refine Cv.of (cc := cX3_takeScores) (maxL := 3) (own := RX3) rfl (by decide) rfl (Nat.le_of_ble_eq_true rfl) ?_
  intro pg ev s0 md ar bw mt cd A X hr hk
  show Wk pg l ev _ s0 md ar bw mt cd 0 0 _ 3 (dC, dI) cl6 A 0 [(0, .ref (h 1)), (1, .ref (h 6))] [] (Wc h cI cJ cZ n li gr nb sc t ki fe lm si va he up lo pu pl gh gs bf b1 b2 b3 bu bl se)
  have inX3 : ∀ w ∈ u_ws RX3 TX3 5, w ∈ wsX3_takeScores := by decide +kernel
  have lk21 := X.w (.fieldLink RX3 21 "PairedTrees$Things" "scores" "[J") (by decide +kernel)
  have lk25 := X.w (.fieldLink RX3 25 "PairedTrees$Things" "count" "I") (by decide +kernel)
  refine Wk.iconst (v := nI 0) X dX3_takeScores_0 (by decide) ?_
  refine Wk.istore_n (lv' := [(2, .int (nI 0)), (0, .ref (h 1)), (1, .ref (h 6))]) X dX3_takeScores_1 rfl (by decide) rfl ?_
  have L2 : ∀ (fu2 : Nat) (k : Nat) (hq : n + 1 ≤ k + fu2) (hk0 : k ≤ n), Wk pg l ev ({ frames := 4, cells := 0, slots := 0, locals := 100 } : Room) s0 md ar bw mt cd 0 0 (QRv bw ar s0 (dC, dI) cl6 (TY cI cJ cZ) A (Wc h cI cJ cZ n li gr nb (scT sc (scoreC ki fe lm si va nb t) n) t ki fe lm si va he up lo pu pl gh gs bf b1 b2 b3 bu bl se)) 3 (dC, dI) cl6 A 2 [(0, .ref (h 1)), (1, .ref (h 6)), (2, .int (nI k))] [] (Wc h cI cJ cZ n li gr nb (scT sc (scoreC ki fe lm si va nb t) k) t ki fe lm si va he up lo pu pl gh gs bf b1 b2 b3 bu bl se) := by
    intro fu2
    induction fu2 with
    | zero => intro k hq hk0; exact absurd hq (by omega)
    | succ fu2 ih2 =>
      intro k hq hk0
      refine Wk.iload_n X 2 rfl dX3_takeScores_2 rfl ?_
      refine Wk.aload_n X 0 rfl dX3_takeScores_3 rfl ?_
      refine Wk.get X inX3 1 0 lk25 (fun _ h9 => h9) rfl rfl (by decide) rfl dX3_takeScores_4 ?_
      refine Wk.icmpN_ge X 28 (by omega) (by omega) dX3_takeScores_7 (by decide) (fun c1 => ?_) (fun c1 => ?_)
      · skip
        exact Wk.vret X hr hk (by rw [show n = k by omega]) dX3_takeScores_28
      · skip
        refine Wk.aload_n X 0 rfl dX3_takeScores_10 rfl ?_
        refine Wk.get X inX3 1 4 lk21 (fun _ h9 => h9) rfl rfl (by decide) rfl dX3_takeScores_11 ?_
        refine Wk.iload_n X 2 rfl dX3_takeScores_14 rfl ?_
        refine Wk.aload_n X 1 rfl dX3_takeScores_15 rfl ?_
        refine Wk.aload_n X 0 rfl dX3_takeScores_16 rfl ?_
        refine Wk.iload_n X 2 rfl dX3_takeScores_17 rfl ?_
        refine Wk.callVl (n := 2) (q0 := 6) X (c_X1_sumFor l dC dI cI cJ cZ h n li gr nb (scT sc (scoreC ki fe lm si va nb t) k) t ki fe lm si va he up lo pu pl gh gs bf b1 b2 b3 bu bl se k (by first | omega | assumption) (by first | omega | assumption) (by first | omega | assumption)) gX3_takeScores_X1_sumFor rfl (by decide +kernel) (by decide) Fr.all (fun h9 => h9) rfl rfl rfl rfl (Nat.le_of_ble_eq_true rfl) ⟨Nat.zero_le _, Nat.zero_le _⟩ dX3_takeScores_18 ?_
        refine Wk.last (ws' := Wc h cI cJ cZ n li gr nb (vp_updL (scT sc (scoreC ki fe lm si va nb t) k) k (scoreC ki fe lm si va nb t k)) t ki fe lm si va he up lo pu pl gh gs bf b1 b2 b3 bu bl se) X 5 1 rfl rfl (by omega) (by decide) rfl dX3_takeScores_21 ?_
        refine Wk.iincN (n := 1) (lv' := [(2, .int (nI (k + 1))), (0, .ref (h 1)), (1, .ref (h 6))]) X 2 rfl dX3_takeScores_22 (by decide) rfl ?_
        refine Wk.goto X 2 dX3_takeScores_25 (by decide) ?_
        refine Wk.lvs (lv' := [(0, .ref (h 1)), (1, .ref (h 6)), (2, .int (nI (k + 1)))]) [1, 2, 0] rfl ?_
        exact ih2 (k + 1) (by omega) (by omega)
  refine Wk.lvs (lv' := [(0, .ref (h 1)), (1, .ref (h 6)), (2, .int (nI 0))]) [1, 2, 0] rfl ?_
  exact L2 (n + 1) 0 (by omega) (by omega)

set_option maxHeartbeats 4000000 in
set_option maxRecDepth 100000 in
theorem c_X0_isBetter (l : Launch) (dC : Nat → ClassId) (dI : Nat → Nat → Nat) (cI cJ cZ : ClassId) (h : Nat → Nat) (n : Nat) (li : Nat → Int32) (gr : Nat → Int32) (nb : Nat → Int32) (sc : Nat → Int64) (t : Nat) (ki : Nat → Int32) (fe : Nat → Int32) (lm : Nat → Int32) (si : Nat → Int32) (va : Nat → Int32) (he : Nat → Int32) (up : Nat → Int64) (lo : Nat → Int64) (pu : Nat → Int32) (pl : Nat → Int32) (gh : Nat) (gs : Int32) (bf : Bool) (b1 : Int32) (b2 : Int32) (b3 : Int32) (bu : Int64) (bl : Int64) (se : Nat → Int32) (f : Int32) (cv : Int32) (sd : Int32) (gu : Int64) (gl : Int64) : Ci l yX0_isBetter wsX0_isBetter 0 0 (dC, dI) cl6 (TY cI cJ cZ) false [.ref (h 18), .int f, .int cv, .int sd, .long gu, .long gl] (Wc h cI cJ cZ n li gr nb sc t ki fe lm si va he up lo pu pl gh gs bf b1 b2 b3 bu bl se) (bI (ibC f cv sd gu gl b1 b2 b3 bu bl)) (Wc h cI cJ cZ n li gr nb sc t ki fe lm si va he up lo pu pl gh gs bf b1 b2 b3 bu bl se) := by
  refine Ci.of (cc := cX0_isBetter) (maxL := 12) (ty := .boolean) (own := RX0) rfl (by decide) rfl (Nat.le_of_ble_eq_true rfl) ?_
  intro pg ev s0 md ar bw mt cd A X hr hk
  show Wk pg l ev _ s0 md ar bw mt cd 0 0 _ 12 (dC, dI) cl6 A 0 [(0, .ref (h 18)), (1, .int f), (2, .int cv), (3, .int sd), (4, .long gu), (6, .long gl)] [] (Wc h cI cJ cZ n li gr nb sc t ki fe lm si va he up lo pu pl gh gs bf b1 b2 b3 bu bl se)
  have inX0 : ∀ w ∈ u_ws RX0 TX0 6, w ∈ wsX0_isBetter := by decide +kernel
  have lk17 := X.w (.fieldLink RX0 17 "PairedTrees$BestCut" "feature" "I") (by decide +kernel)
  have lk21 := X.w (.fieldLink RX0 21 "PairedTrees$BestCut" "limit" "I") (by decide +kernel)
  have lk24 := X.w (.fieldLink RX0 24 "PairedTrees$BestCut" "side" "I") (by decide +kernel)
  have lk27 := X.w (.fieldLink RX0 27 "PairedTrees$BestCut" "upper" "J") (by decide +kernel)
  have lk31 := X.w (.fieldLink RX0 31 "PairedTrees$BestCut" "lower" "J") (by decide +kernel)
  refine Wk.lload X 4 rfl dX0_isBetter_0 ?_
  refine Wk.aload_n X 0 rfl dX0_isBetter_2 rfl ?_
  refine Wk.get X inX0 18 5 lk31 (fun _ h9 => h9) rfl rfl (by decide) rfl dX0_isBetter_3 ?_
  refine Wk.lmul X dX0_isBetter_6 ?_
  refine Wk.lstore (lv' := [(8, .long (gu * bl)), (0, .ref (h 18)), (1, .int f), (2, .int cv), (3, .int sd), (4, .long gu), (6, .long gl)]) X dX0_isBetter_7 (by decide) rfl ?_
  refine Wk.aload_n X 1 rfl dX0_isBetter_9 rfl ?_
  refine Wk.get X inX0 18 4 lk27 (fun _ h9 => h9) rfl rfl (by decide) rfl dX0_isBetter_10 ?_
  refine Wk.lload X 6 rfl dX0_isBetter_13 ?_
  refine Wk.lmul X dX0_isBetter_15 ?_
  refine Wk.lstore (lv' := [(10, .long (bu * gl)), (8, .long (gu * bl)), (0, .ref (h 18)), (1, .int f), (2, .int cv), (3, .int sd), (4, .long gu), (6, .long gl)]) X dX0_isBetter_16 (by decide) rfl ?_
  refine Wk.lload X 1 rfl dX0_isBetter_18 ?_
  refine Wk.lload X 0 rfl dX0_isBetter_20 ?_
  refine Wk.lcmp_eq X 40 dX0_isBetter_22 dX0_isBetter_23 (by decide) (fun c1 => ?_) (fun c1 => ?_)
  · skip
    refine Wk.iload_n X 3 rfl dX0_isBetter_40 rfl ?_
    refine Wk.aload_n X 2 rfl dX0_isBetter_41 rfl ?_
    refine Wk.get X inX0 18 1 lk17 (fun _ h9 => h9) rfl rfl (by decide) rfl dX0_isBetter_42 ?_
    refine Wk.icmp_eq X 62 dX0_isBetter_45 (by decide) (fun c2 => ?_) (fun c2 => ?_)
    · skip
      refine Wk.iload_n X 4 rfl dX0_isBetter_62 rfl ?_
      refine Wk.aload_n X 2 rfl dX0_isBetter_63 rfl ?_
      refine Wk.get X inX0 18 2 lk21 (fun _ h9 => h9) rfl rfl (by decide) rfl dX0_isBetter_64 ?_
      refine Wk.icmp_eq X 86 dX0_isBetter_67 (by decide) (fun c3 => ?_) (fun c3 => ?_)
      · skip
        refine Wk.iload_n X 5 rfl dX0_isBetter_86 rfl ?_
        refine Wk.aload_n X 2 rfl dX0_isBetter_87 rfl ?_
        refine Wk.get X inX0 18 3 lk24 (fun _ h9 => h9) rfl rfl (by decide) rfl dX0_isBetter_88 ?_
        refine Wk.icmp_ge X 98 dX0_isBetter_91 (by decide) (fun c4 => ?_) (fun c4 => ?_)
        · skip
          refine Wk.iconst (v := nI 0) X dX0_isBetter_98 (by decide) ?_
          exact Wk.zret X hr hk (by decide) (by simp [ibC, bI, nI_0, nIc1, *]) rfl dX0_isBetter_99
        · skip
          refine Wk.iconst (v := nI 1) X dX0_isBetter_94 (by decide) ?_
          refine Wk.goto X 99 dX0_isBetter_95 (by decide) ?_
          exact Wk.zret X hr hk (by decide) (by simp [ibC, bI, nI_0, nIc1, *]) rfl dX0_isBetter_99
      · skip
        refine Wk.iload_n X 4 rfl dX0_isBetter_70 rfl ?_
        refine Wk.aload_n X 2 rfl dX0_isBetter_71 rfl ?_
        refine Wk.get X inX0 18 2 lk21 (fun _ h9 => h9) rfl rfl (by decide) rfl dX0_isBetter_72 ?_
        refine Wk.icmp_ge X 82 dX0_isBetter_75 (by decide) (fun c5 => ?_) (fun c5 => ?_)
        · skip
          refine Wk.iconst (v := nI 0) X dX0_isBetter_82 (by decide) ?_
          refine Wk.goto X 99 dX0_isBetter_83 (by decide) ?_
          exact Wk.zret X hr hk (by decide) (by simp [ibC, bI, nI_0, nIc1, *]) rfl dX0_isBetter_99
        · skip
          refine Wk.iconst (v := nI 1) X dX0_isBetter_78 (by decide) ?_
          refine Wk.goto X 99 dX0_isBetter_79 (by decide) ?_
          exact Wk.zret X hr hk (by decide) (by simp [ibC, bI, nI_0, nIc1, *]) rfl dX0_isBetter_99
    · skip
      refine Wk.iload_n X 3 rfl dX0_isBetter_48 rfl ?_
      refine Wk.aload_n X 2 rfl dX0_isBetter_49 rfl ?_
      refine Wk.get X inX0 18 1 lk17 (fun _ h9 => h9) rfl rfl (by decide) rfl dX0_isBetter_50 ?_
      refine Wk.icmp_ge X 60 dX0_isBetter_53 (by decide) (fun c6 => ?_) (fun c6 => ?_)
      · skip
        refine Wk.iconst (v := nI 0) X dX0_isBetter_60 (by decide) ?_
        exact Wk.zret X hr hk (by decide) (by simp [ibC, bI, nI_0, nIc1, *]) rfl dX0_isBetter_61
      · skip
        refine Wk.iconst (v := nI 1) X dX0_isBetter_56 (by decide) ?_
        refine Wk.goto X 61 dX0_isBetter_57 (by decide) ?_
        exact Wk.zret X hr hk (by decide) (by simp [ibC, bI, nI_0, nIc1, *]) rfl dX0_isBetter_61
  · skip
    refine Wk.lload X 1 rfl dX0_isBetter_26 ?_
    refine Wk.lload X 0 rfl dX0_isBetter_28 ?_
    refine Wk.lcmp_le X 38 dX0_isBetter_30 dX0_isBetter_31 (by decide) (fun c7 => ?_) (fun c7 => ?_)
    · skip
      refine Wk.iconst (v := nI 0) X dX0_isBetter_38 (by decide) ?_
      exact Wk.zret X hr hk (by decide) (by simp [ibC, bI, nI_0, nIc1, *]) rfl dX0_isBetter_39
    · skip
      refine Wk.iconst (v := nI 1) X dX0_isBetter_34 (by decide) ?_
      refine Wk.goto X 39 dX0_isBetter_35 (by decide) ?_
      exact Wk.zret X hr hk (by decide) (by simp [ibC, bI, nI_0, nIc1, *]) rfl dX0_isBetter_39

set_option maxHeartbeats 4000000 in
set_option maxRecDepth 100000 in
theorem c_X0_offer (l : Launch) (dC : Nat → ClassId) (dI : Nat → Nat → Nat) (cI cJ cZ : ClassId) (h : Nat → Nat) (n : Nat) (li : Nat → Int32) (gr : Nat → Int32) (nb : Nat → Int32) (sc : Nat → Int64) (t : Nat) (ki : Nat → Int32) (fe : Nat → Int32) (lm : Nat → Int32) (si : Nat → Int32) (va : Nat → Int32) (he : Nat → Int32) (up : Nat → Int64) (lo : Nat → Int64) (pu : Nat → Int32) (pl : Nat → Int32) (gh : Nat) (gs : Int32) (bf : Bool) (b1 : Int32) (b2 : Int32) (b3 : Int32) (bu : Int64) (bl : Int64) (se : Nat → Int32) (f : Int32) (cv : Int32) (sd : Int32) (gu : Int64) (gl : Int64) : Cv l yX0_offer wsX0_offer 1 31 (dC, dI) cl6 (TY cI cJ cZ) false [.ref (h 18), .int f, .int cv, .int sd, .long gu, .long gl] (Wc h cI cJ cZ n li gr nb sc t ki fe lm si va he up lo pu pl gh gs bf b1 b2 b3 bu bl se) (Wc h cI cJ cZ n li gr nb sc t ki fe lm si va he up lo pu pl gh gs true (if ofC f cv sd gu gl bf b1 b2 b3 bu bl = true then f else b1) (if ofC f cv sd gu gl bf b1 b2 b3 bu bl = true then cv else b2) (if ofC f cv sd gu gl bf b1 b2 b3 bu bl = true then sd else b3) (if ofC f cv sd gu gl bf b1 b2 b3 bu bl = true then gu else bu) (if ofC f cv sd gu gl bf b1 b2 b3 bu bl = true then gl else bl) se) := by
  refine Cv.of (cc := cX0_offer) (maxL := 8) (own := RX0) rfl (by decide) rfl (Nat.le_of_ble_eq_true rfl) ?_
  intro pg ev s0 md ar bw mt cd A X hr hk
  show Wk pg l ev _ s0 md ar bw mt cd 0 0 _ 8 (dC, dI) cl6 A 0 [(0, .ref (h 18)), (1, .int f), (2, .int cv), (3, .int sd), (4, .long gu), (6, .long gl)] [] (Wc h cI cJ cZ n li gr nb sc t ki fe lm si va he up lo pu pl gh gs bf b1 b2 b3 bu bl se)
  have inX0 : ∀ w ∈ u_ws RX0 TX0 6, w ∈ wsX0_offer := by decide +kernel
  have lk7 := X.w (.fieldLink RX0 7 "PairedTrees$BestCut" "isFound" "Z") (by decide +kernel)
  have lk17 := X.w (.fieldLink RX0 17 "PairedTrees$BestCut" "feature" "I") (by decide +kernel)
  have lk21 := X.w (.fieldLink RX0 21 "PairedTrees$BestCut" "limit" "I") (by decide +kernel)
  have lk24 := X.w (.fieldLink RX0 24 "PairedTrees$BestCut" "side" "I") (by decide +kernel)
  have lk27 := X.w (.fieldLink RX0 27 "PairedTrees$BestCut" "upper" "J") (by decide +kernel)
  have lk31 := X.w (.fieldLink RX0 31 "PairedTrees$BestCut" "lower" "J") (by decide +kernel)
  refine Wk.aload_n X 0 rfl dX0_offer_0 rfl ?_
  refine Wk.get X inX0 18 0 lk7 (fun _ h9 => h9) rfl rfl (by decide) rfl dX0_offer_1 ?_
  refine Wk.ifB_eq X 22 dX0_offer_4 (by decide) (fun c1 => ?_) (fun c1 => ?_)
  · skip
    refine Wk.aload_n X 0 rfl dX0_offer_22 rfl ?_
    refine Wk.iconst (v := nI 1) X dX0_offer_23 (by decide) ?_
    refine Wk.put (ws' := Wc h cI cJ cZ n li gr nb sc t ki fe lm si va he up lo pu pl gh gs true b1 b2 b3 bu bl se) X inX0 tyX0 tyX0_ok nmX0 18 0 lk7 (fun _ h9 => h9) rfl rfl (by decide) rfl (tyX0_ok 0 (by decide)) (by decide) (by decide) (Nat.le_of_ble_eq_true rfl) rfl dX0_offer_24 ?_
    refine Wk.aload_n X 0 rfl dX0_offer_27 rfl ?_
    refine Wk.iload_n X 1 rfl dX0_offer_28 rfl ?_
    refine Wk.put (ws' := Wc h cI cJ cZ n li gr nb sc t ki fe lm si va he up lo pu pl gh gs true f b2 b3 bu bl se) X inX0 tyX0 tyX0_ok nmX0 18 1 lk17 (fun _ h9 => h9) rfl rfl (by decide) rfl (tyX0_ok 1 (by decide)) rfl rfl (Nat.le_of_ble_eq_true rfl) rfl dX0_offer_29 ?_
    refine Wk.aload_n X 0 rfl dX0_offer_32 rfl ?_
    refine Wk.iload_n X 2 rfl dX0_offer_33 rfl ?_
    refine Wk.put (ws' := Wc h cI cJ cZ n li gr nb sc t ki fe lm si va he up lo pu pl gh gs true f cv b3 bu bl se) X inX0 tyX0 tyX0_ok nmX0 18 2 lk21 (fun _ h9 => h9) rfl rfl (by decide) rfl (tyX0_ok 2 (by decide)) rfl rfl (Nat.le_of_ble_eq_true rfl) rfl dX0_offer_34 ?_
    refine Wk.aload_n X 0 rfl dX0_offer_37 rfl ?_
    refine Wk.iload_n X 3 rfl dX0_offer_38 rfl ?_
    refine Wk.put (ws' := Wc h cI cJ cZ n li gr nb sc t ki fe lm si va he up lo pu pl gh gs true f cv sd bu bl se) X inX0 tyX0 tyX0_ok nmX0 18 3 lk24 (fun _ h9 => h9) rfl rfl (by decide) rfl (tyX0_ok 3 (by decide)) rfl rfl (Nat.le_of_ble_eq_true rfl) rfl dX0_offer_39 ?_
    refine Wk.aload_n X 0 rfl dX0_offer_42 rfl ?_
    refine Wk.lload X 4 rfl dX0_offer_43 ?_
    refine Wk.put (ws' := Wc h cI cJ cZ n li gr nb sc t ki fe lm si va he up lo pu pl gh gs true f cv sd gu bl se) X inX0 tyX0 tyX0_ok nmX0 18 4 lk27 (fun _ h9 => h9) rfl rfl (by decide) rfl (tyX0_ok 4 (by decide)) rfl rfl (Nat.le_of_ble_eq_true rfl) rfl dX0_offer_45 ?_
    refine Wk.aload_n X 0 rfl dX0_offer_48 rfl ?_
    refine Wk.lload X 5 rfl dX0_offer_49 ?_
    refine Wk.put (ws' := Wc h cI cJ cZ n li gr nb sc t ki fe lm si va he up lo pu pl gh gs true f cv sd gu gl se) X inX0 tyX0 tyX0_ok nmX0 18 5 lk31 (fun _ h9 => h9) rfl rfl (by decide) rfl (tyX0_ok 5 (by decide)) rfl rfl (Nat.le_of_ble_eq_true rfl) rfl dX0_offer_51 ?_
    exact Wk.vret X hr hk (by simp [ofC, *]) dX0_offer_54
  · skip
    refine Wk.aload_n X 0 rfl dX0_offer_7 rfl ?_
    refine Wk.iload_n X 1 rfl dX0_offer_8 rfl ?_
    refine Wk.iload_n X 2 rfl dX0_offer_9 rfl ?_
    refine Wk.iload_n X 3 rfl dX0_offer_10 rfl ?_
    refine Wk.lload X 4 rfl dX0_offer_11 ?_
    refine Wk.lload X 5 rfl dX0_offer_13 ?_
    refine Wk.callVi (n := 5) (q0 := 18) X (c_X0_isBetter l dC dI cI cJ cZ h n li gr nb sc t ki fe lm si va he up lo pu pl gh gs bf b1 b2 b3 bu bl se f cv sd gu gl) gX0_offer_X0_isBetter rfl (by decide +kernel) (by decide) Fr.all (fun h9 => h9) rfl rfl rfl rfl (Nat.le_of_ble_eq_true rfl) ⟨Nat.zero_le _, Nat.zero_le _⟩ dX0_offer_15 ?_
    refine Wk.ifB_ne X 22 dX0_offer_18 (by decide) (fun c2 => ?_) (fun c2 => ?_)
    · skip
      refine Wk.aload_n X 0 rfl dX0_offer_22 rfl ?_
      refine Wk.iconst (v := nI 1) X dX0_offer_23 (by decide) ?_
      refine Wk.put (ws' := Wc h cI cJ cZ n li gr nb sc t ki fe lm si va he up lo pu pl gh gs true b1 b2 b3 bu bl se) X inX0 tyX0 tyX0_ok nmX0 18 0 lk7 (fun _ h9 => h9) rfl rfl (by decide) rfl (tyX0_ok 0 (by decide)) (by decide) (by decide) (Nat.le_of_ble_eq_true rfl) rfl dX0_offer_24 ?_
      refine Wk.aload_n X 0 rfl dX0_offer_27 rfl ?_
      refine Wk.iload_n X 1 rfl dX0_offer_28 rfl ?_
      refine Wk.put (ws' := Wc h cI cJ cZ n li gr nb sc t ki fe lm si va he up lo pu pl gh gs true f b2 b3 bu bl se) X inX0 tyX0 tyX0_ok nmX0 18 1 lk17 (fun _ h9 => h9) rfl rfl (by decide) rfl (tyX0_ok 1 (by decide)) rfl rfl (Nat.le_of_ble_eq_true rfl) rfl dX0_offer_29 ?_
      refine Wk.aload_n X 0 rfl dX0_offer_32 rfl ?_
      refine Wk.iload_n X 2 rfl dX0_offer_33 rfl ?_
      refine Wk.put (ws' := Wc h cI cJ cZ n li gr nb sc t ki fe lm si va he up lo pu pl gh gs true f cv b3 bu bl se) X inX0 tyX0 tyX0_ok nmX0 18 2 lk21 (fun _ h9 => h9) rfl rfl (by decide) rfl (tyX0_ok 2 (by decide)) rfl rfl (Nat.le_of_ble_eq_true rfl) rfl dX0_offer_34 ?_
      refine Wk.aload_n X 0 rfl dX0_offer_37 rfl ?_
      refine Wk.iload_n X 3 rfl dX0_offer_38 rfl ?_
      refine Wk.put (ws' := Wc h cI cJ cZ n li gr nb sc t ki fe lm si va he up lo pu pl gh gs true f cv sd bu bl se) X inX0 tyX0 tyX0_ok nmX0 18 3 lk24 (fun _ h9 => h9) rfl rfl (by decide) rfl (tyX0_ok 3 (by decide)) rfl rfl (Nat.le_of_ble_eq_true rfl) rfl dX0_offer_39 ?_
      refine Wk.aload_n X 0 rfl dX0_offer_42 rfl ?_
      refine Wk.lload X 4 rfl dX0_offer_43 ?_
      refine Wk.put (ws' := Wc h cI cJ cZ n li gr nb sc t ki fe lm si va he up lo pu pl gh gs true f cv sd gu bl se) X inX0 tyX0 tyX0_ok nmX0 18 4 lk27 (fun _ h9 => h9) rfl rfl (by decide) rfl (tyX0_ok 4 (by decide)) rfl rfl (Nat.le_of_ble_eq_true rfl) rfl dX0_offer_45 ?_
      refine Wk.aload_n X 0 rfl dX0_offer_48 rfl ?_
      refine Wk.lload X 5 rfl dX0_offer_49 ?_
      refine Wk.put (ws' := Wc h cI cJ cZ n li gr nb sc t ki fe lm si va he up lo pu pl gh gs true f cv sd gu gl se) X inX0 tyX0 tyX0_ok nmX0 18 5 lk31 (fun _ h9 => h9) rfl rfl (by decide) rfl (tyX0_ok 5 (by decide)) rfl rfl (Nat.le_of_ble_eq_true rfl) rfl dX0_offer_51 ?_
      exact Wk.vret X hr hk (by simp [ofC, *]) dX0_offer_54
    · skip
      exact Wk.vret X hr hk (by simp [ofC, *]) dX0_offer_21
end
