/-! THE CLAIM OUT OF ONE WALK OF THE LAW'S BODY. Your part is whole_start (and what it stands on); all else here is the same for every law, but numbers. -/
def R_law : String := "PairedTreesLaw"
def lw_P (b : Addr) (xs : List Int32) (args : Array Value) (s : State) : Prop := args = #[.ref b] ∧ s.IntsAt b xs ∧ xs.length ≤ 2048 ∧ (Jvm.Cond.and given_1 narrow_1).before args s = true
def lw_Q (_ : Array Value) (s : State) (o : Outcome) (t : State) : Prop := o = .returned (some (.int 1)) ∧ Framed s o t [] 603072 7211114
def lw_Z (below : List Frame) (a : Array Value) (s : State) : State → Prop := fun t => ∃ o, t.status = .running ∧ Ended t below o ∧ lw_Q a s o t
/-- the law's own end, with 1 on the stack, nothing written that was there before, its room as the claim has it -/
theorem lw_ret {p : Program} {l : Launch} {e : Env} {s : State} {m : MethodId} {below : List Frame} {meth : Method} {c : Code} {b : Nat} (hx : p.tables.exec = Jvm.exec) (hb : c.code = code) (hr : meth.sig.returnType = ret) (hlocks : meth.locks = false) {pc : Nat} {H : Heap} {ls : Array Slot} (hdg : decode code pc = .ok (.ireturn, 1)) : W p l e room_1 s m #[Value.ref b] below meth c H [] 603072 7211114 (lw_Z below #[Value.ref b] s) (F0 m pc ls [.int 1]) := by
  intro T hT X
  obtain ⟨fs, hret, hrun, hended, hW, hframe⟩ := X.leave (v := some (.int 1)) (hlocks := hlocks) (fun h => by rw [hr] at h; cases h)
  have hmeth' : T.vm.method? m = some meth := X.method'
  refine ⟨T.setFrames fs, ?_, .returned (some (.int 1)), hrun, hended, rfl, ⟨_, rfl⟩, hW, hframe⟩
  jvm_step X.here [X.here.top, hx, hb, hdg, hmeth', hr, ret, narrow_b1]
  (try refine ⟨rfl, ?_⟩); (try refine ⟨rfl, ?_⟩)
  first | (intro acts; rw [hret _ acts rfl rfl rfl]) | rw [hret _ _ rfl rfl rfl]
  exact Steps.refl _
/-- what holds at the law's entry: the machine, the code, the tables' words (any of lw_tbl by 'hts w (by decide +kernel)'), the script of L ints xs at the cell b, what the Statement gives of the start (any of its parts by flat_of_before) -/
def lw_At (p : Program) (s : State) (m : MethodId) (meth : Method) (c : Code) (b L : Nat) (xs : Nat → Int32) : Prop :=
  p.tables.exec = Jvm.exec ∧ c.code = code ∧ meth.sig.returnType = ret ∧ c.maxLocals = 7 ∧ s.vm.findClass R_law = some m.cls ∧ (∀ w ∈ lw_tbl, w.before #[Value.ref b] s = true) ∧ va_X b L xs s s.heap ∧ b < s.heap.size ∧ meth.locks = false ∧ (Jvm.Cond.and given_1 narrow_1).before #[Value.ref b] s = true
set_option maxHeartbeats 4000000 in
set_option maxRecDepth 100000 in
theorem law_loop {p : Program} {l : Launch} {e : Env} {s : State} {m : MethodId} {below : List Frame} {meth : Method} {c : Code} {dC : Nat → ClassId} {dI : Nat → Nat → Nat} {cI cJ cZ : ClassId} {b L : Nat} {xs : Nat → Int32} {h hm : Nat → Nat} {ho : Nat} (htr : l.stackTraces = false) (X : Cx p s m #[Value.ref b] c cL_law RL lw_tbl 7 (dC, dI) cl6 (TY cI cJ cZ) (fun z : Nat => s.heap.size ≤ z) true) (hr : meth.sig.returnType = ret) (hlocks : meth.locks = false) (hX : va_X b L xs s s.heap) (hbl : b < s.heap.size) (hL : L ≤ 2048) : ∀ (d i q : Nat) (n : Nat) (li : Nat → Int32) (gr : Nat → Int32) (nb : Nat → Int32) (sc : Nat → Int64) (t : Nat) (ki : Nat → Int32) (fe : Nat → Int32) (lm : Nat → Int32) (si : Nat → Int32) (va : Nat → Int32) (he : Nat → Int32) (up : Nat → Int64) (lo : Nat → Int64) (pu : Nat → Int32) (pl : Nat → Int32) (gh : Nat) (gs : Int32) (bf : Bool) (b1 : Int32) (b2 : Int32) (b3 : Int32) (bu : Int64) (bl : Int64) (se : Nat → Int32) (th2 : Int32) (li2 : Nat → Int32) (gr2 : Nat → Int32) (nu2 : Nat → Int32) (hb2 : Nat → Bool) (se2 : Nat → Int32) (ki2 : Nat → Int32) (fe2 : Nat → Int32) (lm2 : Nat → Int32) (si2 : Nat → Int32) (va2 : Nat → Int32) (he2 : Nat → Int32) (up2 : Nat → Int64) (lo2 : Nat → Int64) (sc2 : Nat → Int64) (no2 : Nat → Int32) (pu2 : Nat → Int32) (b12 : Int32) (b22 : Int32) (b32 : Int32) (bu2 : Int64) (bl2 : Int64) (ou : Nat → Int64), i = 4 * q → i ≤ L → L + 1 ≤ i + d → RR n t li gr nb ki fe lm si va he up lo se li2 gr2 nu2 hb2 se2 ki2 fe2 lm2 si2 va2 he2 up2 lo2 → Wk p l e room_1 s m #[Value.ref b] below meth c (100 + q) (6000 + 8 * q) (lw_Z below #[Value.ref b] s) 7 (dC, dI) cl6 (fun z : Nat => s.heap.size ≤ z) 23 [(0, .ref b), (1, .ref (h 0)), (2, .ref (hm 0)), (3, .ref ho), (4, .int (nI i))] [] (Wg h hm ho cI cJ cZ n li gr nb sc t ki fe lm si va he up lo pu pl gh gs bf b1 b2 b3 bu bl se th2 n li2 gr2 nu2 hb2 se2 t ki2 fe2 lm2 si2 va2 he2 up2 lo2 sc2 no2 pu2 b12 b22 b32 bu2 bl2 ou) := by
  have hbA : ¬ (fun z : Nat => s.heap.size ≤ z) b := Nat.not_le.mpr hbl
  intro d
  induction d with
  | zero => intros; omega
  | succ d ih =>
    intro i q n li gr nb sc t ki fe lm si va he up lo pu pl gh gs bf b1 b2 b3 bu bl se th2 li2 gr2 nu2 hb2 se2 ki2 fe2 lm2 si2 va2 he2 up2 lo2 sc2 no2 pu2 b12 b22 b32 bu2 bl2 ou hiq hiL hf hR
    refine Wk.iload X 4 rfl dL_law_23 ?_
    refine Wk.aload_n X 0 rfl dL_law_25 rfl ?_
    refine Wk.slen X hX hbl hbA dL_law_26 ?_
    refine Wk.iconst (v := nI 4) X dL_law_27 (by decide) ?_
    refine Wk.isub X dL_law_28 ?_
    have e4 : (nI L - nI 4).toInt = (L : Int) - 4 := pk_sub_toInt (by omega) (by decide)
    have ei : (nI i).toInt = (i : Int) := nI_toInt (by omega)
    refine Wk.icmp_gt X 776 dL_law_29 (by decide) (fun c1 => ?_) (fun c1 => ?_)
    · refine Wk.iconst (v := 1) X dL_law_776 (by decide) ?_
      intro H locs ls hP hD hS hl
      exact va_forget (fun q h => hS.2.2 q h) (W.widen (k := 603072) (n := 7211114) (by omega) (by omega) (lw_ret X.x X.b hr hlocks dL_law_777))
    · have hi : i + 4 ≤ L := by
        rw [Int32.lt_iff_toInt_lt, e4, ei] at c1
        omega
      have hq : q ≤ 512 := by omega
      refine Wk.aload_n X 0 rfl dL_law_32 rfl ?_
      refine Wk.iload X 4 rfl dL_law_33 ?_
      refine Wk.sld X hX hbl hbA (by omega) (by omega) dL_law_35 ?_
      refine Wk.bipush (v := nI 31) X dL_law_36 (by decide) ?_
      refine Wk.iand X dL_law_38 ?_
      have K : Kon p l e s m #[Value.ref b] below meth c (lw_Z below #[Value.ref b] s) (dC, dI) (fun z : Nat => s.heap.size ≤ z) b h hm ho cI cJ cZ i q := by
        intro n9 li9 gr9 nb9 sc9 t9 ki9 fe9 lm9 si9 va9 he9 up9 lo9 pu9 pl9 gh9 gs9 bf9 b19 b29 b39 bu9 bl9 se9 th29 li29 gr29 nu29 hb29 se29 ki29 fe29 lm29 si29 va29 he29 up29 lo29 sc29 no29 pu29 b129 b229 b329 bu29 bl29 ou9 hR9
        refine Wk.iincN (n := 4) (lv' := [(4, .int (nI (i + 4))), (0, .ref b), (1, .ref (h 0)), (2, .ref (hm 0)), (3, .ref ho)]) X 4 rfl dL_law_770 (by decide) rfl ?_
        refine Wk.goto X 23 dL_law_773 (by decide) ?_
        refine Wk.lvs (lv' := [(0, .ref b), (1, .ref (h 0)), (2, .ref (hm 0)), (3, .ref ho), (4, .int (nI (i + 4)))]) [1, 2, 3, 4, 0] rfl ?_
        exact ih (i + 4) (q + 1) _ _ _ _ _ _ _ _ _ _ _ _ _ _ _ _ _ _ _ _ _ _ _ _ _ _ _ _ _ _ _ _ _ _ _ _ _ _ _ _ _ _ _ _ _ _ _ _ (by omega) hi (by omega) hR9
      rcases tab_split (xs i &&& nI 31) 17 with ⟨j9, hj9, e9⟩ | ho9
      · refine Wk.topi e9 ?_
        rcases (show j9 = 0 ∨ j9 = 1 ∨ j9 = 2 ∨ j9 = 3 ∨ j9 = 4 ∨ j9 = 5 ∨ j9 = 6 ∨ j9 = 7 ∨ j9 = 8 ∨ j9 = 9 ∨ j9 = 10 ∨ j9 = 11 ∨ j9 = 12 ∨ j9 = 13 ∨ j9 = 14 ∨ j9 = 15 ∨ j9 = 16 ∨ j9 = 17 by omega) with rfl | rfl | rfl | rfl | rfl | rfl | rfl | rfl | rfl | rfl | rfl | rfl | rfl | rfl | rfl | rfl | rfl | rfl
        · exact Wk.tableIn X 124 dL_law_39 (by decide) (by decide) rfl (by decide) (law_c0 htr X hX hbl hbA hL hi hq hR K)
        · exact Wk.tableIn X 161 dL_law_39 (by decide) (by decide) rfl (by decide) (law_c1 htr X hX hbl hbA hL hi hq hR K)
        · exact Wk.tableIn X 198 dL_law_39 (by decide) (by decide) rfl (by decide) (law_c2 htr X hX hbl hbA hL hi hq hR K)
        · exact Wk.tableIn X 247 dL_law_39 (by decide) (by decide) rfl (by decide) (law_c3 htr X hX hbl hbA hL hi hq hR K)
        · exact Wk.tableIn X 284 dL_law_39 (by decide) (by decide) rfl (by decide) (law_c4 htr X hX hbl hbA hL hi hq hR K)
        · exact Wk.tableIn X 352 dL_law_39 (by decide) (by decide) rfl (by decide) (law_c5 htr X hX hbl hbA hL hi hq hR K)
        · exact Wk.tableIn X 389 dL_law_39 (by decide) (by decide) rfl (by decide) (law_c6 htr X hX hbl hbA hL hi hq hR K)
        · exact Wk.tableIn X 402 dL_law_39 (by decide) (by decide) rfl (by decide) (law_c7 htr X hX hbl hbA hL hi hq hR K)
        · exact Wk.tableIn X 415 dL_law_39 (by decide) (by decide) rfl (by decide) (law_c8 htr X hX hbl hbA hL hi hq hR K)
        · exact Wk.tableIn X 464 dL_law_39 (by decide) (by decide) rfl (by decide) (law_c9 htr X hX hbl hbA hL hi hq hR K)
        · exact Wk.tableIn X 514 dL_law_39 (by decide) (by decide) rfl (by decide) (law_c10 htr X hX hbl hbA hL hi hq hR K)
        · exact Wk.tableIn X 540 dL_law_39 (by decide) (by decide) rfl (by decide) (law_c11 htr X hX hbl hbA hL hi hq hR K)
        · exact Wk.tableIn X 577 dL_law_39 (by decide) (by decide) rfl (by decide) (law_c12 htr X hX hbl hbA hL hi hq hR K)
        · exact Wk.tableIn X 602 dL_law_39 (by decide) (by decide) rfl (by decide) (law_c13 htr X hX hbl hbA hL hi hq hR K)
        · exact Wk.tableIn X 639 dL_law_39 (by decide) (by decide) rfl (by decide) (law_c14 htr X hX hbl hbA hL hi hq hR K)
        · exact Wk.tableIn X 676 dL_law_39 (by decide) (by decide) rfl (by decide) (law_c15 htr X hX hbl hbA hL hi hq hR K)
        · exact Wk.tableIn X 732 dL_law_39 (by decide) (by decide) rfl (by decide) (law_c16 htr X hX hbl hbA hL hi hq hR K)
        · exact Wk.tableIn X 757 dL_law_39 (by decide) (by decide) rfl (by decide) (law_c17 htr X hX hbl hbA hL hi hq hR K)
      · refine Wk.tableOut X 770 dL_law_39 ho9 (by decide) ?_
        exact Wk.wide (by omega) (by omega) (K hR)

set_option maxHeartbeats 4000000 in
set_option maxRecDepth 100000 in
theorem whole_start {p : Program} {e : Env} {s : State} {m : MethodId} {below : List Frame} {meth : Method} {c : Code} (l : Launch) (htr : l.stackTraces = false) {b L : Nat} {xs : Nat → Int32} (hL : L ≤ 2048) (C0 : lw_At p s m meth c b L xs) : W p l e room_1 s m #[Value.ref b] below meth c s.heap [] 0 0 (lw_Z below #[Value.ref b] s) (entryFrame m ([Value.ref b] : List Value).toArray 7) := by
  obtain ⟨hx, hb, hr, hml, hown, hts, hX, hbl, hlocks, hgv⟩ := id C0
  obtain ⟨dC, dI, cI, cJ, cZ, hK⟩ := K_start hts
  have X : Cx p s m #[Value.ref b] c cL_law RL lw_tbl 7 (dC, dI) cl6 (TY cI cJ cZ) (fun z : Nat => s.heap.size ≤ z) true := ⟨hx, hb, hml, hown, hts, hK, fun _ h => h, fun _ => SX_start hts hgv⟩
  have key : Wk p l e room_1 s m #[Value.ref b] below meth c 0 0 (lw_Z below #[Value.ref b] s) 7 (dC, dI) cl6 (fun z : Nat => s.heap.size ≤ z) 0 [(0, .ref b)] [] [] := by
    refine Wk.new (ci := 4) (fs := [.null, .null, .null, .null]) X inX4 tyX4 tyX4_ok (hts (.classLink RL 8 RX4) (by decide +kernel)) (hts (.instantiable RX4 4) (by decide +kernel)) (hts (.initialized RX4) (by decide +kernel)) rfl (fun j hj => by rcases (show j = 0 ∨ j = 1 ∨ j = 2 ∨ j = 3 by omega) with rfl | rfl | rfl | rfl <;> rfl) (by decide) (by decide) dL_law_0 (fun q1 => ?_)
    refine Wk.wsq (ws' := [(q1, .inr (4, [.null, .null, .null, .null]))]) rfl ?_
    refine Wk.dup X dL_law_3 rfl ?_
    refine Wk.callN (n := 0) X (c_X4_init2 l dC dI cI cJ cZ q1) (gT gL_law_X4_init) rfl (hts (.methodLink RL 23 yX4_init) (by decide +kernel)) (hts (.initialized RX4) (by decide +kernel)) (hts (.instanceMethod yX4_init) (by decide +kernel)) rfl (by decide +kernel) (by decide) (fun _ => rfl) [0] [] rfl rfl rfl rfl (by decide) rfl rfl (Nat.le_of_ble_eq_true rfl) (by decide) dL_law_4 (fun u1 => ?_)
    refine Wk.wsq (ws' := Wc (fun i => if i = 0 then q1 else u1 i) cI cJ cZ 0 ((fun _ => 0)) ((fun _ => 0)) (filF ((fun _ => 0)) (24 * 4) (-1001) 4) ((fun _ => 0)) 0 ((fun _ => 0)) ((fun _ => 0)) ((fun _ => 0)) ((fun _ => 0)) ((fun _ => 0)) ((fun _ => 0)) ((fun _ => 0)) ((fun _ => 0)) ((fun _ => 0)) ((fun _ => 0)) 0 0 false 0 0 0 0 0 (va_cpy sxF ((fun _ => 0)) 0 0 4)) rfl ?_
    refine Wk.astore_n (lv' := [(1, .ref q1), (0, .ref b)]) X dL_law_7 rfl (by decide) rfl ?_
    refine Wk.new (ci := 5) (fs := [.int 0, .int 0, .null, .null, .null, .null, .null, .int 0, .null, .null, .null, .null, .null, .null, .null, .null, .null, .null, .null, .int 0, .int 0, .int 0, .long 0, .long 0]) X inX5 tyX5 tyX5_ok (hts (.classLink RL 24 RX5) (by decide +kernel)) (hts (.instantiable RX5 24) (by decide +kernel)) (hts (.initialized RX5) (by decide +kernel)) rfl (fun j hj => by rcases (show j = 0 ∨ j = 1 ∨ j = 2 ∨ j = 3 ∨ j = 4 ∨ j = 5 ∨ j = 6 ∨ j = 7 ∨ j = 8 ∨ j = 9 ∨ j = 10 ∨ j = 11 ∨ j = 12 ∨ j = 13 ∨ j = 14 ∨ j = 15 ∨ j = 16 ∨ j = 17 ∨ j = 18 ∨ j = 19 ∨ j = 20 ∨ j = 21 ∨ j = 22 ∨ j = 23 by omega) with rfl | rfl | rfl | rfl | rfl | rfl | rfl | rfl | rfl | rfl | rfl | rfl | rfl | rfl | rfl | rfl | rfl | rfl | rfl | rfl | rfl | rfl | rfl | rfl <;> rfl) (by decide) (by decide) dL_law_8 (fun q2 => ?_)
    refine Wk.dup X dL_law_11 rfl ?_
    refine Wk.callN (n := 0) X (c_X5_init2 l dC dI cI cJ cZ q2) (gT gL_law_X5_init) rfl (hts (.methodLink RL 26 yX5_init) (by decide +kernel)) (hts (.initialized RX5) (by decide +kernel)) (hts (.instanceMethod yX5_init) (by decide +kernel)) rfl (by decide +kernel) (by decide) (fun h9 => absurd h9 (by decide)) [20] [0, 1, 2, 3, 4, 5, 6, 7, 8, 9, 10, 11, 12, 13, 14, 15, 16, 17, 18, 19] rfl rfl rfl rfl (by decide) rfl rfl (Nat.le_of_ble_eq_true rfl) (by decide) dL_law_12 (fun u2 => ?_)
    refine Wk.wsq (ws' := Wc (fun i => if i = 0 then q1 else u1 i) cI cJ cZ 0 ((fun _ => 0)) ((fun _ => 0)) (filF ((fun _ => 0)) (24 * 4) (-1001) 4) ((fun _ => 0)) 0 ((fun _ => 0)) ((fun _ => 0)) ((fun _ => 0)) ((fun _ => 0)) ((fun _ => 0)) ((fun _ => 0)) ((fun _ => 0)) ((fun _ => 0)) ((fun _ => 0)) ((fun _ => 0)) 0 0 false 0 0 0 0 0 (va_cpy sxF ((fun _ => 0)) 0 0 4) ++ Wm (fun i => if i = 0 then q2 else u2 i) cI cJ cZ 0 0 ((fun _ => 0)) ((fun _ => 0)) ((fun _ => 0)) (clB ((fun _ => false)) 100) (upd (upd (upd (upd ((fun _ => 0)) 0 (nI 10)) 1 (nI 10)) 2 (nI 2)) 3 (nI 1)) 0 ((fun _ => 0)) ((fun _ => 0)) ((fun _ => 0)) ((fun _ => 0)) ((fun _ => 0)) ((fun _ => 0)) ((fun _ => 0)) ((fun _ => 0)) ((fun _ => 0)) ((fun _ => 0)) ((fun _ => 0)) 0 0 0 0 0) rfl ?_
    refine Wk.astore_n (lv' := [(2, .ref q2), (1, .ref q1), (0, .ref b)]) X dL_law_15 rfl (by decide) rfl ?_
    refine Wk.iconst (v := nI 1) X dL_law_16 (by decide) ?_
    refine Wk.newaJ X 1 (hts (.arrayClass .long) (by decide +kernel)) rfl (by decide) (by decide) (by decide) dL_law_17 (fun q3 => ?_)
    refine Wk.astore_n (lv' := [(3, .ref q3), (2, .ref q2), (1, .ref q1), (0, .ref b)]) X dL_law_19 rfl (by decide) rfl ?_
    refine Wk.iconst (v := nI 0) X dL_law_20 (by decide) ?_
    refine Wk.istore (lv' := [(4, .int (nI 0)), (3, .ref q3), (2, .ref q2), (1, .ref q1), (0, .ref b)]) X dL_law_21 (by decide) rfl ?_
    refine Wk.lvs (lv' := [(0, .ref b), (1, .ref q1), (2, .ref q2), (3, .ref q3), (4, .int (nI 0))]) [4, 3, 2, 1, 0] rfl ?_
    refine Wk.wsq (ws' := Wg (fun i => if i = 0 then q1 else u1 i) (fun i => if i = 0 then q2 else u2 i) q3 cI cJ cZ 0 ((fun _ => 0)) ((fun _ => 0)) (filF ((fun _ => 0)) (24 * 4) (-1001) 4) ((fun _ => 0)) 0 ((fun _ => 0)) ((fun _ => 0)) ((fun _ => 0)) ((fun _ => 0)) ((fun _ => 0)) ((fun _ => 0)) ((fun _ => 0)) ((fun _ => 0)) ((fun _ => 0)) ((fun _ => 0)) 0 0 false 0 0 0 0 0 (va_cpy sxF ((fun _ => 0)) 0 0 4) 0 0 ((fun _ => 0)) ((fun _ => 0)) ((fun _ => 0)) (clB ((fun _ => false)) 100) (upd (upd (upd (upd ((fun _ => 0)) 0 (nI 10)) 1 (nI 10)) 2 (nI 2)) 3 (nI 1)) 0 ((fun _ => 0)) ((fun _ => 0)) ((fun _ => 0)) ((fun _ => 0)) ((fun _ => 0)) ((fun _ => 0)) ((fun _ => 0)) ((fun _ => 0)) ((fun _ => 0)) ((fun _ => 0)) ((fun _ => 0)) 0 0 0 0 0 (fun _ => 0)) rfl ?_
    refine Wk.wide (k := 100 + 0) (n := 6000 + 8 * 0) (by decide) (by decide) ?_
    exact law_loop (h := fun i => if i = 0 then q1 else u1 i) (hm := fun i => if i = 0 then q2 else u2 i) htr X hr hlocks hX hbl hL (L + 1) 0 0 _ _ _ _ _ _ _ _ _ _ _ _ _ _ _ _ _ _ _ _ _ _ _ _ _ _ _ _ _ _ _ _ _ _ _ _ _ _ _ _ _ _ _ _ _ _ _ _ rfl (Nat.zero_le _) (by omega) ⟨by decide, by decide, RTh.zero _ _ _ _, RNu.clear _ _ _, fun j hj => absurd hj (by omega), fun tr h9 => absurd h9 (by omega), RSe.first _ _⟩
  have hl := lv_entry ([.ref b]) (n := 7) (Nat.le_of_ble_eq_true rfl)
  rw [lg_entry_eq]
  exact key s.heap [] _ (fun k q h => by simp at h) ⟨fun i j p q h => by simp at h, fun k q h => by simp at h⟩ va_S.rf hl

