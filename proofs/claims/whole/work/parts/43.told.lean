def atAI : List Cond := vx_atS RX4 73 eAI ["java/lang/IndexOutOfBoundsException", "java/lang/RuntimeException", "java/lang/Exception"]
def atAE : List Cond := vx_atS RX4 171 eAE ["java/lang/RuntimeException", "java/lang/Exception"]
def atNP : List Cond := nq_atS RX4 80
def exTold : List Cond := atAI.filter goodWord ++ atNP.filter goodWord
def exShare : List Cond := atAE.filter goodWord
def wqX4_told : List Cond := wsX4_told ++ exTold
def wqX4_share : List Cond := wsX4_share ++ exShare
theorem exW_tab : ∀ w ∈ exW, w.onTables = true := by decide +kernel
theorem exW_use {args : Array Value} {s : State} (h : ∀ w ∈ exW, va_Nw w s) : ∀ w ∈ exW, w.before args s = true := fun w hw => va_Nw.use (exW_tab w hw) (h w hw)
theorem hatAI {args : Array Value} {s : State} (h : ∀ w ∈ wqX4_told, w.before args s = true) (hN : ∀ w ∈ exW, va_Nw w s) : ∀ w ∈ atAI, w.before args s = true :=
  vx_hat (fun w hw => h w (List.mem_append_right _ (List.mem_append_left _ hw))) (by decide +kernel) (exW_use hN)
theorem hatNP {args : Array Value} {s : State} (h : ∀ w ∈ wqX4_told, w.before args s = true) (hN : ∀ w ∈ exW, va_Nw w s) : ∀ w ∈ atNP, w.before args s = true :=
  vx_hat (fun w hw => h w (List.mem_append_right _ (List.mem_append_right _ hw))) (by decide +kernel) (exW_use hN)
theorem hatAE {args : Array Value} {s : State} (h : ∀ w ∈ wqX4_share, w.before args s = true) (hN : ∀ w ∈ exW, va_Nw w s) : ∀ w ∈ atAE, w.before args s = true :=
  vx_hat (fun w hw => h w (List.mem_append_right _ hw)) (by decide +kernel) (exW_use hN)
theorem otAI : (Cond.classLink RX4 69 eAI :: Cond.initialized eAI :: atAI).all vx_ot = true := by decide +kernel
theorem otNP : (Cond.classLink RX4 76 Bundle.nN :: Cond.initialized Bundle.nN :: atNP).all vx_ot = true := by decide +kernel
theorem otAE : (Cond.classLink RX4 167 eAE :: Cond.initialized eAE :: atAE).all vx_ot = true := by decide +kernel
theorem gq_left {a b ws : List Cond} (h : GoodIn a ws) : GoodIn (a ++ b) ws := fun w hw => ⟨List.mem_append_left _ (h w hw).1, (h w hw).2⟩
theorem gqX4_told_X3_has : GoodIn wqX4_told (wsV RX4 52 RX3 yX3_has wsX3_has) := gq_left gX4_told_X3_has
theorem gqX4_told_X4_isFeature : GoodIn wqX4_told (va_wsS RX4 62 yX4_isFeature wsX4_isFeature) := gq_left gX4_told_X4_isFeature
theorem gqX4_told_X3_numberAt : GoodIn wqX4_told (wsV RX4 83 RX3 yX3_numberAt wsX3_numberAt) := gq_left gX4_told_X3_numberAt
theorem gqX4_share_X4_isListOrAll : GoodIn wqX4_share (va_wsS RX4 160 yX4_isListOrAll wsX4_isListOrAll) := gq_left gX4_share_X4_isListOrAll
theorem gqX4_share_X3_takeScores : GoodIn wqX4_share (wsV RX4 95 RX3 yX3_takeScores wsX3_takeScores) := gq_left gX4_share_X3_takeScores
theorem gqX4_share_X3_countPairs : GoodIn wqX4_share (wsV RX4 163 RX3 yX3_countPairs wsX3_countPairs) := gq_left gX4_share_X3_countPairs
/-- how told ends: 0 an answer, 1 NullPointerException, 2 ArrayIndexOutOfBoundsException -/
def tdC (x f : Int32) (n : Nat) (nb : Nat → Int32) : Nat := if inN x 24 = true then (if inN x n = true then (if inN f 4 = true then (if nb (x.toNatClampNeg * 4 + f.toNatClampNeg) = -1001 then 1 else 0) else 2) else 1) else 2
/-- share throws -/
def shB (li gr : Nat → Int32) (sc : Nat → Int64) (ls : Int32) (n : Nat) : Bool := allB ls && decide (cpO li gr sc ls false n n = 0)

set_option maxHeartbeats 4000000 in
set_option maxRecDepth 100000 in
theorem c_X4_told_ok (l : Launch) (dC : Nat → ClassId) (dI : Nat → Nat → Nat) (cI cJ cZ : ClassId) (h : Nat → Nat) (n : Nat) (li : Nat → Int32) (gr : Nat → Int32) (nb : Nat → Int32) (sc : Nat → Int64) (t : Nat) (ki : Nat → Int32) (fe : Nat → Int32) (lm : Nat → Int32) (si : Nat → Int32) (va : Nat → Int32) (he : Nat → Int32) (up : Nat → Int64) (lo : Nat → Int64) (pu : Nat → Int32) (pl : Nat → Int32) (gh : Nat) (gs : Int32) (bf : Bool) (b1 : Int32) (b2 : Int32) (b3 : Int32) (bu : Int64) (bl : Int64) (se : Nat → Int32) (x : Int32) (f : Int32) (hn0 : n ≤ 24) (hcs : tdC x f n nb = 0) : Ci l yX4_told wqX4_told 1 22 (dC, dI) cl6 (TY cI cJ cZ) true [.ref (h 0), .int x, .int f] (Wc h cI cJ cZ n li gr nb sc t ki fe lm si va he up lo pu pl gh gs bf b1 b2 b3 bu bl se) (nb (x.toNatClampNeg * 4 + f.toNatClampNeg)) (Wc h cI cJ cZ n li gr nb sc t ki fe lm si va he up lo pu pl gh gs bf b1 b2 b3 bu bl se) := by
  refine Ci.of (cc := cX4_told) (maxL := 4) (ty := .int) (own := RX4) rfl (plainFor_of_name (by decide)) rfl (Nat.le_of_ble_eq_true rfl) ?_
  intro pg ev s0 md ar bw mt cd A X hr hk
  show Wk pg l ev _ s0 md ar bw mt cd 0 0 _ 4 (dC, dI) cl6 A 0 [(0, .ref (h 0)), (1, .int x), (2, .int f)] [] (Wc h cI cJ cZ n li gr nb sc t ki fe lm si va he up lo pu pl gh gs bf b1 b2 b3 bu bl se)
  obtain ⟨⟨aF, zF, xF, nF, -⟩, ⟨aL, zL, tL⟩, ⟨aH, zH, tH⟩, zU, zN, s74, s81, s84, s89, s172, exN, exC⟩ := X.sx rfl
  have inX4 : ∀ w ∈ u_ws RX4 TX4 4, w ∈ wqX4_told := by decide +kernel
  have lk12 := X.w (.fieldLink RX4 12 "PairedTrees" "things" "LPairedTrees$Things;") (by decide +kernel)
  refine Wk.iload_n X 1 rfl dX4_told_0 rfl ?_
  refine Wk.if_lt X 10 dX4_told_1 (by decide) (fun c1 => ?_) (fun c1 => ?_)
  · skip
    exfalso
    have h9 : inN x 24 = false := by first | (simp [inN, *]; done) | (simp [inN]; intro h8; exact absurd h8 (by assumption))
    simp [tdC, h9] at hcs
  · skip
    refine Wk.iload_n X 1 rfl dX4_told_4 rfl ?_
    refine Wk.bipush (v := nI 24) X dX4_told_5 (by decide) ?_
    refine Wk.icmp_lt X 20 dX4_told_7 (by decide) (fun c2 => ?_) (fun c2 => ?_)
    · skip
      refine Wk.aload_n X 0 rfl dX4_told_20 rfl ?_
      refine Wk.get X inX4 0 0 lk12 (fun _ h9 => h9) rfl rfl (by decide) rfl dX4_told_21 ?_
      refine Wk.iload_n X 1 rfl dX4_told_24 rfl ?_
      refine Wk.callVi (n := 1) (q0 := 1) X (c_X3_has l dC dI cI cJ cZ h n li gr nb sc t ki fe lm si va he up lo pu pl gh gs bf b1 b2 b3 bu bl se x) gqX4_told_X3_has rfl (by decide +kernel) (by decide) Fr.all (fun h9 => rfl) rfl rfl rfl rfl (Nat.le_of_ble_eq_true rfl) ⟨Nat.zero_le _, Nat.zero_le _⟩ dX4_told_25 ?_
      refine Wk.ifB_ne X 41 dX4_told_28 (by decide) (fun c3 => ?_) (fun c3 => ?_)
      · skip
        refine Wk.iload_n X 2 rfl dX4_told_41 rfl ?_
        refine Wk.callSi (n := 1) X (c_X4_isFeature l dC dI cI cJ cZ f) gqX4_told_X4_isFeature rfl (by decide +kernel) (by decide) Fr.nil (fun h9 => rfl) rfl rfl (Nat.le_of_ble_eq_true rfl) ⟨Nat.zero_le _, Nat.zero_le _⟩ dX4_told_42 ?_
        refine Wk.ifB_ne X 58 dX4_told_45 (by decide) (fun c4 => ?_) (fun c4 => ?_)
        · skip
          obtain ⟨j, hj, rfl⟩ := inN_t (x := x) (n := n) (by omega) c3
          obtain ⟨g, hg, rfl⟩ := inN_t (x := f) (n := 4) (by decide) c4
          refine Wk.aload_n X 0 rfl dX4_told_58 rfl ?_
          refine Wk.get X inX4 0 0 lk12 (fun _ h9 => h9) rfl rfl (by decide) rfl dX4_told_59 ?_
          refine Wk.iload_n X 1 rfl dX4_told_62 rfl ?_
          refine Wk.iload_n X 2 rfl dX4_told_63 rfl ?_
          refine Wk.callVi (n := 2) (q0 := 1) X (c_X3_numberAt l dC dI cI cJ cZ h n li gr nb sc t ki fe lm si va he up lo pu pl gh gs bf b1 b2 b3 bu bl se j g (by first | omega | assumption) (by first | omega | assumption)) gqX4_told_X3_numberAt rfl (by decide +kernel) (by decide) Fr.all (fun h9 => rfl) rfl rfl rfl rfl (Nat.le_of_ble_eq_true rfl) ⟨Nat.zero_le _, Nat.zero_le _⟩ dX4_told_64 ?_
          refine Wk.istore_n (lv' := [(3, .int (nb (j * 4 + g))), (0, .ref (h 0)), (1, .int (nI j)), (2, .int (nI g))]) X dX4_told_67 rfl (by decide) rfl ?_
          refine Wk.iload_n X 0 rfl dX4_told_68 rfl ?_
          refine Wk.sipush (v := -1001) X dX4_told_69 (by decide) ?_
          refine Wk.icmp_ne X 85 dX4_told_72 (by decide) (fun c5 => ?_) (fun c5 => ?_)
          · skip
            refine Wk.iload_n X 0 rfl dX4_told_85 rfl ?_
            exact Wk.iret X hr hk (by rw [nI_clamp (show j < 2 ^ 31 by omega), nI_clamp (show g < 2 ^ 31 by omega)]) rfl dX4_told_86
          · skip
            exfalso
            have e24 : inN (nI j) 24 = true := inN_nI (by omega) (by decide)
            have en : inN (nI j) n = true := inN_nI hj (by omega)
            have e4 : inN (nI g) 4 = true := inN_nI hg (by decide)
            rw [tdC, if_pos e24, if_pos en, if_pos e4, nI_clamp (show j < 2 ^ 31 by omega), nI_clamp (show g < 2 ^ 31 by omega)] at hcs
            simp [*] at hcs
        · skip
          exfalso
          have h9 : inN x 24 = true := by simp [inN, *]
          simp [tdC, *] at hcs
      · skip
        exfalso
        have h9 : inN x 24 = true := by simp [inN, *]
        simp [tdC, *] at hcs
    · skip
      exfalso
      have h9 : inN x 24 = false := by first | (simp [inN, *]; done) | (simp [inN]; intro h8; exact absurd h8 (by assumption))
      simp [tdC, h9] at hcs

set_option maxHeartbeats 4000000 in
set_option maxRecDepth 100000 in
theorem c_X4_told_ai (l : Launch) (dC : Nat → ClassId) (dI : Nat → Nat → Nat) (cI cJ cZ : ClassId) (h : Nat → Nat) (n : Nat) (li : Nat → Int32) (gr : Nat → Int32) (nb : Nat → Int32) (sc : Nat → Int64) (t : Nat) (ki : Nat → Int32) (fe : Nat → Int32) (lm : Nat → Int32) (si : Nat → Int32) (va : Nat → Int32) (he : Nat → Int32) (up : Nat → Int64) (lo : Nat → Int64) (pu : Nat → Int32) (pl : Nat → Int32) (gh : Nat) (gs : Int32) (bf : Bool) (b1 : Int32) (b2 : Int32) (b3 : Int32) (bu : Int64) (bl : Int64) (se : Nat → Int32) (x : Int32) (f : Int32) (hn0 : n ≤ 24) (hcs : tdC x f n nb = 2) (htr : l.stackTraces = false) : Ct l yX4_told wqX4_told 8 120 8 (dC, dI) cl6 (TY cI cJ cZ) true [.ref (h 0), .int x, .int f] (Wc h cI cJ cZ n li gr nb sc t ki fe lm si va he up lo pu pl gh gs bf b1 b2 b3 bu bl se) eAI (Wc h cI cJ cZ n li gr nb sc t ki fe lm si va he up lo pu pl gh gs bf b1 b2 b3 bu bl se) := by
  refine Ct.of (cc := cX4_told) (maxL := 4) (ty := .int) (own := RX4) rfl (by decide) rfl (Nat.le_of_ble_eq_true rfl) ?_
  intro pg ev s0 md ar bw mt cd A X htab hk
  show Wk pg l ev _ s0 md ar bw mt cd 0 0 _ 4 (dC, dI) cl6 A 0 [(0, .ref (h 0)), (1, .int x), (2, .int f)] [] (Wc h cI cJ cZ n li gr nb sc t ki fe lm si va he up lo pu pl gh gs bf b1 b2 b3 bu bl se)
  obtain ⟨⟨aF, zF, xF, nF, -⟩, ⟨aL, zL, tL⟩, ⟨aH, zH, tH⟩, zU, zN, s74, s81, s84, s89, s172, exN, exC⟩ := X.sx rfl
  have inX4 : ∀ w ∈ u_ws RX4 TX4 4, w ∈ wqX4_told := by decide +kernel
  have lk12 := X.w (.fieldLink RX4 12 "PairedTrees" "things" "LPairedTrees$Things;") (by decide +kernel)
  refine Wk.iload_n X 1 rfl dX4_told_0 rfl ?_
  refine Wk.if_lt X 10 dX4_told_1 (by decide) (fun c1 => ?_) (fun c1 => ?_)
  · skip
    exact Wk.throwS X htab hk htr (names := ["java/lang/IndexOutOfBoundsException", "java/lang/RuntimeException", "java/lang/Exception"]) (by decide) (by decide) (X.w (.classLink RX4 69 eAI) (by decide +kernel)) (X.w (.initialized eAI) (by decide +kernel)) s74.choose_spec (hatAI X.w exN) otAI zU zN dX4_told_10 dX4_told_13 dX4_told_14 dX4_told_16 dX4_told_19 (by decide) rfl
  · skip
    refine Wk.iload_n X 1 rfl dX4_told_4 rfl ?_
    refine Wk.bipush (v := nI 24) X dX4_told_5 (by decide) ?_
    refine Wk.icmp_lt X 20 dX4_told_7 (by decide) (fun c2 => ?_) (fun c2 => ?_)
    · skip
      refine Wk.aload_n X 0 rfl dX4_told_20 rfl ?_
      refine Wk.get X inX4 0 0 lk12 (fun _ h9 => h9) rfl rfl (by decide) rfl dX4_told_21 ?_
      refine Wk.iload_n X 1 rfl dX4_told_24 rfl ?_
      refine Wk.callVi (n := 1) (q0 := 1) X (c_X3_has l dC dI cI cJ cZ h n li gr nb sc t ki fe lm si va he up lo pu pl gh gs bf b1 b2 b3 bu bl se x) gqX4_told_X3_has rfl (by decide +kernel) (by decide) Fr.all (fun h9 => rfl) rfl rfl rfl rfl (Nat.le_of_ble_eq_true rfl) ⟨Nat.zero_le _, Nat.zero_le _⟩ dX4_told_25 ?_
      refine Wk.ifB_ne X 41 dX4_told_28 (by decide) (fun c3 => ?_) (fun c3 => ?_)
      · skip
        refine Wk.iload_n X 2 rfl dX4_told_41 rfl ?_
        refine Wk.callSi (n := 1) X (c_X4_isFeature l dC dI cI cJ cZ f) gqX4_told_X4_isFeature rfl (by decide +kernel) (by decide) Fr.nil (fun h9 => rfl) rfl rfl (Nat.le_of_ble_eq_true rfl) ⟨Nat.zero_le _, Nat.zero_le _⟩ dX4_told_42 ?_
        refine Wk.ifB_ne X 58 dX4_told_45 (by decide) (fun c4 => ?_) (fun c4 => ?_)
        · skip
          obtain ⟨j, hj, rfl⟩ := inN_t (x := x) (n := n) (by omega) c3
          obtain ⟨g, hg, rfl⟩ := inN_t (x := f) (n := 4) (by decide) c4
          refine Wk.aload_n X 0 rfl dX4_told_58 rfl ?_
          refine Wk.get X inX4 0 0 lk12 (fun _ h9 => h9) rfl rfl (by decide) rfl dX4_told_59 ?_
          refine Wk.iload_n X 1 rfl dX4_told_62 rfl ?_
          refine Wk.iload_n X 2 rfl dX4_told_63 rfl ?_
          refine Wk.callVi (n := 2) (q0 := 1) X (c_X3_numberAt l dC dI cI cJ cZ h n li gr nb sc t ki fe lm si va he up lo pu pl gh gs bf b1 b2 b3 bu bl se j g (by first | omega | assumption) (by first | omega | assumption)) gqX4_told_X3_numberAt rfl (by decide +kernel) (by decide) Fr.all (fun h9 => rfl) rfl rfl rfl rfl (Nat.le_of_ble_eq_true rfl) ⟨Nat.zero_le _, Nat.zero_le _⟩ dX4_told_64 ?_
          refine Wk.istore_n (lv' := [(3, .int (nb (j * 4 + g))), (0, .ref (h 0)), (1, .int (nI j)), (2, .int (nI g))]) X dX4_told_67 rfl (by decide) rfl ?_
          refine Wk.iload_n X 0 rfl dX4_told_68 rfl ?_
          refine Wk.sipush (v := -1001) X dX4_told_69 (by decide) ?_
          refine Wk.icmp_ne X 85 dX4_told_72 (by decide) (fun c5 => ?_) (fun c5 => ?_)
          · skip
            exfalso
            have e24 : inN (nI j) 24 = true := inN_nI (by omega) (by decide)
            have en : inN (nI j) n = true := inN_nI hj (by omega)
            have e4 : inN (nI g) 4 = true := inN_nI hg (by decide)
            rw [tdC, if_pos e24, if_pos en, if_pos e4, nI_clamp (show j < 2 ^ 31 by omega), nI_clamp (show g < 2 ^ 31 by omega)] at hcs
            simp [*] at hcs
          · skip
            exfalso
            have e24 : inN (nI j) 24 = true := inN_nI (by omega) (by decide)
            have en : inN (nI j) n = true := inN_nI hj (by omega)
            have e4 : inN (nI g) 4 = true := inN_nI hg (by decide)
            rw [tdC, if_pos e24, if_pos en, if_pos e4, nI_clamp (show j < 2 ^ 31 by omega), nI_clamp (show g < 2 ^ 31 by omega)] at hcs
            simp [*] at hcs
        · skip
          exact Wk.throwS X htab hk htr (names := ["java/lang/IndexOutOfBoundsException", "java/lang/RuntimeException", "java/lang/Exception"]) (by decide) (by decide) (X.w (.classLink RX4 69 eAI) (by decide +kernel)) (X.w (.initialized eAI) (by decide +kernel)) s84.choose_spec (hatAI X.w exN) otAI zU zN dX4_told_48 dX4_told_51 dX4_told_52 dX4_told_54 dX4_told_57 (by decide) rfl
      · skip
        exfalso
        have h9 : inN x 24 = true := by simp [inN, *]
        simp [tdC, *] at hcs
    · skip
      exact Wk.throwS X htab hk htr (names := ["java/lang/IndexOutOfBoundsException", "java/lang/RuntimeException", "java/lang/Exception"]) (by decide) (by decide) (X.w (.classLink RX4 69 eAI) (by decide +kernel)) (X.w (.initialized eAI) (by decide +kernel)) s74.choose_spec (hatAI X.w exN) otAI zU zN dX4_told_10 dX4_told_13 dX4_told_14 dX4_told_16 dX4_told_19 (by decide) rfl

set_option maxHeartbeats 4000000 in
set_option maxRecDepth 100000 in
theorem c_X4_told_np (l : Launch) (dC : Nat → ClassId) (dI : Nat → Nat → Nat) (cI cJ cZ : ClassId) (h : Nat → Nat) (n : Nat) (li : Nat → Int32) (gr : Nat → Int32) (nb : Nat → Int32) (sc : Nat → Int64) (t : Nat) (ki : Nat → Int32) (fe : Nat → Int32) (lm : Nat → Int32) (si : Nat → Int32) (va : Nat → Int32) (he : Nat → Int32) (up : Nat → Int64) (lo : Nat → Int64) (pu : Nat → Int32) (pl : Nat → Int32) (gh : Nat) (gs : Int32) (bf : Bool) (b1 : Int32) (b2 : Int32) (b3 : Int32) (bu : Int64) (bl : Int64) (se : Nat → Int32) (x : Int32) (f : Int32) (hn0 : n ≤ 24) (hcs : tdC x f n nb = 1) (htr : l.stackTraces = false) : Ct l yX4_told wqX4_told 8 120 8 (dC, dI) cl6 (TY cI cJ cZ) true [.ref (h 0), .int x, .int f] (Wc h cI cJ cZ n li gr nb sc t ki fe lm si va he up lo pu pl gh gs bf b1 b2 b3 bu bl se) Bundle.nN (Wc h cI cJ cZ n li gr nb sc t ki fe lm si va he up lo pu pl gh gs bf b1 b2 b3 bu bl se) := by
  refine Ct.of (cc := cX4_told) (maxL := 4) (ty := .int) (own := RX4) rfl (by decide) rfl (Nat.le_of_ble_eq_true rfl) ?_
  intro pg ev s0 md ar bw mt cd A X htab hk
  show Wk pg l ev _ s0 md ar bw mt cd 0 0 _ 4 (dC, dI) cl6 A 0 [(0, .ref (h 0)), (1, .int x), (2, .int f)] [] (Wc h cI cJ cZ n li gr nb sc t ki fe lm si va he up lo pu pl gh gs bf b1 b2 b3 bu bl se)
  obtain ⟨⟨aF, zF, xF, nF, -⟩, ⟨aL, zL, tL⟩, ⟨aH, zH, tH⟩, zU, zN, s74, s81, s84, s89, s172, exN, exC⟩ := X.sx rfl
  have inX4 : ∀ w ∈ u_ws RX4 TX4 4, w ∈ wqX4_told := by decide +kernel
  have lk12 := X.w (.fieldLink RX4 12 "PairedTrees" "things" "LPairedTrees$Things;") (by decide +kernel)
  refine Wk.iload_n X 1 rfl dX4_told_0 rfl ?_
  refine Wk.if_lt X 10 dX4_told_1 (by decide) (fun c1 => ?_) (fun c1 => ?_)
  · skip
    exfalso
    have h9 : inN x 24 = false := by first | (simp [inN, *]; done) | (simp [inN]; intro h8; exact absurd h8 (by assumption))
    simp [tdC, h9] at hcs
  · skip
    refine Wk.iload_n X 1 rfl dX4_told_4 rfl ?_
    refine Wk.bipush (v := nI 24) X dX4_told_5 (by decide) ?_
    refine Wk.icmp_lt X 20 dX4_told_7 (by decide) (fun c2 => ?_) (fun c2 => ?_)
    · skip
      refine Wk.aload_n X 0 rfl dX4_told_20 rfl ?_
      refine Wk.get X inX4 0 0 lk12 (fun _ h9 => h9) rfl rfl (by decide) rfl dX4_told_21 ?_
      refine Wk.iload_n X 1 rfl dX4_told_24 rfl ?_
      refine Wk.callVi (n := 1) (q0 := 1) X (c_X3_has l dC dI cI cJ cZ h n li gr nb sc t ki fe lm si va he up lo pu pl gh gs bf b1 b2 b3 bu bl se x) gqX4_told_X3_has rfl (by decide +kernel) (by decide) Fr.all (fun h9 => rfl) rfl rfl rfl rfl (Nat.le_of_ble_eq_true rfl) ⟨Nat.zero_le _, Nat.zero_le _⟩ dX4_told_25 ?_
      refine Wk.ifB_ne X 41 dX4_told_28 (by decide) (fun c3 => ?_) (fun c3 => ?_)
      · skip
        refine Wk.iload_n X 2 rfl dX4_told_41 rfl ?_
        refine Wk.callSi (n := 1) X (c_X4_isFeature l dC dI cI cJ cZ f) gqX4_told_X4_isFeature rfl (by decide +kernel) (by decide) Fr.nil (fun h9 => rfl) rfl rfl (Nat.le_of_ble_eq_true rfl) ⟨Nat.zero_le _, Nat.zero_le _⟩ dX4_told_42 ?_
        refine Wk.ifB_ne X 58 dX4_told_45 (by decide) (fun c4 => ?_) (fun c4 => ?_)
        · skip
          obtain ⟨j, hj, rfl⟩ := inN_t (x := x) (n := n) (by omega) c3
          obtain ⟨g, hg, rfl⟩ := inN_t (x := f) (n := 4) (by decide) c4
          refine Wk.aload_n X 0 rfl dX4_told_58 rfl ?_
          refine Wk.get X inX4 0 0 lk12 (fun _ h9 => h9) rfl rfl (by decide) rfl dX4_told_59 ?_
          refine Wk.iload_n X 1 rfl dX4_told_62 rfl ?_
          refine Wk.iload_n X 2 rfl dX4_told_63 rfl ?_
          refine Wk.callVi (n := 2) (q0 := 1) X (c_X3_numberAt l dC dI cI cJ cZ h n li gr nb sc t ki fe lm si va he up lo pu pl gh gs bf b1 b2 b3 bu bl se j g (by first | omega | assumption) (by first | omega | assumption)) gqX4_told_X3_numberAt rfl (by decide +kernel) (by decide) Fr.all (fun h9 => rfl) rfl rfl rfl rfl (Nat.le_of_ble_eq_true rfl) ⟨Nat.zero_le _, Nat.zero_le _⟩ dX4_told_64 ?_
          refine Wk.istore_n (lv' := [(3, .int (nb (j * 4 + g))), (0, .ref (h 0)), (1, .int (nI j)), (2, .int (nI g))]) X dX4_told_67 rfl (by decide) rfl ?_
          refine Wk.iload_n X 0 rfl dX4_told_68 rfl ?_
          refine Wk.sipush (v := -1001) X dX4_told_69 (by decide) ?_
          refine Wk.icmp_ne X 85 dX4_told_72 (by decide) (fun c5 => ?_) (fun c5 => ?_)
          · skip
            exfalso
            have e24 : inN (nI j) 24 = true := inN_nI (by omega) (by decide)
            have en : inN (nI j) n = true := inN_nI hj (by omega)
            have e4 : inN (nI g) 4 = true := inN_nI hg (by decide)
            rw [tdC, if_pos e24, if_pos en, if_pos e4, nI_clamp (show j < 2 ^ 31 by omega), nI_clamp (show g < 2 ^ 31 by omega)] at hcs
            simp [*] at hcs
          · skip
            exact Wk.throwN X htab hk htr (X.w (.classLink RX4 76 Bundle.nN) (by decide +kernel)) (X.w (.initialized Bundle.nN) (by decide +kernel)) s89.choose_spec (hatNP X.w exN) otNP zU zN dX4_told_75 dX4_told_78 dX4_told_79 dX4_told_81 dX4_told_84 (by decide) rfl
        · skip
          exfalso
          have h9 : inN x 24 = true := by simp [inN, *]
          simp [tdC, *] at hcs
      · skip
        exact Wk.throwN X htab hk htr (X.w (.classLink RX4 76 Bundle.nN) (by decide +kernel)) (X.w (.initialized Bundle.nN) (by decide +kernel)) s81.choose_spec (hatNP X.w exN) otNP zU zN dX4_told_31 dX4_told_34 dX4_told_35 dX4_told_37 dX4_told_40 (by decide) rfl
    · skip
      exfalso
      have h9 : inN x 24 = false := by first | (simp [inN, *]; done) | (simp [inN]; intro h8; exact absurd h8 (by assumption))
      simp [tdC, h9] at hcs

theorem cpI_le (li gr : Nat → Int32) (sc : Nat → Int64) (ls : Int32) (ow : Bool) (i j : Nat) : cpI li gr sc ls ow i j ≤ j := by
  induction j with
  | zero => simp [cpI]
  | succ j ih => simp only [cpI]; split <;> omega
theorem cpO_le (li gr : Nat → Int32) (sc : Nat → Int64) (ls : Int32) (ow : Bool) (n i : Nat) : cpO li gr sc ls ow n i ≤ n * i := by
  induction i with
  | zero => simp [cpO]
  | succ i ih =>
    have h := cpI_le li gr sc ls ow i n
    simp only [cpO]
    rw [Nat.mul_succ]
    omega
theorem cp_small (li gr : Nat → Int32) (sc : Nat → Int64) (ls : Int32) (ow : Bool) {n : Nat} (hn : n ≤ 24) : cpO li gr sc ls ow n n < 2 ^ 31 := by
  have h := cpO_le li gr sc ls ow n n
  have h2 : n * n ≤ 24 * 24 := Nat.mul_le_mul hn hn
  omega
set_option maxHeartbeats 4000000 in
set_option maxRecDepth 100000 in
theorem c_X4_share_ok (l : Launch) (dC : Nat → ClassId) (dI : Nat → Nat → Nat) (cI cJ cZ : ClassId) (h : Nat → Nat) (n : Nat) (li : Nat → Int32) (gr : Nat → Int32) (nb : Nat → Int32) (sc : Nat → Int64) (t : Nat) (ki : Nat → Int32) (fe : Nat → Int32) (lm : Nat → Int32) (si : Nat → Int32) (va : Nat → Int32) (he : Nat → Int32) (up : Nat → Int64) (lo : Nat → Int64) (pu : Nat → Int32) (pl : Nat → Int32) (gh : Nat) (gs : Int32) (bf : Bool) (b1 : Int32) (b2 : Int32) (b3 : Int32) (bu : Int64) (bl : Int64) (se : Nat → Int32) (ls : Int32) (hn0 : n ≤ 24) (ht0 : t ≤ 20) (hfe : ∀ j, j < t * 15 → ki j = nI 2 → ∃ f, f < 4 ∧ fe j = nI f) (hcs : shB li gr (scT sc (scoreC ki fe lm si va nb t) n) ls n = false) : Ci l yX4_share wqX4_share 5 122 (dC, dI) cl6 (TY cI cJ cZ) true [.ref (h 0), .int ls] (Wc h cI cJ cZ n li gr nb sc t ki fe lm si va he up lo pu pl gh gs bf b1 b2 b3 bu bl se) (if allB ls = true then nI (cpO li gr (scT sc (scoreC ki fe lm si va nb t) n) ls true n n * 1000) / nI (cpO li gr (scT sc (scoreC ki fe lm si va nb t) n) ls false n n) else -10002) (Wc h cI cJ cZ n li gr nb (if allB ls = true then scT sc (scoreC ki fe lm si va nb t) n else sc) t ki fe lm si va he up lo pu pl gh gs bf b1 b2 b3 bu bl se) := by
  refine Ci.of (cc := cX4_share) (maxL := 3) (ty := .int) (own := RX4) rfl (plainFor_of_name (by decide)) rfl (Nat.le_of_ble_eq_true rfl) ?_
  intro pg ev s0 md ar bw mt cd A X hr hk
  show Wk pg l ev _ s0 md ar bw mt cd 0 0 _ 3 (dC, dI) cl6 A 0 [(0, .ref (h 0)), (1, .int ls)] [] (Wc h cI cJ cZ n li gr nb sc t ki fe lm si va he up lo pu pl gh gs bf b1 b2 b3 bu bl se)
  obtain ⟨⟨aF, zF, xF, nF, -⟩, ⟨aL, zL, tL⟩, ⟨aH, zH, tH⟩, zU, zN, s74, s81, s84, s89, s172, exN, exC⟩ := X.sx rfl
  have inX4 : ∀ w ∈ u_ws RX4 TX4 4, w ∈ wqX4_share := by decide +kernel
  have lk12 := X.w (.fieldLink RX4 12 "PairedTrees" "things" "LPairedTrees$Things;") (by decide +kernel)
  have lk19 := X.w (.fieldLink RX4 19 "PairedTrees" "forest" "LPairedTrees$Forest;") (by decide +kernel)
  refine Wk.iload_n X 1 rfl dX4_share_0 rfl ?_
  refine Wk.callSi (n := 1) X (c_X4_isListOrAll l dC dI cI cJ cZ ls) gqX4_share_X4_isListOrAll rfl (by decide +kernel) (by decide) Fr.nil (fun h9 => rfl) rfl rfl (Nat.le_of_ble_eq_true rfl) ⟨Nat.zero_le _, Nat.zero_le _⟩ dX4_share_1 ?_
  refine Wk.ifB_ne X 11 dX4_share_4 (by decide) (fun c1 => ?_) (fun c1 => ?_)
  · skip
    refine Wk.aload_n X 0 rfl dX4_share_11 rfl ?_
    refine Wk.get X inX4 0 0 lk12 (fun _ h9 => h9) rfl rfl (by decide) rfl dX4_share_12 ?_
    refine Wk.aload_n X 0 rfl dX4_share_15 rfl ?_
    refine Wk.get X inX4 0 1 lk19 (fun _ h9 => h9) rfl rfl (by decide) rfl dX4_share_16 ?_
    refine Wk.callVv (n := 1) (q0 := 1) X (c_X3_takeScores l dC dI cI cJ cZ h n li gr nb sc t ki fe lm si va he up lo pu pl gh gs bf b1 b2 b3 bu bl se (by first | omega | assumption) (by first | omega | assumption) (by first | omega | assumption)) gqX4_share_X3_takeScores rfl (by decide +kernel) (by decide) Fr.all (fun h9 => rfl) rfl rfl rfl rfl (Nat.le_of_ble_eq_true rfl) ⟨Nat.zero_le _, Nat.zero_le _⟩ dX4_share_19 ?_
    refine Wk.aload_n X 0 rfl dX4_share_22 rfl ?_
    refine Wk.get X inX4 0 0 lk12 (fun _ h9 => h9) rfl rfl (by decide) rfl dX4_share_23 ?_
    refine Wk.iload_n X 1 rfl dX4_share_26 rfl ?_
    refine Wk.iconst (v := nI 0) X dX4_share_27 (by decide) ?_
    refine Wk.callVi (n := 2) (q0 := 1) X (c_X3_countPairs l dC dI cI cJ cZ h n li gr nb (scT sc (scoreC ki fe lm si va nb t) n) t ki fe lm si va he up lo pu pl gh gs bf b1 b2 b3 bu bl se ls false (by first | omega | assumption)) gqX4_share_X3_countPairs rfl (by decide +kernel) (by decide) Fr.all (fun h9 => rfl) rfl rfl rfl rfl (Nat.le_of_ble_eq_true rfl) ⟨Nat.zero_le _, Nat.zero_le _⟩ dX4_share_28 ?_
    refine Wk.istore_n (lv' := [(2, .int (nI (cpO li gr (scT sc (scoreC ki fe lm si va nb t) n) ls false n n))), (0, .ref (h 0)), (1, .int ls)]) X dX4_share_31 rfl (by decide) rfl ?_
    refine Wk.iload_n X 0 rfl dX4_share_32 rfl ?_
    refine Wk.if_ne X 46 dX4_share_33 (by decide) (fun c2 => ?_) (fun c2 => ?_)
    · skip
      have cpn : ¬ cpO li gr (scT sc (scoreC ki fe lm si va nb t) n) ls false n n = 0 := fun h9 => c2 (by rw [h9]; rfl)
      refine Wk.aload_n X 1 rfl dX4_share_46 rfl ?_
      refine Wk.get X inX4 0 0 lk12 (fun _ h9 => h9) rfl rfl (by decide) rfl dX4_share_47 ?_
      refine Wk.iload_n X 2 rfl dX4_share_50 rfl ?_
      refine Wk.iconst (v := nI 1) X dX4_share_51 (by decide) ?_
      refine Wk.callVi (n := 2) (q0 := 1) X (c_X3_countPairs l dC dI cI cJ cZ h n li gr nb (scT sc (scoreC ki fe lm si va nb t) n) t ki fe lm si va he up lo pu pl gh gs bf b1 b2 b3 bu bl se ls true (by first | omega | assumption)) gqX4_share_X3_countPairs rfl (by decide +kernel) (by decide) Fr.all (fun h9 => rfl) rfl rfl rfl rfl (Nat.le_of_ble_eq_true rfl) ⟨Nat.zero_le _, Nat.zero_le _⟩ dX4_share_52 ?_
      refine Wk.sipush (v := nI 1000) X dX4_share_55 (by decide) ?_
      refine Wk.imulN X dX4_share_58 ?_
      refine Wk.iload_n X 0 rfl dX4_share_59 rfl ?_
      refine Wk.idiv X dX4_share_60 (fun h9 => cpn ((nI_eq (cp_small _ _ _ _ _ hn0) (by decide)).mp h9)) ?_
      exact Wk.iret X hr hk (by simp [*]) (by simp [*]) dX4_share_61
    · skip
      have cpz : cpO li gr (scT sc (scoreC ki fe lm si va nb t) n) ls false n n = 0 := (nI_eq (cp_small _ _ _ _ _ hn0) (by decide)).mp c2
      exfalso
      simp [shB, cpz, *] at hcs
  · skip
    refine Wk.sipush (v := -10002) X dX4_share_7 (by decide) ?_
    exact Wk.iret X hr hk (by simp [*]) (by simp [*]) dX4_share_10

set_option maxHeartbeats 4000000 in
set_option maxRecDepth 100000 in
theorem c_X4_share_ae (l : Launch) (dC : Nat → ClassId) (dI : Nat → Nat → Nat) (cI cJ cZ : ClassId) (h : Nat → Nat) (n : Nat) (li : Nat → Int32) (gr : Nat → Int32) (nb : Nat → Int32) (sc : Nat → Int64) (t : Nat) (ki : Nat → Int32) (fe : Nat → Int32) (lm : Nat → Int32) (si : Nat → Int32) (va : Nat → Int32) (he : Nat → Int32) (up : Nat → Int64) (lo : Nat → Int64) (pu : Nat → Int32) (pl : Nat → Int32) (gh : Nat) (gs : Int32) (bf : Bool) (b1 : Int32) (b2 : Int32) (b3 : Int32) (bu : Int64) (bl : Int64) (se : Nat → Int32) (ls : Int32) (hn0 : n ≤ 24) (ht0 : t ≤ 20) (hfe : ∀ j, j < t * 15 → ki j = nI 2 → ∃ f, f < 4 ∧ fe j = nI f) (hcs : shB li gr (scT sc (scoreC ki fe lm si va nb t) n) ls n = true) (htr : l.stackTraces = false) : Ct l yX4_share wqX4_share 8 122 8 (dC, dI) cl6 (TY cI cJ cZ) true [.ref (h 0), .int ls] (Wc h cI cJ cZ n li gr nb sc t ki fe lm si va he up lo pu pl gh gs bf b1 b2 b3 bu bl se) eAE (Wc h cI cJ cZ n li gr nb (scT sc (scoreC ki fe lm si va nb t) n) t ki fe lm si va he up lo pu pl gh gs bf b1 b2 b3 bu bl se) := by
  refine Ct.of (cc := cX4_share) (maxL := 3) (ty := .int) (own := RX4) rfl (by decide) rfl (Nat.le_of_ble_eq_true rfl) ?_
  intro pg ev s0 md ar bw mt cd A X htab hk
  show Wk pg l ev _ s0 md ar bw mt cd 0 0 _ 3 (dC, dI) cl6 A 0 [(0, .ref (h 0)), (1, .int ls)] [] (Wc h cI cJ cZ n li gr nb sc t ki fe lm si va he up lo pu pl gh gs bf b1 b2 b3 bu bl se)
  obtain ⟨⟨aF, zF, xF, nF, -⟩, ⟨aL, zL, tL⟩, ⟨aH, zH, tH⟩, zU, zN, s74, s81, s84, s89, s172, exN, exC⟩ := X.sx rfl
  have inX4 : ∀ w ∈ u_ws RX4 TX4 4, w ∈ wqX4_share := by decide +kernel
  have lk12 := X.w (.fieldLink RX4 12 "PairedTrees" "things" "LPairedTrees$Things;") (by decide +kernel)
  have lk19 := X.w (.fieldLink RX4 19 "PairedTrees" "forest" "LPairedTrees$Forest;") (by decide +kernel)
  refine Wk.iload_n X 1 rfl dX4_share_0 rfl ?_
  refine Wk.callSi (n := 1) X (c_X4_isListOrAll l dC dI cI cJ cZ ls) gqX4_share_X4_isListOrAll rfl (by decide +kernel) (by decide) Fr.nil (fun h9 => rfl) rfl rfl (Nat.le_of_ble_eq_true rfl) ⟨Nat.zero_le _, Nat.zero_le _⟩ dX4_share_1 ?_
  refine Wk.ifB_ne X 11 dX4_share_4 (by decide) (fun c1 => ?_) (fun c1 => ?_)
  · skip
    refine Wk.aload_n X 0 rfl dX4_share_11 rfl ?_
    refine Wk.get X inX4 0 0 lk12 (fun _ h9 => h9) rfl rfl (by decide) rfl dX4_share_12 ?_
    refine Wk.aload_n X 0 rfl dX4_share_15 rfl ?_
    refine Wk.get X inX4 0 1 lk19 (fun _ h9 => h9) rfl rfl (by decide) rfl dX4_share_16 ?_
    refine Wk.callVv (n := 1) (q0 := 1) X (c_X3_takeScores l dC dI cI cJ cZ h n li gr nb sc t ki fe lm si va he up lo pu pl gh gs bf b1 b2 b3 bu bl se (by first | omega | assumption) (by first | omega | assumption) (by first | omega | assumption)) gqX4_share_X3_takeScores rfl (by decide +kernel) (by decide) Fr.all (fun h9 => rfl) rfl rfl rfl rfl (Nat.le_of_ble_eq_true rfl) ⟨Nat.zero_le _, Nat.zero_le _⟩ dX4_share_19 ?_
    refine Wk.aload_n X 0 rfl dX4_share_22 rfl ?_
    refine Wk.get X inX4 0 0 lk12 (fun _ h9 => h9) rfl rfl (by decide) rfl dX4_share_23 ?_
    refine Wk.iload_n X 1 rfl dX4_share_26 rfl ?_
    refine Wk.iconst (v := nI 0) X dX4_share_27 (by decide) ?_
    refine Wk.callVi (n := 2) (q0 := 1) X (c_X3_countPairs l dC dI cI cJ cZ h n li gr nb (scT sc (scoreC ki fe lm si va nb t) n) t ki fe lm si va he up lo pu pl gh gs bf b1 b2 b3 bu bl se ls false (by first | omega | assumption)) gqX4_share_X3_countPairs rfl (by decide +kernel) (by decide) Fr.all (fun h9 => rfl) rfl rfl rfl rfl (Nat.le_of_ble_eq_true rfl) ⟨Nat.zero_le _, Nat.zero_le _⟩ dX4_share_28 ?_
    refine Wk.istore_n (lv' := [(2, .int (nI (cpO li gr (scT sc (scoreC ki fe lm si va nb t) n) ls false n n))), (0, .ref (h 0)), (1, .int ls)]) X dX4_share_31 rfl (by decide) rfl ?_
    refine Wk.iload_n X 0 rfl dX4_share_32 rfl ?_
    refine Wk.if_ne X 46 dX4_share_33 (by decide) (fun c2 => ?_) (fun c2 => ?_)
    · skip
      have cpn : ¬ cpO li gr (scT sc (scoreC ki fe lm si va nb t) n) ls false n n = 0 := fun h9 => c2 (by rw [h9]; rfl)
      exfalso
      simp [shB, cpn, *] at hcs
    · skip
      have cpz : cpO li gr (scT sc (scoreC ki fe lm si va nb t) n) ls false n n = 0 := (nI_eq (cp_small _ _ _ _ _ hn0) (by decide)).mp c2
      exact Wk.throwS X htab hk htr (names := ["java/lang/RuntimeException", "java/lang/Exception"]) (by decide) (by decide) (X.w (.classLink RX4 167 eAE) (by decide +kernel)) (X.w (.initialized eAE) (by decide +kernel)) s172.choose_spec (hatAE X.w exN) otAE zU zN dX4_share_36 dX4_share_39 dX4_share_40 dX4_share_42 dX4_share_45 (by decide) rfl
  · skip
    exfalso
    simp [shB, *] at hcs

