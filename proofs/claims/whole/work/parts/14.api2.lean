def mayC (x v : Int32) : Bool := inN x 4 && (decide (¬ v < sxL x.toNatClampNeg) && decide (v ≤ sxH x.toNatClampNeg))
def stC (x v : Int32) (se : Nat → Int32) : Int32 := if mayC x v = true then se x.toNatClampNeg else -10002
set_option maxHeartbeats 4000000 in
set_option maxRecDepth 100000 in
theorem c_X4_setting (l : Launch) (dC : Nat → ClassId) (dI : Nat → Nat → Nat) (cI cJ cZ : ClassId) (h : Nat → Nat) (n : Nat) (li : Nat → Int32) (gr : Nat → Int32) (nb : Nat → Int32) (sc : Nat → Int64) (t : Nat) (ki : Nat → Int32) (fe : Nat → Int32) (lm : Nat → Int32) (si : Nat → Int32) (va : Nat → Int32) (he : Nat → Int32) (up : Nat → Int64) (lo : Nat → Int64) (pu : Nat → Int32) (pl : Nat → Int32) (gh : Nat) (gs : Int32) (bf : Bool) (b1 : Int32) (b2 : Int32) (b3 : Int32) (bu : Int64) (bl : Int64) (se : Nat → Int32) (x : Int32) (v : Int32) : Ci l yX4_setting wsX4_setting 0 0 (dC, dI) cl6 (TY cI cJ cZ) true [.ref (h 0), .int x, .int v] (Wc h cI cJ cZ n li gr nb sc t ki fe lm si va he up lo pu pl gh gs bf b1 b2 b3 bu bl se) (stC x v se) (Wc h cI cJ cZ n li gr nb sc t ki fe lm si va he up lo pu pl gh gs bf b1 b2 b3 bu bl (if mayC x v = true then upd se x.toNatClampNeg v else se)) := by
  refine Ci.of (cc := cX4_setting) (maxL := 4) (ty := .int) (own := RX4) rfl (plainFor_of_name (by decide)) rfl (Nat.le_of_ble_eq_true rfl) ?_
  intro pg ev s0 md ar bw mt cd A X hr hk
  show Wk pg l ev _ s0 md ar bw mt cd 0 0 _ 4 (dC, dI) cl6 A 0 [(0, .ref (h 0)), (1, .int x), (2, .int v)] [] (Wc h cI cJ cZ n li gr nb sc t ki fe lm si va he up lo pu pl gh gs bf b1 b2 b3 bu bl se)
  obtain ⟨⟨aF, zF, xF, nF, -⟩, ⟨aL, zL, tL⟩, ⟨aH, zH, tH⟩, zU, zN, s74, s81, s84, s89, s172, exN, exC⟩ := X.sx rfl
  have inX4 : ∀ w ∈ u_ws RX4 TX4 4, w ∈ wsX4_setting := by decide +kernel
  have lk30 := X.w (.fieldLink RX4 30 "PairedTrees" "settings" "[I") (by decide +kernel)
  have lk88 := X.w (.fieldLink RX4 88 "PairedTrees" "LOWEST_SETTING" "[I") (by decide +kernel)
  have lk91 := X.w (.fieldLink RX4 91 "PairedTrees" "HIGHEST_SETTING" "[I") (by decide +kernel)
  refine Wk.iload_n X 1 rfl dX4_setting_0 rfl ?_
  refine Wk.if_lt X 9 dX4_setting_1 (by decide) (fun c1 => ?_) (fun c1 => ?_)
  · skip
    refine Wk.sipush (v := -10002) X dX4_setting_9 (by decide) ?_
    exact Wk.iret X hr hk (by first | (have h9 : inN x 4 = false := (by simp [inN, *]); simp [stC, mayC, h9]; done) | (simp [stC, mayC, *]; done)) (by first | (have h9 : inN x 4 = false := (by simp [inN, *]); simp [stC, mayC, h9]; done) | (simp [stC, mayC, *]; done)) dX4_setting_12
  · skip
    refine Wk.iload_n X 1 rfl dX4_setting_4 rfl ?_
    refine Wk.iconst (v := nI 4) X dX4_setting_5 (by decide) ?_
    refine Wk.icmp_lt X 13 dX4_setting_6 (by decide) (fun c2 => ?_) (fun c2 => ?_)
    · skip
      obtain ⟨j, hj, rfl⟩ := inN_t (x := x) (n := 4) (by decide) (by simp [inN, *])
      have i1 := inN_nI hj (show 4 < 2 ^ 31 by decide)
      have i3 : (nI j).toNatClampNeg = j := nI_clamp (by omega)
      refine Wk.iload_n X 2 rfl dX4_setting_13 rfl ?_
      refine Wk.gets X zL lk88 (fun _ h9 => h9) dX4_setting_14 ?_
      refine Wk.iload_n X 1 rfl dX4_setting_17 rfl ?_
      refine Wk.tald X tL (by omega) (by decide) dX4_setting_18 ?_
      refine Wk.icmp_lt X 31 dX4_setting_19 (by decide) (fun c3 => ?_) (fun c3 => ?_)
      · skip
        refine Wk.sipush (v := -10002) X dX4_setting_31 (by decide) ?_
        exact Wk.iret X hr hk (by first | (have h9 : inN x 4 = false := (by simp [inN, *]); simp [stC, mayC, h9]; done) | (simp [stC, mayC, *]; done)) (by simp [mayC, *]) dX4_setting_34
      · skip
        refine Wk.iload_n X 2 rfl dX4_setting_22 rfl ?_
        refine Wk.gets X zH lk91 (fun _ h9 => h9) dX4_setting_23 ?_
        refine Wk.iload_n X 1 rfl dX4_setting_26 rfl ?_
        refine Wk.tald X tH (by omega) (by decide) dX4_setting_27 ?_
        refine Wk.icmp_le X 35 dX4_setting_28 (by decide) (fun c4 => ?_) (fun c4 => ?_)
        · skip
          refine Wk.aload_n X 0 rfl dX4_setting_35 rfl ?_
          refine Wk.get X inX4 0 3 lk30 (fun _ h9 => h9) rfl rfl (by decide) rfl dX4_setting_36 ?_
          refine Wk.iload_n X 1 rfl dX4_setting_39 rfl ?_
          refine Wk.iald X 19 0 rfl rfl (by omega) (by decide) dX4_setting_40 ?_
          refine Wk.istore_n (lv' := [(3, .int (se j)), (0, .ref (h 0)), (1, .int (nI j)), (2, .int v)]) X dX4_setting_41 rfl (by decide) rfl ?_
          refine Wk.aload_n X 1 rfl dX4_setting_42 rfl ?_
          refine Wk.get X inX4 0 3 lk30 (fun _ h9 => h9) rfl rfl (by decide) rfl dX4_setting_43 ?_
          refine Wk.iload_n X 2 rfl dX4_setting_46 rfl ?_
          refine Wk.iload_n X 3 rfl dX4_setting_47 rfl ?_
          refine Wk.iast (ws' := Wc h cI cJ cZ n li gr nb sc t ki fe lm si va he up lo pu pl gh gs bf b1 b2 b3 bu bl (upd se j v)) X 19 0 rfl rfl (by omega) (by decide) rfl dX4_setting_48 ?_
          refine Wk.iload_n X 0 rfl dX4_setting_49 rfl ?_
          exact Wk.iret X hr hk (by simp [stC, mayC, *]) (by simp [mayC, *]) dX4_setting_50
        · skip
          refine Wk.sipush (v := -10002) X dX4_setting_31 (by decide) ?_
          exact Wk.iret X hr hk (by first | (have h9 : inN x 4 = false := (by simp [inN, *]); simp [stC, mayC, h9]; done) | (simp [stC, mayC, *]; done)) (by simp [mayC, *]) dX4_setting_34
    · skip
      refine Wk.sipush (v := -10002) X dX4_setting_9 (by decide) ?_
      exact Wk.iret X hr hk (by first | (have h9 : inN x 4 = false := (by simp [inN, *]); simp [stC, mayC, h9]; done) | (simp [stC, mayC, *]; done)) (by first | (have h9 : inN x 4 = false := (by simp [inN, *]); simp [stC, mayC, h9]; done) | (simp [stC, mayC, *]; done)) dX4_setting_12

set_option maxHeartbeats 4000000 in
set_option maxRecDepth 100000 in
theorem c_X4_startAnew (l : Launch) (dC : Nat → ClassId) (dI : Nat → Nat → Nat) (cI cJ cZ : ClassId) (h : Nat → Nat) (n : Nat) (li : Nat → Int32) (gr : Nat → Int32) (nb : Nat → Int32) (sc : Nat → Int64) (t : Nat) (ki : Nat → Int32) (fe : Nat → Int32) (lm : Nat → Int32) (si : Nat → Int32) (va : Nat → Int32) (he : Nat → Int32) (up : Nat → Int64) (lo : Nat → Int64) (pu : Nat → Int32) (pl : Nat → Int32) (gh : Nat) (gs : Int32) (bf : Bool) (b1 : Int32) (b2 : Int32) (b3 : Int32) (bu : Int64) (bl : Int64) (se : Nat → Int32) : Cv l yX4_startAnew wsX4_startAnew 3 67 (dC, dI) cl6 (TY cI cJ cZ) true [.ref (h 0)] (Wc h cI cJ cZ n li gr nb sc t ki fe lm si va he up lo pu pl gh gs bf b1 b2 b3 bu bl se) (Wc h cI cJ cZ 0 li gr (filF nb (24 * 4) (-1001) 4) sc 0 ki fe lm si va he up lo pu pl gh gs bf b1 b2 b3 bu bl (va_cpy sxF se 0 0 4)) := by
  refine Cv.of (cc := cX4_startAnew) (maxL := 1) (own := RX4) rfl (plainFor_of_name (by decide)) rfl (Nat.le_of_ble_eq_true rfl) ?_
  intro pg ev s0 md ar bw mt cd A X hr hk
  show Wk pg l ev _ s0 md ar bw mt cd 0 0 _ 1 (dC, dI) cl6 A 0 [(0, .ref (h 0))] [] (Wc h cI cJ cZ n li gr nb sc t ki fe lm si va he up lo pu pl gh gs bf b1 b2 b3 bu bl se)
  obtain ⟨⟨aF, zF, xF, nF, -⟩, ⟨aL, zL, tL⟩, ⟨aH, zH, tH⟩, zU, zN, s74, s81, s84, s89, s172, exN, exC⟩ := X.sx rfl
  have inX1 : ∀ w ∈ u_ws RX1 TX1 9, w ∈ wsX4_startAnew := by decide +kernel
  have inX3 : ∀ w ∈ u_ws RX3 TX3 5, w ∈ wsX4_startAnew := by decide +kernel
  have inX4 : ∀ w ∈ u_ws RX4 TX4 4, w ∈ wsX4_startAnew := by decide +kernel
  have lk12 := X.w (.fieldLink RX4 12 "PairedTrees" "things" "LPairedTrees$Things;") (by decide +kernel)
  have lk19 := X.w (.fieldLink RX4 19 "PairedTrees" "forest" "LPairedTrees$Forest;") (by decide +kernel)
  have lk30 := X.w (.fieldLink RX4 30 "PairedTrees" "settings" "[I") (by decide +kernel)
  have lk44 := X.w (.fieldLink RX4 44 "PairedTrees$Things" "count" "I") (by decide +kernel)
  have lk94 := X.w (.fieldLink RX4 94 "PairedTrees$Forest" "count" "I") (by decide +kernel)
  have lk179 := X.w (.fieldLink RX4 179 "PairedTrees" "FIRST_SETTING" "[I") (by decide +kernel)
  refine Wk.aload_n X 0 rfl dX4_startAnew_0 rfl ?_
  refine Wk.get X inX4 0 0 lk12 (fun _ h9 => h9) rfl rfl (by decide) rfl dX4_startAnew_1 ?_
  refine Wk.iconst (v := nI 0) X dX4_startAnew_4 (by decide) ?_
  refine Wk.put (ws' := Wc h cI cJ cZ 0 li gr nb sc t ki fe lm si va he up lo pu pl gh gs bf b1 b2 b3 bu bl se) X inX3 tyX3 tyX3_ok nmX3 1 0 lk44 (fun _ h9 => h9) rfl rfl (by decide) rfl (tyX3_ok 0 (by decide)) rfl rfl (Nat.le_of_ble_eq_true rfl) rfl dX4_startAnew_5 ?_
  refine Wk.aload_n X 0 rfl dX4_startAnew_8 rfl ?_
  refine Wk.get X inX4 0 0 lk12 (fun _ h9 => h9) rfl rfl (by decide) rfl dX4_startAnew_9 ?_
  refine Wk.bipush (v := nI 24) X dX4_startAnew_12 (by decide) ?_
  refine Wk.callVv (n := 1) (q0 := 1) X (c_X3_forgetRow l dC dI cI cJ cZ h 0 li gr nb sc t ki fe lm si va he up lo pu pl gh gs bf b1 b2 b3 bu bl se 24 (by first | omega | assumption)) gX4_startAnew_X3_forgetRow rfl (by decide +kernel) (by decide) Fr.all (fun h9 => rfl) rfl rfl rfl rfl (Nat.le_of_ble_eq_true rfl) ⟨Nat.zero_le _, Nat.zero_le _⟩ dX4_startAnew_14 ?_
  refine Wk.aload_n X 0 rfl dX4_startAnew_17 rfl ?_
  refine Wk.get X inX4 0 1 lk19 (fun _ h9 => h9) rfl rfl (by decide) rfl dX4_startAnew_18 ?_
  refine Wk.iconst (v := nI 0) X dX4_startAnew_21 (by decide) ?_
  refine Wk.put (ws' := Wc h cI cJ cZ 0 li gr (filF nb (24 * 4) (-1001) 4) sc 0 ki fe lm si va he up lo pu pl gh gs bf b1 b2 b3 bu bl se) X inX1 tyX1 tyX1_ok nmX1 6 0 lk94 (fun _ h9 => h9) rfl rfl (by decide) rfl (tyX1_ok 0 (by decide)) rfl rfl (Nat.le_of_ble_eq_true rfl) rfl dX4_startAnew_22 ?_
  refine Wk.gets X zF lk179 (fun _ h9 => h9) dX4_startAnew_25 ?_
  refine Wk.iconst (v := nI 0) X dX4_startAnew_28 (by decide) ?_
  refine Wk.aload_n X 0 rfl dX4_startAnew_29 rfl ?_
  refine Wk.get X inX4 0 3 lk30 (fun _ h9 => h9) rfl rfl (by decide) rfl dX4_startAnew_30 ?_
  refine Wk.iconst (v := nI 0) X dX4_startAnew_33 (by decide) ?_
  refine Wk.iconst (v := nI 4) X dX4_startAnew_34 (by decide) ?_
  refine Wk.copyX (ws' := Wc h cI cJ cZ 0 li gr (filF nb (24 * 4) (-1001) 4) sc 0 ki fe lm si va he up lo pu pl gh gs bf b1 b2 b3 bu bl (va_cpy sxF se 0 0 4)) X (X.w (.methodLink RX4 182 arraycopyName) (by decide +kernel)) (X.w (.native arraycopyName) (by decide +kernel)) (X.w (.static arraycopyName) (by decide +kernel)) (X.w (.initialized "java/lang/System") (by decide +kernel)) xF nF 19 0 rfl rfl (by decide) (by decide) (by decide) (by decide) (by decide) (by decide) rfl dX4_startAnew_35 ?_
  exact Wk.vret X hr hk rfl dX4_startAnew_38

set_option maxHeartbeats 4000000 in
set_option maxRecDepth 100000 in
theorem c_X4_clear (l : Launch) (dC : Nat → ClassId) (dI : Nat → Nat → Nat) (cI cJ cZ : ClassId) (h : Nat → Nat) (n : Nat) (li : Nat → Int32) (gr : Nat → Int32) (nb : Nat → Int32) (sc : Nat → Int64) (t : Nat) (ki : Nat → Int32) (fe : Nat → Int32) (lm : Nat → Int32) (si : Nat → Int32) (va : Nat → Int32) (he : Nat → Int32) (up : Nat → Int64) (lo : Nat → Int64) (pu : Nat → Int32) (pl : Nat → Int32) (gh : Nat) (gs : Int32) (bf : Bool) (b1 : Int32) (b2 : Int32) (b3 : Int32) (bu : Int64) (bl : Int64) (se : Nat → Int32) : Ci l yX4_clear wsX4_clear 4 87 (dC, dI) cl6 (TY cI cJ cZ) true [.ref (h 0)] (Wc h cI cJ cZ n li gr nb sc t ki fe lm si va he up lo pu pl gh gs bf b1 b2 b3 bu bl se) (nI n) (Wc h cI cJ cZ 0 li gr (filF nb (24 * 4) (-1001) 4) sc 0 ki fe lm si va he up lo pu pl gh gs bf b1 b2 b3 bu bl (va_cpy sxF se 0 0 4)) := by
  refine Ci.of (cc := cX4_clear) (maxL := 2) (ty := .int) (own := RX4) rfl (plainFor_of_name (by decide)) rfl (Nat.le_of_ble_eq_true rfl) ?_
  intro pg ev s0 md ar bw mt cd A X hr hk
  show Wk pg l ev _ s0 md ar bw mt cd 0 0 _ 2 (dC, dI) cl6 A 0 [(0, .ref (h 0))] [] (Wc h cI cJ cZ n li gr nb sc t ki fe lm si va he up lo pu pl gh gs bf b1 b2 b3 bu bl se)
  obtain ⟨⟨aF, zF, xF, nF, -⟩, ⟨aL, zL, tL⟩, ⟨aH, zH, tH⟩, zU, zN, s74, s81, s84, s89, s172, exN, exC⟩ := X.sx rfl
  have inX3 : ∀ w ∈ u_ws RX3 TX3 5, w ∈ wsX4_clear := by decide +kernel
  have inX4 : ∀ w ∈ u_ws RX4 TX4 4, w ∈ wsX4_clear := by decide +kernel
  have lk12 := X.w (.fieldLink RX4 12 "PairedTrees" "things" "LPairedTrees$Things;") (by decide +kernel)
  have lk44 := X.w (.fieldLink RX4 44 "PairedTrees$Things" "count" "I") (by decide +kernel)
  refine Wk.aload_n X 0 rfl dX4_clear_0 rfl ?_
  refine Wk.get X inX4 0 0 lk12 (fun _ h9 => h9) rfl rfl (by decide) rfl dX4_clear_1 ?_
  refine Wk.get X inX3 1 0 lk44 (fun _ h9 => h9) rfl rfl (by decide) rfl dX4_clear_4 ?_
  refine Wk.istore_n (lv' := [(1, .int (nI n)), (0, .ref (h 0))]) X dX4_clear_7 rfl (by decide) rfl ?_
  refine Wk.aload_n X 1 rfl dX4_clear_8 rfl ?_
  refine Wk.callVv (n := 0) (q0 := 0) X (c_X4_startAnew l dC dI cI cJ cZ h n li gr nb sc t ki fe lm si va he up lo pu pl gh gs bf b1 b2 b3 bu bl se) gX4_clear_X4_startAnew rfl (by decide +kernel) (by decide) Fr.all (fun h9 => rfl) rfl rfl rfl rfl (Nat.le_of_ble_eq_true rfl) ⟨Nat.zero_le _, Nat.zero_le _⟩ dX4_clear_9 ?_
  refine Wk.iload_n X 0 rfl dX4_clear_12 rfl ?_
  exact Wk.iret X hr hk (by first | rfl | omega | (simp [*]; done)) rfl dX4_clear_13

set_option maxHeartbeats 4000000 in
set_option maxRecDepth 100000 in
theorem c_X4_grow_full (l : Launch) (dC : Nat → ClassId) (dI : Nat → Nat → Nat) (cI cJ cZ : ClassId) (h : Nat → Nat) (n : Nat) (li : Nat → Int32) (gr : Nat → Int32) (nb : Nat → Int32) (sc : Nat → Int64) (t : Nat) (ki : Nat → Int32) (fe : Nat → Int32) (lm : Nat → Int32) (si : Nat → Int32) (va : Nat → Int32) (he : Nat → Int32) (up : Nat → Int64) (lo : Nat → Int64) (pu : Nat → Int32) (pl : Nat → Int32) (gh : Nat) (gs : Int32) (bf : Bool) (b1 : Int32) (b2 : Int32) (b3 : Int32) (bu : Int64) (bl : Int64) (se : Nat → Int32) (hn0 : n ≤ 24) (hg : t = 20) : Ci l yX4_grow wsX4_grow 0 0 (dC, dI) cl6 (TY cI cJ cZ) false [.ref (h 0)] (Wc h cI cJ cZ n li gr nb sc t ki fe lm si va he up lo pu pl gh gs bf b1 b2 b3 bu bl se) (-10003) (Wc h cI cJ cZ n li gr nb sc t ki fe lm si va he up lo pu pl gh gs bf b1 b2 b3 bu bl se) := by
  refine Ci.of (cc := cX4_grow) (maxL := 2) (ty := .int) (own := RX4) rfl (plainFor_of_name (by decide)) rfl (Nat.le_of_ble_eq_true rfl) ?_
  intro pg ev s0 md ar bw mt cd A X hr hk
  show Wk pg l ev _ s0 md ar bw mt cd 0 0 _ 2 (dC, dI) cl6 A 0 [(0, .ref (h 0))] [] (Wc h cI cJ cZ n li gr nb sc t ki fe lm si va he up lo pu pl gh gs bf b1 b2 b3 bu bl se)
  have inX1 : ∀ w ∈ u_ws RX1 TX1 9, w ∈ wsX4_grow := by decide +kernel
  have inX4 : ∀ w ∈ u_ws RX4 TX4 4, w ∈ wsX4_grow := by decide +kernel
  have lk19 := X.w (.fieldLink RX4 19 "PairedTrees" "forest" "LPairedTrees$Forest;") (by decide +kernel)
  have lk94 := X.w (.fieldLink RX4 94 "PairedTrees$Forest" "count" "I") (by decide +kernel)
  refine Wk.aload_n X 0 rfl dX4_grow_0 rfl ?_
  refine Wk.get X inX4 0 1 lk19 (fun _ h9 => h9) rfl rfl (by decide) rfl dX4_grow_1 ?_
  refine Wk.get X inX1 6 0 lk94 (fun _ h9 => h9) rfl rfl (by decide) rfl dX4_grow_4 ?_
  refine Wk.bipush (v := nI 20) X dX4_grow_7 (by decide) ?_
  refine Wk.icmpN_lt X 16 (by omega) (by omega) dX4_grow_9 (by decide) (fun c1 => ?_) (fun c1 => ?_)
  · skip
    exfalso; omega
  · skip
    refine Wk.sipush (v := -10003) X dX4_grow_12 (by decide) ?_
    exact Wk.iret X hr hk (by first | rfl | omega | (simp [*]; done)) rfl dX4_grow_15

set_option maxHeartbeats 4000000 in
set_option maxRecDepth 100000 in
theorem c_X4_grow_state (l : Launch) (dC : Nat → ClassId) (dI : Nat → Nat → Nat) (cI cJ cZ : ClassId) (h : Nat → Nat) (n : Nat) (li : Nat → Int32) (gr : Nat → Int32) (nb : Nat → Int32) (sc : Nat → Int64) (t : Nat) (ki : Nat → Int32) (fe : Nat → Int32) (lm : Nat → Int32) (si : Nat → Int32) (va : Nat → Int32) (he : Nat → Int32) (up : Nat → Int64) (lo : Nat → Int64) (pu : Nat → Int32) (pl : Nat → Int32) (gh : Nat) (gs : Int32) (bf : Bool) (b1 : Int32) (b2 : Int32) (b3 : Int32) (bu : Int64) (bl : Int64) (se : Nat → Int32) (hn0 : n ≤ 24) (hg : t < 20) (hz : n = 0) : Ci l yX4_grow wsX4_grow 0 0 (dC, dI) cl6 (TY cI cJ cZ) false [.ref (h 0)] (Wc h cI cJ cZ n li gr nb sc t ki fe lm si va he up lo pu pl gh gs bf b1 b2 b3 bu bl se) (-10004) (Wc h cI cJ cZ n li gr nb sc t ki fe lm si va he up lo pu pl gh gs bf b1 b2 b3 bu bl se) := by
  refine Ci.of (cc := cX4_grow) (maxL := 2) (ty := .int) (own := RX4) rfl (plainFor_of_name (by decide)) rfl (Nat.le_of_ble_eq_true rfl) ?_
  intro pg ev s0 md ar bw mt cd A X hr hk
  show Wk pg l ev _ s0 md ar bw mt cd 0 0 _ 2 (dC, dI) cl6 A 0 [(0, .ref (h 0))] [] (Wc h cI cJ cZ n li gr nb sc t ki fe lm si va he up lo pu pl gh gs bf b1 b2 b3 bu bl se)
  have inX1 : ∀ w ∈ u_ws RX1 TX1 9, w ∈ wsX4_grow := by decide +kernel
  have inX3 : ∀ w ∈ u_ws RX3 TX3 5, w ∈ wsX4_grow := by decide +kernel
  have inX4 : ∀ w ∈ u_ws RX4 TX4 4, w ∈ wsX4_grow := by decide +kernel
  have lk12 := X.w (.fieldLink RX4 12 "PairedTrees" "things" "LPairedTrees$Things;") (by decide +kernel)
  have lk19 := X.w (.fieldLink RX4 19 "PairedTrees" "forest" "LPairedTrees$Forest;") (by decide +kernel)
  have lk44 := X.w (.fieldLink RX4 44 "PairedTrees$Things" "count" "I") (by decide +kernel)
  have lk94 := X.w (.fieldLink RX4 94 "PairedTrees$Forest" "count" "I") (by decide +kernel)
  refine Wk.aload_n X 0 rfl dX4_grow_0 rfl ?_
  refine Wk.get X inX4 0 1 lk19 (fun _ h9 => h9) rfl rfl (by decide) rfl dX4_grow_1 ?_
  refine Wk.get X inX1 6 0 lk94 (fun _ h9 => h9) rfl rfl (by decide) rfl dX4_grow_4 ?_
  refine Wk.bipush (v := nI 20) X dX4_grow_7 (by decide) ?_
  refine Wk.icmpN_lt X 16 (by omega) (by omega) dX4_grow_9 (by decide) (fun c1 => ?_) (fun c1 => ?_)
  · skip
    refine Wk.aload_n X 0 rfl dX4_grow_16 rfl ?_
    refine Wk.get X inX4 0 0 lk12 (fun _ h9 => h9) rfl rfl (by decide) rfl dX4_grow_17 ?_
    refine Wk.get X inX3 1 0 lk44 (fun _ h9 => h9) rfl rfl (by decide) rfl dX4_grow_20 ?_
    refine Wk.if_ne X 30 dX4_grow_23 (by decide) (fun c2 => ?_) (fun c2 => ?_)
    · skip
      exact absurd (by rw [hz]; rfl) c2
    · skip
      refine Wk.sipush (v := -10004) X dX4_grow_26 (by decide) ?_
      exact Wk.iret X hr hk (by first | rfl | omega | (simp [*]; done)) rfl dX4_grow_29
  · skip
    exfalso; omega

set_option maxHeartbeats 4000000 in
set_option maxRecDepth 100000 in
theorem c_X4_grow_ok (l : Launch) (dC : Nat → ClassId) (dI : Nat → Nat → Nat) (cI cJ cZ : ClassId) (h : Nat → Nat) (n : Nat) (li : Nat → Int32) (gr : Nat → Int32) (nb : Nat → Int32) (sc : Nat → Int64) (t : Nat) (ki : Nat → Int32) (fe : Nat → Int32) (lm : Nat → Int32) (si : Nat → Int32) (va : Nat → Int32) (he : Nat → Int32) (up : Nat → Int64) (lo : Nat → Int64) (pu : Nat → Int32) (pl : Nat → Int32) (gh : Nat) (gs : Int32) (bf : Bool) (b1 : Int32) (b2 : Int32) (b3 : Int32) (bu : Int64) (bl : Int64) (se : Nat → Int32) (hn0 : n ≤ 24) (hg : t < 20) (hz : 0 < n) (hfe : ∀ j, j < t * 15 → ki j = nI 2 → ∃ f, f < 4 ∧ fe j = nI f) : Ci l yX4_grow wsX4_grow 6 172 (dC, dI) cl6 (TY cI cJ cZ) false [.ref (h 0)] (Wc h cI cJ cZ n li gr nb sc t ki fe lm si va he up lo pu pl gh gs bf b1 b2 b3 bu bl se) (nI (clC ((gtC n nb (upT (fun i => psC li gr (scT sc (scoreC ki fe lm si va nb t) n) (se 0) i n) n pu) se t 15 (upT (fun _ => nI 0) n pl, (bf, b1, b2, b3, bu, bl), (filF ki (t * 15) (nI 0) 15), fe, lm, si, va, he, up, lo)).2.2.1) (t * 15) ((t + 1) * 15 - t * 15))) (Wc h cI cJ cZ n li gr nb (scT sc (scoreC ki fe lm si va nb t) n) (t + 1) ((gtC n nb (upT (fun i => psC li gr (scT sc (scoreC ki fe lm si va nb t) n) (se 0) i n) n pu) se t 15 (upT (fun _ => nI 0) n pl, (bf, b1, b2, b3, bu, bl), (filF ki (t * 15) (nI 0) 15), fe, lm, si, va, he, up, lo)).2.2.1) ((gtC n nb (upT (fun i => psC li gr (scT sc (scoreC ki fe lm si va nb t) n) (se 0) i n) n pu) se t 15 (upT (fun _ => nI 0) n pl, (bf, b1, b2, b3, bu, bl), (filF ki (t * 15) (nI 0) 15), fe, lm, si, va, he, up, lo)).2.2.2.1) ((gtC n nb (upT (fun i => psC li gr (scT sc (scoreC ki fe lm si va nb t) n) (se 0) i n) n pu) se t 15 (upT (fun _ => nI 0) n pl, (bf, b1, b2, b3, bu, bl), (filF ki (t * 15) (nI 0) 15), fe, lm, si, va, he, up, lo)).2.2.2.2.1) ((gtC n nb (upT (fun i => psC li gr (scT sc (scoreC ki fe lm si va nb t) n) (se 0) i n) n pu) se t 15 (upT (fun _ => nI 0) n pl, (bf, b1, b2, b3, bu, bl), (filF ki (t * 15) (nI 0) 15), fe, lm, si, va, he, up, lo)).2.2.2.2.2.1) ((gtC n nb (upT (fun i => psC li gr (scT sc (scoreC ki fe lm si va nb t) n) (se 0) i n) n pu) se t 15 (upT (fun _ => nI 0) n pl, (bf, b1, b2, b3, bu, bl), (filF ki (t * 15) (nI 0) 15), fe, lm, si, va, he, up, lo)).2.2.2.2.2.2.1) ((gtC n nb (upT (fun i => psC li gr (scT sc (scoreC ki fe lm si va nb t) n) (se 0) i n) n pu) se t 15 (upT (fun _ => nI 0) n pl, (bf, b1, b2, b3, bu, bl), (filF ki (t * 15) (nI 0) 15), fe, lm, si, va, he, up, lo)).2.2.2.2.2.2.2.1) ((gtC n nb (upT (fun i => psC li gr (scT sc (scoreC ki fe lm si va nb t) n) (se 0) i n) n pu) se t 15 (upT (fun _ => nI 0) n pl, (bf, b1, b2, b3, bu, bl), (filF ki (t * 15) (nI 0) 15), fe, lm, si, va, he, up, lo)).2.2.2.2.2.2.2.2.1) ((gtC n nb (upT (fun i => psC li gr (scT sc (scoreC ki fe lm si va nb t) n) (se 0) i n) n pu) se t 15 (upT (fun _ => nI 0) n pl, (bf, b1, b2, b3, bu, bl), (filF ki (t * 15) (nI 0) 15), fe, lm, si, va, he, up, lo)).2.2.2.2.2.2.2.2.2) (upT (fun i => psC li gr (scT sc (scoreC ki fe lm si va nb t) n) (se 0) i n) n pu) ((gtC n nb (upT (fun i => psC li gr (scT sc (scoreC ki fe lm si va nb t) n) (se 0) i n) n pu) se t 15 (upT (fun _ => nI 0) n pl, (bf, b1, b2, b3, bu, bl), (filF ki (t * 15) (nI 0) 15), fe, lm, si, va, he, up, lo)).1) (gaH (gtC n nb (upT (fun i => psC li gr (scT sc (scoreC ki fe lm si va nb t) n) (se 0) i n) n pu) se t 14 (upT (fun _ => nI 0) n pl, (bf, b1, b2, b3, bu, bl), (filF ki (t * 15) (nI 0) 15), fe, lm, si, va, he, up, lo)).1 14 n) (gaS (upT (fun i => psC li gr (scT sc (scoreC ki fe lm si va nb t) n) (se 0) i n) n pu) (gtC n nb (upT (fun i => psC li gr (scT sc (scoreC ki fe lm si va nb t) n) (se 0) i n) n pu) se t 14 (upT (fun _ => nI 0) n pl, (bf, b1, b2, b3, bu, bl), (filF ki (t * 15) (nI 0) 15), fe, lm, si, va, he, up, lo)).1 14 n) ((gtC n nb (upT (fun i => psC li gr (scT sc (scoreC ki fe lm si va nb t) n) (se 0) i n) n pu) se t 15 (upT (fun _ => nI 0) n pl, (bf, b1, b2, b3, bu, bl), (filF ki (t * 15) (nI 0) 15), fe, lm, si, va, he, up, lo)).2.1.1) ((gtC n nb (upT (fun i => psC li gr (scT sc (scoreC ki fe lm si va nb t) n) (se 0) i n) n pu) se t 15 (upT (fun _ => nI 0) n pl, (bf, b1, b2, b3, bu, bl), (filF ki (t * 15) (nI 0) 15), fe, lm, si, va, he, up, lo)).2.1.2.1) ((gtC n nb (upT (fun i => psC li gr (scT sc (scoreC ki fe lm si va nb t) n) (se 0) i n) n pu) se t 15 (upT (fun _ => nI 0) n pl, (bf, b1, b2, b3, bu, bl), (filF ki (t * 15) (nI 0) 15), fe, lm, si, va, he, up, lo)).2.1.2.2.1) ((gtC n nb (upT (fun i => psC li gr (scT sc (scoreC ki fe lm si va nb t) n) (se 0) i n) n pu) se t 15 (upT (fun _ => nI 0) n pl, (bf, b1, b2, b3, bu, bl), (filF ki (t * 15) (nI 0) 15), fe, lm, si, va, he, up, lo)).2.1.2.2.2.1) ((gtC n nb (upT (fun i => psC li gr (scT sc (scoreC ki fe lm si va nb t) n) (se 0) i n) n pu) se t 15 (upT (fun _ => nI 0) n pl, (bf, b1, b2, b3, bu, bl), (filF ki (t * 15) (nI 0) 15), fe, lm, si, va, he, up, lo)).2.1.2.2.2.2.1) ((gtC n nb (upT (fun i => psC li gr (scT sc (scoreC ki fe lm si va nb t) n) (se 0) i n) n pu) se t 15 (upT (fun _ => nI 0) n pl, (bf, b1, b2, b3, bu, bl), (filF ki (t * 15) (nI 0) 15), fe, lm, si, va, he, up, lo)).2.1.2.2.2.2.2) se) := by
  refine Ci.of (cc := cX4_grow) (maxL := 2) (ty := .int) (own := RX4) rfl (plainFor_of_name (by decide)) rfl (Nat.le_of_ble_eq_true rfl) ?_
  intro pg ev s0 md ar bw mt cd A X hr hk
  show Wk pg l ev _ s0 md ar bw mt cd 0 0 _ 2 (dC, dI) cl6 A 0 [(0, .ref (h 0))] [] (Wc h cI cJ cZ n li gr nb sc t ki fe lm si va he up lo pu pl gh gs bf b1 b2 b3 bu bl se)
  have inX1 : ∀ w ∈ u_ws RX1 TX1 9, w ∈ wsX4_grow := by decide +kernel
  have inX3 : ∀ w ∈ u_ws RX3 TX3 5, w ∈ wsX4_grow := by decide +kernel
  have inX4 : ∀ w ∈ u_ws RX4 TX4 4, w ∈ wsX4_grow := by decide +kernel
  have lk12 := X.w (.fieldLink RX4 12 "PairedTrees" "things" "LPairedTrees$Things;") (by decide +kernel)
  have lk19 := X.w (.fieldLink RX4 19 "PairedTrees" "forest" "LPairedTrees$Forest;") (by decide +kernel)
  have lk26 := X.w (.fieldLink RX4 26 "PairedTrees" "grower" "LPairedTrees$Grower;") (by decide +kernel)
  have lk30 := X.w (.fieldLink RX4 30 "PairedTrees" "settings" "[I") (by decide +kernel)
  have lk44 := X.w (.fieldLink RX4 44 "PairedTrees$Things" "count" "I") (by decide +kernel)
  have lk94 := X.w (.fieldLink RX4 94 "PairedTrees$Forest" "count" "I") (by decide +kernel)
  refine Wk.aload_n X 0 rfl dX4_grow_0 rfl ?_
  refine Wk.get X inX4 0 1 lk19 (fun _ h9 => h9) rfl rfl (by decide) rfl dX4_grow_1 ?_
  refine Wk.get X inX1 6 0 lk94 (fun _ h9 => h9) rfl rfl (by decide) rfl dX4_grow_4 ?_
  refine Wk.bipush (v := nI 20) X dX4_grow_7 (by decide) ?_
  refine Wk.icmpN_lt X 16 (by omega) (by omega) dX4_grow_9 (by decide) (fun c1 => ?_) (fun c1 => ?_)
  · skip
    refine Wk.aload_n X 0 rfl dX4_grow_16 rfl ?_
    refine Wk.get X inX4 0 0 lk12 (fun _ h9 => h9) rfl rfl (by decide) rfl dX4_grow_17 ?_
    refine Wk.get X inX3 1 0 lk44 (fun _ h9 => h9) rfl rfl (by decide) rfl dX4_grow_20 ?_
    refine Wk.if_ne X 30 dX4_grow_23 (by decide) (fun c2 => ?_) (fun c2 => ?_)
    · skip
      refine Wk.aload_n X 0 rfl dX4_grow_30 rfl ?_
      refine Wk.get X inX4 0 0 lk12 (fun _ h9 => h9) rfl rfl (by decide) rfl dX4_grow_31 ?_
      refine Wk.aload_n X 0 rfl dX4_grow_34 rfl ?_
      refine Wk.get X inX4 0 1 lk19 (fun _ h9 => h9) rfl rfl (by decide) rfl dX4_grow_35 ?_
      refine Wk.callVv (n := 1) (q0 := 1) X (c_X3_takeScores l dC dI cI cJ cZ h n li gr nb sc t ki fe lm si va he up lo pu pl gh gs bf b1 b2 b3 bu bl se (by first | omega | assumption) (by first | omega | assumption) (by first | omega | assumption)) gX4_grow_X3_takeScores rfl (by decide +kernel) (by decide) Fr.all (fun h9 => h9) rfl rfl rfl rfl (Nat.le_of_ble_eq_true rfl) ⟨Nat.zero_le _, Nat.zero_le _⟩ dX4_grow_38 ?_
      refine Wk.aload_n X 0 rfl dX4_grow_41 rfl ?_
      refine Wk.get X inX4 0 1 lk19 (fun _ h9 => h9) rfl rfl (by decide) rfl dX4_grow_42 ?_
      refine Wk.callVi (n := 0) (q0 := 6) X (c_X1_addTree l dC dI cI cJ cZ h n li gr nb (scT sc (scoreC ki fe lm si va nb t) n) t ki fe lm si va he up lo pu pl gh gs bf b1 b2 b3 bu bl se (by first | omega | assumption)) gX4_grow_X1_addTree rfl (by decide +kernel) (by decide) Fr.all (fun h9 => h9) rfl rfl rfl rfl (Nat.le_of_ble_eq_true rfl) ⟨Nat.zero_le _, Nat.zero_le _⟩ dX4_grow_45 ?_
      refine Wk.istore_n (lv' := [(1, .int (nI t)), (0, .ref (h 0))]) X dX4_grow_48 rfl (by decide) rfl ?_
      refine Wk.aload_n X 1 rfl dX4_grow_49 rfl ?_
      refine Wk.get X inX4 0 2 lk26 (fun _ h9 => h9) rfl rfl (by decide) rfl dX4_grow_50 ?_
      refine Wk.aload_n X 1 rfl dX4_grow_53 rfl ?_
      refine Wk.get X inX4 0 0 lk12 (fun _ h9 => h9) rfl rfl (by decide) rfl dX4_grow_54 ?_
      refine Wk.aload_n X 1 rfl dX4_grow_57 rfl ?_
      refine Wk.get X inX4 0 1 lk19 (fun _ h9 => h9) rfl rfl (by decide) rfl dX4_grow_58 ?_
      refine Wk.iload_n X 0 rfl dX4_grow_61 rfl ?_
      refine Wk.aload_n X 1 rfl dX4_grow_62 rfl ?_
      refine Wk.get X inX4 0 3 lk30 (fun _ h9 => h9) rfl rfl (by decide) rfl dX4_grow_63 ?_
      refine Wk.callVv (n := 4) (q0 := 15) X (c_X2_growTree l dC dI cI cJ cZ h n li gr nb (scT sc (scoreC ki fe lm si va nb t) n) (t + 1) (filF ki (t * 15) (nI 0) 15) fe lm si va he up lo pu pl gh gs bf b1 b2 b3 bu bl se t (by first | omega | assumption) (by first | omega | assumption)) gX4_grow_X2_growTree rfl (by decide +kernel) (by decide) Fr.all (fun h9 => h9) rfl rfl rfl rfl (Nat.le_of_ble_eq_true rfl) ⟨Nat.zero_le _, Nat.zero_le _⟩ dX4_grow_66 ?_
      refine Wk.aload_n X 1 rfl dX4_grow_69 rfl ?_
      refine Wk.get X inX4 0 1 lk19 (fun _ h9 => h9) rfl rfl (by decide) rfl dX4_grow_70 ?_
      refine Wk.iload_n X 0 rfl dX4_grow_73 rfl ?_
      refine Wk.iload_n X 0 rfl dX4_grow_74 rfl ?_
      refine Wk.iconst (v := nI 1) X dX4_grow_75 (by decide) ?_
      refine Wk.iaddN X dX4_grow_76 ?_
      refine Wk.callVi (n := 2) (q0 := 6) X (c_X1_countLeaves l dC dI cI cJ cZ h n li gr nb (scT sc (scoreC ki fe lm si va nb t) n) (t + 1) ((gtC n nb (upT (fun i => psC li gr (scT sc (scoreC ki fe lm si va nb t) n) (se 0) i n) n pu) se t 15 (upT (fun _ => nI 0) n pl, (bf, b1, b2, b3, bu, bl), (filF ki (t * 15) (nI 0) 15), fe, lm, si, va, he, up, lo)).2.2.1) ((gtC n nb (upT (fun i => psC li gr (scT sc (scoreC ki fe lm si va nb t) n) (se 0) i n) n pu) se t 15 (upT (fun _ => nI 0) n pl, (bf, b1, b2, b3, bu, bl), (filF ki (t * 15) (nI 0) 15), fe, lm, si, va, he, up, lo)).2.2.2.1) ((gtC n nb (upT (fun i => psC li gr (scT sc (scoreC ki fe lm si va nb t) n) (se 0) i n) n pu) se t 15 (upT (fun _ => nI 0) n pl, (bf, b1, b2, b3, bu, bl), (filF ki (t * 15) (nI 0) 15), fe, lm, si, va, he, up, lo)).2.2.2.2.1) ((gtC n nb (upT (fun i => psC li gr (scT sc (scoreC ki fe lm si va nb t) n) (se 0) i n) n pu) se t 15 (upT (fun _ => nI 0) n pl, (bf, b1, b2, b3, bu, bl), (filF ki (t * 15) (nI 0) 15), fe, lm, si, va, he, up, lo)).2.2.2.2.2.1) ((gtC n nb (upT (fun i => psC li gr (scT sc (scoreC ki fe lm si va nb t) n) (se 0) i n) n pu) se t 15 (upT (fun _ => nI 0) n pl, (bf, b1, b2, b3, bu, bl), (filF ki (t * 15) (nI 0) 15), fe, lm, si, va, he, up, lo)).2.2.2.2.2.2.1) ((gtC n nb (upT (fun i => psC li gr (scT sc (scoreC ki fe lm si va nb t) n) (se 0) i n) n pu) se t 15 (upT (fun _ => nI 0) n pl, (bf, b1, b2, b3, bu, bl), (filF ki (t * 15) (nI 0) 15), fe, lm, si, va, he, up, lo)).2.2.2.2.2.2.2.1) ((gtC n nb (upT (fun i => psC li gr (scT sc (scoreC ki fe lm si va nb t) n) (se 0) i n) n pu) se t 15 (upT (fun _ => nI 0) n pl, (bf, b1, b2, b3, bu, bl), (filF ki (t * 15) (nI 0) 15), fe, lm, si, va, he, up, lo)).2.2.2.2.2.2.2.2.1) ((gtC n nb (upT (fun i => psC li gr (scT sc (scoreC ki fe lm si va nb t) n) (se 0) i n) n pu) se t 15 (upT (fun _ => nI 0) n pl, (bf, b1, b2, b3, bu, bl), (filF ki (t * 15) (nI 0) 15), fe, lm, si, va, he, up, lo)).2.2.2.2.2.2.2.2.2) (upT (fun i => psC li gr (scT sc (scoreC ki fe lm si va nb t) n) (se 0) i n) n pu) ((gtC n nb (upT (fun i => psC li gr (scT sc (scoreC ki fe lm si va nb t) n) (se 0) i n) n pu) se t 15 (upT (fun _ => nI 0) n pl, (bf, b1, b2, b3, bu, bl), (filF ki (t * 15) (nI 0) 15), fe, lm, si, va, he, up, lo)).1) (gaH (gtC n nb (upT (fun i => psC li gr (scT sc (scoreC ki fe lm si va nb t) n) (se 0) i n) n pu) se t 14 (upT (fun _ => nI 0) n pl, (bf, b1, b2, b3, bu, bl), (filF ki (t * 15) (nI 0) 15), fe, lm, si, va, he, up, lo)).1 14 n) (gaS (upT (fun i => psC li gr (scT sc (scoreC ki fe lm si va nb t) n) (se 0) i n) n pu) (gtC n nb (upT (fun i => psC li gr (scT sc (scoreC ki fe lm si va nb t) n) (se 0) i n) n pu) se t 14 (upT (fun _ => nI 0) n pl, (bf, b1, b2, b3, bu, bl), (filF ki (t * 15) (nI 0) 15), fe, lm, si, va, he, up, lo)).1 14 n) ((gtC n nb (upT (fun i => psC li gr (scT sc (scoreC ki fe lm si va nb t) n) (se 0) i n) n pu) se t 15 (upT (fun _ => nI 0) n pl, (bf, b1, b2, b3, bu, bl), (filF ki (t * 15) (nI 0) 15), fe, lm, si, va, he, up, lo)).2.1.1) ((gtC n nb (upT (fun i => psC li gr (scT sc (scoreC ki fe lm si va nb t) n) (se 0) i n) n pu) se t 15 (upT (fun _ => nI 0) n pl, (bf, b1, b2, b3, bu, bl), (filF ki (t * 15) (nI 0) 15), fe, lm, si, va, he, up, lo)).2.1.2.1) ((gtC n nb (upT (fun i => psC li gr (scT sc (scoreC ki fe lm si va nb t) n) (se 0) i n) n pu) se t 15 (upT (fun _ => nI 0) n pl, (bf, b1, b2, b3, bu, bl), (filF ki (t * 15) (nI 0) 15), fe, lm, si, va, he, up, lo)).2.1.2.2.1) ((gtC n nb (upT (fun i => psC li gr (scT sc (scoreC ki fe lm si va nb t) n) (se 0) i n) n pu) se t 15 (upT (fun _ => nI 0) n pl, (bf, b1, b2, b3, bu, bl), (filF ki (t * 15) (nI 0) 15), fe, lm, si, va, he, up, lo)).2.1.2.2.2.1) ((gtC n nb (upT (fun i => psC li gr (scT sc (scoreC ki fe lm si va nb t) n) (se 0) i n) n pu) se t 15 (upT (fun _ => nI 0) n pl, (bf, b1, b2, b3, bu, bl), (filF ki (t * 15) (nI 0) 15), fe, lm, si, va, he, up, lo)).2.1.2.2.2.2.1) ((gtC n nb (upT (fun i => psC li gr (scT sc (scoreC ki fe lm si va nb t) n) (se 0) i n) n pu) se t 15 (upT (fun _ => nI 0) n pl, (bf, b1, b2, b3, bu, bl), (filF ki (t * 15) (nI 0) 15), fe, lm, si, va, he, up, lo)).2.1.2.2.2.2.2) se t (t + 1) (by first | omega | assumption) (by first | omega | assumption)) gX4_grow_X1_countLeaves rfl (by decide +kernel) (by decide) Fr.all (fun h9 => h9) rfl rfl rfl rfl (Nat.le_of_ble_eq_true rfl) ⟨Nat.zero_le _, Nat.zero_le _⟩ dX4_grow_77 ?_
      exact Wk.iret X hr hk (by first | rfl | omega | (simp [*]; done)) rfl dX4_grow_80
    · skip
      exact absurd ((nI_eq (b := 0) (by omega) (by decide)).mp c2) (by omega)
  · skip
    exfalso; omega

