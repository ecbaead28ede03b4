/-- x names one of n things -/
def inN (x : Int32) (n : Nat) : Bool := decide (¬ x < 0 ∧ ¬ nI n ≤ x)
theorem inN_t {x : Int32} {n : Nat} (hn : n < 2 ^ 31) (h : inN x n = true) : ∃ j : Nat, j < n ∧ x = nI j := by
  unfold inN at h
  have h := of_decide_eq_true h
  rcases pk_ix x hn with q | q | q
  · exact absurd q h.1
  · exact absurd q h.2
  · exact q
set_option maxHeartbeats 4000000 in
set_option maxRecDepth 100000 in
theorem c_X3_has (l : Launch) (dC : Nat → ClassId) (dI : Nat → Nat → Nat) (cI cJ cZ : ClassId) (h : Nat → Nat) (n : Nat) (li : Nat → Int32) (gr : Nat → Int32) (nb : Nat → Int32) (sc : Nat → Int64) (t : Nat) (ki : Nat → Int32) (fe : Nat → Int32) (lm : Nat → Int32) (si : Nat → Int32) (va : Nat → Int32) (he : Nat → Int32) (up : Nat → Int64) (lo : Nat → Int64) (pu : Nat → Int32) (pl : Nat → Int32) (gh : Nat) (gs : Int32) (bf : Bool) (b1 : Int32) (b2 : Int32) (b3 : Int32) (bu : Int64) (bl : Int64) (se : Nat → Int32) (x : Int32) : Ci l yX3_has wsX3_has 0 0 (dC, dI) cl6 (TY cI cJ cZ) false [.ref (h 1), .int x] (Wc h cI cJ cZ n li gr nb sc t ki fe lm si va he up lo pu pl gh gs bf b1 b2 b3 bu bl se) (bI (inN x n)) (Wc h cI cJ cZ n li gr nb sc t ki fe lm si va he up lo pu pl gh gs bf b1 b2 b3 bu bl se) := by
  refine Ci.of (cc := cX3_has) (maxL := 2) (ty := .boolean) (own := RX3) rfl (by decide) rfl (Nat.le_of_ble_eq_true rfl) ?_
  intro pg ev s0 md ar bw mt cd A X hr hk
  show Wk pg l ev _ s0 md ar bw mt cd 0 0 _ 2 (dC, dI) cl6 A 0 [(0, .ref (h 1)), (1, .int x)] [] (Wc h cI cJ cZ n li gr nb sc t ki fe lm si va he up lo pu pl gh gs bf b1 b2 b3 bu bl se)
  have inX3 : ∀ w ∈ u_ws RX3 TX3 5, w ∈ wsX3_has := by decide +kernel
  have lk25 := X.w (.fieldLink RX3 25 "PairedTrees$Things" "count" "I") (by decide +kernel)
  refine Wk.iload_n X 1 rfl dX3_has_0 rfl ?_
  refine Wk.if_lt X 16 dX3_has_1 (by decide) (fun c1 => ?_) (fun c1 => ?_)
  · skip
    refine Wk.iconst (v := nI 0) X dX3_has_16 (by decide) ?_
    exact Wk.zret X hr hk (by decide) (by simp [inN, bI, nI_0, nIc1, *]) rfl dX3_has_17
  · skip
    refine Wk.iload_n X 1 rfl dX3_has_4 rfl ?_
    refine Wk.aload_n X 0 rfl dX3_has_5 rfl ?_
    refine Wk.get X inX3 1 0 lk25 (fun _ h9 => h9) rfl rfl (by decide) rfl dX3_has_6 ?_
    refine Wk.icmp_ge X 16 dX3_has_9 (by decide) (fun c2 => ?_) (fun c2 => ?_)
    · skip
      refine Wk.iconst (v := nI 0) X dX3_has_16 (by decide) ?_
      exact Wk.zret X hr hk (by decide) (by simp [inN, bI, nI_0, nIc1, *]) rfl dX3_has_17
    · skip
      refine Wk.iconst (v := nI 1) X dX3_has_12 (by decide) ?_
      refine Wk.goto X 17 dX3_has_13 (by decide) ?_
      exact Wk.zret X hr hk (by decide) (by simp [inN, bI, nI_0, nIc1, *]) rfl dX3_has_17

set_option maxHeartbeats 4000000 in
set_option maxRecDepth 100000 in
theorem c_X3_numberAt (l : Launch) (dC : Nat → ClassId) (dI : Nat → Nat → Nat) (cI cJ cZ : ClassId) (h : Nat → Nat) (n : Nat) (li : Nat → Int32) (gr : Nat → Int32) (nb : Nat → Int32) (sc : Nat → Int64) (t : Nat) (ki : Nat → Int32) (fe : Nat → Int32) (lm : Nat → Int32) (si : Nat → Int32) (va : Nat → Int32) (he : Nat → Int32) (up : Nat → Int64) (lo : Nat → Int64) (pu : Nat → Int32) (pl : Nat → Int32) (gh : Nat) (gs : Int32) (bf : Bool) (b1 : Int32) (b2 : Int32) (b3 : Int32) (bu : Int64) (bl : Int64) (se : Nat → Int32) (r : Nat) (f : Nat) (hr0 : r < 25) (hf0 : f < 4) : Ci l yX3_numberAt wsX3_numberAt 0 0 (dC, dI) cl6 (TY cI cJ cZ) false [.ref (h 1), .int (nI r), .int (nI f)] (Wc h cI cJ cZ n li gr nb sc t ki fe lm si va he up lo pu pl gh gs bf b1 b2 b3 bu bl se) (nb (r * 4 + f)) (Wc h cI cJ cZ n li gr nb sc t ki fe lm si va he up lo pu pl gh gs bf b1 b2 b3 bu bl se) := by
  refine Ci.of (cc := cX3_numberAt) (maxL := 3) (ty := .int) (own := RX3) rfl (by decide) rfl (Nat.le_of_ble_eq_true rfl) ?_
  intro pg ev s0 md ar bw mt cd A X hr hk
  show Wk pg l ev _ s0 md ar bw mt cd 0 0 _ 3 (dC, dI) cl6 A 0 [(0, .ref (h 1)), (1, .int (nI r)), (2, .int (nI f))] [] (Wc h cI cJ cZ n li gr nb sc t ki fe lm si va he up lo pu pl gh gs bf b1 b2 b3 bu bl se)
  have inX3 : ∀ w ∈ u_ws RX3 TX3 5, w ∈ wsX3_numberAt := by decide +kernel
  have lk18 := X.w (.fieldLink RX3 18 "PairedTrees$Things" "numbers" "[I") (by decide +kernel)
  refine Wk.aload_n X 0 rfl dX3_numberAt_0 rfl ?_
  refine Wk.get X inX3 1 3 lk18 (fun _ h9 => h9) rfl rfl (by decide) rfl dX3_numberAt_1 ?_
  refine Wk.iload_n X 1 rfl dX3_numberAt_4 rfl ?_
  refine Wk.iconst (v := nI 4) X dX3_numberAt_5 (by decide) ?_
  refine Wk.imulN X dX3_numberAt_6 ?_
  refine Wk.iload_n X 2 rfl dX3_numberAt_7 rfl ?_
  refine Wk.iaddN X dX3_numberAt_8 ?_
  refine Wk.iald X 4 0 rfl rfl (by omega) (by decide) dX3_numberAt_9 ?_
  exact Wk.iret X hr hk (by first | rfl | omega | (simp [*]; done)) rfl dX3_numberAt_10

/-- which way a row goes -/
def glC (nb : Nat → Int32) (r f : Nat) (c s : Int32) : Bool := if nb (r * 4 + f) = -2147483648 then decide (s = 0) else decide (nb (r * 4 + f) ≤ c)
set_option maxHeartbeats 4000000 in
set_option maxRecDepth 100000 in
theorem c_X3_goesLeft (l : Launch) (dC : Nat → ClassId) (dI : Nat → Nat → Nat) (cI cJ cZ : ClassId) (h : Nat → Nat) (n : Nat) (li : Nat → Int32) (gr : Nat → Int32) (nb : Nat → Int32) (sc : Nat → Int64) (t : Nat) (ki : Nat → Int32) (fe : Nat → Int32) (lm : Nat → Int32) (si : Nat → Int32) (va : Nat → Int32) (he : Nat → Int32) (up : Nat → Int64) (lo : Nat → Int64) (pu : Nat → Int32) (pl : Nat → Int32) (gh : Nat) (gs : Int32) (bf : Bool) (b1 : Int32) (b2 : Int32) (b3 : Int32) (bu : Int64) (bl : Int64) (se : Nat → Int32) (r : Nat) (f : Nat) (c : Int32) (s : Int32) (hr0 : r < 25) (hf0 : f < 4) : Ci l yX3_goesLeft wsX3_goesLeft 1 22 (dC, dI) cl6 (TY cI cJ cZ) false [.ref (h 1), .int (nI r), .int (nI f), .int c, .int s] (Wc h cI cJ cZ n li gr nb sc t ki fe lm si va he up lo pu pl gh gs bf b1 b2 b3 bu bl se) (bI (glC nb r f c s)) (Wc h cI cJ cZ n li gr nb sc t ki fe lm si va he up lo pu pl gh gs bf b1 b2 b3 bu bl se) := by
  refine Ci.of (cc := cX3_goesLeft) (maxL := 6) (ty := .boolean) (own := RX3) rfl (by decide) rfl (Nat.le_of_ble_eq_true rfl) ?_
  intro pg ev s0 md ar bw mt cd A X hr hk
  show Wk pg l ev _ s0 md ar bw mt cd 0 0 _ 6 (dC, dI) cl6 A 0 [(0, .ref (h 1)), (1, .int (nI r)), (2, .int (nI f)), (3, .int c), (4, .int s)] [] (Wc h cI cJ cZ n li gr nb sc t ki fe lm si va he up lo pu pl gh gs bf b1 b2 b3 bu bl se)
  have kc37 := X.w (.constant RX3 37 (-2147483648)) (by decide +kernel)
  refine Wk.aload_n X 0 rfl dX3_goesLeft_0 rfl ?_
  refine Wk.iload_n X 1 rfl dX3_goesLeft_1 rfl ?_
  refine Wk.iload_n X 2 rfl dX3_goesLeft_2 rfl ?_
  refine Wk.callVi (n := 2) (q0 := 1) X (c_X3_numberAt l dC dI cI cJ cZ h n li gr nb sc t ki fe lm si va he up lo pu pl gh gs bf b1 b2 b3 bu bl se r f (by first | omega | assumption) (by first | omega | assumption)) gX3_goesLeft_X3_numberAt rfl (by decide +kernel) (by decide) Fr.all (fun h9 => h9) rfl rfl rfl rfl (by decide) ⟨Nat.zero_le _, Nat.zero_le _⟩ dX3_goesLeft_3 ?_
  refine Wk.istore (lv' := [(5, .int (nb (r * 4 + f))), (0, .ref (h 1)), (1, .int (nI r)), (2, .int (nI f)), (3, .int c), (4, .int s)]) X dX3_goesLeft_6 (by decide) rfl ?_
  refine Wk.iload X 0 rfl dX3_goesLeft_8 ?_
  refine Wk.ldc X kc37 dX3_goesLeft_10 ?_
  refine Wk.icmp_ne X 28 dX3_goesLeft_12 (by decide) (fun c1 => ?_) (fun c1 => ?_)
  · skip
    refine Wk.iload X 0 rfl dX3_goesLeft_28 ?_
    refine Wk.iload_n X 4 rfl dX3_goesLeft_30 rfl ?_
    refine Wk.icmp_gt X 38 dX3_goesLeft_31 (by decide) (fun c2 => ?_) (fun c2 => ?_)
    · skip
      refine Wk.iconst (v := nI 0) X dX3_goesLeft_38 (by decide) ?_
      exact Wk.zret X hr hk (by decide) (by simp [glC, bI, nI_0, nIc1, *]) rfl dX3_goesLeft_39
    · skip
      refine Wk.iconst (v := nI 1) X dX3_goesLeft_34 (by decide) ?_
      refine Wk.goto X 39 dX3_goesLeft_35 (by decide) ?_
      exact Wk.zret X hr hk (by decide) (by simp [glC, bI, nI_0, nIc1, *]) rfl dX3_goesLeft_39
  · skip
    refine Wk.iload X 5 rfl dX3_goesLeft_15 ?_
    refine Wk.if_ne X 24 dX3_goesLeft_17 (by decide) (fun c3 => ?_) (fun c3 => ?_)
    · skip
      refine Wk.iconst (v := nI 0) X dX3_goesLeft_24 (by decide) ?_
      refine Wk.goto X 39 dX3_goesLeft_25 (by decide) ?_
      exact Wk.zret X hr hk (by decide) (by simp [glC, bI, nI_0, nIc1, *]) rfl dX3_goesLeft_39
    · skip
      refine Wk.iconst (v := nI 1) X dX3_goesLeft_20 (by decide) ?_
      refine Wk.goto X 39 dX3_goesLeft_21 (by decide) ?_
      exact Wk.zret X hr hk (by decide) (by simp [glC, bI, nI_0, nIc1, *]) rfl dX3_goesLeft_39

