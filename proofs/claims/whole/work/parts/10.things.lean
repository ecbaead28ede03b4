/-- x names one of n things -/
def inN (x : Int32) (n : Nat) : Bool := decide (¬ x < 0 ∧ ¬ nI n ≤ x)
theorem inN_t {x : Int32} {n : Nat} (hn : n < 2 ^ 31) (h : inN x n = true) : ∃ j : Nat, j < n ∧ x = nI j := by
  unfold inN at h
  have h := of_decide_eq_true h
  rcases pk_ix x hn with q | q | q
  · exact absurd q h.1
  · exact absurd q h.2
  · exact q
theorem inN_nI {j n : Nat} (hj : j < n) (hn : n < 2 ^ 31) : inN (nI j) n = true := decide_eq_true ⟨nI_pos (by omega), nI_ge hj hn⟩
set_option maxHeartbeats 4000000 in
set_option maxRecDepth 100000 in
theorem c_X3_has (l : Launch) (dC : Nat → ClassId) (dI : Nat → Nat → Nat) (cI cJ cZ : ClassId) (h : Nat → Nat) (n : Nat) (li : Nat → Int32) (gr : Nat → Int32) (nb : Nat → Int32) (sc : Nat → Int64) (t : Nat) (ki : Nat → Int32) (fe : Nat → Int32) (lm : Nat → Int32) (si : Nat → Int32) (va : Nat → Int32) (he : Nat → Int32) (up : Nat → Int64) (lo : Nat → Int64) (pu : Nat → Int32) (pl : Nat → Int32) (gh : Nat) (gs : Int32) (bf : Bool) (b1 : Int32) (b2 : Int32) (b3 : Int32) (bu : Int64) (bl : Int64) (se : Nat → Int32) (x : Int32) : Ci l yX3_has wsX3_has 0 0 (dC, dI) cl6 (TY cI cJ cZ) false [.ref (h 1), .int x] (Wc h cI cJ cZ n li gr nb sc t ki fe lm si va he up lo pu pl gh gs bf b1 b2 b3 bu bl se) (bI (inN x n)) (Wc h cI cJ cZ n li gr nb sc t ki fe lm si va he up lo pu pl gh gs bf b1 b2 b3 bu bl se) := by
  refine Ci.of (cc := cX3_has) (maxL := 2) (ty := .boolean) (own := RX3) rfl (plainFor_of_name (by decide)) rfl (Nat.le_of_ble_eq_true rfl) ?_
  intro pg ev s0 md ar bw mt cd A X hr hk
  show Wk pg l ev _ s0 md ar bw mt cd 0 0 _ 2 (dC, dI) cl6 A 0 [(0, .ref (h 1)), (1, .int x)] [] (Wc h cI cJ cZ n li gr nb sc t ki fe lm si va he up lo pu pl gh gs bf b1 b2 b3 bu bl se)
  have inX3 : ∀ w ∈ u_ws RX3 TX3 5, w ∈ wsX3_has := by decide +kernel
  have lk25 := X.w (.fieldLink RX3 25 "PairedTrees$Things" "count" "I") (by decide +kernel)
  refine Wk.iload_n X 1 rfl dX3_has_0 rfl ?_
  refine Wk.if_lt X 16 dX3_has_1 (by decide) (fun c1 => ?_) (fun c1 => ?_)
  · skip
    refine Wk.iconst (v := nI 0) X dX3_has_16 (by decide) ?_
    exact Wk.zret X hr hk (by decide) (by simp [inN, bI, nI_0, nIc1, *]) rfl dX3_has_17
  · skip
    refine Wk.iload_n X 1 rfl dX3_has_4 rfl ?_
    refine Wk.aload_n X 0 rfl dX3_has_5 rfl ?_
    refine Wk.get X inX3 1 0 lk25 (fun _ h9 => h9) rfl rfl (by decide) rfl dX3_has_6 ?_
    refine Wk.icmp_ge X 16 dX3_has_9 (by decide) (fun c2 => ?_) (fun c2 => ?_)
    · skip
      refine Wk.iconst (v := nI 0) X dX3_has_16 (by decide) ?_
      exact Wk.zret X hr hk (by decide) (by simp [inN, bI, nI_0, nIc1, *]) rfl dX3_has_17
    · skip
      refine Wk.iconst (v := nI 1) X dX3_has_12 (by decide) ?_
      refine Wk.goto X 17 dX3_has_13 (by decide) ?_
      exact Wk.zret X hr hk (by decide) (by simp [inN, bI, nI_0, nIc1, *]) rfl dX3_has_17

set_option maxHeartbeats 4000000 in
set_option maxRecDepth 100000 in
theorem c_X3_numberAt (l : Launch) (dC : Nat → ClassId) (dI : Nat → Nat → Nat) (cI cJ cZ : ClassId) (h : Nat → Nat) (n : Nat) (li : Nat → Int32) (gr : Nat → Int32) (nb : Nat → Int32) (sc : Nat → Int64) (t : Nat) (ki : Nat → Int32) (fe : Nat → Int32) (lm : Nat → Int32) (si : Nat → Int32) (va : Nat → Int32) (he : Nat → Int32) (up : Nat → Int64) (lo : Nat → Int64) (pu : Nat → Int32) (pl : Nat → Int32) (gh : Nat) (gs : Int32) (bf : Bool) (b1 : Int32) (b2 : Int32) (b3 : Int32) (bu : Int64) (bl : Int64) (se : Nat → Int32) (r : Nat) (f : Nat) (hr0 : r < 25) (hf0 : f < 4) : Ci l yX3_numberAt wsX3_numberAt 0 0 (dC, dI) cl6 (TY cI cJ cZ) false [.ref (h 1), .int (nI r), .int (nI f)] (Wc h cI cJ cZ n li gr nb sc t ki fe lm si va he up lo pu pl gh gs bf b1 b2 b3 bu bl se) (nb (r * 4 + f)) (Wc h cI cJ cZ n li gr nb sc t ki fe lm si va he up lo pu pl gh gs bf b1 b2 b3 bu bl se) := by
  refine Ci.of (cc := cX3_numberAt) (maxL := 3) (ty := .int) (own := RX3) rfl (plainFor_of_name (by decide)) rfl (Nat.le_of_ble_eq_true rfl) ?_
  intro pg ev s0 md ar bw mt cd A X hr hk
  show Wk pg l ev _ s0 md ar bw mt cd 0 0 _ 3 (dC, dI) cl6 A 0 [(0, .ref (h 1)), (1, .int (nI r)), (2, .int (nI f))] [] (Wc h cI cJ cZ n li gr nb sc t ki fe lm si va he up lo pu pl gh gs bf b1 b2 b3 bu bl se)
  have inX3 : ∀ w ∈ u_ws RX3 TX3 5, w ∈ wsX3_numberAt := by decide +kernel
  have lk18 := X.w (.fieldLink RX3 18 "PairedTrees$Things" "numbers" "[I") (by decide +kernel)
  refine Wk.aload_n X 0 rfl dX3_numberAt_0 rfl ?_
  refine Wk.get X inX3 1 3 lk18 (fun _ h9 => h9) rfl rfl (by decide) rfl dX3_numberAt_1 ?_
  refine Wk.iload_n X 1 rfl dX3_numberAt_4 rfl ?_
  refine Wk.iconst (v := nI 4) X dX3_numberAt_5 (by decide) ?_
  refine Wk.imulN X dX3_numberAt_6 ?_
  refine Wk.iload_n X 2 rfl dX3_numberAt_7 rfl ?_
  refine Wk.iaddN X dX3_numberAt_8 ?_
  refine Wk.iald X 4 0 rfl rfl (by omega) (by decide) dX3_numberAt_9 ?_
  exact Wk.iret X hr hk (by first | rfl | omega | (simp [*]; done)) rfl dX3_numberAt_10

/-- which way a row goes -/
def glC (nb : Nat → Int32) (r f : Nat) (c s : Int32) : Bool := if nb (r * 4 + f) = -1001 then decide (s = 0) else decide (nb (r * 4 + f) ≤ c)
/-- the row of a thing's features -/
def rowC (x : Int32) (n : Nat) : Int32 := if x = -1 then nI 24 else if inN x n = true then x else -1
def pairB (li gr : Nat → Int32) (i j : Nat) : Bool := decide (li i = li j ∧ ¬ gr i ≤ gr j)
def ppC (li gr : Nat → Int32) (sc : Nat → Int64) (mg : Int32) (i j : Nat) : Int32 := if pairB li gr i j = true ∧ sc i - sc j < mg.toInt64 then gr i - gr j else 0
def psC (li gr : Nat → Int32) (sc : Nat → Int64) (mg : Int32) (i : Nat) : Nat → Int32
  | 0 => 0
  | k + 1 => psC li gr sc mg i k + (ppC li gr sc mg i k - ppC li gr sc mg k i)
def ahB (sc : Nat → Int64) (i j : Nat) : Bool := if sc i = sc j then decide (i < j) else decide (¬ sc i ≤ sc j)
def ahC (li : Nat → Int32) (sc : Nat → Int64) (i : Nat) : Nat → Nat
  | 0 => 0
  | k + 1 => if li k = li i ∧ ahB sc k i = true then ahC li sc i k + 1 else ahC li sc i k
def cpB (li gr : Nat → Int32) (sc : Nat → Int64) (ls : Int32) (ow : Bool) (i j : Nat) : Bool := decide (ls = -1 ∨ li i = ls) && (pairB li gr i j && (decide (sc i ≤ sc j) || !ow))
def cpI (li gr : Nat → Int32) (sc : Nat → Int64) (ls : Int32) (ow : Bool) (i : Nat) : Nat → Nat
  | 0 => 0
  | k + 1 => if cpB li gr sc ls ow i k = true then cpI li gr sc ls ow i k + 1 else cpI li gr sc ls ow i k
def cpO (li gr : Nat → Int32) (sc : Nat → Int64) (ls : Int32) (ow : Bool) (n : Nat) : Nat → Nat
  | 0 => 0
  | k + 1 => cpO li gr sc ls ow n k + cpI li gr sc ls ow k n
/-- a stretch of a row set -/
def filF (f : Nat → Int32) (a : Nat) (v : Int32) : Nat → Nat → Int32
  | 0 => f
  | k + 1 => upd (filF f a v k) (a + k) v
set_option maxHeartbeats 4000000 in
set_option maxRecDepth 100000 in
theorem c_X3_goesLeft (l : Launch) (dC : Nat → ClassId) (dI : Nat → Nat → Nat) (cI cJ cZ : ClassId) (h : Nat → Nat) (n : Nat) (li : Nat → Int32) (gr : Nat → Int32) (nb : Nat → Int32) (sc : Nat → Int64) (t : Nat) (ki : Nat → Int32) (fe : Nat → Int32) (lm : Nat → Int32) (si : Nat → Int32) (va : Nat → Int32) (he : Nat → Int32) (up : Nat → Int64) (lo : Nat → Int64) (pu : Nat → Int32) (pl : Nat → Int32) (gh : Nat) (gs : Int32) (bf : Bool) (b1 : Int32) (b2 : Int32) (b3 : Int32) (bu : Int64) (bl : Int64) (se : Nat → Int32) (r : Nat) (f : Nat) (cv : Int32) (sd : Int32) (hr0 : r < 25) (hf0 : f < 4) : Ci l yX3_goesLeft wsX3_goesLeft 1 22 (dC, dI) cl6 (TY cI cJ cZ) false [.ref (h 1), .int (nI r), .int (nI f), .int cv, .int sd] (Wc h cI cJ cZ n li gr nb sc t ki fe lm si va he up lo pu pl gh gs bf b1 b2 b3 bu bl se) (bI (glC nb r f cv sd)) (Wc h cI cJ cZ n li gr nb sc t ki fe lm si va he up lo pu pl gh gs bf b1 b2 b3 bu bl se) := by
  refine Ci.of (cc := cX3_goesLeft) (maxL := 6) (ty := .boolean) (own := RX3) rfl (plainFor_of_name (by decide)) rfl (Nat.le_of_ble_eq_true rfl) ?_
  intro pg ev s0 md ar bw mt cd A X hr hk
  show Wk pg l ev _ s0 md ar bw mt cd 0 0 _ 6 (dC, dI) cl6 A 0 [(0, .ref (h 1)), (1, .int (nI r)), (2, .int (nI f)), (3, .int cv), (4, .int sd)] [] (Wc h cI cJ cZ n li gr nb sc t ki fe lm si va he up lo pu pl gh gs bf b1 b2 b3 bu bl se)
  refine Wk.aload_n X 0 rfl dX3_goesLeft_0 rfl ?_
  refine Wk.iload_n X 1 rfl dX3_goesLeft_1 rfl ?_
  refine Wk.iload_n X 2 rfl dX3_goesLeft_2 rfl ?_
  refine Wk.callVi (n := 2) (q0 := 1) X (c_X3_numberAt l dC dI cI cJ cZ h n li gr nb sc t ki fe lm si va he up lo pu pl gh gs bf b1 b2 b3 bu bl se r f (by first | omega | assumption) (by first | omega | assumption)) gX3_goesLeft_X3_numberAt rfl (by decide +kernel) (by decide) Fr.all (fun h9 => h9) rfl rfl rfl rfl (Nat.le_of_ble_eq_true rfl) ⟨Nat.zero_le _, Nat.zero_le _⟩ dX3_goesLeft_3 ?_
  refine Wk.istore (lv' := [(5, .int (nb (r * 4 + f))), (0, .ref (h 1)), (1, .int (nI r)), (2, .int (nI f)), (3, .int cv), (4, .int sd)]) X dX3_goesLeft_6 (by decide) rfl ?_
  refine Wk.iload X 0 rfl dX3_goesLeft_8 ?_
  refine Wk.sipush (v := -1001) X dX3_goesLeft_10 (by decide) ?_
  refine Wk.icmp_ne X 29 dX3_goesLeft_13 (by decide) (fun c1 => ?_) (fun c1 => ?_)
  · skip
    refine Wk.iload X 0 rfl dX3_goesLeft_29 ?_
    refine Wk.iload_n X 4 rfl dX3_goesLeft_31 rfl ?_
    refine Wk.icmp_gt X 39 dX3_goesLeft_32 (by decide) (fun c2 => ?_) (fun c2 => ?_)
    · skip
      refine Wk.iconst (v := nI 0) X dX3_goesLeft_39 (by decide) ?_
      exact Wk.zret X hr hk (by decide) (by simp [glC, bI, nI_0, nIc1, *]) rfl dX3_goesLeft_40
    · skip
      refine Wk.iconst (v := nI 1) X dX3_goesLeft_35 (by decide) ?_
      refine Wk.goto X 40 dX3_goesLeft_36 (by decide) ?_
      exact Wk.zret X hr hk (by decide) (by simp [glC, bI, nI_0, nIc1, *]) rfl dX3_goesLeft_40
  · skip
    refine Wk.iload X 5 rfl dX3_goesLeft_16 ?_
    refine Wk.if_ne X 25 dX3_goesLeft_18 (by decide) (fun c3 => ?_) (fun c3 => ?_)
    · skip
      refine Wk.iconst (v := nI 0) X dX3_goesLeft_25 (by decide) ?_
      refine Wk.goto X 40 dX3_goesLeft_26 (by decide) ?_
      exact Wk.zret X hr hk (by decide) (by simp [glC, bI, nI_0, nIc1, *]) rfl dX3_goesLeft_40
    · skip
      refine Wk.iconst (v := nI 1) X dX3_goesLeft_21 (by decide) ?_
      refine Wk.goto X 40 dX3_goesLeft_22 (by decide) ?_
      exact Wk.zret X hr hk (by decide) (by simp [glC, bI, nI_0, nIc1, *]) rfl dX3_goesLeft_40

set_option maxHeartbeats 4000000 in
set_option maxRecDepth 100000 in
theorem c_X3_rowOf (l : Launch) (dC : Nat → ClassId) (dI : Nat → Nat → Nat) (cI cJ cZ : ClassId) (h : Nat → Nat) (n : Nat) (li : Nat → Int32) (gr : Nat → Int32) (nb : Nat → Int32) (sc : Nat → Int64) (t : Nat) (ki : Nat → Int32) (fe : Nat → Int32) (lm : Nat → Int32) (si : Nat → Int32) (va : Nat → Int32) (he : Nat → Int32) (up : Nat → Int64) (lo : Nat → Int64) (pu : Nat → Int32) (pl : Nat → Int32) (gh : Nat) (gs : Int32) (bf : Bool) (b1 : Int32) (b2 : Int32) (b3 : Int32) (bu : Int64) (bl : Int64) (se : Nat → Int32) (x : Int32) : Ci l yX3_rowOf wsX3_rowOf 1 21 (dC, dI) cl6 (TY cI cJ cZ) false [.ref (h 1), .int x] (Wc h cI cJ cZ n li gr nb sc t ki fe lm si va he up lo pu pl gh gs bf b1 b2 b3 bu bl se) (rowC x n) (Wc h cI cJ cZ n li gr nb sc t ki fe lm si va he up lo pu pl gh gs bf b1 b2 b3 bu bl se) := by
  refine Ci.of (cc := cX3_rowOf) (maxL := 2) (ty := .int) (own := RX3) rfl (plainFor_of_name (by decide)) rfl (Nat.le_of_ble_eq_true rfl) ?_
  intro pg ev s0 md ar bw mt cd A X hr hk
  show Wk pg l ev _ s0 md ar bw mt cd 0 0 _ 2 (dC, dI) cl6 A 0 [(0, .ref (h 1)), (1, .int x)] [] (Wc h cI cJ cZ n li gr nb sc t ki fe lm si va he up lo pu pl gh gs bf b1 b2 b3 bu bl se)
  refine Wk.iload_n X 1 rfl dX3_rowOf_0 rfl ?_
  refine Wk.iconst (v := -1) X dX3_rowOf_1 (by decide) ?_
  refine Wk.icmp_ne X 8 dX3_rowOf_2 (by decide) (fun c1 => ?_) (fun c1 => ?_)
  · skip
    refine Wk.aload_n X 0 rfl dX3_rowOf_8 rfl ?_
    refine Wk.iload_n X 1 rfl dX3_rowOf_9 rfl ?_
    refine Wk.callVi (n := 1) (q0 := 1) X (c_X3_has l dC dI cI cJ cZ h n li gr nb sc t ki fe lm si va he up lo pu pl gh gs bf b1 b2 b3 bu bl se x) gX3_rowOf_X3_has rfl (by decide +kernel) (by decide) Fr.all (fun h9 => h9) rfl rfl rfl rfl (Nat.le_of_ble_eq_true rfl) ⟨Nat.zero_le _, Nat.zero_le _⟩ dX3_rowOf_10 ?_
    refine Wk.ifB_eq X 20 dX3_rowOf_13 (by decide) (fun c2 => ?_) (fun c2 => ?_)
    · skip
      refine Wk.iconst (v := -1) X dX3_rowOf_20 (by decide) ?_
      exact Wk.iret X hr hk (by simp [rowC, *]) rfl dX3_rowOf_21
    · skip
      refine Wk.iload_n X 1 rfl dX3_rowOf_16 rfl ?_
      refine Wk.goto X 21 dX3_rowOf_17 (by decide) ?_
      exact Wk.iret X hr hk (by simp [rowC, *]) rfl dX3_rowOf_21
  · skip
    refine Wk.bipush (v := nI 24) X dX3_rowOf_5 (by decide) ?_
    exact Wk.iret X hr hk (by simp [rowC, *]) rfl dX3_rowOf_7

set_option maxHeartbeats 4000000 in
set_option maxRecDepth 100000 in
theorem c_X3_replace (l : Launch) (dC : Nat → ClassId) (dI : Nat → Nat → Nat) (cI cJ cZ : ClassId) (h : Nat → Nat) (n : Nat) (li : Nat → Int32) (gr : Nat → Int32) (nb : Nat → Int32) (sc : Nat → Int64) (t : Nat) (ki : Nat → Int32) (fe : Nat → Int32) (lm : Nat → Int32) (si : Nat → Int32) (va : Nat → Int32) (he : Nat → Int32) (up : Nat → Int64) (lo : Nat → Int64) (pu : Nat → Int32) (pl : Nat → Int32) (gh : Nat) (gs : Int32) (bf : Bool) (b1 : Int32) (b2 : Int32) (b3 : Int32) (bu : Int64) (bl : Int64) (se : Nat → Int32) (r : Nat) (f : Nat) (v : Int32) (hr0 : r < 25) (hf0 : f < 4) : Ci l yX3_replace wsX3_replace 0 0 (dC, dI) cl6 (TY cI cJ cZ) false [.ref (h 1), .int (nI r), .int (nI f), .int v] (Wc h cI cJ cZ n li gr nb sc t ki fe lm si va he up lo pu pl gh gs bf b1 b2 b3 bu bl se) (nb (r * 4 + f)) (Wc h cI cJ cZ n li gr (upd nb (r * 4 + f) v) sc t ki fe lm si va he up lo pu pl gh gs bf b1 b2 b3 bu bl se) := by
  refine Ci.of (cc := cX3_replace) (maxL := 5) (ty := .int) (own := RX3) rfl (plainFor_of_name (by decide)) rfl (Nat.le_of_ble_eq_true rfl) ?_
  intro pg ev s0 md ar bw mt cd A X hr hk
  show Wk pg l ev _ s0 md ar bw mt cd 0 0 _ 5 (dC, dI) cl6 A 0 [(0, .ref (h 1)), (1, .int (nI r)), (2, .int (nI f)), (3, .int v)] [] (Wc h cI cJ cZ n li gr nb sc t ki fe lm si va he up lo pu pl gh gs bf b1 b2 b3 bu bl se)
  have inX3 : ∀ w ∈ u_ws RX3 TX3 5, w ∈ wsX3_replace := by decide +kernel
  have lk18 := X.w (.fieldLink RX3 18 "PairedTrees$Things" "numbers" "[I") (by decide +kernel)
  refine Wk.aload_n X 0 rfl dX3_replace_0 rfl ?_
  refine Wk.get X inX3 1 3 lk18 (fun _ h9 => h9) rfl rfl (by decide) rfl dX3_replace_1 ?_
  refine Wk.iload_n X 1 rfl dX3_replace_4 rfl ?_
  refine Wk.iconst (v := nI 4) X dX3_replace_5 (by decide) ?_
  refine Wk.imulN X dX3_replace_6 ?_
  refine Wk.iload_n X 2 rfl dX3_replace_7 rfl ?_
  refine Wk.iaddN X dX3_replace_8 ?_
  refine Wk.iald X 4 0 rfl rfl (by omega) (by decide) dX3_replace_9 ?_
  refine Wk.istore (lv' := [(4, .int (nb (r * 4 + f))), (0, .ref (h 1)), (1, .int (nI r)), (2, .int (nI f)), (3, .int v)]) X dX3_replace_10 (by decide) rfl ?_
  refine Wk.aload_n X 1 rfl dX3_replace_12 rfl ?_
  refine Wk.get X inX3 1 3 lk18 (fun _ h9 => h9) rfl rfl (by decide) rfl dX3_replace_13 ?_
  refine Wk.iload_n X 2 rfl dX3_replace_16 rfl ?_
  refine Wk.iconst (v := nI 4) X dX3_replace_17 (by decide) ?_
  refine Wk.imulN X dX3_replace_18 ?_
  refine Wk.iload_n X 3 rfl dX3_replace_19 rfl ?_
  refine Wk.iaddN X dX3_replace_20 ?_
  refine Wk.iload_n X 4 rfl dX3_replace_21 rfl ?_
  refine Wk.iast (ws' := Wc h cI cJ cZ n li gr (upd nb (r * 4 + f) v) sc t ki fe lm si va he up lo pu pl gh gs bf b1 b2 b3 bu bl se) X 4 0 rfl rfl (by omega) (by decide) rfl dX3_replace_22 ?_
  refine Wk.iload X 0 rfl dX3_replace_23 ?_
  exact Wk.iret X hr hk (by first | rfl | omega | (simp [*]; done)) rfl dX3_replace_25

set_option maxHeartbeats 4000000 in
set_option maxRecDepth 100000 in
theorem c_X3_arePair (l : Launch) (dC : Nat → ClassId) (dI : Nat → Nat → Nat) (cI cJ cZ : ClassId) (h : Nat → Nat) (n : Nat) (li : Nat → Int32) (gr : Nat → Int32) (nb : Nat → Int32) (sc : Nat → Int64) (t : Nat) (ki : Nat → Int32) (fe : Nat → Int32) (lm : Nat → Int32) (si : Nat → Int32) (va : Nat → Int32) (he : Nat → Int32) (up : Nat → Int64) (lo : Nat → Int64) (pu : Nat → Int32) (pl : Nat → Int32) (gh : Nat) (gs : Int32) (bf : Bool) (b1 : Int32) (b2 : Int32) (b3 : Int32) (bu : Int64) (bl : Int64) (se : Nat → Int32) (i : Nat) (j : Nat) (hi0 : i < 24) (hj0 : j < 24) : Ci l yX3_arePair wsX3_arePair 0 0 (dC, dI) cl6 (TY cI cJ cZ) false [.ref (h 1), .int (nI i), .int (nI j)] (Wc h cI cJ cZ n li gr nb sc t ki fe lm si va he up lo pu pl gh gs bf b1 b2 b3 bu bl se) (bI (pairB li gr i j)) (Wc h cI cJ cZ n li gr nb sc t ki fe lm si va he up lo pu pl gh gs bf b1 b2 b3 bu bl se) := by
  refine Ci.of (cc := cX3_arePair) (maxL := 3) (ty := .boolean) (own := RX3) rfl (plainFor_of_name (by decide)) rfl (Nat.le_of_ble_eq_true rfl) ?_
  intro pg ev s0 md ar bw mt cd A X hr hk
  show Wk pg l ev _ s0 md ar bw mt cd 0 0 _ 3 (dC, dI) cl6 A 0 [(0, .ref (h 1)), (1, .int (nI i)), (2, .int (nI j))] [] (Wc h cI cJ cZ n li gr nb sc t ki fe lm si va he up lo pu pl gh gs bf b1 b2 b3 bu bl se)
  have inX3 : ∀ w ∈ u_ws RX3 TX3 5, w ∈ wsX3_arePair := by decide +kernel
  have lk9 := X.w (.fieldLink RX3 9 "PairedTrees$Things" "lists" "[I") (by decide +kernel)
  have lk15 := X.w (.fieldLink RX3 15 "PairedTrees$Things" "grades" "[I") (by decide +kernel)
  refine Wk.aload_n X 0 rfl dX3_arePair_0 rfl ?_
  refine Wk.get X inX3 1 1 lk9 (fun _ h9 => h9) rfl rfl (by decide) rfl dX3_arePair_1 ?_
  refine Wk.iload_n X 1 rfl dX3_arePair_4 rfl ?_
  refine Wk.iald X 2 0 rfl rfl (by omega) (by decide) dX3_arePair_5 ?_
  refine Wk.aload_n X 0 rfl dX3_arePair_6 rfl ?_
  refine Wk.get X inX3 1 1 lk9 (fun _ h9 => h9) rfl rfl (by decide) rfl dX3_arePair_7 ?_
  refine Wk.iload_n X 2 rfl dX3_arePair_10 rfl ?_
  refine Wk.iald X 2 0 rfl rfl (by omega) (by decide) dX3_arePair_11 ?_
  refine Wk.icmp_ne X 34 dX3_arePair_12 (by decide) (fun c1 => ?_) (fun c1 => ?_)
  · skip
    refine Wk.iconst (v := nI 0) X dX3_arePair_34 (by decide) ?_
    exact Wk.zret X hr hk (by decide) (by simp [pairB, bI, nI_0, nIc1, *]) rfl dX3_arePair_35
  · skip
    refine Wk.aload_n X 0 rfl dX3_arePair_15 rfl ?_
    refine Wk.get X inX3 1 2 lk15 (fun _ h9 => h9) rfl rfl (by decide) rfl dX3_arePair_16 ?_
    refine Wk.iload_n X 1 rfl dX3_arePair_19 rfl ?_
    refine Wk.iald X 3 0 rfl rfl (by omega) (by decide) dX3_arePair_20 ?_
    refine Wk.aload_n X 0 rfl dX3_arePair_21 rfl ?_
    refine Wk.get X inX3 1 2 lk15 (fun _ h9 => h9) rfl rfl (by decide) rfl dX3_arePair_22 ?_
    refine Wk.iload_n X 2 rfl dX3_arePair_25 rfl ?_
    refine Wk.iald X 3 0 rfl rfl (by omega) (by decide) dX3_arePair_26 ?_
    refine Wk.icmp_le X 34 dX3_arePair_27 (by decide) (fun c2 => ?_) (fun c2 => ?_)
    · skip
      refine Wk.iconst (v := nI 0) X dX3_arePair_34 (by decide) ?_
      exact Wk.zret X hr hk (by decide) (by simp [pairB, bI, nI_0, nIc1, *]) rfl dX3_arePair_35
    · skip
      refine Wk.iconst (v := nI 1) X dX3_arePair_30 (by decide) ?_
      refine Wk.goto X 35 dX3_arePair_31 (by decide) ?_
      exact Wk.zret X hr hk (by decide) (by simp [pairB, bI, nI_0, nIc1, *]) rfl dX3_arePair_35

set_option maxHeartbeats 4000000 in
set_option maxRecDepth 100000 in
theorem c_X3_isAhead (l : Launch) (dC : Nat → ClassId) (dI : Nat → Nat → Nat) (cI cJ cZ : ClassId) (h : Nat → Nat) (n : Nat) (li : Nat → Int32) (gr : Nat → Int32) (nb : Nat → Int32) (sc : Nat → Int64) (t : Nat) (ki : Nat → Int32) (fe : Nat → Int32) (lm : Nat → Int32) (si : Nat → Int32) (va : Nat → Int32) (he : Nat → Int32) (up : Nat → Int64) (lo : Nat → Int64) (pu : Nat → Int32) (pl : Nat → Int32) (gh : Nat) (gs : Int32) (bf : Bool) (b1 : Int32) (b2 : Int32) (b3 : Int32) (bu : Int64) (bl : Int64) (se : Nat → Int32) (i : Nat) (j : Nat) (hi0 : i < 24) (hj0 : j < 24) : Ci l yX3_isAhead wsX3_isAhead 0 0 (dC, dI) cl6 (TY cI cJ cZ) false [.ref (h 1), .int (nI i), .int (nI j)] (Wc h cI cJ cZ n li gr nb sc t ki fe lm si va he up lo pu pl gh gs bf b1 b2 b3 bu bl se) (bI (ahB sc i j)) (Wc h cI cJ cZ n li gr nb sc t ki fe lm si va he up lo pu pl gh gs bf b1 b2 b3 bu bl se) := by
  refine Ci.of (cc := cX3_isAhead) (maxL := 3) (ty := .boolean) (own := RX3) rfl (plainFor_of_name (by decide)) rfl (Nat.le_of_ble_eq_true rfl) ?_
  intro pg ev s0 md ar bw mt cd A X hr hk
  show Wk pg l ev _ s0 md ar bw mt cd 0 0 _ 3 (dC, dI) cl6 A 0 [(0, .ref (h 1)), (1, .int (nI i)), (2, .int (nI j))] [] (Wc h cI cJ cZ n li gr nb sc t ki fe lm si va he up lo pu pl gh gs bf b1 b2 b3 bu bl se)
  have inX3 : ∀ w ∈ u_ws RX3 TX3 5, w ∈ wsX3_isAhead := by decide +kernel
  have lk21 := X.w (.fieldLink RX3 21 "PairedTrees$Things" "scores" "[J") (by decide +kernel)
  refine Wk.aload_n X 0 rfl dX3_isAhead_0 rfl ?_
  refine Wk.get X inX3 1 4 lk21 (fun _ h9 => h9) rfl rfl (by decide) rfl dX3_isAhead_1 ?_
  refine Wk.iload_n X 1 rfl dX3_isAhead_4 rfl ?_
  refine Wk.lald X 5 1 rfl rfl (by omega) (by decide) dX3_isAhead_5 ?_
  refine Wk.aload_n X 0 rfl dX3_isAhead_6 rfl ?_
  refine Wk.get X inX3 1 4 lk21 (fun _ h9 => h9) rfl rfl (by decide) rfl dX3_isAhead_7 ?_
  refine Wk.iload_n X 2 rfl dX3_isAhead_10 rfl ?_
  refine Wk.lald X 5 1 rfl rfl (by omega) (by decide) dX3_isAhead_11 ?_
  refine Wk.lcmp_eq X 38 dX3_isAhead_12 dX3_isAhead_13 (by decide) (fun c1 => ?_) (fun c1 => ?_)
  · skip
    refine Wk.iload_n X 1 rfl dX3_isAhead_38 rfl ?_
    refine Wk.iload_n X 2 rfl dX3_isAhead_39 rfl ?_
    refine Wk.icmpN_ge X 47 (by omega) (by omega) dX3_isAhead_40 (by decide) (fun c2 => ?_) (fun c2 => ?_)
    · skip
      refine Wk.iconst (v := nI 0) X dX3_isAhead_47 (by decide) ?_
      exact Wk.zret X hr hk (by decide) (by simp [ahB, bI, nI_0, nIc1, *]) rfl dX3_isAhead_48
    · skip
      refine Wk.iconst (v := nI 1) X dX3_isAhead_43 (by decide) ?_
      refine Wk.goto X 48 dX3_isAhead_44 (by decide) ?_
      exact Wk.zret X hr hk (by decide) (by simp [ahB, bI, nI_0, nIc1, *]) rfl dX3_isAhead_48
  · skip
    refine Wk.aload_n X 0 rfl dX3_isAhead_16 rfl ?_
    refine Wk.get X inX3 1 4 lk21 (fun _ h9 => h9) rfl rfl (by decide) rfl dX3_isAhead_17 ?_
    refine Wk.iload_n X 1 rfl dX3_isAhead_20 rfl ?_
    refine Wk.lald X 5 1 rfl rfl (by omega) (by decide) dX3_isAhead_21 ?_
    refine Wk.aload_n X 0 rfl dX3_isAhead_22 rfl ?_
    refine Wk.get X inX3 1 4 lk21 (fun _ h9 => h9) rfl rfl (by decide) rfl dX3_isAhead_23 ?_
    refine Wk.iload_n X 2 rfl dX3_isAhead_26 rfl ?_
    refine Wk.lald X 5 1 rfl rfl (by omega) (by decide) dX3_isAhead_27 ?_
    refine Wk.lcmp_le X 36 dX3_isAhead_28 dX3_isAhead_29 (by decide) (fun c3 => ?_) (fun c3 => ?_)
    · skip
      refine Wk.iconst (v := nI 0) X dX3_isAhead_36 (by decide) ?_
      exact Wk.zret X hr hk (by decide) (by simp [ahB, bI, nI_0, nIc1, *]) rfl dX3_isAhead_37
    · skip
      refine Wk.iconst (v := nI 1) X dX3_isAhead_32 (by decide) ?_
      refine Wk.goto X 37 dX3_isAhead_33 (by decide) ?_
      exact Wk.zret X hr hk (by decide) (by simp [ahB, bI, nI_0, nIc1, *]) rfl dX3_isAhead_37

set_option maxHeartbeats 4000000 in
set_option maxRecDepth 100000 in
theorem c_X3_pushOfPair (l : Launch) (dC : Nat → ClassId) (dI : Nat → Nat → Nat) (cI cJ cZ : ClassId) (h : Nat → Nat) (n : Nat) (li : Nat → Int32) (gr : Nat → Int32) (nb : Nat → Int32) (sc : Nat → Int64) (t : Nat) (ki : Nat → Int32) (fe : Nat → Int32) (lm : Nat → Int32) (si : Nat → Int32) (va : Nat → Int32) (he : Nat → Int32) (up : Nat → Int64) (lo : Nat → Int64) (pu : Nat → Int32) (pl : Nat → Int32) (gh : Nat) (gs : Int32) (bf : Bool) (b1 : Int32) (b2 : Int32) (b3 : Int32) (bu : Int64) (bl : Int64) (se : Nat → Int32) (i : Nat) (j : Nat) (mg : Int32) (hi0 : i < 24) (hj0 : j < 24) : Ci l yX3_pushOfPair wsX3_pushOfPair 1 22 (dC, dI) cl6 (TY cI cJ cZ) false [.ref (h 1), .int (nI i), .int (nI j), .int mg] (Wc h cI cJ cZ n li gr nb sc t ki fe lm si va he up lo pu pl gh gs bf b1 b2 b3 bu bl se) (ppC li gr sc mg i j) (Wc h cI cJ cZ n li gr nb sc t ki fe lm si va he up lo pu pl gh gs bf b1 b2 b3 bu bl se) := by
  refine Ci.of (cc := cX3_pushOfPair) (maxL := 4) (ty := .int) (own := RX3) rfl (plainFor_of_name (by decide)) rfl (Nat.le_of_ble_eq_true rfl) ?_
  intro pg ev s0 md ar bw mt cd A X hr hk
  show Wk pg l ev _ s0 md ar bw mt cd 0 0 _ 4 (dC, dI) cl6 A 0 [(0, .ref (h 1)), (1, .int (nI i)), (2, .int (nI j)), (3, .int mg)] [] (Wc h cI cJ cZ n li gr nb sc t ki fe lm si va he up lo pu pl gh gs bf b1 b2 b3 bu bl se)
  have inX3 : ∀ w ∈ u_ws RX3 TX3 5, w ∈ wsX3_pushOfPair := by decide +kernel
  have lk15 := X.w (.fieldLink RX3 15 "PairedTrees$Things" "grades" "[I") (by decide +kernel)
  have lk21 := X.w (.fieldLink RX3 21 "PairedTrees$Things" "scores" "[J") (by decide +kernel)
  refine Wk.aload_n X 0 rfl dX3_pushOfPair_0 rfl ?_
  refine Wk.iload_n X 1 rfl dX3_pushOfPair_1 rfl ?_
  refine Wk.iload_n X 2 rfl dX3_pushOfPair_2 rfl ?_
  refine Wk.callVi (n := 2) (q0 := 1) X (c_X3_arePair l dC dI cI cJ cZ h n li gr nb sc t ki fe lm si va he up lo pu pl gh gs bf b1 b2 b3 bu bl se i j (by first | omega | assumption) (by first | omega | assumption)) gX3_pushOfPair_X3_arePair rfl (by decide +kernel) (by decide) Fr.all (fun h9 => h9) rfl rfl rfl rfl (Nat.le_of_ble_eq_true rfl) ⟨Nat.zero_le _, Nat.zero_le _⟩ dX3_pushOfPair_3 ?_
  refine Wk.ifB_eq X 28 dX3_pushOfPair_6 (by decide) (fun c1 => ?_) (fun c1 => ?_)
  · skip
    refine Wk.iconst (v := nI 0) X dX3_pushOfPair_28 (by decide) ?_
    exact Wk.iret X hr hk (by simp [ppC, nI_0, *]) rfl dX3_pushOfPair_29
  · skip
    refine Wk.aload_n X 0 rfl dX3_pushOfPair_9 rfl ?_
    refine Wk.get X inX3 1 4 lk21 (fun _ h9 => h9) rfl rfl (by decide) rfl dX3_pushOfPair_10 ?_
    refine Wk.iload_n X 1 rfl dX3_pushOfPair_13 rfl ?_
    refine Wk.lald X 5 1 rfl rfl (by omega) (by decide) dX3_pushOfPair_14 ?_
    refine Wk.aload_n X 0 rfl dX3_pushOfPair_15 rfl ?_
    refine Wk.get X inX3 1 4 lk21 (fun _ h9 => h9) rfl rfl (by decide) rfl dX3_pushOfPair_16 ?_
    refine Wk.iload_n X 2 rfl dX3_pushOfPair_19 rfl ?_
    refine Wk.lald X 5 1 rfl rfl (by omega) (by decide) dX3_pushOfPair_20 ?_
    refine Wk.lsub X dX3_pushOfPair_21 ?_
    refine Wk.iload_n X 3 rfl dX3_pushOfPair_22 rfl ?_
    refine Wk.i2l X dX3_pushOfPair_23 ?_
    refine Wk.lcmp_lt X 30 dX3_pushOfPair_24 dX3_pushOfPair_25 (by decide) (fun c2 => ?_) (fun c2 => ?_)
    · skip
      refine Wk.aload_n X 0 rfl dX3_pushOfPair_30 rfl ?_
      refine Wk.get X inX3 1 2 lk15 (fun _ h9 => h9) rfl rfl (by decide) rfl dX3_pushOfPair_31 ?_
      refine Wk.iload_n X 1 rfl dX3_pushOfPair_34 rfl ?_
      refine Wk.iald X 3 0 rfl rfl (by omega) (by decide) dX3_pushOfPair_35 ?_
      refine Wk.aload_n X 0 rfl dX3_pushOfPair_36 rfl ?_
      refine Wk.get X inX3 1 2 lk15 (fun _ h9 => h9) rfl rfl (by decide) rfl dX3_pushOfPair_37 ?_
      refine Wk.iload_n X 2 rfl dX3_pushOfPair_40 rfl ?_
      refine Wk.iald X 3 0 rfl rfl (by omega) (by decide) dX3_pushOfPair_41 ?_
      refine Wk.isub X dX3_pushOfPair_42 ?_
      exact Wk.iret X hr hk (by simp [ppC, nI_0, *]) rfl dX3_pushOfPair_43
    · skip
      refine Wk.iconst (v := nI 0) X dX3_pushOfPair_28 (by decide) ?_
      exact Wk.iret X hr hk (by simp [ppC, nI_0, *]) rfl dX3_pushOfPair_29

set_option maxHeartbeats 4000000 in
set_option maxRecDepth 100000 in
theorem c_X3_pushOf (l : Launch) (dC : Nat → ClassId) (dI : Nat → Nat → Nat) (cI cJ cZ : ClassId) (h : Nat → Nat) (n : Nat) (li : Nat → Int32) (gr : Nat → Int32) (nb : Nat → Int32) (sc : Nat → Int64) (t : Nat) (ki : Nat → Int32) (fe : Nat → Int32) (lm : Nat → Int32) (si : Nat → Int32) (va : Nat → Int32) (he : Nat → Int32) (up : Nat → Int64) (lo : Nat → Int64) (pu : Nat → Int32) (pl : Nat → Int32) (gh : Nat) (gs : Int32) (bf : Bool) (b1 : Int32) (b2 : Int32) (b3 : Int32) (bu : Int64) (bl : Int64) (se : Nat → Int32) (i : Nat) (mg : Int32) (hi0 : i < 24) (hn0 : n ≤ 24) : Ci l yX3_pushOf wsX3_pushOf 2 45 (dC, dI) cl6 (TY cI cJ cZ) false [.ref (h 1), .int (nI i), .int mg] (Wc h cI cJ cZ n li gr nb sc t ki fe lm si va he up lo pu pl gh gs bf b1 b2 b3 bu bl se) (psC li gr sc mg i n) (Wc h cI cJ cZ n li gr nb sc t ki fe lm si va he up lo pu pl gh gs bf b1 b2 b3 bu bl se) := by
  refine Ci.of (cc := cX3_pushOf) (maxL := 5) (ty := .int) (own := RX3) rfl (plainFor_of_name (by decide)) rfl (Nat.le_of_ble_eq_true rfl) ?_
  intro pg ev s0 md ar bw mt cd A X hr hk
  show Wk pg l ev _ s0 md ar bw mt cd 0 0 _ 5 (dC, dI) cl6 A 0 [(0, .ref (h 1)), (1, .int (nI i)), (2, .int mg)] [] (Wc h cI cJ cZ n li gr nb sc t ki fe lm si va he up lo pu pl gh gs bf b1 b2 b3 bu bl se)
  have inX3 : ∀ w ∈ u_ws RX3 TX3 5, w ∈ wsX3_pushOf := by decide +kernel
  have lk25 := X.w (.fieldLink RX3 25 "PairedTrees$Things" "count" "I") (by decide +kernel)
  refine Wk.iconst (v := nI 0) X dX3_pushOf_0 (by decide) ?_
  refine Wk.istore_n (lv' := [(3, .int (nI 0)), (0, .ref (h 1)), (1, .int (nI i)), (2, .int mg)]) X dX3_pushOf_1 rfl (by decide) rfl ?_
  refine Wk.iconst (v := nI 0) X dX3_pushOf_2 (by decide) ?_
  refine Wk.istore (lv' := [(4, .int (nI 0)), (3, .int (nI 0)), (0, .ref (h 1)), (1, .int (nI i)), (2, .int mg)]) X dX3_pushOf_3 (by decide) rfl ?_
  have L5 : ∀ (fu5 : Nat) (j : Nat) (a : Int32) (hq : n + 1 ≤ j + fu5) (hj : j ≤ n) (ha : a = psC li gr sc mg i j), Wk pg l ev ({ frames := 2, cells := 0, slots := 0, locals := 45 } : Room) s0 md ar bw mt cd 0 0 (QRi bw ar s0 (dC, dI) cl6 (TY cI cJ cZ) A (psC li gr sc mg i n) (Wc h cI cJ cZ n li gr nb sc t ki fe lm si va he up lo pu pl gh gs bf b1 b2 b3 bu bl se)) 5 (dC, dI) cl6 A 5 [(0, .ref (h 1)), (1, .int (nI i)), (2, .int mg), (3, .int a), (4, .int (nI j))] [] (Wc h cI cJ cZ n li gr nb sc t ki fe lm si va he up lo pu pl gh gs bf b1 b2 b3 bu bl se) := by
    intro fu5
    induction fu5 with
    | zero => intro j a hq hj ha; exact absurd hq (by omega)
    | succ fu5 ih5 =>
      intro j a hq hj ha
      refine Wk.iload X 4 rfl dX3_pushOf_5 ?_
      refine Wk.aload_n X 0 rfl dX3_pushOf_7 rfl ?_
      refine Wk.get X inX3 1 0 lk25 (fun _ h9 => h9) rfl rfl (by decide) rfl dX3_pushOf_8 ?_
      refine Wk.icmpN_ge X 40 (by omega) (by omega) dX3_pushOf_11 (by decide) (fun c1 => ?_) (fun c1 => ?_)
      · skip
        refine Wk.iload_n X 3 rfl dX3_pushOf_40 rfl ?_
        exact Wk.iret X hr hk (by rw [ha, show j = n by omega]) rfl dX3_pushOf_41
      · skip
        refine Wk.iload_n X 3 rfl dX3_pushOf_14 rfl ?_
        refine Wk.aload_n X 0 rfl dX3_pushOf_15 rfl ?_
        refine Wk.iload_n X 1 rfl dX3_pushOf_16 rfl ?_
        refine Wk.iload X 4 rfl dX3_pushOf_17 ?_
        refine Wk.iload_n X 2 rfl dX3_pushOf_19 rfl ?_
        refine Wk.callVi (n := 3) (q0 := 1) X (c_X3_pushOfPair l dC dI cI cJ cZ h n li gr nb sc t ki fe lm si va he up lo pu pl gh gs bf b1 b2 b3 bu bl se i j mg (by first | omega | assumption) (by first | omega | assumption)) gX3_pushOf_X3_pushOfPair rfl (by decide +kernel) (by decide) Fr.all (fun h9 => h9) rfl rfl rfl rfl (Nat.le_of_ble_eq_true rfl) ⟨Nat.zero_le _, Nat.zero_le _⟩ dX3_pushOf_20 ?_
        refine Wk.aload_n X 0 rfl dX3_pushOf_23 rfl ?_
        refine Wk.iload X 4 rfl dX3_pushOf_24 ?_
        refine Wk.iload_n X 1 rfl dX3_pushOf_26 rfl ?_
        refine Wk.iload_n X 2 rfl dX3_pushOf_27 rfl ?_
        refine Wk.callVi (n := 3) (q0 := 1) X (c_X3_pushOfPair l dC dI cI cJ cZ h n li gr nb sc t ki fe lm si va he up lo pu pl gh gs bf b1 b2 b3 bu bl se j i mg (by first | omega | assumption) (by first | omega | assumption)) gX3_pushOf_X3_pushOfPair rfl (by decide +kernel) (by decide) Fr.all (fun h9 => h9) rfl rfl rfl rfl (Nat.le_of_ble_eq_true rfl) ⟨Nat.zero_le _, Nat.zero_le _⟩ dX3_pushOf_28 ?_
        refine Wk.isub X dX3_pushOf_31 ?_
        refine Wk.iadd X dX3_pushOf_32 ?_
        refine Wk.istore_n (lv' := [(3, .int (a + ((ppC li gr sc mg i j) - (ppC li gr sc mg j i)))), (0, .ref (h 1)), (1, .int (nI i)), (2, .int mg), (4, .int (nI j))]) X dX3_pushOf_33 rfl (by decide) rfl ?_
        refine Wk.iincN (n := 1) (lv' := [(4, .int (nI (j + 1))), (3, .int (a + ((ppC li gr sc mg i j) - (ppC li gr sc mg j i)))), (0, .ref (h 1)), (1, .int (nI i)), (2, .int mg)]) X 4 rfl dX3_pushOf_34 (by decide) rfl ?_
        refine Wk.goto X 5 dX3_pushOf_37 (by decide) ?_
        refine Wk.lvs (lv' := [(0, .ref (h 1)), (1, .int (nI i)), (2, .int mg), (3, .int (a + ((ppC li gr sc mg i j) - (ppC li gr sc mg j i)))), (4, .int (nI (j + 1)))]) [2, 3, 4, 1, 0] rfl ?_
        exact ih5 (j + 1) (a + ((ppC li gr sc mg i j) - (ppC li gr sc mg j i))) (by omega) (by omega) (by rw [ha]; rfl)
  refine Wk.lvs (lv' := [(0, .ref (h 1)), (1, .int (nI i)), (2, .int mg), (3, .int (nI 0)), (4, .int (nI 0))]) [2, 3, 4, 1, 0] rfl ?_
  exact L5 (n + 1) 0 (nI 0) (by omega) (by omega) (by simp [psC, nI_0])

set_option maxHeartbeats 4000000 in
set_option maxRecDepth 100000 in
theorem c_X3_countAhead (l : Launch) (dC : Nat → ClassId) (dI : Nat → Nat → Nat) (cI cJ cZ : ClassId) (h : Nat → Nat) (n : Nat) (li : Nat → Int32) (gr : Nat → Int32) (nb : Nat → Int32) (sc : Nat → Int64) (t : Nat) (ki : Nat → Int32) (fe : Nat → Int32) (lm : Nat → Int32) (si : Nat → Int32) (va : Nat → Int32) (he : Nat → Int32) (up : Nat → Int64) (lo : Nat → Int64) (pu : Nat → Int32) (pl : Nat → Int32) (gh : Nat) (gs : Int32) (bf : Bool) (b1 : Int32) (b2 : Int32) (b3 : Int32) (bu : Int64) (bl : Int64) (se : Nat → Int32) (i : Nat) (hi0 : i < 24) (hn0 : n ≤ 24) : Ci l yX3_countAhead wsX3_countAhead 1 22 (dC, dI) cl6 (TY cI cJ cZ) false [.ref (h 1), .int (nI i)] (Wc h cI cJ cZ n li gr nb sc t ki fe lm si va he up lo pu pl gh gs bf b1 b2 b3 bu bl se) (nI (ahC li sc i n)) (Wc h cI cJ cZ n li gr nb sc t ki fe lm si va he up lo pu pl gh gs bf b1 b2 b3 bu bl se) := by
  refine Ci.of (cc := cX3_countAhead) (maxL := 4) (ty := .int) (own := RX3) rfl (plainFor_of_name (by decide)) rfl (Nat.le_of_ble_eq_true rfl) ?_
  intro pg ev s0 md ar bw mt cd A X hr hk
  show Wk pg l ev _ s0 md ar bw mt cd 0 0 _ 4 (dC, dI) cl6 A 0 [(0, .ref (h 1)), (1, .int (nI i))] [] (Wc h cI cJ cZ n li gr nb sc t ki fe lm si va he up lo pu pl gh gs bf b1 b2 b3 bu bl se)
  have inX3 : ∀ w ∈ u_ws RX3 TX3 5, w ∈ wsX3_countAhead := by decide +kernel
  have lk9 := X.w (.fieldLink RX3 9 "PairedTrees$Things" "lists" "[I") (by decide +kernel)
  have lk25 := X.w (.fieldLink RX3 25 "PairedTrees$Things" "count" "I") (by decide +kernel)
  refine Wk.iconst (v := nI 0) X dX3_countAhead_0 (by decide) ?_
  refine Wk.istore_n (lv' := [(2, .int (nI 0)), (0, .ref (h 1)), (1, .int (nI i))]) X dX3_countAhead_1 rfl (by decide) rfl ?_
  refine Wk.iconst (v := nI 0) X dX3_countAhead_2 (by decide) ?_
  refine Wk.istore_n (lv' := [(3, .int (nI 0)), (2, .int (nI 0)), (0, .ref (h 1)), (1, .int (nI i))]) X dX3_countAhead_3 rfl (by decide) rfl ?_
  have L4 : ∀ (fu4 : Nat) (j : Nat) (a : Nat) (hq : n + 1 ≤ j + fu4) (hj : j ≤ n) (ha : a = ahC li sc i j), Wk pg l ev ({ frames := 1, cells := 0, slots := 0, locals := 22 } : Room) s0 md ar bw mt cd 0 0 (QRi bw ar s0 (dC, dI) cl6 (TY cI cJ cZ) A (nI (ahC li sc i n)) (Wc h cI cJ cZ n li gr nb sc t ki fe lm si va he up lo pu pl gh gs bf b1 b2 b3 bu bl se)) 4 (dC, dI) cl6 A 4 [(0, .ref (h 1)), (1, .int (nI i)), (2, .int (nI a)), (3, .int (nI j))] [] (Wc h cI cJ cZ n li gr nb sc t ki fe lm si va he up lo pu pl gh gs bf b1 b2 b3 bu bl se) := by
    intro fu4
    induction fu4 with
    | zero => intro j a hq hj ha; exact absurd hq (by omega)
    | succ fu4 ih4 =>
      intro j a hq hj ha
      refine Wk.iload_n X 3 rfl dX3_countAhead_4 rfl ?_
      refine Wk.aload_n X 0 rfl dX3_countAhead_5 rfl ?_
      refine Wk.get X inX3 1 0 lk25 (fun _ h9 => h9) rfl rfl (by decide) rfl dX3_countAhead_6 ?_
      refine Wk.icmpN_ge X 45 (by omega) (by omega) dX3_countAhead_9 (by decide) (fun c1 => ?_) (fun c1 => ?_)
      · skip
        refine Wk.iload_n X 2 rfl dX3_countAhead_45 rfl ?_
        exact Wk.iret X hr hk (by rw [ha, show j = n by omega]) rfl dX3_countAhead_46
      · skip
        refine Wk.aload_n X 0 rfl dX3_countAhead_12 rfl ?_
        refine Wk.get X inX3 1 1 lk9 (fun _ h9 => h9) rfl rfl (by decide) rfl dX3_countAhead_13 ?_
        refine Wk.iload_n X 3 rfl dX3_countAhead_16 rfl ?_
        refine Wk.iald X 2 0 rfl rfl (by omega) (by decide) dX3_countAhead_17 ?_
        refine Wk.aload_n X 0 rfl dX3_countAhead_18 rfl ?_
        refine Wk.get X inX3 1 1 lk9 (fun _ h9 => h9) rfl rfl (by decide) rfl dX3_countAhead_19 ?_
        refine Wk.iload_n X 1 rfl dX3_countAhead_22 rfl ?_
        refine Wk.iald X 2 0 rfl rfl (by omega) (by decide) dX3_countAhead_23 ?_
        refine Wk.icmp_ne X 39 dX3_countAhead_24 (by decide) (fun c2 => ?_) (fun c2 => ?_)
        · skip
          refine Wk.iincN (n := 1) (lv' := [(3, .int (nI (j + 1))), (0, .ref (h 1)), (1, .int (nI i)), (2, .int (nI a))]) X 3 rfl dX3_countAhead_39 (by decide) rfl ?_
          refine Wk.goto X 4 dX3_countAhead_42 (by decide) ?_
          refine Wk.lvs (lv' := [(0, .ref (h 1)), (1, .int (nI i)), (2, .int (nI a)), (3, .int (nI (j + 1)))]) [1, 2, 3, 0] rfl ?_
          exact ih4 (j + 1) a (by omega) (by omega) (by simp [ahC, *])
        · skip
          refine Wk.aload_n X 0 rfl dX3_countAhead_27 rfl ?_
          refine Wk.iload_n X 3 rfl dX3_countAhead_28 rfl ?_
          refine Wk.iload_n X 1 rfl dX3_countAhead_29 rfl ?_
          refine Wk.callVi (n := 2) (q0 := 1) X (c_X3_isAhead l dC dI cI cJ cZ h n li gr nb sc t ki fe lm si va he up lo pu pl gh gs bf b1 b2 b3 bu bl se j i (by first | omega | assumption) (by first | omega | assumption)) gX3_countAhead_X3_isAhead rfl (by decide +kernel) (by decide) Fr.all (fun h9 => h9) rfl rfl rfl rfl (Nat.le_of_ble_eq_true rfl) ⟨Nat.zero_le _, Nat.zero_le _⟩ dX3_countAhead_30 ?_
          refine Wk.ifB_eq X 39 dX3_countAhead_33 (by decide) (fun c3 => ?_) (fun c3 => ?_)
          · skip
            refine Wk.iincN (n := 1) (lv' := [(3, .int (nI (j + 1))), (0, .ref (h 1)), (1, .int (nI i)), (2, .int (nI a))]) X 3 rfl dX3_countAhead_39 (by decide) rfl ?_
            refine Wk.goto X 4 dX3_countAhead_42 (by decide) ?_
            refine Wk.lvs (lv' := [(0, .ref (h 1)), (1, .int (nI i)), (2, .int (nI a)), (3, .int (nI (j + 1)))]) [1, 2, 3, 0] rfl ?_
            exact ih4 (j + 1) a (by omega) (by omega) (by simp [ahC, *])
          · skip
            refine Wk.iincN (n := 1) (lv' := [(2, .int (nI (a + 1))), (0, .ref (h 1)), (1, .int (nI i)), (3, .int (nI j))]) X 2 rfl dX3_countAhead_36 (by decide) rfl ?_
            refine Wk.iincN (n := 1) (lv' := [(3, .int (nI (j + 1))), (2, .int (nI (a + 1))), (0, .ref (h 1)), (1, .int (nI i))]) X 3 rfl dX3_countAhead_39 (by decide) rfl ?_
            refine Wk.goto X 4 dX3_countAhead_42 (by decide) ?_
            refine Wk.lvs (lv' := [(0, .ref (h 1)), (1, .int (nI i)), (2, .int (nI (a + 1))), (3, .int (nI (j + 1)))]) [2, 3, 1, 0] rfl ?_
            exact ih4 (j + 1) (a + 1) (by omega) (by omega) (by simp [ahC, *])
  refine Wk.lvs (lv' := [(0, .ref (h 1)), (1, .int (nI i)), (2, .int (nI 0)), (3, .int (nI 0))]) [2, 3, 1, 0] rfl ?_
  exact L4 (n + 1) 0 0 (by omega) (by omega) (by rfl)

set_option maxHeartbeats 4000000 in
set_option maxRecDepth 100000 in
theorem c_X3_countPairs (l : Launch) (dC : Nat → ClassId) (dI : Nat → Nat → Nat) (cI cJ cZ : ClassId) (h : Nat → Nat) (n : Nat) (li : Nat → Int32) (gr : Nat → Int32) (nb : Nat → Int32) (sc : Nat → Int64) (t : Nat) (ki : Nat → Int32) (fe : Nat → Int32) (lm : Nat → Int32) (si : Nat → Int32) (va : Nat → Int32) (he : Nat → Int32) (up : Nat → Int64) (lo : Nat → Int64) (pu : Nat → Int32) (pl : Nat → Int32) (gh : Nat) (gs : Int32) (bf : Bool) (b1 : Int32) (b2 : Int32) (b3 : Int32) (bu : Int64) (bl : Int64) (se : Nat → Int32) (ls : Int32) (ow : Bool) (hn0 : n ≤ 24) : Ci l yX3_countPairs wsX3_countPairs 1 22 (dC, dI) cl6 (TY cI cJ cZ) false [.ref (h 1), .int ls, .int (bI ow)] (Wc h cI cJ cZ n li gr nb sc t ki fe lm si va he up lo pu pl gh gs bf b1 b2 b3 bu bl se) (nI (cpO li gr sc ls ow n n)) (Wc h cI cJ cZ n li gr nb sc t ki fe lm si va he up lo pu pl gh gs bf b1 b2 b3 bu bl se) := by
  refine Ci.of (cc := cX3_countPairs) (maxL := 8) (ty := .int) (own := RX3) rfl (plainFor_of_name (by decide)) rfl (Nat.le_of_ble_eq_true rfl) ?_
  intro pg ev s0 md ar bw mt cd A X hr hk
  show Wk pg l ev _ s0 md ar bw mt cd 0 0 _ 8 (dC, dI) cl6 A 0 [(0, .ref (h 1)), (1, .int ls), (2, .int (bI ow))] [] (Wc h cI cJ cZ n li gr nb sc t ki fe lm si va he up lo pu pl gh gs bf b1 b2 b3 bu bl se)
  have inX3 : ∀ w ∈ u_ws RX3 TX3 5, w ∈ wsX3_countPairs := by decide +kernel
  have lk9 := X.w (.fieldLink RX3 9 "PairedTrees$Things" "lists" "[I") (by decide +kernel)
  have lk21 := X.w (.fieldLink RX3 21 "PairedTrees$Things" "scores" "[J") (by decide +kernel)
  have lk25 := X.w (.fieldLink RX3 25 "PairedTrees$Things" "count" "I") (by decide +kernel)
  refine Wk.iconst (v := nI 0) X dX3_countPairs_0 (by decide) ?_
  refine Wk.istore_n (lv' := [(3, .int (nI 0)), (0, .ref (h 1)), (1, .int ls), (2, .int (bI ow))]) X dX3_countPairs_1 rfl (by decide) rfl ?_
  refine Wk.iconst (v := nI 0) X dX3_countPairs_2 (by decide) ?_
  refine Wk.istore (lv' := [(4, .int (nI 0)), (3, .int (nI 0)), (0, .ref (h 1)), (1, .int ls), (2, .int (bI ow))]) X dX3_countPairs_3 (by decide) rfl ?_
  have L5 : ∀ (fu5 : Nat) (i : Nat) (a : Nat) (hq : n + 1 ≤ i + fu5) (hi : i ≤ n) (ha : a = cpO li gr sc ls ow n i), Wk pg l ev ({ frames := 1, cells := 0, slots := 0, locals := 22 } : Room) s0 md ar bw mt cd 0 0 (QRi bw ar s0 (dC, dI) cl6 (TY cI cJ cZ) A (nI (cpO li gr sc ls ow n n)) (Wc h cI cJ cZ n li gr nb sc t ki fe lm si va he up lo pu pl gh gs bf b1 b2 b3 bu bl se)) 8 (dC, dI) cl6 A 5 [(0, .ref (h 1)), (1, .int ls), (2, .int (bI ow)), (3, .int (nI a)), (4, .int (nI i))] [] (Wc h cI cJ cZ n li gr nb sc t ki fe lm si va he up lo pu pl gh gs bf b1 b2 b3 bu bl se) := by
    intro fu5
    induction fu5 with
    | zero => intro i a hq hi ha; exact absurd hq (by omega)
    | succ fu5 ih5 =>
      intro i a hq hi ha
      refine Wk.iload X 4 rfl dX3_countPairs_5 ?_
      refine Wk.aload_n X 0 rfl dX3_countPairs_7 rfl ?_
      refine Wk.get X inX3 1 0 lk25 (fun _ h9 => h9) rfl rfl (by decide) rfl dX3_countPairs_8 ?_
      refine Wk.icmpN_ge X 114 (by omega) (by omega) dX3_countPairs_11 (by decide) (fun c1 => ?_) (fun c1 => ?_)
      · skip
        refine Wk.iload_n X 3 rfl dX3_countPairs_114 rfl ?_
        exact Wk.iret X hr hk (by rw [ha, show i = n by omega]) rfl dX3_countPairs_115
      · skip
        refine Wk.iconst (v := nI 0) X dX3_countPairs_14 (by decide) ?_
        refine Wk.istore (lv' := [(5, .int (nI 0)), (0, .ref (h 1)), (1, .int ls), (2, .int (bI ow)), (3, .int (nI a)), (4, .int (nI i))]) X dX3_countPairs_15 (by decide) rfl ?_
        have L17 : ∀ (fu17 : Nat) (j : Nat) (b : Nat) (hq2 : n + 1 ≤ j + fu17) (hj : j ≤ n) (hb : b = a + cpI li gr sc ls ow i j), Wk pg l ev ({ frames := 1, cells := 0, slots := 0, locals := 22 } : Room) s0 md ar bw mt cd 0 0 (QRi bw ar s0 (dC, dI) cl6 (TY cI cJ cZ) A (nI (cpO li gr sc ls ow n n)) (Wc h cI cJ cZ n li gr nb sc t ki fe lm si va he up lo pu pl gh gs bf b1 b2 b3 bu bl se)) 8 (dC, dI) cl6 A 17 [(0, .ref (h 1)), (1, .int ls), (2, .int (bI ow)), (3, .int (nI b)), (4, .int (nI i)), (5, .int (nI j))] [] (Wc h cI cJ cZ n li gr nb sc t ki fe lm si va he up lo pu pl gh gs bf b1 b2 b3 bu bl se) := by
          intro fu17
          induction fu17 with
          | zero => intro j b hq2 hj hb; exact absurd hq2 (by omega)
          | succ fu17 ih17 =>
            intro j b hq2 hj hb
            refine Wk.iload X 5 rfl dX3_countPairs_17 ?_
            refine Wk.aload_n X 0 rfl dX3_countPairs_19 rfl ?_
            refine Wk.get X inX3 1 0 lk25 (fun _ h9 => h9) rfl rfl (by decide) rfl dX3_countPairs_20 ?_
            refine Wk.icmpN_ge X 108 (by omega) (by omega) dX3_countPairs_23 (by decide) (fun c2 => ?_) (fun c2 => ?_)
            · skip
              refine Wk.iincN (n := 1) (lv' := [(4, .int (nI (i + 1))), (0, .ref (h 1)), (1, .int ls), (2, .int (bI ow)), (3, .int (nI b)), (5, .int (nI j))]) X 4 rfl dX3_countPairs_108 (by decide) rfl ?_
              refine Wk.goto X 5 dX3_countPairs_111 (by decide) ?_
              refine Wk.lvs (lv' := [(0, .ref (h 1)), (1, .int ls), (2, .int (bI ow)), (3, .int (nI b)), (4, .int (nI (i + 1)))]) [1, 2, 3, 4, 0] rfl ?_
              exact ih5 (i + 1) b (by omega) (by omega) (by rw [hb, show j = n by omega, ha]; rfl)
            · skip
              have J47 : Wk pg l ev ({ frames := 1, cells := 0, slots := 0, locals := 22 } : Room) s0 md ar bw mt cd 0 0 (QRi bw ar s0 (dC, dI) cl6 (TY cI cJ cZ) A (nI (cpO li gr sc ls ow n n)) (Wc h cI cJ cZ n li gr nb sc t ki fe lm si va he up lo pu pl gh gs bf b1 b2 b3 bu bl se)) 8 (dC, dI) cl6 A 47 [(0, .ref (h 1)), (1, .int ls), (2, .int (bI ow)), (3, .int (nI b)), (4, .int (nI i)), (5, .int (nI j))] [.int (bI (decide (ls = -1 ∨ li i = ls)))] (Wc h cI cJ cZ n li gr nb sc t ki fe lm si va he up lo pu pl gh gs bf b1 b2 b3 bu bl se) := by
                refine Wk.istore (lv' := [(6, .int (bI (decide (ls = -1 ∨ li i = ls)))), (0, .ref (h 1)), (1, .int ls), (2, .int (bI ow)), (3, .int (nI b)), (4, .int (nI i)), (5, .int (nI j))]) X dX3_countPairs_47 (by decide) rfl ?_
                have J72 : Wk pg l ev ({ frames := 1, cells := 0, slots := 0, locals := 22 } : Room) s0 md ar bw mt cd 0 0 (QRi bw ar s0 (dC, dI) cl6 (TY cI cJ cZ) A (nI (cpO li gr sc ls ow n n)) (Wc h cI cJ cZ n li gr nb sc t ki fe lm si va he up lo pu pl gh gs bf b1 b2 b3 bu bl se)) 8 (dC, dI) cl6 A 72 [(6, .int (bI (decide (ls = -1 ∨ li i = ls)))), (0, .ref (h 1)), (1, .int ls), (2, .int (bI ow)), (3, .int (nI b)), (4, .int (nI i)), (5, .int (nI j))] [.int (bI (decide (sc i ≤ sc j)))] (Wc h cI cJ cZ n li gr nb sc t ki fe lm si va he up lo pu pl gh gs bf b1 b2 b3 bu bl se) := by
                  refine Wk.istore (lv' := [(7, .int (bI (decide (sc i ≤ sc j)))), (6, .int (bI (decide (ls = -1 ∨ li i = ls)))), (0, .ref (h 1)), (1, .int ls), (2, .int (bI ow)), (3, .int (nI b)), (4, .int (nI i)), (5, .int (nI j))]) X dX3_countPairs_72 (by decide) rfl ?_
                  refine Wk.iload X 1 rfl dX3_countPairs_74 ?_
                  refine Wk.ifB_eq X 102 dX3_countPairs_76 (by decide) (fun c3 => ?_) (fun c3 => ?_)
                  · skip
                    replace c3 := of_decide_eq_false c3
                    refine Wk.iincN (n := 1) (lv' := [(5, .int (nI (j + 1))), (7, .int (bI (decide (sc i ≤ sc j)))), (6, .int (bI (decide (ls = -1 ∨ li i = ls)))), (0, .ref (h 1)), (1, .int ls), (2, .int (bI ow)), (3, .int (nI b)), (4, .int (nI i))]) X 7 rfl dX3_countPairs_102 (by decide) rfl ?_
                    refine Wk.goto X 17 dX3_countPairs_105 (by decide) ?_
                    refine Wk.lvs (lv' := [(0, .ref (h 1)), (1, .int ls), (2, .int (bI ow)), (3, .int (nI b)), (4, .int (nI i)), (5, .int (nI (j + 1)))]) [3, 4, 5, 6, 7, 0] rfl ?_
                    exact ih17 (j + 1) b (by omega) (by omega) (by simp [cpI, cpB, *] <;> omega)
                  · skip
                    replace c3 := of_decide_eq_true c3
                    refine Wk.aload_n X 2 rfl dX3_countPairs_79 rfl ?_
                    refine Wk.iload X 6 rfl dX3_countPairs_80 ?_
                    refine Wk.iload X 7 rfl dX3_countPairs_82 ?_
                    refine Wk.callVi (n := 2) (q0 := 1) X (c_X3_arePair l dC dI cI cJ cZ h n li gr nb sc t ki fe lm si va he up lo pu pl gh gs bf b1 b2 b3 bu bl se i j (by first | omega | assumption) (by first | omega | assumption)) gX3_countPairs_X3_arePair rfl (by decide +kernel) (by decide) Fr.all (fun h9 => h9) rfl rfl rfl rfl (Nat.le_of_ble_eq_true rfl) ⟨Nat.zero_le _, Nat.zero_le _⟩ dX3_countPairs_84 ?_
                    refine Wk.ifB_eq X 102 dX3_countPairs_87 (by decide) (fun c4 => ?_) (fun c4 => ?_)
                    · skip
                      refine Wk.iincN (n := 1) (lv' := [(5, .int (nI (j + 1))), (7, .int (bI (decide (sc i ≤ sc j)))), (6, .int (bI (decide (ls = -1 ∨ li i = ls)))), (0, .ref (h 1)), (1, .int ls), (2, .int (bI ow)), (3, .int (nI b)), (4, .int (nI i))]) X 7 rfl dX3_countPairs_102 (by decide) rfl ?_
                      refine Wk.goto X 17 dX3_countPairs_105 (by decide) ?_
                      refine Wk.lvs (lv' := [(0, .ref (h 1)), (1, .int ls), (2, .int (bI ow)), (3, .int (nI b)), (4, .int (nI i)), (5, .int (nI (j + 1)))]) [3, 4, 5, 6, 7, 0] rfl ?_
                      exact ih17 (j + 1) b (by omega) (by omega) (by simp [cpI, cpB, *] <;> omega)
                    · skip
                      refine Wk.iload X 0 rfl dX3_countPairs_90 ?_
                      refine Wk.ifB_ne X 99 dX3_countPairs_92 (by decide) (fun c5 => ?_) (fun c5 => ?_)
                      · skip
                        replace c5 := of_decide_eq_true c5
                        refine Wk.iincN (n := 1) (lv' := [(3, .int (nI (b + 1))), (7, .int (bI (decide (sc i ≤ sc j)))), (6, .int (bI (decide (ls = -1 ∨ li i = ls)))), (0, .ref (h 1)), (1, .int ls), (2, .int (bI ow)), (4, .int (nI i)), (5, .int (nI j))]) X 5 rfl dX3_countPairs_99 (by decide) rfl ?_
                        refine Wk.iincN (n := 1) (lv' := [(5, .int (nI (j + 1))), (3, .int (nI (b + 1))), (7, .int (bI (decide (sc i ≤ sc j)))), (6, .int (bI (decide (ls = -1 ∨ li i = ls)))), (0, .ref (h 1)), (1, .int ls), (2, .int (bI ow)), (4, .int (nI i))]) X 7 rfl dX3_countPairs_102 (by decide) rfl ?_
                        refine Wk.goto X 17 dX3_countPairs_105 (by decide) ?_
                        refine Wk.lvs (lv' := [(0, .ref (h 1)), (1, .int ls), (2, .int (bI ow)), (3, .int (nI (b + 1))), (4, .int (nI i)), (5, .int (nI (j + 1)))]) [4, 5, 6, 1, 7, 0] rfl ?_
                        exact ih17 (j + 1) (b + 1) (by omega) (by omega) (by simp [cpI, cpB, *] <;> omega)
                      · skip
                        replace c5 := of_decide_eq_false c5
                        refine Wk.iload_n X 4 rfl dX3_countPairs_95 rfl ?_
                        refine Wk.ifB_ne X 102 dX3_countPairs_96 (by decide) (fun c6 => ?_) (fun c6 => ?_)
                        · skip
                          refine Wk.iincN (n := 1) (lv' := [(5, .int (nI (j + 1))), (7, .int (bI (decide (sc i ≤ sc j)))), (6, .int (bI (decide (ls = -1 ∨ li i = ls)))), (0, .ref (h 1)), (1, .int ls), (2, .int (bI ow)), (3, .int (nI b)), (4, .int (nI i))]) X 7 rfl dX3_countPairs_102 (by decide) rfl ?_
                          refine Wk.goto X 17 dX3_countPairs_105 (by decide) ?_
                          refine Wk.lvs (lv' := [(0, .ref (h 1)), (1, .int ls), (2, .int (bI ow)), (3, .int (nI b)), (4, .int (nI i)), (5, .int (nI (j + 1)))]) [3, 4, 5, 6, 7, 0] rfl ?_
                          exact ih17 (j + 1) b (by omega) (by omega) (by simp [cpI, cpB, *] <;> omega)
                        · skip
                          refine Wk.iincN (n := 1) (lv' := [(3, .int (nI (b + 1))), (7, .int (bI (decide (sc i ≤ sc j)))), (6, .int (bI (decide (ls = -1 ∨ li i = ls)))), (0, .ref (h 1)), (1, .int ls), (2, .int (bI ow)), (4, .int (nI i)), (5, .int (nI j))]) X 5 rfl dX3_countPairs_99 (by decide) rfl ?_
                          refine Wk.iincN (n := 1) (lv' := [(5, .int (nI (j + 1))), (3, .int (nI (b + 1))), (7, .int (bI (decide (sc i ≤ sc j)))), (6, .int (bI (decide (ls = -1 ∨ li i = ls)))), (0, .ref (h 1)), (1, .int ls), (2, .int (bI ow)), (4, .int (nI i))]) X 7 rfl dX3_countPairs_102 (by decide) rfl ?_
                          refine Wk.goto X 17 dX3_countPairs_105 (by decide) ?_
                          refine Wk.lvs (lv' := [(0, .ref (h 1)), (1, .int ls), (2, .int (bI ow)), (3, .int (nI (b + 1))), (4, .int (nI i)), (5, .int (nI (j + 1)))]) [4, 5, 6, 1, 7, 0] rfl ?_
                          exact ih17 (j + 1) (b + 1) (by omega) (by omega) (by simp [cpI, cpB, *] <;> omega)
                refine Wk.aload_n X 1 rfl dX3_countPairs_49 rfl ?_
                refine Wk.get X inX3 1 4 lk21 (fun _ h9 => h9) rfl rfl (by decide) rfl dX3_countPairs_50 ?_
                refine Wk.iload X 5 rfl dX3_countPairs_53 ?_
                refine Wk.lald X 5 1 rfl rfl (by omega) (by decide) dX3_countPairs_55 ?_
                refine Wk.aload_n X 1 rfl dX3_countPairs_56 rfl ?_
                refine Wk.get X inX3 1 4 lk21 (fun _ h9 => h9) rfl rfl (by decide) rfl dX3_countPairs_57 ?_
                refine Wk.iload X 6 rfl dX3_countPairs_60 ?_
                refine Wk.lald X 5 1 rfl rfl (by omega) (by decide) dX3_countPairs_62 ?_
                refine Wk.lcmp_gt X 71 dX3_countPairs_63 dX3_countPairs_64 (by decide) (fun c7 => ?_) (fun c7 => ?_)
                · skip
                  refine Wk.iconst (v := nI 0) X dX3_countPairs_71 (by decide) ?_
                  refine Wk.topi (y := bI (decide (sc i ≤ sc j))) (by simp [bI, nI_0, nIc1, *]) ?_
                  exact J72
                · skip
                  refine Wk.iconst (v := nI 1) X dX3_countPairs_67 (by decide) ?_
                  refine Wk.goto X 72 dX3_countPairs_68 (by decide) ?_
                  refine Wk.topi (y := bI (decide (sc i ≤ sc j))) (by simp [bI, nI_0, nIc1, *]) ?_
                  exact J72
              refine Wk.iload_n X 1 rfl dX3_countPairs_26 rfl ?_
              refine Wk.iconst (v := -1) X dX3_countPairs_27 (by decide) ?_
              refine Wk.icmp_eq X 42 dX3_countPairs_28 (by decide) (fun c8 => ?_) (fun c8 => ?_)
              · skip
                refine Wk.iconst (v := nI 1) X dX3_countPairs_42 (by decide) ?_
                refine Wk.goto X 47 dX3_countPairs_43 (by decide) ?_
                refine Wk.topi (y := bI (decide (ls = -1 ∨ li i = ls))) (by simp [bI, nI_0, nIc1, *]) ?_
                exact J47
              · skip
                refine Wk.aload_n X 0 rfl dX3_countPairs_31 rfl ?_
                refine Wk.get X inX3 1 1 lk9 (fun _ h9 => h9) rfl rfl (by decide) rfl dX3_countPairs_32 ?_
                refine Wk.iload X 4 rfl dX3_countPairs_35 ?_
                refine Wk.iald X 2 0 rfl rfl (by omega) (by decide) dX3_countPairs_37 ?_
                refine Wk.iload_n X 1 rfl dX3_countPairs_38 rfl ?_
                refine Wk.icmp_ne X 46 dX3_countPairs_39 (by decide) (fun c9 => ?_) (fun c9 => ?_)
                · skip
                  refine Wk.iconst (v := nI 0) X dX3_countPairs_46 (by decide) ?_
                  refine Wk.topi (y := bI (decide (ls = -1 ∨ li i = ls))) (by simp [bI, nI_0, nIc1, *]) ?_
                  exact J47
                · skip
                  refine Wk.iconst (v := nI 1) X dX3_countPairs_42 (by decide) ?_
                  refine Wk.goto X 47 dX3_countPairs_43 (by decide) ?_
                  refine Wk.topi (y := bI (decide (ls = -1 ∨ li i = ls))) (by simp [bI, nI_0, nIc1, *]) ?_
                  exact J47
        refine Wk.lvs (lv' := [(0, .ref (h 1)), (1, .int ls), (2, .int (bI ow)), (3, .int (nI a)), (4, .int (nI i)), (5, .int (nI 0))]) [1, 2, 3, 4, 5, 0] rfl ?_
        exact L17 (n + 1) 0 a (by omega) (by omega) (by rfl)
  refine Wk.lvs (lv' := [(0, .ref (h 1)), (1, .int ls), (2, .int (bI ow)), (3, .int (nI 0)), (4, .int (nI 0))]) [2, 3, 4, 1, 0] rfl ?_
  exact L5 (n + 1) 0 0 (by omega) (by omega) (by rfl)

set_option maxHeartbeats 4000000 in
set_option maxRecDepth 100000 in
theorem c_J7_rangeCheck_23922 (l : Launch) (dC : Nat → ClassId) (dI : Nat → Nat → Nat) (cI cJ cZ : ClassId) (z : Nat) (a : Nat) (b : Nat) (h1 : a ≤ b) (h2 : b ≤ z) (h3 : z < 2 ^ 31) : Cv l yJ7_rangeCheck_23922 wsJ7_rangeCheck_23922 0 0 (dC, dI) cl6 (TY cI cJ cZ) false [.int (nI z), .int (nI a), .int (nI b)] ([]) ([]) := by
  refine Cv.of (cc := cJ7_rangeCheck_23922) (maxL := 3) (own := RJ7) rfl (plainFor_of_name (by decide)) rfl (Nat.le_of_ble_eq_true rfl) ?_
  intro pg ev s0 md ar bw mt cd A X hr hk
  show Wk pg l ev _ s0 md ar bw mt cd 0 0 _ 3 (dC, dI) cl6 A 0 [(0, .int (nI z)), (1, .int (nI a)), (2, .int (nI b))] [] ([])
  refine Wk.iload_n X 1 rfl dJ7_rangeCheck_23922_0 rfl ?_
  refine Wk.iload_n X 2 rfl dJ7_rangeCheck_23922_1 rfl ?_
  refine Wk.icmpN_le X 46 (by omega) (by omega) dJ7_rangeCheck_23922_2 (by decide) (fun c1 => ?_) (fun c1 => ?_)
  · skip
    refine Wk.iload_n X 1 rfl dJ7_rangeCheck_23922_46 rfl ?_
    refine Wk.if_ge X 59 dJ7_rangeCheck_23922_47 (by decide) (fun c2 => ?_) (fun c2 => ?_)
    · skip
      refine Wk.iload_n X 2 rfl dJ7_rangeCheck_23922_59 rfl ?_
      refine Wk.iload_n X 0 rfl dJ7_rangeCheck_23922_60 rfl ?_
      refine Wk.icmpN_le X 73 (by omega) (by omega) dJ7_rangeCheck_23922_61 (by decide) (fun c3 => ?_) (fun c3 => ?_)
      · skip
        exact Wk.vret X hr hk rfl dJ7_rangeCheck_23922_73
      · skip
        exfalso; omega
    · skip
      exact absurd (nI_pos' (by omega)) c2
  · skip
    exfalso; omega

set_option maxHeartbeats 4000000 in
set_option maxRecDepth 100000 in
theorem c_J7_fill_fda19 (l : Launch) (dC : Nat → ClassId) (dI : Nat → Nat → Nat) (cI cJ cZ : ClassId) (h : Nat → Nat) (sz : Nat) (f : Nat → Int32) (a : Nat) (b : Nat) (v : Int32) (h1 : a ≤ b) (h2 : b ≤ sz) (h3 : sz < 2 ^ 31) : Cv l yJ7_fill_fda19 wsJ7_fill_fda19 1 22 (dC, dI) cl6 (TY cI cJ cZ) false [.ref (h 0), .int (nI a), .int (nI b), .int v] (Wf h cI cJ cZ sz f) (Wf h cI cJ cZ sz (filF f a v (b - a))) := by
  refine Cv.of (cc := cJ7_fill_fda19) (maxL := 5) (own := RJ7) rfl (plainFor_of_name (by decide)) rfl (Nat.le_of_ble_eq_true rfl) ?_
  intro pg ev s0 md ar bw mt cd A X hr hk
  show Wk pg l ev _ s0 md ar bw mt cd 0 0 _ 5 (dC, dI) cl6 A 0 [(0, .ref (h 0)), (1, .int (nI a)), (2, .int (nI b)), (3, .int v)] [] (Wf h cI cJ cZ sz f)
  refine Wk.aload_n X 0 rfl dJ7_fill_fda19_0 rfl ?_
  refine Wk.alen X 0 0 rfl rfl dJ7_fill_fda19_1 ?_
  refine Wk.iload_n X 1 rfl dJ7_fill_fda19_2 rfl ?_
  refine Wk.iload_n X 2 rfl dJ7_fill_fda19_3 rfl ?_
  refine Wk.callSv (n := 3) X (c_J7_rangeCheck_23922 l dC dI cI cJ cZ sz a b (by first | omega | assumption) (by first | omega | assumption) (by first | omega | assumption)) gJ7_fill_fda19_J7_rangeCheck_23922 rfl (by decide +kernel) (by decide) Fr.nil (fun h9 => h9) rfl rfl (Nat.le_of_ble_eq_true rfl) ⟨Nat.zero_le _, Nat.zero_le _⟩ dJ7_fill_fda19_4 ?_
  refine Wk.iload_n X 1 rfl dJ7_fill_fda19_7 rfl ?_
  refine Wk.istore (lv' := [(4, .int (nI a)), (0, .ref (h 0)), (1, .int (nI a)), (2, .int (nI b)), (3, .int v)]) X dJ7_fill_fda19_8 (by decide) rfl ?_
  have L10 : ∀ (fu10 : Nat) (k : Nat) (hq : b + 1 ≤ a + k + fu10) (hk0 : a + k ≤ b), Wk pg l ev ({ frames := 1, cells := 0, slots := 0, locals := 22 } : Room) s0 md ar bw mt cd 0 0 (QRv bw ar s0 (dC, dI) cl6 (TY cI cJ cZ) A (Wf h cI cJ cZ sz (filF f a v (b - a)))) 5 (dC, dI) cl6 A 10 [(0, .ref (h 0)), (1, .int (nI a)), (2, .int (nI b)), (3, .int v), (4, .int (nI (a + k)))] [] (Wf h cI cJ cZ sz (filF f a v k)) := by
    intro fu10
    induction fu10 with
    | zero => intro k hq hk0; exact absurd hq (by omega)
    | succ fu10 ih10 =>
      intro k hq hk0
      refine Wk.iload X 4 rfl dJ7_fill_fda19_10 ?_
      refine Wk.iload_n X 2 rfl dJ7_fill_fda19_12 rfl ?_
      refine Wk.icmpN_ge X 27 (by omega) (by omega) dJ7_fill_fda19_13 (by decide) (fun c1 => ?_) (fun c1 => ?_)
      · skip
        exact Wk.vret X hr hk (by rw [show b - a = k by omega]) dJ7_fill_fda19_27
      · skip
        refine Wk.aload_n X 0 rfl dJ7_fill_fda19_16 rfl ?_
        refine Wk.iload X 4 rfl dJ7_fill_fda19_17 ?_
        refine Wk.iload_n X 3 rfl dJ7_fill_fda19_19 rfl ?_
        refine Wk.iast (ws' := Wf h cI cJ cZ sz (upd (filF f a v k) (a + k) v)) X 0 0 rfl rfl (by omega) (by omega) rfl dJ7_fill_fda19_20 ?_
        refine Wk.iincN (n := 1) (lv' := [(4, .int (nI (a + k + 1))), (0, .ref (h 0)), (1, .int (nI a)), (2, .int (nI b)), (3, .int v)]) X 4 rfl dJ7_fill_fda19_21 (by decide) rfl ?_
        refine Wk.goto X 10 dJ7_fill_fda19_24 (by decide) ?_
        refine Wk.lvs (lv' := [(0, .ref (h 0)), (1, .int (nI a)), (2, .int (nI b)), (3, .int v), (4, .int (nI (a + k + 1)))]) [1, 2, 3, 4, 0] rfl ?_
        exact ih10 (k + 1) (by omega) (by omega)
  refine Wk.lvs (lv' := [(0, .ref (h 0)), (1, .int (nI a)), (2, .int (nI b)), (3, .int v), (4, .int (nI a))]) [1, 2, 3, 4, 0] rfl ?_
  exact L10 (b + 1) 0 (by omega) (by omega)

