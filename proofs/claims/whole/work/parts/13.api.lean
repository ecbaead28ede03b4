/-- between a and b -/
def inB (v a b : Int32) : Bool := decide (¬ v < a ∧ ¬ b < v)
def allB (x : Int32) : Bool := decide (x = -1) || inN x 4
def thB (ls gd : Int32) (n : Nat) : Bool := inN ls 4 && (inB gd 0 (nI 4) && decide (n < 24))
def thR (ls gd : Int32) (n : Nat) : Int32 := if inN ls 4 = true ∧ inB gd 0 (nI 4) = true then (if n < 24 then nI n else -10003) else -10002
def grR (x g : Int32) (n : Nat) (gr : Nat → Int32) : Int32 := if inN x n = true then (if inB g 0 (nI 4) = true then gr x.toNatClampNeg else -10002) else -10001
def ftB (x f v : Int32) (n : Nat) : Bool := decide (¬ rowC x n = -1) && (inN f 4 && inB v (-1000) (nI 1000))
def ixC (x f : Int32) (n : Nat) : Nat := (rowC x n).toNatClampNeg * 4 + f.toNatClampNeg
def ftR (x f v : Int32) (n : Nat) (nb : Nat → Int32) : Int32 := if rowC x n = -1 then -10001 else if inN f 4 = true ∧ inB v (-1000) (nI 1000) = true then (if nb (ixC x f n) = -1001 then 0 else 1) else -10002
def msB (x f : Int32) (n : Nat) : Bool := decide (¬ rowC x n = -1) && inN f 4
def msR (x f : Int32) (n : Nat) (nb : Nat → Int32) : Int32 := if rowC x n = -1 then -10001 else if inN f 4 = true then (if nb (ixC x f n) = -1001 then 0 else 1) else -10002
theorem rowC_ok {x : Int32} {n : Nat} (hn : n ≤ 24) (h : ¬ rowC x n = -1) : ∃ r, r < 25 ∧ rowC x n = nI r := by
  unfold rowC at h ⊢
  by_cases h1 : x = -1
  · rw [if_pos h1]; exact ⟨24, by decide, rfl⟩
  · rw [if_neg h1] at h ⊢
    by_cases h2 : inN x n = true
    · rw [if_pos h2]
      obtain ⟨j, hj, e⟩ := inN_t (by omega) h2
      exact ⟨j, by omega, e⟩
    · rw [if_neg h2] at h
      exact absurd rfl h
theorem fdC_ok {ki : Nat → Int32} {t : Nat} {x y : Int32} (ht : t ≤ 20) (h : ¬ fdC ki t x y = -1) : ∃ a, a < 300 ∧ fdC ki t x y = nI a := by
  unfold fdC at h ⊢
  split
  · rename_i q
    obtain ⟨a, ha, rfl⟩ := inN_t (by omega) q.1
    obtain ⟨b, hb, rfl⟩ := inN_t (by decide) q.2.1
    refine ⟨_, ?_, rfl⟩
    rw [nI_clamp (by omega), nI_clamp (by omega)]
    omega
  · rename_i q
    rw [if_neg q] at h
    exact absurd rfl h
/-- what a node says -/
def ndA (ki fe lm si va he : Nat → Int32) (a : Nat) (w0 : Int32) : Int32 :=
  if w0 = nI 0 then (if ki a = nI 2 then nI 1 else nI 0) else if w0 = nI 1 then (if ki a = nI 2 then fe a else -10002) else if w0 = nI 2 then (if ki a = nI 2 then lm a else -10002) else if w0 = nI 3 then (if ki a = nI 2 then si a else -10002) else if w0 = nI 4 then (if ki a = nI 2 then -10002 else va a) else if w0 = nI 5 then he a else -10002
def ndR (ki fe lm si va he : Nat → Int32) (t : Nat) (x y w0 : Int32) : Int32 := if fdC ki t x y = -1 then -10001 else ndA ki fe lm si va he (fdC ki t x y).toNatClampNeg w0
def gnR (ki : Nat → Int32) (up lo : Nat → Int64) (t : Nat) (x y w0 : Int32) : Int64 :=
  if fdC ki t x y = -1 then -10001 else if ki (fdC ki t x y).toNatClampNeg = nI 2 then (if w0 = nI 0 then up (fdC ki t x y).toNatClampNeg else if w0 = nI 1 then lo (fdC ki t x y).toNatClampNeg else -10002) else -10001
theorem lk_out {x : Int32} {o0 o1 df : Int} (h : x.toInt < 0 ∨ ((1 : Nat) : Int) < x.toInt) : Op.lookupswitch.offset [(0, o0), (1, o1)] df x.toInt = df := by
  have h0 : ¬ (0 : Int) = x.toInt := by omega
  have h1 : ¬ (1 : Int) = x.toInt := by omega
  simp [Op.lookupswitch.offset, h0, h1]
def rkC (li : Nat → Int32) (sc : Nat → Int64) (n : Nat) (ls k : Int32) : Nat → Nat → Int32
  | 0, _ => -1
  | d + 1, i => if li i = ls ∧ nI (ahC li sc i n) = k then nI i else rkC li sc n ls k d (i + 1)
def prB (ls w0 : Int32) : Bool := allB ls && inB w0 0 (nI 1)
def abR (ki fe : Nat → Int32) (n t : Nat) (w0 : Int32) : Int32 := if w0 = nI 0 then nI n else if w0 = nI 1 then nI t else if w0 = nI 2 then nI (clC ki (0 * 15) (t * 15 - 0 * 15)) else if w0 = nI 10 then nI (ccC ki fe (nI 0) (t * 15)) else if w0 = nI 11 then nI (ccC ki fe (nI 1) (t * 15)) else if w0 = nI 12 then nI (ccC ki fe (nI 2) (t * 15)) else if w0 = nI 13 then nI (ccC ki fe (nI 3) (t * 15)) else -10002
set_option maxHeartbeats 4000000 in
set_option maxRecDepth 100000 in
theorem c_X4_isList (l : Launch) (dC : Nat → ClassId) (dI : Nat → Nat → Nat) (cI cJ cZ : ClassId) (x : Int32) : Ci l yX4_isList wsX4_isList 0 0 (dC, dI) cl6 (TY cI cJ cZ) false [.int x] ([]) (bI (inN x 4)) ([]) := by
  refine Ci.of (cc := cX4_isList) (maxL := 1) (ty := .boolean) (own := RX4) rfl (plainFor_of_name (by decide)) rfl (Nat.le_of_ble_eq_true rfl) ?_
  intro pg ev s0 md ar bw mt cd A X hr hk
  show Wk pg l ev _ s0 md ar bw mt cd 0 0 _ 1 (dC, dI) cl6 A 0 [(0, .int x)] [] ([])
  refine Wk.iload_n X 0 rfl dX4_isList_0 rfl ?_
  refine Wk.if_lt X 13 dX4_isList_1 (by decide) (fun c1 => ?_) (fun c1 => ?_)
  · skip
    refine Wk.iconst (v := nI 0) X dX4_isList_13 (by decide) ?_
    exact Wk.zret X hr hk (by decide) (by simp [inN, inB, bI, nI_0, nIc1, *]) rfl dX4_isList_14
  · skip
    refine Wk.iload_n X 0 rfl dX4_isList_4 rfl ?_
    refine Wk.iconst (v := nI 4) X dX4_isList_5 (by decide) ?_
    refine Wk.icmp_ge X 13 dX4_isList_6 (by decide) (fun c2 => ?_) (fun c2 => ?_)
    · skip
      refine Wk.iconst (v := nI 0) X dX4_isList_13 (by decide) ?_
      exact Wk.zret X hr hk (by decide) (by simp [inN, inB, bI, nI_0, nIc1, *]) rfl dX4_isList_14
    · skip
      refine Wk.iconst (v := nI 1) X dX4_isList_9 (by decide) ?_
      refine Wk.goto X 14 dX4_isList_10 (by decide) ?_
      exact Wk.zret X hr hk (by decide) (by simp [inN, inB, bI, nI_0, nIc1, *]) rfl dX4_isList_14

set_option maxHeartbeats 4000000 in
set_option maxRecDepth 100000 in
theorem c_X4_isFeature (l : Launch) (dC : Nat → ClassId) (dI : Nat → Nat → Nat) (cI cJ cZ : ClassId) (x : Int32) : Ci l yX4_isFeature wsX4_isFeature 0 0 (dC, dI) cl6 (TY cI cJ cZ) false [.int x] ([]) (bI (inN x 4)) ([]) := by
  refine Ci.of (cc := cX4_isFeature) (maxL := 1) (ty := .boolean) (own := RX4) rfl (plainFor_of_name (by decide)) rfl (Nat.le_of_ble_eq_true rfl) ?_
  intro pg ev s0 md ar bw mt cd A X hr hk
  show Wk pg l ev _ s0 md ar bw mt cd 0 0 _ 1 (dC, dI) cl6 A 0 [(0, .int x)] [] ([])
  refine Wk.iload_n X 0 rfl dX4_isFeature_0 rfl ?_
  refine Wk.if_lt X 13 dX4_isFeature_1 (by decide) (fun c1 => ?_) (fun c1 => ?_)
  · skip
    refine Wk.iconst (v := nI 0) X dX4_isFeature_13 (by decide) ?_
    exact Wk.zret X hr hk (by decide) (by simp [inN, inB, bI, nI_0, nIc1, *]) rfl dX4_isFeature_14
  · skip
    refine Wk.iload_n X 0 rfl dX4_isFeature_4 rfl ?_
    refine Wk.iconst (v := nI 4) X dX4_isFeature_5 (by decide) ?_
    refine Wk.icmp_ge X 13 dX4_isFeature_6 (by decide) (fun c2 => ?_) (fun c2 => ?_)
    · skip
      refine Wk.iconst (v := nI 0) X dX4_isFeature_13 (by decide) ?_
      exact Wk.zret X hr hk (by decide) (by simp [inN, inB, bI, nI_0, nIc1, *]) rfl dX4_isFeature_14
    · skip
      refine Wk.iconst (v := nI 1) X dX4_isFeature_9 (by decide) ?_
      refine Wk.goto X 14 dX4_isFeature_10 (by decide) ?_
      exact Wk.zret X hr hk (by decide) (by simp [inN, inB, bI, nI_0, nIc1, *]) rfl dX4_isFeature_14

set_option maxHeartbeats 4000000 in
set_option maxRecDepth 100000 in
theorem c_X4_isGrade (l : Launch) (dC : Nat → ClassId) (dI : Nat → Nat → Nat) (cI cJ cZ : ClassId) (x : Int32) : Ci l yX4_isGrade wsX4_isGrade 0 0 (dC, dI) cl6 (TY cI cJ cZ) false [.int x] ([]) (bI (inB x 0 (nI 4))) ([]) := by
  refine Ci.of (cc := cX4_isGrade) (maxL := 1) (ty := .boolean) (own := RX4) rfl (plainFor_of_name (by decide)) rfl (Nat.le_of_ble_eq_true rfl) ?_
  intro pg ev s0 md ar bw mt cd A X hr hk
  show Wk pg l ev _ s0 md ar bw mt cd 0 0 _ 1 (dC, dI) cl6 A 0 [(0, .int x)] [] ([])
  refine Wk.iload_n X 0 rfl dX4_isGrade_0 rfl ?_
  refine Wk.if_lt X 13 dX4_isGrade_1 (by decide) (fun c1 => ?_) (fun c1 => ?_)
  · skip
    refine Wk.iconst (v := nI 0) X dX4_isGrade_13 (by decide) ?_
    exact Wk.zret X hr hk (by decide) (by simp [inN, inB, bI, nI_0, nIc1, *]) rfl dX4_isGrade_14
  · skip
    refine Wk.iload_n X 0 rfl dX4_isGrade_4 rfl ?_
    refine Wk.iconst (v := nI 4) X dX4_isGrade_5 (by decide) ?_
    refine Wk.icmp_gt X 13 dX4_isGrade_6 (by decide) (fun c2 => ?_) (fun c2 => ?_)
    · skip
      refine Wk.iconst (v := nI 0) X dX4_isGrade_13 (by decide) ?_
      exact Wk.zret X hr hk (by decide) (by simp [inN, inB, bI, nI_0, nIc1, *]) rfl dX4_isGrade_14
    · skip
      refine Wk.iconst (v := nI 1) X dX4_isGrade_9 (by decide) ?_
      refine Wk.goto X 14 dX4_isGrade_10 (by decide) ?_
      exact Wk.zret X hr hk (by decide) (by simp [inN, inB, bI, nI_0, nIc1, *]) rfl dX4_isGrade_14

set_option maxHeartbeats 4000000 in
set_option maxRecDepth 100000 in
theorem c_X4_isListOrAll (l : Launch) (dC : Nat → ClassId) (dI : Nat → Nat → Nat) (cI cJ cZ : ClassId) (x : Int32) : Ci l yX4_isListOrAll wsX4_isListOrAll 1 20 (dC, dI) cl6 (TY cI cJ cZ) false [.int x] ([]) (bI (allB x)) ([]) := by
  refine Ci.of (cc := cX4_isListOrAll) (maxL := 1) (ty := .boolean) (own := RX4) rfl (plainFor_of_name (by decide)) rfl (Nat.le_of_ble_eq_true rfl) ?_
  intro pg ev s0 md ar bw mt cd A X hr hk
  show Wk pg l ev _ s0 md ar bw mt cd 0 0 _ 1 (dC, dI) cl6 A 0 [(0, .int x)] [] ([])
  refine Wk.iload_n X 0 rfl dX4_isListOrAll_0 rfl ?_
  refine Wk.iconst (v := -1) X dX4_isListOrAll_1 (by decide) ?_
  refine Wk.icmp_eq X 12 dX4_isListOrAll_2 (by decide) (fun c1 => ?_) (fun c1 => ?_)
  · skip
    refine Wk.iconst (v := nI 1) X dX4_isListOrAll_12 (by decide) ?_
    refine Wk.goto X 17 dX4_isListOrAll_13 (by decide) ?_
    exact Wk.zret X hr hk (by decide) (by simp [allB, bI, nI_0, nIc1, *]) rfl dX4_isListOrAll_17
  · skip
    refine Wk.iload_n X 0 rfl dX4_isListOrAll_5 rfl ?_
    refine Wk.callSi (n := 1) X (c_X4_isList l dC dI cI cJ cZ x) gX4_isListOrAll_X4_isList rfl (by decide +kernel) (by decide) Fr.nil (fun h9 => h9) rfl rfl (Nat.le_of_ble_eq_true rfl) ⟨Nat.zero_le _, Nat.zero_le _⟩ dX4_isListOrAll_6 ?_
    refine Wk.ifB_eq X 16 dX4_isListOrAll_9 (by decide) (fun c2 => ?_) (fun c2 => ?_)
    · skip
      refine Wk.iconst (v := nI 0) X dX4_isListOrAll_16 (by decide) ?_
      exact Wk.zret X hr hk (by decide) (by simp [allB, bI, nI_0, nIc1, *]) rfl dX4_isListOrAll_17
    · skip
      refine Wk.iconst (v := nI 1) X dX4_isListOrAll_12 (by decide) ?_
      refine Wk.goto X 17 dX4_isListOrAll_13 (by decide) ?_
      exact Wk.zret X hr hk (by decide) (by simp [allB, bI, nI_0, nIc1, *]) rfl dX4_isListOrAll_17

set_option maxHeartbeats 4000000 in
set_option maxRecDepth 100000 in
theorem c_X4_thing (l : Launch) (dC : Nat → ClassId) (dI : Nat → Nat → Nat) (cI cJ cZ : ClassId) (h : Nat → Nat) (n : Nat) (li : Nat → Int32) (gr : Nat → Int32) (nb : Nat → Int32) (sc : Nat → Int64) (t : Nat) (ki : Nat → Int32) (fe : Nat → Int32) (lm : Nat → Int32) (si : Nat → Int32) (va : Nat → Int32) (he : Nat → Int32) (up : Nat → Int64) (lo : Nat → Int64) (pu : Nat → Int32) (pl : Nat → Int32) (gh : Nat) (gs : Int32) (bf : Bool) (b1 : Int32) (b2 : Int32) (b3 : Int32) (bu : Int64) (bl : Int64) (se : Nat → Int32) (ls : Int32) (gd : Int32) (hn0 : n ≤ 24) : Ci l yX4_thing wsX4_thing 4 90 (dC, dI) cl6 (TY cI cJ cZ) false [.ref (h 0), .int ls, .int gd] (Wc h cI cJ cZ n li gr nb sc t ki fe lm si va he up lo pu pl gh gs bf b1 b2 b3 bu bl se) (thR ls gd n) (Wc h cI cJ cZ (if thB ls gd n = true then n + 1 else n) (if thB ls gd n = true then upd li n ls else li) (if thB ls gd n = true then upd gr n gd else gr) (if thB ls gd n = true then filF nb (n * 4) (-1001) 4 else nb) sc t ki fe lm si va he up lo pu pl gh gs bf b1 b2 b3 bu bl se) := by
  refine Ci.of (cc := cX4_thing) (maxL := 3) (ty := .int) (own := RX4) rfl (plainFor_of_name (by decide)) rfl (Nat.le_of_ble_eq_true rfl) ?_
  intro pg ev s0 md ar bw mt cd A X hr hk
  show Wk pg l ev _ s0 md ar bw mt cd 0 0 _ 3 (dC, dI) cl6 A 0 [(0, .ref (h 0)), (1, .int ls), (2, .int gd)] [] (Wc h cI cJ cZ n li gr nb sc t ki fe lm si va he up lo pu pl gh gs bf b1 b2 b3 bu bl se)
  have inX3 : ∀ w ∈ u_ws RX3 TX3 5, w ∈ wsX4_thing := by decide +kernel
  have inX4 : ∀ w ∈ u_ws RX4 TX4 4, w ∈ wsX4_thing := by decide +kernel
  have lk12 := X.w (.fieldLink RX4 12 "PairedTrees" "things" "LPairedTrees$Things;") (by decide +kernel)
  have lk44 := X.w (.fieldLink RX4 44 "PairedTrees$Things" "count" "I") (by decide +kernel)
  refine Wk.iload_n X 1 rfl dX4_thing_0 rfl ?_
  refine Wk.callSi (n := 1) X (c_X4_isList l dC dI cI cJ cZ ls) gX4_thing_X4_isList rfl (by decide +kernel) (by decide) Fr.nil (fun h9 => h9) rfl rfl (Nat.le_of_ble_eq_true rfl) ⟨Nat.zero_le _, Nat.zero_le _⟩ dX4_thing_1 ?_
  refine Wk.ifB_eq X 14 dX4_thing_4 (by decide) (fun c1 => ?_) (fun c1 => ?_)
  · skip
    refine Wk.sipush (v := -10002) X dX4_thing_14 (by decide) ?_
    exact Wk.iret X hr hk (by simp [thR, *]) (by simp [thB, *]) dX4_thing_17
  · skip
    refine Wk.iload_n X 2 rfl dX4_thing_7 rfl ?_
    refine Wk.callSi (n := 1) X (c_X4_isGrade l dC dI cI cJ cZ gd) gX4_thing_X4_isGrade rfl (by decide +kernel) (by decide) Fr.nil (fun h9 => h9) rfl rfl (Nat.le_of_ble_eq_true rfl) ⟨Nat.zero_le _, Nat.zero_le _⟩ dX4_thing_8 ?_
    refine Wk.ifB_ne X 18 dX4_thing_11 (by decide) (fun c2 => ?_) (fun c2 => ?_)
    · skip
      refine Wk.aload_n X 0 rfl dX4_thing_18 rfl ?_
      refine Wk.get X inX4 0 0 lk12 (fun _ h9 => h9) rfl rfl (by decide) rfl dX4_thing_19 ?_
      refine Wk.get X inX3 1 0 lk44 (fun _ h9 => h9) rfl rfl (by decide) rfl dX4_thing_22 ?_
      refine Wk.bipush (v := nI 24) X dX4_thing_25 (by decide) ?_
      refine Wk.icmpN_lt X 34 (by omega) (by omega) dX4_thing_27 (by decide) (fun c3 => ?_) (fun c3 => ?_)
      · skip
        refine Wk.aload_n X 0 rfl dX4_thing_34 rfl ?_
        refine Wk.get X inX4 0 0 lk12 (fun _ h9 => h9) rfl rfl (by decide) rfl dX4_thing_35 ?_
        refine Wk.iload_n X 1 rfl dX4_thing_38 rfl ?_
        refine Wk.iload_n X 2 rfl dX4_thing_39 rfl ?_
        refine Wk.callVi (n := 2) (q0 := 1) X (c_X3_take l dC dI cI cJ cZ h n li gr nb sc t ki fe lm si va he up lo pu pl gh gs bf b1 b2 b3 bu bl se ls gd (by first | omega | assumption)) gX4_thing_X3_take rfl (by decide +kernel) (by decide) Fr.all (fun h9 => h9) rfl rfl rfl rfl (Nat.le_of_ble_eq_true rfl) ⟨Nat.zero_le _, Nat.zero_le _⟩ dX4_thing_40 ?_
        exact Wk.iret X hr hk (by simp [thR, show n < 24 by omega, *]) (by simp [thB, show n < 24 by omega, *]) dX4_thing_43
      · skip
        refine Wk.sipush (v := -10003) X dX4_thing_30 (by decide) ?_
        exact Wk.iret X hr hk (by simp [thR, show ¬ n < 24 by omega, *]) (by simp [thB, show ¬ n < 24 by omega]) dX4_thing_33
    · skip
      refine Wk.sipush (v := -10002) X dX4_thing_14 (by decide) ?_
      exact Wk.iret X hr hk (by simp [thR, *]) (by simp [thB, *]) dX4_thing_17

set_option maxHeartbeats 4000000 in
set_option maxRecDepth 100000 in
theorem c_X4_grade (l : Launch) (dC : Nat → ClassId) (dI : Nat → Nat → Nat) (cI cJ cZ : ClassId) (h : Nat → Nat) (n : Nat) (li : Nat → Int32) (gr : Nat → Int32) (nb : Nat → Int32) (sc : Nat → Int64) (t : Nat) (ki : Nat → Int32) (fe : Nat → Int32) (lm : Nat → Int32) (si : Nat → Int32) (va : Nat → Int32) (he : Nat → Int32) (up : Nat → Int64) (lo : Nat → Int64) (pu : Nat → Int32) (pl : Nat → Int32) (gh : Nat) (gs : Int32) (bf : Bool) (b1 : Int32) (b2 : Int32) (b3 : Int32) (bu : Int64) (bl : Int64) (se : Nat → Int32) (x : Int32) (gd : Int32) (hn0 : n ≤ 24) : Ci l yX4_grade wsX4_grade 1 21 (dC, dI) cl6 (TY cI cJ cZ) false [.ref (h 0), .int x, .int gd] (Wc h cI cJ cZ n li gr nb sc t ki fe lm si va he up lo pu pl gh gs bf b1 b2 b3 bu bl se) (grR x gd n gr) (Wc h cI cJ cZ n li (if (inN x n && inB gd 0 (nI 4)) = true then upd gr x.toNatClampNeg gd else gr) nb sc t ki fe lm si va he up lo pu pl gh gs bf b1 b2 b3 bu bl se) := by
  refine Ci.of (cc := cX4_grade) (maxL := 4) (ty := .int) (own := RX4) rfl (plainFor_of_name (by decide)) rfl (Nat.le_of_ble_eq_true rfl) ?_
  intro pg ev s0 md ar bw mt cd A X hr hk
  show Wk pg l ev _ s0 md ar bw mt cd 0 0 _ 4 (dC, dI) cl6 A 0 [(0, .ref (h 0)), (1, .int x), (2, .int gd)] [] (Wc h cI cJ cZ n li gr nb sc t ki fe lm si va he up lo pu pl gh gs bf b1 b2 b3 bu bl se)
  have inX3 : ∀ w ∈ u_ws RX3 TX3 5, w ∈ wsX4_grade := by decide +kernel
  have inX4 : ∀ w ∈ u_ws RX4 TX4 4, w ∈ wsX4_grade := by decide +kernel
  have lk12 := X.w (.fieldLink RX4 12 "PairedTrees" "things" "LPairedTrees$Things;") (by decide +kernel)
  have lk55 := X.w (.fieldLink RX4 55 "PairedTrees$Things" "grades" "[I") (by decide +kernel)
  refine Wk.aload_n X 0 rfl dX4_grade_0 rfl ?_
  refine Wk.get X inX4 0 0 lk12 (fun _ h9 => h9) rfl rfl (by decide) rfl dX4_grade_1 ?_
  refine Wk.iload_n X 1 rfl dX4_grade_4 rfl ?_
  refine Wk.callVi (n := 1) (q0 := 1) X (c_X3_has l dC dI cI cJ cZ h n li gr nb sc t ki fe lm si va he up lo pu pl gh gs bf b1 b2 b3 bu bl se x) gX4_grade_X3_has rfl (by decide +kernel) (by decide) Fr.all (fun h9 => h9) rfl rfl rfl rfl (Nat.le_of_ble_eq_true rfl) ⟨Nat.zero_le _, Nat.zero_le _⟩ dX4_grade_5 ?_
  refine Wk.ifB_ne X 15 dX4_grade_8 (by decide) (fun c1 => ?_) (fun c1 => ?_)
  · skip
    refine Wk.iload_n X 2 rfl dX4_grade_15 rfl ?_
    refine Wk.callSi (n := 1) X (c_X4_isGrade l dC dI cI cJ cZ gd) gX4_grade_X4_isGrade rfl (by decide +kernel) (by decide) Fr.nil (fun h9 => h9) rfl rfl (Nat.le_of_ble_eq_true rfl) ⟨Nat.zero_le _, Nat.zero_le _⟩ dX4_grade_16 ?_
    refine Wk.ifB_ne X 26 dX4_grade_19 (by decide) (fun c2 => ?_) (fun c2 => ?_)
    · skip
      obtain ⟨j, hj, rfl⟩ := inN_t (x := x) (n := n) (by omega) c1
      refine Wk.aload_n X 0 rfl dX4_grade_26 rfl ?_
      refine Wk.get X inX4 0 0 lk12 (fun _ h9 => h9) rfl rfl (by decide) rfl dX4_grade_27 ?_
      refine Wk.get X inX3 1 2 lk55 (fun _ h9 => h9) rfl rfl (by decide) rfl dX4_grade_30 ?_
      refine Wk.iload_n X 1 rfl dX4_grade_33 rfl ?_
      refine Wk.iald X 3 0 rfl rfl (by omega) (by decide) dX4_grade_34 ?_
      refine Wk.istore_n (lv' := [(3, .int (gr j)), (0, .ref (h 0)), (1, .int (nI j)), (2, .int gd)]) X dX4_grade_35 rfl (by decide) rfl ?_
      refine Wk.aload_n X 1 rfl dX4_grade_36 rfl ?_
      refine Wk.get X inX4 0 0 lk12 (fun _ h9 => h9) rfl rfl (by decide) rfl dX4_grade_37 ?_
      refine Wk.get X inX3 1 2 lk55 (fun _ h9 => h9) rfl rfl (by decide) rfl dX4_grade_40 ?_
      refine Wk.iload_n X 2 rfl dX4_grade_43 rfl ?_
      refine Wk.iload_n X 3 rfl dX4_grade_44 rfl ?_
      refine Wk.iast (ws' := Wc h cI cJ cZ n li (upd gr j gd) nb sc t ki fe lm si va he up lo pu pl gh gs bf b1 b2 b3 bu bl se) X 3 0 rfl rfl (by omega) (by decide) rfl dX4_grade_45 ?_
      refine Wk.iload_n X 0 rfl dX4_grade_46 rfl ?_
      exact Wk.iret X hr hk (by simp [grR, inN_nI hj (show n < 2 ^ 31 by omega), nI_clamp (show j < 2 ^ 31 by omega), *]) (by simp [inN_nI hj (show n < 2 ^ 31 by omega), nI_clamp (show j < 2 ^ 31 by omega), *]) dX4_grade_47
    · skip
      refine Wk.sipush (v := -10002) X dX4_grade_22 (by decide) ?_
      exact Wk.iret X hr hk (by simp [grR, *]) (by simp [*]) dX4_grade_25
  · skip
    refine Wk.sipush (v := -10001) X dX4_grade_11 (by decide) ?_
    exact Wk.iret X hr hk (by simp [grR, *]) (by simp [*]) dX4_grade_14

set_option maxHeartbeats 4000000 in
set_option maxRecDepth 100000 in
theorem c_X4_feature (l : Launch) (dC : Nat → ClassId) (dI : Nat → Nat → Nat) (cI cJ cZ : ClassId) (h : Nat → Nat) (n : Nat) (li : Nat → Int32) (gr : Nat → Int32) (nb : Nat → Int32) (sc : Nat → Int64) (t : Nat) (ki : Nat → Int32) (fe : Nat → Int32) (lm : Nat → Int32) (si : Nat → Int32) (va : Nat → Int32) (he : Nat → Int32) (up : Nat → Int64) (lo : Nat → Int64) (pu : Nat → Int32) (pl : Nat → Int32) (gh : Nat) (gs : Int32) (bf : Bool) (b1 : Int32) (b2 : Int32) (b3 : Int32) (bu : Int64) (bl : Int64) (se : Nat → Int32) (x : Int32) (f : Int32) (v : Int32) (hn0 : n ≤ 24) : Ci l yX4_feature wsX4_feature 2 42 (dC, dI) cl6 (TY cI cJ cZ) false [.ref (h 0), .int x, .int f, .int v] (Wc h cI cJ cZ n li gr nb sc t ki fe lm si va he up lo pu pl gh gs bf b1 b2 b3 bu bl se) (ftR x f v n nb) (Wc h cI cJ cZ n li gr (if ftB x f v n = true then upd nb (ixC x f n) v else nb) sc t ki fe lm si va he up lo pu pl gh gs bf b1 b2 b3 bu bl se) := by
  refine Ci.of (cc := cX4_feature) (maxL := 5) (ty := .int) (own := RX4) rfl (plainFor_of_name (by decide)) rfl (Nat.le_of_ble_eq_true rfl) ?_
  intro pg ev s0 md ar bw mt cd A X hr hk
  show Wk pg l ev _ s0 md ar bw mt cd 0 0 _ 5 (dC, dI) cl6 A 0 [(0, .ref (h 0)), (1, .int x), (2, .int f), (3, .int v)] [] (Wc h cI cJ cZ n li gr nb sc t ki fe lm si va he up lo pu pl gh gs bf b1 b2 b3 bu bl se)
  have inX4 : ∀ w ∈ u_ws RX4 TX4 4, w ∈ wsX4_feature := by decide +kernel
  have lk12 := X.w (.fieldLink RX4 12 "PairedTrees" "things" "LPairedTrees$Things;") (by decide +kernel)
  refine Wk.aload_n X 0 rfl dX4_feature_0 rfl ?_
  refine Wk.get X inX4 0 0 lk12 (fun _ h9 => h9) rfl rfl (by decide) rfl dX4_feature_1 ?_
  refine Wk.iload_n X 1 rfl dX4_feature_4 rfl ?_
  refine Wk.callVi (n := 1) (q0 := 1) X (c_X3_rowOf l dC dI cI cJ cZ h n li gr nb sc t ki fe lm si va he up lo pu pl gh gs bf b1 b2 b3 bu bl se x) gX4_feature_X3_rowOf rfl (by decide +kernel) (by decide) Fr.all (fun h9 => h9) rfl rfl rfl rfl (Nat.le_of_ble_eq_true rfl) ⟨Nat.zero_le _, Nat.zero_le _⟩ dX4_feature_5 ?_
  refine Wk.istore (lv' := [(4, .int (rowC x n)), (0, .ref (h 0)), (1, .int x), (2, .int f), (3, .int v)]) X dX4_feature_8 (by decide) rfl ?_
  refine Wk.iload X 0 rfl dX4_feature_10 ?_
  refine Wk.iconst (v := -1) X dX4_feature_12 (by decide) ?_
  refine Wk.icmp_ne X 20 dX4_feature_13 (by decide) (fun c1 => ?_) (fun c1 => ?_)
  · skip
    refine Wk.iload_n X 3 rfl dX4_feature_20 rfl ?_
    refine Wk.callSi (n := 1) X (c_X4_isFeature l dC dI cI cJ cZ f) gX4_feature_X4_isFeature rfl (by decide +kernel) (by decide) Fr.nil (fun h9 => h9) rfl rfl (Nat.le_of_ble_eq_true rfl) ⟨Nat.zero_le _, Nat.zero_le _⟩ dX4_feature_21 ?_
    refine Wk.ifB_eq X 41 dX4_feature_24 (by decide) (fun c2 => ?_) (fun c2 => ?_)
    · skip
      refine Wk.sipush (v := -10002) X dX4_feature_41 (by decide) ?_
      exact Wk.iret X hr hk (by first | (simp [ftR, *]; done) | (have h9 : inB v (-1000) (nI 1000) = false := (by simp [inB, *]); simp [ftR, *])) (by first | (simp [ftB, *]; done) | (have h9 : inB v (-1000) (nI 1000) = false := (by simp [inB, *]); simp [ftB, *])) dX4_feature_44
    · skip
      refine Wk.iload_n X 4 rfl dX4_feature_27 rfl ?_
      refine Wk.sipush (v := -1000) X dX4_feature_28 (by decide) ?_
      refine Wk.icmp_lt X 41 dX4_feature_31 (by decide) (fun c3 => ?_) (fun c3 => ?_)
      · skip
        refine Wk.sipush (v := -10002) X dX4_feature_41 (by decide) ?_
        exact Wk.iret X hr hk (by first | (simp [ftR, *]; done) | (have h9 : inB v (-1000) (nI 1000) = false := (by simp [inB, *]); simp [ftR, *])) (by first | (simp [ftB, *]; done) | (have h9 : inB v (-1000) (nI 1000) = false := (by simp [inB, *]); simp [ftB, *])) dX4_feature_44
      · skip
        refine Wk.iload_n X 4 rfl dX4_feature_34 rfl ?_
        refine Wk.sipush (v := nI 1000) X dX4_feature_35 (by decide) ?_
        refine Wk.icmp_le X 45 dX4_feature_38 (by decide) (fun c4 => ?_) (fun c4 => ?_)
        · skip
          obtain ⟨r, hr9, er⟩ := rowC_ok (x := x) hn0 c1
          refine Wk.lvq (lv' := [(4, .int (nI r)), (0, .ref (h 0)), (1, .int x), (2, .int f), (3, .int v)]) (by rw [er]) ?_
          obtain ⟨f1, hf1, rfl⟩ := inN_t (x := f) (n := 4) (by omega) c2
          have hin : inB v (-1000) (nI 1000) = true := by simp [inB, *]
          have eix : ixC x (nI f1) n = r * 4 + f1 := by unfold ixC; rw [er, nI_clamp (show r < 2 ^ 31 by omega), nI_clamp (show f1 < 2 ^ 31 by omega)]
          have hf4 : inN (nI f1) 4 = true := inN_nI hf1 (by decide)
          have hrn : ¬ rowC x n = -1 := c1
          refine Wk.aload_n X 1 rfl dX4_feature_45 rfl ?_
          refine Wk.get X inX4 0 0 lk12 (fun _ h9 => h9) rfl rfl (by decide) rfl dX4_feature_46 ?_
          refine Wk.iload X 0 rfl dX4_feature_49 ?_
          refine Wk.iload_n X 3 rfl dX4_feature_51 rfl ?_
          refine Wk.iload_n X 4 rfl dX4_feature_52 rfl ?_
          refine Wk.callVi (n := 3) (q0 := 1) X (c_X3_replace l dC dI cI cJ cZ h n li gr nb sc t ki fe lm si va he up lo pu pl gh gs bf b1 b2 b3 bu bl se r f1 v (by first | omega | assumption) (by first | omega | assumption)) gX4_feature_X3_replace rfl (by decide +kernel) (by decide) Fr.all (fun h9 => h9) rfl rfl rfl rfl (Nat.le_of_ble_eq_true rfl) ⟨Nat.zero_le _, Nat.zero_le _⟩ dX4_feature_53 ?_
          refine Wk.sipush (v := -1001) X dX4_feature_56 (by decide) ?_
          refine Wk.icmp_ne X 66 dX4_feature_59 (by decide) (fun c5 => ?_) (fun c5 => ?_)
          · skip
            refine Wk.iconst (v := nI 1) X dX4_feature_66 (by decide) ?_
            exact Wk.iret X hr hk (by clear er; simp [ftR, nIc1, nI_0, *]) (by clear er; simp [ftB, *]) dX4_feature_67
          · skip
            refine Wk.iconst (v := nI 0) X dX4_feature_62 (by decide) ?_
            refine Wk.goto X 67 dX4_feature_63 (by decide) ?_
            exact Wk.iret X hr hk (by clear er; simp [ftR, nIc1, nI_0, *]) (by clear er; simp [ftB, *]) dX4_feature_67
        · skip
          refine Wk.sipush (v := -10002) X dX4_feature_41 (by decide) ?_
          exact Wk.iret X hr hk (by first | (simp [ftR, *]; done) | (have h9 : inB v (-1000) (nI 1000) = false := (by simp [inB, *]); simp [ftR, *])) (by first | (simp [ftB, *]; done) | (have h9 : inB v (-1000) (nI 1000) = false := (by simp [inB, *]); simp [ftB, *])) dX4_feature_44
  · skip
    refine Wk.sipush (v := -10001) X dX4_feature_16 (by decide) ?_
    exact Wk.iret X hr hk (by simp [ftR, *]) (by simp [ftB, *]) dX4_feature_19

set_option maxHeartbeats 4000000 in
set_option maxRecDepth 100000 in
theorem c_X4_miss (l : Launch) (dC : Nat → ClassId) (dI : Nat → Nat → Nat) (cI cJ cZ : ClassId) (h : Nat → Nat) (n : Nat) (li : Nat → Int32) (gr : Nat → Int32) (nb : Nat → Int32) (sc : Nat → Int64) (t : Nat) (ki : Nat → Int32) (fe : Nat → Int32) (lm : Nat → Int32) (si : Nat → Int32) (va : Nat → Int32) (he : Nat → Int32) (up : Nat → Int64) (lo : Nat → Int64) (pu : Nat → Int32) (pl : Nat → Int32) (gh : Nat) (gs : Int32) (bf : Bool) (b1 : Int32) (b2 : Int32) (b3 : Int32) (bu : Int64) (bl : Int64) (se : Nat → Int32) (x : Int32) (f : Int32) (hn0 : n ≤ 24) : Ci l yX4_miss wsX4_miss 2 42 (dC, dI) cl6 (TY cI cJ cZ) false [.ref (h 0), .int x, .int f] (Wc h cI cJ cZ n li gr nb sc t ki fe lm si va he up lo pu pl gh gs bf b1 b2 b3 bu bl se) (msR x f n nb) (Wc h cI cJ cZ n li gr (if msB x f n = true then upd nb (ixC x f n) (-1001) else nb) sc t ki fe lm si va he up lo pu pl gh gs bf b1 b2 b3 bu bl se) := by
  refine Ci.of (cc := cX4_miss) (maxL := 4) (ty := .int) (own := RX4) rfl (plainFor_of_name (by decide)) rfl (Nat.le_of_ble_eq_true rfl) ?_
  intro pg ev s0 md ar bw mt cd A X hr hk
  show Wk pg l ev _ s0 md ar bw mt cd 0 0 _ 4 (dC, dI) cl6 A 0 [(0, .ref (h 0)), (1, .int x), (2, .int f)] [] (Wc h cI cJ cZ n li gr nb sc t ki fe lm si va he up lo pu pl gh gs bf b1 b2 b3 bu bl se)
  have inX4 : ∀ w ∈ u_ws RX4 TX4 4, w ∈ wsX4_miss := by decide +kernel
  have lk12 := X.w (.fieldLink RX4 12 "PairedTrees" "things" "LPairedTrees$Things;") (by decide +kernel)
  refine Wk.aload_n X 0 rfl dX4_miss_0 rfl ?_
  refine Wk.get X inX4 0 0 lk12 (fun _ h9 => h9) rfl rfl (by decide) rfl dX4_miss_1 ?_
  refine Wk.iload_n X 1 rfl dX4_miss_4 rfl ?_
  refine Wk.callVi (n := 1) (q0 := 1) X (c_X3_rowOf l dC dI cI cJ cZ h n li gr nb sc t ki fe lm si va he up lo pu pl gh gs bf b1 b2 b3 bu bl se x) gX4_miss_X3_rowOf rfl (by decide +kernel) (by decide) Fr.all (fun h9 => h9) rfl rfl rfl rfl (Nat.le_of_ble_eq_true rfl) ⟨Nat.zero_le _, Nat.zero_le _⟩ dX4_miss_5 ?_
  refine Wk.istore_n (lv' := [(3, .int (rowC x n)), (0, .ref (h 0)), (1, .int x), (2, .int f)]) X dX4_miss_8 rfl (by decide) rfl ?_
  refine Wk.iload_n X 0 rfl dX4_miss_9 rfl ?_
  refine Wk.iconst (v := -1) X dX4_miss_10 (by decide) ?_
  refine Wk.icmp_ne X 18 dX4_miss_11 (by decide) (fun c1 => ?_) (fun c1 => ?_)
  · skip
    refine Wk.iload_n X 3 rfl dX4_miss_18 rfl ?_
    refine Wk.callSi (n := 1) X (c_X4_isFeature l dC dI cI cJ cZ f) gX4_miss_X4_isFeature rfl (by decide +kernel) (by decide) Fr.nil (fun h9 => h9) rfl rfl (Nat.le_of_ble_eq_true rfl) ⟨Nat.zero_le _, Nat.zero_le _⟩ dX4_miss_19 ?_
    refine Wk.ifB_ne X 29 dX4_miss_22 (by decide) (fun c2 => ?_) (fun c2 => ?_)
    · skip
      obtain ⟨r, hr9, er⟩ := rowC_ok (x := x) hn0 c1
      refine Wk.lvq (lv' := [(3, .int (nI r)), (0, .ref (h 0)), (1, .int x), (2, .int f)]) (by rw [er]) ?_
      obtain ⟨f1, hf1, rfl⟩ := inN_t (x := f) (n := 4) (by omega) c2
      have eix : ixC x (nI f1) n = r * 4 + f1 := by unfold ixC; rw [er, nI_clamp (show r < 2 ^ 31 by omega), nI_clamp (show f1 < 2 ^ 31 by omega)]
      have hf4 : inN (nI f1) 4 = true := inN_nI hf1 (by decide)
      have hrn : ¬ rowC x n = -1 := c1
      refine Wk.aload_n X 1 rfl dX4_miss_29 rfl ?_
      refine Wk.get X inX4 0 0 lk12 (fun _ h9 => h9) rfl rfl (by decide) rfl dX4_miss_30 ?_
      refine Wk.iload_n X 0 rfl dX4_miss_33 rfl ?_
      refine Wk.iload_n X 3 rfl dX4_miss_34 rfl ?_
      refine Wk.sipush (v := -1001) X dX4_miss_35 (by decide) ?_
      refine Wk.callVi (n := 3) (q0 := 1) X (c_X3_replace l dC dI cI cJ cZ h n li gr nb sc t ki fe lm si va he up lo pu pl gh gs bf b1 b2 b3 bu bl se r f1 (-1001) (by first | omega | assumption) (by first | omega | assumption)) gX4_miss_X3_replace rfl (by decide +kernel) (by decide) Fr.all (fun h9 => h9) rfl rfl rfl rfl (Nat.le_of_ble_eq_true rfl) ⟨Nat.zero_le _, Nat.zero_le _⟩ dX4_miss_38 ?_
      refine Wk.sipush (v := -1001) X dX4_miss_41 (by decide) ?_
      refine Wk.icmp_ne X 51 dX4_miss_44 (by decide) (fun c3 => ?_) (fun c3 => ?_)
      · skip
        refine Wk.iconst (v := nI 1) X dX4_miss_51 (by decide) ?_
        exact Wk.iret X hr hk (by clear er; simp [msR, nIc1, nI_0, *]) (by clear er; simp [msB, *]) dX4_miss_52
      · skip
        refine Wk.iconst (v := nI 0) X dX4_miss_47 (by decide) ?_
        refine Wk.goto X 52 dX4_miss_48 (by decide) ?_
        exact Wk.iret X hr hk (by clear er; simp [msR, nIc1, nI_0, *]) (by clear er; simp [msB, *]) dX4_miss_52
    · skip
      refine Wk.sipush (v := -10002) X dX4_miss_25 (by decide) ?_
      exact Wk.iret X hr hk (by simp [msR, *]) (by simp [msB, *]) dX4_miss_28
  · skip
    refine Wk.sipush (v := -10001) X dX4_miss_14 (by decide) ?_
    exact Wk.iret X hr hk (by simp [msR, *]) (by simp [msB, *]) dX4_miss_17

set_option maxHeartbeats 4000000 in
set_option maxRecDepth 100000 in
theorem c_X4_cut (l : Launch) (dC : Nat → ClassId) (dI : Nat → Nat → Nat) (cI cJ cZ : ClassId) (h : Nat → Nat) (n : Nat) (li : Nat → Int32) (gr : Nat → Int32) (nb : Nat → Int32) (sc : Nat → Int64) (t : Nat) (ki : Nat → Int32) (fe : Nat → Int32) (lm : Nat → Int32) (si : Nat → Int32) (va : Nat → Int32) (he : Nat → Int32) (up : Nat → Int64) (lo : Nat → Int64) (pu : Nat → Int32) (pl : Nat → Int32) (gh : Nat) (gs : Int32) (bf : Bool) (b1 : Int32) (b2 : Int32) (b3 : Int32) (bu : Int64) (bl : Int64) (se : Nat → Int32) (ht0 : t ≤ 20) : Ci l yX4_cut wsX4_cut 0 0 (dC, dI) cl6 (TY cI cJ cZ) false [.ref (h 0)] (Wc h cI cJ cZ n li gr nb sc t ki fe lm si va he up lo pu pl gh gs bf b1 b2 b3 bu bl se) (if t = 0 then -10004 else nI (t - 1)) (Wc h cI cJ cZ n li gr nb sc (t - 1) ki fe lm si va he up lo pu pl gh gs bf b1 b2 b3 bu bl se) := by
  have e0 : nI t = 0 ↔ t = 0 := nI_eq (b := 0) (by omega) (by decide)
  refine Ci.of (cc := cX4_cut) (maxL := 1) (ty := .int) (own := RX4) rfl (plainFor_of_name (by decide)) rfl (Nat.le_of_ble_eq_true rfl) ?_
  intro pg ev s0 md ar bw mt cd A X hr hk
  show Wk pg l ev _ s0 md ar bw mt cd 0 0 _ 1 (dC, dI) cl6 A 0 [(0, .ref (h 0))] [] (Wc h cI cJ cZ n li gr nb sc t ki fe lm si va he up lo pu pl gh gs bf b1 b2 b3 bu bl se)
  have inX1 : ∀ w ∈ u_ws RX1 TX1 9, w ∈ wsX4_cut := by decide +kernel
  have inX4 : ∀ w ∈ u_ws RX4 TX4 4, w ∈ wsX4_cut := by decide +kernel
  have lk19 := X.w (.fieldLink RX4 19 "PairedTrees" "forest" "LPairedTrees$Forest;") (by decide +kernel)
  have lk94 := X.w (.fieldLink RX4 94 "PairedTrees$Forest" "count" "I") (by decide +kernel)
  refine Wk.aload_n X 0 rfl dX4_cut_0 rfl ?_
  refine Wk.get X inX4 0 1 lk19 (fun _ h9 => h9) rfl rfl (by decide) rfl dX4_cut_1 ?_
  refine Wk.get X inX1 6 0 lk94 (fun _ h9 => h9) rfl rfl (by decide) rfl dX4_cut_4 ?_
  refine Wk.if_ne X 14 dX4_cut_7 (by decide) (fun c1 => ?_) (fun c1 => ?_)
  · skip
    rw [e0] at c1
    refine Wk.aload_n X 0 rfl dX4_cut_14 rfl ?_
    refine Wk.get X inX4 0 1 lk19 (fun _ h9 => h9) rfl rfl (by decide) rfl dX4_cut_15 ?_
    refine Wk.dup X dX4_cut_18 rfl ?_
    refine Wk.get X inX1 6 0 lk94 (fun _ h9 => h9) rfl rfl (by decide) rfl dX4_cut_19 ?_
    refine Wk.iconst (v := nI 1) X dX4_cut_22 (by decide) ?_
    refine Wk.isubN X (by omega) dX4_cut_23 ?_
    refine Wk.put (ws' := Wc h cI cJ cZ n li gr nb sc (t - 1) ki fe lm si va he up lo pu pl gh gs bf b1 b2 b3 bu bl se) X inX1 tyX1 tyX1_ok nmX1 6 0 lk94 (fun _ h9 => h9) rfl rfl (by decide) rfl (tyX1_ok 0 (by decide)) rfl rfl (Nat.le_of_ble_eq_true rfl) rfl dX4_cut_24 ?_
    refine Wk.aload_n X 0 rfl dX4_cut_27 rfl ?_
    refine Wk.get X inX4 0 1 lk19 (fun _ h9 => h9) rfl rfl (by decide) rfl dX4_cut_28 ?_
    refine Wk.get X inX1 6 0 lk94 (fun _ h9 => h9) rfl rfl (by decide) rfl dX4_cut_31 ?_
    exact Wk.iret X hr hk (by simp [*]) rfl dX4_cut_34
  · skip
    rw [e0] at c1
    refine Wk.sipush (v := -10004) X dX4_cut_10 (by decide) ?_
    exact Wk.iret X hr hk (by simp [*]) (by rw [show t - 1 = t by omega]) dX4_cut_13

set_option maxHeartbeats 4000000 in
set_option maxRecDepth 100000 in
theorem c_X4_node (l : Launch) (dC : Nat → ClassId) (dI : Nat → Nat → Nat) (cI cJ cZ : ClassId) (h : Nat → Nat) (n : Nat) (li : Nat → Int32) (gr : Nat → Int32) (nb : Nat → Int32) (sc : Nat → Int64) (t : Nat) (ki : Nat → Int32) (fe : Nat → Int32) (lm : Nat → Int32) (si : Nat → Int32) (va : Nat → Int32) (he : Nat → Int32) (up : Nat → Int64) (lo : Nat → Int64) (pu : Nat → Int32) (pl : Nat → Int32) (gh : Nat) (gs : Int32) (bf : Bool) (b1 : Int32) (b2 : Int32) (b3 : Int32) (bu : Int64) (bl : Int64) (se : Nat → Int32) (x : Int32) (y : Int32) (w0 : Int32) (ht0 : t ≤ 20) : Ci l yX4_node wsX4_node 2 44 (dC, dI) cl6 (TY cI cJ cZ) false [.ref (h 0), .int x, .int y, .int w0] (Wc h cI cJ cZ n li gr nb sc t ki fe lm si va he up lo pu pl gh gs bf b1 b2 b3 bu bl se) (ndR ki fe lm si va he t x y w0) (Wc h cI cJ cZ n li gr nb sc t ki fe lm si va he up lo pu pl gh gs bf b1 b2 b3 bu bl se) := by
  refine Ci.of (cc := cX4_node) (maxL := 6) (ty := .int) (own := RX4) rfl (plainFor_of_name (by decide)) rfl (Nat.le_of_ble_eq_true rfl) ?_
  intro pg ev s0 md ar bw mt cd A X hr hk
  show Wk pg l ev _ s0 md ar bw mt cd 0 0 _ 6 (dC, dI) cl6 A 0 [(0, .ref (h 0)), (1, .int x), (2, .int y), (3, .int w0)] [] (Wc h cI cJ cZ n li gr nb sc t ki fe lm si va he up lo pu pl gh gs bf b1 b2 b3 bu bl se)
  have inX1 : ∀ w ∈ u_ws RX1 TX1 9, w ∈ wsX4_node := by decide +kernel
  have inX4 : ∀ w ∈ u_ws RX4 TX4 4, w ∈ wsX4_node := by decide +kernel
  have lk19 := X.w (.fieldLink RX4 19 "PairedTrees" "forest" "LPairedTrees$Forest;") (by decide +kernel)
  have lk113 := X.w (.fieldLink RX4 113 "PairedTrees$Forest" "kinds" "[I") (by decide +kernel)
  have lk116 := X.w (.fieldLink RX4 116 "PairedTrees$Forest" "features" "[I") (by decide +kernel)
  have lk119 := X.w (.fieldLink RX4 119 "PairedTrees$Forest" "limits" "[I") (by decide +kernel)
  have lk122 := X.w (.fieldLink RX4 122 "PairedTrees$Forest" "sides" "[I") (by decide +kernel)
  have lk125 := X.w (.fieldLink RX4 125 "PairedTrees$Forest" "values" "[I") (by decide +kernel)
  have lk128 := X.w (.fieldLink RX4 128 "PairedTrees$Forest" "held" "[I") (by decide +kernel)
  refine Wk.aload_n X 0 rfl dX4_node_0 rfl ?_
  refine Wk.get X inX4 0 1 lk19 (fun _ h9 => h9) rfl rfl (by decide) rfl dX4_node_1 ?_
  refine Wk.iload_n X 1 rfl dX4_node_4 rfl ?_
  refine Wk.iload_n X 2 rfl dX4_node_5 rfl ?_
  refine Wk.callVi (n := 2) (q0 := 6) X (c_X1_find l dC dI cI cJ cZ h n li gr nb sc t ki fe lm si va he up lo pu pl gh gs bf b1 b2 b3 bu bl se x y (by first | omega | assumption)) gX4_node_X1_find rfl (by decide +kernel) (by decide) Fr.all (fun h9 => h9) rfl rfl rfl rfl (Nat.le_of_ble_eq_true rfl) ⟨Nat.zero_le _, Nat.zero_le _⟩ dX4_node_6 ?_
  refine Wk.istore (lv' := [(4, .int (fdC ki t x y)), (0, .ref (h 0)), (1, .int x), (2, .int y), (3, .int w0)]) X dX4_node_9 (by decide) rfl ?_
  refine Wk.iload X 0 rfl dX4_node_11 ?_
  refine Wk.iconst (v := -1) X dX4_node_13 (by decide) ?_
  refine Wk.icmp_ne X 21 dX4_node_14 (by decide) (fun c1 => ?_) (fun c1 => ?_)
  · skip
    obtain ⟨a, ha9, ea⟩ := fdC_ok ht0 (ki := ki) (x := x) (y := y) c1
    refine Wk.lvq (lv' := [(4, .int (nI a)), (0, .ref (h 0)), (1, .int x), (2, .int y), (3, .int w0)]) (by rw [ea]) ?_
    have ec : (fdC ki t x y).toNatClampNeg = a := by rw [ea]; exact nI_clamp (by omega)
    refine Wk.aload_n X 1 rfl dX4_node_21 rfl ?_
    refine Wk.get X inX4 0 1 lk19 (fun _ h9 => h9) rfl rfl (by decide) rfl dX4_node_22 ?_
    refine Wk.get X inX1 6 1 lk113 (fun _ h9 => h9) rfl rfl (by decide) rfl dX4_node_25 ?_
    have J40 : Wk pg l ev ({ frames := 2, cells := 0, slots := 0, locals := 44 } : Room) s0 md ar bw mt cd 0 0 (QRi bw ar s0 (dC, dI) cl6 (TY cI cJ cZ) A (ndR ki fe lm si va he t x y w0) (Wc h cI cJ cZ n li gr nb sc t ki fe lm si va he up lo pu pl gh gs bf b1 b2 b3 bu bl se)) 6 (dC, dI) cl6 A 40 [(4, .int (nI a)), (0, .ref (h 0)), (1, .int x), (2, .int y), (3, .int w0)] [.int (bI (decide (ki a = nI 2)))] (Wc h cI cJ cZ n li gr nb sc t ki fe lm si va he up lo pu pl gh gs bf b1 b2 b3 bu bl se) := by
      refine Wk.istore (lv' := [(5, .int (bI (decide (ki a = nI 2)))), (4, .int (nI a)), (0, .ref (h 0)), (1, .int x), (2, .int y), (3, .int w0)]) X dX4_node_40 (by decide) rfl ?_
      refine Wk.iload_n X 5 rfl dX4_node_42 rfl ?_
      rcases tab_split w0 5 with ⟨j9, hj9, rfl⟩ | ho
      · rcases (show j9 = 0 ∨ j9 = 1 ∨ j9 = 2 ∨ j9 = 3 ∨ j9 = 4 ∨ j9 = 5 by omega) with rfl | rfl | rfl | rfl | rfl | rfl
        · refine Wk.tableIn X 80 dX4_node_43 (by decide) (by decide) rfl (by decide) ?_
          have e9_1 : ¬ nI 0 = nI 1 := by decide
          have e9_2 : ¬ nI 0 = nI 2 := by decide
          have e9_3 : ¬ nI 0 = nI 3 := by decide
          have e9_4 : ¬ nI 0 = nI 4 := by decide
          have e9_5 : ¬ nI 0 = nI 5 := by decide
          refine Wk.iload X 0 rfl dX4_node_80 ?_
          refine Wk.ifB_eq X 89 dX4_node_82 (by decide) (fun c2 => ?_) (fun c2 => ?_)
          · skip
            replace c2 := of_decide_eq_false c2
            refine Wk.iconst (v := nI 0) X dX4_node_89 (by decide) ?_
            exact Wk.iret X hr hk (by clear ea; simp [ndR, ndA, *]) rfl dX4_node_90
          · skip
            replace c2 := of_decide_eq_true c2
            refine Wk.iconst (v := nI 1) X dX4_node_85 (by decide) ?_
            refine Wk.goto X 90 dX4_node_86 (by decide) ?_
            exact Wk.iret X hr hk (by clear ea; simp [ndR, ndA, *]) rfl dX4_node_90
        · refine Wk.tableIn X 91 dX4_node_43 (by decide) (by decide) rfl (by decide) ?_
          have e9_0 : ¬ nI 1 = nI 0 := by decide
          have e9_2 : ¬ nI 1 = nI 2 := by decide
          have e9_3 : ¬ nI 1 = nI 3 := by decide
          have e9_4 : ¬ nI 1 = nI 4 := by decide
          have e9_5 : ¬ nI 1 = nI 5 := by decide
          refine Wk.iload X 0 rfl dX4_node_91 ?_
          refine Wk.ifB_eq X 109 dX4_node_93 (by decide) (fun c3 => ?_) (fun c3 => ?_)
          · skip
            replace c3 := of_decide_eq_false c3
            refine Wk.sipush (v := -10002) X dX4_node_109 (by decide) ?_
            exact Wk.iret X hr hk (by clear ea; simp [ndR, ndA, *]) rfl dX4_node_112
          · skip
            replace c3 := of_decide_eq_true c3
            refine Wk.aload_n X 2 rfl dX4_node_96 rfl ?_
            refine Wk.get X inX4 0 1 lk19 (fun _ h9 => h9) rfl rfl (by decide) rfl dX4_node_97 ?_
            refine Wk.get X inX1 6 2 lk116 (fun _ h9 => h9) rfl rfl (by decide) rfl dX4_node_100 ?_
            refine Wk.iload X 1 rfl dX4_node_103 ?_
            refine Wk.iald X 8 0 rfl rfl (by omega) (by decide) dX4_node_105 ?_
            refine Wk.goto X 112 dX4_node_106 (by decide) ?_
            exact Wk.iret X hr hk (by clear ea; simp [ndR, ndA, *]) rfl dX4_node_112
        · refine Wk.tableIn X 113 dX4_node_43 (by decide) (by decide) rfl (by decide) ?_
          have e9_0 : ¬ nI 2 = nI 0 := by decide
          have e9_1 : ¬ nI 2 = nI 1 := by decide
          have e9_3 : ¬ nI 2 = nI 3 := by decide
          have e9_4 : ¬ nI 2 = nI 4 := by decide
          have e9_5 : ¬ nI 2 = nI 5 := by decide
          refine Wk.iload X 0 rfl dX4_node_113 ?_
          refine Wk.ifB_eq X 131 dX4_node_115 (by decide) (fun c4 => ?_) (fun c4 => ?_)
          · skip
            replace c4 := of_decide_eq_false c4
            refine Wk.sipush (v := -10002) X dX4_node_131 (by decide) ?_
            exact Wk.iret X hr hk (by clear ea; simp [ndR, ndA, *]) rfl dX4_node_134
          · skip
            replace c4 := of_decide_eq_true c4
            refine Wk.aload_n X 2 rfl dX4_node_118 rfl ?_
            refine Wk.get X inX4 0 1 lk19 (fun _ h9 => h9) rfl rfl (by decide) rfl dX4_node_119 ?_
            refine Wk.get X inX1 6 3 lk119 (fun _ h9 => h9) rfl rfl (by decide) rfl dX4_node_122 ?_
            refine Wk.iload X 1 rfl dX4_node_125 ?_
            refine Wk.iald X 9 0 rfl rfl (by omega) (by decide) dX4_node_127 ?_
            refine Wk.goto X 134 dX4_node_128 (by decide) ?_
            exact Wk.iret X hr hk (by clear ea; simp [ndR, ndA, *]) rfl dX4_node_134
        · refine Wk.tableIn X 135 dX4_node_43 (by decide) (by decide) rfl (by decide) ?_
          have e9_0 : ¬ nI 3 = nI 0 := by decide
          have e9_1 : ¬ nI 3 = nI 1 := by decide
          have e9_2 : ¬ nI 3 = nI 2 := by decide
          have e9_4 : ¬ nI 3 = nI 4 := by decide
          have e9_5 : ¬ nI 3 = nI 5 := by decide
          refine Wk.iload X 0 rfl dX4_node_135 ?_
          refine Wk.ifB_eq X 153 dX4_node_137 (by decide) (fun c5 => ?_) (fun c5 => ?_)
          · skip
            replace c5 := of_decide_eq_false c5
            refine Wk.sipush (v := -10002) X dX4_node_153 (by decide) ?_
            exact Wk.iret X hr hk (by clear ea; simp [ndR, ndA, *]) rfl dX4_node_156
          · skip
            replace c5 := of_decide_eq_true c5
            refine Wk.aload_n X 2 rfl dX4_node_140 rfl ?_
            refine Wk.get X inX4 0 1 lk19 (fun _ h9 => h9) rfl rfl (by decide) rfl dX4_node_141 ?_
            refine Wk.get X inX1 6 4 lk122 (fun _ h9 => h9) rfl rfl (by decide) rfl dX4_node_144 ?_
            refine Wk.iload X 1 rfl dX4_node_147 ?_
            refine Wk.iald X 10 0 rfl rfl (by omega) (by decide) dX4_node_149 ?_
            refine Wk.goto X 156 dX4_node_150 (by decide) ?_
            exact Wk.iret X hr hk (by clear ea; simp [ndR, ndA, *]) rfl dX4_node_156
        · refine Wk.tableIn X 157 dX4_node_43 (by decide) (by decide) rfl (by decide) ?_
          have e9_0 : ¬ nI 4 = nI 0 := by decide
          have e9_1 : ¬ nI 4 = nI 1 := by decide
          have e9_2 : ¬ nI 4 = nI 2 := by decide
          have e9_3 : ¬ nI 4 = nI 3 := by decide
          have e9_5 : ¬ nI 4 = nI 5 := by decide
          refine Wk.iload X 0 rfl dX4_node_157 ?_
          refine Wk.ifB_eq X 168 dX4_node_159 (by decide) (fun c6 => ?_) (fun c6 => ?_)
          · skip
            replace c6 := of_decide_eq_false c6
            refine Wk.aload_n X 2 rfl dX4_node_168 rfl ?_
            refine Wk.get X inX4 0 1 lk19 (fun _ h9 => h9) rfl rfl (by decide) rfl dX4_node_169 ?_
            refine Wk.get X inX1 6 5 lk125 (fun _ h9 => h9) rfl rfl (by decide) rfl dX4_node_172 ?_
            refine Wk.iload X 1 rfl dX4_node_175 ?_
            refine Wk.iald X 11 0 rfl rfl (by omega) (by decide) dX4_node_177 ?_
            exact Wk.iret X hr hk (by clear ea; simp [ndR, ndA, *]) rfl dX4_node_178
          · skip
            replace c6 := of_decide_eq_true c6
            refine Wk.sipush (v := -10002) X dX4_node_162 (by decide) ?_
            refine Wk.goto X 178 dX4_node_165 (by decide) ?_
            exact Wk.iret X hr hk (by clear ea; simp [ndR, ndA, *]) rfl dX4_node_178
        · refine Wk.tableIn X 179 dX4_node_43 (by decide) (by decide) rfl (by decide) ?_
          have e9_0 : ¬ nI 5 = nI 0 := by decide
          have e9_1 : ¬ nI 5 = nI 1 := by decide
          have e9_2 : ¬ nI 5 = nI 2 := by decide
          have e9_3 : ¬ nI 5 = nI 3 := by decide
          have e9_4 : ¬ nI 5 = nI 4 := by decide
          refine Wk.aload_n X 2 rfl dX4_node_179 rfl ?_
          refine Wk.get X inX4 0 1 lk19 (fun _ h9 => h9) rfl rfl (by decide) rfl dX4_node_180 ?_
          refine Wk.get X inX1 6 6 lk128 (fun _ h9 => h9) rfl rfl (by decide) rfl dX4_node_183 ?_
          refine Wk.iload X 1 rfl dX4_node_186 ?_
          refine Wk.iald X 12 0 rfl rfl (by omega) (by decide) dX4_node_188 ?_
          exact Wk.iret X hr hk (by clear ea; simp [ndR, ndA, *]) rfl dX4_node_189
      · refine Wk.tableOut X 190 dX4_node_43 ho (by decide) ?_
        have e9_0 : ¬ w0 = nI 0 := tab_ne (hi := 5) ho 0 ⟨by decide, by decide⟩
        have e9_1 : ¬ w0 = nI 1 := tab_ne (hi := 5) ho 1 ⟨by decide, by decide⟩
        have e9_2 : ¬ w0 = nI 2 := tab_ne (hi := 5) ho 2 ⟨by decide, by decide⟩
        have e9_3 : ¬ w0 = nI 3 := tab_ne (hi := 5) ho 3 ⟨by decide, by decide⟩
        have e9_4 : ¬ w0 = nI 4 := tab_ne (hi := 5) ho 4 ⟨by decide, by decide⟩
        have e9_5 : ¬ w0 = nI 5 := tab_ne (hi := 5) ho 5 ⟨by decide, by decide⟩
        refine Wk.sipush (v := -10002) X dX4_node_190 (by decide) ?_
        exact Wk.iret X hr hk (by clear ea; simp [ndR, ndA, *]) rfl dX4_node_193
    refine Wk.iload X 0 rfl dX4_node_28 ?_
    refine Wk.iald X 7 0 rfl rfl (by omega) (by decide) dX4_node_30 ?_
    refine Wk.iconst (v := nI 2) X dX4_node_31 (by decide) ?_
    refine Wk.icmp_ne X 39 dX4_node_32 (by decide) (fun c7 => ?_) (fun c7 => ?_)
    · skip
      refine Wk.iconst (v := nI 0) X dX4_node_39 (by decide) ?_
      refine Wk.topi (y := bI (decide (ki a = nI 2))) (by simp [bI, nI_0, nIc1, *]) ?_
      exact J40
    · skip
      refine Wk.iconst (v := nI 1) X dX4_node_35 (by decide) ?_
      refine Wk.goto X 40 dX4_node_36 (by decide) ?_
      refine Wk.topi (y := bI (decide (ki a = nI 2))) (by simp [bI, nI_0, nIc1, *]) ?_
      exact J40
  · skip
    refine Wk.sipush (v := -10001) X dX4_node_17 (by decide) ?_
    exact Wk.iret X hr hk (by simp [ndR, *]) rfl dX4_node_20

set_option maxHeartbeats 4000000 in
set_option maxRecDepth 100000 in
theorem c_X4_gain (l : Launch) (dC : Nat → ClassId) (dI : Nat → Nat → Nat) (cI cJ cZ : ClassId) (h : Nat → Nat) (n : Nat) (li : Nat → Int32) (gr : Nat → Int32) (nb : Nat → Int32) (sc : Nat → Int64) (t : Nat) (ki : Nat → Int32) (fe : Nat → Int32) (lm : Nat → Int32) (si : Nat → Int32) (va : Nat → Int32) (he : Nat → Int32) (up : Nat → Int64) (lo : Nat → Int64) (pu : Nat → Int32) (pl : Nat → Int32) (gh : Nat) (gs : Int32) (bf : Bool) (b1 : Int32) (b2 : Int32) (b3 : Int32) (bu : Int64) (bl : Int64) (se : Nat → Int32) (x : Int32) (y : Int32) (w0 : Int32) (ht0 : t ≤ 20) : Cl l yX4_gain wsX4_gain 2 44 (dC, dI) cl6 (TY cI cJ cZ) false [.ref (h 0), .int x, .int y, .int w0] (Wc h cI cJ cZ n li gr nb sc t ki fe lm si va he up lo pu pl gh gs bf b1 b2 b3 bu bl se) (gnR ki up lo t x y w0) (Wc h cI cJ cZ n li gr nb sc t ki fe lm si va he up lo pu pl gh gs bf b1 b2 b3 bu bl se) := by
  refine Cl.of (cc := cX4_gain) (maxL := 5) (ty := .long) (own := RX4) rfl (plainFor_of_name (by decide)) rfl (Nat.le_of_ble_eq_true rfl) ?_
  intro pg ev s0 md ar bw mt cd A X hr hk
  show Wk pg l ev _ s0 md ar bw mt cd 0 0 _ 5 (dC, dI) cl6 A 0 [(0, .ref (h 0)), (1, .int x), (2, .int y), (3, .int w0)] [] (Wc h cI cJ cZ n li gr nb sc t ki fe lm si va he up lo pu pl gh gs bf b1 b2 b3 bu bl se)
  have inX1 : ∀ w ∈ u_ws RX1 TX1 9, w ∈ wsX4_gain := by decide +kernel
  have inX4 : ∀ w ∈ u_ws RX4 TX4 4, w ∈ wsX4_gain := by decide +kernel
  have lk19 := X.w (.fieldLink RX4 19 "PairedTrees" "forest" "LPairedTrees$Forest;") (by decide +kernel)
  have lk113 := X.w (.fieldLink RX4 113 "PairedTrees$Forest" "kinds" "[I") (by decide +kernel)
  have lk133 := X.w (.fieldLink RX4 133 "PairedTrees$Forest" "uppers" "[J") (by decide +kernel)
  have lk137 := X.w (.fieldLink RX4 137 "PairedTrees$Forest" "lowers" "[J") (by decide +kernel)
  have kc131 := X.w (.constantLong RX4 131 (-10001)) (by decide +kernel)
  have kc140 := X.w (.constantLong RX4 140 (-10002)) (by decide +kernel)
  refine Wk.aload_n X 0 rfl dX4_gain_0 rfl ?_
  refine Wk.get X inX4 0 1 lk19 (fun _ h9 => h9) rfl rfl (by decide) rfl dX4_gain_1 ?_
  refine Wk.iload_n X 1 rfl dX4_gain_4 rfl ?_
  refine Wk.iload_n X 2 rfl dX4_gain_5 rfl ?_
  refine Wk.callVi (n := 2) (q0 := 6) X (c_X1_find l dC dI cI cJ cZ h n li gr nb sc t ki fe lm si va he up lo pu pl gh gs bf b1 b2 b3 bu bl se x y (by first | omega | assumption)) gX4_gain_X1_find rfl (by decide +kernel) (by decide) Fr.all (fun h9 => h9) rfl rfl rfl rfl (Nat.le_of_ble_eq_true rfl) ⟨Nat.zero_le _, Nat.zero_le _⟩ dX4_gain_6 ?_
  refine Wk.istore (lv' := [(4, .int (fdC ki t x y)), (0, .ref (h 0)), (1, .int x), (2, .int y), (3, .int w0)]) X dX4_gain_9 (by decide) rfl ?_
  refine Wk.iload X 0 rfl dX4_gain_11 ?_
  refine Wk.iconst (v := -1) X dX4_gain_13 (by decide) ?_
  refine Wk.icmp_eq X 31 dX4_gain_14 (by decide) (fun c1 => ?_) (fun c1 => ?_)
  · skip
    refine Wk.ldc2 X kc131 dX4_gain_31 ?_
    exact Wk.lret X hr hk (by first | (simp [gnR, *]; done) | (clear ea; simp [gnR, *])) rfl dX4_gain_34
  · skip
    obtain ⟨a, ha9, ea⟩ := fdC_ok ht0 (ki := ki) (x := x) (y := y) c1
    refine Wk.lvq (lv' := [(4, .int (nI a)), (0, .ref (h 0)), (1, .int x), (2, .int y), (3, .int w0)]) (by rw [ea]) ?_
    have ec : (fdC ki t x y).toNatClampNeg = a := by rw [ea]; exact nI_clamp (by omega)
    refine Wk.aload_n X 1 rfl dX4_gain_17 rfl ?_
    refine Wk.get X inX4 0 1 lk19 (fun _ h9 => h9) rfl rfl (by decide) rfl dX4_gain_18 ?_
    refine Wk.get X inX1 6 1 lk113 (fun _ h9 => h9) rfl rfl (by decide) rfl dX4_gain_21 ?_
    refine Wk.iload X 0 rfl dX4_gain_24 ?_
    refine Wk.iald X 7 0 rfl rfl (by omega) (by decide) dX4_gain_26 ?_
    refine Wk.iconst (v := nI 2) X dX4_gain_27 (by decide) ?_
    refine Wk.icmp_eq X 35 dX4_gain_28 (by decide) (fun c2 => ?_) (fun c2 => ?_)
    · skip
      refine Wk.iload_n X 4 rfl dX4_gain_35 rfl ?_
      rcases tab_split w0 1 with ⟨j9, hj9, rfl⟩ | ho
      · rcases (show j9 = 0 ∨ j9 = 1 by omega) with rfl | rfl
        · refine Wk.lookup (off := 28) X 64 dX4_gain_36 (by decide) (by decide) (by decide) ?_
          have e9_1 : ¬ nI 0 = nI 1 := by decide
          refine Wk.aload_n X 1 rfl dX4_gain_64 rfl ?_
          refine Wk.get X inX4 0 1 lk19 (fun _ h9 => h9) rfl rfl (by decide) rfl dX4_gain_65 ?_
          refine Wk.get X inX1 6 7 lk133 (fun _ h9 => h9) rfl rfl (by decide) rfl dX4_gain_68 ?_
          refine Wk.iload X 0 rfl dX4_gain_71 ?_
          refine Wk.lald X 13 1 rfl rfl (by omega) (by decide) dX4_gain_73 ?_
          exact Wk.lret X hr hk (by clear ea; simp [gnR, *]) rfl dX4_gain_74
        · refine Wk.lookup (off := 39) X 75 dX4_gain_36 (by decide) (by decide) (by decide) ?_
          have e9_0 : ¬ nI 1 = nI 0 := by decide
          refine Wk.aload_n X 1 rfl dX4_gain_75 rfl ?_
          refine Wk.get X inX4 0 1 lk19 (fun _ h9 => h9) rfl rfl (by decide) rfl dX4_gain_76 ?_
          refine Wk.get X inX1 6 8 lk137 (fun _ h9 => h9) rfl rfl (by decide) rfl dX4_gain_79 ?_
          refine Wk.iload X 0 rfl dX4_gain_82 ?_
          refine Wk.lald X 14 1 rfl rfl (by omega) (by decide) dX4_gain_84 ?_
          exact Wk.lret X hr hk (by clear ea; simp [gnR, *]) rfl dX4_gain_85
      · refine Wk.lookup X 86 dX4_gain_36 (by decide) (lk_out ho) (by decide) ?_
        have e9_0 : ¬ w0 = nI 0 := tab_ne (hi := 1) ho 0 ⟨by decide, by decide⟩
        have e9_1 : ¬ w0 = nI 1 := tab_ne (hi := 1) ho 1 ⟨by decide, by decide⟩
        refine Wk.ldc2 X kc140 dX4_gain_86 ?_
        exact Wk.lret X hr hk (by clear ea; simp [gnR, *]) rfl dX4_gain_89
    · skip
      refine Wk.ldc2 X kc131 dX4_gain_31 ?_
      exact Wk.lret X hr hk (by first | (simp [gnR, *]; done) | (clear ea; simp [gnR, *])) rfl dX4_gain_34

set_option maxHeartbeats 4000000 in
set_option maxRecDepth 100000 in
theorem c_X4_score (l : Launch) (dC : Nat → ClassId) (dI : Nat → Nat → Nat) (cI cJ cZ : ClassId) (h : Nat → Nat) (n : Nat) (li : Nat → Int32) (gr : Nat → Int32) (nb : Nat → Int32) (sc : Nat → Int64) (t : Nat) (ki : Nat → Int32) (fe : Nat → Int32) (lm : Nat → Int32) (si : Nat → Int32) (va : Nat → Int32) (he : Nat → Int32) (up : Nat → Int64) (lo : Nat → Int64) (pu : Nat → Int32) (pl : Nat → Int32) (gh : Nat) (gs : Int32) (bf : Bool) (b1 : Int32) (b2 : Int32) (b3 : Int32) (bu : Int64) (bl : Int64) (se : Nat → Int32) (x : Int32) (hn0 : n ≤ 24) (ht0 : t ≤ 20) (hfe : ∀ j, j < t * 15 → ki j = nI 2 → ∃ f, f < 4 ∧ fe j = nI f) : Cl l yX4_score wsX4_score 4 100 (dC, dI) cl6 (TY cI cJ cZ) false [.ref (h 0), .int x] (Wc h cI cJ cZ n li gr nb sc t ki fe lm si va he up lo pu pl gh gs bf b1 b2 b3 bu bl se) (if rowC x n = -1 then -10001 else scoreC ki fe lm si va nb t (rowC x n).toNatClampNeg) (Wc h cI cJ cZ n li gr nb sc t ki fe lm si va he up lo pu pl gh gs bf b1 b2 b3 bu bl se) := by
  refine Cl.of (cc := cX4_score) (maxL := 3) (ty := .long) (own := RX4) rfl (plainFor_of_name (by decide)) rfl (Nat.le_of_ble_eq_true rfl) ?_
  intro pg ev s0 md ar bw mt cd A X hr hk
  show Wk pg l ev _ s0 md ar bw mt cd 0 0 _ 3 (dC, dI) cl6 A 0 [(0, .ref (h 0)), (1, .int x)] [] (Wc h cI cJ cZ n li gr nb sc t ki fe lm si va he up lo pu pl gh gs bf b1 b2 b3 bu bl se)
  have inX4 : ∀ w ∈ u_ws RX4 TX4 4, w ∈ wsX4_score := by decide +kernel
  have lk12 := X.w (.fieldLink RX4 12 "PairedTrees" "things" "LPairedTrees$Things;") (by decide +kernel)
  have lk19 := X.w (.fieldLink RX4 19 "PairedTrees" "forest" "LPairedTrees$Forest;") (by decide +kernel)
  have kc131 := X.w (.constantLong RX4 131 (-10001)) (by decide +kernel)
  refine Wk.aload_n X 0 rfl dX4_score_0 rfl ?_
  refine Wk.get X inX4 0 0 lk12 (fun _ h9 => h9) rfl rfl (by decide) rfl dX4_score_1 ?_
  refine Wk.iload_n X 1 rfl dX4_score_4 rfl ?_
  refine Wk.callVi (n := 1) (q0 := 1) X (c_X3_rowOf l dC dI cI cJ cZ h n li gr nb sc t ki fe lm si va he up lo pu pl gh gs bf b1 b2 b3 bu bl se x) gX4_score_X3_rowOf rfl (by decide +kernel) (by decide) Fr.all (fun h9 => h9) rfl rfl rfl rfl (Nat.le_of_ble_eq_true rfl) ⟨Nat.zero_le _, Nat.zero_le _⟩ dX4_score_5 ?_
  refine Wk.istore_n (lv' := [(2, .int (rowC x n)), (0, .ref (h 0)), (1, .int x)]) X dX4_score_8 rfl (by decide) rfl ?_
  refine Wk.iload_n X 0 rfl dX4_score_9 rfl ?_
  refine Wk.iconst (v := -1) X dX4_score_10 (by decide) ?_
  refine Wk.icmp_ne X 18 dX4_score_11 (by decide) (fun c1 => ?_) (fun c1 => ?_)
  · skip
    obtain ⟨r, hr9, er⟩ := rowC_ok (x := x) hn0 c1
    refine Wk.lvq (lv' := [(2, .int (nI r)), (0, .ref (h 0)), (1, .int x)]) (by rw [er]) ?_
    have ec : (rowC x n).toNatClampNeg = r := by rw [er]; exact nI_clamp (by omega)
    refine Wk.aload_n X 1 rfl dX4_score_18 rfl ?_
    refine Wk.get X inX4 0 1 lk19 (fun _ h9 => h9) rfl rfl (by decide) rfl dX4_score_19 ?_
    refine Wk.aload_n X 1 rfl dX4_score_22 rfl ?_
    refine Wk.get X inX4 0 0 lk12 (fun _ h9 => h9) rfl rfl (by decide) rfl dX4_score_23 ?_
    refine Wk.iload_n X 0 rfl dX4_score_26 rfl ?_
    refine Wk.callVl (n := 2) (q0 := 6) X (c_X1_sumFor l dC dI cI cJ cZ h n li gr nb sc t ki fe lm si va he up lo pu pl gh gs bf b1 b2 b3 bu bl se r (by first | omega | assumption) (by first | omega | assumption) (by first | omega | assumption)) gX4_score_X1_sumFor rfl (by decide +kernel) (by decide) Fr.all (fun h9 => h9) rfl rfl rfl rfl (Nat.le_of_ble_eq_true rfl) ⟨Nat.zero_le _, Nat.zero_le _⟩ dX4_score_27 ?_
    exact Wk.lret X hr hk (by clear er; simp [*]) rfl dX4_score_30
  · skip
    refine Wk.ldc2 X kc131 dX4_score_14 ?_
    exact Wk.lret X hr hk (by simp [*]) rfl dX4_score_17

set_option maxHeartbeats 4000000 in
set_option maxRecDepth 100000 in
theorem c_X4_value (l : Launch) (dC : Nat → ClassId) (dI : Nat → Nat → Nat) (cI cJ cZ : ClassId) (h : Nat → Nat) (n : Nat) (li : Nat → Int32) (gr : Nat → Int32) (nb : Nat → Int32) (sc : Nat → Int64) (t : Nat) (ki : Nat → Int32) (fe : Nat → Int32) (lm : Nat → Int32) (si : Nat → Int32) (va : Nat → Int32) (he : Nat → Int32) (up : Nat → Int64) (lo : Nat → Int64) (pu : Nat → Int32) (pl : Nat → Int32) (gh : Nat) (gs : Int32) (bf : Bool) (b1 : Int32) (b2 : Int32) (b3 : Int32) (bu : Int64) (bl : Int64) (se : Nat → Int32) (tr0 : Int32) (x : Int32) (hn0 : n ≤ 24) (ht0 : t ≤ 20) (hfe : ∀ j, j < t * 15 → ki j = nI 2 → ∃ f, f < 4 ∧ fe j = nI f) : Ci l yX4_value wsX4_value 3 75 (dC, dI) cl6 (TY cI cJ cZ) false [.ref (h 0), .int tr0, .int x] (Wc h cI cJ cZ n li gr nb sc t ki fe lm si va he up lo pu pl gh gs bf b1 b2 b3 bu bl se) (if inN tr0 t = true ∧ ¬ rowC x n = -1 then va (tr0.toNatClampNeg * 15 + vfC ki (gC fe lm si nb (rowC x n).toNatClampNeg) (tr0.toNatClampNeg * 15) 3 0) else -10001) (Wc h cI cJ cZ n li gr nb sc t ki fe lm si va he up lo pu pl gh gs bf b1 b2 b3 bu bl se) := by
  refine Ci.of (cc := cX4_value) (maxL := 4) (ty := .int) (own := RX4) rfl (plainFor_of_name (by decide)) rfl (Nat.le_of_ble_eq_true rfl) ?_
  intro pg ev s0 md ar bw mt cd A X hr hk
  show Wk pg l ev _ s0 md ar bw mt cd 0 0 _ 4 (dC, dI) cl6 A 0 [(0, .ref (h 0)), (1, .int tr0), (2, .int x)] [] (Wc h cI cJ cZ n li gr nb sc t ki fe lm si va he up lo pu pl gh gs bf b1 b2 b3 bu bl se)
  have inX4 : ∀ w ∈ u_ws RX4 TX4 4, w ∈ wsX4_value := by decide +kernel
  have lk12 := X.w (.fieldLink RX4 12 "PairedTrees" "things" "LPairedTrees$Things;") (by decide +kernel)
  have lk19 := X.w (.fieldLink RX4 19 "PairedTrees" "forest" "LPairedTrees$Forest;") (by decide +kernel)
  refine Wk.aload_n X 0 rfl dX4_value_0 rfl ?_
  refine Wk.get X inX4 0 0 lk12 (fun _ h9 => h9) rfl rfl (by decide) rfl dX4_value_1 ?_
  refine Wk.iload_n X 2 rfl dX4_value_4 rfl ?_
  refine Wk.callVi (n := 1) (q0 := 1) X (c_X3_rowOf l dC dI cI cJ cZ h n li gr nb sc t ki fe lm si va he up lo pu pl gh gs bf b1 b2 b3 bu bl se x) gX4_value_X3_rowOf rfl (by decide +kernel) (by decide) Fr.all (fun h9 => h9) rfl rfl rfl rfl (Nat.le_of_ble_eq_true rfl) ⟨Nat.zero_le _, Nat.zero_le _⟩ dX4_value_5 ?_
  refine Wk.istore_n (lv' := [(3, .int (rowC x n)), (0, .ref (h 0)), (1, .int tr0), (2, .int x)]) X dX4_value_8 rfl (by decide) rfl ?_
  refine Wk.aload_n X 1 rfl dX4_value_9 rfl ?_
  refine Wk.get X inX4 0 1 lk19 (fun _ h9 => h9) rfl rfl (by decide) rfl dX4_value_10 ?_
  refine Wk.iload_n X 2 rfl dX4_value_13 rfl ?_
  refine Wk.callVi (n := 1) (q0 := 6) X (c_X1_has l dC dI cI cJ cZ h n li gr nb sc t ki fe lm si va he up lo pu pl gh gs bf b1 b2 b3 bu bl se tr0) gX4_value_X1_has rfl (by decide +kernel) (by decide) Fr.all (fun h9 => h9) rfl rfl rfl rfl (Nat.le_of_ble_eq_true rfl) ⟨Nat.zero_le _, Nat.zero_le _⟩ dX4_value_14 ?_
  refine Wk.ifB_eq X 25 dX4_value_17 (by decide) (fun c1 => ?_) (fun c1 => ?_)
  · skip
    refine Wk.sipush (v := -10001) X dX4_value_25 (by decide) ?_
    exact Wk.iret X hr hk (by simp [*]) rfl dX4_value_28
  · skip
    refine Wk.iload_n X 0 rfl dX4_value_20 rfl ?_
    refine Wk.iconst (v := -1) X dX4_value_21 (by decide) ?_
    refine Wk.icmp_ne X 29 dX4_value_22 (by decide) (fun c2 => ?_) (fun c2 => ?_)
    · skip
      obtain ⟨r, hr9, er⟩ := rowC_ok (x := x) hn0 c2
      refine Wk.lvq (lv' := [(3, .int (nI r)), (0, .ref (h 0)), (1, .int tr0), (2, .int x)]) (by rw [er]) ?_
      have ec : (rowC x n).toNatClampNeg = r := by rw [er]; exact nI_clamp (by omega)
      obtain ⟨tr, htr, rfl⟩ := inN_t (x := tr0) (n := t) (by omega) c1
      have hi9 := inN_nI htr (show t < 2 ^ 31 by omega)
      have ec2 : (nI tr).toNatClampNeg = tr := nI_clamp (by omega)
      refine Wk.aload_n X 1 rfl dX4_value_29 rfl ?_
      refine Wk.get X inX4 0 1 lk19 (fun _ h9 => h9) rfl rfl (by decide) rfl dX4_value_30 ?_
      refine Wk.iload_n X 2 rfl dX4_value_33 rfl ?_
      refine Wk.aload_n X 1 rfl dX4_value_34 rfl ?_
      refine Wk.get X inX4 0 0 lk12 (fun _ h9 => h9) rfl rfl (by decide) rfl dX4_value_35 ?_
      refine Wk.iload_n X 0 rfl dX4_value_38 rfl ?_
      refine Wk.callVi (n := 3) (q0 := 6) X (c_X1_valueFor l dC dI cI cJ cZ h n li gr nb sc t ki fe lm si va he up lo pu pl gh gs bf b1 b2 b3 bu bl se tr r (by first | omega | assumption) (by first | omega | assumption) (by exact fun k1 h1 h2 => hfe _ (by omega) h2)) gX4_value_X1_valueFor rfl (by decide +kernel) (by decide) Fr.all (fun h9 => h9) rfl rfl rfl rfl (Nat.le_of_ble_eq_true rfl) ⟨Nat.zero_le _, Nat.zero_le _⟩ dX4_value_39 ?_
      exact Wk.iret X hr hk (by clear er; simp [*]) rfl dX4_value_42
    · skip
      refine Wk.sipush (v := -10001) X dX4_value_25 (by decide) ?_
      exact Wk.iret X hr hk (by simp [*]) rfl dX4_value_28

set_option maxHeartbeats 4000000 in
set_option maxRecDepth 100000 in
theorem c_X4_push (l : Launch) (dC : Nat → ClassId) (dI : Nat → Nat → Nat) (cI cJ cZ : ClassId) (h : Nat → Nat) (n : Nat) (li : Nat → Int32) (gr : Nat → Int32) (nb : Nat → Int32) (sc : Nat → Int64) (t : Nat) (ki : Nat → Int32) (fe : Nat → Int32) (lm : Nat → Int32) (si : Nat → Int32) (va : Nat → Int32) (he : Nat → Int32) (up : Nat → Int64) (lo : Nat → Int64) (pu : Nat → Int32) (pl : Nat → Int32) (gh : Nat) (gs : Int32) (bf : Bool) (b1 : Int32) (b2 : Int32) (b3 : Int32) (bu : Int64) (bl : Int64) (se : Nat → Int32) (x : Int32) (hn0 : n ≤ 24) (ht0 : t ≤ 20) (hfe : ∀ j, j < t * 15 → ki j = nI 2 → ∃ f, f < 4 ∧ fe j = nI f) : Ci l yX4_push wsX4_push 5 122 (dC, dI) cl6 (TY cI cJ cZ) false [.ref (h 0), .int x] (Wc h cI cJ cZ n li gr nb sc t ki fe lm si va he up lo pu pl gh gs bf b1 b2 b3 bu bl se) (if inN x n = true then psC li gr (scT sc (scoreC ki fe lm si va nb t) n) (se 0) x.toNatClampNeg n else -10001) (Wc h cI cJ cZ n li gr nb (if inN x n = true then scT sc (scoreC ki fe lm si va nb t) n else sc) t ki fe lm si va he up lo pu pl gh gs bf b1 b2 b3 bu bl se) := by
  refine Ci.of (cc := cX4_push) (maxL := 2) (ty := .int) (own := RX4) rfl (plainFor_of_name (by decide)) rfl (Nat.le_of_ble_eq_true rfl) ?_
  intro pg ev s0 md ar bw mt cd A X hr hk
  show Wk pg l ev _ s0 md ar bw mt cd 0 0 _ 2 (dC, dI) cl6 A 0 [(0, .ref (h 0)), (1, .int x)] [] (Wc h cI cJ cZ n li gr nb sc t ki fe lm si va he up lo pu pl gh gs bf b1 b2 b3 bu bl se)
  have inX4 : ∀ w ∈ u_ws RX4 TX4 4, w ∈ wsX4_push := by decide +kernel
  have lk12 := X.w (.fieldLink RX4 12 "PairedTrees" "things" "LPairedTrees$Things;") (by decide +kernel)
  have lk19 := X.w (.fieldLink RX4 19 "PairedTrees" "forest" "LPairedTrees$Forest;") (by decide +kernel)
  have lk30 := X.w (.fieldLink RX4 30 "PairedTrees" "settings" "[I") (by decide +kernel)
  refine Wk.aload_n X 0 rfl dX4_push_0 rfl ?_
  refine Wk.get X inX4 0 0 lk12 (fun _ h9 => h9) rfl rfl (by decide) rfl dX4_push_1 ?_
  refine Wk.iload_n X 1 rfl dX4_push_4 rfl ?_
  refine Wk.callVi (n := 1) (q0 := 1) X (c_X3_has l dC dI cI cJ cZ h n li gr nb sc t ki fe lm si va he up lo pu pl gh gs bf b1 b2 b3 bu bl se x) gX4_push_X3_has rfl (by decide +kernel) (by decide) Fr.all (fun h9 => h9) rfl rfl rfl rfl (Nat.le_of_ble_eq_true rfl) ⟨Nat.zero_le _, Nat.zero_le _⟩ dX4_push_5 ?_
  refine Wk.ifB_ne X 15 dX4_push_8 (by decide) (fun c1 => ?_) (fun c1 => ?_)
  · skip
    obtain ⟨j, hj, rfl⟩ := inN_t (x := x) (n := n) (by omega) c1
    have hi9 := inN_nI hj (show n < 2 ^ 31 by omega)
    have ec2 : (nI j).toNatClampNeg = j := nI_clamp (by omega)
    refine Wk.aload_n X 0 rfl dX4_push_15 rfl ?_
    refine Wk.get X inX4 0 0 lk12 (fun _ h9 => h9) rfl rfl (by decide) rfl dX4_push_16 ?_
    refine Wk.aload_n X 0 rfl dX4_push_19 rfl ?_
    refine Wk.get X inX4 0 1 lk19 (fun _ h9 => h9) rfl rfl (by decide) rfl dX4_push_20 ?_
    refine Wk.callVv (n := 1) (q0 := 1) X (c_X3_takeScores l dC dI cI cJ cZ h n li gr nb sc t ki fe lm si va he up lo pu pl gh gs bf b1 b2 b3 bu bl se (by first | omega | assumption) (by first | omega | assumption) (by first | omega | assumption)) gX4_push_X3_takeScores rfl (by decide +kernel) (by decide) Fr.all (fun h9 => h9) rfl rfl rfl rfl (Nat.le_of_ble_eq_true rfl) ⟨Nat.zero_le _, Nat.zero_le _⟩ dX4_push_23 ?_
    refine Wk.aload_n X 0 rfl dX4_push_26 rfl ?_
    refine Wk.get X inX4 0 0 lk12 (fun _ h9 => h9) rfl rfl (by decide) rfl dX4_push_27 ?_
    refine Wk.iload_n X 1 rfl dX4_push_30 rfl ?_
    refine Wk.aload_n X 0 rfl dX4_push_31 rfl ?_
    refine Wk.get X inX4 0 3 lk30 (fun _ h9 => h9) rfl rfl (by decide) rfl dX4_push_32 ?_
    refine Wk.iconst (v := nI 0) X dX4_push_35 (by decide) ?_
    refine Wk.iald X 19 0 rfl rfl (by omega) (by decide) dX4_push_36 ?_
    refine Wk.callVi (n := 2) (q0 := 1) X (c_X3_pushOf l dC dI cI cJ cZ h n li gr nb (scT sc (scoreC ki fe lm si va nb t) n) t ki fe lm si va he up lo pu pl gh gs bf b1 b2 b3 bu bl se j (se 0) (by first | omega | assumption) (by first | omega | assumption)) gX4_push_X3_pushOf rfl (by decide +kernel) (by decide) Fr.all (fun h9 => h9) rfl rfl rfl rfl (Nat.le_of_ble_eq_true rfl) ⟨Nat.zero_le _, Nat.zero_le _⟩ dX4_push_37 ?_
    exact Wk.iret X hr hk (by simp [*]) (by simp [*]) dX4_push_40
  · skip
    refine Wk.sipush (v := -10001) X dX4_push_11 (by decide) ?_
    exact Wk.iret X hr hk (by simp [*]) (by simp [*]) dX4_push_14

set_option maxHeartbeats 4000000 in
set_option maxRecDepth 100000 in
theorem c_X4_ranked (l : Launch) (dC : Nat → ClassId) (dI : Nat → Nat → Nat) (cI cJ cZ : ClassId) (h : Nat → Nat) (n : Nat) (li : Nat → Int32) (gr : Nat → Int32) (nb : Nat → Int32) (sc : Nat → Int64) (t : Nat) (ki : Nat → Int32) (fe : Nat → Int32) (lm : Nat → Int32) (si : Nat → Int32) (va : Nat → Int32) (he : Nat → Int32) (up : Nat → Int64) (lo : Nat → Int64) (pu : Nat → Int32) (pl : Nat → Int32) (gh : Nat) (gs : Int32) (bf : Bool) (b1 : Int32) (b2 : Int32) (b3 : Int32) (bu : Int64) (bl : Int64) (se : Nat → Int32) (ls : Int32) (k : Int32) (hn0 : n ≤ 24) (ht0 : t ≤ 20) (hfe : ∀ j, j < t * 15 → ki j = nI 2 → ∃ f, f < 4 ∧ fe j = nI f) : Ci l yX4_ranked wsX4_ranked 5 122 (dC, dI) cl6 (TY cI cJ cZ) false [.ref (h 0), .int ls, .int k] (Wc h cI cJ cZ n li gr nb sc t ki fe lm si va he up lo pu pl gh gs bf b1 b2 b3 bu bl se) (if inN ls 4 = true then rkC li (scT sc (scoreC ki fe lm si va nb t) n) n ls k n 0 else -10002) (Wc h cI cJ cZ n li gr nb (if inN ls 4 = true then scT sc (scoreC ki fe lm si va nb t) n else sc) t ki fe lm si va he up lo pu pl gh gs bf b1 b2 b3 bu bl se) := by
  refine Ci.of (cc := cX4_ranked) (maxL := 4) (ty := .int) (own := RX4) rfl (plainFor_of_name (by decide)) rfl (Nat.le_of_ble_eq_true rfl) ?_
  intro pg ev s0 md ar bw mt cd A X hr hk
  show Wk pg l ev _ s0 md ar bw mt cd 0 0 _ 4 (dC, dI) cl6 A 0 [(0, .ref (h 0)), (1, .int ls), (2, .int k)] [] (Wc h cI cJ cZ n li gr nb sc t ki fe lm si va he up lo pu pl gh gs bf b1 b2 b3 bu bl se)
  have inX3 : ∀ w ∈ u_ws RX3 TX3 5, w ∈ wsX4_ranked := by decide +kernel
  have inX4 : ∀ w ∈ u_ws RX4 TX4 4, w ∈ wsX4_ranked := by decide +kernel
  have lk12 := X.w (.fieldLink RX4 12 "PairedTrees" "things" "LPairedTrees$Things;") (by decide +kernel)
  have lk19 := X.w (.fieldLink RX4 19 "PairedTrees" "forest" "LPairedTrees$Forest;") (by decide +kernel)
  have lk44 := X.w (.fieldLink RX4 44 "PairedTrees$Things" "count" "I") (by decide +kernel)
  have lk154 := X.w (.fieldLink RX4 154 "PairedTrees$Things" "lists" "[I") (by decide +kernel)
  refine Wk.iload_n X 1 rfl dX4_ranked_0 rfl ?_
  refine Wk.callSi (n := 1) X (c_X4_isList l dC dI cI cJ cZ ls) gX4_ranked_X4_isList rfl (by decide +kernel) (by decide) Fr.nil (fun h9 => h9) rfl rfl (Nat.le_of_ble_eq_true rfl) ⟨Nat.zero_le _, Nat.zero_le _⟩ dX4_ranked_1 ?_
  refine Wk.ifB_ne X 11 dX4_ranked_4 (by decide) (fun c1 => ?_) (fun c1 => ?_)
  · skip
    refine Wk.aload_n X 0 rfl dX4_ranked_11 rfl ?_
    refine Wk.get X inX4 0 0 lk12 (fun _ h9 => h9) rfl rfl (by decide) rfl dX4_ranked_12 ?_
    refine Wk.aload_n X 0 rfl dX4_ranked_15 rfl ?_
    refine Wk.get X inX4 0 1 lk19 (fun _ h9 => h9) rfl rfl (by decide) rfl dX4_ranked_16 ?_
    refine Wk.callVv (n := 1) (q0 := 1) X (c_X3_takeScores l dC dI cI cJ cZ h n li gr nb sc t ki fe lm si va he up lo pu pl gh gs bf b1 b2 b3 bu bl se (by first | omega | assumption) (by first | omega | assumption) (by first | omega | assumption)) gX4_ranked_X3_takeScores rfl (by decide +kernel) (by decide) Fr.all (fun h9 => h9) rfl rfl rfl rfl (Nat.le_of_ble_eq_true rfl) ⟨Nat.zero_le _, Nat.zero_le _⟩ dX4_ranked_19 ?_
    refine Wk.iconst (v := nI 0) X dX4_ranked_22 (by decide) ?_
    refine Wk.istore_n (lv' := [(3, .int (nI 0)), (0, .ref (h 0)), (1, .int ls), (2, .int k)]) X dX4_ranked_23 rfl (by decide) rfl ?_
    have L24 : ∀ (fu24 : Nat) (i : Nat) (hq : n + 1 ≤ i + fu24) (hi : i ≤ n) (hv : rkC li (scT sc (scoreC ki fe lm si va nb t) n) n ls k (n - i) i = rkC li (scT sc (scoreC ki fe lm si va nb t) n) n ls k n 0), Wk pg l ev ({ frames := 5, cells := 0, slots := 0, locals := 122 } : Room) s0 md ar bw mt cd 0 0 (QRi bw ar s0 (dC, dI) cl6 (TY cI cJ cZ) A (if inN ls 4 = true then rkC li (scT sc (scoreC ki fe lm si va nb t) n) n ls k n 0 else -10002) (Wc h cI cJ cZ n li gr nb (if inN ls 4 = true then scT sc (scoreC ki fe lm si va nb t) n else sc) t ki fe lm si va he up lo pu pl gh gs bf b1 b2 b3 bu bl se)) 4 (dC, dI) cl6 A 24 [(0, .ref (h 0)), (1, .int ls), (2, .int k), (3, .int (nI i))] [] (Wc h cI cJ cZ n li gr nb (scT sc (scoreC ki fe lm si va nb t) n) t ki fe lm si va he up lo pu pl gh gs bf b1 b2 b3 bu bl se) := by
      intro fu24
      induction fu24 with
      | zero => intro i hq hi hv; exact absurd hq (by omega)
      | succ fu24 ih24 =>
        intro i hq hi hv
        refine Wk.iload_n X 3 rfl dX4_ranked_24 rfl ?_
        refine Wk.aload_n X 0 rfl dX4_ranked_25 rfl ?_
        refine Wk.get X inX4 0 0 lk12 (fun _ h9 => h9) rfl rfl (by decide) rfl dX4_ranked_26 ?_
        refine Wk.get X inX3 1 0 lk44 (fun _ h9 => h9) rfl rfl (by decide) rfl dX4_ranked_29 ?_
        refine Wk.icmpN_ge X 68 (by omega) (by omega) dX4_ranked_32 (by decide) (fun c2 => ?_) (fun c2 => ?_)
        · skip
          refine Wk.iconst (v := -1) X dX4_ranked_68 (by decide) ?_
          exact Wk.iret X hr hk (by rw [if_pos c1, ← hv, show n - i = 0 by omega]; rfl) (by simp [*]) dX4_ranked_69
        · skip
          refine Wk.aload_n X 0 rfl dX4_ranked_35 rfl ?_
          refine Wk.get X inX4 0 0 lk12 (fun _ h9 => h9) rfl rfl (by decide) rfl dX4_ranked_36 ?_
          refine Wk.get X inX3 1 1 lk154 (fun _ h9 => h9) rfl rfl (by decide) rfl dX4_ranked_39 ?_
          refine Wk.iload_n X 3 rfl dX4_ranked_42 rfl ?_
          refine Wk.iald X 2 0 rfl rfl (by omega) (by decide) dX4_ranked_43 ?_
          refine Wk.iload_n X 1 rfl dX4_ranked_44 rfl ?_
          refine Wk.icmp_ne X 62 dX4_ranked_45 (by decide) (fun c3 => ?_) (fun c3 => ?_)
          · skip
            refine Wk.iincN (n := 1) (lv' := [(3, .int (nI (i + 1))), (0, .ref (h 0)), (1, .int ls), (2, .int k)]) X 3 rfl dX4_ranked_62 (by decide) rfl ?_
            refine Wk.goto X 24 dX4_ranked_65 (by decide) ?_
            refine Wk.lvs (lv' := [(0, .ref (h 0)), (1, .int ls), (2, .int k), (3, .int (nI (i + 1)))]) [1, 2, 3, 0] rfl ?_
            exact ih24 (i + 1) (by omega) (by omega) (by rw [← hv, show n - i = (n - (i + 1)) + 1 by omega]; simp [rkC, *])
          · skip
            refine Wk.aload_n X 0 rfl dX4_ranked_48 rfl ?_
            refine Wk.get X inX4 0 0 lk12 (fun _ h9 => h9) rfl rfl (by decide) rfl dX4_ranked_49 ?_
            refine Wk.iload_n X 3 rfl dX4_ranked_52 rfl ?_
            refine Wk.callVi (n := 1) (q0 := 1) X (c_X3_countAhead l dC dI cI cJ cZ h n li gr nb (scT sc (scoreC ki fe lm si va nb t) n) t ki fe lm si va he up lo pu pl gh gs bf b1 b2 b3 bu bl se i (by first | omega | assumption) (by first | omega | assumption)) gX4_ranked_X3_countAhead rfl (by decide +kernel) (by decide) Fr.all (fun h9 => h9) rfl rfl rfl rfl (Nat.le_of_ble_eq_true rfl) ⟨Nat.zero_le _, Nat.zero_le _⟩ dX4_ranked_53 ?_
            refine Wk.iload_n X 2 rfl dX4_ranked_56 rfl ?_
            refine Wk.icmp_ne X 62 dX4_ranked_57 (by decide) (fun c4 => ?_) (fun c4 => ?_)
            · skip
              refine Wk.iincN (n := 1) (lv' := [(3, .int (nI (i + 1))), (0, .ref (h 0)), (1, .int ls), (2, .int k)]) X 3 rfl dX4_ranked_62 (by decide) rfl ?_
              refine Wk.goto X 24 dX4_ranked_65 (by decide) ?_
              refine Wk.lvs (lv' := [(0, .ref (h 0)), (1, .int ls), (2, .int k), (3, .int (nI (i + 1)))]) [1, 2, 3, 0] rfl ?_
              exact ih24 (i + 1) (by omega) (by omega) (by rw [← hv, show n - i = (n - (i + 1)) + 1 by omega]; simp [rkC, *])
            · skip
              refine Wk.iload_n X 3 rfl dX4_ranked_60 rfl ?_
              exact Wk.iret X hr hk (by rw [if_pos c1, ← hv, show n - i = (n - (i + 1)) + 1 by omega]; simp [rkC, *]) (by simp [*]) dX4_ranked_61
    refine Wk.lvs (lv' := [(0, .ref (h 0)), (1, .int ls), (2, .int k), (3, .int (nI 0))]) [1, 2, 3, 0] rfl ?_
    exact L24 (n + 1) 0 (by omega) (by omega) (by rfl)
  · skip
    refine Wk.sipush (v := -10002) X dX4_ranked_7 (by decide) ?_
    exact Wk.iret X hr hk (by simp [*]) (by simp [*]) dX4_ranked_10

set_option maxHeartbeats 4000000 in
set_option maxRecDepth 100000 in
theorem c_X4_pairs (l : Launch) (dC : Nat → ClassId) (dI : Nat → Nat → Nat) (cI cJ cZ : ClassId) (h : Nat → Nat) (n : Nat) (li : Nat → Int32) (gr : Nat → Int32) (nb : Nat → Int32) (sc : Nat → Int64) (t : Nat) (ki : Nat → Int32) (fe : Nat → Int32) (lm : Nat → Int32) (si : Nat → Int32) (va : Nat → Int32) (he : Nat → Int32) (up : Nat → Int64) (lo : Nat → Int64) (pu : Nat → Int32) (pl : Nat → Int32) (gh : Nat) (gs : Int32) (bf : Bool) (b1 : Int32) (b2 : Int32) (b3 : Int32) (bu : Int64) (bl : Int64) (se : Nat → Int32) (ls : Int32) (w0 : Int32) (hn0 : n ≤ 24) (ht0 : t ≤ 20) (hfe : ∀ j, j < t * 15 → ki j = nI 2 → ∃ f, f < 4 ∧ fe j = nI f) : Ci l yX4_pairs wsX4_pairs 5 122 (dC, dI) cl6 (TY cI cJ cZ) false [.ref (h 0), .int ls, .int w0] (Wc h cI cJ cZ n li gr nb sc t ki fe lm si va he up lo pu pl gh gs bf b1 b2 b3 bu bl se) (if prB ls w0 = true then nI (cpO li gr (scT sc (scoreC ki fe lm si va nb t) n) ls (decide (w0 = nI 1)) n n) else -10002) (Wc h cI cJ cZ n li gr nb (if prB ls w0 = true then scT sc (scoreC ki fe lm si va nb t) n else sc) t ki fe lm si va he up lo pu pl gh gs bf b1 b2 b3 bu bl se) := by
  refine Ci.of (cc := cX4_pairs) (maxL := 3) (ty := .int) (own := RX4) rfl (plainFor_of_name (by decide)) rfl (Nat.le_of_ble_eq_true rfl) ?_
  intro pg ev s0 md ar bw mt cd A X hr hk
  show Wk pg l ev _ s0 md ar bw mt cd 0 0 _ 3 (dC, dI) cl6 A 0 [(0, .ref (h 0)), (1, .int ls), (2, .int w0)] [] (Wc h cI cJ cZ n li gr nb sc t ki fe lm si va he up lo pu pl gh gs bf b1 b2 b3 bu bl se)
  have inX4 : ∀ w ∈ u_ws RX4 TX4 4, w ∈ wsX4_pairs := by decide +kernel
  have lk12 := X.w (.fieldLink RX4 12 "PairedTrees" "things" "LPairedTrees$Things;") (by decide +kernel)
  have lk19 := X.w (.fieldLink RX4 19 "PairedTrees" "forest" "LPairedTrees$Forest;") (by decide +kernel)
  refine Wk.iload_n X 1 rfl dX4_pairs_0 rfl ?_
  refine Wk.callSi (n := 1) X (c_X4_isListOrAll l dC dI cI cJ cZ ls) gX4_pairs_X4_isListOrAll rfl (by decide +kernel) (by decide) Fr.nil (fun h9 => h9) rfl rfl (Nat.le_of_ble_eq_true rfl) ⟨Nat.zero_le _, Nat.zero_le _⟩ dX4_pairs_1 ?_
  refine Wk.ifB_eq X 16 dX4_pairs_4 (by decide) (fun c1 => ?_) (fun c1 => ?_)
  · skip
    refine Wk.sipush (v := -10002) X dX4_pairs_16 (by decide) ?_
    exact Wk.iret X hr hk (by have h9 : prB ls w0 = false := (by simp [prB, inB, *]); simp [h9]) (by have h9 : prB ls w0 = false := (by simp [prB, inB, *]); simp [h9]) dX4_pairs_19
  · skip
    refine Wk.iload_n X 2 rfl dX4_pairs_7 rfl ?_
    refine Wk.if_lt X 16 dX4_pairs_8 (by decide) (fun c2 => ?_) (fun c2 => ?_)
    · skip
      refine Wk.sipush (v := -10002) X dX4_pairs_16 (by decide) ?_
      exact Wk.iret X hr hk (by have h9 : prB ls w0 = false := (by simp [prB, inB, *]); simp [h9]) (by have h9 : prB ls w0 = false := (by simp [prB, inB, *]); simp [h9]) dX4_pairs_19
    · skip
      refine Wk.iload_n X 2 rfl dX4_pairs_11 rfl ?_
      refine Wk.iconst (v := nI 1) X dX4_pairs_12 (by decide) ?_
      refine Wk.icmp_le X 20 dX4_pairs_13 (by decide) (fun c3 => ?_) (fun c3 => ?_)
      · skip
        have h9 : prB ls w0 = true := by simp [prB, inB, *]
        refine Wk.aload_n X 0 rfl dX4_pairs_20 rfl ?_
        refine Wk.get X inX4 0 0 lk12 (fun _ h9 => h9) rfl rfl (by decide) rfl dX4_pairs_21 ?_
        refine Wk.aload_n X 0 rfl dX4_pairs_24 rfl ?_
        refine Wk.get X inX4 0 1 lk19 (fun _ h9 => h9) rfl rfl (by decide) rfl dX4_pairs_25 ?_
        refine Wk.callVv (n := 1) (q0 := 1) X (c_X3_takeScores l dC dI cI cJ cZ h n li gr nb sc t ki fe lm si va he up lo pu pl gh gs bf b1 b2 b3 bu bl se (by first | omega | assumption) (by first | omega | assumption) (by first | omega | assumption)) gX4_pairs_X3_takeScores rfl (by decide +kernel) (by decide) Fr.all (fun h9 => h9) rfl rfl rfl rfl (Nat.le_of_ble_eq_true rfl) ⟨Nat.zero_le _, Nat.zero_le _⟩ dX4_pairs_28 ?_
        refine Wk.aload_n X 0 rfl dX4_pairs_31 rfl ?_
        refine Wk.get X inX4 0 0 lk12 (fun _ h9 => h9) rfl rfl (by decide) rfl dX4_pairs_32 ?_
        refine Wk.iload_n X 1 rfl dX4_pairs_35 rfl ?_
        have J46 : Wk pg l ev ({ frames := 5, cells := 0, slots := 0, locals := 122 } : Room) s0 md ar bw mt cd 0 0 (QRi bw ar s0 (dC, dI) cl6 (TY cI cJ cZ) A (if prB ls w0 = true then nI (cpO li gr (scT sc (scoreC ki fe lm si va nb t) n) ls (decide (w0 = nI 1)) n n) else -10002) (Wc h cI cJ cZ n li gr nb (if prB ls w0 = true then scT sc (scoreC ki fe lm si va nb t) n else sc) t ki fe lm si va he up lo pu pl gh gs bf b1 b2 b3 bu bl se)) 3 (dC, dI) cl6 A 46 [(0, .ref (h 0)), (1, .int ls), (2, .int w0)] [.int (bI (decide (w0 = nI 1))), .int ls, .ref (h 1)] (Wc h cI cJ cZ n li gr nb (scT sc (scoreC ki fe lm si va nb t) n) t ki fe lm si va he up lo pu pl gh gs bf b1 b2 b3 bu bl se) := by
          refine Wk.callVi (n := 2) (q0 := 1) X (c_X3_countPairs l dC dI cI cJ cZ h n li gr nb (scT sc (scoreC ki fe lm si va nb t) n) t ki fe lm si va he up lo pu pl gh gs bf b1 b2 b3 bu bl se ls (decide (w0 = nI 1)) (by first | omega | assumption)) gX4_pairs_X3_countPairs rfl (by decide +kernel) (by decide) Fr.all (fun h9 => h9) rfl rfl rfl rfl (Nat.le_of_ble_eq_true rfl) ⟨Nat.zero_le _, Nat.zero_le _⟩ dX4_pairs_46 ?_
          exact Wk.iret X hr hk (by simp [h9]) (by simp [h9]) dX4_pairs_49
        refine Wk.iload_n X 2 rfl dX4_pairs_36 rfl ?_
        refine Wk.iconst (v := nI 1) X dX4_pairs_37 (by decide) ?_
        refine Wk.icmp_ne X 45 dX4_pairs_38 (by decide) (fun c4 => ?_) (fun c4 => ?_)
        · skip
          refine Wk.iconst (v := nI 0) X dX4_pairs_45 (by decide) ?_
          refine Wk.topi (y := bI (decide (w0 = nI 1))) (by first | (simp [bI, nI_0, nIc1, *]; done) | (simp [bI, nI_0, *]; done)) ?_
          exact J46
        · skip
          refine Wk.iconst (v := nI 1) X dX4_pairs_41 (by decide) ?_
          refine Wk.goto X 46 dX4_pairs_42 (by decide) ?_
          refine Wk.topi (y := bI (decide (w0 = nI 1))) (by first | (simp [bI, nI_0, nIc1, *]; done) | (simp [bI, nI_0, *]; done)) ?_
          exact J46
      · skip
        refine Wk.sipush (v := -10002) X dX4_pairs_16 (by decide) ?_
        exact Wk.iret X hr hk (by have h9 : prB ls w0 = false := (by simp [prB, inB, *]); simp [h9]) (by have h9 : prB ls w0 = false := (by simp [prB, inB, *]); simp [h9]) dX4_pairs_19

set_option maxHeartbeats 4000000 in
set_option maxRecDepth 100000 in
theorem c_X4_about (l : Launch) (dC : Nat → ClassId) (dI : Nat → Nat → Nat) (cI cJ cZ : ClassId) (h : Nat → Nat) (n : Nat) (li : Nat → Int32) (gr : Nat → Int32) (nb : Nat → Int32) (sc : Nat → Int64) (t : Nat) (ki : Nat → Int32) (fe : Nat → Int32) (lm : Nat → Int32) (si : Nat → Int32) (va : Nat → Int32) (he : Nat → Int32) (up : Nat → Int64) (lo : Nat → Int64) (pu : Nat → Int32) (pl : Nat → Int32) (gh : Nat) (gs : Int32) (bf : Bool) (b1 : Int32) (b2 : Int32) (b3 : Int32) (bu : Int64) (bl : Int64) (se : Nat → Int32) (w0 : Int32) (ht0 : t ≤ 20) : Ci l yX4_about wsX4_about 1 24 (dC, dI) cl6 (TY cI cJ cZ) false [.ref (h 0), .int w0] (Wc h cI cJ cZ n li gr nb sc t ki fe lm si va he up lo pu pl gh gs bf b1 b2 b3 bu bl se) (abR ki fe n t w0) (Wc h cI cJ cZ n li gr nb sc t ki fe lm si va he up lo pu pl gh gs bf b1 b2 b3 bu bl se) := by
  refine Ci.of (cc := cX4_about) (maxL := 2) (ty := .int) (own := RX4) rfl (plainFor_of_name (by decide)) rfl (Nat.le_of_ble_eq_true rfl) ?_
  intro pg ev s0 md ar bw mt cd A X hr hk
  show Wk pg l ev _ s0 md ar bw mt cd 0 0 _ 2 (dC, dI) cl6 A 0 [(0, .ref (h 0)), (1, .int w0)] [] (Wc h cI cJ cZ n li gr nb sc t ki fe lm si va he up lo pu pl gh gs bf b1 b2 b3 bu bl se)
  have inX1 : ∀ w ∈ u_ws RX1 TX1 9, w ∈ wsX4_about := by decide +kernel
  have inX3 : ∀ w ∈ u_ws RX3 TX3 5, w ∈ wsX4_about := by decide +kernel
  have inX4 : ∀ w ∈ u_ws RX4 TX4 4, w ∈ wsX4_about := by decide +kernel
  have lk12 := X.w (.fieldLink RX4 12 "PairedTrees" "things" "LPairedTrees$Things;") (by decide +kernel)
  have lk19 := X.w (.fieldLink RX4 19 "PairedTrees" "forest" "LPairedTrees$Forest;") (by decide +kernel)
  have lk44 := X.w (.fieldLink RX4 44 "PairedTrees$Things" "count" "I") (by decide +kernel)
  have lk94 := X.w (.fieldLink RX4 94 "PairedTrees$Forest" "count" "I") (by decide +kernel)
  refine Wk.iload_n X 1 rfl dX4_about_0 rfl ?_
  rcases tab_split w0 13 with ⟨j9, hj9, rfl⟩ | ho
  · rcases (show j9 = 0 ∨ j9 = 1 ∨ j9 = 2 ∨ j9 = 3 ∨ j9 = 4 ∨ j9 = 5 ∨ j9 = 6 ∨ j9 = 7 ∨ j9 = 8 ∨ j9 = 9 ∨ j9 = 10 ∨ j9 = 11 ∨ j9 = 12 ∨ j9 = 13 by omega) with rfl | rfl | rfl | rfl | rfl | rfl | rfl | rfl | rfl | rfl | rfl | rfl | rfl | rfl
    · refine Wk.tableIn X 72 dX4_about_1 (by decide) (by decide) rfl (by decide) ?_
      have e9_1 : ¬ nI 0 = nI 1 := by decide
      have e9_2 : ¬ nI 0 = nI 2 := by decide
      have e9_3 : ¬ nI 0 = nI 3 := by decide
      have e9_4 : ¬ nI 0 = nI 4 := by decide
      have e9_5 : ¬ nI 0 = nI 5 := by decide
      have e9_6 : ¬ nI 0 = nI 6 := by decide
      have e9_7 : ¬ nI 0 = nI 7 := by decide
      have e9_8 : ¬ nI 0 = nI 8 := by decide
      have e9_9 : ¬ nI 0 = nI 9 := by decide
      have e9_10 : ¬ nI 0 = nI 10 := by decide
      have e9_11 : ¬ nI 0 = nI 11 := by decide
      have e9_12 : ¬ nI 0 = nI 12 := by decide
      have e9_13 : ¬ nI 0 = nI 13 := by decide
      refine Wk.aload_n X 0 rfl dX4_about_72 rfl ?_
      refine Wk.get X inX4 0 0 lk12 (fun _ h9 => h9) rfl rfl (by decide) rfl dX4_about_73 ?_
      refine Wk.get X inX3 1 0 lk44 (fun _ h9 => h9) rfl rfl (by decide) rfl dX4_about_76 ?_
      exact Wk.iret X hr hk (by simp [abR, *]) rfl dX4_about_79
    · refine Wk.tableIn X 80 dX4_about_1 (by decide) (by decide) rfl (by decide) ?_
      have e9_0 : ¬ nI 1 = nI 0 := by decide
      have e9_2 : ¬ nI 1 = nI 2 := by decide
      have e9_3 : ¬ nI 1 = nI 3 := by decide
      have e9_4 : ¬ nI 1 = nI 4 := by decide
      have e9_5 : ¬ nI 1 = nI 5 := by decide
      have e9_6 : ¬ nI 1 = nI 6 := by decide
      have e9_7 : ¬ nI 1 = nI 7 := by decide
      have e9_8 : ¬ nI 1 = nI 8 := by decide
      have e9_9 : ¬ nI 1 = nI 9 := by decide
      have e9_10 : ¬ nI 1 = nI 10 := by decide
      have e9_11 : ¬ nI 1 = nI 11 := by decide
      have e9_12 : ¬ nI 1 = nI 12 := by decide
      have e9_13 : ¬ nI 1 = nI 13 := by decide
      refine Wk.aload_n X 0 rfl dX4_about_80 rfl ?_
      refine Wk.get X inX4 0 1 lk19 (fun _ h9 => h9) rfl rfl (by decide) rfl dX4_about_81 ?_
      refine Wk.get X inX1 6 0 lk94 (fun _ h9 => h9) rfl rfl (by decide) rfl dX4_about_84 ?_
      exact Wk.iret X hr hk (by simp [abR, *]) rfl dX4_about_87
    · refine Wk.tableIn X 88 dX4_about_1 (by decide) (by decide) rfl (by decide) ?_
      have e9_0 : ¬ nI 2 = nI 0 := by decide
      have e9_1 : ¬ nI 2 = nI 1 := by decide
      have e9_3 : ¬ nI 2 = nI 3 := by decide
      have e9_4 : ¬ nI 2 = nI 4 := by decide
      have e9_5 : ¬ nI 2 = nI 5 := by decide
      have e9_6 : ¬ nI 2 = nI 6 := by decide
      have e9_7 : ¬ nI 2 = nI 7 := by decide
      have e9_8 : ¬ nI 2 = nI 8 := by decide
      have e9_9 : ¬ nI 2 = nI 9 := by decide
      have e9_10 : ¬ nI 2 = nI 10 := by decide
      have e9_11 : ¬ nI 2 = nI 11 := by decide
      have e9_12 : ¬ nI 2 = nI 12 := by decide
      have e9_13 : ¬ nI 2 = nI 13 := by decide
      refine Wk.aload_n X 0 rfl dX4_about_88 rfl ?_
      refine Wk.get X inX4 0 1 lk19 (fun _ h9 => h9) rfl rfl (by decide) rfl dX4_about_89 ?_
      refine Wk.iconst (v := nI 0) X dX4_about_92 (by decide) ?_
      refine Wk.aload_n X 0 rfl dX4_about_93 rfl ?_
      refine Wk.get X inX4 0 1 lk19 (fun _ h9 => h9) rfl rfl (by decide) rfl dX4_about_94 ?_
      refine Wk.get X inX1 6 0 lk94 (fun _ h9 => h9) rfl rfl (by decide) rfl dX4_about_97 ?_
      refine Wk.callVi (n := 2) (q0 := 6) X (c_X1_countLeaves l dC dI cI cJ cZ h n li gr nb sc t ki fe lm si va he up lo pu pl gh gs bf b1 b2 b3 bu bl se 0 t (by first | omega | assumption) (by first | omega | assumption)) gX4_about_X1_countLeaves rfl (by decide +kernel) (by decide) Fr.all (fun h9 => h9) rfl rfl rfl rfl (Nat.le_of_ble_eq_true rfl) ⟨Nat.zero_le _, Nat.zero_le _⟩ dX4_about_100 ?_
      exact Wk.iret X hr hk (by simp [abR, *]) rfl dX4_about_103
    · refine Wk.tableIn X 116 dX4_about_1 (by decide) (by decide) rfl (by decide) ?_
      have e9_0 : ¬ nI 3 = nI 0 := by decide
      have e9_1 : ¬ nI 3 = nI 1 := by decide
      have e9_2 : ¬ nI 3 = nI 2 := by decide
      have e9_4 : ¬ nI 3 = nI 4 := by decide
      have e9_5 : ¬ nI 3 = nI 5 := by decide
      have e9_6 : ¬ nI 3 = nI 6 := by decide
      have e9_7 : ¬ nI 3 = nI 7 := by decide
      have e9_8 : ¬ nI 3 = nI 8 := by decide
      have e9_9 : ¬ nI 3 = nI 9 := by decide
      have e9_10 : ¬ nI 3 = nI 10 := by decide
      have e9_11 : ¬ nI 3 = nI 11 := by decide
      have e9_12 : ¬ nI 3 = nI 12 := by decide
      have e9_13 : ¬ nI 3 = nI 13 := by decide
      refine Wk.sipush (v := -10002) X dX4_about_116 (by decide) ?_
      exact Wk.iret X hr hk (by simp [abR, *]) rfl dX4_about_119
    · refine Wk.tableIn X 116 dX4_about_1 (by decide) (by decide) rfl (by decide) ?_
      have e9_0 : ¬ nI 4 = nI 0 := by decide
      have e9_1 : ¬ nI 4 = nI 1 := by decide
      have e9_2 : ¬ nI 4 = nI 2 := by decide
      have e9_3 : ¬ nI 4 = nI 3 := by decide
      have e9_5 : ¬ nI 4 = nI 5 := by decide
      have e9_6 : ¬ nI 4 = nI 6 := by decide
      have e9_7 : ¬ nI 4 = nI 7 := by decide
      have e9_8 : ¬ nI 4 = nI 8 := by decide
      have e9_9 : ¬ nI 4 = nI 9 := by decide
      have e9_10 : ¬ nI 4 = nI 10 := by decide
      have e9_11 : ¬ nI 4 = nI 11 := by decide
      have e9_12 : ¬ nI 4 = nI 12 := by decide
      have e9_13 : ¬ nI 4 = nI 13 := by decide
      refine Wk.sipush (v := -10002) X dX4_about_116 (by decide) ?_
      exact Wk.iret X hr hk (by simp [abR, *]) rfl dX4_about_119
    · refine Wk.tableIn X 116 dX4_about_1 (by decide) (by decide) rfl (by decide) ?_
      have e9_0 : ¬ nI 5 = nI 0 := by decide
      have e9_1 : ¬ nI 5 = nI 1 := by decide
      have e9_2 : ¬ nI 5 = nI 2 := by decide
      have e9_3 : ¬ nI 5 = nI 3 := by decide
      have e9_4 : ¬ nI 5 = nI 4 := by decide
      have e9_6 : ¬ nI 5 = nI 6 := by decide
      have e9_7 : ¬ nI 5 = nI 7 := by decide
      have e9_8 : ¬ nI 5 = nI 8 := by decide
      have e9_9 : ¬ nI 5 = nI 9 := by decide
      have e9_10 : ¬ nI 5 = nI 10 := by decide
      have e9_11 : ¬ nI 5 = nI 11 := by decide
      have e9_12 : ¬ nI 5 = nI 12 := by decide
      have e9_13 : ¬ nI 5 = nI 13 := by decide
      refine Wk.sipush (v := -10002) X dX4_about_116 (by decide) ?_
      exact Wk.iret X hr hk (by simp [abR, *]) rfl dX4_about_119
    · refine Wk.tableIn X 116 dX4_about_1 (by decide) (by decide) rfl (by decide) ?_
      have e9_0 : ¬ nI 6 = nI 0 := by decide
      have e9_1 : ¬ nI 6 = nI 1 := by decide
      have e9_2 : ¬ nI 6 = nI 2 := by decide
      have e9_3 : ¬ nI 6 = nI 3 := by decide
      have e9_4 : ¬ nI 6 = nI 4 := by decide
      have e9_5 : ¬ nI 6 = nI 5 := by decide
      have e9_7 : ¬ nI 6 = nI 7 := by decide
      have e9_8 : ¬ nI 6 = nI 8 := by decide
      have e9_9 : ¬ nI 6 = nI 9 := by decide
      have e9_10 : ¬ nI 6 = nI 10 := by decide
      have e9_11 : ¬ nI 6 = nI 11 := by decide
      have e9_12 : ¬ nI 6 = nI 12 := by decide
      have e9_13 : ¬ nI 6 = nI 13 := by decide
      refine Wk.sipush (v := -10002) X dX4_about_116 (by decide) ?_
      exact Wk.iret X hr hk (by simp [abR, *]) rfl dX4_about_119
    · refine Wk.tableIn X 116 dX4_about_1 (by decide) (by decide) rfl (by decide) ?_
      have e9_0 : ¬ nI 7 = nI 0 := by decide
      have e9_1 : ¬ nI 7 = nI 1 := by decide
      have e9_2 : ¬ nI 7 = nI 2 := by decide
      have e9_3 : ¬ nI 7 = nI 3 := by decide
      have e9_4 : ¬ nI 7 = nI 4 := by decide
      have e9_5 : ¬ nI 7 = nI 5 := by decide
      have e9_6 : ¬ nI 7 = nI 6 := by decide
      have e9_8 : ¬ nI 7 = nI 8 := by decide
      have e9_9 : ¬ nI 7 = nI 9 := by decide
      have e9_10 : ¬ nI 7 = nI 10 := by decide
      have e9_11 : ¬ nI 7 = nI 11 := by decide
      have e9_12 : ¬ nI 7 = nI 12 := by decide
      have e9_13 : ¬ nI 7 = nI 13 := by decide
      refine Wk.sipush (v := -10002) X dX4_about_116 (by decide) ?_
      exact Wk.iret X hr hk (by simp [abR, *]) rfl dX4_about_119
    · refine Wk.tableIn X 116 dX4_about_1 (by decide) (by decide) rfl (by decide) ?_
      have e9_0 : ¬ nI 8 = nI 0 := by decide
      have e9_1 : ¬ nI 8 = nI 1 := by decide
      have e9_2 : ¬ nI 8 = nI 2 := by decide
      have e9_3 : ¬ nI 8 = nI 3 := by decide
      have e9_4 : ¬ nI 8 = nI 4 := by decide
      have e9_5 : ¬ nI 8 = nI 5 := by decide
      have e9_6 : ¬ nI 8 = nI 6 := by decide
      have e9_7 : ¬ nI 8 = nI 7 := by decide
      have e9_9 : ¬ nI 8 = nI 9 := by decide
      have e9_10 : ¬ nI 8 = nI 10 := by decide
      have e9_11 : ¬ nI 8 = nI 11 := by decide
      have e9_12 : ¬ nI 8 = nI 12 := by decide
      have e9_13 : ¬ nI 8 = nI 13 := by decide
      refine Wk.sipush (v := -10002) X dX4_about_116 (by decide) ?_
      exact Wk.iret X hr hk (by simp [abR, *]) rfl dX4_about_119
    · refine Wk.tableIn X 116 dX4_about_1 (by decide) (by decide) rfl (by decide) ?_
      have e9_0 : ¬ nI 9 = nI 0 := by decide
      have e9_1 : ¬ nI 9 = nI 1 := by decide
      have e9_2 : ¬ nI 9 = nI 2 := by decide
      have e9_3 : ¬ nI 9 = nI 3 := by decide
      have e9_4 : ¬ nI 9 = nI 4 := by decide
      have e9_5 : ¬ nI 9 = nI 5 := by decide
      have e9_6 : ¬ nI 9 = nI 6 := by decide
      have e9_7 : ¬ nI 9 = nI 7 := by decide
      have e9_8 : ¬ nI 9 = nI 8 := by decide
      have e9_10 : ¬ nI 9 = nI 10 := by decide
      have e9_11 : ¬ nI 9 = nI 11 := by decide
      have e9_12 : ¬ nI 9 = nI 12 := by decide
      have e9_13 : ¬ nI 9 = nI 13 := by decide
      refine Wk.sipush (v := -10002) X dX4_about_116 (by decide) ?_
      exact Wk.iret X hr hk (by simp [abR, *]) rfl dX4_about_119
    · refine Wk.tableIn X 104 dX4_about_1 (by decide) (by decide) rfl (by decide) ?_
      have e9_0 : ¬ nI 10 = nI 0 := by decide
      have e9_1 : ¬ nI 10 = nI 1 := by decide
      have e9_2 : ¬ nI 10 = nI 2 := by decide
      have e9_3 : ¬ nI 10 = nI 3 := by decide
      have e9_4 : ¬ nI 10 = nI 4 := by decide
      have e9_5 : ¬ nI 10 = nI 5 := by decide
      have e9_6 : ¬ nI 10 = nI 6 := by decide
      have e9_7 : ¬ nI 10 = nI 7 := by decide
      have e9_8 : ¬ nI 10 = nI 8 := by decide
      have e9_9 : ¬ nI 10 = nI 9 := by decide
      have e9_11 : ¬ nI 10 = nI 11 := by decide
      have e9_12 : ¬ nI 10 = nI 12 := by decide
      have e9_13 : ¬ nI 10 = nI 13 := by decide
      refine Wk.aload_n X 0 rfl dX4_about_104 rfl ?_
      refine Wk.get X inX4 0 1 lk19 (fun _ h9 => h9) rfl rfl (by decide) rfl dX4_about_105 ?_
      refine Wk.iload_n X 1 rfl dX4_about_108 rfl ?_
      refine Wk.bipush (v := nI 10) X dX4_about_109 (by decide) ?_
      refine Wk.isubN X (by omega) dX4_about_111 ?_
      refine Wk.callVi (n := 1) (q0 := 6) X (c_X1_countCutsBy l dC dI cI cJ cZ h n li gr nb sc t ki fe lm si va he up lo pu pl gh gs bf b1 b2 b3 bu bl se (nI (10 - 10)) (by first | omega | assumption)) gX4_about_X1_countCutsBy rfl (by decide +kernel) (by decide) Fr.all (fun h9 => h9) rfl rfl rfl rfl (Nat.le_of_ble_eq_true rfl) ⟨Nat.zero_le _, Nat.zero_le _⟩ dX4_about_112 ?_
      exact Wk.iret X hr hk (by simp [abR, *]) rfl dX4_about_115
    · refine Wk.tableIn X 104 dX4_about_1 (by decide) (by decide) rfl (by decide) ?_
      have e9_0 : ¬ nI 11 = nI 0 := by decide
      have e9_1 : ¬ nI 11 = nI 1 := by decide
      have e9_2 : ¬ nI 11 = nI 2 := by decide
      have e9_3 : ¬ nI 11 = nI 3 := by decide
      have e9_4 : ¬ nI 11 = nI 4 := by decide
      have e9_5 : ¬ nI 11 = nI 5 := by decide
      have e9_6 : ¬ nI 11 = nI 6 := by decide
      have e9_7 : ¬ nI 11 = nI 7 := by decide
      have e9_8 : ¬ nI 11 = nI 8 := by decide
      have e9_9 : ¬ nI 11 = nI 9 := by decide
      have e9_10 : ¬ nI 11 = nI 10 := by decide
      have e9_12 : ¬ nI 11 = nI 12 := by decide
      have e9_13 : ¬ nI 11 = nI 13 := by decide
      refine Wk.aload_n X 0 rfl dX4_about_104 rfl ?_
      refine Wk.get X inX4 0 1 lk19 (fun _ h9 => h9) rfl rfl (by decide) rfl dX4_about_105 ?_
      refine Wk.iload_n X 1 rfl dX4_about_108 rfl ?_
      refine Wk.bipush (v := nI 10) X dX4_about_109 (by decide) ?_
      refine Wk.isubN X (by omega) dX4_about_111 ?_
      refine Wk.callVi (n := 1) (q0 := 6) X (c_X1_countCutsBy l dC dI cI cJ cZ h n li gr nb sc t ki fe lm si va he up lo pu pl gh gs bf b1 b2 b3 bu bl se (nI (11 - 10)) (by first | omega | assumption)) gX4_about_X1_countCutsBy rfl (by decide +kernel) (by decide) Fr.all (fun h9 => h9) rfl rfl rfl rfl (Nat.le_of_ble_eq_true rfl) ⟨Nat.zero_le _, Nat.zero_le _⟩ dX4_about_112 ?_
      exact Wk.iret X hr hk (by simp [abR, *]) rfl dX4_about_115
    · refine Wk.tableIn X 104 dX4_about_1 (by decide) (by decide) rfl (by decide) ?_
      have e9_0 : ¬ nI 12 = nI 0 := by decide
      have e9_1 : ¬ nI 12 = nI 1 := by decide
      have e9_2 : ¬ nI 12 = nI 2 := by decide
      have e9_3 : ¬ nI 12 = nI 3 := by decide
      have e9_4 : ¬ nI 12 = nI 4 := by decide
      have e9_5 : ¬ nI 12 = nI 5 := by decide
      have e9_6 : ¬ nI 12 = nI 6 := by decide
      have e9_7 : ¬ nI 12 = nI 7 := by decide
      have e9_8 : ¬ nI 12 = nI 8 := by decide
      have e9_9 : ¬ nI 12 = nI 9 := by decide
      have e9_10 : ¬ nI 12 = nI 10 := by decide
      have e9_11 : ¬ nI 12 = nI 11 := by decide
      have e9_13 : ¬ nI 12 = nI 13 := by decide
      refine Wk.aload_n X 0 rfl dX4_about_104 rfl ?_
      refine Wk.get X inX4 0 1 lk19 (fun _ h9 => h9) rfl rfl (by decide) rfl dX4_about_105 ?_
      refine Wk.iload_n X 1 rfl dX4_about_108 rfl ?_
      refine Wk.bipush (v := nI 10) X dX4_about_109 (by decide) ?_
      refine Wk.isubN X (by omega) dX4_about_111 ?_
      refine Wk.callVi (n := 1) (q0 := 6) X (c_X1_countCutsBy l dC dI cI cJ cZ h n li gr nb sc t ki fe lm si va he up lo pu pl gh gs bf b1 b2 b3 bu bl se (nI (12 - 10)) (by first | omega | assumption)) gX4_about_X1_countCutsBy rfl (by decide +kernel) (by decide) Fr.all (fun h9 => h9) rfl rfl rfl rfl (Nat.le_of_ble_eq_true rfl) ⟨Nat.zero_le _, Nat.zero_le _⟩ dX4_about_112 ?_
      exact Wk.iret X hr hk (by simp [abR, *]) rfl dX4_about_115
    · refine Wk.tableIn X 104 dX4_about_1 (by decide) (by decide) rfl (by decide) ?_
      have e9_0 : ¬ nI 13 = nI 0 := by decide
      have e9_1 : ¬ nI 13 = nI 1 := by decide
      have e9_2 : ¬ nI 13 = nI 2 := by decide
      have e9_3 : ¬ nI 13 = nI 3 := by decide
      have e9_4 : ¬ nI 13 = nI 4 := by decide
      have e9_5 : ¬ nI 13 = nI 5 := by decide
      have e9_6 : ¬ nI 13 = nI 6 := by decide
      have e9_7 : ¬ nI 13 = nI 7 := by decide
      have e9_8 : ¬ nI 13 = nI 8 := by decide
      have e9_9 : ¬ nI 13 = nI 9 := by decide
      have e9_10 : ¬ nI 13 = nI 10 := by decide
      have e9_11 : ¬ nI 13 = nI 11 := by decide
      have e9_12 : ¬ nI 13 = nI 12 := by decide
      refine Wk.aload_n X 0 rfl dX4_about_104 rfl ?_
      refine Wk.get X inX4 0 1 lk19 (fun _ h9 => h9) rfl rfl (by decide) rfl dX4_about_105 ?_
      refine Wk.iload_n X 1 rfl dX4_about_108 rfl ?_
      refine Wk.bipush (v := nI 10) X dX4_about_109 (by decide) ?_
      refine Wk.isubN X (by omega) dX4_about_111 ?_
      refine Wk.callVi (n := 1) (q0 := 6) X (c_X1_countCutsBy l dC dI cI cJ cZ h n li gr nb sc t ki fe lm si va he up lo pu pl gh gs bf b1 b2 b3 bu bl se (nI (13 - 10)) (by first | omega | assumption)) gX4_about_X1_countCutsBy rfl (by decide +kernel) (by decide) Fr.all (fun h9 => h9) rfl rfl rfl rfl (Nat.le_of_ble_eq_true rfl) ⟨Nat.zero_le _, Nat.zero_le _⟩ dX4_about_112 ?_
      exact Wk.iret X hr hk (by simp [abR, *]) rfl dX4_about_115
  · refine Wk.tableOut X 116 dX4_about_1 ho (by decide) ?_
    have e9_0 : ¬ w0 = nI 0 := tab_ne (hi := 13) ho 0 ⟨by decide, by decide⟩
    have e9_1 : ¬ w0 = nI 1 := tab_ne (hi := 13) ho 1 ⟨by decide, by decide⟩
    have e9_2 : ¬ w0 = nI 2 := tab_ne (hi := 13) ho 2 ⟨by decide, by decide⟩
    have e9_3 : ¬ w0 = nI 3 := tab_ne (hi := 13) ho 3 ⟨by decide, by decide⟩
    have e9_4 : ¬ w0 = nI 4 := tab_ne (hi := 13) ho 4 ⟨by decide, by decide⟩
    have e9_5 : ¬ w0 = nI 5 := tab_ne (hi := 13) ho 5 ⟨by decide, by decide⟩
    have e9_6 : ¬ w0 = nI 6 := tab_ne (hi := 13) ho 6 ⟨by decide, by decide⟩
    have e9_7 : ¬ w0 = nI 7 := tab_ne (hi := 13) ho 7 ⟨by decide, by decide⟩
    have e9_8 : ¬ w0 = nI 8 := tab_ne (hi := 13) ho 8 ⟨by decide, by decide⟩
    have e9_9 : ¬ w0 = nI 9 := tab_ne (hi := 13) ho 9 ⟨by decide, by decide⟩
    have e9_10 : ¬ w0 = nI 10 := tab_ne (hi := 13) ho 10 ⟨by decide, by decide⟩
    have e9_11 : ¬ w0 = nI 11 := tab_ne (hi := 13) ho 11 ⟨by decide, by decide⟩
    have e9_12 : ¬ w0 = nI 12 := tab_ne (hi := 13) ho 12 ⟨by decide, by decide⟩
    have e9_13 : ¬ w0 = nI 13 := tab_ne (hi := 13) ho 13 ⟨by decide, by decide⟩
    refine Wk.sipush (v := -10002) X dX4_about_116 (by decide) ?_
    exact Wk.iret X hr hk (by simp [abR, *]) rfl dX4_about_119

