theorem inB_inN (x : Int32) {k : Nat} (hk : k + 1 < 2 ^ 31) : inB x (nI 0) (nI k) = inN x (k + 1) := by
  unfold inB inN
  have h : nI k < x ↔ nI (k + 1) ≤ x := by
    rw [Int32.lt_iff_toInt_lt, Int32.le_iff_toInt_le, nI_toInt (by omega), nI_toInt (by omega)]
    omega
  rw [nI_0]
  simp only [h]
theorem inN4 (x : Int32) : inN x 4 = inB x (nI 0) (nI 3) := (inB_inN x (by decide)).symm
theorem inB0 (x b : Int32) : inB x 0 b = inB x (nI 0) b := by rw [nI_0]
theorem isTh (x : Int32) {n : Nat} (hn : n ≤ 24) : inB x (nI 0) (nI n - nI 1) = inN x n := by
  cases n with
  | zero =>
    unfold inB inN
    rw [nI_0]
    have h : ¬ (¬ x < 0 ∧ ¬ (0 : Int32) - nI 1 < x) := by
      intro h
      have h1 := h.1
      have h2 := h.2
      rw [Int32.lt_iff_toInt_lt] at h1 h2
      have e1 : ((0 : Int32) - nI 1).toInt = -1 := by decide
      have e0 : (0 : Int32).toInt = 0 := by decide
      rw [e1] at h2
      rw [e0] at h1
      omega
    have h2 : ¬ (¬ x < 0 ∧ ¬ (0 : Int32) ≤ x) := by
      intro h
      have h1 := h.1
      have h2 := h.2
      rw [Int32.lt_iff_toInt_lt] at h1
      rw [Int32.le_iff_toInt_le] at h2
      omega
    rw [decide_eq_false h, decide_eq_false h2]
  | succ k =>
    rw [pk_sub (a := k + 1) (b := 1) (by omega)]
    exact inB_inN x (by omega)
def anyB (x : Int32) (n : Nat) : Bool := decide (x = -1) || inN x n
def atM (x : Int32) : Int32 := if x = -1 then nI 96 else nI 4 * x
theorem atM_nI {j : Nat} (hj : j < 24) : atM (nI j) = nI (j * 4) := by
  unfold atM
  have h : ¬ nI j = -1 := by
    intro h
    have h1 : (nI j).toInt = (-1 : Int32).toInt := by rw [h]
    rw [nI_toInt (by omega)] at h1
    have e1 : (-1 : Int32).toInt = -1 := by decide
    omega
  rw [if_neg h, pk_mul, Nat.mul_comm]
theorem atM_m1 : atM (-1) = nI (24 * 4) := by decide
theorem anyB_ok {x : Int32} {n : Nat} (hn : n ≤ 24) (h : anyB x n = true) : ∃ r, r < 25 ∧ atM x = nI (r * 4) := by
  unfold anyB at h
  rcases (Bool.or_eq_true _ _).mp h with h | h
  · have h := of_decide_eq_true h
    subst h
    exact ⟨24, by decide, atM_m1⟩
  · obtain ⟨j, hj, rfl⟩ := inN_t (by omega) h
    exact ⟨j, by omega, atM_nI (by omega)⟩
def glM (hb : Nat → Bool) (nu : Nat → Int32) (r f : Nat) (c s : Int32) : Bool := if hb (r * 4 + f) = true then decide (nu (r * 4 + f) ≤ c) else decide (s = 0)
def gM (fe lm si : Nat → Int32) (hb : Nat → Bool) (nu : Nat → Int32) (r : Nat) : Nat → Bool := fun j => glM hb nu r (fe j).toNatClampNeg (lm j) (si j)
def scoreM (ki fe lm si va : Nat → Int32) (hb : Nat → Bool) (nu : Nat → Int32) (t r : Nat) : Int64 := smC ki va (gM fe lm si hb nu r) t
theorem vf_stop {ki : Nat → Int32} {g : Nat → Bool} {b k : Nat} (h : ¬ ki (b + k) = nI 2) (d : Nat) : vfC ki g b d k = k := by
  cases d with
  | zero => rfl
  | succ d => simp [vfC, h]
def psM (li gr : Nat → Int32) (sc : Nat → Int64) (mg : Int32) (i : Nat) : Nat → Int32
  | 0 => 0
  | k + 1 => if pairB li gr k i = true ∧ ¬ mg.toInt64 ≤ sc k - sc i then (if pairB li gr i k = true ∧ ¬ mg.toInt64 ≤ sc i - sc k then psM li gr sc mg i k + (gr i - gr k) else psM li gr sc mg i k) - (gr k - gr i) else (if pairB li gr i k = true ∧ ¬ mg.toInt64 ≤ sc i - sc k then psM li gr sc mg i k + (gr i - gr k) else psM li gr sc mg i k)
def flM (a b : Int32) : Int32 := if 0 ≤ a - a / b * b then a / b else a / b - 1
def gcT : Nat → Int64 → Int64 → Prop
  | 0, _, y => y = 0
  | k + 1, x, y => y = 0 ∨ gcT k y (x - x / y * y)
def filB (f : Nat → Bool) (a : Nat) : Nat → Nat → Bool
  | 0 => f
  | k + 1 => updB (filB f a k) (a + k) false
def ixM (x f : Int32) : Nat := (atM x).toNatClampNeg + f.toNatClampNeg
def ftMB (x f v : Int32) (n : Nat) : Bool := anyB x n && (inN f 4 && inB v (-1000) (nI 1000))
def ftM (x f v : Int32) (n : Nat) (hb : Nat → Bool) : Int32 := if anyB x n = true then (if inN f 4 = true ∧ inB v (-1000) (nI 1000) = true then (if hb (ixM x f) = true then nI 1 else nI 0) else -10002) else -10001
def msMB (x f : Int32) (n : Nat) : Bool := anyB x n && inN f 4
def msM (x f : Int32) (n : Nat) (hb : Nat → Bool) : Int32 := if anyB x n = true then (if inN f 4 = true then (if hb (ixM x f) = true then nI 1 else nI 0) else -10002) else -10001
/-- how the reference's told ends -/
def tdM (x f : Int32) (n : Nat) (hb : Nat → Bool) : Int32 := if inB x (nI 0) (nI 23) = true then (if x < nI n then (if inN f 4 = true then (if hb (x.toNatClampNeg * 4 + f.toNatClampNeg) = true then nI 0 else nI 1) else nI 2) else nI 1) else nI 2
def mayM (x v : Int32) : Bool := if x = nI 0 then inB v (nI 0) (nI 1000) else if x = nI 1 then inB v (nI 1) (nI 100) else if x = nI 2 then inB v (nI 1) (nI 3) else if x = nI 3 then inB v (nI 1) (nI 8) else false
def stM (x v : Int32) (se : Nat → Int32) : Int32 := if mayM x v = true then se x.toNatClampNeg else -10002
def ndB (ki : Nat → Int32) (t : Nat) (x y : Int32) : Bool := inN x t && (inN y 15 && decide (¬ ki (x.toNatClampNeg * 15 + y.toNatClampNeg) ≤ 0))
def ndM (ki fe lm si va he : Nat → Int32) (t : Nat) (x y w0 : Int32) : Int32 := if ndB ki t x y = true then ndA ki fe lm si va he (x.toNatClampNeg * 15 + y.toNatClampNeg) w0 else -10001
def gnM (ki : Nat → Int32) (up lo : Nat → Int64) (t : Nat) (x y w0 : Int32) : Int64 :=
  if ndB ki t x y = true ∧ ki (x.toNatClampNeg * 15 + y.toNatClampNeg) = nI 2 then (if w0 = nI 0 then up (x.toNatClampNeg * 15 + y.toNatClampNeg) else if w0 = nI 1 then lo (x.toNatClampNeg * 15 + y.toNatClampNeg) else -10002) else -10001
def raI (li : Nat → Int32) (sc : Nat → Int64) (ls : Int32) (i : Nat) : Nat → Nat
  | 0 => 0
  | k + 1 => if li k = ls ∧ (sc i < sc k ∨ (sc k = sc i ∧ k < i)) then raI li sc ls i k + 1 else raI li sc ls i k
def raM (li : Nat → Int32) (sc : Nat → Int64) (n : Nat) (ls k : Int32) : Nat → Nat → Int32
  | 0, _ => -1
  | d + 1, i => if li i = ls ∧ nI (raI li sc ls i n) = k then nI i else raM li sc n ls k d (i + 1)
def caM (ki fe : Nat → Int32) (w0 : Int32) : Nat → Nat
  | 0 => 0
  | k + 1 => if (w0 = nI 2 ∧ ki k = nI 1) ∨ (¬ w0 = nI 2 ∧ ki k = nI 2 ∧ fe k = w0 - nI 10) then caM ki fe w0 k + 1 else caM ki fe w0 k
def abM (ki fe : Nat → Int32) (n t : Nat) (w0 : Int32) : Int32 := if w0 = nI 0 then nI n else if w0 = nI 1 then nI t else if w0 = nI 2 ∨ inB w0 (nI 10) (nI 13) = true then nI (caM ki fe w0 (t * 15)) else -10002
def alM (x : Int32) : Bool := inB x (-1) (nI 3)
set_option maxHeartbeats 4000000 in
set_option maxRecDepth 100000 in
theorem c_X5_in (l : Launch) (dC : Nat → ClassId) (dI : Nat → Nat → Nat) (cI cJ cZ : ClassId) (v : Int32) (a : Int32) (b : Int32) : Ci l yX5_in wsX5_in 0 0 (dC, dI) cl6 (TY cI cJ cZ) false [.int v, .int a, .int b] ([]) (bI (inB v a b)) ([]) := by
  refine Ci.of (cc := cX5_in) (maxL := 3) (ty := .boolean) (own := RX5) rfl (plainFor_of_name (by decide)) rfl (Nat.le_of_ble_eq_true rfl) ?_
  intro pg ev s0 md ar bw mt cd A X hr hk
  show Wk pg l ev _ s0 md ar bw mt cd 0 0 _ 3 (dC, dI) cl6 A 0 [(0, .int v), (1, .int a), (2, .int b)] [] ([])
  refine Wk.iload_n X 0 rfl dX5_in_0 rfl ?_
  refine Wk.iload_n X 1 rfl dX5_in_1 rfl ?_
  refine Wk.icmp_lt X 14 dX5_in_2 (by decide) (fun c1 => ?_) (fun c1 => ?_)
  · skip
    refine Wk.iconst (v := nI 0) X dX5_in_14 (by decide) ?_
    exact Wk.zret X hr hk (by decide) (by simp [inB, bI, nI_0, nIc1, *]) rfl dX5_in_15
  · skip
    refine Wk.iload_n X 0 rfl dX5_in_5 rfl ?_
    refine Wk.iload_n X 2 rfl dX5_in_6 rfl ?_
    refine Wk.icmp_gt X 14 dX5_in_7 (by decide) (fun c2 => ?_) (fun c2 => ?_)
    · skip
      refine Wk.iconst (v := nI 0) X dX5_in_14 (by decide) ?_
      exact Wk.zret X hr hk (by decide) (by simp [inB, bI, nI_0, nIc1, *]) rfl dX5_in_15
    · skip
      refine Wk.iconst (v := nI 1) X dX5_in_10 (by decide) ?_
      refine Wk.goto X 15 dX5_in_11 (by decide) ?_
      exact Wk.zret X hr hk (by decide) (by simp [inB, bI, nI_0, nIc1, *]) rfl dX5_in_15

set_option maxHeartbeats 4000000 in
set_option maxRecDepth 100000 in
theorem c_X5_isThing (l : Launch) (dC : Nat → ClassId) (dI : Nat → Nat → Nat) (cI cJ cZ : ClassId) (h : Nat → Nat) (th : Int32) (n : Nat) (li : Nat → Int32) (gr : Nat → Int32) (nu : Nat → Int32) (hb : Nat → Bool) (se : Nat → Int32) (t : Nat) (ki : Nat → Int32) (fe : Nat → Int32) (lm : Nat → Int32) (si : Nat → Int32) (va : Nat → Int32) (he : Nat → Int32) (up : Nat → Int64) (lo : Nat → Int64) (sc : Nat → Int64) (no : Nat → Int32) (pu : Nat → Int32) (b1 : Int32) (b2 : Int32) (b3 : Int32) (bu : Int64) (bl : Int64) (x : Int32) (hn0 : n ≤ 24) : Ci l yX5_isThing wsX5_isThing 1 22 (dC, dI) cl6 (TY cI cJ cZ) false [.ref (h 0), .int x] (Wm h cI cJ cZ th n li gr nu hb se t ki fe lm si va he up lo sc no pu b1 b2 b3 bu bl) (bI (inN x n)) (Wm h cI cJ cZ th n li gr nu hb se t ki fe lm si va he up lo sc no pu b1 b2 b3 bu bl) := by
  refine Ci.of (cc := cX5_isThing) (maxL := 2) (ty := .boolean) (own := RX5) rfl (plainFor_of_name (by decide)) rfl (Nat.le_of_ble_eq_true rfl) ?_
  intro pg ev s0 md ar bw mt cd A X hr hk
  show Wk pg l ev _ s0 md ar bw mt cd 0 0 _ 2 (dC, dI) cl6 A 0 [(0, .ref (h 0)), (1, .int x)] [] (Wm h cI cJ cZ th n li gr nu hb se t ki fe lm si va he up lo sc no pu b1 b2 b3 bu bl)
  have inX5 : ∀ w ∈ u_ws RX5 TX5 24, w ∈ wsX5_isThing := by decide +kernel
  have lk63 := X.w (.fieldLink RX5 63 "PairedTreesModel" "things" "I") (by decide +kernel)
  refine Wk.iload_n X 1 rfl dX5_isThing_0 rfl ?_
  refine Wk.iconst (v := nI 0) X dX5_isThing_1 (by decide) ?_
  refine Wk.aload_n X 0 rfl dX5_isThing_2 rfl ?_
  refine Wk.get X inX5 0 1 lk63 (fun _ h9 => h9) rfl rfl (by decide) rfl dX5_isThing_3 ?_
  refine Wk.iconst (v := nI 1) X dX5_isThing_6 (by decide) ?_
  refine Wk.isub X dX5_isThing_7 ?_
  refine Wk.callSi (n := 3) X (c_X5_in l dC dI cI cJ cZ x (nI 0) ((nI n) - (nI 1))) gX5_isThing_X5_in rfl (by decide +kernel) (by decide) Fr.nil (fun h9 => h9) rfl rfl (Nat.le_of_ble_eq_true rfl) ⟨Nat.zero_le _, Nat.zero_le _⟩ dX5_isThing_8 ?_
  exact Wk.zret X hr hk (bI_nar _) (by rw [isTh x hn0]) rfl dX5_isThing_11

set_option maxHeartbeats 4000000 in
set_option maxRecDepth 100000 in
theorem c_X5_isAny (l : Launch) (dC : Nat → ClassId) (dI : Nat → Nat → Nat) (cI cJ cZ : ClassId) (h : Nat → Nat) (th : Int32) (n : Nat) (li : Nat → Int32) (gr : Nat → Int32) (nu : Nat → Int32) (hb : Nat → Bool) (se : Nat → Int32) (t : Nat) (ki : Nat → Int32) (fe : Nat → Int32) (lm : Nat → Int32) (si : Nat → Int32) (va : Nat → Int32) (he : Nat → Int32) (up : Nat → Int64) (lo : Nat → Int64) (sc : Nat → Int64) (no : Nat → Int32) (pu : Nat → Int32) (b1 : Int32) (b2 : Int32) (b3 : Int32) (bu : Int64) (bl : Int64) (x : Int32) (hn0 : n ≤ 24) : Ci l yX5_isAny wsX5_isAny 2 43 (dC, dI) cl6 (TY cI cJ cZ) false [.ref (h 0), .int x] (Wm h cI cJ cZ th n li gr nu hb se t ki fe lm si va he up lo sc no pu b1 b2 b3 bu bl) (bI (anyB x n)) (Wm h cI cJ cZ th n li gr nu hb se t ki fe lm si va he up lo sc no pu b1 b2 b3 bu bl) := by
  refine Ci.of (cc := cX5_isAny) (maxL := 2) (ty := .boolean) (own := RX5) rfl (plainFor_of_name (by decide)) rfl (Nat.le_of_ble_eq_true rfl) ?_
  intro pg ev s0 md ar bw mt cd A X hr hk
  show Wk pg l ev _ s0 md ar bw mt cd 0 0 _ 2 (dC, dI) cl6 A 0 [(0, .ref (h 0)), (1, .int x)] [] (Wm h cI cJ cZ th n li gr nu hb se t ki fe lm si va he up lo sc no pu b1 b2 b3 bu bl)
  refine Wk.iload_n X 1 rfl dX5_isAny_0 rfl ?_
  refine Wk.iconst (v := -1) X dX5_isAny_1 (by decide) ?_
  refine Wk.icmp_eq X 13 dX5_isAny_2 (by decide) (fun c1 => ?_) (fun c1 => ?_)
  · skip
    refine Wk.iconst (v := nI 1) X dX5_isAny_13 (by decide) ?_
    refine Wk.goto X 18 dX5_isAny_14 (by decide) ?_
    exact Wk.zret X hr hk (by decide) (by simp [anyB, bI, nI_0, nIc1, *]) rfl dX5_isAny_18
  · skip
    refine Wk.aload_n X 0 rfl dX5_isAny_5 rfl ?_
    refine Wk.iload_n X 1 rfl dX5_isAny_6 rfl ?_
    refine Wk.callVi (n := 1) (q0 := 0) X (c_X5_isThing l dC dI cI cJ cZ h th n li gr nu hb se t ki fe lm si va he up lo sc no pu b1 b2 b3 bu bl x (by first | omega | assumption)) gX5_isAny_X5_isThing rfl (by decide +kernel) (by decide) Fr.all (fun h9 => h9) rfl rfl rfl rfl (Nat.le_of_ble_eq_true rfl) ⟨Nat.zero_le _, Nat.zero_le _⟩ dX5_isAny_7 ?_
    refine Wk.ifB_eq X 17 dX5_isAny_10 (by decide) (fun c2 => ?_) (fun c2 => ?_)
    · skip
      refine Wk.iconst (v := nI 0) X dX5_isAny_17 (by decide) ?_
      exact Wk.zret X hr hk (by decide) (by simp [anyB, bI, nI_0, nIc1, *]) rfl dX5_isAny_18
    · skip
      refine Wk.iconst (v := nI 1) X dX5_isAny_13 (by decide) ?_
      refine Wk.goto X 18 dX5_isAny_14 (by decide) ?_
      exact Wk.zret X hr hk (by decide) (by simp [anyB, bI, nI_0, nIc1, *]) rfl dX5_isAny_18

set_option maxHeartbeats 4000000 in
set_option maxRecDepth 100000 in
theorem c_X5_at (l : Launch) (dC : Nat → ClassId) (dI : Nat → Nat → Nat) (cI cJ cZ : ClassId) (x : Int32) : Ci l yX5_at wsX5_at 0 0 (dC, dI) cl6 (TY cI cJ cZ) false [.int x] ([]) (atM x) ([]) := by
  refine Ci.of (cc := cX5_at) (maxL := 1) (ty := .int) (own := RX5) rfl (plainFor_of_name (by decide)) rfl (Nat.le_of_ble_eq_true rfl) ?_
  intro pg ev s0 md ar bw mt cd A X hr hk
  show Wk pg l ev _ s0 md ar bw mt cd 0 0 _ 1 (dC, dI) cl6 A 0 [(0, .int x)] [] ([])
  refine Wk.iload_n X 0 rfl dX5_at_0 rfl ?_
  refine Wk.iconst (v := -1) X dX5_at_1 (by decide) ?_
  refine Wk.icmp_ne X 10 dX5_at_2 (by decide) (fun c1 => ?_) (fun c1 => ?_)
  · skip
    refine Wk.iconst (v := nI 4) X dX5_at_10 (by decide) ?_
    refine Wk.iload_n X 0 rfl dX5_at_11 rfl ?_
    refine Wk.imul X dX5_at_12 ?_
    exact Wk.iret X hr hk (by simp [atM, *]) rfl dX5_at_13
  · skip
    refine Wk.bipush (v := nI 96) X dX5_at_5 (by decide) ?_
    refine Wk.goto X 13 dX5_at_7 (by decide) ?_
    exact Wk.iret X hr hk (by simp [atM, *]) rfl dX5_at_13

set_option maxHeartbeats 4000000 in
set_option maxRecDepth 100000 in
theorem c_X5_thrown (l : Launch) (dC : Nat → ClassId) (dI : Nat → Nat → Nat) (cI cJ cZ : ClassId) (h : Nat → Nat) (th : Int32) (n : Nat) (li : Nat → Int32) (gr : Nat → Int32) (nu : Nat → Int32) (hb : Nat → Bool) (se : Nat → Int32) (t : Nat) (ki : Nat → Int32) (fe : Nat → Int32) (lm : Nat → Int32) (si : Nat → Int32) (va : Nat → Int32) (he : Nat → Int32) (up : Nat → Int64) (lo : Nat → Int64) (sc : Nat → Int64) (no : Nat → Int32) (pu : Nat → Int32) (b1 : Int32) (b2 : Int32) (b3 : Int32) (bu : Int64) (bl : Int64) : Ci l yX5_thrown wsX5_thrown 0 0 (dC, dI) cl6 (TY cI cJ cZ) false [.ref (h 0)] (Wm h cI cJ cZ th n li gr nu hb se t ki fe lm si va he up lo sc no pu b1 b2 b3 bu bl) th (Wm h cI cJ cZ th n li gr nu hb se t ki fe lm si va he up lo sc no pu b1 b2 b3 bu bl) := by
  refine Ci.of (cc := cX5_thrown) (maxL := 1) (ty := .int) (own := RX5) rfl (plainFor_of_name (by decide)) rfl (Nat.le_of_ble_eq_true rfl) ?_
  intro pg ev s0 md ar bw mt cd A X hr hk
  show Wk pg l ev _ s0 md ar bw mt cd 0 0 _ 1 (dC, dI) cl6 A 0 [(0, .ref (h 0))] [] (Wm h cI cJ cZ th n li gr nu hb se t ki fe lm si va he up lo sc no pu b1 b2 b3 bu bl)
  have inX5 : ∀ w ∈ u_ws RX5 TX5 24, w ∈ wsX5_thrown := by decide +kernel
  have lk70 := X.w (.fieldLink RX5 70 "PairedTreesModel" "thrown" "I") (by decide +kernel)
  refine Wk.aload_n X 0 rfl dX5_thrown_0 rfl ?_
  refine Wk.get X inX5 0 0 lk70 (fun _ h9 => h9) rfl rfl (by decide) rfl dX5_thrown_1 ?_
  exact Wk.iret X hr hk (by first | rfl | omega | (simp [*]; done)) rfl dX5_thrown_4

set_option maxHeartbeats 4000000 in
set_option maxRecDepth 100000 in
theorem c_X5_thing (l : Launch) (dC : Nat → ClassId) (dI : Nat → Nat → Nat) (cI cJ cZ : ClassId) (h : Nat → Nat) (th : Int32) (n : Nat) (li : Nat → Int32) (gr : Nat → Int32) (nu : Nat → Int32) (hb : Nat → Bool) (se : Nat → Int32) (t : Nat) (ki : Nat → Int32) (fe : Nat → Int32) (lm : Nat → Int32) (si : Nat → Int32) (va : Nat → Int32) (he : Nat → Int32) (up : Nat → Int64) (lo : Nat → Int64) (sc : Nat → Int64) (no : Nat → Int32) (pu : Nat → Int32) (b1 : Int32) (b2 : Int32) (b3 : Int32) (bu : Int64) (bl : Int64) (ls : Int32) (gd : Int32) (hn0 : n ≤ 24) : Ci l yX5_thing wsX5_thing 1 22 (dC, dI) cl6 (TY cI cJ cZ) false [.ref (h 0), .int ls, .int gd] (Wm h cI cJ cZ th n li gr nu hb se t ki fe lm si va he up lo sc no pu b1 b2 b3 bu bl) (thR ls gd n) (Wm h cI cJ cZ (nI 0) (if thB ls gd n = true then n + 1 else n) (if thB ls gd n = true then upd li n ls else li) (if thB ls gd n = true then upd gr n gd else gr) nu (if thB ls gd n = true then filB hb (n * 4) 4 else hb) se t ki fe lm si va he up lo sc no pu b1 b2 b3 bu bl) := by
  refine Ci.of (cc := cX5_thing) (maxL := 4) (ty := .int) (own := RX5) rfl (plainFor_of_name (by decide)) rfl (Nat.le_of_ble_eq_true rfl) ?_
  intro pg ev s0 md ar bw mt cd A X hr hk
  show Wk pg l ev _ s0 md ar bw mt cd 0 0 _ 4 (dC, dI) cl6 A 0 [(0, .ref (h 0)), (1, .int ls), (2, .int gd)] [] (Wm h cI cJ cZ th n li gr nu hb se t ki fe lm si va he up lo sc no pu b1 b2 b3 bu bl)
  have inX5 : ∀ w ∈ u_ws RX5 TX5 24, w ∈ wsX5_thing := by decide +kernel
  have lk7 := X.w (.fieldLink RX5 7 "PairedTreesModel" "listOf" "[I") (by decide +kernel)
  have lk13 := X.w (.fieldLink RX5 13 "PairedTreesModel" "gradeOf" "[I") (by decide +kernel)
  have lk19 := X.w (.fieldLink RX5 19 "PairedTreesModel" "has" "[Z") (by decide +kernel)
  have lk63 := X.w (.fieldLink RX5 63 "PairedTreesModel" "things" "I") (by decide +kernel)
  have lk70 := X.w (.fieldLink RX5 70 "PairedTreesModel" "thrown" "I") (by decide +kernel)
  refine Wk.aload_n X 0 rfl dX5_thing_0 rfl ?_
  refine Wk.iconst (v := nI 0) X dX5_thing_1 (by decide) ?_
  refine Wk.put (ws' := Wm h cI cJ cZ (nI 0) n li gr nu hb se t ki fe lm si va he up lo sc no pu b1 b2 b3 bu bl) X inX5 tyX5 tyX5_ok nmX5 0 0 lk70 (fun _ h9 => h9) rfl rfl (by decide) rfl (tyX5_ok 0 (by decide)) rfl rfl (Nat.le_of_ble_eq_true rfl) rfl dX5_thing_2 ?_
  refine Wk.iload_n X 1 rfl dX5_thing_5 rfl ?_
  refine Wk.iconst (v := nI 0) X dX5_thing_6 (by decide) ?_
  refine Wk.iconst (v := nI 3) X dX5_thing_7 (by decide) ?_
  refine Wk.callSi (n := 3) X (c_X5_in l dC dI cI cJ cZ ls (nI 0) (nI 3)) gX5_thing_X5_in rfl (by decide +kernel) (by decide) Fr.nil (fun h9 => h9) rfl rfl (Nat.le_of_ble_eq_true rfl) ⟨Nat.zero_le _, Nat.zero_le _⟩ dX5_thing_8 ?_
  refine Wk.ifB_eq X 23 dX5_thing_11 (by decide) (fun c1 => ?_) (fun c1 => ?_)
  · skip
    refine Wk.sipush (v := -10002) X dX5_thing_23 (by decide) ?_
    exact Wk.iret X hr hk (by simp [thR, inN4, inB0, *]) (by simp [thB, inN4, inB0, *]) dX5_thing_26
  · skip
    refine Wk.iload_n X 2 rfl dX5_thing_14 rfl ?_
    refine Wk.iconst (v := nI 0) X dX5_thing_15 (by decide) ?_
    refine Wk.iconst (v := nI 4) X dX5_thing_16 (by decide) ?_
    refine Wk.callSi (n := 3) X (c_X5_in l dC dI cI cJ cZ gd (nI 0) (nI 4)) gX5_thing_X5_in rfl (by decide +kernel) (by decide) Fr.nil (fun h9 => h9) rfl rfl (Nat.le_of_ble_eq_true rfl) ⟨Nat.zero_le _, Nat.zero_le _⟩ dX5_thing_17 ?_
    refine Wk.ifB_ne X 27 dX5_thing_20 (by decide) (fun c2 => ?_) (fun c2 => ?_)
    · skip
      refine Wk.aload_n X 0 rfl dX5_thing_27 rfl ?_
      refine Wk.get X inX5 0 1 lk63 (fun _ h9 => h9) rfl rfl (by decide) rfl dX5_thing_28 ?_
      refine Wk.bipush (v := nI 24) X dX5_thing_31 (by decide) ?_
      refine Wk.icmpN_ne X 40 (by omega) (by omega) dX5_thing_33 (by decide) (fun c3 => ?_) (fun c3 => ?_)
      · skip
        refine Wk.aload_n X 0 rfl dX5_thing_40 rfl ?_
        refine Wk.get X inX5 0 2 lk7 (fun _ h9 => h9) rfl rfl (by decide) rfl dX5_thing_41 ?_
        refine Wk.aload_n X 0 rfl dX5_thing_44 rfl ?_
        refine Wk.get X inX5 0 1 lk63 (fun _ h9 => h9) rfl rfl (by decide) rfl dX5_thing_45 ?_
        refine Wk.iload_n X 1 rfl dX5_thing_48 rfl ?_
        refine Wk.iast (ws' := Wm h cI cJ cZ (nI 0) n (upd li n ls) gr nu hb se t ki fe lm si va he up lo sc no pu b1 b2 b3 bu bl) X 1 0 rfl rfl (by omega) (by decide) rfl dX5_thing_49 ?_
        refine Wk.aload_n X 0 rfl dX5_thing_50 rfl ?_
        refine Wk.get X inX5 0 3 lk13 (fun _ h9 => h9) rfl rfl (by decide) rfl dX5_thing_51 ?_
        refine Wk.aload_n X 0 rfl dX5_thing_54 rfl ?_
        refine Wk.get X inX5 0 1 lk63 (fun _ h9 => h9) rfl rfl (by decide) rfl dX5_thing_55 ?_
        refine Wk.iload_n X 2 rfl dX5_thing_58 rfl ?_
        refine Wk.iast (ws' := Wm h cI cJ cZ (nI 0) n (upd li n ls) (upd gr n gd) nu hb se t ki fe lm si va he up lo sc no pu b1 b2 b3 bu bl) X 2 0 rfl rfl (by omega) (by decide) rfl dX5_thing_59 ?_
        refine Wk.iconst (v := nI 0) X dX5_thing_60 (by decide) ?_
        refine Wk.istore_n (lv' := [(3, .int (nI 0)), (0, .ref (h 0)), (1, .int ls), (2, .int gd)]) X dX5_thing_61 rfl (by decide) rfl ?_
        have L62 : ∀ (fu62 : Nat) (f : Nat) (hq : 5 ≤ f + fu62) (hf : f ≤ 4), Wk pg l ev ({ frames := 1, cells := 0, slots := 0, locals := 22 } : Room) s0 md ar bw mt cd 0 0 (QRi bw ar s0 (dC, dI) cl6 (TY cI cJ cZ) A (thR ls gd n) (Wm h cI cJ cZ (nI 0) (if thB ls gd n = true then n + 1 else n) (if thB ls gd n = true then upd li n ls else li) (if thB ls gd n = true then upd gr n gd else gr) nu (if thB ls gd n = true then filB hb (n * 4) 4 else hb) se t ki fe lm si va he up lo sc no pu b1 b2 b3 bu bl)) 4 (dC, dI) cl6 A 62 [(0, .ref (h 0)), (1, .int ls), (2, .int gd), (3, .int (nI f))] [] (Wm h cI cJ cZ (nI 0) n (upd li n ls) (upd gr n gd) nu (filB hb (n * 4) f) se t ki fe lm si va he up lo sc no pu b1 b2 b3 bu bl) := by
          intro fu62
          induction fu62 with
          | zero => intro f hq hf; exact absurd hq (by omega)
          | succ fu62 ih62 =>
            intro f hq hf
            refine Wk.iload_n X 3 rfl dX5_thing_62 rfl ?_
            refine Wk.iconst (v := nI 4) X dX5_thing_63 (by decide) ?_
            refine Wk.icmpN_ge X 87 (by omega) (by omega) dX5_thing_64 (by decide) (fun c4 => ?_) (fun c4 => ?_)
            · skip
              refine Wk.aload_n X 0 rfl dX5_thing_87 rfl ?_
              refine Wk.dup X dX5_thing_88 rfl ?_
              refine Wk.get X inX5 0 1 lk63 (fun _ h9 => h9) rfl rfl (by decide) rfl dX5_thing_89 ?_
              refine Wk.iconst (v := nI 1) X dX5_thing_92 (by decide) ?_
              refine Wk.iaddN X dX5_thing_93 ?_
              refine Wk.put (ws' := Wm h cI cJ cZ (nI 0) (n + 1) (upd li n ls) (upd gr n gd) nu (filB hb (n * 4) f) se t ki fe lm si va he up lo sc no pu b1 b2 b3 bu bl) X inX5 tyX5 tyX5_ok nmX5 0 1 lk63 (fun _ h9 => h9) rfl rfl (by decide) rfl (tyX5_ok 1 (by decide)) rfl rfl (Nat.le_of_ble_eq_true rfl) rfl dX5_thing_94 ?_
              refine Wk.aload_n X 0 rfl dX5_thing_97 rfl ?_
              refine Wk.get X inX5 0 1 lk63 (fun _ h9 => h9) rfl rfl (by decide) rfl dX5_thing_98 ?_
              refine Wk.iconst (v := nI 1) X dX5_thing_101 (by decide) ?_
              refine Wk.isubN X (by omega) dX5_thing_102 ?_
              exact Wk.iret X hr hk (by simp [thR, inN4, inB0, show n < 24 by omega, *]) (by simp [thB, inN4, inB0, show n < 24 by omega, show f = 4 by omega, *]) dX5_thing_103
            · skip
              refine Wk.aload_n X 0 rfl dX5_thing_67 rfl ?_
              refine Wk.get X inX5 0 5 lk19 (fun _ h9 => h9) rfl rfl (by decide) rfl dX5_thing_68 ?_
              refine Wk.iconst (v := nI 4) X dX5_thing_71 (by decide) ?_
              refine Wk.aload_n X 0 rfl dX5_thing_72 rfl ?_
              refine Wk.get X inX5 0 1 lk63 (fun _ h9 => h9) rfl rfl (by decide) rfl dX5_thing_73 ?_
              refine Wk.imulC X dX5_thing_76 ?_
              refine Wk.iload_n X 3 rfl dX5_thing_77 rfl ?_
              refine Wk.iaddN X dX5_thing_78 ?_
              refine Wk.iconst (v := nI 0) X dX5_thing_79 (by decide) ?_
              refine Wk.topi (y := bI false) (by decide) ?_
              refine Wk.zast (ws' := Wm h cI cJ cZ (nI 0) n (upd li n ls) (upd gr n gd) nu (updB (filB hb (n * 4) f) (n * 4 + f) false) se t ki fe lm si va he up lo sc no pu b1 b2 b3 bu bl) X 4 2 rfl rfl (by omega) (by decide) (bI_vp _) (by rw [updB_bI]; rfl) dX5_thing_80 ?_
              refine Wk.iincN (n := 1) (lv' := [(3, .int (nI (f + 1))), (0, .ref (h 0)), (1, .int ls), (2, .int gd)]) X 3 rfl dX5_thing_81 (by decide) rfl ?_
              refine Wk.goto X 62 dX5_thing_84 (by decide) ?_
              refine Wk.lvs (lv' := [(0, .ref (h 0)), (1, .int ls), (2, .int gd), (3, .int (nI (f + 1)))]) [1, 2, 3, 0] rfl ?_
              exact ih62 (f + 1) (by omega) (by omega)
        refine Wk.lvs (lv' := [(0, .ref (h 0)), (1, .int ls), (2, .int gd), (3, .int (nI 0))]) [1, 2, 3, 0] rfl ?_
        exact L62 5 0 (by omega) (by omega)
      · skip
        refine Wk.sipush (v := -10003) X dX5_thing_36 (by decide) ?_
        exact Wk.iret X hr hk (by simp [thR, inN4, inB0, *]) (by simp [thB, inN4, inB0, *]) dX5_thing_39
    · skip
      refine Wk.sipush (v := -10002) X dX5_thing_23 (by decide) ?_
      exact Wk.iret X hr hk (by simp [thR, inN4, inB0, *]) (by simp [thB, inN4, inB0, *]) dX5_thing_26

set_option maxHeartbeats 4000000 in
set_option maxRecDepth 100000 in
theorem c_X5_grade (l : Launch) (dC : Nat → ClassId) (dI : Nat → Nat → Nat) (cI cJ cZ : ClassId) (h : Nat → Nat) (th : Int32) (n : Nat) (li : Nat → Int32) (gr : Nat → Int32) (nu : Nat → Int32) (hb : Nat → Bool) (se : Nat → Int32) (t : Nat) (ki : Nat → Int32) (fe : Nat → Int32) (lm : Nat → Int32) (si : Nat → Int32) (va : Nat → Int32) (he : Nat → Int32) (up : Nat → Int64) (lo : Nat → Int64) (sc : Nat → Int64) (no : Nat → Int32) (pu : Nat → Int32) (b1 : Int32) (b2 : Int32) (b3 : Int32) (bu : Int64) (bl : Int64) (x : Int32) (gd : Int32) (hn0 : n ≤ 24) : Ci l yX5_grade wsX5_grade 2 43 (dC, dI) cl6 (TY cI cJ cZ) false [.ref (h 0), .int x, .int gd] (Wm h cI cJ cZ th n li gr nu hb se t ki fe lm si va he up lo sc no pu b1 b2 b3 bu bl) (grR x gd n gr) (Wm h cI cJ cZ (nI 0) n li (if (inN x n && inB gd 0 (nI 4)) = true then upd gr x.toNatClampNeg gd else gr) nu hb se t ki fe lm si va he up lo sc no pu b1 b2 b3 bu bl) := by
  refine Ci.of (cc := cX5_grade) (maxL := 4) (ty := .int) (own := RX5) rfl (plainFor_of_name (by decide)) rfl (Nat.le_of_ble_eq_true rfl) ?_
  intro pg ev s0 md ar bw mt cd A X hr hk
  show Wk pg l ev _ s0 md ar bw mt cd 0 0 _ 4 (dC, dI) cl6 A 0 [(0, .ref (h 0)), (1, .int x), (2, .int gd)] [] (Wm h cI cJ cZ th n li gr nu hb se t ki fe lm si va he up lo sc no pu b1 b2 b3 bu bl)
  have inX5 : ∀ w ∈ u_ws RX5 TX5 24, w ∈ wsX5_grade := by decide +kernel
  have lk13 := X.w (.fieldLink RX5 13 "PairedTreesModel" "gradeOf" "[I") (by decide +kernel)
  have lk70 := X.w (.fieldLink RX5 70 "PairedTreesModel" "thrown" "I") (by decide +kernel)
  refine Wk.aload_n X 0 rfl dX5_grade_0 rfl ?_
  refine Wk.iconst (v := nI 0) X dX5_grade_1 (by decide) ?_
  refine Wk.put (ws' := Wm h cI cJ cZ (nI 0) n li gr nu hb se t ki fe lm si va he up lo sc no pu b1 b2 b3 bu bl) X inX5 tyX5 tyX5_ok nmX5 0 0 lk70 (fun _ h9 => h9) rfl rfl (by decide) rfl (tyX5_ok 0 (by decide)) rfl rfl (Nat.le_of_ble_eq_true rfl) rfl dX5_grade_2 ?_
  refine Wk.aload_n X 0 rfl dX5_grade_5 rfl ?_
  refine Wk.iload_n X 1 rfl dX5_grade_6 rfl ?_
  refine Wk.callVi (n := 1) (q0 := 0) X (c_X5_isThing l dC dI cI cJ cZ h (nI 0) n li gr nu hb se t ki fe lm si va he up lo sc no pu b1 b2 b3 bu bl x (by first | omega | assumption)) gX5_grade_X5_isThing rfl (by decide +kernel) (by decide) Fr.all (fun h9 => h9) rfl rfl rfl rfl (Nat.le_of_ble_eq_true rfl) ⟨Nat.zero_le _, Nat.zero_le _⟩ dX5_grade_7 ?_
  refine Wk.ifB_ne X 17 dX5_grade_10 (by decide) (fun c1 => ?_) (fun c1 => ?_)
  · skip
    refine Wk.iload_n X 2 rfl dX5_grade_17 rfl ?_
    refine Wk.iconst (v := nI 0) X dX5_grade_18 (by decide) ?_
    refine Wk.iconst (v := nI 4) X dX5_grade_19 (by decide) ?_
    refine Wk.callSi (n := 3) X (c_X5_in l dC dI cI cJ cZ gd (nI 0) (nI 4)) gX5_grade_X5_in rfl (by decide +kernel) (by decide) Fr.nil (fun h9 => h9) rfl rfl (Nat.le_of_ble_eq_true rfl) ⟨Nat.zero_le _, Nat.zero_le _⟩ dX5_grade_20 ?_
    refine Wk.ifB_ne X 30 dX5_grade_23 (by decide) (fun c2 => ?_) (fun c2 => ?_)
    · skip
      obtain ⟨j, hj, rfl⟩ := inN_t (x := x) (n := n) (by omega) c1
      refine Wk.aload_n X 0 rfl dX5_grade_30 rfl ?_
      refine Wk.get X inX5 0 3 lk13 (fun _ h9 => h9) rfl rfl (by decide) rfl dX5_grade_31 ?_
      refine Wk.iload_n X 1 rfl dX5_grade_34 rfl ?_
      refine Wk.iald X 2 0 rfl rfl (by omega) (by decide) dX5_grade_35 ?_
      refine Wk.istore_n (lv' := [(3, .int (gr j)), (0, .ref (h 0)), (1, .int (nI j)), (2, .int gd)]) X dX5_grade_36 rfl (by decide) rfl ?_
      refine Wk.aload_n X 1 rfl dX5_grade_37 rfl ?_
      refine Wk.get X inX5 0 3 lk13 (fun _ h9 => h9) rfl rfl (by decide) rfl dX5_grade_38 ?_
      refine Wk.iload_n X 2 rfl dX5_grade_41 rfl ?_
      refine Wk.iload_n X 3 rfl dX5_grade_42 rfl ?_
      refine Wk.iast (ws' := Wm h cI cJ cZ (nI 0) n li (upd gr j gd) nu hb se t ki fe lm si va he up lo sc no pu b1 b2 b3 bu bl) X 2 0 rfl rfl (by omega) (by decide) rfl dX5_grade_43 ?_
      refine Wk.iload_n X 0 rfl dX5_grade_44 rfl ?_
      exact Wk.iret X hr hk (by simp [grR, inB0, inN_nI hj (show n < 2 ^ 31 by omega), nI_clamp (show j < 2 ^ 31 by omega), *]) (by simp [inB0, inN_nI hj (show n < 2 ^ 31 by omega), nI_clamp (show j < 2 ^ 31 by omega), *]) dX5_grade_45
    · skip
      refine Wk.sipush (v := -10002) X dX5_grade_26 (by decide) ?_
      exact Wk.iret X hr hk (by simp [grR, inB0, *]) (by simp [inB0, *]) dX5_grade_29
  · skip
    refine Wk.sipush (v := -10001) X dX5_grade_13 (by decide) ?_
    exact Wk.iret X hr hk (by simp [grR, *]) (by simp [*]) dX5_grade_16

set_option maxHeartbeats 4000000 in
set_option maxRecDepth 100000 in
theorem c_X5_feature (l : Launch) (dC : Nat → ClassId) (dI : Nat → Nat → Nat) (cI cJ cZ : ClassId) (h : Nat → Nat) (th : Int32) (n : Nat) (li : Nat → Int32) (gr : Nat → Int32) (nu : Nat → Int32) (hb : Nat → Bool) (se : Nat → Int32) (t : Nat) (ki : Nat → Int32) (fe : Nat → Int32) (lm : Nat → Int32) (si : Nat → Int32) (va : Nat → Int32) (he : Nat → Int32) (up : Nat → Int64) (lo : Nat → Int64) (sc : Nat → Int64) (no : Nat → Int32) (pu : Nat → Int32) (b1 : Int32) (b2 : Int32) (b3 : Int32) (bu : Int64) (bl : Int64) (x : Int32) (f : Int32) (v : Int32) (hn0 : n ≤ 24) : Ci l yX5_feature wsX5_feature 3 64 (dC, dI) cl6 (TY cI cJ cZ) false [.ref (h 0), .int x, .int f, .int v] (Wm h cI cJ cZ th n li gr nu hb se t ki fe lm si va he up lo sc no pu b1 b2 b3 bu bl) (ftM x f v n hb) (Wm h cI cJ cZ (nI 0) n li gr (if ftMB x f v n = true then upd nu (ixM x f) v else nu) (if ftMB x f v n = true then updB hb (ixM x f) true else hb) se t ki fe lm si va he up lo sc no pu b1 b2 b3 bu bl) := by
  refine Ci.of (cc := cX5_feature) (maxL := 5) (ty := .int) (own := RX5) rfl (plainFor_of_name (by decide)) rfl (Nat.le_of_ble_eq_true rfl) ?_
  intro pg ev s0 md ar bw mt cd A X hr hk
  show Wk pg l ev _ s0 md ar bw mt cd 0 0 _ 5 (dC, dI) cl6 A 0 [(0, .ref (h 0)), (1, .int x), (2, .int f), (3, .int v)] [] (Wm h cI cJ cZ th n li gr nu hb se t ki fe lm si va he up lo sc no pu b1 b2 b3 bu bl)
  have inX5 : ∀ w ∈ u_ws RX5 TX5 24, w ∈ wsX5_feature := by decide +kernel
  have lk16 := X.w (.fieldLink RX5 16 "PairedTreesModel" "number" "[I") (by decide +kernel)
  have lk19 := X.w (.fieldLink RX5 19 "PairedTreesModel" "has" "[Z") (by decide +kernel)
  have lk70 := X.w (.fieldLink RX5 70 "PairedTreesModel" "thrown" "I") (by decide +kernel)
  refine Wk.aload_n X 0 rfl dX5_feature_0 rfl ?_
  refine Wk.iconst (v := nI 0) X dX5_feature_1 (by decide) ?_
  refine Wk.put (ws' := Wm h cI cJ cZ (nI 0) n li gr nu hb se t ki fe lm si va he up lo sc no pu b1 b2 b3 bu bl) X inX5 tyX5 tyX5_ok nmX5 0 0 lk70 (fun _ h9 => h9) rfl rfl (by decide) rfl (tyX5_ok 0 (by decide)) rfl rfl (Nat.le_of_ble_eq_true rfl) rfl dX5_feature_2 ?_
  refine Wk.aload_n X 0 rfl dX5_feature_5 rfl ?_
  refine Wk.iload_n X 1 rfl dX5_feature_6 rfl ?_
  refine Wk.callVi (n := 1) (q0 := 0) X (c_X5_isAny l dC dI cI cJ cZ h (nI 0) n li gr nu hb se t ki fe lm si va he up lo sc no pu b1 b2 b3 bu bl x (by first | omega | assumption)) gX5_feature_X5_isAny rfl (by decide +kernel) (by decide) Fr.all (fun h9 => h9) rfl rfl rfl rfl (Nat.le_of_ble_eq_true rfl) ⟨Nat.zero_le _, Nat.zero_le _⟩ dX5_feature_7 ?_
  refine Wk.ifB_ne X 17 dX5_feature_10 (by decide) (fun c1 => ?_) (fun c1 => ?_)
  · skip
    refine Wk.iload_n X 2 rfl dX5_feature_17 rfl ?_
    refine Wk.iconst (v := nI 0) X dX5_feature_18 (by decide) ?_
    refine Wk.iconst (v := nI 3) X dX5_feature_19 (by decide) ?_
    refine Wk.callSi (n := 3) X (c_X5_in l dC dI cI cJ cZ f (nI 0) (nI 3)) gX5_feature_X5_in rfl (by decide +kernel) (by decide) Fr.nil (fun h9 => h9) rfl rfl (Nat.le_of_ble_eq_true rfl) ⟨Nat.zero_le _, Nat.zero_le _⟩ dX5_feature_20 ?_
    refine Wk.ifB_eq X 39 dX5_feature_23 (by decide) (fun c2 => ?_) (fun c2 => ?_)
    · skip
      refine Wk.sipush (v := -10002) X dX5_feature_39 (by decide) ?_
      exact Wk.iret X hr hk (by simp [ftM, inN4, *]) (by simp [ftMB, inN4, *]) dX5_feature_42
    · skip
      refine Wk.iload_n X 3 rfl dX5_feature_26 rfl ?_
      refine Wk.sipush (v := -1000) X dX5_feature_27 (by decide) ?_
      refine Wk.sipush (v := nI 1000) X dX5_feature_30 (by decide) ?_
      refine Wk.callSi (n := 3) X (c_X5_in l dC dI cI cJ cZ v (-1000) (nI 1000)) gX5_feature_X5_in rfl (by decide +kernel) (by decide) Fr.nil (fun h9 => h9) rfl rfl (Nat.le_of_ble_eq_true rfl) ⟨Nat.zero_le _, Nat.zero_le _⟩ dX5_feature_33 ?_
      refine Wk.ifB_ne X 43 dX5_feature_36 (by decide) (fun c3 => ?_) (fun c3 => ?_)
      · skip
        obtain ⟨r, hr9, hat⟩ := anyB_ok hn0 c1
        obtain ⟨f1, hf1, rfl⟩ := inN_t (x := f) (n := 4) (by decide) ((inN4 f).trans c2)
        have hf4 : inN (nI f1) 4 = true := inN_nI hf1 (by decide)
        have eix : ixM x (nI f1) = r * 4 + f1 := by unfold ixM; rw [hat, nI_clamp (show r * 4 < 2 ^ 31 by omega), nI_clamp (show f1 < 2 ^ 31 by omega)]
        refine Wk.aload_n X 0 rfl dX5_feature_43 rfl ?_
        refine Wk.get X inX5 0 5 lk19 (fun _ h9 => h9) rfl rfl (by decide) rfl dX5_feature_44 ?_
        refine Wk.iload_n X 1 rfl dX5_feature_47 rfl ?_
        refine Wk.callSi (n := 1) X (c_X5_at l dC dI cI cJ cZ x) gX5_feature_X5_at rfl (by decide +kernel) (by decide) Fr.nil (fun h9 => h9) rfl rfl (Nat.le_of_ble_eq_true rfl) ⟨Nat.zero_le _, Nat.zero_le _⟩ dX5_feature_48 ?_
        refine Wk.topi hat ?_
        refine Wk.iload_n X 2 rfl dX5_feature_51 rfl ?_
        refine Wk.iaddN X dX5_feature_52 ?_
        refine Wk.zald X 4 2 rfl rfl (by omega) (by decide) dX5_feature_53 ?_
        refine Wk.ifB_eq X 61 dX5_feature_54 (by decide) (fun c4 => ?_) (fun c4 => ?_)
        · skip
          refine Wk.iconst (v := nI 0) X dX5_feature_61 (by decide) ?_
          refine Wk.istore (lv' := [(4, .int (nI 0)), (0, .ref (h 0)), (1, .int x), (2, .int (nI f1)), (3, .int v)]) X dX5_feature_62 (by decide) rfl ?_
          refine Wk.aload_n X 1 rfl dX5_feature_64 rfl ?_
          refine Wk.get X inX5 0 5 lk19 (fun _ h9 => h9) rfl rfl (by decide) rfl dX5_feature_65 ?_
          refine Wk.iload_n X 2 rfl dX5_feature_68 rfl ?_
          refine Wk.callSi (n := 1) X (c_X5_at l dC dI cI cJ cZ x) gX5_feature_X5_at rfl (by decide +kernel) (by decide) Fr.nil (fun h9 => h9) rfl rfl (Nat.le_of_ble_eq_true rfl) ⟨Nat.zero_le _, Nat.zero_le _⟩ dX5_feature_69 ?_
          refine Wk.topi hat ?_
          refine Wk.iload_n X 3 rfl dX5_feature_72 rfl ?_
          refine Wk.iaddN X dX5_feature_73 ?_
          refine Wk.iconst (v := nI 1) X dX5_feature_74 (by decide) ?_
          refine Wk.topi (y := bI true) (by decide) ?_
          refine Wk.zast (ws' := Wm h cI cJ cZ (nI 0) n li gr nu (updB hb (r * 4 + f1) true) se t ki fe lm si va he up lo sc no pu b1 b2 b3 bu bl) X 4 2 rfl rfl (by omega) (by decide) (bI_vp _) (by rw [updB_bI]; rfl) dX5_feature_75 ?_
          refine Wk.aload_n X 1 rfl dX5_feature_76 rfl ?_
          refine Wk.get X inX5 0 4 lk16 (fun _ h9 => h9) rfl rfl (by decide) rfl dX5_feature_77 ?_
          refine Wk.iload_n X 2 rfl dX5_feature_80 rfl ?_
          refine Wk.callSi (n := 1) X (c_X5_at l dC dI cI cJ cZ x) gX5_feature_X5_at rfl (by decide +kernel) (by decide) Fr.nil (fun h9 => h9) rfl rfl (Nat.le_of_ble_eq_true rfl) ⟨Nat.zero_le _, Nat.zero_le _⟩ dX5_feature_81 ?_
          refine Wk.topi hat ?_
          refine Wk.iload_n X 3 rfl dX5_feature_84 rfl ?_
          refine Wk.iaddN X dX5_feature_85 ?_
          refine Wk.iload_n X 4 rfl dX5_feature_86 rfl ?_
          refine Wk.iast (ws' := Wm h cI cJ cZ (nI 0) n li gr (upd nu (r * 4 + f1) v) (updB hb (r * 4 + f1) true) se t ki fe lm si va he up lo sc no pu b1 b2 b3 bu bl) X 3 0 rfl rfl (by omega) (by decide) rfl dX5_feature_87 ?_
          refine Wk.iload X 0 rfl dX5_feature_88 ?_
          exact Wk.iret X hr hk (by clear hat; simp [ftM, *]) (by clear hat; simp [ftMB, *]) dX5_feature_90
        · skip
          refine Wk.iconst (v := nI 1) X dX5_feature_57 (by decide) ?_
          refine Wk.goto X 62 dX5_feature_58 (by decide) ?_
          refine Wk.istore (lv' := [(4, .int (nI 1)), (0, .ref (h 0)), (1, .int x), (2, .int (nI f1)), (3, .int v)]) X dX5_feature_62 (by decide) rfl ?_
          refine Wk.aload_n X 1 rfl dX5_feature_64 rfl ?_
          refine Wk.get X inX5 0 5 lk19 (fun _ h9 => h9) rfl rfl (by decide) rfl dX5_feature_65 ?_
          refine Wk.iload_n X 2 rfl dX5_feature_68 rfl ?_
          refine Wk.callSi (n := 1) X (c_X5_at l dC dI cI cJ cZ x) gX5_feature_X5_at rfl (by decide +kernel) (by decide) Fr.nil (fun h9 => h9) rfl rfl (Nat.le_of_ble_eq_true rfl) ⟨Nat.zero_le _, Nat.zero_le _⟩ dX5_feature_69 ?_
          refine Wk.topi hat ?_
          refine Wk.iload_n X 3 rfl dX5_feature_72 rfl ?_
          refine Wk.iaddN X dX5_feature_73 ?_
          refine Wk.iconst (v := nI 1) X dX5_feature_74 (by decide) ?_
          refine Wk.topi (y := bI true) (by decide) ?_
          refine Wk.zast (ws' := Wm h cI cJ cZ (nI 0) n li gr nu (updB hb (r * 4 + f1) true) se t ki fe lm si va he up lo sc no pu b1 b2 b3 bu bl) X 4 2 rfl rfl (by omega) (by decide) (bI_vp _) (by rw [updB_bI]; rfl) dX5_feature_75 ?_
          refine Wk.aload_n X 1 rfl dX5_feature_76 rfl ?_
          refine Wk.get X inX5 0 4 lk16 (fun _ h9 => h9) rfl rfl (by decide) rfl dX5_feature_77 ?_
          refine Wk.iload_n X 2 rfl dX5_feature_80 rfl ?_
          refine Wk.callSi (n := 1) X (c_X5_at l dC dI cI cJ cZ x) gX5_feature_X5_at rfl (by decide +kernel) (by decide) Fr.nil (fun h9 => h9) rfl rfl (Nat.le_of_ble_eq_true rfl) ⟨Nat.zero_le _, Nat.zero_le _⟩ dX5_feature_81 ?_
          refine Wk.topi hat ?_
          refine Wk.iload_n X 3 rfl dX5_feature_84 rfl ?_
          refine Wk.iaddN X dX5_feature_85 ?_
          refine Wk.iload_n X 4 rfl dX5_feature_86 rfl ?_
          refine Wk.iast (ws' := Wm h cI cJ cZ (nI 0) n li gr (upd nu (r * 4 + f1) v) (updB hb (r * 4 + f1) true) se t ki fe lm si va he up lo sc no pu b1 b2 b3 bu bl) X 3 0 rfl rfl (by omega) (by decide) rfl dX5_feature_87 ?_
          refine Wk.iload X 0 rfl dX5_feature_88 ?_
          exact Wk.iret X hr hk (by clear hat; simp [ftM, *]) (by clear hat; simp [ftMB, *]) dX5_feature_90
      · skip
        refine Wk.sipush (v := -10002) X dX5_feature_39 (by decide) ?_
        exact Wk.iret X hr hk (by simp [ftM, inN4, *]) (by simp [ftMB, inN4, *]) dX5_feature_42
  · skip
    refine Wk.sipush (v := -10001) X dX5_feature_13 (by decide) ?_
    exact Wk.iret X hr hk (by simp [ftM, *]) (by simp [ftMB, *]) dX5_feature_16

set_option maxHeartbeats 4000000 in
set_option maxRecDepth 100000 in
theorem c_X5_miss (l : Launch) (dC : Nat → ClassId) (dI : Nat → Nat → Nat) (cI cJ cZ : ClassId) (h : Nat → Nat) (th : Int32) (n : Nat) (li : Nat → Int32) (gr : Nat → Int32) (nu : Nat → Int32) (hb : Nat → Bool) (se : Nat → Int32) (t : Nat) (ki : Nat → Int32) (fe : Nat → Int32) (lm : Nat → Int32) (si : Nat → Int32) (va : Nat → Int32) (he : Nat → Int32) (up : Nat → Int64) (lo : Nat → Int64) (sc : Nat → Int64) (no : Nat → Int32) (pu : Nat → Int32) (b1 : Int32) (b2 : Int32) (b3 : Int32) (bu : Int64) (bl : Int64) (x : Int32) (f : Int32) (hn0 : n ≤ 24) : Ci l yX5_miss wsX5_miss 3 64 (dC, dI) cl6 (TY cI cJ cZ) false [.ref (h 0), .int x, .int f] (Wm h cI cJ cZ th n li gr nu hb se t ki fe lm si va he up lo sc no pu b1 b2 b3 bu bl) (msM x f n hb) (Wm h cI cJ cZ (nI 0) n li gr nu (if msMB x f n = true then updB hb (ixM x f) false else hb) se t ki fe lm si va he up lo sc no pu b1 b2 b3 bu bl) := by
  refine Ci.of (cc := cX5_miss) (maxL := 4) (ty := .int) (own := RX5) rfl (plainFor_of_name (by decide)) rfl (Nat.le_of_ble_eq_true rfl) ?_
  intro pg ev s0 md ar bw mt cd A X hr hk
  show Wk pg l ev _ s0 md ar bw mt cd 0 0 _ 4 (dC, dI) cl6 A 0 [(0, .ref (h 0)), (1, .int x), (2, .int f)] [] (Wm h cI cJ cZ th n li gr nu hb se t ki fe lm si va he up lo sc no pu b1 b2 b3 bu bl)
  have inX5 : ∀ w ∈ u_ws RX5 TX5 24, w ∈ wsX5_miss := by decide +kernel
  have lk19 := X.w (.fieldLink RX5 19 "PairedTreesModel" "has" "[Z") (by decide +kernel)
  have lk70 := X.w (.fieldLink RX5 70 "PairedTreesModel" "thrown" "I") (by decide +kernel)
  refine Wk.aload_n X 0 rfl dX5_miss_0 rfl ?_
  refine Wk.iconst (v := nI 0) X dX5_miss_1 (by decide) ?_
  refine Wk.put (ws' := Wm h cI cJ cZ (nI 0) n li gr nu hb se t ki fe lm si va he up lo sc no pu b1 b2 b3 bu bl) X inX5 tyX5 tyX5_ok nmX5 0 0 lk70 (fun _ h9 => h9) rfl rfl (by decide) rfl (tyX5_ok 0 (by decide)) rfl rfl (Nat.le_of_ble_eq_true rfl) rfl dX5_miss_2 ?_
  refine Wk.aload_n X 0 rfl dX5_miss_5 rfl ?_
  refine Wk.iload_n X 1 rfl dX5_miss_6 rfl ?_
  refine Wk.callVi (n := 1) (q0 := 0) X (c_X5_isAny l dC dI cI cJ cZ h (nI 0) n li gr nu hb se t ki fe lm si va he up lo sc no pu b1 b2 b3 bu bl x (by first | omega | assumption)) gX5_miss_X5_isAny rfl (by decide +kernel) (by decide) Fr.all (fun h9 => h9) rfl rfl rfl rfl (Nat.le_of_ble_eq_true rfl) ⟨Nat.zero_le _, Nat.zero_le _⟩ dX5_miss_7 ?_
  refine Wk.ifB_ne X 17 dX5_miss_10 (by decide) (fun c1 => ?_) (fun c1 => ?_)
  · skip
    refine Wk.iload_n X 2 rfl dX5_miss_17 rfl ?_
    refine Wk.iconst (v := nI 0) X dX5_miss_18 (by decide) ?_
    refine Wk.iconst (v := nI 3) X dX5_miss_19 (by decide) ?_
    refine Wk.callSi (n := 3) X (c_X5_in l dC dI cI cJ cZ f (nI 0) (nI 3)) gX5_miss_X5_in rfl (by decide +kernel) (by decide) Fr.nil (fun h9 => h9) rfl rfl (Nat.le_of_ble_eq_true rfl) ⟨Nat.zero_le _, Nat.zero_le _⟩ dX5_miss_20 ?_
    refine Wk.ifB_ne X 30 dX5_miss_23 (by decide) (fun c2 => ?_) (fun c2 => ?_)
    · skip
      obtain ⟨r, hr9, hat⟩ := anyB_ok hn0 c1
      obtain ⟨f1, hf1, rfl⟩ := inN_t (x := f) (n := 4) (by decide) ((inN4 f).trans c2)
      have hf4 : inN (nI f1) 4 = true := inN_nI hf1 (by decide)
      have eix : ixM x (nI f1) = r * 4 + f1 := by unfold ixM; rw [hat, nI_clamp (show r * 4 < 2 ^ 31 by omega), nI_clamp (show f1 < 2 ^ 31 by omega)]
      refine Wk.aload_n X 0 rfl dX5_miss_30 rfl ?_
      refine Wk.get X inX5 0 5 lk19 (fun _ h9 => h9) rfl rfl (by decide) rfl dX5_miss_31 ?_
      refine Wk.iload_n X 1 rfl dX5_miss_34 rfl ?_
      refine Wk.callSi (n := 1) X (c_X5_at l dC dI cI cJ cZ x) gX5_miss_X5_at rfl (by decide +kernel) (by decide) Fr.nil (fun h9 => h9) rfl rfl (Nat.le_of_ble_eq_true rfl) ⟨Nat.zero_le _, Nat.zero_le _⟩ dX5_miss_35 ?_
      refine Wk.topi hat ?_
      refine Wk.iload_n X 2 rfl dX5_miss_38 rfl ?_
      refine Wk.iaddN X dX5_miss_39 ?_
      refine Wk.zald X 4 2 rfl rfl (by omega) (by decide) dX5_miss_40 ?_
      refine Wk.ifB_eq X 48 dX5_miss_41 (by decide) (fun c3 => ?_) (fun c3 => ?_)
      · skip
        refine Wk.iconst (v := nI 0) X dX5_miss_48 (by decide) ?_
        refine Wk.istore_n (lv' := [(3, .int (nI 0)), (0, .ref (h 0)), (1, .int x), (2, .int (nI f1))]) X dX5_miss_49 rfl (by decide) rfl ?_
        refine Wk.aload_n X 1 rfl dX5_miss_50 rfl ?_
        refine Wk.get X inX5 0 5 lk19 (fun _ h9 => h9) rfl rfl (by decide) rfl dX5_miss_51 ?_
        refine Wk.iload_n X 2 rfl dX5_miss_54 rfl ?_
        refine Wk.callSi (n := 1) X (c_X5_at l dC dI cI cJ cZ x) gX5_miss_X5_at rfl (by decide +kernel) (by decide) Fr.nil (fun h9 => h9) rfl rfl (Nat.le_of_ble_eq_true rfl) ⟨Nat.zero_le _, Nat.zero_le _⟩ dX5_miss_55 ?_
        refine Wk.topi hat ?_
        refine Wk.iload_n X 3 rfl dX5_miss_58 rfl ?_
        refine Wk.iaddN X dX5_miss_59 ?_
        refine Wk.iconst (v := nI 0) X dX5_miss_60 (by decide) ?_
        refine Wk.topi (y := bI false) (by decide) ?_
        refine Wk.zast (ws' := Wm h cI cJ cZ (nI 0) n li gr nu (updB hb (r * 4 + f1) false) se t ki fe lm si va he up lo sc no pu b1 b2 b3 bu bl) X 4 2 rfl rfl (by omega) (by decide) (bI_vp _) (by rw [updB_bI]; rfl) dX5_miss_61 ?_
        refine Wk.iload_n X 0 rfl dX5_miss_62 rfl ?_
        exact Wk.iret X hr hk (by clear hat; simp [msM, *]) (by clear hat; simp [msMB, *]) dX5_miss_63
      · skip
        refine Wk.iconst (v := nI 1) X dX5_miss_44 (by decide) ?_
        refine Wk.goto X 49 dX5_miss_45 (by decide) ?_
        refine Wk.istore_n (lv' := [(3, .int (nI 1)), (0, .ref (h 0)), (1, .int x), (2, .int (nI f1))]) X dX5_miss_49 rfl (by decide) rfl ?_
        refine Wk.aload_n X 1 rfl dX5_miss_50 rfl ?_
        refine Wk.get X inX5 0 5 lk19 (fun _ h9 => h9) rfl rfl (by decide) rfl dX5_miss_51 ?_
        refine Wk.iload_n X 2 rfl dX5_miss_54 rfl ?_
        refine Wk.callSi (n := 1) X (c_X5_at l dC dI cI cJ cZ x) gX5_miss_X5_at rfl (by decide +kernel) (by decide) Fr.nil (fun h9 => h9) rfl rfl (Nat.le_of_ble_eq_true rfl) ⟨Nat.zero_le _, Nat.zero_le _⟩ dX5_miss_55 ?_
        refine Wk.topi hat ?_
        refine Wk.iload_n X 3 rfl dX5_miss_58 rfl ?_
        refine Wk.iaddN X dX5_miss_59 ?_
        refine Wk.iconst (v := nI 0) X dX5_miss_60 (by decide) ?_
        refine Wk.topi (y := bI false) (by decide) ?_
        refine Wk.zast (ws' := Wm h cI cJ cZ (nI 0) n li gr nu (updB hb (r * 4 + f1) false) se t ki fe lm si va he up lo sc no pu b1 b2 b3 bu bl) X 4 2 rfl rfl (by omega) (by decide) (bI_vp _) (by rw [updB_bI]; rfl) dX5_miss_61 ?_
        refine Wk.iload_n X 0 rfl dX5_miss_62 rfl ?_
        exact Wk.iret X hr hk (by clear hat; simp [msM, *]) (by clear hat; simp [msMB, *]) dX5_miss_63
    · skip
      refine Wk.sipush (v := -10002) X dX5_miss_26 (by decide) ?_
      exact Wk.iret X hr hk (by simp [msM, inN4, *]) (by simp [msMB, inN4, *]) dX5_miss_29
  · skip
    refine Wk.sipush (v := -10001) X dX5_miss_13 (by decide) ?_
    exact Wk.iret X hr hk (by simp [msM, *]) (by simp [msMB, *]) dX5_miss_16

set_option maxHeartbeats 4000000 in
set_option maxRecDepth 100000 in
theorem c_X5_goesLeft (l : Launch) (dC : Nat → ClassId) (dI : Nat → Nat → Nat) (cI cJ cZ : ClassId) (h : Nat → Nat) (th : Int32) (n : Nat) (li : Nat → Int32) (gr : Nat → Int32) (nu : Nat → Int32) (hb : Nat → Bool) (se : Nat → Int32) (t : Nat) (ki : Nat → Int32) (fe : Nat → Int32) (lm : Nat → Int32) (si : Nat → Int32) (va : Nat → Int32) (he : Nat → Int32) (up : Nat → Int64) (lo : Nat → Int64) (sc : Nat → Int64) (no : Nat → Int32) (pu : Nat → Int32) (b1 : Int32) (b2 : Int32) (b3 : Int32) (bu : Int64) (bl : Int64) (r : Nat) (x : Int32) (f : Nat) (cv : Int32) (sd : Int32) (hat : atM x = nI (r * 4)) (hr0 : r < 25) (hf0 : f < 4) : Ci l yX5_goesLeft wsX5_goesLeft 1 20 (dC, dI) cl6 (TY cI cJ cZ) false [.ref (h 0), .int x, .int (nI f), .int cv, .int sd] (Wm h cI cJ cZ th n li gr nu hb se t ki fe lm si va he up lo sc no pu b1 b2 b3 bu bl) (bI (glM hb nu r f cv sd)) (Wm h cI cJ cZ th n li gr nu hb se t ki fe lm si va he up lo sc no pu b1 b2 b3 bu bl) := by
  refine Ci.of (cc := cX5_goesLeft) (maxL := 5) (ty := .boolean) (own := RX5) rfl (plainFor_of_name (by decide)) rfl (Nat.le_of_ble_eq_true rfl) ?_
  intro pg ev s0 md ar bw mt cd A X hr hk
  show Wk pg l ev _ s0 md ar bw mt cd 0 0 _ 5 (dC, dI) cl6 A 0 [(0, .ref (h 0)), (1, .int x), (2, .int (nI f)), (3, .int cv), (4, .int sd)] [] (Wm h cI cJ cZ th n li gr nu hb se t ki fe lm si va he up lo sc no pu b1 b2 b3 bu bl)
  have inX5 : ∀ w ∈ u_ws RX5 TX5 24, w ∈ wsX5_goesLeft := by decide +kernel
  have lk16 := X.w (.fieldLink RX5 16 "PairedTreesModel" "number" "[I") (by decide +kernel)
  have lk19 := X.w (.fieldLink RX5 19 "PairedTreesModel" "has" "[Z") (by decide +kernel)
  refine Wk.aload_n X 0 rfl dX5_goesLeft_0 rfl ?_
  refine Wk.get X inX5 0 5 lk19 (fun _ h9 => h9) rfl rfl (by decide) rfl dX5_goesLeft_1 ?_
  refine Wk.iload_n X 1 rfl dX5_goesLeft_4 rfl ?_
  refine Wk.callSi (n := 1) X (c_X5_at l dC dI cI cJ cZ x) gX5_goesLeft_X5_at rfl (by decide +kernel) (by decide) Fr.nil (fun h9 => h9) rfl rfl (Nat.le_of_ble_eq_true rfl) ⟨Nat.zero_le _, Nat.zero_le _⟩ dX5_goesLeft_5 ?_
  refine Wk.topi hat ?_
  refine Wk.iload_n X 2 rfl dX5_goesLeft_8 rfl ?_
  refine Wk.iaddN X dX5_goesLeft_9 ?_
  refine Wk.zald X 4 2 rfl rfl (by omega) (by decide) dX5_goesLeft_10 ?_
  refine Wk.ifB_eq X 37 dX5_goesLeft_11 (by decide) (fun c1 => ?_) (fun c1 => ?_)
  · skip
    refine Wk.iload X 4 rfl dX5_goesLeft_37 ?_
    refine Wk.if_ne X 46 dX5_goesLeft_39 (by decide) (fun c2 => ?_) (fun c2 => ?_)
    · skip
      refine Wk.iconst (v := nI 0) X dX5_goesLeft_46 (by decide) ?_
      exact Wk.zret X hr hk (by decide) (by clear hat; simp [glM, bI, nI_0, nIc1, *]) rfl dX5_goesLeft_47
    · skip
      refine Wk.iconst (v := nI 1) X dX5_goesLeft_42 (by decide) ?_
      refine Wk.goto X 47 dX5_goesLeft_43 (by decide) ?_
      exact Wk.zret X hr hk (by decide) (by clear hat; simp [glM, bI, nI_0, nIc1, *]) rfl dX5_goesLeft_47
  · skip
    refine Wk.aload_n X 0 rfl dX5_goesLeft_14 rfl ?_
    refine Wk.get X inX5 0 4 lk16 (fun _ h9 => h9) rfl rfl (by decide) rfl dX5_goesLeft_15 ?_
    refine Wk.iload_n X 1 rfl dX5_goesLeft_18 rfl ?_
    refine Wk.callSi (n := 1) X (c_X5_at l dC dI cI cJ cZ x) gX5_goesLeft_X5_at rfl (by decide +kernel) (by decide) Fr.nil (fun h9 => h9) rfl rfl (Nat.le_of_ble_eq_true rfl) ⟨Nat.zero_le _, Nat.zero_le _⟩ dX5_goesLeft_19 ?_
    refine Wk.topi hat ?_
    refine Wk.iload_n X 2 rfl dX5_goesLeft_22 rfl ?_
    refine Wk.iaddN X dX5_goesLeft_23 ?_
    refine Wk.iald X 3 0 rfl rfl (by omega) (by decide) dX5_goesLeft_24 ?_
    refine Wk.iload_n X 3 rfl dX5_goesLeft_25 rfl ?_
    refine Wk.icmp_gt X 33 dX5_goesLeft_26 (by decide) (fun c3 => ?_) (fun c3 => ?_)
    · skip
      refine Wk.iconst (v := nI 0) X dX5_goesLeft_33 (by decide) ?_
      refine Wk.goto X 47 dX5_goesLeft_34 (by decide) ?_
      exact Wk.zret X hr hk (by decide) (by clear hat; simp [glM, bI, nI_0, nIc1, *]) rfl dX5_goesLeft_47
    · skip
      refine Wk.iconst (v := nI 1) X dX5_goesLeft_29 (by decide) ?_
      refine Wk.goto X 47 dX5_goesLeft_30 (by decide) ?_
      exact Wk.zret X hr hk (by decide) (by clear hat; simp [glM, bI, nI_0, nIc1, *]) rfl dX5_goesLeft_47

set_option maxHeartbeats 4000000 in
set_option maxRecDepth 100000 in
theorem c_X5_valueBy (l : Launch) (dC : Nat → ClassId) (dI : Nat → Nat → Nat) (cI cJ cZ : ClassId) (h : Nat → Nat) (th : Int32) (n : Nat) (li : Nat → Int32) (gr : Nat → Int32) (nu : Nat → Int32) (hb : Nat → Bool) (se : Nat → Int32) (t : Nat) (ki : Nat → Int32) (fe : Nat → Int32) (lm : Nat → Int32) (si : Nat → Int32) (va : Nat → Int32) (he : Nat → Int32) (up : Nat → Int64) (lo : Nat → Int64) (sc : Nat → Int64) (no : Nat → Int32) (pu : Nat → Int32) (b1 : Int32) (b2 : Int32) (b3 : Int32) (bu : Int64) (bl : Int64) (r : Nat) (tr : Nat) (x : Int32) (hat : atM x = nI (r * 4)) (hr0 : r < 25) (ht0 : tr < 20) (hfe : ∀ k, k < 15 → ki (tr * 15 + k) = nI 2 → ∃ f, f < 4 ∧ fe (tr * 15 + k) = nI f) (hcu : ∀ k, k < 15 → ki (tr * 15 + k) = nI 2 → k < 7) : Ci l yX5_valueBy wsX5_valueBy 2 44 (dC, dI) cl6 (TY cI cJ cZ) false [.ref (h 0), .int (nI tr), .int x] (Wm h cI cJ cZ th n li gr nu hb se t ki fe lm si va he up lo sc no pu b1 b2 b3 bu bl) (va (tr * 15 + vfC ki (gM fe lm si hb nu r) (tr * 15) 3 0)) (Wm h cI cJ cZ th n li gr nu hb se t ki fe lm si va he up lo sc no pu b1 b2 b3 bu bl) := by
  refine Ci.of (cc := cX5_valueBy) (maxL := 5) (ty := .int) (own := RX5) rfl (plainFor_of_name (by decide)) rfl (Nat.le_of_ble_eq_true rfl) ?_
  intro pg ev s0 md ar bw mt cd A X hr hk
  show Wk pg l ev _ s0 md ar bw mt cd 0 0 _ 5 (dC, dI) cl6 A 0 [(0, .ref (h 0)), (1, .int (nI tr)), (2, .int x)] [] (Wm h cI cJ cZ th n li gr nu hb se t ki fe lm si va he up lo sc no pu b1 b2 b3 bu bl)
  have inX5 : ∀ w ∈ u_ws RX5 TX5 24, w ∈ wsX5_valueBy := by decide +kernel
  have lk26 := X.w (.fieldLink RX5 26 "PairedTreesModel" "sort" "[I") (by decide +kernel)
  have lk29 := X.w (.fieldLink RX5 29 "PairedTreesModel" "byOf" "[I") (by decide +kernel)
  have lk32 := X.w (.fieldLink RX5 32 "PairedTreesModel" "cutOf" "[I") (by decide +kernel)
  have lk35 := X.w (.fieldLink RX5 35 "PairedTreesModel" "sideOf" "[I") (by decide +kernel)
  have lk38 := X.w (.fieldLink RX5 38 "PairedTreesModel" "valueOf" "[I") (by decide +kernel)
  refine Wk.iconst (v := nI 0) X dX5_valueBy_0 (by decide) ?_
  refine Wk.istore_n (lv' := [(3, .int (nI 0)), (0, .ref (h 0)), (1, .int (nI tr)), (2, .int x)]) X dX5_valueBy_1 rfl (by decide) rfl ?_
  have L2 : ∀ (fu2 : Nat) (k : Nat) (dp : Nat) (hq : 15 ≤ k + fu2) (hd : k < 15 ∧ dp ≤ 3 ∧ (dp = 0 → k = 0) ∧ (dp = 1 → 1 ≤ k ∧ k ≤ 2) ∧ (dp = 2 → 3 ≤ k ∧ k ≤ 6) ∧ (dp = 3 → 7 ≤ k ∧ k ≤ 14)) (hv : vfC ki (gM fe lm si hb nu r) (tr * 15) (3 - dp) k = vfC ki (gM fe lm si hb nu r) (tr * 15) 3 0), Wk pg l ev ({ frames := 2, cells := 0, slots := 0, locals := 44 } : Room) s0 md ar bw mt cd 0 0 (QRi bw ar s0 (dC, dI) cl6 (TY cI cJ cZ) A (va (tr * 15 + vfC ki (gM fe lm si hb nu r) (tr * 15) 3 0)) (Wm h cI cJ cZ th n li gr nu hb se t ki fe lm si va he up lo sc no pu b1 b2 b3 bu bl)) 5 (dC, dI) cl6 A 2 [(0, .ref (h 0)), (1, .int (nI tr)), (2, .int x), (3, .int (nI k))] [] (Wm h cI cJ cZ th n li gr nu hb se t ki fe lm si va he up lo sc no pu b1 b2 b3 bu bl) := by
    intro fu2
    induction fu2 with
    | zero => intro k dp hq hd hv; exact absurd hq (by omega)
    | succ fu2 ih2 =>
      intro k dp hq hd hv
      refine Wk.aload_n X 0 rfl dX5_valueBy_2 rfl ?_
      refine Wk.get X inX5 0 8 lk26 (fun _ h9 => h9) rfl rfl (by decide) rfl dX5_valueBy_3 ?_
      refine Wk.bipush (v := nI 15) X dX5_valueBy_6 (by decide) ?_
      refine Wk.iload_n X 1 rfl dX5_valueBy_8 rfl ?_
      refine Wk.imulC X dX5_valueBy_9 ?_
      refine Wk.iload_n X 3 rfl dX5_valueBy_10 rfl ?_
      refine Wk.iaddN X dX5_valueBy_11 ?_
      refine Wk.iald X 6 0 rfl rfl (by omega) (by decide) dX5_valueBy_12 ?_
      refine Wk.iconst (v := nI 2) X dX5_valueBy_13 (by decide) ?_
      refine Wk.icmp_ne X 71 dX5_valueBy_14 (by decide) (fun c1 => ?_) (fun c1 => ?_)
      · skip
        refine Wk.aload_n X 0 rfl dX5_valueBy_71 rfl ?_
        refine Wk.get X inX5 0 12 lk38 (fun _ h9 => h9) rfl rfl (by decide) rfl dX5_valueBy_72 ?_
        refine Wk.bipush (v := nI 15) X dX5_valueBy_75 (by decide) ?_
        refine Wk.iload_n X 1 rfl dX5_valueBy_77 rfl ?_
        refine Wk.imulC X dX5_valueBy_78 ?_
        refine Wk.iload_n X 3 rfl dX5_valueBy_79 rfl ?_
        refine Wk.iaddN X dX5_valueBy_80 ?_
        refine Wk.iald X 10 0 rfl rfl (by omega) (by decide) dX5_valueBy_81 ?_
        exact Wk.iret X hr hk (by rw [← hv, vf_stop (by assumption)]) rfl dX5_valueBy_82
      · skip
        refine Wk.bipush (v := nI 15) X dX5_valueBy_17 (by decide) ?_
        refine Wk.iload_n X 1 rfl dX5_valueBy_19 rfl ?_
        refine Wk.imulC X dX5_valueBy_20 ?_
        refine Wk.iload_n X 3 rfl dX5_valueBy_21 rfl ?_
        refine Wk.iaddN X dX5_valueBy_22 ?_
        refine Wk.istore (lv' := [(4, .int (nI (tr * 15 + k))), (0, .ref (h 0)), (1, .int (nI tr)), (2, .int x), (3, .int (nI k))]) X dX5_valueBy_23 (by decide) rfl ?_
        refine Wk.aload_n X 1 rfl dX5_valueBy_25 rfl ?_
        refine Wk.iload_n X 3 rfl dX5_valueBy_26 rfl ?_
        refine Wk.aload_n X 1 rfl dX5_valueBy_27 rfl ?_
        refine Wk.get X inX5 0 9 lk29 (fun _ h9 => h9) rfl rfl (by decide) rfl dX5_valueBy_28 ?_
        refine Wk.iload X 0 rfl dX5_valueBy_31 ?_
        refine Wk.iald X 7 0 rfl rfl (by omega) (by decide) dX5_valueBy_33 ?_
        obtain ⟨f1, hf1, ef1⟩ := hfe k (by omega) c1
        have hk7 := hcu k (by omega) c1
        refine Wk.topi ef1 ?_
        refine Wk.aload_n X 1 rfl dX5_valueBy_34 rfl ?_
        refine Wk.get X inX5 0 10 lk32 (fun _ h9 => h9) rfl rfl (by decide) rfl dX5_valueBy_35 ?_
        refine Wk.iload X 0 rfl dX5_valueBy_38 ?_
        refine Wk.iald X 8 0 rfl rfl (by omega) (by decide) dX5_valueBy_40 ?_
        refine Wk.aload_n X 1 rfl dX5_valueBy_41 rfl ?_
        refine Wk.get X inX5 0 11 lk35 (fun _ h9 => h9) rfl rfl (by decide) rfl dX5_valueBy_42 ?_
        refine Wk.iload X 0 rfl dX5_valueBy_45 ?_
        refine Wk.iald X 9 0 rfl rfl (by omega) (by decide) dX5_valueBy_47 ?_
        refine Wk.callVi (n := 4) (q0 := 0) X (c_X5_goesLeft l dC dI cI cJ cZ h th n li gr nu hb se t ki fe lm si va he up lo sc no pu b1 b2 b3 bu bl r x f1 (lm (tr * 15 + k)) (si (tr * 15 + k)) (by first | omega | assumption) (by first | omega | assumption) (by first | omega | assumption)) gX5_valueBy_X5_goesLeft rfl (by decide +kernel) (by decide) Fr.all (fun h9 => h9) rfl rfl rfl rfl (Nat.le_of_ble_eq_true rfl) ⟨Nat.zero_le _, Nat.zero_le _⟩ dX5_valueBy_48 ?_
        refine Wk.ifB_eq X 62 dX5_valueBy_51 (by decide) (fun c2 => ?_) (fun c2 => ?_)
        · skip
          refine Wk.iconst (v := nI 2) X dX5_valueBy_62 (by decide) ?_
          refine Wk.iload_n X 4 rfl dX5_valueBy_63 rfl ?_
          refine Wk.imulN X dX5_valueBy_64 ?_
          refine Wk.iconst (v := nI 2) X dX5_valueBy_65 (by decide) ?_
          refine Wk.iaddN X dX5_valueBy_66 ?_
          refine Wk.istore_n (lv' := [(3, .int (nI (2 * k + 2))), (4, .int (nI (tr * 15 + k))), (0, .ref (h 0)), (1, .int (nI tr)), (2, .int x)]) X dX5_valueBy_67 rfl (by decide) rfl ?_
          refine Wk.goto X 2 dX5_valueBy_68 (by decide) ?_
          refine Wk.lvs (lv' := [(0, .ref (h 0)), (1, .int (nI tr)), (2, .int x), (3, .int (nI (2 * k + 2)))]) [2, 3, 4, 0] rfl ?_
          exact ih2 (2 * k + 2) (dp + 1) (by omega) (by omega) (by rw [← hv, show 3 - dp = (3 - (dp + 1)) + 1 by omega]; simp [vfC, gM, nI_clamp (show f1 < 2 ^ 31 by omega), *])
        · skip
          refine Wk.iconst (v := nI 2) X dX5_valueBy_54 (by decide) ?_
          refine Wk.iload_n X 4 rfl dX5_valueBy_55 rfl ?_
          refine Wk.imulN X dX5_valueBy_56 ?_
          refine Wk.iconst (v := nI 1) X dX5_valueBy_57 (by decide) ?_
          refine Wk.iaddN X dX5_valueBy_58 ?_
          refine Wk.goto X 67 dX5_valueBy_59 (by decide) ?_
          refine Wk.istore_n (lv' := [(3, .int (nI (2 * k + 1))), (4, .int (nI (tr * 15 + k))), (0, .ref (h 0)), (1, .int (nI tr)), (2, .int x)]) X dX5_valueBy_67 rfl (by decide) rfl ?_
          refine Wk.goto X 2 dX5_valueBy_68 (by decide) ?_
          refine Wk.lvs (lv' := [(0, .ref (h 0)), (1, .int (nI tr)), (2, .int x), (3, .int (nI (2 * k + 1)))]) [2, 3, 4, 0] rfl ?_
          exact ih2 (2 * k + 1) (dp + 1) (by omega) (by omega) (by rw [← hv, show 3 - dp = (3 - (dp + 1)) + 1 by omega]; simp [vfC, gM, nI_clamp (show f1 < 2 ^ 31 by omega), *])
  refine Wk.lvs (lv' := [(0, .ref (h 0)), (1, .int (nI tr)), (2, .int x), (3, .int (nI 0))]) [1, 2, 3, 0] rfl ?_
  exact L2 15 0 0 (by omega) (by omega) (by rfl)

set_option maxHeartbeats 4000000 in
set_option maxRecDepth 100000 in
theorem c_X5_scoreOf (l : Launch) (dC : Nat → ClassId) (dI : Nat → Nat → Nat) (cI cJ cZ : ClassId) (h : Nat → Nat) (th : Int32) (n : Nat) (li : Nat → Int32) (gr : Nat → Int32) (nu : Nat → Int32) (hb : Nat → Bool) (se : Nat → Int32) (t : Nat) (ki : Nat → Int32) (fe : Nat → Int32) (lm : Nat → Int32) (si : Nat → Int32) (va : Nat → Int32) (he : Nat → Int32) (up : Nat → Int64) (lo : Nat → Int64) (sc : Nat → Int64) (no : Nat → Int32) (pu : Nat → Int32) (b1 : Int32) (b2 : Int32) (b3 : Int32) (bu : Int64) (bl : Int64) (r : Nat) (x : Int32) (hat : atM x = nI (r * 4)) (hr0 : r < 25) (ht0 : t ≤ 20) (hfe : ∀ j, j < t * 15 → ki j = nI 2 → ∃ f, f < 4 ∧ fe j = nI f) (hcu : ∀ tr k, tr < t → k < 15 → ki (tr * 15 + k) = nI 2 → k < 7) : Cl l yX5_scoreOf wsX5_scoreOf 3 68 (dC, dI) cl6 (TY cI cJ cZ) false [.ref (h 0), .int x] (Wm h cI cJ cZ th n li gr nu hb se t ki fe lm si va he up lo sc no pu b1 b2 b3 bu bl) (scoreM ki fe lm si va hb nu t r) (Wm h cI cJ cZ th n li gr nu hb se t ki fe lm si va he up lo sc no pu b1 b2 b3 bu bl) := by
  refine Cl.of (cc := cX5_scoreOf) (maxL := 5) (ty := .long) (own := RX5) rfl (plainFor_of_name (by decide)) rfl (Nat.le_of_ble_eq_true rfl) ?_
  intro pg ev s0 md ar bw mt cd A X hr hk
  show Wk pg l ev _ s0 md ar bw mt cd 0 0 _ 5 (dC, dI) cl6 A 0 [(0, .ref (h 0)), (1, .int x)] [] (Wm h cI cJ cZ th n li gr nu hb se t ki fe lm si va he up lo sc no pu b1 b2 b3 bu bl)
  have inX5 : ∀ w ∈ u_ws RX5 TX5 24, w ∈ wsX5_scoreOf := by decide +kernel
  have lk67 := X.w (.fieldLink RX5 67 "PairedTreesModel" "trees" "I") (by decide +kernel)
  refine Wk.lconst (v := 0) X dX5_scoreOf_0 (by decide) ?_
  refine Wk.lstore_n (lv' := [(2, .long 0), (0, .ref (h 0)), (1, .int x)]) X dX5_scoreOf_1 rfl (by decide) rfl ?_
  refine Wk.iconst (v := nI 0) X dX5_scoreOf_2 (by decide) ?_
  refine Wk.istore (lv' := [(4, .int (nI 0)), (2, .long 0), (0, .ref (h 0)), (1, .int x)]) X dX5_scoreOf_3 (by decide) rfl ?_
  have L5 : ∀ (fu5 : Nat) (k : Nat) (a : Int64) (hq : t + 1 ≤ k + fu5) (hk0 : k ≤ t) (ha : a = smC ki va (gM fe lm si hb nu r) k), Wk pg l ev ({ frames := 3, cells := 0, slots := 0, locals := 68 } : Room) s0 md ar bw mt cd 0 0 (QRl bw ar s0 (dC, dI) cl6 (TY cI cJ cZ) A (scoreM ki fe lm si va hb nu t r) (Wm h cI cJ cZ th n li gr nu hb se t ki fe lm si va he up lo sc no pu b1 b2 b3 bu bl)) 5 (dC, dI) cl6 A 5 [(0, .ref (h 0)), (1, .int x), (2, .long a), (4, .int (nI k))] [] (Wm h cI cJ cZ th n li gr nu hb se t ki fe lm si va he up lo sc no pu b1 b2 b3 bu bl) := by
    intro fu5
    induction fu5 with
    | zero => intro k a hq hk0 ha; exact absurd hq (by omega)
    | succ fu5 ih5 =>
      intro k a hq hk0 ha
      refine Wk.iload X 3 rfl dX5_scoreOf_5 ?_
      refine Wk.aload_n X 0 rfl dX5_scoreOf_7 rfl ?_
      refine Wk.get X inX5 0 7 lk67 (fun _ h9 => h9) rfl rfl (by decide) rfl dX5_scoreOf_8 ?_
      refine Wk.icmpN_ge X 31 (by omega) (by omega) dX5_scoreOf_11 (by decide) (fun c1 => ?_) (fun c1 => ?_)
      · skip
        refine Wk.lload_n X 2 rfl dX5_scoreOf_31 rfl ?_
        exact Wk.lret X hr hk (by rw [ha, show k = t by omega]; rfl) rfl dX5_scoreOf_32
      · skip
        refine Wk.lload_n X 2 rfl dX5_scoreOf_14 rfl ?_
        refine Wk.aload_n X 0 rfl dX5_scoreOf_15 rfl ?_
        refine Wk.iload X 3 rfl dX5_scoreOf_16 ?_
        refine Wk.iload_n X 1 rfl dX5_scoreOf_18 rfl ?_
        refine Wk.callVi (n := 2) (q0 := 0) X (c_X5_valueBy l dC dI cI cJ cZ h th n li gr nu hb se t ki fe lm si va he up lo sc no pu b1 b2 b3 bu bl r k x (by first | omega | assumption) (by first | omega | assumption) (by first | omega | assumption) (by exact fun k1 h1 h2 => hfe _ (by omega) h2) (by exact fun k1 h1 h2 => hcu _ k1 (by omega) h1 h2)) gX5_scoreOf_X5_valueBy rfl (by decide +kernel) (by decide) Fr.all (fun h9 => h9) rfl rfl rfl rfl (Nat.le_of_ble_eq_true rfl) ⟨Nat.zero_le _, Nat.zero_le _⟩ dX5_scoreOf_19 ?_
        refine Wk.i2l X dX5_scoreOf_22 ?_
        refine Wk.ladd X dX5_scoreOf_23 ?_
        refine Wk.lstore_n (lv' := [(2, .long (a + ((va (k * 15 + vfC ki (gM fe lm si hb nu r) (k * 15) 3 0)).toInt64))), (0, .ref (h 0)), (1, .int x), (4, .int (nI k))]) X dX5_scoreOf_24 rfl (by decide) rfl ?_
        refine Wk.iincN (n := 1) (lv' := [(4, .int (nI (k + 1))), (2, .long (a + ((va (k * 15 + vfC ki (gM fe lm si hb nu r) (k * 15) 3 0)).toInt64))), (0, .ref (h 0)), (1, .int x)]) X 3 rfl dX5_scoreOf_25 (by decide) rfl ?_
        refine Wk.goto X 5 dX5_scoreOf_28 (by decide) ?_
        refine Wk.lvs (lv' := [(0, .ref (h 0)), (1, .int x), (2, .long (a + ((va (k * 15 + vfC ki (gM fe lm si hb nu r) (k * 15) 3 0)).toInt64))), (4, .int (nI (k + 1)))]) [2, 3, 1, 0] rfl ?_
        exact ih5 (k + 1) (a + ((va (k * 15 + vfC ki (gM fe lm si hb nu r) (k * 15) 3 0)).toInt64)) (by omega) (by omega) (by rw [ha]; rfl)
  refine Wk.lvs (lv' := [(0, .ref (h 0)), (1, .int x), (2, .long 0), (4, .int (nI 0))]) [2, 3, 1, 0] rfl ?_
  exact L5 (t + 1) 0 0 (by omega) (by omega) (by rfl)

set_option maxHeartbeats 4000000 in
set_option maxRecDepth 100000 in
theorem c_X5_isPair (l : Launch) (dC : Nat → ClassId) (dI : Nat → Nat → Nat) (cI cJ cZ : ClassId) (h : Nat → Nat) (th : Int32) (n : Nat) (li : Nat → Int32) (gr : Nat → Int32) (nu : Nat → Int32) (hb : Nat → Bool) (se : Nat → Int32) (t : Nat) (ki : Nat → Int32) (fe : Nat → Int32) (lm : Nat → Int32) (si : Nat → Int32) (va : Nat → Int32) (he : Nat → Int32) (up : Nat → Int64) (lo : Nat → Int64) (sc : Nat → Int64) (no : Nat → Int32) (pu : Nat → Int32) (b1 : Int32) (b2 : Int32) (b3 : Int32) (bu : Int64) (bl : Int64) (i : Nat) (j : Nat) (hi0 : i < 24) (hj0 : j < 24) : Ci l yX5_isPair wsX5_isPair 0 0 (dC, dI) cl6 (TY cI cJ cZ) false [.ref (h 0), .int (nI i), .int (nI j)] (Wm h cI cJ cZ th n li gr nu hb se t ki fe lm si va he up lo sc no pu b1 b2 b3 bu bl) (bI (pairB li gr i j)) (Wm h cI cJ cZ th n li gr nu hb se t ki fe lm si va he up lo sc no pu b1 b2 b3 bu bl) := by
  refine Ci.of (cc := cX5_isPair) (maxL := 3) (ty := .boolean) (own := RX5) rfl (plainFor_of_name (by decide)) rfl (Nat.le_of_ble_eq_true rfl) ?_
  intro pg ev s0 md ar bw mt cd A X hr hk
  show Wk pg l ev _ s0 md ar bw mt cd 0 0 _ 3 (dC, dI) cl6 A 0 [(0, .ref (h 0)), (1, .int (nI i)), (2, .int (nI j))] [] (Wm h cI cJ cZ th n li gr nu hb se t ki fe lm si va he up lo sc no pu b1 b2 b3 bu bl)
  have inX5 : ∀ w ∈ u_ws RX5 TX5 24, w ∈ wsX5_isPair := by decide +kernel
  have lk7 := X.w (.fieldLink RX5 7 "PairedTreesModel" "listOf" "[I") (by decide +kernel)
  have lk13 := X.w (.fieldLink RX5 13 "PairedTreesModel" "gradeOf" "[I") (by decide +kernel)
  refine Wk.aload_n X 0 rfl dX5_isPair_0 rfl ?_
  refine Wk.get X inX5 0 2 lk7 (fun _ h9 => h9) rfl rfl (by decide) rfl dX5_isPair_1 ?_
  refine Wk.iload_n X 1 rfl dX5_isPair_4 rfl ?_
  refine Wk.iald X 1 0 rfl rfl (by omega) (by decide) dX5_isPair_5 ?_
  refine Wk.aload_n X 0 rfl dX5_isPair_6 rfl ?_
  refine Wk.get X inX5 0 2 lk7 (fun _ h9 => h9) rfl rfl (by decide) rfl dX5_isPair_7 ?_
  refine Wk.iload_n X 2 rfl dX5_isPair_10 rfl ?_
  refine Wk.iald X 1 0 rfl rfl (by omega) (by decide) dX5_isPair_11 ?_
  refine Wk.icmp_ne X 34 dX5_isPair_12 (by decide) (fun c1 => ?_) (fun c1 => ?_)
  · skip
    refine Wk.iconst (v := nI 0) X dX5_isPair_34 (by decide) ?_
    exact Wk.zret X hr hk (by decide) (by simp [pairB, bI, nI_0, nIc1, *]) rfl dX5_isPair_35
  · skip
    refine Wk.aload_n X 0 rfl dX5_isPair_15 rfl ?_
    refine Wk.get X inX5 0 3 lk13 (fun _ h9 => h9) rfl rfl (by decide) rfl dX5_isPair_16 ?_
    refine Wk.iload_n X 1 rfl dX5_isPair_19 rfl ?_
    refine Wk.iald X 2 0 rfl rfl (by omega) (by decide) dX5_isPair_20 ?_
    refine Wk.aload_n X 0 rfl dX5_isPair_21 rfl ?_
    refine Wk.get X inX5 0 3 lk13 (fun _ h9 => h9) rfl rfl (by decide) rfl dX5_isPair_22 ?_
    refine Wk.iload_n X 2 rfl dX5_isPair_25 rfl ?_
    refine Wk.iald X 2 0 rfl rfl (by omega) (by decide) dX5_isPair_26 ?_
    refine Wk.icmp_le X 34 dX5_isPair_27 (by decide) (fun c2 => ?_) (fun c2 => ?_)
    · skip
      refine Wk.iconst (v := nI 0) X dX5_isPair_34 (by decide) ?_
      exact Wk.zret X hr hk (by decide) (by simp [pairB, bI, nI_0, nIc1, *]) rfl dX5_isPair_35
    · skip
      refine Wk.iconst (v := nI 1) X dX5_isPair_30 (by decide) ?_
      refine Wk.goto X 35 dX5_isPair_31 (by decide) ?_
      exact Wk.zret X hr hk (by decide) (by simp [pairB, bI, nI_0, nIc1, *]) rfl dX5_isPair_35

set_option maxHeartbeats 4000000 in
set_option maxRecDepth 100000 in
theorem c_X5_score (l : Launch) (dC : Nat → ClassId) (dI : Nat → Nat → Nat) (cI cJ cZ : ClassId) (h : Nat → Nat) (th : Int32) (n : Nat) (li : Nat → Int32) (gr : Nat → Int32) (nu : Nat → Int32) (hb : Nat → Bool) (se : Nat → Int32) (t : Nat) (ki : Nat → Int32) (fe : Nat → Int32) (lm : Nat → Int32) (si : Nat → Int32) (va : Nat → Int32) (he : Nat → Int32) (up : Nat → Int64) (lo : Nat → Int64) (sc : Nat → Int64) (no : Nat → Int32) (pu : Nat → Int32) (b1 : Int32) (b2 : Int32) (b3 : Int32) (bu : Int64) (bl : Int64) (hn0 : n ≤ 24) (ht0 : t ≤ 20) (hfe : ∀ j, j < t * 15 → ki j = nI 2 → ∃ f, f < 4 ∧ fe j = nI f) (hcu : ∀ tr k, tr < t → k < 15 → ki (tr * 15 + k) = nI 2 → k < 7) : Cv l yX5_score wsX5_score 4 92 (dC, dI) cl6 (TY cI cJ cZ) false [.ref (h 0)] (Wm h cI cJ cZ th n li gr nu hb se t ki fe lm si va he up lo sc no pu b1 b2 b3 bu bl) (Wm h cI cJ cZ th n li gr nu hb se t ki fe lm si va he up lo (scT sc (scoreM ki fe lm si va hb nu t) n) no pu b1 b2 b3 bu bl) := by
  refine Cv.of (cc := cX5_score) (maxL := 2) (own := RX5) rfl (plainFor_of_name (by decide)) rfl (Nat.le_of_ble_eq_true rfl) ?_
  intro pg ev s0 md ar bw mt cd A X hr hk
  show Wk pg l ev _ s0 md ar bw mt cd 0 0 _ 2 (dC, dI) cl6 A 0 [(0, .ref (h 0))] [] (Wm h cI cJ cZ th n li gr nu hb se t ki fe lm si va he up lo sc no pu b1 b2 b3 bu bl)
  have inX5 : ∀ w ∈ u_ws RX5 TX5 24, w ∈ wsX5_score := by decide +kernel
  have lk51 := X.w (.fieldLink RX5 51 "PairedTreesModel" "scores" "[J") (by decide +kernel)
  have lk63 := X.w (.fieldLink RX5 63 "PairedTreesModel" "things" "I") (by decide +kernel)
  refine Wk.iconst (v := nI 0) X dX5_score_0 (by decide) ?_
  refine Wk.istore_n (lv' := [(1, .int (nI 0)), (0, .ref (h 0))]) X dX5_score_1 rfl (by decide) rfl ?_
  have L2 : ∀ (fu2 : Nat) (k : Nat) (hq : n + 1 ≤ k + fu2) (hk0 : k ≤ n), Wk pg l ev ({ frames := 4, cells := 0, slots := 0, locals := 92 } : Room) s0 md ar bw mt cd 0 0 (QRv bw ar s0 (dC, dI) cl6 (TY cI cJ cZ) A (Wm h cI cJ cZ th n li gr nu hb se t ki fe lm si va he up lo (scT sc (scoreM ki fe lm si va hb nu t) n) no pu b1 b2 b3 bu bl)) 2 (dC, dI) cl6 A 2 [(0, .ref (h 0)), (1, .int (nI k))] [] (Wm h cI cJ cZ th n li gr nu hb se t ki fe lm si va he up lo (scT sc (scoreM ki fe lm si va hb nu t) k) no pu b1 b2 b3 bu bl) := by
    intro fu2
    induction fu2 with
    | zero => intro k hq hk0; exact absurd hq (by omega)
    | succ fu2 ih2 =>
      intro k hq hk0
      refine Wk.iload_n X 1 rfl dX5_score_2 rfl ?_
      refine Wk.aload_n X 0 rfl dX5_score_3 rfl ?_
      refine Wk.get X inX5 0 1 lk63 (fun _ h9 => h9) rfl rfl (by decide) rfl dX5_score_4 ?_
      refine Wk.icmpN_ge X 27 (by omega) (by omega) dX5_score_7 (by decide) (fun c1 => ?_) (fun c1 => ?_)
      · skip
        exact Wk.vret X hr hk (by rw [show n = k by omega]) dX5_score_27
      · skip
        refine Wk.aload_n X 0 rfl dX5_score_10 rfl ?_
        refine Wk.get X inX5 0 16 lk51 (fun _ h9 => h9) rfl rfl (by decide) rfl dX5_score_11 ?_
        refine Wk.iload_n X 1 rfl dX5_score_14 rfl ?_
        refine Wk.aload_n X 0 rfl dX5_score_15 rfl ?_
        refine Wk.iload_n X 1 rfl dX5_score_16 rfl ?_
        refine Wk.callVl (n := 1) (q0 := 0) X (c_X5_scoreOf l dC dI cI cJ cZ h th n li gr nu hb se t ki fe lm si va he up lo (scT sc (scoreM ki fe lm si va hb nu t) k) no pu b1 b2 b3 bu bl k (nI k) (by exact atM_nI (by omega)) (by first | omega | assumption) (by first | omega | assumption) (by first | omega | assumption) (by first | omega | assumption)) gX5_score_X5_scoreOf rfl (by decide +kernel) (by decide) Fr.all (fun h9 => h9) rfl rfl rfl rfl (Nat.le_of_ble_eq_true rfl) ⟨Nat.zero_le _, Nat.zero_le _⟩ dX5_score_17 ?_
        refine Wk.last (ws' := Wm h cI cJ cZ th n li gr nu hb se t ki fe lm si va he up lo (vp_updL (scT sc (scoreM ki fe lm si va hb nu t) k) k (scoreM ki fe lm si va hb nu t k)) no pu b1 b2 b3 bu bl) X 14 1 rfl rfl (by omega) (by decide) rfl dX5_score_20 ?_
        refine Wk.iincN (n := 1) (lv' := [(1, .int (nI (k + 1))), (0, .ref (h 0))]) X 1 rfl dX5_score_21 (by decide) rfl ?_
        refine Wk.goto X 2 dX5_score_24 (by decide) ?_
        refine Wk.lvs (lv' := [(0, .ref (h 0)), (1, .int (nI (k + 1)))]) [1, 0] rfl ?_
        exact ih2 (k + 1) (by omega) (by omega)
  refine Wk.lvs (lv' := [(0, .ref (h 0)), (1, .int (nI 0))]) [1, 0] rfl ?_
  exact L2 (n + 1) 0 (by omega) (by omega)

set_option maxHeartbeats 4000000 in
set_option maxRecDepth 100000 in
theorem c_X5_pushOf (l : Launch) (dC : Nat → ClassId) (dI : Nat → Nat → Nat) (cI cJ cZ : ClassId) (h : Nat → Nat) (th : Int32) (n : Nat) (li : Nat → Int32) (gr : Nat → Int32) (nu : Nat → Int32) (hb : Nat → Bool) (se : Nat → Int32) (t : Nat) (ki : Nat → Int32) (fe : Nat → Int32) (lm : Nat → Int32) (si : Nat → Int32) (va : Nat → Int32) (he : Nat → Int32) (up : Nat → Int64) (lo : Nat → Int64) (sc : Nat → Int64) (no : Nat → Int32) (pu : Nat → Int32) (b1 : Int32) (b2 : Int32) (b3 : Int32) (bu : Int64) (bl : Int64) (i : Nat) (hi0 : i < 24) (hn0 : n ≤ 24) : Ci l yX5_pushOf wsX5_pushOf 1 22 (dC, dI) cl6 (TY cI cJ cZ) false [.ref (h 0), .int (nI i)] (Wm h cI cJ cZ th n li gr nu hb se t ki fe lm si va he up lo sc no pu b1 b2 b3 bu bl) (psM li gr sc (se 0) i n) (Wm h cI cJ cZ th n li gr nu hb se t ki fe lm si va he up lo sc no pu b1 b2 b3 bu bl) := by
  refine Ci.of (cc := cX5_pushOf) (maxL := 4) (ty := .int) (own := RX5) rfl (plainFor_of_name (by decide)) rfl (Nat.le_of_ble_eq_true rfl) ?_
  intro pg ev s0 md ar bw mt cd A X hr hk
  show Wk pg l ev _ s0 md ar bw mt cd 0 0 _ 4 (dC, dI) cl6 A 0 [(0, .ref (h 0)), (1, .int (nI i))] [] (Wm h cI cJ cZ th n li gr nu hb se t ki fe lm si va he up lo sc no pu b1 b2 b3 bu bl)
  have inX5 : ∀ w ∈ u_ws RX5 TX5 24, w ∈ wsX5_pushOf := by decide +kernel
  have lk13 := X.w (.fieldLink RX5 13 "PairedTreesModel" "gradeOf" "[I") (by decide +kernel)
  have lk23 := X.w (.fieldLink RX5 23 "PairedTreesModel" "settings" "[I") (by decide +kernel)
  have lk51 := X.w (.fieldLink RX5 51 "PairedTreesModel" "scores" "[J") (by decide +kernel)
  have lk63 := X.w (.fieldLink RX5 63 "PairedTreesModel" "things" "I") (by decide +kernel)
  refine Wk.iconst (v := nI 0) X dX5_pushOf_0 (by decide) ?_
  refine Wk.istore_n (lv' := [(2, .int (nI 0)), (0, .ref (h 0)), (1, .int (nI i))]) X dX5_pushOf_1 rfl (by decide) rfl ?_
  refine Wk.iconst (v := nI 0) X dX5_pushOf_2 (by decide) ?_
  refine Wk.istore_n (lv' := [(3, .int (nI 0)), (2, .int (nI 0)), (0, .ref (h 0)), (1, .int (nI i))]) X dX5_pushOf_3 rfl (by decide) rfl ?_
  have L4 : ∀ (fu4 : Nat) (j : Nat) (a : Int32) (hq : n + 1 ≤ j + fu4) (hj : j ≤ n) (ha : a = psM li gr sc (se 0) i j), Wk pg l ev ({ frames := 1, cells := 0, slots := 0, locals := 22 } : Room) s0 md ar bw mt cd 0 0 (QRi bw ar s0 (dC, dI) cl6 (TY cI cJ cZ) A (psM li gr sc (se 0) i n) (Wm h cI cJ cZ th n li gr nu hb se t ki fe lm si va he up lo sc no pu b1 b2 b3 bu bl)) 4 (dC, dI) cl6 A 4 [(0, .ref (h 0)), (1, .int (nI i)), (2, .int a), (3, .int (nI j))] [] (Wm h cI cJ cZ th n li gr nu hb se t ki fe lm si va he up lo sc no pu b1 b2 b3 bu bl) := by
    intro fu4
    induction fu4 with
    | zero => intro j a hq hj ha; exact absurd hq (by omega)
    | succ fu4 ih4 =>
      intro j a hq hj ha
      refine Wk.iload_n X 3 rfl dX5_pushOf_4 rfl ?_
      refine Wk.aload_n X 0 rfl dX5_pushOf_5 rfl ?_
      refine Wk.get X inX5 0 1 lk63 (fun _ h9 => h9) rfl rfl (by decide) rfl dX5_pushOf_6 ?_
      refine Wk.icmpN_ge X 116 (by omega) (by omega) dX5_pushOf_9 (by decide) (fun c1 => ?_) (fun c1 => ?_)
      · skip
        refine Wk.iload_n X 2 rfl dX5_pushOf_116 rfl ?_
        exact Wk.iret X hr hk (by rw [ha, show j = n by omega]) rfl dX5_pushOf_117
      · skip
        refine Wk.aload_n X 0 rfl dX5_pushOf_12 rfl ?_
        refine Wk.iload_n X 1 rfl dX5_pushOf_13 rfl ?_
        refine Wk.iload_n X 3 rfl dX5_pushOf_14 rfl ?_
        refine Wk.callVi (n := 2) (q0 := 0) X (c_X5_isPair l dC dI cI cJ cZ h th n li gr nu hb se t ki fe lm si va he up lo sc no pu b1 b2 b3 bu bl i j (by first | omega | assumption) (by first | omega | assumption)) gX5_pushOf_X5_isPair rfl (by decide +kernel) (by decide) Fr.all (fun h9 => h9) rfl rfl rfl rfl (Nat.le_of_ble_eq_true rfl) ⟨Nat.zero_le _, Nat.zero_le _⟩ dX5_pushOf_15 ?_
        refine Wk.ifB_eq X 61 dX5_pushOf_18 (by decide) (fun c2 => ?_) (fun c2 => ?_)
        · skip
          refine Wk.aload_n X 0 rfl dX5_pushOf_61 rfl ?_
          refine Wk.iload_n X 3 rfl dX5_pushOf_62 rfl ?_
          refine Wk.iload_n X 1 rfl dX5_pushOf_63 rfl ?_
          refine Wk.callVi (n := 2) (q0 := 0) X (c_X5_isPair l dC dI cI cJ cZ h th n li gr nu hb se t ki fe lm si va he up lo sc no pu b1 b2 b3 bu bl j i (by first | omega | assumption) (by first | omega | assumption)) gX5_pushOf_X5_isPair rfl (by decide +kernel) (by decide) Fr.all (fun h9 => h9) rfl rfl rfl rfl (Nat.le_of_ble_eq_true rfl) ⟨Nat.zero_le _, Nat.zero_le _⟩ dX5_pushOf_64 ?_
          refine Wk.ifB_eq X 110 dX5_pushOf_67 (by decide) (fun c3 => ?_) (fun c3 => ?_)
          · skip
            refine Wk.iincN (n := 1) (lv' := [(3, .int (nI (j + 1))), (0, .ref (h 0)), (1, .int (nI i)), (2, .int a)]) X 3 rfl dX5_pushOf_110 (by decide) rfl ?_
            refine Wk.goto X 4 dX5_pushOf_113 (by decide) ?_
            refine Wk.lvs (lv' := [(0, .ref (h 0)), (1, .int (nI i)), (2, .int a), (3, .int (nI (j + 1)))]) [1, 2, 3, 0] rfl ?_
            exact ih4 (j + 1) a (by omega) (by omega) (by simp [psM, *])
          · skip
            refine Wk.aload_n X 0 rfl dX5_pushOf_70 rfl ?_
            refine Wk.get X inX5 0 16 lk51 (fun _ h9 => h9) rfl rfl (by decide) rfl dX5_pushOf_71 ?_
            refine Wk.iload_n X 3 rfl dX5_pushOf_74 rfl ?_
            refine Wk.lald X 14 1 rfl rfl (by omega) (by decide) dX5_pushOf_75 ?_
            refine Wk.aload_n X 0 rfl dX5_pushOf_76 rfl ?_
            refine Wk.get X inX5 0 16 lk51 (fun _ h9 => h9) rfl rfl (by decide) rfl dX5_pushOf_77 ?_
            refine Wk.iload_n X 1 rfl dX5_pushOf_80 rfl ?_
            refine Wk.lald X 14 1 rfl rfl (by omega) (by decide) dX5_pushOf_81 ?_
            refine Wk.lsub X dX5_pushOf_82 ?_
            refine Wk.aload_n X 0 rfl dX5_pushOf_83 rfl ?_
            refine Wk.get X inX5 0 6 lk23 (fun _ h9 => h9) rfl rfl (by decide) rfl dX5_pushOf_84 ?_
            refine Wk.iconst (v := nI 0) X dX5_pushOf_87 (by decide) ?_
            refine Wk.iald X 5 0 rfl rfl (by omega) (by decide) dX5_pushOf_88 ?_
            refine Wk.i2l X dX5_pushOf_89 ?_
            refine Wk.lcmp_ge X 110 dX5_pushOf_90 dX5_pushOf_91 (by decide) (fun c4 => ?_) (fun c4 => ?_)
            · skip
              refine Wk.iincN (n := 1) (lv' := [(3, .int (nI (j + 1))), (0, .ref (h 0)), (1, .int (nI i)), (2, .int a)]) X 3 rfl dX5_pushOf_110 (by decide) rfl ?_
              refine Wk.goto X 4 dX5_pushOf_113 (by decide) ?_
              refine Wk.lvs (lv' := [(0, .ref (h 0)), (1, .int (nI i)), (2, .int a), (3, .int (nI (j + 1)))]) [1, 2, 3, 0] rfl ?_
              exact ih4 (j + 1) a (by omega) (by omega) (by simp [psM, *])
            · skip
              refine Wk.iload_n X 2 rfl dX5_pushOf_94 rfl ?_
              refine Wk.aload_n X 0 rfl dX5_pushOf_95 rfl ?_
              refine Wk.get X inX5 0 3 lk13 (fun _ h9 => h9) rfl rfl (by decide) rfl dX5_pushOf_96 ?_
              refine Wk.iload_n X 3 rfl dX5_pushOf_99 rfl ?_
              refine Wk.iald X 2 0 rfl rfl (by omega) (by decide) dX5_pushOf_100 ?_
              refine Wk.aload_n X 0 rfl dX5_pushOf_101 rfl ?_
              refine Wk.get X inX5 0 3 lk13 (fun _ h9 => h9) rfl rfl (by decide) rfl dX5_pushOf_102 ?_
              refine Wk.iload_n X 1 rfl dX5_pushOf_105 rfl ?_
              refine Wk.iald X 2 0 rfl rfl (by omega) (by decide) dX5_pushOf_106 ?_
              refine Wk.isub X dX5_pushOf_107 ?_
              refine Wk.isub X dX5_pushOf_108 ?_
              refine Wk.istore_n (lv' := [(2, .int (a - ((gr j) - (gr i)))), (0, .ref (h 0)), (1, .int (nI i)), (3, .int (nI j))]) X dX5_pushOf_109 rfl (by decide) rfl ?_
              refine Wk.iincN (n := 1) (lv' := [(3, .int (nI (j + 1))), (2, .int (a - ((gr j) - (gr i)))), (0, .ref (h 0)), (1, .int (nI i))]) X 3 rfl dX5_pushOf_110 (by decide) rfl ?_
              refine Wk.goto X 4 dX5_pushOf_113 (by decide) ?_
              refine Wk.lvs (lv' := [(0, .ref (h 0)), (1, .int (nI i)), (2, .int (a - ((gr j) - (gr i)))), (3, .int (nI (j + 1)))]) [2, 3, 1, 0] rfl ?_
              exact ih4 (j + 1) (a - ((gr j) - (gr i))) (by omega) (by omega) (by simp [psM, *])
        · skip
          refine Wk.aload_n X 0 rfl dX5_pushOf_21 rfl ?_
          refine Wk.get X inX5 0 16 lk51 (fun _ h9 => h9) rfl rfl (by decide) rfl dX5_pushOf_22 ?_
          refine Wk.iload_n X 1 rfl dX5_pushOf_25 rfl ?_
          refine Wk.lald X 14 1 rfl rfl (by omega) (by decide) dX5_pushOf_26 ?_
          refine Wk.aload_n X 0 rfl dX5_pushOf_27 rfl ?_
          refine Wk.get X inX5 0 16 lk51 (fun _ h9 => h9) rfl rfl (by decide) rfl dX5_pushOf_28 ?_
          refine Wk.iload_n X 3 rfl dX5_pushOf_31 rfl ?_
          refine Wk.lald X 14 1 rfl rfl (by omega) (by decide) dX5_pushOf_32 ?_
          refine Wk.lsub X dX5_pushOf_33 ?_
          refine Wk.aload_n X 0 rfl dX5_pushOf_34 rfl ?_
          refine Wk.get X inX5 0 6 lk23 (fun _ h9 => h9) rfl rfl (by decide) rfl dX5_pushOf_35 ?_
          refine Wk.iconst (v := nI 0) X dX5_pushOf_38 (by decide) ?_
          refine Wk.iald X 5 0 rfl rfl (by omega) (by decide) dX5_pushOf_39 ?_
          refine Wk.i2l X dX5_pushOf_40 ?_
          refine Wk.lcmp_ge X 61 dX5_pushOf_41 dX5_pushOf_42 (by decide) (fun c5 => ?_) (fun c5 => ?_)
          · skip
            refine Wk.aload_n X 0 rfl dX5_pushOf_61 rfl ?_
            refine Wk.iload_n X 3 rfl dX5_pushOf_62 rfl ?_
            refine Wk.iload_n X 1 rfl dX5_pushOf_63 rfl ?_
            refine Wk.callVi (n := 2) (q0 := 0) X (c_X5_isPair l dC dI cI cJ cZ h th n li gr nu hb se t ki fe lm si va he up lo sc no pu b1 b2 b3 bu bl j i (by first | omega | assumption) (by first | omega | assumption)) gX5_pushOf_X5_isPair rfl (by decide +kernel) (by decide) Fr.all (fun h9 => h9) rfl rfl rfl rfl (Nat.le_of_ble_eq_true rfl) ⟨Nat.zero_le _, Nat.zero_le _⟩ dX5_pushOf_64 ?_
            refine Wk.ifB_eq X 110 dX5_pushOf_67 (by decide) (fun c6 => ?_) (fun c6 => ?_)
            · skip
              refine Wk.iincN (n := 1) (lv' := [(3, .int (nI (j + 1))), (0, .ref (h 0)), (1, .int (nI i)), (2, .int a)]) X 3 rfl dX5_pushOf_110 (by decide) rfl ?_
              refine Wk.goto X 4 dX5_pushOf_113 (by decide) ?_
              refine Wk.lvs (lv' := [(0, .ref (h 0)), (1, .int (nI i)), (2, .int a), (3, .int (nI (j + 1)))]) [1, 2, 3, 0] rfl ?_
              exact ih4 (j + 1) a (by omega) (by omega) (by simp [psM, *])
            · skip
              refine Wk.aload_n X 0 rfl dX5_pushOf_70 rfl ?_
              refine Wk.get X inX5 0 16 lk51 (fun _ h9 => h9) rfl rfl (by decide) rfl dX5_pushOf_71 ?_
              refine Wk.iload_n X 3 rfl dX5_pushOf_74 rfl ?_
              refine Wk.lald X 14 1 rfl rfl (by omega) (by decide) dX5_pushOf_75 ?_
              refine Wk.aload_n X 0 rfl dX5_pushOf_76 rfl ?_
              refine Wk.get X inX5 0 16 lk51 (fun _ h9 => h9) rfl rfl (by decide) rfl dX5_pushOf_77 ?_
              refine Wk.iload_n X 1 rfl dX5_pushOf_80 rfl ?_
              refine Wk.lald X 14 1 rfl rfl (by omega) (by decide) dX5_pushOf_81 ?_
              refine Wk.lsub X dX5_pushOf_82 ?_
              refine Wk.aload_n X 0 rfl dX5_pushOf_83 rfl ?_
              refine Wk.get X inX5 0 6 lk23 (fun _ h9 => h9) rfl rfl (by decide) rfl dX5_pushOf_84 ?_
              refine Wk.iconst (v := nI 0) X dX5_pushOf_87 (by decide) ?_
              refine Wk.iald X 5 0 rfl rfl (by omega) (by decide) dX5_pushOf_88 ?_
              refine Wk.i2l X dX5_pushOf_89 ?_
              refine Wk.lcmp_ge X 110 dX5_pushOf_90 dX5_pushOf_91 (by decide) (fun c7 => ?_) (fun c7 => ?_)
              · skip
                refine Wk.iincN (n := 1) (lv' := [(3, .int (nI (j + 1))), (0, .ref (h 0)), (1, .int (nI i)), (2, .int a)]) X 3 rfl dX5_pushOf_110 (by decide) rfl ?_
                refine Wk.goto X 4 dX5_pushOf_113 (by decide) ?_
                refine Wk.lvs (lv' := [(0, .ref (h 0)), (1, .int (nI i)), (2, .int a), (3, .int (nI (j + 1)))]) [1, 2, 3, 0] rfl ?_
                exact ih4 (j + 1) a (by omega) (by omega) (by simp [psM, *])
              · skip
                refine Wk.iload_n X 2 rfl dX5_pushOf_94 rfl ?_
                refine Wk.aload_n X 0 rfl dX5_pushOf_95 rfl ?_
                refine Wk.get X inX5 0 3 lk13 (fun _ h9 => h9) rfl rfl (by decide) rfl dX5_pushOf_96 ?_
                refine Wk.iload_n X 3 rfl dX5_pushOf_99 rfl ?_
                refine Wk.iald X 2 0 rfl rfl (by omega) (by decide) dX5_pushOf_100 ?_
                refine Wk.aload_n X 0 rfl dX5_pushOf_101 rfl ?_
                refine Wk.get X inX5 0 3 lk13 (fun _ h9 => h9) rfl rfl (by decide) rfl dX5_pushOf_102 ?_
                refine Wk.iload_n X 1 rfl dX5_pushOf_105 rfl ?_
                refine Wk.iald X 2 0 rfl rfl (by omega) (by decide) dX5_pushOf_106 ?_
                refine Wk.isub X dX5_pushOf_107 ?_
                refine Wk.isub X dX5_pushOf_108 ?_
                refine Wk.istore_n (lv' := [(2, .int (a - ((gr j) - (gr i)))), (0, .ref (h 0)), (1, .int (nI i)), (3, .int (nI j))]) X dX5_pushOf_109 rfl (by decide) rfl ?_
                refine Wk.iincN (n := 1) (lv' := [(3, .int (nI (j + 1))), (2, .int (a - ((gr j) - (gr i)))), (0, .ref (h 0)), (1, .int (nI i))]) X 3 rfl dX5_pushOf_110 (by decide) rfl ?_
                refine Wk.goto X 4 dX5_pushOf_113 (by decide) ?_
                refine Wk.lvs (lv' := [(0, .ref (h 0)), (1, .int (nI i)), (2, .int (a - ((gr j) - (gr i)))), (3, .int (nI (j + 1)))]) [2, 3, 1, 0] rfl ?_
                exact ih4 (j + 1) (a - ((gr j) - (gr i))) (by omega) (by omega) (by simp [psM, *])
          · skip
            refine Wk.iload_n X 2 rfl dX5_pushOf_45 rfl ?_
            refine Wk.aload_n X 0 rfl dX5_pushOf_46 rfl ?_
            refine Wk.get X inX5 0 3 lk13 (fun _ h9 => h9) rfl rfl (by decide) rfl dX5_pushOf_47 ?_
            refine Wk.iload_n X 1 rfl dX5_pushOf_50 rfl ?_
            refine Wk.iald X 2 0 rfl rfl (by omega) (by decide) dX5_pushOf_51 ?_
            refine Wk.aload_n X 0 rfl dX5_pushOf_52 rfl ?_
            refine Wk.get X inX5 0 3 lk13 (fun _ h9 => h9) rfl rfl (by decide) rfl dX5_pushOf_53 ?_
            refine Wk.iload_n X 3 rfl dX5_pushOf_56 rfl ?_
            refine Wk.iald X 2 0 rfl rfl (by omega) (by decide) dX5_pushOf_57 ?_
            refine Wk.isub X dX5_pushOf_58 ?_
            refine Wk.iadd X dX5_pushOf_59 ?_
            refine Wk.istore_n (lv' := [(2, .int (a + ((gr i) - (gr j)))), (0, .ref (h 0)), (1, .int (nI i)), (3, .int (nI j))]) X dX5_pushOf_60 rfl (by decide) rfl ?_
            refine Wk.aload_n X 1 rfl dX5_pushOf_61 rfl ?_
            refine Wk.iload_n X 3 rfl dX5_pushOf_62 rfl ?_
            refine Wk.iload_n X 2 rfl dX5_pushOf_63 rfl ?_
            refine Wk.callVi (n := 2) (q0 := 0) X (c_X5_isPair l dC dI cI cJ cZ h th n li gr nu hb se t ki fe lm si va he up lo sc no pu b1 b2 b3 bu bl j i (by first | omega | assumption) (by first | omega | assumption)) gX5_pushOf_X5_isPair rfl (by decide +kernel) (by decide) Fr.all (fun h9 => h9) rfl rfl rfl rfl (Nat.le_of_ble_eq_true rfl) ⟨Nat.zero_le _, Nat.zero_le _⟩ dX5_pushOf_64 ?_
            refine Wk.ifB_eq X 110 dX5_pushOf_67 (by decide) (fun c8 => ?_) (fun c8 => ?_)
            · skip
              refine Wk.iincN (n := 1) (lv' := [(3, .int (nI (j + 1))), (2, .int (a + ((gr i) - (gr j)))), (0, .ref (h 0)), (1, .int (nI i))]) X 3 rfl dX5_pushOf_110 (by decide) rfl ?_
              refine Wk.goto X 4 dX5_pushOf_113 (by decide) ?_
              refine Wk.lvs (lv' := [(0, .ref (h 0)), (1, .int (nI i)), (2, .int (a + ((gr i) - (gr j)))), (3, .int (nI (j + 1)))]) [2, 3, 1, 0] rfl ?_
              exact ih4 (j + 1) (a + ((gr i) - (gr j))) (by omega) (by omega) (by simp [psM, *])
            · skip
              refine Wk.aload_n X 1 rfl dX5_pushOf_70 rfl ?_
              refine Wk.get X inX5 0 16 lk51 (fun _ h9 => h9) rfl rfl (by decide) rfl dX5_pushOf_71 ?_
              refine Wk.iload_n X 3 rfl dX5_pushOf_74 rfl ?_
              refine Wk.lald X 14 1 rfl rfl (by omega) (by decide) dX5_pushOf_75 ?_
              refine Wk.aload_n X 1 rfl dX5_pushOf_76 rfl ?_
              refine Wk.get X inX5 0 16 lk51 (fun _ h9 => h9) rfl rfl (by decide) rfl dX5_pushOf_77 ?_
              refine Wk.iload_n X 2 rfl dX5_pushOf_80 rfl ?_
              refine Wk.lald X 14 1 rfl rfl (by omega) (by decide) dX5_pushOf_81 ?_
              refine Wk.lsub X dX5_pushOf_82 ?_
              refine Wk.aload_n X 1 rfl dX5_pushOf_83 rfl ?_
              refine Wk.get X inX5 0 6 lk23 (fun _ h9 => h9) rfl rfl (by decide) rfl dX5_pushOf_84 ?_
              refine Wk.iconst (v := nI 0) X dX5_pushOf_87 (by decide) ?_
              refine Wk.iald X 5 0 rfl rfl (by omega) (by decide) dX5_pushOf_88 ?_
              refine Wk.i2l X dX5_pushOf_89 ?_
              refine Wk.lcmp_ge X 110 dX5_pushOf_90 dX5_pushOf_91 (by decide) (fun c9 => ?_) (fun c9 => ?_)
              · skip
                refine Wk.iincN (n := 1) (lv' := [(3, .int (nI (j + 1))), (2, .int (a + ((gr i) - (gr j)))), (0, .ref (h 0)), (1, .int (nI i))]) X 3 rfl dX5_pushOf_110 (by decide) rfl ?_
                refine Wk.goto X 4 dX5_pushOf_113 (by decide) ?_
                refine Wk.lvs (lv' := [(0, .ref (h 0)), (1, .int (nI i)), (2, .int (a + ((gr i) - (gr j)))), (3, .int (nI (j + 1)))]) [2, 3, 1, 0] rfl ?_
                exact ih4 (j + 1) (a + ((gr i) - (gr j))) (by omega) (by omega) (by simp [psM, *])
              · skip
                refine Wk.iload_n X 0 rfl dX5_pushOf_94 rfl ?_
                refine Wk.aload_n X 1 rfl dX5_pushOf_95 rfl ?_
                refine Wk.get X inX5 0 3 lk13 (fun _ h9 => h9) rfl rfl (by decide) rfl dX5_pushOf_96 ?_
                refine Wk.iload_n X 3 rfl dX5_pushOf_99 rfl ?_
                refine Wk.iald X 2 0 rfl rfl (by omega) (by decide) dX5_pushOf_100 ?_
                refine Wk.aload_n X 1 rfl dX5_pushOf_101 rfl ?_
                refine Wk.get X inX5 0 3 lk13 (fun _ h9 => h9) rfl rfl (by decide) rfl dX5_pushOf_102 ?_
                refine Wk.iload_n X 2 rfl dX5_pushOf_105 rfl ?_
                refine Wk.iald X 2 0 rfl rfl (by omega) (by decide) dX5_pushOf_106 ?_
                refine Wk.isub X dX5_pushOf_107 ?_
                refine Wk.isub X dX5_pushOf_108 ?_
                refine Wk.istore_n (lv' := [(2, .int ((a + ((gr i) - (gr j))) - ((gr j) - (gr i)))), (0, .ref (h 0)), (1, .int (nI i)), (3, .int (nI j))]) X dX5_pushOf_109 rfl (by decide) rfl ?_
                refine Wk.iincN (n := 1) (lv' := [(3, .int (nI (j + 1))), (2, .int ((a + ((gr i) - (gr j))) - ((gr j) - (gr i)))), (0, .ref (h 0)), (1, .int (nI i))]) X 3 rfl dX5_pushOf_110 (by decide) rfl ?_
                refine Wk.goto X 4 dX5_pushOf_113 (by decide) ?_
                refine Wk.lvs (lv' := [(0, .ref (h 0)), (1, .int (nI i)), (2, .int ((a + ((gr i) - (gr j))) - ((gr j) - (gr i)))), (3, .int (nI (j + 1)))]) [2, 3, 1, 0] rfl ?_
                exact ih4 (j + 1) ((a + ((gr i) - (gr j))) - ((gr j) - (gr i))) (by omega) (by omega) (by simp [psM, *])
  refine Wk.lvs (lv' := [(0, .ref (h 0)), (1, .int (nI i)), (2, .int (nI 0)), (3, .int (nI 0))]) [2, 3, 1, 0] rfl ?_
  exact L4 (n + 1) 0 (nI 0) (by omega) (by omega) (by rfl)

set_option maxHeartbeats 4000000 in
set_option maxRecDepth 100000 in
theorem c_X5_floor (l : Launch) (dC : Nat → ClassId) (dI : Nat → Nat → Nat) (cI cJ cZ : ClassId) (a : Int32) (b : Int32) (hb : ¬ b = 0) : Ci l yX5_floor wsX5_floor 0 0 (dC, dI) cl6 (TY cI cJ cZ) false [.int a, .int b] ([]) (flM a b) ([]) := by
  refine Ci.of (cc := cX5_floor) (maxL := 3) (ty := .int) (own := RX5) rfl (plainFor_of_name (by decide)) rfl (Nat.le_of_ble_eq_true rfl) ?_
  intro pg ev s0 md ar bw mt cd A X hr hk
  show Wk pg l ev _ s0 md ar bw mt cd 0 0 _ 3 (dC, dI) cl6 A 0 [(0, .int a), (1, .int b)] [] ([])
  refine Wk.iload_n X 0 rfl dX5_floor_0 rfl ?_
  refine Wk.iload_n X 1 rfl dX5_floor_1 rfl ?_
  refine Wk.idiv X dX5_floor_2 (by assumption) ?_
  refine Wk.istore_n (lv' := [(2, .int (a / b)), (0, .int a), (1, .int b)]) X dX5_floor_3 rfl (by decide) rfl ?_
  refine Wk.iload_n X 1 rfl dX5_floor_4 rfl ?_
  refine Wk.iload_n X 2 rfl dX5_floor_5 rfl ?_
  refine Wk.irem X dX5_floor_6 (by assumption) ?_
  refine Wk.if_ge X 16 dX5_floor_7 (by decide) (fun c1 => ?_) (fun c1 => ?_)
  · skip
    refine Wk.iload_n X 0 rfl dX5_floor_16 rfl ?_
    exact Wk.iret X hr hk (by simp [flM, nIc1, *]) rfl dX5_floor_17
  · skip
    refine Wk.iload_n X 0 rfl dX5_floor_10 rfl ?_
    refine Wk.iconst (v := nI 1) X dX5_floor_11 (by decide) ?_
    refine Wk.isub X dX5_floor_12 ?_
    refine Wk.goto X 17 dX5_floor_13 (by decide) ?_
    exact Wk.iret X hr hk (by simp [flM, nIc1, *]) rfl dX5_floor_17

set_option maxHeartbeats 4000000 in
set_option maxRecDepth 100000 in
theorem c_X5_below (l : Launch) (dC : Nat → ClassId) (dI : Nat → Nat → Nat) (cI cJ cZ : ClassId) (k : Nat) (hk0 : k < 2 ^ 31) : Ci l yX5_below wsX5_below 0 0 (dC, dI) cl6 (TY cI cJ cZ) false [.int (nI k)] ([]) (nI (dpN k)) ([]) := by
  have e0 : nI k = 0 ↔ k = 0 := nI_eq (b := 0) hk0 (by decide)
  refine Ci.of (cc := cX5_below) (maxL := 1) (ty := .int) (own := RX5) rfl (plainFor_of_name (by decide)) rfl (Nat.le_of_ble_eq_true rfl) ?_
  intro pg ev s0 md ar bw mt cd A X hr hk
  show Wk pg l ev _ s0 md ar bw mt cd 0 0 _ 1 (dC, dI) cl6 A 0 [(0, .int (nI k))] [] ([])
  refine Wk.iload_n X 0 rfl dX5_below_0 rfl ?_
  refine Wk.if_ne X 8 dX5_below_1 (by decide) (fun c1 => ?_) (fun c1 => ?_)
  · skip
    refine Wk.iload_n X 0 rfl dX5_below_8 rfl ?_
    refine Wk.iconst (v := nI 3) X dX5_below_9 (by decide) ?_
    refine Wk.icmpN_ge X 17 (by omega) (by omega) dX5_below_10 (by decide) (fun c2 => ?_) (fun c2 => ?_)
    · skip
      refine Wk.iload_n X 0 rfl dX5_below_17 rfl ?_
      refine Wk.bipush (v := nI 7) X dX5_below_18 (by decide) ?_
      refine Wk.icmpN_ge X 27 (by omega) (by omega) dX5_below_20 (by decide) (fun c3 => ?_) (fun c3 => ?_)
      · skip
        refine Wk.iconst (v := nI 3) X dX5_below_27 (by decide) ?_
        exact Wk.iret X hr hk (by rw [e0] at c1; refine congrArg nI ?_; unfold dpN; (repeat' split) <;> omega) rfl dX5_below_28
      · skip
        refine Wk.iconst (v := nI 2) X dX5_below_23 (by decide) ?_
        refine Wk.goto X 28 dX5_below_24 (by decide) ?_
        exact Wk.iret X hr hk (by rw [e0] at c1; refine congrArg nI ?_; unfold dpN; (repeat' split) <;> omega) rfl dX5_below_28
    · skip
      refine Wk.iconst (v := nI 1) X dX5_below_13 (by decide) ?_
      refine Wk.goto X 28 dX5_below_14 (by decide) ?_
      exact Wk.iret X hr hk (by rw [e0] at c1; refine congrArg nI ?_; unfold dpN; (repeat' split) <;> omega) rfl dX5_below_28
  · skip
    refine Wk.iconst (v := nI 0) X dX5_below_4 (by decide) ?_
    refine Wk.goto X 28 dX5_below_5 (by decide) ?_
    exact Wk.iret X hr hk (by rw [e0] at c1; refine congrArg nI ?_; unfold dpN; (repeat' split) <;> omega) rfl dX5_below_28

set_option maxHeartbeats 4000000 in
set_option maxRecDepth 100000 in
theorem c_X5_common (l : Launch) (dC : Nat → ClassId) (dI : Nat → Nat → Nat) (cI cJ cZ : ClassId) (a : Int64) (b : Int64) (hg : gcT 100 a b) : Cl l yX5_common wsX5_common 0 0 (dC, dI) cl6 (TY cI cJ cZ) false [.long a, .long b] ([]) (gcC 100 a b) ([]) := by
  refine Cl.of (cc := cX5_common) (maxL := 10) (ty := .long) (own := RX5) rfl (plainFor_of_name (by decide)) rfl (Nat.le_of_ble_eq_true rfl) ?_
  intro pg ev s0 md ar bw mt cd A X hr hk
  show Wk pg l ev _ s0 md ar bw mt cd 0 0 _ 10 (dC, dI) cl6 A 0 [(0, .long a), (2, .long b)] [] ([])
  refine Wk.lload_n X 0 rfl dX5_common_0 rfl ?_
  refine Wk.lstore (lv' := [(4, .long a), (0, .long a), (2, .long b)]) X dX5_common_1 (by decide) rfl ?_
  refine Wk.lload_n X 2 rfl dX5_common_3 rfl ?_
  refine Wk.lstore (lv' := [(6, .long b), (4, .long a), (0, .long a), (2, .long b)]) X dX5_common_4 (by decide) rfl ?_
  have L6 : ∀ (fu6 : Nat) (k : Nat) (x : Int64) (y : Int64) (hq : 101 ≤ k + fu6) (hk0 : k ≤ 100) (ht : gcT (100 - k) x y) (hv : gcC (100 - k) x y = gcC 100 a b), Wk pg l ev ({ frames := 0, cells := 0, slots := 0, locals := 0 } : Room) s0 md ar bw mt cd 0 0 (QRl bw ar s0 (dC, dI) cl6 (TY cI cJ cZ) A (gcC 100 a b) ([])) 10 (dC, dI) cl6 A 6 [(4, .long x), (6, .long y)] [] ([]) := by
    intro fu6
    induction fu6 with
    | zero => intro k x y hq hk0 ht hv; exact absurd hq (by omega)
    | succ fu6 ih6 =>
      intro k x y hq hk0 ht hv
      refine Wk.lload X 1 rfl dX5_common_6 ?_
      refine Wk.lconst (v := 0) X dX5_common_8 (by decide) ?_
      refine Wk.lcmp_eq X 31 dX5_common_9 dX5_common_10 (by decide) (fun c1 => ?_) (fun c1 => ?_)
      · skip
        refine Wk.lload X 0 rfl dX5_common_31 ?_
        exact Wk.lret X hr hk (by rw [← hv]; cases hd9 : 100 - k <;> simp [gcC, *]) rfl dX5_common_33
      · skip
        refine Wk.lload X 0 rfl dX5_common_13 ?_
        refine Wk.lload X 1 rfl dX5_common_15 ?_
        refine Wk.lrem X dX5_common_17 (by assumption) ?_
        refine Wk.lstore (lv' := [(8, .long (x - x / y * y)), (4, .long x), (6, .long y)]) X dX5_common_18 (by decide) rfl ?_
        refine Wk.lload X 2 rfl dX5_common_20 ?_
        refine Wk.lstore (lv' := [(4, .long y), (8, .long (x - x / y * y)), (6, .long y)]) X dX5_common_22 (by decide) rfl ?_
        refine Wk.lload X 1 rfl dX5_common_24 ?_
        refine Wk.lstore (lv' := [(6, .long (x - x / y * y)), (4, .long y), (8, .long (x - x / y * y))]) X dX5_common_26 (by decide) rfl ?_
        refine Wk.goto X 6 dX5_common_28 (by decide) ?_
        refine Wk.lvs (lv' := [(4, .long y), (6, .long (x - x / y * y))]) [1, 0] rfl ?_
        exact ih6 (k + 1) y (x - x / y * y) (by omega) (by rcases Nat.lt_or_ge k 100 with q | q; omega; (rw [show 100 - k = 0 by omega] at ht; exact absurd ht (by assumption))) (by rcases Nat.lt_or_ge k 100 with q | q; (rw [show 100 - k = (100 - (k + 1)) + 1 by omega] at ht; exact ht.resolve_left (by assumption)); (rw [show 100 - k = 0 by omega] at ht; exact absurd ht (by assumption))) (by rcases Nat.lt_or_ge k 100 with q | q; (rw [← hv, show 100 - k = (100 - (k + 1)) + 1 by omega]; simp [gcC, *]); (rw [show 100 - k = 0 by omega] at ht; exact absurd ht (by assumption)))
  refine Wk.lvs (lv' := [(4, .long a), (6, .long b)]) [1, 0] rfl ?_
  exact L6 101 0 a b (by omega) (by omega) (by exact hg) (by rfl)

set_option maxHeartbeats 4000000 in
set_option maxRecDepth 100000 in
theorem c_X5_cut (l : Launch) (dC : Nat → ClassId) (dI : Nat → Nat → Nat) (cI cJ cZ : ClassId) (h : Nat → Nat) (th : Int32) (n : Nat) (li : Nat → Int32) (gr : Nat → Int32) (nu : Nat → Int32) (hb : Nat → Bool) (se : Nat → Int32) (t : Nat) (ki : Nat → Int32) (fe : Nat → Int32) (lm : Nat → Int32) (si : Nat → Int32) (va : Nat → Int32) (he : Nat → Int32) (up : Nat → Int64) (lo : Nat → Int64) (sc : Nat → Int64) (no : Nat → Int32) (pu : Nat → Int32) (b1 : Int32) (b2 : Int32) (b3 : Int32) (bu : Int64) (bl : Int64) (ht0 : t ≤ 20) : Ci l yX5_cut wsX5_cut 0 0 (dC, dI) cl6 (TY cI cJ cZ) false [.ref (h 0)] (Wm h cI cJ cZ th n li gr nu hb se t ki fe lm si va he up lo sc no pu b1 b2 b3 bu bl) (if t = 0 then -10004 else nI (t - 1)) (Wm h cI cJ cZ (nI 0) n li gr nu hb se (t - 1) ki fe lm si va he up lo sc no pu b1 b2 b3 bu bl) := by
  have e0 : nI t = 0 ↔ t = 0 := nI_eq (b := 0) (by omega) (by decide)
  refine Ci.of (cc := cX5_cut) (maxL := 1) (ty := .int) (own := RX5) rfl (plainFor_of_name (by decide)) rfl (Nat.le_of_ble_eq_true rfl) ?_
  intro pg ev s0 md ar bw mt cd A X hr hk
  show Wk pg l ev _ s0 md ar bw mt cd 0 0 _ 1 (dC, dI) cl6 A 0 [(0, .ref (h 0))] [] (Wm h cI cJ cZ th n li gr nu hb se t ki fe lm si va he up lo sc no pu b1 b2 b3 bu bl)
  have inX5 : ∀ w ∈ u_ws RX5 TX5 24, w ∈ wsX5_cut := by decide +kernel
  have lk67 := X.w (.fieldLink RX5 67 "PairedTreesModel" "trees" "I") (by decide +kernel)
  have lk70 := X.w (.fieldLink RX5 70 "PairedTreesModel" "thrown" "I") (by decide +kernel)
  refine Wk.aload_n X 0 rfl dX5_cut_0 rfl ?_
  refine Wk.iconst (v := nI 0) X dX5_cut_1 (by decide) ?_
  refine Wk.put (ws' := Wm h cI cJ cZ (nI 0) n li gr nu hb se t ki fe lm si va he up lo sc no pu b1 b2 b3 bu bl) X inX5 tyX5 tyX5_ok nmX5 0 0 lk70 (fun _ h9 => h9) rfl rfl (by decide) rfl (tyX5_ok 0 (by decide)) rfl rfl (Nat.le_of_ble_eq_true rfl) rfl dX5_cut_2 ?_
  refine Wk.aload_n X 0 rfl dX5_cut_5 rfl ?_
  refine Wk.get X inX5 0 7 lk67 (fun _ h9 => h9) rfl rfl (by decide) rfl dX5_cut_6 ?_
  refine Wk.if_ne X 16 dX5_cut_9 (by decide) (fun c1 => ?_) (fun c1 => ?_)
  · skip
    rw [e0] at c1
    refine Wk.aload_n X 0 rfl dX5_cut_16 rfl ?_
    refine Wk.dup X dX5_cut_17 rfl ?_
    refine Wk.get X inX5 0 7 lk67 (fun _ h9 => h9) rfl rfl (by decide) rfl dX5_cut_18 ?_
    refine Wk.iconst (v := nI 1) X dX5_cut_21 (by decide) ?_
    refine Wk.isubN X (by omega) dX5_cut_22 ?_
    refine Wk.put (ws' := Wm h cI cJ cZ (nI 0) n li gr nu hb se (t - 1) ki fe lm si va he up lo sc no pu b1 b2 b3 bu bl) X inX5 tyX5 tyX5_ok nmX5 0 7 lk67 (fun _ h9 => h9) rfl rfl (by decide) rfl (tyX5_ok 7 (by decide)) rfl rfl (Nat.le_of_ble_eq_true rfl) rfl dX5_cut_23 ?_
    refine Wk.aload_n X 0 rfl dX5_cut_26 rfl ?_
    refine Wk.get X inX5 0 7 lk67 (fun _ h9 => h9) rfl rfl (by decide) rfl dX5_cut_27 ?_
    exact Wk.iret X hr hk (by simp [*]) rfl dX5_cut_30
  · skip
    rw [e0] at c1
    refine Wk.sipush (v := -10004) X dX5_cut_12 (by decide) ?_
    exact Wk.iret X hr hk (by simp [*]) (by rw [show t - 1 = t by omega]) dX5_cut_15

set_option maxHeartbeats 4000000 in
set_option maxRecDepth 100000 in
theorem c_X5_isNode (l : Launch) (dC : Nat → ClassId) (dI : Nat → Nat → Nat) (cI cJ cZ : ClassId) (h : Nat → Nat) (th : Int32) (n : Nat) (li : Nat → Int32) (gr : Nat → Int32) (nu : Nat → Int32) (hb : Nat → Bool) (se : Nat → Int32) (t : Nat) (ki : Nat → Int32) (fe : Nat → Int32) (lm : Nat → Int32) (si : Nat → Int32) (va : Nat → Int32) (he : Nat → Int32) (up : Nat → Int64) (lo : Nat → Int64) (sc : Nat → Int64) (no : Nat → Int32) (pu : Nat → Int32) (b1 : Int32) (b2 : Int32) (b3 : Int32) (bu : Int64) (bl : Int64) (x : Int32) (y : Int32) (ht0 : t ≤ 20) : Ci l yX5_isNode wsX5_isNode 1 22 (dC, dI) cl6 (TY cI cJ cZ) false [.ref (h 0), .int x, .int y] (Wm h cI cJ cZ th n li gr nu hb se t ki fe lm si va he up lo sc no pu b1 b2 b3 bu bl) (bI (ndB ki t x y)) (Wm h cI cJ cZ th n li gr nu hb se t ki fe lm si va he up lo sc no pu b1 b2 b3 bu bl) := by
  refine Ci.of (cc := cX5_isNode) (maxL := 3) (ty := .boolean) (own := RX5) rfl (plainFor_of_name (by decide)) rfl (Nat.le_of_ble_eq_true rfl) ?_
  intro pg ev s0 md ar bw mt cd A X hr hk
  show Wk pg l ev _ s0 md ar bw mt cd 0 0 _ 3 (dC, dI) cl6 A 0 [(0, .ref (h 0)), (1, .int x), (2, .int y)] [] (Wm h cI cJ cZ th n li gr nu hb se t ki fe lm si va he up lo sc no pu b1 b2 b3 bu bl)
  have inX5 : ∀ w ∈ u_ws RX5 TX5 24, w ∈ wsX5_isNode := by decide +kernel
  have lk26 := X.w (.fieldLink RX5 26 "PairedTreesModel" "sort" "[I") (by decide +kernel)
  have lk67 := X.w (.fieldLink RX5 67 "PairedTreesModel" "trees" "I") (by decide +kernel)
  refine Wk.iload_n X 1 rfl dX5_isNode_0 rfl ?_
  refine Wk.iconst (v := nI 0) X dX5_isNode_1 (by decide) ?_
  refine Wk.aload_n X 0 rfl dX5_isNode_2 rfl ?_
  refine Wk.get X inX5 0 7 lk67 (fun _ h9 => h9) rfl rfl (by decide) rfl dX5_isNode_3 ?_
  refine Wk.iconst (v := nI 1) X dX5_isNode_6 (by decide) ?_
  refine Wk.isub X dX5_isNode_7 ?_
  refine Wk.callSi (n := 3) X (c_X5_in l dC dI cI cJ cZ x (nI 0) ((nI t) - (nI 1))) gX5_isNode_X5_in rfl (by decide +kernel) (by decide) Fr.nil (fun h9 => h9) rfl rfl (Nat.le_of_ble_eq_true rfl) ⟨Nat.zero_le _, Nat.zero_le _⟩ dX5_isNode_8 ?_
  refine Wk.ifB_eq X 42 dX5_isNode_11 (by decide) (fun c1 => ?_) (fun c1 => ?_)
  · skip
    refine Wk.iconst (v := nI 0) X dX5_isNode_42 (by decide) ?_
    exact Wk.zret X hr hk (by decide) (by first | (rw [isTh x (by omega)] at c1; simp [ndB, bI, nI_0, *]; done) | (rw [isTh x (by omega)] at c1; rw [inB_inN y (k := 14) (by decide)] at c2; simp [ndB, bI, nI_0, *]; done) | (clear c1 c2; simp [ndB, bI, nI_0, nIc1, *]; done)) rfl dX5_isNode_43
  · skip
    refine Wk.iload_n X 2 rfl dX5_isNode_14 rfl ?_
    refine Wk.iconst (v := nI 0) X dX5_isNode_15 (by decide) ?_
    refine Wk.bipush (v := nI 14) X dX5_isNode_16 (by decide) ?_
    refine Wk.callSi (n := 3) X (c_X5_in l dC dI cI cJ cZ y (nI 0) (nI 14)) gX5_isNode_X5_in rfl (by decide +kernel) (by decide) Fr.nil (fun h9 => h9) rfl rfl (Nat.le_of_ble_eq_true rfl) ⟨Nat.zero_le _, Nat.zero_le _⟩ dX5_isNode_18 ?_
    refine Wk.ifB_eq X 42 dX5_isNode_21 (by decide) (fun c2 => ?_) (fun c2 => ?_)
    · skip
      refine Wk.iconst (v := nI 0) X dX5_isNode_42 (by decide) ?_
      exact Wk.zret X hr hk (by decide) (by first | (rw [isTh x (by omega)] at c1; simp [ndB, bI, nI_0, *]; done) | (rw [isTh x (by omega)] at c1; rw [inB_inN y (k := 14) (by decide)] at c2; simp [ndB, bI, nI_0, *]; done) | (clear c1 c2; simp [ndB, bI, nI_0, nIc1, *]; done)) rfl dX5_isNode_43
    · skip
      obtain ⟨a, ha, rfl⟩ := inN_t (x := x) (n := t) (by omega) ((isTh x (by omega)).symm.trans c1)
      obtain ⟨b, hb1, rfl⟩ := inN_t (x := y) (n := 15) (by decide) ((inB_inN y (k := 14) (by decide)).symm.trans c2)
      have i1 := inN_nI ha (show t < 2 ^ 31 by omega)
      have i2 := inN_nI hb1 (show 15 < 2 ^ 31 by decide)
      have i3 : (nI a).toNatClampNeg = a := nI_clamp (by omega)
      have i4 : (nI b).toNatClampNeg = b := nI_clamp (by omega)
      refine Wk.aload_n X 0 rfl dX5_isNode_24 rfl ?_
      refine Wk.get X inX5 0 8 lk26 (fun _ h9 => h9) rfl rfl (by decide) rfl dX5_isNode_25 ?_
      refine Wk.bipush (v := nI 15) X dX5_isNode_28 (by decide) ?_
      refine Wk.iload_n X 1 rfl dX5_isNode_30 rfl ?_
      refine Wk.imulC X dX5_isNode_31 ?_
      refine Wk.iload_n X 2 rfl dX5_isNode_32 rfl ?_
      refine Wk.iaddN X dX5_isNode_33 ?_
      refine Wk.iald X 6 0 rfl rfl (by omega) (by decide) dX5_isNode_34 ?_
      refine Wk.if_le X 42 dX5_isNode_35 (by decide) (fun c3 => ?_) (fun c3 => ?_)
      · skip
        refine Wk.iconst (v := nI 0) X dX5_isNode_42 (by decide) ?_
        exact Wk.zret X hr hk (by decide) (by first | (rw [isTh x (by omega)] at c1; simp [ndB, bI, nI_0, *]; done) | (rw [isTh x (by omega)] at c1; rw [inB_inN y (k := 14) (by decide)] at c2; simp [ndB, bI, nI_0, *]; done) | (clear c1 c2; simp [ndB, bI, nI_0, nIc1, *]; done)) rfl dX5_isNode_43
      · skip
        refine Wk.iconst (v := nI 1) X dX5_isNode_38 (by decide) ?_
        refine Wk.goto X 43 dX5_isNode_39 (by decide) ?_
        exact Wk.zret X hr hk (by decide) (by first | (rw [isTh x (by omega)] at c1; simp [ndB, bI, nI_0, *]; done) | (rw [isTh x (by omega)] at c1; rw [inB_inN y (k := 14) (by decide)] at c2; simp [ndB, bI, nI_0, *]; done) | (clear c1 c2; simp [ndB, bI, nI_0, nIc1, *]; done)) rfl dX5_isNode_43

theorem ndB_ok {ki : Nat → Int32} {t : Nat} {x y : Int32} (ht : t ≤ 20) (h : ndB ki t x y = true) : ∃ a b, a < t ∧ b < 15 ∧ x = nI a ∧ y = nI b := by
  unfold ndB at h
  rw [Bool.and_eq_true, Bool.and_eq_true] at h
  obtain ⟨a, ha, rfl⟩ := inN_t (by omega) h.1
  obtain ⟨b, hb, rfl⟩ := inN_t (by decide) h.2.1
  exact ⟨a, b, ha, hb, rfl, rfl⟩
set_option maxHeartbeats 4000000 in
set_option maxRecDepth 100000 in
theorem c_X5_gain (l : Launch) (dC : Nat → ClassId) (dI : Nat → Nat → Nat) (cI cJ cZ : ClassId) (h : Nat → Nat) (th : Int32) (n : Nat) (li : Nat → Int32) (gr : Nat → Int32) (nu : Nat → Int32) (hb : Nat → Bool) (se : Nat → Int32) (t : Nat) (ki : Nat → Int32) (fe : Nat → Int32) (lm : Nat → Int32) (si : Nat → Int32) (va : Nat → Int32) (he : Nat → Int32) (up : Nat → Int64) (lo : Nat → Int64) (sc : Nat → Int64) (no : Nat → Int32) (pu : Nat → Int32) (b1 : Int32) (b2 : Int32) (b3 : Int32) (bu : Int64) (bl : Int64) (x : Int32) (y : Int32) (w0 : Int32) (ht0 : t ≤ 20) : Cl l yX5_gain wsX5_gain 2 44 (dC, dI) cl6 (TY cI cJ cZ) false [.ref (h 0), .int x, .int y, .int w0] (Wm h cI cJ cZ th n li gr nu hb se t ki fe lm si va he up lo sc no pu b1 b2 b3 bu bl) (gnM ki up lo t x y w0) (Wm h cI cJ cZ (nI 0) n li gr nu hb se t ki fe lm si va he up lo sc no pu b1 b2 b3 bu bl) := by
  refine Cl.of (cc := cX5_gain) (maxL := 4) (ty := .long) (own := RX5) rfl (plainFor_of_name (by decide)) rfl (Nat.le_of_ble_eq_true rfl) ?_
  intro pg ev s0 md ar bw mt cd A X hr hk
  show Wk pg l ev _ s0 md ar bw mt cd 0 0 _ 4 (dC, dI) cl6 A 0 [(0, .ref (h 0)), (1, .int x), (2, .int y), (3, .int w0)] [] (Wm h cI cJ cZ th n li gr nu hb se t ki fe lm si va he up lo sc no pu b1 b2 b3 bu bl)
  have inX5 : ∀ w ∈ u_ws RX5 TX5 24, w ∈ wsX5_gain := by decide +kernel
  have lk26 := X.w (.fieldLink RX5 26 "PairedTreesModel" "sort" "[I") (by decide +kernel)
  have lk44 := X.w (.fieldLink RX5 44 "PairedTreesModel" "upper" "[J") (by decide +kernel)
  have lk48 := X.w (.fieldLink RX5 48 "PairedTreesModel" "lower" "[J") (by decide +kernel)
  have lk70 := X.w (.fieldLink RX5 70 "PairedTreesModel" "thrown" "I") (by decide +kernel)
  have kc147 := X.w (.constantLong RX5 147 (-10001)) (by decide +kernel)
  have kc149 := X.w (.constantLong RX5 149 (-10002)) (by decide +kernel)
  refine Wk.aload_n X 0 rfl dX5_gain_0 rfl ?_
  refine Wk.iconst (v := nI 0) X dX5_gain_1 (by decide) ?_
  refine Wk.put (ws' := Wm h cI cJ cZ (nI 0) n li gr nu hb se t ki fe lm si va he up lo sc no pu b1 b2 b3 bu bl) X inX5 tyX5 tyX5_ok nmX5 0 0 lk70 (fun _ h9 => h9) rfl rfl (by decide) rfl (tyX5_ok 0 (by decide)) rfl rfl (Nat.le_of_ble_eq_true rfl) rfl dX5_gain_2 ?_
  refine Wk.aload_n X 0 rfl dX5_gain_5 rfl ?_
  refine Wk.iload_n X 1 rfl dX5_gain_6 rfl ?_
  refine Wk.iload_n X 2 rfl dX5_gain_7 rfl ?_
  refine Wk.callVi (n := 2) (q0 := 0) X (c_X5_isNode l dC dI cI cJ cZ h (nI 0) n li gr nu hb se t ki fe lm si va he up lo sc no pu b1 b2 b3 bu bl x y (by first | omega | assumption)) gX5_gain_X5_isNode rfl (by decide +kernel) (by decide) Fr.all (fun h9 => h9) rfl rfl rfl rfl (Nat.le_of_ble_eq_true rfl) ⟨Nat.zero_le _, Nat.zero_le _⟩ dX5_gain_8 ?_
  refine Wk.ifB_eq X 29 dX5_gain_11 (by decide) (fun c1 => ?_) (fun c1 => ?_)
  · skip
    refine Wk.ldc2 X kc147 dX5_gain_29 ?_
    exact Wk.lret X hr hk (by simp [gnM, *]) rfl dX5_gain_32
  · skip
    obtain ⟨a, b, ha, hb1, rfl, rfl⟩ := ndB_ok ht0 c1
    have i3 : (nI a).toNatClampNeg = a := nI_clamp (by omega)
    have i4 : (nI b).toNatClampNeg = b := nI_clamp (by omega)
    refine Wk.aload_n X 0 rfl dX5_gain_14 rfl ?_
    refine Wk.get X inX5 0 8 lk26 (fun _ h9 => h9) rfl rfl (by decide) rfl dX5_gain_15 ?_
    refine Wk.bipush (v := nI 15) X dX5_gain_18 (by decide) ?_
    refine Wk.iload_n X 1 rfl dX5_gain_20 rfl ?_
    refine Wk.imulC X dX5_gain_21 ?_
    refine Wk.iload_n X 2 rfl dX5_gain_22 rfl ?_
    refine Wk.iaddN X dX5_gain_23 ?_
    refine Wk.iald X 6 0 rfl rfl (by omega) (by decide) dX5_gain_24 ?_
    refine Wk.iconst (v := nI 2) X dX5_gain_25 (by decide) ?_
    refine Wk.icmp_eq X 33 dX5_gain_26 (by decide) (fun c2 => ?_) (fun c2 => ?_)
    · skip
      refine Wk.iload_n X 3 rfl dX5_gain_33 rfl ?_
      refine Wk.if_ne X 51 dX5_gain_34 (by decide) (fun c3 => ?_) (fun c3 => ?_)
      · skip
        refine Wk.iload_n X 3 rfl dX5_gain_51 rfl ?_
        refine Wk.iconst (v := nI 1) X dX5_gain_52 (by decide) ?_
        refine Wk.icmp_ne X 70 dX5_gain_53 (by decide) (fun c4 => ?_) (fun c4 => ?_)
        · skip
          refine Wk.ldc2 X kc149 dX5_gain_70 ?_
          exact Wk.lret X hr hk (by first | (simp [gnM, nI_0, *]; done) | (simp [gnM, nI_0, show ¬ nI 1 = 0 by decide, *]; done)) rfl dX5_gain_73
        · skip
          refine Wk.aload_n X 0 rfl dX5_gain_56 rfl ?_
          refine Wk.get X inX5 0 15 lk48 (fun _ h9 => h9) rfl rfl (by decide) rfl dX5_gain_57 ?_
          refine Wk.bipush (v := nI 15) X dX5_gain_60 (by decide) ?_
          refine Wk.iload_n X 1 rfl dX5_gain_62 rfl ?_
          refine Wk.imulC X dX5_gain_63 ?_
          refine Wk.iload_n X 2 rfl dX5_gain_64 rfl ?_
          refine Wk.iaddN X dX5_gain_65 ?_
          refine Wk.lald X 13 1 rfl rfl (by omega) (by decide) dX5_gain_66 ?_
          refine Wk.goto X 73 dX5_gain_67 (by decide) ?_
          exact Wk.lret X hr hk (by first | (simp [gnM, nI_0, *]; done) | (simp [gnM, nI_0, show ¬ nI 1 = 0 by decide, *]; done)) rfl dX5_gain_73
      · skip
        refine Wk.aload_n X 0 rfl dX5_gain_37 rfl ?_
        refine Wk.get X inX5 0 14 lk44 (fun _ h9 => h9) rfl rfl (by decide) rfl dX5_gain_38 ?_
        refine Wk.bipush (v := nI 15) X dX5_gain_41 (by decide) ?_
        refine Wk.iload_n X 1 rfl dX5_gain_43 rfl ?_
        refine Wk.imulC X dX5_gain_44 ?_
        refine Wk.iload_n X 2 rfl dX5_gain_45 rfl ?_
        refine Wk.iaddN X dX5_gain_46 ?_
        refine Wk.lald X 12 1 rfl rfl (by omega) (by decide) dX5_gain_47 ?_
        refine Wk.goto X 73 dX5_gain_48 (by decide) ?_
        exact Wk.lret X hr hk (by first | (simp [gnM, nI_0, *]; done) | (simp [gnM, nI_0, show ¬ nI 1 = 0 by decide, *]; done)) rfl dX5_gain_73
    · skip
      refine Wk.ldc2 X kc147 dX5_gain_29 ?_
      exact Wk.lret X hr hk (by simp [gnM, *]) rfl dX5_gain_32

set_option maxHeartbeats 4000000 in
set_option maxRecDepth 100000 in
theorem c_X5_score_ (l : Launch) (dC : Nat → ClassId) (dI : Nat → Nat → Nat) (cI cJ cZ : ClassId) (h : Nat → Nat) (th : Int32) (n : Nat) (li : Nat → Int32) (gr : Nat → Int32) (nu : Nat → Int32) (hb : Nat → Bool) (se : Nat → Int32) (t : Nat) (ki : Nat → Int32) (fe : Nat → Int32) (lm : Nat → Int32) (si : Nat → Int32) (va : Nat → Int32) (he : Nat → Int32) (up : Nat → Int64) (lo : Nat → Int64) (sc : Nat → Int64) (no : Nat → Int32) (pu : Nat → Int32) (b1 : Int32) (b2 : Int32) (b3 : Int32) (bu : Int64) (bl : Int64) (x : Int32) (hn0 : n ≤ 24) (ht0 : t ≤ 20) (hfe : ∀ j, j < t * 15 → ki j = nI 2 → ∃ f, f < 4 ∧ fe j = nI f) (hcu : ∀ tr k, tr < t → k < 15 → ki (tr * 15 + k) = nI 2 → k < 7) : Cl l yX5_score_ wsX5_score_ 4 92 (dC, dI) cl6 (TY cI cJ cZ) false [.ref (h 0), .int x] (Wm h cI cJ cZ th n li gr nu hb se t ki fe lm si va he up lo sc no pu b1 b2 b3 bu bl) (if anyB x n = true then scoreM ki fe lm si va hb nu t ((atM x).toNatClampNeg / 4) else -10001) (Wm h cI cJ cZ (nI 0) n li gr nu hb se t ki fe lm si va he up lo sc no pu b1 b2 b3 bu bl) := by
  refine Cl.of (cc := cX5_score_) (maxL := 2) (ty := .long) (own := RX5) rfl (plainFor_of_name (by decide)) rfl (Nat.le_of_ble_eq_true rfl) ?_
  intro pg ev s0 md ar bw mt cd A X hr hk
  show Wk pg l ev _ s0 md ar bw mt cd 0 0 _ 2 (dC, dI) cl6 A 0 [(0, .ref (h 0)), (1, .int x)] [] (Wm h cI cJ cZ th n li gr nu hb se t ki fe lm si va he up lo sc no pu b1 b2 b3 bu bl)
  have inX5 : ∀ w ∈ u_ws RX5 TX5 24, w ∈ wsX5_score_ := by decide +kernel
  have lk70 := X.w (.fieldLink RX5 70 "PairedTreesModel" "thrown" "I") (by decide +kernel)
  have kc147 := X.w (.constantLong RX5 147 (-10001)) (by decide +kernel)
  refine Wk.aload_n X 0 rfl dX5_score__0 rfl ?_
  refine Wk.iconst (v := nI 0) X dX5_score__1 (by decide) ?_
  refine Wk.put (ws' := Wm h cI cJ cZ (nI 0) n li gr nu hb se t ki fe lm si va he up lo sc no pu b1 b2 b3 bu bl) X inX5 tyX5 tyX5_ok nmX5 0 0 lk70 (fun _ h9 => h9) rfl rfl (by decide) rfl (tyX5_ok 0 (by decide)) rfl rfl (Nat.le_of_ble_eq_true rfl) rfl dX5_score__2 ?_
  refine Wk.aload_n X 0 rfl dX5_score__5 rfl ?_
  refine Wk.iload_n X 1 rfl dX5_score__6 rfl ?_
  refine Wk.callVi (n := 1) (q0 := 0) X (c_X5_isAny l dC dI cI cJ cZ h (nI 0) n li gr nu hb se t ki fe lm si va he up lo sc no pu b1 b2 b3 bu bl x (by first | omega | assumption)) gX5_score__X5_isAny rfl (by decide +kernel) (by decide) Fr.all (fun h9 => h9) rfl rfl rfl rfl (Nat.le_of_ble_eq_true rfl) ⟨Nat.zero_le _, Nat.zero_le _⟩ dX5_score__7 ?_
  refine Wk.ifB_eq X 21 dX5_score__10 (by decide) (fun c1 => ?_) (fun c1 => ?_)
  · skip
    refine Wk.ldc2 X kc147 dX5_score__21 ?_
    exact Wk.lret X hr hk (by first | (simp [*]; done) | (clear hat; simp [*])) rfl dX5_score__24
  · skip
    obtain ⟨r, hr9, hat⟩ := anyB_ok hn0 c1
    have er : (atM x).toNatClampNeg / 4 = r := by rw [hat, nI_clamp (by omega)]; omega
    refine Wk.aload_n X 0 rfl dX5_score__13 rfl ?_
    refine Wk.iload_n X 1 rfl dX5_score__14 rfl ?_
    refine Wk.callVl (n := 1) (q0 := 0) X (c_X5_scoreOf l dC dI cI cJ cZ h (nI 0) n li gr nu hb se t ki fe lm si va he up lo sc no pu b1 b2 b3 bu bl r x (by first | omega | assumption) (by first | omega | assumption) (by first | omega | assumption) (by first | omega | assumption) (by first | omega | assumption)) gX5_score__X5_scoreOf rfl (by decide +kernel) (by decide) Fr.all (fun h9 => h9) rfl rfl rfl rfl (Nat.le_of_ble_eq_true rfl) ⟨Nat.zero_le _, Nat.zero_le _⟩ dX5_score__15 ?_
    refine Wk.goto X 24 dX5_score__18 (by decide) ?_
    exact Wk.lret X hr hk (by first | (simp [*]; done) | (clear hat; simp [*])) rfl dX5_score__24

set_option maxHeartbeats 4000000 in
set_option maxRecDepth 100000 in
theorem c_X5_value (l : Launch) (dC : Nat → ClassId) (dI : Nat → Nat → Nat) (cI cJ cZ : ClassId) (h : Nat → Nat) (th : Int32) (n : Nat) (li : Nat → Int32) (gr : Nat → Int32) (nu : Nat → Int32) (hb : Nat → Bool) (se : Nat → Int32) (t : Nat) (ki : Nat → Int32) (fe : Nat → Int32) (lm : Nat → Int32) (si : Nat → Int32) (va : Nat → Int32) (he : Nat → Int32) (up : Nat → Int64) (lo : Nat → Int64) (sc : Nat → Int64) (no : Nat → Int32) (pu : Nat → Int32) (b1 : Int32) (b2 : Int32) (b3 : Int32) (bu : Int64) (bl : Int64) (tr0 : Int32) (x : Int32) (hn0 : n ≤ 24) (ht0 : t ≤ 20) (hfe : ∀ j, j < t * 15 → ki j = nI 2 → ∃ f, f < 4 ∧ fe j = nI f) (hcu : ∀ tr k, tr < t → k < 15 → ki (tr * 15 + k) = nI 2 → k < 7) : Ci l yX5_value wsX5_value 3 68 (dC, dI) cl6 (TY cI cJ cZ) false [.ref (h 0), .int tr0, .int x] (Wm h cI cJ cZ th n li gr nu hb se t ki fe lm si va he up lo sc no pu b1 b2 b3 bu bl) (if inN tr0 t = true ∧ anyB x n = true then va (tr0.toNatClampNeg * 15 + vfC ki (gM fe lm si hb nu ((atM x).toNatClampNeg / 4)) (tr0.toNatClampNeg * 15) 3 0) else -10001) (Wm h cI cJ cZ (nI 0) n li gr nu hb se t ki fe lm si va he up lo sc no pu b1 b2 b3 bu bl) := by
  refine Ci.of (cc := cX5_value) (maxL := 3) (ty := .int) (own := RX5) rfl (plainFor_of_name (by decide)) rfl (Nat.le_of_ble_eq_true rfl) ?_
  intro pg ev s0 md ar bw mt cd A X hr hk
  show Wk pg l ev _ s0 md ar bw mt cd 0 0 _ 3 (dC, dI) cl6 A 0 [(0, .ref (h 0)), (1, .int tr0), (2, .int x)] [] (Wm h cI cJ cZ th n li gr nu hb se t ki fe lm si va he up lo sc no pu b1 b2 b3 bu bl)
  have inX5 : ∀ w ∈ u_ws RX5 TX5 24, w ∈ wsX5_value := by decide +kernel
  have lk67 := X.w (.fieldLink RX5 67 "PairedTreesModel" "trees" "I") (by decide +kernel)
  have lk70 := X.w (.fieldLink RX5 70 "PairedTreesModel" "thrown" "I") (by decide +kernel)
  refine Wk.aload_n X 0 rfl dX5_value_0 rfl ?_
  refine Wk.iconst (v := nI 0) X dX5_value_1 (by decide) ?_
  refine Wk.put (ws' := Wm h cI cJ cZ (nI 0) n li gr nu hb se t ki fe lm si va he up lo sc no pu b1 b2 b3 bu bl) X inX5 tyX5 tyX5_ok nmX5 0 0 lk70 (fun _ h9 => h9) rfl rfl (by decide) rfl (tyX5_ok 0 (by decide)) rfl rfl (Nat.le_of_ble_eq_true rfl) rfl dX5_value_2 ?_
  refine Wk.iload_n X 1 rfl dX5_value_5 rfl ?_
  refine Wk.iconst (v := nI 0) X dX5_value_6 (by decide) ?_
  refine Wk.aload_n X 0 rfl dX5_value_7 rfl ?_
  refine Wk.get X inX5 0 7 lk67 (fun _ h9 => h9) rfl rfl (by decide) rfl dX5_value_8 ?_
  refine Wk.iconst (v := nI 1) X dX5_value_11 (by decide) ?_
  refine Wk.isub X dX5_value_12 ?_
  refine Wk.callSi (n := 3) X (c_X5_in l dC dI cI cJ cZ tr0 (nI 0) ((nI t) - (nI 1))) gX5_value_X5_in rfl (by decide +kernel) (by decide) Fr.nil (fun h9 => h9) rfl rfl (Nat.le_of_ble_eq_true rfl) ⟨Nat.zero_le _, Nat.zero_le _⟩ dX5_value_13 ?_
  refine Wk.ifB_eq X 36 dX5_value_16 (by decide) (fun c1 => ?_) (fun c1 => ?_)
  · skip
    refine Wk.sipush (v := -10001) X dX5_value_36 (by decide) ?_
    exact Wk.iret X hr hk (by first | (rw [isTh tr0 (by omega)] at c1; simp [*]; done) | (simp [*]; done) | (clear hat; simp [*])) rfl dX5_value_39
  · skip
    refine Wk.aload_n X 0 rfl dX5_value_19 rfl ?_
    refine Wk.iload_n X 2 rfl dX5_value_20 rfl ?_
    refine Wk.callVi (n := 1) (q0 := 0) X (c_X5_isAny l dC dI cI cJ cZ h (nI 0) n li gr nu hb se t ki fe lm si va he up lo sc no pu b1 b2 b3 bu bl x (by first | omega | assumption)) gX5_value_X5_isAny rfl (by decide +kernel) (by decide) Fr.all (fun h9 => h9) rfl rfl rfl rfl (Nat.le_of_ble_eq_true rfl) ⟨Nat.zero_le _, Nat.zero_le _⟩ dX5_value_21 ?_
    refine Wk.ifB_eq X 36 dX5_value_24 (by decide) (fun c2 => ?_) (fun c2 => ?_)
    · skip
      refine Wk.sipush (v := -10001) X dX5_value_36 (by decide) ?_
      exact Wk.iret X hr hk (by first | (rw [isTh tr0 (by omega)] at c1; simp [*]; done) | (simp [*]; done) | (clear hat; simp [*])) rfl dX5_value_39
    · skip
      rw [isTh tr0 (by omega)] at c1
      obtain ⟨tr, htr, rfl⟩ := inN_t (x := tr0) (n := t) (by omega) c1
      have i3 : (nI tr).toNatClampNeg = tr := nI_clamp (by omega)
      obtain ⟨r, hr9, hat⟩ := anyB_ok hn0 c2
      have er : (atM x).toNatClampNeg / 4 = r := by rw [hat, nI_clamp (by omega)]; omega
      refine Wk.aload_n X 0 rfl dX5_value_27 rfl ?_
      refine Wk.iload_n X 1 rfl dX5_value_28 rfl ?_
      refine Wk.iload_n X 2 rfl dX5_value_29 rfl ?_
      refine Wk.callVi (n := 2) (q0 := 0) X (c_X5_valueBy l dC dI cI cJ cZ h (nI 0) n li gr nu hb se t ki fe lm si va he up lo sc no pu b1 b2 b3 bu bl r tr x (by first | omega | assumption) (by first | omega | assumption) (by first | omega | assumption) (by exact fun k1 h1 h2 => hfe _ (by omega) h2) (by exact fun k1 h1 h2 => hcu _ k1 (by omega) h1 h2)) gX5_value_X5_valueBy rfl (by decide +kernel) (by decide) Fr.all (fun h9 => h9) rfl rfl rfl rfl (Nat.le_of_ble_eq_true rfl) ⟨Nat.zero_le _, Nat.zero_le _⟩ dX5_value_30 ?_
      refine Wk.goto X 39 dX5_value_33 (by decide) ?_
      exact Wk.iret X hr hk (by first | (rw [isTh tr0 (by omega)] at c1; simp [*]; done) | (simp [*]; done) | (clear hat; simp [*])) rfl dX5_value_39

set_option maxHeartbeats 4000000 in
set_option maxRecDepth 100000 in
theorem c_X5_push (l : Launch) (dC : Nat → ClassId) (dI : Nat → Nat → Nat) (cI cJ cZ : ClassId) (h : Nat → Nat) (th : Int32) (n : Nat) (li : Nat → Int32) (gr : Nat → Int32) (nu : Nat → Int32) (hb : Nat → Bool) (se : Nat → Int32) (t : Nat) (ki : Nat → Int32) (fe : Nat → Int32) (lm : Nat → Int32) (si : Nat → Int32) (va : Nat → Int32) (he : Nat → Int32) (up : Nat → Int64) (lo : Nat → Int64) (sc : Nat → Int64) (no : Nat → Int32) (pu : Nat → Int32) (b1 : Int32) (b2 : Int32) (b3 : Int32) (bu : Int64) (bl : Int64) (x : Int32) (hn0 : n ≤ 24) (ht0 : t ≤ 20) (hfe : ∀ j, j < t * 15 → ki j = nI 2 → ∃ f, f < 4 ∧ fe j = nI f) (hcu : ∀ tr k, tr < t → k < 15 → ki (tr * 15 + k) = nI 2 → k < 7) : Ci l yX5_push wsX5_push 5 113 (dC, dI) cl6 (TY cI cJ cZ) false [.ref (h 0), .int x] (Wm h cI cJ cZ th n li gr nu hb se t ki fe lm si va he up lo sc no pu b1 b2 b3 bu bl) (if inN x n = true then psM li gr (scT sc (scoreM ki fe lm si va hb nu t) n) (se 0) x.toNatClampNeg n else -10001) (Wm h cI cJ cZ (nI 0) n li gr nu hb se t ki fe lm si va he up lo (if inN x n = true then scT sc (scoreM ki fe lm si va hb nu t) n else sc) no pu b1 b2 b3 bu bl) := by
  refine Ci.of (cc := cX5_push) (maxL := 2) (ty := .int) (own := RX5) rfl (plainFor_of_name (by decide)) rfl (Nat.le_of_ble_eq_true rfl) ?_
  intro pg ev s0 md ar bw mt cd A X hr hk
  show Wk pg l ev _ s0 md ar bw mt cd 0 0 _ 2 (dC, dI) cl6 A 0 [(0, .ref (h 0)), (1, .int x)] [] (Wm h cI cJ cZ th n li gr nu hb se t ki fe lm si va he up lo sc no pu b1 b2 b3 bu bl)
  have inX5 : ∀ w ∈ u_ws RX5 TX5 24, w ∈ wsX5_push := by decide +kernel
  have lk70 := X.w (.fieldLink RX5 70 "PairedTreesModel" "thrown" "I") (by decide +kernel)
  refine Wk.aload_n X 0 rfl dX5_push_0 rfl ?_
  refine Wk.iconst (v := nI 0) X dX5_push_1 (by decide) ?_
  refine Wk.put (ws' := Wm h cI cJ cZ (nI 0) n li gr nu hb se t ki fe lm si va he up lo sc no pu b1 b2 b3 bu bl) X inX5 tyX5 tyX5_ok nmX5 0 0 lk70 (fun _ h9 => h9) rfl rfl (by decide) rfl (tyX5_ok 0 (by decide)) rfl rfl (Nat.le_of_ble_eq_true rfl) rfl dX5_push_2 ?_
  refine Wk.aload_n X 0 rfl dX5_push_5 rfl ?_
  refine Wk.iload_n X 1 rfl dX5_push_6 rfl ?_
  refine Wk.callVi (n := 1) (q0 := 0) X (c_X5_isThing l dC dI cI cJ cZ h (nI 0) n li gr nu hb se t ki fe lm si va he up lo sc no pu b1 b2 b3 bu bl x (by first | omega | assumption)) gX5_push_X5_isThing rfl (by decide +kernel) (by decide) Fr.all (fun h9 => h9) rfl rfl rfl rfl (Nat.le_of_ble_eq_true rfl) ⟨Nat.zero_le _, Nat.zero_le _⟩ dX5_push_7 ?_
  refine Wk.ifB_ne X 17 dX5_push_10 (by decide) (fun c1 => ?_) (fun c1 => ?_)
  · skip
    obtain ⟨j, hj, rfl⟩ := inN_t (x := x) (n := n) (by omega) c1
    have hi9 := inN_nI hj (show n < 2 ^ 31 by omega)
    have ec2 : (nI j).toNatClampNeg = j := nI_clamp (by omega)
    refine Wk.aload_n X 0 rfl dX5_push_17 rfl ?_
    refine Wk.callVv (n := 0) (q0 := 0) X (c_X5_score l dC dI cI cJ cZ h (nI 0) n li gr nu hb se t ki fe lm si va he up lo sc no pu b1 b2 b3 bu bl (by first | omega | assumption) (by first | omega | assumption) (by first | omega | assumption) (by first | omega | assumption)) gX5_push_X5_score rfl (by decide +kernel) (by decide) Fr.all (fun h9 => h9) rfl rfl rfl rfl (Nat.le_of_ble_eq_true rfl) ⟨Nat.zero_le _, Nat.zero_le _⟩ dX5_push_18 ?_
    refine Wk.aload_n X 0 rfl dX5_push_21 rfl ?_
    refine Wk.iload_n X 1 rfl dX5_push_22 rfl ?_
    refine Wk.callVi (n := 1) (q0 := 0) X (c_X5_pushOf l dC dI cI cJ cZ h (nI 0) n li gr nu hb se t ki fe lm si va he up lo (scT sc (scoreM ki fe lm si va hb nu t) n) no pu b1 b2 b3 bu bl j (by first | omega | assumption) (by first | omega | assumption)) gX5_push_X5_pushOf rfl (by decide +kernel) (by decide) Fr.all (fun h9 => h9) rfl rfl rfl rfl (Nat.le_of_ble_eq_true rfl) ⟨Nat.zero_le _, Nat.zero_le _⟩ dX5_push_23 ?_
    exact Wk.iret X hr hk (by simp [*]) (by simp [*]) dX5_push_26
  · skip
    refine Wk.sipush (v := -10001) X dX5_push_13 (by decide) ?_
    exact Wk.iret X hr hk (by simp [*]) (by simp [*]) dX5_push_16

