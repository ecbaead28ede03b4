/-- from node k down, at most d steps: where the row comes to -/
def vfC (ki : Nat → Int32) (g : Nat → Bool) (b : Nat) : Nat → Nat → Nat
  | 0, k => k
  | d + 1, k => if ki (b + k) = nI 2 then vfC ki g b d (if g (b + k) = true then 2 * k + 1 else 2 * k + 2) else k
def gC (fe lm si nb : Nat → Int32) (r : Nat) : Nat → Bool := fun j => glC nb r (fe j).toNatClampNeg (lm j) (si j)
def smC (ki va : Nat → Int32) (g : Nat → Bool) : Nat → Int64
  | 0 => 0
  | k + 1 => smC ki va g k + (va (k * 15 + vfC ki g (k * 15) 3 0)).toInt64
def scoreC (ki fe lm si va nb : Nat → Int32) (t r : Nat) : Int64 := smC ki va (gC fe lm si nb r) t
def scT (sc f : Nat → Int64) : Nat → Nat → Int64
  | 0 => sc
  | k + 1 => vp_updL (scT sc f k) k (f k)
def gcC : Nat → Int64 → Int64 → Int64
  | 0, x, _ => x
  | k + 1, x, y => if y = 0 then x else gcC k y (x - x / y * y)
def redC (g x : Int64) : Int64 := if g ≤ 1 then x else x / g
def clC (ki : Nat → Int32) (a : Nat) : Nat → Nat
  | 0 => 0
  | k + 1 => if ki (a + k) = nI 1 then clC ki a k + 1 else clC ki a k
def ccC (ki fe : Nat → Int32) (f : Int32) : Nat → Nat
  | 0 => 0
  | k + 1 => if ki k = nI 2 ∧ fe k = f then ccC ki fe f k + 1 else ccC ki fe f k
def fdC (ki : Nat → Int32) (t : Nat) (x y : Int32) : Int32 := if inN x t = true ∧ inN y 15 = true ∧ ¬ ki (x.toNatClampNeg * 15 + y.toNatClampNeg) = 0 then nI (x.toNatClampNeg * 15 + y.toNatClampNeg) else -1
def ibC (f c s : Int32) (gu gl : Int64) (b1 b2 b3 : Int32) (bu bl : Int64) : Bool := if gu * bl = bu * gl then (if f = b1 then (if c = b2 then decide (¬ b3 ≤ s) else decide (¬ b2 ≤ c)) else decide (¬ b1 ≤ f)) else decide (¬ gu * bl ≤ bu * gl)
/-- is the offered cut taken -/
def ofC (f c s : Int32) (gu gl : Int64) (bf : Bool) (b1 b2 b3 : Int32) (bu bl : Int64) : Bool := !bf || ibC f c s gu gl b1 b2 b3 bu bl
set_option maxHeartbeats 4000000 in
set_option maxRecDepth 100000 in
theorem c_X3_forgetRow (l : Launch) (dC : Nat → ClassId) (dI : Nat → Nat → Nat) (cI cJ cZ : ClassId) (h : Nat → Nat) (n : Nat) (li : Nat → Int32) (gr : Nat → Int32) (nb : Nat → Int32) (sc : Nat → Int64) (t : Nat) (ki : Nat → Int32) (fe : Nat → Int32) (lm : Nat → Int32) (si : Nat → Int32) (va : Nat → Int32) (he : Nat → Int32) (up : Nat → Int64) (lo : Nat → Int64) (pu : Nat → Int32) (pl : Nat → Int32) (gh : Nat) (gs : Int32) (bf : Bool) (b1 : Int32) (b2 : Int32) (b3 : Int32) (bu : Int64) (bl : Int64) (se : Nat → Int32) (r : Nat) (hr0 : r < 25) : Cv l yX3_forgetRow wsX3_forgetRow 2 46 (dC, dI) cl6 (TY cI cJ cZ) false [.ref (h 1), .int (nI r)] (Wc h cI cJ cZ n li gr nb sc t ki fe lm si va he up lo pu pl gh gs bf b1 b2 b3 bu bl se) (Wc h cI cJ cZ n li gr (filF nb (r * 4) (-1001) 4) sc t ki fe lm si va he up lo pu pl gh gs bf b1 b2 b3 bu bl se) := by
  refine Cv.of (cc := cX3_forgetRow) (maxL := 2) (own := RX3) rfl (plainFor_of_name (by decide)) rfl (Nat.le_of_ble_eq_true rfl) ?_
  intro pg ev s0 md ar bw mt cd A X hr hk
  show Wk pg l ev _ s0 md ar bw mt cd 0 0 _ 2 (dC, dI) cl6 A 0 [(0, .ref (h 1)), (1, .int (nI r))] [] (Wc h cI cJ cZ n li gr nb sc t ki fe lm si va he up lo pu pl gh gs bf b1 b2 b3 bu bl se)
  have inX3 : ∀ w ∈ u_ws RX3 TX3 5, w ∈ wsX3_forgetRow := by decide +kernel
  have lk18 := X.w (.fieldLink RX3 18 "PairedTrees$Things" "numbers" "[I") (by decide +kernel)
  refine Wk.aload_n X 0 rfl dX3_forgetRow_0 rfl ?_
  refine Wk.get X inX3 1 3 lk18 (fun _ h9 => h9) rfl rfl (by decide) rfl dX3_forgetRow_1 ?_
  refine Wk.iload_n X 1 rfl dX3_forgetRow_4 rfl ?_
  refine Wk.iconst (v := nI 4) X dX3_forgetRow_5 (by decide) ?_
  refine Wk.imulN X dX3_forgetRow_6 ?_
  refine Wk.iload_n X 1 rfl dX3_forgetRow_7 rfl ?_
  refine Wk.iconst (v := nI 1) X dX3_forgetRow_8 (by decide) ?_
  refine Wk.iaddN X dX3_forgetRow_9 ?_
  refine Wk.iconst (v := nI 4) X dX3_forgetRow_10 (by decide) ?_
  refine Wk.imulN X dX3_forgetRow_11 ?_
  refine Wk.sipush (v := -1001) X dX3_forgetRow_12 (by decide) ?_
  refine Wk.callSv (n := 4) X (c_J7_fill_fda19 l dC dI cI cJ cZ (fun _ => h 4) 100 nb (r * 4) ((r + 1) * 4) (-1001) (by first | omega | assumption) (by first | omega | assumption) (by first | omega | assumption)) gX3_forgetRow_J7_fill_fda19 rfl (by decide +kernel) (by decide) (Fr.mk2 (ws' := Wc h cI cJ cZ n li gr (filF nb (r * 4) (-1001) (((r + 1) * 4) - (r * 4))) sc t ki fe lm si va he up lo pu pl gh gs bf b1 b2 b3 bu bl se) [4] [0, 1, 2, 3, 5, 6, 7, 8, 9, 10, 11, 12, 13, 14, 15, 16, 17, 18, 19] [0, 1, 2, 3, 19, 4, 5, 6, 7, 8, 9, 10, 11, 12, 13, 14, 15, 16, 17, 18] rfl rfl rfl rfl (by decide) rfl rfl) (fun h9 => h9) rfl rfl (Nat.le_of_ble_eq_true rfl) ⟨Nat.zero_le _, Nat.zero_le _⟩ dX3_forgetRow_15 ?_
  exact Wk.vret X hr hk (by rw [show (r + 1) * 4 - r * 4 = 4 by omega]) dX3_forgetRow_18

set_option maxHeartbeats 4000000 in
set_option maxRecDepth 100000 in
theorem c_X3_take (l : Launch) (dC : Nat → ClassId) (dI : Nat → Nat → Nat) (cI cJ cZ : ClassId) (h : Nat → Nat) (n : Nat) (li : Nat → Int32) (gr : Nat → Int32) (nb : Nat → Int32) (sc : Nat → Int64) (t : Nat) (ki : Nat → Int32) (fe : Nat → Int32) (lm : Nat → Int32) (si : Nat → Int32) (va : Nat → Int32) (he : Nat → Int32) (up : Nat → Int64) (lo : Nat → Int64) (pu : Nat → Int32) (pl : Nat → Int32) (gh : Nat) (gs : Int32) (bf : Bool) (b1 : Int32) (b2 : Int32) (b3 : Int32) (bu : Int64) (bl : Int64) (se : Nat → Int32) (ls : Int32) (gd : Int32) (hn0 : n < 24) : Ci l yX3_take wsX3_take 3 67 (dC, dI) cl6 (TY cI cJ cZ) false [.ref (h 1), .int ls, .int gd] (Wc h cI cJ cZ n li gr nb sc t ki fe lm si va he up lo pu pl gh gs bf b1 b2 b3 bu bl se) (nI n) (Wc h cI cJ cZ (n + 1) (upd li n ls) (upd gr n gd) (filF nb (n * 4) (-1001) 4) sc t ki fe lm si va he up lo pu pl gh gs bf b1 b2 b3 bu bl se) := by
  refine Ci.of (cc := cX3_take) (maxL := 4) (ty := .int) (own := RX3) rfl (plainFor_of_name (by decide)) rfl (Nat.le_of_ble_eq_true rfl) ?_
  intro pg ev s0 md ar bw mt cd A X hr hk
  show Wk pg l ev _ s0 md ar bw mt cd 0 0 _ 4 (dC, dI) cl6 A 0 [(0, .ref (h 1)), (1, .int ls), (2, .int gd)] [] (Wc h cI cJ cZ n li gr nb sc t ki fe lm si va he up lo pu pl gh gs bf b1 b2 b3 bu bl se)
  have inX3 : ∀ w ∈ u_ws RX3 TX3 5, w ∈ wsX3_take := by decide +kernel
  have lk9 := X.w (.fieldLink RX3 9 "PairedTrees$Things" "lists" "[I") (by decide +kernel)
  have lk15 := X.w (.fieldLink RX3 15 "PairedTrees$Things" "grades" "[I") (by decide +kernel)
  have lk25 := X.w (.fieldLink RX3 25 "PairedTrees$Things" "count" "I") (by decide +kernel)
  refine Wk.aload_n X 0 rfl dX3_take_0 rfl ?_
  refine Wk.get X inX3 1 0 lk25 (fun _ h9 => h9) rfl rfl (by decide) rfl dX3_take_1 ?_
  refine Wk.istore_n (lv' := [(3, .int (nI n)), (0, .ref (h 1)), (1, .int ls), (2, .int gd)]) X dX3_take_4 rfl (by decide) rfl ?_
  refine Wk.aload_n X 1 rfl dX3_take_5 rfl ?_
  refine Wk.get X inX3 1 1 lk9 (fun _ h9 => h9) rfl rfl (by decide) rfl dX3_take_6 ?_
  refine Wk.iload_n X 0 rfl dX3_take_9 rfl ?_
  refine Wk.iload_n X 2 rfl dX3_take_10 rfl ?_
  refine Wk.iast (ws' := Wc h cI cJ cZ n (upd li n ls) gr nb sc t ki fe lm si va he up lo pu pl gh gs bf b1 b2 b3 bu bl se) X 2 0 rfl rfl (by omega) (by decide) rfl dX3_take_11 ?_
  refine Wk.aload_n X 1 rfl dX3_take_12 rfl ?_
  refine Wk.get X inX3 1 2 lk15 (fun _ h9 => h9) rfl rfl (by decide) rfl dX3_take_13 ?_
  refine Wk.iload_n X 0 rfl dX3_take_16 rfl ?_
  refine Wk.iload_n X 3 rfl dX3_take_17 rfl ?_
  refine Wk.iast (ws' := Wc h cI cJ cZ n (upd li n ls) (upd gr n gd) nb sc t ki fe lm si va he up lo pu pl gh gs bf b1 b2 b3 bu bl se) X 3 0 rfl rfl (by omega) (by decide) rfl dX3_take_18 ?_
  refine Wk.aload_n X 1 rfl dX3_take_19 rfl ?_
  refine Wk.iload_n X 0 rfl dX3_take_20 rfl ?_
  refine Wk.callVv (n := 1) (q0 := 1) X (c_X3_forgetRow l dC dI cI cJ cZ h n (upd li n ls) (upd gr n gd) nb sc t ki fe lm si va he up lo pu pl gh gs bf b1 b2 b3 bu bl se n (by first | omega | assumption)) gX3_take_X3_forgetRow rfl (by decide +kernel) (by decide) Fr.all (fun h9 => h9) rfl rfl rfl rfl (Nat.le_of_ble_eq_true rfl) ⟨Nat.zero_le _, Nat.zero_le _⟩ dX3_take_21 ?_
  refine Wk.aload_n X 1 rfl dX3_take_24 rfl ?_
  refine Wk.dup X dX3_take_25 rfl ?_
  refine Wk.get X inX3 1 0 lk25 (fun _ h9 => h9) rfl rfl (by decide) rfl dX3_take_26 ?_
  refine Wk.iconst (v := nI 1) X dX3_take_29 (by decide) ?_
  refine Wk.iaddN X dX3_take_30 ?_
  refine Wk.put (ws' := Wc h cI cJ cZ (n + 1) (upd li n ls) (upd gr n gd) (filF nb (n * 4) (-1001) 4) sc t ki fe lm si va he up lo pu pl gh gs bf b1 b2 b3 bu bl se) X inX3 tyX3 tyX3_ok nmX3 1 0 lk25 (fun _ h9 => h9) rfl rfl (by decide) rfl (tyX3_ok 0 (by decide)) rfl rfl (Nat.le_of_ble_eq_true rfl) rfl dX3_take_31 ?_
  refine Wk.iload_n X 0 rfl dX3_take_34 rfl ?_
  exact Wk.iret X hr hk (by first | rfl | omega | (simp [*]; done)) rfl dX3_take_35

set_option maxHeartbeats 4000000 in
set_option maxRecDepth 100000 in
theorem c_X1_has (l : Launch) (dC : Nat → ClassId) (dI : Nat → Nat → Nat) (cI cJ cZ : ClassId) (h : Nat → Nat) (n : Nat) (li : Nat → Int32) (gr : Nat → Int32) (nb : Nat → Int32) (sc : Nat → Int64) (t : Nat) (ki : Nat → Int32) (fe : Nat → Int32) (lm : Nat → Int32) (si : Nat → Int32) (va : Nat → Int32) (he : Nat → Int32) (up : Nat → Int64) (lo : Nat → Int64) (pu : Nat → Int32) (pl : Nat → Int32) (gh : Nat) (gs : Int32) (bf : Bool) (b1 : Int32) (b2 : Int32) (b3 : Int32) (bu : Int64) (bl : Int64) (se : Nat → Int32) (x : Int32) : Ci l yX1_has wsX1_has 0 0 (dC, dI) cl6 (TY cI cJ cZ) false [.ref (h 6), .int x] (Wc h cI cJ cZ n li gr nb sc t ki fe lm si va he up lo pu pl gh gs bf b1 b2 b3 bu bl se) (bI (inN x t)) (Wc h cI cJ cZ n li gr nb sc t ki fe lm si va he up lo pu pl gh gs bf b1 b2 b3 bu bl se) := by
  refine Ci.of (cc := cX1_has) (maxL := 2) (ty := .boolean) (own := RX1) rfl (plainFor_of_name (by decide)) rfl (Nat.le_of_ble_eq_true rfl) ?_
  intro pg ev s0 md ar bw mt cd A X hr hk
  show Wk pg l ev _ s0 md ar bw mt cd 0 0 _ 2 (dC, dI) cl6 A 0 [(0, .ref (h 6)), (1, .int x)] [] (Wc h cI cJ cZ n li gr nb sc t ki fe lm si va he up lo pu pl gh gs bf b1 b2 b3 bu bl se)
  have inX1 : ∀ w ∈ u_ws RX1 TX1 9, w ∈ wsX1_has := by decide +kernel
  have lk37 := X.w (.fieldLink RX1 37 "PairedTrees$Forest" "count" "I") (by decide +kernel)
  refine Wk.iload_n X 1 rfl dX1_has_0 rfl ?_
  refine Wk.if_lt X 16 dX1_has_1 (by decide) (fun c1 => ?_) (fun c1 => ?_)
  · skip
    refine Wk.iconst (v := nI 0) X dX1_has_16 (by decide) ?_
    exact Wk.zret X hr hk (by decide) (by simp [inN, bI, nI_0, nIc1, *]) rfl dX1_has_17
  · skip
    refine Wk.iload_n X 1 rfl dX1_has_4 rfl ?_
    refine Wk.aload_n X 0 rfl dX1_has_5 rfl ?_
    refine Wk.get X inX1 6 0 lk37 (fun _ h9 => h9) rfl rfl (by decide) rfl dX1_has_6 ?_
    refine Wk.icmp_ge X 16 dX1_has_9 (by decide) (fun c2 => ?_) (fun c2 => ?_)
    · skip
      refine Wk.iconst (v := nI 0) X dX1_has_16 (by decide) ?_
      exact Wk.zret X hr hk (by decide) (by simp [inN, bI, nI_0, nIc1, *]) rfl dX1_has_17
    · skip
      refine Wk.iconst (v := nI 1) X dX1_has_12 (by decide) ?_
      refine Wk.goto X 17 dX1_has_13 (by decide) ?_
      exact Wk.zret X hr hk (by decide) (by simp [inN, bI, nI_0, nIc1, *]) rfl dX1_has_17

set_option maxHeartbeats 4000000 in
set_option maxRecDepth 100000 in
theorem c_X1_find (l : Launch) (dC : Nat → ClassId) (dI : Nat → Nat → Nat) (cI cJ cZ : ClassId) (h : Nat → Nat) (n : Nat) (li : Nat → Int32) (gr : Nat → Int32) (nb : Nat → Int32) (sc : Nat → Int64) (t : Nat) (ki : Nat → Int32) (fe : Nat → Int32) (lm : Nat → Int32) (si : Nat → Int32) (va : Nat → Int32) (he : Nat → Int32) (up : Nat → Int64) (lo : Nat → Int64) (pu : Nat → Int32) (pl : Nat → Int32) (gh : Nat) (gs : Int32) (bf : Bool) (b1 : Int32) (b2 : Int32) (b3 : Int32) (bu : Int64) (bl : Int64) (se : Nat → Int32) (x : Int32) (y : Int32) (ht0 : t ≤ 20) : Ci l yX1_find wsX1_find 1 21 (dC, dI) cl6 (TY cI cJ cZ) false [.ref (h 6), .int x, .int y] (Wc h cI cJ cZ n li gr nb sc t ki fe lm si va he up lo pu pl gh gs bf b1 b2 b3 bu bl se) (fdC ki t x y) (Wc h cI cJ cZ n li gr nb sc t ki fe lm si va he up lo pu pl gh gs bf b1 b2 b3 bu bl se) := by
  refine Ci.of (cc := cX1_find) (maxL := 4) (ty := .int) (own := RX1) rfl (plainFor_of_name (by decide)) rfl (Nat.le_of_ble_eq_true rfl) ?_
  intro pg ev s0 md ar bw mt cd A X hr hk
  show Wk pg l ev _ s0 md ar bw mt cd 0 0 _ 4 (dC, dI) cl6 A 0 [(0, .ref (h 6)), (1, .int x), (2, .int y)] [] (Wc h cI cJ cZ n li gr nb sc t ki fe lm si va he up lo pu pl gh gs bf b1 b2 b3 bu bl se)
  have inX1 : ∀ w ∈ u_ws RX1 TX1 9, w ∈ wsX1_find := by decide +kernel
  have lk9 := X.w (.fieldLink RX1 9 "PairedTrees$Forest" "kinds" "[I") (by decide +kernel)
  refine Wk.aload_n X 0 rfl dX1_find_0 rfl ?_
  refine Wk.iload_n X 1 rfl dX1_find_1 rfl ?_
  refine Wk.callVi (n := 1) (q0 := 6) X (c_X1_has l dC dI cI cJ cZ h n li gr nb sc t ki fe lm si va he up lo pu pl gh gs bf b1 b2 b3 bu bl se x) gX1_find_X1_has rfl (by decide +kernel) (by decide) Fr.all (fun h9 => h9) rfl rfl rfl rfl (Nat.le_of_ble_eq_true rfl) ⟨Nat.zero_le _, Nat.zero_le _⟩ dX1_find_2 ?_
  refine Wk.ifB_eq X 18 dX1_find_5 (by decide) (fun c1 => ?_) (fun c1 => ?_)
  · skip
    refine Wk.iconst (v := -1) X dX1_find_18 (by decide) ?_
    exact Wk.iret X hr hk (by first | (simp [fdC, *]; done) | (have h9 : inN y 15 = false := (by simp [inN, *]); simp [fdC, *])) rfl dX1_find_19
  · skip
    refine Wk.iload_n X 2 rfl dX1_find_8 rfl ?_
    refine Wk.if_lt X 18 dX1_find_9 (by decide) (fun c2 => ?_) (fun c2 => ?_)
    · skip
      refine Wk.iconst (v := -1) X dX1_find_18 (by decide) ?_
      exact Wk.iret X hr hk (by first | (simp [fdC, *]; done) | (have h9 : inN y 15 = false := (by simp [inN, *]); simp [fdC, *])) rfl dX1_find_19
    · skip
      refine Wk.iload_n X 2 rfl dX1_find_12 rfl ?_
      refine Wk.bipush (v := nI 15) X dX1_find_13 (by decide) ?_
      refine Wk.icmp_lt X 20 dX1_find_15 (by decide) (fun c3 => ?_) (fun c3 => ?_)
      · skip
        obtain ⟨a, ha, rfl⟩ := inN_t (by omega) c1
        obtain ⟨b, hb, rfl⟩ := inN_t (x := y) (n := 15) (by decide) (by simp [inN, *]; done)
        refine Wk.iload_n X 1 rfl dX1_find_20 rfl ?_
        refine Wk.bipush (v := nI 15) X dX1_find_21 (by decide) ?_
        refine Wk.imulN X dX1_find_23 ?_
        refine Wk.iload_n X 2 rfl dX1_find_24 rfl ?_
        refine Wk.iaddN X dX1_find_25 ?_
        refine Wk.istore_n (lv' := [(3, .int (nI (a * 15 + b))), (0, .ref (h 6)), (1, .int (nI a)), (2, .int (nI b))]) X dX1_find_26 rfl (by decide) rfl ?_
        refine Wk.aload_n X 1 rfl dX1_find_27 rfl ?_
        refine Wk.get X inX1 6 1 lk9 (fun _ h9 => h9) rfl rfl (by decide) rfl dX1_find_28 ?_
        refine Wk.iload_n X 0 rfl dX1_find_31 rfl ?_
        refine Wk.iald X 7 0 rfl rfl (by omega) (by decide) dX1_find_32 ?_
        refine Wk.if_ne X 40 dX1_find_33 (by decide) (fun c4 => ?_) (fun c4 => ?_)
        · skip
          refine Wk.iload_n X 0 rfl dX1_find_40 rfl ?_
          exact Wk.iret X hr hk (by simp [fdC, inN_nI ha (by omega), inN_nI hb (by omega), nI_clamp (show a < 2 ^ 31 by omega), nI_clamp (show b < 2 ^ 31 by omega), *]) rfl dX1_find_41
        · skip
          refine Wk.iconst (v := -1) X dX1_find_36 (by decide) ?_
          refine Wk.goto X 41 dX1_find_37 (by decide) ?_
          exact Wk.iret X hr hk (by simp [fdC, inN_nI ha (by omega), inN_nI hb (by omega), nI_clamp (show a < 2 ^ 31 by omega), nI_clamp (show b < 2 ^ 31 by omega), *]) rfl dX1_find_41
      · skip
        refine Wk.iconst (v := -1) X dX1_find_18 (by decide) ?_
        exact Wk.iret X hr hk (by first | (simp [fdC, *]; done) | (have h9 : inN y 15 = false := (by simp [inN, *]); simp [fdC, *])) rfl dX1_find_19

set_option maxHeartbeats 4000000 in
set_option maxRecDepth 100000 in
theorem c_X1_addTree (l : Launch) (dC : Nat → ClassId) (dI : Nat → Nat → Nat) (cI cJ cZ : ClassId) (h : Nat → Nat) (n : Nat) (li : Nat → Int32) (gr : Nat → Int32) (nb : Nat → Int32) (sc : Nat → Int64) (t : Nat) (ki : Nat → Int32) (fe : Nat → Int32) (lm : Nat → Int32) (si : Nat → Int32) (va : Nat → Int32) (he : Nat → Int32) (up : Nat → Int64) (lo : Nat → Int64) (pu : Nat → Int32) (pl : Nat → Int32) (gh : Nat) (gs : Int32) (bf : Bool) (b1 : Int32) (b2 : Int32) (b3 : Int32) (bu : Int64) (bl : Int64) (se : Nat → Int32) (ht0 : t < 20) : Ci l yX1_addTree wsX1_addTree 2 46 (dC, dI) cl6 (TY cI cJ cZ) false [.ref (h 6)] (Wc h cI cJ cZ n li gr nb sc t ki fe lm si va he up lo pu pl gh gs bf b1 b2 b3 bu bl se) (nI t) (Wc h cI cJ cZ n li gr nb sc (t + 1) (filF ki (t * 15) (nI 0) 15) fe lm si va he up lo pu pl gh gs bf b1 b2 b3 bu bl se) := by
  refine Ci.of (cc := cX1_addTree) (maxL := 2) (ty := .int) (own := RX1) rfl (plainFor_of_name (by decide)) rfl (Nat.le_of_ble_eq_true rfl) ?_
  intro pg ev s0 md ar bw mt cd A X hr hk
  show Wk pg l ev _ s0 md ar bw mt cd 0 0 _ 2 (dC, dI) cl6 A 0 [(0, .ref (h 6))] [] (Wc h cI cJ cZ n li gr nb sc t ki fe lm si va he up lo pu pl gh gs bf b1 b2 b3 bu bl se)
  have inX1 : ∀ w ∈ u_ws RX1 TX1 9, w ∈ wsX1_addTree := by decide +kernel
  have lk9 := X.w (.fieldLink RX1 9 "PairedTrees$Forest" "kinds" "[I") (by decide +kernel)
  have lk37 := X.w (.fieldLink RX1 37 "PairedTrees$Forest" "count" "I") (by decide +kernel)
  refine Wk.aload_n X 0 rfl dX1_addTree_0 rfl ?_
  refine Wk.get X inX1 6 0 lk37 (fun _ h9 => h9) rfl rfl (by decide) rfl dX1_addTree_1 ?_
  refine Wk.istore_n (lv' := [(1, .int (nI t)), (0, .ref (h 6))]) X dX1_addTree_4 rfl (by decide) rfl ?_
  refine Wk.aload_n X 1 rfl dX1_addTree_5 rfl ?_
  refine Wk.get X inX1 6 1 lk9 (fun _ h9 => h9) rfl rfl (by decide) rfl dX1_addTree_6 ?_
  refine Wk.iload_n X 0 rfl dX1_addTree_9 rfl ?_
  refine Wk.bipush (v := nI 15) X dX1_addTree_10 (by decide) ?_
  refine Wk.imulN X dX1_addTree_12 ?_
  refine Wk.iload_n X 0 rfl dX1_addTree_13 rfl ?_
  refine Wk.iconst (v := nI 1) X dX1_addTree_14 (by decide) ?_
  refine Wk.iaddN X dX1_addTree_15 ?_
  refine Wk.bipush (v := nI 15) X dX1_addTree_16 (by decide) ?_
  refine Wk.imulN X dX1_addTree_18 ?_
  refine Wk.iconst (v := nI 0) X dX1_addTree_19 (by decide) ?_
  refine Wk.callSv (n := 4) X (c_J7_fill_fda19 l dC dI cI cJ cZ (fun _ => h 7) 300 ki (t * 15) ((t + 1) * 15) (nI 0) (by first | omega | assumption) (by first | omega | assumption) (by first | omega | assumption)) gX1_addTree_J7_fill_fda19 rfl (by decide +kernel) (by decide) (Fr.mk2 (ws' := Wc h cI cJ cZ n li gr nb sc t (filF ki (t * 15) (nI 0) (((t + 1) * 15) - (t * 15))) fe lm si va he up lo pu pl gh gs bf b1 b2 b3 bu bl se) [7] [0, 1, 2, 3, 4, 5, 6, 8, 9, 10, 11, 12, 13, 14, 15, 16, 17, 18, 19] [0, 1, 2, 3, 4, 5, 6, 19, 7, 8, 9, 10, 11, 12, 13, 14, 15, 16, 17, 18] rfl rfl rfl rfl (by decide) rfl rfl) (fun h9 => h9) rfl rfl (Nat.le_of_ble_eq_true rfl) ⟨Nat.zero_le _, Nat.zero_le _⟩ dX1_addTree_20 ?_
  refine Wk.aload_n X 1 rfl dX1_addTree_23 rfl ?_
  refine Wk.dup X dX1_addTree_24 rfl ?_
  refine Wk.get X inX1 6 0 lk37 (fun _ h9 => h9) rfl rfl (by decide) rfl dX1_addTree_25 ?_
  refine Wk.iconst (v := nI 1) X dX1_addTree_28 (by decide) ?_
  refine Wk.iaddN X dX1_addTree_29 ?_
  refine Wk.put (ws' := Wc h cI cJ cZ n li gr nb sc (t + 1) (filF ki (t * 15) (nI 0) (((t + 1) * 15) - (t * 15))) fe lm si va he up lo pu pl gh gs bf b1 b2 b3 bu bl se) X inX1 tyX1 tyX1_ok nmX1 6 0 lk37 (fun _ h9 => h9) rfl rfl (by decide) rfl (tyX1_ok 0 (by decide)) rfl rfl (Nat.le_of_ble_eq_true rfl) rfl dX1_addTree_30 ?_
  refine Wk.iload_n X 0 rfl dX1_addTree_33 rfl ?_
  exact Wk.iret X hr hk (by first | rfl | omega | (simp [*]; done)) (by rw [show (t + 1) * 15 - t * 15 = 15 by omega]) dX1_addTree_34

set_option maxHeartbeats 4000000 in
set_option maxRecDepth 100000 in
theorem c_X1_commonDivisor (l : Launch) (dC : Nat → ClassId) (dI : Nat → Nat → Nat) (cI cJ cZ : ClassId) (a : Int64) (b : Int64) : Cl l yX1_commonDivisor wsX1_commonDivisor 0 0 (dC, dI) cl6 (TY cI cJ cZ) false [.long a, .long b] ([]) (gcC 100 a b) ([]) := by
  refine Cl.of (cc := cX1_commonDivisor) (maxL := 11) (ty := .long) (own := RX1) rfl (plainFor_of_name (by decide)) rfl (Nat.le_of_ble_eq_true rfl) ?_
  intro pg ev s0 md ar bw mt cd A X hr hk
  show Wk pg l ev _ s0 md ar bw mt cd 0 0 _ 11 (dC, dI) cl6 A 0 [(0, .long a), (2, .long b)] [] ([])
  refine Wk.lload_n X 0 rfl dX1_commonDivisor_0 rfl ?_
  refine Wk.lstore (lv' := [(4, .long a), (0, .long a), (2, .long b)]) X dX1_commonDivisor_1 (by decide) rfl ?_
  refine Wk.lload_n X 2 rfl dX1_commonDivisor_3 rfl ?_
  refine Wk.lstore (lv' := [(6, .long b), (4, .long a), (0, .long a), (2, .long b)]) X dX1_commonDivisor_4 (by decide) rfl ?_
  refine Wk.iconst (v := nI 0) X dX1_commonDivisor_6 (by decide) ?_
  refine Wk.istore (lv' := [(8, .int (nI 0)), (6, .long b), (4, .long a), (0, .long a), (2, .long b)]) X dX1_commonDivisor_7 (by decide) rfl ?_
  have L9 : ∀ (fu9 : Nat) (k : Nat) (x : Int64) (y : Int64) (hq : 101 ≤ k + fu9) (hk0 : k ≤ 100) (hv : gcC (100 - k) x y = gcC 100 a b), Wk pg l ev ({ frames := 0, cells := 0, slots := 0, locals := 0 } : Room) s0 md ar bw mt cd 0 0 (QRl bw ar s0 (dC, dI) cl6 (TY cI cJ cZ) A (gcC 100 a b) ([])) 11 (dC, dI) cl6 A 9 [(4, .long x), (6, .long y), (8, .int (nI k))] [] ([]) := by
    intro fu9
    induction fu9 with
    | zero => intro k x y hq hk0 hv; exact absurd hq (by omega)
    | succ fu9 ih9 =>
      intro k x y hq hk0 hv
      refine Wk.iload X 2 rfl dX1_commonDivisor_9 ?_
      refine Wk.bipush (v := nI 100) X dX1_commonDivisor_11 (by decide) ?_
      refine Wk.icmpN_ge X 44 (by omega) (by omega) dX1_commonDivisor_13 (by decide) (fun c1 => ?_) (fun c1 => ?_)
      · skip
        refine Wk.lload X 0 rfl dX1_commonDivisor_44 ?_
        exact Wk.lret X hr hk (by first | (rw [← hv, show 100 - k = 0 by omega]; rfl) | (rw [← hv, show 100 - k = (100 - (k + 1)) + 1 by omega]; simp [gcC, *])) rfl dX1_commonDivisor_46
      · skip
        refine Wk.lload X 1 rfl dX1_commonDivisor_16 ?_
        refine Wk.lconst (v := 0) X dX1_commonDivisor_18 (by decide) ?_
        refine Wk.lcmp_eq X 44 dX1_commonDivisor_19 dX1_commonDivisor_20 (by decide) (fun c2 => ?_) (fun c2 => ?_)
        · skip
          refine Wk.lload X 0 rfl dX1_commonDivisor_44 ?_
          exact Wk.lret X hr hk (by first | (rw [← hv, show 100 - k = 0 by omega]; rfl) | (rw [← hv, show 100 - k = (100 - (k + 1)) + 1 by omega]; simp [gcC, *])) rfl dX1_commonDivisor_46
        · skip
          refine Wk.lload X 0 rfl dX1_commonDivisor_23 ?_
          refine Wk.lload X 1 rfl dX1_commonDivisor_25 ?_
          refine Wk.lrem X dX1_commonDivisor_27 (by assumption) ?_
          refine Wk.lstore (lv' := [(9, .long (x - x / y * y)), (4, .long x), (6, .long y), (8, .int (nI k))]) X dX1_commonDivisor_28 (by decide) rfl ?_
          refine Wk.lload X 2 rfl dX1_commonDivisor_30 ?_
          refine Wk.lstore (lv' := [(4, .long y), (9, .long (x - x / y * y)), (6, .long y), (8, .int (nI k))]) X dX1_commonDivisor_32 (by decide) rfl ?_
          refine Wk.lload X 1 rfl dX1_commonDivisor_34 ?_
          refine Wk.lstore (lv' := [(6, .long (x - x / y * y)), (4, .long y), (9, .long (x - x / y * y)), (8, .int (nI k))]) X dX1_commonDivisor_36 (by decide) rfl ?_
          refine Wk.iincN (n := 1) (lv' := [(8, .int (nI (k + 1))), (6, .long (x - x / y * y)), (4, .long y), (9, .long (x - x / y * y))]) X 3 rfl dX1_commonDivisor_38 (by decide) rfl ?_
          refine Wk.goto X 9 dX1_commonDivisor_41 (by decide) ?_
          refine Wk.lvs (lv' := [(4, .long y), (6, .long (x - x / y * y)), (8, .int (nI (k + 1)))]) [2, 1, 0] rfl ?_
          exact ih9 (k + 1) y (x - x / y * y) (by omega) (by omega) (by rw [← hv, show 100 - k = (100 - (k + 1)) + 1 by omega]; simp [gcC, *])
  refine Wk.lvs (lv' := [(4, .long a), (6, .long b), (8, .int (nI 0))]) [2, 1, 0] rfl ?_
  exact L9 101 0 a b (by omega) (by omega) (by rfl)

set_option maxHeartbeats 4000000 in
set_option maxRecDepth 100000 in
theorem c_X1_setCut (l : Launch) (dC : Nat → ClassId) (dI : Nat → Nat → Nat) (cI cJ cZ : ClassId) (h : Nat → Nat) (n : Nat) (li : Nat → Int32) (gr : Nat → Int32) (nb : Nat → Int32) (sc : Nat → Int64) (t : Nat) (ki : Nat → Int32) (fe : Nat → Int32) (lm : Nat → Int32) (si : Nat → Int32) (va : Nat → Int32) (he : Nat → Int32) (up : Nat → Int64) (lo : Nat → Int64) (pu : Nat → Int32) (pl : Nat → Int32) (gh : Nat) (gs : Int32) (bf : Bool) (b1 : Int32) (b2 : Int32) (b3 : Int32) (bu : Int64) (bl : Int64) (se : Nat → Int32) (at1 : Nat) (hd : Nat) (ha0 : at1 < 300) : Cv l yX1_setCut wsX1_setCut 1 30 (dC, dI) cl6 (TY cI cJ cZ) false [.ref (h 6), .int (nI at1), .int (nI hd), .ref (h 18)] (Wc h cI cJ cZ n li gr nb sc t ki fe lm si va he up lo pu pl gh gs bf b1 b2 b3 bu bl se) (Wc h cI cJ cZ n li gr nb sc t (upd ki at1 (nI 2)) (upd fe at1 b1) (upd lm at1 b2) (upd si at1 b3) va (upd he at1 (nI hd)) (vp_updL up at1 (redC (gcC 100 bu bl) bu)) (vp_updL lo at1 (redC (gcC 100 bu bl) bl)) pu pl gh gs bf b1 b2 b3 bu bl se) := by
  refine Cv.of (cc := cX1_setCut) (maxL := 6) (own := RX1) rfl (plainFor_of_name (by decide)) rfl (Nat.le_of_ble_eq_true rfl) ?_
  intro pg ev s0 md ar bw mt cd A X hr hk
  show Wk pg l ev _ s0 md ar bw mt cd 0 0 _ 6 (dC, dI) cl6 A 0 [(0, .ref (h 6)), (1, .int (nI at1)), (2, .int (nI hd)), (3, .ref (h 18))] [] (Wc h cI cJ cZ n li gr nb sc t ki fe lm si va he up lo pu pl gh gs bf b1 b2 b3 bu bl se)
  have inX0 : ∀ w ∈ u_ws RX0 TX0 6, w ∈ wsX1_setCut := by decide +kernel
  have inX1 : ∀ w ∈ u_ws RX1 TX1 9, w ∈ wsX1_setCut := by decide +kernel
  have lk9 := X.w (.fieldLink RX1 9 "PairedTrees$Forest" "kinds" "[I") (by decide +kernel)
  have lk15 := X.w (.fieldLink RX1 15 "PairedTrees$Forest" "features" "[I") (by decide +kernel)
  have lk18 := X.w (.fieldLink RX1 18 "PairedTrees$Forest" "limits" "[I") (by decide +kernel)
  have lk21 := X.w (.fieldLink RX1 21 "PairedTrees$Forest" "sides" "[I") (by decide +kernel)
  have lk27 := X.w (.fieldLink RX1 27 "PairedTrees$Forest" "held" "[I") (by decide +kernel)
  have lk30 := X.w (.fieldLink RX1 30 "PairedTrees$Forest" "uppers" "[J") (by decide +kernel)
  have lk34 := X.w (.fieldLink RX1 34 "PairedTrees$Forest" "lowers" "[J") (by decide +kernel)
  have lk51 := X.w (.fieldLink RX1 51 "PairedTrees$BestCut" "feature" "I") (by decide +kernel)
  have lk56 := X.w (.fieldLink RX1 56 "PairedTrees$BestCut" "limit" "I") (by decide +kernel)
  have lk59 := X.w (.fieldLink RX1 59 "PairedTrees$BestCut" "side" "I") (by decide +kernel)
  have lk62 := X.w (.fieldLink RX1 62 "PairedTrees$BestCut" "upper" "J") (by decide +kernel)
  have lk66 := X.w (.fieldLink RX1 66 "PairedTrees$BestCut" "lower" "J") (by decide +kernel)
  refine Wk.aload_n X 0 rfl dX1_setCut_0 rfl ?_
  refine Wk.get X inX1 6 1 lk9 (fun _ h9 => h9) rfl rfl (by decide) rfl dX1_setCut_1 ?_
  refine Wk.iload_n X 1 rfl dX1_setCut_4 rfl ?_
  refine Wk.iconst (v := nI 2) X dX1_setCut_5 (by decide) ?_
  refine Wk.iast (ws' := Wc h cI cJ cZ n li gr nb sc t (upd ki at1 (nI 2)) fe lm si va he up lo pu pl gh gs bf b1 b2 b3 bu bl se) X 7 0 rfl rfl (by omega) (by decide) rfl dX1_setCut_6 ?_
  refine Wk.aload_n X 0 rfl dX1_setCut_7 rfl ?_
  refine Wk.get X inX1 6 6 lk27 (fun _ h9 => h9) rfl rfl (by decide) rfl dX1_setCut_8 ?_
  refine Wk.iload_n X 1 rfl dX1_setCut_11 rfl ?_
  refine Wk.iload_n X 2 rfl dX1_setCut_12 rfl ?_
  refine Wk.iast (ws' := Wc h cI cJ cZ n li gr nb sc t (upd ki at1 (nI 2)) fe lm si va (upd he at1 (nI hd)) up lo pu pl gh gs bf b1 b2 b3 bu bl se) X 12 0 rfl rfl (by omega) (by decide) rfl dX1_setCut_13 ?_
  refine Wk.aload_n X 0 rfl dX1_setCut_14 rfl ?_
  refine Wk.get X inX1 6 2 lk15 (fun _ h9 => h9) rfl rfl (by decide) rfl dX1_setCut_15 ?_
  refine Wk.iload_n X 1 rfl dX1_setCut_18 rfl ?_
  refine Wk.aload_n X 3 rfl dX1_setCut_19 rfl ?_
  refine Wk.get X inX0 18 1 lk51 (fun _ h9 => h9) rfl rfl (by decide) rfl dX1_setCut_20 ?_
  refine Wk.iast (ws' := Wc h cI cJ cZ n li gr nb sc t (upd ki at1 (nI 2)) (upd fe at1 b1) lm si va (upd he at1 (nI hd)) up lo pu pl gh gs bf b1 b2 b3 bu bl se) X 8 0 rfl rfl (by omega) (by decide) rfl dX1_setCut_23 ?_
  refine Wk.aload_n X 0 rfl dX1_setCut_24 rfl ?_
  refine Wk.get X inX1 6 3 lk18 (fun _ h9 => h9) rfl rfl (by decide) rfl dX1_setCut_25 ?_
  refine Wk.iload_n X 1 rfl dX1_setCut_28 rfl ?_
  refine Wk.aload_n X 3 rfl dX1_setCut_29 rfl ?_
  refine Wk.get X inX0 18 2 lk56 (fun _ h9 => h9) rfl rfl (by decide) rfl dX1_setCut_30 ?_
  refine Wk.iast (ws' := Wc h cI cJ cZ n li gr nb sc t (upd ki at1 (nI 2)) (upd fe at1 b1) (upd lm at1 b2) si va (upd he at1 (nI hd)) up lo pu pl gh gs bf b1 b2 b3 bu bl se) X 9 0 rfl rfl (by omega) (by decide) rfl dX1_setCut_33 ?_
  refine Wk.aload_n X 0 rfl dX1_setCut_34 rfl ?_
  refine Wk.get X inX1 6 4 lk21 (fun _ h9 => h9) rfl rfl (by decide) rfl dX1_setCut_35 ?_
  refine Wk.iload_n X 1 rfl dX1_setCut_38 rfl ?_
  refine Wk.aload_n X 3 rfl dX1_setCut_39 rfl ?_
  refine Wk.get X inX0 18 3 lk59 (fun _ h9 => h9) rfl rfl (by decide) rfl dX1_setCut_40 ?_
  refine Wk.iast (ws' := Wc h cI cJ cZ n li gr nb sc t (upd ki at1 (nI 2)) (upd fe at1 b1) (upd lm at1 b2) (upd si at1 b3) va (upd he at1 (nI hd)) up lo pu pl gh gs bf b1 b2 b3 bu bl se) X 10 0 rfl rfl (by omega) (by decide) rfl dX1_setCut_43 ?_
  refine Wk.aload_n X 3 rfl dX1_setCut_44 rfl ?_
  refine Wk.get X inX0 18 4 lk62 (fun _ h9 => h9) rfl rfl (by decide) rfl dX1_setCut_45 ?_
  refine Wk.aload_n X 3 rfl dX1_setCut_48 rfl ?_
  refine Wk.get X inX0 18 5 lk66 (fun _ h9 => h9) rfl rfl (by decide) rfl dX1_setCut_49 ?_
  refine Wk.callSl (n := 2) X (c_X1_commonDivisor l dC dI cI cJ cZ bu bl) gX1_setCut_X1_commonDivisor rfl (by decide +kernel) (by decide) Fr.nil (fun h9 => h9) rfl rfl (Nat.le_of_ble_eq_true rfl) ⟨Nat.zero_le _, Nat.zero_le _⟩ dX1_setCut_52 ?_
  refine Wk.lstore (lv' := [(4, .long (gcC 100 bu bl)), (0, .ref (h 6)), (1, .int (nI at1)), (2, .int (nI hd)), (3, .ref (h 18))]) X dX1_setCut_55 (by decide) rfl ?_
  refine Wk.aload_n X 1 rfl dX1_setCut_57 rfl ?_
  refine Wk.get X inX1 6 7 lk30 (fun _ h9 => h9) rfl rfl (by decide) rfl dX1_setCut_58 ?_
  refine Wk.iload_n X 2 rfl dX1_setCut_61 rfl ?_
  have J83 : Wk pg l ev ({ frames := 1, cells := 0, slots := 0, locals := 30 } : Room) s0 md ar bw mt cd 0 0 (QRv bw ar s0 (dC, dI) cl6 (TY cI cJ cZ) A (Wc h cI cJ cZ n li gr nb sc t (upd ki at1 (nI 2)) (upd fe at1 b1) (upd lm at1 b2) (upd si at1 b3) va (upd he at1 (nI hd)) (vp_updL up at1 (redC (gcC 100 bu bl) bu)) (vp_updL lo at1 (redC (gcC 100 bu bl) bl)) pu pl gh gs bf b1 b2 b3 bu bl se)) 6 (dC, dI) cl6 A 83 [(4, .long (gcC 100 bu bl)), (0, .ref (h 6)), (1, .int (nI at1)), (2, .int (nI hd)), (3, .ref (h 18))] [.long (redC (gcC 100 bu bl) bu), .int (nI at1), .ref (h 13)] (Wc h cI cJ cZ n li gr nb sc t (upd ki at1 (nI 2)) (upd fe at1 b1) (upd lm at1 b2) (upd si at1 b3) va (upd he at1 (nI hd)) up lo pu pl gh gs bf b1 b2 b3 bu bl se) := by
    refine Wk.last (ws' := Wc h cI cJ cZ n li gr nb sc t (upd ki at1 (nI 2)) (upd fe at1 b1) (upd lm at1 b2) (upd si at1 b3) va (upd he at1 (nI hd)) (vp_updL up at1 (redC (gcC 100 bu bl) bu)) lo pu pl gh gs bf b1 b2 b3 bu bl se) X 13 1 rfl rfl (by omega) (by decide) rfl dX1_setCut_83 ?_
    refine Wk.aload_n X 1 rfl dX1_setCut_84 rfl ?_
    refine Wk.get X inX1 6 8 lk34 (fun _ h9 => h9) rfl rfl (by decide) rfl dX1_setCut_85 ?_
    refine Wk.iload_n X 2 rfl dX1_setCut_88 rfl ?_
    have J110 : Wk pg l ev ({ frames := 1, cells := 0, slots := 0, locals := 30 } : Room) s0 md ar bw mt cd 0 0 (QRv bw ar s0 (dC, dI) cl6 (TY cI cJ cZ) A (Wc h cI cJ cZ n li gr nb sc t (upd ki at1 (nI 2)) (upd fe at1 b1) (upd lm at1 b2) (upd si at1 b3) va (upd he at1 (nI hd)) (vp_updL up at1 (redC (gcC 100 bu bl) bu)) (vp_updL lo at1 (redC (gcC 100 bu bl) bl)) pu pl gh gs bf b1 b2 b3 bu bl se)) 6 (dC, dI) cl6 A 110 [(4, .long (gcC 100 bu bl)), (0, .ref (h 6)), (1, .int (nI at1)), (2, .int (nI hd)), (3, .ref (h 18))] [.long (redC (gcC 100 bu bl) bl), .int (nI at1), .ref (h 14)] (Wc h cI cJ cZ n li gr nb sc t (upd ki at1 (nI 2)) (upd fe at1 b1) (upd lm at1 b2) (upd si at1 b3) va (upd he at1 (nI hd)) (vp_updL up at1 (redC (gcC 100 bu bl) bu)) lo pu pl gh gs bf b1 b2 b3 bu bl se) := by
      refine Wk.last (ws' := Wc h cI cJ cZ n li gr nb sc t (upd ki at1 (nI 2)) (upd fe at1 b1) (upd lm at1 b2) (upd si at1 b3) va (upd he at1 (nI hd)) (vp_updL up at1 (redC (gcC 100 bu bl) bu)) (vp_updL lo at1 (redC (gcC 100 bu bl) bl)) pu pl gh gs bf b1 b2 b3 bu bl se) X 14 1 rfl rfl (by omega) (by decide) rfl dX1_setCut_110 ?_
      exact Wk.vret X hr hk rfl dX1_setCut_111
    refine Wk.lload X 0 rfl dX1_setCut_89 ?_
    refine Wk.lconst (v := 1) X dX1_setCut_91 (by decide) ?_
    refine Wk.lcmp_le X 106 dX1_setCut_92 dX1_setCut_93 (by decide) (fun c1 => ?_) (fun c1 => ?_)
    · skip
      refine Wk.aload_n X 4 rfl dX1_setCut_106 rfl ?_
      refine Wk.get X inX0 18 5 lk66 (fun _ h9 => h9) rfl rfl (by decide) rfl dX1_setCut_107 ?_
      refine Wk.topl (y := redC (gcC 100 bu bl) bl) (by simp [redC, *]) ?_
      exact J110
    · skip
      refine Wk.aload_n X 4 rfl dX1_setCut_96 rfl ?_
      refine Wk.get X inX0 18 5 lk66 (fun _ h9 => h9) rfl rfl (by decide) rfl dX1_setCut_97 ?_
      refine Wk.lload X 0 rfl dX1_setCut_100 ?_
      refine Wk.ldiv X dX1_setCut_102 (fun h9 => by rw [h9] at c1; exact c1 (by decide)) ?_
      refine Wk.goto X 110 dX1_setCut_103 (by decide) ?_
      refine Wk.topl (y := redC (gcC 100 bu bl) bl) (by simp [redC, *]) ?_
      exact J110
  refine Wk.lload X 0 rfl dX1_setCut_62 ?_
  refine Wk.lconst (v := 1) X dX1_setCut_64 (by decide) ?_
  refine Wk.lcmp_le X 79 dX1_setCut_65 dX1_setCut_66 (by decide) (fun c2 => ?_) (fun c2 => ?_)
  · skip
    refine Wk.aload_n X 4 rfl dX1_setCut_79 rfl ?_
    refine Wk.get X inX0 18 4 lk62 (fun _ h9 => h9) rfl rfl (by decide) rfl dX1_setCut_80 ?_
    refine Wk.topl (y := redC (gcC 100 bu bl) bu) (by simp [redC, *]) ?_
    exact J83
  · skip
    refine Wk.aload_n X 4 rfl dX1_setCut_69 rfl ?_
    refine Wk.get X inX0 18 4 lk62 (fun _ h9 => h9) rfl rfl (by decide) rfl dX1_setCut_70 ?_
    refine Wk.lload X 0 rfl dX1_setCut_73 ?_
    refine Wk.ldiv X dX1_setCut_75 (fun h9 => by rw [h9] at c2; exact c2 (by decide)) ?_
    refine Wk.goto X 83 dX1_setCut_76 (by decide) ?_
    refine Wk.topl (y := redC (gcC 100 bu bl) bu) (by simp [redC, *]) ?_
    exact J83

set_option maxHeartbeats 4000000 in
set_option maxRecDepth 100000 in
theorem c_X1_setLeaf (l : Launch) (dC : Nat → ClassId) (dI : Nat → Nat → Nat) (cI cJ cZ : ClassId) (h : Nat → Nat) (n : Nat) (li : Nat → Int32) (gr : Nat → Int32) (nb : Nat → Int32) (sc : Nat → Int64) (t : Nat) (ki : Nat → Int32) (fe : Nat → Int32) (lm : Nat → Int32) (si : Nat → Int32) (va : Nat → Int32) (he : Nat → Int32) (up : Nat → Int64) (lo : Nat → Int64) (pu : Nat → Int32) (pl : Nat → Int32) (gh : Nat) (gs : Int32) (bf : Bool) (b1 : Int32) (b2 : Int32) (b3 : Int32) (bu : Int64) (bl : Int64) (se : Nat → Int32) (at1 : Nat) (hd : Nat) (v : Int32) (ha0 : at1 < 300) : Cv l yX1_setLeaf wsX1_setLeaf 0 0 (dC, dI) cl6 (TY cI cJ cZ) false [.ref (h 6), .int (nI at1), .int (nI hd), .int v] (Wc h cI cJ cZ n li gr nb sc t ki fe lm si va he up lo pu pl gh gs bf b1 b2 b3 bu bl se) (Wc h cI cJ cZ n li gr nb sc t (upd ki at1 (nI 1)) fe lm si (upd va at1 v) (upd he at1 (nI hd)) up lo pu pl gh gs bf b1 b2 b3 bu bl se) := by
  refine Cv.of (cc := cX1_setLeaf) (maxL := 4) (own := RX1) rfl (plainFor_of_name (by decide)) rfl (Nat.le_of_ble_eq_true rfl) ?_
  intro pg ev s0 md ar bw mt cd A X hr hk
  show Wk pg l ev _ s0 md ar bw mt cd 0 0 _ 4 (dC, dI) cl6 A 0 [(0, .ref (h 6)), (1, .int (nI at1)), (2, .int (nI hd)), (3, .int v)] [] (Wc h cI cJ cZ n li gr nb sc t ki fe lm si va he up lo pu pl gh gs bf b1 b2 b3 bu bl se)
  have inX1 : ∀ w ∈ u_ws RX1 TX1 9, w ∈ wsX1_setLeaf := by decide +kernel
  have lk9 := X.w (.fieldLink RX1 9 "PairedTrees$Forest" "kinds" "[I") (by decide +kernel)
  have lk24 := X.w (.fieldLink RX1 24 "PairedTrees$Forest" "values" "[I") (by decide +kernel)
  have lk27 := X.w (.fieldLink RX1 27 "PairedTrees$Forest" "held" "[I") (by decide +kernel)
  refine Wk.aload_n X 0 rfl dX1_setLeaf_0 rfl ?_
  refine Wk.get X inX1 6 1 lk9 (fun _ h9 => h9) rfl rfl (by decide) rfl dX1_setLeaf_1 ?_
  refine Wk.iload_n X 1 rfl dX1_setLeaf_4 rfl ?_
  refine Wk.iconst (v := nI 1) X dX1_setLeaf_5 (by decide) ?_
  refine Wk.iast (ws' := Wc h cI cJ cZ n li gr nb sc t (upd ki at1 (nI 1)) fe lm si va he up lo pu pl gh gs bf b1 b2 b3 bu bl se) X 7 0 rfl rfl (by omega) (by decide) rfl dX1_setLeaf_6 ?_
  refine Wk.aload_n X 0 rfl dX1_setLeaf_7 rfl ?_
  refine Wk.get X inX1 6 6 lk27 (fun _ h9 => h9) rfl rfl (by decide) rfl dX1_setLeaf_8 ?_
  refine Wk.iload_n X 1 rfl dX1_setLeaf_11 rfl ?_
  refine Wk.iload_n X 2 rfl dX1_setLeaf_12 rfl ?_
  refine Wk.iast (ws' := Wc h cI cJ cZ n li gr nb sc t (upd ki at1 (nI 1)) fe lm si va (upd he at1 (nI hd)) up lo pu pl gh gs bf b1 b2 b3 bu bl se) X 12 0 rfl rfl (by omega) (by decide) rfl dX1_setLeaf_13 ?_
  refine Wk.aload_n X 0 rfl dX1_setLeaf_14 rfl ?_
  refine Wk.get X inX1 6 5 lk24 (fun _ h9 => h9) rfl rfl (by decide) rfl dX1_setLeaf_15 ?_
  refine Wk.iload_n X 1 rfl dX1_setLeaf_18 rfl ?_
  refine Wk.iload_n X 3 rfl dX1_setLeaf_19 rfl ?_
  refine Wk.iast (ws' := Wc h cI cJ cZ n li gr nb sc t (upd ki at1 (nI 1)) fe lm si (upd va at1 v) (upd he at1 (nI hd)) up lo pu pl gh gs bf b1 b2 b3 bu bl se) X 11 0 rfl rfl (by omega) (by decide) rfl dX1_setLeaf_20 ?_
  exact Wk.vret X hr hk rfl dX1_setLeaf_21

set_option maxHeartbeats 4000000 in
set_option maxRecDepth 100000 in
theorem c_X1_valueFor (l : Launch) (dC : Nat → ClassId) (dI : Nat → Nat → Nat) (cI cJ cZ : ClassId) (h : Nat → Nat) (n : Nat) (li : Nat → Int32) (gr : Nat → Int32) (nb : Nat → Int32) (sc : Nat → Int64) (t : Nat) (ki : Nat → Int32) (fe : Nat → Int32) (lm : Nat → Int32) (si : Nat → Int32) (va : Nat → Int32) (he : Nat → Int32) (up : Nat → Int64) (lo : Nat → Int64) (pu : Nat → Int32) (pl : Nat → Int32) (gh : Nat) (gs : Int32) (bf : Bool) (b1 : Int32) (b2 : Int32) (b3 : Int32) (bu : Int64) (bl : Int64) (se : Nat → Int32) (tr : Nat) (r : Nat) (ht0 : tr < 20) (hr0 : r < 25) (hfe : ∀ k, k < 15 → ki (tr * 15 + k) = nI 2 → ∃ f, f < 4 ∧ fe (tr * 15 + k) = nI f) : Ci l yX1_valueFor wsX1_valueFor 2 47 (dC, dI) cl6 (TY cI cJ cZ) false [.ref (h 6), .int (nI tr), .ref (h 1), .int (nI r)] (Wc h cI cJ cZ n li gr nb sc t ki fe lm si va he up lo pu pl gh gs bf b1 b2 b3 bu bl se) (va (tr * 15 + vfC ki (gC fe lm si nb r) (tr * 15) 3 0)) (Wc h cI cJ cZ n li gr nb sc t ki fe lm si va he up lo pu pl gh gs bf b1 b2 b3 bu bl se) := by
  refine Ci.of (cc := cX1_valueFor) (maxL := 9) (ty := .int) (own := RX1) rfl (plainFor_of_name (by decide)) rfl (Nat.le_of_ble_eq_true rfl) ?_
  intro pg ev s0 md ar bw mt cd A X hr hk
  show Wk pg l ev _ s0 md ar bw mt cd 0 0 _ 9 (dC, dI) cl6 A 0 [(0, .ref (h 6)), (1, .int (nI tr)), (2, .ref (h 1)), (3, .int (nI r))] [] (Wc h cI cJ cZ n li gr nb sc t ki fe lm si va he up lo pu pl gh gs bf b1 b2 b3 bu bl se)
  have inX1 : ∀ w ∈ u_ws RX1 TX1 9, w ∈ wsX1_valueFor := by decide +kernel
  have lk9 := X.w (.fieldLink RX1 9 "PairedTrees$Forest" "kinds" "[I") (by decide +kernel)
  have lk15 := X.w (.fieldLink RX1 15 "PairedTrees$Forest" "features" "[I") (by decide +kernel)
  have lk18 := X.w (.fieldLink RX1 18 "PairedTrees$Forest" "limits" "[I") (by decide +kernel)
  have lk21 := X.w (.fieldLink RX1 21 "PairedTrees$Forest" "sides" "[I") (by decide +kernel)
  have lk24 := X.w (.fieldLink RX1 24 "PairedTrees$Forest" "values" "[I") (by decide +kernel)
  refine Wk.iload_n X 1 rfl dX1_valueFor_0 rfl ?_
  refine Wk.bipush (v := nI 15) X dX1_valueFor_1 (by decide) ?_
  refine Wk.imulN X dX1_valueFor_3 ?_
  refine Wk.istore (lv' := [(4, .int (nI (tr * 15))), (0, .ref (h 6)), (1, .int (nI tr)), (2, .ref (h 1)), (3, .int (nI r))]) X dX1_valueFor_4 (by decide) rfl ?_
  refine Wk.iconst (v := nI 0) X dX1_valueFor_6 (by decide) ?_
  refine Wk.istore (lv' := [(5, .int (nI 0)), (4, .int (nI (tr * 15))), (0, .ref (h 6)), (1, .int (nI tr)), (2, .ref (h 1)), (3, .int (nI r))]) X dX1_valueFor_7 (by decide) rfl ?_
  refine Wk.iconst (v := nI 0) X dX1_valueFor_9 (by decide) ?_
  refine Wk.istore (lv' := [(6, .int (nI 0)), (5, .int (nI 0)), (4, .int (nI (tr * 15))), (0, .ref (h 6)), (1, .int (nI tr)), (2, .ref (h 1)), (3, .int (nI r))]) X dX1_valueFor_10 (by decide) rfl ?_
  have L12 : ∀ (fu12 : Nat) (dp : Nat) (k : Nat) (hq : 4 ≤ dp + fu12) (hd : dp ≤ 3 ∧ (dp = 0 → k = 0) ∧ (dp = 1 → k ≤ 2) ∧ (dp = 2 → k ≤ 6) ∧ (dp = 3 → k ≤ 14)) (hv : vfC ki (gC fe lm si nb r) (tr * 15) (3 - dp) k = vfC ki (gC fe lm si nb r) (tr * 15) 3 0), Wk pg l ev ({ frames := 2, cells := 0, slots := 0, locals := 47 } : Room) s0 md ar bw mt cd 0 0 (QRi bw ar s0 (dC, dI) cl6 (TY cI cJ cZ) A (va (tr * 15 + vfC ki (gC fe lm si nb r) (tr * 15) 3 0)) (Wc h cI cJ cZ n li gr nb sc t ki fe lm si va he up lo pu pl gh gs bf b1 b2 b3 bu bl se)) 9 (dC, dI) cl6 A 12 [(0, .ref (h 6)), (1, .int (nI tr)), (2, .ref (h 1)), (3, .int (nI r)), (4, .int (nI (tr * 15))), (5, .int (nI k)), (6, .int (nI dp))] [] (Wc h cI cJ cZ n li gr nb sc t ki fe lm si va he up lo pu pl gh gs bf b1 b2 b3 bu bl se) := by
    intro fu12
    induction fu12 with
    | zero => intro dp k hq hd hv; exact absurd hq (by omega)
    | succ fu12 ih12 =>
      intro dp k hq hd hv
      refine Wk.iload X 6 rfl dX1_valueFor_12 ?_
      refine Wk.iconst (v := nI 3) X dX1_valueFor_14 (by decide) ?_
      refine Wk.icmpN_ge X 95 (by omega) (by omega) dX1_valueFor_15 (by decide) (fun c1 => ?_) (fun c1 => ?_)
      · skip
        refine Wk.aload_n X 0 rfl dX1_valueFor_95 rfl ?_
        refine Wk.get X inX1 6 5 lk24 (fun _ h9 => h9) rfl rfl (by decide) rfl dX1_valueFor_96 ?_
        refine Wk.iload X 4 rfl dX1_valueFor_99 ?_
        refine Wk.iload X 5 rfl dX1_valueFor_101 ?_
        refine Wk.iaddN X dX1_valueFor_103 ?_
        refine Wk.iald X 11 0 rfl rfl (by omega) (by decide) dX1_valueFor_104 ?_
        exact Wk.iret X hr hk (by first | (rw [← hv, show 3 - dp = 0 by omega]; rfl) | (rw [← hv, show 3 - dp = (3 - (dp + 1)) + 1 by omega]; simp [vfC, *])) rfl dX1_valueFor_105
      · skip
        refine Wk.aload_n X 0 rfl dX1_valueFor_18 rfl ?_
        refine Wk.get X inX1 6 1 lk9 (fun _ h9 => h9) rfl rfl (by decide) rfl dX1_valueFor_19 ?_
        refine Wk.iload X 4 rfl dX1_valueFor_22 ?_
        refine Wk.iload X 5 rfl dX1_valueFor_24 ?_
        refine Wk.iaddN X dX1_valueFor_26 ?_
        refine Wk.iald X 7 0 rfl rfl (by omega) (by decide) dX1_valueFor_27 ?_
        refine Wk.iconst (v := nI 2) X dX1_valueFor_28 (by decide) ?_
        refine Wk.icmp_ne X 95 dX1_valueFor_29 (by decide) (fun c2 => ?_) (fun c2 => ?_)
        · skip
          refine Wk.aload_n X 0 rfl dX1_valueFor_95 rfl ?_
          refine Wk.get X inX1 6 5 lk24 (fun _ h9 => h9) rfl rfl (by decide) rfl dX1_valueFor_96 ?_
          refine Wk.iload X 4 rfl dX1_valueFor_99 ?_
          refine Wk.iload X 5 rfl dX1_valueFor_101 ?_
          refine Wk.iaddN X dX1_valueFor_103 ?_
          refine Wk.iald X 11 0 rfl rfl (by omega) (by decide) dX1_valueFor_104 ?_
          exact Wk.iret X hr hk (by first | (rw [← hv, show 3 - dp = 0 by omega]; rfl) | (rw [← hv, show 3 - dp = (3 - (dp + 1)) + 1 by omega]; simp [vfC, *])) rfl dX1_valueFor_105
        · skip
          refine Wk.iload X 4 rfl dX1_valueFor_32 ?_
          refine Wk.iload X 5 rfl dX1_valueFor_34 ?_
          refine Wk.iaddN X dX1_valueFor_36 ?_
          refine Wk.istore (lv' := [(7, .int (nI (tr * 15 + k))), (0, .ref (h 6)), (1, .int (nI tr)), (2, .ref (h 1)), (3, .int (nI r)), (4, .int (nI (tr * 15))), (5, .int (nI k)), (6, .int (nI dp))]) X dX1_valueFor_37 (by decide) rfl ?_
          refine Wk.aload_n X 3 rfl dX1_valueFor_39 rfl ?_
          refine Wk.iload_n X 4 rfl dX1_valueFor_40 rfl ?_
          refine Wk.aload_n X 1 rfl dX1_valueFor_41 rfl ?_
          refine Wk.get X inX1 6 2 lk15 (fun _ h9 => h9) rfl rfl (by decide) rfl dX1_valueFor_42 ?_
          refine Wk.iload X 0 rfl dX1_valueFor_45 ?_
          refine Wk.iald X 8 0 rfl rfl (by omega) (by decide) dX1_valueFor_47 ?_
          obtain ⟨f1, hf1, ef1⟩ := hfe k (by omega) c2
          refine Wk.topi ef1 ?_
          refine Wk.aload_n X 1 rfl dX1_valueFor_48 rfl ?_
          refine Wk.get X inX1 6 3 lk18 (fun _ h9 => h9) rfl rfl (by decide) rfl dX1_valueFor_49 ?_
          refine Wk.iload X 0 rfl dX1_valueFor_52 ?_
          refine Wk.iald X 9 0 rfl rfl (by omega) (by decide) dX1_valueFor_54 ?_
          refine Wk.aload_n X 1 rfl dX1_valueFor_55 rfl ?_
          refine Wk.get X inX1 6 4 lk21 (fun _ h9 => h9) rfl rfl (by decide) rfl dX1_valueFor_56 ?_
          refine Wk.iload X 0 rfl dX1_valueFor_59 ?_
          refine Wk.iald X 10 0 rfl rfl (by omega) (by decide) dX1_valueFor_61 ?_
          refine Wk.callVi (n := 4) (q0 := 1) X (c_X3_goesLeft l dC dI cI cJ cZ h n li gr nb sc t ki fe lm si va he up lo pu pl gh gs bf b1 b2 b3 bu bl se r f1 (lm (tr * 15 + k)) (si (tr * 15 + k)) (by first | omega | assumption) (by first | omega | assumption)) gX1_valueFor_X3_goesLeft rfl (by decide +kernel) (by decide) Fr.all (fun h9 => h9) rfl rfl rfl rfl (Nat.le_of_ble_eq_true rfl) ⟨Nat.zero_le _, Nat.zero_le _⟩ dX1_valueFor_62 ?_
          refine Wk.istore (lv' := [(8, .int (bI (glC nb r f1 (lm (tr * 15 + k)) (si (tr * 15 + k))))), (7, .int (nI (tr * 15 + k))), (0, .ref (h 6)), (1, .int (nI tr)), (2, .ref (h 1)), (3, .int (nI r)), (4, .int (nI (tr * 15))), (5, .int (nI k)), (6, .int (nI dp))]) X dX1_valueFor_65 (by decide) rfl ?_
          refine Wk.iload X 0 rfl dX1_valueFor_67 ?_
          refine Wk.ifB_eq X 81 dX1_valueFor_69 (by decide) (fun c3 => ?_) (fun c3 => ?_)
          · skip
            refine Wk.iconst (v := nI 2) X dX1_valueFor_81 (by decide) ?_
            refine Wk.iload X 7 rfl dX1_valueFor_82 ?_
            refine Wk.imulN X dX1_valueFor_84 ?_
            refine Wk.iconst (v := nI 2) X dX1_valueFor_85 (by decide) ?_
            refine Wk.iaddN X dX1_valueFor_86 ?_
            refine Wk.istore (lv' := [(5, .int (nI (2 * k + 2))), (8, .int (bI (glC nb r f1 (lm (tr * 15 + k)) (si (tr * 15 + k))))), (7, .int (nI (tr * 15 + k))), (0, .ref (h 6)), (1, .int (nI tr)), (2, .ref (h 1)), (3, .int (nI r)), (4, .int (nI (tr * 15))), (6, .int (nI dp))]) X dX1_valueFor_87 (by decide) rfl ?_
            refine Wk.iincN (n := 1) (lv' := [(6, .int (nI (dp + 1))), (5, .int (nI (2 * k + 2))), (8, .int (bI (glC nb r f1 (lm (tr * 15 + k)) (si (tr * 15 + k))))), (7, .int (nI (tr * 15 + k))), (0, .ref (h 6)), (1, .int (nI tr)), (2, .ref (h 1)), (3, .int (nI r)), (4, .int (nI (tr * 15)))]) X 8 rfl dX1_valueFor_89 (by decide) rfl ?_
            refine Wk.goto X 12 dX1_valueFor_92 (by decide) ?_
            refine Wk.lvs (lv' := [(0, .ref (h 6)), (1, .int (nI tr)), (2, .ref (h 1)), (3, .int (nI r)), (4, .int (nI (tr * 15))), (5, .int (nI (2 * k + 2))), (6, .int (nI (dp + 1)))]) [4, 5, 6, 7, 8, 1, 0] rfl ?_
            exact ih12 (dp + 1) (2 * k + 2) (by omega) (by omega) (by rw [← hv, show 3 - dp = (3 - (dp + 1)) + 1 by omega]; simp [vfC, gC, nI_clamp (show f1 < 2 ^ 31 by omega), *])
          · skip
            refine Wk.iconst (v := nI 2) X dX1_valueFor_72 (by decide) ?_
            refine Wk.iload X 7 rfl dX1_valueFor_73 ?_
            refine Wk.imulN X dX1_valueFor_75 ?_
            refine Wk.iconst (v := nI 1) X dX1_valueFor_76 (by decide) ?_
            refine Wk.iaddN X dX1_valueFor_77 ?_
            refine Wk.goto X 87 dX1_valueFor_78 (by decide) ?_
            refine Wk.istore (lv' := [(5, .int (nI (2 * k + 1))), (8, .int (bI (glC nb r f1 (lm (tr * 15 + k)) (si (tr * 15 + k))))), (7, .int (nI (tr * 15 + k))), (0, .ref (h 6)), (1, .int (nI tr)), (2, .ref (h 1)), (3, .int (nI r)), (4, .int (nI (tr * 15))), (6, .int (nI dp))]) X dX1_valueFor_87 (by decide) rfl ?_
            refine Wk.iincN (n := 1) (lv' := [(6, .int (nI (dp + 1))), (5, .int (nI (2 * k + 1))), (8, .int (bI (glC nb r f1 (lm (tr * 15 + k)) (si (tr * 15 + k))))), (7, .int (nI (tr * 15 + k))), (0, .ref (h 6)), (1, .int (nI tr)), (2, .ref (h 1)), (3, .int (nI r)), (4, .int (nI (tr * 15)))]) X 8 rfl dX1_valueFor_89 (by decide) rfl ?_
            refine Wk.goto X 12 dX1_valueFor_92 (by decide) ?_
            refine Wk.lvs (lv' := [(0, .ref (h 6)), (1, .int (nI tr)), (2, .ref (h 1)), (3, .int (nI r)), (4, .int (nI (tr * 15))), (5, .int (nI (2 * k + 1))), (6, .int (nI (dp + 1)))]) [4, 5, 6, 7, 8, 1, 0] rfl ?_
            exact ih12 (dp + 1) (2 * k + 1) (by omega) (by omega) (by rw [← hv, show 3 - dp = (3 - (dp + 1)) + 1 by omega]; simp [vfC, gC, nI_clamp (show f1 < 2 ^ 31 by omega), *])
  refine Wk.lvs (lv' := [(0, .ref (h 6)), (1, .int (nI tr)), (2, .ref (h 1)), (3, .int (nI r)), (4, .int (nI (tr * 15))), (5, .int (nI 0)), (6, .int (nI 0))]) [3, 4, 5, 6, 2, 1, 0] rfl ?_
  exact L12 4 0 0 (by omega) (by omega) (by rfl)

set_option maxHeartbeats 4000000 in
set_option maxRecDepth 100000 in
theorem c_X1_sumFor (l : Launch) (dC : Nat → ClassId) (dI : Nat → Nat → Nat) (cI cJ cZ : ClassId) (h : Nat → Nat) (n : Nat) (li : Nat → Int32) (gr : Nat → Int32) (nb : Nat → Int32) (sc : Nat → Int64) (t : Nat) (ki : Nat → Int32) (fe : Nat → Int32) (lm : Nat → Int32) (si : Nat → Int32) (va : Nat → Int32) (he : Nat → Int32) (up : Nat → Int64) (lo : Nat → Int64) (pu : Nat → Int32) (pl : Nat → Int32) (gh : Nat) (gs : Int32) (bf : Bool) (b1 : Int32) (b2 : Int32) (b3 : Int32) (bu : Int64) (bl : Int64) (se : Nat → Int32) (r : Nat) (ht0 : t ≤ 20) (hr0 : r < 25) (hfe : ∀ j, j < t * 15 → ki j = nI 2 → ∃ f, f < 4 ∧ fe j = nI f) : Cl l yX1_sumFor wsX1_sumFor 3 75 (dC, dI) cl6 (TY cI cJ cZ) false [.ref (h 6), .ref (h 1), .int (nI r)] (Wc h cI cJ cZ n li gr nb sc t ki fe lm si va he up lo pu pl gh gs bf b1 b2 b3 bu bl se) (scoreC ki fe lm si va nb t r) (Wc h cI cJ cZ n li gr nb sc t ki fe lm si va he up lo pu pl gh gs bf b1 b2 b3 bu bl se) := by
  refine Cl.of (cc := cX1_sumFor) (maxL := 6) (ty := .long) (own := RX1) rfl (plainFor_of_name (by decide)) rfl (Nat.le_of_ble_eq_true rfl) ?_
  intro pg ev s0 md ar bw mt cd A X hr hk
  show Wk pg l ev _ s0 md ar bw mt cd 0 0 _ 6 (dC, dI) cl6 A 0 [(0, .ref (h 6)), (1, .ref (h 1)), (2, .int (nI r))] [] (Wc h cI cJ cZ n li gr nb sc t ki fe lm si va he up lo pu pl gh gs bf b1 b2 b3 bu bl se)
  have inX1 : ∀ w ∈ u_ws RX1 TX1 9, w ∈ wsX1_sumFor := by decide +kernel
  have lk37 := X.w (.fieldLink RX1 37 "PairedTrees$Forest" "count" "I") (by decide +kernel)
  refine Wk.lconst (v := 0) X dX1_sumFor_0 (by decide) ?_
  refine Wk.lstore_n (lv' := [(3, .long 0), (0, .ref (h 6)), (1, .ref (h 1)), (2, .int (nI r))]) X dX1_sumFor_1 rfl (by decide) rfl ?_
  refine Wk.iconst (v := nI 0) X dX1_sumFor_2 (by decide) ?_
  refine Wk.istore (lv' := [(5, .int (nI 0)), (3, .long 0), (0, .ref (h 6)), (1, .ref (h 1)), (2, .int (nI r))]) X dX1_sumFor_3 (by decide) rfl ?_
  have L5 : ∀ (fu5 : Nat) (k : Nat) (a : Int64) (hq : t + 1 ≤ k + fu5) (hk0 : k ≤ t) (ha : a = smC ki va (gC fe lm si nb r) k), Wk pg l ev ({ frames := 3, cells := 0, slots := 0, locals := 75 } : Room) s0 md ar bw mt cd 0 0 (QRl bw ar s0 (dC, dI) cl6 (TY cI cJ cZ) A (scoreC ki fe lm si va nb t r) (Wc h cI cJ cZ n li gr nb sc t ki fe lm si va he up lo pu pl gh gs bf b1 b2 b3 bu bl se)) 6 (dC, dI) cl6 A 5 [(0, .ref (h 6)), (1, .ref (h 1)), (2, .int (nI r)), (3, .long a), (5, .int (nI k))] [] (Wc h cI cJ cZ n li gr nb sc t ki fe lm si va he up lo pu pl gh gs bf b1 b2 b3 bu bl se) := by
    intro fu5
    induction fu5 with
    | zero => intro k a hq hk0 ha; exact absurd hq (by omega)
    | succ fu5 ih5 =>
      intro k a hq hk0 ha
      refine Wk.iload X 4 rfl dX1_sumFor_5 ?_
      refine Wk.aload_n X 0 rfl dX1_sumFor_7 rfl ?_
      refine Wk.get X inX1 6 0 lk37 (fun _ h9 => h9) rfl rfl (by decide) rfl dX1_sumFor_8 ?_
      refine Wk.icmpN_ge X 32 (by omega) (by omega) dX1_sumFor_11 (by decide) (fun c1 => ?_) (fun c1 => ?_)
      · skip
        refine Wk.lload_n X 3 rfl dX1_sumFor_32 rfl ?_
        exact Wk.lret X hr hk (by rw [ha, show k = t by omega]; rfl) rfl dX1_sumFor_33
      · skip
        refine Wk.lload_n X 3 rfl dX1_sumFor_14 rfl ?_
        refine Wk.aload_n X 0 rfl dX1_sumFor_15 rfl ?_
        refine Wk.iload X 4 rfl dX1_sumFor_16 ?_
        refine Wk.aload_n X 1 rfl dX1_sumFor_18 rfl ?_
        refine Wk.iload_n X 2 rfl dX1_sumFor_19 rfl ?_
        refine Wk.callVi (n := 3) (q0 := 6) X (c_X1_valueFor l dC dI cI cJ cZ h n li gr nb sc t ki fe lm si va he up lo pu pl gh gs bf b1 b2 b3 bu bl se k r (by first | omega | assumption) (by first | omega | assumption) (by exact fun k1 h1 h2 => hfe _ (by omega) h2)) gX1_sumFor_X1_valueFor rfl (by decide +kernel) (by decide) Fr.all (fun h9 => h9) rfl rfl rfl rfl (Nat.le_of_ble_eq_true rfl) ⟨Nat.zero_le _, Nat.zero_le _⟩ dX1_sumFor_20 ?_
        refine Wk.i2l X dX1_sumFor_23 ?_
        refine Wk.ladd X dX1_sumFor_24 ?_
        refine Wk.lstore_n (lv' := [(3, .long (a + ((va (k * 15 + vfC ki (gC fe lm si nb r) (k * 15) 3 0)).toInt64))), (0, .ref (h 6)), (1, .ref (h 1)), (2, .int (nI r)), (5, .int (nI k))]) X dX1_sumFor_25 rfl (by decide) rfl ?_
        refine Wk.iincN (n := 1) (lv' := [(5, .int (nI (k + 1))), (3, .long (a + ((va (k * 15 + vfC ki (gC fe lm si nb r) (k * 15) 3 0)).toInt64))), (0, .ref (h 6)), (1, .ref (h 1)), (2, .int (nI r))]) X 4 rfl dX1_sumFor_26 (by decide) rfl ?_
        refine Wk.goto X 5 dX1_sumFor_29 (by decide) ?_
        refine Wk.lvs (lv' := [(0, .ref (h 6)), (1, .ref (h 1)), (2, .int (nI r)), (3, .long (a + ((va (k * 15 + vfC ki (gC fe lm si nb r) (k * 15) 3 0)).toInt64))), (5, .int (nI (k + 1)))]) [2, 3, 4, 1, 0] rfl ?_
        exact ih5 (k + 1) (a + ((va (k * 15 + vfC ki (gC fe lm si nb r) (k * 15) 3 0)).toInt64)) (by omega) (by omega) (by rw [ha]; rfl)
  refine Wk.lvs (lv' := [(0, .ref (h 6)), (1, .ref (h 1)), (2, .int (nI r)), (3, .long 0), (5, .int (nI 0))]) [2, 3, 4, 1, 0] rfl ?_
  exact L5 (t + 1) 0 0 (by omega) (by omega) (by rfl)

set_option maxHeartbeats 4000000 in
set_option maxRecDepth 100000 in
theorem c_X1_countLeaves (l : Launch) (dC : Nat → ClassId) (dI : Nat → Nat → Nat) (cI cJ cZ : ClassId) (h : Nat → Nat) (n : Nat) (li : Nat → Int32) (gr : Nat → Int32) (nb : Nat → Int32) (sc : Nat → Int64) (t : Nat) (ki : Nat → Int32) (fe : Nat → Int32) (lm : Nat → Int32) (si : Nat → Int32) (va : Nat → Int32) (he : Nat → Int32) (up : Nat → Int64) (lo : Nat → Int64) (pu : Nat → Int32) (pl : Nat → Int32) (gh : Nat) (gs : Int32) (bf : Bool) (b1 : Int32) (b2 : Int32) (b3 : Int32) (bu : Int64) (bl : Int64) (se : Nat → Int32) (a : Nat) (b : Nat) (h1 : a ≤ b) (h2 : b ≤ 20) : Ci l yX1_countLeaves wsX1_countLeaves 0 0 (dC, dI) cl6 (TY cI cJ cZ) false [.ref (h 6), .int (nI a), .int (nI b)] (Wc h cI cJ cZ n li gr nb sc t ki fe lm si va he up lo pu pl gh gs bf b1 b2 b3 bu bl se) (nI (clC ki (a * 15) (b * 15 - a * 15))) (Wc h cI cJ cZ n li gr nb sc t ki fe lm si va he up lo pu pl gh gs bf b1 b2 b3 bu bl se) := by
  refine Ci.of (cc := cX1_countLeaves) (maxL := 5) (ty := .int) (own := RX1) rfl (plainFor_of_name (by decide)) rfl (Nat.le_of_ble_eq_true rfl) ?_
  intro pg ev s0 md ar bw mt cd A X hr hk
  show Wk pg l ev _ s0 md ar bw mt cd 0 0 _ 5 (dC, dI) cl6 A 0 [(0, .ref (h 6)), (1, .int (nI a)), (2, .int (nI b))] [] (Wc h cI cJ cZ n li gr nb sc t ki fe lm si va he up lo pu pl gh gs bf b1 b2 b3 bu bl se)
  have inX1 : ∀ w ∈ u_ws RX1 TX1 9, w ∈ wsX1_countLeaves := by decide +kernel
  have lk9 := X.w (.fieldLink RX1 9 "PairedTrees$Forest" "kinds" "[I") (by decide +kernel)
  refine Wk.iconst (v := nI 0) X dX1_countLeaves_0 (by decide) ?_
  refine Wk.istore_n (lv' := [(3, .int (nI 0)), (0, .ref (h 6)), (1, .int (nI a)), (2, .int (nI b))]) X dX1_countLeaves_1 rfl (by decide) rfl ?_
  refine Wk.iload_n X 2 rfl dX1_countLeaves_2 rfl ?_
  refine Wk.bipush (v := nI 15) X dX1_countLeaves_3 (by decide) ?_
  refine Wk.imulN X dX1_countLeaves_5 ?_
  refine Wk.istore (lv' := [(4, .int (nI (a * 15))), (3, .int (nI 0)), (0, .ref (h 6)), (1, .int (nI a)), (2, .int (nI b))]) X dX1_countLeaves_6 (by decide) rfl ?_
  have L8 : ∀ (fu8 : Nat) (k : Nat) (x : Nat) (hq : b * 15 + 1 ≤ a * 15 + k + fu8) (hk0 : a * 15 + k ≤ b * 15) (hx : x = clC ki (a * 15) k), Wk pg l ev ({ frames := 0, cells := 0, slots := 0, locals := 0 } : Room) s0 md ar bw mt cd 0 0 (QRi bw ar s0 (dC, dI) cl6 (TY cI cJ cZ) A (nI (clC ki (a * 15) (b * 15 - a * 15))) (Wc h cI cJ cZ n li gr nb sc t ki fe lm si va he up lo pu pl gh gs bf b1 b2 b3 bu bl se)) 5 (dC, dI) cl6 A 8 [(0, .ref (h 6)), (1, .int (nI a)), (2, .int (nI b)), (3, .int (nI x)), (4, .int (nI (a * 15 + k)))] [] (Wc h cI cJ cZ n li gr nb sc t ki fe lm si va he up lo pu pl gh gs bf b1 b2 b3 bu bl se) := by
    intro fu8
    induction fu8 with
    | zero => intro k x hq hk0 hx; exact absurd hq (by omega)
    | succ fu8 ih8 =>
      intro k x hq hk0 hx
      refine Wk.iload X 4 rfl dX1_countLeaves_8 ?_
      refine Wk.iload_n X 2 rfl dX1_countLeaves_10 rfl ?_
      refine Wk.bipush (v := nI 15) X dX1_countLeaves_11 (by decide) ?_
      refine Wk.imulN X dX1_countLeaves_13 ?_
      refine Wk.icmpN_ge X 37 (by omega) (by omega) dX1_countLeaves_14 (by decide) (fun c1 => ?_) (fun c1 => ?_)
      · skip
        refine Wk.iload_n X 3 rfl dX1_countLeaves_37 rfl ?_
        exact Wk.iret X hr hk (by rw [hx, show b * 15 - a * 15 = k by omega]) rfl dX1_countLeaves_38
      · skip
        refine Wk.aload_n X 0 rfl dX1_countLeaves_17 rfl ?_
        refine Wk.get X inX1 6 1 lk9 (fun _ h9 => h9) rfl rfl (by decide) rfl dX1_countLeaves_18 ?_
        refine Wk.iload X 4 rfl dX1_countLeaves_21 ?_
        refine Wk.iald X 7 0 rfl rfl (by omega) (by decide) dX1_countLeaves_23 ?_
        refine Wk.iconst (v := nI 1) X dX1_countLeaves_24 (by decide) ?_
        refine Wk.icmp_ne X 31 dX1_countLeaves_25 (by decide) (fun c2 => ?_) (fun c2 => ?_)
        · skip
          refine Wk.iincN (n := 1) (lv' := [(4, .int (nI (a * 15 + k + 1))), (0, .ref (h 6)), (1, .int (nI a)), (2, .int (nI b)), (3, .int (nI x))]) X 4 rfl dX1_countLeaves_31 (by decide) rfl ?_
          refine Wk.goto X 8 dX1_countLeaves_34 (by decide) ?_
          refine Wk.lvs (lv' := [(0, .ref (h 6)), (1, .int (nI a)), (2, .int (nI b)), (3, .int (nI x)), (4, .int (nI (a * 15 + k + 1)))]) [1, 2, 3, 4, 0] rfl ?_
          exact ih8 (k + 1) x (by omega) (by omega) (by simp [clC, *])
        · skip
          refine Wk.iincN (n := 1) (lv' := [(3, .int (nI (x + 1))), (0, .ref (h 6)), (1, .int (nI a)), (2, .int (nI b)), (4, .int (nI (a * 15 + k)))]) X 3 rfl dX1_countLeaves_28 (by decide) rfl ?_
          refine Wk.iincN (n := 1) (lv' := [(4, .int (nI (a * 15 + k + 1))), (3, .int (nI (x + 1))), (0, .ref (h 6)), (1, .int (nI a)), (2, .int (nI b))]) X 4 rfl dX1_countLeaves_31 (by decide) rfl ?_
          refine Wk.goto X 8 dX1_countLeaves_34 (by decide) ?_
          refine Wk.lvs (lv' := [(0, .ref (h 6)), (1, .int (nI a)), (2, .int (nI b)), (3, .int (nI (x + 1))), (4, .int (nI (a * 15 + k + 1)))]) [2, 3, 4, 1, 0] rfl ?_
          exact ih8 (k + 1) (x + 1) (by omega) (by omega) (by simp [clC, *])
  refine Wk.lvs (lv' := [(0, .ref (h 6)), (1, .int (nI a)), (2, .int (nI b)), (3, .int (nI 0)), (4, .int (nI (a * 15)))]) [2, 3, 4, 1, 0] rfl ?_
  exact L8 (b * 15 + 1) 0 0 (by omega) (by omega) (by rfl)

set_option maxHeartbeats 4000000 in
set_option maxRecDepth 100000 in
theorem c_X1_countCutsBy (l : Launch) (dC : Nat → ClassId) (dI : Nat → Nat → Nat) (cI cJ cZ : ClassId) (h : Nat → Nat) (n : Nat) (li : Nat → Int32) (gr : Nat → Int32) (nb : Nat → Int32) (sc : Nat → Int64) (t : Nat) (ki : Nat → Int32) (fe : Nat → Int32) (lm : Nat → Int32) (si : Nat → Int32) (va : Nat → Int32) (he : Nat → Int32) (up : Nat → Int64) (lo : Nat → Int64) (pu : Nat → Int32) (pl : Nat → Int32) (gh : Nat) (gs : Int32) (bf : Bool) (b1 : Int32) (b2 : Int32) (b3 : Int32) (bu : Int64) (bl : Int64) (se : Nat → Int32) (f : Int32) (ht0 : t ≤ 20) : Ci l yX1_countCutsBy wsX1_countCutsBy 0 0 (dC, dI) cl6 (TY cI cJ cZ) false [.ref (h 6), .int f] (Wc h cI cJ cZ n li gr nb sc t ki fe lm si va he up lo pu pl gh gs bf b1 b2 b3 bu bl se) (nI (ccC ki fe f (t * 15))) (Wc h cI cJ cZ n li gr nb sc t ki fe lm si va he up lo pu pl gh gs bf b1 b2 b3 bu bl se) := by
  refine Ci.of (cc := cX1_countCutsBy) (maxL := 4) (ty := .int) (own := RX1) rfl (plainFor_of_name (by decide)) rfl (Nat.le_of_ble_eq_true rfl) ?_
  intro pg ev s0 md ar bw mt cd A X hr hk
  show Wk pg l ev _ s0 md ar bw mt cd 0 0 _ 4 (dC, dI) cl6 A 0 [(0, .ref (h 6)), (1, .int f)] [] (Wc h cI cJ cZ n li gr nb sc t ki fe lm si va he up lo pu pl gh gs bf b1 b2 b3 bu bl se)
  have inX1 : ∀ w ∈ u_ws RX1 TX1 9, w ∈ wsX1_countCutsBy := by decide +kernel
  have lk9 := X.w (.fieldLink RX1 9 "PairedTrees$Forest" "kinds" "[I") (by decide +kernel)
  have lk15 := X.w (.fieldLink RX1 15 "PairedTrees$Forest" "features" "[I") (by decide +kernel)
  have lk37 := X.w (.fieldLink RX1 37 "PairedTrees$Forest" "count" "I") (by decide +kernel)
  refine Wk.iconst (v := nI 0) X dX1_countCutsBy_0 (by decide) ?_
  refine Wk.istore_n (lv' := [(2, .int (nI 0)), (0, .ref (h 6)), (1, .int f)]) X dX1_countCutsBy_1 rfl (by decide) rfl ?_
  refine Wk.iconst (v := nI 0) X dX1_countCutsBy_2 (by decide) ?_
  refine Wk.istore_n (lv' := [(3, .int (nI 0)), (2, .int (nI 0)), (0, .ref (h 6)), (1, .int f)]) X dX1_countCutsBy_3 rfl (by decide) rfl ?_
  have L4 : ∀ (fu4 : Nat) (k : Nat) (x : Nat) (hq : t * 15 + 1 ≤ k + fu4) (hk0 : k ≤ t * 15) (hx : x = ccC ki fe f k), Wk pg l ev ({ frames := 0, cells := 0, slots := 0, locals := 0 } : Room) s0 md ar bw mt cd 0 0 (QRi bw ar s0 (dC, dI) cl6 (TY cI cJ cZ) A (nI (ccC ki fe f (t * 15))) (Wc h cI cJ cZ n li gr nb sc t ki fe lm si va he up lo pu pl gh gs bf b1 b2 b3 bu bl se)) 4 (dC, dI) cl6 A 4 [(0, .ref (h 6)), (1, .int f), (2, .int (nI x)), (3, .int (nI k))] [] (Wc h cI cJ cZ n li gr nb sc t ki fe lm si va he up lo pu pl gh gs bf b1 b2 b3 bu bl se) := by
    intro fu4
    induction fu4 with
    | zero => intro k x hq hk0 hx; exact absurd hq (by omega)
    | succ fu4 ih4 =>
      intro k x hq hk0 hx
      refine Wk.iload_n X 3 rfl dX1_countCutsBy_4 rfl ?_
      refine Wk.aload_n X 0 rfl dX1_countCutsBy_5 rfl ?_
      refine Wk.get X inX1 6 0 lk37 (fun _ h9 => h9) rfl rfl (by decide) rfl dX1_countCutsBy_6 ?_
      refine Wk.bipush (v := nI 15) X dX1_countCutsBy_9 (by decide) ?_
      refine Wk.imulN X dX1_countCutsBy_11 ?_
      refine Wk.icmpN_ge X 44 (by omega) (by omega) dX1_countCutsBy_12 (by decide) (fun c1 => ?_) (fun c1 => ?_)
      · skip
        refine Wk.iload_n X 2 rfl dX1_countCutsBy_44 rfl ?_
        exact Wk.iret X hr hk (by rw [hx, show t * 15 = k by omega]) rfl dX1_countCutsBy_45
      · skip
        refine Wk.aload_n X 0 rfl dX1_countCutsBy_15 rfl ?_
        refine Wk.get X inX1 6 1 lk9 (fun _ h9 => h9) rfl rfl (by decide) rfl dX1_countCutsBy_16 ?_
        refine Wk.iload_n X 3 rfl dX1_countCutsBy_19 rfl ?_
        refine Wk.iald X 7 0 rfl rfl (by omega) (by decide) dX1_countCutsBy_20 ?_
        refine Wk.iconst (v := nI 2) X dX1_countCutsBy_21 (by decide) ?_
        refine Wk.icmp_ne X 38 dX1_countCutsBy_22 (by decide) (fun c2 => ?_) (fun c2 => ?_)
        · skip
          refine Wk.iincN (n := 1) (lv' := [(3, .int (nI (k + 1))), (0, .ref (h 6)), (1, .int f), (2, .int (nI x))]) X 3 rfl dX1_countCutsBy_38 (by decide) rfl ?_
          refine Wk.goto X 4 dX1_countCutsBy_41 (by decide) ?_
          refine Wk.lvs (lv' := [(0, .ref (h 6)), (1, .int f), (2, .int (nI x)), (3, .int (nI (k + 1)))]) [1, 2, 3, 0] rfl ?_
          exact ih4 (k + 1) x (by omega) (by omega) (by simp [ccC, *])
        · skip
          refine Wk.aload_n X 0 rfl dX1_countCutsBy_25 rfl ?_
          refine Wk.get X inX1 6 2 lk15 (fun _ h9 => h9) rfl rfl (by decide) rfl dX1_countCutsBy_26 ?_
          refine Wk.iload_n X 3 rfl dX1_countCutsBy_29 rfl ?_
          refine Wk.iald X 8 0 rfl rfl (by omega) (by decide) dX1_countCutsBy_30 ?_
          refine Wk.iload_n X 1 rfl dX1_countCutsBy_31 rfl ?_
          refine Wk.icmp_ne X 38 dX1_countCutsBy_32 (by decide) (fun c3 => ?_) (fun c3 => ?_)
          · skip
            refine Wk.iincN (n := 1) (lv' := [(3, .int (nI (k + 1))), (0, .ref (h 6)), (1, .int f), (2, .int (nI x))]) X 3 rfl dX1_countCutsBy_38 (by decide) rfl ?_
            refine Wk.goto X 4 dX1_countCutsBy_41 (by decide) ?_
            refine Wk.lvs (lv' := [(0, .ref (h 6)), (1, .int f), (2, .int (nI x)), (3, .int (nI (k + 1)))]) [1, 2, 3, 0] rfl ?_
            exact ih4 (k + 1) x (by omega) (by omega) (by simp [ccC, *])
          · skip
            refine Wk.iincN (n := 1) (lv' := [(2, .int (nI (x + 1))), (0, .ref (h 6)), (1, .int f), (3, .int (nI k))]) X 2 rfl dX1_countCutsBy_35 (by decide) rfl ?_
            refine Wk.iincN (n := 1) (lv' := [(3, .int (nI (k + 1))), (2, .int (nI (x + 1))), (0, .ref (h 6)), (1, .int f)]) X 3 rfl dX1_countCutsBy_38 (by decide) rfl ?_
            refine Wk.goto X 4 dX1_countCutsBy_41 (by decide) ?_
            refine Wk.lvs (lv' := [(0, .ref (h 6)), (1, .int f), (2, .int (nI (x + 1))), (3, .int (nI (k + 1)))]) [2, 3, 1, 0] rfl ?_
            exact ih4 (k + 1) (x + 1) (by omega) (by omega) (by simp [ccC, *])
  refine Wk.lvs (lv' := [(0, .ref (h 6)), (1, .int f), (2, .int (nI 0)), (3, .int (nI 0))]) [2, 3, 1, 0] rfl ?_
  exact L4 (t * 15 + 1) 0 0 (by omega) (by omega) (by rfl)

set_option maxHeartbeats 4000000 in
set_option maxRecDepth 100000 in
theorem c_X3_takeScores (l : Launch) (dC : Nat → ClassId) (dI : Nat → Nat → Nat) (cI cJ cZ : ClassId) (h : Nat → Nat) (n : Nat) (li : Nat → Int32) (gr : Nat → Int32) (nb : Nat → Int32) (sc : Nat → Int64) (t : Nat) (ki : Nat → Int32) (fe : Nat → Int32) (lm : Nat → Int32) (si : Nat → Int32) (va : Nat → Int32) (he : Nat → Int32) (up : Nat → Int64) (lo : Nat → Int64) (pu : Nat → Int32) (pl : Nat → Int32) (gh : Nat) (gs : Int32) (bf : Bool) (b1 : Int32) (b2 : Int32) (b3 : Int32) (bu : Int64) (bl : Int64) (se : Nat → Int32) (hn0 : n ≤ 24) (ht0 : t ≤ 20) (hfe : ∀ j, j < t * 15 → ki j = nI 2 → ∃ f, f < 4 ∧ fe j = nI f) : Cv l yX3_takeScores wsX3_takeScores 4 100 (dC, dI) cl6 (TY cI cJ cZ) false [.ref (h 1), .ref (h 6)] (Wc h cI cJ cZ n li gr nb sc t ki fe lm si va he up lo pu pl gh gs bf b1 b2 b3 bu bl se) (Wc h cI cJ cZ n li gr nb (scT sc (scoreC ki fe lm si va nb t) n) t ki fe lm si va he up lo pu pl gh gs bf b1 b2 b3 bu bl se) := by
  refine Cv.of (cc := cX3_takeScores) (maxL := 3) (own := RX3) rfl (plainFor_of_name (by decide)) rfl (Nat.le_of_ble_eq_true rfl) ?_
  intro pg ev s0 md ar bw mt cd A X hr hk
  show Wk pg l ev _ s0 md ar bw mt cd 0 0 _ 3 (dC, dI) cl6 A 0 [(0, .ref (h 1)), (1, .ref (h 6))] [] (Wc h cI cJ cZ n li gr nb sc t ki fe lm si va he up lo pu pl gh gs bf b1 b2 b3 bu bl se)
  have inX3 : ∀ w ∈ u_ws RX3 TX3 5, w ∈ wsX3_takeScores := by decide +kernel
  have lk21 := X.w (.fieldLink RX3 21 "PairedTrees$Things" "scores" "[J") (by decide +kernel)
  have lk25 := X.w (.fieldLink RX3 25 "PairedTrees$Things" "count" "I") (by decide +kernel)
  refine Wk.iconst (v := nI 0) X dX3_takeScores_0 (by decide) ?_
  refine Wk.istore_n (lv' := [(2, .int (nI 0)), (0, .ref (h 1)), (1, .ref (h 6))]) X dX3_takeScores_1 rfl (by decide) rfl ?_
  have L2 : ∀ (fu2 : Nat) (k : Nat) (hq : n + 1 ≤ k + fu2) (hk0 : k ≤ n), Wk pg l ev ({ frames := 4, cells := 0, slots := 0, locals := 100 } : Room) s0 md ar bw mt cd 0 0 (QRv bw ar s0 (dC, dI) cl6 (TY cI cJ cZ) A (Wc h cI cJ cZ n li gr nb (scT sc (scoreC ki fe lm si va nb t) n) t ki fe lm si va he up lo pu pl gh gs bf b1 b2 b3 bu bl se)) 3 (dC, dI) cl6 A 2 [(0, .ref (h 1)), (1, .ref (h 6)), (2, .int (nI k))] [] (Wc h cI cJ cZ n li gr nb (scT sc (scoreC ki fe lm si va nb t) k) t ki fe lm si va he up lo pu pl gh gs bf b1 b2 b3 bu bl se) := by
    intro fu2
    induction fu2 with
    | zero => intro k hq hk0; exact absurd hq (by omega)
    | succ fu2 ih2 =>
      intro k hq hk0
      refine Wk.iload_n X 2 rfl dX3_takeScores_2 rfl ?_
      refine Wk.aload_n X 0 rfl dX3_takeScores_3 rfl ?_
      refine Wk.get X inX3 1 0 lk25 (fun _ h9 => h9) rfl rfl (by decide) rfl dX3_takeScores_4 ?_
      refine Wk.icmpN_ge X 28 (by omega) (by omega) dX3_takeScores_7 (by decide) (fun c1 => ?_) (fun c1 => ?_)
      · skip
        exact Wk.vret X hr hk (by rw [show n = k by omega]) dX3_takeScores_28
      · skip
        refine Wk.aload_n X 0 rfl dX3_takeScores_10 rfl ?_
        refine Wk.get X inX3 1 4 lk21 (fun _ h9 => h9) rfl rfl (by decide) rfl dX3_takeScores_11 ?_
        refine Wk.iload_n X 2 rfl dX3_takeScores_14 rfl ?_
        refine Wk.aload_n X 1 rfl dX3_takeScores_15 rfl ?_
        refine Wk.aload_n X 0 rfl dX3_takeScores_16 rfl ?_
        refine Wk.iload_n X 2 rfl dX3_takeScores_17 rfl ?_
        refine Wk.callVl (n := 2) (q0 := 6) X (c_X1_sumFor l dC dI cI cJ cZ h n li gr nb (scT sc (scoreC ki fe lm si va nb t) k) t ki fe lm si va he up lo pu pl gh gs bf b1 b2 b3 bu bl se k (by first | omega | assumption) (by first | omega | assumption) (by first | omega | assumption)) gX3_takeScores_X1_sumFor rfl (by decide +kernel) (by decide) Fr.all (fun h9 => h9) rfl rfl rfl rfl (Nat.le_of_ble_eq_true rfl) ⟨Nat.zero_le _, Nat.zero_le _⟩ dX3_takeScores_18 ?_
        refine Wk.last (ws' := Wc h cI cJ cZ n li gr nb (vp_updL (scT sc (scoreC ki fe lm si va nb t) k) k (scoreC ki fe lm si va nb t k)) t ki fe lm si va he up lo pu pl gh gs bf b1 b2 b3 bu bl se) X 5 1 rfl rfl (by omega) (by decide) rfl dX3_takeScores_21 ?_
        refine Wk.iincN (n := 1) (lv' := [(2, .int (nI (k + 1))), (0, .ref (h 1)), (1, .ref (h 6))]) X 2 rfl dX3_takeScores_22 (by decide) rfl ?_
        refine Wk.goto X 2 dX3_takeScores_25 (by decide) ?_
        refine Wk.lvs (lv' := [(0, .ref (h 1)), (1, .ref (h 6)), (2, .int (nI (k + 1)))]) [1, 2, 0] rfl ?_
        exact ih2 (k + 1) (by omega) (by omega)
  refine Wk.lvs (lv' := [(0, .ref (h 1)), (1, .ref (h 6)), (2, .int (nI 0))]) [1, 2, 0] rfl ?_
  exact L2 (n + 1) 0 (by omega) (by omega)

set_option maxHeartbeats 4000000 in
set_option maxRecDepth 100000 in
theorem c_X0_isBetter (l : Launch) (dC : Nat → ClassId) (dI : Nat → Nat → Nat) (cI cJ cZ : ClassId) (h : Nat → Nat) (n : Nat) (li : Nat → Int32) (gr : Nat → Int32) (nb : Nat → Int32) (sc : Nat → Int64) (t : Nat) (ki : Nat → Int32) (fe : Nat → Int32) (lm : Nat → Int32) (si : Nat → Int32) (va : Nat → Int32) (he : Nat → Int32) (up : Nat → Int64) (lo : Nat → Int64) (pu : Nat → Int32) (pl : Nat → Int32) (gh : Nat) (gs : Int32) (bf : Bool) (b1 : Int32) (b2 : Int32) (b3 : Int32) (bu : Int64) (bl : Int64) (se : Nat → Int32) (f : Int32) (cv : Int32) (sd : Int32) (gu : Int64) (gl : Int64) : Ci l yX0_isBetter wsX0_isBetter 0 0 (dC, dI) cl6 (TY cI cJ cZ) false [.ref (h 18), .int f, .int cv, .int sd, .long gu, .long gl] (Wc h cI cJ cZ n li gr nb sc t ki fe lm si va he up lo pu pl gh gs bf b1 b2 b3 bu bl se) (bI (ibC f cv sd gu gl b1 b2 b3 bu bl)) (Wc h cI cJ cZ n li gr nb sc t ki fe lm si va he up lo pu pl gh gs bf b1 b2 b3 bu bl se) := by
  refine Ci.of (cc := cX0_isBetter) (maxL := 12) (ty := .boolean) (own := RX0) rfl (plainFor_of_name (by decide)) rfl (Nat.le_of_ble_eq_true rfl) ?_
  intro pg ev s0 md ar bw mt cd A X hr hk
  show Wk pg l ev _ s0 md ar bw mt cd 0 0 _ 12 (dC, dI) cl6 A 0 [(0, .ref (h 18)), (1, .int f), (2, .int cv), (3, .int sd), (4, .long gu), (6, .long gl)] [] (Wc h cI cJ cZ n li gr nb sc t ki fe lm si va he up lo pu pl gh gs bf b1 b2 b3 bu bl se)
  have inX0 : ∀ w ∈ u_ws RX0 TX0 6, w ∈ wsX0_isBetter := by decide +kernel
  have lk17 := X.w (.fieldLink RX0 17 "PairedTrees$BestCut" "feature" "I") (by decide +kernel)
  have lk21 := X.w (.fieldLink RX0 21 "PairedTrees$BestCut" "limit" "I") (by decide +kernel)
  have lk24 := X.w (.fieldLink RX0 24 "PairedTrees$BestCut" "side" "I") (by decide +kernel)
  have lk27 := X.w (.fieldLink RX0 27 "PairedTrees$BestCut" "upper" "J") (by decide +kernel)
  have lk31 := X.w (.fieldLink RX0 31 "PairedTrees$BestCut" "lower" "J") (by decide +kernel)
  refine Wk.lload X 4 rfl dX0_isBetter_0 ?_
  refine Wk.aload_n X 0 rfl dX0_isBetter_2 rfl ?_
  refine Wk.get X inX0 18 5 lk31 (fun _ h9 => h9) rfl rfl (by decide) rfl dX0_isBetter_3 ?_
  refine Wk.lmul X dX0_isBetter_6 ?_
  refine Wk.lstore (lv' := [(8, .long (gu * bl)), (0, .ref (h 18)), (1, .int f), (2, .int cv), (3, .int sd), (4, .long gu), (6, .long gl)]) X dX0_isBetter_7 (by decide) rfl ?_
  refine Wk.aload_n X 1 rfl dX0_isBetter_9 rfl ?_
  refine Wk.get X inX0 18 4 lk27 (fun _ h9 => h9) rfl rfl (by decide) rfl dX0_isBetter_10 ?_
  refine Wk.lload X 6 rfl dX0_isBetter_13 ?_
  refine Wk.lmul X dX0_isBetter_15 ?_
  refine Wk.lstore (lv' := [(10, .long (bu * gl)), (8, .long (gu * bl)), (0, .ref (h 18)), (1, .int f), (2, .int cv), (3, .int sd), (4, .long gu), (6, .long gl)]) X dX0_isBetter_16 (by decide) rfl ?_
  refine Wk.lload X 1 rfl dX0_isBetter_18 ?_
  refine Wk.lload X 0 rfl dX0_isBetter_20 ?_
  refine Wk.lcmp_eq X 40 dX0_isBetter_22 dX0_isBetter_23 (by decide) (fun c1 => ?_) (fun c1 => ?_)
  · skip
    refine Wk.iload_n X 3 rfl dX0_isBetter_40 rfl ?_
    refine Wk.aload_n X 2 rfl dX0_isBetter_41 rfl ?_
    refine Wk.get X inX0 18 1 lk17 (fun _ h9 => h9) rfl rfl (by decide) rfl dX0_isBetter_42 ?_
    refine Wk.icmp_eq X 62 dX0_isBetter_45 (by decide) (fun c2 => ?_) (fun c2 => ?_)
    · skip
      refine Wk.iload_n X 4 rfl dX0_isBetter_62 rfl ?_
      refine Wk.aload_n X 2 rfl dX0_isBetter_63 rfl ?_
      refine Wk.get X inX0 18 2 lk21 (fun _ h9 => h9) rfl rfl (by decide) rfl dX0_isBetter_64 ?_
      refine Wk.icmp_eq X 86 dX0_isBetter_67 (by decide) (fun c3 => ?_) (fun c3 => ?_)
      · skip
        refine Wk.iload_n X 5 rfl dX0_isBetter_86 rfl ?_
        refine Wk.aload_n X 2 rfl dX0_isBetter_87 rfl ?_
        refine Wk.get X inX0 18 3 lk24 (fun _ h9 => h9) rfl rfl (by decide) rfl dX0_isBetter_88 ?_
        refine Wk.icmp_ge X 98 dX0_isBetter_91 (by decide) (fun c4 => ?_) (fun c4 => ?_)
        · skip
          refine Wk.iconst (v := nI 0) X dX0_isBetter_98 (by decide) ?_
          exact Wk.zret X hr hk (by decide) (by simp [ibC, bI, nI_0, nIc1, *]) rfl dX0_isBetter_99
        · skip
          refine Wk.iconst (v := nI 1) X dX0_isBetter_94 (by decide) ?_
          refine Wk.goto X 99 dX0_isBetter_95 (by decide) ?_
          exact Wk.zret X hr hk (by decide) (by simp [ibC, bI, nI_0, nIc1, *]) rfl dX0_isBetter_99
      · skip
        refine Wk.iload_n X 4 rfl dX0_isBetter_70 rfl ?_
        refine Wk.aload_n X 2 rfl dX0_isBetter_71 rfl ?_
        refine Wk.get X inX0 18 2 lk21 (fun _ h9 => h9) rfl rfl (by decide) rfl dX0_isBetter_72 ?_
        refine Wk.icmp_ge X 82 dX0_isBetter_75 (by decide) (fun c5 => ?_) (fun c5 => ?_)
        · skip
          refine Wk.iconst (v := nI 0) X dX0_isBetter_82 (by decide) ?_
          refine Wk.goto X 99 dX0_isBetter_83 (by decide) ?_
          exact Wk.zret X hr hk (by decide) (by simp [ibC, bI, nI_0, nIc1, *]) rfl dX0_isBetter_99
        · skip
          refine Wk.iconst (v := nI 1) X dX0_isBetter_78 (by decide) ?_
          refine Wk.goto X 99 dX0_isBetter_79 (by decide) ?_
          exact Wk.zret X hr hk (by decide) (by simp [ibC, bI, nI_0, nIc1, *]) rfl dX0_isBetter_99
    · skip
      refine Wk.iload_n X 3 rfl dX0_isBetter_48 rfl ?_
      refine Wk.aload_n X 2 rfl dX0_isBetter_49 rfl ?_
      refine Wk.get X inX0 18 1 lk17 (fun _ h9 => h9) rfl rfl (by decide) rfl dX0_isBetter_50 ?_
      refine Wk.icmp_ge X 60 dX0_isBetter_53 (by decide) (fun c6 => ?_) (fun c6 => ?_)
      · skip
        refine Wk.iconst (v := nI 0) X dX0_isBetter_60 (by decide) ?_
        exact Wk.zret X hr hk (by decide) (by simp [ibC, bI, nI_0, nIc1, *]) rfl dX0_isBetter_61
      · skip
        refine Wk.iconst (v := nI 1) X dX0_isBetter_56 (by decide) ?_
        refine Wk.goto X 61 dX0_isBetter_57 (by decide) ?_
        exact Wk.zret X hr hk (by decide) (by simp [ibC, bI, nI_0, nIc1, *]) rfl dX0_isBetter_61
  · skip
    refine Wk.lload X 1 rfl dX0_isBetter_26 ?_
    refine Wk.lload X 0 rfl dX0_isBetter_28 ?_
    refine Wk.lcmp_le X 38 dX0_isBetter_30 dX0_isBetter_31 (by decide) (fun c7 => ?_) (fun c7 => ?_)
    · skip
      refine Wk.iconst (v := nI 0) X dX0_isBetter_38 (by decide) ?_
      exact Wk.zret X hr hk (by decide) (by simp [ibC, bI, nI_0, nIc1, *]) rfl dX0_isBetter_39
    · skip
      refine Wk.iconst (v := nI 1) X dX0_isBetter_34 (by decide) ?_
      refine Wk.goto X 39 dX0_isBetter_35 (by decide) ?_
      exact Wk.zret X hr hk (by decide) (by simp [ibC, bI, nI_0, nIc1, *]) rfl dX0_isBetter_39

set_option maxHeartbeats 4000000 in
set_option maxRecDepth 100000 in
theorem c_X0_offer (l : Launch) (dC : Nat → ClassId) (dI : Nat → Nat → Nat) (cI cJ cZ : ClassId) (h : Nat → Nat) (n : Nat) (li : Nat → Int32) (gr : Nat → Int32) (nb : Nat → Int32) (sc : Nat → Int64) (t : Nat) (ki : Nat → Int32) (fe : Nat → Int32) (lm : Nat → Int32) (si : Nat → Int32) (va : Nat → Int32) (he : Nat → Int32) (up : Nat → Int64) (lo : Nat → Int64) (pu : Nat → Int32) (pl : Nat → Int32) (gh : Nat) (gs : Int32) (bf : Bool) (b1 : Int32) (b2 : Int32) (b3 : Int32) (bu : Int64) (bl : Int64) (se : Nat → Int32) (f : Int32) (cv : Int32) (sd : Int32) (gu : Int64) (gl : Int64) : Cv l yX0_offer wsX0_offer 1 31 (dC, dI) cl6 (TY cI cJ cZ) false [.ref (h 18), .int f, .int cv, .int sd, .long gu, .long gl] (Wc h cI cJ cZ n li gr nb sc t ki fe lm si va he up lo pu pl gh gs bf b1 b2 b3 bu bl se) (Wc h cI cJ cZ n li gr nb sc t ki fe lm si va he up lo pu pl gh gs true (if ofC f cv sd gu gl bf b1 b2 b3 bu bl = true then f else b1) (if ofC f cv sd gu gl bf b1 b2 b3 bu bl = true then cv else b2) (if ofC f cv sd gu gl bf b1 b2 b3 bu bl = true then sd else b3) (if ofC f cv sd gu gl bf b1 b2 b3 bu bl = true then gu else bu) (if ofC f cv sd gu gl bf b1 b2 b3 bu bl = true then gl else bl) se) := by
  refine Cv.of (cc := cX0_offer) (maxL := 8) (own := RX0) rfl (plainFor_of_name (by decide)) rfl (Nat.le_of_ble_eq_true rfl) ?_
  intro pg ev s0 md ar bw mt cd A X hr hk
  show Wk pg l ev _ s0 md ar bw mt cd 0 0 _ 8 (dC, dI) cl6 A 0 [(0, .ref (h 18)), (1, .int f), (2, .int cv), (3, .int sd), (4, .long gu), (6, .long gl)] [] (Wc h cI cJ cZ n li gr nb sc t ki fe lm si va he up lo pu pl gh gs bf b1 b2 b3 bu bl se)
  have inX0 : ∀ w ∈ u_ws RX0 TX0 6, w ∈ wsX0_offer := by decide +kernel
  have lk7 := X.w (.fieldLink RX0 7 "PairedTrees$BestCut" "isFound" "Z") (by decide +kernel)
  have lk17 := X.w (.fieldLink RX0 17 "PairedTrees$BestCut" "feature" "I") (by decide +kernel)
  have lk21 := X.w (.fieldLink RX0 21 "PairedTrees$BestCut" "limit" "I") (by decide +kernel)
  have lk24 := X.w (.fieldLink RX0 24 "PairedTrees$BestCut" "side" "I") (by decide +kernel)
  have lk27 := X.w (.fieldLink RX0 27 "PairedTrees$BestCut" "upper" "J") (by decide +kernel)
  have lk31 := X.w (.fieldLink RX0 31 "PairedTrees$BestCut" "lower" "J") (by decide +kernel)
  refine Wk.aload_n X 0 rfl dX0_offer_0 rfl ?_
  refine Wk.get X inX0 18 0 lk7 (fun _ h9 => h9) rfl rfl (by decide) rfl dX0_offer_1 ?_
  refine Wk.ifB_eq X 22 dX0_offer_4 (by decide) (fun c1 => ?_) (fun c1 => ?_)
  · skip
    refine Wk.aload_n X 0 rfl dX0_offer_22 rfl ?_
    refine Wk.iconst (v := nI 1) X dX0_offer_23 (by decide) ?_
    refine Wk.put (ws' := Wc h cI cJ cZ n li gr nb sc t ki fe lm si va he up lo pu pl gh gs true b1 b2 b3 bu bl se) X inX0 tyX0 tyX0_ok nmX0 18 0 lk7 (fun _ h9 => h9) rfl rfl (by decide) rfl (tyX0_ok 0 (by decide)) (by decide) (by decide) (Nat.le_of_ble_eq_true rfl) rfl dX0_offer_24 ?_
    refine Wk.aload_n X 0 rfl dX0_offer_27 rfl ?_
    refine Wk.iload_n X 1 rfl dX0_offer_28 rfl ?_
    refine Wk.put (ws' := Wc h cI cJ cZ n li gr nb sc t ki fe lm si va he up lo pu pl gh gs true f b2 b3 bu bl se) X inX0 tyX0 tyX0_ok nmX0 18 1 lk17 (fun _ h9 => h9) rfl rfl (by decide) rfl (tyX0_ok 1 (by decide)) rfl rfl (Nat.le_of_ble_eq_true rfl) rfl dX0_offer_29 ?_
    refine Wk.aload_n X 0 rfl dX0_offer_32 rfl ?_
    refine Wk.iload_n X 2 rfl dX0_offer_33 rfl ?_
    refine Wk.put (ws' := Wc h cI cJ cZ n li gr nb sc t ki fe lm si va he up lo pu pl gh gs true f cv b3 bu bl se) X inX0 tyX0 tyX0_ok nmX0 18 2 lk21 (fun _ h9 => h9) rfl rfl (by decide) rfl (tyX0_ok 2 (by decide)) rfl rfl (Nat.le_of_ble_eq_true rfl) rfl dX0_offer_34 ?_
    refine Wk.aload_n X 0 rfl dX0_offer_37 rfl ?_
    refine Wk.iload_n X 3 rfl dX0_offer_38 rfl ?_
    refine Wk.put (ws' := Wc h cI cJ cZ n li gr nb sc t ki fe lm si va he up lo pu pl gh gs true f cv sd bu bl se) X inX0 tyX0 tyX0_ok nmX0 18 3 lk24 (fun _ h9 => h9) rfl rfl (by decide) rfl (tyX0_ok 3 (by decide)) rfl rfl (Nat.le_of_ble_eq_true rfl) rfl dX0_offer_39 ?_
    refine Wk.aload_n X 0 rfl dX0_offer_42 rfl ?_
    refine Wk.lload X 4 rfl dX0_offer_43 ?_
    refine Wk.put (ws' := Wc h cI cJ cZ n li gr nb sc t ki fe lm si va he up lo pu pl gh gs true f cv sd gu bl se) X inX0 tyX0 tyX0_ok nmX0 18 4 lk27 (fun _ h9 => h9) rfl rfl (by decide) rfl (tyX0_ok 4 (by decide)) rfl rfl (Nat.le_of_ble_eq_true rfl) rfl dX0_offer_45 ?_
    refine Wk.aload_n X 0 rfl dX0_offer_48 rfl ?_
    refine Wk.lload X 5 rfl dX0_offer_49 ?_
    refine Wk.put (ws' := Wc h cI cJ cZ n li gr nb sc t ki fe lm si va he up lo pu pl gh gs true f cv sd gu gl se) X inX0 tyX0 tyX0_ok nmX0 18 5 lk31 (fun _ h9 => h9) rfl rfl (by decide) rfl (tyX0_ok 5 (by decide)) rfl rfl (Nat.le_of_ble_eq_true rfl) rfl dX0_offer_51 ?_
    exact Wk.vret X hr hk (by simp [ofC, *]) dX0_offer_54
  · skip
    refine Wk.aload_n X 0 rfl dX0_offer_7 rfl ?_
    refine Wk.iload_n X 1 rfl dX0_offer_8 rfl ?_
    refine Wk.iload_n X 2 rfl dX0_offer_9 rfl ?_
    refine Wk.iload_n X 3 rfl dX0_offer_10 rfl ?_
    refine Wk.lload X 4 rfl dX0_offer_11 ?_
    refine Wk.lload X 5 rfl dX0_offer_13 ?_
    refine Wk.callVi (n := 5) (q0 := 18) X (c_X0_isBetter l dC dI cI cJ cZ h n li gr nb sc t ki fe lm si va he up lo pu pl gh gs bf b1 b2 b3 bu bl se f cv sd gu gl) gX0_offer_X0_isBetter rfl (by decide +kernel) (by decide) Fr.all (fun h9 => h9) rfl rfl rfl rfl (Nat.le_of_ble_eq_true rfl) ⟨Nat.zero_le _, Nat.zero_le _⟩ dX0_offer_15 ?_
    refine Wk.ifB_ne X 22 dX0_offer_18 (by decide) (fun c2 => ?_) (fun c2 => ?_)
    · skip
      refine Wk.aload_n X 0 rfl dX0_offer_22 rfl ?_
      refine Wk.iconst (v := nI 1) X dX0_offer_23 (by decide) ?_
      refine Wk.put (ws' := Wc h cI cJ cZ n li gr nb sc t ki fe lm si va he up lo pu pl gh gs true b1 b2 b3 bu bl se) X inX0 tyX0 tyX0_ok nmX0 18 0 lk7 (fun _ h9 => h9) rfl rfl (by decide) rfl (tyX0_ok 0 (by decide)) (by decide) (by decide) (Nat.le_of_ble_eq_true rfl) rfl dX0_offer_24 ?_
      refine Wk.aload_n X 0 rfl dX0_offer_27 rfl ?_
      refine Wk.iload_n X 1 rfl dX0_offer_28 rfl ?_
      refine Wk.put (ws' := Wc h cI cJ cZ n li gr nb sc t ki fe lm si va he up lo pu pl gh gs true f b2 b3 bu bl se) X inX0 tyX0 tyX0_ok nmX0 18 1 lk17 (fun _ h9 => h9) rfl rfl (by decide) rfl (tyX0_ok 1 (by decide)) rfl rfl (Nat.le_of_ble_eq_true rfl) rfl dX0_offer_29 ?_
      refine Wk.aload_n X 0 rfl dX0_offer_32 rfl ?_
      refine Wk.iload_n X 2 rfl dX0_offer_33 rfl ?_
      refine Wk.put (ws' := Wc h cI cJ cZ n li gr nb sc t ki fe lm si va he up lo pu pl gh gs true f cv b3 bu bl se) X inX0 tyX0 tyX0_ok nmX0 18 2 lk21 (fun _ h9 => h9) rfl rfl (by decide) rfl (tyX0_ok 2 (by decide)) rfl rfl (Nat.le_of_ble_eq_true rfl) rfl dX0_offer_34 ?_
      refine Wk.aload_n X 0 rfl dX0_offer_37 rfl ?_
      refine Wk.iload_n X 3 rfl dX0_offer_38 rfl ?_
      refine Wk.put (ws' := Wc h cI cJ cZ n li gr nb sc t ki fe lm si va he up lo pu pl gh gs true f cv sd bu bl se) X inX0 tyX0 tyX0_ok nmX0 18 3 lk24 (fun _ h9 => h9) rfl rfl (by decide) rfl (tyX0_ok 3 (by decide)) rfl rfl (Nat.le_of_ble_eq_true rfl) rfl dX0_offer_39 ?_
      refine Wk.aload_n X 0 rfl dX0_offer_42 rfl ?_
      refine Wk.lload X 4 rfl dX0_offer_43 ?_
      refine Wk.put (ws' := Wc h cI cJ cZ n li gr nb sc t ki fe lm si va he up lo pu pl gh gs true f cv sd gu bl se) X inX0 tyX0 tyX0_ok nmX0 18 4 lk27 (fun _ h9 => h9) rfl rfl (by decide) rfl (tyX0_ok 4 (by decide)) rfl rfl (Nat.le_of_ble_eq_true rfl) rfl dX0_offer_45 ?_
      refine Wk.aload_n X 0 rfl dX0_offer_48 rfl ?_
      refine Wk.lload X 5 rfl dX0_offer_49 ?_
      refine Wk.put (ws' := Wc h cI cJ cZ n li gr nb sc t ki fe lm si va he up lo pu pl gh gs true f cv sd gu gl se) X inX0 tyX0 tyX0_ok nmX0 18 5 lk31 (fun _ h9 => h9) rfl rfl (by decide) rfl (tyX0_ok 5 (by decide)) rfl rfl (Nat.le_of_ble_eq_true rfl) rfl dX0_offer_51 ?_
      exact Wk.vret X hr hk (by simp [ofC, *]) dX0_offer_54
    · skip
      exact Wk.vret X hr hk (by simp [ofC, *]) dX0_offer_21

