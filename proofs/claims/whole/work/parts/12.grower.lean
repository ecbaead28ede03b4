abbrev BS : Type := Bool × Int32 × Int32 × Int32 × Int64 × Int64
abbrev GS : Type := (Nat → Int32) × BS × (Nat → Int32) × (Nat → Int32) × (Nat → Int32) × (Nat → Int32) × (Nat → Int32) × (Nat → Int32) × (Nat → Int64) × (Nat → Int64)
def gaH (pl : Nat → Int32) (k : Nat) : Nat → Nat
  | 0 => 0
  | i + 1 => if pl i = nI k then gaH pl k i + 1 else gaH pl k i
def gaS (pu pl : Nat → Int32) (k : Nat) : Nat → Int32
  | 0 => 0
  | i + 1 => if pl i = nI k then gaS pu pl k i + pu i else gaS pu pl k i
def fdvC (x y : Int32) : Int32 := if ¬ 0 ≤ x ^^^ y ∧ ¬ x / y * y = x then x / y - 1 else x / y
def dpN (k : Nat) : Nat := if k = 0 then 0 else if k ≤ 2 then 1 else if k ≤ 6 then 2 else 3
def tcL (pl nb : Nat → Int32) (k f : Nat) (cv sd : Int32) : Nat → Int64
  | 0 => 0
  | i + 1 => if pl i = nI k ∧ glC nb i f cv sd = true then tcL pl nb k f cv sd i + 1 else tcL pl nb k f cv sd i
def tcS (pl nb pu : Nat → Int32) (k f : Nat) (cv sd : Int32) : Nat → Int64
  | 0 => 0
  | i + 1 => if pl i = nI k ∧ glC nb i f cv sd = true then tcS pl nb pu k f cv sd i + (pu i).toInt64 else tcS pl nb pu k f cv sd i
def spC (gh : Nat) (gs : Int32) (l L : Int64) : Int64 := L * ((nI gh).toInt64 - l) - (gs.toInt64 - L) * l
def okC (gh : Nat) (gs le : Int32) (l L : Int64) : Bool := decide (¬ l < le.toInt64 ∧ ¬ (nI gh).toInt64 - l < le.toInt64 ∧ ¬ spC gh gs l L = 0)
def offS (f cv sd : Int32) (gu gl : Int64) (B : BS) : BS :=
  (true, if ofC f cv sd gu gl B.1 B.2.1 B.2.2.1 B.2.2.2.1 B.2.2.2.2.1 B.2.2.2.2.2 = true then f else B.2.1, if ofC f cv sd gu gl B.1 B.2.1 B.2.2.1 B.2.2.2.1 B.2.2.2.2.1 B.2.2.2.2.2 = true then cv else B.2.2.1, if ofC f cv sd gu gl B.1 B.2.1 B.2.2.1 B.2.2.2.1 B.2.2.2.2.1 B.2.2.2.2.2 = true then sd else B.2.2.2.1, if ofC f cv sd gu gl B.1 B.2.1 B.2.2.1 B.2.2.2.1 B.2.2.2.2.1 B.2.2.2.2.2 = true then gu else B.2.2.2.2.1, if ofC f cv sd gu gl B.1 B.2.1 B.2.2.1 B.2.2.2.1 B.2.2.2.2.1 B.2.2.2.2.2 = true then gl else B.2.2.2.2.2)
def tryS (gh : Nat) (gs le f cv sd : Int32) (l L : Int64) (B : BS) : BS := if okC gh gs le l L = true then offS f cv sd (spC gh gs l L * spC gh gs l L) (l * ((nI gh).toInt64 - l) * (nI gh).toInt64) B else B
def tcB (n : Nat) (pl nb pu : Nat → Int32) (gh : Nat) (gs : Int32) (k : Nat) (le : Int32) (f : Nat) (cv sd : Int32) (B : BS) : BS := tryS gh gs le (nI f) cv sd (tcL pl nb k f cv sd n) (tcS pl nb pu k f cv sd n) B
def sdC (n : Nat) (pl nb pu : Nat → Int32) (gh : Nat) (gs : Int32) (k : Nat) (le : Int32) (f : Nat) (cv : Int32) : Nat → BS → BS
  | 0, B => B
  | j + 1, B => tcB n pl nb pu gh gs k le f cv (nI j) (sdC n pl nb pu gh gs k le f cv j B)
def skI (n : Nat) (pl nb pu : Nat → Int32) (gh : Nat) (gs : Int32) (k : Nat) (le : Int32) (f : Nat) : Nat → BS → BS
  | 0, B => B
  | i + 1, B => if pl i = nI k ∧ ¬ nb (i * 4 + f) = -1001 then sdC n pl nb pu gh gs k le f (nb (i * 4 + f)) 2 (skI n pl nb pu gh gs k le f i B) else skI n pl nb pu gh gs k le f i B
def skF (n : Nat) (pl nb pu : Nat → Int32) (gh : Nat) (gs : Int32) (k : Nat) (le : Int32) : Nat → BS → BS
  | 0, B => B
  | f + 1, B => skI n pl nb pu gh gs k le f n (skF n pl nb pu gh gs k le f B)
def sbC (n : Nat) (pl nb pu : Nat → Int32) (gh : Nat) (gs : Int32) (k : Nat) (se : Nat → Int32) (B : BS) : BS := if se 2 ≤ nI (dpN k) then B else skF n pl nb pu gh gs k (se 3) 4 B
def ptC (nb : Nat → Int32) (b1 b2 b3 : Int32) (k : Nat) : Nat → (Nat → Int32) → (Nat → Int32)
  | 0, pl => pl
  | i + 1, pl => if ptC nb b1 b2 b3 k i pl i = nI k then upd (ptC nb b1 b2 b3 k i pl) i (if glC nb i b1.toNatClampNeg b2 b3 = true then nI (2 * k + 1) else nI (2 * k + 2)) else ptC nb b1 b2 b3 k i pl
def lvC (se : Nat → Int32) (gs : Int32) (gh : Nat) : Int32 := if nI gh ≤ 0 then 0 else fdvC (se 1 * gs) (nI gh)
def gnC (n : Nat) (nb pu : Nat → Int32) (gh : Nat) (gs : Int32) (se : Nat → Int32) (tr k : Nat) (S : GS) : GS :=
  if (sbC n S.1 nb pu gh gs k se (false, S.2.1.2)).1 = true then
    (ptC nb (sbC n S.1 nb pu gh gs k se (false, S.2.1.2)).2.1 (sbC n S.1 nb pu gh gs k se (false, S.2.1.2)).2.2.1 (sbC n S.1 nb pu gh gs k se (false, S.2.1.2)).2.2.2.1 k n S.1, sbC n S.1 nb pu gh gs k se (false, S.2.1.2), upd S.2.2.1 (tr * 15 + k) (nI 2), upd S.2.2.2.1 (tr * 15 + k) (sbC n S.1 nb pu gh gs k se (false, S.2.1.2)).2.1, upd S.2.2.2.2.1 (tr * 15 + k) (sbC n S.1 nb pu gh gs k se (false, S.2.1.2)).2.2.1, upd S.2.2.2.2.2.1 (tr * 15 + k) (sbC n S.1 nb pu gh gs k se (false, S.2.1.2)).2.2.2.1, S.2.2.2.2.2.2.1, upd S.2.2.2.2.2.2.2.1 (tr * 15 + k) (nI gh), vp_updL S.2.2.2.2.2.2.2.2.1 (tr * 15 + k) (redC (gcC 100 (sbC n S.1 nb pu gh gs k se (false, S.2.1.2)).2.2.2.2.1 (sbC n S.1 nb pu gh gs k se (false, S.2.1.2)).2.2.2.2.2) (sbC n S.1 nb pu gh gs k se (false, S.2.1.2)).2.2.2.2.1), vp_updL S.2.2.2.2.2.2.2.2.2 (tr * 15 + k) (redC (gcC 100 (sbC n S.1 nb pu gh gs k se (false, S.2.1.2)).2.2.2.2.1 (sbC n S.1 nb pu gh gs k se (false, S.2.1.2)).2.2.2.2.2) (sbC n S.1 nb pu gh gs k se (false, S.2.1.2)).2.2.2.2.2))
  else (S.1, sbC n S.1 nb pu gh gs k se (false, S.2.1.2), upd S.2.2.1 (tr * 15 + k) (nI 1), S.2.2.2.1, S.2.2.2.2.1, S.2.2.2.2.2.1, upd S.2.2.2.2.2.2.1 (tr * 15 + k) (lvC se gs gh), upd S.2.2.2.2.2.2.2.1 (tr * 15 + k) (nI gh), S.2.2.2.2.2.2.2.2.1, S.2.2.2.2.2.2.2.2.2)
def upT (f : Nat → Int32) : Nat → (Nat → Int32) → (Nat → Int32)
  | 0, q => q
  | i + 1, q => upd (upT f i q) i (f i)
def gtC (n : Nat) (nb pu se : Nat → Int32) (tr : Nat) : Nat → GS → GS
  | 0, S => S
  | k + 1, S => if nI (gaH (gtC n nb pu se tr k S).1 k n) ≤ 0 then gtC n nb pu se tr k S else gnC n nb pu (gaH (gtC n nb pu se tr k S).1 k n) (gaS pu (gtC n nb pu se tr k S).1 k n) se tr k (gtC n nb pu se tr k S)
/-- a cut that was found is by a feature -/
def bOk (B : BS) : Prop := B.1 = true → ∃ f, f < 4 ∧ B.2.1 = nI f
theorem tcB_ok {n : Nat} {pl nb pu : Nat → Int32} {gh : Nat} {gs : Int32} {k : Nat} {le : Int32} {f : Nat} {cv sd : Int32} {B : BS} (hf : f < 4) (h : bOk B) : bOk (tcB n pl nb pu gh gs k le f cv sd B) := by
  unfold tcB tryS
  split
  · intro _
    unfold offS
    dsimp only
    split
    · exact ⟨f, hf, rfl⟩
    · rename_i h1
      have : B.1 = true := by
        cases hb : B.1
        · exact absurd (by simp [ofC, hb]) h1
        · rfl
      exact h this
  · exact h
theorem sdC_ok {n : Nat} {pl nb pu : Nat → Int32} {gh : Nat} {gs : Int32} {k : Nat} {le : Int32} {f : Nat} {cv : Int32} {B : BS} (hf : f < 4) (h : bOk B) (j : Nat) : bOk (sdC n pl nb pu gh gs k le f cv j B) := by
  induction j with
  | zero => exact h
  | succ j ih => exact tcB_ok hf ih
theorem skI_ok {n : Nat} {pl nb pu : Nat → Int32} {gh : Nat} {gs : Int32} {k : Nat} {le : Int32} {f : Nat} {B : BS} (hf : f < 4) (h : bOk B) (i : Nat) : bOk (skI n pl nb pu gh gs k le f i B) := by
  induction i with
  | zero => exact h
  | succ i ih =>
    unfold skI
    split
    · exact sdC_ok hf ih 2
    · exact ih
theorem skF_ok {n : Nat} {pl nb pu : Nat → Int32} {gh : Nat} {gs : Int32} {k : Nat} {le : Int32} {B : BS} (h : bOk B) (f : Nat) (hf : f ≤ 4) : bOk (skF n pl nb pu gh gs k le f B) := by
  induction f with
  | zero => exact h
  | succ f ih => exact skI_ok (by omega) (ih (by omega)) n
theorem sbC_ok {n : Nat} {pl nb pu : Nat → Int32} {gh : Nat} {gs : Int32} {k : Nat} {se : Nat → Int32} {B : BS} (h : B.1 = false) : bOk (sbC n pl nb pu gh gs k se B) := by
  unfold sbC
  split
  · intro q; rw [h] at q; cases q
  · exact skF_ok (fun q => by rw [h] at q; cases q) 4 (Nat.le_refl 4)
set_option maxHeartbeats 4000000 in
set_option maxRecDepth 100000 in
theorem c_X2_gather (l : Launch) (dC : Nat → ClassId) (dI : Nat → Nat → Nat) (cI cJ cZ : ClassId) (h : Nat → Nat) (n : Nat) (li : Nat → Int32) (gr : Nat → Int32) (nb : Nat → Int32) (sc : Nat → Int64) (t : Nat) (ki : Nat → Int32) (fe : Nat → Int32) (lm : Nat → Int32) (si : Nat → Int32) (va : Nat → Int32) (he : Nat → Int32) (up : Nat → Int64) (lo : Nat → Int64) (pu : Nat → Int32) (pl : Nat → Int32) (gh : Nat) (gs : Int32) (bf : Bool) (b1 : Int32) (b2 : Int32) (b3 : Int32) (bu : Int64) (bl : Int64) (se : Nat → Int32) (k : Nat) (hn0 : n ≤ 24) : Cv l yX2_gather wsX2_gather 0 0 (dC, dI) cl6 (TY cI cJ cZ) false [.ref (h 15), .ref (h 1), .int (nI k)] (Wc h cI cJ cZ n li gr nb sc t ki fe lm si va he up lo pu pl gh gs bf b1 b2 b3 bu bl se) (Wc h cI cJ cZ n li gr nb sc t ki fe lm si va he up lo pu pl (gaH pl k n) (gaS pu pl k n) bf b1 b2 b3 bu bl se) := by
  refine Cv.of (cc := cX2_gather) (maxL := 4) (own := RX2) rfl (plainFor_of_name (by decide)) rfl (Nat.le_of_ble_eq_true rfl) ?_
  intro pg ev s0 md ar bw mt cd A X hr hk
  show Wk pg l ev _ s0 md ar bw mt cd 0 0 _ 4 (dC, dI) cl6 A 0 [(0, .ref (h 15)), (1, .ref (h 1)), (2, .int (nI k))] [] (Wc h cI cJ cZ n li gr nb sc t ki fe lm si va he up lo pu pl gh gs bf b1 b2 b3 bu bl se)
  have inX2 : ∀ w ∈ u_ws RX2 TX2 5, w ∈ wsX2_gather := by decide +kernel
  have inX3 : ∀ w ∈ u_ws RX3 TX3 5, w ∈ wsX2_gather := by decide +kernel
  have lk9 := X.w (.fieldLink RX2 9 "PairedTrees$Grower" "pushes" "[I") (by decide +kernel)
  have lk15 := X.w (.fieldLink RX2 15 "PairedTrees$Grower" "places" "[I") (by decide +kernel)
  have lk25 := X.w (.fieldLink RX2 25 "PairedTrees$Things" "count" "I") (by decide +kernel)
  have lk39 := X.w (.fieldLink RX2 39 "PairedTrees$Grower" "held" "I") (by decide +kernel)
  have lk46 := X.w (.fieldLink RX2 46 "PairedTrees$Grower" "sum" "I") (by decide +kernel)
  refine Wk.aload_n X 0 rfl dX2_gather_0 rfl ?_
  refine Wk.iconst (v := nI 0) X dX2_gather_1 (by decide) ?_
  refine Wk.put (ws' := Wc h cI cJ cZ n li gr nb sc t ki fe lm si va he up lo pu pl 0 gs bf b1 b2 b3 bu bl se) X inX2 tyX2 tyX2_ok nmX2 15 3 lk39 (fun _ h9 => h9) rfl rfl (by decide) rfl (tyX2_ok 3 (by decide)) rfl rfl (Nat.le_of_ble_eq_true rfl) rfl dX2_gather_2 ?_
  refine Wk.aload_n X 0 rfl dX2_gather_5 rfl ?_
  refine Wk.iconst (v := nI 0) X dX2_gather_6 (by decide) ?_
  refine Wk.put (ws' := Wc h cI cJ cZ n li gr nb sc t ki fe lm si va he up lo pu pl 0 (nI 0) bf b1 b2 b3 bu bl se) X inX2 tyX2 tyX2_ok nmX2 15 4 lk46 (fun _ h9 => h9) rfl rfl (by decide) rfl (tyX2_ok 4 (by decide)) rfl rfl (Nat.le_of_ble_eq_true rfl) rfl dX2_gather_7 ?_
  refine Wk.iconst (v := nI 0) X dX2_gather_10 (by decide) ?_
  refine Wk.istore_n (lv' := [(3, .int (nI 0)), (0, .ref (h 15)), (1, .ref (h 1)), (2, .int (nI k))]) X dX2_gather_11 rfl (by decide) rfl ?_
  have L12 : ∀ (fu12 : Nat) (i : Nat) (a : Nat) (x : Int32) (hq : n + 1 ≤ i + fu12) (hi : i ≤ n) (ha : a = gaH pl k i) (hx : x = gaS pu pl k i), Wk pg l ev ({ frames := 0, cells := 0, slots := 0, locals := 0 } : Room) s0 md ar bw mt cd 0 0 (QRv bw ar s0 (dC, dI) cl6 (TY cI cJ cZ) A (Wc h cI cJ cZ n li gr nb sc t ki fe lm si va he up lo pu pl (gaH pl k n) (gaS pu pl k n) bf b1 b2 b3 bu bl se)) 4 (dC, dI) cl6 A 12 [(0, .ref (h 15)), (1, .ref (h 1)), (2, .int (nI k)), (3, .int (nI i))] [] (Wc h cI cJ cZ n li gr nb sc t ki fe lm si va he up lo pu pl a x bf b1 b2 b3 bu bl se) := by
    intro fu12
    induction fu12 with
    | zero => intro i a x hq hi ha hx; exact absurd hq (by omega)
    | succ fu12 ih12 =>
      intro i a x hq hi ha hx
      refine Wk.iload_n X 3 rfl dX2_gather_12 rfl ?_
      refine Wk.aload_n X 1 rfl dX2_gather_13 rfl ?_
      refine Wk.get X inX3 1 0 lk25 (fun _ h9 => h9) rfl rfl (by decide) rfl dX2_gather_14 ?_
      refine Wk.icmpN_ge X 61 (by omega) (by omega) dX2_gather_17 (by decide) (fun c1 => ?_) (fun c1 => ?_)
      · skip
        exact Wk.vret X hr hk (by rw [ha, hx, show i = n by omega]) dX2_gather_61
      · skip
        refine Wk.aload_n X 0 rfl dX2_gather_20 rfl ?_
        refine Wk.get X inX2 15 1 lk15 (fun _ h9 => h9) rfl rfl (by decide) rfl dX2_gather_21 ?_
        refine Wk.iload_n X 3 rfl dX2_gather_24 rfl ?_
        refine Wk.iald X 17 0 rfl rfl (by omega) (by decide) dX2_gather_25 ?_
        refine Wk.iload_n X 2 rfl dX2_gather_26 rfl ?_
        refine Wk.icmp_ne X 55 dX2_gather_27 (by decide) (fun c2 => ?_) (fun c2 => ?_)
        · skip
          refine Wk.iincN (n := 1) (lv' := [(3, .int (nI (i + 1))), (0, .ref (h 15)), (1, .ref (h 1)), (2, .int (nI k))]) X 3 rfl dX2_gather_55 (by decide) rfl ?_
          refine Wk.goto X 12 dX2_gather_58 (by decide) ?_
          refine Wk.lvs (lv' := [(0, .ref (h 15)), (1, .ref (h 1)), (2, .int (nI k)), (3, .int (nI (i + 1)))]) [1, 2, 3, 0] rfl ?_
          exact ih12 (i + 1) a x (by omega) (by omega) (by simp [gaH, *]) (by simp [gaS, *])
        · skip
          refine Wk.aload_n X 0 rfl dX2_gather_30 rfl ?_
          refine Wk.dup X dX2_gather_31 rfl ?_
          refine Wk.get X inX2 15 3 lk39 (fun _ h9 => h9) rfl rfl (by decide) rfl dX2_gather_32 ?_
          refine Wk.iconst (v := nI 1) X dX2_gather_35 (by decide) ?_
          refine Wk.iaddN X dX2_gather_36 ?_
          refine Wk.put (ws' := Wc h cI cJ cZ n li gr nb sc t ki fe lm si va he up lo pu pl (a + 1) x bf b1 b2 b3 bu bl se) X inX2 tyX2 tyX2_ok nmX2 15 3 lk39 (fun _ h9 => h9) rfl rfl (by decide) rfl (tyX2_ok 3 (by decide)) rfl rfl (Nat.le_of_ble_eq_true rfl) rfl dX2_gather_37 ?_
          refine Wk.aload_n X 0 rfl dX2_gather_40 rfl ?_
          refine Wk.dup X dX2_gather_41 rfl ?_
          refine Wk.get X inX2 15 4 lk46 (fun _ h9 => h9) rfl rfl (by decide) rfl dX2_gather_42 ?_
          refine Wk.aload_n X 0 rfl dX2_gather_45 rfl ?_
          refine Wk.get X inX2 15 0 lk9 (fun _ h9 => h9) rfl rfl (by decide) rfl dX2_gather_46 ?_
          refine Wk.iload_n X 3 rfl dX2_gather_49 rfl ?_
          refine Wk.iald X 16 0 rfl rfl (by omega) (by decide) dX2_gather_50 ?_
          refine Wk.iadd X dX2_gather_51 ?_
          refine Wk.put (ws' := Wc h cI cJ cZ n li gr nb sc t ki fe lm si va he up lo pu pl (a + 1) (x + (pu i)) bf b1 b2 b3 bu bl se) X inX2 tyX2 tyX2_ok nmX2 15 4 lk46 (fun _ h9 => h9) rfl rfl (by decide) rfl (tyX2_ok 4 (by decide)) rfl rfl (Nat.le_of_ble_eq_true rfl) rfl dX2_gather_52 ?_
          refine Wk.iincN (n := 1) (lv' := [(3, .int (nI (i + 1))), (0, .ref (h 15)), (1, .ref (h 1)), (2, .int (nI k))]) X 3 rfl dX2_gather_55 (by decide) rfl ?_
          refine Wk.goto X 12 dX2_gather_58 (by decide) ?_
          refine Wk.lvs (lv' := [(0, .ref (h 15)), (1, .ref (h 1)), (2, .int (nI k)), (3, .int (nI (i + 1)))]) [1, 2, 3, 0] rfl ?_
          exact ih12 (i + 1) (a + 1) (x + (pu i)) (by omega) (by omega) (by simp [gaH, *]) (by simp [gaS, *])
  refine Wk.lvs (lv' := [(0, .ref (h 15)), (1, .ref (h 1)), (2, .int (nI k)), (3, .int (nI 0))]) [1, 2, 3, 0] rfl ?_
  exact L12 (n + 1) 0 0 (nI 0) (by omega) (by omega) (by rfl) (by rfl)

set_option maxHeartbeats 4000000 in
set_option maxRecDepth 100000 in
theorem c_J9_floorDiv_7cf53 (l : Launch) (dC : Nat → ClassId) (dI : Nat → Nat → Nat) (cI cJ cZ : ClassId) (x : Int32) (y : Int32) (hy : ¬ y = 0) : Ci l yJ9_floorDiv_7cf53 wsJ9_floorDiv_7cf53 0 0 (dC, dI) cl6 (TY cI cJ cZ) false [.int x, .int y] ([]) (fdvC x y) ([]) := by
  refine Ci.of (cc := cJ9_floorDiv_7cf53) (maxL := 3) (ty := .int) (own := RJ9) rfl (by decide +kernel) rfl (Nat.le_of_ble_eq_true rfl) ?_
  intro pg ev s0 md ar bw mt cd A X hr hk
  show Wk pg l ev _ s0 md ar bw mt cd 0 0 _ 3 (dC, dI) cl6 A 0 [(0, .int x), (1, .int y)] [] ([])
  refine Wk.iload_n X 0 rfl dJ9_floorDiv_7cf53_0 rfl ?_
  refine Wk.iload_n X 1 rfl dJ9_floorDiv_7cf53_1 rfl ?_
  refine Wk.idiv X dJ9_floorDiv_7cf53_2 (by assumption) ?_
  refine Wk.istore_n (lv' := [(2, .int (x / y)), (0, .int x), (1, .int y)]) X dJ9_floorDiv_7cf53_3 rfl (by decide) rfl ?_
  refine Wk.iload_n X 1 rfl dJ9_floorDiv_7cf53_4 rfl ?_
  refine Wk.iload_n X 2 rfl dJ9_floorDiv_7cf53_5 rfl ?_
  refine Wk.ixor X dJ9_floorDiv_7cf53_6 ?_
  refine Wk.if_ge X 21 dJ9_floorDiv_7cf53_7 (by decide) (fun c1 => ?_) (fun c1 => ?_)
  · skip
    refine Wk.iload_n X 0 rfl dJ9_floorDiv_7cf53_21 rfl ?_
    exact Wk.iret X hr hk (by simp [fdvC, nIc1, *]) rfl dJ9_floorDiv_7cf53_22
  · skip
    refine Wk.iload_n X 0 rfl dJ9_floorDiv_7cf53_10 rfl ?_
    refine Wk.iload_n X 2 rfl dJ9_floorDiv_7cf53_11 rfl ?_
    refine Wk.imul X dJ9_floorDiv_7cf53_12 ?_
    refine Wk.iload_n X 1 rfl dJ9_floorDiv_7cf53_13 rfl ?_
    refine Wk.icmp_eq X 21 dJ9_floorDiv_7cf53_14 (by decide) (fun c2 => ?_) (fun c2 => ?_)
    · skip
      refine Wk.iload_n X 0 rfl dJ9_floorDiv_7cf53_21 rfl ?_
      exact Wk.iret X hr hk (by simp [fdvC, nIc1, *]) rfl dJ9_floorDiv_7cf53_22
    · skip
      refine Wk.iload_n X 0 rfl dJ9_floorDiv_7cf53_17 rfl ?_
      refine Wk.iconst (v := nI 1) X dJ9_floorDiv_7cf53_18 (by decide) ?_
      refine Wk.isub X dJ9_floorDiv_7cf53_19 ?_
      exact Wk.iret X hr hk (by simp [fdvC, nIc1, *]) rfl dJ9_floorDiv_7cf53_20

set_option maxHeartbeats 4000000 in
set_option maxRecDepth 100000 in
theorem c_X2_depthOf (l : Launch) (dC : Nat → ClassId) (dI : Nat → Nat → Nat) (cI cJ cZ : ClassId) (k : Nat) (hk0 : k < 2 ^ 31) : Ci l yX2_depthOf wsX2_depthOf 0 0 (dC, dI) cl6 (TY cI cJ cZ) false [.int (nI k)] ([]) (nI (dpN k)) ([]) := by
  have e0 : nI k = 0 ↔ k = 0 := nI_eq (b := 0) hk0 (by decide)
  refine Ci.of (cc := cX2_depthOf) (maxL := 1) (ty := .int) (own := RX2) rfl (plainFor_of_name (by decide)) rfl (Nat.le_of_ble_eq_true rfl) ?_
  intro pg ev s0 md ar bw mt cd A X hr hk
  show Wk pg l ev _ s0 md ar bw mt cd 0 0 _ 1 (dC, dI) cl6 A 0 [(0, .int (nI k))] [] ([])
  refine Wk.iload_n X 0 rfl dX2_depthOf_0 rfl ?_
  refine Wk.if_ne X 6 dX2_depthOf_1 (by decide) (fun c1 => ?_) (fun c1 => ?_)
  · skip
    refine Wk.iload_n X 0 rfl dX2_depthOf_6 rfl ?_
    refine Wk.iconst (v := nI 2) X dX2_depthOf_7 (by decide) ?_
    refine Wk.icmpN_gt X 13 (by omega) (by omega) dX2_depthOf_8 (by decide) (fun c2 => ?_) (fun c2 => ?_)
    · skip
      refine Wk.iload_n X 0 rfl dX2_depthOf_13 rfl ?_
      refine Wk.bipush (v := nI 6) X dX2_depthOf_14 (by decide) ?_
      refine Wk.icmpN_gt X 23 (by omega) (by omega) dX2_depthOf_16 (by decide) (fun c3 => ?_) (fun c3 => ?_)
      · skip
        refine Wk.iconst (v := nI 3) X dX2_depthOf_23 (by decide) ?_
        exact Wk.iret X hr hk (by rw [e0] at c1; refine congrArg nI ?_; unfold dpN; (repeat' split) <;> omega) rfl dX2_depthOf_24
      · skip
        refine Wk.iconst (v := nI 2) X dX2_depthOf_19 (by decide) ?_
        refine Wk.goto X 24 dX2_depthOf_20 (by decide) ?_
        exact Wk.iret X hr hk (by rw [e0] at c1; refine congrArg nI ?_; unfold dpN; (repeat' split) <;> omega) rfl dX2_depthOf_24
    · skip
      refine Wk.iconst (v := nI 1) X dX2_depthOf_11 (by decide) ?_
      exact Wk.iret X hr hk (by rw [e0] at c1; refine congrArg nI ?_; unfold dpN; (repeat' split) <;> omega) rfl dX2_depthOf_12
  · skip
    refine Wk.iconst (v := nI 0) X dX2_depthOf_4 (by decide) ?_
    exact Wk.iret X hr hk (by rw [e0] at c1; refine congrArg nI ?_; unfold dpN; (repeat' split) <;> omega) rfl dX2_depthOf_5

set_option maxHeartbeats 4000000 in
set_option maxRecDepth 100000 in
theorem c_X2_tryCut (l : Launch) (dC : Nat → ClassId) (dI : Nat → Nat → Nat) (cI cJ cZ : ClassId) (h : Nat → Nat) (n : Nat) (li : Nat → Int32) (gr : Nat → Int32) (nb : Nat → Int32) (sc : Nat → Int64) (t : Nat) (ki : Nat → Int32) (fe : Nat → Int32) (lm : Nat → Int32) (si : Nat → Int32) (va : Nat → Int32) (he : Nat → Int32) (up : Nat → Int64) (lo : Nat → Int64) (pu : Nat → Int32) (pl : Nat → Int32) (gh : Nat) (gs : Int32) (bf : Bool) (b1 : Int32) (b2 : Int32) (b3 : Int32) (bu : Int64) (bl : Int64) (se : Nat → Int32) (k : Nat) (f : Nat) (cv : Int32) (sd : Int32) (le : Int32) (hn0 : n ≤ 24) (hf0 : f < 4) : Cv l yX2_tryCut wsX2_tryCut 2 58 (dC, dI) cl6 (TY cI cJ cZ) false [.ref (h 15), .ref (h 1), .int (nI k), .int (nI f), .int cv, .int sd, .int le] (Wc h cI cJ cZ n li gr nb sc t ki fe lm si va he up lo pu pl gh gs bf b1 b2 b3 bu bl se) (Wc h cI cJ cZ n li gr nb sc t ki fe lm si va he up lo pu pl gh gs ((tcB n pl nb pu gh gs k le f cv sd (bf, b1, b2, b3, bu, bl)).1) ((tcB n pl nb pu gh gs k le f cv sd (bf, b1, b2, b3, bu, bl)).2.1) ((tcB n pl nb pu gh gs k le f cv sd (bf, b1, b2, b3, bu, bl)).2.2.1) ((tcB n pl nb pu gh gs k le f cv sd (bf, b1, b2, b3, bu, bl)).2.2.2.1) ((tcB n pl nb pu gh gs k le f cv sd (bf, b1, b2, b3, bu, bl)).2.2.2.2.1) ((tcB n pl nb pu gh gs k le f cv sd (bf, b1, b2, b3, bu, bl)).2.2.2.2.2) se) := by
  refine Cv.of (cc := cX2_tryCut) (maxL := 17) (own := RX2) rfl (plainFor_of_name (by decide)) rfl (Nat.le_of_ble_eq_true rfl) ?_
  intro pg ev s0 md ar bw mt cd A X hr hk
  show Wk pg l ev _ s0 md ar bw mt cd 0 0 _ 17 (dC, dI) cl6 A 0 [(0, .ref (h 15)), (1, .ref (h 1)), (2, .int (nI k)), (3, .int (nI f)), (4, .int cv), (5, .int sd), (6, .int le)] [] (Wc h cI cJ cZ n li gr nb sc t ki fe lm si va he up lo pu pl gh gs bf b1 b2 b3 bu bl se)
  have inX2 : ∀ w ∈ u_ws RX2 TX2 5, w ∈ wsX2_tryCut := by decide +kernel
  have inX3 : ∀ w ∈ u_ws RX3 TX3 5, w ∈ wsX2_tryCut := by decide +kernel
  have lk9 := X.w (.fieldLink RX2 9 "PairedTrees$Grower" "pushes" "[I") (by decide +kernel)
  have lk15 := X.w (.fieldLink RX2 15 "PairedTrees$Grower" "places" "[I") (by decide +kernel)
  have lk21 := X.w (.fieldLink RX2 21 "PairedTrees$Grower" "best" "LPairedTrees$BestCut;") (by decide +kernel)
  have lk25 := X.w (.fieldLink RX2 25 "PairedTrees$Things" "count" "I") (by decide +kernel)
  have lk39 := X.w (.fieldLink RX2 39 "PairedTrees$Grower" "held" "I") (by decide +kernel)
  have lk46 := X.w (.fieldLink RX2 46 "PairedTrees$Grower" "sum" "I") (by decide +kernel)
  refine Wk.lconst (v := 0) X dX2_tryCut_0 (by decide) ?_
  refine Wk.lstore (lv' := [(7, .long 0), (0, .ref (h 15)), (1, .ref (h 1)), (2, .int (nI k)), (3, .int (nI f)), (4, .int cv), (5, .int sd), (6, .int le)]) X dX2_tryCut_1 (by decide) rfl ?_
  refine Wk.lconst (v := 0) X dX2_tryCut_3 (by decide) ?_
  refine Wk.lstore (lv' := [(9, .long 0), (7, .long 0), (0, .ref (h 15)), (1, .ref (h 1)), (2, .int (nI k)), (3, .int (nI f)), (4, .int cv), (5, .int sd), (6, .int le)]) X dX2_tryCut_4 (by decide) rfl ?_
  refine Wk.iconst (v := nI 0) X dX2_tryCut_6 (by decide) ?_
  refine Wk.istore (lv' := [(11, .int (nI 0)), (9, .long 0), (7, .long 0), (0, .ref (h 15)), (1, .ref (h 1)), (2, .int (nI k)), (3, .int (nI f)), (4, .int cv), (5, .int sd), (6, .int le)]) X dX2_tryCut_7 (by decide) rfl ?_
  have L9 : ∀ (fu9 : Nat) (i : Nat) (x : Int64) (y : Int64) (hq : n + 1 ≤ i + fu9) (hi : i ≤ n) (hx : x = tcL pl nb k f cv sd i) (hy : y = tcS pl nb pu k f cv sd i), Wk pg l ev ({ frames := 2, cells := 0, slots := 0, locals := 58 } : Room) s0 md ar bw mt cd 0 0 (QRv bw ar s0 (dC, dI) cl6 (TY cI cJ cZ) A (Wc h cI cJ cZ n li gr nb sc t ki fe lm si va he up lo pu pl gh gs ((tcB n pl nb pu gh gs k le f cv sd (bf, b1, b2, b3, bu, bl)).1) ((tcB n pl nb pu gh gs k le f cv sd (bf, b1, b2, b3, bu, bl)).2.1) ((tcB n pl nb pu gh gs k le f cv sd (bf, b1, b2, b3, bu, bl)).2.2.1) ((tcB n pl nb pu gh gs k le f cv sd (bf, b1, b2, b3, bu, bl)).2.2.2.1) ((tcB n pl nb pu gh gs k le f cv sd (bf, b1, b2, b3, bu, bl)).2.2.2.2.1) ((tcB n pl nb pu gh gs k le f cv sd (bf, b1, b2, b3, bu, bl)).2.2.2.2.2) se)) 17 (dC, dI) cl6 A 9 [(0, .ref (h 15)), (1, .ref (h 1)), (2, .int (nI k)), (3, .int (nI f)), (4, .int cv), (5, .int sd), (6, .int le), (7, .long x), (9, .long y), (11, .int (nI i))] [] (Wc h cI cJ cZ n li gr nb sc t ki fe lm si va he up lo pu pl gh gs bf b1 b2 b3 bu bl se) := by
    intro fu9
    induction fu9 with
    | zero => intro i x y hq hi hx hy; exact absurd hq (by omega)
    | succ fu9 ih9 =>
      intro i x y hq hi hx hy
      refine Wk.iload X 9 rfl dX2_tryCut_9 ?_
      refine Wk.aload_n X 1 rfl dX2_tryCut_11 rfl ?_
      refine Wk.get X inX3 1 0 lk25 (fun _ h9 => h9) rfl rfl (by decide) rfl dX2_tryCut_12 ?_
      refine Wk.icmpN_ge X 68 (by omega) (by omega) dX2_tryCut_15 (by decide) (fun c1 => ?_) (fun c1 => ?_)
      · skip
        have ex : tcL pl nb k f cv sd n = x := by rw [hx, show i = n by omega]
        have ey : tcS pl nb pu k f cv sd n = y := by rw [hy, show i = n by omega]
        clear hx hy
        refine Wk.aload_n X 0 rfl dX2_tryCut_68 rfl ?_
        refine Wk.get X inX2 15 3 lk39 (fun _ h9 => h9) rfl rfl (by decide) rfl dX2_tryCut_69 ?_
        refine Wk.i2l X dX2_tryCut_72 ?_
        refine Wk.lload X 7 rfl dX2_tryCut_73 ?_
        refine Wk.lsub X dX2_tryCut_75 ?_
        refine Wk.lstore (lv' := [(11, .long (((nI gh).toInt64) - x)), (0, .ref (h 15)), (1, .ref (h 1)), (2, .int (nI k)), (3, .int (nI f)), (4, .int cv), (5, .int sd), (6, .int le), (7, .long x), (9, .long y)]) X dX2_tryCut_76 (by decide) rfl ?_
        refine Wk.aload_n X 1 rfl dX2_tryCut_78 rfl ?_
        refine Wk.get X inX2 15 4 lk46 (fun _ h9 => h9) rfl rfl (by decide) rfl dX2_tryCut_79 ?_
        refine Wk.i2l X dX2_tryCut_82 ?_
        refine Wk.lload X 9 rfl dX2_tryCut_83 ?_
        refine Wk.lsub X dX2_tryCut_85 ?_
        refine Wk.lstore (lv' := [(13, .long (gs.toInt64 - y)), (11, .long (((nI gh).toInt64) - x)), (0, .ref (h 15)), (1, .ref (h 1)), (2, .int (nI k)), (3, .int (nI f)), (4, .int cv), (5, .int sd), (6, .int le), (7, .long x), (9, .long y)]) X dX2_tryCut_86 (by decide) rfl ?_
        refine Wk.lload X 10 rfl dX2_tryCut_88 ?_
        refine Wk.lload X 1 rfl dX2_tryCut_90 ?_
        refine Wk.lmul X dX2_tryCut_92 ?_
        refine Wk.lload X 0 rfl dX2_tryCut_93 ?_
        refine Wk.lload X 9 rfl dX2_tryCut_95 ?_
        refine Wk.lmul X dX2_tryCut_97 ?_
        refine Wk.lsub X dX2_tryCut_98 ?_
        refine Wk.lstore (lv' := [(15, .long ((y * (((nI gh).toInt64) - x)) - ((gs.toInt64 - y) * x))), (13, .long (gs.toInt64 - y)), (11, .long (((nI gh).toInt64) - x)), (0, .ref (h 15)), (1, .ref (h 1)), (2, .int (nI k)), (3, .int (nI f)), (4, .int cv), (5, .int sd), (6, .int le), (7, .long x), (9, .long y)]) X dX2_tryCut_99 (by decide) rfl ?_
        refine Wk.lload X 10 rfl dX2_tryCut_101 ?_
        refine Wk.iload X 9 rfl dX2_tryCut_103 ?_
        refine Wk.i2l X dX2_tryCut_105 ?_
        refine Wk.lcmp_lt X 154 dX2_tryCut_106 dX2_tryCut_107 (by decide) (fun c2 => ?_) (fun c2 => ?_)
        · skip
          exact Wk.vret X hr hk (by simp [tcB, tryS, okC, offS, spC, *]) dX2_tryCut_154
        · skip
          refine Wk.lload X 2 rfl dX2_tryCut_110 ?_
          refine Wk.iload X 9 rfl dX2_tryCut_112 ?_
          refine Wk.i2l X dX2_tryCut_114 ?_
          refine Wk.lcmp_lt X 154 dX2_tryCut_115 dX2_tryCut_116 (by decide) (fun c3 => ?_) (fun c3 => ?_)
          · skip
            exact Wk.vret X hr hk (by simp [tcB, tryS, okC, offS, spC, *]) dX2_tryCut_154
          · skip
            refine Wk.lload X 0 rfl dX2_tryCut_119 ?_
            refine Wk.lconst (v := 0) X dX2_tryCut_121 (by decide) ?_
            refine Wk.lcmp_eq X 154 dX2_tryCut_122 dX2_tryCut_123 (by decide) (fun c4 => ?_) (fun c4 => ?_)
            · skip
              exact Wk.vret X hr hk (by simp [tcB, tryS, okC, offS, spC, *]) dX2_tryCut_154
            · skip
              refine Wk.aload_n X 3 rfl dX2_tryCut_126 rfl ?_
              refine Wk.get X inX2 15 2 lk21 (fun _ h9 => h9) rfl rfl (by decide) rfl dX2_tryCut_127 ?_
              refine Wk.iload_n X 6 rfl dX2_tryCut_130 rfl ?_
              refine Wk.iload X 7 rfl dX2_tryCut_131 ?_
              refine Wk.iload X 8 rfl dX2_tryCut_133 ?_
              refine Wk.lload X 0 rfl dX2_tryCut_135 ?_
              refine Wk.lload X 0 rfl dX2_tryCut_137 ?_
              refine Wk.lmul X dX2_tryCut_139 ?_
              refine Wk.lload X 10 rfl dX2_tryCut_140 ?_
              refine Wk.lload X 2 rfl dX2_tryCut_142 ?_
              refine Wk.lmul X dX2_tryCut_144 ?_
              refine Wk.aload_n X 3 rfl dX2_tryCut_145 rfl ?_
              refine Wk.get X inX2 15 3 lk39 (fun _ h9 => h9) rfl rfl (by decide) rfl dX2_tryCut_146 ?_
              refine Wk.i2l X dX2_tryCut_149 ?_
              refine Wk.lmul X dX2_tryCut_150 ?_
              refine Wk.callVv (n := 5) (q0 := 18) X (c_X0_offer l dC dI cI cJ cZ h n li gr nb sc t ki fe lm si va he up lo pu pl gh gs bf b1 b2 b3 bu bl se (nI f) cv sd (((y * (((nI gh).toInt64) - x)) - ((gs.toInt64 - y) * x)) * ((y * (((nI gh).toInt64) - x)) - ((gs.toInt64 - y) * x))) ((x * (((nI gh).toInt64) - x)) * ((nI gh).toInt64))) gX2_tryCut_X0_offer rfl (by decide +kernel) (by decide) Fr.all (fun h9 => h9) rfl rfl rfl rfl (Nat.le_of_ble_eq_true rfl) ⟨Nat.zero_le _, Nat.zero_le _⟩ dX2_tryCut_151 ?_
              exact Wk.vret X hr hk (by simp [tcB, tryS, okC, offS, spC, *]) dX2_tryCut_154
      · skip
        refine Wk.aload_n X 0 rfl dX2_tryCut_18 rfl ?_
        refine Wk.get X inX2 15 1 lk15 (fun _ h9 => h9) rfl rfl (by decide) rfl dX2_tryCut_19 ?_
        refine Wk.iload X 9 rfl dX2_tryCut_22 ?_
        refine Wk.iald X 17 0 rfl rfl (by omega) (by decide) dX2_tryCut_24 ?_
        refine Wk.iload_n X 2 rfl dX2_tryCut_25 rfl ?_
        refine Wk.icmp_ne X 62 dX2_tryCut_26 (by decide) (fun c5 => ?_) (fun c5 => ?_)
        · skip
          refine Wk.iincN (n := 1) (lv' := [(11, .int (nI (i + 1))), (0, .ref (h 15)), (1, .ref (h 1)), (2, .int (nI k)), (3, .int (nI f)), (4, .int cv), (5, .int sd), (6, .int le), (7, .long x), (9, .long y)]) X 9 rfl dX2_tryCut_62 (by decide) rfl ?_
          refine Wk.goto X 9 dX2_tryCut_65 (by decide) ?_
          refine Wk.lvs (lv' := [(0, .ref (h 15)), (1, .ref (h 1)), (2, .int (nI k)), (3, .int (nI f)), (4, .int cv), (5, .int sd), (6, .int le), (7, .long x), (9, .long y), (11, .int (nI (i + 1)))]) [1, 2, 3, 4, 5, 6, 7, 8, 9, 0] rfl ?_
          exact ih9 (i + 1) x y (by omega) (by omega) (by simp [tcL, *]) (by simp [tcS, *])
        · skip
          refine Wk.aload_n X 1 rfl dX2_tryCut_29 rfl ?_
          refine Wk.iload X 9 rfl dX2_tryCut_30 ?_
          refine Wk.iload_n X 3 rfl dX2_tryCut_32 rfl ?_
          refine Wk.iload X 4 rfl dX2_tryCut_33 ?_
          refine Wk.iload X 5 rfl dX2_tryCut_35 ?_
          refine Wk.callVi (n := 4) (q0 := 1) X (c_X3_goesLeft l dC dI cI cJ cZ h n li gr nb sc t ki fe lm si va he up lo pu pl gh gs bf b1 b2 b3 bu bl se i f cv sd (by first | omega | assumption) (by first | omega | assumption)) gX2_tryCut_X3_goesLeft rfl (by decide +kernel) (by decide) Fr.all (fun h9 => h9) rfl rfl rfl rfl (Nat.le_of_ble_eq_true rfl) ⟨Nat.zero_le _, Nat.zero_le _⟩ dX2_tryCut_37 ?_
          refine Wk.ifB_eq X 62 dX2_tryCut_40 (by decide) (fun c6 => ?_) (fun c6 => ?_)
          · skip
            refine Wk.iincN (n := 1) (lv' := [(11, .int (nI (i + 1))), (0, .ref (h 15)), (1, .ref (h 1)), (2, .int (nI k)), (3, .int (nI f)), (4, .int cv), (5, .int sd), (6, .int le), (7, .long x), (9, .long y)]) X 9 rfl dX2_tryCut_62 (by decide) rfl ?_
            refine Wk.goto X 9 dX2_tryCut_65 (by decide) ?_
            refine Wk.lvs (lv' := [(0, .ref (h 15)), (1, .ref (h 1)), (2, .int (nI k)), (3, .int (nI f)), (4, .int cv), (5, .int sd), (6, .int le), (7, .long x), (9, .long y), (11, .int (nI (i + 1)))]) [1, 2, 3, 4, 5, 6, 7, 8, 9, 0] rfl ?_
            exact ih9 (i + 1) x y (by omega) (by omega) (by simp [tcL, *]) (by simp [tcS, *])
          · skip
            refine Wk.lload X 7 rfl dX2_tryCut_43 ?_
            refine Wk.lconst (v := 1) X dX2_tryCut_45 (by decide) ?_
            refine Wk.ladd X dX2_tryCut_46 ?_
            refine Wk.lstore (lv' := [(7, .long (x + 1)), (0, .ref (h 15)), (1, .ref (h 1)), (2, .int (nI k)), (3, .int (nI f)), (4, .int cv), (5, .int sd), (6, .int le), (9, .long y), (11, .int (nI i))]) X dX2_tryCut_47 (by decide) rfl ?_
            refine Wk.lload X 8 rfl dX2_tryCut_49 ?_
            refine Wk.aload_n X 1 rfl dX2_tryCut_51 rfl ?_
            refine Wk.get X inX2 15 0 lk9 (fun _ h9 => h9) rfl rfl (by decide) rfl dX2_tryCut_52 ?_
            refine Wk.iload X 9 rfl dX2_tryCut_55 ?_
            refine Wk.iald X 16 0 rfl rfl (by omega) (by decide) dX2_tryCut_57 ?_
            refine Wk.i2l X dX2_tryCut_58 ?_
            refine Wk.ladd X dX2_tryCut_59 ?_
            refine Wk.lstore (lv' := [(9, .long (y + ((pu i).toInt64))), (7, .long (x + 1)), (0, .ref (h 15)), (1, .ref (h 1)), (2, .int (nI k)), (3, .int (nI f)), (4, .int cv), (5, .int sd), (6, .int le), (11, .int (nI i))]) X dX2_tryCut_60 (by decide) rfl ?_
            refine Wk.iincN (n := 1) (lv' := [(11, .int (nI (i + 1))), (9, .long (y + ((pu i).toInt64))), (7, .long (x + 1)), (0, .ref (h 15)), (1, .ref (h 1)), (2, .int (nI k)), (3, .int (nI f)), (4, .int cv), (5, .int sd), (6, .int le)]) X 9 rfl dX2_tryCut_62 (by decide) rfl ?_
            refine Wk.goto X 9 dX2_tryCut_65 (by decide) ?_
            refine Wk.lvs (lv' := [(0, .ref (h 15)), (1, .ref (h 1)), (2, .int (nI k)), (3, .int (nI f)), (4, .int cv), (5, .int sd), (6, .int le), (7, .long (x + 1)), (9, .long (y + ((pu i).toInt64))), (11, .int (nI (i + 1)))]) [3, 4, 5, 6, 7, 8, 9, 2, 1, 0] rfl ?_
            exact ih9 (i + 1) (x + 1) (y + ((pu i).toInt64)) (by omega) (by omega) (by simp [tcL, *]) (by simp [tcS, *])
  refine Wk.lvs (lv' := [(0, .ref (h 15)), (1, .ref (h 1)), (2, .int (nI k)), (3, .int (nI f)), (4, .int cv), (5, .int sd), (6, .int le), (7, .long 0), (9, .long 0), (11, .int (nI 0))]) [3, 4, 5, 6, 7, 8, 9, 2, 1, 0] rfl ?_
  exact L9 (n + 1) 0 0 0 (by omega) (by omega) (by rfl) (by rfl)

set_option maxHeartbeats 4000000 in
set_option maxRecDepth 100000 in
theorem c_X2_seekCut (l : Launch) (dC : Nat → ClassId) (dI : Nat → Nat → Nat) (cI cJ cZ : ClassId) (h : Nat → Nat) (n : Nat) (li : Nat → Int32) (gr : Nat → Int32) (nb : Nat → Int32) (sc : Nat → Int64) (t : Nat) (ki : Nat → Int32) (fe : Nat → Int32) (lm : Nat → Int32) (si : Nat → Int32) (va : Nat → Int32) (he : Nat → Int32) (up : Nat → Int64) (lo : Nat → Int64) (pu : Nat → Int32) (pl : Nat → Int32) (gh : Nat) (gs : Int32) (bf : Bool) (b1 : Int32) (b2 : Int32) (b3 : Int32) (bu : Int64) (bl : Int64) (se : Nat → Int32) (k : Nat) (le : Int32) (hn0 : n ≤ 24) : Cv l yX2_seekCut wsX2_seekCut 3 94 (dC, dI) cl6 (TY cI cJ cZ) false [.ref (h 15), .ref (h 1), .int (nI k), .int le] (Wc h cI cJ cZ n li gr nb sc t ki fe lm si va he up lo pu pl gh gs bf b1 b2 b3 bu bl se) (Wc h cI cJ cZ n li gr nb sc t ki fe lm si va he up lo pu pl gh gs ((skF n pl nb pu gh gs k le 4 (bf, b1, b2, b3, bu, bl)).1) ((skF n pl nb pu gh gs k le 4 (bf, b1, b2, b3, bu, bl)).2.1) ((skF n pl nb pu gh gs k le 4 (bf, b1, b2, b3, bu, bl)).2.2.1) ((skF n pl nb pu gh gs k le 4 (bf, b1, b2, b3, bu, bl)).2.2.2.1) ((skF n pl nb pu gh gs k le 4 (bf, b1, b2, b3, bu, bl)).2.2.2.2.1) ((skF n pl nb pu gh gs k le 4 (bf, b1, b2, b3, bu, bl)).2.2.2.2.2) se) := by
  refine Cv.of (cc := cX2_seekCut) (maxL := 8) (own := RX2) rfl (plainFor_of_name (by decide)) rfl (Nat.le_of_ble_eq_true rfl) ?_
  intro pg ev s0 md ar bw mt cd A X hr hk
  show Wk pg l ev _ s0 md ar bw mt cd 0 0 _ 8 (dC, dI) cl6 A 0 [(0, .ref (h 15)), (1, .ref (h 1)), (2, .int (nI k)), (3, .int le)] [] (Wc h cI cJ cZ n li gr nb sc t ki fe lm si va he up lo pu pl gh gs bf b1 b2 b3 bu bl se)
  have inX2 : ∀ w ∈ u_ws RX2 TX2 5, w ∈ wsX2_seekCut := by decide +kernel
  have inX3 : ∀ w ∈ u_ws RX3 TX3 5, w ∈ wsX2_seekCut := by decide +kernel
  have lk15 := X.w (.fieldLink RX2 15 "PairedTrees$Grower" "places" "[I") (by decide +kernel)
  have lk25 := X.w (.fieldLink RX2 25 "PairedTrees$Things" "count" "I") (by decide +kernel)
  refine Wk.iconst (v := nI 0) X dX2_seekCut_0 (by decide) ?_
  refine Wk.istore (lv' := [(4, .int (nI 0)), (0, .ref (h 15)), (1, .ref (h 1)), (2, .int (nI k)), (3, .int le)]) X dX2_seekCut_1 (by decide) rfl ?_
  have L3 : ∀ (fu3 : Nat) (f : Nat) (B : BS) (hq : 5 ≤ f + fu3) (hf : f ≤ 4) (hB : B = skF n pl nb pu gh gs k le f (bf, b1, b2, b3, bu, bl)), Wk pg l ev ({ frames := 3, cells := 0, slots := 0, locals := 94 } : Room) s0 md ar bw mt cd 0 0 (QRv bw ar s0 (dC, dI) cl6 (TY cI cJ cZ) A (Wc h cI cJ cZ n li gr nb sc t ki fe lm si va he up lo pu pl gh gs ((skF n pl nb pu gh gs k le 4 (bf, b1, b2, b3, bu, bl)).1) ((skF n pl nb pu gh gs k le 4 (bf, b1, b2, b3, bu, bl)).2.1) ((skF n pl nb pu gh gs k le 4 (bf, b1, b2, b3, bu, bl)).2.2.1) ((skF n pl nb pu gh gs k le 4 (bf, b1, b2, b3, bu, bl)).2.2.2.1) ((skF n pl nb pu gh gs k le 4 (bf, b1, b2, b3, bu, bl)).2.2.2.2.1) ((skF n pl nb pu gh gs k le 4 (bf, b1, b2, b3, bu, bl)).2.2.2.2.2) se)) 8 (dC, dI) cl6 A 3 [(0, .ref (h 15)), (1, .ref (h 1)), (2, .int (nI k)), (3, .int le), (4, .int (nI f))] [] (Wc h cI cJ cZ n li gr nb sc t ki fe lm si va he up lo pu pl gh gs B.1 B.2.1 B.2.2.1 B.2.2.2.1 B.2.2.2.2.1 B.2.2.2.2.2 se) := by
    intro fu3
    induction fu3 with
    | zero => intro f B hq hf hB; exact absurd hq (by omega)
    | succ fu3 ih3 =>
      intro f B hq hf hB
      refine Wk.iload X 4 rfl dX2_seekCut_3 ?_
      refine Wk.iconst (v := nI 4) X dX2_seekCut_5 (by decide) ?_
      refine Wk.icmpN_ge X 90 (by omega) (by omega) dX2_seekCut_6 (by decide) (fun c1 => ?_) (fun c1 => ?_)
      · skip
        exact Wk.vret X hr hk (by rw [hB, show f = 4 by omega]) dX2_seekCut_90
      · skip
        refine Wk.iconst (v := nI 0) X dX2_seekCut_9 (by decide) ?_
        refine Wk.istore (lv' := [(5, .int (nI 0)), (0, .ref (h 15)), (1, .ref (h 1)), (2, .int (nI k)), (3, .int le), (4, .int (nI f))]) X dX2_seekCut_10 (by decide) rfl ?_
        have L12 : ∀ (fu12 : Nat) (i : Nat) (B2 : BS) (hq2 : n + 1 ≤ i + fu12) (hi : i ≤ n) (hB2 : B2 = skI n pl nb pu gh gs k le f i B), Wk pg l ev ({ frames := 3, cells := 0, slots := 0, locals := 94 } : Room) s0 md ar bw mt cd 0 0 (QRv bw ar s0 (dC, dI) cl6 (TY cI cJ cZ) A (Wc h cI cJ cZ n li gr nb sc t ki fe lm si va he up lo pu pl gh gs ((skF n pl nb pu gh gs k le 4 (bf, b1, b2, b3, bu, bl)).1) ((skF n pl nb pu gh gs k le 4 (bf, b1, b2, b3, bu, bl)).2.1) ((skF n pl nb pu gh gs k le 4 (bf, b1, b2, b3, bu, bl)).2.2.1) ((skF n pl nb pu gh gs k le 4 (bf, b1, b2, b3, bu, bl)).2.2.2.1) ((skF n pl nb pu gh gs k le 4 (bf, b1, b2, b3, bu, bl)).2.2.2.2.1) ((skF n pl nb pu gh gs k le 4 (bf, b1, b2, b3, bu, bl)).2.2.2.2.2) se)) 8 (dC, dI) cl6 A 12 [(0, .ref (h 15)), (1, .ref (h 1)), (2, .int (nI k)), (3, .int le), (4, .int (nI f)), (5, .int (nI i))] [] (Wc h cI cJ cZ n li gr nb sc t ki fe lm si va he up lo pu pl gh gs B2.1 B2.2.1 B2.2.2.1 B2.2.2.2.1 B2.2.2.2.2.1 B2.2.2.2.2.2 se) := by
          intro fu12
          induction fu12 with
          | zero => intro i B2 hq2 hi hB2; exact absurd hq2 (by omega)
          | succ fu12 ih12 =>
            intro i B2 hq2 hi hB2
            refine Wk.iload X 5 rfl dX2_seekCut_12 ?_
            refine Wk.aload_n X 1 rfl dX2_seekCut_14 rfl ?_
            refine Wk.get X inX3 1 0 lk25 (fun _ h9 => h9) rfl rfl (by decide) rfl dX2_seekCut_15 ?_
            refine Wk.icmpN_ge X 84 (by omega) (by omega) dX2_seekCut_18 (by decide) (fun c2 => ?_) (fun c2 => ?_)
            · skip
              refine Wk.iincN (n := 1) (lv' := [(4, .int (nI (f + 1))), (0, .ref (h 15)), (1, .ref (h 1)), (2, .int (nI k)), (3, .int le), (5, .int (nI i))]) X 4 rfl dX2_seekCut_84 (by decide) rfl ?_
              refine Wk.goto X 3 dX2_seekCut_87 (by decide) ?_
              refine Wk.lvs (lv' := [(0, .ref (h 15)), (1, .ref (h 1)), (2, .int (nI k)), (3, .int le), (4, .int (nI (f + 1)))]) [1, 2, 3, 4, 0] rfl ?_
              exact ih3 (f + 1) B2 (by omega) (by omega) (by rw [hB2, hB, show i = n by omega]; rfl)
            · skip
              refine Wk.aload_n X 1 rfl dX2_seekCut_21 rfl ?_
              refine Wk.iload X 5 rfl dX2_seekCut_22 ?_
              refine Wk.iload X 4 rfl dX2_seekCut_24 ?_
              refine Wk.callVi (n := 2) (q0 := 1) X (c_X3_numberAt l dC dI cI cJ cZ h n li gr nb sc t ki fe lm si va he up lo pu pl gh gs B2.1 B2.2.1 B2.2.2.1 B2.2.2.2.1 B2.2.2.2.2.1 B2.2.2.2.2.2 se i f (by first | omega | assumption) (by first | omega | assumption)) gX2_seekCut_X3_numberAt rfl (by decide +kernel) (by decide) Fr.all (fun h9 => h9) rfl rfl rfl rfl (Nat.le_of_ble_eq_true rfl) ⟨Nat.zero_le _, Nat.zero_le _⟩ dX2_seekCut_26 ?_
              refine Wk.istore (lv' := [(6, .int (nb (i * 4 + f))), (0, .ref (h 15)), (1, .ref (h 1)), (2, .int (nI k)), (3, .int le), (4, .int (nI f)), (5, .int (nI i))]) X dX2_seekCut_29 (by decide) rfl ?_
              refine Wk.aload_n X 1 rfl dX2_seekCut_31 rfl ?_
              refine Wk.get X inX2 15 1 lk15 (fun _ h9 => h9) rfl rfl (by decide) rfl dX2_seekCut_32 ?_
              refine Wk.iload X 6 rfl dX2_seekCut_35 ?_
              refine Wk.iald X 17 0 rfl rfl (by omega) (by decide) dX2_seekCut_37 ?_
              refine Wk.iload_n X 3 rfl dX2_seekCut_38 rfl ?_
              refine Wk.icmp_ne X 78 dX2_seekCut_39 (by decide) (fun c3 => ?_) (fun c3 => ?_)
              · skip
                refine Wk.iincN (n := 1) (lv' := [(5, .int (nI (i + 1))), (6, .int (nb (i * 4 + f))), (0, .ref (h 15)), (1, .ref (h 1)), (2, .int (nI k)), (3, .int le), (4, .int (nI f))]) X 6 rfl dX2_seekCut_78 (by decide) rfl ?_
                refine Wk.goto X 12 dX2_seekCut_81 (by decide) ?_
                refine Wk.lvs (lv' := [(0, .ref (h 15)), (1, .ref (h 1)), (2, .int (nI k)), (3, .int le), (4, .int (nI f)), (5, .int (nI (i + 1)))]) [2, 3, 4, 5, 6, 0] rfl ?_
                exact ih12 (i + 1) B2 (by omega) (by omega) (by first | (simp [skI, *]; done) | (rw [hB3, show j = 2 by omega, hB2]; simp [skI, *]))
              · skip
                refine Wk.iload X 0 rfl dX2_seekCut_42 ?_
                refine Wk.sipush (v := -1001) X dX2_seekCut_44 (by decide) ?_
                refine Wk.icmp_eq X 78 dX2_seekCut_47 (by decide) (fun c4 => ?_) (fun c4 => ?_)
                · skip
                  refine Wk.iincN (n := 1) (lv' := [(5, .int (nI (i + 1))), (6, .int (nb (i * 4 + f))), (0, .ref (h 15)), (1, .ref (h 1)), (2, .int (nI k)), (3, .int le), (4, .int (nI f))]) X 6 rfl dX2_seekCut_78 (by decide) rfl ?_
                  refine Wk.goto X 12 dX2_seekCut_81 (by decide) ?_
                  refine Wk.lvs (lv' := [(0, .ref (h 15)), (1, .ref (h 1)), (2, .int (nI k)), (3, .int le), (4, .int (nI f)), (5, .int (nI (i + 1)))]) [2, 3, 4, 5, 6, 0] rfl ?_
                  exact ih12 (i + 1) B2 (by omega) (by omega) (by first | (simp [skI, *]; done) | (rw [hB3, show j = 2 by omega, hB2]; simp [skI, *]))
                · skip
                  refine Wk.iconst (v := nI 0) X dX2_seekCut_50 (by decide) ?_
                  refine Wk.istore (lv' := [(7, .int (nI 0)), (6, .int (nb (i * 4 + f))), (0, .ref (h 15)), (1, .ref (h 1)), (2, .int (nI k)), (3, .int le), (4, .int (nI f)), (5, .int (nI i))]) X dX2_seekCut_51 (by decide) rfl ?_
                  have L53 : ∀ (fu53 : Nat) (j : Nat) (B3 : BS) (hq3 : 3 ≤ j + fu53) (hj : j ≤ 2) (hB3 : B3 = sdC n pl nb pu gh gs k le f (nb (i * 4 + f)) j B2), Wk pg l ev ({ frames := 3, cells := 0, slots := 0, locals := 94 } : Room) s0 md ar bw mt cd 0 0 (QRv bw ar s0 (dC, dI) cl6 (TY cI cJ cZ) A (Wc h cI cJ cZ n li gr nb sc t ki fe lm si va he up lo pu pl gh gs ((skF n pl nb pu gh gs k le 4 (bf, b1, b2, b3, bu, bl)).1) ((skF n pl nb pu gh gs k le 4 (bf, b1, b2, b3, bu, bl)).2.1) ((skF n pl nb pu gh gs k le 4 (bf, b1, b2, b3, bu, bl)).2.2.1) ((skF n pl nb pu gh gs k le 4 (bf, b1, b2, b3, bu, bl)).2.2.2.1) ((skF n pl nb pu gh gs k le 4 (bf, b1, b2, b3, bu, bl)).2.2.2.2.1) ((skF n pl nb pu gh gs k le 4 (bf, b1, b2, b3, bu, bl)).2.2.2.2.2) se)) 8 (dC, dI) cl6 A 53 [(0, .ref (h 15)), (1, .ref (h 1)), (2, .int (nI k)), (3, .int le), (4, .int (nI f)), (5, .int (nI i)), (6, .int (nb (i * 4 + f))), (7, .int (nI j))] [] (Wc h cI cJ cZ n li gr nb sc t ki fe lm si va he up lo pu pl gh gs B3.1 B3.2.1 B3.2.2.1 B3.2.2.2.1 B3.2.2.2.2.1 B3.2.2.2.2.2 se) := by
                    intro fu53
                    induction fu53 with
                    | zero => intro j B3 hq3 hj hB3; exact absurd hq3 (by omega)
                    | succ fu53 ih53 =>
                      intro j B3 hq3 hj hB3
                      refine Wk.iload X 7 rfl dX2_seekCut_53 ?_
                      refine Wk.iconst (v := nI 2) X dX2_seekCut_55 (by decide) ?_
                      refine Wk.icmpN_ge X 78 (by omega) (by omega) dX2_seekCut_56 (by decide) (fun c5 => ?_) (fun c5 => ?_)
                      · skip
                        refine Wk.iincN (n := 1) (lv' := [(5, .int (nI (i + 1))), (0, .ref (h 15)), (1, .ref (h 1)), (2, .int (nI k)), (3, .int le), (4, .int (nI f)), (6, .int (nb (i * 4 + f))), (7, .int (nI j))]) X 5 rfl dX2_seekCut_78 (by decide) rfl ?_
                        refine Wk.goto X 12 dX2_seekCut_81 (by decide) ?_
                        refine Wk.lvs (lv' := [(0, .ref (h 15)), (1, .ref (h 1)), (2, .int (nI k)), (3, .int le), (4, .int (nI f)), (5, .int (nI (i + 1)))]) [1, 2, 3, 4, 5, 0] rfl ?_
                        exact ih12 (i + 1) B3 (by omega) (by omega) (by first | (simp [skI, *]; done) | (rw [hB3, show j = 2 by omega, hB2]; simp [skI, *]))
                      · skip
                        refine Wk.aload_n X 0 rfl dX2_seekCut_59 rfl ?_
                        refine Wk.aload_n X 1 rfl dX2_seekCut_60 rfl ?_
                        refine Wk.iload_n X 2 rfl dX2_seekCut_61 rfl ?_
                        refine Wk.iload X 4 rfl dX2_seekCut_62 ?_
                        refine Wk.iload X 6 rfl dX2_seekCut_64 ?_
                        refine Wk.iload X 7 rfl dX2_seekCut_66 ?_
                        refine Wk.iload_n X 3 rfl dX2_seekCut_68 rfl ?_
                        refine Wk.callVv (n := 6) (q0 := 15) X (c_X2_tryCut l dC dI cI cJ cZ h n li gr nb sc t ki fe lm si va he up lo pu pl gh gs B3.1 B3.2.1 B3.2.2.1 B3.2.2.2.1 B3.2.2.2.2.1 B3.2.2.2.2.2 se k f (nb (i * 4 + f)) (nI j) le (by first | omega | assumption) (by first | omega | assumption)) gX2_seekCut_X2_tryCut rfl (by decide +kernel) (by decide) Fr.all (fun h9 => h9) rfl rfl rfl rfl (Nat.le_of_ble_eq_true rfl) ⟨Nat.zero_le _, Nat.zero_le _⟩ dX2_seekCut_69 ?_
                        refine Wk.iincN (n := 1) (lv' := [(7, .int (nI (j + 1))), (0, .ref (h 15)), (1, .ref (h 1)), (2, .int (nI k)), (3, .int le), (4, .int (nI f)), (5, .int (nI i)), (6, .int (nb (i * 4 + f)))]) X 7 rfl dX2_seekCut_72 (by decide) rfl ?_
                        refine Wk.goto X 53 dX2_seekCut_75 (by decide) ?_
                        refine Wk.lvs (lv' := [(0, .ref (h 15)), (1, .ref (h 1)), (2, .int (nI k)), (3, .int le), (4, .int (nI f)), (5, .int (nI i)), (6, .int (nb (i * 4 + f))), (7, .int (nI (j + 1)))]) [1, 2, 3, 4, 5, 6, 7, 0] rfl ?_
                        exact ih53 (j + 1) ((tcB n pl nb pu gh gs k le f (nb (i * 4 + f)) (nI j) (B3.1, B3.2.1, B3.2.2.1, B3.2.2.2.1, B3.2.2.2.2.1, B3.2.2.2.2.2))) (by omega) (by omega) (by rw [hB3]; rfl)
                  refine Wk.lvs (lv' := [(0, .ref (h 15)), (1, .ref (h 1)), (2, .int (nI k)), (3, .int le), (4, .int (nI f)), (5, .int (nI i)), (6, .int (nb (i * 4 + f))), (7, .int (nI 0))]) [2, 3, 4, 5, 6, 7, 1, 0] rfl ?_
                  exact L53 3 0 B2 (by omega) (by omega) (by rfl)
        refine Wk.lvs (lv' := [(0, .ref (h 15)), (1, .ref (h 1)), (2, .int (nI k)), (3, .int le), (4, .int (nI f)), (5, .int (nI 0))]) [1, 2, 3, 4, 5, 0] rfl ?_
        exact L12 (n + 1) 0 B (by omega) (by omega) (by rfl)
  refine Wk.lvs (lv' := [(0, .ref (h 15)), (1, .ref (h 1)), (2, .int (nI k)), (3, .int le), (4, .int (nI 0))]) [1, 2, 3, 4, 0] rfl ?_
  exact L3 5 0 ((bf, b1, b2, b3, bu, bl)) (by omega) (by omega) (by rfl)

set_option maxHeartbeats 4000000 in
set_option maxRecDepth 100000 in
theorem c_X2_part (l : Launch) (dC : Nat → ClassId) (dI : Nat → Nat → Nat) (cI cJ cZ : ClassId) (h : Nat → Nat) (n : Nat) (li : Nat → Int32) (gr : Nat → Int32) (nb : Nat → Int32) (sc : Nat → Int64) (t : Nat) (ki : Nat → Int32) (fe : Nat → Int32) (lm : Nat → Int32) (si : Nat → Int32) (va : Nat → Int32) (he : Nat → Int32) (up : Nat → Int64) (lo : Nat → Int64) (pu : Nat → Int32) (pl : Nat → Int32) (gh : Nat) (gs : Int32) (bf : Bool) (b1 : Int32) (b2 : Int32) (b3 : Int32) (bu : Int64) (bl : Int64) (se : Nat → Int32) (k : Nat) (hn0 : n ≤ 24) (hb1 : ∃ f, f < 4 ∧ b1 = nI f) : Cv l yX2_part wsX2_part 2 47 (dC, dI) cl6 (TY cI cJ cZ) false [.ref (h 15), .ref (h 1), .int (nI k)] (Wc h cI cJ cZ n li gr nb sc t ki fe lm si va he up lo pu pl gh gs bf b1 b2 b3 bu bl se) (Wc h cI cJ cZ n li gr nb sc t ki fe lm si va he up lo pu (ptC nb b1 b2 b3 k n pl) gh gs bf b1 b2 b3 bu bl se) := by
  obtain ⟨f1, hf1, ef1⟩ := hb1
  have ec : b1.toNatClampNeg = f1 := by rw [ef1]; exact nI_clamp (by omega)
  refine Cv.of (cc := cX2_part) (maxL := 5) (own := RX2) rfl (plainFor_of_name (by decide)) rfl (Nat.le_of_ble_eq_true rfl) ?_
  intro pg ev s0 md ar bw mt cd A X hr hk
  show Wk pg l ev _ s0 md ar bw mt cd 0 0 _ 5 (dC, dI) cl6 A 0 [(0, .ref (h 15)), (1, .ref (h 1)), (2, .int (nI k))] [] (Wc h cI cJ cZ n li gr nb sc t ki fe lm si va he up lo pu pl gh gs bf b1 b2 b3 bu bl se)
  have inX0 : ∀ w ∈ u_ws RX0 TX0 6, w ∈ wsX2_part := by decide +kernel
  have inX2 : ∀ w ∈ u_ws RX2 TX2 5, w ∈ wsX2_part := by decide +kernel
  have inX3 : ∀ w ∈ u_ws RX3 TX3 5, w ∈ wsX2_part := by decide +kernel
  have lk15 := X.w (.fieldLink RX2 15 "PairedTrees$Grower" "places" "[I") (by decide +kernel)
  have lk21 := X.w (.fieldLink RX2 21 "PairedTrees$Grower" "best" "LPairedTrees$BestCut;") (by decide +kernel)
  have lk25 := X.w (.fieldLink RX2 25 "PairedTrees$Things" "count" "I") (by decide +kernel)
  have lk94 := X.w (.fieldLink RX2 94 "PairedTrees$BestCut" "feature" "I") (by decide +kernel)
  have lk97 := X.w (.fieldLink RX2 97 "PairedTrees$BestCut" "limit" "I") (by decide +kernel)
  have lk100 := X.w (.fieldLink RX2 100 "PairedTrees$BestCut" "side" "I") (by decide +kernel)
  refine Wk.iconst (v := nI 0) X dX2_part_0 (by decide) ?_
  refine Wk.istore_n (lv' := [(3, .int (nI 0)), (0, .ref (h 15)), (1, .ref (h 1)), (2, .int (nI k))]) X dX2_part_1 rfl (by decide) rfl ?_
  have L2 : ∀ (fu2 : Nat) (i : Nat) (q : Nat → Int32) (hq : n + 1 ≤ i + fu2) (hi : i ≤ n) (hq2 : q = ptC nb b1 b2 b3 k i pl), Wk pg l ev ({ frames := 2, cells := 0, slots := 0, locals := 47 } : Room) s0 md ar bw mt cd 0 0 (QRv bw ar s0 (dC, dI) cl6 (TY cI cJ cZ) A (Wc h cI cJ cZ n li gr nb sc t ki fe lm si va he up lo pu (ptC nb b1 b2 b3 k n pl) gh gs bf b1 b2 b3 bu bl se)) 5 (dC, dI) cl6 A 2 [(0, .ref (h 15)), (1, .ref (h 1)), (2, .int (nI k)), (3, .int (nI i))] [] (Wc h cI cJ cZ n li gr nb sc t ki fe lm si va he up lo pu q gh gs bf b1 b2 b3 bu bl se) := by
    intro fu2
    induction fu2 with
    | zero => intro i q hq hi hq2; exact absurd hq (by omega)
    | succ fu2 ih2 =>
      intro i q hq hi hq2
      refine Wk.iload_n X 3 rfl dX2_part_2 rfl ?_
      refine Wk.aload_n X 1 rfl dX2_part_3 rfl ?_
      refine Wk.get X inX3 1 0 lk25 (fun _ h9 => h9) rfl rfl (by decide) rfl dX2_part_4 ?_
      refine Wk.icmpN_ge X 78 (by omega) (by omega) dX2_part_7 (by decide) (fun c1 => ?_) (fun c1 => ?_)
      · skip
        exact Wk.vret X hr hk (by rw [hq2, show i = n by omega]) dX2_part_78
      · skip
        refine Wk.aload_n X 0 rfl dX2_part_10 rfl ?_
        refine Wk.get X inX2 15 1 lk15 (fun _ h9 => h9) rfl rfl (by decide) rfl dX2_part_11 ?_
        refine Wk.iload_n X 3 rfl dX2_part_14 rfl ?_
        refine Wk.iald X 17 0 rfl rfl (by omega) (by decide) dX2_part_15 ?_
        refine Wk.iload_n X 2 rfl dX2_part_16 rfl ?_
        refine Wk.icmp_ne X 72 dX2_part_17 (by decide) (fun c2 => ?_) (fun c2 => ?_)
        · skip
          refine Wk.iincN (n := 1) (lv' := [(3, .int (nI (i + 1))), (0, .ref (h 15)), (1, .ref (h 1)), (2, .int (nI k))]) X 3 rfl dX2_part_72 (by decide) rfl ?_
          refine Wk.goto X 2 dX2_part_75 (by decide) ?_
          refine Wk.lvs (lv' := [(0, .ref (h 15)), (1, .ref (h 1)), (2, .int (nI k)), (3, .int (nI (i + 1)))]) [1, 2, 3, 0] rfl ?_
          exact ih2 (i + 1) q (by omega) (by omega) (by subst hq2; clear ef1; simp [ptC, *])
        · skip
          refine Wk.aload_n X 1 rfl dX2_part_20 rfl ?_
          refine Wk.iload_n X 3 rfl dX2_part_21 rfl ?_
          refine Wk.aload_n X 0 rfl dX2_part_22 rfl ?_
          refine Wk.get X inX2 15 2 lk21 (fun _ h9 => h9) rfl rfl (by decide) rfl dX2_part_23 ?_
          refine Wk.get X inX0 18 1 lk94 (fun _ h9 => h9) rfl rfl (by decide) rfl dX2_part_26 ?_
          refine Wk.topi ef1 ?_
          refine Wk.aload_n X 0 rfl dX2_part_29 rfl ?_
          refine Wk.get X inX2 15 2 lk21 (fun _ h9 => h9) rfl rfl (by decide) rfl dX2_part_30 ?_
          refine Wk.get X inX0 18 2 lk97 (fun _ h9 => h9) rfl rfl (by decide) rfl dX2_part_33 ?_
          refine Wk.aload_n X 0 rfl dX2_part_36 rfl ?_
          refine Wk.get X inX2 15 2 lk21 (fun _ h9 => h9) rfl rfl (by decide) rfl dX2_part_37 ?_
          refine Wk.get X inX0 18 3 lk100 (fun _ h9 => h9) rfl rfl (by decide) rfl dX2_part_40 ?_
          refine Wk.callVi (n := 4) (q0 := 1) X (c_X3_goesLeft l dC dI cI cJ cZ h n li gr nb sc t ki fe lm si va he up lo pu q gh gs bf b1 b2 b3 bu bl se i f1 b2 b3 (by first | omega | assumption) (by first | omega | assumption)) gX2_part_X3_goesLeft rfl (by decide +kernel) (by decide) Fr.all (fun h9 => h9) rfl rfl rfl rfl (Nat.le_of_ble_eq_true rfl) ⟨Nat.zero_le _, Nat.zero_le _⟩ dX2_part_43 ?_
          refine Wk.istore (lv' := [(4, .int (bI (glC nb i f1 b2 b3))), (0, .ref (h 15)), (1, .ref (h 1)), (2, .int (nI k)), (3, .int (nI i))]) X dX2_part_46 (by decide) rfl ?_
          refine Wk.aload_n X 1 rfl dX2_part_48 rfl ?_
          refine Wk.get X inX2 15 1 lk15 (fun _ h9 => h9) rfl rfl (by decide) rfl dX2_part_49 ?_
          refine Wk.iload_n X 4 rfl dX2_part_52 rfl ?_
          refine Wk.iload X 0 rfl dX2_part_53 ?_
          refine Wk.ifB_eq X 66 dX2_part_55 (by decide) (fun c3 => ?_) (fun c3 => ?_)
          · skip
            refine Wk.iconst (v := nI 2) X dX2_part_66 (by decide) ?_
            refine Wk.iload_n X 3 rfl dX2_part_67 rfl ?_
            refine Wk.imulN X dX2_part_68 ?_
            refine Wk.iconst (v := nI 2) X dX2_part_69 (by decide) ?_
            refine Wk.iaddN X dX2_part_70 ?_
            refine Wk.iast (ws' := Wc h cI cJ cZ n li gr nb sc t ki fe lm si va he up lo pu (upd q i (nI (2 * k + 2))) gh gs bf b1 b2 b3 bu bl se) X 17 0 rfl rfl (by omega) (by decide) rfl dX2_part_71 ?_
            refine Wk.iincN (n := 1) (lv' := [(3, .int (nI (i + 1))), (4, .int (bI (glC nb i f1 b2 b3))), (0, .ref (h 15)), (1, .ref (h 1)), (2, .int (nI k))]) X 4 rfl dX2_part_72 (by decide) rfl ?_
            refine Wk.goto X 2 dX2_part_75 (by decide) ?_
            refine Wk.lvs (lv' := [(0, .ref (h 15)), (1, .ref (h 1)), (2, .int (nI k)), (3, .int (nI (i + 1)))]) [2, 3, 4, 0] rfl ?_
            exact ih2 (i + 1) (upd q i (nI (2 * k + 2))) (by omega) (by omega) (by subst hq2; clear ef1; simp [ptC, *])
          · skip
            refine Wk.iconst (v := nI 2) X dX2_part_58 (by decide) ?_
            refine Wk.iload_n X 3 rfl dX2_part_59 rfl ?_
            refine Wk.imulN X dX2_part_60 ?_
            refine Wk.iconst (v := nI 1) X dX2_part_61 (by decide) ?_
            refine Wk.iaddN X dX2_part_62 ?_
            refine Wk.goto X 71 dX2_part_63 (by decide) ?_
            refine Wk.iast (ws' := Wc h cI cJ cZ n li gr nb sc t ki fe lm si va he up lo pu (upd q i (nI (2 * k + 1))) gh gs bf b1 b2 b3 bu bl se) X 17 0 rfl rfl (by omega) (by decide) rfl dX2_part_71 ?_
            refine Wk.iincN (n := 1) (lv' := [(3, .int (nI (i + 1))), (4, .int (bI (glC nb i f1 b2 b3))), (0, .ref (h 15)), (1, .ref (h 1)), (2, .int (nI k))]) X 4 rfl dX2_part_72 (by decide) rfl ?_
            refine Wk.goto X 2 dX2_part_75 (by decide) ?_
            refine Wk.lvs (lv' := [(0, .ref (h 15)), (1, .ref (h 1)), (2, .int (nI k)), (3, .int (nI (i + 1)))]) [2, 3, 4, 0] rfl ?_
            exact ih2 (i + 1) (upd q i (nI (2 * k + 1))) (by omega) (by omega) (by subst hq2; clear ef1; simp [ptC, *])
  refine Wk.lvs (lv' := [(0, .ref (h 15)), (1, .ref (h 1)), (2, .int (nI k)), (3, .int (nI 0))]) [1, 2, 3, 0] rfl ?_
  exact L2 (n + 1) 0 pl (by omega) (by omega) (by rfl)

set_option maxHeartbeats 4000000 in
set_option maxRecDepth 100000 in
theorem c_X2_growNode (l : Launch) (dC : Nat → ClassId) (dI : Nat → Nat → Nat) (cI cJ cZ : ClassId) (h : Nat → Nat) (n : Nat) (li : Nat → Int32) (gr : Nat → Int32) (nb : Nat → Int32) (sc : Nat → Int64) (t : Nat) (ki : Nat → Int32) (fe : Nat → Int32) (lm : Nat → Int32) (si : Nat → Int32) (va : Nat → Int32) (he : Nat → Int32) (up : Nat → Int64) (lo : Nat → Int64) (pu : Nat → Int32) (pl : Nat → Int32) (gh : Nat) (gs : Int32) (bf : Bool) (b1 : Int32) (b2 : Int32) (b3 : Int32) (bu : Int64) (bl : Int64) (se : Nat → Int32) (tr : Nat) (k : Nat) (hn0 : n ≤ 24) (ht0 : tr < 20) (hk0 : k < 15) : Cv l yX2_growNode wsX2_growNode 4 121 (dC, dI) cl6 (TY cI cJ cZ) false [.ref (h 15), .ref (h 1), .ref (h 6), .int (nI tr), .int (nI k), .ref (h 19)] (Wc h cI cJ cZ n li gr nb sc t ki fe lm si va he up lo pu pl gh gs bf b1 b2 b3 bu bl se) (Wc h cI cJ cZ n li gr nb sc t ((gnC n nb pu gh gs se tr k (pl, (bf, b1, b2, b3, bu, bl), ki, fe, lm, si, va, he, up, lo)).2.2.1) ((gnC n nb pu gh gs se tr k (pl, (bf, b1, b2, b3, bu, bl), ki, fe, lm, si, va, he, up, lo)).2.2.2.1) ((gnC n nb pu gh gs se tr k (pl, (bf, b1, b2, b3, bu, bl), ki, fe, lm, si, va, he, up, lo)).2.2.2.2.1) ((gnC n nb pu gh gs se tr k (pl, (bf, b1, b2, b3, bu, bl), ki, fe, lm, si, va, he, up, lo)).2.2.2.2.2.1) ((gnC n nb pu gh gs se tr k (pl, (bf, b1, b2, b3, bu, bl), ki, fe, lm, si, va, he, up, lo)).2.2.2.2.2.2.1) ((gnC n nb pu gh gs se tr k (pl, (bf, b1, b2, b3, bu, bl), ki, fe, lm, si, va, he, up, lo)).2.2.2.2.2.2.2.1) ((gnC n nb pu gh gs se tr k (pl, (bf, b1, b2, b3, bu, bl), ki, fe, lm, si, va, he, up, lo)).2.2.2.2.2.2.2.2.1) ((gnC n nb pu gh gs se tr k (pl, (bf, b1, b2, b3, bu, bl), ki, fe, lm, si, va, he, up, lo)).2.2.2.2.2.2.2.2.2) pu ((gnC n nb pu gh gs se tr k (pl, (bf, b1, b2, b3, bu, bl), ki, fe, lm, si, va, he, up, lo)).1) gh gs ((gnC n nb pu gh gs se tr k (pl, (bf, b1, b2, b3, bu, bl), ki, fe, lm, si, va, he, up, lo)).2.1.1) ((gnC n nb pu gh gs se tr k (pl, (bf, b1, b2, b3, bu, bl), ki, fe, lm, si, va, he, up, lo)).2.1.2.1) ((gnC n nb pu gh gs se tr k (pl, (bf, b1, b2, b3, bu, bl), ki, fe, lm, si, va, he, up, lo)).2.1.2.2.1) ((gnC n nb pu gh gs se tr k (pl, (bf, b1, b2, b3, bu, bl), ki, fe, lm, si, va, he, up, lo)).2.1.2.2.2.1) ((gnC n nb pu gh gs se tr k (pl, (bf, b1, b2, b3, bu, bl), ki, fe, lm, si, va, he, up, lo)).2.1.2.2.2.2.1) ((gnC n nb pu gh gs se tr k (pl, (bf, b1, b2, b3, bu, bl), ki, fe, lm, si, va, he, up, lo)).2.1.2.2.2.2.2) se) := by
  refine Cv.of (cc := cX2_growNode) (maxL := 7) (own := RX2) rfl (plainFor_of_name (by decide)) rfl (Nat.le_of_ble_eq_true rfl) ?_
  intro pg ev s0 md ar bw mt cd A X hr hk
  show Wk pg l ev _ s0 md ar bw mt cd 0 0 _ 7 (dC, dI) cl6 A 0 [(0, .ref (h 15)), (1, .ref (h 1)), (2, .ref (h 6)), (3, .int (nI tr)), (4, .int (nI k)), (5, .ref (h 19))] [] (Wc h cI cJ cZ n li gr nb sc t ki fe lm si va he up lo pu pl gh gs bf b1 b2 b3 bu bl se)
  have inX0 : ∀ w ∈ u_ws RX0 TX0 6, w ∈ wsX2_growNode := by decide +kernel
  have inX2 : ∀ w ∈ u_ws RX2 TX2 5, w ∈ wsX2_growNode := by decide +kernel
  have lk21 := X.w (.fieldLink RX2 21 "PairedTrees$Grower" "best" "LPairedTrees$BestCut;") (by decide +kernel)
  have lk39 := X.w (.fieldLink RX2 39 "PairedTrees$Grower" "held" "I") (by decide +kernel)
  have lk46 := X.w (.fieldLink RX2 46 "PairedTrees$Grower" "sum" "I") (by decide +kernel)
  have lk49 := X.w (.fieldLink RX2 49 "PairedTrees$BestCut" "isFound" "Z") (by decide +kernel)
  refine Wk.iload_n X 3 rfl dX2_growNode_0 rfl ?_
  refine Wk.bipush (v := nI 15) X dX2_growNode_1 (by decide) ?_
  refine Wk.imulN X dX2_growNode_3 ?_
  refine Wk.iload X 4 rfl dX2_growNode_4 ?_
  refine Wk.iaddN X dX2_growNode_6 ?_
  refine Wk.istore (lv' := [(6, .int (nI (tr * 15 + k))), (0, .ref (h 15)), (1, .ref (h 1)), (2, .ref (h 6)), (3, .int (nI tr)), (4, .int (nI k)), (5, .ref (h 19))]) X dX2_growNode_7 (by decide) rfl ?_
  refine Wk.aload_n X 1 rfl dX2_growNode_9 rfl ?_
  refine Wk.get X inX2 15 2 lk21 (fun _ h9 => h9) rfl rfl (by decide) rfl dX2_growNode_10 ?_
  refine Wk.iconst (v := nI 0) X dX2_growNode_13 (by decide) ?_
  refine Wk.put (ws' := Wc h cI cJ cZ n li gr nb sc t ki fe lm si va he up lo pu pl gh gs false b1 b2 b3 bu bl se) X inX0 tyX0 tyX0_ok nmX0 18 0 lk49 (fun _ h9 => h9) rfl rfl (by decide) rfl (tyX0_ok 0 (by decide)) (by decide) (by decide) (Nat.le_of_ble_eq_true rfl) rfl dX2_growNode_14 ?_
  have J40 : Wk pg l ev ({ frames := 4, cells := 0, slots := 0, locals := 121 } : Room) s0 md ar bw mt cd 0 0 (QRv bw ar s0 (dC, dI) cl6 (TY cI cJ cZ) A (Wc h cI cJ cZ n li gr nb sc t ((gnC n nb pu gh gs se tr k (pl, (bf, b1, b2, b3, bu, bl), ki, fe, lm, si, va, he, up, lo)).2.2.1) ((gnC n nb pu gh gs se tr k (pl, (bf, b1, b2, b3, bu, bl), ki, fe, lm, si, va, he, up, lo)).2.2.2.1) ((gnC n nb pu gh gs se tr k (pl, (bf, b1, b2, b3, bu, bl), ki, fe, lm, si, va, he, up, lo)).2.2.2.2.1) ((gnC n nb pu gh gs se tr k (pl, (bf, b1, b2, b3, bu, bl), ki, fe, lm, si, va, he, up, lo)).2.2.2.2.2.1) ((gnC n nb pu gh gs se tr k (pl, (bf, b1, b2, b3, bu, bl), ki, fe, lm, si, va, he, up, lo)).2.2.2.2.2.2.1) ((gnC n nb pu gh gs se tr k (pl, (bf, b1, b2, b3, bu, bl), ki, fe, lm, si, va, he, up, lo)).2.2.2.2.2.2.2.1) ((gnC n nb pu gh gs se tr k (pl, (bf, b1, b2, b3, bu, bl), ki, fe, lm, si, va, he, up, lo)).2.2.2.2.2.2.2.2.1) ((gnC n nb pu gh gs se tr k (pl, (bf, b1, b2, b3, bu, bl), ki, fe, lm, si, va, he, up, lo)).2.2.2.2.2.2.2.2.2) pu ((gnC n nb pu gh gs se tr k (pl, (bf, b1, b2, b3, bu, bl), ki, fe, lm, si, va, he, up, lo)).1) gh gs ((gnC n nb pu gh gs se tr k (pl, (bf, b1, b2, b3, bu, bl), ki, fe, lm, si, va, he, up, lo)).2.1.1) ((gnC n nb pu gh gs se tr k (pl, (bf, b1, b2, b3, bu, bl), ki, fe, lm, si, va, he, up, lo)).2.1.2.1) ((gnC n nb pu gh gs se tr k (pl, (bf, b1, b2, b3, bu, bl), ki, fe, lm, si, va, he, up, lo)).2.1.2.2.1) ((gnC n nb pu gh gs se tr k (pl, (bf, b1, b2, b3, bu, bl), ki, fe, lm, si, va, he, up, lo)).2.1.2.2.2.1) ((gnC n nb pu gh gs se tr k (pl, (bf, b1, b2, b3, bu, bl), ki, fe, lm, si, va, he, up, lo)).2.1.2.2.2.2.1) ((gnC n nb pu gh gs se tr k (pl, (bf, b1, b2, b3, bu, bl), ki, fe, lm, si, va, he, up, lo)).2.1.2.2.2.2.2) se)) 7 (dC, dI) cl6 A 40 [(6, .int (nI (tr * 15 + k))), (0, .ref (h 15)), (1, .ref (h 1)), (2, .ref (h 6)), (3, .int (nI tr)), (4, .int (nI k)), (5, .ref (h 19))] [] (Wc h cI cJ cZ n li gr nb sc t ki fe lm si va he up lo pu pl gh gs ((sbC n pl nb pu gh gs k se (false, b1, b2, b3, bu, bl)).1) ((sbC n pl nb pu gh gs k se (false, b1, b2, b3, bu, bl)).2.1) ((sbC n pl nb pu gh gs k se (false, b1, b2, b3, bu, bl)).2.2.1) ((sbC n pl nb pu gh gs k se (false, b1, b2, b3, bu, bl)).2.2.2.1) ((sbC n pl nb pu gh gs k se (false, b1, b2, b3, bu, bl)).2.2.2.2.1) ((sbC n pl nb pu gh gs k se (false, b1, b2, b3, bu, bl)).2.2.2.2.2) se) := by
    refine Wk.aload_n X 1 rfl dX2_growNode_40 rfl ?_
    refine Wk.get X inX2 15 2 lk21 (fun _ h9 => h9) rfl rfl (by decide) rfl dX2_growNode_41 ?_
    refine Wk.get X inX0 18 0 lk49 (fun _ h9 => h9) rfl rfl (by decide) rfl dX2_growNode_44 ?_
    refine Wk.ifB_eq X 74 dX2_growNode_47 (by decide) (fun c1 => ?_) (fun c1 => ?_)
    · skip
      refine Wk.aload_n X 3 rfl dX2_growNode_74 rfl ?_
      refine Wk.iload X 0 rfl dX2_growNode_75 ?_
      refine Wk.aload_n X 1 rfl dX2_growNode_77 rfl ?_
      refine Wk.get X inX2 15 3 lk39 (fun _ h9 => h9) rfl rfl (by decide) rfl dX2_growNode_78 ?_
      have J108 : Wk pg l ev ({ frames := 4, cells := 0, slots := 0, locals := 121 } : Room) s0 md ar bw mt cd 0 0 (QRv bw ar s0 (dC, dI) cl6 (TY cI cJ cZ) A (Wc h cI cJ cZ n li gr nb sc t ((gnC n nb pu gh gs se tr k (pl, (bf, b1, b2, b3, bu, bl), ki, fe, lm, si, va, he, up, lo)).2.2.1) ((gnC n nb pu gh gs se tr k (pl, (bf, b1, b2, b3, bu, bl), ki, fe, lm, si, va, he, up, lo)).2.2.2.1) ((gnC n nb pu gh gs se tr k (pl, (bf, b1, b2, b3, bu, bl), ki, fe, lm, si, va, he, up, lo)).2.2.2.2.1) ((gnC n nb pu gh gs se tr k (pl, (bf, b1, b2, b3, bu, bl), ki, fe, lm, si, va, he, up, lo)).2.2.2.2.2.1) ((gnC n nb pu gh gs se tr k (pl, (bf, b1, b2, b3, bu, bl), ki, fe, lm, si, va, he, up, lo)).2.2.2.2.2.2.1) ((gnC n nb pu gh gs se tr k (pl, (bf, b1, b2, b3, bu, bl), ki, fe, lm, si, va, he, up, lo)).2.2.2.2.2.2.2.1) ((gnC n nb pu gh gs se tr k (pl, (bf, b1, b2, b3, bu, bl), ki, fe, lm, si, va, he, up, lo)).2.2.2.2.2.2.2.2.1) ((gnC n nb pu gh gs se tr k (pl, (bf, b1, b2, b3, bu, bl), ki, fe, lm, si, va, he, up, lo)).2.2.2.2.2.2.2.2.2) pu ((gnC n nb pu gh gs se tr k (pl, (bf, b1, b2, b3, bu, bl), ki, fe, lm, si, va, he, up, lo)).1) gh gs ((gnC n nb pu gh gs se tr k (pl, (bf, b1, b2, b3, bu, bl), ki, fe, lm, si, va, he, up, lo)).2.1.1) ((gnC n nb pu gh gs se tr k (pl, (bf, b1, b2, b3, bu, bl), ki, fe, lm, si, va, he, up, lo)).2.1.2.1) ((gnC n nb pu gh gs se tr k (pl, (bf, b1, b2, b3, bu, bl), ki, fe, lm, si, va, he, up, lo)).2.1.2.2.1) ((gnC n nb pu gh gs se tr k (pl, (bf, b1, b2, b3, bu, bl), ki, fe, lm, si, va, he, up, lo)).2.1.2.2.2.1) ((gnC n nb pu gh gs se tr k (pl, (bf, b1, b2, b3, bu, bl), ki, fe, lm, si, va, he, up, lo)).2.1.2.2.2.2.1) ((gnC n nb pu gh gs se tr k (pl, (bf, b1, b2, b3, bu, bl), ki, fe, lm, si, va, he, up, lo)).2.1.2.2.2.2.2) se)) 7 (dC, dI) cl6 A 108 [(6, .int (nI (tr * 15 + k))), (0, .ref (h 15)), (1, .ref (h 1)), (2, .ref (h 6)), (3, .int (nI tr)), (4, .int (nI k)), (5, .ref (h 19))] [.int (lvC se gs gh), .int (nI gh), .int (nI (tr * 15 + k)), .ref (h 6)] (Wc h cI cJ cZ n li gr nb sc t ki fe lm si va he up lo pu pl gh gs ((sbC n pl nb pu gh gs k se (false, b1, b2, b3, bu, bl)).1) ((sbC n pl nb pu gh gs k se (false, b1, b2, b3, bu, bl)).2.1) ((sbC n pl nb pu gh gs k se (false, b1, b2, b3, bu, bl)).2.2.1) ((sbC n pl nb pu gh gs k se (false, b1, b2, b3, bu, bl)).2.2.2.1) ((sbC n pl nb pu gh gs k se (false, b1, b2, b3, bu, bl)).2.2.2.2.1) ((sbC n pl nb pu gh gs k se (false, b1, b2, b3, bu, bl)).2.2.2.2.2) se) := by
        refine Wk.callVv (n := 3) (q0 := 6) X (c_X1_setLeaf l dC dI cI cJ cZ h n li gr nb sc t ki fe lm si va he up lo pu pl gh gs ((sbC n pl nb pu gh gs k se (false, b1, b2, b3, bu, bl)).1) ((sbC n pl nb pu gh gs k se (false, b1, b2, b3, bu, bl)).2.1) ((sbC n pl nb pu gh gs k se (false, b1, b2, b3, bu, bl)).2.2.1) ((sbC n pl nb pu gh gs k se (false, b1, b2, b3, bu, bl)).2.2.2.1) ((sbC n pl nb pu gh gs k se (false, b1, b2, b3, bu, bl)).2.2.2.2.1) ((sbC n pl nb pu gh gs k se (false, b1, b2, b3, bu, bl)).2.2.2.2.2) se (tr * 15 + k) gh (lvC se gs gh) (by first | omega | assumption)) gX2_growNode_X1_setLeaf rfl (by decide +kernel) (by decide) Fr.all (fun h9 => h9) rfl rfl rfl rfl (Nat.le_of_ble_eq_true rfl) ⟨Nat.zero_le _, Nat.zero_le _⟩ dX2_growNode_108 ?_
        exact Wk.vret X hr hk (by simp [gnC, *]) dX2_growNode_111
      refine Wk.aload_n X 1 rfl dX2_growNode_81 rfl ?_
      refine Wk.get X inX2 15 3 lk39 (fun _ h9 => h9) rfl rfl (by decide) rfl dX2_growNode_82 ?_
      refine Wk.if_le X 107 dX2_growNode_85 (by decide) (fun c2 => ?_) (fun c2 => ?_)
      · skip
        refine Wk.iconst (v := nI 0) X dX2_growNode_107 (by decide) ?_
        refine Wk.topi (y := lvC se gs gh) (by simp [lvC, nI_0, *]) ?_
        exact J108
      · skip
        refine Wk.aload X 6 rfl dX2_growNode_88 ?_
        refine Wk.iconst (v := nI 1) X dX2_growNode_90 (by decide) ?_
        refine Wk.iald X 19 0 rfl rfl (by omega) (by decide) dX2_growNode_91 ?_
        refine Wk.aload_n X 1 rfl dX2_growNode_92 rfl ?_
        refine Wk.get X inX2 15 4 lk46 (fun _ h9 => h9) rfl rfl (by decide) rfl dX2_growNode_93 ?_
        refine Wk.imul X dX2_growNode_96 ?_
        refine Wk.aload_n X 1 rfl dX2_growNode_97 rfl ?_
        refine Wk.get X inX2 15 3 lk39 (fun _ h9 => h9) rfl rfl (by decide) rfl dX2_growNode_98 ?_
        refine Wk.callSi (n := 2) X (c_J9_floorDiv_7cf53 l dC dI cI cJ cZ ((se 1) * gs) (nI gh) (by exact fun h9 => c2 (by rw [h9]; decide))) gX2_growNode_J9_floorDiv_7cf53 rfl (by decide +kernel) (by decide) Fr.nil (fun h9 => h9) rfl rfl (Nat.le_of_ble_eq_true rfl) ⟨Nat.zero_le _, Nat.zero_le _⟩ dX2_growNode_101 ?_
        refine Wk.goto X 108 dX2_growNode_104 (by decide) ?_
        refine Wk.topi (y := lvC se gs gh) (by simp [lvC, nI_0, *]) ?_
        exact J108
    · skip
      refine Wk.aload_n X 3 rfl dX2_growNode_50 rfl ?_
      refine Wk.iload X 0 rfl dX2_growNode_51 ?_
      refine Wk.aload_n X 1 rfl dX2_growNode_53 rfl ?_
      refine Wk.get X inX2 15 3 lk39 (fun _ h9 => h9) rfl rfl (by decide) rfl dX2_growNode_54 ?_
      refine Wk.aload_n X 1 rfl dX2_growNode_57 rfl ?_
      refine Wk.get X inX2 15 2 lk21 (fun _ h9 => h9) rfl rfl (by decide) rfl dX2_growNode_58 ?_
      refine Wk.callVv (n := 3) (q0 := 6) X (c_X1_setCut l dC dI cI cJ cZ h n li gr nb sc t ki fe lm si va he up lo pu pl gh gs ((sbC n pl nb pu gh gs k se (false, b1, b2, b3, bu, bl)).1) ((sbC n pl nb pu gh gs k se (false, b1, b2, b3, bu, bl)).2.1) ((sbC n pl nb pu gh gs k se (false, b1, b2, b3, bu, bl)).2.2.1) ((sbC n pl nb pu gh gs k se (false, b1, b2, b3, bu, bl)).2.2.2.1) ((sbC n pl nb pu gh gs k se (false, b1, b2, b3, bu, bl)).2.2.2.2.1) ((sbC n pl nb pu gh gs k se (false, b1, b2, b3, bu, bl)).2.2.2.2.2) se (tr * 15 + k) gh (by first | omega | assumption)) gX2_growNode_X1_setCut rfl (by decide +kernel) (by decide) Fr.all (fun h9 => h9) rfl rfl rfl rfl (Nat.le_of_ble_eq_true rfl) ⟨Nat.zero_le _, Nat.zero_le _⟩ dX2_growNode_61 ?_
      refine Wk.aload_n X 1 rfl dX2_growNode_64 rfl ?_
      refine Wk.aload_n X 2 rfl dX2_growNode_65 rfl ?_
      refine Wk.iload X 5 rfl dX2_growNode_66 ?_
      refine Wk.callVv (n := 2) (q0 := 15) X (c_X2_part l dC dI cI cJ cZ h n li gr nb sc t (upd ki (tr * 15 + k) (nI 2)) (upd fe (tr * 15 + k) ((sbC n pl nb pu gh gs k se (false, b1, b2, b3, bu, bl)).2.1)) (upd lm (tr * 15 + k) ((sbC n pl nb pu gh gs k se (false, b1, b2, b3, bu, bl)).2.2.1)) (upd si (tr * 15 + k) ((sbC n pl nb pu gh gs k se (false, b1, b2, b3, bu, bl)).2.2.2.1)) va (upd he (tr * 15 + k) (nI gh)) (vp_updL up (tr * 15 + k) (redC (gcC 100 ((sbC n pl nb pu gh gs k se (false, b1, b2, b3, bu, bl)).2.2.2.2.1) ((sbC n pl nb pu gh gs k se (false, b1, b2, b3, bu, bl)).2.2.2.2.2)) ((sbC n pl nb pu gh gs k se (false, b1, b2, b3, bu, bl)).2.2.2.2.1))) (vp_updL lo (tr * 15 + k) (redC (gcC 100 ((sbC n pl nb pu gh gs k se (false, b1, b2, b3, bu, bl)).2.2.2.2.1) ((sbC n pl nb pu gh gs k se (false, b1, b2, b3, bu, bl)).2.2.2.2.2)) ((sbC n pl nb pu gh gs k se (false, b1, b2, b3, bu, bl)).2.2.2.2.2))) pu pl gh gs ((sbC n pl nb pu gh gs k se (false, b1, b2, b3, bu, bl)).1) ((sbC n pl nb pu gh gs k se (false, b1, b2, b3, bu, bl)).2.1) ((sbC n pl nb pu gh gs k se (false, b1, b2, b3, bu, bl)).2.2.1) ((sbC n pl nb pu gh gs k se (false, b1, b2, b3, bu, bl)).2.2.2.1) ((sbC n pl nb pu gh gs k se (false, b1, b2, b3, bu, bl)).2.2.2.2.1) ((sbC n pl nb pu gh gs k se (false, b1, b2, b3, bu, bl)).2.2.2.2.2) se k (by first | omega | assumption) (by exact sbC_ok rfl (by assumption))) gX2_growNode_X2_part rfl (by decide +kernel) (by decide) Fr.all (fun h9 => h9) rfl rfl rfl rfl (Nat.le_of_ble_eq_true rfl) ⟨Nat.zero_le _, Nat.zero_le _⟩ dX2_growNode_68 ?_
      refine Wk.goto X 111 dX2_growNode_71 (by decide) ?_
      exact Wk.vret X hr hk (by simp [gnC, *]) dX2_growNode_111
  refine Wk.iload X 5 rfl dX2_growNode_17 ?_
  refine Wk.callSi (n := 1) X (c_X2_depthOf l dC dI cI cJ cZ k (by first | omega | assumption)) gX2_growNode_X2_depthOf rfl (by decide +kernel) (by decide) Fr.nil (fun h9 => h9) rfl rfl (Nat.le_of_ble_eq_true rfl) ⟨Nat.zero_le _, Nat.zero_le _⟩ dX2_growNode_19 ?_
  refine Wk.aload X 6 rfl dX2_growNode_22 ?_
  refine Wk.iconst (v := nI 2) X dX2_growNode_24 (by decide) ?_
  refine Wk.iald X 19 0 rfl rfl (by omega) (by decide) dX2_growNode_25 ?_
  refine Wk.icmp_ge X 40 dX2_growNode_26 (by decide) (fun c3 => ?_) (fun c3 => ?_)
  · skip
    refine Wk.wsq (ws' := Wc h cI cJ cZ n li gr nb sc t ki fe lm si va he up lo pu pl gh gs ((sbC n pl nb pu gh gs k se (false, b1, b2, b3, bu, bl)).1) ((sbC n pl nb pu gh gs k se (false, b1, b2, b3, bu, bl)).2.1) ((sbC n pl nb pu gh gs k se (false, b1, b2, b3, bu, bl)).2.2.1) ((sbC n pl nb pu gh gs k se (false, b1, b2, b3, bu, bl)).2.2.2.1) ((sbC n pl nb pu gh gs k se (false, b1, b2, b3, bu, bl)).2.2.2.2.1) ((sbC n pl nb pu gh gs k se (false, b1, b2, b3, bu, bl)).2.2.2.2.2) se) (by simp [sbC, *]) ?_
    exact J40
  · skip
    refine Wk.aload_n X 1 rfl dX2_growNode_29 rfl ?_
    refine Wk.aload_n X 2 rfl dX2_growNode_30 rfl ?_
    refine Wk.iload X 5 rfl dX2_growNode_31 ?_
    refine Wk.aload X 6 rfl dX2_growNode_33 ?_
    refine Wk.iconst (v := nI 3) X dX2_growNode_35 (by decide) ?_
    refine Wk.iald X 19 0 rfl rfl (by omega) (by decide) dX2_growNode_36 ?_
    refine Wk.callVv (n := 3) (q0 := 15) X (c_X2_seekCut l dC dI cI cJ cZ h n li gr nb sc t ki fe lm si va he up lo pu pl gh gs false b1 b2 b3 bu bl se k (se 3) (by first | omega | assumption)) gX2_growNode_X2_seekCut rfl (by decide +kernel) (by decide) Fr.all (fun h9 => h9) rfl rfl rfl rfl (Nat.le_of_ble_eq_true rfl) ⟨Nat.zero_le _, Nat.zero_le _⟩ dX2_growNode_37 ?_
    refine Wk.wsq (ws' := Wc h cI cJ cZ n li gr nb sc t ki fe lm si va he up lo pu pl gh gs ((sbC n pl nb pu gh gs k se (false, b1, b2, b3, bu, bl)).1) ((sbC n pl nb pu gh gs k se (false, b1, b2, b3, bu, bl)).2.1) ((sbC n pl nb pu gh gs k se (false, b1, b2, b3, bu, bl)).2.2.1) ((sbC n pl nb pu gh gs k se (false, b1, b2, b3, bu, bl)).2.2.2.1) ((sbC n pl nb pu gh gs k se (false, b1, b2, b3, bu, bl)).2.2.2.2.1) ((sbC n pl nb pu gh gs k se (false, b1, b2, b3, bu, bl)).2.2.2.2.2) se) (by simp [sbC, *]) ?_
    exact J40

set_option maxHeartbeats 4000000 in
set_option maxRecDepth 100000 in
theorem c_X2_growTree (l : Launch) (dC : Nat → ClassId) (dI : Nat → Nat → Nat) (cI cJ cZ : ClassId) (h : Nat → Nat) (n : Nat) (li : Nat → Int32) (gr : Nat → Int32) (nb : Nat → Int32) (sc : Nat → Int64) (t : Nat) (ki : Nat → Int32) (fe : Nat → Int32) (lm : Nat → Int32) (si : Nat → Int32) (va : Nat → Int32) (he : Nat → Int32) (up : Nat → Int64) (lo : Nat → Int64) (pu : Nat → Int32) (pl : Nat → Int32) (gh : Nat) (gs : Int32) (bf : Bool) (b1 : Int32) (b2 : Int32) (b3 : Int32) (bu : Int64) (bl : Int64) (se : Nat → Int32) (tr : Nat) (hn0 : n ≤ 24) (ht0 : tr < 20) : Cv l yX2_growTree wsX2_growTree 5 147 (dC, dI) cl6 (TY cI cJ cZ) false [.ref (h 15), .ref (h 1), .ref (h 6), .int (nI tr), .ref (h 19)] (Wc h cI cJ cZ n li gr nb sc t ki fe lm si va he up lo pu pl gh gs bf b1 b2 b3 bu bl se) (Wc h cI cJ cZ n li gr nb sc t ((gtC n nb (upT (fun i => psC li gr sc (se 0) i n) n pu) se tr 15 (upT (fun _ => nI 0) n pl, (bf, b1, b2, b3, bu, bl), ki, fe, lm, si, va, he, up, lo)).2.2.1) ((gtC n nb (upT (fun i => psC li gr sc (se 0) i n) n pu) se tr 15 (upT (fun _ => nI 0) n pl, (bf, b1, b2, b3, bu, bl), ki, fe, lm, si, va, he, up, lo)).2.2.2.1) ((gtC n nb (upT (fun i => psC li gr sc (se 0) i n) n pu) se tr 15 (upT (fun _ => nI 0) n pl, (bf, b1, b2, b3, bu, bl), ki, fe, lm, si, va, he, up, lo)).2.2.2.2.1) ((gtC n nb (upT (fun i => psC li gr sc (se 0) i n) n pu) se tr 15 (upT (fun _ => nI 0) n pl, (bf, b1, b2, b3, bu, bl), ki, fe, lm, si, va, he, up, lo)).2.2.2.2.2.1) ((gtC n nb (upT (fun i => psC li gr sc (se 0) i n) n pu) se tr 15 (upT (fun _ => nI 0) n pl, (bf, b1, b2, b3, bu, bl), ki, fe, lm, si, va, he, up, lo)).2.2.2.2.2.2.1) ((gtC n nb (upT (fun i => psC li gr sc (se 0) i n) n pu) se tr 15 (upT (fun _ => nI 0) n pl, (bf, b1, b2, b3, bu, bl), ki, fe, lm, si, va, he, up, lo)).2.2.2.2.2.2.2.1) ((gtC n nb (upT (fun i => psC li gr sc (se 0) i n) n pu) se tr 15 (upT (fun _ => nI 0) n pl, (bf, b1, b2, b3, bu, bl), ki, fe, lm, si, va, he, up, lo)).2.2.2.2.2.2.2.2.1) ((gtC n nb (upT (fun i => psC li gr sc (se 0) i n) n pu) se tr 15 (upT (fun _ => nI 0) n pl, (bf, b1, b2, b3, bu, bl), ki, fe, lm, si, va, he, up, lo)).2.2.2.2.2.2.2.2.2) (upT (fun i => psC li gr sc (se 0) i n) n pu) ((gtC n nb (upT (fun i => psC li gr sc (se 0) i n) n pu) se tr 15 (upT (fun _ => nI 0) n pl, (bf, b1, b2, b3, bu, bl), ki, fe, lm, si, va, he, up, lo)).1) (gaH (gtC n nb (upT (fun i => psC li gr sc (se 0) i n) n pu) se tr 14 (upT (fun _ => nI 0) n pl, (bf, b1, b2, b3, bu, bl), ki, fe, lm, si, va, he, up, lo)).1 14 n) (gaS (upT (fun i => psC li gr sc (se 0) i n) n pu) (gtC n nb (upT (fun i => psC li gr sc (se 0) i n) n pu) se tr 14 (upT (fun _ => nI 0) n pl, (bf, b1, b2, b3, bu, bl), ki, fe, lm, si, va, he, up, lo)).1 14 n) ((gtC n nb (upT (fun i => psC li gr sc (se 0) i n) n pu) se tr 15 (upT (fun _ => nI 0) n pl, (bf, b1, b2, b3, bu, bl), ki, fe, lm, si, va, he, up, lo)).2.1.1) ((gtC n nb (upT (fun i => psC li gr sc (se 0) i n) n pu) se tr 15 (upT (fun _ => nI 0) n pl, (bf, b1, b2, b3, bu, bl), ki, fe, lm, si, va, he, up, lo)).2.1.2.1) ((gtC n nb (upT (fun i => psC li gr sc (se 0) i n) n pu) se tr 15 (upT (fun _ => nI 0) n pl, (bf, b1, b2, b3, bu, bl), ki, fe, lm, si, va, he, up, lo)).2.1.2.2.1) ((gtC n nb (upT (fun i => psC li gr sc (se 0) i n) n pu) se tr 15 (upT (fun _ => nI 0) n pl, (bf, b1, b2, b3, bu, bl), ki, fe, lm, si, va, he, up, lo)).2.1.2.2.2.1) ((gtC n nb (upT (fun i => psC li gr sc (se 0) i n) n pu) se tr 15 (upT (fun _ => nI 0) n pl, (bf, b1, b2, b3, bu, bl), ki, fe, lm, si, va, he, up, lo)).2.1.2.2.2.2.1) ((gtC n nb (upT (fun i => psC li gr sc (se 0) i n) n pu) se tr 15 (upT (fun _ => nI 0) n pl, (bf, b1, b2, b3, bu, bl), ki, fe, lm, si, va, he, up, lo)).2.1.2.2.2.2.2) se) := by
  refine Cv.of (cc := cX2_growTree) (maxL := 6) (own := RX2) rfl (plainFor_of_name (by decide)) rfl (Nat.le_of_ble_eq_true rfl) ?_
  intro pg ev s0 md ar bw mt cd A X hr hk
  show Wk pg l ev _ s0 md ar bw mt cd 0 0 _ 6 (dC, dI) cl6 A 0 [(0, .ref (h 15)), (1, .ref (h 1)), (2, .ref (h 6)), (3, .int (nI tr)), (4, .ref (h 19))] [] (Wc h cI cJ cZ n li gr nb sc t ki fe lm si va he up lo pu pl gh gs bf b1 b2 b3 bu bl se)
  have inX2 : ∀ w ∈ u_ws RX2 TX2 5, w ∈ wsX2_growTree := by decide +kernel
  have inX3 : ∀ w ∈ u_ws RX3 TX3 5, w ∈ wsX2_growTree := by decide +kernel
  have lk9 := X.w (.fieldLink RX2 9 "PairedTrees$Grower" "pushes" "[I") (by decide +kernel)
  have lk15 := X.w (.fieldLink RX2 15 "PairedTrees$Grower" "places" "[I") (by decide +kernel)
  have lk25 := X.w (.fieldLink RX2 25 "PairedTrees$Things" "count" "I") (by decide +kernel)
  have lk39 := X.w (.fieldLink RX2 39 "PairedTrees$Grower" "held" "I") (by decide +kernel)
  refine Wk.iconst (v := nI 0) X dX2_growTree_0 (by decide) ?_
  refine Wk.istore (lv' := [(5, .int (nI 0)), (0, .ref (h 15)), (1, .ref (h 1)), (2, .ref (h 6)), (3, .int (nI tr)), (4, .ref (h 19))]) X dX2_growTree_1 (by decide) rfl ?_
  have L3 : ∀ (fu3 : Nat) (i : Nat) (hq : n + 1 ≤ i + fu3) (hi : i ≤ n), Wk pg l ev ({ frames := 5, cells := 0, slots := 0, locals := 147 } : Room) s0 md ar bw mt cd 0 0 (QRv bw ar s0 (dC, dI) cl6 (TY cI cJ cZ) A (Wc h cI cJ cZ n li gr nb sc t ((gtC n nb (upT (fun i => psC li gr sc (se 0) i n) n pu) se tr 15 (upT (fun _ => nI 0) n pl, (bf, b1, b2, b3, bu, bl), ki, fe, lm, si, va, he, up, lo)).2.2.1) ((gtC n nb (upT (fun i => psC li gr sc (se 0) i n) n pu) se tr 15 (upT (fun _ => nI 0) n pl, (bf, b1, b2, b3, bu, bl), ki, fe, lm, si, va, he, up, lo)).2.2.2.1) ((gtC n nb (upT (fun i => psC li gr sc (se 0) i n) n pu) se tr 15 (upT (fun _ => nI 0) n pl, (bf, b1, b2, b3, bu, bl), ki, fe, lm, si, va, he, up, lo)).2.2.2.2.1) ((gtC n nb (upT (fun i => psC li gr sc (se 0) i n) n pu) se tr 15 (upT (fun _ => nI 0) n pl, (bf, b1, b2, b3, bu, bl), ki, fe, lm, si, va, he, up, lo)).2.2.2.2.2.1) ((gtC n nb (upT (fun i => psC li gr sc (se 0) i n) n pu) se tr 15 (upT (fun _ => nI 0) n pl, (bf, b1, b2, b3, bu, bl), ki, fe, lm, si, va, he, up, lo)).2.2.2.2.2.2.1) ((gtC n nb (upT (fun i => psC li gr sc (se 0) i n) n pu) se tr 15 (upT (fun _ => nI 0) n pl, (bf, b1, b2, b3, bu, bl), ki, fe, lm, si, va, he, up, lo)).2.2.2.2.2.2.2.1) ((gtC n nb (upT (fun i => psC li gr sc (se 0) i n) n pu) se tr 15 (upT (fun _ => nI 0) n pl, (bf, b1, b2, b3, bu, bl), ki, fe, lm, si, va, he, up, lo)).2.2.2.2.2.2.2.2.1) ((gtC n nb (upT (fun i => psC li gr sc (se 0) i n) n pu) se tr 15 (upT (fun _ => nI 0) n pl, (bf, b1, b2, b3, bu, bl), ki, fe, lm, si, va, he, up, lo)).2.2.2.2.2.2.2.2.2) (upT (fun i => psC li gr sc (se 0) i n) n pu) ((gtC n nb (upT (fun i => psC li gr sc (se 0) i n) n pu) se tr 15 (upT (fun _ => nI 0) n pl, (bf, b1, b2, b3, bu, bl), ki, fe, lm, si, va, he, up, lo)).1) (gaH (gtC n nb (upT (fun i => psC li gr sc (se 0) i n) n pu) se tr 14 (upT (fun _ => nI 0) n pl, (bf, b1, b2, b3, bu, bl), ki, fe, lm, si, va, he, up, lo)).1 14 n) (gaS (upT (fun i => psC li gr sc (se 0) i n) n pu) (gtC n nb (upT (fun i => psC li gr sc (se 0) i n) n pu) se tr 14 (upT (fun _ => nI 0) n pl, (bf, b1, b2, b3, bu, bl), ki, fe, lm, si, va, he, up, lo)).1 14 n) ((gtC n nb (upT (fun i => psC li gr sc (se 0) i n) n pu) se tr 15 (upT (fun _ => nI 0) n pl, (bf, b1, b2, b3, bu, bl), ki, fe, lm, si, va, he, up, lo)).2.1.1) ((gtC n nb (upT (fun i => psC li gr sc (se 0) i n) n pu) se tr 15 (upT (fun _ => nI 0) n pl, (bf, b1, b2, b3, bu, bl), ki, fe, lm, si, va, he, up, lo)).2.1.2.1) ((gtC n nb (upT (fun i => psC li gr sc (se 0) i n) n pu) se tr 15 (upT (fun _ => nI 0) n pl, (bf, b1, b2, b3, bu, bl), ki, fe, lm, si, va, he, up, lo)).2.1.2.2.1) ((gtC n nb (upT (fun i => psC li gr sc (se 0) i n) n pu) se tr 15 (upT (fun _ => nI 0) n pl, (bf, b1, b2, b3, bu, bl), ki, fe, lm, si, va, he, up, lo)).2.1.2.2.2.1) ((gtC n nb (upT (fun i => psC li gr sc (se 0) i n) n pu) se tr 15 (upT (fun _ => nI 0) n pl, (bf, b1, b2, b3, bu, bl), ki, fe, lm, si, va, he, up, lo)).2.1.2.2.2.2.1) ((gtC n nb (upT (fun i => psC li gr sc (se 0) i n) n pu) se tr 15 (upT (fun _ => nI 0) n pl, (bf, b1, b2, b3, bu, bl), ki, fe, lm, si, va, he, up, lo)).2.1.2.2.2.2.2) se)) 6 (dC, dI) cl6 A 3 [(0, .ref (h 15)), (1, .ref (h 1)), (2, .ref (h 6)), (3, .int (nI tr)), (4, .ref (h 19)), (5, .int (nI i))] [] (Wc h cI cJ cZ n li gr nb sc t ki fe lm si va he up lo (upT (fun i => psC li gr sc (se 0) i n) i pu) (upT (fun _ => nI 0) i pl) gh gs bf b1 b2 b3 bu bl se) := by
    intro fu3
    induction fu3 with
    | zero => intro i hq hi; exact absurd hq (by omega)
    | succ fu3 ih3 =>
      intro i hq hi
      refine Wk.iload X 5 rfl dX2_growTree_3 ?_
      refine Wk.aload_n X 1 rfl dX2_growTree_5 rfl ?_
      refine Wk.get X inX3 1 0 lk25 (fun _ h9 => h9) rfl rfl (by decide) rfl dX2_growTree_6 ?_
      refine Wk.icmpN_ge X 43 (by omega) (by omega) dX2_growTree_9 (by decide) (fun c1 => ?_) (fun c1 => ?_)
      · skip
        rw [show i = n by omega]
        refine Wk.iconst (v := nI 0) X dX2_growTree_43 (by decide) ?_
        refine Wk.istore (lv' := [(5, .int (nI 0)), (0, .ref (h 15)), (1, .ref (h 1)), (2, .ref (h 6)), (3, .int (nI tr)), (4, .ref (h 19))]) X dX2_growTree_44 (by decide) rfl ?_
        have L46 : ∀ (fu46 : Nat) (k : Nat) (g1 : Nat) (g2 : Int32) (S : GS) (hq2 : 16 ≤ k + fu46) (hk1 : k ≤ 15) (hS : S = gtC n nb (upT (fun i => psC li gr sc (se 0) i n) n pu) se tr k (upT (fun _ => nI 0) n pl, (bf, b1, b2, b3, bu, bl), ki, fe, lm, si, va, he, up, lo)) (hg : 0 < k → g1 = gaH (gtC n nb (upT (fun i => psC li gr sc (se 0) i n) n pu) se tr (k - 1) (upT (fun _ => nI 0) n pl, (bf, b1, b2, b3, bu, bl), ki, fe, lm, si, va, he, up, lo)).1 (k - 1) n ∧ g2 = gaS (upT (fun i => psC li gr sc (se 0) i n) n pu) (gtC n nb (upT (fun i => psC li gr sc (se 0) i n) n pu) se tr (k - 1) (upT (fun _ => nI 0) n pl, (bf, b1, b2, b3, bu, bl), ki, fe, lm, si, va, he, up, lo)).1 (k - 1) n), Wk pg l ev ({ frames := 5, cells := 0, slots := 0, locals := 147 } : Room) s0 md ar bw mt cd 0 0 (QRv bw ar s0 (dC, dI) cl6 (TY cI cJ cZ) A (Wc h cI cJ cZ n li gr nb sc t ((gtC n nb (upT (fun i => psC li gr sc (se 0) i n) n pu) se tr 15 (upT (fun _ => nI 0) n pl, (bf, b1, b2, b3, bu, bl), ki, fe, lm, si, va, he, up, lo)).2.2.1) ((gtC n nb (upT (fun i => psC li gr sc (se 0) i n) n pu) se tr 15 (upT (fun _ => nI 0) n pl, (bf, b1, b2, b3, bu, bl), ki, fe, lm, si, va, he, up, lo)).2.2.2.1) ((gtC n nb (upT (fun i => psC li gr sc (se 0) i n) n pu) se tr 15 (upT (fun _ => nI 0) n pl, (bf, b1, b2, b3, bu, bl), ki, fe, lm, si, va, he, up, lo)).2.2.2.2.1) ((gtC n nb (upT (fun i => psC li gr sc (se 0) i n) n pu) se tr 15 (upT (fun _ => nI 0) n pl, (bf, b1, b2, b3, bu, bl), ki, fe, lm, si, va, he, up, lo)).2.2.2.2.2.1) ((gtC n nb (upT (fun i => psC li gr sc (se 0) i n) n pu) se tr 15 (upT (fun _ => nI 0) n pl, (bf, b1, b2, b3, bu, bl), ki, fe, lm, si, va, he, up, lo)).2.2.2.2.2.2.1) ((gtC n nb (upT (fun i => psC li gr sc (se 0) i n) n pu) se tr 15 (upT (fun _ => nI 0) n pl, (bf, b1, b2, b3, bu, bl), ki, fe, lm, si, va, he, up, lo)).2.2.2.2.2.2.2.1) ((gtC n nb (upT (fun i => psC li gr sc (se 0) i n) n pu) se tr 15 (upT (fun _ => nI 0) n pl, (bf, b1, b2, b3, bu, bl), ki, fe, lm, si, va, he, up, lo)).2.2.2.2.2.2.2.2.1) ((gtC n nb (upT (fun i => psC li gr sc (se 0) i n) n pu) se tr 15 (upT (fun _ => nI 0) n pl, (bf, b1, b2, b3, bu, bl), ki, fe, lm, si, va, he, up, lo)).2.2.2.2.2.2.2.2.2) (upT (fun i => psC li gr sc (se 0) i n) n pu) ((gtC n nb (upT (fun i => psC li gr sc (se 0) i n) n pu) se tr 15 (upT (fun _ => nI 0) n pl, (bf, b1, b2, b3, bu, bl), ki, fe, lm, si, va, he, up, lo)).1) (gaH (gtC n nb (upT (fun i => psC li gr sc (se 0) i n) n pu) se tr 14 (upT (fun _ => nI 0) n pl, (bf, b1, b2, b3, bu, bl), ki, fe, lm, si, va, he, up, lo)).1 14 n) (gaS (upT (fun i => psC li gr sc (se 0) i n) n pu) (gtC n nb (upT (fun i => psC li gr sc (se 0) i n) n pu) se tr 14 (upT (fun _ => nI 0) n pl, (bf, b1, b2, b3, bu, bl), ki, fe, lm, si, va, he, up, lo)).1 14 n) ((gtC n nb (upT (fun i => psC li gr sc (se 0) i n) n pu) se tr 15 (upT (fun _ => nI 0) n pl, (bf, b1, b2, b3, bu, bl), ki, fe, lm, si, va, he, up, lo)).2.1.1) ((gtC n nb (upT (fun i => psC li gr sc (se 0) i n) n pu) se tr 15 (upT (fun _ => nI 0) n pl, (bf, b1, b2, b3, bu, bl), ki, fe, lm, si, va, he, up, lo)).2.1.2.1) ((gtC n nb (upT (fun i => psC li gr sc (se 0) i n) n pu) se tr 15 (upT (fun _ => nI 0) n pl, (bf, b1, b2, b3, bu, bl), ki, fe, lm, si, va, he, up, lo)).2.1.2.2.1) ((gtC n nb (upT (fun i => psC li gr sc (se 0) i n) n pu) se tr 15 (upT (fun _ => nI 0) n pl, (bf, b1, b2, b3, bu, bl), ki, fe, lm, si, va, he, up, lo)).2.1.2.2.2.1) ((gtC n nb (upT (fun i => psC li gr sc (se 0) i n) n pu) se tr 15 (upT (fun _ => nI 0) n pl, (bf, b1, b2, b3, bu, bl), ki, fe, lm, si, va, he, up, lo)).2.1.2.2.2.2.1) ((gtC n nb (upT (fun i => psC li gr sc (se 0) i n) n pu) se tr 15 (upT (fun _ => nI 0) n pl, (bf, b1, b2, b3, bu, bl), ki, fe, lm, si, va, he, up, lo)).2.1.2.2.2.2.2) se)) 6 (dC, dI) cl6 A 46 [(0, .ref (h 15)), (1, .ref (h 1)), (2, .ref (h 6)), (3, .int (nI tr)), (4, .ref (h 19)), (5, .int (nI k))] [] (Wc h cI cJ cZ n li gr nb sc t S.2.2.1 S.2.2.2.1 S.2.2.2.2.1 S.2.2.2.2.2.1 S.2.2.2.2.2.2.1 S.2.2.2.2.2.2.2.1 S.2.2.2.2.2.2.2.2.1 S.2.2.2.2.2.2.2.2.2 (upT (fun i => psC li gr sc (se 0) i n) n pu) S.1 g1 g2 S.2.1.1 S.2.1.2.1 S.2.1.2.2.1 S.2.1.2.2.2.1 S.2.1.2.2.2.2.1 S.2.1.2.2.2.2.2 se) := by
          intro fu46
          induction fu46 with
          | zero => intro k g1 g2 S hq2 hk1 hS hg; exact absurd hq2 (by omega)
          | succ fu46 ih46 =>
            intro k g1 g2 S hq2 hk1 hS hg
            refine Wk.iload X 5 rfl dX2_growTree_46 ?_
            refine Wk.bipush (v := nI 15) X dX2_growTree_48 (by decide) ?_
            refine Wk.icmpN_ge X 84 (by omega) (by omega) dX2_growTree_50 (by decide) (fun c2 => ?_) (fun c2 => ?_)
            · skip
              exact Wk.vret X hr hk (by obtain ⟨e1, e2⟩ := hg (by omega); rw [e1, e2, hS, show k = 15 by omega]) dX2_growTree_84
            · skip
              refine Wk.aload_n X 0 rfl dX2_growTree_53 rfl ?_
              refine Wk.aload_n X 1 rfl dX2_growTree_54 rfl ?_
              refine Wk.iload X 5 rfl dX2_growTree_55 ?_
              refine Wk.callVv (n := 2) (q0 := 15) X (c_X2_gather l dC dI cI cJ cZ h n li gr nb sc t S.2.2.1 S.2.2.2.1 S.2.2.2.2.1 S.2.2.2.2.2.1 S.2.2.2.2.2.2.1 S.2.2.2.2.2.2.2.1 S.2.2.2.2.2.2.2.2.1 S.2.2.2.2.2.2.2.2.2 (upT (fun i => psC li gr sc (se 0) i n) n pu) S.1 g1 g2 S.2.1.1 S.2.1.2.1 S.2.1.2.2.1 S.2.1.2.2.2.1 S.2.1.2.2.2.2.1 S.2.1.2.2.2.2.2 se k (by first | omega | assumption)) gX2_growTree_X2_gather rfl (by decide +kernel) (by decide) Fr.all (fun h9 => h9) rfl rfl rfl rfl (Nat.le_of_ble_eq_true rfl) ⟨Nat.zero_le _, Nat.zero_le _⟩ dX2_growTree_57 ?_
              refine Wk.aload_n X 0 rfl dX2_growTree_60 rfl ?_
              refine Wk.get X inX2 15 3 lk39 (fun _ h9 => h9) rfl rfl (by decide) rfl dX2_growTree_61 ?_
              refine Wk.if_le X 78 dX2_growTree_64 (by decide) (fun c3 => ?_) (fun c3 => ?_)
              · skip
                refine Wk.iincN (n := 1) (lv' := [(5, .int (nI (k + 1))), (0, .ref (h 15)), (1, .ref (h 1)), (2, .ref (h 6)), (3, .int (nI tr)), (4, .ref (h 19))]) X 5 rfl dX2_growTree_78 (by decide) rfl ?_
                refine Wk.goto X 46 dX2_growTree_81 (by decide) ?_
                refine Wk.lvs (lv' := [(0, .ref (h 15)), (1, .ref (h 1)), (2, .ref (h 6)), (3, .int (nI tr)), (4, .ref (h 19)), (5, .int (nI (k + 1)))]) [1, 2, 3, 4, 5, 0] rfl ?_
                exact ih46 (k + 1) (gaH S.1 k n) (gaS (upT (fun i => psC li gr sc (se 0) i n) n pu) S.1 k n) S (by omega) (by omega) (by subst hS; simp [gtC, *]) (by intro _; rw [show k + 1 - 1 = k by omega, ← hS]; exact ⟨rfl, rfl⟩)
              · skip
                refine Wk.aload_n X 0 rfl dX2_growTree_67 rfl ?_
                refine Wk.aload_n X 1 rfl dX2_growTree_68 rfl ?_
                refine Wk.aload_n X 2 rfl dX2_growTree_69 rfl ?_
                refine Wk.iload_n X 3 rfl dX2_growTree_70 rfl ?_
                refine Wk.iload X 5 rfl dX2_growTree_71 ?_
                refine Wk.aload X 4 rfl dX2_growTree_73 ?_
                refine Wk.callVv (n := 5) (q0 := 15) X (c_X2_growNode l dC dI cI cJ cZ h n li gr nb sc t S.2.2.1 S.2.2.2.1 S.2.2.2.2.1 S.2.2.2.2.2.1 S.2.2.2.2.2.2.1 S.2.2.2.2.2.2.2.1 S.2.2.2.2.2.2.2.2.1 S.2.2.2.2.2.2.2.2.2 (upT (fun i => psC li gr sc (se 0) i n) n pu) S.1 (gaH S.1 k n) (gaS (upT (fun i => psC li gr sc (se 0) i n) n pu) S.1 k n) S.2.1.1 S.2.1.2.1 S.2.1.2.2.1 S.2.1.2.2.2.1 S.2.1.2.2.2.2.1 S.2.1.2.2.2.2.2 se tr k (by first | omega | assumption) (by first | omega | assumption) (by first | omega | assumption)) gX2_growTree_X2_growNode rfl (by decide +kernel) (by decide) Fr.all (fun h9 => h9) rfl rfl rfl rfl (Nat.le_of_ble_eq_true rfl) ⟨Nat.zero_le _, Nat.zero_le _⟩ dX2_growTree_75 ?_
                refine Wk.iincN (n := 1) (lv' := [(5, .int (nI (k + 1))), (0, .ref (h 15)), (1, .ref (h 1)), (2, .ref (h 6)), (3, .int (nI tr)), (4, .ref (h 19))]) X 5 rfl dX2_growTree_78 (by decide) rfl ?_
                refine Wk.goto X 46 dX2_growTree_81 (by decide) ?_
                refine Wk.lvs (lv' := [(0, .ref (h 15)), (1, .ref (h 1)), (2, .ref (h 6)), (3, .int (nI tr)), (4, .ref (h 19)), (5, .int (nI (k + 1)))]) [1, 2, 3, 4, 5, 0] rfl ?_
                exact ih46 (k + 1) (gaH S.1 k n) (gaS (upT (fun i => psC li gr sc (se 0) i n) n pu) S.1 k n) ((gnC n nb (upT (fun i => psC li gr sc (se 0) i n) n pu) (gaH S.1 k n) (gaS (upT (fun i => psC li gr sc (se 0) i n) n pu) S.1 k n) se tr k (S.1, (S.2.1.1, S.2.1.2.1, S.2.1.2.2.1, S.2.1.2.2.2.1, S.2.1.2.2.2.2.1, S.2.1.2.2.2.2.2), S.2.2.1, S.2.2.2.1, S.2.2.2.2.1, S.2.2.2.2.2.1, S.2.2.2.2.2.2.1, S.2.2.2.2.2.2.2.1, S.2.2.2.2.2.2.2.2.1, S.2.2.2.2.2.2.2.2.2))) (by omega) (by omega) (by subst hS; simp [gtC, *]) (by intro _; rw [show k + 1 - 1 = k by omega, ← hS]; exact ⟨rfl, rfl⟩)
        refine Wk.lvs (lv' := [(0, .ref (h 15)), (1, .ref (h 1)), (2, .ref (h 6)), (3, .int (nI tr)), (4, .ref (h 19)), (5, .int (nI 0))]) [1, 2, 3, 4, 5, 0] rfl ?_
        exact L46 16 0 gh gs ((upT (fun _ => nI 0) n pl, (bf, b1, b2, b3, bu, bl), ki, fe, lm, si, va, he, up, lo)) (by omega) (by omega) (by rfl) (by intro h9; exact absurd h9 (by decide))
      · skip
        refine Wk.aload_n X 0 rfl dX2_growTree_12 rfl ?_
        refine Wk.get X inX2 15 0 lk9 (fun _ h9 => h9) rfl rfl (by decide) rfl dX2_growTree_13 ?_
        refine Wk.iload X 5 rfl dX2_growTree_16 ?_
        refine Wk.aload_n X 1 rfl dX2_growTree_18 rfl ?_
        refine Wk.iload X 5 rfl dX2_growTree_19 ?_
        refine Wk.aload X 4 rfl dX2_growTree_21 ?_
        refine Wk.iconst (v := nI 0) X dX2_growTree_23 (by decide) ?_
        refine Wk.iald X 19 0 rfl rfl (by omega) (by decide) dX2_growTree_24 ?_
        refine Wk.callVi (n := 2) (q0 := 1) X (c_X3_pushOf l dC dI cI cJ cZ h n li gr nb sc t ki fe lm si va he up lo (upT (fun i => psC li gr sc (se 0) i n) i pu) (upT (fun _ => nI 0) i pl) gh gs bf b1 b2 b3 bu bl se i (se 0) (by first | omega | assumption) (by first | omega | assumption)) gX2_growTree_X3_pushOf rfl (by decide +kernel) (by decide) Fr.all (fun h9 => h9) rfl rfl rfl rfl (Nat.le_of_ble_eq_true rfl) ⟨Nat.zero_le _, Nat.zero_le _⟩ dX2_growTree_25 ?_
        refine Wk.iast (ws' := Wc h cI cJ cZ n li gr nb sc t ki fe lm si va he up lo (upd (upT (fun i => psC li gr sc (se 0) i n) i pu) i (psC li gr sc (se 0) i n)) (upT (fun _ => nI 0) i pl) gh gs bf b1 b2 b3 bu bl se) X 16 0 rfl rfl (by omega) (by decide) rfl dX2_growTree_28 ?_
        refine Wk.aload_n X 0 rfl dX2_growTree_29 rfl ?_
        refine Wk.get X inX2 15 1 lk15 (fun _ h9 => h9) rfl rfl (by decide) rfl dX2_growTree_30 ?_
        refine Wk.iload X 5 rfl dX2_growTree_33 ?_
        refine Wk.iconst (v := nI 0) X dX2_growTree_35 (by decide) ?_
        refine Wk.iast (ws' := Wc h cI cJ cZ n li gr nb sc t ki fe lm si va he up lo (upd (upT (fun i => psC li gr sc (se 0) i n) i pu) i (psC li gr sc (se 0) i n)) (upd (upT (fun _ => nI 0) i pl) i (nI 0)) gh gs bf b1 b2 b3 bu bl se) X 17 0 rfl rfl (by omega) (by decide) rfl dX2_growTree_36 ?_
        refine Wk.iincN (n := 1) (lv' := [(5, .int (nI (i + 1))), (0, .ref (h 15)), (1, .ref (h 1)), (2, .ref (h 6)), (3, .int (nI tr)), (4, .ref (h 19))]) X 5 rfl dX2_growTree_37 (by decide) rfl ?_
        refine Wk.goto X 3 dX2_growTree_40 (by decide) ?_
        refine Wk.lvs (lv' := [(0, .ref (h 15)), (1, .ref (h 1)), (2, .ref (h 6)), (3, .int (nI tr)), (4, .ref (h 19)), (5, .int (nI (i + 1)))]) [1, 2, 3, 4, 5, 0] rfl ?_
        exact ih3 (i + 1) (by omega) (by omega)
  refine Wk.lvs (lv' := [(0, .ref (h 15)), (1, .ref (h 1)), (2, .ref (h 6)), (3, .int (nI tr)), (4, .ref (h 19)), (5, .int (nI 0))]) [1, 2, 3, 4, 5, 0] rfl ?_
  exact L3 (n + 1) 0 (by omega) (by omega)

