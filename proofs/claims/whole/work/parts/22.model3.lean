abbrev MS : Type := Int32 × Int32 × Int32 × Int64 × Int64
abbrev MG : Type := (Nat → Int32) × MS × (Nat → Int32) × (Nat → Int32) × (Nat → Int32) × (Nat → Int32) × (Nat → Int32) × (Nat → Int32) × (Nat → Int64) × (Nat → Int64)
def taG (pl : Nat → Int32) (k : Nat) : Nat → Int64
  | 0 => 0
  | i + 1 => if pl i = nI k then taG pl k i + 1 else taG pl k i
def tSG (pl pu : Nat → Int32) (k : Nat) : Nat → Int64
  | 0 => 0
  | i + 1 => if pl i = nI k then tSG pl pu k i + (pu i).toInt64 else tSG pl pu k i
def tlG (pl : Nat → Int32) (k : Nat) (g : Nat → Bool) : Nat → Int64
  | 0 => 0
  | i + 1 => if pl i = nI k then tlG pl k g i + (if g i = true then 1 else 0) else tlG pl k g i
def tsG (pl pu : Nat → Int32) (k : Nat) (g : Nat → Bool) : Nat → Int64
  | 0 => 0
  | i + 1 => if pl i = nI k then tsG pl pu k g i + (if g i = true then (pu i).toInt64 else 0) else tsG pl pu k g i
def trV (le f cv sd : Int32) (m L a S : Int64) (B : MS) : MS :=
  if m < le.toInt64 ∨ ¬ le.toInt64 ≤ a - m then B else
  if (L * (a - m) - (S - L) * m) * (L * (a - m) - (S - L) * m) * B.2.2.2.2 ≤ B.2.2.2.1 * (m * (a - m) * a) then B
  else (f, cv, sd, (L * (a - m) - (S - L) * m) * (L * (a - m) - (S - L) * m), m * (a - m) * a)
def trB (n : Nat) (no pu nu : Nat → Int32) (hb : Nat → Bool) (le : Int32) (k f : Nat) (cv sd : Int32) (B : MS) : MS :=
  trV le (nI f) cv sd (tlG no k (fun i => glM hb nu i f cv sd) n) (tsG no pu k (fun i => glM hb nu i f cv sd) n) (taG no k n) (tSG no pu k n) B
/-- the next number above c -/
def nxM (no nu : Nat → Int32) (hb : Nat → Bool) (k f : Nat) (c : Int32) : Nat → Int32
  | 0 => nI 1001
  | i + 1 => if no i = nI k ∧ hb (i * 4 + f) = true ∧ ¬ nu (i * 4 + f) ≤ c ∧ ¬ nxM no nu hb k f c i ≤ nu (i * 4 + f) then nu (i * 4 + f) else nxM no nu hb k f c i
def ctM (no nu : Nat → Int32) (hb : Nat → Bool) (k f : Nat) (c : Int32) : Nat → Nat
  | 0 => 0
  | i + 1 => if no i = nI k ∧ hb (i * 4 + f) = true ∧ ¬ nu (i * 4 + f) ≤ c then ctM no nu hb k f c i + 1 else ctM no nu hb k f c i
def whM (n : Nat) (no pu nu : Nat → Int32) (hb : Nat → Bool) (le : Int32) (k f : Nat) : Nat → Int32 → MS → MS
  | 0, _, B => B
  | d + 1, c, B => if nI 1001 ≤ nxM no nu hb k f c n then B else whM n no pu nu hb le k f d (nxM no nu hb k f c n) (trB n no pu nu hb le k f (nxM no nu hb k f c n) (nI 1) (trB n no pu nu hb le k f (nxM no nu hb k f c n) (nI 0) B))
def fkM (n : Nat) (no pu nu : Nat → Int32) (hb : Nat → Bool) (se : Nat → Int32) (k : Nat) : Nat → MS → MS
  | 0, B => B
  | f + 1, B => if se 2 ≤ nI (dpN k) then fkM n no pu nu hb se k f B else whM n no pu nu hb (se 3) k f (n + 1) (-1001) (fkM n no pu nu hb se k f B)
theorem fkM_stop {n : Nat} {no pu nu : Nat → Int32} {hb : Nat → Bool} {se : Nat → Int32} {k : Nat} (h : se 2 ≤ nI (dpN k)) (f : Nat) (B : MS) : fkM n no pu nu hb se k f B = B := by
  induction f with
  | zero => rfl
  | succ f ih => simp [fkM, h, ih]
def sdM (n : Nat) (no pu nu : Nat → Int32) (hb : Nat → Bool) (le : Int32) (k f : Nat) (c : Int32) : Nat → MS → MS
  | 0, B => B
  | j + 1, B => trB n no pu nu hb le k f c (nI j) (sdM n no pu nu hb le k f c j B)
def ptM (hb : Nat → Bool) (nu : Nat → Int32) (b1 b2 b3 : Int32) (k : Nat) : Nat → (Nat → Int32) → (Nat → Int32)
  | 0, pl => pl
  | i + 1, pl => if ptM hb nu b1 b2 b3 k i pl i = nI k then upd (ptM hb nu b1 b2 b3 k i pl) i (if glM hb nu i b1.toNatClampNeg b2 b3 = true then nI (2 * k + 1) else nI (2 * k + 2)) else ptM hb nu b1 b2 b3 k i pl
def mnB (n : Nat) (no pu nu : Nat → Int32) (hb : Nat → Bool) (se : Nat → Int32) (k : Nat) (B : MS) : MS := fkM n no pu nu hb se k 4 (B.1, B.2.1, B.2.2.1, 0, 1)
def mnC (n : Nat) (nu : Nat → Int32) (hb : Nat → Bool) (pu se : Nat → Int32) (t k : Nat) (S : MG) : MG :=
  if nI (gaH S.1 k n) = 0 then (S.1, S.2.1, upd S.2.2.1 (t * 15 + k) (nI 0), S.2.2.2.1, S.2.2.2.2.1, S.2.2.2.2.2.1, S.2.2.2.2.2.2.1, upd S.2.2.2.2.2.2.2.1 (t * 15 + k) (nI (gaH S.1 k n)), S.2.2.2.2.2.2.2.2.1, S.2.2.2.2.2.2.2.2.2)
  else if (mnB n S.1 pu nu hb se k S.2.1).2.2.2.1 ≤ 0 then (S.1, mnB n S.1 pu nu hb se k S.2.1, upd S.2.2.1 (t * 15 + k) (nI 1), S.2.2.2.1, S.2.2.2.2.1, S.2.2.2.2.2.1, upd S.2.2.2.2.2.2.1 (t * 15 + k) (flM (se 1 * gaS pu S.1 k n) (nI (gaH S.1 k n))), upd S.2.2.2.2.2.2.2.1 (t * 15 + k) (nI (gaH S.1 k n)), S.2.2.2.2.2.2.2.2.1, S.2.2.2.2.2.2.2.2.2)
  else (ptM hb nu (mnB n S.1 pu nu hb se k S.2.1).1 (mnB n S.1 pu nu hb se k S.2.1).2.1 (mnB n S.1 pu nu hb se k S.2.1).2.2.1 k n S.1, mnB n S.1 pu nu hb se k S.2.1, upd (upd S.2.2.1 (t * 15 + k) (nI 1)) (t * 15 + k) (nI 2), upd S.2.2.2.1 (t * 15 + k) (mnB n S.1 pu nu hb se k S.2.1).1, upd S.2.2.2.2.1 (t * 15 + k) (mnB n S.1 pu nu hb se k S.2.1).2.1, upd S.2.2.2.2.2.1 (t * 15 + k) (mnB n S.1 pu nu hb se k S.2.1).2.2.1, upd S.2.2.2.2.2.2.1 (t * 15 + k) (flM (se 1 * gaS pu S.1 k n) (nI (gaH S.1 k n))), upd S.2.2.2.2.2.2.2.1 (t * 15 + k) (nI (gaH S.1 k n)), vp_updL S.2.2.2.2.2.2.2.2.1 (t * 15 + k) ((mnB n S.1 pu nu hb se k S.2.1).2.2.2.1 / gcC 100 (mnB n S.1 pu nu hb se k S.2.1).2.2.2.1 (mnB n S.1 pu nu hb se k S.2.1).2.2.2.2), vp_updL S.2.2.2.2.2.2.2.2.2 (t * 15 + k) ((mnB n S.1 pu nu hb se k S.2.1).2.2.2.2 / gcC 100 (mnB n S.1 pu nu hb se k S.2.1).2.2.2.1 (mnB n S.1 pu nu hb se k S.2.1).2.2.2.2))
def mtC (n : Nat) (nu : Nat → Int32) (hb : Nat → Bool) (pu se : Nat → Int32) (t : Nat) : Nat → MG → MG
  | 0, S => S
  | k + 1, S => mnC n nu hb pu se t k (mtC n nu hb pu se t k S)
def lfM (n : Nat) (nu : Nat → Int32) (hb : Nat → Bool) (pu se : Nat → Int32) (t : Nat) (S : MG) : Nat → Nat
  | 0 => 0
  | k + 1 => if (mtC n nu hb pu se t (k + 1) S).2.2.1 (t * 15 + k) = nI 1 then lfM n nu hb pu se t S k + 1 else lfM n nu hb pu se t S k
/-- what the reference's division needs -/
def gcOk (B : MS) : Prop := ¬ B.2.2.2.1 ≤ 0 → gcT 100 B.2.2.2.1 B.2.2.2.2 ∧ ¬ gcC 100 B.2.2.2.1 B.2.2.2.2 = 0
def mOk (B : MS) : Prop := ¬ B.2.2.2.1 ≤ 0 → ∃ f, f < 4 ∧ B.1 = nI f
theorem trB_ok {n : Nat} {no pu nu : Nat → Int32} {hb : Nat → Bool} {le : Int32} {k f : Nat} {cv sd : Int32} {B : MS} (hf : f < 4) (h : mOk B) : mOk (trB n no pu nu hb le k f cv sd B) := by
  unfold trB trV
  split
  · exact h
  · split
    · exact h
    · exact fun _ => ⟨f, hf, rfl⟩
theorem whM_ok {n : Nat} {no pu nu : Nat → Int32} {hb : Nat → Bool} {le : Int32} {k f : Nat} (hf : f < 4) (d : Nat) : ∀ (c : Int32) (B : MS), mOk B → mOk (whM n no pu nu hb le k f d c B) := by
  induction d with
  | zero => exact fun _ _ h => h
  | succ d ih =>
    intro c B h
    unfold whM
    split
    · exact h
    · exact ih _ _ (trB_ok hf (trB_ok hf h))
theorem fkM_ok {n : Nat} {no pu nu : Nat → Int32} {hb : Nat → Bool} {se : Nat → Int32} {k : Nat} {B : MS} (h : mOk B) (f : Nat) (hf : f ≤ 4) : mOk (fkM n no pu nu hb se k f B) := by
  induction f with
  | zero => exact h
  | succ f ih =>
    unfold fkM
    split
    · exact ih (by omega)
    · exact whM_ok (by omega) _ _ _ (ih (by omega))
theorem mnB_ok {n : Nat} {no pu nu : Nat → Int32} {hb : Nat → Bool} {se : Nat → Int32} {k : Nat} {B : MS} : mOk (mnB n no pu nu hb se k B) := fkM_ok (fun q => absurd (by exact Int64.le_refl 0) q) 4 (Nat.le_refl 4)
theorem ct_le (no nu : Nat → Int32) (hb : Nat → Bool) (k f : Nat) (c : Int32) (i : Nat) : ctM no nu hb k f c i ≤ i := by
  induction i with
  | zero => exact Nat.le_refl 0
  | succ i ih =>
    unfold ctM
    split <;> omega
theorem nx_gt {no nu : Nat → Int32} {hb : Nat → Bool} {k f : Nat} {c : Int32} (i : Nat) (hc : c ≤ nI 1001) : c ≤ nxM no nu hb k f c i := by
  induction i with
  | zero => exact hc
  | succ i ih =>
    unfold nxM
    split
    · rename_i h
      exact Int32.le_of_lt (Int32.not_le.mp h.2.2.1)
    · exact ih
/-- fewer numbers lie above the next one -/
theorem ct_lt {no nu : Nat → Int32} {hb : Nat → Bool} {k f : Nat} {c : Int32} (i : Nat) : ∀ x : Int32, x ≤ nxM no nu hb k f c i → c ≤ x → ctM no nu hb k f x i ≤ ctM no nu hb k f c i := by
  induction i with
  | zero => exact fun _ _ _ => Nat.le_refl 0
  | succ i ih =>
    intro x h1 h2
    have key : ∀ y : Int32, ¬ nu (i * 4 + f) ≤ y → c ≤ y → ¬ nu (i * 4 + f) ≤ c := fun y q1 q2 q3 => q1 (Int32.le_trans q3 q2)
    have h3 : x ≤ nxM no nu hb k f c i := by
      unfold nxM at h1
      split at h1
      · rename_i h
        exact Int32.le_trans h1 (Int32.le_of_lt (Int32.not_le.mp h.2.2.2))
      · exact h1
    have := ih x h3 h2
    unfold ctM
    by_cases q : no i = nI k ∧ hb (i * 4 + f) = true ∧ ¬ nu (i * 4 + f) ≤ x
    · rw [if_pos q, if_pos ⟨q.1, q.2.1, key x q.2.2 h2⟩]
      omega
    · rw [if_neg q]
      split <;> omega
theorem ct_dec {no nu : Nat → Int32} {hb : Nat → Bool} {k f : Nat} {c : Int32} (i : Nat) (hc : c ≤ nI 1001) : ¬ nI 1001 ≤ nxM no nu hb k f c i → ctM no nu hb k f (nxM no nu hb k f c i) i < ctM no nu hb k f c i := by
  induction i with
  | zero => exact fun h => absurd (Int32.le_refl _) h
  | succ i ih =>
    intro h
    by_cases q : no i = nI k ∧ hb (i * 4 + f) = true ∧ ¬ nu (i * 4 + f) ≤ c ∧ ¬ nxM no nu hb k f c i ≤ nu (i * 4 + f)
    · have e : nxM no nu hb k f c (i + 1) = nu (i * 4 + f) := by simp only [nxM]; rw [if_pos q]
      rw [e]
      have h1 := ct_lt (no := no) (nu := nu) (hb := hb) (k := k) (f := f) (c := c) i (nu (i * 4 + f)) (Int32.le_of_lt (Int32.not_le.mp q.2.2.2)) (Int32.le_of_lt (Int32.not_le.mp q.2.2.1))
      unfold ctM
      rw [if_neg (fun w => w.2.2 (Int32.le_refl _)), if_pos ⟨q.1, q.2.1, q.2.2.1⟩]
      omega
    · have e : nxM no nu hb k f c (i + 1) = nxM no nu hb k f c i := by simp only [nxM]; rw [if_neg q]
      rw [e] at h ⊢
      have h1 := ih h
      unfold ctM
      by_cases w : no i = nI k ∧ hb (i * 4 + f) = true ∧ ¬ nu (i * 4 + f) ≤ nxM no nu hb k f c i
      · rw [if_pos w, if_pos ⟨w.1, w.2.1, fun z => w.2.2 (Int32.le_trans z (nx_gt i hc))⟩]
        omega
      · rw [if_neg w]
        split <;> omega
theorem nx_le {no nu : Nat → Int32} {hb : Nat → Bool} {k f : Nat} {c : Int32} (i : Nat) : nxM no nu hb k f c i ≤ nI 1001 := by
  induction i with
  | zero => exact Int32.le_refl _
  | succ i ih =>
    unfold nxM
    split
    · rename_i h
      exact Int32.le_trans (Int32.le_of_lt (Int32.not_le.mp h.2.2.2)) ih
    · exact ih
set_option maxHeartbeats 4000000 in
set_option maxRecDepth 100000 in
theorem c_X5_tries (l : Launch) (dC : Nat → ClassId) (dI : Nat → Nat → Nat) (cI cJ cZ : ClassId) (h : Nat → Nat) (th : Int32) (n : Nat) (li : Nat → Int32) (gr : Nat → Int32) (nu : Nat → Int32) (hb : Nat → Bool) (se : Nat → Int32) (t : Nat) (ki : Nat → Int32) (fe : Nat → Int32) (lm : Nat → Int32) (si : Nat → Int32) (va : Nat → Int32) (he : Nat → Int32) (up : Nat → Int64) (lo : Nat → Int64) (sc : Nat → Int64) (no : Nat → Int32) (pu : Nat → Int32) (b1 : Int32) (b2 : Int32) (b3 : Int32) (bu : Int64) (bl : Int64) (k : Nat) (f : Nat) (cv : Int32) (sd : Int32) (hn0 : n ≤ 24) (hf0 : f < 4) : Cv l yX5_tries wsX5_tries 2 44 (dC, dI) cl6 (TY cI cJ cZ) false [.ref (h 0), .int (nI k), .int (nI f), .int cv, .int sd] (Wm h cI cJ cZ th n li gr nu hb se t ki fe lm si va he up lo sc no pu b1 b2 b3 bu bl) (Wm h cI cJ cZ th n li gr nu hb se t ki fe lm si va he up lo sc no pu ((trB n no pu nu hb (se 3) k f cv sd (b1, b2, b3, bu, bl)).1) ((trB n no pu nu hb (se 3) k f cv sd (b1, b2, b3, bu, bl)).2.1) ((trB n no pu nu hb (se 3) k f cv sd (b1, b2, b3, bu, bl)).2.2.1) ((trB n no pu nu hb (se 3) k f cv sd (b1, b2, b3, bu, bl)).2.2.2.1) ((trB n no pu nu hb (se 3) k f cv sd (b1, b2, b3, bu, bl)).2.2.2.2)) := by
  refine Cv.of (cc := cX5_tries) (maxL := 21) (own := RX5) rfl (plainFor_of_name (by decide)) rfl (Nat.le_of_ble_eq_true rfl) ?_
  intro pg ev s0 md ar bw mt cd A X hr hk
  show Wk pg l ev _ s0 md ar bw mt cd 0 0 _ 21 (dC, dI) cl6 A 0 [(0, .ref (h 0)), (1, .int (nI k)), (2, .int (nI f)), (3, .int cv), (4, .int sd)] [] (Wm h cI cJ cZ th n li gr nu hb se t ki fe lm si va he up lo sc no pu b1 b2 b3 bu bl)
  have inX5 : ∀ w ∈ u_ws RX5 TX5 24, w ∈ wsX5_tries := by decide +kernel
  have lk23 := X.w (.fieldLink RX5 23 "PairedTreesModel" "settings" "[I") (by decide +kernel)
  have lk54 := X.w (.fieldLink RX5 54 "PairedTreesModel" "nodeOf" "[I") (by decide +kernel)
  have lk57 := X.w (.fieldLink RX5 57 "PairedTreesModel" "pushes" "[I") (by decide +kernel)
  have lk63 := X.w (.fieldLink RX5 63 "PairedTreesModel" "things" "I") (by decide +kernel)
  have lk104 := X.w (.fieldLink RX5 104 "PairedTreesModel" "bestLower" "J") (by decide +kernel)
  have lk108 := X.w (.fieldLink RX5 108 "PairedTreesModel" "bestUpper" "J") (by decide +kernel)
  have lk111 := X.w (.fieldLink RX5 111 "PairedTreesModel" "bestBy" "I") (by decide +kernel)
  have lk114 := X.w (.fieldLink RX5 114 "PairedTreesModel" "bestCut" "I") (by decide +kernel)
  have lk117 := X.w (.fieldLink RX5 117 "PairedTreesModel" "bestSide" "I") (by decide +kernel)
  refine Wk.lconst (v := 0) X dX5_tries_0 (by decide) ?_
  refine Wk.lstore (lv' := [(5, .long 0), (0, .ref (h 0)), (1, .int (nI k)), (2, .int (nI f)), (3, .int cv), (4, .int sd)]) X dX5_tries_1 (by decide) rfl ?_
  refine Wk.lconst (v := 0) X dX5_tries_3 (by decide) ?_
  refine Wk.lstore (lv' := [(7, .long 0), (5, .long 0), (0, .ref (h 0)), (1, .int (nI k)), (2, .int (nI f)), (3, .int cv), (4, .int sd)]) X dX5_tries_4 (by decide) rfl ?_
  refine Wk.lconst (v := 0) X dX5_tries_6 (by decide) ?_
  refine Wk.lstore (lv' := [(9, .long 0), (7, .long 0), (5, .long 0), (0, .ref (h 0)), (1, .int (nI k)), (2, .int (nI f)), (3, .int cv), (4, .int sd)]) X dX5_tries_7 (by decide) rfl ?_
  refine Wk.lconst (v := 0) X dX5_tries_9 (by decide) ?_
  refine Wk.lstore (lv' := [(11, .long 0), (9, .long 0), (7, .long 0), (5, .long 0), (0, .ref (h 0)), (1, .int (nI k)), (2, .int (nI f)), (3, .int cv), (4, .int sd)]) X dX5_tries_10 (by decide) rfl ?_
  refine Wk.iconst (v := nI 0) X dX5_tries_12 (by decide) ?_
  refine Wk.istore (lv' := [(13, .int (nI 0)), (11, .long 0), (9, .long 0), (7, .long 0), (5, .long 0), (0, .ref (h 0)), (1, .int (nI k)), (2, .int (nI f)), (3, .int cv), (4, .int sd)]) X dX5_tries_13 (by decide) rfl ?_
  have L15 : ∀ (fu15 : Nat) (i : Nat) (m : Int64) (y : Int64) (a : Int64) (s1 : Int64) (hq : n + 1 ≤ i + fu15) (hi : i ≤ n) (h_m : m = tlG no k (fun i => glM hb nu i f cv sd) i) (h_y : y = tsG no pu k (fun i => glM hb nu i f cv sd) i) (h_a : a = taG no k i) (h_s1 : s1 = tSG no pu k i), Wk pg l ev ({ frames := 2, cells := 0, slots := 0, locals := 44 } : Room) s0 md ar bw mt cd 0 0 (QRv bw ar s0 (dC, dI) cl6 (TY cI cJ cZ) A (Wm h cI cJ cZ th n li gr nu hb se t ki fe lm si va he up lo sc no pu ((trB n no pu nu hb (se 3) k f cv sd (b1, b2, b3, bu, bl)).1) ((trB n no pu nu hb (se 3) k f cv sd (b1, b2, b3, bu, bl)).2.1) ((trB n no pu nu hb (se 3) k f cv sd (b1, b2, b3, bu, bl)).2.2.1) ((trB n no pu nu hb (se 3) k f cv sd (b1, b2, b3, bu, bl)).2.2.2.1) ((trB n no pu nu hb (se 3) k f cv sd (b1, b2, b3, bu, bl)).2.2.2.2))) 21 (dC, dI) cl6 A 15 [(0, .ref (h 0)), (1, .int (nI k)), (2, .int (nI f)), (3, .int cv), (4, .int sd), (5, .long m), (7, .long y), (9, .long a), (11, .long s1), (13, .int (nI i))] [] (Wm h cI cJ cZ th n li gr nu hb se t ki fe lm si va he up lo sc no pu b1 b2 b3 bu bl) := by
    intro fu15
    induction fu15 with
    | zero => intro i m y a s1 hq hi h_m h_y h_a h_s1; exact absurd hq (by omega)
    | succ fu15 ih15 =>
      intro i m y a s1 hq hi h_m h_y h_a h_s1
      refine Wk.iload X 9 rfl dX5_tries_15 ?_
      refine Wk.aload_n X 0 rfl dX5_tries_17 rfl ?_
      refine Wk.get X inX5 0 1 lk63 (fun _ h9 => h9) rfl rfl (by decide) rfl dX5_tries_18 ?_
      refine Wk.icmpN_ge X 109 (by omega) (by omega) dX5_tries_21 (by decide) (fun c1 => ?_) (fun c1 => ?_)
      · skip
        have e_m : tlG no k (fun i => glM hb nu i f cv sd) n = m := by rw [h_m, show i = n by omega]
        have e_y : tsG no pu k (fun i => glM hb nu i f cv sd) n = y := by rw [h_y, show i = n by omega]
        have e_a : taG no k n = a := by rw [h_a, show i = n by omega]
        have e_s1 : tSG no pu k n = s1 := by rw [h_s1, show i = n by omega]
        clear h_m h_y h_a h_s1
        refine Wk.lload X 7 rfl dX5_tries_109 ?_
        refine Wk.lload X 5 rfl dX5_tries_111 ?_
        refine Wk.lsub X dX5_tries_113 ?_
        refine Wk.lstore (lv' := [(13, .long (a - m)), (0, .ref (h 0)), (1, .int (nI k)), (2, .int (nI f)), (3, .int cv), (4, .int sd), (5, .long m), (7, .long y), (9, .long a), (11, .long s1)]) X dX5_tries_114 (by decide) rfl ?_
        refine Wk.lload X 6 rfl dX5_tries_116 ?_
        refine Wk.aload_n X 1 rfl dX5_tries_118 rfl ?_
        refine Wk.get X inX5 0 6 lk23 (fun _ h9 => h9) rfl rfl (by decide) rfl dX5_tries_119 ?_
        refine Wk.iconst (v := nI 3) X dX5_tries_122 (by decide) ?_
        refine Wk.iald X 5 0 rfl rfl (by omega) (by decide) dX5_tries_123 ?_
        refine Wk.i2l X dX5_tries_124 ?_
        refine Wk.lcmp_lt X 142 dX5_tries_125 dX5_tries_126 (by decide) (fun c2 => ?_) (fun c2 => ?_)
        · skip
          exact Wk.vret X hr hk (by simp [trB, trV, *]) dX5_tries_142
        · skip
          refine Wk.lload X 0 rfl dX5_tries_129 ?_
          refine Wk.aload_n X 1 rfl dX5_tries_131 rfl ?_
          refine Wk.get X inX5 0 6 lk23 (fun _ h9 => h9) rfl rfl (by decide) rfl dX5_tries_132 ?_
          refine Wk.iconst (v := nI 3) X dX5_tries_135 (by decide) ?_
          refine Wk.iald X 5 0 rfl rfl (by omega) (by decide) dX5_tries_136 ?_
          refine Wk.i2l X dX5_tries_137 ?_
          refine Wk.lcmp_ge X 143 dX5_tries_138 dX5_tries_139 (by decide) (fun c3 => ?_) (fun c3 => ?_)
          · skip
            refine Wk.lload X 7 rfl dX5_tries_143 ?_
            refine Wk.lload X 0 rfl dX5_tries_145 ?_
            refine Wk.lmul X dX5_tries_147 ?_
            refine Wk.lload X 9 rfl dX5_tries_148 ?_
            refine Wk.lload X 7 rfl dX5_tries_150 ?_
            refine Wk.lsub X dX5_tries_152 ?_
            refine Wk.lload X 6 rfl dX5_tries_153 ?_
            refine Wk.lmul X dX5_tries_155 ?_
            refine Wk.lsub X dX5_tries_156 ?_
            refine Wk.lstore (lv' := [(15, .long ((y * (a - m)) - ((s1 - y) * m))), (13, .long (a - m)), (0, .ref (h 0)), (1, .int (nI k)), (2, .int (nI f)), (3, .int cv), (4, .int sd), (5, .long m), (7, .long y), (9, .long a), (11, .long s1)]) X dX5_tries_157 (by decide) rfl ?_
            refine Wk.lload X 0 rfl dX5_tries_159 ?_
            refine Wk.lload X 0 rfl dX5_tries_161 ?_
            refine Wk.lmul X dX5_tries_163 ?_
            refine Wk.lstore (lv' := [(17, .long (((y * (a - m)) - ((s1 - y) * m)) * ((y * (a - m)) - ((s1 - y) * m)))), (15, .long ((y * (a - m)) - ((s1 - y) * m))), (13, .long (a - m)), (0, .ref (h 0)), (1, .int (nI k)), (2, .int (nI f)), (3, .int cv), (4, .int sd), (5, .long m), (7, .long y), (9, .long a), (11, .long s1)]) X dX5_tries_164 (by decide) rfl ?_
            refine Wk.lload X 8 rfl dX5_tries_166 ?_
            refine Wk.lload X 2 rfl dX5_tries_168 ?_
            refine Wk.lmul X dX5_tries_170 ?_
            refine Wk.lload X 10 rfl dX5_tries_171 ?_
            refine Wk.lmul X dX5_tries_173 ?_
            refine Wk.lstore (lv' := [(19, .long ((m * (a - m)) * a)), (17, .long (((y * (a - m)) - ((s1 - y) * m)) * ((y * (a - m)) - ((s1 - y) * m)))), (15, .long ((y * (a - m)) - ((s1 - y) * m))), (13, .long (a - m)), (0, .ref (h 0)), (1, .int (nI k)), (2, .int (nI f)), (3, .int cv), (4, .int sd), (5, .long m), (7, .long y), (9, .long a), (11, .long s1)]) X dX5_tries_174 (by decide) rfl ?_
            refine Wk.lload X 1 rfl dX5_tries_176 ?_
            refine Wk.aload_n X 4 rfl dX5_tries_178 rfl ?_
            refine Wk.get X inX5 0 23 lk104 (fun _ h9 => h9) rfl rfl (by decide) rfl dX5_tries_179 ?_
            refine Wk.lmul X dX5_tries_182 ?_
            refine Wk.aload_n X 4 rfl dX5_tries_183 rfl ?_
            refine Wk.get X inX5 0 22 lk108 (fun _ h9 => h9) rfl rfl (by decide) rfl dX5_tries_184 ?_
            refine Wk.lload X 0 rfl dX5_tries_187 ?_
            refine Wk.lmul X dX5_tries_189 ?_
            refine Wk.lcmp_le X 222 dX5_tries_190 dX5_tries_191 (by decide) (fun c4 => ?_) (fun c4 => ?_)
            · skip
              exact Wk.vret X hr hk (by simp [trB, trV, *]) dX5_tries_222
            · skip
              refine Wk.aload_n X 4 rfl dX5_tries_194 rfl ?_
              refine Wk.iload_n X 6 rfl dX5_tries_195 rfl ?_
              refine Wk.put (ws' := Wm h cI cJ cZ th n li gr nu hb se t ki fe lm si va he up lo sc no pu (nI f) b2 b3 bu bl) X inX5 tyX5 tyX5_ok nmX5 0 19 lk111 (fun _ h9 => h9) rfl rfl (by decide) rfl (tyX5_ok 19 (by decide)) rfl rfl (Nat.le_of_ble_eq_true rfl) rfl dX5_tries_196 ?_
              refine Wk.aload_n X 4 rfl dX5_tries_199 rfl ?_
              refine Wk.iload_n X 7 rfl dX5_tries_200 rfl ?_
              refine Wk.put (ws' := Wm h cI cJ cZ th n li gr nu hb se t ki fe lm si va he up lo sc no pu (nI f) cv b3 bu bl) X inX5 tyX5 tyX5_ok nmX5 0 20 lk114 (fun _ h9 => h9) rfl rfl (by decide) rfl (tyX5_ok 20 (by decide)) rfl rfl (Nat.le_of_ble_eq_true rfl) rfl dX5_tries_201 ?_
              refine Wk.aload_n X 4 rfl dX5_tries_204 rfl ?_
              refine Wk.iload X 8 rfl dX5_tries_205 ?_
              refine Wk.put (ws' := Wm h cI cJ cZ th n li gr nu hb se t ki fe lm si va he up lo sc no pu (nI f) cv sd bu bl) X inX5 tyX5 tyX5_ok nmX5 0 21 lk117 (fun _ h9 => h9) rfl rfl (by decide) rfl (tyX5_ok 21 (by decide)) rfl rfl (Nat.le_of_ble_eq_true rfl) rfl dX5_tries_207 ?_
              refine Wk.aload_n X 4 rfl dX5_tries_210 rfl ?_
              refine Wk.lload X 1 rfl dX5_tries_211 ?_
              refine Wk.put (ws' := Wm h cI cJ cZ th n li gr nu hb se t ki fe lm si va he up lo sc no pu (nI f) cv sd (((y * (a - m)) - ((s1 - y) * m)) * ((y * (a - m)) - ((s1 - y) * m))) bl) X inX5 tyX5 tyX5_ok nmX5 0 22 lk108 (fun _ h9 => h9) rfl rfl (by decide) rfl (tyX5_ok 22 (by decide)) rfl rfl (Nat.le_of_ble_eq_true rfl) rfl dX5_tries_213 ?_
              refine Wk.aload_n X 4 rfl dX5_tries_216 rfl ?_
              refine Wk.lload X 0 rfl dX5_tries_217 ?_
              refine Wk.put (ws' := Wm h cI cJ cZ th n li gr nu hb se t ki fe lm si va he up lo sc no pu (nI f) cv sd (((y * (a - m)) - ((s1 - y) * m)) * ((y * (a - m)) - ((s1 - y) * m))) ((m * (a - m)) * a)) X inX5 tyX5 tyX5_ok nmX5 0 23 lk104 (fun _ h9 => h9) rfl rfl (by decide) rfl (tyX5_ok 23 (by decide)) rfl rfl (Nat.le_of_ble_eq_true rfl) rfl dX5_tries_219 ?_
              exact Wk.vret X hr hk (by simp [trB, trV, *]) dX5_tries_222
          · skip
            exact Wk.vret X hr hk (by simp [trB, trV, *]) dX5_tries_142
      · skip
        refine Wk.aload_n X 0 rfl dX5_tries_24 rfl ?_
        refine Wk.get X inX5 0 17 lk54 (fun _ h9 => h9) rfl rfl (by decide) rfl dX5_tries_25 ?_
        refine Wk.iload X 9 rfl dX5_tries_28 ?_
        refine Wk.iald X 15 0 rfl rfl (by omega) (by decide) dX5_tries_30 ?_
        refine Wk.iload_n X 1 rfl dX5_tries_31 rfl ?_
        refine Wk.icmp_ne X 103 dX5_tries_32 (by decide) (fun c5 => ?_) (fun c5 => ?_)
        · skip
          refine Wk.iincN (n := 1) (lv' := [(13, .int (nI (i + 1))), (0, .ref (h 0)), (1, .int (nI k)), (2, .int (nI f)), (3, .int cv), (4, .int sd), (5, .long m), (7, .long y), (9, .long a), (11, .long s1)]) X 9 rfl dX5_tries_103 (by decide) rfl ?_
          refine Wk.goto X 15 dX5_tries_106 (by decide) ?_
          refine Wk.lvs (lv' := [(0, .ref (h 0)), (1, .int (nI k)), (2, .int (nI f)), (3, .int cv), (4, .int sd), (5, .long m), (7, .long y), (9, .long a), (11, .long s1), (13, .int (nI (i + 1)))]) [1, 2, 3, 4, 5, 6, 7, 8, 9, 0] rfl ?_
          exact ih15 (i + 1) m y a s1 (by omega) (by omega) (by simp [tlG, *]) (by simp [tsG, *]) (by simp [taG, *]) (by simp [tSG, *])
        · skip
          refine Wk.aload_n X 0 rfl dX5_tries_35 rfl ?_
          refine Wk.iload X 9 rfl dX5_tries_36 ?_
          refine Wk.iload_n X 2 rfl dX5_tries_38 rfl ?_
          refine Wk.iload_n X 3 rfl dX5_tries_39 rfl ?_
          refine Wk.iload X 4 rfl dX5_tries_40 ?_
          refine Wk.callVi (n := 4) (q0 := 0) X (c_X5_goesLeft l dC dI cI cJ cZ h th n li gr nu hb se t ki fe lm si va he up lo sc no pu b1 b2 b3 bu bl i (nI i) f cv sd (by exact atM_nI (by omega)) (by first | omega | assumption) (by first | omega | assumption)) gX5_tries_X5_goesLeft rfl (by decide +kernel) (by decide) Fr.all (fun h9 => h9) rfl rfl rfl rfl (Nat.le_of_ble_eq_true rfl) ⟨Nat.zero_le _, Nat.zero_le _⟩ dX5_tries_42 ?_
          refine Wk.istore (lv' := [(14, .int (bI (glM hb nu i f cv sd))), (0, .ref (h 0)), (1, .int (nI k)), (2, .int (nI f)), (3, .int cv), (4, .int sd), (5, .long m), (7, .long y), (9, .long a), (11, .long s1), (13, .int (nI i))]) X dX5_tries_45 (by decide) rfl ?_
          refine Wk.lload X 8 rfl dX5_tries_47 ?_
          refine Wk.lconst (v := 1) X dX5_tries_49 (by decide) ?_
          refine Wk.ladd X dX5_tries_50 ?_
          refine Wk.lstore (lv' := [(9, .long (a + 1)), (14, .int (bI (glM hb nu i f cv sd))), (0, .ref (h 0)), (1, .int (nI k)), (2, .int (nI f)), (3, .int cv), (4, .int sd), (5, .long m), (7, .long y), (11, .long s1), (13, .int (nI i))]) X dX5_tries_51 (by decide) rfl ?_
          refine Wk.lload X 9 rfl dX5_tries_53 ?_
          refine Wk.aload_n X 2 rfl dX5_tries_55 rfl ?_
          refine Wk.get X inX5 0 18 lk57 (fun _ h9 => h9) rfl rfl (by decide) rfl dX5_tries_56 ?_
          refine Wk.iload X 10 rfl dX5_tries_59 ?_
          refine Wk.iald X 16 0 rfl rfl (by omega) (by decide) dX5_tries_61 ?_
          refine Wk.i2l X dX5_tries_62 ?_
          refine Wk.ladd X dX5_tries_63 ?_
          refine Wk.lstore (lv' := [(11, .long (s1 + ((pu i).toInt64))), (9, .long (a + 1)), (14, .int (bI (glM hb nu i f cv sd))), (0, .ref (h 0)), (1, .int (nI k)), (2, .int (nI f)), (3, .int cv), (4, .int sd), (5, .long m), (7, .long y), (13, .int (nI i))]) X dX5_tries_64 (by decide) rfl ?_
          rcases hgl : glM hb nu i f cv sd with _ | _
          · refine Wk.lvq (lv' := [(11, .long (s1 + ((pu i).toInt64))), (9, .long (a + 1)), (14, .int (bI false)), (0, .ref (h 0)), (1, .int (nI k)), (2, .int (nI f)), (3, .int cv), (4, .int sd), (5, .long m), (7, .long y), (13, .int (nI i))]) (by first | rfl | rw [hgl]) ?_
            refine Wk.lload X 8 rfl dX5_tries_66 ?_
            refine Wk.iload X 2 rfl dX5_tries_68 ?_
            refine Wk.ifB_eq X 77 dX5_tries_70 (by decide) (fun c6 => ?_) (fun c6 => ?_)
            · skip
              refine Wk.lconst (v := 0) X dX5_tries_77 (by decide) ?_
              refine Wk.ladd X dX5_tries_78 ?_
              refine Wk.lstore (lv' := [(5, .long (m + 0)), (11, .long (s1 + ((pu i).toInt64))), (9, .long (a + 1)), (14, .int (bI false)), (0, .ref (h 0)), (1, .int (nI k)), (2, .int (nI f)), (3, .int cv), (4, .int sd), (7, .long y), (13, .int (nI i))]) X dX5_tries_79 (by decide) rfl ?_
              refine Wk.lload X 9 rfl dX5_tries_81 ?_
              refine Wk.iload X 3 rfl dX5_tries_83 ?_
              refine Wk.ifB_eq X 99 dX5_tries_85 (by decide) (fun c7 => ?_) (fun c7 => ?_)
              · skip
                refine Wk.lconst (v := 0) X dX5_tries_99 (by decide) ?_
                refine Wk.ladd X dX5_tries_100 ?_
                refine Wk.lstore (lv' := [(7, .long (y + 0)), (5, .long (m + 0)), (11, .long (s1 + ((pu i).toInt64))), (9, .long (a + 1)), (14, .int (bI false)), (0, .ref (h 0)), (1, .int (nI k)), (2, .int (nI f)), (3, .int cv), (4, .int sd), (13, .int (nI i))]) X dX5_tries_101 (by decide) rfl ?_
                refine Wk.iincN (n := 1) (lv' := [(13, .int (nI (i + 1))), (7, .long (y + 0)), (5, .long (m + 0)), (11, .long (s1 + ((pu i).toInt64))), (9, .long (a + 1)), (14, .int (bI false)), (0, .ref (h 0)), (1, .int (nI k)), (2, .int (nI f)), (3, .int cv), (4, .int sd)]) X 10 rfl dX5_tries_103 (by decide) rfl ?_
                refine Wk.goto X 15 dX5_tries_106 (by decide) ?_
                refine Wk.lvs (lv' := [(0, .ref (h 0)), (1, .int (nI k)), (2, .int (nI f)), (3, .int cv), (4, .int sd), (5, .long (m + 0)), (7, .long (y + 0)), (9, .long (a + 1)), (11, .long (s1 + ((pu i).toInt64))), (13, .int (nI (i + 1)))]) [6, 7, 8, 9, 10, 2, 1, 4, 3, 0] rfl ?_
                exact ih15 (i + 1) (m + 0) (y + 0) (a + 1) (s1 + ((pu i).toInt64)) (by omega) (by omega) (by simp [tlG, *]) (by simp [tsG, *]) (by simp [taG, *]) (by simp [tSG, *])
              · exact absurd c7 (by decide)
            · exact absurd c6 (by decide)
          · refine Wk.lvq (lv' := [(11, .long (s1 + ((pu i).toInt64))), (9, .long (a + 1)), (14, .int (bI true)), (0, .ref (h 0)), (1, .int (nI k)), (2, .int (nI f)), (3, .int cv), (4, .int sd), (5, .long m), (7, .long y), (13, .int (nI i))]) (by first | rfl | rw [hgl]) ?_
            refine Wk.lload X 8 rfl dX5_tries_66 ?_
            refine Wk.iload X 2 rfl dX5_tries_68 ?_
            refine Wk.ifB_eq X 77 dX5_tries_70 (by decide) (fun c8 => ?_) (fun c8 => ?_)
            · exact absurd c8 (by decide)
            · skip
              refine Wk.lconst (v := 1) X dX5_tries_73 (by decide) ?_
              refine Wk.goto X 78 dX5_tries_74 (by decide) ?_
              refine Wk.ladd X dX5_tries_78 ?_
              refine Wk.lstore (lv' := [(5, .long (m + 1)), (11, .long (s1 + ((pu i).toInt64))), (9, .long (a + 1)), (14, .int (bI true)), (0, .ref (h 0)), (1, .int (nI k)), (2, .int (nI f)), (3, .int cv), (4, .int sd), (7, .long y), (13, .int (nI i))]) X dX5_tries_79 (by decide) rfl ?_
              refine Wk.lload X 9 rfl dX5_tries_81 ?_
              refine Wk.iload X 3 rfl dX5_tries_83 ?_
              refine Wk.ifB_eq X 99 dX5_tries_85 (by decide) (fun c9 => ?_) (fun c9 => ?_)
              · exact absurd c9 (by decide)
              · skip
                refine Wk.aload_n X 4 rfl dX5_tries_88 rfl ?_
                refine Wk.get X inX5 0 18 lk57 (fun _ h9 => h9) rfl rfl (by decide) rfl dX5_tries_89 ?_
                refine Wk.iload X 10 rfl dX5_tries_92 ?_
                refine Wk.iald X 16 0 rfl rfl (by omega) (by decide) dX5_tries_94 ?_
                refine Wk.i2l X dX5_tries_95 ?_
                refine Wk.goto X 100 dX5_tries_96 (by decide) ?_
                refine Wk.ladd X dX5_tries_100 ?_
                refine Wk.lstore (lv' := [(7, .long (y + ((pu i).toInt64))), (5, .long (m + 1)), (11, .long (s1 + ((pu i).toInt64))), (9, .long (a + 1)), (14, .int (bI true)), (0, .ref (h 0)), (1, .int (nI k)), (2, .int (nI f)), (3, .int cv), (4, .int sd), (13, .int (nI i))]) X dX5_tries_101 (by decide) rfl ?_
                refine Wk.iincN (n := 1) (lv' := [(13, .int (nI (i + 1))), (7, .long (y + ((pu i).toInt64))), (5, .long (m + 1)), (11, .long (s1 + ((pu i).toInt64))), (9, .long (a + 1)), (14, .int (bI true)), (0, .ref (h 0)), (1, .int (nI k)), (2, .int (nI f)), (3, .int cv), (4, .int sd)]) X 10 rfl dX5_tries_103 (by decide) rfl ?_
                refine Wk.goto X 15 dX5_tries_106 (by decide) ?_
                refine Wk.lvs (lv' := [(0, .ref (h 0)), (1, .int (nI k)), (2, .int (nI f)), (3, .int cv), (4, .int sd), (5, .long (m + 1)), (7, .long (y + ((pu i).toInt64))), (9, .long (a + 1)), (11, .long (s1 + ((pu i).toInt64))), (13, .int (nI (i + 1)))]) [6, 7, 8, 9, 10, 2, 1, 4, 3, 0] rfl ?_
                exact ih15 (i + 1) (m + 1) (y + ((pu i).toInt64)) (a + 1) (s1 + ((pu i).toInt64)) (by omega) (by omega) (by simp [tlG, *]) (by simp [tsG, *]) (by simp [taG, *]) (by simp [tSG, *])
  refine Wk.lvs (lv' := [(0, .ref (h 0)), (1, .int (nI k)), (2, .int (nI f)), (3, .int cv), (4, .int sd), (5, .long 0), (7, .long 0), (9, .long 0), (11, .long 0), (13, .int (nI 0))]) [5, 6, 7, 8, 9, 4, 3, 2, 1, 0] rfl ?_
  exact L15 (n + 1) 0 0 0 0 0 (by omega) (by omega) (by rfl) (by rfl) (by rfl) (by rfl)

theorem gaH_le (pl : Nat → Int32) (k i : Nat) : gaH pl k i ≤ i := by
  induction i with
  | zero => exact Nat.le_refl 0
  | succ i ih =>
    unfold gaH
    split <;> omega
set_option maxHeartbeats 4000000 in
set_option maxRecDepth 100000 in
theorem c_X5_growNode (l : Launch) (dC : Nat → ClassId) (dI : Nat → Nat → Nat) (cI cJ cZ : ClassId) (h : Nat → Nat) (th : Int32) (n : Nat) (li : Nat → Int32) (gr : Nat → Int32) (nu : Nat → Int32) (hb : Nat → Bool) (se : Nat → Int32) (t : Nat) (ki : Nat → Int32) (fe : Nat → Int32) (lm : Nat → Int32) (si : Nat → Int32) (va : Nat → Int32) (he : Nat → Int32) (up : Nat → Int64) (lo : Nat → Int64) (sc : Nat → Int64) (no : Nat → Int32) (pu : Nat → Int32) (b1 : Int32) (b2 : Int32) (b3 : Int32) (bu : Int64) (bl : Int64) (k : Nat) (hn0 : n ≤ 24) (ht0 : t < 20) (hk0 : k < 15) (hgc : gcOk (mnB n no pu nu hb se k (b1, b2, b3, bu, bl))) : Cv l yX5_growNode wsX5_growNode 3 84 (dC, dI) cl6 (TY cI cJ cZ) false [.ref (h 0), .int (nI k)] (Wm h cI cJ cZ th n li gr nu hb se t ki fe lm si va he up lo sc no pu b1 b2 b3 bu bl) (Wm h cI cJ cZ th n li gr nu hb se t ((mnC n nu hb pu se t k (no, (b1, b2, b3, bu, bl), ki, fe, lm, si, va, he, up, lo)).2.2.1) ((mnC n nu hb pu se t k (no, (b1, b2, b3, bu, bl), ki, fe, lm, si, va, he, up, lo)).2.2.2.1) ((mnC n nu hb pu se t k (no, (b1, b2, b3, bu, bl), ki, fe, lm, si, va, he, up, lo)).2.2.2.2.1) ((mnC n nu hb pu se t k (no, (b1, b2, b3, bu, bl), ki, fe, lm, si, va, he, up, lo)).2.2.2.2.2.1) ((mnC n nu hb pu se t k (no, (b1, b2, b3, bu, bl), ki, fe, lm, si, va, he, up, lo)).2.2.2.2.2.2.1) ((mnC n nu hb pu se t k (no, (b1, b2, b3, bu, bl), ki, fe, lm, si, va, he, up, lo)).2.2.2.2.2.2.2.1) ((mnC n nu hb pu se t k (no, (b1, b2, b3, bu, bl), ki, fe, lm, si, va, he, up, lo)).2.2.2.2.2.2.2.2.1) ((mnC n nu hb pu se t k (no, (b1, b2, b3, bu, bl), ki, fe, lm, si, va, he, up, lo)).2.2.2.2.2.2.2.2.2) sc ((mnC n nu hb pu se t k (no, (b1, b2, b3, bu, bl), ki, fe, lm, si, va, he, up, lo)).1) pu ((mnC n nu hb pu se t k (no, (b1, b2, b3, bu, bl), ki, fe, lm, si, va, he, up, lo)).2.1.1) ((mnC n nu hb pu se t k (no, (b1, b2, b3, bu, bl), ki, fe, lm, si, va, he, up, lo)).2.1.2.1) ((mnC n nu hb pu se t k (no, (b1, b2, b3, bu, bl), ki, fe, lm, si, va, he, up, lo)).2.1.2.2.1) ((mnC n nu hb pu se t k (no, (b1, b2, b3, bu, bl), ki, fe, lm, si, va, he, up, lo)).2.1.2.2.2.1) ((mnC n nu hb pu se t k (no, (b1, b2, b3, bu, bl), ki, fe, lm, si, va, he, up, lo)).2.1.2.2.2.2)) := by
  refine Cv.of (cc := cX5_growNode) (maxL := 11) (own := RX5) rfl (plainFor_of_name (by decide)) rfl (Nat.le_of_ble_eq_true rfl) ?_
  intro pg ev s0 md ar bw mt cd A X hr hk
  show Wk pg l ev _ s0 md ar bw mt cd 0 0 _ 11 (dC, dI) cl6 A 0 [(0, .ref (h 0)), (1, .int (nI k))] [] (Wm h cI cJ cZ th n li gr nu hb se t ki fe lm si va he up lo sc no pu b1 b2 b3 bu bl)
  have inX5 : ∀ w ∈ u_ws RX5 TX5 24, w ∈ wsX5_growNode := by decide +kernel
  have lk16 := X.w (.fieldLink RX5 16 "PairedTreesModel" "number" "[I") (by decide +kernel)
  have lk19 := X.w (.fieldLink RX5 19 "PairedTreesModel" "has" "[Z") (by decide +kernel)
  have lk23 := X.w (.fieldLink RX5 23 "PairedTreesModel" "settings" "[I") (by decide +kernel)
  have lk26 := X.w (.fieldLink RX5 26 "PairedTreesModel" "sort" "[I") (by decide +kernel)
  have lk29 := X.w (.fieldLink RX5 29 "PairedTreesModel" "byOf" "[I") (by decide +kernel)
  have lk32 := X.w (.fieldLink RX5 32 "PairedTreesModel" "cutOf" "[I") (by decide +kernel)
  have lk35 := X.w (.fieldLink RX5 35 "PairedTreesModel" "sideOf" "[I") (by decide +kernel)
  have lk38 := X.w (.fieldLink RX5 38 "PairedTreesModel" "valueOf" "[I") (by decide +kernel)
  have lk41 := X.w (.fieldLink RX5 41 "PairedTreesModel" "held" "[I") (by decide +kernel)
  have lk44 := X.w (.fieldLink RX5 44 "PairedTreesModel" "upper" "[J") (by decide +kernel)
  have lk48 := X.w (.fieldLink RX5 48 "PairedTreesModel" "lower" "[J") (by decide +kernel)
  have lk54 := X.w (.fieldLink RX5 54 "PairedTreesModel" "nodeOf" "[I") (by decide +kernel)
  have lk57 := X.w (.fieldLink RX5 57 "PairedTreesModel" "pushes" "[I") (by decide +kernel)
  have lk63 := X.w (.fieldLink RX5 63 "PairedTreesModel" "things" "I") (by decide +kernel)
  have lk67 := X.w (.fieldLink RX5 67 "PairedTreesModel" "trees" "I") (by decide +kernel)
  have lk104 := X.w (.fieldLink RX5 104 "PairedTreesModel" "bestLower" "J") (by decide +kernel)
  have lk108 := X.w (.fieldLink RX5 108 "PairedTreesModel" "bestUpper" "J") (by decide +kernel)
  have lk111 := X.w (.fieldLink RX5 111 "PairedTreesModel" "bestBy" "I") (by decide +kernel)
  have lk114 := X.w (.fieldLink RX5 114 "PairedTreesModel" "bestCut" "I") (by decide +kernel)
  have lk117 := X.w (.fieldLink RX5 117 "PairedTreesModel" "bestSide" "I") (by decide +kernel)
  refine Wk.bipush (v := nI 15) X dX5_growNode_0 (by decide) ?_
  refine Wk.aload_n X 0 rfl dX5_growNode_2 rfl ?_
  refine Wk.get X inX5 0 7 lk67 (fun _ h9 => h9) rfl rfl (by decide) rfl dX5_growNode_3 ?_
  refine Wk.imulC X dX5_growNode_6 ?_
  refine Wk.iload_n X 1 rfl dX5_growNode_7 rfl ?_
  refine Wk.iaddN X dX5_growNode_8 ?_
  refine Wk.istore_n (lv' := [(2, .int (nI (t * 15 + k))), (0, .ref (h 0)), (1, .int (nI k))]) X dX5_growNode_9 rfl (by decide) rfl ?_
  refine Wk.iconst (v := nI 0) X dX5_growNode_10 (by decide) ?_
  refine Wk.istore_n (lv' := [(3, .int (nI 0)), (2, .int (nI (t * 15 + k))), (0, .ref (h 0)), (1, .int (nI k))]) X dX5_growNode_11 rfl (by decide) rfl ?_
  refine Wk.iconst (v := nI 0) X dX5_growNode_12 (by decide) ?_
  refine Wk.istore (lv' := [(4, .int (nI 0)), (3, .int (nI 0)), (2, .int (nI (t * 15 + k))), (0, .ref (h 0)), (1, .int (nI k))]) X dX5_growNode_13 (by decide) rfl ?_
  refine Wk.iconst (v := nI 0) X dX5_growNode_15 (by decide) ?_
  refine Wk.istore (lv' := [(5, .int (nI 0)), (4, .int (nI 0)), (3, .int (nI 0)), (2, .int (nI (t * 15 + k))), (0, .ref (h 0)), (1, .int (nI k))]) X dX5_growNode_16 (by decide) rfl ?_
  have L18 : ∀ (fu18 : Nat) (i : Nat) (x : Nat) (y : Int32) (hq : n + 1 ≤ i + fu18) (hi : i ≤ n) (hx : x = gaH no k i) (hy : y = gaS pu no k i), Wk pg l ev ({ frames := 3, cells := 0, slots := 0, locals := 84 } : Room) s0 md ar bw mt cd 0 0 (QRv bw ar s0 (dC, dI) cl6 (TY cI cJ cZ) A (Wm h cI cJ cZ th n li gr nu hb se t ((mnC n nu hb pu se t k (no, (b1, b2, b3, bu, bl), ki, fe, lm, si, va, he, up, lo)).2.2.1) ((mnC n nu hb pu se t k (no, (b1, b2, b3, bu, bl), ki, fe, lm, si, va, he, up, lo)).2.2.2.1) ((mnC n nu hb pu se t k (no, (b1, b2, b3, bu, bl), ki, fe, lm, si, va, he, up, lo)).2.2.2.2.1) ((mnC n nu hb pu se t k (no, (b1, b2, b3, bu, bl), ki, fe, lm, si, va, he, up, lo)).2.2.2.2.2.1) ((mnC n nu hb pu se t k (no, (b1, b2, b3, bu, bl), ki, fe, lm, si, va, he, up, lo)).2.2.2.2.2.2.1) ((mnC n nu hb pu se t k (no, (b1, b2, b3, bu, bl), ki, fe, lm, si, va, he, up, lo)).2.2.2.2.2.2.2.1) ((mnC n nu hb pu se t k (no, (b1, b2, b3, bu, bl), ki, fe, lm, si, va, he, up, lo)).2.2.2.2.2.2.2.2.1) ((mnC n nu hb pu se t k (no, (b1, b2, b3, bu, bl), ki, fe, lm, si, va, he, up, lo)).2.2.2.2.2.2.2.2.2) sc ((mnC n nu hb pu se t k (no, (b1, b2, b3, bu, bl), ki, fe, lm, si, va, he, up, lo)).1) pu ((mnC n nu hb pu se t k (no, (b1, b2, b3, bu, bl), ki, fe, lm, si, va, he, up, lo)).2.1.1) ((mnC n nu hb pu se t k (no, (b1, b2, b3, bu, bl), ki, fe, lm, si, va, he, up, lo)).2.1.2.1) ((mnC n nu hb pu se t k (no, (b1, b2, b3, bu, bl), ki, fe, lm, si, va, he, up, lo)).2.1.2.2.1) ((mnC n nu hb pu se t k (no, (b1, b2, b3, bu, bl), ki, fe, lm, si, va, he, up, lo)).2.1.2.2.2.1) ((mnC n nu hb pu se t k (no, (b1, b2, b3, bu, bl), ki, fe, lm, si, va, he, up, lo)).2.1.2.2.2.2))) 11 (dC, dI) cl6 A 18 [(0, .ref (h 0)), (1, .int (nI k)), (2, .int (nI (t * 15 + k))), (3, .int (nI x)), (4, .int y), (5, .int (nI i))] [] (Wm h cI cJ cZ th n li gr nu hb se t ki fe lm si va he up lo sc no pu b1 b2 b3 bu bl) := by
    intro fu18
    induction fu18 with
    | zero => intro i x y hq hi hx hy; exact absurd hq (by omega)
    | succ fu18 ih18 =>
      intro i x y hq hi hx hy
      refine Wk.iload X 5 rfl dX5_growNode_18 ?_
      refine Wk.aload_n X 0 rfl dX5_growNode_20 rfl ?_
      refine Wk.get X inX5 0 1 lk63 (fun _ h9 => h9) rfl rfl (by decide) rfl dX5_growNode_21 ?_
      refine Wk.icmpN_ge X 79 (by omega) (by omega) dX5_growNode_24 (by decide) (fun c1 => ?_) (fun c1 => ?_)
      · skip
        have ex9 : x = gaH no k n := by rw [hx, show i = n by omega]
        have ey9 : y = gaS pu no k n := by rw [hy, show i = n by omega]
        clear hx hy
        have hxn : x ≤ 24 := by rw [ex9]; exact Nat.le_trans (gaH_le no k n) hn0
        have ex0 : nI x = 0 ↔ x = 0 := nI_eq (b := 0) (by omega) (by decide)
        refine Wk.aload_n X 0 rfl dX5_growNode_79 rfl ?_
        refine Wk.get X inX5 0 8 lk26 (fun _ h9 => h9) rfl rfl (by decide) rfl dX5_growNode_80 ?_
        refine Wk.iload_n X 2 rfl dX5_growNode_83 rfl ?_
        refine Wk.iload_n X 3 rfl dX5_growNode_84 rfl ?_
        refine Wk.if_ne X 92 dX5_growNode_85 (by decide) (fun c2 => ?_) (fun c2 => ?_)
        · skip
          refine Wk.iconst (v := nI 1) X dX5_growNode_92 (by decide) ?_
          refine Wk.iast (ws' := Wm h cI cJ cZ th n li gr nu hb se t (upd ki (t * 15 + k) (nI 1)) fe lm si va he up lo sc no pu b1 b2 b3 bu bl) X 6 0 rfl rfl (by omega) (by decide) rfl dX5_growNode_93 ?_
          refine Wk.aload_n X 0 rfl dX5_growNode_94 rfl ?_
          refine Wk.get X inX5 0 13 lk41 (fun _ h9 => h9) rfl rfl (by decide) rfl dX5_growNode_95 ?_
          refine Wk.iload_n X 2 rfl dX5_growNode_98 rfl ?_
          refine Wk.iload_n X 3 rfl dX5_growNode_99 rfl ?_
          refine Wk.iast (ws' := Wm h cI cJ cZ th n li gr nu hb se t (upd ki (t * 15 + k) (nI 1)) fe lm si va (upd he (t * 15 + k) (nI x)) up lo sc no pu b1 b2 b3 bu bl) X 11 0 rfl rfl (by omega) (by decide) rfl dX5_growNode_100 ?_
          refine Wk.iload_n X 3 rfl dX5_growNode_101 rfl ?_
          refine Wk.if_ne X 106 dX5_growNode_102 (by decide) (fun c3 => ?_) (fun c3 => ?_)
          · skip
            refine Wk.aload_n X 0 rfl dX5_growNode_106 rfl ?_
            refine Wk.get X inX5 0 12 lk38 (fun _ h9 => h9) rfl rfl (by decide) rfl dX5_growNode_107 ?_
            refine Wk.iload_n X 2 rfl dX5_growNode_110 rfl ?_
            refine Wk.aload_n X 0 rfl dX5_growNode_111 rfl ?_
            refine Wk.get X inX5 0 6 lk23 (fun _ h9 => h9) rfl rfl (by decide) rfl dX5_growNode_112 ?_
            refine Wk.iconst (v := nI 1) X dX5_growNode_115 (by decide) ?_
            refine Wk.iald X 5 0 rfl rfl (by omega) (by decide) dX5_growNode_116 ?_
            refine Wk.iload X 4 rfl dX5_growNode_117 ?_
            refine Wk.imul X dX5_growNode_119 ?_
            refine Wk.iload_n X 3 rfl dX5_growNode_120 rfl ?_
            refine Wk.callSi (n := 2) X (c_X5_floor l dC dI cI cJ cZ ((se 1) * y) (nI x) (by exact fun h9 => c3 h9)) gX5_growNode_X5_floor rfl (by decide +kernel) (by decide) Fr.nil (fun h9 => h9) rfl rfl (Nat.le_of_ble_eq_true rfl) ⟨Nat.zero_le _, Nat.zero_le _⟩ dX5_growNode_121 ?_
            refine Wk.iast (ws' := Wm h cI cJ cZ th n li gr nu hb se t (upd ki (t * 15 + k) (nI 1)) fe lm si (upd va (t * 15 + k) (flM ((se 1) * y) (nI x))) (upd he (t * 15 + k) (nI x)) up lo sc no pu b1 b2 b3 bu bl) X 10 0 rfl rfl (by omega) (by decide) rfl dX5_growNode_124 ?_
            refine Wk.aload_n X 0 rfl dX5_growNode_125 rfl ?_
            refine Wk.lconst (v := 0) X dX5_growNode_126 (by decide) ?_
            refine Wk.put (ws' := Wm h cI cJ cZ th n li gr nu hb se t (upd ki (t * 15 + k) (nI 1)) fe lm si (upd va (t * 15 + k) (flM ((se 1) * y) (nI x))) (upd he (t * 15 + k) (nI x)) up lo sc no pu b1 b2 b3 0 bl) X inX5 tyX5 tyX5_ok nmX5 0 22 lk108 (fun _ h9 => h9) rfl rfl (by decide) rfl (tyX5_ok 22 (by decide)) rfl rfl (Nat.le_of_ble_eq_true rfl) rfl dX5_growNode_127 ?_
            refine Wk.aload_n X 0 rfl dX5_growNode_130 rfl ?_
            refine Wk.lconst (v := 1) X dX5_growNode_131 (by decide) ?_
            refine Wk.put (ws' := Wm h cI cJ cZ th n li gr nu hb se t (upd ki (t * 15 + k) (nI 1)) fe lm si (upd va (t * 15 + k) (flM ((se 1) * y) (nI x))) (upd he (t * 15 + k) (nI x)) up lo sc no pu b1 b2 b3 0 1) X inX5 tyX5 tyX5_ok nmX5 0 23 lk104 (fun _ h9 => h9) rfl rfl (by decide) rfl (tyX5_ok 23 (by decide)) rfl rfl (Nat.le_of_ble_eq_true rfl) rfl dX5_growNode_132 ?_
            refine Wk.iconst (v := nI 0) X dX5_growNode_135 (by decide) ?_
            refine Wk.istore (lv' := [(5, .int (nI 0)), (0, .ref (h 0)), (1, .int (nI k)), (2, .int (nI (t * 15 + k))), (3, .int (nI x)), (4, .int y)]) X dX5_growNode_136 (by decide) rfl ?_
            have L138 : ∀ (fu138 : Nat) (f : Nat) (B : MS) (hq1 : 5 ≤ f + fu138) (hf : f ≤ 4) (hB : B = fkM n no pu nu hb se k f (b1, b2, b3, 0, 1)), Wk pg l ev ({ frames := 3, cells := 0, slots := 0, locals := 84 } : Room) s0 md ar bw mt cd 0 0 (QRv bw ar s0 (dC, dI) cl6 (TY cI cJ cZ) A (Wm h cI cJ cZ th n li gr nu hb se t ((mnC n nu hb pu se t k (no, (b1, b2, b3, bu, bl), ki, fe, lm, si, va, he, up, lo)).2.2.1) ((mnC n nu hb pu se t k (no, (b1, b2, b3, bu, bl), ki, fe, lm, si, va, he, up, lo)).2.2.2.1) ((mnC n nu hb pu se t k (no, (b1, b2, b3, bu, bl), ki, fe, lm, si, va, he, up, lo)).2.2.2.2.1) ((mnC n nu hb pu se t k (no, (b1, b2, b3, bu, bl), ki, fe, lm, si, va, he, up, lo)).2.2.2.2.2.1) ((mnC n nu hb pu se t k (no, (b1, b2, b3, bu, bl), ki, fe, lm, si, va, he, up, lo)).2.2.2.2.2.2.1) ((mnC n nu hb pu se t k (no, (b1, b2, b3, bu, bl), ki, fe, lm, si, va, he, up, lo)).2.2.2.2.2.2.2.1) ((mnC n nu hb pu se t k (no, (b1, b2, b3, bu, bl), ki, fe, lm, si, va, he, up, lo)).2.2.2.2.2.2.2.2.1) ((mnC n nu hb pu se t k (no, (b1, b2, b3, bu, bl), ki, fe, lm, si, va, he, up, lo)).2.2.2.2.2.2.2.2.2) sc ((mnC n nu hb pu se t k (no, (b1, b2, b3, bu, bl), ki, fe, lm, si, va, he, up, lo)).1) pu ((mnC n nu hb pu se t k (no, (b1, b2, b3, bu, bl), ki, fe, lm, si, va, he, up, lo)).2.1.1) ((mnC n nu hb pu se t k (no, (b1, b2, b3, bu, bl), ki, fe, lm, si, va, he, up, lo)).2.1.2.1) ((mnC n nu hb pu se t k (no, (b1, b2, b3, bu, bl), ki, fe, lm, si, va, he, up, lo)).2.1.2.2.1) ((mnC n nu hb pu se t k (no, (b1, b2, b3, bu, bl), ki, fe, lm, si, va, he, up, lo)).2.1.2.2.2.1) ((mnC n nu hb pu se t k (no, (b1, b2, b3, bu, bl), ki, fe, lm, si, va, he, up, lo)).2.1.2.2.2.2))) 11 (dC, dI) cl6 A 138 [(0, .ref (h 0)), (1, .int (nI k)), (2, .int (nI (t * 15 + k))), (3, .int (nI x)), (4, .int y), (5, .int (nI f))] [] (Wm h cI cJ cZ th n li gr nu hb se t (upd ki (t * 15 + k) (nI 1)) fe lm si (upd va (t * 15 + k) (flM ((se 1) * y) (nI x))) (upd he (t * 15 + k) (nI x)) up lo sc no pu B.1 B.2.1 B.2.2.1 B.2.2.2.1 B.2.2.2.2) := by
              intro fu138
              induction fu138 with
              | zero => intro f B hq1 hf hB; exact absurd hq1 (by omega)
              | succ fu138 ih138 =>
                intro f B hq1 hf hB
                refine Wk.iload X 5 rfl dX5_growNode_138 ?_
                refine Wk.iconst (v := nI 4) X dX5_growNode_140 (by decide) ?_
                refine Wk.icmpN_ge X 343 (by omega) (by omega) dX5_growNode_141 (by decide) (fun c4 => ?_) (fun c4 => ?_)
                · skip
                  have eB : mnB n no pu nu hb se k (b1, b2, b3, bu, bl) = B := by first | (unfold mnB; rw [hB, show f = 4 by omega]; done) | (unfold mnB; rw [hB, fkM_stop c4, fkM_stop c4])
                  clear hB
                  refine Wk.aload_n X 0 rfl dX5_growNode_343 rfl ?_
                  refine Wk.get X inX5 0 22 lk108 (fun _ h9 => h9) rfl rfl (by decide) rfl dX5_growNode_344 ?_
                  refine Wk.lconst (v := 0) X dX5_growNode_347 (by decide) ?_
                  refine Wk.lcmp_le X 498 dX5_growNode_348 dX5_growNode_349 (by decide) (fun c5 => ?_) (fun c5 => ?_)
                  · skip
                    exact Wk.vret X hr hk (by first | contradiction | (subst ex9 ey9; clear hgc ex0; simp [mnC, *]; done) | (subst ex9 ey9; clear ef1 hgc ex0; rw [hq2, show i3 = n by omega]; simp [mnC, *])) dX5_growNode_498
                  · skip
                    obtain ⟨hg1, hg2⟩ := (eB ▸ hgc : gcOk B) c5
                    obtain ⟨f1, hf1, ef1⟩ := (eB ▸ mnB_ok : mOk B) c5
                    have ec : B.1.toNatClampNeg = f1 := by rw [ef1]; exact nI_clamp (by omega)
                    refine Wk.aload_n X 0 rfl dX5_growNode_352 rfl ?_
                    refine Wk.get X inX5 0 8 lk26 (fun _ h9 => h9) rfl rfl (by decide) rfl dX5_growNode_353 ?_
                    refine Wk.iload_n X 2 rfl dX5_growNode_356 rfl ?_
                    refine Wk.iconst (v := nI 2) X dX5_growNode_357 (by decide) ?_
                    refine Wk.iast (ws' := Wm h cI cJ cZ th n li gr nu hb se t (upd (upd ki (t * 15 + k) (nI 1)) (t * 15 + k) (nI 2)) fe lm si (upd va (t * 15 + k) (flM ((se 1) * y) (nI x))) (upd he (t * 15 + k) (nI x)) up lo sc no pu B.1 B.2.1 B.2.2.1 B.2.2.2.1 B.2.2.2.2) X 6 0 rfl rfl (by omega) (by decide) rfl dX5_growNode_358 ?_
                    refine Wk.aload_n X 0 rfl dX5_growNode_359 rfl ?_
                    refine Wk.get X inX5 0 9 lk29 (fun _ h9 => h9) rfl rfl (by decide) rfl dX5_growNode_360 ?_
                    refine Wk.iload_n X 2 rfl dX5_growNode_363 rfl ?_
                    refine Wk.aload_n X 0 rfl dX5_growNode_364 rfl ?_
                    refine Wk.get X inX5 0 19 lk111 (fun _ h9 => h9) rfl rfl (by decide) rfl dX5_growNode_365 ?_
                    refine Wk.iast (ws' := Wm h cI cJ cZ th n li gr nu hb se t (upd (upd ki (t * 15 + k) (nI 1)) (t * 15 + k) (nI 2)) (upd fe (t * 15 + k) B.1) lm si (upd va (t * 15 + k) (flM ((se 1) * y) (nI x))) (upd he (t * 15 + k) (nI x)) up lo sc no pu B.1 B.2.1 B.2.2.1 B.2.2.2.1 B.2.2.2.2) X 7 0 rfl rfl (by omega) (by decide) rfl dX5_growNode_368 ?_
                    refine Wk.aload_n X 0 rfl dX5_growNode_369 rfl ?_
                    refine Wk.get X inX5 0 10 lk32 (fun _ h9 => h9) rfl rfl (by decide) rfl dX5_growNode_370 ?_
                    refine Wk.iload_n X 2 rfl dX5_growNode_373 rfl ?_
                    refine Wk.aload_n X 0 rfl dX5_growNode_374 rfl ?_
                    refine Wk.get X inX5 0 20 lk114 (fun _ h9 => h9) rfl rfl (by decide) rfl dX5_growNode_375 ?_
                    refine Wk.iast (ws' := Wm h cI cJ cZ th n li gr nu hb se t (upd (upd ki (t * 15 + k) (nI 1)) (t * 15 + k) (nI 2)) (upd fe (t * 15 + k) B.1) (upd lm (t * 15 + k) B.2.1) si (upd va (t * 15 + k) (flM ((se 1) * y) (nI x))) (upd he (t * 15 + k) (nI x)) up lo sc no pu B.1 B.2.1 B.2.2.1 B.2.2.2.1 B.2.2.2.2) X 8 0 rfl rfl (by omega) (by decide) rfl dX5_growNode_378 ?_
                    refine Wk.aload_n X 0 rfl dX5_growNode_379 rfl ?_
                    refine Wk.get X inX5 0 11 lk35 (fun _ h9 => h9) rfl rfl (by decide) rfl dX5_growNode_380 ?_
                    refine Wk.iload_n X 2 rfl dX5_growNode_383 rfl ?_
                    refine Wk.aload_n X 0 rfl dX5_growNode_384 rfl ?_
                    refine Wk.get X inX5 0 21 lk117 (fun _ h9 => h9) rfl rfl (by decide) rfl dX5_growNode_385 ?_
                    refine Wk.iast (ws' := Wm h cI cJ cZ th n li gr nu hb se t (upd (upd ki (t * 15 + k) (nI 1)) (t * 15 + k) (nI 2)) (upd fe (t * 15 + k) B.1) (upd lm (t * 15 + k) B.2.1) (upd si (t * 15 + k) B.2.2.1) (upd va (t * 15 + k) (flM ((se 1) * y) (nI x))) (upd he (t * 15 + k) (nI x)) up lo sc no pu B.1 B.2.1 B.2.2.1 B.2.2.2.1 B.2.2.2.2) X 9 0 rfl rfl (by omega) (by decide) rfl dX5_growNode_388 ?_
                    refine Wk.aload_n X 0 rfl dX5_growNode_389 rfl ?_
                    refine Wk.get X inX5 0 22 lk108 (fun _ h9 => h9) rfl rfl (by decide) rfl dX5_growNode_390 ?_
                    refine Wk.aload_n X 0 rfl dX5_growNode_393 rfl ?_
                    refine Wk.get X inX5 0 23 lk104 (fun _ h9 => h9) rfl rfl (by decide) rfl dX5_growNode_394 ?_
                    refine Wk.callSl (n := 2) X (c_X5_common l dC dI cI cJ cZ B.2.2.2.1 B.2.2.2.2 (by exact hg1)) gX5_growNode_X5_common rfl (by decide +kernel) (by decide) Fr.nil (fun h9 => h9) rfl rfl (Nat.le_of_ble_eq_true rfl) ⟨Nat.zero_le _, Nat.zero_le _⟩ dX5_growNode_397 ?_
                    refine Wk.lstore (lv' := [(5, .long (gcC 100 B.2.2.2.1 B.2.2.2.2)), (0, .ref (h 0)), (1, .int (nI k)), (2, .int (nI (t * 15 + k))), (3, .int (nI x)), (4, .int y)]) X dX5_growNode_400 (by decide) rfl ?_
                    refine Wk.aload_n X 1 rfl dX5_growNode_402 rfl ?_
                    refine Wk.get X inX5 0 14 lk44 (fun _ h9 => h9) rfl rfl (by decide) rfl dX5_growNode_403 ?_
                    refine Wk.iload_n X 3 rfl dX5_growNode_406 rfl ?_
                    refine Wk.aload_n X 1 rfl dX5_growNode_407 rfl ?_
                    refine Wk.get X inX5 0 22 lk108 (fun _ h9 => h9) rfl rfl (by decide) rfl dX5_growNode_408 ?_
                    refine Wk.lload X 0 rfl dX5_growNode_411 ?_
                    refine Wk.ldiv X dX5_growNode_413 hg2 ?_
                    refine Wk.last (ws' := Wm h cI cJ cZ th n li gr nu hb se t (upd (upd ki (t * 15 + k) (nI 1)) (t * 15 + k) (nI 2)) (upd fe (t * 15 + k) B.1) (upd lm (t * 15 + k) B.2.1) (upd si (t * 15 + k) B.2.2.1) (upd va (t * 15 + k) (flM ((se 1) * y) (nI x))) (upd he (t * 15 + k) (nI x)) (vp_updL up (t * 15 + k) (B.2.2.2.1 / (gcC 100 B.2.2.2.1 B.2.2.2.2))) lo sc no pu B.1 B.2.1 B.2.2.1 B.2.2.2.1 B.2.2.2.2) X 12 1 rfl rfl (by omega) (by decide) rfl dX5_growNode_414 ?_
                    refine Wk.aload_n X 1 rfl dX5_growNode_415 rfl ?_
                    refine Wk.get X inX5 0 15 lk48 (fun _ h9 => h9) rfl rfl (by decide) rfl dX5_growNode_416 ?_
                    refine Wk.iload_n X 3 rfl dX5_growNode_419 rfl ?_
                    refine Wk.aload_n X 1 rfl dX5_growNode_420 rfl ?_
                    refine Wk.get X inX5 0 23 lk104 (fun _ h9 => h9) rfl rfl (by decide) rfl dX5_growNode_421 ?_
                    refine Wk.lload X 0 rfl dX5_growNode_424 ?_
                    refine Wk.ldiv X dX5_growNode_426 hg2 ?_
                    refine Wk.last (ws' := Wm h cI cJ cZ th n li gr nu hb se t (upd (upd ki (t * 15 + k) (nI 1)) (t * 15 + k) (nI 2)) (upd fe (t * 15 + k) B.1) (upd lm (t * 15 + k) B.2.1) (upd si (t * 15 + k) B.2.2.1) (upd va (t * 15 + k) (flM ((se 1) * y) (nI x))) (upd he (t * 15 + k) (nI x)) (vp_updL up (t * 15 + k) (B.2.2.2.1 / (gcC 100 B.2.2.2.1 B.2.2.2.2))) (vp_updL lo (t * 15 + k) (B.2.2.2.2 / (gcC 100 B.2.2.2.1 B.2.2.2.2))) sc no pu B.1 B.2.1 B.2.2.1 B.2.2.2.1 B.2.2.2.2) X 13 1 rfl rfl (by omega) (by decide) rfl dX5_growNode_427 ?_
                    refine Wk.iconst (v := nI 0) X dX5_growNode_428 (by decide) ?_
                    refine Wk.istore (lv' := [(7, .int (nI 0)), (5, .long (gcC 100 B.2.2.2.1 B.2.2.2.2)), (0, .ref (h 0)), (1, .int (nI k)), (2, .int (nI (t * 15 + k))), (3, .int (nI x)), (4, .int y)]) X dX5_growNode_429 (by decide) rfl ?_
                    have L431 : ∀ (fu431 : Nat) (i3 : Nat) (q : Nat → Int32) (hq6 : n + 1 ≤ i3 + fu431) (hi3 : i3 ≤ n) (hq2 : q = ptM hb nu B.1 B.2.1 B.2.2.1 k i3 no), Wk pg l ev ({ frames := 3, cells := 0, slots := 0, locals := 84 } : Room) s0 md ar bw mt cd 0 0 (QRv bw ar s0 (dC, dI) cl6 (TY cI cJ cZ) A (Wm h cI cJ cZ th n li gr nu hb se t ((mnC n nu hb pu se t k (no, (b1, b2, b3, bu, bl), ki, fe, lm, si, va, he, up, lo)).2.2.1) ((mnC n nu hb pu se t k (no, (b1, b2, b3, bu, bl), ki, fe, lm, si, va, he, up, lo)).2.2.2.1) ((mnC n nu hb pu se t k (no, (b1, b2, b3, bu, bl), ki, fe, lm, si, va, he, up, lo)).2.2.2.2.1) ((mnC n nu hb pu se t k (no, (b1, b2, b3, bu, bl), ki, fe, lm, si, va, he, up, lo)).2.2.2.2.2.1) ((mnC n nu hb pu se t k (no, (b1, b2, b3, bu, bl), ki, fe, lm, si, va, he, up, lo)).2.2.2.2.2.2.1) ((mnC n nu hb pu se t k (no, (b1, b2, b3, bu, bl), ki, fe, lm, si, va, he, up, lo)).2.2.2.2.2.2.2.1) ((mnC n nu hb pu se t k (no, (b1, b2, b3, bu, bl), ki, fe, lm, si, va, he, up, lo)).2.2.2.2.2.2.2.2.1) ((mnC n nu hb pu se t k (no, (b1, b2, b3, bu, bl), ki, fe, lm, si, va, he, up, lo)).2.2.2.2.2.2.2.2.2) sc ((mnC n nu hb pu se t k (no, (b1, b2, b3, bu, bl), ki, fe, lm, si, va, he, up, lo)).1) pu ((mnC n nu hb pu se t k (no, (b1, b2, b3, bu, bl), ki, fe, lm, si, va, he, up, lo)).2.1.1) ((mnC n nu hb pu se t k (no, (b1, b2, b3, bu, bl), ki, fe, lm, si, va, he, up, lo)).2.1.2.1) ((mnC n nu hb pu se t k (no, (b1, b2, b3, bu, bl), ki, fe, lm, si, va, he, up, lo)).2.1.2.2.1) ((mnC n nu hb pu se t k (no, (b1, b2, b3, bu, bl), ki, fe, lm, si, va, he, up, lo)).2.1.2.2.2.1) ((mnC n nu hb pu se t k (no, (b1, b2, b3, bu, bl), ki, fe, lm, si, va, he, up, lo)).2.1.2.2.2.2))) 11 (dC, dI) cl6 A 431 [(0, .ref (h 0)), (1, .int (nI k)), (2, .int (nI (t * 15 + k))), (3, .int (nI x)), (4, .int y), (7, .int (nI i3))] [] (Wm h cI cJ cZ th n li gr nu hb se t (upd (upd ki (t * 15 + k) (nI 1)) (t * 15 + k) (nI 2)) (upd fe (t * 15 + k) B.1) (upd lm (t * 15 + k) B.2.1) (upd si (t * 15 + k) B.2.2.1) (upd va (t * 15 + k) (flM ((se 1) * y) (nI x))) (upd he (t * 15 + k) (nI x)) (vp_updL up (t * 15 + k) (B.2.2.2.1 / (gcC 100 B.2.2.2.1 B.2.2.2.2))) (vp_updL lo (t * 15 + k) (B.2.2.2.2 / (gcC 100 B.2.2.2.1 B.2.2.2.2))) sc q pu B.1 B.2.1 B.2.2.1 B.2.2.2.1 B.2.2.2.2) := by
                      intro fu431
                      induction fu431 with
                      | zero => intro i3 q hq6 hi3 hq2; exact absurd hq6 (by omega)
                      | succ fu431 ih431 =>
                        intro i3 q hq6 hi3 hq2
                        refine Wk.iload X 5 rfl dX5_growNode_431 ?_
                        refine Wk.aload_n X 0 rfl dX5_growNode_433 rfl ?_
                        refine Wk.get X inX5 0 1 lk63 (fun _ h9 => h9) rfl rfl (by decide) rfl dX5_growNode_434 ?_
                        refine Wk.icmpN_ge X 498 (by omega) (by omega) dX5_growNode_437 (by decide) (fun c6 => ?_) (fun c6 => ?_)
                        · skip
                          exact Wk.vret X hr hk (by first | contradiction | (subst ex9 ey9; clear hgc ex0; simp [mnC, *]; done) | (subst ex9 ey9; clear ef1 hgc ex0; rw [hq2, show i3 = n by omega]; simp [mnC, *])) dX5_growNode_498
                        · skip
                          refine Wk.aload_n X 0 rfl dX5_growNode_440 rfl ?_
                          refine Wk.get X inX5 0 17 lk54 (fun _ h9 => h9) rfl rfl (by decide) rfl dX5_growNode_441 ?_
                          refine Wk.iload X 5 rfl dX5_growNode_444 ?_
                          refine Wk.iald X 15 0 rfl rfl (by omega) (by decide) dX5_growNode_446 ?_
                          refine Wk.iload_n X 1 rfl dX5_growNode_447 rfl ?_
                          refine Wk.icmp_ne X 492 dX5_growNode_448 (by decide) (fun c7 => ?_) (fun c7 => ?_)
                          · skip
                            refine Wk.iincN (n := 1) (lv' := [(7, .int (nI (i3 + 1))), (0, .ref (h 0)), (1, .int (nI k)), (2, .int (nI (t * 15 + k))), (3, .int (nI x)), (4, .int y)]) X 5 rfl dX5_growNode_492 (by decide) rfl ?_
                            refine Wk.goto X 431 dX5_growNode_495 (by decide) ?_
                            refine Wk.lvs (lv' := [(0, .ref (h 0)), (1, .int (nI k)), (2, .int (nI (t * 15 + k))), (3, .int (nI x)), (4, .int y), (7, .int (nI (i3 + 1)))]) [1, 2, 3, 4, 5, 0] rfl ?_
                            exact ih431 (i3 + 1) q (by omega) (by omega) (by subst hq2; clear ef1; simp [ptM, *])
                          · skip
                            refine Wk.aload_n X 0 rfl dX5_growNode_451 rfl ?_
                            refine Wk.get X inX5 0 17 lk54 (fun _ h9 => h9) rfl rfl (by decide) rfl dX5_growNode_452 ?_
                            refine Wk.iload X 5 rfl dX5_growNode_455 ?_
                            refine Wk.aload_n X 0 rfl dX5_growNode_457 rfl ?_
                            refine Wk.iload X 5 rfl dX5_growNode_458 ?_
                            refine Wk.aload_n X 0 rfl dX5_growNode_460 rfl ?_
                            refine Wk.get X inX5 0 19 lk111 (fun _ h9 => h9) rfl rfl (by decide) rfl dX5_growNode_461 ?_
                            refine Wk.topi ef1 ?_
                            refine Wk.aload_n X 0 rfl dX5_growNode_464 rfl ?_
                            refine Wk.get X inX5 0 20 lk114 (fun _ h9 => h9) rfl rfl (by decide) rfl dX5_growNode_465 ?_
                            refine Wk.aload_n X 0 rfl dX5_growNode_468 rfl ?_
                            refine Wk.get X inX5 0 21 lk117 (fun _ h9 => h9) rfl rfl (by decide) rfl dX5_growNode_469 ?_
                            refine Wk.callVi (n := 4) (q0 := 0) X (c_X5_goesLeft l dC dI cI cJ cZ h th n li gr nu hb se t (upd (upd ki (t * 15 + k) (nI 1)) (t * 15 + k) (nI 2)) (upd fe (t * 15 + k) B.1) (upd lm (t * 15 + k) B.2.1) (upd si (t * 15 + k) B.2.2.1) (upd va (t * 15 + k) (flM ((se 1) * y) (nI x))) (upd he (t * 15 + k) (nI x)) (vp_updL up (t * 15 + k) (B.2.2.2.1 / (gcC 100 B.2.2.2.1 B.2.2.2.2))) (vp_updL lo (t * 15 + k) (B.2.2.2.2 / (gcC 100 B.2.2.2.1 B.2.2.2.2))) sc q pu B.1 B.2.1 B.2.2.1 B.2.2.2.1 B.2.2.2.2 i3 (nI i3) f1 B.2.1 B.2.2.1 (by exact atM_nI (by omega)) (by first | omega | assumption) (by first | omega | assumption)) gX5_growNode_X5_goesLeft rfl (by decide +kernel) (by decide) Fr.all (fun h9 => h9) rfl rfl rfl rfl (Nat.le_of_ble_eq_true rfl) ⟨Nat.zero_le _, Nat.zero_le _⟩ dX5_growNode_472 ?_
                            refine Wk.ifB_eq X 486 dX5_growNode_475 (by decide) (fun c8 => ?_) (fun c8 => ?_)
                            · skip
                              refine Wk.iconst (v := nI 2) X dX5_growNode_486 (by decide) ?_
                              refine Wk.iload_n X 1 rfl dX5_growNode_487 rfl ?_
                              refine Wk.imulN X dX5_growNode_488 ?_
                              refine Wk.iconst (v := nI 2) X dX5_growNode_489 (by decide) ?_
                              refine Wk.iaddN X dX5_growNode_490 ?_
                              refine Wk.iast (ws' := Wm h cI cJ cZ th n li gr nu hb se t (upd (upd ki (t * 15 + k) (nI 1)) (t * 15 + k) (nI 2)) (upd fe (t * 15 + k) B.1) (upd lm (t * 15 + k) B.2.1) (upd si (t * 15 + k) B.2.2.1) (upd va (t * 15 + k) (flM ((se 1) * y) (nI x))) (upd he (t * 15 + k) (nI x)) (vp_updL up (t * 15 + k) (B.2.2.2.1 / (gcC 100 B.2.2.2.1 B.2.2.2.2))) (vp_updL lo (t * 15 + k) (B.2.2.2.2 / (gcC 100 B.2.2.2.1 B.2.2.2.2))) sc (upd q i3 (nI (2 * k + 2))) pu B.1 B.2.1 B.2.2.1 B.2.2.2.1 B.2.2.2.2) X 15 0 rfl rfl (by omega) (by decide) rfl dX5_growNode_491 ?_
                              refine Wk.iincN (n := 1) (lv' := [(7, .int (nI (i3 + 1))), (0, .ref (h 0)), (1, .int (nI k)), (2, .int (nI (t * 15 + k))), (3, .int (nI x)), (4, .int y)]) X 5 rfl dX5_growNode_492 (by decide) rfl ?_
                              refine Wk.goto X 431 dX5_growNode_495 (by decide) ?_
                              refine Wk.lvs (lv' := [(0, .ref (h 0)), (1, .int (nI k)), (2, .int (nI (t * 15 + k))), (3, .int (nI x)), (4, .int y), (7, .int (nI (i3 + 1)))]) [1, 2, 3, 4, 5, 0] rfl ?_
                              exact ih431 (i3 + 1) (upd q i3 (nI (2 * k + 2))) (by omega) (by omega) (by subst hq2; clear ef1; simp [ptM, *])
                            · skip
                              refine Wk.iconst (v := nI 2) X dX5_growNode_478 (by decide) ?_
                              refine Wk.iload_n X 1 rfl dX5_growNode_479 rfl ?_
                              refine Wk.imulN X dX5_growNode_480 ?_
                              refine Wk.iconst (v := nI 1) X dX5_growNode_481 (by decide) ?_
                              refine Wk.iaddN X dX5_growNode_482 ?_
                              refine Wk.goto X 491 dX5_growNode_483 (by decide) ?_
                              refine Wk.iast (ws' := Wm h cI cJ cZ th n li gr nu hb se t (upd (upd ki (t * 15 + k) (nI 1)) (t * 15 + k) (nI 2)) (upd fe (t * 15 + k) B.1) (upd lm (t * 15 + k) B.2.1) (upd si (t * 15 + k) B.2.2.1) (upd va (t * 15 + k) (flM ((se 1) * y) (nI x))) (upd he (t * 15 + k) (nI x)) (vp_updL up (t * 15 + k) (B.2.2.2.1 / (gcC 100 B.2.2.2.1 B.2.2.2.2))) (vp_updL lo (t * 15 + k) (B.2.2.2.2 / (gcC 100 B.2.2.2.1 B.2.2.2.2))) sc (upd q i3 (nI (2 * k + 1))) pu B.1 B.2.1 B.2.2.1 B.2.2.2.1 B.2.2.2.2) X 15 0 rfl rfl (by omega) (by decide) rfl dX5_growNode_491 ?_
                              refine Wk.iincN (n := 1) (lv' := [(7, .int (nI (i3 + 1))), (0, .ref (h 0)), (1, .int (nI k)), (2, .int (nI (t * 15 + k))), (3, .int (nI x)), (4, .int y)]) X 5 rfl dX5_growNode_492 (by decide) rfl ?_
                              refine Wk.goto X 431 dX5_growNode_495 (by decide) ?_
                              refine Wk.lvs (lv' := [(0, .ref (h 0)), (1, .int (nI k)), (2, .int (nI (t * 15 + k))), (3, .int (nI x)), (4, .int y), (7, .int (nI (i3 + 1)))]) [1, 2, 3, 4, 5, 0] rfl ?_
                              exact ih431 (i3 + 1) (upd q i3 (nI (2 * k + 1))) (by omega) (by omega) (by subst hq2; clear ef1; simp [ptM, *])
                    refine Wk.lvs (lv' := [(0, .ref (h 0)), (1, .int (nI k)), (2, .int (nI (t * 15 + k))), (3, .int (nI x)), (4, .int y), (7, .int (nI 0))]) [2, 3, 4, 5, 6, 0] rfl ?_
                    exact L431 (n + 1) 0 no (by omega) (by omega) (by rfl)
                · skip
                  refine Wk.iload_n X 1 rfl dX5_growNode_144 rfl ?_
                  refine Wk.callSi (n := 1) X (c_X5_below l dC dI cI cJ cZ k (by first | omega | assumption)) gX5_growNode_X5_below rfl (by decide +kernel) (by decide) Fr.nil (fun h9 => h9) rfl rfl (Nat.le_of_ble_eq_true rfl) ⟨Nat.zero_le _, Nat.zero_le _⟩ dX5_growNode_145 ?_
                  refine Wk.aload_n X 0 rfl dX5_growNode_148 rfl ?_
                  refine Wk.get X inX5 0 6 lk23 (fun _ h9 => h9) rfl rfl (by decide) rfl dX5_growNode_149 ?_
                  refine Wk.iconst (v := nI 2) X dX5_growNode_152 (by decide) ?_
                  refine Wk.iald X 5 0 rfl rfl (by omega) (by decide) dX5_growNode_153 ?_
                  refine Wk.icmp_ge X 343 dX5_growNode_154 (by decide) (fun c9 => ?_) (fun c9 => ?_)
                  · skip
                    have eB : mnB n no pu nu hb se k (b1, b2, b3, bu, bl) = B := by first | (unfold mnB; rw [hB, show f = 4 by omega]; done) | (unfold mnB; rw [hB, fkM_stop c9, fkM_stop c9])
                    clear hB
                    refine Wk.aload_n X 0 rfl dX5_growNode_343 rfl ?_
                    refine Wk.get X inX5 0 22 lk108 (fun _ h9 => h9) rfl rfl (by decide) rfl dX5_growNode_344 ?_
                    refine Wk.lconst (v := 0) X dX5_growNode_347 (by decide) ?_
                    refine Wk.lcmp_le X 498 dX5_growNode_348 dX5_growNode_349 (by decide) (fun c10 => ?_) (fun c10 => ?_)
                    · skip
                      exact Wk.vret X hr hk (by first | contradiction | (subst ex9 ey9; clear hgc ex0; simp [mnC, *]; done) | (subst ex9 ey9; clear ef1 hgc ex0; rw [hq2, show i3 = n by omega]; simp [mnC, *])) dX5_growNode_498
                    · skip
                      obtain ⟨hg1, hg2⟩ := (eB ▸ hgc : gcOk B) c10
                      obtain ⟨f1, hf1, ef1⟩ := (eB ▸ mnB_ok : mOk B) c10
                      have ec : B.1.toNatClampNeg = f1 := by rw [ef1]; exact nI_clamp (by omega)
                      refine Wk.aload_n X 0 rfl dX5_growNode_352 rfl ?_
                      refine Wk.get X inX5 0 8 lk26 (fun _ h9 => h9) rfl rfl (by decide) rfl dX5_growNode_353 ?_
                      refine Wk.iload_n X 2 rfl dX5_growNode_356 rfl ?_
                      refine Wk.iconst (v := nI 2) X dX5_growNode_357 (by decide) ?_
                      refine Wk.iast (ws' := Wm h cI cJ cZ th n li gr nu hb se t (upd (upd ki (t * 15 + k) (nI 1)) (t * 15 + k) (nI 2)) fe lm si (upd va (t * 15 + k) (flM ((se 1) * y) (nI x))) (upd he (t * 15 + k) (nI x)) up lo sc no pu B.1 B.2.1 B.2.2.1 B.2.2.2.1 B.2.2.2.2) X 6 0 rfl rfl (by omega) (by decide) rfl dX5_growNode_358 ?_
                      refine Wk.aload_n X 0 rfl dX5_growNode_359 rfl ?_
                      refine Wk.get X inX5 0 9 lk29 (fun _ h9 => h9) rfl rfl (by decide) rfl dX5_growNode_360 ?_
                      refine Wk.iload_n X 2 rfl dX5_growNode_363 rfl ?_
                      refine Wk.aload_n X 0 rfl dX5_growNode_364 rfl ?_
                      refine Wk.get X inX5 0 19 lk111 (fun _ h9 => h9) rfl rfl (by decide) rfl dX5_growNode_365 ?_
                      refine Wk.iast (ws' := Wm h cI cJ cZ th n li gr nu hb se t (upd (upd ki (t * 15 + k) (nI 1)) (t * 15 + k) (nI 2)) (upd fe (t * 15 + k) B.1) lm si (upd va (t * 15 + k) (flM ((se 1) * y) (nI x))) (upd he (t * 15 + k) (nI x)) up lo sc no pu B.1 B.2.1 B.2.2.1 B.2.2.2.1 B.2.2.2.2) X 7 0 rfl rfl (by omega) (by decide) rfl dX5_growNode_368 ?_
                      refine Wk.aload_n X 0 rfl dX5_growNode_369 rfl ?_
                      refine Wk.get X inX5 0 10 lk32 (fun _ h9 => h9) rfl rfl (by decide) rfl dX5_growNode_370 ?_
                      refine Wk.iload_n X 2 rfl dX5_growNode_373 rfl ?_
                      refine Wk.aload_n X 0 rfl dX5_growNode_374 rfl ?_
                      refine Wk.get X inX5 0 20 lk114 (fun _ h9 => h9) rfl rfl (by decide) rfl dX5_growNode_375 ?_
                      refine Wk.iast (ws' := Wm h cI cJ cZ th n li gr nu hb se t (upd (upd ki (t * 15 + k) (nI 1)) (t * 15 + k) (nI 2)) (upd fe (t * 15 + k) B.1) (upd lm (t * 15 + k) B.2.1) si (upd va (t * 15 + k) (flM ((se 1) * y) (nI x))) (upd he (t * 15 + k) (nI x)) up lo sc no pu B.1 B.2.1 B.2.2.1 B.2.2.2.1 B.2.2.2.2) X 8 0 rfl rfl (by omega) (by decide) rfl dX5_growNode_378 ?_
                      refine Wk.aload_n X 0 rfl dX5_growNode_379 rfl ?_
                      refine Wk.get X inX5 0 11 lk35 (fun _ h9 => h9) rfl rfl (by decide) rfl dX5_growNode_380 ?_
                      refine Wk.iload_n X 2 rfl dX5_growNode_383 rfl ?_
                      refine Wk.aload_n X 0 rfl dX5_growNode_384 rfl ?_
                      refine Wk.get X inX5 0 21 lk117 (fun _ h9 => h9) rfl rfl (by decide) rfl dX5_growNode_385 ?_
                      refine Wk.iast (ws' := Wm h cI cJ cZ th n li gr nu hb se t (upd (upd ki (t * 15 + k) (nI 1)) (t * 15 + k) (nI 2)) (upd fe (t * 15 + k) B.1) (upd lm (t * 15 + k) B.2.1) (upd si (t * 15 + k) B.2.2.1) (upd va (t * 15 + k) (flM ((se 1) * y) (nI x))) (upd he (t * 15 + k) (nI x)) up lo sc no pu B.1 B.2.1 B.2.2.1 B.2.2.2.1 B.2.2.2.2) X 9 0 rfl rfl (by omega) (by decide) rfl dX5_growNode_388 ?_
                      refine Wk.aload_n X 0 rfl dX5_growNode_389 rfl ?_
                      refine Wk.get X inX5 0 22 lk108 (fun _ h9 => h9) rfl rfl (by decide) rfl dX5_growNode_390 ?_
                      refine Wk.aload_n X 0 rfl dX5_growNode_393 rfl ?_
                      refine Wk.get X inX5 0 23 lk104 (fun _ h9 => h9) rfl rfl (by decide) rfl dX5_growNode_394 ?_
                      refine Wk.callSl (n := 2) X (c_X5_common l dC dI cI cJ cZ B.2.2.2.1 B.2.2.2.2 (by exact hg1)) gX5_growNode_X5_common rfl (by decide +kernel) (by decide) Fr.nil (fun h9 => h9) rfl rfl (Nat.le_of_ble_eq_true rfl) ⟨Nat.zero_le _, Nat.zero_le _⟩ dX5_growNode_397 ?_
                      refine Wk.lstore (lv' := [(5, .long (gcC 100 B.2.2.2.1 B.2.2.2.2)), (0, .ref (h 0)), (1, .int (nI k)), (2, .int (nI (t * 15 + k))), (3, .int (nI x)), (4, .int y)]) X dX5_growNode_400 (by decide) rfl ?_
                      refine Wk.aload_n X 1 rfl dX5_growNode_402 rfl ?_
                      refine Wk.get X inX5 0 14 lk44 (fun _ h9 => h9) rfl rfl (by decide) rfl dX5_growNode_403 ?_
                      refine Wk.iload_n X 3 rfl dX5_growNode_406 rfl ?_
                      refine Wk.aload_n X 1 rfl dX5_growNode_407 rfl ?_
                      refine Wk.get X inX5 0 22 lk108 (fun _ h9 => h9) rfl rfl (by decide) rfl dX5_growNode_408 ?_
                      refine Wk.lload X 0 rfl dX5_growNode_411 ?_
                      refine Wk.ldiv X dX5_growNode_413 hg2 ?_
                      refine Wk.last (ws' := Wm h cI cJ cZ th n li gr nu hb se t (upd (upd ki (t * 15 + k) (nI 1)) (t * 15 + k) (nI 2)) (upd fe (t * 15 + k) B.1) (upd lm (t * 15 + k) B.2.1) (upd si (t * 15 + k) B.2.2.1) (upd va (t * 15 + k) (flM ((se 1) * y) (nI x))) (upd he (t * 15 + k) (nI x)) (vp_updL up (t * 15 + k) (B.2.2.2.1 / (gcC 100 B.2.2.2.1 B.2.2.2.2))) lo sc no pu B.1 B.2.1 B.2.2.1 B.2.2.2.1 B.2.2.2.2) X 12 1 rfl rfl (by omega) (by decide) rfl dX5_growNode_414 ?_
                      refine Wk.aload_n X 1 rfl dX5_growNode_415 rfl ?_
                      refine Wk.get X inX5 0 15 lk48 (fun _ h9 => h9) rfl rfl (by decide) rfl dX5_growNode_416 ?_
                      refine Wk.iload_n X 3 rfl dX5_growNode_419 rfl ?_
                      refine Wk.aload_n X 1 rfl dX5_growNode_420 rfl ?_
                      refine Wk.get X inX5 0 23 lk104 (fun _ h9 => h9) rfl rfl (by decide) rfl dX5_growNode_421 ?_
                      refine Wk.lload X 0 rfl dX5_growNode_424 ?_
                      refine Wk.ldiv X dX5_growNode_426 hg2 ?_
                      refine Wk.last (ws' := Wm h cI cJ cZ th n li gr nu hb se t (upd (upd ki (t * 15 + k) (nI 1)) (t * 15 + k) (nI 2)) (upd fe (t * 15 + k) B.1) (upd lm (t * 15 + k) B.2.1) (upd si (t * 15 + k) B.2.2.1) (upd va (t * 15 + k) (flM ((se 1) * y) (nI x))) (upd he (t * 15 + k) (nI x)) (vp_updL up (t * 15 + k) (B.2.2.2.1 / (gcC 100 B.2.2.2.1 B.2.2.2.2))) (vp_updL lo (t * 15 + k) (B.2.2.2.2 / (gcC 100 B.2.2.2.1 B.2.2.2.2))) sc no pu B.1 B.2.1 B.2.2.1 B.2.2.2.1 B.2.2.2.2) X 13 1 rfl rfl (by omega) (by decide) rfl dX5_growNode_427 ?_
                      refine Wk.iconst (v := nI 0) X dX5_growNode_428 (by decide) ?_
                      refine Wk.istore (lv' := [(7, .int (nI 0)), (5, .long (gcC 100 B.2.2.2.1 B.2.2.2.2)), (0, .ref (h 0)), (1, .int (nI k)), (2, .int (nI (t * 15 + k))), (3, .int (nI x)), (4, .int y)]) X dX5_growNode_429 (by decide) rfl ?_
                      have L431 : ∀ (fu431 : Nat) (i3 : Nat) (q : Nat → Int32) (hq6 : n + 1 ≤ i3 + fu431) (hi3 : i3 ≤ n) (hq2 : q = ptM hb nu B.1 B.2.1 B.2.2.1 k i3 no), Wk pg l ev ({ frames := 3, cells := 0, slots := 0, locals := 84 } : Room) s0 md ar bw mt cd 0 0 (QRv bw ar s0 (dC, dI) cl6 (TY cI cJ cZ) A (Wm h cI cJ cZ th n li gr nu hb se t ((mnC n nu hb pu se t k (no, (b1, b2, b3, bu, bl), ki, fe, lm, si, va, he, up, lo)).2.2.1) ((mnC n nu hb pu se t k (no, (b1, b2, b3, bu, bl), ki, fe, lm, si, va, he, up, lo)).2.2.2.1) ((mnC n nu hb pu se t k (no, (b1, b2, b3, bu, bl), ki, fe, lm, si, va, he, up, lo)).2.2.2.2.1) ((mnC n nu hb pu se t k (no, (b1, b2, b3, bu, bl), ki, fe, lm, si, va, he, up, lo)).2.2.2.2.2.1) ((mnC n nu hb pu se t k (no, (b1, b2, b3, bu, bl), ki, fe, lm, si, va, he, up, lo)).2.2.2.2.2.2.1) ((mnC n nu hb pu se t k (no, (b1, b2, b3, bu, bl), ki, fe, lm, si, va, he, up, lo)).2.2.2.2.2.2.2.1) ((mnC n nu hb pu se t k (no, (b1, b2, b3, bu, bl), ki, fe, lm, si, va, he, up, lo)).2.2.2.2.2.2.2.2.1) ((mnC n nu hb pu se t k (no, (b1, b2, b3, bu, bl), ki, fe, lm, si, va, he, up, lo)).2.2.2.2.2.2.2.2.2) sc ((mnC n nu hb pu se t k (no, (b1, b2, b3, bu, bl), ki, fe, lm, si, va, he, up, lo)).1) pu ((mnC n nu hb pu se t k (no, (b1, b2, b3, bu, bl), ki, fe, lm, si, va, he, up, lo)).2.1.1) ((mnC n nu hb pu se t k (no, (b1, b2, b3, bu, bl), ki, fe, lm, si, va, he, up, lo)).2.1.2.1) ((mnC n nu hb pu se t k (no, (b1, b2, b3, bu, bl), ki, fe, lm, si, va, he, up, lo)).2.1.2.2.1) ((mnC n nu hb pu se t k (no, (b1, b2, b3, bu, bl), ki, fe, lm, si, va, he, up, lo)).2.1.2.2.2.1) ((mnC n nu hb pu se t k (no, (b1, b2, b3, bu, bl), ki, fe, lm, si, va, he, up, lo)).2.1.2.2.2.2))) 11 (dC, dI) cl6 A 431 [(0, .ref (h 0)), (1, .int (nI k)), (2, .int (nI (t * 15 + k))), (3, .int (nI x)), (4, .int y), (7, .int (nI i3))] [] (Wm h cI cJ cZ th n li gr nu hb se t (upd (upd ki (t * 15 + k) (nI 1)) (t * 15 + k) (nI 2)) (upd fe (t * 15 + k) B.1) (upd lm (t * 15 + k) B.2.1) (upd si (t * 15 + k) B.2.2.1) (upd va (t * 15 + k) (flM ((se 1) * y) (nI x))) (upd he (t * 15 + k) (nI x)) (vp_updL up (t * 15 + k) (B.2.2.2.1 / (gcC 100 B.2.2.2.1 B.2.2.2.2))) (vp_updL lo (t * 15 + k) (B.2.2.2.2 / (gcC 100 B.2.2.2.1 B.2.2.2.2))) sc q pu B.1 B.2.1 B.2.2.1 B.2.2.2.1 B.2.2.2.2) := by
                        intro fu431
                        induction fu431 with
                        | zero => intro i3 q hq6 hi3 hq2; exact absurd hq6 (by omega)
                        | succ fu431 ih431 =>
                          intro i3 q hq6 hi3 hq2
                          refine Wk.iload X 5 rfl dX5_growNode_431 ?_
                          refine Wk.aload_n X 0 rfl dX5_growNode_433 rfl ?_
                          refine Wk.get X inX5 0 1 lk63 (fun _ h9 => h9) rfl rfl (by decide) rfl dX5_growNode_434 ?_
                          refine Wk.icmpN_ge X 498 (by omega) (by omega) dX5_growNode_437 (by decide) (fun c11 => ?_) (fun c11 => ?_)
                          · skip
                            exact Wk.vret X hr hk (by first | contradiction | (subst ex9 ey9; clear hgc ex0; simp [mnC, *]; done) | (subst ex9 ey9; clear ef1 hgc ex0; rw [hq2, show i3 = n by omega]; simp [mnC, *])) dX5_growNode_498
                          · skip
                            refine Wk.aload_n X 0 rfl dX5_growNode_440 rfl ?_
                            refine Wk.get X inX5 0 17 lk54 (fun _ h9 => h9) rfl rfl (by decide) rfl dX5_growNode_441 ?_
                            refine Wk.iload X 5 rfl dX5_growNode_444 ?_
                            refine Wk.iald X 15 0 rfl rfl (by omega) (by decide) dX5_growNode_446 ?_
                            refine Wk.iload_n X 1 rfl dX5_growNode_447 rfl ?_
                            refine Wk.icmp_ne X 492 dX5_growNode_448 (by decide) (fun c12 => ?_) (fun c12 => ?_)
                            · skip
                              refine Wk.iincN (n := 1) (lv' := [(7, .int (nI (i3 + 1))), (0, .ref (h 0)), (1, .int (nI k)), (2, .int (nI (t * 15 + k))), (3, .int (nI x)), (4, .int y)]) X 5 rfl dX5_growNode_492 (by decide) rfl ?_
                              refine Wk.goto X 431 dX5_growNode_495 (by decide) ?_
                              refine Wk.lvs (lv' := [(0, .ref (h 0)), (1, .int (nI k)), (2, .int (nI (t * 15 + k))), (3, .int (nI x)), (4, .int y), (7, .int (nI (i3 + 1)))]) [1, 2, 3, 4, 5, 0] rfl ?_
                              exact ih431 (i3 + 1) q (by omega) (by omega) (by subst hq2; clear ef1; simp [ptM, *])
                            · skip
                              refine Wk.aload_n X 0 rfl dX5_growNode_451 rfl ?_
                              refine Wk.get X inX5 0 17 lk54 (fun _ h9 => h9) rfl rfl (by decide) rfl dX5_growNode_452 ?_
                              refine Wk.iload X 5 rfl dX5_growNode_455 ?_
                              refine Wk.aload_n X 0 rfl dX5_growNode_457 rfl ?_
                              refine Wk.iload X 5 rfl dX5_growNode_458 ?_
                              refine Wk.aload_n X 0 rfl dX5_growNode_460 rfl ?_
                              refine Wk.get X inX5 0 19 lk111 (fun _ h9 => h9) rfl rfl (by decide) rfl dX5_growNode_461 ?_
                              refine Wk.topi ef1 ?_
                              refine Wk.aload_n X 0 rfl dX5_growNode_464 rfl ?_
                              refine Wk.get X inX5 0 20 lk114 (fun _ h9 => h9) rfl rfl (by decide) rfl dX5_growNode_465 ?_
                              refine Wk.aload_n X 0 rfl dX5_growNode_468 rfl ?_
                              refine Wk.get X inX5 0 21 lk117 (fun _ h9 => h9) rfl rfl (by decide) rfl dX5_growNode_469 ?_
                              refine Wk.callVi (n := 4) (q0 := 0) X (c_X5_goesLeft l dC dI cI cJ cZ h th n li gr nu hb se t (upd (upd ki (t * 15 + k) (nI 1)) (t * 15 + k) (nI 2)) (upd fe (t * 15 + k) B.1) (upd lm (t * 15 + k) B.2.1) (upd si (t * 15 + k) B.2.2.1) (upd va (t * 15 + k) (flM ((se 1) * y) (nI x))) (upd he (t * 15 + k) (nI x)) (vp_updL up (t * 15 + k) (B.2.2.2.1 / (gcC 100 B.2.2.2.1 B.2.2.2.2))) (vp_updL lo (t * 15 + k) (B.2.2.2.2 / (gcC 100 B.2.2.2.1 B.2.2.2.2))) sc q pu B.1 B.2.1 B.2.2.1 B.2.2.2.1 B.2.2.2.2 i3 (nI i3) f1 B.2.1 B.2.2.1 (by exact atM_nI (by omega)) (by first | omega | assumption) (by first | omega | assumption)) gX5_growNode_X5_goesLeft rfl (by decide +kernel) (by decide) Fr.all (fun h9 => h9) rfl rfl rfl rfl (Nat.le_of_ble_eq_true rfl) ⟨Nat.zero_le _, Nat.zero_le _⟩ dX5_growNode_472 ?_
                              refine Wk.ifB_eq X 486 dX5_growNode_475 (by decide) (fun c13 => ?_) (fun c13 => ?_)
                              · skip
                                refine Wk.iconst (v := nI 2) X dX5_growNode_486 (by decide) ?_
                                refine Wk.iload_n X 1 rfl dX5_growNode_487 rfl ?_
                                refine Wk.imulN X dX5_growNode_488 ?_
                                refine Wk.iconst (v := nI 2) X dX5_growNode_489 (by decide) ?_
                                refine Wk.iaddN X dX5_growNode_490 ?_
                                refine Wk.iast (ws' := Wm h cI cJ cZ th n li gr nu hb se t (upd (upd ki (t * 15 + k) (nI 1)) (t * 15 + k) (nI 2)) (upd fe (t * 15 + k) B.1) (upd lm (t * 15 + k) B.2.1) (upd si (t * 15 + k) B.2.2.1) (upd va (t * 15 + k) (flM ((se 1) * y) (nI x))) (upd he (t * 15 + k) (nI x)) (vp_updL up (t * 15 + k) (B.2.2.2.1 / (gcC 100 B.2.2.2.1 B.2.2.2.2))) (vp_updL lo (t * 15 + k) (B.2.2.2.2 / (gcC 100 B.2.2.2.1 B.2.2.2.2))) sc (upd q i3 (nI (2 * k + 2))) pu B.1 B.2.1 B.2.2.1 B.2.2.2.1 B.2.2.2.2) X 15 0 rfl rfl (by omega) (by decide) rfl dX5_growNode_491 ?_
                                refine Wk.iincN (n := 1) (lv' := [(7, .int (nI (i3 + 1))), (0, .ref (h 0)), (1, .int (nI k)), (2, .int (nI (t * 15 + k))), (3, .int (nI x)), (4, .int y)]) X 5 rfl dX5_growNode_492 (by decide) rfl ?_
                                refine Wk.goto X 431 dX5_growNode_495 (by decide) ?_
                                refine Wk.lvs (lv' := [(0, .ref (h 0)), (1, .int (nI k)), (2, .int (nI (t * 15 + k))), (3, .int (nI x)), (4, .int y), (7, .int (nI (i3 + 1)))]) [1, 2, 3, 4, 5, 0] rfl ?_
                                exact ih431 (i3 + 1) (upd q i3 (nI (2 * k + 2))) (by omega) (by omega) (by subst hq2; clear ef1; simp [ptM, *])
                              · skip
                                refine Wk.iconst (v := nI 2) X dX5_growNode_478 (by decide) ?_
                                refine Wk.iload_n X 1 rfl dX5_growNode_479 rfl ?_
                                refine Wk.imulN X dX5_growNode_480 ?_
                                refine Wk.iconst (v := nI 1) X dX5_growNode_481 (by decide) ?_
                                refine Wk.iaddN X dX5_growNode_482 ?_
                                refine Wk.goto X 491 dX5_growNode_483 (by decide) ?_
                                refine Wk.iast (ws' := Wm h cI cJ cZ th n li gr nu hb se t (upd (upd ki (t * 15 + k) (nI 1)) (t * 15 + k) (nI 2)) (upd fe (t * 15 + k) B.1) (upd lm (t * 15 + k) B.2.1) (upd si (t * 15 + k) B.2.2.1) (upd va (t * 15 + k) (flM ((se 1) * y) (nI x))) (upd he (t * 15 + k) (nI x)) (vp_updL up (t * 15 + k) (B.2.2.2.1 / (gcC 100 B.2.2.2.1 B.2.2.2.2))) (vp_updL lo (t * 15 + k) (B.2.2.2.2 / (gcC 100 B.2.2.2.1 B.2.2.2.2))) sc (upd q i3 (nI (2 * k + 1))) pu B.1 B.2.1 B.2.2.1 B.2.2.2.1 B.2.2.2.2) X 15 0 rfl rfl (by omega) (by decide) rfl dX5_growNode_491 ?_
                                refine Wk.iincN (n := 1) (lv' := [(7, .int (nI (i3 + 1))), (0, .ref (h 0)), (1, .int (nI k)), (2, .int (nI (t * 15 + k))), (3, .int (nI x)), (4, .int y)]) X 5 rfl dX5_growNode_492 (by decide) rfl ?_
                                refine Wk.goto X 431 dX5_growNode_495 (by decide) ?_
                                refine Wk.lvs (lv' := [(0, .ref (h 0)), (1, .int (nI k)), (2, .int (nI (t * 15 + k))), (3, .int (nI x)), (4, .int y), (7, .int (nI (i3 + 1)))]) [1, 2, 3, 4, 5, 0] rfl ?_
                                exact ih431 (i3 + 1) (upd q i3 (nI (2 * k + 1))) (by omega) (by omega) (by subst hq2; clear ef1; simp [ptM, *])
                      refine Wk.lvs (lv' := [(0, .ref (h 0)), (1, .int (nI k)), (2, .int (nI (t * 15 + k))), (3, .int (nI x)), (4, .int y), (7, .int (nI 0))]) [2, 3, 4, 5, 6, 0] rfl ?_
                      exact L431 (n + 1) 0 no (by omega) (by omega) (by rfl)
                  · skip
                    refine Wk.sipush (v := -1001) X dX5_growNode_157 (by decide) ?_
                    refine Wk.istore (lv' := [(6, .int (-1001)), (0, .ref (h 0)), (1, .int (nI k)), (2, .int (nI (t * 15 + k))), (3, .int (nI x)), (4, .int y), (5, .int (nI f))]) X dX5_growNode_160 (by decide) rfl ?_
                    refine Wk.iconst (v := nI 1) X dX5_growNode_162 (by decide) ?_
                    refine Wk.istore (lv' := [(7, .int (nI 1)), (6, .int (-1001)), (0, .ref (h 0)), (1, .int (nI k)), (2, .int (nI (t * 15 + k))), (3, .int (nI x)), (4, .int y), (5, .int (nI f))]) X dX5_growNode_163 (by decide) rfl ?_
                    refine Wk.lvq (lv' := [(7, .int (bI true)), (6, .int (-1001)), (0, .ref (h 0)), (1, .int (nI k)), (2, .int (nI (t * 15 + k))), (3, .int (nI x)), (4, .int y), (5, .int (nI f))]) (by rw [show nI 1 = bI true by decide]) ?_
                    have L165 : ∀ (fu165 : Nat) (c : Int32) (mo : Bool) (B2 : MS) (d : Nat) (hq3 : (mo = true → ctM no nu hb k f c n + 2 ≤ fu165) ∧ 1 ≤ fu165) (hB3 : (mo = true → whM n no pu nu hb (se 3) k f d c B2 = whM n no pu nu hb (se 3) k f (n + 1) (-1001) B) ∧ (mo = false → B2 = whM n no pu nu hb (se 3) k f (n + 1) (-1001) B)) (hd3 : mo = true → ctM no nu hb k f c n < d) (hc3 : c ≤ nI 1001), Wk pg l ev ({ frames := 3, cells := 0, slots := 0, locals := 84 } : Room) s0 md ar bw mt cd 0 0 (QRv bw ar s0 (dC, dI) cl6 (TY cI cJ cZ) A (Wm h cI cJ cZ th n li gr nu hb se t ((mnC n nu hb pu se t k (no, (b1, b2, b3, bu, bl), ki, fe, lm, si, va, he, up, lo)).2.2.1) ((mnC n nu hb pu se t k (no, (b1, b2, b3, bu, bl), ki, fe, lm, si, va, he, up, lo)).2.2.2.1) ((mnC n nu hb pu se t k (no, (b1, b2, b3, bu, bl), ki, fe, lm, si, va, he, up, lo)).2.2.2.2.1) ((mnC n nu hb pu se t k (no, (b1, b2, b3, bu, bl), ki, fe, lm, si, va, he, up, lo)).2.2.2.2.2.1) ((mnC n nu hb pu se t k (no, (b1, b2, b3, bu, bl), ki, fe, lm, si, va, he, up, lo)).2.2.2.2.2.2.1) ((mnC n nu hb pu se t k (no, (b1, b2, b3, bu, bl), ki, fe, lm, si, va, he, up, lo)).2.2.2.2.2.2.2.1) ((mnC n nu hb pu se t k (no, (b1, b2, b3, bu, bl), ki, fe, lm, si, va, he, up, lo)).2.2.2.2.2.2.2.2.1) ((mnC n nu hb pu se t k (no, (b1, b2, b3, bu, bl), ki, fe, lm, si, va, he, up, lo)).2.2.2.2.2.2.2.2.2) sc ((mnC n nu hb pu se t k (no, (b1, b2, b3, bu, bl), ki, fe, lm, si, va, he, up, lo)).1) pu ((mnC n nu hb pu se t k (no, (b1, b2, b3, bu, bl), ki, fe, lm, si, va, he, up, lo)).2.1.1) ((mnC n nu hb pu se t k (no, (b1, b2, b3, bu, bl), ki, fe, lm, si, va, he, up, lo)).2.1.2.1) ((mnC n nu hb pu se t k (no, (b1, b2, b3, bu, bl), ki, fe, lm, si, va, he, up, lo)).2.1.2.2.1) ((mnC n nu hb pu se t k (no, (b1, b2, b3, bu, bl), ki, fe, lm, si, va, he, up, lo)).2.1.2.2.2.1) ((mnC n nu hb pu se t k (no, (b1, b2, b3, bu, bl), ki, fe, lm, si, va, he, up, lo)).2.1.2.2.2.2))) 11 (dC, dI) cl6 A 165 [(0, .ref (h 0)), (1, .int (nI k)), (2, .int (nI (t * 15 + k))), (3, .int (nI x)), (4, .int y), (5, .int (nI f)), (6, .int c), (7, .int (bI mo))] [] (Wm h cI cJ cZ th n li gr nu hb se t (upd ki (t * 15 + k) (nI 1)) fe lm si (upd va (t * 15 + k) (flM ((se 1) * y) (nI x))) (upd he (t * 15 + k) (nI x)) up lo sc no pu B2.1 B2.2.1 B2.2.2.1 B2.2.2.2.1 B2.2.2.2.2) := by
                      intro fu165
                      induction fu165 with
                      | zero => intro c mo B2 d hq3 hB3 hd3 hc3; exact absurd hq3.2 (by decide)
                      | succ fu165 ih165 =>
                        intro c mo B2 d hq3 hB3 hd3 hc3
                        refine Wk.iload X 7 rfl dX5_growNode_165 ?_
                        refine Wk.ifB_eq X 337 dX5_growNode_167 (by decide) (fun c14 => ?_) (fun c14 => ?_)
                        · skip
                          refine Wk.iincN (n := 1) (lv' := [(5, .int (nI (f + 1))), (0, .ref (h 0)), (1, .int (nI k)), (2, .int (nI (t * 15 + k))), (3, .int (nI x)), (4, .int y), (6, .int c), (7, .int (bI mo))]) X 5 rfl dX5_growNode_337 (by decide) rfl ?_
                          refine Wk.goto X 138 dX5_growNode_340 (by decide) ?_
                          refine Wk.lvs (lv' := [(0, .ref (h 0)), (1, .int (nI k)), (2, .int (nI (t * 15 + k))), (3, .int (nI x)), (4, .int y), (5, .int (nI (f + 1)))]) [1, 2, 3, 4, 5, 0] rfl ?_
                          exact ih138 (f + 1) B2 (by omega) (by omega) (by have e9 := hB3.2 (by assumption); rw [e9, hB]; simp [fkM, *])
                        · skip
                          refine Wk.sipush (v := nI 1001) X dX5_growNode_170 (by decide) ?_
                          refine Wk.istore (lv' := [(8, .int (nI 1001)), (0, .ref (h 0)), (1, .int (nI k)), (2, .int (nI (t * 15 + k))), (3, .int (nI x)), (4, .int y), (5, .int (nI f)), (6, .int c), (7, .int (bI mo))]) X dX5_growNode_173 (by decide) rfl ?_
                          refine Wk.iconst (v := nI 0) X dX5_growNode_175 (by decide) ?_
                          refine Wk.istore (lv' := [(9, .int (nI 0)), (8, .int (nI 1001)), (0, .ref (h 0)), (1, .int (nI k)), (2, .int (nI (t * 15 + k))), (3, .int (nI x)), (4, .int y), (5, .int (nI f)), (6, .int c), (7, .int (bI mo))]) X dX5_growNode_176 (by decide) rfl ?_
                          have L178 : ∀ (fu178 : Nat) (i2 : Nat) (nx : Int32) (hq4 : n + 1 ≤ i2 + fu178) (hi2 : i2 ≤ n) (hnx : nx = nxM no nu hb k f c i2), Wk pg l ev ({ frames := 3, cells := 0, slots := 0, locals := 84 } : Room) s0 md ar bw mt cd 0 0 (QRv bw ar s0 (dC, dI) cl6 (TY cI cJ cZ) A (Wm h cI cJ cZ th n li gr nu hb se t ((mnC n nu hb pu se t k (no, (b1, b2, b3, bu, bl), ki, fe, lm, si, va, he, up, lo)).2.2.1) ((mnC n nu hb pu se t k (no, (b1, b2, b3, bu, bl), ki, fe, lm, si, va, he, up, lo)).2.2.2.1) ((mnC n nu hb pu se t k (no, (b1, b2, b3, bu, bl), ki, fe, lm, si, va, he, up, lo)).2.2.2.2.1) ((mnC n nu hb pu se t k (no, (b1, b2, b3, bu, bl), ki, fe, lm, si, va, he, up, lo)).2.2.2.2.2.1) ((mnC n nu hb pu se t k (no, (b1, b2, b3, bu, bl), ki, fe, lm, si, va, he, up, lo)).2.2.2.2.2.2.1) ((mnC n nu hb pu se t k (no, (b1, b2, b3, bu, bl), ki, fe, lm, si, va, he, up, lo)).2.2.2.2.2.2.2.1) ((mnC n nu hb pu se t k (no, (b1, b2, b3, bu, bl), ki, fe, lm, si, va, he, up, lo)).2.2.2.2.2.2.2.2.1) ((mnC n nu hb pu se t k (no, (b1, b2, b3, bu, bl), ki, fe, lm, si, va, he, up, lo)).2.2.2.2.2.2.2.2.2) sc ((mnC n nu hb pu se t k (no, (b1, b2, b3, bu, bl), ki, fe, lm, si, va, he, up, lo)).1) pu ((mnC n nu hb pu se t k (no, (b1, b2, b3, bu, bl), ki, fe, lm, si, va, he, up, lo)).2.1.1) ((mnC n nu hb pu se t k (no, (b1, b2, b3, bu, bl), ki, fe, lm, si, va, he, up, lo)).2.1.2.1) ((mnC n nu hb pu se t k (no, (b1, b2, b3, bu, bl), ki, fe, lm, si, va, he, up, lo)).2.1.2.2.1) ((mnC n nu hb pu se t k (no, (b1, b2, b3, bu, bl), ki, fe, lm, si, va, he, up, lo)).2.1.2.2.2.1) ((mnC n nu hb pu se t k (no, (b1, b2, b3, bu, bl), ki, fe, lm, si, va, he, up, lo)).2.1.2.2.2.2))) 11 (dC, dI) cl6 A 178 [(0, .ref (h 0)), (1, .int (nI k)), (2, .int (nI (t * 15 + k))), (3, .int (nI x)), (4, .int y), (5, .int (nI f)), (6, .int c), (7, .int (bI mo)), (8, .int nx), (9, .int (nI i2))] [] (Wm h cI cJ cZ th n li gr nu hb se t (upd ki (t * 15 + k) (nI 1)) fe lm si (upd va (t * 15 + k) (flM ((se 1) * y) (nI x))) (upd he (t * 15 + k) (nI x)) up lo sc no pu B2.1 B2.2.1 B2.2.2.1 B2.2.2.2.1 B2.2.2.2.2) := by
                            intro fu178
                            induction fu178 with
                            | zero => intro i2 nx hq4 hi2 hnx; exact absurd hq4 (by omega)
                            | succ fu178 ih178 =>
                              intro i2 nx hq4 hi2 hnx
                              refine Wk.iload X 9 rfl dX5_growNode_178 ?_
                              refine Wk.aload_n X 0 rfl dX5_growNode_180 rfl ?_
                              refine Wk.get X inX5 0 1 lk63 (fun _ h9 => h9) rfl rfl (by decide) rfl dX5_growNode_181 ?_
                              refine Wk.icmpN_ge X 284 (by omega) (by omega) dX5_growNode_184 (by decide) (fun c15 => ?_) (fun c15 => ?_)
                              · skip
                                have J297 : Wk pg l ev ({ frames := 3, cells := 0, slots := 0, locals := 84 } : Room) s0 md ar bw mt cd 0 0 (QRv bw ar s0 (dC, dI) cl6 (TY cI cJ cZ) A (Wm h cI cJ cZ th n li gr nu hb se t ((mnC n nu hb pu se t k (no, (b1, b2, b3, bu, bl), ki, fe, lm, si, va, he, up, lo)).2.2.1) ((mnC n nu hb pu se t k (no, (b1, b2, b3, bu, bl), ki, fe, lm, si, va, he, up, lo)).2.2.2.1) ((mnC n nu hb pu se t k (no, (b1, b2, b3, bu, bl), ki, fe, lm, si, va, he, up, lo)).2.2.2.2.1) ((mnC n nu hb pu se t k (no, (b1, b2, b3, bu, bl), ki, fe, lm, si, va, he, up, lo)).2.2.2.2.2.1) ((mnC n nu hb pu se t k (no, (b1, b2, b3, bu, bl), ki, fe, lm, si, va, he, up, lo)).2.2.2.2.2.2.1) ((mnC n nu hb pu se t k (no, (b1, b2, b3, bu, bl), ki, fe, lm, si, va, he, up, lo)).2.2.2.2.2.2.2.1) ((mnC n nu hb pu se t k (no, (b1, b2, b3, bu, bl), ki, fe, lm, si, va, he, up, lo)).2.2.2.2.2.2.2.2.1) ((mnC n nu hb pu se t k (no, (b1, b2, b3, bu, bl), ki, fe, lm, si, va, he, up, lo)).2.2.2.2.2.2.2.2.2) sc ((mnC n nu hb pu se t k (no, (b1, b2, b3, bu, bl), ki, fe, lm, si, va, he, up, lo)).1) pu ((mnC n nu hb pu se t k (no, (b1, b2, b3, bu, bl), ki, fe, lm, si, va, he, up, lo)).2.1.1) ((mnC n nu hb pu se t k (no, (b1, b2, b3, bu, bl), ki, fe, lm, si, va, he, up, lo)).2.1.2.1) ((mnC n nu hb pu se t k (no, (b1, b2, b3, bu, bl), ki, fe, lm, si, va, he, up, lo)).2.1.2.2.1) ((mnC n nu hb pu se t k (no, (b1, b2, b3, bu, bl), ki, fe, lm, si, va, he, up, lo)).2.1.2.2.2.1) ((mnC n nu hb pu se t k (no, (b1, b2, b3, bu, bl), ki, fe, lm, si, va, he, up, lo)).2.1.2.2.2.2))) 11 (dC, dI) cl6 A 297 [(0, .ref (h 0)), (1, .int (nI k)), (2, .int (nI (t * 15 + k))), (3, .int (nI x)), (4, .int y), (5, .int (nI f)), (6, .int c), (7, .int (bI mo)), (8, .int nx), (9, .int (nI i2))] [.int (bI (decide (¬ nI 1001 ≤ nx)))] (Wm h cI cJ cZ th n li gr nu hb se t (upd ki (t * 15 + k) (nI 1)) fe lm si (upd va (t * 15 + k) (flM ((se 1) * y) (nI x))) (upd he (t * 15 + k) (nI x)) up lo sc no pu B2.1 B2.2.1 B2.2.2.1 B2.2.2.2.1 B2.2.2.2.2) := by
                                  refine Wk.istore (lv' := [(7, .int (bI (decide (¬ nI 1001 ≤ nx)))), (0, .ref (h 0)), (1, .int (nI k)), (2, .int (nI (t * 15 + k))), (3, .int (nI x)), (4, .int y), (5, .int (nI f)), (6, .int c), (8, .int nx), (9, .int (nI i2))]) X dX5_growNode_297 (by decide) rfl ?_
                                  refine Wk.iload X 8 rfl dX5_growNode_299 ?_
                                  refine Wk.istore (lv' := [(6, .int nx), (7, .int (bI (decide (¬ nI 1001 ≤ nx)))), (0, .ref (h 0)), (1, .int (nI k)), (2, .int (nI (t * 15 + k))), (3, .int (nI x)), (4, .int y), (5, .int (nI f)), (8, .int nx), (9, .int (nI i2))]) X dX5_growNode_301 (by decide) rfl ?_
                                  have enx : nxM no nu hb k f c n = nx := by rw [hnx, show i2 = n by omega]
                                  clear hnx
                                  by_cases hx9 : nI 1001 ≤ nx
                                  · refine Wk.lvq (lv' := [(6, .int nx), (7, .int (bI false)), (0, .ref (h 0)), (1, .int (nI k)), (2, .int (nI (t * 15 + k))), (3, .int (nI x)), (4, .int y), (5, .int (nI f)), (8, .int nx), (9, .int (nI i2))]) (by rw [decide_eq_false (fun q => q hx9)]) ?_
                                    refine Wk.iconst (v := nI 0) X dX5_growNode_303 (by decide) ?_
                                    refine Wk.istore (lv' := [(9, .int (nI 0)), (6, .int nx), (7, .int (bI false)), (0, .ref (h 0)), (1, .int (nI k)), (2, .int (nI (t * 15 + k))), (3, .int (nI x)), (4, .int y), (5, .int (nI f)), (8, .int nx)]) X dX5_growNode_304 (by decide) rfl ?_
                                    refine Wk.iload X 0 rfl dX5_growNode_306 ?_
                                    refine Wk.iconst (v := nI 2) X dX5_growNode_308 (by decide) ?_
                                    refine Wk.icmpN_ge X 334 (by omega) (by omega) dX5_growNode_309 (by decide) (fun c16 => ?_) (fun c16 => ?_)
                                    · exact absurd c16 (by decide)
                                    · skip
                                      refine Wk.iload X 2 rfl dX5_growNode_312 ?_
                                      refine Wk.ifB_eq X 334 dX5_growNode_314 (by decide) (fun c17 => ?_) (fun c17 => ?_)
                                      · skip
                                        refine Wk.goto X 165 dX5_growNode_334 (by decide) ?_
                                        refine Wk.lvs (lv' := [(0, .ref (h 0)), (1, .int (nI k)), (2, .int (nI (t * 15 + k))), (3, .int (nI x)), (4, .int y), (5, .int (nI f)), (6, .int nx), (7, .int (bI false))]) [3, 4, 5, 6, 7, 8, 1, 2] rfl ?_
                                        exact ih165 nx false B2 (d - 1) (by first | (refine ⟨fun q => absurd q (by decide), ?_⟩; have := hq3.1 (by assumption); omega) | (have h1 := hq3.1 (by assumption); have h2 := ct_dec (no := no) (nu := nu) (hb := hb) (k := k) (f := f) n hc3 (by rw [enx]; exact hx9); rw [enx] at h2; exact ⟨fun _ => by omega, by omega⟩)) (by first | (refine ⟨fun q => absurd q (by decide), fun _ => ?_⟩; have h1 := hB3.1 (by assumption); have h2 := hd3 (by assumption); rw [← h1, show d = (d - 1) + 1 by omega]; simp [whM, enx, hx9]; done) | (refine ⟨fun _ => ?_, fun q => absurd q (by decide)⟩; have h1 := hB3.1 (by assumption); have h2 := hd3 (by assumption); rw [← h1, hB4, show j = 2 by omega]; (obtain ⟨d0, hd0⟩ : ∃ d0, d = d0 + 1 := ⟨d - 1, by omega⟩); rw [hd0]; simp [whM, sdM, enx, hx9])) (by first | (intro q; exact absurd q (by decide)) | (intro _; have h1 := hd3 (by assumption); have h2 := ct_dec (no := no) (nu := nu) (hb := hb) (k := k) (f := f) n hc3 (by rw [enx]; exact hx9); rw [enx] at h2; omega)) (by rw [← enx]; exact nx_le n)
                                      · exact absurd c17 (by decide)
                                  · refine Wk.lvq (lv' := [(6, .int nx), (7, .int (bI true)), (0, .ref (h 0)), (1, .int (nI k)), (2, .int (nI (t * 15 + k))), (3, .int (nI x)), (4, .int y), (5, .int (nI f)), (8, .int nx), (9, .int (nI i2))]) (by rw [decide_eq_true hx9]) ?_
                                    refine Wk.iconst (v := nI 0) X dX5_growNode_303 (by decide) ?_
                                    refine Wk.istore (lv' := [(9, .int (nI 0)), (6, .int nx), (7, .int (bI true)), (0, .ref (h 0)), (1, .int (nI k)), (2, .int (nI (t * 15 + k))), (3, .int (nI x)), (4, .int y), (5, .int (nI f)), (8, .int nx)]) X dX5_growNode_304 (by decide) rfl ?_
                                    have L306 : ∀ (fu306 : Nat) (j : Nat) (B4 : MS) (hq5 : 3 ≤ j + fu306) (hj : j ≤ 2) (hB4 : B4 = sdM n no pu nu hb (se 3) k f nx j B2), Wk pg l ev ({ frames := 3, cells := 0, slots := 0, locals := 84 } : Room) s0 md ar bw mt cd 0 0 (QRv bw ar s0 (dC, dI) cl6 (TY cI cJ cZ) A (Wm h cI cJ cZ th n li gr nu hb se t ((mnC n nu hb pu se t k (no, (b1, b2, b3, bu, bl), ki, fe, lm, si, va, he, up, lo)).2.2.1) ((mnC n nu hb pu se t k (no, (b1, b2, b3, bu, bl), ki, fe, lm, si, va, he, up, lo)).2.2.2.1) ((mnC n nu hb pu se t k (no, (b1, b2, b3, bu, bl), ki, fe, lm, si, va, he, up, lo)).2.2.2.2.1) ((mnC n nu hb pu se t k (no, (b1, b2, b3, bu, bl), ki, fe, lm, si, va, he, up, lo)).2.2.2.2.2.1) ((mnC n nu hb pu se t k (no, (b1, b2, b3, bu, bl), ki, fe, lm, si, va, he, up, lo)).2.2.2.2.2.2.1) ((mnC n nu hb pu se t k (no, (b1, b2, b3, bu, bl), ki, fe, lm, si, va, he, up, lo)).2.2.2.2.2.2.2.1) ((mnC n nu hb pu se t k (no, (b1, b2, b3, bu, bl), ki, fe, lm, si, va, he, up, lo)).2.2.2.2.2.2.2.2.1) ((mnC n nu hb pu se t k (no, (b1, b2, b3, bu, bl), ki, fe, lm, si, va, he, up, lo)).2.2.2.2.2.2.2.2.2) sc ((mnC n nu hb pu se t k (no, (b1, b2, b3, bu, bl), ki, fe, lm, si, va, he, up, lo)).1) pu ((mnC n nu hb pu se t k (no, (b1, b2, b3, bu, bl), ki, fe, lm, si, va, he, up, lo)).2.1.1) ((mnC n nu hb pu se t k (no, (b1, b2, b3, bu, bl), ki, fe, lm, si, va, he, up, lo)).2.1.2.1) ((mnC n nu hb pu se t k (no, (b1, b2, b3, bu, bl), ki, fe, lm, si, va, he, up, lo)).2.1.2.2.1) ((mnC n nu hb pu se t k (no, (b1, b2, b3, bu, bl), ki, fe, lm, si, va, he, up, lo)).2.1.2.2.2.1) ((mnC n nu hb pu se t k (no, (b1, b2, b3, bu, bl), ki, fe, lm, si, va, he, up, lo)).2.1.2.2.2.2))) 11 (dC, dI) cl6 A 306 [(0, .ref (h 0)), (1, .int (nI k)), (2, .int (nI (t * 15 + k))), (3, .int (nI x)), (4, .int y), (5, .int (nI f)), (6, .int nx), (7, .int (bI true)), (9, .int (nI j))] [] (Wm h cI cJ cZ th n li gr nu hb se t (upd ki (t * 15 + k) (nI 1)) fe lm si (upd va (t * 15 + k) (flM ((se 1) * y) (nI x))) (upd he (t * 15 + k) (nI x)) up lo sc no pu B4.1 B4.2.1 B4.2.2.1 B4.2.2.2.1 B4.2.2.2.2) := by
                                      intro fu306
                                      induction fu306 with
                                      | zero => intro j B4 hq5 hj hB4; exact absurd hq5 (by omega)
                                      | succ fu306 ih306 =>
                                        intro j B4 hq5 hj hB4
                                        refine Wk.iload X 8 rfl dX5_growNode_306 ?_
                                        refine Wk.iconst (v := nI 2) X dX5_growNode_308 (by decide) ?_
                                        refine Wk.icmpN_ge X 334 (by omega) (by omega) dX5_growNode_309 (by decide) (fun c18 => ?_) (fun c18 => ?_)
                                        · skip
                                          refine Wk.goto X 165 dX5_growNode_334 (by decide) ?_
                                          refine Wk.lvs (lv' := [(0, .ref (h 0)), (1, .int (nI k)), (2, .int (nI (t * 15 + k))), (3, .int (nI x)), (4, .int y), (5, .int (nI f)), (6, .int nx), (7, .int (bI true))]) [0, 1, 2, 3, 4, 5, 6, 7] rfl ?_
                                          exact ih165 nx true B4 (d - 1) (by first | (refine ⟨fun q => absurd q (by decide), ?_⟩; have := hq3.1 (by assumption); omega) | (have h1 := hq3.1 (by assumption); have h2 := ct_dec (no := no) (nu := nu) (hb := hb) (k := k) (f := f) n hc3 (by rw [enx]; exact hx9); rw [enx] at h2; exact ⟨fun _ => by omega, by omega⟩)) (by first | (refine ⟨fun q => absurd q (by decide), fun _ => ?_⟩; have h1 := hB3.1 (by assumption); have h2 := hd3 (by assumption); rw [← h1, show d = (d - 1) + 1 by omega]; simp [whM, enx, hx9]; done) | (refine ⟨fun _ => ?_, fun q => absurd q (by decide)⟩; have h1 := hB3.1 (by assumption); have h2 := hd3 (by assumption); rw [← h1, hB4, show j = 2 by omega]; (obtain ⟨d0, hd0⟩ : ∃ d0, d = d0 + 1 := ⟨d - 1, by omega⟩); rw [hd0]; simp [whM, sdM, enx, hx9])) (by first | (intro q; exact absurd q (by decide)) | (intro _; have h1 := hd3 (by assumption); have h2 := ct_dec (no := no) (nu := nu) (hb := hb) (k := k) (f := f) n hc3 (by rw [enx]; exact hx9); rw [enx] at h2; omega)) (by rw [← enx]; exact nx_le n)
                                        · skip
                                          refine Wk.iload X 7 rfl dX5_growNode_312 ?_
                                          refine Wk.ifB_eq X 334 dX5_growNode_314 (by decide) (fun c19 => ?_) (fun c19 => ?_)
                                          · exact absurd c19 (by decide)
                                          · skip
                                            refine Wk.aload_n X 0 rfl dX5_growNode_317 rfl ?_
                                            refine Wk.iload_n X 1 rfl dX5_growNode_318 rfl ?_
                                            refine Wk.iload X 5 rfl dX5_growNode_319 ?_
                                            refine Wk.iload X 6 rfl dX5_growNode_321 ?_
                                            refine Wk.iload X 8 rfl dX5_growNode_323 ?_
                                            refine Wk.callVv (n := 4) (q0 := 0) X (c_X5_tries l dC dI cI cJ cZ h th n li gr nu hb se t (upd ki (t * 15 + k) (nI 1)) fe lm si (upd va (t * 15 + k) (flM ((se 1) * y) (nI x))) (upd he (t * 15 + k) (nI x)) up lo sc no pu B4.1 B4.2.1 B4.2.2.1 B4.2.2.2.1 B4.2.2.2.2 k f nx (nI j) (by first | omega | assumption) (by first | omega | assumption)) gX5_growNode_X5_tries rfl (by decide +kernel) (by decide) Fr.all (fun h9 => h9) rfl rfl rfl rfl (Nat.le_of_ble_eq_true rfl) ⟨Nat.zero_le _, Nat.zero_le _⟩ dX5_growNode_325 ?_
                                            refine Wk.iincN (n := 1) (lv' := [(9, .int (nI (j + 1))), (0, .ref (h 0)), (1, .int (nI k)), (2, .int (nI (t * 15 + k))), (3, .int (nI x)), (4, .int y), (5, .int (nI f)), (6, .int nx), (7, .int (bI true))]) X 8 rfl dX5_growNode_328 (by decide) rfl ?_
                                            refine Wk.goto X 306 dX5_growNode_331 (by decide) ?_
                                            refine Wk.lvs (lv' := [(0, .ref (h 0)), (1, .int (nI k)), (2, .int (nI (t * 15 + k))), (3, .int (nI x)), (4, .int y), (5, .int (nI f)), (6, .int nx), (7, .int (bI true)), (9, .int (nI (j + 1)))]) [1, 2, 3, 4, 5, 6, 7, 8, 0] rfl ?_
                                            exact ih306 (j + 1) ((trB n no pu nu hb (se 3) k f nx (nI j) (B4.1, B4.2.1, B4.2.2.1, B4.2.2.2.1, B4.2.2.2.2))) (by omega) (by omega) (by rw [hB4]; rfl)
                                    refine Wk.lvs (lv' := [(0, .ref (h 0)), (1, .int (nI k)), (2, .int (nI (t * 15 + k))), (3, .int (nI x)), (4, .int y), (5, .int (nI f)), (6, .int nx), (7, .int (bI true)), (9, .int (nI 0))]) [3, 4, 5, 6, 7, 8, 1, 2, 0] rfl ?_
                                    exact L306 3 0 B2 (by omega) (by omega) (by rfl)
                                refine Wk.iload X 8 rfl dX5_growNode_284 ?_
                                refine Wk.sipush (v := nI 1001) X dX5_growNode_286 (by decide) ?_
                                refine Wk.icmp_ge X 296 dX5_growNode_289 (by decide) (fun c20 => ?_) (fun c20 => ?_)
                                · skip
                                  refine Wk.iconst (v := nI 0) X dX5_growNode_296 (by decide) ?_
                                  refine Wk.topi (y := bI (decide (¬ nI 1001 ≤ nx))) (by clear hnx; simp [bI, nI_0, nIc1, *]) ?_
                                  exact J297
                                · skip
                                  refine Wk.iconst (v := nI 1) X dX5_growNode_292 (by decide) ?_
                                  refine Wk.goto X 297 dX5_growNode_293 (by decide) ?_
                                  refine Wk.topi (y := bI (decide (¬ nI 1001 ≤ nx))) (by clear hnx; simp [bI, nI_0, nIc1, *]) ?_
                                  exact J297
                              · skip
                                refine Wk.aload_n X 0 rfl dX5_growNode_187 rfl ?_
                                refine Wk.get X inX5 0 17 lk54 (fun _ h9 => h9) rfl rfl (by decide) rfl dX5_growNode_188 ?_
                                refine Wk.iload X 9 rfl dX5_growNode_191 ?_
                                refine Wk.iald X 15 0 rfl rfl (by omega) (by decide) dX5_growNode_193 ?_
                                refine Wk.iload_n X 1 rfl dX5_growNode_194 rfl ?_
                                refine Wk.icmp_ne X 234 dX5_growNode_195 (by decide) (fun c21 => ?_) (fun c21 => ?_)
                                · skip
                                  refine Wk.iconst (v := nI 0) X dX5_growNode_234 (by decide) ?_
                                  refine Wk.istore (lv' := [(10, .int (nI 0)), (0, .ref (h 0)), (1, .int (nI k)), (2, .int (nI (t * 15 + k))), (3, .int (nI x)), (4, .int y), (5, .int (nI f)), (6, .int c), (7, .int (bI mo)), (8, .int nx), (9, .int (nI i2))]) X dX5_growNode_235 (by decide) rfl ?_
                                  refine Wk.iload X 0 rfl dX5_growNode_237 ?_
                                  refine Wk.if_eq X 274 dX5_growNode_239 (by decide) (fun c22 => ?_) (fun c22 => ?_)
                                  · skip
                                    refine Wk.iload X 9 rfl dX5_growNode_274 ?_
                                    refine Wk.istore (lv' := [(8, .int nx), (10, .int (nI 0)), (0, .ref (h 0)), (1, .int (nI k)), (2, .int (nI (t * 15 + k))), (3, .int (nI x)), (4, .int y), (5, .int (nI f)), (6, .int c), (7, .int (bI mo)), (9, .int (nI i2))]) X dX5_growNode_276 (by decide) rfl ?_
                                    refine Wk.iincN (n := 1) (lv' := [(9, .int (nI (i2 + 1))), (8, .int nx), (10, .int (nI 0)), (0, .ref (h 0)), (1, .int (nI k)), (2, .int (nI (t * 15 + k))), (3, .int (nI x)), (4, .int y), (5, .int (nI f)), (6, .int c), (7, .int (bI mo))]) X 10 rfl dX5_growNode_278 (by decide) rfl ?_
                                    refine Wk.goto X 178 dX5_growNode_281 (by decide) ?_
                                    refine Wk.lvs (lv' := [(0, .ref (h 0)), (1, .int (nI k)), (2, .int (nI (t * 15 + k))), (3, .int (nI x)), (4, .int y), (5, .int (nI f)), (6, .int c), (7, .int (bI mo)), (8, .int nx), (9, .int (nI (i2 + 1)))]) [3, 4, 5, 6, 7, 8, 9, 10, 1, 0] rfl ?_
                                    exact ih178 (i2 + 1) nx (by omega) (by omega) (by first | contradiction | (subst hnx; simp [nxM, *]; done))
                                  · exact absurd c22 (by decide)
                                · skip
                                  refine Wk.aload_n X 0 rfl dX5_growNode_198 rfl ?_
                                  refine Wk.get X inX5 0 5 lk19 (fun _ h9 => h9) rfl rfl (by decide) rfl dX5_growNode_199 ?_
                                  refine Wk.iconst (v := nI 4) X dX5_growNode_202 (by decide) ?_
                                  refine Wk.iload X 9 rfl dX5_growNode_203 ?_
                                  refine Wk.imulC X dX5_growNode_205 ?_
                                  refine Wk.iload X 5 rfl dX5_growNode_206 ?_
                                  refine Wk.iaddN X dX5_growNode_208 ?_
                                  refine Wk.zald X 4 2 rfl rfl (by omega) (by decide) dX5_growNode_209 ?_
                                  refine Wk.ifB_eq X 234 dX5_growNode_210 (by decide) (fun c23 => ?_) (fun c23 => ?_)
                                  · skip
                                    refine Wk.iconst (v := nI 0) X dX5_growNode_234 (by decide) ?_
                                    refine Wk.istore (lv' := [(10, .int (nI 0)), (0, .ref (h 0)), (1, .int (nI k)), (2, .int (nI (t * 15 + k))), (3, .int (nI x)), (4, .int y), (5, .int (nI f)), (6, .int c), (7, .int (bI mo)), (8, .int nx), (9, .int (nI i2))]) X dX5_growNode_235 (by decide) rfl ?_
                                    refine Wk.iload X 0 rfl dX5_growNode_237 ?_
                                    refine Wk.if_eq X 274 dX5_growNode_239 (by decide) (fun c24 => ?_) (fun c24 => ?_)
                                    · skip
                                      refine Wk.iload X 9 rfl dX5_growNode_274 ?_
                                      refine Wk.istore (lv' := [(8, .int nx), (10, .int (nI 0)), (0, .ref (h 0)), (1, .int (nI k)), (2, .int (nI (t * 15 + k))), (3, .int (nI x)), (4, .int y), (5, .int (nI f)), (6, .int c), (7, .int (bI mo)), (9, .int (nI i2))]) X dX5_growNode_276 (by decide) rfl ?_
                                      refine Wk.iincN (n := 1) (lv' := [(9, .int (nI (i2 + 1))), (8, .int nx), (10, .int (nI 0)), (0, .ref (h 0)), (1, .int (nI k)), (2, .int (nI (t * 15 + k))), (3, .int (nI x)), (4, .int y), (5, .int (nI f)), (6, .int c), (7, .int (bI mo))]) X 10 rfl dX5_growNode_278 (by decide) rfl ?_
                                      refine Wk.goto X 178 dX5_growNode_281 (by decide) ?_
                                      refine Wk.lvs (lv' := [(0, .ref (h 0)), (1, .int (nI k)), (2, .int (nI (t * 15 + k))), (3, .int (nI x)), (4, .int y), (5, .int (nI f)), (6, .int c), (7, .int (bI mo)), (8, .int nx), (9, .int (nI (i2 + 1)))]) [3, 4, 5, 6, 7, 8, 9, 10, 1, 0] rfl ?_
                                      exact ih178 (i2 + 1) nx (by omega) (by omega) (by first | contradiction | (subst hnx; simp [nxM, *]; done))
                                    · exact absurd c24 (by decide)
                                  · skip
                                    refine Wk.aload_n X 0 rfl dX5_growNode_213 rfl ?_
                                    refine Wk.get X inX5 0 4 lk16 (fun _ h9 => h9) rfl rfl (by decide) rfl dX5_growNode_214 ?_
                                    refine Wk.iconst (v := nI 4) X dX5_growNode_217 (by decide) ?_
                                    refine Wk.iload X 9 rfl dX5_growNode_218 ?_
                                    refine Wk.imulC X dX5_growNode_220 ?_
                                    refine Wk.iload X 5 rfl dX5_growNode_221 ?_
                                    refine Wk.iaddN X dX5_growNode_223 ?_
                                    refine Wk.iald X 3 0 rfl rfl (by omega) (by decide) dX5_growNode_224 ?_
                                    refine Wk.iload X 6 rfl dX5_growNode_225 ?_
                                    refine Wk.icmp_le X 234 dX5_growNode_227 (by decide) (fun c25 => ?_) (fun c25 => ?_)
                                    · skip
                                      refine Wk.iconst (v := nI 0) X dX5_growNode_234 (by decide) ?_
                                      refine Wk.istore (lv' := [(10, .int (nI 0)), (0, .ref (h 0)), (1, .int (nI k)), (2, .int (nI (t * 15 + k))), (3, .int (nI x)), (4, .int y), (5, .int (nI f)), (6, .int c), (7, .int (bI mo)), (8, .int nx), (9, .int (nI i2))]) X dX5_growNode_235 (by decide) rfl ?_
                                      refine Wk.iload X 0 rfl dX5_growNode_237 ?_
                                      refine Wk.if_eq X 274 dX5_growNode_239 (by decide) (fun c26 => ?_) (fun c26 => ?_)
                                      · skip
                                        refine Wk.iload X 9 rfl dX5_growNode_274 ?_
                                        refine Wk.istore (lv' := [(8, .int nx), (10, .int (nI 0)), (0, .ref (h 0)), (1, .int (nI k)), (2, .int (nI (t * 15 + k))), (3, .int (nI x)), (4, .int y), (5, .int (nI f)), (6, .int c), (7, .int (bI mo)), (9, .int (nI i2))]) X dX5_growNode_276 (by decide) rfl ?_
                                        refine Wk.iincN (n := 1) (lv' := [(9, .int (nI (i2 + 1))), (8, .int nx), (10, .int (nI 0)), (0, .ref (h 0)), (1, .int (nI k)), (2, .int (nI (t * 15 + k))), (3, .int (nI x)), (4, .int y), (5, .int (nI f)), (6, .int c), (7, .int (bI mo))]) X 10 rfl dX5_growNode_278 (by decide) rfl ?_
                                        refine Wk.goto X 178 dX5_growNode_281 (by decide) ?_
                                        refine Wk.lvs (lv' := [(0, .ref (h 0)), (1, .int (nI k)), (2, .int (nI (t * 15 + k))), (3, .int (nI x)), (4, .int y), (5, .int (nI f)), (6, .int c), (7, .int (bI mo)), (8, .int nx), (9, .int (nI (i2 + 1)))]) [3, 4, 5, 6, 7, 8, 9, 10, 1, 0] rfl ?_
                                        exact ih178 (i2 + 1) nx (by omega) (by omega) (by first | contradiction | (subst hnx; simp [nxM, *]; done))
                                      · exact absurd c26 (by decide)
                                    · skip
                                      refine Wk.iconst (v := nI 1) X dX5_growNode_230 (by decide) ?_
                                      refine Wk.goto X 235 dX5_growNode_231 (by decide) ?_
                                      refine Wk.istore (lv' := [(10, .int (nI 1)), (0, .ref (h 0)), (1, .int (nI k)), (2, .int (nI (t * 15 + k))), (3, .int (nI x)), (4, .int y), (5, .int (nI f)), (6, .int c), (7, .int (bI mo)), (8, .int nx), (9, .int (nI i2))]) X dX5_growNode_235 (by decide) rfl ?_
                                      refine Wk.iload X 0 rfl dX5_growNode_237 ?_
                                      refine Wk.if_eq X 274 dX5_growNode_239 (by decide) (fun c27 => ?_) (fun c27 => ?_)
                                      · exact absurd c27 (by decide)
                                      · skip
                                        refine Wk.aload_n X 1 rfl dX5_growNode_242 rfl ?_
                                        refine Wk.get X inX5 0 4 lk16 (fun _ h9 => h9) rfl rfl (by decide) rfl dX5_growNode_243 ?_
                                        refine Wk.iconst (v := nI 4) X dX5_growNode_246 (by decide) ?_
                                        refine Wk.iload X 10 rfl dX5_growNode_247 ?_
                                        refine Wk.imulC X dX5_growNode_249 ?_
                                        refine Wk.iload X 6 rfl dX5_growNode_250 ?_
                                        refine Wk.iaddN X dX5_growNode_252 ?_
                                        refine Wk.iald X 3 0 rfl rfl (by omega) (by decide) dX5_growNode_253 ?_
                                        refine Wk.iload X 9 rfl dX5_growNode_254 ?_
                                        refine Wk.icmp_ge X 274 dX5_growNode_256 (by decide) (fun c28 => ?_) (fun c28 => ?_)
                                        · skip
                                          refine Wk.iload X 9 rfl dX5_growNode_274 ?_
                                          refine Wk.istore (lv' := [(8, .int nx), (10, .int (nI 1)), (0, .ref (h 0)), (1, .int (nI k)), (2, .int (nI (t * 15 + k))), (3, .int (nI x)), (4, .int y), (5, .int (nI f)), (6, .int c), (7, .int (bI mo)), (9, .int (nI i2))]) X dX5_growNode_276 (by decide) rfl ?_
                                          refine Wk.iincN (n := 1) (lv' := [(9, .int (nI (i2 + 1))), (8, .int nx), (10, .int (nI 1)), (0, .ref (h 0)), (1, .int (nI k)), (2, .int (nI (t * 15 + k))), (3, .int (nI x)), (4, .int y), (5, .int (nI f)), (6, .int c), (7, .int (bI mo))]) X 10 rfl dX5_growNode_278 (by decide) rfl ?_
                                          refine Wk.goto X 178 dX5_growNode_281 (by decide) ?_
                                          refine Wk.lvs (lv' := [(0, .ref (h 0)), (1, .int (nI k)), (2, .int (nI (t * 15 + k))), (3, .int (nI x)), (4, .int y), (5, .int (nI f)), (6, .int c), (7, .int (bI mo)), (8, .int nx), (9, .int (nI (i2 + 1)))]) [3, 4, 5, 6, 7, 8, 9, 10, 1, 0] rfl ?_
                                          exact ih178 (i2 + 1) nx (by omega) (by omega) (by first | contradiction | (subst hnx; simp [nxM, *]; done))
                                        · skip
                                          refine Wk.aload_n X 1 rfl dX5_growNode_259 rfl ?_
                                          refine Wk.get X inX5 0 4 lk16 (fun _ h9 => h9) rfl rfl (by decide) rfl dX5_growNode_260 ?_
                                          refine Wk.iconst (v := nI 4) X dX5_growNode_263 (by decide) ?_
                                          refine Wk.iload X 10 rfl dX5_growNode_264 ?_
                                          refine Wk.imulC X dX5_growNode_266 ?_
                                          refine Wk.iload X 6 rfl dX5_growNode_267 ?_
                                          refine Wk.iaddN X dX5_growNode_269 ?_
                                          refine Wk.iald X 3 0 rfl rfl (by omega) (by decide) dX5_growNode_270 ?_
                                          refine Wk.goto X 276 dX5_growNode_271 (by decide) ?_
                                          refine Wk.istore (lv' := [(8, .int (nu (i2 * 4 + f))), (10, .int (nI 1)), (0, .ref (h 0)), (1, .int (nI k)), (2, .int (nI (t * 15 + k))), (3, .int (nI x)), (4, .int y), (5, .int (nI f)), (6, .int c), (7, .int (bI mo)), (9, .int (nI i2))]) X dX5_growNode_276 (by decide) rfl ?_
                                          refine Wk.iincN (n := 1) (lv' := [(9, .int (nI (i2 + 1))), (8, .int (nu (i2 * 4 + f))), (10, .int (nI 1)), (0, .ref (h 0)), (1, .int (nI k)), (2, .int (nI (t * 15 + k))), (3, .int (nI x)), (4, .int y), (5, .int (nI f)), (6, .int c), (7, .int (bI mo))]) X 10 rfl dX5_growNode_278 (by decide) rfl ?_
                                          refine Wk.goto X 178 dX5_growNode_281 (by decide) ?_
                                          refine Wk.lvs (lv' := [(0, .ref (h 0)), (1, .int (nI k)), (2, .int (nI (t * 15 + k))), (3, .int (nI x)), (4, .int y), (5, .int (nI f)), (6, .int c), (7, .int (bI mo)), (8, .int (nu (i2 * 4 + f))), (9, .int (nI (i2 + 1)))]) [3, 4, 5, 6, 7, 8, 9, 10, 1, 0] rfl ?_
                                          exact ih178 (i2 + 1) (nu (i2 * 4 + f)) (by omega) (by omega) (by first | contradiction | (subst hnx; simp [nxM, *]; done))
                          refine Wk.lvs (lv' := [(0, .ref (h 0)), (1, .int (nI k)), (2, .int (nI (t * 15 + k))), (3, .int (nI x)), (4, .int y), (5, .int (nI f)), (6, .int c), (7, .int (bI mo)), (8, .int (nI 1001)), (9, .int (nI 0))]) [2, 3, 4, 5, 6, 7, 8, 9, 1, 0] rfl ?_
                          exact L178 (n + 1) 0 (nI 1001) (by omega) (by omega) (by rfl)
                    refine Wk.lvs (lv' := [(0, .ref (h 0)), (1, .int (nI k)), (2, .int (nI (t * 15 + k))), (3, .int (nI x)), (4, .int y), (5, .int (nI f)), (6, .int (-1001)), (7, .int (bI true))]) [2, 3, 4, 5, 6, 7, 1, 0] rfl ?_
                    exact L165 (n + 3) (-1001) true B (n + 1) (by have := ct_le no nu hb k f (-1001) n; exact ⟨fun _ => by omega, by omega⟩) (by exact ⟨fun _ => rfl, fun q => absurd q (by decide)⟩) (by intro _; have := ct_le no nu hb k f (-1001) n; omega) (by decide)
            refine Wk.lvs (lv' := [(0, .ref (h 0)), (1, .int (nI k)), (2, .int (nI (t * 15 + k))), (3, .int (nI x)), (4, .int y), (5, .int (nI 0))]) [1, 2, 3, 4, 5, 0] rfl ?_
            exact L138 5 0 ((b1, b2, b3, 0, 1)) (by omega) (by omega) (by rfl)
          · skip
            contradiction
        · skip
          refine Wk.iconst (v := nI 0) X dX5_growNode_88 (by decide) ?_
          refine Wk.goto X 93 dX5_growNode_89 (by decide) ?_
          refine Wk.iast (ws' := Wm h cI cJ cZ th n li gr nu hb se t (upd ki (t * 15 + k) (nI 0)) fe lm si va he up lo sc no pu b1 b2 b3 bu bl) X 6 0 rfl rfl (by omega) (by decide) rfl dX5_growNode_93 ?_
          refine Wk.aload_n X 0 rfl dX5_growNode_94 rfl ?_
          refine Wk.get X inX5 0 13 lk41 (fun _ h9 => h9) rfl rfl (by decide) rfl dX5_growNode_95 ?_
          refine Wk.iload_n X 2 rfl dX5_growNode_98 rfl ?_
          refine Wk.iload_n X 3 rfl dX5_growNode_99 rfl ?_
          refine Wk.iast (ws' := Wm h cI cJ cZ th n li gr nu hb se t (upd ki (t * 15 + k) (nI 0)) fe lm si va (upd he (t * 15 + k) (nI x)) up lo sc no pu b1 b2 b3 bu bl) X 11 0 rfl rfl (by omega) (by decide) rfl dX5_growNode_100 ?_
          refine Wk.iload_n X 3 rfl dX5_growNode_101 rfl ?_
          refine Wk.if_ne X 106 dX5_growNode_102 (by decide) (fun c29 => ?_) (fun c29 => ?_)
          · skip
            contradiction
          · skip
            exact Wk.vret X hr hk (by subst ex9 ey9; clear ex0; simp [mnC, *]) dX5_growNode_105
      · skip
        refine Wk.iload_n X 3 rfl dX5_growNode_27 rfl ?_
        refine Wk.aload_n X 0 rfl dX5_growNode_28 rfl ?_
        refine Wk.get X inX5 0 17 lk54 (fun _ h9 => h9) rfl rfl (by decide) rfl dX5_growNode_29 ?_
        refine Wk.iload X 5 rfl dX5_growNode_32 ?_
        refine Wk.iald X 15 0 rfl rfl (by omega) (by decide) dX5_growNode_34 ?_
        refine Wk.iload_n X 1 rfl dX5_growNode_35 rfl ?_
        refine Wk.icmp_ne X 43 dX5_growNode_36 (by decide) (fun c30 => ?_) (fun c30 => ?_)
        · skip
          refine Wk.iconst (v := nI 0) X dX5_growNode_43 (by decide) ?_
          refine Wk.iaddN X dX5_growNode_44 ?_
          refine Wk.istore_n (lv' := [(3, .int (nI (x + 0))), (0, .ref (h 0)), (1, .int (nI k)), (2, .int (nI (t * 15 + k))), (4, .int y), (5, .int (nI i))]) X dX5_growNode_45 rfl (by decide) rfl ?_
          refine Wk.iload X 4 rfl dX5_growNode_46 ?_
          refine Wk.aload_n X 1 rfl dX5_growNode_48 rfl ?_
          refine Wk.get X inX5 0 17 lk54 (fun _ h9 => h9) rfl rfl (by decide) rfl dX5_growNode_49 ?_
          refine Wk.iload X 5 rfl dX5_growNode_52 ?_
          refine Wk.iald X 15 0 rfl rfl (by omega) (by decide) dX5_growNode_54 ?_
          refine Wk.iload_n X 2 rfl dX5_growNode_55 rfl ?_
          refine Wk.icmp_ne X 69 dX5_growNode_56 (by decide) (fun c31 => ?_) (fun c31 => ?_)
          · skip
            refine Wk.iconst (v := nI 0) X dX5_growNode_69 (by decide) ?_
            refine Wk.iadd X dX5_growNode_70 ?_
            refine Wk.istore (lv' := [(4, .int (y + (nI 0))), (3, .int (nI (x + 0))), (0, .ref (h 0)), (1, .int (nI k)), (2, .int (nI (t * 15 + k))), (5, .int (nI i))]) X dX5_growNode_71 (by decide) rfl ?_
            refine Wk.iincN (n := 1) (lv' := [(5, .int (nI (i + 1))), (4, .int (y + (nI 0))), (3, .int (nI (x + 0))), (0, .ref (h 0)), (1, .int (nI k)), (2, .int (nI (t * 15 + k)))]) X 5 rfl dX5_growNode_73 (by decide) rfl ?_
            refine Wk.goto X 18 dX5_growNode_76 (by decide) ?_
            refine Wk.lvs (lv' := [(0, .ref (h 0)), (1, .int (nI k)), (2, .int (nI (t * 15 + k))), (3, .int (nI (x + 0))), (4, .int (y + (nI 0))), (5, .int (nI (i + 1)))]) [3, 4, 5, 2, 1, 0] rfl ?_
            exact ih18 (i + 1) (x + 0) (y + (nI 0)) (by omega) (by omega) (by first | contradiction | (simp [gaH, *]; done)) (by first | contradiction | (simp [gaS, nI_0, *]; done))
          · skip
            refine Wk.aload_n X 1 rfl dX5_growNode_59 rfl ?_
            refine Wk.get X inX5 0 18 lk57 (fun _ h9 => h9) rfl rfl (by decide) rfl dX5_growNode_60 ?_
            refine Wk.iload X 5 rfl dX5_growNode_63 ?_
            refine Wk.iald X 16 0 rfl rfl (by omega) (by decide) dX5_growNode_65 ?_
            refine Wk.goto X 70 dX5_growNode_66 (by decide) ?_
            refine Wk.iadd X dX5_growNode_70 ?_
            refine Wk.istore (lv' := [(4, .int (y + (pu i))), (3, .int (nI (x + 0))), (0, .ref (h 0)), (1, .int (nI k)), (2, .int (nI (t * 15 + k))), (5, .int (nI i))]) X dX5_growNode_71 (by decide) rfl ?_
            refine Wk.iincN (n := 1) (lv' := [(5, .int (nI (i + 1))), (4, .int (y + (pu i))), (3, .int (nI (x + 0))), (0, .ref (h 0)), (1, .int (nI k)), (2, .int (nI (t * 15 + k)))]) X 5 rfl dX5_growNode_73 (by decide) rfl ?_
            refine Wk.goto X 18 dX5_growNode_76 (by decide) ?_
            refine Wk.lvs (lv' := [(0, .ref (h 0)), (1, .int (nI k)), (2, .int (nI (t * 15 + k))), (3, .int (nI (x + 0))), (4, .int (y + (pu i))), (5, .int (nI (i + 1)))]) [3, 4, 5, 2, 1, 0] rfl ?_
            exact ih18 (i + 1) (x + 0) (y + (pu i)) (by omega) (by omega) (by first | contradiction | (simp [gaH, *]; done)) (by first | contradiction | (simp [gaS, nI_0, *]; done))
        · skip
          refine Wk.iconst (v := nI 1) X dX5_growNode_39 (by decide) ?_
          refine Wk.goto X 44 dX5_growNode_40 (by decide) ?_
          refine Wk.iaddN X dX5_growNode_44 ?_
          refine Wk.istore_n (lv' := [(3, .int (nI (x + 1))), (0, .ref (h 0)), (1, .int (nI k)), (2, .int (nI (t * 15 + k))), (4, .int y), (5, .int (nI i))]) X dX5_growNode_45 rfl (by decide) rfl ?_
          refine Wk.iload X 4 rfl dX5_growNode_46 ?_
          refine Wk.aload_n X 1 rfl dX5_growNode_48 rfl ?_
          refine Wk.get X inX5 0 17 lk54 (fun _ h9 => h9) rfl rfl (by decide) rfl dX5_growNode_49 ?_
          refine Wk.iload X 5 rfl dX5_growNode_52 ?_
          refine Wk.iald X 15 0 rfl rfl (by omega) (by decide) dX5_growNode_54 ?_
          refine Wk.iload_n X 2 rfl dX5_growNode_55 rfl ?_
          refine Wk.icmp_ne X 69 dX5_growNode_56 (by decide) (fun c32 => ?_) (fun c32 => ?_)
          · skip
            refine Wk.iconst (v := nI 0) X dX5_growNode_69 (by decide) ?_
            refine Wk.iadd X dX5_growNode_70 ?_
            refine Wk.istore (lv' := [(4, .int (y + (nI 0))), (3, .int (nI (x + 1))), (0, .ref (h 0)), (1, .int (nI k)), (2, .int (nI (t * 15 + k))), (5, .int (nI i))]) X dX5_growNode_71 (by decide) rfl ?_
            refine Wk.iincN (n := 1) (lv' := [(5, .int (nI (i + 1))), (4, .int (y + (nI 0))), (3, .int (nI (x + 1))), (0, .ref (h 0)), (1, .int (nI k)), (2, .int (nI (t * 15 + k)))]) X 5 rfl dX5_growNode_73 (by decide) rfl ?_
            refine Wk.goto X 18 dX5_growNode_76 (by decide) ?_
            refine Wk.lvs (lv' := [(0, .ref (h 0)), (1, .int (nI k)), (2, .int (nI (t * 15 + k))), (3, .int (nI (x + 1))), (4, .int (y + (nI 0))), (5, .int (nI (i + 1)))]) [3, 4, 5, 2, 1, 0] rfl ?_
            exact ih18 (i + 1) (x + 1) (y + (nI 0)) (by omega) (by omega) (by first | contradiction | (simp [gaH, *]; done)) (by first | contradiction | (simp [gaS, nI_0, *]; done))
          · skip
            refine Wk.aload_n X 1 rfl dX5_growNode_59 rfl ?_
            refine Wk.get X inX5 0 18 lk57 (fun _ h9 => h9) rfl rfl (by decide) rfl dX5_growNode_60 ?_
            refine Wk.iload X 5 rfl dX5_growNode_63 ?_
            refine Wk.iald X 16 0 rfl rfl (by omega) (by decide) dX5_growNode_65 ?_
            refine Wk.goto X 70 dX5_growNode_66 (by decide) ?_
            refine Wk.iadd X dX5_growNode_70 ?_
            refine Wk.istore (lv' := [(4, .int (y + (pu i))), (3, .int (nI (x + 1))), (0, .ref (h 0)), (1, .int (nI k)), (2, .int (nI (t * 15 + k))), (5, .int (nI i))]) X dX5_growNode_71 (by decide) rfl ?_
            refine Wk.iincN (n := 1) (lv' := [(5, .int (nI (i + 1))), (4, .int (y + (pu i))), (3, .int (nI (x + 1))), (0, .ref (h 0)), (1, .int (nI k)), (2, .int (nI (t * 15 + k)))]) X 5 rfl dX5_growNode_73 (by decide) rfl ?_
            refine Wk.goto X 18 dX5_growNode_76 (by decide) ?_
            refine Wk.lvs (lv' := [(0, .ref (h 0)), (1, .int (nI k)), (2, .int (nI (t * 15 + k))), (3, .int (nI (x + 1))), (4, .int (y + (pu i))), (5, .int (nI (i + 1)))]) [3, 4, 5, 2, 1, 0] rfl ?_
            exact ih18 (i + 1) (x + 1) (y + (pu i)) (by omega) (by omega) (by first | contradiction | (simp [gaH, *]; done)) (by first | contradiction | (simp [gaS, nI_0, *]; done))
  refine Wk.lvs (lv' := [(0, .ref (h 0)), (1, .int (nI k)), (2, .int (nI (t * 15 + k))), (3, .int (nI 0)), (4, .int (nI 0)), (5, .int (nI 0))]) [4, 5, 3, 2, 1, 0] rfl ?_
  exact L18 (n + 1) 0 0 (nI 0) (by omega) (by omega) (by rfl) (by first | rfl | exact nI_0)

set_option maxHeartbeats 4000000 in
set_option maxRecDepth 100000 in
theorem c_X5_grow_full (l : Launch) (dC : Nat → ClassId) (dI : Nat → Nat → Nat) (cI cJ cZ : ClassId) (h : Nat → Nat) (th : Int32) (n : Nat) (li : Nat → Int32) (gr : Nat → Int32) (nu : Nat → Int32) (hb : Nat → Bool) (se : Nat → Int32) (t : Nat) (ki : Nat → Int32) (fe : Nat → Int32) (lm : Nat → Int32) (si : Nat → Int32) (va : Nat → Int32) (he : Nat → Int32) (up : Nat → Int64) (lo : Nat → Int64) (sc : Nat → Int64) (no : Nat → Int32) (pu : Nat → Int32) (b1 : Int32) (b2 : Int32) (b3 : Int32) (bu : Int64) (bl : Int64) (hn0 : n ≤ 24) (hg : t = 20) : Ci l yX5_grow wsX5_grow 0 0 (dC, dI) cl6 (TY cI cJ cZ) false [.ref (h 0)] (Wm h cI cJ cZ th n li gr nu hb se t ki fe lm si va he up lo sc no pu b1 b2 b3 bu bl) (-10003) (Wm h cI cJ cZ (nI 0) n li gr nu hb se t ki fe lm si va he up lo sc no pu b1 b2 b3 bu bl) := by
  refine Ci.of (cc := cX5_grow) (maxL := 3) (ty := .int) (own := RX5) rfl (plainFor_of_name (by decide)) rfl (Nat.le_of_ble_eq_true rfl) ?_
  intro pg ev s0 md ar bw mt cd A X hr hk
  show Wk pg l ev _ s0 md ar bw mt cd 0 0 _ 3 (dC, dI) cl6 A 0 [(0, .ref (h 0))] [] (Wm h cI cJ cZ th n li gr nu hb se t ki fe lm si va he up lo sc no pu b1 b2 b3 bu bl)
  have inX5 : ∀ w ∈ u_ws RX5 TX5 24, w ∈ wsX5_grow := by decide +kernel
  have lk67 := X.w (.fieldLink RX5 67 "PairedTreesModel" "trees" "I") (by decide +kernel)
  have lk70 := X.w (.fieldLink RX5 70 "PairedTreesModel" "thrown" "I") (by decide +kernel)
  refine Wk.aload_n X 0 rfl dX5_grow_0 rfl ?_
  refine Wk.iconst (v := nI 0) X dX5_grow_1 (by decide) ?_
  refine Wk.put (ws' := Wm h cI cJ cZ (nI 0) n li gr nu hb se t ki fe lm si va he up lo sc no pu b1 b2 b3 bu bl) X inX5 tyX5 tyX5_ok nmX5 0 0 lk70 (fun _ h9 => h9) rfl rfl (by decide) rfl (tyX5_ok 0 (by decide)) rfl rfl (Nat.le_of_ble_eq_true rfl) rfl dX5_grow_2 ?_
  refine Wk.aload_n X 0 rfl dX5_grow_5 rfl ?_
  refine Wk.get X inX5 0 7 lk67 (fun _ h9 => h9) rfl rfl (by decide) rfl dX5_grow_6 ?_
  refine Wk.bipush (v := nI 20) X dX5_grow_9 (by decide) ?_
  refine Wk.icmpN_ne X 18 (by omega) (by omega) dX5_grow_11 (by decide) (fun c1 => ?_) (fun c1 => ?_)
  · skip
    exfalso; omega
  · skip
    refine Wk.sipush (v := -10003) X dX5_grow_14 (by decide) ?_
    exact Wk.iret X hr hk (by first | rfl | omega | (simp [*]; done)) rfl dX5_grow_17

set_option maxHeartbeats 4000000 in
set_option maxRecDepth 100000 in
theorem c_X5_grow_state (l : Launch) (dC : Nat → ClassId) (dI : Nat → Nat → Nat) (cI cJ cZ : ClassId) (h : Nat → Nat) (th : Int32) (n : Nat) (li : Nat → Int32) (gr : Nat → Int32) (nu : Nat → Int32) (hb : Nat → Bool) (se : Nat → Int32) (t : Nat) (ki : Nat → Int32) (fe : Nat → Int32) (lm : Nat → Int32) (si : Nat → Int32) (va : Nat → Int32) (he : Nat → Int32) (up : Nat → Int64) (lo : Nat → Int64) (sc : Nat → Int64) (no : Nat → Int32) (pu : Nat → Int32) (b1 : Int32) (b2 : Int32) (b3 : Int32) (bu : Int64) (bl : Int64) (hn0 : n ≤ 24) (hg : t < 20) (hz : n = 0) : Ci l yX5_grow wsX5_grow 0 0 (dC, dI) cl6 (TY cI cJ cZ) false [.ref (h 0)] (Wm h cI cJ cZ th n li gr nu hb se t ki fe lm si va he up lo sc no pu b1 b2 b3 bu bl) (-10004) (Wm h cI cJ cZ (nI 0) n li gr nu hb se t ki fe lm si va he up lo sc no pu b1 b2 b3 bu bl) := by
  refine Ci.of (cc := cX5_grow) (maxL := 3) (ty := .int) (own := RX5) rfl (plainFor_of_name (by decide)) rfl (Nat.le_of_ble_eq_true rfl) ?_
  intro pg ev s0 md ar bw mt cd A X hr hk
  show Wk pg l ev _ s0 md ar bw mt cd 0 0 _ 3 (dC, dI) cl6 A 0 [(0, .ref (h 0))] [] (Wm h cI cJ cZ th n li gr nu hb se t ki fe lm si va he up lo sc no pu b1 b2 b3 bu bl)
  have inX5 : ∀ w ∈ u_ws RX5 TX5 24, w ∈ wsX5_grow := by decide +kernel
  have lk63 := X.w (.fieldLink RX5 63 "PairedTreesModel" "things" "I") (by decide +kernel)
  have lk67 := X.w (.fieldLink RX5 67 "PairedTreesModel" "trees" "I") (by decide +kernel)
  have lk70 := X.w (.fieldLink RX5 70 "PairedTreesModel" "thrown" "I") (by decide +kernel)
  refine Wk.aload_n X 0 rfl dX5_grow_0 rfl ?_
  refine Wk.iconst (v := nI 0) X dX5_grow_1 (by decide) ?_
  refine Wk.put (ws' := Wm h cI cJ cZ (nI 0) n li gr nu hb se t ki fe lm si va he up lo sc no pu b1 b2 b3 bu bl) X inX5 tyX5 tyX5_ok nmX5 0 0 lk70 (fun _ h9 => h9) rfl rfl (by decide) rfl (tyX5_ok 0 (by decide)) rfl rfl (Nat.le_of_ble_eq_true rfl) rfl dX5_grow_2 ?_
  refine Wk.aload_n X 0 rfl dX5_grow_5 rfl ?_
  refine Wk.get X inX5 0 7 lk67 (fun _ h9 => h9) rfl rfl (by decide) rfl dX5_grow_6 ?_
  refine Wk.bipush (v := nI 20) X dX5_grow_9 (by decide) ?_
  refine Wk.icmpN_ne X 18 (by omega) (by omega) dX5_grow_11 (by decide) (fun c1 => ?_) (fun c1 => ?_)
  · skip
    refine Wk.aload_n X 0 rfl dX5_grow_18 rfl ?_
    refine Wk.get X inX5 0 1 lk63 (fun _ h9 => h9) rfl rfl (by decide) rfl dX5_grow_19 ?_
    refine Wk.if_ne X 29 dX5_grow_22 (by decide) (fun c2 => ?_) (fun c2 => ?_)
    · skip
      exact absurd (by rw [hz]; rfl) c2
    · skip
      refine Wk.sipush (v := -10004) X dX5_grow_25 (by decide) ?_
      exact Wk.iret X hr hk (by first | rfl | omega | (simp [*]; done)) rfl dX5_grow_28
  · skip
    exfalso; omega

set_option maxHeartbeats 4000000 in
set_option maxRecDepth 100000 in
theorem c_X5_grow_ok (l : Launch) (dC : Nat → ClassId) (dI : Nat → Nat → Nat) (cI cJ cZ : ClassId) (h : Nat → Nat) (th : Int32) (n : Nat) (li : Nat → Int32) (gr : Nat → Int32) (nu : Nat → Int32) (hb : Nat → Bool) (se : Nat → Int32) (t : Nat) (ki : Nat → Int32) (fe : Nat → Int32) (lm : Nat → Int32) (si : Nat → Int32) (va : Nat → Int32) (he : Nat → Int32) (up : Nat → Int64) (lo : Nat → Int64) (sc : Nat → Int64) (no : Nat → Int32) (pu : Nat → Int32) (b1 : Int32) (b2 : Int32) (b3 : Int32) (bu : Int64) (bl : Int64) (hn0 : n ≤ 24) (hg : t < 20) (hz : 0 < n) (hfe : ∀ j, j < t * 15 → ki j = nI 2 → ∃ f, f < 4 ∧ fe j = nI f) (hcu : ∀ tr k, tr < t → k < 15 → ki (tr * 15 + k) = nI 2 → k < 7) (hgc : ∀ k, k < 15 → gcOk (mnB n (mtC n nu hb (upT (fun i => psM li gr (scT sc (scoreM ki fe lm si va hb nu t) n) (se 0) i n) n pu) se t k (upT (fun _ => nI 0) n no, (b1, b2, b3, bu, bl), ki, fe, lm, si, va, he, up, lo)).1 (upT (fun i => psM li gr (scT sc (scoreM ki fe lm si va hb nu t) n) (se 0) i n) n pu) nu hb se k (mtC n nu hb (upT (fun i => psM li gr (scT sc (scoreM ki fe lm si va hb nu t) n) (se 0) i n) n pu) se t k (upT (fun _ => nI 0) n no, (b1, b2, b3, bu, bl), ki, fe, lm, si, va, he, up, lo)).2.1)) : Ci l yX5_grow wsX5_grow 5 114 (dC, dI) cl6 (TY cI cJ cZ) false [.ref (h 0)] (Wm h cI cJ cZ th n li gr nu hb se t ki fe lm si va he up lo sc no pu b1 b2 b3 bu bl) (nI (lfM n nu hb (upT (fun i => psM li gr (scT sc (scoreM ki fe lm si va hb nu t) n) (se 0) i n) n pu) se t (upT (fun _ => nI 0) n no, (b1, b2, b3, bu, bl), ki, fe, lm, si, va, he, up, lo) 15)) (Wm h cI cJ cZ (nI 0) n li gr nu hb se (t + 1) ((mtC n nu hb (upT (fun i => psM li gr (scT sc (scoreM ki fe lm si va hb nu t) n) (se 0) i n) n pu) se t 15 (upT (fun _ => nI 0) n no, (b1, b2, b3, bu, bl), ki, fe, lm, si, va, he, up, lo)).2.2.1) ((mtC n nu hb (upT (fun i => psM li gr (scT sc (scoreM ki fe lm si va hb nu t) n) (se 0) i n) n pu) se t 15 (upT (fun _ => nI 0) n no, (b1, b2, b3, bu, bl), ki, fe, lm, si, va, he, up, lo)).2.2.2.1) ((mtC n nu hb (upT (fun i => psM li gr (scT sc (scoreM ki fe lm si va hb nu t) n) (se 0) i n) n pu) se t 15 (upT (fun _ => nI 0) n no, (b1, b2, b3, bu, bl), ki, fe, lm, si, va, he, up, lo)).2.2.2.2.1) ((mtC n nu hb (upT (fun i => psM li gr (scT sc (scoreM ki fe lm si va hb nu t) n) (se 0) i n) n pu) se t 15 (upT (fun _ => nI 0) n no, (b1, b2, b3, bu, bl), ki, fe, lm, si, va, he, up, lo)).2.2.2.2.2.1) ((mtC n nu hb (upT (fun i => psM li gr (scT sc (scoreM ki fe lm si va hb nu t) n) (se 0) i n) n pu) se t 15 (upT (fun _ => nI 0) n no, (b1, b2, b3, bu, bl), ki, fe, lm, si, va, he, up, lo)).2.2.2.2.2.2.1) ((mtC n nu hb (upT (fun i => psM li gr (scT sc (scoreM ki fe lm si va hb nu t) n) (se 0) i n) n pu) se t 15 (upT (fun _ => nI 0) n no, (b1, b2, b3, bu, bl), ki, fe, lm, si, va, he, up, lo)).2.2.2.2.2.2.2.1) ((mtC n nu hb (upT (fun i => psM li gr (scT sc (scoreM ki fe lm si va hb nu t) n) (se 0) i n) n pu) se t 15 (upT (fun _ => nI 0) n no, (b1, b2, b3, bu, bl), ki, fe, lm, si, va, he, up, lo)).2.2.2.2.2.2.2.2.1) ((mtC n nu hb (upT (fun i => psM li gr (scT sc (scoreM ki fe lm si va hb nu t) n) (se 0) i n) n pu) se t 15 (upT (fun _ => nI 0) n no, (b1, b2, b3, bu, bl), ki, fe, lm, si, va, he, up, lo)).2.2.2.2.2.2.2.2.2) (scT sc (scoreM ki fe lm si va hb nu t) n) ((mtC n nu hb (upT (fun i => psM li gr (scT sc (scoreM ki fe lm si va hb nu t) n) (se 0) i n) n pu) se t 15 (upT (fun _ => nI 0) n no, (b1, b2, b3, bu, bl), ki, fe, lm, si, va, he, up, lo)).1) (upT (fun i => psM li gr (scT sc (scoreM ki fe lm si va hb nu t) n) (se 0) i n) n pu) ((mtC n nu hb (upT (fun i => psM li gr (scT sc (scoreM ki fe lm si va hb nu t) n) (se 0) i n) n pu) se t 15 (upT (fun _ => nI 0) n no, (b1, b2, b3, bu, bl), ki, fe, lm, si, va, he, up, lo)).2.1.1) ((mtC n nu hb (upT (fun i => psM li gr (scT sc (scoreM ki fe lm si va hb nu t) n) (se 0) i n) n pu) se t 15 (upT (fun _ => nI 0) n no, (b1, b2, b3, bu, bl), ki, fe, lm, si, va, he, up, lo)).2.1.2.1) ((mtC n nu hb (upT (fun i => psM li gr (scT sc (scoreM ki fe lm si va hb nu t) n) (se 0) i n) n pu) se t 15 (upT (fun _ => nI 0) n no, (b1, b2, b3, bu, bl), ki, fe, lm, si, va, he, up, lo)).2.1.2.2.1) ((mtC n nu hb (upT (fun i => psM li gr (scT sc (scoreM ki fe lm si va hb nu t) n) (se 0) i n) n pu) se t 15 (upT (fun _ => nI 0) n no, (b1, b2, b3, bu, bl), ki, fe, lm, si, va, he, up, lo)).2.1.2.2.2.1) ((mtC n nu hb (upT (fun i => psM li gr (scT sc (scoreM ki fe lm si va hb nu t) n) (se 0) i n) n pu) se t 15 (upT (fun _ => nI 0) n no, (b1, b2, b3, bu, bl), ki, fe, lm, si, va, he, up, lo)).2.1.2.2.2.2)) := by
  refine Ci.of (cc := cX5_grow) (maxL := 3) (ty := .int) (own := RX5) rfl (plainFor_of_name (by decide)) rfl (Nat.le_of_ble_eq_true rfl) ?_
  intro pg ev s0 md ar bw mt cd A X hr hk
  show Wk pg l ev _ s0 md ar bw mt cd 0 0 _ 3 (dC, dI) cl6 A 0 [(0, .ref (h 0))] [] (Wm h cI cJ cZ th n li gr nu hb se t ki fe lm si va he up lo sc no pu b1 b2 b3 bu bl)
  have inX5 : ∀ w ∈ u_ws RX5 TX5 24, w ∈ wsX5_grow := by decide +kernel
  have lk26 := X.w (.fieldLink RX5 26 "PairedTreesModel" "sort" "[I") (by decide +kernel)
  have lk54 := X.w (.fieldLink RX5 54 "PairedTreesModel" "nodeOf" "[I") (by decide +kernel)
  have lk57 := X.w (.fieldLink RX5 57 "PairedTreesModel" "pushes" "[I") (by decide +kernel)
  have lk63 := X.w (.fieldLink RX5 63 "PairedTreesModel" "things" "I") (by decide +kernel)
  have lk67 := X.w (.fieldLink RX5 67 "PairedTreesModel" "trees" "I") (by decide +kernel)
  have lk70 := X.w (.fieldLink RX5 70 "PairedTreesModel" "thrown" "I") (by decide +kernel)
  refine Wk.aload_n X 0 rfl dX5_grow_0 rfl ?_
  refine Wk.iconst (v := nI 0) X dX5_grow_1 (by decide) ?_
  refine Wk.put (ws' := Wm h cI cJ cZ (nI 0) n li gr nu hb se t ki fe lm si va he up lo sc no pu b1 b2 b3 bu bl) X inX5 tyX5 tyX5_ok nmX5 0 0 lk70 (fun _ h9 => h9) rfl rfl (by decide) rfl (tyX5_ok 0 (by decide)) rfl rfl (Nat.le_of_ble_eq_true rfl) rfl dX5_grow_2 ?_
  refine Wk.aload_n X 0 rfl dX5_grow_5 rfl ?_
  refine Wk.get X inX5 0 7 lk67 (fun _ h9 => h9) rfl rfl (by decide) rfl dX5_grow_6 ?_
  refine Wk.bipush (v := nI 20) X dX5_grow_9 (by decide) ?_
  refine Wk.icmpN_ne X 18 (by omega) (by omega) dX5_grow_11 (by decide) (fun c1 => ?_) (fun c1 => ?_)
  · skip
    refine Wk.aload_n X 0 rfl dX5_grow_18 rfl ?_
    refine Wk.get X inX5 0 1 lk63 (fun _ h9 => h9) rfl rfl (by decide) rfl dX5_grow_19 ?_
    refine Wk.if_ne X 29 dX5_grow_22 (by decide) (fun c2 => ?_) (fun c2 => ?_)
    · skip
      refine Wk.aload_n X 0 rfl dX5_grow_29 rfl ?_
      refine Wk.callVv (n := 0) (q0 := 0) X (c_X5_score l dC dI cI cJ cZ h (nI 0) n li gr nu hb se t ki fe lm si va he up lo sc no pu b1 b2 b3 bu bl (by first | omega | assumption) (by first | omega | assumption) (by first | omega | assumption) (by first | omega | assumption)) gX5_grow_X5_score rfl (by decide +kernel) (by decide) Fr.all (fun h9 => h9) rfl rfl rfl rfl (Nat.le_of_ble_eq_true rfl) ⟨Nat.zero_le _, Nat.zero_le _⟩ dX5_grow_30 ?_
      refine Wk.iconst (v := nI 0) X dX5_grow_33 (by decide) ?_
      refine Wk.istore_n (lv' := [(1, .int (nI 0)), (0, .ref (h 0))]) X dX5_grow_34 rfl (by decide) rfl ?_
      have L35 : ∀ (fu35 : Nat) (i : Nat) (hq : n + 1 ≤ i + fu35) (hi : i ≤ n), Wk pg l ev ({ frames := 5, cells := 0, slots := 0, locals := 114 } : Room) s0 md ar bw mt cd 0 0 (QRi bw ar s0 (dC, dI) cl6 (TY cI cJ cZ) A (nI (lfM n nu hb (upT (fun i => psM li gr (scT sc (scoreM ki fe lm si va hb nu t) n) (se 0) i n) n pu) se t (upT (fun _ => nI 0) n no, (b1, b2, b3, bu, bl), ki, fe, lm, si, va, he, up, lo) 15)) (Wm h cI cJ cZ (nI 0) n li gr nu hb se (t + 1) ((mtC n nu hb (upT (fun i => psM li gr (scT sc (scoreM ki fe lm si va hb nu t) n) (se 0) i n) n pu) se t 15 (upT (fun _ => nI 0) n no, (b1, b2, b3, bu, bl), ki, fe, lm, si, va, he, up, lo)).2.2.1) ((mtC n nu hb (upT (fun i => psM li gr (scT sc (scoreM ki fe lm si va hb nu t) n) (se 0) i n) n pu) se t 15 (upT (fun _ => nI 0) n no, (b1, b2, b3, bu, bl), ki, fe, lm, si, va, he, up, lo)).2.2.2.1) ((mtC n nu hb (upT (fun i => psM li gr (scT sc (scoreM ki fe lm si va hb nu t) n) (se 0) i n) n pu) se t 15 (upT (fun _ => nI 0) n no, (b1, b2, b3, bu, bl), ki, fe, lm, si, va, he, up, lo)).2.2.2.2.1) ((mtC n nu hb (upT (fun i => psM li gr (scT sc (scoreM ki fe lm si va hb nu t) n) (se 0) i n) n pu) se t 15 (upT (fun _ => nI 0) n no, (b1, b2, b3, bu, bl), ki, fe, lm, si, va, he, up, lo)).2.2.2.2.2.1) ((mtC n nu hb (upT (fun i => psM li gr (scT sc (scoreM ki fe lm si va hb nu t) n) (se 0) i n) n pu) se t 15 (upT (fun _ => nI 0) n no, (b1, b2, b3, bu, bl), ki, fe, lm, si, va, he, up, lo)).2.2.2.2.2.2.1) ((mtC n nu hb (upT (fun i => psM li gr (scT sc (scoreM ki fe lm si va hb nu t) n) (se 0) i n) n pu) se t 15 (upT (fun _ => nI 0) n no, (b1, b2, b3, bu, bl), ki, fe, lm, si, va, he, up, lo)).2.2.2.2.2.2.2.1) ((mtC n nu hb (upT (fun i => psM li gr (scT sc (scoreM ki fe lm si va hb nu t) n) (se 0) i n) n pu) se t 15 (upT (fun _ => nI 0) n no, (b1, b2, b3, bu, bl), ki, fe, lm, si, va, he, up, lo)).2.2.2.2.2.2.2.2.1) ((mtC n nu hb (upT (fun i => psM li gr (scT sc (scoreM ki fe lm si va hb nu t) n) (se 0) i n) n pu) se t 15 (upT (fun _ => nI 0) n no, (b1, b2, b3, bu, bl), ki, fe, lm, si, va, he, up, lo)).2.2.2.2.2.2.2.2.2) (scT sc (scoreM ki fe lm si va hb nu t) n) ((mtC n nu hb (upT (fun i => psM li gr (scT sc (scoreM ki fe lm si va hb nu t) n) (se 0) i n) n pu) se t 15 (upT (fun _ => nI 0) n no, (b1, b2, b3, bu, bl), ki, fe, lm, si, va, he, up, lo)).1) (upT (fun i => psM li gr (scT sc (scoreM ki fe lm si va hb nu t) n) (se 0) i n) n pu) ((mtC n nu hb (upT (fun i => psM li gr (scT sc (scoreM ki fe lm si va hb nu t) n) (se 0) i n) n pu) se t 15 (upT (fun _ => nI 0) n no, (b1, b2, b3, bu, bl), ki, fe, lm, si, va, he, up, lo)).2.1.1) ((mtC n nu hb (upT (fun i => psM li gr (scT sc (scoreM ki fe lm si va hb nu t) n) (se 0) i n) n pu) se t 15 (upT (fun _ => nI 0) n no, (b1, b2, b3, bu, bl), ki, fe, lm, si, va, he, up, lo)).2.1.2.1) ((mtC n nu hb (upT (fun i => psM li gr (scT sc (scoreM ki fe lm si va hb nu t) n) (se 0) i n) n pu) se t 15 (upT (fun _ => nI 0) n no, (b1, b2, b3, bu, bl), ki, fe, lm, si, va, he, up, lo)).2.1.2.2.1) ((mtC n nu hb (upT (fun i => psM li gr (scT sc (scoreM ki fe lm si va hb nu t) n) (se 0) i n) n pu) se t 15 (upT (fun _ => nI 0) n no, (b1, b2, b3, bu, bl), ki, fe, lm, si, va, he, up, lo)).2.1.2.2.2.1) ((mtC n nu hb (upT (fun i => psM li gr (scT sc (scoreM ki fe lm si va hb nu t) n) (se 0) i n) n pu) se t 15 (upT (fun _ => nI 0) n no, (b1, b2, b3, bu, bl), ki, fe, lm, si, va, he, up, lo)).2.1.2.2.2.2))) 3 (dC, dI) cl6 A 35 [(0, .ref (h 0)), (1, .int (nI i))] [] (Wm h cI cJ cZ (nI 0) n li gr nu hb se t ki fe lm si va he up lo (scT sc (scoreM ki fe lm si va hb nu t) n) (upT (fun _ => nI 0) i no) (upT (fun i => psM li gr (scT sc (scoreM ki fe lm si va hb nu t) n) (se 0) i n) i pu) b1 b2 b3 bu bl) := by
        intro fu35
        induction fu35 with
        | zero => intro i hq hi; exact absurd hq (by omega)
        | succ fu35 ih35 =>
          intro i hq hi
          refine Wk.iload_n X 1 rfl dX5_grow_35 rfl ?_
          refine Wk.aload_n X 0 rfl dX5_grow_36 rfl ?_
          refine Wk.get X inX5 0 1 lk63 (fun _ h9 => h9) rfl rfl (by decide) rfl dX5_grow_37 ?_
          refine Wk.icmpN_ge X 67 (by omega) (by omega) dX5_grow_40 (by decide) (fun c3 => ?_) (fun c3 => ?_)
          · skip
            rw [show i = n by omega]
            refine Wk.iconst (v := nI 0) X dX5_grow_67 (by decide) ?_
            refine Wk.istore_n (lv' := [(1, .int (nI 0)), (0, .ref (h 0))]) X dX5_grow_68 rfl (by decide) rfl ?_
            refine Wk.iconst (v := nI 0) X dX5_grow_69 (by decide) ?_
            refine Wk.istore_n (lv' := [(2, .int (nI 0)), (1, .int (nI 0)), (0, .ref (h 0))]) X dX5_grow_70 rfl (by decide) rfl ?_
            have L71 : ∀ (fu71 : Nat) (k : Nat) (x : Nat) (S : MG) (hq2 : 16 ≤ k + fu71) (hk1 : k ≤ 15) (hS : S = mtC n nu hb (upT (fun i => psM li gr (scT sc (scoreM ki fe lm si va hb nu t) n) (se 0) i n) n pu) se t k (upT (fun _ => nI 0) n no, (b1, b2, b3, bu, bl), ki, fe, lm, si, va, he, up, lo)) (hx : x = lfM n nu hb (upT (fun i => psM li gr (scT sc (scoreM ki fe lm si va hb nu t) n) (se 0) i n) n pu) se t (upT (fun _ => nI 0) n no, (b1, b2, b3, bu, bl), ki, fe, lm, si, va, he, up, lo) k), Wk pg l ev ({ frames := 5, cells := 0, slots := 0, locals := 114 } : Room) s0 md ar bw mt cd 0 0 (QRi bw ar s0 (dC, dI) cl6 (TY cI cJ cZ) A (nI (lfM n nu hb (upT (fun i => psM li gr (scT sc (scoreM ki fe lm si va hb nu t) n) (se 0) i n) n pu) se t (upT (fun _ => nI 0) n no, (b1, b2, b3, bu, bl), ki, fe, lm, si, va, he, up, lo) 15)) (Wm h cI cJ cZ (nI 0) n li gr nu hb se (t + 1) ((mtC n nu hb (upT (fun i => psM li gr (scT sc (scoreM ki fe lm si va hb nu t) n) (se 0) i n) n pu) se t 15 (upT (fun _ => nI 0) n no, (b1, b2, b3, bu, bl), ki, fe, lm, si, va, he, up, lo)).2.2.1) ((mtC n nu hb (upT (fun i => psM li gr (scT sc (scoreM ki fe lm si va hb nu t) n) (se 0) i n) n pu) se t 15 (upT (fun _ => nI 0) n no, (b1, b2, b3, bu, bl), ki, fe, lm, si, va, he, up, lo)).2.2.2.1) ((mtC n nu hb (upT (fun i => psM li gr (scT sc (scoreM ki fe lm si va hb nu t) n) (se 0) i n) n pu) se t 15 (upT (fun _ => nI 0) n no, (b1, b2, b3, bu, bl), ki, fe, lm, si, va, he, up, lo)).2.2.2.2.1) ((mtC n nu hb (upT (fun i => psM li gr (scT sc (scoreM ki fe lm si va hb nu t) n) (se 0) i n) n pu) se t 15 (upT (fun _ => nI 0) n no, (b1, b2, b3, bu, bl), ki, fe, lm, si, va, he, up, lo)).2.2.2.2.2.1) ((mtC n nu hb (upT (fun i => psM li gr (scT sc (scoreM ki fe lm si va hb nu t) n) (se 0) i n) n pu) se t 15 (upT (fun _ => nI 0) n no, (b1, b2, b3, bu, bl), ki, fe, lm, si, va, he, up, lo)).2.2.2.2.2.2.1) ((mtC n nu hb (upT (fun i => psM li gr (scT sc (scoreM ki fe lm si va hb nu t) n) (se 0) i n) n pu) se t 15 (upT (fun _ => nI 0) n no, (b1, b2, b3, bu, bl), ki, fe, lm, si, va, he, up, lo)).2.2.2.2.2.2.2.1) ((mtC n nu hb (upT (fun i => psM li gr (scT sc (scoreM ki fe lm si va hb nu t) n) (se 0) i n) n pu) se t 15 (upT (fun _ => nI 0) n no, (b1, b2, b3, bu, bl), ki, fe, lm, si, va, he, up, lo)).2.2.2.2.2.2.2.2.1) ((mtC n nu hb (upT (fun i => psM li gr (scT sc (scoreM ki fe lm si va hb nu t) n) (se 0) i n) n pu) se t 15 (upT (fun _ => nI 0) n no, (b1, b2, b3, bu, bl), ki, fe, lm, si, va, he, up, lo)).2.2.2.2.2.2.2.2.2) (scT sc (scoreM ki fe lm si va hb nu t) n) ((mtC n nu hb (upT (fun i => psM li gr (scT sc (scoreM ki fe lm si va hb nu t) n) (se 0) i n) n pu) se t 15 (upT (fun _ => nI 0) n no, (b1, b2, b3, bu, bl), ki, fe, lm, si, va, he, up, lo)).1) (upT (fun i => psM li gr (scT sc (scoreM ki fe lm si va hb nu t) n) (se 0) i n) n pu) ((mtC n nu hb (upT (fun i => psM li gr (scT sc (scoreM ki fe lm si va hb nu t) n) (se 0) i n) n pu) se t 15 (upT (fun _ => nI 0) n no, (b1, b2, b3, bu, bl), ki, fe, lm, si, va, he, up, lo)).2.1.1) ((mtC n nu hb (upT (fun i => psM li gr (scT sc (scoreM ki fe lm si va hb nu t) n) (se 0) i n) n pu) se t 15 (upT (fun _ => nI 0) n no, (b1, b2, b3, bu, bl), ki, fe, lm, si, va, he, up, lo)).2.1.2.1) ((mtC n nu hb (upT (fun i => psM li gr (scT sc (scoreM ki fe lm si va hb nu t) n) (se 0) i n) n pu) se t 15 (upT (fun _ => nI 0) n no, (b1, b2, b3, bu, bl), ki, fe, lm, si, va, he, up, lo)).2.1.2.2.1) ((mtC n nu hb (upT (fun i => psM li gr (scT sc (scoreM ki fe lm si va hb nu t) n) (se 0) i n) n pu) se t 15 (upT (fun _ => nI 0) n no, (b1, b2, b3, bu, bl), ki, fe, lm, si, va, he, up, lo)).2.1.2.2.2.1) ((mtC n nu hb (upT (fun i => psM li gr (scT sc (scoreM ki fe lm si va hb nu t) n) (se 0) i n) n pu) se t 15 (upT (fun _ => nI 0) n no, (b1, b2, b3, bu, bl), ki, fe, lm, si, va, he, up, lo)).2.1.2.2.2.2))) 3 (dC, dI) cl6 A 71 [(0, .ref (h 0)), (1, .int (nI x)), (2, .int (nI k))] [] (Wm h cI cJ cZ (nI 0) n li gr nu hb se t S.2.2.1 S.2.2.2.1 S.2.2.2.2.1 S.2.2.2.2.2.1 S.2.2.2.2.2.2.1 S.2.2.2.2.2.2.2.1 S.2.2.2.2.2.2.2.2.1 S.2.2.2.2.2.2.2.2.2 (scT sc (scoreM ki fe lm si va hb nu t) n) S.1 (upT (fun i => psM li gr (scT sc (scoreM ki fe lm si va hb nu t) n) (se 0) i n) n pu) S.2.1.1 S.2.1.2.1 S.2.1.2.2.1 S.2.1.2.2.2.1 S.2.1.2.2.2.2) := by
              intro fu71
              induction fu71 with
              | zero => intro k x S hq2 hk1 hS hx; exact absurd hq2 (by omega)
              | succ fu71 ih71 =>
                intro k x S hq2 hk1 hS hx
                refine Wk.iload_n X 2 rfl dX5_grow_71 rfl ?_
                refine Wk.bipush (v := nI 15) X dX5_grow_72 (by decide) ?_
                refine Wk.icmpN_ge X 114 (by omega) (by omega) dX5_grow_74 (by decide) (fun c4 => ?_) (fun c4 => ?_)
                · skip
                  refine Wk.aload_n X 0 rfl dX5_grow_114 rfl ?_
                  refine Wk.dup X dX5_grow_115 rfl ?_
                  refine Wk.get X inX5 0 7 lk67 (fun _ h9 => h9) rfl rfl (by decide) rfl dX5_grow_116 ?_
                  refine Wk.iconst (v := nI 1) X dX5_grow_119 (by decide) ?_
                  refine Wk.iaddN X dX5_grow_120 ?_
                  refine Wk.put (ws' := Wm h cI cJ cZ (nI 0) n li gr nu hb se (t + 1) S.2.2.1 S.2.2.2.1 S.2.2.2.2.1 S.2.2.2.2.2.1 S.2.2.2.2.2.2.1 S.2.2.2.2.2.2.2.1 S.2.2.2.2.2.2.2.2.1 S.2.2.2.2.2.2.2.2.2 (scT sc (scoreM ki fe lm si va hb nu t) n) S.1 (upT (fun i => psM li gr (scT sc (scoreM ki fe lm si va hb nu t) n) (se 0) i n) n pu) S.2.1.1 S.2.1.2.1 S.2.1.2.2.1 S.2.1.2.2.2.1 S.2.1.2.2.2.2) X inX5 tyX5 tyX5_ok nmX5 0 7 lk67 (fun _ h9 => h9) rfl rfl (by decide) rfl (tyX5_ok 7 (by decide)) rfl rfl (Nat.le_of_ble_eq_true rfl) rfl dX5_grow_121 ?_
                  refine Wk.iload_n X 1 rfl dX5_grow_124 rfl ?_
                  exact Wk.iret X hr hk (by rw [hx, show k = 15 by omega]) (by rw [hS, show k = 15 by omega]) dX5_grow_125
                · skip
                  refine Wk.aload_n X 0 rfl dX5_grow_77 rfl ?_
                  refine Wk.iload_n X 2 rfl dX5_grow_78 rfl ?_
                  refine Wk.callVv (n := 1) (q0 := 0) X (c_X5_growNode l dC dI cI cJ cZ h (nI 0) n li gr nu hb se t S.2.2.1 S.2.2.2.1 S.2.2.2.2.1 S.2.2.2.2.2.1 S.2.2.2.2.2.2.1 S.2.2.2.2.2.2.2.1 S.2.2.2.2.2.2.2.2.1 S.2.2.2.2.2.2.2.2.2 (scT sc (scoreM ki fe lm si va hb nu t) n) S.1 (upT (fun i => psM li gr (scT sc (scoreM ki fe lm si va hb nu t) n) (se 0) i n) n pu) S.2.1.1 S.2.1.2.1 S.2.1.2.2.1 S.2.1.2.2.2.1 S.2.1.2.2.2.2 k (by first | omega | assumption) (by first | omega | assumption) (by first | omega | assumption) (by have := hgc k (by omega); rw [← hS] at this; exact this)) gX5_grow_X5_growNode rfl (by decide +kernel) (by decide) Fr.all (fun h9 => h9) rfl rfl rfl rfl (Nat.le_of_ble_eq_true rfl) ⟨Nat.zero_le _, Nat.zero_le _⟩ dX5_grow_79 ?_
                  refine Wk.iload_n X 1 rfl dX5_grow_82 rfl ?_
                  refine Wk.aload_n X 0 rfl dX5_grow_83 rfl ?_
                  refine Wk.get X inX5 0 8 lk26 (fun _ h9 => h9) rfl rfl (by decide) rfl dX5_grow_84 ?_
                  refine Wk.bipush (v := nI 15) X dX5_grow_87 (by decide) ?_
                  refine Wk.aload_n X 0 rfl dX5_grow_89 rfl ?_
                  refine Wk.get X inX5 0 7 lk67 (fun _ h9 => h9) rfl rfl (by decide) rfl dX5_grow_90 ?_
                  refine Wk.imulC X dX5_grow_93 ?_
                  refine Wk.iload_n X 2 rfl dX5_grow_94 rfl ?_
                  refine Wk.iaddN X dX5_grow_95 ?_
                  refine Wk.iald X 6 0 rfl rfl (by omega) (by decide) dX5_grow_96 ?_
                  refine Wk.iconst (v := nI 1) X dX5_grow_97 (by decide) ?_
                  refine Wk.icmp_ne X 105 dX5_grow_98 (by decide) (fun c5 => ?_) (fun c5 => ?_)
                  · skip
                    refine Wk.iconst (v := nI 0) X dX5_grow_105 (by decide) ?_
                    refine Wk.iaddN X dX5_grow_106 ?_
                    refine Wk.istore_n (lv' := [(1, .int (nI (x + 0))), (0, .ref (h 0)), (2, .int (nI k))]) X dX5_grow_107 rfl (by decide) rfl ?_
                    refine Wk.iincN (n := 1) (lv' := [(2, .int (nI (k + 1))), (1, .int (nI (x + 0))), (0, .ref (h 0))]) X 2 rfl dX5_grow_108 (by decide) rfl ?_
                    refine Wk.goto X 71 dX5_grow_111 (by decide) ?_
                    refine Wk.lvs (lv' := [(0, .ref (h 0)), (1, .int (nI (x + 0))), (2, .int (nI (k + 1)))]) [2, 1, 0] rfl ?_
                    exact ih71 (k + 1) (x + 0) ((mnC n nu hb (upT (fun i => psM li gr (scT sc (scoreM ki fe lm si va hb nu t) n) (se 0) i n) n pu) se t k (S.1, (S.2.1.1, S.2.1.2.1, S.2.1.2.2.1, S.2.1.2.2.2.1, S.2.1.2.2.2.2), S.2.2.1, S.2.2.2.1, S.2.2.2.2.1, S.2.2.2.2.2.1, S.2.2.2.2.2.2.1, S.2.2.2.2.2.2.2.1, S.2.2.2.2.2.2.2.2.1, S.2.2.2.2.2.2.2.2.2))) (by omega) (by omega) (by rw [hS]; rfl) (by subst hS; simp [lfM, mtC, *])
                  · skip
                    refine Wk.iconst (v := nI 1) X dX5_grow_101 (by decide) ?_
                    refine Wk.goto X 106 dX5_grow_102 (by decide) ?_
                    refine Wk.iaddN X dX5_grow_106 ?_
                    refine Wk.istore_n (lv' := [(1, .int (nI (x + 1))), (0, .ref (h 0)), (2, .int (nI k))]) X dX5_grow_107 rfl (by decide) rfl ?_
                    refine Wk.iincN (n := 1) (lv' := [(2, .int (nI (k + 1))), (1, .int (nI (x + 1))), (0, .ref (h 0))]) X 2 rfl dX5_grow_108 (by decide) rfl ?_
                    refine Wk.goto X 71 dX5_grow_111 (by decide) ?_
                    refine Wk.lvs (lv' := [(0, .ref (h 0)), (1, .int (nI (x + 1))), (2, .int (nI (k + 1)))]) [2, 1, 0] rfl ?_
                    exact ih71 (k + 1) (x + 1) ((mnC n nu hb (upT (fun i => psM li gr (scT sc (scoreM ki fe lm si va hb nu t) n) (se 0) i n) n pu) se t k (S.1, (S.2.1.1, S.2.1.2.1, S.2.1.2.2.1, S.2.1.2.2.2.1, S.2.1.2.2.2.2), S.2.2.1, S.2.2.2.1, S.2.2.2.2.1, S.2.2.2.2.2.1, S.2.2.2.2.2.2.1, S.2.2.2.2.2.2.2.1, S.2.2.2.2.2.2.2.2.1, S.2.2.2.2.2.2.2.2.2))) (by omega) (by omega) (by rw [hS]; rfl) (by subst hS; simp [lfM, mtC, *])
            refine Wk.lvs (lv' := [(0, .ref (h 0)), (1, .int (nI 0)), (2, .int (nI 0))]) [2, 1, 0] rfl ?_
            exact L71 16 0 0 ((upT (fun _ => nI 0) n no, (b1, b2, b3, bu, bl), ki, fe, lm, si, va, he, up, lo)) (by omega) (by omega) (by rfl) (by rfl)
          · skip
            refine Wk.aload_n X 0 rfl dX5_grow_43 rfl ?_
            refine Wk.get X inX5 0 17 lk54 (fun _ h9 => h9) rfl rfl (by decide) rfl dX5_grow_44 ?_
            refine Wk.iload_n X 1 rfl dX5_grow_47 rfl ?_
            refine Wk.iconst (v := nI 0) X dX5_grow_48 (by decide) ?_
            refine Wk.iast (ws' := Wm h cI cJ cZ (nI 0) n li gr nu hb se t ki fe lm si va he up lo (scT sc (scoreM ki fe lm si va hb nu t) n) (upd (upT (fun _ => nI 0) i no) i (nI 0)) (upT (fun i => psM li gr (scT sc (scoreM ki fe lm si va hb nu t) n) (se 0) i n) i pu) b1 b2 b3 bu bl) X 15 0 rfl rfl (by omega) (by decide) rfl dX5_grow_49 ?_
            refine Wk.aload_n X 0 rfl dX5_grow_50 rfl ?_
            refine Wk.get X inX5 0 18 lk57 (fun _ h9 => h9) rfl rfl (by decide) rfl dX5_grow_51 ?_
            refine Wk.iload_n X 1 rfl dX5_grow_54 rfl ?_
            refine Wk.aload_n X 0 rfl dX5_grow_55 rfl ?_
            refine Wk.iload_n X 1 rfl dX5_grow_56 rfl ?_
            refine Wk.callVi (n := 1) (q0 := 0) X (c_X5_pushOf l dC dI cI cJ cZ h (nI 0) n li gr nu hb se t ki fe lm si va he up lo (scT sc (scoreM ki fe lm si va hb nu t) n) (upd (upT (fun _ => nI 0) i no) i (nI 0)) (upT (fun i => psM li gr (scT sc (scoreM ki fe lm si va hb nu t) n) (se 0) i n) i pu) b1 b2 b3 bu bl i (by first | omega | assumption) (by first | omega | assumption)) gX5_grow_X5_pushOf rfl (by decide +kernel) (by decide) Fr.all (fun h9 => h9) rfl rfl rfl rfl (Nat.le_of_ble_eq_true rfl) ⟨Nat.zero_le _, Nat.zero_le _⟩ dX5_grow_57 ?_
            refine Wk.iast (ws' := Wm h cI cJ cZ (nI 0) n li gr nu hb se t ki fe lm si va he up lo (scT sc (scoreM ki fe lm si va hb nu t) n) (upd (upT (fun _ => nI 0) i no) i (nI 0)) (upd (upT (fun i => psM li gr (scT sc (scoreM ki fe lm si va hb nu t) n) (se 0) i n) i pu) i (psM li gr (scT sc (scoreM ki fe lm si va hb nu t) n) (se 0) i n)) b1 b2 b3 bu bl) X 16 0 rfl rfl (by omega) (by decide) rfl dX5_grow_60 ?_
            refine Wk.iincN (n := 1) (lv' := [(1, .int (nI (i + 1))), (0, .ref (h 0))]) X 1 rfl dX5_grow_61 (by decide) rfl ?_
            refine Wk.goto X 35 dX5_grow_64 (by decide) ?_
            refine Wk.lvs (lv' := [(0, .ref (h 0)), (1, .int (nI (i + 1)))]) [1, 0] rfl ?_
            exact ih35 (i + 1) (by omega) (by omega)
      refine Wk.lvs (lv' := [(0, .ref (h 0)), (1, .int (nI 0))]) [1, 0] rfl ?_
      exact L35 (n + 1) 0 (by omega) (by omega)
    · skip
      exact absurd ((nI_eq (b := 0) (by omega) (by decide)).mp c2) (by omega)
  · skip
    exfalso; omega

