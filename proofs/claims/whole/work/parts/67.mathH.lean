/-! ### division -/
theorem i64_div {a b : Int64} (ha : -(2 ^ 62) ≤ a.toInt ∧ a.toInt ≤ 2 ^ 62) : (a / b).toInt = a.toInt.tdiv b.toInt := by
  rw [Int64.toInt_div]
  have h : (a.toInt.tdiv b.toInt).natAbs ≤ a.toInt.natAbs := by
    rw [Int.natAbs_tdiv]; exact Nat.div_le_self _ _
  exact Int.bmod_eq_of_le (by omega) (by omega)
theorem i32_div {a b : Int32} (ha : -(2 ^ 30) ≤ a.toInt ∧ a.toInt ≤ 2 ^ 30) : (a / b).toInt = a.toInt.tdiv b.toInt := by
  rw [Int32.toInt_div]
  have h : (a.toInt.tdiv b.toInt).natAbs ≤ a.toInt.natAbs := by
    rw [Int.natAbs_tdiv]; exact Nat.div_le_self _ _
  exact Int.bmod_eq_of_le (by omega) (by omega)
theorem i64_rem {x y : Int64} (hx : 0 ≤ x.toInt) (hx2 : x.toInt ≤ 2 ^ 60) (hy : 0 < y.toInt) : (x - x / y * y).toInt = x.toInt % y.toInt := by
  have e1 : (x / y).toInt = x.toInt / y.toInt := by rw [i64_div ⟨by omega, by omega⟩, Int.tdiv_eq_ediv_of_nonneg hx]
  have d := Int.mul_ediv_add_emod x.toInt y.toInt
  have m1 : 0 ≤ x.toInt % y.toInt := Int.emod_nonneg _ (by omega)
  have m2 : x.toInt % y.toInt < y.toInt := Int.emod_lt_of_pos _ hy
  have c : x.toInt / y.toInt * y.toInt = y.toInt * (x.toInt / y.toInt) := Int.mul_comm _ _
  have p0 : 0 ≤ y.toInt * (x.toInt / y.toInt) := Int.mul_nonneg (by omega) (Int.ediv_nonneg hx (by omega))
  have e2 : (x / y * y).toInt = x.toInt / y.toInt * y.toInt := by rw [i64_mul (by rw [e1]; omega) (by rw [e1]; omega), e1]
  rw [i64_sub (by rw [e2]; omega) (by rw [e2]; omega), e2]
  omega
theorem gcT_mono : ∀ (k m : Nat) (x y : Int64), k ≤ m → gcT k x y → gcT m x y := by
  intro k
  induction k with
  | zero =>
    intro m x y _ h
    cases m with
    | zero => exact h
    | succ m => exact Or.inl h
  | succ k ih =>
    intro m x y hm h
    cases m with
    | zero => omega
    | succ m =>
      rcases h with h | h
      · exact Or.inl h
      · exact Or.inr (ih m _ _ (by omega) h)
theorem gcT_ok : ∀ (N : Nat) (x y : Int64), N ≤ 50 → 0 ≤ x.toInt → x.toInt ≤ 2 ^ 60 → 0 ≤ y.toInt → y.toInt < 2 ^ N → gcT (2 * N) x y := by
  intro N
  induction N with
  | zero =>
    intro x y _ _ _ h1 h2
    show y = 0
    rw [← Int64.toInt_inj, i64_zero]
    omega
  | succ N ih =>
    intro x y hN hx hx2 hy hy2
    show gcT (2 * N + 1 + 1) x y
    have hy3 : y.toInt < 2 ^ 60 := Int.lt_of_lt_of_le hy2 (by
      have h9 : (2 : Nat) ^ (N + 1) ≤ 2 ^ 60 := Nat.pow_le_pow_right (by decide) (by omega)
      exact_mod_cast h9)
    by_cases y0 : y = 0
    · exact Or.inl y0
    · right
      have yp : 0 < y.toInt := by
        have : ¬ y.toInt = 0 := fun z => y0 (by rw [← Int64.toInt_inj, z]; rfl)
        omega
      have er := i64_rem hx hx2 yp
      have r1 : 0 ≤ x.toInt % y.toInt := Int.emod_nonneg _ (by omega)
      have r2 : x.toInt % y.toInt < y.toInt := Int.emod_lt_of_pos _ yp
      generalize hr : x - x / y * y = r at er ⊢
      by_cases r0 : r = 0
      · exact Or.inl r0
      · right
        have rp : 0 < r.toInt := by
          have : ¬ r.toInt = 0 := fun z => r0 (by rw [← Int64.toInt_inj, z]; rfl)
          omega
        have es := i64_rem hy (by omega) rp
        have s1 : 0 ≤ y.toInt % r.toInt := Int.emod_nonneg _ (by omega)
        have s2 : y.toInt % r.toInt < r.toInt := Int.emod_lt_of_pos _ rp
        have d := Int.mul_ediv_add_emod y.toInt r.toInt
        have q1 : 1 ≤ y.toInt / r.toInt := by
          have := Int.le_ediv_of_mul_le rp (show 1 * r.toInt ≤ y.toInt by omega)
          exact this
        have q2 : r.toInt * 1 ≤ r.toInt * (y.toInt / r.toInt) := Int.mul_le_mul_of_nonneg_left q1 (by omega)
        have pw : (2 : Int) ^ (N + 1) = 2 ^ N * 2 := Int.pow_succ 2 N
        exact ih r (y - y / r * r) (by omega) (by omega) (by omega) (by omega) (by omega)
theorem gcC_pos : ∀ (k : Nat) (x y : Int64), 0 < x.toInt → x.toInt ≤ 2 ^ 60 → 0 ≤ y.toInt → y.toInt ≤ 2 ^ 60 → 0 < (gcC k x y).toInt := by
  intro k
  induction k with
  | zero => intro x y h _ _ _; exact h
  | succ k ih =>
    intro x y hx hx2 hy hy2
    simp only [gcC]
    by_cases y0 : y = 0
    · rw [if_pos y0]; exact hx
    · rw [if_neg y0]
      have yp : 0 < y.toInt := by
        have : ¬ y.toInt = 0 := fun z => y0 (by rw [← Int64.toInt_inj, z]; rfl)
        omega
      have er := i64_rem (by omega) hx2 yp
      have r1 : 0 ≤ x.toInt % y.toInt := Int.emod_nonneg _ (by omega)
      have r2 : x.toInt % y.toInt < y.toInt := Int.emod_lt_of_pos _ yp
      exact ih y _ yp hy2 (by omega) (by omega)
theorem red_eq {g x : Int64} (hg : 0 < g.toInt) : redC g x = x / g := by
  unfold redC
  by_cases h : g ≤ 1
  · have : g = 1 := by
      rw [Int64.le_iff_toInt_le, i64_one] at h
      rw [← Int64.toInt_inj, i64_one]
      omega
    rw [if_pos h, this, Int64.div_one]
  · rw [if_neg h]
theorem xor_sign {x y : Int32} (hy : 0 ≤ y.toInt) : (0 ≤ x ^^^ y) ↔ 0 ≤ x.toInt := by
  have h1 : ∀ z : Int32, z.toBitVec.msb = decide (z.toInt < 0) := fun z => BitVec.msb_eq_toInt
  rw [Int32.le_iff_toInt_le]
  have e0 : (0 : Int32).toInt = 0 := by decide
  rw [e0]
  have h2 := h1 (x ^^^ y)
  rw [Int32.toBitVec_xor, BitVec.msb_xor, h1 x, h1 y, decide_eq_false (show ¬ y.toInt < 0 by omega), Bool.xor_false] at h2
  by_cases a : x.toInt < 0
  · rw [decide_eq_true a] at h2
    have := of_decide_eq_true h2.symm
    omega
  · rw [decide_eq_false a] at h2
    have := of_decide_eq_false h2.symm
    omega
theorem fl_eq {a b : Int32} (ha : -(2 ^ 29) ≤ a.toInt ∧ a.toInt ≤ 2 ^ 29) (hb : 0 < b.toInt) : flM a b = fdvC a b := by
  have e1 : (a / b).toInt = a.toInt.tdiv b.toInt := i32_div ⟨by omega, by omega⟩
  have d := Int.mul_tdiv_add_tmod a.toInt b.toInt
  have c : a.toInt.tdiv b.toInt * b.toInt = b.toInt * a.toInt.tdiv b.toInt := Int.mul_comm _ _
  have hm : (a.toInt.tmod b.toInt).natAbs ≤ a.toInt.natAbs := by rw [Int.natAbs_tmod]; exact Nat.mod_le _ _
  have e2 : (a / b * b).toInt = a.toInt.tdiv b.toInt * b.toInt := by rw [i32_mul (by rw [e1]; omega) (by rw [e1]; omega), e1]
  have e3 : (a - a / b * b).toInt = a.toInt.tmod b.toInt := by rw [i32_sub (by rw [e2]; omega) (by rw [e2]; omega), e2]; omega
  have e0 : (0 : Int32).toInt = 0 := by decide
  have p1 : (0 ≤ a - a / b * b) ↔ 0 ≤ a.toInt.tmod b.toInt := by rw [Int32.le_iff_toInt_le, e0, e3]
  have p2 := xor_sign (x := a) (y := b) (by omega)
  have p3 : a / b * b = a ↔ a.toInt.tmod b.toInt = 0 := by rw [← Int32.toInt_inj, e2]; omega
  unfold flM fdvC
  by_cases h : 0 ≤ a.toInt
  · have m0 : 0 ≤ a.toInt.tmod b.toInt := Int.tmod_nonneg _ h
    rw [if_pos (p1.mpr m0), if_neg (fun z => z.1 (p2.mpr h))]
  · have m0 : a.toInt.tmod b.toInt ≤ 0 := by
      have q := Int.tmod_nonneg b.toInt (show 0 ≤ -a.toInt by omega)
      rw [Int.neg_tmod] at q
      omega
    by_cases z : a.toInt.tmod b.toInt = 0
    · rw [if_pos (p1.mpr (by omega)), if_neg (fun w => w.2 (p3.mpr z))]
    · rw [if_neg (fun w => z (by have := p1.mp w; omega)), if_pos ⟨fun w => h (p2.mp w), fun w => z (p3.mp w)⟩]
/-! ### pushes are small -/
theorem pp_int {n : Nat} {li gr li' gr' : Nat → Int32} (h : RTh n li gr li' gr') (sc : Nat → Int64) (mg : Int32) {i j : Nat} (hi : i < n) (hj : j < n) : 0 ≤ (ppC li gr sc mg i j).toInt ∧ (ppC li gr sc mg i j).toInt ≤ 4 := by
  obtain ⟨-, -, a, ha, ea⟩ := h i hi
  obtain ⟨-, -, b, hb, eb⟩ := h j hj
  unfold ppC
  by_cases q : pairB li gr i j = true ∧ sc i - sc j < mg.toInt64
  · rw [if_pos q]
    have q1 := q.1
    unfold pairB at q1
    have q2 := (of_decide_eq_true q1).2
    rw [ea, eb, nI_leI (by omega) (by omega)] at q2
    rw [ea, eb, pk_sub_toInt (by omega) (by omega)]
    omega
  · rw [if_neg q]; exact ⟨by decide, by decide⟩
theorem ps_int {n : Nat} {li gr li' gr' : Nat → Int32} (hn : n ≤ 24) (h : RTh n li gr li' gr') (sc : Nat → Int64) (mg : Int32) {i : Nat} (hi : i < n) : ∀ k, k ≤ n → -4 * (k : Int) ≤ (psC li gr sc mg i k).toInt ∧ (psC li gr sc mg i k).toInt ≤ 4 * (k : Int) := by
  intro k
  induction k with
  | zero => intro _; exact ⟨(by decide : -4 * ((0 : Nat) : Int) ≤ (0 : Int32).toInt), (by decide : (0 : Int32).toInt ≤ 4 * ((0 : Nat) : Int))⟩
  | succ k ih =>
    intro hk
    obtain ⟨h1, h2⟩ := ih (by omega)
    obtain ⟨a1, a2⟩ := pp_int h sc mg hi (show k < n by omega)
    obtain ⟨b1, b2⟩ := pp_int h sc mg (show k < n by omega) hi
    simp only [psC]
    have e1 : (ppC li gr sc mg i k - ppC li gr sc mg k i).toInt = (ppC li gr sc mg i k).toInt - (ppC li gr sc mg k i).toInt := i32_sub (by omega) (by omega)
    rw [i32_add (by rw [e1]; omega) (by rw [e1]; omega), e1]
    omega
