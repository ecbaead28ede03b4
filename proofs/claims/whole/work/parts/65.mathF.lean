/-! ### the candidates of a node -/
theorem mul_bd {x y X Y : Int} (h1 : -X ≤ x) (h2 : x ≤ X) (h3 : -Y ≤ y) (h4 : y ≤ Y) : -(X * Y) ≤ x * y ∧ x * y ≤ X * Y := by
  have hX : 0 ≤ X := by omega
  have hY : 0 ≤ Y := by omega
  have a1 : x.natAbs ≤ X.natAbs := by omega
  have a2 : y.natAbs ≤ Y.natAbs := by omega
  have a3 : (x * y).natAbs ≤ (X * Y).natAbs := by
    rw [Int.natAbs_mul, Int.natAbs_mul]
    exact Nat.mul_le_mul a1 a2
  have a4 : 0 ≤ X * Y := Int.mul_nonneg hX hY
  omega
section CAN
variable (n : Nat) (pl nb pu : Nat → Int32) (gh : Nat) (gs : Int32) (k : Nat) (le : Int32)
def qL (q : Qc) : Int64 := tcL pl nb k q.1 q.2.1 (nI q.2.2) n
def qS (q : Qc) : Int64 := tcS pl nb pu k q.1 q.2.1 (nI q.2.2) n
def qU (q : Qc) : Int64 := spC gh gs (qL n pl nb k q) (qS n pl nb pu k q) * spC gh gs (qL n pl nb k q) (qS n pl nb pu k q)
def qV (q : Qc) : Int64 := qL n pl nb k q * ((nI gh).toInt64 - qL n pl nb k q) * (nI gh).toInt64
def qO (q : Qc) : Bool := okC gh gs le (qL n pl nb k q) (qS n pl nb pu k q)
def VLq (q : Qc) : Prop := ¬ qL n pl nb k q < le.toInt64 ∧ le.toInt64 ≤ (nI gh).toInt64 - qL n pl nb k q
end CAN
theorem tcB_q (n : Nat) (pl nb pu : Nat → Int32) (gh : Nat) (gs : Int32) (k : Nat) (le : Int32) (f : Nat) (cv : Int32) (j : Nat) (B : BS) :
    tcB n pl nb pu gh gs k le f cv (nI j) B = if qO n pl nb pu gh gs k le (f, cv, j) = true then offS (nI f) cv (nI j) (qU n pl nb pu gh gs k (f, cv, j)) (qV n pl nb gh k (f, cv, j)) B else B := rfl
section CANF
variable {n : Nat} {pl nb pu : Nat → Int32} {k : Nat} {le : Int32}
theorem q_ints (hn : n ≤ 24) (hp : HPu n pu) (q : Qc) :
    (spC (gaH pl k n) (gaS pu pl k n) (qL n pl nb k q) (qS n pl nb pu k q)).toInt = (qS n pl nb pu k q).toInt * ((gaH pl k n : Int) - (qL n pl nb k q).toInt) - ((gaS pu pl k n).toInt - (qS n pl nb pu k q).toInt) * (qL n pl nb k q).toInt ∧
    -200000 ≤ (spC (gaH pl k n) (gaS pu pl k n) (qL n pl nb k q) (qS n pl nb pu k q)).toInt ∧ (spC (gaH pl k n) (gaS pu pl k n) (qL n pl nb k q) (qS n pl nb pu k q)).toInt ≤ 200000 := by
  have hg := gaH_le pl k n
  obtain ⟨l1, l2⟩ := tcL_int (pl := pl) (nb := nb) (k := k) (f := q.1) (cv := q.2.1) (sd := nI q.2.2) n hn
  obtain ⟨s1, s2⟩ := tcS_int (pl := pl) (nb := nb) (pu := pu) (k := k) (f := q.1) (cv := q.2.1) (sd := nI q.2.2) hn hp n (Nat.le_refl _)
  obtain ⟨-, g1, g2⟩ := tS_both (pl := pl) hn hp k n (Nat.le_refl _)
  have ea : (nI (gaH pl k n)).toInt64.toInt = (gaH pl k n : Int) := nI64 (by omega)
  have eg : (gaS pu pl k n).toInt64.toInt = (gaS pu pl k n).toInt := Int32.toInt_toInt64 _
  change 0 ≤ (qL n pl nb k q).toInt at l1
  change (qL n pl nb k q).toInt ≤ _ at l2
  change _ ≤ (qS n pl nb pu k q).toInt at s1
  change (qS n pl nb pu k q).toInt ≤ _ at s2
  unfold spC
  generalize qL n pl nb k q = L at *
  generalize qS n pl nb pu k q = S at *
  have e1 : ((nI (gaH pl k n)).toInt64 - L).toInt = (gaH pl k n : Int) - L.toInt := by rw [i64_sub (by omega) (by omega), ea]
  have e2 : ((gaS pu pl k n).toInt64 - S).toInt = (gaS pu pl k n).toInt - S.toInt := by rw [i64_sub (by omega) (by omega), eg]
  obtain ⟨m1, m2⟩ := mul_bd (x := S.toInt) (y := (gaH pl k n : Int) - L.toInt) (X := 2304) (Y := 24) (by omega) (by omega) (by omega) (by omega)
  obtain ⟨m3, m4⟩ := mul_bd (x := (gaS pu pl k n).toInt - S.toInt) (y := L.toInt) (X := 4608) (Y := 24) (by omega) (by omega) (by omega) (by omega)
  have e3 : (S * ((nI (gaH pl k n)).toInt64 - L)).toInt = S.toInt * ((gaH pl k n : Int) - L.toInt) := by rw [i64_mul (by rw [e1]; omega) (by rw [e1]; omega), e1]
  have e4 : (((gaS pu pl k n).toInt64 - S) * L).toInt = ((gaS pu pl k n).toInt - S.toInt) * L.toInt := by rw [i64_mul (by rw [e2]; omega) (by rw [e2]; omega), e2]
  have e5 : (S * ((nI (gaH pl k n)).toInt64 - L) - ((gaS pu pl k n).toInt64 - S) * L).toInt = S.toInt * ((gaH pl k n : Int) - L.toInt) - ((gaS pu pl k n).toInt - S.toInt) * L.toInt := by rw [i64_sub (by omega) (by omega), e3, e4]
  rw [e5]
  omega
theorem qU_int (hn : n ≤ 24) (hp : HPu n pu) (q : Qc) : (qU n pl nb pu (gaH pl k n) (gaS pu pl k n) k q).toInt = (spC (gaH pl k n) (gaS pu pl k n) (qL n pl nb k q) (qS n pl nb pu k q)).toInt * (spC (gaH pl k n) (gaS pu pl k n) (qL n pl nb k q) (qS n pl nb pu k q)).toInt := by
  obtain ⟨-, h1, h2⟩ := q_ints (pl := pl) (nb := nb) (k := k) hn hp q
  unfold qU
  obtain ⟨m1, m2⟩ := mul_bd (X := 200000) (Y := 200000) h1 h2 h1 h2
  exact i64_mul (by omega) (by omega)
theorem le64 : le.toInt64.toInt = le.toInt := Int32.toInt_toInt64 _
theorem VL_ints (hn : n ≤ 24) (hl : 1 ≤ le.toInt ∧ le.toInt ≤ 8) {q : Qc} (h : VLq n pl nb (gaH pl k n) k le q) : le.toInt ≤ (qL n pl nb k q).toInt ∧ le.toInt ≤ (gaH pl k n : Int) - (qL n pl nb k q).toInt ∧ (qL n pl nb k q).toInt ≤ 24 ∧ (gaH pl k n : Int) ≤ 24 := by
  have hg := gaH_le pl k n
  obtain ⟨l1, l2⟩ := tcL_int (pl := pl) (nb := nb) (k := k) (f := q.1) (cv := q.2.1) (sd := nI q.2.2) n hn
  change 0 ≤ (qL n pl nb k q).toInt at l1
  change (qL n pl nb k q).toInt ≤ _ at l2
  have ea : (nI (gaH pl k n)).toInt64.toInt = (gaH pl k n : Int) := nI64 (by omega)
  obtain ⟨h1, h2⟩ := h
  rw [Int64.lt_iff_toInt_lt, le64] at h1
  rw [Int64.le_iff_toInt_le, le64, i64_sub (by omega) (by omega), ea] at h2
  omega
theorem VL_V (hn : n ≤ 24) (hl : 1 ≤ le.toInt ∧ le.toInt ≤ 8) {q : Qc} (h : VLq n pl nb (gaH pl k n) k le q) : 0 < (qV n pl nb (gaH pl k n) k q).toInt ∧ (qV n pl nb (gaH pl k n) k q).toInt ≤ 2 ^ 14 := by
  obtain ⟨h1, h2, h3, h4⟩ := VL_ints hn hl h
  have hg := gaH_le pl k n
  have ea : (nI (gaH pl k n)).toInt64.toInt = (gaH pl k n : Int) := nI64 (by omega)
  unfold qV
  generalize qL n pl nb k q = L at *
  generalize (gaH pl k n : Int) = a at *
  have e1 : ((nI (gaH pl k n)).toInt64 - L).toInt = a - L.toInt := by rw [i64_sub (by omega) (by omega), ea]
  have p1 : 0 < L.toInt * (a - L.toInt) := Int.mul_pos (by omega) (by omega)
  obtain ⟨m1, m2⟩ := mul_bd (x := L.toInt) (y := a - L.toInt) (X := 24) (Y := 24) (by omega) (by omega) (by omega) (by omega)
  have e2 : (L * ((nI (gaH pl k n)).toInt64 - L)).toInt = L.toInt * (a - L.toInt) := by rw [i64_mul (by rw [e1]; omega) (by rw [e1]; omega), e1]
  have p2 : 0 < L.toInt * (a - L.toInt) * a := Int.mul_pos p1 (by omega)
  obtain ⟨m3, m4⟩ := mul_bd (x := L.toInt * (a - L.toInt)) (y := a) (X := 576) (Y := 24) (by omega) (by omega) (by omega) (by omega)
  rw [i64_mul (by rw [e2, ea]; omega) (by rw [e2, ea]; omega), e2, ea]
  omega
theorem qO_iff (hn : n ≤ 24) (hp : HPu n pu) (q : Qc) : qO n pl nb pu (gaH pl k n) (gaS pu pl k n) k le q = true ↔ VLq n pl nb (gaH pl k n) k le q ∧ ¬ qU n pl nb pu (gaH pl k n) (gaS pu pl k n) k q = 0 := by
  have hu := qU_int (pl := pl) (nb := nb) (k := k) hn hp q
  have hz : qU n pl nb pu (gaH pl k n) (gaS pu pl k n) k q = 0 ↔ spC (gaH pl k n) (gaS pu pl k n) (qL n pl nb k q) (qS n pl nb pu k q) = 0 := by
    rw [← Int64.toInt_inj, hu, ← Int64.toInt_inj, i64_zero]
    constructor
    · intro z; rcases Int.mul_eq_zero.mp z with h | h <;> exact h
    · intro z; rw [z]; rfl
  rw [hz]
  unfold qO okC VLq
  rw [decide_eq_true_eq]
  have e : ∀ a b : Int64, ¬ a < b ↔ b ≤ a := by
    intro a b
    rw [Int64.lt_iff_toInt_lt, Int64.le_iff_toInt_le]; omega
  rw [e ((nI (gaH pl k n)).toInt64 - qL n pl nb k q)]
  constructor
  · rintro ⟨a, b, c⟩; exact ⟨⟨a, b⟩, c⟩
  · rintro ⟨⟨a, b⟩, c⟩; exact ⟨a, b, c⟩
theorem HQ_q (hn : n ≤ 24) (hp : HPu n pu) (hl : 1 ≤ le.toInt ∧ le.toInt ≤ 8) : HQ (qU n pl nb pu (gaH pl k n) (gaS pu pl k n) k) (qV n pl nb (gaH pl k n) k) (qO n pl nb pu (gaH pl k n) (gaS pu pl k n) k le) := by
  intro q hq
  obtain ⟨hv, hu⟩ := (qO_iff hn hp q).mp hq
  have h1 := qU_int (pl := pl) (nb := nb) (k := k) hn hp q
  obtain ⟨-, h2, h3⟩ := q_ints (pl := pl) (nb := nb) (k := k) hn hp q
  have h4 := VL_V hn hl hv
  obtain ⟨m1, m2⟩ := mul_bd (X := 200000) (Y := 200000) h2 h3 h2 h3
  have h5 : ¬ (qU n pl nb pu (gaH pl k n) (gaS pu pl k n) k q).toInt = 0 := fun z => hu (by rw [← Int64.toInt_inj, z]; rfl)
  have h6 : 0 ≤ (spC (gaH pl k n) (gaS pu pl k n) (qL n pl nb k q) (qS n pl nb pu k q)).toInt * (spC (gaH pl k n) (gaS pu pl k n) (qL n pl nb k q) (qS n pl nb pu k q)).toInt := by
    rcases Int.le_total 0 (spC (gaH pl k n) (gaS pu pl k n) (qL n pl nb k q) (qS n pl nb pu k q)).toInt with z | z
    · exact Int.mul_nonneg z z
    · exact Int.mul_nonneg_of_nonpos_of_nonpos z z
  refine ⟨by omega, by omega, h4.1, h4.2⟩
end CANF
