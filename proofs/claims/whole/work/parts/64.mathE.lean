/-! ### the best of candidates -/
abbrev Qc : Type := Nat × Int32 × Nat
def kl (q p : Qc) : Prop := q.1 < p.1 ∨ (q.1 = p.1 ∧ (q.2.1.toInt < p.2.1.toInt ∨ (q.2.1 = p.2.1 ∧ q.2.2 < p.2.2)))
theorem kl_irrefl (q : Qc) : ¬ kl q q := by
  unfold kl; omega
theorem kl_trans {x q p : Qc} (h1 : kl x q) (h2 : kl q p) : kl x p := by
  unfold kl at *
  rcases h1 with a | ⟨a, b | ⟨b, c⟩⟩ <;> rcases h2 with d | ⟨d, e | ⟨e, f⟩⟩
  · exact Or.inl (by omega)
  · exact Or.inl (by omega)
  · exact Or.inl (by omega)
  · exact Or.inl (by omega)
  · exact Or.inr ⟨by omega, Or.inl (by omega)⟩
  · exact Or.inr ⟨by omega, Or.inl (by rw [← e]; exact b)⟩
  · exact Or.inl (by omega)
  · exact Or.inr ⟨by omega, Or.inl (by rw [b]; exact e)⟩
  · exact Or.inr ⟨by omega, Or.inr ⟨b.trans e, by omega⟩⟩
theorem kl_total {q p : Qc} (h : ¬ q = p) : kl q p ∨ kl p q := by
  unfold kl
  obtain ⟨a, b, c⟩ := q
  obtain ⟨a', b', c'⟩ := p
  simp only
  by_cases e1 : a = a'
  · subst e1
    by_cases e2 : b = b'
    · subst e2
      have e3 : ¬ c = c' := fun z => h (by rw [z])
      rcases Nat.lt_or_gt_of_ne e3 with z | z
      · exact Or.inl (Or.inr ⟨rfl, Or.inr ⟨rfl, z⟩⟩)
      · exact Or.inr (Or.inr ⟨rfl, Or.inr ⟨rfl, z⟩⟩)
    · have e3 : ¬ b.toInt = b'.toInt := fun z => e2 (Int32.toInt_inj.mp z)
      rcases (show b.toInt < b'.toInt ∨ b'.toInt < b.toInt by omega) with z | z
      · exact Or.inl (Or.inr ⟨rfl, Or.inl z⟩)
      · exact Or.inr (Or.inr ⟨rfl, Or.inl z⟩)
  · rcases Nat.lt_or_gt_of_ne e1 with z | z
    · exact Or.inl (Or.inl z)
    · exact Or.inr (Or.inl z)
theorem cross_le {a b c d e f : Int} (hb : 0 < b) (hd : 0 < d) (hf : 0 < f) (h1 : c * b ≤ a * d) (h2 : e * d ≤ c * f) : e * b ≤ a * f := by
  have k1 : (e * b) * d ≤ (a * f) * d := by
    have q1 : (e * d) * b ≤ (c * f) * b := Int.mul_le_mul_of_nonneg_right h2 (Int.le_of_lt hb)
    have q2 : (c * b) * f ≤ (a * d) * f := Int.mul_le_mul_of_nonneg_right h1 (Int.le_of_lt hf)
    have r1 : (e * b) * d = (e * d) * b := Int.mul_right_comm e b d
    have r2 : (c * f) * b = (c * b) * f := Int.mul_right_comm c f b
    have r3 : (a * f) * d = (a * d) * f := Int.mul_right_comm a f d
    omega
  exact Int.le_of_mul_le_mul_right k1 hd
theorem cross_lt {a b c d e f : Int} (hb : 0 < b) (hd : 0 < d) (hf : 0 < f) (h1 : c * b ≤ a * d) (h2 : e * d ≤ c * f) (h : c * b < a * d ∨ e * d < c * f) : e * b < a * f := by
  have k1 : (e * b) * d < (a * f) * d := by
    have q1 : (e * d) * b ≤ (c * f) * b := Int.mul_le_mul_of_nonneg_right h2 (Int.le_of_lt hb)
    have q2 : (c * b) * f ≤ (a * d) * f := Int.mul_le_mul_of_nonneg_right h1 (Int.le_of_lt hf)
    have r1 : (e * b) * d = (e * d) * b := Int.mul_right_comm e b d
    have r2 : (c * f) * b = (c * b) * f := Int.mul_right_comm c f b
    have r3 : (a * f) * d = (a * d) * f := Int.mul_right_comm a f d
    rcases h with h | h
    · have q3 : (c * b) * f < (a * d) * f := Int.mul_lt_mul_of_pos_right h hf
      omega
    · have q3 : (e * d) * b < (c * f) * b := Int.mul_lt_mul_of_pos_right h hb
      omega
  exact Int.lt_of_mul_lt_mul_right k1 (Int.le_of_lt hd)
section ARG
variable {U V : Qc → Int64} {OK : Qc → Bool}
def nm (U V : Qc → Int64) (q p : Qc) : Int := (U q).toInt * (V p).toInt
def bt (U V : Qc → Int64) (q p : Qc) : Prop := nm U V p q < nm U V q p ∨ (nm U V q p = nm U V p q ∧ kl q p)
def HQ (U V : Qc → Int64) (OK : Qc → Bool) : Prop := ∀ q, OK q = true → 0 < (U q).toInt ∧ (U q).toInt ≤ 2 ^ 36 ∧ 0 < (V q).toInt ∧ (V q).toInt ≤ 2 ^ 14
theorem bt_irrefl (q : Qc) : ¬ bt U V q q := by
  unfold bt
  rintro (h | h)
  · omega
  · exact kl_irrefl q h.2
theorem bt_trans (H : HQ U V OK) {x q p : Qc} (ox : OK x = true) (oq : OK q = true) (op : OK p = true) (h1 : bt U V x q) (h2 : bt U V q p) : bt U V x p := by
  obtain ⟨-, -, vx, -⟩ := H x ox
  obtain ⟨-, -, vq, -⟩ := H q oq
  obtain ⟨-, -, vp, -⟩ := H p op
  unfold bt nm at *
  have a1 : (U q).toInt * (V x).toInt ≤ (U x).toInt * (V q).toInt := by rcases h1 with h | h; omega; omega
  have a2 : (U p).toInt * (V q).toInt ≤ (U q).toInt * (V p).toInt := by rcases h2 with h | h; omega; omega
  by_cases hs : (U q).toInt * (V x).toInt < (U x).toInt * (V q).toInt ∨ (U p).toInt * (V q).toInt < (U q).toInt * (V p).toInt
  · exact Or.inl (cross_lt vx vq vp a1 a2 hs)
  · have k1 : kl x q := by rcases h1 with h | h; exact absurd (Or.inl h) hs; exact h.2
    have k2 : kl q p := by rcases h2 with h | h; exact absurd (Or.inr h) hs; exact h.2
    have b1 := cross_le vx vq vp a1 a2
    have b2 : (U x).toInt * (V p).toInt ≤ (U p).toInt * (V x).toInt := cross_le (c := (U q).toInt) vp vq vx (by omega) (by omega)
    exact Or.inr ⟨by omega, kl_trans k1 k2⟩
theorem bt_total {q p : Qc} (h : ¬ q = p) : bt U V q p ∨ bt U V p q := by
  unfold bt
  rcases (show nm U V p q < nm U V q p ∨ nm U V q p < nm U V p q ∨ nm U V q p = nm U V p q by omega) with z | z | z
  · exact Or.inl (Or.inl z)
  · exact Or.inr (Or.inl z)
  · rcases kl_total h with k | k
    · exact Or.inl (Or.inr ⟨z, k⟩)
    · exact Or.inr (Or.inr ⟨z.symm, k⟩)
def Best (U V : Qc → Int64) (OK : Qc → Bool) (o : Option Qc) (P : Qc → Prop) : Prop :=
  (o = none → ∀ q, P q → OK q = false) ∧ ∀ p, o = some p → P p ∧ OK p = true ∧ ∀ q, P q → OK q = true → ¬ bt U V q p
def StQ (U V : Qc → Int64) (OK : Qc → Bool) (q : Qc) (o o' : Option Qc) : Prop :=
  (OK q = false ∧ o' = o) ∨ (OK q = true ∧ ((o = none ∧ o' = some q) ∨ ∃ p, o = some p ∧ ((bt U V q p ∧ o' = some q) ∨ (¬ bt U V q p ∧ o' = some p))))
theorem Best.iff {o : Option Qc} {P P' : Qc → Prop} (h : Best U V OK o P) (hp : ∀ q, P q ↔ P' q) : Best U V OK o P' :=
  ⟨fun e q hq => h.1 e q ((hp q).mpr hq), fun p e => ⟨(hp p).mp (h.2 p e).1, (h.2 p e).2.1, fun q hq => (h.2 p e).2.2 q ((hp q).mpr hq)⟩⟩
theorem Best.step (H : HQ U V OK) {o o' : Option Qc} {P : Qc → Prop} {q : Qc} (h : Best U V OK o P) (hs : StQ U V OK q o o') : Best U V OK o' (fun x => P x ∨ x = q) := by
  rcases hs with ⟨hq, rfl⟩ | ⟨hq, ⟨rfl, rfl⟩ | ⟨p, rfl, ⟨hb, rfl⟩ | ⟨hb, rfl⟩⟩⟩
  · refine ⟨fun e x hx => ?_, fun p e => ⟨Or.inl (h.2 p e).1, (h.2 p e).2.1, fun x hx ox => ?_⟩⟩
    · rcases hx with hx | rfl
      · exact h.1 e x hx
      · exact hq
    · rcases hx with hx | rfl
      · exact (h.2 p e).2.2 x hx ox
      · rw [hq] at ox; cases ox
  · refine ⟨fun e => (nomatch e), fun p e => ?_⟩
    cases e
    refine ⟨Or.inr rfl, hq, fun x hx ox => ?_⟩
    rcases hx with hx | rfl
    · rw [h.1 rfl x hx] at ox; cases ox
    · exact bt_irrefl _
  · refine ⟨fun e => (nomatch e), fun p' e => ?_⟩
    cases e
    obtain ⟨h1, h2, h3⟩ := h.2 p rfl
    refine ⟨Or.inr rfl, hq, fun x hx ox => ?_⟩
    rcases hx with hx | rfl
    · exact fun z => h3 x hx ox (bt_trans H ox hq h2 z hb)
    · exact bt_irrefl _
  · refine ⟨fun e => (nomatch e), fun p' e => ?_⟩
    cases e
    obtain ⟨h1, h2, h3⟩ := h.2 p rfl
    refine ⟨Or.inl h1, h2, fun x hx ox => ?_⟩
    rcases hx with hx | rfl
    · exact h3 x hx ox
    · exact hb
theorem Best.uniq {o o' : Option Qc} {P : Qc → Prop} (h : Best U V OK o P) (h' : Best U V OK o' P) : o = o' := by
  cases o with
  | none =>
    cases o' with
    | none => rfl
    | some p =>
      obtain ⟨a, b, -⟩ := h'.2 p rfl
      rw [h.1 rfl p a] at b; cases b
  | some p =>
    obtain ⟨a, b, c⟩ := h.2 p rfl
    cases o' with
    | none => rw [h'.1 rfl p a] at b; cases b
    | some p' =>
      obtain ⟨a', b', c'⟩ := h'.2 p' rfl
      by_cases e : p = p'
      · rw [e]
      · rcases bt_total (U := U) (V := V) e with z | z
        · exact absurd z (c' p a b)
        · exact absurd z (c p' a' b')
theorem Best.none (P : Qc → Prop) (h : ∀ q, ¬ P q) : Best U V OK none P := ⟨fun _ q hq => absurd hq (h q), fun p e => nomatch e⟩
/-- the class's best, and the reference's -/
def RepC (U V : Qc → Int64) (OK : Qc → Bool) (B : BS) (o : Option Qc) : Prop := (o = none → B.1 = false) ∧ ∀ p, o = some p → p.1 < 4 ∧ p.2.2 < 2 ∧ OK p = true ∧ B = (true, nI p.1, p.2.1, nI p.2.2, U p, V p)
def RepM (U V : Qc → Int64) (OK : Qc → Bool) (B : MS) (o : Option Qc) : Prop := (o = none → B.2.2.2.1 = 0 ∧ B.2.2.2.2 = 1) ∧ ∀ p, o = some p → p.1 < 4 ∧ p.2.2 < 2 ∧ OK p = true ∧ B = (nI p.1, p.2.1, nI p.2.2, U p, V p)
theorem nm_fit (H : HQ U V OK) {q p : Qc} (oq : OK q = true) (op : OK p = true) : (U q * V p).toInt = nm U V q p := by
  obtain ⟨u1, u2, -, -⟩ := H q oq
  obtain ⟨-, -, v1, v2⟩ := H p op
  unfold nm
  have h1 : 0 ≤ (U q).toInt * (V p).toInt := Int.mul_nonneg (by omega) (by omega)
  have h2 : (U q).toInt * (V p).toInt ≤ 2 ^ 36 * 2 ^ 14 := Int.mul_le_mul u2 v2 (by omega) (by decide)
  exact i64_mul (by omega) (by omega)
theorem ib_iff (H : HQ U V OK) {q p : Qc} (oq : OK q = true) (op : OK p = true) (q1 : q.1 < 4) (q2 : q.2.2 < 2) (p1 : p.1 < 4) (p2 : p.2.2 < 2) :
    ibC (nI q.1) q.2.1 (nI q.2.2) (U q) (V q) (nI p.1) p.2.1 (nI p.2.2) (U p) (V p) = true ↔ bt U V q p := by
  have e1 := nm_fit H oq op
  have e2 := nm_fit H op oq
  unfold ibC bt kl
  by_cases h : U q * V p = U p * V q
  · rw [if_pos h]
    have h' : nm U V q p = nm U V p q := by rw [← e1, ← e2, h]
    by_cases f : nI q.1 = nI p.1
    · have f' : q.1 = p.1 := (nI_eq (by omega) (by omega)).mp f
      rw [if_pos f]
      by_cases c : q.2.1 = p.2.1
      · rw [if_pos c, decide_eq_true_eq, nI_leI (by omega) (by omega)]
        have : q.2.1.toInt = p.2.1.toInt := by rw [c]
        constructor
        · intro z; exact Or.inr ⟨h', Or.inr ⟨f', Or.inr ⟨c, by omega⟩⟩⟩
        · rintro (z | ⟨-, z | ⟨-, z | ⟨-, z⟩⟩⟩) <;> omega
      · rw [if_neg c, decide_eq_true_eq, Int32.le_iff_toInt_le]
        constructor
        · intro z; exact Or.inr ⟨h', Or.inr ⟨f', Or.inl (by omega)⟩⟩
        · rintro (z | ⟨-, z | ⟨-, z | ⟨z, -⟩⟩⟩)
          · omega
          · omega
          · omega
          · exact absurd z c
    · have f' : ¬ q.1 = p.1 := fun z => f (by rw [z])
      rw [if_neg f, decide_eq_true_eq, nI_leI (by omega) (by omega)]
      constructor
      · intro z; exact Or.inr ⟨h', Or.inl (by omega)⟩
      · rintro (z | ⟨-, z | ⟨z, -⟩⟩) <;> omega
  · rw [if_neg h, decide_eq_true_eq, Int64.le_iff_toInt_le, e1, e2]
    have h' : ¬ nm U V q p = nm U V p q := by rw [← e1, ← e2]; exact fun z => h (Int64.toInt_inj.mp z)
    constructor
    · intro z; exact Or.inl (by omega)
    · rintro (z | ⟨z, -⟩) <;> omega
theorem RepC.step (H : HQ U V OK) {B : BS} {o : Option Qc} {q : Qc} (h : RepC U V OK B o) (q1 : q.1 < 4) (q2 : q.2.2 < 2) :
    ∃ o', StQ U V OK q o o' ∧ RepC U V OK (if OK q = true then offS (nI q.1) q.2.1 (nI q.2.2) (U q) (V q) B else B) o' := by
  by_cases oq : OK q = true
  · rw [if_pos oq]
    cases o with
    | none =>
      refine ⟨some q, Or.inr ⟨oq, Or.inl ⟨rfl, rfl⟩⟩, fun e => (nomatch e), fun p e => ?_⟩
      cases e
      have hb : B.1 = false := h.1 rfl
      exact ⟨q1, q2, oq, by simp [offS, ofC, hb]⟩
    | some p =>
      obtain ⟨p1, p2, op, hB⟩ := h.2 p rfl
      by_cases hb : bt U V q p
      · refine ⟨some q, Or.inr ⟨oq, Or.inr ⟨p, rfl, Or.inl ⟨hb, rfl⟩⟩⟩, fun e => (nomatch e), fun p' e => ?_⟩
        cases e
        have hi := (ib_iff H oq op q1 q2 p1 p2).mpr hb
        exact ⟨q1, q2, oq, by rw [hB]; simp [offS, ofC, hi]⟩
      · refine ⟨some p, Or.inr ⟨oq, Or.inr ⟨p, rfl, Or.inr ⟨hb, rfl⟩⟩⟩, fun e => (nomatch e), fun p' e => ?_⟩
        cases e
        have hi : ibC (nI q.1) q.2.1 (nI q.2.2) (U q) (V q) (nI p.1) p.2.1 (nI p.2.2) (U p) (V p) = false := by
          simpa using fun z => hb ((ib_iff H oq op q1 q2 p1 p2).mp z)
        exact ⟨p1, p2, op, by rw [hB]; simp [offS, ofC, hi]⟩
  · rw [if_neg oq]
    exact ⟨o, Or.inl ⟨by simpa using oq, rfl⟩, h⟩
theorem RepM.step (H : HQ U V OK) {VL : Qc → Prop} {B B' : MS} {o : Option Qc} {q : Qc} (h : RepM U V OK B o) (q1 : q.1 < 4) (q2 : q.2.2 < 2) (hk : ∀ p, o = some p → kl p q)
    (hO : OK q = true ↔ VL q ∧ ¬ U q = 0) (hV : VL q → 0 < (V q).toInt ∧ (V q).toInt ≤ 2 ^ 14)
    (hB1 : ¬ VL q → B' = B) (hB2 : VL q → U q * B.2.2.2.2 ≤ B.2.2.2.1 * V q → B' = B) (hB3 : VL q → ¬ U q * B.2.2.2.2 ≤ B.2.2.2.1 * V q → B' = (nI q.1, q.2.1, nI q.2.2, U q, V q)) :
    ∃ o', StQ U V OK q o o' ∧ RepM U V OK B' o' := by
  by_cases oq : OK q = true
  · obtain ⟨vl, u0⟩ := hO.mp oq
    obtain ⟨u1, u2, v1, v2⟩ := H q oq
    cases o with
    | none =>
      obtain ⟨b0, b1⟩ := h.1 rfl
      have hn : ¬ U q * B.2.2.2.2 ≤ B.2.2.2.1 * V q := by
        rw [b0, b1, Int64.mul_one, Int64.zero_mul, Int64.le_iff_toInt_le, i64_zero]
        omega
      refine ⟨some q, Or.inr ⟨oq, Or.inl ⟨rfl, rfl⟩⟩, fun e => (nomatch e), fun p e => ?_⟩
      cases e
      exact ⟨q1, q2, oq, hB3 vl hn⟩
    | some p =>
      obtain ⟨p1, p2, op, hB⟩ := h.2 p rfl
      have e1 := nm_fit H oq op
      have e2 := nm_fit H op oq
      have hkl := hk p rfl
      by_cases hb : U q * B.2.2.2.2 ≤ B.2.2.2.1 * V q
      · refine ⟨some p, Or.inr ⟨oq, Or.inr ⟨p, rfl, Or.inr ⟨?_, rfl⟩⟩⟩, fun e => (nomatch e), fun p' e => ?_⟩
        · rw [hB] at hb
          simp only [Int64.le_iff_toInt_le, e1, e2] at hb
          unfold bt
          rintro (z | ⟨-, z⟩)
          · omega
          · exact kl_irrefl _ (kl_trans hkl z)
        · cases e
          rw [hB2 vl hb]
          exact ⟨p1, p2, op, hB⟩
      · refine ⟨some q, Or.inr ⟨oq, Or.inr ⟨p, rfl, Or.inl ⟨?_, rfl⟩⟩⟩, fun e => (nomatch e), fun p' e => ?_⟩
        · rw [hB] at hb
          simp only [Int64.le_iff_toInt_le, e1, e2] at hb
          exact Or.inl (by omega)
        · cases e
          exact ⟨q1, q2, oq, hB3 vl hb⟩
  · refine ⟨o, Or.inl ⟨by simpa using oq, rfl⟩, ?_⟩
    by_cases vl : VL q
    · have u0 : U q = 0 := by
        by_cases z : U q = 0
        · exact z
        · exact absurd (hO.mpr ⟨vl, z⟩) oq
      have hle : U q * B.2.2.2.2 ≤ B.2.2.2.1 * V q := by
        rw [u0, Int64.zero_mul]
        cases o with
        | none => rw [(h.1 rfl).1, Int64.zero_mul, Int64.le_iff_toInt_le]; omega
        | some p =>
          obtain ⟨p1, p2, op, hB⟩ := h.2 p rfl
          rw [hB]
          obtain ⟨u1, u2, -, -⟩ := H p op
          obtain ⟨v1, v2⟩ := hV vl
          have k1 : 0 ≤ (U p).toInt * (V q).toInt := Int.mul_nonneg (by omega) (by omega)
          have k2 : (U p).toInt * (V q).toInt ≤ 2 ^ 36 * 2 ^ 14 := Int.mul_le_mul u2 v2 (by omega) (by decide)
          rw [Int64.le_iff_toInt_le, i64_zero]
          show 0 ≤ (U p * V q).toInt
          rw [i64_mul (by omega) (by omega)]
          exact k1
      rw [hB2 vl hle]; exact h
    · rw [hB1 vl]; exact h
end ARG
