/-! ### whole numbers under the machine's -/
theorem i64_mul {a b : Int64} (h1 : -(2 ^ 62) ≤ a.toInt * b.toInt) (h2 : a.toInt * b.toInt ≤ 2 ^ 62) : (a * b).toInt = a.toInt * b.toInt := by
  rw [Int64.toInt_mul]; exact Int.bmod_eq_of_le (by omega) (by omega)
theorem i64_add {a b : Int64} (h1 : -(2 ^ 62) ≤ a.toInt + b.toInt) (h2 : a.toInt + b.toInt ≤ 2 ^ 62) : (a + b).toInt = a.toInt + b.toInt := by
  rw [Int64.toInt_add]; exact Int.bmod_eq_of_le (by omega) (by omega)
theorem i64_sub {a b : Int64} (h1 : -(2 ^ 62) ≤ a.toInt - b.toInt) (h2 : a.toInt - b.toInt ≤ 2 ^ 62) : (a - b).toInt = a.toInt - b.toInt := by
  rw [Int64.toInt_sub]; exact Int.bmod_eq_of_le (by omega) (by omega)
theorem i32_add {a b : Int32} (h1 : -(2 ^ 30) ≤ a.toInt + b.toInt) (h2 : a.toInt + b.toInt ≤ 2 ^ 30) : (a + b).toInt = a.toInt + b.toInt := by
  rw [Int32.toInt_add]; exact Int.bmod_eq_of_le (by omega) (by omega)
theorem i32_sub {a b : Int32} (h1 : -(2 ^ 30) ≤ a.toInt - b.toInt) (h2 : a.toInt - b.toInt ≤ 2 ^ 30) : (a - b).toInt = a.toInt - b.toInt := by
  rw [Int32.toInt_sub]; exact Int.bmod_eq_of_le (by omega) (by omega)
theorem i32_mul {a b : Int32} (h1 : -(2 ^ 30) ≤ a.toInt * b.toInt) (h2 : a.toInt * b.toInt ≤ 2 ^ 30) : (a * b).toInt = a.toInt * b.toInt := by
  rw [Int32.toInt_mul]; exact Int.bmod_eq_of_le (by omega) (by omega)
theorem i64_one : (1 : Int64).toInt = 1 := by decide
theorem i64_zero : (0 : Int64).toInt = 0 := by decide
theorem nI64 {n : Nat} (h : n < 2 ^ 31) : (nI n).toInt64.toInt = (n : Int) := by rw [Int32.toInt_toInt64, nI_toInt h]
/-! ### sums over a node -/
theorem gaH_congr {pl pl' : Nat → Int32} {n : Nat} (h : ∀ i, i < n → pl' i = pl i) (k : Nat) : ∀ j, j ≤ n → gaH pl' k j = gaH pl k j := by
  intro j
  induction j with
  | zero => intro _; rfl
  | succ j ih => intro hj; simp only [gaH, ih (by omega), h j (by omega)]
theorem gaS_congr {pl pl' pu pu' : Nat → Int32} {n : Nat} (h : ∀ i, i < n → pl' i = pl i) (hp : ∀ i, i < n → pu' i = pu i) (k : Nat) : ∀ j, j ≤ n → gaS pu' pl' k j = gaS pu pl k j := by
  intro j
  induction j with
  | zero => intro _; rfl
  | succ j ih => intro hj; simp only [gaS, ih (by omega), h j (by omega), hp j (by omega)]
theorem taG_int (pl : Nat → Int32) (k : Nat) : ∀ n, n ≤ 24 → (taG pl k n).toInt = (gaH pl k n : Int) := by
  intro n
  induction n with
  | zero => intro _; rfl
  | succ n ih =>
    intro hn
    have h1 := ih (by omega)
    have h2 := gaH_le pl k n
    simp only [taG, gaH]
    by_cases e : pl n = nI k
    · rw [if_pos e, if_pos e, i64_add (by rw [h1, i64_one]; omega) (by rw [h1, i64_one]; omega), h1, i64_one]; omega
    · rw [if_neg e, if_neg e]; exact h1
theorem ta_eq (pl : Nat → Int32) (k n : Nat) (hn : n ≤ 24) : taG pl k n = (nI (gaH pl k n)).toInt64 := by
  rw [← Int64.toInt_inj, taG_int pl k n hn, nI64 (by have := gaH_le pl k n; omega)]
def HPu (n : Nat) (pu : Nat → Int32) : Prop := ∀ i, i < n → -96 ≤ (pu i).toInt ∧ (pu i).toInt ≤ 96
theorem tS_both {pl pu : Nat → Int32} {m : Nat} (hm : m ≤ 24) (hp : HPu m pu) (k : Nat) : ∀ n, n ≤ m → (tSG pl pu k n).toInt = (gaS pu pl k n).toInt ∧ -96 * (n : Int) ≤ (gaS pu pl k n).toInt ∧ (gaS pu pl k n).toInt ≤ 96 * (n : Int) := by
  intro n
  induction n with
  | zero => intro _; exact ⟨rfl, (by decide : -96 * ((0 : Nat) : Int) ≤ (0 : Int32).toInt), (by decide : (0 : Int32).toInt ≤ 96 * ((0 : Nat) : Int))⟩
  | succ n ih =>
    intro hn
    obtain ⟨h1, h2, h3⟩ := ih (by omega)
    obtain ⟨p1, p2⟩ := hp n (by omega)
    simp only [tSG, gaS]
    by_cases e : pl n = nI k
    · have q : (pu n).toInt64.toInt = (pu n).toInt := Int32.toInt_toInt64 _
      rw [if_pos e, if_pos e, i64_add (by rw [h1, q]; omega) (by rw [h1, q]; omega), i32_add (by omega) (by omega), h1, q]
      omega
    · rw [if_neg e, if_neg e]; omega
theorem tS_eq {pl pu : Nat → Int32} {n : Nat} (hn : n ≤ 24) (hp : HPu n pu) (k : Nat) : tSG pl pu k n = (gaS pu pl k n).toInt64 := by
  rw [← Int64.toInt_inj, (tS_both hn hp k n (Nat.le_refl _)).1, Int32.toInt_toInt64]
theorem tl_eq {pl pl' nb : Nat → Int32} {g : Nat → Bool} {n k f : Nat} {cv sd : Int32} (h : ∀ i, i < n → pl' i = pl i) (hg : ∀ i, i < n → g i = glC nb i f cv sd) : ∀ j, j ≤ n → tlG pl' k g j = tcL pl nb k f cv sd j := by
  intro j
  induction j with
  | zero => intro _; rfl
  | succ j ih =>
    intro hj
    simp only [tlG, tcL, ih (by omega), h j (by omega), hg j (by omega)]
    by_cases e : pl j = nI k
    · by_cases q : glC nb j f cv sd = true
      · rw [if_pos e, if_pos q, if_pos ⟨e, q⟩]
      · rw [if_pos e, if_neg q, if_neg (fun z => q z.2), Int64.add_zero]
    · rw [if_neg e, if_neg (fun z => e z.1)]
theorem ts_eq {pl pl' nb pu pu' : Nat → Int32} {g : Nat → Bool} {n k f : Nat} {cv sd : Int32} (h : ∀ i, i < n → pl' i = pl i) (hp : ∀ i, i < n → pu' i = pu i) (hg : ∀ i, i < n → g i = glC nb i f cv sd) : ∀ j, j ≤ n → tsG pl' pu' k g j = tcS pl nb pu k f cv sd j := by
  intro j
  induction j with
  | zero => intro _; rfl
  | succ j ih =>
    intro hj
    simp only [tsG, tcS, ih (by omega), h j (by omega), hg j (by omega), hp j (by omega)]
    by_cases e : pl j = nI k
    · by_cases q : glC nb j f cv sd = true
      · rw [if_pos e, if_pos q, if_pos ⟨e, q⟩]
      · rw [if_pos e, if_neg q, if_neg (fun z => q z.2), Int64.add_zero]
    · rw [if_neg e, if_neg (fun z => e z.1)]
theorem tcL_int {pl nb : Nat → Int32} {k f : Nat} {cv sd : Int32} : ∀ n, n ≤ 24 → 0 ≤ (tcL pl nb k f cv sd n).toInt ∧ (tcL pl nb k f cv sd n).toInt ≤ (gaH pl k n : Int) := by
  intro n
  induction n with
  | zero => intro _; exact ⟨(by decide : 0 ≤ (0 : Int64).toInt), (by decide : (0 : Int64).toInt ≤ ((0 : Nat) : Int))⟩
  | succ n ih =>
    intro hn
    obtain ⟨h1, h2⟩ := ih (by omega)
    have h3 := gaH_le pl k n
    simp only [tcL, gaH]
    by_cases e : pl n = nI k
    · by_cases q : glC nb n f cv sd = true
      · rw [if_pos ⟨e, q⟩, if_pos e, i64_add (by rw [i64_one]; omega) (by rw [i64_one]; omega), i64_one]; omega
      · rw [if_neg (fun z => q z.2), if_pos e]; omega
    · rw [if_neg (fun z => e z.1), if_neg e]; omega
theorem tcS_int {pl nb pu : Nat → Int32} {m k f : Nat} {cv sd : Int32} (hm : m ≤ 24) (hp : HPu m pu) : ∀ n, n ≤ m → -96 * (n : Int) ≤ (tcS pl nb pu k f cv sd n).toInt ∧ (tcS pl nb pu k f cv sd n).toInt ≤ 96 * (n : Int) := by
  intro n
  induction n with
  | zero => intro _; exact ⟨(by decide : -96 * ((0 : Nat) : Int) ≤ (0 : Int64).toInt), (by decide : (0 : Int64).toInt ≤ 96 * ((0 : Nat) : Int))⟩
  | succ n ih =>
    intro hn
    obtain ⟨h2, h3⟩ := ih (by omega)
    obtain ⟨p1, p2⟩ := hp n (by omega)
    have q : (pu n).toInt64.toInt = (pu n).toInt := Int32.toInt_toInt64 _
    simp only [tcS]
    by_cases e : pl n = nI k ∧ glC nb n f cv sd = true
    · rw [if_pos e, i64_add (by rw [q]; omega) (by rw [q]; omega), q]; omega
    · rw [if_neg e]; omega
/-- left things: how many, by Nat -/
theorem tcL_pos {pl nb : Nat → Int32} {k f : Nat} {cv sd : Int32} : ∀ n, n ≤ 24 → 1 ≤ (tcL pl nb k f cv sd n).toInt → ∃ i, i < n ∧ pl i = nI k ∧ glC nb i f cv sd = true := by
  intro n
  induction n with
  | zero => intro _ h; exact absurd h (by decide : ¬ 1 ≤ (0 : Int64).toInt)
  | succ n ih =>
    intro hn h
    by_cases e : pl n = nI k ∧ glC nb n f cv sd = true
    · exact ⟨n, by omega, e.1, e.2⟩
    · simp only [tcL, if_neg e] at h
      obtain ⟨i, hi, z⟩ := ih (by omega) h
      exact ⟨i, by omega, z⟩
theorem tcR_pos {pl nb : Nat → Int32} {k f : Nat} {cv sd : Int32} : ∀ n, n ≤ 24 → 1 ≤ (gaH pl k n : Int) - (tcL pl nb k f cv sd n).toInt → ∃ i, i < n ∧ pl i = nI k ∧ ¬ glC nb i f cv sd = true := by
  intro n
  induction n with
  | zero => intro _ h; exact absurd h (by decide : ¬ 1 ≤ ((0 : Nat) : Int) - (0 : Int64).toInt)
  | succ n ih =>
    intro hn h
    obtain ⟨h1, h2⟩ := tcL_int (pl := pl) (nb := nb) (k := k) (f := f) (cv := cv) (sd := sd) n (by omega)
    have h3 := gaH_le pl k n
    by_cases e : pl n = nI k
    · by_cases q : glC nb n f cv sd = true
      · simp only [tcL, gaH, if_pos e, if_pos (And.intro e q)] at h
        rw [i64_add (by rw [i64_one]; omega) (by rw [i64_one]; omega), i64_one] at h
        obtain ⟨i, hi, z⟩ := ih (by omega) (by omega)
        exact ⟨i, by omega, z⟩
      · exact ⟨n, by omega, e, q⟩
    · simp only [tcL, gaH, if_neg e, if_neg (fun z : pl n = nI k ∧ glC nb n f cv sd = true => e z.1)] at h
      obtain ⟨i, hi, z⟩ := ih (by omega) h
      exact ⟨i, by omega, z⟩
