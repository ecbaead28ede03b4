/-! ### the simple calls -/
theorem inB04 {x : Int32} (h : inB x 0 (nI 4) = true) : ∃ g, g ≤ 4 ∧ x = nI g := by
  rw [inB0, inB_inN x (by decide)] at h
  obtain ⟨j, hj, e⟩ := inN_t (by decide) h
  exact ⟨j, by omega, e⟩
theorem RTh.thing {n : Nat} {li gr li' gr' : Nat → Int32} (h : RTh n li gr li' gr') (ls gd : Int32) : RTh (if thB ls gd n = true then n + 1 else n) (if thB ls gd n = true then upd li n ls else li) (if thB ls gd n = true then upd gr n gd else gr) (if thB ls gd n = true then upd li' n ls else li') (if thB ls gd n = true then upd gr' n gd else gr') := by
  by_cases hb : thB ls gd n = true
  · simp only [hb, if_true]
    intro j hj
    by_cases e : j = n
    · subst e
      simp only [upd, if_true, true_and]
      unfold thB at hb
      simp only [Bool.and_eq_true] at hb
      exact inB04 hb.2.1
    · simp only [upd, if_neg e]
      exact h j (by omega)
  · simp only [hb, if_false]; exact h
theorem RNu.thing {n : Nat} {nb nu : Nat → Int32} {hb : Nat → Bool} (h : RNu n nb nu hb) (ls gd : Int32) : RNu (if thB ls gd n = true then n + 1 else n) (if thB ls gd n = true then filF nb (n * 4) (-1001) 4 else nb) nu (if thB ls gd n = true then filB hb (n * 4) 4 else hb) := by
  by_cases hq : thB ls gd n = true
  · simp only [hq, if_true]
    intro j hj hr
    rw [filF_at, filB_at]
    by_cases e : n * 4 ≤ j ∧ j < n * 4 + 4
    · rw [if_pos e, if_pos e]; exact Or.inr ⟨rfl, rfl⟩
    · rw [if_neg e, if_neg e]; exact h j hj (by omega)
  · simp only [hq, if_false]; exact h
theorem thB_n {ls gd : Int32} {n : Nat} (hn : n ≤ 24) : (if thB ls gd n = true then n + 1 else n) ≤ 24 := by
  by_cases hq : thB ls gd n = true
  · rw [if_pos hq]
    unfold thB at hq
    simp only [Bool.and_eq_true, decide_eq_true_eq] at hq
    omega
  · rw [if_neg hq]; exact hn
theorem RTh.grade {n : Nat} {li gr li' gr' : Nat → Int32} (hn : n ≤ 24) (h : RTh n li gr li' gr') (x gd : Int32) : RTh n li (if (inN x n && inB gd 0 (nI 4)) = true then upd gr x.toNatClampNeg gd else gr) li' (if (inN x n && inB gd 0 (nI 4)) = true then upd gr' x.toNatClampNeg gd else gr') := by
  by_cases hb : (inN x n && inB gd 0 (nI 4)) = true
  · simp only [hb, if_true]
    simp only [Bool.and_eq_true] at hb
    intro j hj
    by_cases e : j = x.toNatClampNeg
    · simp only [upd, if_pos e, true_and]
      exact ⟨(h j hj).1, inB04 hb.2⟩
    · simp only [upd, if_neg e]; exact h j hj
  · simp only [hb, if_false]; exact h
theorem grade_eq {n : Nat} {li gr li' gr' : Nat → Int32} (hn : n ≤ 24) (h : RTh n li gr li' gr') (x gd : Int32) : grR x gd n gr' = grR x gd n gr := by
  unfold grR
  by_cases hx : inN x n = true
  · obtain ⟨j, hj, rfl⟩ := inN_t (by omega) hx
    rw [nI_clamp (by omega), (h j hj).2.1]
  · rw [if_neg hx, if_neg hx]
/-- the row of a number that a call names -/
theorem row_cases {x : Int32} {n : Nat} (hn : n ≤ 24) : (anyB x n = true ∧ ∃ r, (r < n ∨ r = 24) ∧ rowC x n = nI r ∧ atM x = nI (r * 4)) ∨ (anyB x n = false ∧ rowC x n = -1) := by
  by_cases h1 : x = -1
  · subst h1
    exact Or.inl ⟨by simp [anyB], 24, Or.inr rfl, by simp [rowC], atM_m1⟩
  · by_cases h2 : inN x n = true
    · obtain ⟨j, hj, rfl⟩ := inN_t (by omega) h2
      exact Or.inl ⟨by simp [anyB, h2], j, Or.inl hj, by unfold rowC; rw [if_neg h1, if_pos h2], atM_nI (by omega)⟩
    · exact Or.inr ⟨by simp [anyB, h1, h2], by unfold rowC; rw [if_neg h1, if_neg h2]⟩
theorem nI_ne_m1 {r : Nat} (hr : r < 2 ^ 31) : ¬ nI r = -1 := by
  intro h
  have h1 : (nI r).toInt = (-1 : Int32).toInt := by rw [h]
  rw [nI_toInt hr] at h1
  have e1 : (-1 : Int32).toInt = -1 := by decide
  omega
theorem ft_eq {n : Nat} {nb nu : Nat → Int32} {hb : Nat → Bool} (hn : n ≤ 24) (h : RNu n nb nu hb) (x f v : Int32) :
    ftM x f v n hb = ftR x f v n nb ∧ RNu n (if ftB x f v n = true then upd nb (ixC x f n) v else nb) (if ftMB x f v n = true then upd nu (ixM x f) v else nu) (if ftMB x f v n = true then updB hb (ixM x f) true else hb) := by
  rcases row_cases (x := x) hn with ⟨ha, r, hr, e1, e2⟩ | ⟨ha, e1⟩
  · have hm : ¬ nI r = -1 := nI_ne_m1 (by omega)
    by_cases hf : inN f 4 = true ∧ inB v (-1000) (nI 1000) = true
    · obtain ⟨f1, hf1, rfl⟩ := inN_t (by decide) hf.1
      have i1 : ixC x (nI f1) n = r * 4 + f1 := by unfold ixC; rw [e1, nI_clamp (by omega), nI_clamp (by omega)]
      have i2 : ixM x (nI f1) = r * 4 + f1 := by unfold ixM; rw [e2, nI_clamp (by omega), nI_clamp (by omega)]
      have b1 : ftB x (nI f1) v n = true := by simp [ftB, e1, hm, hf.1, hf.2]
      have b2 : ftMB x (nI f1) v n = true := by simp [ftMB, ha, hf.1, hf.2]
      have hj : r * 4 + f1 < 100 := by omega
      have hj2 : r * 4 + f1 < n * 4 ∨ 96 ≤ r * 4 + f1 := by omega
      constructor
      · unfold ftM ftR
        rw [if_pos ha, if_pos hf, e1, if_neg hm, if_pos hf, i1, i2]
        rcases h _ hj hj2 with ⟨q1, q2, q3⟩ | ⟨q1, q2⟩
        · have hne : ¬ nb (r * 4 + f1) = -1001 := by
            intro e
            rw [e] at q3
            exact absurd q3 (by decide)
          rw [if_pos q1, if_neg hne]; rfl
        · rw [q1, q2]; rfl
      · simp only [b1, b2, if_true, i1, i2]
        intro j h1 h2
        by_cases e : j = r * 4 + f1
        · simp only [upd, updB, if_pos e]
          exact Or.inl ⟨trivial, trivial, hf.2⟩
        · simp only [upd, updB, if_neg e]
          exact h j h1 h2
    · have b1 : ¬ ftB x f v n = true := by
        intro z; unfold ftB at z; simp only [Bool.and_eq_true] at z; exact hf z.2
      have b2 : ¬ ftMB x f v n = true := by
        intro z; unfold ftMB at z; simp only [Bool.and_eq_true] at z; exact hf z.2
      constructor
      · unfold ftM ftR
        rw [if_pos ha, if_neg hf, e1, if_neg hm, if_neg hf]
      · simp only [b1, b2, if_false]; exact h
  · have b1 : ¬ ftB x f v n = true := by simp [ftB, e1]
    have b2 : ¬ ftMB x f v n = true := by simp [ftMB, ha]
    constructor
    · unfold ftM ftR
      rw [ha, e1]; rfl
    · simp only [b1, b2, if_false]; exact h
theorem ms_eq {n : Nat} {nb nu : Nat → Int32} {hb : Nat → Bool} (hn : n ≤ 24) (h : RNu n nb nu hb) (x f : Int32) :
    msM x f n hb = msR x f n nb ∧ RNu n (if msB x f n = true then upd nb (ixC x f n) (-1001) else nb) nu (if msMB x f n = true then updB hb (ixM x f) false else hb) := by
  rcases row_cases (x := x) hn with ⟨ha, r, hr, e1, e2⟩ | ⟨ha, e1⟩
  · have hm : ¬ nI r = -1 := nI_ne_m1 (by omega)
    by_cases hf : inN f 4 = true
    · obtain ⟨f1, hf1, rfl⟩ := inN_t (by decide) hf
      have i1 : ixC x (nI f1) n = r * 4 + f1 := by unfold ixC; rw [e1, nI_clamp (by omega), nI_clamp (by omega)]
      have i2 : ixM x (nI f1) = r * 4 + f1 := by unfold ixM; rw [e2, nI_clamp (by omega), nI_clamp (by omega)]
      have b1 : msB x (nI f1) n = true := by simp [msB, e1, hm, hf]
      have b2 : msMB x (nI f1) n = true := by simp [msMB, ha, hf]
      have hj : r * 4 + f1 < 100 := by omega
      have hj2 : r * 4 + f1 < n * 4 ∨ 96 ≤ r * 4 + f1 := by omega
      constructor
      · unfold msM msR
        rw [if_pos ha, if_pos hf, e1, if_neg hm, if_pos hf, i1, i2]
        rcases h _ hj hj2 with ⟨q1, q2, q3⟩ | ⟨q1, q2⟩
        · have hne : ¬ nb (r * 4 + f1) = -1001 := by
            intro e
            rw [e] at q3
            exact absurd q3 (by decide)
          rw [if_pos q1, if_neg hne]; rfl
        · rw [q1, q2]; rfl
      · simp only [b1, b2, if_true, i1, i2]
        intro j h1 h2
        by_cases e : j = r * 4 + f1
        · simp only [upd, updB, if_pos e]
          exact Or.inr ⟨trivial, trivial⟩
        · simp only [upd, updB, if_neg e]
          exact h j h1 h2
    · have b1 : ¬ msB x f n = true := by
        intro z; unfold msB at z; simp only [Bool.and_eq_true] at z; exact hf z.2
      have b2 : ¬ msMB x f n = true := by
        intro z; unfold msMB at z; simp only [Bool.and_eq_true] at z; exact hf z.2
      constructor
      · unfold msM msR
        rw [if_pos ha, if_neg hf, e1, if_neg hm, if_neg hf]
      · simp only [b1, b2, if_false]; exact h
  · have b1 : ¬ msB x f n = true := by simp [msB, e1]
    have b2 : ¬ msMB x f n = true := by simp [msMB, ha]
    constructor
    · unfold msM msR
      rw [ha, e1]; rfl
    · simp only [b1, b2, if_false]; exact h
theorem may_eq (x v : Int32) : mayC x v = mayM x v := by
  unfold mayC
  by_cases hx : inN x 4 = true
  · obtain ⟨j, hj, rfl⟩ := inN_t (by decide) hx
    have hnot : ∀ a b : Int32, (decide (¬ v < a) && decide (v ≤ b)) = inB v a b := by
      intro a b
      unfold inB
      have e : v ≤ b ↔ ¬ b < v := by rw [Int32.le_iff_toInt_le, Int32.lt_iff_toInt_lt]; omega
      by_cases h1 : v < a <;> by_cases h2 : b < v <;> simp [h1, h2, e]
    rw [hx, nI_clamp (by omega), Bool.true_and, hnot]
    rcases (show j = 0 ∨ j = 1 ∨ j = 2 ∨ j = 3 by omega) with rfl | rfl | rfl | rfl <;> rfl
  · have hne : ∀ j, j < 4 → ¬ x = nI j := fun j hj e => hx (by rw [e]; exact inN_nI hj (by decide))
    have hx' : inN x 4 = false := by simpa using hx
    unfold mayM
    rw [hx', Bool.false_and, if_neg (hne 0 (by decide)), if_neg (hne 1 (by decide)), if_neg (hne 2 (by decide)), if_neg (hne 3 (by decide))]
theorem mayM_ix {x v : Int32} (h : mayM x v = true) : ∃ j, j < 4 ∧ x = nI j ∧ inB v (sxL j) (sxH j) = true := by
  unfold mayM at h
  by_cases h0 : x = nI 0
  · rw [if_pos h0] at h; exact ⟨0, by decide, h0, h⟩
  · rw [if_neg h0] at h
    by_cases h1 : x = nI 1
    · rw [if_pos h1] at h; exact ⟨1, by decide, h1, h⟩
    · rw [if_neg h1] at h
      by_cases h2 : x = nI 2
      · rw [if_pos h2] at h; exact ⟨2, by decide, h2, h⟩
      · rw [if_neg h2] at h
        by_cases h3 : x = nI 3
        · rw [if_pos h3] at h; exact ⟨3, by decide, h3, h⟩
        · rw [if_neg h3] at h; cases h
theorem RSe.set {se se' : Nat → Int32} (h : RSe se se') (x v : Int32) : RSe (if mayC x v = true then upd se x.toNatClampNeg v else se) (if mayM x v = true then upd se' x.toNatClampNeg v else se') := by
  rw [may_eq]
  by_cases hm : mayM x v = true
  · simp only [hm, if_true]
    obtain ⟨j, hj, rfl, hb⟩ := mayM_ix hm
    rw [nI_clamp (by omega)]
    obtain ⟨h0, h1, h2, h3, h4⟩ := h
    refine ⟨fun i hi => ?_, ?_, ?_, ?_, ?_⟩
    · by_cases e : i = j
      · simp only [upd, if_pos e]
      · simp only [upd, if_neg e]; exact h0 i hi
    all_goals
      rcases (show j = 0 ∨ j = 1 ∨ j = 2 ∨ j = 3 by omega) with rfl | rfl | rfl | rfl <;> simp only [upd] <;> first | exact hb | assumption
  · simp only [hm, if_false]; exact h
theorem st_eq {se se' : Nat → Int32} (h : RSe se se') (x v : Int32) : stM x v se' = stC x v se := by
  unfold stM stC
  rw [may_eq]
  by_cases hm : mayM x v = true
  · obtain ⟨j, hj, rfl, -⟩ := mayM_ix hm
    rw [if_pos hm, if_pos hm, nI_clamp (by omega), h.1 j hj]
  · rw [if_neg hm, if_neg hm]
theorem RSe.first (se se' : Nat → Int32) : RSe (va_cpy sxF se 0 0 4) (upd (upd (upd (upd se' 0 (nI 10)) 1 (nI 10)) 2 (nI 2)) 3 (nI 1)) := by
  refine ⟨fun j hj => ?_, (by decide : inB (sxF 0) (nI 0) (nI 1000) = true), (by decide : inB (sxF 1) (nI 1) (nI 100) = true), (by decide : inB (sxF 2) (nI 1) (nI 3) = true), (by decide : inB (sxF 3) (nI 1) (nI 8) = true)⟩
  rcases (show j = 0 ∨ j = 1 ∨ j = 2 ∨ j = 3 by omega) with rfl | rfl | rfl | rfl <;> rfl
theorem RNu.clear (nb nu : Nat → Int32) (hb : Nat → Bool) : RNu 0 (filF nb (24 * 4) (-1001) 4) nu (clB hb 100) := by
  intro j h1 h2
  rw [clB_at, if_pos h1, filF_at, if_pos (by omega)]
  exact Or.inr ⟨rfl, rfl⟩
theorem RTh.zero (li gr li' gr' : Nat → Int32) : RTh 0 li gr li' gr' := fun j h => absurd h (by omega)
/-! ### told -/
theorem td_eq {n : Nat} {nb nu : Nat → Int32} {hb : Nat → Bool} (hn : n ≤ 24) (h : RNu n nb nu hb) (x f : Int32) : tdM x f n hb = nI (tdC x f n nb) ∧ (tdC x f n nb = 0 → nu (x.toNatClampNeg * 4 + f.toNatClampNeg) = nb (x.toNatClampNeg * 4 + f.toNatClampNeg)) := by
  unfold tdM tdC
  rw [inB_inN x (by decide)]
  by_cases h24 : inN x 24 = true
  · rw [if_pos h24, if_pos h24]
    obtain ⟨j, hj, rfl⟩ := inN_t (by decide) h24
    by_cases hx : inN (nI j) n = true
    · have hjn : j < n := by
        obtain ⟨i, hi, e⟩ := inN_t (by omega) hx
        rw [(nI_eq (by omega) (by omega)).mp e]; exact hi
      rw [if_pos hx, if_pos ((nI_ltI (by omega) (by omega)).mpr hjn)]
      by_cases hf : inN f 4 = true
      · obtain ⟨g, hg, rfl⟩ := inN_t (by decide) hf
        rw [if_pos hf, if_pos hf, nI_clamp (by omega), nI_clamp (by omega)]
        rcases h (j * 4 + g) (by omega) (by omega) with ⟨q1, q2, q3⟩ | ⟨q1, q2⟩
        · have hne : ¬ nb (j * 4 + g) = -1001 := by
            intro e
            rw [e] at q3
            exact absurd q3 (by decide)
          rw [if_pos q1, if_neg hne]
          exact ⟨rfl, fun _ => q2⟩
        · rw [q1, if_pos q2]
          exact ⟨rfl, fun z => absurd z (by decide)⟩
      · rw [if_neg hf, if_neg hf]; exact ⟨rfl, fun z => absurd z (by decide)⟩
    · have hjn : ¬ nI j < nI n := by
        rw [nI_ltI (by omega) (by omega)]
        intro z
        exact hx (inN_nI z (by omega))
      rw [if_neg hx, if_neg hjn]; exact ⟨rfl, fun z => absurd z (by decide)⟩
  · rw [if_neg h24, if_neg h24]; exact ⟨rfl, fun z => absurd z (by decide)⟩
