theorem allB_alM (x : Int32) : alM x = allB x := by
  unfold alM allB inN inB
  have e : ∀ y : Int32, (¬ y < -1 ∧ ¬ nI 3 < y) ↔ (y = -1 ∨ (¬ y < 0 ∧ ¬ nI 4 ≤ y)) := by
    intro y
    rw [Int32.lt_iff_toInt_lt, Int32.lt_iff_toInt_lt, Int32.lt_iff_toInt_lt, Int32.le_iff_toInt_le, ← Int32.toInt_inj]
    have e1 : (-1 : Int32).toInt = -1 := by decide
    have e3 : (nI 3).toInt = 3 := by decide
    have e4 : (nI 4).toInt = 4 := by decide
    have e0 : (0 : Int32).toInt = 0 := by decide
    rw [e1, e3, e4, e0]
    omega
  by_cases h : ¬ x < -1 ∧ ¬ nI 3 < x
  · rw [decide_eq_true h]
    rcases (e x).mp h with h1 | h1
    · simp [h1]
    · rw [decide_eq_true h1, Bool.or_true]
  · rw [decide_eq_false h]
    have h2 := fun z => h ((e x).mpr z)
    rw [decide_eq_false (fun z => h2 (Or.inl z)), decide_eq_false (fun z => h2 (Or.inr z))]
    rfl
theorem prB_eq (ls w0 : Int32) : (alM ls && inB w0 (nI 0) (nI 1)) = prB ls w0 := by
  unfold prB
  rw [allB_alM, inB0]
section NDE
variable {t : Nat} {ki fe lm si va he ki' fe' lm' si' va' he' : Nat → Int32} {up lo up' lo' : Nat → Int64}
theorem ki_pos {j : Nat} (h : NodeR ki fe lm si va he up lo ki' fe' lm' si' va' he' up' lo' j) : (¬ ki' j ≤ 0) ↔ ¬ ki j = 0 := by
  obtain ⟨e, h⟩ := h
  rw [e]
  rcases h with h | ⟨h, -⟩ | ⟨h, -⟩ <;> rw [h] <;> decide
theorem fd_eq (ht : t ≤ 20) (hF : RFo t ki fe lm si va he up lo ki' fe' lm' si' va' he' up' lo') (x y : Int32) :
    (ndB ki' t x y = false ∧ fdC ki t x y = -1) ∨ (∃ a, a < t * 15 ∧ ndB ki' t x y = true ∧ fdC ki t x y = nI a ∧ x.toNatClampNeg * 15 + y.toNatClampNeg = a ∧ ¬ ki a = nI 0) := by
  by_cases hx : inN x t = true
  · by_cases hy : inN y 15 = true
    · obtain ⟨i, hi, rfl⟩ := inN_t (by omega) hx
      obtain ⟨j, hj, rfl⟩ := inN_t (by decide) hy
      have ei : (nI i).toNatClampNeg = i := nI_clamp (by omega)
      have ej : (nI j).toNatClampNeg = j := nI_clamp (by omega)
      have ha : i * 15 + j < t * 15 := by omega
      by_cases hk : ki (i * 15 + j) = 0
      · refine Or.inl ⟨?_, ?_⟩
        · unfold ndB
          rw [ei, ej, hx, hy, decide_eq_false (fun z => (ki_pos (hF _ ha)).mp z hk)]
          rfl
        · unfold fdC
          rw [ei, ej, if_neg (fun z => z.2.2 hk)]
      · refine Or.inr ⟨i * 15 + j, ha, ?_, ?_, by rw [ei, ej], hk⟩
        · unfold ndB
          rw [ei, ej, hx, hy, decide_eq_true ((ki_pos (hF _ ha)).mpr hk)]
          rfl
        · unfold fdC
          rw [ei, ej, if_pos ⟨hx, hy, hk⟩]
    · refine Or.inl ⟨?_, ?_⟩
      · unfold ndB
        have : inN y 15 = false := by simpa using hy
        rw [this, Bool.false_and, Bool.and_false]
      · unfold fdC
        rw [if_neg (fun z => hy z.2.1)]
  · refine Or.inl ⟨?_, ?_⟩
    · unfold ndB
      have : inN x t = false := by simpa using hx
      rw [this, Bool.false_and]
    · unfold fdC
      rw [if_neg (fun z => hx z.1)]
theorem nd_eq (ht : t ≤ 20) (hF : RFo t ki fe lm si va he up lo ki' fe' lm' si' va' he' up' lo') (x y w0 : Int32) : ndM ki' fe' lm' si' va' he' t x y w0 = ndR ki fe lm si va he t x y w0 := by
  unfold ndM ndR
  rcases fd_eq ht hF x y with ⟨h1, h2⟩ | ⟨a, ha, h1, h2, h3, h4⟩
  · rw [h1, h2]; rfl
  · rw [if_pos h1, h2, if_neg (nI_ne_m1 (by omega)), h3, nI_clamp (by omega)]
    obtain ⟨e, h⟩ := hF a ha
    unfold ndA
    rcases h with h | ⟨h, e1, e2⟩ | ⟨h, e1, e2, e3, e4, e5, e6, -⟩
    · exact absurd h h4
    · simp only [e, h, n12, if_false, e1, e2]
    · simp only [e, h, if_true, e1, e2, e3, e4]
theorem gn_eq (ht : t ≤ 20) (hF : RFo t ki fe lm si va he up lo ki' fe' lm' si' va' he' up' lo') (x y w0 : Int32) : gnM ki' up' lo' t x y w0 = gnR ki up lo t x y w0 := by
  unfold gnM gnR
  rcases fd_eq ht hF x y with ⟨h1, h2⟩ | ⟨a, ha, h1, h2, h3, h4⟩
  · rw [h1, h2]; rfl
  · rw [h1, h2, if_neg (nI_ne_m1 (show a < 2 ^ 31 by omega)), h3, nI_clamp (by omega)]
    obtain ⟨e, h⟩ := hF a ha
    rw [e]
    rcases h with h | ⟨h, e1, e2⟩ | ⟨h, e1, e2, e3, e4, e5, e6, -⟩
    · exact absurd h h4
    · rw [if_neg (by rw [h]; exact fun z => n12 z.2), if_neg (by rw [h]; exact n12)]
    · rw [if_pos ⟨rfl, h⟩, if_pos h, e5, e6]
theorem ca_leaf (hF : RFo t ki fe lm si va he up lo ki' fe' lm' si' va' he' up' lo') : ∀ k, k ≤ t * 15 → caM ki' fe' (nI 2) k = clC ki 0 k := by
  intro k
  induction k with
  | zero => intro _; rfl
  | succ k ih =>
    intro hk
    simp only [caM, clC, ih (by omega), (hF k (by omega)).1, Nat.zero_add, true_and, not_true_eq_false, false_and, or_false]
theorem ca_cut (hF : RFo t ki fe lm si va he up lo ki' fe' lm' si' va' he' up' lo') {w0 f : Int32} (hw : ¬ w0 = nI 2) (hf : w0 - nI 10 = f) : ∀ k, k ≤ t * 15 → caM ki' fe' w0 k = ccC ki fe f k := by
  intro k
  induction k with
  | zero => intro _; rfl
  | succ k ih =>
    intro hk
    have e : (w0 = nI 2 ∧ ki' k = nI 1 ∨ ¬ w0 = nI 2 ∧ ki' k = nI 2 ∧ fe' k = w0 - nI 10) ↔ (ki k = nI 2 ∧ fe k = f) := by
      obtain ⟨e, h⟩ := hF k (by omega)
      rw [e, hf]
      rcases h with h | ⟨h, -⟩ | ⟨h, e1, -⟩
      · simp [hw, h, n02]
      · simp [hw, h, n12]
      · simp [hw, h, e1]
    simp only [caM, ccC, ih (by omega)]
    by_cases q : ki k = nI 2 ∧ fe k = f
    · rw [if_pos q, if_pos (e.mpr q)]
    · rw [if_neg q, if_neg (fun z => q (e.mp z))]
theorem ab_eq (n : Nat) (hF : RFo t ki fe lm si va he up lo ki' fe' lm' si' va' he' up' lo') (w0 : Int32) : abM ki' fe' n t w0 = abR ki fe n t w0 := by
  unfold abM abR
  by_cases h0 : w0 = nI 0
  · rw [if_pos h0, if_pos h0]
  · rw [if_neg h0, if_neg h0]
    by_cases h1 : w0 = nI 1
    · rw [if_pos h1, if_pos h1]
    · rw [if_neg h1, if_neg h1]
      by_cases h2 : w0 = nI 2
      · rw [if_pos (Or.inl h2), if_pos h2, h2, ca_leaf hF _ (Nat.le_refl _)]
        simp
      · rw [if_neg h2]
        by_cases hb : inB w0 (nI 10) (nI 13) = true
        · rw [if_pos (Or.inr hb)]
          have hw : ∃ j, j < 4 ∧ w0 = nI (10 + j) := by
            unfold inB at hb
            have hb := of_decide_eq_true hb
            rw [Int32.lt_iff_toInt_lt, Int32.lt_iff_toInt_lt] at hb
            have e10 : (nI 10).toInt = 10 := by decide
            have e13 : (nI 13).toInt = 13 := by decide
            rw [e10, e13] at hb
            refine ⟨(w0.toInt - 10).toNat, by omega, ?_⟩
            rw [← Int32.toInt_inj, nI_toInt (by omega)]
            omega
          obtain ⟨j, hj, rfl⟩ := hw
          rcases (show j = 0 ∨ j = 1 ∨ j = 2 ∨ j = 3 by omega) with rfl | rfl | rfl | rfl
          · rw [if_pos rfl, ca_cut hF (f := nI 0) (by decide) (by decide) _ (Nat.le_refl _)]
          · rw [if_neg (by decide), if_pos rfl, ca_cut hF (f := nI 1) (by decide) (by decide) _ (Nat.le_refl _)]
          · rw [if_neg (by decide), if_neg (by decide), if_pos rfl, ca_cut hF (f := nI 2) (by decide) (by decide) _ (Nat.le_refl _)]
          · rw [if_neg (by decide), if_neg (by decide), if_neg (by decide), if_pos rfl, ca_cut hF (f := nI 3) (by decide) (by decide) _ (Nat.le_refl _)]
        · rw [if_neg (by rintro (h | h); exact h2 h; exact hb h)]
          have hne : ∀ q, 10 ≤ q → q ≤ 13 → ¬ w0 = nI q := by
            intro q h1 h2 e
            apply hb
            rw [e]
            unfold inB
            apply decide_eq_true
            rw [Int32.lt_iff_toInt_lt, Int32.lt_iff_toInt_lt, nI_toInt (by omega), nI_toInt (by omega), nI_toInt (by omega)]
            omega
          rw [if_neg (hne 10 (by decide) (by decide)), if_neg (hne 11 (by decide) (by decide)), if_neg (hne 12 (by decide) (by decide)), if_neg (hne 13 (by decide) (by decide))]
end NDE
section SVE
variable {n t : Nat} {nb nu : Nat → Int32} {hb : Nat → Bool} {ki fe lm si va he ki' fe' lm' si' va' he' : Nat → Int32} {up lo up' lo' : Nat → Int64}
theorem sco_eq (hn : n ≤ 24) (hN : RNu n nb nu hb) (hF : RFo t ki fe lm si va he up lo ki' fe' lm' si' va' he' up' lo') (hT : RTr t ki) (x : Int32) :
    (if anyB x n = true then scoreM ki' fe' lm' si' va' hb nu t ((atM x).toNatClampNeg / 4) else -10001) = (if rowC x n = -1 then -10001 else scoreC ki fe lm si va nb t (rowC x n).toNatClampNeg) := by
  rcases row_cases (x := x) hn with ⟨ha, r, hr, e1, e2⟩ | ⟨ha, e1⟩
  · rw [if_pos ha, e1, if_neg (nI_ne_m1 (show r < 2 ^ 31 by omega)), e2, nI_clamp (by omega), nI_clamp (by omega), Nat.mul_div_cancel _ (by decide)]
    exact score_eq hn hN hF hT hr
  · rw [ha, e1]; rfl
theorem val_eq (hn : n ≤ 24) (ht : t ≤ 20) (hN : RNu n nb nu hb) (hF : RFo t ki fe lm si va he up lo ki' fe' lm' si' va' he' up' lo') (hT : RTr t ki) (tr0 x : Int32) :
    (if inN tr0 t = true ∧ anyB x n = true then va' (tr0.toNatClampNeg * 15 + vfC ki' (gM fe' lm' si' hb nu ((atM x).toNatClampNeg / 4)) (tr0.toNatClampNeg * 15) 3 0) else -10001) = (if inN tr0 t = true ∧ ¬ rowC x n = -1 then va (tr0.toNatClampNeg * 15 + vfC ki (gC fe lm si nb (rowC x n).toNatClampNeg) (tr0.toNatClampNeg * 15) 3 0) else -10001) := by
  rcases row_cases (x := x) hn with ⟨ha, r, hr, e1, e2⟩ | ⟨ha, e1⟩
  · by_cases h1 : inN tr0 t = true
    · rw [if_pos ⟨h1, ha⟩, e1, if_pos ⟨h1, nI_ne_m1 (show r < 2 ^ 31 by omega)⟩, e2, nI_clamp (show r * 4 < 2 ^ 31 by omega), nI_clamp (show r < 2 ^ 31 by omega), Nat.mul_div_cancel _ (by decide)]
      obtain ⟨i, hi, rfl⟩ := inN_t (by omega) h1
      rw [nI_clamp (by omega)]
      exact vf_eq hn hN hF hT hr hi
    · rw [if_neg (fun z => h1 z.1), if_neg (fun z => h1 z.1)]
  · rw [if_neg (by rw [ha]; exact fun z => absurd z.2 (by decide)), if_neg (fun z => z.2 e1)]
/-- the scores that both take -/
theorem scs_eq (hn : n ≤ 24) (hN : RNu n nb nu hb) (hF : RFo t ki fe lm si va he up lo ki' fe' lm' si' va' he' up' lo') (hT : RTr t ki) (sc sc' : Nat → Int64) : ∀ j, j < n → scT sc' (scoreM ki' fe' lm' si' va' hb nu t) n j = scT sc (scoreC ki fe lm si va nb t) n j := by
  intro j hj
  rw [scT_at _ _ _ _ hj, scT_at _ _ _ _ hj]
  exact score_eq hn hN hF hT (Or.inl hj)
end SVE
