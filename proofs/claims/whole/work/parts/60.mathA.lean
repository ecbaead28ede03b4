/-! class and reference, side by side: what is equal of their states -/
def RTh (n : Nat) (li gr li' gr' : Nat → Int32) : Prop := ∀ j, j < n → li' j = li j ∧ gr' j = gr j ∧ ∃ g, g ≤ 4 ∧ gr j = nI g
def RNu (n : Nat) (nb nu : Nat → Int32) (hb : Nat → Bool) : Prop := ∀ j, j < 100 → (j < n * 4 ∨ 96 ≤ j) → (hb j = true ∧ nu j = nb j ∧ inB (nb j) (-1000) (nI 1000) = true) ∨ (hb j = false ∧ nb j = -1001)
def NodeR (ki fe lm si va he : Nat → Int32) (up lo : Nat → Int64) (ki' fe' lm' si' va' he' : Nat → Int32) (up' lo' : Nat → Int64) (j : Nat) : Prop :=
  ki' j = ki j ∧ (ki j = nI 0 ∨ (ki j = nI 1 ∧ va' j = va j ∧ he' j = he j) ∨ (ki j = nI 2 ∧ fe' j = fe j ∧ lm' j = lm j ∧ si' j = si j ∧ he' j = he j ∧ up' j = up j ∧ lo' j = lo j ∧ ∃ f, f < 4 ∧ fe j = nI f))
def RFo (t : Nat) (ki fe lm si va he : Nat → Int32) (up lo : Nat → Int64) (ki' fe' lm' si' va' he' : Nat → Int32) (up' lo' : Nat → Int64) : Prop := ∀ j, j < t * 15 → NodeR ki fe lm si va he up lo ki' fe' lm' si' va' he' up' lo' j
def RTr (t : Nat) (ki : Nat → Int32) : Prop := ∀ tr, tr < t → ¬ ki (tr * 15) = nI 0 ∧ ∀ k, k < 15 → ki (tr * 15 + k) = nI 2 → k < 7 ∧ ¬ ki (tr * 15 + (2 * k + 1)) = nI 0 ∧ ¬ ki (tr * 15 + (2 * k + 2)) = nI 0
def RSe (se se' : Nat → Int32) : Prop := (∀ j, j < 4 → se' j = se j) ∧ inB (se 0) (nI 0) (nI 1000) = true ∧ inB (se 1) (nI 1) (nI 100) = true ∧ inB (se 2) (nI 1) (nI 3) = true ∧ inB (se 3) (nI 1) (nI 8) = true
theorem n01 : ¬ nI 0 = nI 1 := by decide
theorem n02 : ¬ nI 0 = nI 2 := by decide
theorem n12 : ¬ nI 1 = nI 2 := by decide
theorem n10 : ¬ nI 1 = nI 0 := by decide
theorem n20 : ¬ nI 2 = nI 0 := by decide
theorem n21 : ¬ nI 2 = nI 1 := by decide
/-! ### the path through a tree -/
theorem vf_facts {ki : Nat → Int32} {b : Nat} (h0 : ¬ ki b = nI 0) (hc : ∀ k, k < 15 → ki (b + k) = nI 2 → k < 7 ∧ ¬ ki (b + (2 * k + 1)) = nI 0 ∧ ¬ ki (b + (2 * k + 2)) = nI 0) (g : Nat → Bool) :
    ∀ (d k : Nat), k < 15 → ¬ ki (b + k) = nI 0 → (d = 0 → 7 ≤ k) → (d = 1 → 3 ≤ k) → (d = 2 → 1 ≤ k) → d ≤ 3 → vfC ki g b d k < 15 ∧ ¬ ki (b + vfC ki g b d k) = nI 0 ∧ ¬ ki (b + vfC ki g b d k) = nI 2 := by
  intro d
  induction d with
  | zero =>
    intro k hk hn h7 _ _ _
    refine ⟨hk, hn, fun h2 => ?_⟩
    have := (hc k hk h2).1
    have := h7 rfl
    omega
  | succ d ih =>
    intro k hk hn _ h3 h1 hd
    by_cases h2 : ki (b + k) = nI 2
    · obtain ⟨a1, a2, a3⟩ := hc k hk h2
      have e : vfC ki g b (d + 1) k = vfC ki g b d (if g (b + k) = true then 2 * k + 1 else 2 * k + 2) := by simp [vfC, h2]
      rw [e]
      by_cases hg : g (b + k) = true
      · rw [if_pos hg]
        exact ih _ (by omega) a2 (fun h => by have := h3 (by omega); omega) (fun h => by have := h1 (by omega); omega) (fun h => by omega) (by omega)
      · rw [if_neg hg]
        exact ih _ (by omega) a3 (fun h => by have := h3 (by omega); omega) (fun h => by have := h1 (by omega); omega) (fun h => by omega) (by omega)
    · have e : vfC ki g b (d + 1) k = k := by simp [vfC, h2]
      rw [e]
      exact ⟨hk, hn, h2⟩
theorem vf_congr {ki ki' : Nat → Int32} {g g' : Nat → Bool} {b : Nat} (hc : ∀ k, k < 15 → ki (b + k) = nI 2 → k < 7) (hk : ∀ k, k < 15 → ki' (b + k) = ki (b + k)) (hg : ∀ k, k < 15 → ki (b + k) = nI 2 → g' (b + k) = g (b + k)) :
    ∀ (d k : Nat), k < 15 → vfC ki' g' b d k = vfC ki g b d k := by
  intro d
  induction d with
  | zero => intro k _; rfl
  | succ d ih =>
    intro k h
    by_cases h2 : ki (b + k) = nI 2
    · have h7 := hc k h h2
      simp only [vfC, hk k h, if_pos h2, hg k h h2]
      by_cases hq : g (b + k) = true
      · rw [if_pos hq]; exact ih _ (by omega)
      · rw [if_neg hq]; exact ih _ (by omega)
    · simp only [vfC, hk k h, if_neg h2]
theorem gl_eq {n : Nat} {nb nu : Nat → Int32} {hb : Nat → Bool} (hN : RNu n nb nu hb) {r f : Nat} (hr : r < n ∨ r = 24) (hn : n ≤ 24) (hf : f < 4) (c s : Int32) : glM hb nu r f c s = glC nb r f c s := by
  have hj : r * 4 + f < 100 := by omega
  rcases hN (r * 4 + f) hj (by omega) with ⟨h1, h2, h3⟩ | ⟨h1, h2⟩
  · have hne : ¬ nb (r * 4 + f) = -1001 := by
      intro e
      rw [e] at h3
      exact absurd h3 (by decide)
    simp [glM, glC, h1, h2, hne]
  · simp [glM, glC, h1, h2]
section SCO
variable {n t : Nat} {nb nu : Nat → Int32} {hb : Nat → Bool} {ki fe lm si va he ki' fe' lm' si' va' he' : Nat → Int32} {up lo up' lo' : Nat → Int64}
theorem g_eq (hn : n ≤ 24) (hN : RNu n nb nu hb) (hF : RFo t ki fe lm si va he up lo ki' fe' lm' si' va' he' up' lo') {r : Nat} (hr : r < n ∨ r = 24) {j : Nat} (hj : j < t * 15) (h2 : ki j = nI 2) : gM fe' lm' si' hb nu r j = gC fe lm si nb r j := by
  obtain ⟨-, h⟩ := hF j hj
  rcases h with h | ⟨h, -⟩ | ⟨-, e1, e2, e3, -, -, -, f, hf, e4⟩
  · exact absurd (h.symm.trans h2) n02
  · exact absurd (h.symm.trans h2) n12
  · unfold gM gC
    rw [e1, e2, e3, e4, nI_clamp (by omega)]
    exact gl_eq hN hr hn hf _ _
theorem vf_eq (hn : n ≤ 24) (hN : RNu n nb nu hb) (hF : RFo t ki fe lm si va he up lo ki' fe' lm' si' va' he' up' lo') (hT : RTr t ki) {r : Nat} (hr : r < n ∨ r = 24) {tr : Nat} (htr : tr < t) :
    va' (tr * 15 + vfC ki' (gM fe' lm' si' hb nu r) (tr * 15) 3 0) = va (tr * 15 + vfC ki (gC fe lm si nb r) (tr * 15) 3 0) := by
  obtain ⟨h0, hc⟩ := hT tr htr
  have hb15 : ∀ k, k < 15 → tr * 15 + k < t * 15 := fun k hk => by omega
  rw [vf_congr (ki := ki) (g := gC fe lm si nb r) (fun k hk h2 => (hc k hk h2).1) (fun k hk => (hF _ (hb15 k hk)).1) (fun k hk h2 => g_eq hn hN hF hr (hb15 k hk) h2) 3 0 (by decide)]
  obtain ⟨e1, e2, e3⟩ := vf_facts (b := tr * 15) (by simpa using h0) hc (gC fe lm si nb r) 3 0 (by decide) (by simpa using h0) (by omega) (by omega) (by omega) (by omega)
  obtain ⟨-, h⟩ := hF _ (hb15 _ e1)
  rcases h with h | ⟨-, h, -⟩ | ⟨h, -⟩
  · exact absurd h e2
  · exact h
  · exact absurd h e3
theorem sm_eq (hn : n ≤ 24) (hN : RNu n nb nu hb) (hF : RFo t ki fe lm si va he up lo ki' fe' lm' si' va' he' up' lo') (hT : RTr t ki) {r : Nat} (hr : r < n ∨ r = 24) :
    ∀ k, k ≤ t → smC ki' va' (gM fe' lm' si' hb nu r) k = smC ki va (gC fe lm si nb r) k := by
  intro k
  induction k with
  | zero => intro _; rfl
  | succ k ih =>
    intro hk
    simp only [smC]
    rw [ih (by omega), vf_eq hn hN hF hT hr (show k < t by omega)]
theorem score_eq (hn : n ≤ 24) (hN : RNu n nb nu hb) (hF : RFo t ki fe lm si va he up lo ki' fe' lm' si' va' he' up' lo') (hT : RTr t ki) {r : Nat} (hr : r < n ∨ r = 24) :
    scoreM ki' fe' lm' si' va' hb nu t r = scoreC ki fe lm si va nb t r := sm_eq hn hN hF hT hr t (Nat.le_refl _)
end SCO
theorem scT_at (sc f : Nat → Int64) : ∀ (k j : Nat), j < k → scT sc f k j = f j := by
  intro k
  induction k with
  | zero => intro j h; omega
  | succ k ih =>
    intro j h
    simp only [scT, vp_updL]
    by_cases e : j = k
    · rw [if_pos e, e]
    · rw [if_neg e]; exact ih j (by omega)
theorem upT_at (f q : Nat → Int32) : ∀ (k j : Nat), j < k → upT f k q j = f j := by
  intro k
  induction k with
  | zero => intro j h; omega
  | succ k ih =>
    intro j h
    simp only [upT, upd]
    by_cases e : j = k
    · rw [if_pos e, e]
    · rw [if_neg e]; exact ih j (by omega)
theorem filF_at (f : Nat → Int32) (a : Nat) (v : Int32) : ∀ (k j : Nat), filF f a v k j = if a ≤ j ∧ j < a + k then v else f j := by
  intro k
  induction k with
  | zero => intro j; rw [if_neg (by omega)]; rfl
  | succ k ih =>
    intro j
    simp only [filF, upd]
    by_cases e : j = a + k
    · rw [if_pos e, if_pos (by omega)]
    · rw [if_neg e, ih j]
      by_cases h : a ≤ j ∧ j < a + k
      · rw [if_pos h, if_pos (by omega)]
      · rw [if_neg h, if_neg (by omega)]
theorem filB_at (f : Nat → Bool) (a : Nat) : ∀ (k j : Nat), filB f a k j = if a ≤ j ∧ j < a + k then false else f j := by
  intro k
  induction k with
  | zero => intro j; rw [if_neg (by omega)]; rfl
  | succ k ih =>
    intro j
    simp only [filB, updB]
    by_cases e : j = a + k
    · rw [if_pos e, if_pos (by omega)]
    · rw [if_neg e, ih j]
      by_cases h : a ≤ j ∧ j < a + k
      · rw [if_pos h, if_pos (by omega)]
      · rw [if_neg h, if_neg (by omega)]
theorem clB_at (f : Nat → Bool) : ∀ (k j : Nat), clB f k j = if j < k then false else f j := by
  intro k
  induction k with
  | zero => intro j; rw [if_neg (by omega)]; rfl
  | succ k ih =>
    intro j
    simp only [clB, updB]
    by_cases e : j = k
    · rw [if_pos e, if_pos (by omega)]
    · rw [if_neg e, ih j]
      by_cases h : j < k
      · rw [if_pos h, if_pos (by omega)]
      · rw [if_neg h, if_neg (by omega)]
/-! ### pairs, pushes, ranks -/
theorem pair_eq {n : Nat} {li gr li' gr' : Nat → Int32} (h : RTh n li gr li' gr') {i j : Nat} (hi : i < n) (hj : j < n) : pairB li' gr' i j = pairB li gr i j := by
  unfold pairB
  rw [(h i hi).1, (h j hj).1, (h i hi).2.1, (h j hj).2.1]
theorem i64_not_le {a b : Int64} : ¬ a ≤ b ↔ b < a := by
  rw [Int64.le_iff_toInt_le, Int64.lt_iff_toInt_lt]; omega
theorem i32_asub (a b c : Int32) : a + (b - c) = a + b - c := by
  rw [Int32.sub_eq_add_neg, Int32.sub_eq_add_neg, Int32.add_assoc]
theorem ps_eq {n : Nat} {li gr li' gr' : Nat → Int32} {sc sc' : Nat → Int64} (h : RTh n li gr li' gr') (hs : ∀ j, j < n → sc' j = sc j) (mg : Int32) {i : Nat} (hi : i < n) : ∀ k, k ≤ n → psM li' gr' sc' mg i k = psC li gr sc mg i k := by
  intro k
  induction k with
  | zero => intro _; rfl
  | succ k ih =>
    intro hk
    have hk' : k < n := by omega
    simp only [psM, psC, ppC, ih (by omega), pair_eq h hi hk', pair_eq h hk' hi, hs i hi, hs k hk', (h i hi).2.1, (h k hk').2.1, i64_not_le]
    by_cases h1 : pairB li gr i k = true ∧ sc i - sc k < mg.toInt64
    · by_cases h2 : pairB li gr k i = true ∧ sc k - sc i < mg.toInt64
      · rw [if_pos h1, if_pos h2, if_pos h2, if_pos h1]; exact (i32_asub _ _ _).symm
      · rw [if_pos h1, if_neg h2, if_neg h2, if_pos h1, Int32.sub_zero]
    · by_cases h2 : pairB li gr k i = true ∧ sc k - sc i < mg.toInt64
      · rw [if_neg h1, if_pos h2, if_pos h2, if_neg h1, i32_asub, Int32.add_zero]
      · rw [if_neg h1, if_neg h2, if_neg h2, if_neg h1, Int32.sub_zero, Int32.add_zero]
theorem ah_eq {n : Nat} {li li' : Nat → Int32} {sc sc' : Nat → Int64} {ls : Int32} (h : ∀ j, j < n → li' j = li j) (hs : ∀ j, j < n → sc' j = sc j) {i : Nat} (hi : i < n) (hl : li i = ls) : ∀ k, k ≤ n → raI li' sc' ls i k = ahC li sc i k := by
  intro k
  induction k with
  | zero => intro _; rfl
  | succ k ih =>
    intro hk
    have hk' : k < n := by omega
    simp only [raI, ahC, ih (by omega), h k hk', hs k hk', hs i hi, hl]
    have e : (li k = ls ∧ (sc i < sc k ∨ sc k = sc i ∧ k < i)) ↔ (li k = ls ∧ ahB sc k i = true) := by
      unfold ahB
      by_cases q : sc k = sc i
      · simp only [q, if_pos, decide_eq_true_eq]
        have : ¬ sc i < sc i := by rw [Int64.lt_iff_toInt_lt]; omega
        simp [this]
      · simp only [q, false_and, or_false, if_false, decide_eq_true_eq, ← i64_not_le]
    by_cases q : li k = ls ∧ ahB sc k i = true
    · rw [if_pos q, if_pos (e.mpr q)]
    · rw [if_neg q, if_neg (fun z => q (e.mp z))]
theorem rk_eq {n : Nat} {li li' : Nat → Int32} {sc sc' : Nat → Int64} (h : ∀ j, j < n → li' j = li j) (hs : ∀ j, j < n → sc' j = sc j) (ls k : Int32) : ∀ d i, i + d ≤ n → raM li' sc' n ls k d i = rkC li sc n ls k d i := by
  intro d
  induction d with
  | zero => intro i _; rfl
  | succ d ih =>
    intro i hi
    have hi' : i < n := by omega
    simp only [raM, rkC, h i hi']
    rw [ih (i + 1) (by omega)]
    by_cases hl : li i = ls
    · simp only [hl, true_and, ah_eq h hs hi' hl n (Nat.le_refl _)]
    · simp only [hl, false_and]
theorem cp_eq {n : Nat} {li gr li' gr' : Nat → Int32} {sc sc' : Nat → Int64} (h : RTh n li gr li' gr') (hs : ∀ j, j < n → sc' j = sc j) (ls : Int32) (ow : Bool) : ∀ i, i ≤ n → cpO li' gr' sc' ls ow n i = cpO li gr sc ls ow n i := by
  have hI : ∀ i, i < n → ∀ j, j ≤ n → cpI li' gr' sc' ls ow i j = cpI li gr sc ls ow i j := by
    intro i hi j
    induction j with
    | zero => intro _; rfl
    | succ j ih =>
      intro hj
      have hj' : j < n := by omega
      have e : cpB li' gr' sc' ls ow i j = cpB li gr sc ls ow i j := by unfold cpB; rw [(h i hi).1, pair_eq h hi hj', hs i hi, hs j hj']
      simp only [cpI, e, ih (by omega)]
  intro i
  induction i with
  | zero => intro _; rfl
  | succ i ih => intro hi; simp only [cpO]; rw [ih (by omega), hI i (by omega) n (Nat.le_refl _)]
