/-! ### a node grown -/
theorem pt_at (nb : Nat → Int32) (b1 b2 b3 : Int32) (k : Nat) (pl : Nat → Int32) : ∀ m i, ptC nb b1 b2 b3 k m pl i = if i < m ∧ pl i = nI k then (if glC nb i b1.toNatClampNeg b2 b3 = true then nI (2 * k + 1) else nI (2 * k + 2)) else pl i := by
  intro m
  induction m with
  | zero => intro i; rw [if_neg (by omega)]; rfl
  | succ m ih =>
    intro i
    have hm : ptC nb b1 b2 b3 k m pl m = pl m := by rw [ih m, if_neg (by omega)]
    simp only [ptC, hm]
    by_cases e : pl m = nI k
    · rw [if_pos e]
      simp only [upd]
      by_cases w : i = m
      · subst w
        rw [if_pos rfl, if_pos (show i < i + 1 ∧ pl i = nI k from ⟨by omega, e⟩)]
      · rw [if_neg w, ih i]
        by_cases v : i < m ∧ pl i = nI k
        · rw [if_pos v, if_pos (show i < m + 1 ∧ pl i = nI k from ⟨by omega, v.2⟩)]
        · rw [if_neg v, if_neg (fun z => v ⟨by omega, z.2⟩)]
    · rw [if_neg e, ih i]
      by_cases v : i < m ∧ pl i = nI k
      · rw [if_pos v, if_pos (show i < m + 1 ∧ pl i = nI k from ⟨by omega, v.2⟩)]
      · rw [if_neg v, if_neg (fun z => by
          by_cases w : i = m
          · rw [w] at z; exact e z.2
          · exact v ⟨by omega, z.2⟩)]
theorem ptM_at (hb : Nat → Bool) (nu : Nat → Int32) (b1 b2 b3 : Int32) (k : Nat) (pl : Nat → Int32) : ∀ m i, ptM hb nu b1 b2 b3 k m pl i = if i < m ∧ pl i = nI k then (if glM hb nu i b1.toNatClampNeg b2 b3 = true then nI (2 * k + 1) else nI (2 * k + 2)) else pl i := by
  intro m
  induction m with
  | zero => intro i; rw [if_neg (by omega)]; rfl
  | succ m ih =>
    intro i
    have hm : ptM hb nu b1 b2 b3 k m pl m = pl m := by rw [ih m, if_neg (by omega)]
    simp only [ptM, hm]
    by_cases e : pl m = nI k
    · rw [if_pos e]
      simp only [upd]
      by_cases w : i = m
      · subst w
        rw [if_pos rfl, if_pos (show i < i + 1 ∧ pl i = nI k from ⟨by omega, e⟩)]
      · rw [if_neg w, ih i]
        by_cases v : i < m ∧ pl i = nI k
        · rw [if_pos v, if_pos (show i < m + 1 ∧ pl i = nI k from ⟨by omega, v.2⟩)]
        · rw [if_neg v, if_neg (fun z => v ⟨by omega, z.2⟩)]
    · rw [if_neg e, ih i]
      by_cases v : i < m ∧ pl i = nI k
      · rw [if_pos v, if_pos (show i < m + 1 ∧ pl i = nI k from ⟨by omega, v.2⟩)]
      · rw [if_neg v, if_neg (fun z => by
          by_cases w : i = m
          · rw [w] at z; exact e z.2
          · exact v ⟨by omega, z.2⟩)]
theorem gaH_pos {pl : Nat → Int32} {k : Nat} : ∀ n i, i < n → pl i = nI k → 1 ≤ gaH pl k n := by
  intro n
  induction n with
  | zero => intro i h; omega
  | succ n ih =>
    intro i hi e
    simp only [gaH]
    by_cases w : pl n = nI k
    · rw [if_pos w]; omega
    · rw [if_neg w]
      exact ih i (by
        by_cases v : i = n
        · rw [v] at e; exact absurd e w
        · omega) e
def GR (n t : Nat) (ki0 : Nat → Int32) (k : Nat) (S : GS) (S' : MG) : Prop :=
  (∀ i, i < n → S'.1 i = S.1 i) ∧
  (∀ j, j < t * 15 + k → NodeR S.2.2.1 S.2.2.2.1 S.2.2.2.2.1 S.2.2.2.2.2.1 S.2.2.2.2.2.2.1 S.2.2.2.2.2.2.2.1 S.2.2.2.2.2.2.2.2.1 S.2.2.2.2.2.2.2.2.2 S'.2.2.1 S'.2.2.2.1 S'.2.2.2.2.1 S'.2.2.2.2.2.1 S'.2.2.2.2.2.2.1 S'.2.2.2.2.2.2.2.1 S'.2.2.2.2.2.2.2.2.1 S'.2.2.2.2.2.2.2.2.2 j) ∧
  (∀ j, j < t * 15 → S.2.2.1 j = ki0 j) ∧
  (∀ c, k ≤ c → c < 15 → S.2.2.1 (t * 15 + c) = nI 0) ∧
  (k = 0 → ∃ i, i < n ∧ S.1 i = nI 0) ∧ (1 ≤ k → ¬ S.2.2.1 (t * 15) = nI 0) ∧
  ∀ c, c < k → S.2.2.1 (t * 15 + c) = nI 2 → c < 7 ∧ ∀ e, (e = 2 * c + 1 ∨ e = 2 * c + 2) → (e < k → ¬ S.2.2.1 (t * 15 + e) = nI 0) ∧ (k ≤ e → ∃ i, i < n ∧ S.1 i = nI e)
theorem NodeR.other {ki fe lm si va he : Nat → Int32} {up lo : Nat → Int64} {ki' fe' lm' si' va' he' : Nat → Int32} {up' lo' : Nat → Int64} {kiA feA lmA siA vaA heA : Nat → Int32} {upA loA : Nat → Int64} {kiB feB lmB siB vaB heB : Nat → Int32} {upB loB : Nat → Int64} {j : Nat}
    (h : NodeR ki fe lm si va he up lo ki' fe' lm' si' va' he' up' lo' j) (e : kiA j = ki j ∧ feA j = fe j ∧ lmA j = lm j ∧ siA j = si j ∧ vaA j = va j ∧ heA j = he j ∧ upA j = up j ∧ loA j = lo j) (e' : kiB j = ki' j ∧ feB j = fe' j ∧ lmB j = lm' j ∧ siB j = si' j ∧ vaB j = va' j ∧ heB j = he' j ∧ upB j = up' j ∧ loB j = lo' j) :
    NodeR kiA feA lmA siA vaA heA upA loA kiB feB lmB siB vaB heB upB loB j := by
  obtain ⟨a1, a2, a3, a4, a5, a6, a7, a8⟩ := e
  obtain ⟨b1, b2, b3, b4, b5, b6, b7, b8⟩ := e'
  unfold NodeR
  rw [a1, a2, a3, a4, a5, a6, a7, a8, b1, b2, b3, b4, b5, b6, b7, b8]
  exact h
theorem upd_ne {f : Nat → Int32} {k : Nat} {x : Int32} {j : Nat} (h : ¬ j = k) : upd f k x j = f j := by unfold upd; rw [if_neg h]
theorem upd_self {f : Nat → Int32} {k : Nat} {x : Int32} : upd f k x k = x := by unfold upd; rw [if_pos rfl]
theorem updL_ne {f : Nat → Int64} {k : Nat} {x : Int64} {j : Nat} (h : ¬ j = k) : vp_updL f k x j = f j := by unfold vp_updL; rw [if_neg h]
theorem updL_self {f : Nat → Int64} {k : Nat} {x : Int64} : vp_updL f k x k = x := by unfold vp_updL; rw [if_pos rfl]
def stC2 (n : Nat) (nb pu se : Nat → Int32) (t k : Nat) (S : GS) : GS := if nI (gaH S.1 k n) ≤ 0 then S else gnC n nb pu (gaH S.1 k n) (gaS pu S.1 k n) se t k S
theorem gtC_succ (n : Nat) (nb pu se : Nat → Int32) (t k : Nat) (S : GS) : gtC n nb pu se t (k + 1) S = stC2 n nb pu se t k (gtC n nb pu se t k S) := rfl
theorem le3 {se se' : Nat → Int32} (hS : RSe se se') : (se 2).toInt ≤ 3 ∧ 1 ≤ (se 3).toInt ∧ (se 3).toInt ≤ 8 ∧ 1 ≤ (se 1).toInt ∧ (se 1).toInt ≤ 100 := by
  obtain ⟨-, -, h1, h2, h3⟩ := hS
  unfold inB at h1 h2 h3
  have h1 := of_decide_eq_true h1
  have h2 := of_decide_eq_true h2
  have h3 := of_decide_eq_true h3
  rw [Int32.lt_iff_toInt_lt, Int32.lt_iff_toInt_lt] at h1 h2 h3
  have e1 : (nI 1).toInt = 1 := by decide
  have e3 : (nI 3).toInt = 3 := by decide
  have e8 : (nI 8).toInt = 8 := by decide
  have e100 : (nI 100).toInt = 100 := by decide
  omega
theorem dp7 {k : Nat} {x : Int32} (h : ¬ x ≤ nI (dpN k)) (hx : x.toInt ≤ 3) : k < 7 := by
  rw [Int32.le_iff_toInt_le] at h
  unfold dpN at h
  by_cases h0 : k = 0
  · omega
  · rw [if_neg h0] at h
    by_cases h1 : k ≤ 2
    · omega
    · rw [if_neg h1] at h
      by_cases h2 : k ≤ 6
      · omega
      · rw [if_neg h2] at h
        have e3 : (nI 3).toInt = 3 := by decide
        omega
section STEP
variable {n t : Nat} {nb nu pu pu' se se' ki0 : Nat → Int32} {hb : Nat → Bool} {k : Nat}
theorem GR.leaf0 (hk : k < 15) {S : GS} {S' : MG} (h : GR n t ki0 k S S') (hg : gaH S.1 k n = 0) : GR n t ki0 (k + 1) S (S'.1, S'.2.1, upd S'.2.2.1 (t * 15 + k) (nI 0), S'.2.2.2.1, S'.2.2.2.2.1, S'.2.2.2.2.2.1, S'.2.2.2.2.2.2.1, upd S'.2.2.2.2.2.2.2.1 (t * 15 + k) (nI 0), S'.2.2.2.2.2.2.2.2.1, S'.2.2.2.2.2.2.2.2.2) := by
  obtain ⟨h1, h2, h3, h4, h5, h6, h7⟩ := h
  have noi : ∀ i, i < n → ¬ S.1 i = nI k := fun i hi e => by have := gaH_pos n i hi e; omega
  refine ⟨h1, fun j hj => ?_, h3, fun c hc => h4 c (by omega), fun z => absurd z (by omega), fun _ => ?_, fun c hc e2 => ?_⟩
  · by_cases w : j = t * 15 + k
    · subst w
      refine ⟨?_, Or.inl (h4 k (Nat.le_refl _) hk)⟩
      show upd S'.2.2.1 (t * 15 + k) (nI 0) (t * 15 + k) = S.2.2.1 (t * 15 + k)
      rw [upd_self, h4 k (Nat.le_refl _) hk]
    · exact (h2 j (by omega)).other ⟨rfl, rfl, rfl, rfl, rfl, rfl, rfl, rfl⟩ ⟨upd_ne w, rfl, rfl, rfl, rfl, upd_ne w, rfl, rfl⟩
  · by_cases w : k = 0
    · obtain ⟨i, hi, e⟩ := h5 w
      rw [← w] at e
      exact absurd e (noi i hi)
    · exact h6 (by omega)
  · by_cases w : c = k
    · rw [w, h4 k (Nat.le_refl _) hk] at e2
      exact absurd e2 n02
    · obtain ⟨a, b⟩ := h7 c (by omega) e2
      refine ⟨a, fun e he => ⟨fun z => ?_, fun z => (b e he).2 (by omega)⟩⟩
      by_cases v : e = k
      · obtain ⟨i, hi, q⟩ := (b e he).2 (by omega)
        rw [v] at q
        exact absurd q (noi i hi)
      · exact (b e he).1 (by omega)
theorem GR.node (hk : k < 15) {S T : GS} {S' T' : MG} (h : GR n t ki0 k S S') (hpos : 1 ≤ gaH S.1 k n)
    (eS : ∀ j, ¬ j = t * 15 + k → T.2.2.1 j = S.2.2.1 j ∧ T.2.2.2.1 j = S.2.2.2.1 j ∧ T.2.2.2.2.1 j = S.2.2.2.2.1 j ∧ T.2.2.2.2.2.1 j = S.2.2.2.2.2.1 j ∧ T.2.2.2.2.2.2.1 j = S.2.2.2.2.2.2.1 j ∧ T.2.2.2.2.2.2.2.1 j = S.2.2.2.2.2.2.2.1 j ∧ T.2.2.2.2.2.2.2.2.1 j = S.2.2.2.2.2.2.2.2.1 j ∧ T.2.2.2.2.2.2.2.2.2 j = S.2.2.2.2.2.2.2.2.2 j)
    (eS' : ∀ j, ¬ j = t * 15 + k → T'.2.2.1 j = S'.2.2.1 j ∧ T'.2.2.2.1 j = S'.2.2.2.1 j ∧ T'.2.2.2.2.1 j = S'.2.2.2.2.1 j ∧ T'.2.2.2.2.2.1 j = S'.2.2.2.2.2.1 j ∧ T'.2.2.2.2.2.2.1 j = S'.2.2.2.2.2.2.1 j ∧ T'.2.2.2.2.2.2.2.1 j = S'.2.2.2.2.2.2.2.1 j ∧ T'.2.2.2.2.2.2.2.2.1 j = S'.2.2.2.2.2.2.2.2.1 j ∧ T'.2.2.2.2.2.2.2.2.2 j = S'.2.2.2.2.2.2.2.2.2 j)
    (hp : ∀ i, i < n → T'.1 i = T.1 i) (hq : ∀ i, i < n → ¬ S.1 i = nI k → T.1 i = S.1 i)
    (hn : NodeR T.2.2.1 T.2.2.2.1 T.2.2.2.2.1 T.2.2.2.2.2.1 T.2.2.2.2.2.2.1 T.2.2.2.2.2.2.2.1 T.2.2.2.2.2.2.2.2.1 T.2.2.2.2.2.2.2.2.2 T'.2.2.1 T'.2.2.2.1 T'.2.2.2.2.1 T'.2.2.2.2.2.1 T'.2.2.2.2.2.2.1 T'.2.2.2.2.2.2.2.1 T'.2.2.2.2.2.2.2.2.1 T'.2.2.2.2.2.2.2.2.2 (t * 15 + k)) (h0 : ¬ T.2.2.1 (t * 15 + k) = nI 0)
    (hc : T.2.2.1 (t * 15 + k) = nI 2 → k < 7 ∧ (∃ i, i < n ∧ T.1 i = nI (2 * k + 1)) ∧ ∃ i, i < n ∧ T.1 i = nI (2 * k + 2)) : GR n t ki0 (k + 1) T T' := by
  obtain ⟨h1, h2, h3, h4, h5, h6, h7⟩ := h
  refine ⟨hp, fun j hj => ?_, fun j hj => by rw [(eS j (by omega)).1]; exact h3 j hj, fun c hc1 hc2 => by rw [(eS _ (by omega)).1]; exact h4 c (by omega) hc2, fun z => absurd z (by omega), fun _ => ?_, fun c hc1 e2 => ?_⟩
  · by_cases w : j = t * 15 + k
    · rw [w]; exact hn
    · exact (h2 j (by omega)).other (eS j w) (eS' j w)
  · by_cases w : k = 0
    · have e : t * 15 = t * 15 + k := by omega
      rw [e]; exact h0
    · rw [(eS _ (by omega)).1]; exact h6 (by omega)
  · by_cases w : c = k
    · subst w
      obtain ⟨a, b, d⟩ := hc e2
      refine ⟨a, fun e he => ⟨fun z => ?_, fun _ => ?_⟩⟩
      · omega
      · rcases he with rfl | rfl
        · exact b
        · exact d
    · rw [(eS _ (by omega)).1] at e2
      obtain ⟨a, b⟩ := h7 c (by omega) e2
      refine ⟨a, fun e he => ⟨fun z => ?_, fun z => ?_⟩⟩
      · by_cases v : e = k
        · rw [v]; exact h0
        · rw [(eS _ (by omega)).1]; exact (b e he).1 (by omega)
      · obtain ⟨i, hi, q⟩ := (b e he).2 (by omega)
        exact ⟨i, hi, by rw [hq i hi (by rw [q, nI_eq (by omega) (by omega)]; omega)]; exact q⟩
end STEP
