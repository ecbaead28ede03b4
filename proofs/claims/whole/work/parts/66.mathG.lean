/-! ### both searches end at the one best -/
/-- a cut that a node could have -/
def Cnd (n : Nat) (pl nb : Nat → Int32) (k : Nat) (q : Qc) : Prop := q.2.2 < 2 ∧ q.1 < 4 ∧ ∃ i, i < n ∧ pl i = nI k ∧ ¬ nb (i * 4 + q.1) = -1001 ∧ q.2.1 = nb (i * 4 + q.1)
section SRC
variable {n : Nat} {pl nb pu : Nat → Int32} {gh : Nat} {gs : Int32} {k : Nat} {le : Int32}
theorem sd_best (H : HQ (qU n pl nb pu gh gs k) (qV n pl nb gh k) (qO n pl nb pu gh gs k le)) {f : Nat} (hf : f < 4) {cv : Int32} {B : BS} {o : Option Qc} {P : Qc → Prop} (hr : RepC (qU n pl nb pu gh gs k) (qV n pl nb gh k) (qO n pl nb pu gh gs k le) B o) (hb : Best (qU n pl nb pu gh gs k) (qV n pl nb gh k) (qO n pl nb pu gh gs k le) o P) :
    ∀ j, j ≤ 2 → ∃ o', RepC (qU n pl nb pu gh gs k) (qV n pl nb gh k) (qO n pl nb pu gh gs k le) (sdC n pl nb pu gh gs k le f cv j B) o' ∧ Best (qU n pl nb pu gh gs k) (qV n pl nb gh k) (qO n pl nb pu gh gs k le) o' (fun q => P q ∨ (q.1 = f ∧ q.2.1 = cv ∧ q.2.2 < j)) := by
  intro j
  induction j with
  | zero => intro _; exact ⟨o, hr, hb.iff (fun q => ⟨Or.inl, fun z => z.elim id (fun z => absurd z.2.2 (by omega))⟩)⟩
  | succ j ih =>
    intro hj
    obtain ⟨o1, r1, b1⟩ := ih (by omega)
    obtain ⟨o2, s2, r2⟩ := r1.step H (q := (f, cv, j)) hf (show j < 2 by omega)
    refine ⟨o2, r2, (b1.step H s2).iff (fun q => ?_)⟩
    constructor
    · rintro ((z | ⟨z1, z2, z3⟩) | rfl)
      · exact Or.inl z
      · exact Or.inr ⟨z1, z2, by omega⟩
      · exact Or.inr ⟨rfl, rfl, by simp⟩
    · rintro (z | ⟨z1, z2, z3⟩)
      · exact Or.inl (Or.inl z)
      · by_cases e : q.2.2 = j
        · exact Or.inr (Prod.ext z1 (Prod.ext z2 e))
        · exact Or.inl (Or.inr ⟨z1, z2, by omega⟩)
theorem skI_best (H : HQ (qU n pl nb pu gh gs k) (qV n pl nb gh k) (qO n pl nb pu gh gs k le)) {f : Nat} (hf : f < 4) {B : BS} {o : Option Qc} {P : Qc → Prop} (hr : RepC (qU n pl nb pu gh gs k) (qV n pl nb gh k) (qO n pl nb pu gh gs k le) B o) (hb : Best (qU n pl nb pu gh gs k) (qV n pl nb gh k) (qO n pl nb pu gh gs k le) o P) :
    ∀ i, ∃ o', RepC (qU n pl nb pu gh gs k) (qV n pl nb gh k) (qO n pl nb pu gh gs k le) (skI n pl nb pu gh gs k le f i B) o' ∧ Best (qU n pl nb pu gh gs k) (qV n pl nb gh k) (qO n pl nb pu gh gs k le) o' (fun q => P q ∨ (q.1 = f ∧ q.2.2 < 2 ∧ ∃ i', i' < i ∧ pl i' = nI k ∧ ¬ nb (i' * 4 + q.1) = -1001 ∧ q.2.1 = nb (i' * 4 + q.1))) := by
  intro i
  induction i with
  | zero => exact ⟨o, hr, hb.iff (fun q => ⟨Or.inl, fun z => z.elim id (fun ⟨_, _, i', h, _⟩ => absurd h (by omega))⟩)⟩
  | succ i ih =>
    obtain ⟨o1, r1, b1⟩ := ih
    by_cases e : pl i = nI k ∧ ¬ nb (i * 4 + f) = -1001
    · obtain ⟨o2, r2, b2⟩ := sd_best H hf (cv := nb (i * 4 + f)) r1 b1 2 (Nat.le_refl _)
      refine ⟨o2, by simp only [skI, if_pos e]; exact r2, b2.iff (fun q => ?_)⟩
      constructor
      · rintro ((z | ⟨z1, z2, i', z3, z4⟩) | ⟨z1, z2, z3⟩)
        · exact Or.inl z
        · exact Or.inr ⟨z1, z2, i', by omega, z4⟩
        · exact Or.inr ⟨z1, z3, i, by omega, e.1, by rw [z1]; exact e.2, by rw [z1]; exact z2⟩
      · rintro (z | ⟨z1, z2, i', z3, z4, z5, z6⟩)
        · exact Or.inl (Or.inl z)
        · by_cases w : i' = i
          · exact Or.inr ⟨z1, by rw [z6, w, z1], z2⟩
          · exact Or.inl (Or.inr ⟨z1, z2, i', by omega, z4, z5, z6⟩)
    · refine ⟨o1, by simp only [skI, if_neg e]; exact r1, b1.iff (fun q => ?_)⟩
      constructor
      · rintro (z | ⟨z1, z2, i', z3, z4⟩)
        · exact Or.inl z
        · exact Or.inr ⟨z1, z2, i', by omega, z4⟩
      · rintro (z | ⟨z1, z2, i', z3, z4, z5, z6⟩)
        · exact Or.inl z
        · by_cases w : i' = i
          · exact absurd ⟨by rw [← w]; exact z4, by rw [← w, ← z1]; exact z5⟩ e
          · exact Or.inr ⟨z1, z2, i', by omega, z4, z5, z6⟩
theorem skF_best (H : HQ (qU n pl nb pu gh gs k) (qV n pl nb gh k) (qO n pl nb pu gh gs k le)) {B : BS} (hB : B.1 = false) :
    ∀ f, f ≤ 4 → ∃ o', RepC (qU n pl nb pu gh gs k) (qV n pl nb gh k) (qO n pl nb pu gh gs k le) (skF n pl nb pu gh gs k le f B) o' ∧ Best (qU n pl nb pu gh gs k) (qV n pl nb gh k) (qO n pl nb pu gh gs k le) o' (fun q => q.1 < f ∧ Cnd n pl nb k q) := by
  intro f
  induction f with
  | zero => intro _; exact ⟨none, ⟨fun _ => hB, fun p e => nomatch e⟩, Best.none _ (fun q z => absurd z.1 (by omega))⟩
  | succ f ih =>
    intro hf
    obtain ⟨o1, r1, b1⟩ := ih (by omega)
    obtain ⟨o2, r2, b2⟩ := skI_best H (f := f) (by omega) r1 b1 n
    refine ⟨o2, r2, b2.iff (fun q => ?_)⟩
    constructor
    · rintro (⟨z1, z2⟩ | ⟨z1, z2, z3⟩)
      · exact ⟨by omega, z2⟩
      · exact ⟨by omega, z2, by omega, z3⟩
    · rintro ⟨z1, z2, z3, z4⟩
      by_cases e : q.1 = f
      · exact Or.inr ⟨e, z2, z4⟩
      · exact Or.inl ⟨by omega, z2, z3, z4⟩
end SRC
theorem nx_spec {no nu : Nat → Int32} {hb : Nat → Bool} {k f : Nat} {c : Int32} : ∀ i,
    (∀ j, j < i → no j = nI k → hb (j * 4 + f) = true → ¬ nu (j * 4 + f) ≤ c → nxM no nu hb k f c i ≤ nu (j * 4 + f)) ∧
    (nxM no nu hb k f c i = nI 1001 ∨ ∃ j, j < i ∧ no j = nI k ∧ hb (j * 4 + f) = true ∧ ¬ nu (j * 4 + f) ≤ c ∧ nxM no nu hb k f c i = nu (j * 4 + f)) := by
  intro i
  induction i with
  | zero => exact ⟨fun j h => absurd h (by omega), Or.inl rfl⟩
  | succ i ih =>
    obtain ⟨h1, h2⟩ := ih
    by_cases e : no i = nI k ∧ hb (i * 4 + f) = true ∧ ¬ nu (i * 4 + f) ≤ c ∧ ¬ nxM no nu hb k f c i ≤ nu (i * 4 + f)
    · simp only [nxM, if_pos e]
      refine ⟨fun j hj a b d => ?_, Or.inr ⟨i, by omega, e.1, e.2.1, e.2.2.1, rfl⟩⟩
      by_cases w : j = i
      · rw [w]; exact Int32.le_refl _
      · have h3 := h1 j (by omega) a b d
        have h4 := e.2.2.2
        rw [Int32.le_iff_toInt_le] at h3 h4 ⊢
        omega
    · simp only [nxM, if_neg e]
      refine ⟨fun j hj a b d => ?_, ?_⟩
      · by_cases w : j = i
        · subst w
          by_cases q : nxM no nu hb k f c j ≤ nu (j * 4 + f)
          · exact q
          · exact absurd ⟨a, b, d, q⟩ e
        · exact h1 j (by omega) a b d
      · rcases h2 with z | ⟨j, z1, z2⟩
        · exact Or.inl z
        · exact Or.inr ⟨j, by omega, z2⟩
section SRM
variable {n : Nat} {pl nb pu no pu' nu : Nat → Int32} {hb : Nat → Bool} {k : Nat} {le : Int32}
/-- the reference's look at a candidate, in the class's words -/
theorem tr_q (hn : n ≤ 24) (hN : RNu n nb nu hb) (hp : HPu n pu) (hpl : ∀ i, i < n → no i = pl i) (hpu : ∀ i, i < n → pu' i = pu i) {f : Nat} (hf : f < 4) (cv : Int32) (j : Nat) (B : MS) :
    trB n no pu' nu hb le k f cv (nI j) B = trV le (nI f) cv (nI j) (qL n pl nb k (f, cv, j)) (qS n pl nb pu k (f, cv, j)) (nI (gaH pl k n)).toInt64 (gaS pu pl k n).toInt64 B := by
  have hg : ∀ i, i < n → glM hb nu i f cv (nI j) = glC nb i f cv (nI j) := fun i hi => gl_eq hN (Or.inl hi) hn hf _ _
  have hp' : HPu n pu' := fun i hi => by rw [hpu i hi]; exact hp i hi
  unfold trB
  rw [tl_eq hpl hg n (Nat.le_refl _), ts_eq hpl hpu hg n (Nat.le_refl _), ta_eq no k n hn, tS_eq hn hp' k, gaH_congr hpl k n (Nat.le_refl _), gaS_congr hpl hpu k n (Nat.le_refl _)]
  rfl
theorem RepM.tr (hn : n ≤ 24) (hN : RNu n nb nu hb) (hp : HPu n pu) (hpl : ∀ i, i < n → no i = pl i) (hpu : ∀ i, i < n → pu' i = pu i) (hl : 1 ≤ le.toInt ∧ le.toInt ≤ 8) {f : Nat} (hf : f < 4) {cv : Int32} {j : Nat} (hj : j < 2) {B : MS} {o : Option Qc}
    (h : RepM (qU n pl nb pu (gaH pl k n) (gaS pu pl k n) k) (qV n pl nb (gaH pl k n) k) (qO n pl nb pu (gaH pl k n) (gaS pu pl k n) k le) B o) (hk : ∀ p, o = some p → kl p (f, cv, j)) :
    ∃ o', StQ (qU n pl nb pu (gaH pl k n) (gaS pu pl k n) k) (qV n pl nb (gaH pl k n) k) (qO n pl nb pu (gaH pl k n) (gaS pu pl k n) k le) (f, cv, j) o o' ∧ RepM (qU n pl nb pu (gaH pl k n) (gaS pu pl k n) k) (qV n pl nb (gaH pl k n) k) (qO n pl nb pu (gaH pl k n) (gaS pu pl k n) k le) (trB n no pu' nu hb le k f cv (nI j) B) o' := by
  rw [tr_q hn hN hp hpl hpu hf]
  refine h.step (HQ_q hn hp hl) (VL := VLq n pl nb (gaH pl k n) k le) hf hj hk (qO_iff hn hp _) (fun z => VL_V hn hl z) (fun z => ?_) (fun z1 z2 => ?_) (fun z1 z2 => ?_)
  · unfold trV
    rw [if_pos]
    by_cases w : qL n pl nb k (f, cv, j) < le.toInt64
    · exact Or.inl w
    · exact Or.inr (fun v => z ⟨w, v⟩)
  · unfold trV
    rw [if_neg (by rintro (w | w); exact z1.1 w; exact w z1.2)]
    exact if_pos z2
  · unfold trV
    rw [if_neg (by rintro (w | w); exact z1.1 w; exact w z1.2)]
    exact if_neg z2
theorem wh_best (hn : n ≤ 24) (hN : RNu n nb nu hb) (hp : HPu n pu) (hpl : ∀ i, i < n → no i = pl i) (hpu : ∀ i, i < n → pu' i = pu i) (hl : 1 ≤ le.toInt ∧ le.toInt ≤ 8) {f : Nat} (hf : f < 4) :
    ∀ (d : Nat) (c : Int32) (B : MS) (o : Option Qc), ctM no nu hb k f c n < d → c ≤ nI 1001 →
      RepM (qU n pl nb pu (gaH pl k n) (gaS pu pl k n) k) (qV n pl nb (gaH pl k n) k) (qO n pl nb pu (gaH pl k n) (gaS pu pl k n) k le) B o →
      Best (qU n pl nb pu (gaH pl k n) (gaS pu pl k n) k) (qV n pl nb (gaH pl k n) k) (qO n pl nb pu (gaH pl k n) (gaS pu pl k n) k le) o (fun q => (q.1 < f ∧ Cnd n pl nb k q) ∨ (q.1 = f ∧ Cnd n pl nb k q ∧ q.2.1.toInt ≤ c.toInt)) →
      ∃ o', RepM (qU n pl nb pu (gaH pl k n) (gaS pu pl k n) k) (qV n pl nb (gaH pl k n) k) (qO n pl nb pu (gaH pl k n) (gaS pu pl k n) k le) (whM n no pu' nu hb le k f d c B) o' ∧
        Best (qU n pl nb pu (gaH pl k n) (gaS pu pl k n) k) (qV n pl nb (gaH pl k n) k) (qO n pl nb pu (gaH pl k n) (gaS pu pl k n) k le) o' (fun q => q.1 < f + 1 ∧ Cnd n pl nb k q) := by
  have num : ∀ i, i < n → (hb (i * 4 + f) = true ↔ ¬ nb (i * 4 + f) = -1001) ∧ (hb (i * 4 + f) = true → nu (i * 4 + f) = nb (i * 4 + f) ∧ (nb (i * 4 + f)).toInt ≤ 1000) := by
    intro i hi
    rcases hN (i * 4 + f) (by omega) (by omega) with ⟨q1, q2, q3⟩ | ⟨q1, q2⟩
    · have hne : ¬ nb (i * 4 + f) = -1001 := by
        intro e
        rw [e] at q3
        exact absurd q3 (by decide)
      refine ⟨⟨fun _ => hne, fun _ => q1⟩, fun _ => ⟨q2, ?_⟩⟩
      unfold inB at q3
      have q4 := (of_decide_eq_true q3).2
      rw [Int32.lt_iff_toInt_lt] at q4
      have e : (nI 1000).toInt = 1000 := by decide
      omega
    · have qf : ¬ hb (i * 4 + f) = true := by rw [q1]; decide
      exact ⟨⟨fun z => absurd z qf, fun z => absurd q2 z⟩, fun z => absurd z qf⟩
  have e1001 : (nI 1001).toInt = 1001 := by decide
  intro d
  induction d with
  | zero => intro c B o h; exact absurd h (by omega)
  | succ d ih =>
    intro c B o hct hc hr hbs
    obtain ⟨s1, s2⟩ := nx_spec (no := no) (nu := nu) (hb := hb) (k := k) (f := f) (c := c) n
    by_cases hX : nI 1001 ≤ nxM no nu hb k f c n
    · refine ⟨o, by simp only [whM, if_pos hX]; exact hr, hbs.iff (fun q => ?_)⟩
      constructor
      · rintro (⟨z1, z2⟩ | ⟨z1, z2, -⟩)
        · exact ⟨by omega, z2⟩
        · exact ⟨by omega, z2⟩
      · rintro ⟨z1, z2⟩
        by_cases e : q.1 = f
        · refine Or.inr ⟨e, z2, ?_⟩
          obtain ⟨w1, w2, i, w3, w4, w5, w6⟩ := z2
          by_cases g : q.2.1.toInt ≤ c.toInt
          · exact g
          · exfalso
            rw [e] at w5 w6
            have hb1 := (num i w3).1.mpr w5
            obtain ⟨n1, n2⟩ := (num i w3).2 hb1
            have h3 := s1 i w3 ((hpl i w3).trans w4) hb1 (by rw [n1, ← w6, Int32.le_iff_toInt_le]; exact g)
            rw [Int32.le_iff_toInt_le] at h3 hX
            rw [n1] at h3
            omega
        · exact Or.inl ⟨by omega, z2⟩
    · simp only [whM, if_neg hX]
      have hdec := ct_dec (no := no) (nu := nu) (hb := hb) (k := k) (f := f) n hc hX
      have hle := nx_le (no := no) (nu := nu) (hb := hb) (k := k) (f := f) (c := c) n
      rcases s2 with z | ⟨i, i1, i2, i3, i4, i5⟩
      · exact absurd (by rw [z]; exact Int32.le_refl _) hX
      obtain ⟨n1, n2⟩ := (num i i1).2 i3
      have i6 : ¬ nb (i * 4 + f) = -1001 := (num i i1).1.mp i3
      generalize hXe : nxM no nu hb k f c n = X at *
      have hcX : c.toInt < X.toInt := by
        rw [i5]
        rw [Int32.le_iff_toInt_le] at i4
        omega
      have hbelow : ∀ q, ((q.1 < f ∧ Cnd n pl nb k q) ∨ (q.1 = f ∧ Cnd n pl nb k q ∧ q.2.1.toInt ≤ c.toInt)) → ∀ j, kl q (f, X, j) := by
        rintro q (⟨z1, -⟩ | ⟨z1, -, z3⟩) j
        · exact Or.inl z1
        · exact Or.inr ⟨z1, Or.inl (show q.2.1.toInt < X.toInt by omega)⟩
      obtain ⟨o1, t1, r1⟩ := RepM.tr hn hN hp hpl hpu hl hf (cv := X) (j := 0) (by decide) hr (fun p e => hbelow p (hbs.2 p e).1 0)
      have b1 := hbs.step (HQ_q hn hp hl) t1
      obtain ⟨o2, t2, r2⟩ := RepM.tr hn hN hp hpl hpu hl hf (cv := X) (j := 1) (by decide) r1 (fun p e => by
        rcases (b1.2 p e).1 with z | rfl
        · exact hbelow p z 1
        · exact Or.inr ⟨rfl, Or.inr ⟨rfl, Nat.zero_lt_one⟩⟩)
      have b2 := b1.step (HQ_q hn hp hl) t2
      refine ih X _ o2 (by omega) hle r2 (b2.iff (fun q => ?_))
      constructor
      · rintro (((⟨z1, z2⟩ | ⟨z1, z2, z3⟩) | rfl) | rfl)
        · exact Or.inl ⟨z1, z2⟩
        · exact Or.inr ⟨z1, z2, by omega⟩
        · exact Or.inr ⟨rfl, ⟨(by decide : 0 < 2), hf, i, i1, (hpl i i1).symm.trans i2, i6, by rw [i5, n1]⟩, Int.le_refl _⟩
        · exact Or.inr ⟨rfl, ⟨(by decide : 1 < 2), hf, i, i1, (hpl i i1).symm.trans i2, i6, by rw [i5, n1]⟩, Int.le_refl _⟩
      · rintro (⟨z1, z2⟩ | ⟨z1, z2, z3⟩)
        · exact Or.inl (Or.inl (Or.inl ⟨z1, z2⟩))
        · by_cases g : q.2.1.toInt ≤ c.toInt
          · exact Or.inl (Or.inl (Or.inr ⟨z1, z2, g⟩))
          · obtain ⟨w1, w2, i', w3, w4, w5, w6⟩ := z2
            rw [z1] at w5 w6
            have hb1 := (num i' w3).1.mpr w5
            obtain ⟨m1, m2⟩ := (num i' w3).2 hb1
            have h3 := s1 i' w3 ((hpl i' w3).trans w4) hb1 (by rw [m1, ← w6, Int32.le_iff_toInt_le]; exact g)
            rw [m1, ← w6, Int32.le_iff_toInt_le] at h3
            have ec : q.2.1 = X := Int32.toInt_inj.mp (by omega)
            rcases (show q.2.2 = 0 ∨ q.2.2 = 1 by omega) with v | v
            · exact Or.inl (Or.inr (Prod.ext z1 (Prod.ext ec v)))
            · exact Or.inr (Prod.ext z1 (Prod.ext ec v))
theorem fk_best (hn : n ≤ 24) (hN : RNu n nb nu hb) (hp : HPu n pu) (hpl : ∀ i, i < n → no i = pl i) (hpu : ∀ i, i < n → pu' i = pu i) {se : Nat → Int32} (hl : 1 ≤ (se 3).toInt ∧ (se 3).toInt ≤ 8) (hd : ¬ se 2 ≤ nI (dpN k)) {B : MS} (hB : B.2.2.2.1 = 0 ∧ B.2.2.2.2 = 1) :
    ∀ f, f ≤ 4 → ∃ o', RepM (qU n pl nb pu (gaH pl k n) (gaS pu pl k n) k) (qV n pl nb (gaH pl k n) k) (qO n pl nb pu (gaH pl k n) (gaS pu pl k n) k (se 3)) (fkM n no pu' nu hb se k f B) o' ∧
      Best (qU n pl nb pu (gaH pl k n) (gaS pu pl k n) k) (qV n pl nb (gaH pl k n) k) (qO n pl nb pu (gaH pl k n) (gaS pu pl k n) k (se 3)) o' (fun q => q.1 < f ∧ Cnd n pl nb k q) := by
  intro f
  induction f with
  | zero => intro _; exact ⟨none, ⟨fun _ => hB, fun p e => nomatch e⟩, Best.none _ (fun q z => absurd z.1 (by omega))⟩
  | succ f ih =>
    intro hf
    obtain ⟨o1, r1, b1⟩ := ih (by omega)
    simp only [fkM, if_neg hd]
    refine wh_best hn hN hp hpl hpu hl (f := f) (by omega) (n + 1) (-1001) _ o1 (by have := ct_le no nu hb k f (-1001) n; omega) (by decide) r1 (b1.iff (fun q => ?_))
    constructor
    · intro z; exact Or.inl z
    · rintro (z | ⟨z1, ⟨w1, w2, i, w3, w4, w5, w6⟩, z3⟩)
      · exact z
      · exfalso
        rcases hN (i * 4 + q.1) (by omega) (by omega) with ⟨q1, q2, q3⟩ | ⟨q1, q2⟩
        · unfold inB at q3
          have q4 := (of_decide_eq_true q3).1
          rw [Int32.lt_iff_toInt_lt] at q4
          have e : (-1000 : Int32).toInt = -1000 := by decide
          have e2 : (-1001 : Int32).toInt = -1001 := by decide
          rw [w6] at z3
          omega
        · exact w5 q2
end SRM
/-- the two searches of a node -/
theorem search_eq {n : Nat} {pl nb pu no pu' nu : Nat → Int32} {hb : Nat → Bool} {k : Nat} {se se' : Nat → Int32} (hn : n ≤ 24) (hN : RNu n nb nu hb) (hp : HPu n pu) (hpl : ∀ i, i < n → no i = pl i) (hpu : ∀ i, i < n → pu' i = pu i) (hS : RSe se se') (BC : BS) (hBC : BC.1 = false) (BM : MS) :
    ∃ o : Option Qc, RepC (qU n pl nb pu (gaH pl k n) (gaS pu pl k n) k) (qV n pl nb (gaH pl k n) k) (qO n pl nb pu (gaH pl k n) (gaS pu pl k n) k (se 3)) (sbC n pl nb pu (gaH pl k n) (gaS pu pl k n) k se BC) o ∧
      RepM (qU n pl nb pu (gaH pl k n) (gaS pu pl k n) k) (qV n pl nb (gaH pl k n) k) (qO n pl nb pu (gaH pl k n) (gaS pu pl k n) k (se 3)) (mnB n no pu' nu hb se' k BM) o ∧ (o ≠ none → ¬ se 2 ≤ nI (dpN k)) := by
  obtain ⟨h0, -, -, -, h8⟩ := hS
  have hl : 1 ≤ (se 3).toInt ∧ (se 3).toInt ≤ 8 := by
    unfold inB at h8
    have h8 := of_decide_eq_true h8
    rw [Int32.lt_iff_toInt_lt, Int32.lt_iff_toInt_lt] at h8
    have e1 : (nI 1).toInt = 1 := by decide
    have e8 : (nI 8).toInt = 8 := by decide
    omega
  have hl' : 1 ≤ (se' 3).toInt ∧ (se' 3).toInt ≤ 8 := by rw [h0 3 (by decide)]; exact hl
  unfold sbC mnB
  by_cases hd : se 2 ≤ nI (dpN k)
  · refine ⟨none, ?_, ?_, fun z => absurd rfl z⟩
    · rw [if_pos hd]; exact ⟨fun _ => hBC, fun p e => nomatch e⟩
    · have hd' : se' 2 ≤ nI (dpN k) := by rw [h0 2 (by decide)]; exact hd
      have : ∀ f B, fkM n no pu' nu hb se' k f B = B := by
        intro f B
        induction f with
        | zero => rfl
        | succ f ih => simp only [fkM, if_pos hd', ih]
      rw [this]
      exact ⟨fun _ => ⟨rfl, rfl⟩, fun p e => nomatch e⟩
  · have hd' : ¬ se' 2 ≤ nI (dpN k) := by rw [h0 2 (by decide)]; exact hd
    obtain ⟨o1, r1, b1⟩ := skF_best (HQ_q (pl := pl) (nb := nb) (k := k) hn hp hl) hBC 4 (Nat.le_refl _)
    obtain ⟨o2, r2, b2⟩ := fk_best hn hN hp hpl hpu hl' hd' (k := k) (B := (BM.1, BM.2.1, BM.2.2.1, 0, 1)) ⟨rfl, rfl⟩ 4 (Nat.le_refl _)
    rw [h0 3 (by decide)] at r2 b2
    have e : o1 = o2 := b1.uniq b2
    subst e
    exact ⟨o1, by rw [if_neg hd]; exact r1, r2, fun _ => hd⟩
