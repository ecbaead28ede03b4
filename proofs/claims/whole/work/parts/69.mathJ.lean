/-! ### a tree grown by both -/
section GROW
variable {n t : Nat} {nb nu pu pu' se se' ki0 : Nat → Int32} {hb : Nat → Bool} {k : Nat}
theorem rep_gc {U V : Qc → Int64} {OK : Qc → Bool} (H : HQ U V OK) {B : MS} {o : Option Qc} (h : RepM U V OK B o) : gcOk B := by
  intro hz
  cases o with
  | none => exact absurd (by rw [(h.1 rfl).1]; exact Int64.le_refl _) hz
  | some p =>
    obtain ⟨-, -, op, rfl⟩ := h.2 p rfl
    obtain ⟨u1, u2, v1, v2⟩ := H p op
    refine ⟨gcT_mono 30 100 _ _ (by decide) (gcT_ok 15 _ _ (by decide) (show 0 ≤ (U p).toInt by omega) (show (U p).toInt ≤ 2 ^ 60 by omega) (show 0 ≤ (V p).toInt by omega) (show (V p).toInt < 2 ^ 15 by omega)), fun z => ?_⟩
    have := gcC_pos 100 (U p) (V p) u1 (by omega) (by omega) (by omega)
    rw [show gcC 100 (U p) (V p) = 0 from z] at this
    exact absurd this (by decide)
theorem GR.step (hn : n ≤ 24) (hN : RNu n nb nu hb) (hp : HPu n pu) (hpu : ∀ i, i < n → pu' i = pu i) (hS : RSe se se') (hk : k < 15) {S : GS} {S' : MG} (h : GR n t ki0 k S S') :
    GR n t ki0 (k + 1) (stC2 n nb pu se t k S) (mnC n nu hb pu' se' t k S') ∧ gcOk (mnB n S'.1 pu' nu hb se' k S'.2.1) := by
  have h1 := h.1
  have eg : gaH S'.1 k n = gaH S.1 k n := gaH_congr h1 k n (Nat.le_refl _)
  have es : gaS pu' S'.1 k n = gaS pu S.1 k n := gaS_congr h1 hpu k n (Nat.le_refl _)
  have hgl := gaH_le S.1 k n
  obtain ⟨l3, l1, l8, a1, a100⟩ := le3 hS
  obtain ⟨o, rC, rM, hd⟩ := search_eq (k := k) hn hN hp h1 hpu hS (false, S.2.1.2) rfl S'.2.1
  have HH := HQ_q (pl := S.1) (nb := nb) (k := k) hn hp ⟨l1, l8⟩
  refine ⟨?_, rep_gc HH rM⟩
  by_cases hg : gaH S.1 k n = 0
  · have e1 : stC2 n nb pu se t k S = S := by unfold stC2; rw [hg]; rfl
    have e2 : mnC n nu hb pu' se' t k S' = (S'.1, S'.2.1, upd S'.2.2.1 (t * 15 + k) (nI 0), S'.2.2.2.1, S'.2.2.2.2.1, S'.2.2.2.2.2.1, S'.2.2.2.2.2.2.1, upd S'.2.2.2.2.2.2.2.1 (t * 15 + k) (nI 0), S'.2.2.2.2.2.2.2.2.1, S'.2.2.2.2.2.2.2.2.2) := by
      unfold mnC
      rw [eg, hg, if_pos nI_0]
    rw [e1, e2]
    exact h.leaf0 hk hg
  · have hpos : 1 ≤ gaH S.1 k n := by omega
    have g0 : ¬ nI (gaH S.1 k n) ≤ 0 := by rw [← nI_0, nI_leI (by omega) (by omega)]; omega
    have g1 : ¬ nI (gaH S.1 k n) = 0 := by rw [← nI_0, nI_eq (by omega) (by omega)]; omega
    have e1 : stC2 n nb pu se t k S = gnC n nb pu (gaH S.1 k n) (gaS pu S.1 k n) se t k S := by unfold stC2; rw [if_neg g0]
    rw [e1]
    cases o with
    | none =>
      have c1 : (sbC n S.1 nb pu (gaH S.1 k n) (gaS pu S.1 k n) k se (false, S.2.1.2)).1 = false := rC.1 rfl
      have c2 := (rM.1 rfl).1
      have e2 : gnC n nb pu (gaH S.1 k n) (gaS pu S.1 k n) se t k S = (S.1, sbC n S.1 nb pu (gaH S.1 k n) (gaS pu S.1 k n) k se (false, S.2.1.2), upd S.2.2.1 (t * 15 + k) (nI 1), S.2.2.2.1, S.2.2.2.2.1, S.2.2.2.2.2.1, upd S.2.2.2.2.2.2.1 (t * 15 + k) (lvC se (gaS pu S.1 k n) (gaH S.1 k n)), upd S.2.2.2.2.2.2.2.1 (t * 15 + k) (nI (gaH S.1 k n)), S.2.2.2.2.2.2.2.2.1, S.2.2.2.2.2.2.2.2.2) := by
        unfold gnC
        rw [if_neg (by rw [c1]; decide)]
      have e3 : mnC n nu hb pu' se' t k S' = (S'.1, mnB n S'.1 pu' nu hb se' k S'.2.1, upd S'.2.2.1 (t * 15 + k) (nI 1), S'.2.2.2.1, S'.2.2.2.2.1, S'.2.2.2.2.2.1, upd S'.2.2.2.2.2.2.1 (t * 15 + k) (flM (se' 1 * gaS pu' S'.1 k n) (nI (gaH S'.1 k n))), upd S'.2.2.2.2.2.2.2.1 (t * 15 + k) (nI (gaH S'.1 k n)), S'.2.2.2.2.2.2.2.2.1, S'.2.2.2.2.2.2.2.2.2) := by
        unfold mnC
        rw [if_neg (by rw [eg]; exact g1), if_pos (by rw [c2]; exact Int64.le_refl _)]
      rw [e2, e3]
      refine h.node hk hpos (fun j w => ⟨upd_ne w, rfl, rfl, rfl, upd_ne w, upd_ne w, rfl, rfl⟩) (fun j w => ⟨upd_ne w, rfl, rfl, rfl, upd_ne w, upd_ne w, rfl, rfl⟩) h1 (fun _ _ _ => rfl) ⟨?_, Or.inr (Or.inl ⟨upd_self, ?_, ?_⟩)⟩ (by show ¬ upd _ _ _ _ = _; rw [upd_self]; exact n10) (fun z => ?_)
      · show upd _ _ _ _ = upd _ _ _ _
        rw [upd_self, upd_self]
      · show upd _ _ _ _ = upd _ _ _ _
        rw [upd_self, upd_self, eg, es, hS.1 1 (by decide)]
        unfold lvC
        rw [if_neg g0]
        obtain ⟨-, b1, b2⟩ := tS_both (pl := S.1) hn hp k n (Nat.le_refl _)
        obtain ⟨m1, m2⟩ := mul_bd (x := (se 1).toInt) (y := (gaS pu S.1 k n).toInt) (X := 100) (Y := 2304) (by omega) (by omega) (by omega) (by omega)
        have em : (se 1 * gaS pu S.1 k n).toInt = (se 1).toInt * (gaS pu S.1 k n).toInt := i32_mul (by omega) (by omega)
        exact fl_eq (by rw [em]; omega) (by rw [nI_toInt (by omega)]; omega)
      · show upd _ _ _ _ = upd _ _ _ _
        rw [upd_self, upd_self, eg]
      · have z' : upd S.2.2.1 (t * 15 + k) (nI 1) (t * 15 + k) = nI 2 := z
        rw [upd_self] at z'
        exact absurd z' n12
    | some p =>
      obtain ⟨p1, p2, op, hC⟩ := rC.2 p rfl
      obtain ⟨-, -, -, hM⟩ := rM.2 p rfl
      obtain ⟨u1, u2, v1, v2⟩ := HH p op
      have vl := ((qO_iff hn hp p).mp op).1
      have hg1 := gcC_pos 100 (qU n S.1 nb pu (gaH S.1 k n) (gaS pu S.1 k n) k p) (qV n S.1 nb (gaH S.1 k n) k p) u1 (by omega) (by omega) (by omega)
      have e2 : gnC n nb pu (gaH S.1 k n) (gaS pu S.1 k n) se t k S = (ptC nb (nI p.1) p.2.1 (nI p.2.2) k n S.1, sbC n S.1 nb pu (gaH S.1 k n) (gaS pu S.1 k n) k se (false, S.2.1.2), upd S.2.2.1 (t * 15 + k) (nI 2), upd S.2.2.2.1 (t * 15 + k) (nI p.1), upd S.2.2.2.2.1 (t * 15 + k) p.2.1, upd S.2.2.2.2.2.1 (t * 15 + k) (nI p.2.2), S.2.2.2.2.2.2.1, upd S.2.2.2.2.2.2.2.1 (t * 15 + k) (nI (gaH S.1 k n)),
          vp_updL S.2.2.2.2.2.2.2.2.1 (t * 15 + k) (redC (gcC 100 (qU n S.1 nb pu (gaH S.1 k n) (gaS pu S.1 k n) k p) (qV n S.1 nb (gaH S.1 k n) k p)) (qU n S.1 nb pu (gaH S.1 k n) (gaS pu S.1 k n) k p)), vp_updL S.2.2.2.2.2.2.2.2.2 (t * 15 + k) (redC (gcC 100 (qU n S.1 nb pu (gaH S.1 k n) (gaS pu S.1 k n) k p) (qV n S.1 nb (gaH S.1 k n) k p)) (qV n S.1 nb (gaH S.1 k n) k p))) := by
        unfold gnC
        rw [hC, if_pos rfl]
      have e3 : mnC n nu hb pu' se' t k S' = (ptM hb nu (nI p.1) p.2.1 (nI p.2.2) k n S'.1, mnB n S'.1 pu' nu hb se' k S'.2.1, upd (upd S'.2.2.1 (t * 15 + k) (nI 1)) (t * 15 + k) (nI 2), upd S'.2.2.2.1 (t * 15 + k) (nI p.1), upd S'.2.2.2.2.1 (t * 15 + k) p.2.1, upd S'.2.2.2.2.2.1 (t * 15 + k) (nI p.2.2), upd S'.2.2.2.2.2.2.1 (t * 15 + k) (flM (se' 1 * gaS pu' S'.1 k n) (nI (gaH S'.1 k n))), upd S'.2.2.2.2.2.2.2.1 (t * 15 + k) (nI (gaH S'.1 k n)),
          vp_updL S'.2.2.2.2.2.2.2.2.1 (t * 15 + k) (qU n S.1 nb pu (gaH S.1 k n) (gaS pu S.1 k n) k p / gcC 100 (qU n S.1 nb pu (gaH S.1 k n) (gaS pu S.1 k n) k p) (qV n S.1 nb (gaH S.1 k n) k p)), vp_updL S'.2.2.2.2.2.2.2.2.2 (t * 15 + k) (qV n S.1 nb (gaH S.1 k n) k p / gcC 100 (qU n S.1 nb pu (gaH S.1 k n) (gaS pu S.1 k n) k p) (qV n S.1 nb (gaH S.1 k n) k p))) := by
        unfold mnC
        rw [if_neg (by rw [eg]; exact g1), hM, if_neg (by show ¬ qU n S.1 nb pu (gaH S.1 k n) (gaS pu S.1 k n) k p ≤ 0; rw [Int64.le_iff_toInt_le, i64_zero]; omega)]
      rw [e2, e3]
      have hgl2 : ∀ i, i < n → glM hb nu i p.1 p.2.1 (nI p.2.2) = glC nb i p.1 p.2.1 (nI p.2.2) := fun i hi => gl_eq hN (Or.inl hi) hn p1 _ _
      have hpc : (nI p.1).toNatClampNeg = p.1 := nI_clamp (by omega)
      refine h.node hk hpos (fun j w => ⟨upd_ne w, upd_ne w, upd_ne w, upd_ne w, rfl, upd_ne w, updL_ne w, updL_ne w⟩) (fun j w => ⟨by show upd (upd _ _ _) _ _ _ = _; rw [upd_ne w, upd_ne w], upd_ne w, upd_ne w, upd_ne w, upd_ne w, upd_ne w, updL_ne w, updL_ne w⟩) (fun i hi => ?_) (fun i hi z => ?_) ⟨?_, Or.inr (Or.inr ⟨upd_self, ?_, ?_, ?_, ?_, ?_, ?_, p.1, p1, upd_self⟩)⟩ (by show ¬ upd _ _ _ _ = _; rw [upd_self]; exact n20) (fun _ => ?_)
      · show ptM hb nu (nI p.1) p.2.1 (nI p.2.2) k n S'.1 i = ptC nb (nI p.1) p.2.1 (nI p.2.2) k n S.1 i
        rw [ptM_at, pt_at, h1 i hi, hpc, hgl2 i hi]
      · show ptC nb (nI p.1) p.2.1 (nI p.2.2) k n S.1 i = S.1 i
        rw [pt_at, if_neg (fun w => z w.2)]
      · show upd (upd _ _ _) _ _ _ = upd _ _ _ _
        rw [upd_self, upd_self]
      · show upd _ _ _ _ = upd _ _ _ _
        rw [upd_self, upd_self]
      · show upd _ _ _ _ = upd _ _ _ _
        rw [upd_self, upd_self]
      · show upd _ _ _ _ = upd _ _ _ _
        rw [upd_self, upd_self]
      · show upd _ _ _ _ = upd _ _ _ _
        rw [upd_self, upd_self, eg]
      · show vp_updL _ _ _ _ = vp_updL _ _ _ _
        rw [updL_self, updL_self, red_eq hg1]
      · show vp_updL _ _ _ _ = vp_updL _ _ _ _
        rw [updL_self, updL_self, red_eq hg1]
      · refine ⟨dp7 (hd (by simp)) l3, ?_, ?_⟩
        · obtain ⟨v1, -, -, -⟩ := VL_ints hn ⟨l1, l8⟩ vl
          obtain ⟨i, hi, q1, q2⟩ := tcL_pos (pl := S.1) (nb := nb) (k := k) (f := p.1) (cv := p.2.1) (sd := nI p.2.2) n hn (by show 1 ≤ (qL n S.1 nb k p).toInt; omega)
          refine ⟨i, hi, ?_⟩
          show ptC nb (nI p.1) p.2.1 (nI p.2.2) k n S.1 i = _
          rw [pt_at, if_pos (show i < n ∧ S.1 i = nI k from ⟨hi, q1⟩), hpc, if_pos q2]
        · obtain ⟨-, v2, -, -⟩ := VL_ints hn ⟨l1, l8⟩ vl
          obtain ⟨i, hi, q1, q2⟩ := tcR_pos (pl := S.1) (nb := nb) (k := k) (f := p.1) (cv := p.2.1) (sd := nI p.2.2) n hn (by show 1 ≤ (gaH S.1 k n : Int) - (qL n S.1 nb k p).toInt; omega)
          refine ⟨i, hi, ?_⟩
          show ptC nb (nI p.1) p.2.1 (nI p.2.2) k n S.1 i = _
          rw [pt_at, if_pos (show i < n ∧ S.1 i = nI k from ⟨hi, q1⟩), hpc, if_neg q2]
theorem GR.all (hn : n ≤ 24) (hN : RNu n nb nu hb) (hp : HPu n pu) (hpu : ∀ i, i < n → pu' i = pu i) (hS : RSe se se') {S : GS} {S' : MG} (h : GR n t ki0 0 S S') :
    ∀ k, k ≤ 15 → GR n t ki0 k (gtC n nb pu se t k S) (mtC n nu hb pu' se' t k S') := by
  intro k
  induction k with
  | zero => intro _; exact h
  | succ k ih => intro hk; rw [gtC_succ]; exact (GR.step hn hN hp hpu hS (by omega) (ih (by omega))).1
theorem st_keep (S : GS) (j : Nat) (hj : ¬ j = t * 15 + k) : (stC2 n nb pu se t k S).2.2.1 j = S.2.2.1 j := by
  unfold stC2
  by_cases h : nI (gaH S.1 k n) ≤ 0
  · rw [if_pos h]
  · rw [if_neg h]
    unfold gnC
    by_cases q : (sbC n S.1 nb pu (gaH S.1 k n) (gaS pu S.1 k n) k se (false, S.2.1.2)).1 = true
    · rw [if_pos q]; exact upd_ne hj
    · rw [if_neg q]; exact upd_ne hj
theorem gt_keep (S : GS) {j m : Nat} (hj : j < t * 15 + m) : ∀ d, (gtC n nb pu se t (m + d) S).2.2.1 j = (gtC n nb pu se t m S).2.2.1 j := by
  intro d
  induction d with
  | zero => rfl
  | succ d ih => rw [show m + (d + 1) = (m + d) + 1 from rfl, gtC_succ, st_keep _ _ (by omega), ih]
theorem lf_eq (hn : n ≤ 24) (hN : RNu n nb nu hb) (hp : HPu n pu) (hpu : ∀ i, i < n → pu' i = pu i) (hS : RSe se se') {S : GS} {S' : MG} (h : GR n t ki0 0 S S') :
    ∀ k, k ≤ 15 → lfM n nu hb pu' se' t S' k = clC (gtC n nb pu se t 15 S).2.2.1 (t * 15) k := by
  intro k
  induction k with
  | zero => intro _; rfl
  | succ k ih =>
    intro hk
    have h1 := ((GR.all hn hN hp hpu hS h (k + 1) hk).2.1 (t * 15 + k) (by omega)).1
    have h2 := gt_keep (n := n) (nb := nb) (pu := pu) (se := se) (t := t) S (j := t * 15 + k) (m := k + 1) (by omega) (15 - (k + 1))
    rw [show k + 1 + (15 - (k + 1)) = 15 by omega] at h2
    simp only [lfM, clC, ih (by omega), h1, h2]
end GROW
/-- the whole of grow -/
theorem grow_eq {n t : Nat} {li gr nb li' gr' nu se se' pl no pu pu' : Nat → Int32} {hb : Nat → Bool} {ki fe lm si va he ki' fe' lm' si' va' he' : Nat → Int32} {up lo up' lo' : Nat → Int64} {sc sc' : Nat → Int64} (B : BS) (B' : MS)
    (hn : n ≤ 24) (hz : 0 < n) (hT : RTh n li gr li' gr') (hN : RNu n nb nu hb) (hF : RFo t ki fe lm si va he up lo ki' fe' lm' si' va' he' up' lo') (hR : RTr t ki) (hS : RSe se se') (hs : ∀ j, j < n → sc' j = sc j) :
    GR n t ki 15 (gtC n nb (upT (fun i => psC li gr sc (se 0) i n) n pu) se t 15 (upT (fun _ => nI 0) n pl, B, filF ki (t * 15) (nI 0) 15, fe, lm, si, va, he, up, lo)) (mtC n nu hb (upT (fun i => psM li' gr' sc' (se' 0) i n) n pu') se' t 15 (upT (fun _ => nI 0) n no, B', ki', fe', lm', si', va', he', up', lo')) ∧
    (∀ k, k < 15 → gcOk (mnB n (mtC n nu hb (upT (fun i => psM li' gr' sc' (se' 0) i n) n pu') se' t k (upT (fun _ => nI 0) n no, B', ki', fe', lm', si', va', he', up', lo')).1 (upT (fun i => psM li' gr' sc' (se' 0) i n) n pu') nu hb se' k (mtC n nu hb (upT (fun i => psM li' gr' sc' (se' 0) i n) n pu') se' t k (upT (fun _ => nI 0) n no, B', ki', fe', lm', si', va', he', up', lo')).2.1)) ∧
    lfM n nu hb (upT (fun i => psM li' gr' sc' (se' 0) i n) n pu') se' t (upT (fun _ => nI 0) n no, B', ki', fe', lm', si', va', he', up', lo') 15 = clC (gtC n nb (upT (fun i => psC li gr sc (se 0) i n) n pu) se t 15 (upT (fun _ => nI 0) n pl, B, filF ki (t * 15) (nI 0) 15, fe, lm, si, va, he, up, lo)).2.2.1 (t * 15) 15 := by
  have hP : HPu n (upT (fun i => psC li gr sc (se 0) i n) n pu) := by
    intro i hi
    rw [upT_at _ _ _ _ hi]
    have := ps_int hn hT sc (se 0) hi n (Nat.le_refl _)
    omega
  have hpu : ∀ i, i < n → upT (fun i => psM li' gr' sc' (se' 0) i n) n pu' i = upT (fun i => psC li gr sc (se 0) i n) n pu i := by
    intro i hi
    rw [upT_at _ _ _ _ hi, upT_at _ _ _ _ hi, hS.1 0 (by decide)]
    exact ps_eq hT hs (se 0) hi n (Nat.le_refl _)
  have h0 : GR n t ki 0 (upT (fun _ => nI 0) n pl, B, filF ki (t * 15) (nI 0) 15, fe, lm, si, va, he, up, lo) (upT (fun _ => nI 0) n no, B', ki', fe', lm', si', va', he', up', lo') := by
    refine ⟨fun i hi => ?_, fun j hj => ?_, fun j hj => ?_, fun c _ hc => ?_, fun _ => ⟨0, hz, ?_⟩, fun z => absurd z (by omega), fun c hc => absurd hc (by omega)⟩
    · show upT _ n no i = upT _ n pl i
      rw [upT_at _ _ _ _ hi, upT_at _ _ _ _ hi]
    · refine (hF j (by omega)).other ⟨?_, rfl, rfl, rfl, rfl, rfl, rfl, rfl⟩ ⟨rfl, rfl, rfl, rfl, rfl, rfl, rfl, rfl⟩
      show filF ki (t * 15) (nI 0) 15 j = ki j
      rw [filF_at, if_neg (by omega)]
    · show filF ki (t * 15) (nI 0) 15 j = ki j
      rw [filF_at, if_neg (by omega)]
    · show filF ki (t * 15) (nI 0) 15 (t * 15 + c) = nI 0
      rw [filF_at, if_pos (by omega)]
    · show upT _ n pl 0 = nI 0
      rw [upT_at _ _ _ _ hz]
  exact ⟨GR.all hn hN hP hpu hS h0 15 (Nat.le_refl _), fun k hk => (GR.step hn hN hP hpu hS hk (GR.all hn hN hP hpu hS h0 k (by omega))).2, lf_eq hn hN hP hpu hS h0 15 (Nat.le_refl _)⟩
theorem GR.tr {n t : Nat} {ki0 : Nat → Int32} {S : GS} {S' : MG} (h : GR n t ki0 15 S S') (hR : RTr t ki0) : RTr (t + 1) S.2.2.1 := by
  obtain ⟨-, -, h3, -, -, h6, h7⟩ := h
  intro tr htr
  by_cases e : tr = t
  · subst e
    refine ⟨h6 (by decide), fun k hk e2 => ?_⟩
    obtain ⟨a, b⟩ := h7 k hk e2
    exact ⟨a, (b _ (Or.inl rfl)).1 (by omega), (b _ (Or.inr rfl)).1 (by omega)⟩
  · have ht : tr < t := by omega
    obtain ⟨a, b⟩ := hR tr ht
    refine ⟨by rw [h3 _ (by omega)]; exact a, fun k hk e2 => ?_⟩
    rw [h3 _ (by omega)] at e2
    obtain ⟨c, d, e⟩ := b k hk e2
    exact ⟨c, by rw [h3 _ (by omega)]; exact d, by rw [h3 _ (by omega)]; exact e⟩
theorem GR.fo {n t : Nat} {ki0 : Nat → Int32} {S : GS} {S' : MG} (h : GR n t ki0 15 S S') : RFo (t + 1) S.2.2.1 S.2.2.2.1 S.2.2.2.2.1 S.2.2.2.2.2.1 S.2.2.2.2.2.2.1 S.2.2.2.2.2.2.2.1 S.2.2.2.2.2.2.2.2.1 S.2.2.2.2.2.2.2.2.2 S'.2.2.1 S'.2.2.2.1 S'.2.2.2.2.1 S'.2.2.2.2.2.1 S'.2.2.2.2.2.2.1 S'.2.2.2.2.2.2.2.1 S'.2.2.2.2.2.2.2.2.1 S'.2.2.2.2.2.2.2.2.2 := fun j hj => h.2.1 j (by omega)
