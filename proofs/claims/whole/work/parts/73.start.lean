/-! ### what holds at the law's entry -/
theorem len_spec2 {tm : Term} {args : Array Value} {s : State} {N : Nat} (hN : N < 2 ^ 31) (h : (Term.length tm).eval args s none [] s = some (.int (Int32.ofNat N))) :
    ∃ a cell, tm.eval args s none [] s = some (.ref a) ∧ s.arrayAt? a = some cell ∧ cell.slots.size = N := by
  simp only [Term.eval, Option.bind_eq_bind] at h
  cases ht : tm.eval args s none [] s with
  | none => simp [ht] at h
  | some x =>
    cases x <;> simp [ht] at h
    case ref a =>
      obtain ⟨cell, hcell, h⟩ := Option.bind_eq_some_iff.mp h
      by_cases hn : cell.slots.size < 2147483648
      · rw [if_pos hn] at h
        have h1 : cell.slots.size.toInt32 = Int32.ofNat N := by simpa using h
        have h2 : (nI cell.slots.size) = nI N := h1
        exact ⟨a, cell, rfl, hcell, (nI_eq (by omega) hN).mp h2⟩
      · rw [if_neg hn] at h; cases h
theorem eq_eval {t u : Term} {args : Array Value} {s : State} {v : Value} (h : (Cond.eq t u).before args s = true) (hu : u.eval args s none [] s = some v) : t.eval args s none [] s = some v :=
  va_eqI (by simpa [Cond.before, Cond.holds] using h) hu
theorem sx_make {n : String} {f : Nat → Int32} {A : Nat → Prop} {args : Array Value} {s : State} (hl : (Cond.laysStatic "PairedTrees" n "[I").before args s = true) (hini : (Cond.initialized "PairedTrees").before args s = true)
    (harr : (Cond.arrayOf (.static "PairedTrees" n "[I") .int).before args s = true) (hlen : (Cond.eq (.length (.static "PairedTrees" n "[I")) (.int 4)).before args s = true)
    (hel : ∀ j, j < 4 → (Cond.eq (.elem (.static "PairedTrees" n "[I") (.int (Int32.ofNat j))) (.int (f j))).before args s = true) (hA : ∀ a : Nat, a < s.heap.size → ¬ A a) : sxX n f A s ∧ sxA n f A s := by
  have hl4 : (Term.length (.static "PairedTrees" n "[I")).eval args s none [] s = some (.int (Int32.ofNat 4)) := eq_eval hlen rfl
  have he : ∀ j, j < 4 → (Term.elem (.static "PairedTrees" n "[I") (.int (Int32.ofNat j))).eval args s none [] s = some (.int (f j)) := fun j hj => eq_eval (hel j hj) rfl
  obtain ⟨t, ht, hT⟩ := va_Tof (A := A) (f := fun j => .int (f j)) (by decide) harr hl4 he hA
  have hZ := va_Zof (A := A) hl hini ht hA
  obtain ⟨a2, cell2, ht2, hat, hsz⟩ := len_spec2 (by decide) hl4
  cases ht.symm.trans ht2
  obtain ⟨hc2, -, -, -⟩ := State.arrayAt?_spec hat
  obtain ⟨cell, h1, h2, h3, h4, h5, h6, h7⟩ := id hT
  have e9 : cell2 = cell := Option.some.inj (hc2.symm.trans h1)
  rw [e9] at hsz
  exact ⟨⟨t, hZ, ⟨cell, h1, h2, h3, hsz, h6⟩, h7, (Array.getElem?_eq_some_iff.mp h1).1⟩, t, hZ, hT⟩
theorem sxS_make {k : Nat} {tx : String} {args : Array Value} {s : State} (h1 : (Cond.stringRef "PairedTrees" k tx).before args s = true) (h2 : (Cond.exactly (.string "PairedTrees" k) "java/lang/String").before args s = true) : sxS k tx s := by
  obtain ⟨a, c, cell, kk, ha, -⟩ := Cond.exactly_spec h2
  exact ⟨a, vk_R.of h1 ha⟩
theorem el4 {n : String} {f : Nat → Int32} {args : Array Value} {s : State} (h0 : (Cond.eq (.elem (.static "PairedTrees" n "[I") (.int 0)) (.int (f 0))).before args s = true) (h1 : (Cond.eq (.elem (.static "PairedTrees" n "[I") (.int 1)) (.int (f 1))).before args s = true) (h2 : (Cond.eq (.elem (.static "PairedTrees" n "[I") (.int 2)) (.int (f 2))).before args s = true) (h3 : (Cond.eq (.elem (.static "PairedTrees" n "[I") (.int 3)) (.int (f 3))).before args s = true) :
    ∀ j, j < 4 → (Cond.eq (.elem (.static "PairedTrees" n "[I") (.int (Int32.ofNat j))) (.int (f j))).before args s = true := by
  intro j hj
  rcases (show j = 0 ∨ j = 1 ∨ j = 2 ∨ j = 3 by omega) with rfl | rfl | rfl | rfl
  · exact h0
  · exact h1
  · exact h2
  · exact h3
theorem exW_in : ∀ w ∈ exW, w ∈ lw_tbl := by decide +kernel
theorem SX_start {s : State} {args : Array Value} (hts : ∀ w ∈ lw_tbl, w.before args s = true) (hgv : (Jvm.Cond.and given_1 narrow_1).before args s = true) : SX (fun q => s.heap.size ≤ q) s := by
  have hA : ∀ a : Nat, a < s.heap.size → ¬ (fun q : Nat => s.heap.size ≤ q) a := fun a h => Nat.not_le.mpr h
  have hs := flat_of_before _ hgv
  have hini := hts (.initialized "PairedTrees") (by decide +kernel)
  have hF := sx_make (f := sxF) (hts (.laysStatic "PairedTrees" "FIRST_SETTING" "[I") (by decide +kernel)) hini (hs _ (by decide +kernel)) (hs _ (by decide +kernel)) (el4 (hs _ (by decide +kernel)) (hs _ (by decide +kernel)) (hs _ (by decide +kernel)) (hs _ (by decide +kernel))) hA
  have hLo := sx_make (f := sxL) (hts (.laysStatic "PairedTrees" "LOWEST_SETTING" "[I") (by decide +kernel)) hini (hs _ (by decide +kernel)) (hs _ (by decide +kernel)) (el4 (hs _ (by decide +kernel)) (hs _ (by decide +kernel)) (hs _ (by decide +kernel)) (hs _ (by decide +kernel))) hA
  have hHi := sx_make (f := sxH) (hts (.laysStatic "PairedTrees" "HIGHEST_SETTING" "[I") (by decide +kernel)) hini (hs _ (by decide +kernel)) (hs _ (by decide +kernel)) (el4 (hs _ (by decide +kernel)) (hs _ (by decide +kernel)) (hs _ (by decide +kernel)) (hs _ (by decide +kernel))) hA
  refine ⟨hF.1, hLo.2, hHi.2, ?_, ?_, ?_, ?_, ?_, ?_, ?_, ?_, ?_⟩
  · exact vx_Zqof (hts _ (by decide +kernel)) (hts _ (by decide +kernel)) (hs _ (by decide +kernel)) hA
  · exact vx_Zqof (hts _ (by decide +kernel)) (hts _ (by decide +kernel)) (hs _ (by decide +kernel)) hA
  · exact sxS_make (hts _ (by decide +kernel)) (hs _ (by decide +kernel))
  · exact sxS_make (hts _ (by decide +kernel)) (hs _ (by decide +kernel))
  · exact sxS_make (hts _ (by decide +kernel)) (hs _ (by decide +kernel))
  · exact sxS_make (hts _ (by decide +kernel)) (hs _ (by decide +kernel))
  · exact sxS_make (hts _ (by decide +kernel)) (hs _ (by decide +kernel))
  · exact fun w hw => va_Nw.of (exW_tab w hw) (hts w (exW_in w hw))
  · exact va_Nc.of (hs _ (by decide +kernel))
theorem arr_known {ty : FieldType} {args : Array Value} {s : State} (h : (Cond.arrayClass ty).before args s = true) : ∃ cA : ClassId, ArrOfT s cA ty ∧ s.vm.findClass ("[" ++ ty.toString) = some cA := by
  obtain ⟨c, k, comp, h1, h2, h3⟩ := Cond.arrayClass_spec h
  exact ⟨c, fun n z => ⟨fun k h => (by cases h), k, h2, comp, h3⟩, h1⟩
theorem K_start {s : State} {args : Array Value} (hts : ∀ w ∈ lw_tbl, w.before args s = true) : ∃ (dC : Nat → ClassId) (dI : Nat → Nat → Nat) (cI cJ cZ : ClassId), va_K (dC, dI) cl6 (TY cI cJ cZ) s := by
  obtain ⟨c0, i0, k0⟩ := u_known (C := RX0) (T := TX0) (N := 6) (n := 6) hts inX0 (hts (.instantiable RX0 6) (by decide +kernel))
  obtain ⟨c1, i1, k1⟩ := u_known (C := RX1) (T := TX1) (N := 9) (n := 9) hts inX1 (hts (.instantiable RX1 9) (by decide +kernel))
  obtain ⟨c2, i2, k2⟩ := u_known (C := RX2) (T := TX2) (N := 5) (n := 5) hts inX2 (hts (.instantiable RX2 5) (by decide +kernel))
  obtain ⟨c3, i3, k3⟩ := u_known (C := RX3) (T := TX3) (N := 5) (n := 5) hts inX3 (hts (.instantiable RX3 5) (by decide +kernel))
  obtain ⟨c4, i4, k4⟩ := u_known (C := RX4) (T := TX4) (N := 4) (n := 4) hts inX4 (hts (.instantiable RX4 4) (by decide +kernel))
  obtain ⟨c5, i5, k5⟩ := u_known (C := RX5) (T := TX5) (N := 24) (n := 24) hts inX5 (hts (.instantiable RX5 24) (by decide +kernel))
  obtain ⟨cI, aI, fI⟩ := arr_known (hts (.arrayClass .int) (by decide +kernel))
  obtain ⟨cJ, aJ, fJ⟩ := arr_known (hts (.arrayClass .long) (by decide +kernel))
  obtain ⟨cZ, aZ, fZ⟩ := arr_known (hts (.arrayClass .boolean) (by decide +kernel))
  refine ⟨fun k => if k = 0 then c0 else if k = 1 then c1 else if k = 2 then c2 else if k = 3 then c3 else if k = 4 then c4 else c5, fun k => if k = 0 then i0 else if k = 1 then i1 else if k = 2 then i2 else if k = 3 then i3 else if k = 4 then i4 else i5, cI, cJ, cZ, ?_, ?_⟩
  · intro k q hq
    match k, hq with
    | 0, hq => cases hq; exact k0
    | 1, hq => cases hq; exact k1
    | 2, hq => cases hq; exact k2
    | 3, hq => cases hq; exact k3
    | 4, hq => cases hq; exact k4
    | 5, hq => cases hq; exact k5
    | k + 6, hq => simp [cl6] at hq
  · intro k q hq
    match k, hq with
    | 0, hq => cases hq; exact ⟨aI, fI⟩
    | 1, hq => cases hq; exact ⟨aJ, fJ⟩
    | 2, hq => cases hq; exact ⟨aZ, fZ⟩
    | k + 3, hq => simp [TY] at hq
