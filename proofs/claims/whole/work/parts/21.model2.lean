theorem mayM_ok {x v : Int32} (h : mayM x v = true) : ∃ j, j < 4 ∧ x = nI j := by
  unfold mayM at h
  by_cases h0 : x = nI 0
  · exact ⟨0, by decide, h0⟩
  · by_cases h1 : x = nI 1
    · exact ⟨1, by decide, h1⟩
    · by_cases h2 : x = nI 2
      · exact ⟨2, by decide, h2⟩
      · by_cases h3 : x = nI 3
        · exact ⟨3, by decide, h3⟩
        · simp [h0, h1, h2, h3] at h
def clB (f : Nat → Bool) : Nat → Nat → Bool
  | 0 => f
  | k + 1 => updB (clB f k) k false
theorem inB_out {x : Int32} {hi : Nat} (hh : hi < 2 ^ 31) (h : x.toInt < 0 ∨ (hi : Int) < x.toInt) : inB x (nI 0) (nI hi) = false := by
  unfold inB
  apply decide_eq_false
  intro q
  rw [nI_0, Int32.lt_iff_toInt_lt, Int32.lt_iff_toInt_lt, nI_toInt hh] at q
  have e0 : (0 : Int32).toInt = 0 := by decide
  omega
set_option maxHeartbeats 4000000 in
set_option maxRecDepth 100000 in
theorem c_X5_told (l : Launch) (dC : Nat → ClassId) (dI : Nat → Nat → Nat) (cI cJ cZ : ClassId) (h : Nat → Nat) (th : Int32) (n : Nat) (li : Nat → Int32) (gr : Nat → Int32) (nu : Nat → Int32) (hb : Nat → Bool) (se : Nat → Int32) (t : Nat) (ki : Nat → Int32) (fe : Nat → Int32) (lm : Nat → Int32) (si : Nat → Int32) (va : Nat → Int32) (he : Nat → Int32) (up : Nat → Int64) (lo : Nat → Int64) (sc : Nat → Int64) (no : Nat → Int32) (pu : Nat → Int32) (b1 : Int32) (b2 : Int32) (b3 : Int32) (bu : Int64) (bl : Int64) (x : Int32) (f : Int32) (hn0 : n ≤ 24) : Ci l yX5_told wsX5_told 1 22 (dC, dI) cl6 (TY cI cJ cZ) false [.ref (h 0), .int x, .int f] (Wm h cI cJ cZ th n li gr nu hb se t ki fe lm si va he up lo sc no pu b1 b2 b3 bu bl) (if tdM x f n hb = nI 0 then nu (x.toNatClampNeg * 4 + f.toNatClampNeg) else nI 0) (Wm h cI cJ cZ (tdM x f n hb) n li gr nu hb se t ki fe lm si va he up lo sc no pu b1 b2 b3 bu bl) := by
  refine Ci.of (cc := cX5_told) (maxL := 3) (ty := .int) (own := RX5) rfl (plainFor_of_name (by decide)) rfl (Nat.le_of_ble_eq_true rfl) ?_
  intro pg ev s0 md ar bw mt cd A X hr hk
  show Wk pg l ev _ s0 md ar bw mt cd 0 0 _ 3 (dC, dI) cl6 A 0 [(0, .ref (h 0)), (1, .int x), (2, .int f)] [] (Wm h cI cJ cZ th n li gr nu hb se t ki fe lm si va he up lo sc no pu b1 b2 b3 bu bl)
  have inX5 : ∀ w ∈ u_ws RX5 TX5 24, w ∈ wsX5_told := by decide +kernel
  have lk16 := X.w (.fieldLink RX5 16 "PairedTreesModel" "number" "[I") (by decide +kernel)
  have lk19 := X.w (.fieldLink RX5 19 "PairedTreesModel" "has" "[Z") (by decide +kernel)
  have lk63 := X.w (.fieldLink RX5 63 "PairedTreesModel" "things" "I") (by decide +kernel)
  have lk70 := X.w (.fieldLink RX5 70 "PairedTreesModel" "thrown" "I") (by decide +kernel)
  refine Wk.aload_n X 0 rfl dX5_told_0 rfl ?_
  refine Wk.iload_n X 1 rfl dX5_told_1 rfl ?_
  refine Wk.iconst (v := nI 0) X dX5_told_2 (by decide) ?_
  refine Wk.bipush (v := nI 23) X dX5_told_3 (by decide) ?_
  refine Wk.callSi (n := 3) X (c_X5_in l dC dI cI cJ cZ x (nI 0) (nI 23)) gX5_told_X5_in rfl (by decide +kernel) (by decide) Fr.nil (fun h9 => h9) rfl rfl (Nat.le_of_ble_eq_true rfl) ⟨Nat.zero_le _, Nat.zero_le _⟩ dX5_told_5 ?_
  refine Wk.ifB_ne X 15 dX5_told_8 (by decide) (fun c1 => ?_) (fun c1 => ?_)
  · skip
    refine Wk.iload_n X 1 rfl dX5_told_15 rfl ?_
    refine Wk.aload_n X 0 rfl dX5_told_16 rfl ?_
    refine Wk.get X inX5 0 1 lk63 (fun _ h9 => h9) rfl rfl (by decide) rfl dX5_told_17 ?_
    refine Wk.icmp_lt X 27 dX5_told_20 (by decide) (fun c2 => ?_) (fun c2 => ?_)
    · skip
      refine Wk.iload_n X 2 rfl dX5_told_27 rfl ?_
      refine Wk.iconst (v := nI 0) X dX5_told_28 (by decide) ?_
      refine Wk.iconst (v := nI 3) X dX5_told_29 (by decide) ?_
      refine Wk.callSi (n := 3) X (c_X5_in l dC dI cI cJ cZ f (nI 0) (nI 3)) gX5_told_X5_in rfl (by decide +kernel) (by decide) Fr.nil (fun h9 => h9) rfl rfl (Nat.le_of_ble_eq_true rfl) ⟨Nat.zero_le _, Nat.zero_le _⟩ dX5_told_30 ?_
      refine Wk.ifB_ne X 40 dX5_told_33 (by decide) (fun c3 => ?_) (fun c3 => ?_)
      · skip
        obtain ⟨j, hj24, rfl⟩ := inN_t (x := x) (n := 24) (by decide) ((inB_inN x (k := 23) (by decide)).symm.trans c1)
        obtain ⟨f1, hf1, rfl⟩ := inN_t (x := f) (n := 4) (by decide) ((inN4 f).trans c3)
        have hf4 : inN (nI f1) 4 = true := inN_nI hf1 (by decide)
        have i3 : (nI j).toNatClampNeg = j := nI_clamp (by omega)
        have i4 : (nI f1).toNatClampNeg = f1 := nI_clamp (by omega)
        refine Wk.aload_n X 0 rfl dX5_told_40 rfl ?_
        refine Wk.get X inX5 0 5 lk19 (fun _ h9 => h9) rfl rfl (by decide) rfl dX5_told_41 ?_
        refine Wk.iconst (v := nI 4) X dX5_told_44 (by decide) ?_
        refine Wk.iload_n X 1 rfl dX5_told_45 rfl ?_
        refine Wk.imulC X dX5_told_46 ?_
        refine Wk.iload_n X 2 rfl dX5_told_47 rfl ?_
        refine Wk.iaddN X dX5_told_48 ?_
        refine Wk.zald X 4 2 rfl rfl (by omega) (by decide) dX5_told_49 ?_
        refine Wk.ifB_eq X 57 dX5_told_50 (by decide) (fun c4 => ?_) (fun c4 => ?_)
        · skip
          refine Wk.iconst (v := nI 1) X dX5_told_57 (by decide) ?_
          have e9 : tdM (nI j) (nI f1) n hb = nI 1 := by simp [tdM, *]
          refine Wk.put (ws' := Wm h cI cJ cZ (nI 1) n li gr nu hb se t ki fe lm si va he up lo sc no pu b1 b2 b3 bu bl) X inX5 tyX5 tyX5_ok nmX5 0 0 lk70 (fun _ h9 => h9) rfl rfl (by decide) rfl (tyX5_ok 0 (by decide)) rfl rfl (Nat.le_of_ble_eq_true rfl) rfl dX5_told_58 ?_
          refine Wk.aload_n X 0 rfl dX5_told_61 rfl ?_
          refine Wk.get X inX5 0 0 lk70 (fun _ h9 => h9) rfl rfl (by decide) rfl dX5_told_62 ?_
          refine Wk.if_le X 72 dX5_told_65 (by decide) (fun c5 => ?_) (fun c5 => ?_)
          · exact absurd c5 (by decide)
          · skip
            refine Wk.iconst (v := nI 0) X dX5_told_68 (by decide) ?_
            refine Wk.goto X 82 dX5_told_69 (by decide) ?_
            exact Wk.iret X hr hk (by first | (simp [e9, i3, i4]; done) | (rw [e9, if_neg (by decide)])) (by rw [e9]) dX5_told_82
        · skip
          refine Wk.iconst (v := nI 0) X dX5_told_53 (by decide) ?_
          refine Wk.goto X 58 dX5_told_54 (by decide) ?_
          have e9 : tdM (nI j) (nI f1) n hb = nI 0 := by simp [tdM, *]
          refine Wk.put (ws' := Wm h cI cJ cZ (nI 0) n li gr nu hb se t ki fe lm si va he up lo sc no pu b1 b2 b3 bu bl) X inX5 tyX5 tyX5_ok nmX5 0 0 lk70 (fun _ h9 => h9) rfl rfl (by decide) rfl (tyX5_ok 0 (by decide)) rfl rfl (Nat.le_of_ble_eq_true rfl) rfl dX5_told_58 ?_
          refine Wk.aload_n X 0 rfl dX5_told_61 rfl ?_
          refine Wk.get X inX5 0 0 lk70 (fun _ h9 => h9) rfl rfl (by decide) rfl dX5_told_62 ?_
          refine Wk.if_le X 72 dX5_told_65 (by decide) (fun c6 => ?_) (fun c6 => ?_)
          · skip
            refine Wk.aload_n X 0 rfl dX5_told_72 rfl ?_
            refine Wk.get X inX5 0 4 lk16 (fun _ h9 => h9) rfl rfl (by decide) rfl dX5_told_73 ?_
            refine Wk.iconst (v := nI 4) X dX5_told_76 (by decide) ?_
            refine Wk.iload_n X 1 rfl dX5_told_77 rfl ?_
            refine Wk.imulC X dX5_told_78 ?_
            refine Wk.iload_n X 2 rfl dX5_told_79 rfl ?_
            refine Wk.iaddN X dX5_told_80 ?_
            refine Wk.iald X 3 0 rfl rfl (by omega) (by decide) dX5_told_81 ?_
            exact Wk.iret X hr hk (by first | (simp [e9, i3, i4]; done) | (rw [e9, if_neg (by decide)])) (by rw [e9]) dX5_told_82
          · exact absurd c6 (by decide)
      · skip
        refine Wk.iconst (v := nI 2) X dX5_told_36 (by decide) ?_
        refine Wk.goto X 58 dX5_told_37 (by decide) ?_
        have e9 : tdM x f n hb = nI 2 := by simp [tdM, inN4, *]
        refine Wk.put (ws' := Wm h cI cJ cZ (nI 2) n li gr nu hb se t ki fe lm si va he up lo sc no pu b1 b2 b3 bu bl) X inX5 tyX5 tyX5_ok nmX5 0 0 lk70 (fun _ h9 => h9) rfl rfl (by decide) rfl (tyX5_ok 0 (by decide)) rfl rfl (Nat.le_of_ble_eq_true rfl) rfl dX5_told_58 ?_
        refine Wk.aload_n X 0 rfl dX5_told_61 rfl ?_
        refine Wk.get X inX5 0 0 lk70 (fun _ h9 => h9) rfl rfl (by decide) rfl dX5_told_62 ?_
        refine Wk.if_le X 72 dX5_told_65 (by decide) (fun c7 => ?_) (fun c7 => ?_)
        · exact absurd c7 (by decide)
        · skip
          refine Wk.iconst (v := nI 0) X dX5_told_68 (by decide) ?_
          refine Wk.goto X 82 dX5_told_69 (by decide) ?_
          exact Wk.iret X hr hk (by first | (simp [e9, i3, i4]; done) | (rw [e9, if_neg (by decide)])) (by rw [e9]) dX5_told_82
    · skip
      refine Wk.iconst (v := nI 1) X dX5_told_23 (by decide) ?_
      refine Wk.goto X 58 dX5_told_24 (by decide) ?_
      have e9 : tdM x f n hb = nI 1 := by simp [tdM, inN4, *]
      refine Wk.put (ws' := Wm h cI cJ cZ (nI 1) n li gr nu hb se t ki fe lm si va he up lo sc no pu b1 b2 b3 bu bl) X inX5 tyX5 tyX5_ok nmX5 0 0 lk70 (fun _ h9 => h9) rfl rfl (by decide) rfl (tyX5_ok 0 (by decide)) rfl rfl (Nat.le_of_ble_eq_true rfl) rfl dX5_told_58 ?_
      refine Wk.aload_n X 0 rfl dX5_told_61 rfl ?_
      refine Wk.get X inX5 0 0 lk70 (fun _ h9 => h9) rfl rfl (by decide) rfl dX5_told_62 ?_
      refine Wk.if_le X 72 dX5_told_65 (by decide) (fun c8 => ?_) (fun c8 => ?_)
      · exact absurd c8 (by decide)
      · skip
        refine Wk.iconst (v := nI 0) X dX5_told_68 (by decide) ?_
        refine Wk.goto X 82 dX5_told_69 (by decide) ?_
        exact Wk.iret X hr hk (by first | (simp [e9, i3, i4]; done) | (rw [e9, if_neg (by decide)])) (by rw [e9]) dX5_told_82
  · skip
    refine Wk.iconst (v := nI 2) X dX5_told_11 (by decide) ?_
    refine Wk.goto X 58 dX5_told_12 (by decide) ?_
    have e9 : tdM x f n hb = nI 2 := by simp [tdM, inN4, *]
    refine Wk.put (ws' := Wm h cI cJ cZ (nI 2) n li gr nu hb se t ki fe lm si va he up lo sc no pu b1 b2 b3 bu bl) X inX5 tyX5 tyX5_ok nmX5 0 0 lk70 (fun _ h9 => h9) rfl rfl (by decide) rfl (tyX5_ok 0 (by decide)) rfl rfl (Nat.le_of_ble_eq_true rfl) rfl dX5_told_58 ?_
    refine Wk.aload_n X 0 rfl dX5_told_61 rfl ?_
    refine Wk.get X inX5 0 0 lk70 (fun _ h9 => h9) rfl rfl (by decide) rfl dX5_told_62 ?_
    refine Wk.if_le X 72 dX5_told_65 (by decide) (fun c9 => ?_) (fun c9 => ?_)
    · exact absurd c9 (by decide)
    · skip
      refine Wk.iconst (v := nI 0) X dX5_told_68 (by decide) ?_
      refine Wk.goto X 82 dX5_told_69 (by decide) ?_
      exact Wk.iret X hr hk (by first | (simp [e9, i3, i4]; done) | (rw [e9, if_neg (by decide)])) (by rw [e9]) dX5_told_82

set_option maxHeartbeats 4000000 in
set_option maxRecDepth 100000 in
theorem c_X5_setting (l : Launch) (dC : Nat → ClassId) (dI : Nat → Nat → Nat) (cI cJ cZ : ClassId) (h : Nat → Nat) (th : Int32) (n : Nat) (li : Nat → Int32) (gr : Nat → Int32) (nu : Nat → Int32) (hb : Nat → Bool) (se : Nat → Int32) (t : Nat) (ki : Nat → Int32) (fe : Nat → Int32) (lm : Nat → Int32) (si : Nat → Int32) (va : Nat → Int32) (he : Nat → Int32) (up : Nat → Int64) (lo : Nat → Int64) (sc : Nat → Int64) (no : Nat → Int32) (pu : Nat → Int32) (b1 : Int32) (b2 : Int32) (b3 : Int32) (bu : Int64) (bl : Int64) (x : Int32) (v : Int32) : Ci l yX5_setting wsX5_setting 1 22 (dC, dI) cl6 (TY cI cJ cZ) false [.ref (h 0), .int x, .int v] (Wm h cI cJ cZ th n li gr nu hb se t ki fe lm si va he up lo sc no pu b1 b2 b3 bu bl) (stM x v se) (Wm h cI cJ cZ (nI 0) n li gr nu hb (if mayM x v = true then upd se x.toNatClampNeg v else se) t ki fe lm si va he up lo sc no pu b1 b2 b3 bu bl) := by
  refine Ci.of (cc := cX5_setting) (maxL := 5) (ty := .int) (own := RX5) rfl (plainFor_of_name (by decide)) rfl (Nat.le_of_ble_eq_true rfl) ?_
  intro pg ev s0 md ar bw mt cd A X hr hk
  show Wk pg l ev _ s0 md ar bw mt cd 0 0 _ 5 (dC, dI) cl6 A 0 [(0, .ref (h 0)), (1, .int x), (2, .int v)] [] (Wm h cI cJ cZ th n li gr nu hb se t ki fe lm si va he up lo sc no pu b1 b2 b3 bu bl)
  have inX5 : ∀ w ∈ u_ws RX5 TX5 24, w ∈ wsX5_setting := by decide +kernel
  have lk23 := X.w (.fieldLink RX5 23 "PairedTreesModel" "settings" "[I") (by decide +kernel)
  have lk70 := X.w (.fieldLink RX5 70 "PairedTreesModel" "thrown" "I") (by decide +kernel)
  refine Wk.aload_n X 0 rfl dX5_setting_0 rfl ?_
  refine Wk.iconst (v := nI 0) X dX5_setting_1 (by decide) ?_
  refine Wk.put (ws' := Wm h cI cJ cZ (nI 0) n li gr nu hb se t ki fe lm si va he up lo sc no pu b1 b2 b3 bu bl) X inX5 tyX5 tyX5_ok nmX5 0 0 lk70 (fun _ h9 => h9) rfl rfl (by decide) rfl (tyX5_ok 0 (by decide)) rfl rfl (Nat.le_of_ble_eq_true rfl) rfl dX5_setting_2 ?_
  have J69 : Wk pg l ev ({ frames := 1, cells := 0, slots := 0, locals := 22 } : Room) s0 md ar bw mt cd 0 0 (QRi bw ar s0 (dC, dI) cl6 (TY cI cJ cZ) A (stM x v se) (Wm h cI cJ cZ (nI 0) n li gr nu hb (if mayM x v = true then upd se x.toNatClampNeg v else se) t ki fe lm si va he up lo sc no pu b1 b2 b3 bu bl)) 5 (dC, dI) cl6 A 69 [(0, .ref (h 0)), (1, .int x), (2, .int v)] [.int (bI (mayM x v))] (Wm h cI cJ cZ (nI 0) n li gr nu hb se t ki fe lm si va he up lo sc no pu b1 b2 b3 bu bl) := by
    refine Wk.istore_n (lv' := [(3, .int (bI (mayM x v))), (0, .ref (h 0)), (1, .int x), (2, .int v)]) X dX5_setting_69 rfl (by decide) rfl ?_
    refine Wk.iload_n X 0 rfl dX5_setting_70 rfl ?_
    refine Wk.ifB_ne X 78 dX5_setting_71 (by decide) (fun c1 => ?_) (fun c1 => ?_)
    · skip
      obtain ⟨j, hj4, rfl⟩ := mayM_ok c1
      have i3 : (nI j).toNatClampNeg = j := nI_clamp (by omega)
      refine Wk.aload_n X 1 rfl dX5_setting_78 rfl ?_
      refine Wk.get X inX5 0 6 lk23 (fun _ h9 => h9) rfl rfl (by decide) rfl dX5_setting_79 ?_
      refine Wk.iload_n X 2 rfl dX5_setting_82 rfl ?_
      refine Wk.iald X 5 0 rfl rfl (by omega) (by decide) dX5_setting_83 ?_
      refine Wk.istore (lv' := [(4, .int (se j)), (3, .int (bI (mayM (nI j) v))), (0, .ref (h 0)), (1, .int (nI j)), (2, .int v)]) X dX5_setting_84 (by decide) rfl ?_
      refine Wk.aload_n X 2 rfl dX5_setting_86 rfl ?_
      refine Wk.get X inX5 0 6 lk23 (fun _ h9 => h9) rfl rfl (by decide) rfl dX5_setting_87 ?_
      refine Wk.iload_n X 3 rfl dX5_setting_90 rfl ?_
      refine Wk.iload_n X 4 rfl dX5_setting_91 rfl ?_
      refine Wk.iast (ws' := Wm h cI cJ cZ (nI 0) n li gr nu hb (upd se j v) t ki fe lm si va he up lo sc no pu b1 b2 b3 bu bl) X 5 0 rfl rfl (by omega) (by decide) rfl dX5_setting_92 ?_
      refine Wk.iload X 0 rfl dX5_setting_93 ?_
      exact Wk.iret X hr hk (by simp [stM, *]) (by simp [*]) dX5_setting_95
    · skip
      refine Wk.sipush (v := -10002) X dX5_setting_74 (by decide) ?_
      exact Wk.iret X hr hk (by simp [stM, *]) (by simp [*]) dX5_setting_77
  refine Wk.iload_n X 1 rfl dX5_setting_5 rfl ?_
  refine Wk.if_ne X 20 dX5_setting_6 (by decide) (fun c2 => ?_) (fun c2 => ?_)
  · skip
    refine Wk.iload_n X 1 rfl dX5_setting_20 rfl ?_
    refine Wk.iconst (v := nI 1) X dX5_setting_21 (by decide) ?_
    refine Wk.icmp_ne X 35 dX5_setting_22 (by decide) (fun c3 => ?_) (fun c3 => ?_)
    · skip
      refine Wk.iload_n X 1 rfl dX5_setting_35 rfl ?_
      refine Wk.iconst (v := nI 2) X dX5_setting_36 (by decide) ?_
      refine Wk.icmp_ne X 49 dX5_setting_37 (by decide) (fun c4 => ?_) (fun c4 => ?_)
      · skip
        refine Wk.iload_n X 1 rfl dX5_setting_49 rfl ?_
        refine Wk.iconst (v := nI 3) X dX5_setting_50 (by decide) ?_
        refine Wk.icmp_ne X 68 dX5_setting_51 (by decide) (fun c5 => ?_) (fun c5 => ?_)
        · skip
          refine Wk.iconst (v := nI 0) X dX5_setting_68 (by decide) ?_
          refine Wk.topi (y := bI (mayM x v)) (by first | (simp [mayM, nI_0, *]; done) | (simp [mayM, bI, nI_0, nIc1, show ¬ nI 1 = 0 by decide, show ¬ nI 1 = nI 0 by decide, show ¬ nI 1 = nI 2 by decide, show ¬ nI 1 = nI 3 by decide, show ¬ nI 2 = 0 by decide, show ¬ nI 2 = nI 0 by decide, show ¬ nI 2 = nI 1 by decide, show ¬ nI 2 = nI 3 by decide, show ¬ nI 3 = 0 by decide, show ¬ nI 3 = nI 0 by decide, show ¬ nI 3 = nI 1 by decide, show ¬ nI 3 = nI 2 by decide, *]; done) | (simp [mayM, bI, nI_0, show ¬ nI 1 = 0 by decide, show ¬ nI 1 = nI 0 by decide, show ¬ nI 1 = nI 2 by decide, show ¬ nI 1 = nI 3 by decide, show ¬ nI 2 = 0 by decide, show ¬ nI 2 = nI 0 by decide, show ¬ nI 2 = nI 1 by decide, show ¬ nI 2 = nI 3 by decide, show ¬ nI 3 = 0 by decide, show ¬ nI 3 = nI 0 by decide, show ¬ nI 3 = nI 1 by decide, show ¬ nI 3 = nI 2 by decide, *]; done) | (simp [mayM, bI, nI_0, show ¬ nI 1 = 0 by decide, show ¬ nI 1 = nI 0 by decide, show ¬ nI 1 = nI 2 by decide, show ¬ nI 1 = nI 3 by decide, show ¬ nI 2 = 0 by decide, show ¬ nI 2 = nI 0 by decide, show ¬ nI 2 = nI 1 by decide, show ¬ nI 2 = nI 3 by decide, show ¬ nI 3 = 0 by decide, show ¬ nI 3 = nI 0 by decide, show ¬ nI 3 = nI 1 by decide, show ¬ nI 3 = nI 2 by decide, *]; exact nIc1)) ?_
          exact J69
        · skip
          refine Wk.iload_n X 2 rfl dX5_setting_54 rfl ?_
          refine Wk.iconst (v := nI 1) X dX5_setting_55 (by decide) ?_
          refine Wk.bipush (v := nI 8) X dX5_setting_56 (by decide) ?_
          refine Wk.callSi (n := 3) X (c_X5_in l dC dI cI cJ cZ v (nI 1) (nI 8)) gX5_setting_X5_in rfl (by decide +kernel) (by decide) Fr.nil (fun h9 => h9) rfl rfl (Nat.le_of_ble_eq_true rfl) ⟨Nat.zero_le _, Nat.zero_le _⟩ dX5_setting_58 ?_
          refine Wk.ifB_eq X 68 dX5_setting_61 (by decide) (fun c6 => ?_) (fun c6 => ?_)
          · skip
            refine Wk.iconst (v := nI 0) X dX5_setting_68 (by decide) ?_
            refine Wk.topi (y := bI (mayM x v)) (by first | (simp [mayM, nI_0, *]; done) | (simp [mayM, bI, nI_0, nIc1, show ¬ nI 1 = 0 by decide, show ¬ nI 1 = nI 0 by decide, show ¬ nI 1 = nI 2 by decide, show ¬ nI 1 = nI 3 by decide, show ¬ nI 2 = 0 by decide, show ¬ nI 2 = nI 0 by decide, show ¬ nI 2 = nI 1 by decide, show ¬ nI 2 = nI 3 by decide, show ¬ nI 3 = 0 by decide, show ¬ nI 3 = nI 0 by decide, show ¬ nI 3 = nI 1 by decide, show ¬ nI 3 = nI 2 by decide, *]; done) | (simp [mayM, bI, nI_0, show ¬ nI 1 = 0 by decide, show ¬ nI 1 = nI 0 by decide, show ¬ nI 1 = nI 2 by decide, show ¬ nI 1 = nI 3 by decide, show ¬ nI 2 = 0 by decide, show ¬ nI 2 = nI 0 by decide, show ¬ nI 2 = nI 1 by decide, show ¬ nI 2 = nI 3 by decide, show ¬ nI 3 = 0 by decide, show ¬ nI 3 = nI 0 by decide, show ¬ nI 3 = nI 1 by decide, show ¬ nI 3 = nI 2 by decide, *]; done) | (simp [mayM, bI, nI_0, show ¬ nI 1 = 0 by decide, show ¬ nI 1 = nI 0 by decide, show ¬ nI 1 = nI 2 by decide, show ¬ nI 1 = nI 3 by decide, show ¬ nI 2 = 0 by decide, show ¬ nI 2 = nI 0 by decide, show ¬ nI 2 = nI 1 by decide, show ¬ nI 2 = nI 3 by decide, show ¬ nI 3 = 0 by decide, show ¬ nI 3 = nI 0 by decide, show ¬ nI 3 = nI 1 by decide, show ¬ nI 3 = nI 2 by decide, *]; exact nIc1)) ?_
            exact J69
          · skip
            refine Wk.iconst (v := nI 1) X dX5_setting_64 (by decide) ?_
            refine Wk.goto X 69 dX5_setting_65 (by decide) ?_
            refine Wk.topi (y := bI (mayM x v)) (by first | (simp [mayM, nI_0, *]; done) | (simp [mayM, bI, nI_0, nIc1, show ¬ nI 1 = 0 by decide, show ¬ nI 1 = nI 0 by decide, show ¬ nI 1 = nI 2 by decide, show ¬ nI 1 = nI 3 by decide, show ¬ nI 2 = 0 by decide, show ¬ nI 2 = nI 0 by decide, show ¬ nI 2 = nI 1 by decide, show ¬ nI 2 = nI 3 by decide, show ¬ nI 3 = 0 by decide, show ¬ nI 3 = nI 0 by decide, show ¬ nI 3 = nI 1 by decide, show ¬ nI 3 = nI 2 by decide, *]; done) | (simp [mayM, bI, nI_0, show ¬ nI 1 = 0 by decide, show ¬ nI 1 = nI 0 by decide, show ¬ nI 1 = nI 2 by decide, show ¬ nI 1 = nI 3 by decide, show ¬ nI 2 = 0 by decide, show ¬ nI 2 = nI 0 by decide, show ¬ nI 2 = nI 1 by decide, show ¬ nI 2 = nI 3 by decide, show ¬ nI 3 = 0 by decide, show ¬ nI 3 = nI 0 by decide, show ¬ nI 3 = nI 1 by decide, show ¬ nI 3 = nI 2 by decide, *]; done) | (simp [mayM, bI, nI_0, show ¬ nI 1 = 0 by decide, show ¬ nI 1 = nI 0 by decide, show ¬ nI 1 = nI 2 by decide, show ¬ nI 1 = nI 3 by decide, show ¬ nI 2 = 0 by decide, show ¬ nI 2 = nI 0 by decide, show ¬ nI 2 = nI 1 by decide, show ¬ nI 2 = nI 3 by decide, show ¬ nI 3 = 0 by decide, show ¬ nI 3 = nI 0 by decide, show ¬ nI 3 = nI 1 by decide, show ¬ nI 3 = nI 2 by decide, *]; exact nIc1)) ?_
            exact J69
      · skip
        refine Wk.iload_n X 2 rfl dX5_setting_40 rfl ?_
        refine Wk.iconst (v := nI 1) X dX5_setting_41 (by decide) ?_
        refine Wk.iconst (v := nI 3) X dX5_setting_42 (by decide) ?_
        refine Wk.callSi (n := 3) X (c_X5_in l dC dI cI cJ cZ v (nI 1) (nI 3)) gX5_setting_X5_in rfl (by decide +kernel) (by decide) Fr.nil (fun h9 => h9) rfl rfl (Nat.le_of_ble_eq_true rfl) ⟨Nat.zero_le _, Nat.zero_le _⟩ dX5_setting_43 ?_
        refine Wk.goto X 69 dX5_setting_46 (by decide) ?_
        refine Wk.topi (y := bI (mayM x v)) (by first | (simp [mayM, nI_0, *]; done) | (simp [mayM, bI, nI_0, nIc1, show ¬ nI 1 = 0 by decide, show ¬ nI 1 = nI 0 by decide, show ¬ nI 1 = nI 2 by decide, show ¬ nI 1 = nI 3 by decide, show ¬ nI 2 = 0 by decide, show ¬ nI 2 = nI 0 by decide, show ¬ nI 2 = nI 1 by decide, show ¬ nI 2 = nI 3 by decide, show ¬ nI 3 = 0 by decide, show ¬ nI 3 = nI 0 by decide, show ¬ nI 3 = nI 1 by decide, show ¬ nI 3 = nI 2 by decide, *]; done) | (simp [mayM, bI, nI_0, show ¬ nI 1 = 0 by decide, show ¬ nI 1 = nI 0 by decide, show ¬ nI 1 = nI 2 by decide, show ¬ nI 1 = nI 3 by decide, show ¬ nI 2 = 0 by decide, show ¬ nI 2 = nI 0 by decide, show ¬ nI 2 = nI 1 by decide, show ¬ nI 2 = nI 3 by decide, show ¬ nI 3 = 0 by decide, show ¬ nI 3 = nI 0 by decide, show ¬ nI 3 = nI 1 by decide, show ¬ nI 3 = nI 2 by decide, *]; done) | (simp [mayM, bI, nI_0, show ¬ nI 1 = 0 by decide, show ¬ nI 1 = nI 0 by decide, show ¬ nI 1 = nI 2 by decide, show ¬ nI 1 = nI 3 by decide, show ¬ nI 2 = 0 by decide, show ¬ nI 2 = nI 0 by decide, show ¬ nI 2 = nI 1 by decide, show ¬ nI 2 = nI 3 by decide, show ¬ nI 3 = 0 by decide, show ¬ nI 3 = nI 0 by decide, show ¬ nI 3 = nI 1 by decide, show ¬ nI 3 = nI 2 by decide, *]; exact nIc1)) ?_
        exact J69
    · skip
      refine Wk.iload_n X 2 rfl dX5_setting_25 rfl ?_
      refine Wk.iconst (v := nI 1) X dX5_setting_26 (by decide) ?_
      refine Wk.bipush (v := nI 100) X dX5_setting_27 (by decide) ?_
      refine Wk.callSi (n := 3) X (c_X5_in l dC dI cI cJ cZ v (nI 1) (nI 100)) gX5_setting_X5_in rfl (by decide +kernel) (by decide) Fr.nil (fun h9 => h9) rfl rfl (Nat.le_of_ble_eq_true rfl) ⟨Nat.zero_le _, Nat.zero_le _⟩ dX5_setting_29 ?_
      refine Wk.goto X 69 dX5_setting_32 (by decide) ?_
      refine Wk.topi (y := bI (mayM x v)) (by first | (simp [mayM, nI_0, *]; done) | (simp [mayM, bI, nI_0, nIc1, show ¬ nI 1 = 0 by decide, show ¬ nI 1 = nI 0 by decide, show ¬ nI 1 = nI 2 by decide, show ¬ nI 1 = nI 3 by decide, show ¬ nI 2 = 0 by decide, show ¬ nI 2 = nI 0 by decide, show ¬ nI 2 = nI 1 by decide, show ¬ nI 2 = nI 3 by decide, show ¬ nI 3 = 0 by decide, show ¬ nI 3 = nI 0 by decide, show ¬ nI 3 = nI 1 by decide, show ¬ nI 3 = nI 2 by decide, *]; done) | (simp [mayM, bI, nI_0, show ¬ nI 1 = 0 by decide, show ¬ nI 1 = nI 0 by decide, show ¬ nI 1 = nI 2 by decide, show ¬ nI 1 = nI 3 by decide, show ¬ nI 2 = 0 by decide, show ¬ nI 2 = nI 0 by decide, show ¬ nI 2 = nI 1 by decide, show ¬ nI 2 = nI 3 by decide, show ¬ nI 3 = 0 by decide, show ¬ nI 3 = nI 0 by decide, show ¬ nI 3 = nI 1 by decide, show ¬ nI 3 = nI 2 by decide, *]; done) | (simp [mayM, bI, nI_0, show ¬ nI 1 = 0 by decide, show ¬ nI 1 = nI 0 by decide, show ¬ nI 1 = nI 2 by decide, show ¬ nI 1 = nI 3 by decide, show ¬ nI 2 = 0 by decide, show ¬ nI 2 = nI 0 by decide, show ¬ nI 2 = nI 1 by decide, show ¬ nI 2 = nI 3 by decide, show ¬ nI 3 = 0 by decide, show ¬ nI 3 = nI 0 by decide, show ¬ nI 3 = nI 1 by decide, show ¬ nI 3 = nI 2 by decide, *]; exact nIc1)) ?_
      exact J69
  · skip
    refine Wk.iload_n X 2 rfl dX5_setting_9 rfl ?_
    refine Wk.iconst (v := nI 0) X dX5_setting_10 (by decide) ?_
    refine Wk.sipush (v := nI 1000) X dX5_setting_11 (by decide) ?_
    refine Wk.callSi (n := 3) X (c_X5_in l dC dI cI cJ cZ v (nI 0) (nI 1000)) gX5_setting_X5_in rfl (by decide +kernel) (by decide) Fr.nil (fun h9 => h9) rfl rfl (Nat.le_of_ble_eq_true rfl) ⟨Nat.zero_le _, Nat.zero_le _⟩ dX5_setting_14 ?_
    refine Wk.goto X 69 dX5_setting_17 (by decide) ?_
    refine Wk.topi (y := bI (mayM x v)) (by first | (simp [mayM, nI_0, *]; done) | (simp [mayM, bI, nI_0, nIc1, show ¬ nI 1 = 0 by decide, show ¬ nI 1 = nI 0 by decide, show ¬ nI 1 = nI 2 by decide, show ¬ nI 1 = nI 3 by decide, show ¬ nI 2 = 0 by decide, show ¬ nI 2 = nI 0 by decide, show ¬ nI 2 = nI 1 by decide, show ¬ nI 2 = nI 3 by decide, show ¬ nI 3 = 0 by decide, show ¬ nI 3 = nI 0 by decide, show ¬ nI 3 = nI 1 by decide, show ¬ nI 3 = nI 2 by decide, *]; done) | (simp [mayM, bI, nI_0, show ¬ nI 1 = 0 by decide, show ¬ nI 1 = nI 0 by decide, show ¬ nI 1 = nI 2 by decide, show ¬ nI 1 = nI 3 by decide, show ¬ nI 2 = 0 by decide, show ¬ nI 2 = nI 0 by decide, show ¬ nI 2 = nI 1 by decide, show ¬ nI 2 = nI 3 by decide, show ¬ nI 3 = 0 by decide, show ¬ nI 3 = nI 0 by decide, show ¬ nI 3 = nI 1 by decide, show ¬ nI 3 = nI 2 by decide, *]; done) | (simp [mayM, bI, nI_0, show ¬ nI 1 = 0 by decide, show ¬ nI 1 = nI 0 by decide, show ¬ nI 1 = nI 2 by decide, show ¬ nI 1 = nI 3 by decide, show ¬ nI 2 = 0 by decide, show ¬ nI 2 = nI 0 by decide, show ¬ nI 2 = nI 1 by decide, show ¬ nI 2 = nI 3 by decide, show ¬ nI 3 = 0 by decide, show ¬ nI 3 = nI 0 by decide, show ¬ nI 3 = nI 1 by decide, show ¬ nI 3 = nI 2 by decide, *]; exact nIc1)) ?_
    exact J69

set_option maxHeartbeats 4000000 in
set_option maxRecDepth 100000 in
theorem c_X5_node (l : Launch) (dC : Nat → ClassId) (dI : Nat → Nat → Nat) (cI cJ cZ : ClassId) (h : Nat → Nat) (th : Int32) (n : Nat) (li : Nat → Int32) (gr : Nat → Int32) (nu : Nat → Int32) (hb : Nat → Bool) (se : Nat → Int32) (t : Nat) (ki : Nat → Int32) (fe : Nat → Int32) (lm : Nat → Int32) (si : Nat → Int32) (va : Nat → Int32) (he : Nat → Int32) (up : Nat → Int64) (lo : Nat → Int64) (sc : Nat → Int64) (no : Nat → Int32) (pu : Nat → Int32) (b1 : Int32) (b2 : Int32) (b3 : Int32) (bu : Int64) (bl : Int64) (x : Int32) (y : Int32) (w0 : Int32) (ht0 : t ≤ 20) : Ci l yX5_node wsX5_node 2 44 (dC, dI) cl6 (TY cI cJ cZ) false [.ref (h 0), .int x, .int y, .int w0] (Wm h cI cJ cZ th n li gr nu hb se t ki fe lm si va he up lo sc no pu b1 b2 b3 bu bl) (ndM ki fe lm si va he t x y w0) (Wm h cI cJ cZ (nI 0) n li gr nu hb se t ki fe lm si va he up lo sc no pu b1 b2 b3 bu bl) := by
  refine Ci.of (cc := cX5_node) (maxL := 6) (ty := .int) (own := RX5) rfl (plainFor_of_name (by decide)) rfl (Nat.le_of_ble_eq_true rfl) ?_
  intro pg ev s0 md ar bw mt cd A X hr hk
  show Wk pg l ev _ s0 md ar bw mt cd 0 0 _ 6 (dC, dI) cl6 A 0 [(0, .ref (h 0)), (1, .int x), (2, .int y), (3, .int w0)] [] (Wm h cI cJ cZ th n li gr nu hb se t ki fe lm si va he up lo sc no pu b1 b2 b3 bu bl)
  have inX5 : ∀ w ∈ u_ws RX5 TX5 24, w ∈ wsX5_node := by decide +kernel
  have lk26 := X.w (.fieldLink RX5 26 "PairedTreesModel" "sort" "[I") (by decide +kernel)
  have lk29 := X.w (.fieldLink RX5 29 "PairedTreesModel" "byOf" "[I") (by decide +kernel)
  have lk32 := X.w (.fieldLink RX5 32 "PairedTreesModel" "cutOf" "[I") (by decide +kernel)
  have lk35 := X.w (.fieldLink RX5 35 "PairedTreesModel" "sideOf" "[I") (by decide +kernel)
  have lk38 := X.w (.fieldLink RX5 38 "PairedTreesModel" "valueOf" "[I") (by decide +kernel)
  have lk41 := X.w (.fieldLink RX5 41 "PairedTreesModel" "held" "[I") (by decide +kernel)
  have lk70 := X.w (.fieldLink RX5 70 "PairedTreesModel" "thrown" "I") (by decide +kernel)
  refine Wk.aload_n X 0 rfl dX5_node_0 rfl ?_
  refine Wk.iconst (v := nI 0) X dX5_node_1 (by decide) ?_
  refine Wk.put (ws' := Wm h cI cJ cZ (nI 0) n li gr nu hb se t ki fe lm si va he up lo sc no pu b1 b2 b3 bu bl) X inX5 tyX5 tyX5_ok nmX5 0 0 lk70 (fun _ h9 => h9) rfl rfl (by decide) rfl (tyX5_ok 0 (by decide)) rfl rfl (Nat.le_of_ble_eq_true rfl) rfl dX5_node_2 ?_
  refine Wk.aload_n X 0 rfl dX5_node_5 rfl ?_
  refine Wk.iload_n X 1 rfl dX5_node_6 rfl ?_
  refine Wk.iload_n X 2 rfl dX5_node_7 rfl ?_
  refine Wk.callVi (n := 2) (q0 := 0) X (c_X5_isNode l dC dI cI cJ cZ h (nI 0) n li gr nu hb se t ki fe lm si va he up lo sc no pu b1 b2 b3 bu bl x y (by first | omega | assumption)) gX5_node_X5_isNode rfl (by decide +kernel) (by decide) Fr.all (fun h9 => h9) rfl rfl rfl rfl (Nat.le_of_ble_eq_true rfl) ⟨Nat.zero_le _, Nat.zero_le _⟩ dX5_node_8 ?_
  refine Wk.ifB_ne X 18 dX5_node_11 (by decide) (fun c1 => ?_) (fun c1 => ?_)
  · skip
    obtain ⟨a, b, ha, hb1, rfl, rfl⟩ := ndB_ok ht0 c1
    have i3 : (nI a).toNatClampNeg = a := nI_clamp (by omega)
    have i4 : (nI b).toNatClampNeg = b := nI_clamp (by omega)
    refine Wk.bipush (v := nI 15) X dX5_node_18 (by decide) ?_
    refine Wk.iload_n X 1 rfl dX5_node_20 rfl ?_
    refine Wk.imulC X dX5_node_21 ?_
    refine Wk.iload_n X 2 rfl dX5_node_22 rfl ?_
    refine Wk.iaddN X dX5_node_23 ?_
    refine Wk.istore (lv' := [(4, .int (nI (a * 15 + b))), (0, .ref (h 0)), (1, .int (nI a)), (2, .int (nI b)), (3, .int w0)]) X dX5_node_24 (by decide) rfl ?_
    refine Wk.aload_n X 1 rfl dX5_node_26 rfl ?_
    refine Wk.get X inX5 0 8 lk26 (fun _ h9 => h9) rfl rfl (by decide) rfl dX5_node_27 ?_
    have J42 : Wk pg l ev ({ frames := 2, cells := 0, slots := 0, locals := 44 } : Room) s0 md ar bw mt cd 0 0 (QRi bw ar s0 (dC, dI) cl6 (TY cI cJ cZ) A (ndM ki fe lm si va he t (nI a) (nI b) w0) (Wm h cI cJ cZ (nI 0) n li gr nu hb se t ki fe lm si va he up lo sc no pu b1 b2 b3 bu bl)) 6 (dC, dI) cl6 A 42 [(4, .int (nI (a * 15 + b))), (0, .ref (h 0)), (1, .int (nI a)), (2, .int (nI b)), (3, .int w0)] [.int (bI (decide (ki (a * 15 + b) = nI 2)))] (Wm h cI cJ cZ (nI 0) n li gr nu hb se t ki fe lm si va he up lo sc no pu b1 b2 b3 bu bl) := by
      refine Wk.istore (lv' := [(5, .int (bI (decide (ki (a * 15 + b) = nI 2)))), (4, .int (nI (a * 15 + b))), (0, .ref (h 0)), (1, .int (nI a)), (2, .int (nI b)), (3, .int w0)]) X dX5_node_42 (by decide) rfl ?_
      rcases tab_split w0 5 with ⟨j9, hj9, rfl⟩ | ho
      · rcases (show j9 = 0 ∨ j9 = 1 ∨ j9 = 2 ∨ j9 = 3 ∨ j9 = 4 ∨ j9 = 5 by omega) with rfl | rfl | rfl | rfl | rfl | rfl
        · skip
          have e9_1 : ¬ nI 0 = nI 1 := by decide
          have e9_2 : ¬ nI 0 = nI 2 := by decide
          have e9_3 : ¬ nI 0 = nI 3 := by decide
          have e9_4 : ¬ nI 0 = nI 4 := by decide
          have e9_5 : ¬ nI 0 = nI 5 := by decide
          refine Wk.iload_n X 5 rfl dX5_node_44 rfl ?_
          refine Wk.iconst (v := nI 0) X dX5_node_45 (by decide) ?_
          refine Wk.iconst (v := nI 5) X dX5_node_46 (by decide) ?_
          refine Wk.callSi (n := 3) X (c_X5_in l dC dI cI cJ cZ (nI 0) (nI 0) (nI 5)) gX5_node_X5_in rfl (by decide +kernel) (by decide) Fr.nil (fun h9 => h9) rfl rfl (Nat.le_of_ble_eq_true rfl) ⟨Nat.zero_le _, Nat.zero_le _⟩ dX5_node_47 ?_
          refine Wk.topi (y := bI true) (by decide) ?_
          refine Wk.ifB_eq X 77 dX5_node_50 (by decide) (fun c2 => ?_) (fun c2 => ?_)
          · exact absurd c2 (by decide)
          · skip
            refine Wk.iload_n X 5 rfl dX5_node_53 rfl ?_
            refine Wk.iconst (v := nI 1) X dX5_node_54 (by decide) ?_
            refine Wk.iconst (v := nI 3) X dX5_node_55 (by decide) ?_
            refine Wk.callSi (n := 3) X (c_X5_in l dC dI cI cJ cZ (nI 0) (nI 1) (nI 3)) gX5_node_X5_in rfl (by decide +kernel) (by decide) Fr.nil (fun h9 => h9) rfl rfl (Nat.le_of_ble_eq_true rfl) ⟨Nat.zero_le _, Nat.zero_le _⟩ dX5_node_56 ?_
            refine Wk.topi (y := bI false) (by decide) ?_
            refine Wk.ifB_eq X 67 dX5_node_59 (by decide) (fun c3 => ?_) (fun c3 => ?_)
            · skip
              refine Wk.iload_n X 5 rfl dX5_node_67 rfl ?_
              refine Wk.iconst (v := nI 4) X dX5_node_68 (by decide) ?_
              refine Wk.icmpN_ne X 81 (by omega) (by omega) dX5_node_69 (by decide) (fun c4 => ?_) (fun c4 => ?_)
              · skip
                refine Wk.iload_n X 5 rfl dX5_node_81 rfl ?_
                refine Wk.tableIn X 116 dX5_node_82 (by decide) (by decide) rfl (by decide) ?_
                refine Wk.iload X 0 rfl dX5_node_116 ?_
                refine Wk.ifB_eq X 125 dX5_node_118 (by decide) (fun c5 => ?_) (fun c5 => ?_)
                · skip
                  replace c5 := of_decide_eq_false c5
                  refine Wk.iconst (v := nI 0) X dX5_node_125 (by decide) ?_
                  exact Wk.iret X hr hk (by simp [ndM, ndA, *]) rfl dX5_node_126
                · skip
                  replace c5 := of_decide_eq_true c5
                  refine Wk.iconst (v := nI 1) X dX5_node_121 (by decide) ?_
                  refine Wk.goto X 126 dX5_node_122 (by decide) ?_
                  exact Wk.iret X hr hk (by simp [ndM, ndA, *]) rfl dX5_node_126
              · exact absurd c4 (by decide)
            · exact absurd c3 (by decide)
        · skip
          have e9_0 : ¬ nI 1 = nI 0 := by decide
          have e9_2 : ¬ nI 1 = nI 2 := by decide
          have e9_3 : ¬ nI 1 = nI 3 := by decide
          have e9_4 : ¬ nI 1 = nI 4 := by decide
          have e9_5 : ¬ nI 1 = nI 5 := by decide
          refine Wk.iload_n X 5 rfl dX5_node_44 rfl ?_
          refine Wk.iconst (v := nI 0) X dX5_node_45 (by decide) ?_
          refine Wk.iconst (v := nI 5) X dX5_node_46 (by decide) ?_
          refine Wk.callSi (n := 3) X (c_X5_in l dC dI cI cJ cZ (nI 1) (nI 0) (nI 5)) gX5_node_X5_in rfl (by decide +kernel) (by decide) Fr.nil (fun h9 => h9) rfl rfl (Nat.le_of_ble_eq_true rfl) ⟨Nat.zero_le _, Nat.zero_le _⟩ dX5_node_47 ?_
          refine Wk.topi (y := bI true) (by decide) ?_
          refine Wk.ifB_eq X 77 dX5_node_50 (by decide) (fun c6 => ?_) (fun c6 => ?_)
          · exact absurd c6 (by decide)
          · skip
            refine Wk.iload_n X 5 rfl dX5_node_53 rfl ?_
            refine Wk.iconst (v := nI 1) X dX5_node_54 (by decide) ?_
            refine Wk.iconst (v := nI 3) X dX5_node_55 (by decide) ?_
            refine Wk.callSi (n := 3) X (c_X5_in l dC dI cI cJ cZ (nI 1) (nI 1) (nI 3)) gX5_node_X5_in rfl (by decide +kernel) (by decide) Fr.nil (fun h9 => h9) rfl rfl (Nat.le_of_ble_eq_true rfl) ⟨Nat.zero_le _, Nat.zero_le _⟩ dX5_node_56 ?_
            refine Wk.topi (y := bI true) (by decide) ?_
            refine Wk.ifB_eq X 67 dX5_node_59 (by decide) (fun c7 => ?_) (fun c7 => ?_)
            · exact absurd c7 (by decide)
            · skip
              refine Wk.iload X 0 rfl dX5_node_62 ?_
              refine Wk.ifB_eq X 77 dX5_node_64 (by decide) (fun c8 => ?_) (fun c8 => ?_)
              · skip
                replace c8 := of_decide_eq_false c8
                refine Wk.sipush (v := -10002) X dX5_node_77 (by decide) ?_
                exact Wk.iret X hr hk (by simp [ndM, ndA, *]) rfl dX5_node_80
              · skip
                replace c8 := of_decide_eq_true c8
                refine Wk.iload_n X 5 rfl dX5_node_67 rfl ?_
                refine Wk.iconst (v := nI 4) X dX5_node_68 (by decide) ?_
                refine Wk.icmpN_ne X 81 (by omega) (by omega) dX5_node_69 (by decide) (fun c9 => ?_) (fun c9 => ?_)
                · skip
                  refine Wk.iload_n X 5 rfl dX5_node_81 rfl ?_
                  refine Wk.tableIn X 127 dX5_node_82 (by decide) (by decide) rfl (by decide) ?_
                  refine Wk.aload_n X 2 rfl dX5_node_127 rfl ?_
                  refine Wk.get X inX5 0 9 lk29 (fun _ h9 => h9) rfl rfl (by decide) rfl dX5_node_128 ?_
                  refine Wk.iload X 1 rfl dX5_node_131 ?_
                  refine Wk.iald X 7 0 rfl rfl (by omega) (by decide) dX5_node_133 ?_
                  exact Wk.iret X hr hk (by simp [ndM, ndA, *]) rfl dX5_node_134
                · exact absurd c9 (by decide)
        · skip
          have e9_0 : ¬ nI 2 = nI 0 := by decide
          have e9_1 : ¬ nI 2 = nI 1 := by decide
          have e9_3 : ¬ nI 2 = nI 3 := by decide
          have e9_4 : ¬ nI 2 = nI 4 := by decide
          have e9_5 : ¬ nI 2 = nI 5 := by decide
          refine Wk.iload_n X 5 rfl dX5_node_44 rfl ?_
          refine Wk.iconst (v := nI 0) X dX5_node_45 (by decide) ?_
          refine Wk.iconst (v := nI 5) X dX5_node_46 (by decide) ?_
          refine Wk.callSi (n := 3) X (c_X5_in l dC dI cI cJ cZ (nI 2) (nI 0) (nI 5)) gX5_node_X5_in rfl (by decide +kernel) (by decide) Fr.nil (fun h9 => h9) rfl rfl (Nat.le_of_ble_eq_true rfl) ⟨Nat.zero_le _, Nat.zero_le _⟩ dX5_node_47 ?_
          refine Wk.topi (y := bI true) (by decide) ?_
          refine Wk.ifB_eq X 77 dX5_node_50 (by decide) (fun c10 => ?_) (fun c10 => ?_)
          · exact absurd c10 (by decide)
          · skip
            refine Wk.iload_n X 5 rfl dX5_node_53 rfl ?_
            refine Wk.iconst (v := nI 1) X dX5_node_54 (by decide) ?_
            refine Wk.iconst (v := nI 3) X dX5_node_55 (by decide) ?_
            refine Wk.callSi (n := 3) X (c_X5_in l dC dI cI cJ cZ (nI 2) (nI 1) (nI 3)) gX5_node_X5_in rfl (by decide +kernel) (by decide) Fr.nil (fun h9 => h9) rfl rfl (Nat.le_of_ble_eq_true rfl) ⟨Nat.zero_le _, Nat.zero_le _⟩ dX5_node_56 ?_
            refine Wk.topi (y := bI true) (by decide) ?_
            refine Wk.ifB_eq X 67 dX5_node_59 (by decide) (fun c11 => ?_) (fun c11 => ?_)
            · exact absurd c11 (by decide)
            · skip
              refine Wk.iload X 0 rfl dX5_node_62 ?_
              refine Wk.ifB_eq X 77 dX5_node_64 (by decide) (fun c12 => ?_) (fun c12 => ?_)
              · skip
                replace c12 := of_decide_eq_false c12
                refine Wk.sipush (v := -10002) X dX5_node_77 (by decide) ?_
                exact Wk.iret X hr hk (by simp [ndM, ndA, *]) rfl dX5_node_80
              · skip
                replace c12 := of_decide_eq_true c12
                refine Wk.iload_n X 5 rfl dX5_node_67 rfl ?_
                refine Wk.iconst (v := nI 4) X dX5_node_68 (by decide) ?_
                refine Wk.icmpN_ne X 81 (by omega) (by omega) dX5_node_69 (by decide) (fun c13 => ?_) (fun c13 => ?_)
                · skip
                  refine Wk.iload_n X 5 rfl dX5_node_81 rfl ?_
                  refine Wk.tableIn X 135 dX5_node_82 (by decide) (by decide) rfl (by decide) ?_
                  refine Wk.aload_n X 2 rfl dX5_node_135 rfl ?_
                  refine Wk.get X inX5 0 10 lk32 (fun _ h9 => h9) rfl rfl (by decide) rfl dX5_node_136 ?_
                  refine Wk.iload X 1 rfl dX5_node_139 ?_
                  refine Wk.iald X 8 0 rfl rfl (by omega) (by decide) dX5_node_141 ?_
                  exact Wk.iret X hr hk (by simp [ndM, ndA, *]) rfl dX5_node_142
                · exact absurd c13 (by decide)
        · skip
          have e9_0 : ¬ nI 3 = nI 0 := by decide
          have e9_1 : ¬ nI 3 = nI 1 := by decide
          have e9_2 : ¬ nI 3 = nI 2 := by decide
          have e9_4 : ¬ nI 3 = nI 4 := by decide
          have e9_5 : ¬ nI 3 = nI 5 := by decide
          refine Wk.iload_n X 5 rfl dX5_node_44 rfl ?_
          refine Wk.iconst (v := nI 0) X dX5_node_45 (by decide) ?_
          refine Wk.iconst (v := nI 5) X dX5_node_46 (by decide) ?_
          refine Wk.callSi (n := 3) X (c_X5_in l dC dI cI cJ cZ (nI 3) (nI 0) (nI 5)) gX5_node_X5_in rfl (by decide +kernel) (by decide) Fr.nil (fun h9 => h9) rfl rfl (Nat.le_of_ble_eq_true rfl) ⟨Nat.zero_le _, Nat.zero_le _⟩ dX5_node_47 ?_
          refine Wk.topi (y := bI true) (by decide) ?_
          refine Wk.ifB_eq X 77 dX5_node_50 (by decide) (fun c14 => ?_) (fun c14 => ?_)
          · exact absurd c14 (by decide)
          · skip
            refine Wk.iload_n X 5 rfl dX5_node_53 rfl ?_
            refine Wk.iconst (v := nI 1) X dX5_node_54 (by decide) ?_
            refine Wk.iconst (v := nI 3) X dX5_node_55 (by decide) ?_
            refine Wk.callSi (n := 3) X (c_X5_in l dC dI cI cJ cZ (nI 3) (nI 1) (nI 3)) gX5_node_X5_in rfl (by decide +kernel) (by decide) Fr.nil (fun h9 => h9) rfl rfl (Nat.le_of_ble_eq_true rfl) ⟨Nat.zero_le _, Nat.zero_le _⟩ dX5_node_56 ?_
            refine Wk.topi (y := bI true) (by decide) ?_
            refine Wk.ifB_eq X 67 dX5_node_59 (by decide) (fun c15 => ?_) (fun c15 => ?_)
            · exact absurd c15 (by decide)
            · skip
              refine Wk.iload X 0 rfl dX5_node_62 ?_
              refine Wk.ifB_eq X 77 dX5_node_64 (by decide) (fun c16 => ?_) (fun c16 => ?_)
              · skip
                replace c16 := of_decide_eq_false c16
                refine Wk.sipush (v := -10002) X dX5_node_77 (by decide) ?_
                exact Wk.iret X hr hk (by simp [ndM, ndA, *]) rfl dX5_node_80
              · skip
                replace c16 := of_decide_eq_true c16
                refine Wk.iload_n X 5 rfl dX5_node_67 rfl ?_
                refine Wk.iconst (v := nI 4) X dX5_node_68 (by decide) ?_
                refine Wk.icmpN_ne X 81 (by omega) (by omega) dX5_node_69 (by decide) (fun c17 => ?_) (fun c17 => ?_)
                · skip
                  refine Wk.iload_n X 5 rfl dX5_node_81 rfl ?_
                  refine Wk.tableIn X 143 dX5_node_82 (by decide) (by decide) rfl (by decide) ?_
                  refine Wk.aload_n X 2 rfl dX5_node_143 rfl ?_
                  refine Wk.get X inX5 0 11 lk35 (fun _ h9 => h9) rfl rfl (by decide) rfl dX5_node_144 ?_
                  refine Wk.iload X 1 rfl dX5_node_147 ?_
                  refine Wk.iald X 9 0 rfl rfl (by omega) (by decide) dX5_node_149 ?_
                  exact Wk.iret X hr hk (by simp [ndM, ndA, *]) rfl dX5_node_150
                · exact absurd c17 (by decide)
        · skip
          have e9_0 : ¬ nI 4 = nI 0 := by decide
          have e9_1 : ¬ nI 4 = nI 1 := by decide
          have e9_2 : ¬ nI 4 = nI 2 := by decide
          have e9_3 : ¬ nI 4 = nI 3 := by decide
          have e9_5 : ¬ nI 4 = nI 5 := by decide
          refine Wk.iload_n X 5 rfl dX5_node_44 rfl ?_
          refine Wk.iconst (v := nI 0) X dX5_node_45 (by decide) ?_
          refine Wk.iconst (v := nI 5) X dX5_node_46 (by decide) ?_
          refine Wk.callSi (n := 3) X (c_X5_in l dC dI cI cJ cZ (nI 4) (nI 0) (nI 5)) gX5_node_X5_in rfl (by decide +kernel) (by decide) Fr.nil (fun h9 => h9) rfl rfl (Nat.le_of_ble_eq_true rfl) ⟨Nat.zero_le _, Nat.zero_le _⟩ dX5_node_47 ?_
          refine Wk.topi (y := bI true) (by decide) ?_
          refine Wk.ifB_eq X 77 dX5_node_50 (by decide) (fun c18 => ?_) (fun c18 => ?_)
          · exact absurd c18 (by decide)
          · skip
            refine Wk.iload_n X 5 rfl dX5_node_53 rfl ?_
            refine Wk.iconst (v := nI 1) X dX5_node_54 (by decide) ?_
            refine Wk.iconst (v := nI 3) X dX5_node_55 (by decide) ?_
            refine Wk.callSi (n := 3) X (c_X5_in l dC dI cI cJ cZ (nI 4) (nI 1) (nI 3)) gX5_node_X5_in rfl (by decide +kernel) (by decide) Fr.nil (fun h9 => h9) rfl rfl (Nat.le_of_ble_eq_true rfl) ⟨Nat.zero_le _, Nat.zero_le _⟩ dX5_node_56 ?_
            refine Wk.topi (y := bI false) (by decide) ?_
            refine Wk.ifB_eq X 67 dX5_node_59 (by decide) (fun c19 => ?_) (fun c19 => ?_)
            · skip
              refine Wk.iload_n X 5 rfl dX5_node_67 rfl ?_
              refine Wk.iconst (v := nI 4) X dX5_node_68 (by decide) ?_
              refine Wk.icmpN_ne X 81 (by omega) (by omega) dX5_node_69 (by decide) (fun c20 => ?_) (fun c20 => ?_)
              · exact absurd c20 (by decide)
              · skip
                refine Wk.iload X 0 rfl dX5_node_72 ?_
                refine Wk.ifB_eq X 81 dX5_node_74 (by decide) (fun c21 => ?_) (fun c21 => ?_)
                · skip
                  replace c21 := of_decide_eq_false c21
                  refine Wk.iload_n X 5 rfl dX5_node_81 rfl ?_
                  refine Wk.tableIn X 151 dX5_node_82 (by decide) (by decide) rfl (by decide) ?_
                  refine Wk.aload_n X 2 rfl dX5_node_151 rfl ?_
                  refine Wk.get X inX5 0 12 lk38 (fun _ h9 => h9) rfl rfl (by decide) rfl dX5_node_152 ?_
                  refine Wk.iload X 1 rfl dX5_node_155 ?_
                  refine Wk.iald X 10 0 rfl rfl (by omega) (by decide) dX5_node_157 ?_
                  exact Wk.iret X hr hk (by simp [ndM, ndA, *]) rfl dX5_node_158
                · skip
                  replace c21 := of_decide_eq_true c21
                  refine Wk.sipush (v := -10002) X dX5_node_77 (by decide) ?_
                  exact Wk.iret X hr hk (by simp [ndM, ndA, *]) rfl dX5_node_80
            · exact absurd c19 (by decide)
        · skip
          have e9_0 : ¬ nI 5 = nI 0 := by decide
          have e9_1 : ¬ nI 5 = nI 1 := by decide
          have e9_2 : ¬ nI 5 = nI 2 := by decide
          have e9_3 : ¬ nI 5 = nI 3 := by decide
          have e9_4 : ¬ nI 5 = nI 4 := by decide
          refine Wk.iload_n X 5 rfl dX5_node_44 rfl ?_
          refine Wk.iconst (v := nI 0) X dX5_node_45 (by decide) ?_
          refine Wk.iconst (v := nI 5) X dX5_node_46 (by decide) ?_
          refine Wk.callSi (n := 3) X (c_X5_in l dC dI cI cJ cZ (nI 5) (nI 0) (nI 5)) gX5_node_X5_in rfl (by decide +kernel) (by decide) Fr.nil (fun h9 => h9) rfl rfl (Nat.le_of_ble_eq_true rfl) ⟨Nat.zero_le _, Nat.zero_le _⟩ dX5_node_47 ?_
          refine Wk.topi (y := bI true) (by decide) ?_
          refine Wk.ifB_eq X 77 dX5_node_50 (by decide) (fun c22 => ?_) (fun c22 => ?_)
          · exact absurd c22 (by decide)
          · skip
            refine Wk.iload_n X 5 rfl dX5_node_53 rfl ?_
            refine Wk.iconst (v := nI 1) X dX5_node_54 (by decide) ?_
            refine Wk.iconst (v := nI 3) X dX5_node_55 (by decide) ?_
            refine Wk.callSi (n := 3) X (c_X5_in l dC dI cI cJ cZ (nI 5) (nI 1) (nI 3)) gX5_node_X5_in rfl (by decide +kernel) (by decide) Fr.nil (fun h9 => h9) rfl rfl (Nat.le_of_ble_eq_true rfl) ⟨Nat.zero_le _, Nat.zero_le _⟩ dX5_node_56 ?_
            refine Wk.topi (y := bI false) (by decide) ?_
            refine Wk.ifB_eq X 67 dX5_node_59 (by decide) (fun c23 => ?_) (fun c23 => ?_)
            · skip
              refine Wk.iload_n X 5 rfl dX5_node_67 rfl ?_
              refine Wk.iconst (v := nI 4) X dX5_node_68 (by decide) ?_
              refine Wk.icmpN_ne X 81 (by omega) (by omega) dX5_node_69 (by decide) (fun c24 => ?_) (fun c24 => ?_)
              · skip
                refine Wk.iload_n X 5 rfl dX5_node_81 rfl ?_
                refine Wk.tableOut X 159 dX5_node_82 (by decide) (by decide) ?_
                refine Wk.aload_n X 2 rfl dX5_node_159 rfl ?_
                refine Wk.get X inX5 0 13 lk41 (fun _ h9 => h9) rfl rfl (by decide) rfl dX5_node_160 ?_
                refine Wk.iload X 1 rfl dX5_node_163 ?_
                refine Wk.iald X 11 0 rfl rfl (by omega) (by decide) dX5_node_165 ?_
                exact Wk.iret X hr hk (by simp [ndM, ndA, *]) rfl dX5_node_166
              · exact absurd c24 (by decide)
            · exact absurd c23 (by decide)
      · skip
        have e9_0 : ¬ w0 = nI 0 := tab_ne (hi := 5) ho 0 ⟨by decide, by decide⟩
        have e9_1 : ¬ w0 = nI 1 := tab_ne (hi := 5) ho 1 ⟨by decide, by decide⟩
        have e9_2 : ¬ w0 = nI 2 := tab_ne (hi := 5) ho 2 ⟨by decide, by decide⟩
        have e9_3 : ¬ w0 = nI 3 := tab_ne (hi := 5) ho 3 ⟨by decide, by decide⟩
        have e9_4 : ¬ w0 = nI 4 := tab_ne (hi := 5) ho 4 ⟨by decide, by decide⟩
        have e9_5 : ¬ w0 = nI 5 := tab_ne (hi := 5) ho 5 ⟨by decide, by decide⟩
        have hin : inB w0 (nI 0) (nI 5) = false := inB_out (by decide) ho
        refine Wk.iload_n X 5 rfl dX5_node_44 rfl ?_
        refine Wk.iconst (v := nI 0) X dX5_node_45 (by decide) ?_
        refine Wk.iconst (v := nI 5) X dX5_node_46 (by decide) ?_
        refine Wk.callSi (n := 3) X (c_X5_in l dC dI cI cJ cZ w0 (nI 0) (nI 5)) gX5_node_X5_in rfl (by decide +kernel) (by decide) Fr.nil (fun h9 => h9) rfl rfl (Nat.le_of_ble_eq_true rfl) ⟨Nat.zero_le _, Nat.zero_le _⟩ dX5_node_47 ?_
        refine Wk.ifB_eq X 77 dX5_node_50 (by decide) (fun c25 => ?_) (fun c25 => ?_)
        · skip
          refine Wk.sipush (v := -10002) X dX5_node_77 (by decide) ?_
          exact Wk.iret X hr hk (by simp [ndM, ndA, *]) rfl dX5_node_80
        · skip
          rw [hin] at c25; cases c25
    refine Wk.iload X 0 rfl dX5_node_30 ?_
    refine Wk.iald X 6 0 rfl rfl (by omega) (by decide) dX5_node_32 ?_
    refine Wk.iconst (v := nI 2) X dX5_node_33 (by decide) ?_
    refine Wk.icmp_ne X 41 dX5_node_34 (by decide) (fun c26 => ?_) (fun c26 => ?_)
    · skip
      refine Wk.iconst (v := nI 0) X dX5_node_41 (by decide) ?_
      refine Wk.topi (y := bI (decide (ki (a * 15 + b) = nI 2))) (by simp [bI, nI_0, nIc1, *]) ?_
      exact J42
    · skip
      refine Wk.iconst (v := nI 1) X dX5_node_37 (by decide) ?_
      refine Wk.goto X 42 dX5_node_38 (by decide) ?_
      refine Wk.topi (y := bI (decide (ki (a * 15 + b) = nI 2))) (by simp [bI, nI_0, nIc1, *]) ?_
      exact J42
  · skip
    refine Wk.sipush (v := -10001) X dX5_node_14 (by decide) ?_
    exact Wk.iret X hr hk (by simp [ndM, *]) rfl dX5_node_17

set_option maxHeartbeats 4000000 in
set_option maxRecDepth 100000 in
theorem c_X5_ranked (l : Launch) (dC : Nat → ClassId) (dI : Nat → Nat → Nat) (cI cJ cZ : ClassId) (h : Nat → Nat) (th : Int32) (n : Nat) (li : Nat → Int32) (gr : Nat → Int32) (nu : Nat → Int32) (hb : Nat → Bool) (se : Nat → Int32) (t : Nat) (ki : Nat → Int32) (fe : Nat → Int32) (lm : Nat → Int32) (si : Nat → Int32) (va : Nat → Int32) (he : Nat → Int32) (up : Nat → Int64) (lo : Nat → Int64) (sc : Nat → Int64) (no : Nat → Int32) (pu : Nat → Int32) (b1 : Int32) (b2 : Int32) (b3 : Int32) (bu : Int64) (bl : Int64) (ls : Int32) (k : Int32) (hn0 : n ≤ 24) (ht0 : t ≤ 20) (hfe : ∀ j, j < t * 15 → ki j = nI 2 → ∃ f, f < 4 ∧ fe j = nI f) (hcu : ∀ tr k, tr < t → k < 15 → ki (tr * 15 + k) = nI 2 → k < 7) : Ci l yX5_ranked wsX5_ranked 5 113 (dC, dI) cl6 (TY cI cJ cZ) false [.ref (h 0), .int ls, .int k] (Wm h cI cJ cZ th n li gr nu hb se t ki fe lm si va he up lo sc no pu b1 b2 b3 bu bl) (if inN ls 4 = true then raM li (scT sc (scoreM ki fe lm si va hb nu t) n) n ls k n 0 else -10002) (Wm h cI cJ cZ (nI 0) n li gr nu hb se t ki fe lm si va he up lo (if inN ls 4 = true then scT sc (scoreM ki fe lm si va hb nu t) n else sc) no pu b1 b2 b3 bu bl) := by
  refine Ci.of (cc := cX5_ranked) (maxL := 7) (ty := .int) (own := RX5) rfl (plainFor_of_name (by decide)) rfl (Nat.le_of_ble_eq_true rfl) ?_
  intro pg ev s0 md ar bw mt cd A X hr hk
  show Wk pg l ev _ s0 md ar bw mt cd 0 0 _ 7 (dC, dI) cl6 A 0 [(0, .ref (h 0)), (1, .int ls), (2, .int k)] [] (Wm h cI cJ cZ th n li gr nu hb se t ki fe lm si va he up lo sc no pu b1 b2 b3 bu bl)
  have inX5 : ∀ w ∈ u_ws RX5 TX5 24, w ∈ wsX5_ranked := by decide +kernel
  have lk7 := X.w (.fieldLink RX5 7 "PairedTreesModel" "listOf" "[I") (by decide +kernel)
  have lk51 := X.w (.fieldLink RX5 51 "PairedTreesModel" "scores" "[J") (by decide +kernel)
  have lk63 := X.w (.fieldLink RX5 63 "PairedTreesModel" "things" "I") (by decide +kernel)
  have lk70 := X.w (.fieldLink RX5 70 "PairedTreesModel" "thrown" "I") (by decide +kernel)
  refine Wk.aload_n X 0 rfl dX5_ranked_0 rfl ?_
  refine Wk.iconst (v := nI 0) X dX5_ranked_1 (by decide) ?_
  refine Wk.put (ws' := Wm h cI cJ cZ (nI 0) n li gr nu hb se t ki fe lm si va he up lo sc no pu b1 b2 b3 bu bl) X inX5 tyX5 tyX5_ok nmX5 0 0 lk70 (fun _ h9 => h9) rfl rfl (by decide) rfl (tyX5_ok 0 (by decide)) rfl rfl (Nat.le_of_ble_eq_true rfl) rfl dX5_ranked_2 ?_
  refine Wk.iload_n X 1 rfl dX5_ranked_5 rfl ?_
  refine Wk.iconst (v := nI 0) X dX5_ranked_6 (by decide) ?_
  refine Wk.iconst (v := nI 3) X dX5_ranked_7 (by decide) ?_
  refine Wk.callSi (n := 3) X (c_X5_in l dC dI cI cJ cZ ls (nI 0) (nI 3)) gX5_ranked_X5_in rfl (by decide +kernel) (by decide) Fr.nil (fun h9 => h9) rfl rfl (Nat.le_of_ble_eq_true rfl) ⟨Nat.zero_le _, Nat.zero_le _⟩ dX5_ranked_8 ?_
  refine Wk.ifB_ne X 18 dX5_ranked_11 (by decide) (fun c1 => ?_) (fun c1 => ?_)
  · skip
    refine Wk.aload_n X 0 rfl dX5_ranked_18 rfl ?_
    refine Wk.callVv (n := 0) (q0 := 0) X (c_X5_score l dC dI cI cJ cZ h (nI 0) n li gr nu hb se t ki fe lm si va he up lo sc no pu b1 b2 b3 bu bl (by first | omega | assumption) (by first | omega | assumption) (by first | omega | assumption) (by first | omega | assumption)) gX5_ranked_X5_score rfl (by decide +kernel) (by decide) Fr.all (fun h9 => h9) rfl rfl rfl rfl (Nat.le_of_ble_eq_true rfl) ⟨Nat.zero_le _, Nat.zero_le _⟩ dX5_ranked_19 ?_
    refine Wk.iconst (v := nI 0) X dX5_ranked_22 (by decide) ?_
    refine Wk.istore_n (lv' := [(3, .int (nI 0)), (0, .ref (h 0)), (1, .int ls), (2, .int k)]) X dX5_ranked_23 rfl (by decide) rfl ?_
    have L24 : ∀ (fu24 : Nat) (i : Nat) (hq : n + 1 ≤ i + fu24) (hi : i ≤ n) (hv : raM li (scT sc (scoreM ki fe lm si va hb nu t) n) n ls k (n - i) i = raM li (scT sc (scoreM ki fe lm si va hb nu t) n) n ls k n 0), Wk pg l ev ({ frames := 5, cells := 0, slots := 0, locals := 113 } : Room) s0 md ar bw mt cd 0 0 (QRi bw ar s0 (dC, dI) cl6 (TY cI cJ cZ) A (if inN ls 4 = true then raM li (scT sc (scoreM ki fe lm si va hb nu t) n) n ls k n 0 else -10002) (Wm h cI cJ cZ (nI 0) n li gr nu hb se t ki fe lm si va he up lo (if inN ls 4 = true then scT sc (scoreM ki fe lm si va hb nu t) n else sc) no pu b1 b2 b3 bu bl)) 7 (dC, dI) cl6 A 24 [(0, .ref (h 0)), (1, .int ls), (2, .int k), (3, .int (nI i))] [] (Wm h cI cJ cZ (nI 0) n li gr nu hb se t ki fe lm si va he up lo (scT sc (scoreM ki fe lm si va hb nu t) n) no pu b1 b2 b3 bu bl) := by
      intro fu24
      induction fu24 with
      | zero => intro i hq hi hv; exact absurd hq (by omega)
      | succ fu24 ih24 =>
        intro i hq hi hv
        refine Wk.iload_n X 3 rfl dX5_ranked_24 rfl ?_
        refine Wk.aload_n X 0 rfl dX5_ranked_25 rfl ?_
        refine Wk.get X inX5 0 1 lk63 (fun _ h9 => h9) rfl rfl (by decide) rfl dX5_ranked_26 ?_
        refine Wk.icmpN_ge X 150 (by omega) (by omega) dX5_ranked_29 (by decide) (fun c2 => ?_) (fun c2 => ?_)
        · skip
          refine Wk.iconst (v := -1) X dX5_ranked_150 (by decide) ?_
          exact Wk.iret X hr hk (by rw [← inN4] at c1; rw [if_pos c1, ← hv, show n - i = 0 by omega]; rfl) (by rw [← inN4] at c1; simp [*]) dX5_ranked_151
        · skip
          refine Wk.iconst (v := nI 0) X dX5_ranked_32 (by decide) ?_
          refine Wk.istore (lv' := [(4, .int (nI 0)), (0, .ref (h 0)), (1, .int ls), (2, .int k), (3, .int (nI i))]) X dX5_ranked_33 (by decide) rfl ?_
          refine Wk.iconst (v := nI 0) X dX5_ranked_35 (by decide) ?_
          refine Wk.istore (lv' := [(5, .int (nI 0)), (4, .int (nI 0)), (0, .ref (h 0)), (1, .int ls), (2, .int k), (3, .int (nI i))]) X dX5_ranked_36 (by decide) rfl ?_
          have L38 : ∀ (fu38 : Nat) (o : Nat) (x : Nat) (hq2 : n + 1 ≤ o + fu38) (ho : o ≤ n) (hx : x = raI li (scT sc (scoreM ki fe lm si va hb nu t) n) ls i o), Wk pg l ev ({ frames := 5, cells := 0, slots := 0, locals := 113 } : Room) s0 md ar bw mt cd 0 0 (QRi bw ar s0 (dC, dI) cl6 (TY cI cJ cZ) A (if inN ls 4 = true then raM li (scT sc (scoreM ki fe lm si va hb nu t) n) n ls k n 0 else -10002) (Wm h cI cJ cZ (nI 0) n li gr nu hb se t ki fe lm si va he up lo (if inN ls 4 = true then scT sc (scoreM ki fe lm si va hb nu t) n else sc) no pu b1 b2 b3 bu bl)) 7 (dC, dI) cl6 A 38 [(0, .ref (h 0)), (1, .int ls), (2, .int k), (3, .int (nI i)), (4, .int (nI x)), (5, .int (nI o))] [] (Wm h cI cJ cZ (nI 0) n li gr nu hb se t ki fe lm si va he up lo (scT sc (scoreM ki fe lm si va hb nu t) n) no pu b1 b2 b3 bu bl) := by
            intro fu38
            induction fu38 with
            | zero => intro o x hq2 ho hx; exact absurd hq2 (by omega)
            | succ fu38 ih38 =>
              intro o x hq2 ho hx
              refine Wk.iload X 5 rfl dX5_ranked_38 ?_
              refine Wk.aload_n X 0 rfl dX5_ranked_40 rfl ?_
              refine Wk.get X inX5 0 1 lk63 (fun _ h9 => h9) rfl rfl (by decide) rfl dX5_ranked_41 ?_
              refine Wk.icmpN_ge X 126 (by omega) (by omega) dX5_ranked_44 (by decide) (fun c3 => ?_) (fun c3 => ?_)
              · skip
                have eo : raI li (scT sc (scoreM ki fe lm si va hb nu t) n) ls i n = x := by rw [hx, show o = n by omega]
                clear hx
                refine Wk.aload_n X 0 rfl dX5_ranked_126 rfl ?_
                refine Wk.get X inX5 0 2 lk7 (fun _ h9 => h9) rfl rfl (by decide) rfl dX5_ranked_127 ?_
                refine Wk.iload_n X 3 rfl dX5_ranked_130 rfl ?_
                refine Wk.iald X 1 0 rfl rfl (by omega) (by decide) dX5_ranked_131 ?_
                refine Wk.iload_n X 1 rfl dX5_ranked_132 rfl ?_
                refine Wk.icmp_ne X 144 dX5_ranked_133 (by decide) (fun c4 => ?_) (fun c4 => ?_)
                · skip
                  refine Wk.iincN (n := 1) (lv' := [(3, .int (nI (i + 1))), (0, .ref (h 0)), (1, .int ls), (2, .int k), (4, .int (nI x)), (5, .int (nI o))]) X 3 rfl dX5_ranked_144 (by decide) rfl ?_
                  refine Wk.goto X 24 dX5_ranked_147 (by decide) ?_
                  refine Wk.lvs (lv' := [(0, .ref (h 0)), (1, .int ls), (2, .int k), (3, .int (nI (i + 1)))]) [1, 2, 3, 0] rfl ?_
                  exact ih24 (i + 1) (by omega) (by omega) (by rw [← hv, show n - i = (n - (i + 1)) + 1 by omega]; simp [raM, *])
                · skip
                  refine Wk.iload X 4 rfl dX5_ranked_136 ?_
                  refine Wk.iload_n X 2 rfl dX5_ranked_138 rfl ?_
                  refine Wk.icmp_ne X 144 dX5_ranked_139 (by decide) (fun c5 => ?_) (fun c5 => ?_)
                  · skip
                    refine Wk.iincN (n := 1) (lv' := [(3, .int (nI (i + 1))), (0, .ref (h 0)), (1, .int ls), (2, .int k), (4, .int (nI x)), (5, .int (nI o))]) X 3 rfl dX5_ranked_144 (by decide) rfl ?_
                    refine Wk.goto X 24 dX5_ranked_147 (by decide) ?_
                    refine Wk.lvs (lv' := [(0, .ref (h 0)), (1, .int ls), (2, .int k), (3, .int (nI (i + 1)))]) [1, 2, 3, 0] rfl ?_
                    exact ih24 (i + 1) (by omega) (by omega) (by rw [← hv, show n - i = (n - (i + 1)) + 1 by omega]; simp [raM, *])
                  · skip
                    refine Wk.iload_n X 3 rfl dX5_ranked_142 rfl ?_
                    exact Wk.iret X hr hk (by rw [← inN4] at c1; rw [if_pos c1, ← hv, show n - i = (n - (i + 1)) + 1 by omega]; simp [raM, *]) (by rw [← inN4] at c1; simp [*]) dX5_ranked_143
              · skip
                have J92 : Wk pg l ev ({ frames := 5, cells := 0, slots := 0, locals := 113 } : Room) s0 md ar bw mt cd 0 0 (QRi bw ar s0 (dC, dI) cl6 (TY cI cJ cZ) A (if inN ls 4 = true then raM li (scT sc (scoreM ki fe lm si va hb nu t) n) n ls k n 0 else -10002) (Wm h cI cJ cZ (nI 0) n li gr nu hb se t ki fe lm si va he up lo (if inN ls 4 = true then scT sc (scoreM ki fe lm si va hb nu t) n else sc) no pu b1 b2 b3 bu bl)) 7 (dC, dI) cl6 A 92 [(0, .ref (h 0)), (1, .int ls), (2, .int k), (3, .int (nI i)), (4, .int (nI x)), (5, .int (nI o))] [.int (bI (decide ((scT sc (scoreM ki fe lm si va hb nu t) n) i < (scT sc (scoreM ki fe lm si va hb nu t) n) o ∨ ((scT sc (scoreM ki fe lm si va hb nu t) n) o = (scT sc (scoreM ki fe lm si va hb nu t) n) i ∧ o < i))))] (Wm h cI cJ cZ (nI 0) n li gr nu hb se t ki fe lm si va he up lo (scT sc (scoreM ki fe lm si va hb nu t) n) no pu b1 b2 b3 bu bl) := by
                  refine Wk.istore (lv' := [(6, .int (bI (decide ((scT sc (scoreM ki fe lm si va hb nu t) n) i < (scT sc (scoreM ki fe lm si va hb nu t) n) o ∨ ((scT sc (scoreM ki fe lm si va hb nu t) n) o = (scT sc (scoreM ki fe lm si va hb nu t) n) i ∧ o < i))))), (0, .ref (h 0)), (1, .int ls), (2, .int k), (3, .int (nI i)), (4, .int (nI x)), (5, .int (nI o))]) X dX5_ranked_92 (by decide) rfl ?_
                  refine Wk.iload X 5 rfl dX5_ranked_94 ?_
                  refine Wk.aload_n X 1 rfl dX5_ranked_96 rfl ?_
                  refine Wk.get X inX5 0 2 lk7 (fun _ h9 => h9) rfl rfl (by decide) rfl dX5_ranked_97 ?_
                  refine Wk.iload X 6 rfl dX5_ranked_100 ?_
                  refine Wk.iald X 1 0 rfl rfl (by omega) (by decide) dX5_ranked_102 ?_
                  refine Wk.iload_n X 2 rfl dX5_ranked_103 rfl ?_
                  refine Wk.icmp_ne X 116 dX5_ranked_104 (by decide) (fun c6 => ?_) (fun c6 => ?_)
                  · skip
                    refine Wk.iconst (v := nI 0) X dX5_ranked_116 (by decide) ?_
                    refine Wk.iaddN X dX5_ranked_117 ?_
                    refine Wk.istore (lv' := [(4, .int (nI (x + 0))), (6, .int (bI (decide ((scT sc (scoreM ki fe lm si va hb nu t) n) i < (scT sc (scoreM ki fe lm si va hb nu t) n) o ∨ ((scT sc (scoreM ki fe lm si va hb nu t) n) o = (scT sc (scoreM ki fe lm si va hb nu t) n) i ∧ o < i))))), (0, .ref (h 0)), (1, .int ls), (2, .int k), (3, .int (nI i)), (5, .int (nI o))]) X dX5_ranked_118 (by decide) rfl ?_
                    refine Wk.iincN (n := 1) (lv' := [(5, .int (nI (o + 1))), (4, .int (nI (x + 0))), (6, .int (bI (decide ((scT sc (scoreM ki fe lm si va hb nu t) n) i < (scT sc (scoreM ki fe lm si va hb nu t) n) o ∨ ((scT sc (scoreM ki fe lm si va hb nu t) n) o = (scT sc (scoreM ki fe lm si va hb nu t) n) i ∧ o < i))))), (0, .ref (h 0)), (1, .int ls), (2, .int k), (3, .int (nI i))]) X 6 rfl dX5_ranked_120 (by decide) rfl ?_
                    refine Wk.goto X 38 dX5_ranked_123 (by decide) ?_
                    refine Wk.lvs (lv' := [(0, .ref (h 0)), (1, .int ls), (2, .int k), (3, .int (nI i)), (4, .int (nI (x + 0))), (5, .int (nI (o + 1)))]) [3, 4, 5, 6, 1, 0] rfl ?_
                    exact ih38 (o + 1) (x + 0) (by omega) (by omega) (by simp [raI, *])
                  · skip
                    refine Wk.iload X 0 rfl dX5_ranked_107 ?_
                    refine Wk.ifB_eq X 116 dX5_ranked_109 (by decide) (fun c7 => ?_) (fun c7 => ?_)
                    · skip
                      replace c7 := of_decide_eq_false c7
                      refine Wk.iconst (v := nI 0) X dX5_ranked_116 (by decide) ?_
                      refine Wk.iaddN X dX5_ranked_117 ?_
                      refine Wk.istore (lv' := [(4, .int (nI (x + 0))), (6, .int (bI (decide ((scT sc (scoreM ki fe lm si va hb nu t) n) i < (scT sc (scoreM ki fe lm si va hb nu t) n) o ∨ ((scT sc (scoreM ki fe lm si va hb nu t) n) o = (scT sc (scoreM ki fe lm si va hb nu t) n) i ∧ o < i))))), (0, .ref (h 0)), (1, .int ls), (2, .int k), (3, .int (nI i)), (5, .int (nI o))]) X dX5_ranked_118 (by decide) rfl ?_
                      refine Wk.iincN (n := 1) (lv' := [(5, .int (nI (o + 1))), (4, .int (nI (x + 0))), (6, .int (bI (decide ((scT sc (scoreM ki fe lm si va hb nu t) n) i < (scT sc (scoreM ki fe lm si va hb nu t) n) o ∨ ((scT sc (scoreM ki fe lm si va hb nu t) n) o = (scT sc (scoreM ki fe lm si va hb nu t) n) i ∧ o < i))))), (0, .ref (h 0)), (1, .int ls), (2, .int k), (3, .int (nI i))]) X 6 rfl dX5_ranked_120 (by decide) rfl ?_
                      refine Wk.goto X 38 dX5_ranked_123 (by decide) ?_
                      refine Wk.lvs (lv' := [(0, .ref (h 0)), (1, .int ls), (2, .int k), (3, .int (nI i)), (4, .int (nI (x + 0))), (5, .int (nI (o + 1)))]) [3, 4, 5, 6, 1, 0] rfl ?_
                      exact ih38 (o + 1) (x + 0) (by omega) (by omega) (by simp [raI, *])
                    · skip
                      replace c7 := of_decide_eq_true c7
                      refine Wk.iconst (v := nI 1) X dX5_ranked_112 (by decide) ?_
                      refine Wk.goto X 117 dX5_ranked_113 (by decide) ?_
                      refine Wk.iaddN X dX5_ranked_117 ?_
                      refine Wk.istore (lv' := [(4, .int (nI (x + 1))), (6, .int (bI (decide ((scT sc (scoreM ki fe lm si va hb nu t) n) i < (scT sc (scoreM ki fe lm si va hb nu t) n) o ∨ ((scT sc (scoreM ki fe lm si va hb nu t) n) o = (scT sc (scoreM ki fe lm si va hb nu t) n) i ∧ o < i))))), (0, .ref (h 0)), (1, .int ls), (2, .int k), (3, .int (nI i)), (5, .int (nI o))]) X dX5_ranked_118 (by decide) rfl ?_
                      refine Wk.iincN (n := 1) (lv' := [(5, .int (nI (o + 1))), (4, .int (nI (x + 1))), (6, .int (bI (decide ((scT sc (scoreM ki fe lm si va hb nu t) n) i < (scT sc (scoreM ki fe lm si va hb nu t) n) o ∨ ((scT sc (scoreM ki fe lm si va hb nu t) n) o = (scT sc (scoreM ki fe lm si va hb nu t) n) i ∧ o < i))))), (0, .ref (h 0)), (1, .int ls), (2, .int k), (3, .int (nI i))]) X 6 rfl dX5_ranked_120 (by decide) rfl ?_
                      refine Wk.goto X 38 dX5_ranked_123 (by decide) ?_
                      refine Wk.lvs (lv' := [(0, .ref (h 0)), (1, .int ls), (2, .int k), (3, .int (nI i)), (4, .int (nI (x + 1))), (5, .int (nI (o + 1)))]) [3, 4, 5, 6, 1, 0] rfl ?_
                      exact ih38 (o + 1) (x + 1) (by omega) (by omega) (by simp [raI, *])
                refine Wk.aload_n X 0 rfl dX5_ranked_47 rfl ?_
                refine Wk.get X inX5 0 16 lk51 (fun _ h9 => h9) rfl rfl (by decide) rfl dX5_ranked_48 ?_
                refine Wk.iload X 5 rfl dX5_ranked_51 ?_
                refine Wk.lald X 14 1 rfl rfl (by omega) (by decide) dX5_ranked_53 ?_
                refine Wk.aload_n X 0 rfl dX5_ranked_54 rfl ?_
                refine Wk.get X inX5 0 16 lk51 (fun _ h9 => h9) rfl rfl (by decide) rfl dX5_ranked_55 ?_
                refine Wk.iload_n X 3 rfl dX5_ranked_58 rfl ?_
                refine Wk.lald X 14 1 rfl rfl (by omega) (by decide) dX5_ranked_59 ?_
                refine Wk.lcmp_gt X 87 dX5_ranked_60 dX5_ranked_61 (by decide) (fun c8 => ?_) (fun c8 => ?_)
                · skip
                  refine Wk.iconst (v := nI 1) X dX5_ranked_87 (by decide) ?_
                  refine Wk.goto X 92 dX5_ranked_88 (by decide) ?_
                  refine Wk.topi (y := bI (decide ((scT sc (scoreM ki fe lm si va hb nu t) n) i < (scT sc (scoreM ki fe lm si va hb nu t) n) o ∨ ((scT sc (scoreM ki fe lm si va hb nu t) n) o = (scT sc (scoreM ki fe lm si va hb nu t) n) i ∧ o < i)))) (by first | (simp [bI, nI_0, nIc1, *]; done) | (have q9 : o < i := (by omega); simp [bI, nI_0, nIc1, *]; done) | (have q9 : ¬ o < i := (by omega); simp [bI, nI_0, nIc1, *]; done)) ?_
                  exact J92
                · skip
                  refine Wk.aload_n X 0 rfl dX5_ranked_64 rfl ?_
                  refine Wk.get X inX5 0 16 lk51 (fun _ h9 => h9) rfl rfl (by decide) rfl dX5_ranked_65 ?_
                  refine Wk.iload X 5 rfl dX5_ranked_68 ?_
                  refine Wk.lald X 14 1 rfl rfl (by omega) (by decide) dX5_ranked_70 ?_
                  refine Wk.aload_n X 0 rfl dX5_ranked_71 rfl ?_
                  refine Wk.get X inX5 0 16 lk51 (fun _ h9 => h9) rfl rfl (by decide) rfl dX5_ranked_72 ?_
                  refine Wk.iload_n X 3 rfl dX5_ranked_75 rfl ?_
                  refine Wk.lald X 14 1 rfl rfl (by omega) (by decide) dX5_ranked_76 ?_
                  refine Wk.lcmp_ne X 91 dX5_ranked_77 dX5_ranked_78 (by decide) (fun c9 => ?_) (fun c9 => ?_)
                  · skip
                    refine Wk.iconst (v := nI 0) X dX5_ranked_91 (by decide) ?_
                    refine Wk.topi (y := bI (decide ((scT sc (scoreM ki fe lm si va hb nu t) n) i < (scT sc (scoreM ki fe lm si va hb nu t) n) o ∨ ((scT sc (scoreM ki fe lm si va hb nu t) n) o = (scT sc (scoreM ki fe lm si va hb nu t) n) i ∧ o < i)))) (by first | (simp [bI, nI_0, nIc1, *]; done) | (have q9 : o < i := (by omega); simp [bI, nI_0, nIc1, *]; done) | (have q9 : ¬ o < i := (by omega); simp [bI, nI_0, nIc1, *]; done)) ?_
                    exact J92
                  · skip
                    refine Wk.iload X 5 rfl dX5_ranked_81 ?_
                    refine Wk.iload_n X 3 rfl dX5_ranked_83 rfl ?_
                    refine Wk.icmpN_ge X 91 (by omega) (by omega) dX5_ranked_84 (by decide) (fun c10 => ?_) (fun c10 => ?_)
                    · skip
                      refine Wk.iconst (v := nI 0) X dX5_ranked_91 (by decide) ?_
                      refine Wk.topi (y := bI (decide ((scT sc (scoreM ki fe lm si va hb nu t) n) i < (scT sc (scoreM ki fe lm si va hb nu t) n) o ∨ ((scT sc (scoreM ki fe lm si va hb nu t) n) o = (scT sc (scoreM ki fe lm si va hb nu t) n) i ∧ o < i)))) (by first | (simp [bI, nI_0, nIc1, *]; done) | (have q9 : o < i := (by omega); simp [bI, nI_0, nIc1, *]; done) | (have q9 : ¬ o < i := (by omega); simp [bI, nI_0, nIc1, *]; done)) ?_
                      exact J92
                    · skip
                      refine Wk.iconst (v := nI 1) X dX5_ranked_87 (by decide) ?_
                      refine Wk.goto X 92 dX5_ranked_88 (by decide) ?_
                      refine Wk.topi (y := bI (decide ((scT sc (scoreM ki fe lm si va hb nu t) n) i < (scT sc (scoreM ki fe lm si va hb nu t) n) o ∨ ((scT sc (scoreM ki fe lm si va hb nu t) n) o = (scT sc (scoreM ki fe lm si va hb nu t) n) i ∧ o < i)))) (by first | (simp [bI, nI_0, nIc1, *]; done) | (have q9 : o < i := (by omega); simp [bI, nI_0, nIc1, *]; done) | (have q9 : ¬ o < i := (by omega); simp [bI, nI_0, nIc1, *]; done)) ?_
                      exact J92
          refine Wk.lvs (lv' := [(0, .ref (h 0)), (1, .int ls), (2, .int k), (3, .int (nI i)), (4, .int (nI 0)), (5, .int (nI 0))]) [2, 3, 4, 5, 1, 0] rfl ?_
          exact L38 (n + 1) 0 0 (by omega) (by omega) (by rfl)
    refine Wk.lvs (lv' := [(0, .ref (h 0)), (1, .int ls), (2, .int k), (3, .int (nI 0))]) [1, 2, 3, 0] rfl ?_
    exact L24 (n + 1) 0 (by omega) (by omega) (by rfl)
  · skip
    refine Wk.sipush (v := -10002) X dX5_ranked_14 (by decide) ?_
    exact Wk.iret X hr hk (by rw [← inN4] at c1; simp [*]) (by rw [← inN4] at c1; simp [*]) dX5_ranked_17

set_option maxHeartbeats 4000000 in
set_option maxRecDepth 100000 in
theorem c_X5_countPairs (l : Launch) (dC : Nat → ClassId) (dI : Nat → Nat → Nat) (cI cJ cZ : ClassId) (h : Nat → Nat) (th : Int32) (n : Nat) (li : Nat → Int32) (gr : Nat → Int32) (nu : Nat → Int32) (hb : Nat → Bool) (se : Nat → Int32) (t : Nat) (ki : Nat → Int32) (fe : Nat → Int32) (lm : Nat → Int32) (si : Nat → Int32) (va : Nat → Int32) (he : Nat → Int32) (up : Nat → Int64) (lo : Nat → Int64) (sc : Nat → Int64) (no : Nat → Int32) (pu : Nat → Int32) (b1 : Int32) (b2 : Int32) (b3 : Int32) (bu : Int64) (bl : Int64) (ls : Int32) (ow : Bool) (hn0 : n ≤ 24) (ht0 : t ≤ 20) (hfe : ∀ j, j < t * 15 → ki j = nI 2 → ∃ f, f < 4 ∧ fe j = nI f) (hcu : ∀ tr k, tr < t → k < 15 → ki (tr * 15 + k) = nI 2 → k < 7) : Ci l yX5_countPairs wsX5_countPairs 5 113 (dC, dI) cl6 (TY cI cJ cZ) false [.ref (h 0), .int ls, .int (bI ow)] (Wm h cI cJ cZ th n li gr nu hb se t ki fe lm si va he up lo sc no pu b1 b2 b3 bu bl) (nI (cpO li gr (scT sc (scoreM ki fe lm si va hb nu t) n) ls ow n n)) (Wm h cI cJ cZ th n li gr nu hb se t ki fe lm si va he up lo (scT sc (scoreM ki fe lm si va hb nu t) n) no pu b1 b2 b3 bu bl) := by
  refine Ci.of (cc := cX5_countPairs) (maxL := 7) (ty := .int) (own := RX5) rfl (plainFor_of_name (by decide)) rfl (Nat.le_of_ble_eq_true rfl) ?_
  intro pg ev s0 md ar bw mt cd A X hr hk
  show Wk pg l ev _ s0 md ar bw mt cd 0 0 _ 7 (dC, dI) cl6 A 0 [(0, .ref (h 0)), (1, .int ls), (2, .int (bI ow))] [] (Wm h cI cJ cZ th n li gr nu hb se t ki fe lm si va he up lo sc no pu b1 b2 b3 bu bl)
  have inX5 : ∀ w ∈ u_ws RX5 TX5 24, w ∈ wsX5_countPairs := by decide +kernel
  have lk7 := X.w (.fieldLink RX5 7 "PairedTreesModel" "listOf" "[I") (by decide +kernel)
  have lk51 := X.w (.fieldLink RX5 51 "PairedTreesModel" "scores" "[J") (by decide +kernel)
  have lk63 := X.w (.fieldLink RX5 63 "PairedTreesModel" "things" "I") (by decide +kernel)
  refine Wk.aload_n X 0 rfl dX5_countPairs_0 rfl ?_
  refine Wk.callVv (n := 0) (q0 := 0) X (c_X5_score l dC dI cI cJ cZ h th n li gr nu hb se t ki fe lm si va he up lo sc no pu b1 b2 b3 bu bl (by first | omega | assumption) (by first | omega | assumption) (by first | omega | assumption) (by first | omega | assumption)) gX5_countPairs_X5_score rfl (by decide +kernel) (by decide) Fr.all (fun h9 => h9) rfl rfl rfl rfl (Nat.le_of_ble_eq_true rfl) ⟨Nat.zero_le _, Nat.zero_le _⟩ dX5_countPairs_1 ?_
  refine Wk.iconst (v := nI 0) X dX5_countPairs_4 (by decide) ?_
  refine Wk.istore_n (lv' := [(3, .int (nI 0)), (0, .ref (h 0)), (1, .int ls), (2, .int (bI ow))]) X dX5_countPairs_5 rfl (by decide) rfl ?_
  refine Wk.iconst (v := nI 0) X dX5_countPairs_6 (by decide) ?_
  refine Wk.istore (lv' := [(4, .int (nI 0)), (3, .int (nI 0)), (0, .ref (h 0)), (1, .int ls), (2, .int (bI ow))]) X dX5_countPairs_7 (by decide) rfl ?_
  have L9 : ∀ (fu9 : Nat) (i : Nat) (a : Nat) (hq : n + 1 ≤ i + fu9) (hi : i ≤ n) (ha : a = cpO li gr (scT sc (scoreM ki fe lm si va hb nu t) n) ls ow n i), Wk pg l ev ({ frames := 5, cells := 0, slots := 0, locals := 113 } : Room) s0 md ar bw mt cd 0 0 (QRi bw ar s0 (dC, dI) cl6 (TY cI cJ cZ) A (nI (cpO li gr (scT sc (scoreM ki fe lm si va hb nu t) n) ls ow n n)) (Wm h cI cJ cZ th n li gr nu hb se t ki fe lm si va he up lo (scT sc (scoreM ki fe lm si va hb nu t) n) no pu b1 b2 b3 bu bl)) 7 (dC, dI) cl6 A 9 [(0, .ref (h 0)), (1, .int ls), (2, .int (bI ow)), (3, .int (nI a)), (4, .int (nI i))] [] (Wm h cI cJ cZ th n li gr nu hb se t ki fe lm si va he up lo (scT sc (scoreM ki fe lm si va hb nu t) n) no pu b1 b2 b3 bu bl) := by
    intro fu9
    induction fu9 with
    | zero => intro i a hq hi ha; exact absurd hq (by omega)
    | succ fu9 ih9 =>
      intro i a hq hi ha
      refine Wk.iload X 4 rfl dX5_countPairs_9 ?_
      refine Wk.aload_n X 0 rfl dX5_countPairs_11 rfl ?_
      refine Wk.get X inX5 0 1 lk63 (fun _ h9 => h9) rfl rfl (by decide) rfl dX5_countPairs_12 ?_
      refine Wk.icmpN_ge X 111 (by omega) (by omega) dX5_countPairs_15 (by decide) (fun c1 => ?_) (fun c1 => ?_)
      · skip
        refine Wk.iload_n X 3 rfl dX5_countPairs_111 rfl ?_
        exact Wk.iret X hr hk (by rw [ha, show i = n by omega]) rfl dX5_countPairs_112
      · skip
        refine Wk.iconst (v := nI 0) X dX5_countPairs_18 (by decide) ?_
        refine Wk.istore (lv' := [(5, .int (nI 0)), (0, .ref (h 0)), (1, .int ls), (2, .int (bI ow)), (3, .int (nI a)), (4, .int (nI i))]) X dX5_countPairs_19 (by decide) rfl ?_
        have L21 : ∀ (fu21 : Nat) (j : Nat) (b : Nat) (hq2 : n + 1 ≤ j + fu21) (hj : j ≤ n) (hb9 : b = a + cpI li gr (scT sc (scoreM ki fe lm si va hb nu t) n) ls ow i j), Wk pg l ev ({ frames := 5, cells := 0, slots := 0, locals := 113 } : Room) s0 md ar bw mt cd 0 0 (QRi bw ar s0 (dC, dI) cl6 (TY cI cJ cZ) A (nI (cpO li gr (scT sc (scoreM ki fe lm si va hb nu t) n) ls ow n n)) (Wm h cI cJ cZ th n li gr nu hb se t ki fe lm si va he up lo (scT sc (scoreM ki fe lm si va hb nu t) n) no pu b1 b2 b3 bu bl)) 7 (dC, dI) cl6 A 21 [(0, .ref (h 0)), (1, .int ls), (2, .int (bI ow)), (3, .int (nI b)), (4, .int (nI i)), (5, .int (nI j))] [] (Wm h cI cJ cZ th n li gr nu hb se t ki fe lm si va he up lo (scT sc (scoreM ki fe lm si va hb nu t) n) no pu b1 b2 b3 bu bl) := by
          intro fu21
          induction fu21 with
          | zero => intro j b hq2 hj hb9; exact absurd hq2 (by omega)
          | succ fu21 ih21 =>
            intro j b hq2 hj hb9
            refine Wk.iload X 5 rfl dX5_countPairs_21 ?_
            refine Wk.aload_n X 0 rfl dX5_countPairs_23 rfl ?_
            refine Wk.get X inX5 0 1 lk63 (fun _ h9 => h9) rfl rfl (by decide) rfl dX5_countPairs_24 ?_
            refine Wk.icmpN_ge X 105 (by omega) (by omega) dX5_countPairs_27 (by decide) (fun c2 => ?_) (fun c2 => ?_)
            · skip
              refine Wk.iincN (n := 1) (lv' := [(4, .int (nI (i + 1))), (0, .ref (h 0)), (1, .int ls), (2, .int (bI ow)), (3, .int (nI b)), (5, .int (nI j))]) X 4 rfl dX5_countPairs_105 (by decide) rfl ?_
              refine Wk.goto X 9 dX5_countPairs_108 (by decide) ?_
              refine Wk.lvs (lv' := [(0, .ref (h 0)), (1, .int ls), (2, .int (bI ow)), (3, .int (nI b)), (4, .int (nI (i + 1)))]) [1, 2, 3, 4, 0] rfl ?_
              exact ih9 (i + 1) b (by omega) (by omega) (by rw [hb9, show j = n by omega, ha]; rfl)
            · skip
              have J84 : Wk pg l ev ({ frames := 5, cells := 0, slots := 0, locals := 113 } : Room) s0 md ar bw mt cd 0 0 (QRi bw ar s0 (dC, dI) cl6 (TY cI cJ cZ) A (nI (cpO li gr (scT sc (scoreM ki fe lm si va hb nu t) n) ls ow n n)) (Wm h cI cJ cZ th n li gr nu hb se t ki fe lm si va he up lo (scT sc (scoreM ki fe lm si va hb nu t) n) no pu b1 b2 b3 bu bl)) 7 (dC, dI) cl6 A 84 [(0, .ref (h 0)), (1, .int ls), (2, .int (bI ow)), (3, .int (nI b)), (4, .int (nI i)), (5, .int (nI j))] [.int (bI (cpB li gr (scT sc (scoreM ki fe lm si va hb nu t) n) ls ow i j))] (Wm h cI cJ cZ th n li gr nu hb se t ki fe lm si va he up lo (scT sc (scoreM ki fe lm si va hb nu t) n) no pu b1 b2 b3 bu bl) := by
                refine Wk.istore (lv' := [(6, .int (bI (cpB li gr (scT sc (scoreM ki fe lm si va hb nu t) n) ls ow i j))), (0, .ref (h 0)), (1, .int ls), (2, .int (bI ow)), (3, .int (nI b)), (4, .int (nI i)), (5, .int (nI j))]) X dX5_countPairs_84 (by decide) rfl ?_
                refine Wk.iload_n X 4 rfl dX5_countPairs_86 rfl ?_
                refine Wk.iload X 0 rfl dX5_countPairs_87 ?_
                refine Wk.ifB_eq X 96 dX5_countPairs_89 (by decide) (fun c3 => ?_) (fun c3 => ?_)
                · skip
                  refine Wk.iconst (v := nI 0) X dX5_countPairs_96 (by decide) ?_
                  refine Wk.iaddN X dX5_countPairs_97 ?_
                  refine Wk.istore_n (lv' := [(3, .int (nI (b + 0))), (6, .int (bI (cpB li gr (scT sc (scoreM ki fe lm si va hb nu t) n) ls ow i j))), (0, .ref (h 0)), (1, .int ls), (2, .int (bI ow)), (4, .int (nI i)), (5, .int (nI j))]) X dX5_countPairs_98 rfl (by decide) rfl ?_
                  refine Wk.iincN (n := 1) (lv' := [(5, .int (nI (j + 1))), (3, .int (nI (b + 0))), (6, .int (bI (cpB li gr (scT sc (scoreM ki fe lm si va hb nu t) n) ls ow i j))), (0, .ref (h 0)), (1, .int ls), (2, .int (bI ow)), (4, .int (nI i))]) X 6 rfl dX5_countPairs_99 (by decide) rfl ?_
                  refine Wk.goto X 21 dX5_countPairs_102 (by decide) ?_
                  refine Wk.lvs (lv' := [(0, .ref (h 0)), (1, .int ls), (2, .int (bI ow)), (3, .int (nI (b + 0))), (4, .int (nI i)), (5, .int (nI (j + 1)))]) [3, 4, 5, 1, 6, 0] rfl ?_
                  exact ih21 (j + 1) (b + 0) (by omega) (by omega) (by simp [cpI, *] <;> omega)
                · skip
                  refine Wk.iconst (v := nI 1) X dX5_countPairs_92 (by decide) ?_
                  refine Wk.goto X 97 dX5_countPairs_93 (by decide) ?_
                  refine Wk.iaddN X dX5_countPairs_97 ?_
                  refine Wk.istore_n (lv' := [(3, .int (nI (b + 1))), (6, .int (bI (cpB li gr (scT sc (scoreM ki fe lm si va hb nu t) n) ls ow i j))), (0, .ref (h 0)), (1, .int ls), (2, .int (bI ow)), (4, .int (nI i)), (5, .int (nI j))]) X dX5_countPairs_98 rfl (by decide) rfl ?_
                  refine Wk.iincN (n := 1) (lv' := [(5, .int (nI (j + 1))), (3, .int (nI (b + 1))), (6, .int (bI (cpB li gr (scT sc (scoreM ki fe lm si va hb nu t) n) ls ow i j))), (0, .ref (h 0)), (1, .int ls), (2, .int (bI ow)), (4, .int (nI i))]) X 6 rfl dX5_countPairs_99 (by decide) rfl ?_
                  refine Wk.goto X 21 dX5_countPairs_102 (by decide) ?_
                  refine Wk.lvs (lv' := [(0, .ref (h 0)), (1, .int ls), (2, .int (bI ow)), (3, .int (nI (b + 1))), (4, .int (nI i)), (5, .int (nI (j + 1)))]) [3, 4, 5, 1, 6, 0] rfl ?_
                  exact ih21 (j + 1) (b + 1) (by omega) (by omega) (by simp [cpI, *] <;> omega)
              refine Wk.aload_n X 0 rfl dX5_countPairs_30 rfl ?_
              refine Wk.iload X 4 rfl dX5_countPairs_31 ?_
              refine Wk.iload X 5 rfl dX5_countPairs_33 ?_
              refine Wk.callVi (n := 2) (q0 := 0) X (c_X5_isPair l dC dI cI cJ cZ h th n li gr nu hb se t ki fe lm si va he up lo (scT sc (scoreM ki fe lm si va hb nu t) n) no pu b1 b2 b3 bu bl i j (by first | omega | assumption) (by first | omega | assumption)) gX5_countPairs_X5_isPair rfl (by decide +kernel) (by decide) Fr.all (fun h9 => h9) rfl rfl rfl rfl (Nat.le_of_ble_eq_true rfl) ⟨Nat.zero_le _, Nat.zero_le _⟩ dX5_countPairs_35 ?_
              refine Wk.ifB_eq X 83 dX5_countPairs_38 (by decide) (fun c4 => ?_) (fun c4 => ?_)
              · skip
                refine Wk.iconst (v := nI 0) X dX5_countPairs_83 (by decide) ?_
                refine Wk.topi (y := bI (cpB li gr (scT sc (scoreM ki fe lm si va hb nu t) n) ls ow i j)) (by simp [cpB, bI, nI_0, nIc1, *]) ?_
                exact J84
              · skip
                refine Wk.iload_n X 1 rfl dX5_countPairs_41 rfl ?_
                refine Wk.iconst (v := -1) X dX5_countPairs_42 (by decide) ?_
                refine Wk.icmp_eq X 57 dX5_countPairs_43 (by decide) (fun c5 => ?_) (fun c5 => ?_)
                · skip
                  refine Wk.iload_n X 2 rfl dX5_countPairs_57 rfl ?_
                  refine Wk.ifB_eq X 79 dX5_countPairs_58 (by decide) (fun c6 => ?_) (fun c6 => ?_)
                  · skip
                    refine Wk.iconst (v := nI 1) X dX5_countPairs_79 (by decide) ?_
                    refine Wk.goto X 84 dX5_countPairs_80 (by decide) ?_
                    refine Wk.topi (y := bI (cpB li gr (scT sc (scoreM ki fe lm si va hb nu t) n) ls ow i j)) (by simp [cpB, bI, nI_0, nIc1, *]) ?_
                    exact J84
                  · skip
                    refine Wk.aload_n X 0 rfl dX5_countPairs_61 rfl ?_
                    refine Wk.get X inX5 0 16 lk51 (fun _ h9 => h9) rfl rfl (by decide) rfl dX5_countPairs_62 ?_
                    refine Wk.iload X 4 rfl dX5_countPairs_65 ?_
                    refine Wk.lald X 14 1 rfl rfl (by omega) (by decide) dX5_countPairs_67 ?_
                    refine Wk.aload_n X 0 rfl dX5_countPairs_68 rfl ?_
                    refine Wk.get X inX5 0 16 lk51 (fun _ h9 => h9) rfl rfl (by decide) rfl dX5_countPairs_69 ?_
                    refine Wk.iload X 5 rfl dX5_countPairs_72 ?_
                    refine Wk.lald X 14 1 rfl rfl (by omega) (by decide) dX5_countPairs_74 ?_
                    refine Wk.lcmp_gt X 83 dX5_countPairs_75 dX5_countPairs_76 (by decide) (fun c7 => ?_) (fun c7 => ?_)
                    · skip
                      refine Wk.iconst (v := nI 0) X dX5_countPairs_83 (by decide) ?_
                      refine Wk.topi (y := bI (cpB li gr (scT sc (scoreM ki fe lm si va hb nu t) n) ls ow i j)) (by simp [cpB, bI, nI_0, nIc1, *]) ?_
                      exact J84
                    · skip
                      refine Wk.iconst (v := nI 1) X dX5_countPairs_79 (by decide) ?_
                      refine Wk.goto X 84 dX5_countPairs_80 (by decide) ?_
                      refine Wk.topi (y := bI (cpB li gr (scT sc (scoreM ki fe lm si va hb nu t) n) ls ow i j)) (by simp [cpB, bI, nI_0, nIc1, *]) ?_
                      exact J84
                · skip
                  refine Wk.aload_n X 0 rfl dX5_countPairs_46 rfl ?_
                  refine Wk.get X inX5 0 2 lk7 (fun _ h9 => h9) rfl rfl (by decide) rfl dX5_countPairs_47 ?_
                  refine Wk.iload X 4 rfl dX5_countPairs_50 ?_
                  refine Wk.iald X 1 0 rfl rfl (by omega) (by decide) dX5_countPairs_52 ?_
                  refine Wk.iload_n X 1 rfl dX5_countPairs_53 rfl ?_
                  refine Wk.icmp_ne X 83 dX5_countPairs_54 (by decide) (fun c8 => ?_) (fun c8 => ?_)
                  · skip
                    refine Wk.iconst (v := nI 0) X dX5_countPairs_83 (by decide) ?_
                    refine Wk.topi (y := bI (cpB li gr (scT sc (scoreM ki fe lm si va hb nu t) n) ls ow i j)) (by simp [cpB, bI, nI_0, nIc1, *]) ?_
                    exact J84
                  · skip
                    refine Wk.iload_n X 2 rfl dX5_countPairs_57 rfl ?_
                    refine Wk.ifB_eq X 79 dX5_countPairs_58 (by decide) (fun c9 => ?_) (fun c9 => ?_)
                    · skip
                      refine Wk.iconst (v := nI 1) X dX5_countPairs_79 (by decide) ?_
                      refine Wk.goto X 84 dX5_countPairs_80 (by decide) ?_
                      refine Wk.topi (y := bI (cpB li gr (scT sc (scoreM ki fe lm si va hb nu t) n) ls ow i j)) (by simp [cpB, bI, nI_0, nIc1, *]) ?_
                      exact J84
                    · skip
                      refine Wk.aload_n X 0 rfl dX5_countPairs_61 rfl ?_
                      refine Wk.get X inX5 0 16 lk51 (fun _ h9 => h9) rfl rfl (by decide) rfl dX5_countPairs_62 ?_
                      refine Wk.iload X 4 rfl dX5_countPairs_65 ?_
                      refine Wk.lald X 14 1 rfl rfl (by omega) (by decide) dX5_countPairs_67 ?_
                      refine Wk.aload_n X 0 rfl dX5_countPairs_68 rfl ?_
                      refine Wk.get X inX5 0 16 lk51 (fun _ h9 => h9) rfl rfl (by decide) rfl dX5_countPairs_69 ?_
                      refine Wk.iload X 5 rfl dX5_countPairs_72 ?_
                      refine Wk.lald X 14 1 rfl rfl (by omega) (by decide) dX5_countPairs_74 ?_
                      refine Wk.lcmp_gt X 83 dX5_countPairs_75 dX5_countPairs_76 (by decide) (fun c10 => ?_) (fun c10 => ?_)
                      · skip
                        refine Wk.iconst (v := nI 0) X dX5_countPairs_83 (by decide) ?_
                        refine Wk.topi (y := bI (cpB li gr (scT sc (scoreM ki fe lm si va hb nu t) n) ls ow i j)) (by simp [cpB, bI, nI_0, nIc1, *]) ?_
                        exact J84
                      · skip
                        refine Wk.iconst (v := nI 1) X dX5_countPairs_79 (by decide) ?_
                        refine Wk.goto X 84 dX5_countPairs_80 (by decide) ?_
                        refine Wk.topi (y := bI (cpB li gr (scT sc (scoreM ki fe lm si va hb nu t) n) ls ow i j)) (by simp [cpB, bI, nI_0, nIc1, *]) ?_
                        exact J84
        refine Wk.lvs (lv' := [(0, .ref (h 0)), (1, .int ls), (2, .int (bI ow)), (3, .int (nI a)), (4, .int (nI i)), (5, .int (nI 0))]) [1, 2, 3, 4, 5, 0] rfl ?_
        exact L21 (n + 1) 0 a (by omega) (by omega) (by rfl)
  refine Wk.lvs (lv' := [(0, .ref (h 0)), (1, .int ls), (2, .int (bI ow)), (3, .int (nI 0)), (4, .int (nI 0))]) [2, 3, 4, 1, 0] rfl ?_
  exact L9 (n + 1) 0 0 (by omega) (by omega) (by rfl)

set_option maxHeartbeats 4000000 in
set_option maxRecDepth 100000 in
theorem c_X5_pairs (l : Launch) (dC : Nat → ClassId) (dI : Nat → Nat → Nat) (cI cJ cZ : ClassId) (h : Nat → Nat) (th : Int32) (n : Nat) (li : Nat → Int32) (gr : Nat → Int32) (nu : Nat → Int32) (hb : Nat → Bool) (se : Nat → Int32) (t : Nat) (ki : Nat → Int32) (fe : Nat → Int32) (lm : Nat → Int32) (si : Nat → Int32) (va : Nat → Int32) (he : Nat → Int32) (up : Nat → Int64) (lo : Nat → Int64) (sc : Nat → Int64) (no : Nat → Int32) (pu : Nat → Int32) (b1 : Int32) (b2 : Int32) (b3 : Int32) (bu : Int64) (bl : Int64) (ls : Int32) (w0 : Int32) (hn0 : n ≤ 24) (ht0 : t ≤ 20) (hfe : ∀ j, j < t * 15 → ki j = nI 2 → ∃ f, f < 4 ∧ fe j = nI f) (hcu : ∀ tr k, tr < t → k < 15 → ki (tr * 15 + k) = nI 2 → k < 7) : Ci l yX5_pairs wsX5_pairs 6 139 (dC, dI) cl6 (TY cI cJ cZ) false [.ref (h 0), .int ls, .int w0] (Wm h cI cJ cZ th n li gr nu hb se t ki fe lm si va he up lo sc no pu b1 b2 b3 bu bl) (if (alM ls && inB w0 (nI 0) (nI 1)) = true then nI (cpO li gr (scT sc (scoreM ki fe lm si va hb nu t) n) ls (decide (w0 = nI 1)) n n) else -10002) (Wm h cI cJ cZ (nI 0) n li gr nu hb se t ki fe lm si va he up lo (if (alM ls && inB w0 (nI 0) (nI 1)) = true then scT sc (scoreM ki fe lm si va hb nu t) n else sc) no pu b1 b2 b3 bu bl) := by
  refine Ci.of (cc := cX5_pairs) (maxL := 3) (ty := .int) (own := RX5) rfl (plainFor_of_name (by decide)) rfl (Nat.le_of_ble_eq_true rfl) ?_
  intro pg ev s0 md ar bw mt cd A X hr hk
  show Wk pg l ev _ s0 md ar bw mt cd 0 0 _ 3 (dC, dI) cl6 A 0 [(0, .ref (h 0)), (1, .int ls), (2, .int w0)] [] (Wm h cI cJ cZ th n li gr nu hb se t ki fe lm si va he up lo sc no pu b1 b2 b3 bu bl)
  have inX5 : ∀ w ∈ u_ws RX5 TX5 24, w ∈ wsX5_pairs := by decide +kernel
  have lk70 := X.w (.fieldLink RX5 70 "PairedTreesModel" "thrown" "I") (by decide +kernel)
  refine Wk.aload_n X 0 rfl dX5_pairs_0 rfl ?_
  refine Wk.iconst (v := nI 0) X dX5_pairs_1 (by decide) ?_
  refine Wk.put (ws' := Wm h cI cJ cZ (nI 0) n li gr nu hb se t ki fe lm si va he up lo sc no pu b1 b2 b3 bu bl) X inX5 tyX5 tyX5_ok nmX5 0 0 lk70 (fun _ h9 => h9) rfl rfl (by decide) rfl (tyX5_ok 0 (by decide)) rfl rfl (Nat.le_of_ble_eq_true rfl) rfl dX5_pairs_2 ?_
  refine Wk.iload_n X 1 rfl dX5_pairs_5 rfl ?_
  refine Wk.iconst (v := -1) X dX5_pairs_6 (by decide) ?_
  refine Wk.iconst (v := nI 3) X dX5_pairs_7 (by decide) ?_
  refine Wk.callSi (n := 3) X (c_X5_in l dC dI cI cJ cZ ls (-1) (nI 3)) gX5_pairs_X5_in rfl (by decide +kernel) (by decide) Fr.nil (fun h9 => h9) rfl rfl (Nat.le_of_ble_eq_true rfl) ⟨Nat.zero_le _, Nat.zero_le _⟩ dX5_pairs_8 ?_
  refine Wk.ifB_eq X 41 dX5_pairs_11 (by decide) (fun c1 => ?_) (fun c1 => ?_)
  · skip
    refine Wk.sipush (v := -10002) X dX5_pairs_41 (by decide) ?_
    exact Wk.iret X hr hk (by simp [alM, *]) (by simp [alM, *]) dX5_pairs_44
  · skip
    refine Wk.iload_n X 2 rfl dX5_pairs_14 rfl ?_
    refine Wk.iconst (v := nI 0) X dX5_pairs_15 (by decide) ?_
    refine Wk.iconst (v := nI 1) X dX5_pairs_16 (by decide) ?_
    refine Wk.callSi (n := 3) X (c_X5_in l dC dI cI cJ cZ w0 (nI 0) (nI 1)) gX5_pairs_X5_in rfl (by decide +kernel) (by decide) Fr.nil (fun h9 => h9) rfl rfl (Nat.le_of_ble_eq_true rfl) ⟨Nat.zero_le _, Nat.zero_le _⟩ dX5_pairs_17 ?_
    refine Wk.ifB_eq X 41 dX5_pairs_20 (by decide) (fun c2 => ?_) (fun c2 => ?_)
    · skip
      refine Wk.sipush (v := -10002) X dX5_pairs_41 (by decide) ?_
      exact Wk.iret X hr hk (by simp [alM, *]) (by simp [alM, *]) dX5_pairs_44
    · skip
      refine Wk.aload_n X 0 rfl dX5_pairs_23 rfl ?_
      refine Wk.iload_n X 1 rfl dX5_pairs_24 rfl ?_
      have J35 : Wk pg l ev ({ frames := 6, cells := 0, slots := 0, locals := 139 } : Room) s0 md ar bw mt cd 0 0 (QRi bw ar s0 (dC, dI) cl6 (TY cI cJ cZ) A (if (alM ls && inB w0 (nI 0) (nI 1)) = true then nI (cpO li gr (scT sc (scoreM ki fe lm si va hb nu t) n) ls (decide (w0 = nI 1)) n n) else -10002) (Wm h cI cJ cZ (nI 0) n li gr nu hb se t ki fe lm si va he up lo (if (alM ls && inB w0 (nI 0) (nI 1)) = true then scT sc (scoreM ki fe lm si va hb nu t) n else sc) no pu b1 b2 b3 bu bl)) 3 (dC, dI) cl6 A 35 [(0, .ref (h 0)), (1, .int ls), (2, .int w0)] [.int (bI (decide (w0 = nI 1))), .int ls, .ref (h 0)] (Wm h cI cJ cZ (nI 0) n li gr nu hb se t ki fe lm si va he up lo sc no pu b1 b2 b3 bu bl) := by
        refine Wk.callVi (n := 2) (q0 := 0) X (c_X5_countPairs l dC dI cI cJ cZ h (nI 0) n li gr nu hb se t ki fe lm si va he up lo sc no pu b1 b2 b3 bu bl ls (decide (w0 = nI 1)) (by first | omega | assumption) (by first | omega | assumption) (by first | omega | assumption) (by first | omega | assumption)) gX5_pairs_X5_countPairs rfl (by decide +kernel) (by decide) Fr.all (fun h9 => h9) rfl rfl rfl rfl (Nat.le_of_ble_eq_true rfl) ⟨Nat.zero_le _, Nat.zero_le _⟩ dX5_pairs_35 ?_
        refine Wk.goto X 44 dX5_pairs_38 (by decide) ?_
        exact Wk.iret X hr hk (by simp [alM, *]) (by simp [alM, *]) dX5_pairs_44
      refine Wk.iload_n X 2 rfl dX5_pairs_25 rfl ?_
      refine Wk.iconst (v := nI 1) X dX5_pairs_26 (by decide) ?_
      refine Wk.icmp_ne X 34 dX5_pairs_27 (by decide) (fun c3 => ?_) (fun c3 => ?_)
      · skip
        refine Wk.iconst (v := nI 0) X dX5_pairs_34 (by decide) ?_
        refine Wk.topi (y := bI (decide (w0 = nI 1))) (by first | (simp [bI, nI_0, nIc1, *]; done) | (simp [bI, nI_0, *]; done)) ?_
        exact J35
      · skip
        refine Wk.iconst (v := nI 1) X dX5_pairs_30 (by decide) ?_
        refine Wk.goto X 35 dX5_pairs_31 (by decide) ?_
        refine Wk.topi (y := bI (decide (w0 = nI 1))) (by first | (simp [bI, nI_0, nIc1, *]; done) | (simp [bI, nI_0, *]; done)) ?_
        exact J35

set_option maxHeartbeats 4000000 in
set_option maxRecDepth 100000 in
theorem c_X5_share (l : Launch) (dC : Nat → ClassId) (dI : Nat → Nat → Nat) (cI cJ cZ : ClassId) (h : Nat → Nat) (th : Int32) (n : Nat) (li : Nat → Int32) (gr : Nat → Int32) (nu : Nat → Int32) (hb : Nat → Bool) (se : Nat → Int32) (t : Nat) (ki : Nat → Int32) (fe : Nat → Int32) (lm : Nat → Int32) (si : Nat → Int32) (va : Nat → Int32) (he : Nat → Int32) (up : Nat → Int64) (lo : Nat → Int64) (sc : Nat → Int64) (no : Nat → Int32) (pu : Nat → Int32) (b1 : Int32) (b2 : Int32) (b3 : Int32) (bu : Int64) (bl : Int64) (ls : Int32) (hn0 : n ≤ 24) (ht0 : t ≤ 20) (hfe : ∀ j, j < t * 15 → ki j = nI 2 → ∃ f, f < 4 ∧ fe j = nI f) (hcu : ∀ tr k, tr < t → k < 15 → ki (tr * 15 + k) = nI 2 → k < 7) : Ci l yX5_share wsX5_share 6 139 (dC, dI) cl6 (TY cI cJ cZ) false [.ref (h 0), .int ls] (Wm h cI cJ cZ th n li gr nu hb se t ki fe lm si va he up lo sc no pu b1 b2 b3 bu bl) (if alM ls = true then (if nI (cpO li gr (scT sc (scoreM ki fe lm si va hb nu t) n) ls false n n) = 0 then nI 0 else nI (1000 * cpO li gr (scT (scT sc (scoreM ki fe lm si va hb nu t) n) (scoreM ki fe lm si va hb nu t) n) ls true n n) / nI (cpO li gr (scT sc (scoreM ki fe lm si va hb nu t) n) ls false n n)) else -10002) (Wm h cI cJ cZ (if alM ls = true then (if nI (cpO li gr (scT sc (scoreM ki fe lm si va hb nu t) n) ls false n n) = 0 then nI 1 else nI 0) else nI 0) n li gr nu hb se t ki fe lm si va he up lo (if alM ls = true then (if nI (cpO li gr (scT sc (scoreM ki fe lm si va hb nu t) n) ls false n n) = 0 then scT sc (scoreM ki fe lm si va hb nu t) n else scT (scT sc (scoreM ki fe lm si va hb nu t) n) (scoreM ki fe lm si va hb nu t) n) else sc) no pu b1 b2 b3 bu bl) := by
  refine Ci.of (cc := cX5_share) (maxL := 3) (ty := .int) (own := RX5) rfl (plainFor_of_name (by decide)) rfl (Nat.le_of_ble_eq_true rfl) ?_
  intro pg ev s0 md ar bw mt cd A X hr hk
  show Wk pg l ev _ s0 md ar bw mt cd 0 0 _ 3 (dC, dI) cl6 A 0 [(0, .ref (h 0)), (1, .int ls)] [] (Wm h cI cJ cZ th n li gr nu hb se t ki fe lm si va he up lo sc no pu b1 b2 b3 bu bl)
  have inX5 : ∀ w ∈ u_ws RX5 TX5 24, w ∈ wsX5_share := by decide +kernel
  have lk70 := X.w (.fieldLink RX5 70 "PairedTreesModel" "thrown" "I") (by decide +kernel)
  refine Wk.aload_n X 0 rfl dX5_share_0 rfl ?_
  refine Wk.iconst (v := nI 0) X dX5_share_1 (by decide) ?_
  refine Wk.put (ws' := Wm h cI cJ cZ (nI 0) n li gr nu hb se t ki fe lm si va he up lo sc no pu b1 b2 b3 bu bl) X inX5 tyX5 tyX5_ok nmX5 0 0 lk70 (fun _ h9 => h9) rfl rfl (by decide) rfl (tyX5_ok 0 (by decide)) rfl rfl (Nat.le_of_ble_eq_true rfl) rfl dX5_share_2 ?_
  refine Wk.iload_n X 1 rfl dX5_share_5 rfl ?_
  refine Wk.iconst (v := -1) X dX5_share_6 (by decide) ?_
  refine Wk.iconst (v := nI 3) X dX5_share_7 (by decide) ?_
  refine Wk.callSi (n := 3) X (c_X5_in l dC dI cI cJ cZ ls (-1) (nI 3)) gX5_share_X5_in rfl (by decide +kernel) (by decide) Fr.nil (fun h9 => h9) rfl rfl (Nat.le_of_ble_eq_true rfl) ⟨Nat.zero_le _, Nat.zero_le _⟩ dX5_share_8 ?_
  refine Wk.ifB_ne X 18 dX5_share_11 (by decide) (fun c1 => ?_) (fun c1 => ?_)
  · skip
    refine Wk.aload_n X 0 rfl dX5_share_18 rfl ?_
    refine Wk.iload_n X 1 rfl dX5_share_19 rfl ?_
    refine Wk.iconst (v := nI 0) X dX5_share_20 (by decide) ?_
    refine Wk.callVi (n := 2) (q0 := 0) X (c_X5_countPairs l dC dI cI cJ cZ h (nI 0) n li gr nu hb se t ki fe lm si va he up lo sc no pu b1 b2 b3 bu bl ls false (by first | omega | assumption) (by first | omega | assumption) (by first | omega | assumption) (by first | omega | assumption)) gX5_share_X5_countPairs rfl (by decide +kernel) (by decide) Fr.all (fun h9 => h9) rfl rfl rfl rfl (Nat.le_of_ble_eq_true rfl) ⟨Nat.zero_le _, Nat.zero_le _⟩ dX5_share_21 ?_
    refine Wk.istore_n (lv' := [(2, .int (nI (cpO li gr (scT sc (scoreM ki fe lm si va hb nu t) n) ls false n n))), (0, .ref (h 0)), (1, .int ls)]) X dX5_share_24 rfl (by decide) rfl ?_
    refine Wk.aload_n X 1 rfl dX5_share_25 rfl ?_
    refine Wk.iload_n X 0 rfl dX5_share_26 rfl ?_
    refine Wk.if_ne X 34 dX5_share_27 (by decide) (fun c2 => ?_) (fun c2 => ?_)
    · skip
      refine Wk.iconst (v := nI 0) X dX5_share_34 (by decide) ?_
      refine Wk.put (ws' := Wm h cI cJ cZ (nI 0) n li gr nu hb se t ki fe lm si va he up lo (scT sc (scoreM ki fe lm si va hb nu t) n) no pu b1 b2 b3 bu bl) X inX5 tyX5 tyX5_ok nmX5 0 0 lk70 (fun _ h9 => h9) rfl rfl (by decide) rfl (tyX5_ok 0 (by decide)) rfl rfl (Nat.le_of_ble_eq_true rfl) rfl dX5_share_35 ?_
      refine Wk.aload_n X 1 rfl dX5_share_38 rfl ?_
      refine Wk.get X inX5 0 0 lk70 (fun _ h9 => h9) rfl rfl (by decide) rfl dX5_share_39 ?_
      refine Wk.if_le X 49 dX5_share_42 (by decide) (fun c3 => ?_) (fun c3 => ?_)
      · skip
        refine Wk.sipush (v := nI 1000) X dX5_share_49 (by decide) ?_
        refine Wk.aload_n X 1 rfl dX5_share_52 rfl ?_
        refine Wk.iload_n X 2 rfl dX5_share_53 rfl ?_
        refine Wk.iconst (v := nI 1) X dX5_share_54 (by decide) ?_
        refine Wk.callVi (n := 2) (q0 := 0) X (c_X5_countPairs l dC dI cI cJ cZ h (nI 0) n li gr nu hb se t ki fe lm si va he up lo (scT sc (scoreM ki fe lm si va hb nu t) n) no pu b1 b2 b3 bu bl ls true (by first | omega | assumption) (by first | omega | assumption) (by first | omega | assumption) (by first | omega | assumption)) gX5_share_X5_countPairs rfl (by decide +kernel) (by decide) Fr.all (fun h9 => h9) rfl rfl rfl rfl (Nat.le_of_ble_eq_true rfl) ⟨Nat.zero_le _, Nat.zero_le _⟩ dX5_share_55 ?_
        refine Wk.imulN X dX5_share_58 ?_
        refine Wk.iload_n X 0 rfl dX5_share_59 rfl ?_
        refine Wk.idiv X dX5_share_60 c2 ?_
        exact Wk.iret X hr hk (by simp [alM, *]) (by simp [alM, *]) dX5_share_61
      · exact absurd c3 (by decide)
    · skip
      refine Wk.iconst (v := nI 1) X dX5_share_30 (by decide) ?_
      refine Wk.goto X 35 dX5_share_31 (by decide) ?_
      refine Wk.put (ws' := Wm h cI cJ cZ (nI 1) n li gr nu hb se t ki fe lm si va he up lo (scT sc (scoreM ki fe lm si va hb nu t) n) no pu b1 b2 b3 bu bl) X inX5 tyX5 tyX5_ok nmX5 0 0 lk70 (fun _ h9 => h9) rfl rfl (by decide) rfl (tyX5_ok 0 (by decide)) rfl rfl (Nat.le_of_ble_eq_true rfl) rfl dX5_share_35 ?_
      refine Wk.aload_n X 1 rfl dX5_share_38 rfl ?_
      refine Wk.get X inX5 0 0 lk70 (fun _ h9 => h9) rfl rfl (by decide) rfl dX5_share_39 ?_
      refine Wk.if_le X 49 dX5_share_42 (by decide) (fun c4 => ?_) (fun c4 => ?_)
      · exact absurd c4 (by decide)
      · skip
        refine Wk.iconst (v := nI 0) X dX5_share_45 (by decide) ?_
        refine Wk.goto X 61 dX5_share_46 (by decide) ?_
        exact Wk.iret X hr hk (by simp [alM, *]) (by simp [alM, *]) dX5_share_61
  · skip
    refine Wk.sipush (v := -10002) X dX5_share_14 (by decide) ?_
    exact Wk.iret X hr hk (by simp [alM, *]) (by simp [alM, *]) dX5_share_17

set_option maxHeartbeats 4000000 in
set_option maxRecDepth 100000 in
theorem c_X5_about (l : Launch) (dC : Nat → ClassId) (dI : Nat → Nat → Nat) (cI cJ cZ : ClassId) (h : Nat → Nat) (th : Int32) (n : Nat) (li : Nat → Int32) (gr : Nat → Int32) (nu : Nat → Int32) (hb : Nat → Bool) (se : Nat → Int32) (t : Nat) (ki : Nat → Int32) (fe : Nat → Int32) (lm : Nat → Int32) (si : Nat → Int32) (va : Nat → Int32) (he : Nat → Int32) (up : Nat → Int64) (lo : Nat → Int64) (sc : Nat → Int64) (no : Nat → Int32) (pu : Nat → Int32) (b1 : Int32) (b2 : Int32) (b3 : Int32) (bu : Int64) (bl : Int64) (w0 : Int32) (ht0 : t ≤ 20) : Ci l yX5_about wsX5_about 1 22 (dC, dI) cl6 (TY cI cJ cZ) false [.ref (h 0), .int w0] (Wm h cI cJ cZ th n li gr nu hb se t ki fe lm si va he up lo sc no pu b1 b2 b3 bu bl) (abM ki fe n t w0) (Wm h cI cJ cZ (nI 0) n li gr nu hb se t ki fe lm si va he up lo sc no pu b1 b2 b3 bu bl) := by
  refine Ci.of (cc := cX5_about) (maxL := 5) (ty := .int) (own := RX5) rfl (plainFor_of_name (by decide)) rfl (Nat.le_of_ble_eq_true rfl) ?_
  intro pg ev s0 md ar bw mt cd A X hr hk
  show Wk pg l ev _ s0 md ar bw mt cd 0 0 _ 5 (dC, dI) cl6 A 0 [(0, .ref (h 0)), (1, .int w0)] [] (Wm h cI cJ cZ th n li gr nu hb se t ki fe lm si va he up lo sc no pu b1 b2 b3 bu bl)
  have inX5 : ∀ w ∈ u_ws RX5 TX5 24, w ∈ wsX5_about := by decide +kernel
  have lk26 := X.w (.fieldLink RX5 26 "PairedTreesModel" "sort" "[I") (by decide +kernel)
  have lk29 := X.w (.fieldLink RX5 29 "PairedTreesModel" "byOf" "[I") (by decide +kernel)
  have lk63 := X.w (.fieldLink RX5 63 "PairedTreesModel" "things" "I") (by decide +kernel)
  have lk67 := X.w (.fieldLink RX5 67 "PairedTreesModel" "trees" "I") (by decide +kernel)
  have lk70 := X.w (.fieldLink RX5 70 "PairedTreesModel" "thrown" "I") (by decide +kernel)
  refine Wk.aload_n X 0 rfl dX5_about_0 rfl ?_
  refine Wk.iconst (v := nI 0) X dX5_about_1 (by decide) ?_
  refine Wk.put (ws' := Wm h cI cJ cZ (nI 0) n li gr nu hb se t ki fe lm si va he up lo sc no pu b1 b2 b3 bu bl) X inX5 tyX5 tyX5_ok nmX5 0 0 lk70 (fun _ h9 => h9) rfl rfl (by decide) rfl (tyX5_ok 0 (by decide)) rfl rfl (Nat.le_of_ble_eq_true rfl) rfl dX5_about_2 ?_
  refine Wk.iload_n X 1 rfl dX5_about_5 rfl ?_
  refine Wk.if_eq X 14 dX5_about_6 (by decide) (fun c1 => ?_) (fun c1 => ?_)
  · skip
    refine Wk.iload_n X 1 rfl dX5_about_14 rfl ?_
    refine Wk.if_ne X 25 dX5_about_15 (by decide) (fun c2 => ?_) (fun c2 => ?_)
    · skip
      refine Wk.aload_n X 0 rfl dX5_about_25 rfl ?_
      refine Wk.get X inX5 0 7 lk67 (fun _ h9 => h9) rfl rfl (by decide) rfl dX5_about_26 ?_
      exact Wk.iret X hr hk (by first | contradiction | (simp [abM, nI_0, *]; done) | (simp [abM, nI_0, nIc1, *]; done)) rfl dX5_about_29
    · skip
      refine Wk.aload_n X 0 rfl dX5_about_18 rfl ?_
      refine Wk.get X inX5 0 1 lk63 (fun _ h9 => h9) rfl rfl (by decide) rfl dX5_about_19 ?_
      refine Wk.goto X 29 dX5_about_22 (by decide) ?_
      exact Wk.iret X hr hk (by first | contradiction | (simp [abM, nI_0, *]; done) | (simp [abM, nI_0, nIc1, *]; done)) rfl dX5_about_29
  · skip
    refine Wk.iload_n X 1 rfl dX5_about_9 rfl ?_
    refine Wk.iconst (v := nI 1) X dX5_about_10 (by decide) ?_
    refine Wk.icmp_ne X 30 dX5_about_11 (by decide) (fun c3 => ?_) (fun c3 => ?_)
    · skip
      refine Wk.iload_n X 1 rfl dX5_about_30 rfl ?_
      refine Wk.iconst (v := nI 2) X dX5_about_31 (by decide) ?_
      refine Wk.icmp_eq X 50 dX5_about_32 (by decide) (fun c4 => ?_) (fun c4 => ?_)
      · skip
        refine Wk.iconst (v := nI 0) X dX5_about_50 (by decide) ?_
        refine Wk.istore_n (lv' := [(2, .int (nI 0)), (0, .ref (h 0)), (1, .int w0)]) X dX5_about_51 rfl (by decide) rfl ?_
        refine Wk.iconst (v := nI 0) X dX5_about_52 (by decide) ?_
        refine Wk.istore_n (lv' := [(3, .int (nI 0)), (2, .int (nI 0)), (0, .ref (h 0)), (1, .int w0)]) X dX5_about_53 rfl (by decide) rfl ?_
        have L54 : ∀ (fu54 : Nat) (k : Nat) (x : Nat) (hq : t * 15 + 1 ≤ k + fu54) (hk0 : k ≤ t * 15) (hx : x = caM ki fe w0 k), Wk pg l ev ({ frames := 1, cells := 0, slots := 0, locals := 22 } : Room) s0 md ar bw mt cd 0 0 (QRi bw ar s0 (dC, dI) cl6 (TY cI cJ cZ) A (abM ki fe n t w0) (Wm h cI cJ cZ (nI 0) n li gr nu hb se t ki fe lm si va he up lo sc no pu b1 b2 b3 bu bl)) 5 (dC, dI) cl6 A 54 [(0, .ref (h 0)), (1, .int w0), (2, .int (nI x)), (3, .int (nI k))] [] (Wm h cI cJ cZ (nI 0) n li gr nu hb se t ki fe lm si va he up lo sc no pu b1 b2 b3 bu bl) := by
          intro fu54
          induction fu54 with
          | zero => intro k x hq hk0 hx; exact absurd hq (by omega)
          | succ fu54 ih54 =>
            intro k x hq hk0 hx
            refine Wk.iload_n X 3 rfl dX5_about_54 rfl ?_
            refine Wk.bipush (v := nI 15) X dX5_about_55 (by decide) ?_
            refine Wk.aload_n X 0 rfl dX5_about_57 rfl ?_
            refine Wk.get X inX5 0 7 lk67 (fun _ h9 => h9) rfl rfl (by decide) rfl dX5_about_58 ?_
            refine Wk.imulC X dX5_about_61 ?_
            refine Wk.icmpN_ge X 137 (by omega) (by omega) dX5_about_62 (by decide) (fun c5 => ?_) (fun c5 => ?_)
            · skip
              refine Wk.iload_n X 2 rfl dX5_about_137 rfl ?_
              exact Wk.iret X hr hk (by first | contradiction | (rw [hx, show k = t * 15 by omega]; simp [abM, nI_0, show ¬ nI 1 = 0 by decide, show ¬ nI 1 = nI 0 by decide, show ¬ nI 1 = nI 2 by decide, show ¬ nI 1 = nI 3 by decide, show ¬ nI 2 = 0 by decide, show ¬ nI 2 = nI 0 by decide, show ¬ nI 2 = nI 1 by decide, show ¬ nI 2 = nI 3 by decide, show ¬ nI 3 = 0 by decide, show ¬ nI 3 = nI 0 by decide, show ¬ nI 3 = nI 1 by decide, show ¬ nI 3 = nI 2 by decide, *]; done) | (rw [hx, show k = t * 15 by omega]; simp [abM, nI_0, *]; done)) rfl dX5_about_138
            · skip
              refine Wk.iload_n X 1 rfl dX5_about_65 rfl ?_
              refine Wk.iconst (v := nI 2) X dX5_about_66 (by decide) ?_
              refine Wk.icmp_ne X 88 dX5_about_67 (by decide) (fun c6 => ?_) (fun c6 => ?_)
              · skip
                refine Wk.aload_n X 0 rfl dX5_about_88 rfl ?_
                refine Wk.get X inX5 0 8 lk26 (fun _ h9 => h9) rfl rfl (by decide) rfl dX5_about_89 ?_
                refine Wk.iload_n X 3 rfl dX5_about_92 rfl ?_
                refine Wk.iald X 6 0 rfl rfl (by omega) (by decide) dX5_about_93 ?_
                refine Wk.iconst (v := nI 2) X dX5_about_94 (by decide) ?_
                refine Wk.icmp_ne X 115 dX5_about_95 (by decide) (fun c7 => ?_) (fun c7 => ?_)
                · skip
                  refine Wk.iconst (v := nI 0) X dX5_about_115 (by decide) ?_
                  refine Wk.istore (lv' := [(4, .int (nI 0)), (0, .ref (h 0)), (1, .int w0), (2, .int (nI x)), (3, .int (nI k))]) X dX5_about_116 (by decide) rfl ?_
                  refine Wk.iload_n X 3 rfl dX5_about_118 rfl ?_
                  refine Wk.iload X 0 rfl dX5_about_119 ?_
                  refine Wk.if_eq X 128 dX5_about_121 (by decide) (fun c8 => ?_) (fun c8 => ?_)
                  · skip
                    refine Wk.iconst (v := nI 0) X dX5_about_128 (by decide) ?_
                    refine Wk.iaddN X dX5_about_129 ?_
                    refine Wk.istore_n (lv' := [(2, .int (nI (x + 0))), (4, .int (nI 0)), (0, .ref (h 0)), (1, .int w0), (3, .int (nI k))]) X dX5_about_130 rfl (by decide) rfl ?_
                    refine Wk.iincN (n := 1) (lv' := [(3, .int (nI (k + 1))), (2, .int (nI (x + 0))), (4, .int (nI 0)), (0, .ref (h 0)), (1, .int w0)]) X 4 rfl dX5_about_131 (by decide) rfl ?_
                    refine Wk.goto X 54 dX5_about_134 (by decide) ?_
                    refine Wk.lvs (lv' := [(0, .ref (h 0)), (1, .int w0), (2, .int (nI (x + 0))), (3, .int (nI (k + 1)))]) [3, 4, 1, 0] rfl ?_
                    exact ih54 (k + 1) (x + 0) (by omega) (by omega) (by first | contradiction | (simp [caM, *]; done))
                  · exact absurd c8 (by decide)
                · skip
                  refine Wk.aload_n X 0 rfl dX5_about_98 rfl ?_
                  refine Wk.get X inX5 0 9 lk29 (fun _ h9 => h9) rfl rfl (by decide) rfl dX5_about_99 ?_
                  refine Wk.iload_n X 3 rfl dX5_about_102 rfl ?_
                  refine Wk.iald X 7 0 rfl rfl (by omega) (by decide) dX5_about_103 ?_
                  refine Wk.iload_n X 1 rfl dX5_about_104 rfl ?_
                  refine Wk.bipush (v := nI 10) X dX5_about_105 (by decide) ?_
                  refine Wk.isub X dX5_about_107 ?_
                  refine Wk.icmp_ne X 115 dX5_about_108 (by decide) (fun c9 => ?_) (fun c9 => ?_)
                  · skip
                    refine Wk.iconst (v := nI 0) X dX5_about_115 (by decide) ?_
                    refine Wk.istore (lv' := [(4, .int (nI 0)), (0, .ref (h 0)), (1, .int w0), (2, .int (nI x)), (3, .int (nI k))]) X dX5_about_116 (by decide) rfl ?_
                    refine Wk.iload_n X 3 rfl dX5_about_118 rfl ?_
                    refine Wk.iload X 0 rfl dX5_about_119 ?_
                    refine Wk.if_eq X 128 dX5_about_121 (by decide) (fun c10 => ?_) (fun c10 => ?_)
                    · skip
                      refine Wk.iconst (v := nI 0) X dX5_about_128 (by decide) ?_
                      refine Wk.iaddN X dX5_about_129 ?_
                      refine Wk.istore_n (lv' := [(2, .int (nI (x + 0))), (4, .int (nI 0)), (0, .ref (h 0)), (1, .int w0), (3, .int (nI k))]) X dX5_about_130 rfl (by decide) rfl ?_
                      refine Wk.iincN (n := 1) (lv' := [(3, .int (nI (k + 1))), (2, .int (nI (x + 0))), (4, .int (nI 0)), (0, .ref (h 0)), (1, .int w0)]) X 4 rfl dX5_about_131 (by decide) rfl ?_
                      refine Wk.goto X 54 dX5_about_134 (by decide) ?_
                      refine Wk.lvs (lv' := [(0, .ref (h 0)), (1, .int w0), (2, .int (nI (x + 0))), (3, .int (nI (k + 1)))]) [3, 4, 1, 0] rfl ?_
                      exact ih54 (k + 1) (x + 0) (by omega) (by omega) (by first | contradiction | (simp [caM, *]; done))
                    · exact absurd c10 (by decide)
                  · skip
                    refine Wk.iconst (v := nI 1) X dX5_about_111 (by decide) ?_
                    refine Wk.goto X 116 dX5_about_112 (by decide) ?_
                    refine Wk.istore (lv' := [(4, .int (nI 1)), (0, .ref (h 0)), (1, .int w0), (2, .int (nI x)), (3, .int (nI k))]) X dX5_about_116 (by decide) rfl ?_
                    refine Wk.iload_n X 3 rfl dX5_about_118 rfl ?_
                    refine Wk.iload X 0 rfl dX5_about_119 ?_
                    refine Wk.if_eq X 128 dX5_about_121 (by decide) (fun c11 => ?_) (fun c11 => ?_)
                    · exact absurd c11 (by decide)
                    · skip
                      refine Wk.iconst (v := nI 1) X dX5_about_124 (by decide) ?_
                      refine Wk.goto X 129 dX5_about_125 (by decide) ?_
                      refine Wk.iaddN X dX5_about_129 ?_
                      refine Wk.istore_n (lv' := [(2, .int (nI (x + 1))), (4, .int (nI 1)), (0, .ref (h 0)), (1, .int w0), (3, .int (nI k))]) X dX5_about_130 rfl (by decide) rfl ?_
                      refine Wk.iincN (n := 1) (lv' := [(3, .int (nI (k + 1))), (2, .int (nI (x + 1))), (4, .int (nI 1)), (0, .ref (h 0)), (1, .int w0)]) X 4 rfl dX5_about_131 (by decide) rfl ?_
                      refine Wk.goto X 54 dX5_about_134 (by decide) ?_
                      refine Wk.lvs (lv' := [(0, .ref (h 0)), (1, .int w0), (2, .int (nI (x + 1))), (3, .int (nI (k + 1)))]) [3, 4, 1, 0] rfl ?_
                      exact ih54 (k + 1) (x + 1) (by omega) (by omega) (by first | contradiction | (simp [caM, *]; done))
              · skip
                refine Wk.aload_n X 0 rfl dX5_about_70 rfl ?_
                refine Wk.get X inX5 0 8 lk26 (fun _ h9 => h9) rfl rfl (by decide) rfl dX5_about_71 ?_
                refine Wk.iload_n X 3 rfl dX5_about_74 rfl ?_
                refine Wk.iald X 6 0 rfl rfl (by omega) (by decide) dX5_about_75 ?_
                refine Wk.iconst (v := nI 1) X dX5_about_76 (by decide) ?_
                refine Wk.icmp_ne X 84 dX5_about_77 (by decide) (fun c12 => ?_) (fun c12 => ?_)
                · skip
                  refine Wk.iconst (v := nI 0) X dX5_about_84 (by decide) ?_
                  refine Wk.goto X 116 dX5_about_85 (by decide) ?_
                  refine Wk.istore (lv' := [(4, .int (nI 0)), (0, .ref (h 0)), (1, .int w0), (2, .int (nI x)), (3, .int (nI k))]) X dX5_about_116 (by decide) rfl ?_
                  refine Wk.iload_n X 3 rfl dX5_about_118 rfl ?_
                  refine Wk.iload X 0 rfl dX5_about_119 ?_
                  refine Wk.if_eq X 128 dX5_about_121 (by decide) (fun c13 => ?_) (fun c13 => ?_)
                  · skip
                    refine Wk.iconst (v := nI 0) X dX5_about_128 (by decide) ?_
                    refine Wk.iaddN X dX5_about_129 ?_
                    refine Wk.istore_n (lv' := [(2, .int (nI (x + 0))), (4, .int (nI 0)), (0, .ref (h 0)), (1, .int w0), (3, .int (nI k))]) X dX5_about_130 rfl (by decide) rfl ?_
                    refine Wk.iincN (n := 1) (lv' := [(3, .int (nI (k + 1))), (2, .int (nI (x + 0))), (4, .int (nI 0)), (0, .ref (h 0)), (1, .int w0)]) X 4 rfl dX5_about_131 (by decide) rfl ?_
                    refine Wk.goto X 54 dX5_about_134 (by decide) ?_
                    refine Wk.lvs (lv' := [(0, .ref (h 0)), (1, .int w0), (2, .int (nI (x + 0))), (3, .int (nI (k + 1)))]) [3, 4, 1, 0] rfl ?_
                    exact ih54 (k + 1) (x + 0) (by omega) (by omega) (by first | contradiction | (simp [caM, *]; done))
                  · exact absurd c13 (by decide)
                · skip
                  refine Wk.iconst (v := nI 1) X dX5_about_80 (by decide) ?_
                  refine Wk.goto X 116 dX5_about_81 (by decide) ?_
                  refine Wk.istore (lv' := [(4, .int (nI 1)), (0, .ref (h 0)), (1, .int w0), (2, .int (nI x)), (3, .int (nI k))]) X dX5_about_116 (by decide) rfl ?_
                  refine Wk.iload_n X 3 rfl dX5_about_118 rfl ?_
                  refine Wk.iload X 0 rfl dX5_about_119 ?_
                  refine Wk.if_eq X 128 dX5_about_121 (by decide) (fun c14 => ?_) (fun c14 => ?_)
                  · exact absurd c14 (by decide)
                  · skip
                    refine Wk.iconst (v := nI 1) X dX5_about_124 (by decide) ?_
                    refine Wk.goto X 129 dX5_about_125 (by decide) ?_
                    refine Wk.iaddN X dX5_about_129 ?_
                    refine Wk.istore_n (lv' := [(2, .int (nI (x + 1))), (4, .int (nI 1)), (0, .ref (h 0)), (1, .int w0), (3, .int (nI k))]) X dX5_about_130 rfl (by decide) rfl ?_
                    refine Wk.iincN (n := 1) (lv' := [(3, .int (nI (k + 1))), (2, .int (nI (x + 1))), (4, .int (nI 1)), (0, .ref (h 0)), (1, .int w0)]) X 4 rfl dX5_about_131 (by decide) rfl ?_
                    refine Wk.goto X 54 dX5_about_134 (by decide) ?_
                    refine Wk.lvs (lv' := [(0, .ref (h 0)), (1, .int w0), (2, .int (nI (x + 1))), (3, .int (nI (k + 1)))]) [3, 4, 1, 0] rfl ?_
                    exact ih54 (k + 1) (x + 1) (by omega) (by omega) (by first | contradiction | (simp [caM, *]; done))
        refine Wk.lvs (lv' := [(0, .ref (h 0)), (1, .int w0), (2, .int (nI 0)), (3, .int (nI 0))]) [2, 3, 1, 0] rfl ?_
        exact L54 (t * 15 + 1) 0 0 (by omega) (by omega) (by rfl)
      · skip
        refine Wk.iload_n X 1 rfl dX5_about_35 rfl ?_
        refine Wk.bipush (v := nI 10) X dX5_about_36 (by decide) ?_
        refine Wk.bipush (v := nI 13) X dX5_about_38 (by decide) ?_
        refine Wk.callSi (n := 3) X (c_X5_in l dC dI cI cJ cZ w0 (nI 10) (nI 13)) gX5_about_X5_in rfl (by decide +kernel) (by decide) Fr.nil (fun h9 => h9) rfl rfl (Nat.le_of_ble_eq_true rfl) ⟨Nat.zero_le _, Nat.zero_le _⟩ dX5_about_40 ?_
        refine Wk.ifB_ne X 50 dX5_about_43 (by decide) (fun c15 => ?_) (fun c15 => ?_)
        · skip
          refine Wk.iconst (v := nI 0) X dX5_about_50 (by decide) ?_
          refine Wk.istore_n (lv' := [(2, .int (nI 0)), (0, .ref (h 0)), (1, .int w0)]) X dX5_about_51 rfl (by decide) rfl ?_
          refine Wk.iconst (v := nI 0) X dX5_about_52 (by decide) ?_
          refine Wk.istore_n (lv' := [(3, .int (nI 0)), (2, .int (nI 0)), (0, .ref (h 0)), (1, .int w0)]) X dX5_about_53 rfl (by decide) rfl ?_
          have L54 : ∀ (fu54 : Nat) (k : Nat) (x : Nat) (hq : t * 15 + 1 ≤ k + fu54) (hk0 : k ≤ t * 15) (hx : x = caM ki fe w0 k), Wk pg l ev ({ frames := 1, cells := 0, slots := 0, locals := 22 } : Room) s0 md ar bw mt cd 0 0 (QRi bw ar s0 (dC, dI) cl6 (TY cI cJ cZ) A (abM ki fe n t w0) (Wm h cI cJ cZ (nI 0) n li gr nu hb se t ki fe lm si va he up lo sc no pu b1 b2 b3 bu bl)) 5 (dC, dI) cl6 A 54 [(0, .ref (h 0)), (1, .int w0), (2, .int (nI x)), (3, .int (nI k))] [] (Wm h cI cJ cZ (nI 0) n li gr nu hb se t ki fe lm si va he up lo sc no pu b1 b2 b3 bu bl) := by
            intro fu54
            induction fu54 with
            | zero => intro k x hq hk0 hx; exact absurd hq (by omega)
            | succ fu54 ih54 =>
              intro k x hq hk0 hx
              refine Wk.iload_n X 3 rfl dX5_about_54 rfl ?_
              refine Wk.bipush (v := nI 15) X dX5_about_55 (by decide) ?_
              refine Wk.aload_n X 0 rfl dX5_about_57 rfl ?_
              refine Wk.get X inX5 0 7 lk67 (fun _ h9 => h9) rfl rfl (by decide) rfl dX5_about_58 ?_
              refine Wk.imulC X dX5_about_61 ?_
              refine Wk.icmpN_ge X 137 (by omega) (by omega) dX5_about_62 (by decide) (fun c16 => ?_) (fun c16 => ?_)
              · skip
                refine Wk.iload_n X 2 rfl dX5_about_137 rfl ?_
                exact Wk.iret X hr hk (by first | contradiction | (rw [hx, show k = t * 15 by omega]; simp [abM, nI_0, show ¬ nI 1 = 0 by decide, show ¬ nI 1 = nI 0 by decide, show ¬ nI 1 = nI 2 by decide, show ¬ nI 1 = nI 3 by decide, show ¬ nI 2 = 0 by decide, show ¬ nI 2 = nI 0 by decide, show ¬ nI 2 = nI 1 by decide, show ¬ nI 2 = nI 3 by decide, show ¬ nI 3 = 0 by decide, show ¬ nI 3 = nI 0 by decide, show ¬ nI 3 = nI 1 by decide, show ¬ nI 3 = nI 2 by decide, *]; done) | (rw [hx, show k = t * 15 by omega]; simp [abM, nI_0, *]; done)) rfl dX5_about_138
              · skip
                refine Wk.iload_n X 1 rfl dX5_about_65 rfl ?_
                refine Wk.iconst (v := nI 2) X dX5_about_66 (by decide) ?_
                refine Wk.icmp_ne X 88 dX5_about_67 (by decide) (fun c17 => ?_) (fun c17 => ?_)
                · skip
                  refine Wk.aload_n X 0 rfl dX5_about_88 rfl ?_
                  refine Wk.get X inX5 0 8 lk26 (fun _ h9 => h9) rfl rfl (by decide) rfl dX5_about_89 ?_
                  refine Wk.iload_n X 3 rfl dX5_about_92 rfl ?_
                  refine Wk.iald X 6 0 rfl rfl (by omega) (by decide) dX5_about_93 ?_
                  refine Wk.iconst (v := nI 2) X dX5_about_94 (by decide) ?_
                  refine Wk.icmp_ne X 115 dX5_about_95 (by decide) (fun c18 => ?_) (fun c18 => ?_)
                  · skip
                    refine Wk.iconst (v := nI 0) X dX5_about_115 (by decide) ?_
                    refine Wk.istore (lv' := [(4, .int (nI 0)), (0, .ref (h 0)), (1, .int w0), (2, .int (nI x)), (3, .int (nI k))]) X dX5_about_116 (by decide) rfl ?_
                    refine Wk.iload_n X 3 rfl dX5_about_118 rfl ?_
                    refine Wk.iload X 0 rfl dX5_about_119 ?_
                    refine Wk.if_eq X 128 dX5_about_121 (by decide) (fun c19 => ?_) (fun c19 => ?_)
                    · skip
                      refine Wk.iconst (v := nI 0) X dX5_about_128 (by decide) ?_
                      refine Wk.iaddN X dX5_about_129 ?_
                      refine Wk.istore_n (lv' := [(2, .int (nI (x + 0))), (4, .int (nI 0)), (0, .ref (h 0)), (1, .int w0), (3, .int (nI k))]) X dX5_about_130 rfl (by decide) rfl ?_
                      refine Wk.iincN (n := 1) (lv' := [(3, .int (nI (k + 1))), (2, .int (nI (x + 0))), (4, .int (nI 0)), (0, .ref (h 0)), (1, .int w0)]) X 4 rfl dX5_about_131 (by decide) rfl ?_
                      refine Wk.goto X 54 dX5_about_134 (by decide) ?_
                      refine Wk.lvs (lv' := [(0, .ref (h 0)), (1, .int w0), (2, .int (nI (x + 0))), (3, .int (nI (k + 1)))]) [3, 4, 1, 0] rfl ?_
                      exact ih54 (k + 1) (x + 0) (by omega) (by omega) (by first | contradiction | (simp [caM, *]; done))
                    · exact absurd c19 (by decide)
                  · skip
                    refine Wk.aload_n X 0 rfl dX5_about_98 rfl ?_
                    refine Wk.get X inX5 0 9 lk29 (fun _ h9 => h9) rfl rfl (by decide) rfl dX5_about_99 ?_
                    refine Wk.iload_n X 3 rfl dX5_about_102 rfl ?_
                    refine Wk.iald X 7 0 rfl rfl (by omega) (by decide) dX5_about_103 ?_
                    refine Wk.iload_n X 1 rfl dX5_about_104 rfl ?_
                    refine Wk.bipush (v := nI 10) X dX5_about_105 (by decide) ?_
                    refine Wk.isub X dX5_about_107 ?_
                    refine Wk.icmp_ne X 115 dX5_about_108 (by decide) (fun c20 => ?_) (fun c20 => ?_)
                    · skip
                      refine Wk.iconst (v := nI 0) X dX5_about_115 (by decide) ?_
                      refine Wk.istore (lv' := [(4, .int (nI 0)), (0, .ref (h 0)), (1, .int w0), (2, .int (nI x)), (3, .int (nI k))]) X dX5_about_116 (by decide) rfl ?_
                      refine Wk.iload_n X 3 rfl dX5_about_118 rfl ?_
                      refine Wk.iload X 0 rfl dX5_about_119 ?_
                      refine Wk.if_eq X 128 dX5_about_121 (by decide) (fun c21 => ?_) (fun c21 => ?_)
                      · skip
                        refine Wk.iconst (v := nI 0) X dX5_about_128 (by decide) ?_
                        refine Wk.iaddN X dX5_about_129 ?_
                        refine Wk.istore_n (lv' := [(2, .int (nI (x + 0))), (4, .int (nI 0)), (0, .ref (h 0)), (1, .int w0), (3, .int (nI k))]) X dX5_about_130 rfl (by decide) rfl ?_
                        refine Wk.iincN (n := 1) (lv' := [(3, .int (nI (k + 1))), (2, .int (nI (x + 0))), (4, .int (nI 0)), (0, .ref (h 0)), (1, .int w0)]) X 4 rfl dX5_about_131 (by decide) rfl ?_
                        refine Wk.goto X 54 dX5_about_134 (by decide) ?_
                        refine Wk.lvs (lv' := [(0, .ref (h 0)), (1, .int w0), (2, .int (nI (x + 0))), (3, .int (nI (k + 1)))]) [3, 4, 1, 0] rfl ?_
                        exact ih54 (k + 1) (x + 0) (by omega) (by omega) (by first | contradiction | (simp [caM, *]; done))
                      · exact absurd c21 (by decide)
                    · skip
                      refine Wk.iconst (v := nI 1) X dX5_about_111 (by decide) ?_
                      refine Wk.goto X 116 dX5_about_112 (by decide) ?_
                      refine Wk.istore (lv' := [(4, .int (nI 1)), (0, .ref (h 0)), (1, .int w0), (2, .int (nI x)), (3, .int (nI k))]) X dX5_about_116 (by decide) rfl ?_
                      refine Wk.iload_n X 3 rfl dX5_about_118 rfl ?_
                      refine Wk.iload X 0 rfl dX5_about_119 ?_
                      refine Wk.if_eq X 128 dX5_about_121 (by decide) (fun c22 => ?_) (fun c22 => ?_)
                      · exact absurd c22 (by decide)
                      · skip
                        refine Wk.iconst (v := nI 1) X dX5_about_124 (by decide) ?_
                        refine Wk.goto X 129 dX5_about_125 (by decide) ?_
                        refine Wk.iaddN X dX5_about_129 ?_
                        refine Wk.istore_n (lv' := [(2, .int (nI (x + 1))), (4, .int (nI 1)), (0, .ref (h 0)), (1, .int w0), (3, .int (nI k))]) X dX5_about_130 rfl (by decide) rfl ?_
                        refine Wk.iincN (n := 1) (lv' := [(3, .int (nI (k + 1))), (2, .int (nI (x + 1))), (4, .int (nI 1)), (0, .ref (h 0)), (1, .int w0)]) X 4 rfl dX5_about_131 (by decide) rfl ?_
                        refine Wk.goto X 54 dX5_about_134 (by decide) ?_
                        refine Wk.lvs (lv' := [(0, .ref (h 0)), (1, .int w0), (2, .int (nI (x + 1))), (3, .int (nI (k + 1)))]) [3, 4, 1, 0] rfl ?_
                        exact ih54 (k + 1) (x + 1) (by omega) (by omega) (by first | contradiction | (simp [caM, *]; done))
                · skip
                  refine Wk.aload_n X 0 rfl dX5_about_70 rfl ?_
                  refine Wk.get X inX5 0 8 lk26 (fun _ h9 => h9) rfl rfl (by decide) rfl dX5_about_71 ?_
                  refine Wk.iload_n X 3 rfl dX5_about_74 rfl ?_
                  refine Wk.iald X 6 0 rfl rfl (by omega) (by decide) dX5_about_75 ?_
                  refine Wk.iconst (v := nI 1) X dX5_about_76 (by decide) ?_
                  refine Wk.icmp_ne X 84 dX5_about_77 (by decide) (fun c23 => ?_) (fun c23 => ?_)
                  · skip
                    refine Wk.iconst (v := nI 0) X dX5_about_84 (by decide) ?_
                    refine Wk.goto X 116 dX5_about_85 (by decide) ?_
                    refine Wk.istore (lv' := [(4, .int (nI 0)), (0, .ref (h 0)), (1, .int w0), (2, .int (nI x)), (3, .int (nI k))]) X dX5_about_116 (by decide) rfl ?_
                    refine Wk.iload_n X 3 rfl dX5_about_118 rfl ?_
                    refine Wk.iload X 0 rfl dX5_about_119 ?_
                    refine Wk.if_eq X 128 dX5_about_121 (by decide) (fun c24 => ?_) (fun c24 => ?_)
                    · skip
                      refine Wk.iconst (v := nI 0) X dX5_about_128 (by decide) ?_
                      refine Wk.iaddN X dX5_about_129 ?_
                      refine Wk.istore_n (lv' := [(2, .int (nI (x + 0))), (4, .int (nI 0)), (0, .ref (h 0)), (1, .int w0), (3, .int (nI k))]) X dX5_about_130 rfl (by decide) rfl ?_
                      refine Wk.iincN (n := 1) (lv' := [(3, .int (nI (k + 1))), (2, .int (nI (x + 0))), (4, .int (nI 0)), (0, .ref (h 0)), (1, .int w0)]) X 4 rfl dX5_about_131 (by decide) rfl ?_
                      refine Wk.goto X 54 dX5_about_134 (by decide) ?_
                      refine Wk.lvs (lv' := [(0, .ref (h 0)), (1, .int w0), (2, .int (nI (x + 0))), (3, .int (nI (k + 1)))]) [3, 4, 1, 0] rfl ?_
                      exact ih54 (k + 1) (x + 0) (by omega) (by omega) (by first | contradiction | (simp [caM, *]; done))
                    · exact absurd c24 (by decide)
                  · skip
                    refine Wk.iconst (v := nI 1) X dX5_about_80 (by decide) ?_
                    refine Wk.goto X 116 dX5_about_81 (by decide) ?_
                    refine Wk.istore (lv' := [(4, .int (nI 1)), (0, .ref (h 0)), (1, .int w0), (2, .int (nI x)), (3, .int (nI k))]) X dX5_about_116 (by decide) rfl ?_
                    refine Wk.iload_n X 3 rfl dX5_about_118 rfl ?_
                    refine Wk.iload X 0 rfl dX5_about_119 ?_
                    refine Wk.if_eq X 128 dX5_about_121 (by decide) (fun c25 => ?_) (fun c25 => ?_)
                    · exact absurd c25 (by decide)
                    · skip
                      refine Wk.iconst (v := nI 1) X dX5_about_124 (by decide) ?_
                      refine Wk.goto X 129 dX5_about_125 (by decide) ?_
                      refine Wk.iaddN X dX5_about_129 ?_
                      refine Wk.istore_n (lv' := [(2, .int (nI (x + 1))), (4, .int (nI 1)), (0, .ref (h 0)), (1, .int w0), (3, .int (nI k))]) X dX5_about_130 rfl (by decide) rfl ?_
                      refine Wk.iincN (n := 1) (lv' := [(3, .int (nI (k + 1))), (2, .int (nI (x + 1))), (4, .int (nI 1)), (0, .ref (h 0)), (1, .int w0)]) X 4 rfl dX5_about_131 (by decide) rfl ?_
                      refine Wk.goto X 54 dX5_about_134 (by decide) ?_
                      refine Wk.lvs (lv' := [(0, .ref (h 0)), (1, .int w0), (2, .int (nI (x + 1))), (3, .int (nI (k + 1)))]) [3, 4, 1, 0] rfl ?_
                      exact ih54 (k + 1) (x + 1) (by omega) (by omega) (by first | contradiction | (simp [caM, *]; done))
          refine Wk.lvs (lv' := [(0, .ref (h 0)), (1, .int w0), (2, .int (nI 0)), (3, .int (nI 0))]) [2, 3, 1, 0] rfl ?_
          exact L54 (t * 15 + 1) 0 0 (by omega) (by omega) (by rfl)
        · skip
          refine Wk.sipush (v := -10002) X dX5_about_46 (by decide) ?_
          exact Wk.iret X hr hk (by simp [abM, nI_0, *]) rfl dX5_about_49
    · skip
      refine Wk.iload_n X 1 rfl dX5_about_14 rfl ?_
      refine Wk.if_ne X 25 dX5_about_15 (by decide) (fun c26 => ?_) (fun c26 => ?_)
      · skip
        refine Wk.aload_n X 0 rfl dX5_about_25 rfl ?_
        refine Wk.get X inX5 0 7 lk67 (fun _ h9 => h9) rfl rfl (by decide) rfl dX5_about_26 ?_
        exact Wk.iret X hr hk (by first | contradiction | (simp [abM, nI_0, *]; done) | (simp [abM, nI_0, nIc1, *]; done)) rfl dX5_about_29
      · skip
        refine Wk.aload_n X 0 rfl dX5_about_18 rfl ?_
        refine Wk.get X inX5 0 1 lk63 (fun _ h9 => h9) rfl rfl (by decide) rfl dX5_about_19 ?_
        refine Wk.goto X 29 dX5_about_22 (by decide) ?_
        exact Wk.iret X hr hk (by first | contradiction | (simp [abM, nI_0, *]; done) | (simp [abM, nI_0, nIc1, *]; done)) rfl dX5_about_29

set_option maxHeartbeats 4000000 in
set_option maxRecDepth 100000 in
theorem c_X5_begins (l : Launch) (dC : Nat → ClassId) (dI : Nat → Nat → Nat) (cI cJ cZ : ClassId) (h : Nat → Nat) (th : Int32) (n : Nat) (li : Nat → Int32) (gr : Nat → Int32) (nu : Nat → Int32) (hb : Nat → Bool) (se : Nat → Int32) (t : Nat) (ki : Nat → Int32) (fe : Nat → Int32) (lm : Nat → Int32) (si : Nat → Int32) (va : Nat → Int32) (he : Nat → Int32) (up : Nat → Int64) (lo : Nat → Int64) (sc : Nat → Int64) (no : Nat → Int32) (pu : Nat → Int32) (b1 : Int32) (b2 : Int32) (b3 : Int32) (bu : Int64) (bl : Int64) : Cv l yX5_begins wsX5_begins 0 0 (dC, dI) cl6 (TY cI cJ cZ) false [.ref (h 0)] (Wm h cI cJ cZ th n li gr nu hb se t ki fe lm si va he up lo sc no pu b1 b2 b3 bu bl) (Wm h cI cJ cZ th 0 li gr nu (clB hb 100) (upd (upd (upd (upd se 0 (nI 10)) 1 (nI 10)) 2 (nI 2)) 3 (nI 1)) 0 ki fe lm si va he up lo sc no pu b1 b2 b3 bu bl) := by
  refine Cv.of (cc := cX5_begins) (maxL := 2) (own := RX5) rfl (plainFor_of_name (by decide)) rfl (Nat.le_of_ble_eq_true rfl) ?_
  intro pg ev s0 md ar bw mt cd A X hr hk
  show Wk pg l ev _ s0 md ar bw mt cd 0 0 _ 2 (dC, dI) cl6 A 0 [(0, .ref (h 0))] [] (Wm h cI cJ cZ th n li gr nu hb se t ki fe lm si va he up lo sc no pu b1 b2 b3 bu bl)
  have inX5 : ∀ w ∈ u_ws RX5 TX5 24, w ∈ wsX5_begins := by decide +kernel
  have lk19 := X.w (.fieldLink RX5 19 "PairedTreesModel" "has" "[Z") (by decide +kernel)
  have lk23 := X.w (.fieldLink RX5 23 "PairedTreesModel" "settings" "[I") (by decide +kernel)
  have lk63 := X.w (.fieldLink RX5 63 "PairedTreesModel" "things" "I") (by decide +kernel)
  have lk67 := X.w (.fieldLink RX5 67 "PairedTreesModel" "trees" "I") (by decide +kernel)
  refine Wk.aload_n X 0 rfl dX5_begins_0 rfl ?_
  refine Wk.iconst (v := nI 0) X dX5_begins_1 (by decide) ?_
  refine Wk.put (ws' := Wm h cI cJ cZ th 0 li gr nu hb se t ki fe lm si va he up lo sc no pu b1 b2 b3 bu bl) X inX5 tyX5 tyX5_ok nmX5 0 1 lk63 (fun _ h9 => h9) rfl rfl (by decide) rfl (tyX5_ok 1 (by decide)) rfl rfl (Nat.le_of_ble_eq_true rfl) rfl dX5_begins_2 ?_
  refine Wk.aload_n X 0 rfl dX5_begins_5 rfl ?_
  refine Wk.iconst (v := nI 0) X dX5_begins_6 (by decide) ?_
  refine Wk.put (ws' := Wm h cI cJ cZ th 0 li gr nu hb se 0 ki fe lm si va he up lo sc no pu b1 b2 b3 bu bl) X inX5 tyX5 tyX5_ok nmX5 0 7 lk67 (fun _ h9 => h9) rfl rfl (by decide) rfl (tyX5_ok 7 (by decide)) rfl rfl (Nat.le_of_ble_eq_true rfl) rfl dX5_begins_7 ?_
  refine Wk.iconst (v := nI 0) X dX5_begins_10 (by decide) ?_
  refine Wk.istore_n (lv' := [(1, .int (nI 0)), (0, .ref (h 0))]) X dX5_begins_11 rfl (by decide) rfl ?_
  have L12 : ∀ (fu12 : Nat) (k : Nat) (hq : 101 ≤ k + fu12) (hk0 : k ≤ 100), Wk pg l ev ({ frames := 0, cells := 0, slots := 0, locals := 0 } : Room) s0 md ar bw mt cd 0 0 (QRv bw ar s0 (dC, dI) cl6 (TY cI cJ cZ) A (Wm h cI cJ cZ th 0 li gr nu (clB hb 100) (upd (upd (upd (upd se 0 (nI 10)) 1 (nI 10)) 2 (nI 2)) 3 (nI 1)) 0 ki fe lm si va he up lo sc no pu b1 b2 b3 bu bl)) 2 (dC, dI) cl6 A 12 [(0, .ref (h 0)), (1, .int (nI k))] [] (Wm h cI cJ cZ th 0 li gr nu (clB hb k) se 0 ki fe lm si va he up lo sc no pu b1 b2 b3 bu bl) := by
    intro fu12
    induction fu12 with
    | zero => intro k hq hk0; exact absurd hq (by omega)
    | succ fu12 ih12 =>
      intro k hq hk0
      refine Wk.iload_n X 1 rfl dX5_begins_12 rfl ?_
      refine Wk.bipush (v := nI 100) X dX5_begins_13 (by decide) ?_
      refine Wk.icmpN_ge X 31 (by omega) (by omega) dX5_begins_15 (by decide) (fun c1 => ?_) (fun c1 => ?_)
      · skip
        refine Wk.aload_n X 0 rfl dX5_begins_31 rfl ?_
        refine Wk.get X inX5 0 6 lk23 (fun _ h9 => h9) rfl rfl (by decide) rfl dX5_begins_32 ?_
        refine Wk.iconst (v := nI 0) X dX5_begins_35 (by decide) ?_
        refine Wk.bipush (v := nI 10) X dX5_begins_36 (by decide) ?_
        refine Wk.iast (ws' := Wm h cI cJ cZ th 0 li gr nu (clB hb k) (upd se 0 (nI 10)) 0 ki fe lm si va he up lo sc no pu b1 b2 b3 bu bl) X 5 0 rfl rfl (by omega) (by decide) rfl dX5_begins_38 ?_
        refine Wk.aload_n X 0 rfl dX5_begins_39 rfl ?_
        refine Wk.get X inX5 0 6 lk23 (fun _ h9 => h9) rfl rfl (by decide) rfl dX5_begins_40 ?_
        refine Wk.iconst (v := nI 1) X dX5_begins_43 (by decide) ?_
        refine Wk.bipush (v := nI 10) X dX5_begins_44 (by decide) ?_
        refine Wk.iast (ws' := Wm h cI cJ cZ th 0 li gr nu (clB hb k) (upd (upd se 0 (nI 10)) 1 (nI 10)) 0 ki fe lm si va he up lo sc no pu b1 b2 b3 bu bl) X 5 0 rfl rfl (by omega) (by decide) rfl dX5_begins_46 ?_
        refine Wk.aload_n X 0 rfl dX5_begins_47 rfl ?_
        refine Wk.get X inX5 0 6 lk23 (fun _ h9 => h9) rfl rfl (by decide) rfl dX5_begins_48 ?_
        refine Wk.iconst (v := nI 2) X dX5_begins_51 (by decide) ?_
        refine Wk.iconst (v := nI 2) X dX5_begins_52 (by decide) ?_
        refine Wk.iast (ws' := Wm h cI cJ cZ th 0 li gr nu (clB hb k) (upd (upd (upd se 0 (nI 10)) 1 (nI 10)) 2 (nI 2)) 0 ki fe lm si va he up lo sc no pu b1 b2 b3 bu bl) X 5 0 rfl rfl (by omega) (by decide) rfl dX5_begins_53 ?_
        refine Wk.aload_n X 0 rfl dX5_begins_54 rfl ?_
        refine Wk.get X inX5 0 6 lk23 (fun _ h9 => h9) rfl rfl (by decide) rfl dX5_begins_55 ?_
        refine Wk.iconst (v := nI 3) X dX5_begins_58 (by decide) ?_
        refine Wk.iconst (v := nI 1) X dX5_begins_59 (by decide) ?_
        refine Wk.iast (ws' := Wm h cI cJ cZ th 0 li gr nu (clB hb k) (upd (upd (upd (upd se 0 (nI 10)) 1 (nI 10)) 2 (nI 2)) 3 (nI 1)) 0 ki fe lm si va he up lo sc no pu b1 b2 b3 bu bl) X 5 0 rfl rfl (by omega) (by decide) rfl dX5_begins_60 ?_
        exact Wk.vret X hr hk (by rw [show k = 100 by omega]) dX5_begins_61
      · skip
        refine Wk.aload_n X 0 rfl dX5_begins_18 rfl ?_
        refine Wk.get X inX5 0 5 lk19 (fun _ h9 => h9) rfl rfl (by decide) rfl dX5_begins_19 ?_
        refine Wk.iload_n X 1 rfl dX5_begins_22 rfl ?_
        refine Wk.iconst (v := nI 0) X dX5_begins_23 (by decide) ?_
        refine Wk.topi (y := bI false) (by decide) ?_
        refine Wk.zast (ws' := Wm h cI cJ cZ th 0 li gr nu (updB (clB hb k) k false) se 0 ki fe lm si va he up lo sc no pu b1 b2 b3 bu bl) X 4 2 rfl rfl (by omega) (by decide) (bI_vp _) (by rw [updB_bI]; rfl) dX5_begins_24 ?_
        refine Wk.iincN (n := 1) (lv' := [(1, .int (nI (k + 1))), (0, .ref (h 0))]) X 1 rfl dX5_begins_25 (by decide) rfl ?_
        refine Wk.goto X 12 dX5_begins_28 (by decide) ?_
        refine Wk.lvs (lv' := [(0, .ref (h 0)), (1, .int (nI (k + 1)))]) [1, 0] rfl ?_
        exact ih12 (k + 1) (by omega) (by omega)
  refine Wk.lvs (lv' := [(0, .ref (h 0)), (1, .int (nI 0))]) [1, 0] rfl ?_
  exact L12 101 0 (by omega) (by omega)

set_option maxHeartbeats 4000000 in
set_option maxRecDepth 100000 in
theorem c_X5_clear (l : Launch) (dC : Nat → ClassId) (dI : Nat → Nat → Nat) (cI cJ cZ : ClassId) (h : Nat → Nat) (th : Int32) (n : Nat) (li : Nat → Int32) (gr : Nat → Int32) (nu : Nat → Int32) (hb : Nat → Bool) (se : Nat → Int32) (t : Nat) (ki : Nat → Int32) (fe : Nat → Int32) (lm : Nat → Int32) (si : Nat → Int32) (va : Nat → Int32) (he : Nat → Int32) (up : Nat → Int64) (lo : Nat → Int64) (sc : Nat → Int64) (no : Nat → Int32) (pu : Nat → Int32) (b1 : Int32) (b2 : Int32) (b3 : Int32) (bu : Int64) (bl : Int64) : Ci l yX5_clear wsX5_clear 1 21 (dC, dI) cl6 (TY cI cJ cZ) false [.ref (h 0)] (Wm h cI cJ cZ th n li gr nu hb se t ki fe lm si va he up lo sc no pu b1 b2 b3 bu bl) (nI n) (Wm h cI cJ cZ (nI 0) 0 li gr nu (clB hb 100) (upd (upd (upd (upd se 0 (nI 10)) 1 (nI 10)) 2 (nI 2)) 3 (nI 1)) 0 ki fe lm si va he up lo sc no pu b1 b2 b3 bu bl) := by
  refine Ci.of (cc := cX5_clear) (maxL := 2) (ty := .int) (own := RX5) rfl (plainFor_of_name (by decide)) rfl (Nat.le_of_ble_eq_true rfl) ?_
  intro pg ev s0 md ar bw mt cd A X hr hk
  show Wk pg l ev _ s0 md ar bw mt cd 0 0 _ 2 (dC, dI) cl6 A 0 [(0, .ref (h 0))] [] (Wm h cI cJ cZ th n li gr nu hb se t ki fe lm si va he up lo sc no pu b1 b2 b3 bu bl)
  have inX5 : ∀ w ∈ u_ws RX5 TX5 24, w ∈ wsX5_clear := by decide +kernel
  have lk63 := X.w (.fieldLink RX5 63 "PairedTreesModel" "things" "I") (by decide +kernel)
  have lk70 := X.w (.fieldLink RX5 70 "PairedTreesModel" "thrown" "I") (by decide +kernel)
  refine Wk.aload_n X 0 rfl dX5_clear_0 rfl ?_
  refine Wk.iconst (v := nI 0) X dX5_clear_1 (by decide) ?_
  refine Wk.put (ws' := Wm h cI cJ cZ (nI 0) n li gr nu hb se t ki fe lm si va he up lo sc no pu b1 b2 b3 bu bl) X inX5 tyX5 tyX5_ok nmX5 0 0 lk70 (fun _ h9 => h9) rfl rfl (by decide) rfl (tyX5_ok 0 (by decide)) rfl rfl (Nat.le_of_ble_eq_true rfl) rfl dX5_clear_2 ?_
  refine Wk.aload_n X 0 rfl dX5_clear_5 rfl ?_
  refine Wk.get X inX5 0 1 lk63 (fun _ h9 => h9) rfl rfl (by decide) rfl dX5_clear_6 ?_
  refine Wk.istore_n (lv' := [(1, .int (nI n)), (0, .ref (h 0))]) X dX5_clear_9 rfl (by decide) rfl ?_
  refine Wk.aload_n X 1 rfl dX5_clear_10 rfl ?_
  refine Wk.callVv (n := 0) (q0 := 0) X (c_X5_begins l dC dI cI cJ cZ h (nI 0) n li gr nu hb se t ki fe lm si va he up lo sc no pu b1 b2 b3 bu bl) gX5_clear_X5_begins rfl (by decide +kernel) (by decide) Fr.all (fun h9 => h9) rfl rfl rfl rfl (Nat.le_of_ble_eq_true rfl) ⟨Nat.zero_le _, Nat.zero_le _⟩ dX5_clear_11 ?_
  refine Wk.iload_n X 0 rfl dX5_clear_14 rfl ?_
  exact Wk.iret X hr hk (by first | rfl | omega | (simp [*]; done)) rfl dX5_clear_15

