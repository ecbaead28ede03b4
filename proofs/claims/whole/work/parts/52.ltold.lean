/-- the class's world and the law's row for an answer -/
def Wl (h : Nat → Nat) (ho : Nat) (cI cJ cZ : ClassId) (n : Nat) (li : Nat → Int32) (gr : Nat → Int32) (nb : Nat → Int32) (sc : Nat → Int64) (t : Nat) (ki : Nat → Int32) (fe : Nat → Int32) (lm : Nat → Int32) (si : Nat → Int32) (va : Nat → Int32) (he : Nat → Int32) (up : Nat → Int64) (lo : Nat → Int64) (pu : Nat → Int32) (pl : Nat → Int32) (gh : Nat) (gs : Int32) (bf : Bool) (b1 : Int32) (b2 : Int32) (b3 : Int32) (bu : Int64) (bl : Int64) (se : Nat → Int32) (ou : Nat → Int64) : va_W := Wc h cI cJ cZ n li gr nb sc t ki fe lm si va he up lo pu pl gh gs bf b1 b2 b3 bu bl se ++ [(ho, .inl (cJ, 1, .inr (.inl ou)))]
def wqL_told : List Cond := wsL_told ++ exTold
def wqL_share : List Cond := wsL_share ++ exShare
theorem gq_ext {big ws pre ex : List Cond} (h : GoodIn big (pre ++ ws)) (hg : ∀ w ∈ ex, goodWord w = true) : GoodIn (big ++ ex) (pre ++ (ws ++ ex)) := by
  intro w hw
  rw [← List.append_assoc] at hw
  rcases List.mem_append.mp hw with h1 | h1
  · exact ⟨List.mem_append_left _ (h w h1).1, (h w h1).2⟩
  · exact ⟨List.mem_append_right _ h1, good_of_word (hg w h1)⟩
theorem exTold_g : ∀ w ∈ exTold, goodWord w = true := fun w h => (List.mem_append.mp h).elim (fun h => (List.mem_filter.mp h).2) (fun h => (List.mem_filter.mp h).2)
theorem exShare_g : ∀ w ∈ exShare, goodWord w = true := fun w h => (List.mem_filter.mp h).2
theorem gqL_told_X4_told : GoodIn wqL_told (wsV RL 7 RX4 yX4_told wqX4_told) := gq_ext gL_told_X4_told exTold_g
theorem gqL_share_X4_share : GoodIn wqL_share (wsV RL 17 RX4 yX4_share wqX4_share) := gq_ext gL_share_X4_share exShare_g
set_option maxHeartbeats 4000000 in
set_option maxRecDepth 100000 in
theorem c_L_told_ok (l : Launch) (dC : Nat → ClassId) (dI : Nat → Nat → Nat) (cI cJ cZ : ClassId) (h : Nat → Nat) (ho : Nat) (n : Nat) (li : Nat → Int32) (gr : Nat → Int32) (nb : Nat → Int32) (sc : Nat → Int64) (t : Nat) (ki : Nat → Int32) (fe : Nat → Int32) (lm : Nat → Int32) (si : Nat → Int32) (va : Nat → Int32) (he : Nat → Int32) (up : Nat → Int64) (lo : Nat → Int64) (pu : Nat → Int32) (pl : Nat → Int32) (gh : Nat) (gs : Int32) (bf : Bool) (b1 : Int32) (b2 : Int32) (b3 : Int32) (bu : Int64) (bl : Int64) (se : Nat → Int32) (ou : Nat → Int64) (x f : Int32) (hn0 : n ≤ 24) (hcs : tdC x f n nb = 0) : Cj l yL_told wqL_told 9 143 0 0 (dC, dI) cl6 (TY cI cJ cZ) true [.ref (h 0), .int x, .int f, .ref ho] (Wl h ho cI cJ cZ n li gr nb sc t ki fe lm si va he up lo pu pl gh gs bf b1 b2 b3 bu bl se ou) (nI 0) (Wl h ho cI cJ cZ n li gr nb sc t ki fe lm si va he up lo pu pl gh gs bf b1 b2 b3 bu bl se (vp_updL ou 0 (nb (x.toNatClampNeg * 4 + f.toNatClampNeg)).toInt64)) := by
  refine Cj.ofW (cc := cL_told) (maxL := 5) (ty := .int) (hh := [(0, 10, 13, 13), (0, 10, 17, 15)]) (own := RL) rfl (by decide) rfl (Nat.le_of_ble_eq_true rfl) ?_
  intro pg ev s0 md ar bw mt cd A X hr hk htab
  show Wk pg l ev _ s0 md ar bw mt cd 0 0 _ 5 (dC, dI) cl6 A 0 [(0, .ref (h 0)), (1, .int x), (2, .int f), (3, .ref ho)] [] (Wl h ho cI cJ cZ n li gr nb sc t ki fe lm si va he up lo pu pl gh gs bf b1 b2 b3 bu bl se ou)
  refine Wk.aload_n X 3 rfl dL_told_0 rfl ?_
  refine Wk.iconst (v := nI 0) X dL_told_1 (by decide) ?_
  refine Wk.aload_n X 0 rfl dL_told_2 rfl ?_
  refine Wk.iload_n X 1 rfl dL_told_3 rfl ?_
  refine Wk.iload_n X 2 rfl dL_told_4 rfl ?_
  refine Wk.callVi (n := 2) (q0 := 0) X (c_X4_told_ok l dC dI cI cJ cZ h n li gr nb sc t ki fe lm si va he up lo pu pl gh gs bf b1 b2 b3 bu bl se x f hn0 hcs) gqL_told_X4_told rfl (by decide +kernel) (by decide) (Fr.mk2 (ws' := Wl h ho cI cJ cZ n li gr nb sc t ki fe lm si va he up lo pu pl gh gs bf b1 b2 b3 bu bl se ou) [0, 1, 2, 3, 4, 5, 6, 7, 8, 9, 10, 11, 12, 13, 14, 15, 16, 17, 18, 19] [20] [1, 2, 3, 4, 5, 6, 7, 8, 9, 10, 11, 12, 13, 14, 15, 16, 17, 18, 19, 20, 0] rfl rfl rfl rfl (by decide) rfl rfl) (fun h9 => rfl) rfl rfl rfl rfl (Nat.le_of_ble_eq_true rfl) ⟨Nat.zero_le _, Nat.zero_le _⟩ dL_told_5 ?_
  refine Wk.i2l X dL_told_8 ?_
  refine Wk.last (ws' := Wl h ho cI cJ cZ n li gr nb sc t ki fe lm si va he up lo pu pl gh gs bf b1 b2 b3 bu bl se (vp_updL ou 0 (nb (x.toNatClampNeg * 4 + f.toNatClampNeg)).toInt64)) X 20 1 rfl rfl (by decide) (by decide) rfl dL_told_9 ?_
  refine Wk.goto X 21 dL_told_10 (by decide) ?_
  refine Wk.iconst (v := nI 0) X dL_told_21 (by decide) ?_
  exact Wk.jret X hr hk rfl rfl (by decide) (by decide) dL_told_22

theorem tab_told : tableOf [(0, 10, 13, 13), (0, 10, 17, 15)] = ([] : List ExceptionTableEntry) ++ (tableOf [(0, 10, 13, 13), (0, 10, 17, 15)])[0] :: [(tableOf [(0, 10, 13, 13), (0, 10, 17, 15)])[1]] := rfl
theorem tab_told2 : tableOf [(0, 10, 13, 13), (0, 10, 17, 15)] = [(tableOf [(0, 10, 13, 13), (0, 10, 17, 15)])[0]] ++ (tableOf [(0, 10, 13, 13), (0, 10, 17, 15)])[1] :: [] := rfl
theorem tab_share : tableOf [(0, 9, 12, 21)] = ([] : List ExceptionTableEntry) ++ (tableOf [(0, 9, 12, 21)])[0] :: [] := rfl
set_option maxHeartbeats 4000000 in
set_option maxRecDepth 100000 in
theorem c_L_told_np (l : Launch) (dC : Nat → ClassId) (dI : Nat → Nat → Nat) (cI cJ cZ : ClassId) (h : Nat → Nat) (ho : Nat) (n : Nat) (li : Nat → Int32) (gr : Nat → Int32) (nb : Nat → Int32) (sc : Nat → Int64) (t : Nat) (ki : Nat → Int32) (fe : Nat → Int32) (lm : Nat → Int32) (si : Nat → Int32) (va : Nat → Int32) (he : Nat → Int32) (up : Nat → Int64) (lo : Nat → Int64) (pu : Nat → Int32) (pl : Nat → Int32) (gh : Nat) (gs : Int32) (bf : Bool) (b1 : Int32) (b2 : Int32) (b3 : Int32) (bu : Int64) (bl : Int64) (se : Nat → Int32) (ou : Nat → Int64) (x f : Int32) (hn0 : n ≤ 24) (hcs : tdC x f n nb = 1) (htr : l.stackTraces = false) : Cj l yL_told wqL_told 9 143 1 8 (dC, dI) cl6 (TY cI cJ cZ) true [.ref (h 0), .int x, .int f, .ref ho] (Wl h ho cI cJ cZ n li gr nb sc t ki fe lm si va he up lo pu pl gh gs bf b1 b2 b3 bu bl se ou) (nI 1) (Wl h ho cI cJ cZ n li gr nb sc t ki fe lm si va he up lo pu pl gh gs bf b1 b2 b3 bu bl se ou) := by
  refine Cj.ofW (cc := cL_told) (maxL := 5) (ty := .int) (hh := [(0, 10, 13, 13), (0, 10, 17, 15)]) (own := RL) rfl (by decide) rfl (Nat.le_of_ble_eq_true rfl) ?_
  intro pg ev s0 md ar bw mt cd A X hr hk htab
  show Wk pg l ev _ s0 md ar bw mt cd 0 0 _ 5 (dC, dI) cl6 A 0 [(0, .ref (h 0)), (1, .int x), (2, .int f), (3, .ref ho)] [] (Wl h ho cI cJ cZ n li gr nb sc t ki fe lm si va he up lo pu pl gh gs bf b1 b2 b3 bu bl se ou)
  obtain ⟨⟨aF, zF, xF, nF, -⟩, ⟨aL, zL, tL⟩, ⟨aH, zH, tH⟩, zU, zN, s74, s81, s84, s89, s172, exN, exC⟩ := X.sx rfl
  refine Wk.aload_n X 3 rfl dL_told_0 rfl ?_
  refine Wk.iconst (v := nI 0) X dL_told_1 (by decide) ?_
  refine Wk.aload_n X 0 rfl dL_told_2 rfl ?_
  refine Wk.iload_n X 1 rfl dL_told_3 rfl ?_
  refine Wk.iload_n X 2 rfl dL_told_4 rfl ?_
  refine Wk.callVt (n := 2) (q0 := 0) (name := Bundle.nN) X (c_X4_told_np l dC dI cI cJ cZ h n li gr nb sc t ki fe lm si va he up lo pu pl gh gs bf b1 b2 b3 bu bl se x f hn0 hcs htr) gqL_told_X4_told rfl (by decide +kernel) (by decide) (Fr.mk2 (ws' := Wl h ho cI cJ cZ n li gr nb sc t ki fe lm si va he up lo pu pl gh gs bf b1 b2 b3 bu bl se ou) [0, 1, 2, 3, 4, 5, 6, 7, 8, 9, 10, 11, 12, 13, 14, 15, 16, 17, 18, 19] [20] [1, 2, 3, 4, 5, 6, 7, 8, 9, 10, 11, 12, 13, 14, 15, 16, 17, 18, 19, 20, 0] rfl rfl rfl rfl (by decide) rfl rfl) (fun h9 => rfl) rfl rfl rfl rfl (Nat.le_of_ble_eq_true rfl) (by decide) _ _ _ (htab.trans tab_told) (fun y hy => nomatch hy) (by decide) (by decide) (X.w (.classLink RL 13 Bundle.nN) (by decide +kernel)) (exW_use exN _ (by decide +kernel)) 13 rfl dL_told_5 (fun q => ?_)
  refine Wk.astore (lv' := [(4, .ref q), (0, .ref (h 0)), (1, .int x), (2, .int f), (3, .ref ho)]) X dL_told_13 (by decide) rfl ?_
  refine Wk.iconst (v := nI 1) X dL_told_15 (by decide) ?_
  exact Wk.jret X hr hk rfl rfl (by decide) (by decide) dL_told_16

set_option maxHeartbeats 4000000 in
set_option maxRecDepth 100000 in
theorem c_L_told_ai (l : Launch) (dC : Nat → ClassId) (dI : Nat → Nat → Nat) (cI cJ cZ : ClassId) (h : Nat → Nat) (ho : Nat) (n : Nat) (li : Nat → Int32) (gr : Nat → Int32) (nb : Nat → Int32) (sc : Nat → Int64) (t : Nat) (ki : Nat → Int32) (fe : Nat → Int32) (lm : Nat → Int32) (si : Nat → Int32) (va : Nat → Int32) (he : Nat → Int32) (up : Nat → Int64) (lo : Nat → Int64) (pu : Nat → Int32) (pl : Nat → Int32) (gh : Nat) (gs : Int32) (bf : Bool) (b1 : Int32) (b2 : Int32) (b3 : Int32) (bu : Int64) (bl : Int64) (se : Nat → Int32) (ou : Nat → Int64) (x f : Int32) (hn0 : n ≤ 24) (hcs : tdC x f n nb = 2) (htr : l.stackTraces = false) : Cj l yL_told wqL_told 9 143 1 8 (dC, dI) cl6 (TY cI cJ cZ) true [.ref (h 0), .int x, .int f, .ref ho] (Wl h ho cI cJ cZ n li gr nb sc t ki fe lm si va he up lo pu pl gh gs bf b1 b2 b3 bu bl se ou) (nI 2) (Wl h ho cI cJ cZ n li gr nb sc t ki fe lm si va he up lo pu pl gh gs bf b1 b2 b3 bu bl se ou) := by
  refine Cj.ofW (cc := cL_told) (maxL := 5) (ty := .int) (hh := [(0, 10, 13, 13), (0, 10, 17, 15)]) (own := RL) rfl (by decide) rfl (Nat.le_of_ble_eq_true rfl) ?_
  intro pg ev s0 md ar bw mt cd A X hr hk htab
  show Wk pg l ev _ s0 md ar bw mt cd 0 0 _ 5 (dC, dI) cl6 A 0 [(0, .ref (h 0)), (1, .int x), (2, .int f), (3, .ref ho)] [] (Wl h ho cI cJ cZ n li gr nb sc t ki fe lm si va he up lo pu pl gh gs bf b1 b2 b3 bu bl se ou)
  obtain ⟨⟨aF, zF, xF, nF, -⟩, ⟨aL, zL, tL⟩, ⟨aH, zH, tH⟩, zU, zN, s74, s81, s84, s89, s172, exN, exC⟩ := X.sx rfl
  refine Wk.aload_n X 3 rfl dL_told_0 rfl ?_
  refine Wk.iconst (v := nI 0) X dL_told_1 (by decide) ?_
  refine Wk.aload_n X 0 rfl dL_told_2 rfl ?_
  refine Wk.iload_n X 1 rfl dL_told_3 rfl ?_
  refine Wk.iload_n X 2 rfl dL_told_4 rfl ?_
  refine Wk.callVt (n := 2) (q0 := 0) (name := eAI) X (c_X4_told_ai l dC dI cI cJ cZ h n li gr nb sc t ki fe lm si va he up lo pu pl gh gs bf b1 b2 b3 bu bl se x f hn0 hcs htr) gqL_told_X4_told rfl (by decide +kernel) (by decide) (Fr.mk2 (ws' := Wl h ho cI cJ cZ n li gr nb sc t ki fe lm si va he up lo pu pl gh gs bf b1 b2 b3 bu bl se ou) [0, 1, 2, 3, 4, 5, 6, 7, 8, 9, 10, 11, 12, 13, 14, 15, 16, 17, 18, 19] [20] [1, 2, 3, 4, 5, 6, 7, 8, 9, 10, 11, 12, 13, 14, 15, 16, 17, 18, 19, 20, 0] rfl rfl rfl rfl (by decide) rfl rfl) (fun h9 => rfl) rfl rfl rfl rfl (Nat.le_of_ble_eq_true rfl) (by decide) _ _ _ (htab.trans tab_told2) (fun y hy => by cases List.mem_singleton.mp hy; exact Or.inr ⟨by decide, Bundle.nN, X.w (.classLink RL 13 Bundle.nN) (by decide +kernel), exC⟩) (by decide) (by decide) (X.w (.classLink RL 15 eAI) (by decide +kernel)) (exW_use exN _ (by decide +kernel)) 17 rfl dL_told_5 (fun q => ?_)
  refine Wk.astore (lv' := [(4, .ref q), (0, .ref (h 0)), (1, .int x), (2, .int f), (3, .ref ho)]) X dL_told_17 (by decide) rfl ?_
  refine Wk.iconst (v := nI 2) X dL_told_19 (by decide) ?_
  exact Wk.jret X hr hk rfl rfl (by decide) (by decide) dL_told_20

set_option maxHeartbeats 4000000 in
set_option maxRecDepth 100000 in
theorem c_L_share_ok (l : Launch) (dC : Nat → ClassId) (dI : Nat → Nat → Nat) (cI cJ cZ : ClassId) (h : Nat → Nat) (ho : Nat) (n : Nat) (li : Nat → Int32) (gr : Nat → Int32) (nb : Nat → Int32) (sc : Nat → Int64) (t : Nat) (ki : Nat → Int32) (fe : Nat → Int32) (lm : Nat → Int32) (si : Nat → Int32) (va : Nat → Int32) (he : Nat → Int32) (up : Nat → Int64) (lo : Nat → Int64) (pu : Nat → Int32) (pl : Nat → Int32) (gh : Nat) (gs : Int32) (bf : Bool) (b1 : Int32) (b2 : Int32) (b3 : Int32) (bu : Int64) (bl : Int64) (se : Nat → Int32) (ou : Nat → Int64) (ls : Int32) (hn0 : n ≤ 24) (ht0 : t ≤ 20) (hfe : ∀ j, j < t * 15 → ki j = nI 2 → ∃ f, f < 4 ∧ fe j = nI f) (hcs : shB li gr (scT sc (scoreC ki fe lm si va nb t) n) ls n = false) : Cj l yL_share wqL_share 9 254 0 0 (dC, dI) cl6 (TY cI cJ cZ) true [.ref (h 0), .int ls, .ref ho] (Wl h ho cI cJ cZ n li gr nb sc t ki fe lm si va he up lo pu pl gh gs bf b1 b2 b3 bu bl se ou) (nI 0) (Wl h ho cI cJ cZ n li gr nb (if allB ls = true then scT sc (scoreC ki fe lm si va nb t) n else sc) t ki fe lm si va he up lo pu pl gh gs bf b1 b2 b3 bu bl se (vp_updL ou 0 (if allB ls = true then nI (cpO li gr (scT sc (scoreC ki fe lm si va nb t) n) ls true n n * 1000) / nI (cpO li gr (scT sc (scoreC ki fe lm si va nb t) n) ls false n n) else -10002).toInt64)) := by
  refine Cj.ofW (cc := cL_share) (maxL := 4) (ty := .int) (hh := [(0, 9, 12, 21)]) (own := RL) rfl (by decide) rfl (Nat.le_of_ble_eq_true rfl) ?_
  intro pg ev s0 md ar bw mt cd A X hr hk htab
  show Wk pg l ev _ s0 md ar bw mt cd 0 0 _ 4 (dC, dI) cl6 A 0 [(0, .ref (h 0)), (1, .int ls), (2, .ref ho)] [] (Wl h ho cI cJ cZ n li gr nb sc t ki fe lm si va he up lo pu pl gh gs bf b1 b2 b3 bu bl se ou)
  refine Wk.aload_n X 2 rfl dL_share_0 rfl ?_
  refine Wk.iconst (v := nI 0) X dL_share_1 (by decide) ?_
  refine Wk.aload_n X 0 rfl dL_share_2 rfl ?_
  refine Wk.iload_n X 1 rfl dL_share_3 rfl ?_
  refine Wk.callVi (n := 1) (q0 := 0) X (c_X4_share_ok l dC dI cI cJ cZ h n li gr nb sc t ki fe lm si va he up lo pu pl gh gs bf b1 b2 b3 bu bl se ls hn0 ht0 hfe hcs) gqL_share_X4_share rfl (by decide +kernel) (by decide) (Fr.mk2 (ws' := Wl h ho cI cJ cZ n li gr nb (if allB ls = true then scT sc (scoreC ki fe lm si va nb t) n else sc) t ki fe lm si va he up lo pu pl gh gs bf b1 b2 b3 bu bl se ou) [0, 1, 2, 3, 4, 5, 6, 7, 8, 9, 10, 11, 12, 13, 14, 15, 16, 17, 18, 19] [20] [1, 2, 3, 4, 5, 6, 7, 8, 9, 10, 11, 12, 13, 14, 15, 16, 17, 18, 19, 20, 0] rfl rfl rfl rfl (by decide) rfl rfl) (fun h9 => rfl) rfl rfl rfl rfl (Nat.le_of_ble_eq_true rfl) ⟨Nat.zero_le _, Nat.zero_le _⟩ dL_share_4 ?_
  refine Wk.i2l X dL_share_7 ?_
  refine Wk.last (ws' := Wl h ho cI cJ cZ n li gr nb (if allB ls = true then scT sc (scoreC ki fe lm si va nb t) n else sc) t ki fe lm si va he up lo pu pl gh gs bf b1 b2 b3 bu bl se (vp_updL ou 0 (if allB ls = true then nI (cpO li gr (scT sc (scoreC ki fe lm si va nb t) n) ls true n n * 1000) / nI (cpO li gr (scT sc (scoreC ki fe lm si va nb t) n) ls false n n) else -10002).toInt64)) X 20 1 rfl rfl (by decide) (by decide) rfl dL_share_8 ?_
  refine Wk.goto X 15 dL_share_9 (by decide) ?_
  refine Wk.iconst (v := nI 0) X dL_share_15 (by decide) ?_
  exact Wk.jret X hr hk rfl rfl (by decide) (by decide) dL_share_16

set_option maxHeartbeats 4000000 in
set_option maxRecDepth 100000 in
theorem c_L_share_ae (l : Launch) (dC : Nat → ClassId) (dI : Nat → Nat → Nat) (cI cJ cZ : ClassId) (h : Nat → Nat) (ho : Nat) (n : Nat) (li : Nat → Int32) (gr : Nat → Int32) (nb : Nat → Int32) (sc : Nat → Int64) (t : Nat) (ki : Nat → Int32) (fe : Nat → Int32) (lm : Nat → Int32) (si : Nat → Int32) (va : Nat → Int32) (he : Nat → Int32) (up : Nat → Int64) (lo : Nat → Int64) (pu : Nat → Int32) (pl : Nat → Int32) (gh : Nat) (gs : Int32) (bf : Bool) (b1 : Int32) (b2 : Int32) (b3 : Int32) (bu : Int64) (bl : Int64) (se : Nat → Int32) (ou : Nat → Int64) (ls : Int32) (hn0 : n ≤ 24) (ht0 : t ≤ 20) (hfe : ∀ j, j < t * 15 → ki j = nI 2 → ∃ f, f < 4 ∧ fe j = nI f) (hcs : shB li gr (scT sc (scoreC ki fe lm si va nb t) n) ls n = true) (htr : l.stackTraces = false) : Cj l yL_share wqL_share 9 254 1 8 (dC, dI) cl6 (TY cI cJ cZ) true [.ref (h 0), .int ls, .ref ho] (Wl h ho cI cJ cZ n li gr nb sc t ki fe lm si va he up lo pu pl gh gs bf b1 b2 b3 bu bl se ou) (nI 1) (Wl h ho cI cJ cZ n li gr nb (scT sc (scoreC ki fe lm si va nb t) n) t ki fe lm si va he up lo pu pl gh gs bf b1 b2 b3 bu bl se ou) := by
  refine Cj.ofW (cc := cL_share) (maxL := 4) (ty := .int) (hh := [(0, 9, 12, 21)]) (own := RL) rfl (by decide) rfl (Nat.le_of_ble_eq_true rfl) ?_
  intro pg ev s0 md ar bw mt cd A X hr hk htab
  show Wk pg l ev _ s0 md ar bw mt cd 0 0 _ 4 (dC, dI) cl6 A 0 [(0, .ref (h 0)), (1, .int ls), (2, .ref ho)] [] (Wl h ho cI cJ cZ n li gr nb sc t ki fe lm si va he up lo pu pl gh gs bf b1 b2 b3 bu bl se ou)
  obtain ⟨⟨aF, zF, xF, nF, -⟩, ⟨aL, zL, tL⟩, ⟨aH, zH, tH⟩, zU, zN, s74, s81, s84, s89, s172, exN, exC⟩ := X.sx rfl
  refine Wk.aload_n X 2 rfl dL_share_0 rfl ?_
  refine Wk.iconst (v := nI 0) X dL_share_1 (by decide) ?_
  refine Wk.aload_n X 0 rfl dL_share_2 rfl ?_
  refine Wk.iload_n X 1 rfl dL_share_3 rfl ?_
  refine Wk.callVt (n := 1) (q0 := 0) (name := eAE) X (c_X4_share_ae l dC dI cI cJ cZ h n li gr nb sc t ki fe lm si va he up lo pu pl gh gs bf b1 b2 b3 bu bl se ls hn0 ht0 hfe hcs htr) gqL_share_X4_share rfl (by decide +kernel) (by decide) (Fr.mk2 (ws' := Wl h ho cI cJ cZ n li gr nb (scT sc (scoreC ki fe lm si va nb t) n) t ki fe lm si va he up lo pu pl gh gs bf b1 b2 b3 bu bl se ou) [0, 1, 2, 3, 4, 5, 6, 7, 8, 9, 10, 11, 12, 13, 14, 15, 16, 17, 18, 19] [20] [1, 2, 3, 4, 5, 6, 7, 8, 9, 10, 11, 12, 13, 14, 15, 16, 17, 18, 19, 20, 0] rfl rfl rfl rfl (by decide) rfl rfl) (fun h9 => rfl) rfl rfl rfl rfl (Nat.le_of_ble_eq_true rfl) (by decide) _ _ _ (htab.trans tab_share) (fun y hy => nomatch hy) (by decide) (by decide) (X.w (.classLink RL 21 eAE) (by decide +kernel)) (exW_use exN _ (by decide +kernel)) 12 rfl dL_share_4 (fun q => ?_)
  refine Wk.astore_n (lv' := [(3, .ref q), (0, .ref (h 0)), (1, .int ls), (2, .ref ho)]) X dL_share_12 rfl (by decide) rfl ?_
  refine Wk.iconst (v := nI 1) X dL_share_13 (by decide) ?_
  exact Wk.jret X hr hk rfl rfl (by decide) (by decide) dL_share_14

