theorem tdC_3 (x f : Int32) (n : Nat) (nb : Nat → Int32) : tdC x f n nb = 0 ∨ tdC x f n nb = 1 ∨ tdC x f n nb = 2 := by
  unfold tdC
  by_cases h1 : inN x 24 = true
  · by_cases h2 : inN x n = true
    · by_cases h3 : inN f 4 = true
      · by_cases h4 : nb (x.toNatClampNeg * 4 + f.toNatClampNeg) = -1001
        · simp [h1, h2, h3, h4]
        · simp [h1, h2, h3, h4]
      · simp [h1, h2, h3]
    · simp [h1, h2]
  · simp [h1]
set_option maxHeartbeats 4000000 in
set_option maxRecDepth 100000 in
theorem law_c0 {p : Program} {l : Launch} {e : Env} {s : State} {m : MethodId} {args : Array Value} {below : List Frame} {meth : Method} {c : Code} {Q : State → Prop} {dC : Nat → ClassId} {dI : Nat → Nat → Nat} {cI cJ cZ : ClassId} {A : Nat → Prop} {b L : Nat} {xs : Nat → Int32} {h hm : Nat → Nat} {ho i q : Nat} {n : Nat} {li : Nat → Int32} {gr : Nat → Int32} {nb : Nat → Int32} {sc : Nat → Int64} {t : Nat} {ki : Nat → Int32} {fe : Nat → Int32} {lm : Nat → Int32} {si : Nat → Int32} {va : Nat → Int32} {he : Nat → Int32} {up : Nat → Int64} {lo : Nat → Int64} {pu : Nat → Int32} {pl : Nat → Int32} {gh : Nat} {gs : Int32} {bf : Bool} {b1 : Int32} {b2 : Int32} {b3 : Int32} {bu : Int64} {bl : Int64} {se : Nat → Int32} {th2 : Int32} {li2 : Nat → Int32} {gr2 : Nat → Int32} {nu2 : Nat → Int32} {hb2 : Nat → Bool} {se2 : Nat → Int32} {ki2 : Nat → Int32} {fe2 : Nat → Int32} {lm2 : Nat → Int32} {si2 : Nat → Int32} {va2 : Nat → Int32} {he2 : Nat → Int32} {up2 : Nat → Int64} {lo2 : Nat → Int64} {sc2 : Nat → Int64} {no2 : Nat → Int32} {pu2 : Nat → Int32} {b12 : Int32} {b22 : Int32} {b32 : Int32} {bu2 : Int64} {bl2 : Int64} {ou : Nat → Int64} (htr : l.stackTraces = false) (X : Cx p s m args c cL_law RL lw_tbl 7 (dC, dI) cl6 (TY cI cJ cZ) A true) (hX : va_X b L xs s s.heap) (hbl : b < s.heap.size) (hbA : ¬ A b) (hL : L ≤ 2048) (hi : i + 4 ≤ L) (hq : q ≤ 512) (hR : RR n t li gr nb ki fe lm si va he up lo se li2 gr2 nu2 hb2 se2 ki2 fe2 lm2 si2 va2 he2 up2 lo2) (K : Kon p l e s m args below meth c Q (dC, dI) A b h hm ho cI cJ cZ i q) : Wk p l e room_1 s m args below meth c (100 + q) (6000 + 8 * q) Q 7 (dC, dI) cl6 A 124 [(0, .ref b), (1, .ref (h 0)), (2, .ref (hm 0)), (3, .ref ho), (4, .int (nI i))] [] (Wg h hm ho cI cJ cZ n li gr nb sc t ki fe lm si va he up lo pu pl gh gs bf b1 b2 b3 bu bl se th2 n li2 gr2 nu2 hb2 se2 t ki2 fe2 lm2 si2 va2 he2 up2 lo2 sc2 no2 pu2 b12 b22 b32 bu2 bl2 ou) := by
  obtain ⟨hn, ht, hT, hN, hF, hTr, hS⟩ := id hR
  refine Wk.aload_n X 1 rfl dL_law_124 rfl ?_
  refine Wk.aload_n X 0 rfl dL_law_125 rfl ?_
  refine Wk.iload X 4 rfl dL_law_126 ?_
  refine Wk.iconst (v := nI 1) X dL_law_128 (by decide) ?_
  refine Wk.iaddN X dL_law_129 ?_
  refine Wk.sld X hX hbl hbA (by omega) (by omega) dL_law_130 ?_
  refine Wk.aload_n X 0 rfl dL_law_131 rfl ?_
  refine Wk.iload X 4 rfl dL_law_132 ?_
  refine Wk.iconst (v := nI 2) X dL_law_134 (by decide) ?_
  refine Wk.iaddN X dL_law_135 ?_
  refine Wk.sld X hX hbl hbA (by omega) (by omega) dL_law_136 ?_
  refine Wk.callVi (n := 2) (q0 := 0) X (c_X4_thing l dC dI cI cJ cZ h _ _ _ _ _ _ _ _ _ _ _ _ _ _ _ _ _ _ _ _ _ _ _ _ _ (xs (i + 1)) (xs (i + 2)) hn) (gT gL_law_X4_thing) rfl (by decide +kernel) (by decide) FrC (fun _ => rfl) rfl rfl rfl rfl (Nat.le_of_ble_eq_true rfl) (by show _ ≤ 603072 ∧ _ ≤ 7211114; omega) dL_law_137 ?_
  refine Wk.aload_n X 2 rfl dL_law_140 rfl ?_
  refine Wk.aload_n X 0 rfl dL_law_141 rfl ?_
  refine Wk.iload X 4 rfl dL_law_142 ?_
  refine Wk.iconst (v := nI 1) X dL_law_144 (by decide) ?_
  refine Wk.iaddN X dL_law_145 ?_
  refine Wk.sld X hX hbl hbA (by omega) (by omega) dL_law_146 ?_
  refine Wk.aload_n X 0 rfl dL_law_147 rfl ?_
  refine Wk.iload X 4 rfl dL_law_148 ?_
  refine Wk.iconst (v := nI 2) X dL_law_150 (by decide) ?_
  refine Wk.iaddN X dL_law_151 ?_
  refine Wk.sld X hX hbl hbA (by omega) (by omega) dL_law_152 ?_
  refine Wk.callVi (n := 2) (q0 := 20) X (c_X5_thing l dC dI cI cJ cZ hm _ _ _ _ _ _ _ _ _ _ _ _ _ _ _ _ _ _ _ _ _ _ _ _ (xs (i + 1)) (xs (i + 2)) hn) (gT gL_law_X5_thing) rfl (by decide +kernel) (by decide) FrM (fun _ => rfl) rfl rfl rfl rfl (Nat.le_of_ble_eq_true rfl) (by show _ ≤ 603072 ∧ _ ≤ 7211114; omega) dL_law_153 ?_
  refine Wk.icmp_eq X 770 dL_law_156 (by decide) (fun _ => ?_) (fun h9 => absurd rfl h9)
  exact Wk.wide (by omega) (by omega) (K ⟨thB_n hn, ht, hT.thing _ _, hN.thing _ _, hF, hTr, hS⟩)

set_option maxHeartbeats 4000000 in
set_option maxRecDepth 100000 in
theorem law_c1 {p : Program} {l : Launch} {e : Env} {s : State} {m : MethodId} {args : Array Value} {below : List Frame} {meth : Method} {c : Code} {Q : State → Prop} {dC : Nat → ClassId} {dI : Nat → Nat → Nat} {cI cJ cZ : ClassId} {A : Nat → Prop} {b L : Nat} {xs : Nat → Int32} {h hm : Nat → Nat} {ho i q : Nat} {n : Nat} {li : Nat → Int32} {gr : Nat → Int32} {nb : Nat → Int32} {sc : Nat → Int64} {t : Nat} {ki : Nat → Int32} {fe : Nat → Int32} {lm : Nat → Int32} {si : Nat → Int32} {va : Nat → Int32} {he : Nat → Int32} {up : Nat → Int64} {lo : Nat → Int64} {pu : Nat → Int32} {pl : Nat → Int32} {gh : Nat} {gs : Int32} {bf : Bool} {b1 : Int32} {b2 : Int32} {b3 : Int32} {bu : Int64} {bl : Int64} {se : Nat → Int32} {th2 : Int32} {li2 : Nat → Int32} {gr2 : Nat → Int32} {nu2 : Nat → Int32} {hb2 : Nat → Bool} {se2 : Nat → Int32} {ki2 : Nat → Int32} {fe2 : Nat → Int32} {lm2 : Nat → Int32} {si2 : Nat → Int32} {va2 : Nat → Int32} {he2 : Nat → Int32} {up2 : Nat → Int64} {lo2 : Nat → Int64} {sc2 : Nat → Int64} {no2 : Nat → Int32} {pu2 : Nat → Int32} {b12 : Int32} {b22 : Int32} {b32 : Int32} {bu2 : Int64} {bl2 : Int64} {ou : Nat → Int64} (htr : l.stackTraces = false) (X : Cx p s m args c cL_law RL lw_tbl 7 (dC, dI) cl6 (TY cI cJ cZ) A true) (hX : va_X b L xs s s.heap) (hbl : b < s.heap.size) (hbA : ¬ A b) (hL : L ≤ 2048) (hi : i + 4 ≤ L) (hq : q ≤ 512) (hR : RR n t li gr nb ki fe lm si va he up lo se li2 gr2 nu2 hb2 se2 ki2 fe2 lm2 si2 va2 he2 up2 lo2) (K : Kon p l e s m args below meth c Q (dC, dI) A b h hm ho cI cJ cZ i q) : Wk p l e room_1 s m args below meth c (100 + q) (6000 + 8 * q) Q 7 (dC, dI) cl6 A 161 [(0, .ref b), (1, .ref (h 0)), (2, .ref (hm 0)), (3, .ref ho), (4, .int (nI i))] [] (Wg h hm ho cI cJ cZ n li gr nb sc t ki fe lm si va he up lo pu pl gh gs bf b1 b2 b3 bu bl se th2 n li2 gr2 nu2 hb2 se2 t ki2 fe2 lm2 si2 va2 he2 up2 lo2 sc2 no2 pu2 b12 b22 b32 bu2 bl2 ou) := by
  obtain ⟨hn, ht, hT, hN, hF, hTr, hS⟩ := id hR
  refine Wk.aload_n X 1 rfl dL_law_161 rfl ?_
  refine Wk.aload_n X 0 rfl dL_law_162 rfl ?_
  refine Wk.iload X 4 rfl dL_law_163 ?_
  refine Wk.iconst (v := nI 1) X dL_law_165 (by decide) ?_
  refine Wk.iaddN X dL_law_166 ?_
  refine Wk.sld X hX hbl hbA (by omega) (by omega) dL_law_167 ?_
  refine Wk.aload_n X 0 rfl dL_law_168 rfl ?_
  refine Wk.iload X 4 rfl dL_law_169 ?_
  refine Wk.iconst (v := nI 2) X dL_law_171 (by decide) ?_
  refine Wk.iaddN X dL_law_172 ?_
  refine Wk.sld X hX hbl hbA (by omega) (by omega) dL_law_173 ?_
  refine Wk.callVi (n := 2) (q0 := 0) X (c_X4_grade l dC dI cI cJ cZ h _ _ _ _ _ _ _ _ _ _ _ _ _ _ _ _ _ _ _ _ _ _ _ _ _ (xs (i + 1)) (xs (i + 2)) hn) (gT gL_law_X4_grade) rfl (by decide +kernel) (by decide) FrC (fun _ => rfl) rfl rfl rfl rfl (Nat.le_of_ble_eq_true rfl) (by show _ ≤ 603072 ∧ _ ≤ 7211114; omega) dL_law_174 ?_
  refine Wk.aload_n X 2 rfl dL_law_177 rfl ?_
  refine Wk.aload_n X 0 rfl dL_law_178 rfl ?_
  refine Wk.iload X 4 rfl dL_law_179 ?_
  refine Wk.iconst (v := nI 1) X dL_law_181 (by decide) ?_
  refine Wk.iaddN X dL_law_182 ?_
  refine Wk.sld X hX hbl hbA (by omega) (by omega) dL_law_183 ?_
  refine Wk.aload_n X 0 rfl dL_law_184 rfl ?_
  refine Wk.iload X 4 rfl dL_law_185 ?_
  refine Wk.iconst (v := nI 2) X dL_law_187 (by decide) ?_
  refine Wk.iaddN X dL_law_188 ?_
  refine Wk.sld X hX hbl hbA (by omega) (by omega) dL_law_189 ?_
  refine Wk.callVi (n := 2) (q0 := 20) X (c_X5_grade l dC dI cI cJ cZ hm _ _ _ _ _ _ _ _ _ _ _ _ _ _ _ _ _ _ _ _ _ _ _ _ (xs (i + 1)) (xs (i + 2)) hn) (gT gL_law_X5_grade) rfl (by decide +kernel) (by decide) FrM (fun _ => rfl) rfl rfl rfl rfl (Nat.le_of_ble_eq_true rfl) (by show _ ≤ 603072 ∧ _ ≤ 7211114; omega) dL_law_190 ?_
  refine Wk.icmp_eq X 770 dL_law_193 (by decide) (fun _ => ?_) (fun h9 => absurd (grade_eq hn hT _ _).symm h9)
  exact Wk.wide (by omega) (by omega) (K ⟨hn, ht, hT.grade hn _ _, hN, hF, hTr, hS⟩)

set_option maxHeartbeats 4000000 in
set_option maxRecDepth 100000 in
theorem law_c2 {p : Program} {l : Launch} {e : Env} {s : State} {m : MethodId} {args : Array Value} {below : List Frame} {meth : Method} {c : Code} {Q : State → Prop} {dC : Nat → ClassId} {dI : Nat → Nat → Nat} {cI cJ cZ : ClassId} {A : Nat → Prop} {b L : Nat} {xs : Nat → Int32} {h hm : Nat → Nat} {ho i q : Nat} {n : Nat} {li : Nat → Int32} {gr : Nat → Int32} {nb : Nat → Int32} {sc : Nat → Int64} {t : Nat} {ki : Nat → Int32} {fe : Nat → Int32} {lm : Nat → Int32} {si : Nat → Int32} {va : Nat → Int32} {he : Nat → Int32} {up : Nat → Int64} {lo : Nat → Int64} {pu : Nat → Int32} {pl : Nat → Int32} {gh : Nat} {gs : Int32} {bf : Bool} {b1 : Int32} {b2 : Int32} {b3 : Int32} {bu : Int64} {bl : Int64} {se : Nat → Int32} {th2 : Int32} {li2 : Nat → Int32} {gr2 : Nat → Int32} {nu2 : Nat → Int32} {hb2 : Nat → Bool} {se2 : Nat → Int32} {ki2 : Nat → Int32} {fe2 : Nat → Int32} {lm2 : Nat → Int32} {si2 : Nat → Int32} {va2 : Nat → Int32} {he2 : Nat → Int32} {up2 : Nat → Int64} {lo2 : Nat → Int64} {sc2 : Nat → Int64} {no2 : Nat → Int32} {pu2 : Nat → Int32} {b12 : Int32} {b22 : Int32} {b32 : Int32} {bu2 : Int64} {bl2 : Int64} {ou : Nat → Int64} (htr : l.stackTraces = false) (X : Cx p s m args c cL_law RL lw_tbl 7 (dC, dI) cl6 (TY cI cJ cZ) A true) (hX : va_X b L xs s s.heap) (hbl : b < s.heap.size) (hbA : ¬ A b) (hL : L ≤ 2048) (hi : i + 4 ≤ L) (hq : q ≤ 512) (hR : RR n t li gr nb ki fe lm si va he up lo se li2 gr2 nu2 hb2 se2 ki2 fe2 lm2 si2 va2 he2 up2 lo2) (K : Kon p l e s m args below meth c Q (dC, dI) A b h hm ho cI cJ cZ i q) : Wk p l e room_1 s m args below meth c (100 + q) (6000 + 8 * q) Q 7 (dC, dI) cl6 A 198 [(0, .ref b), (1, .ref (h 0)), (2, .ref (hm 0)), (3, .ref ho), (4, .int (nI i))] [] (Wg h hm ho cI cJ cZ n li gr nb sc t ki fe lm si va he up lo pu pl gh gs bf b1 b2 b3 bu bl se th2 n li2 gr2 nu2 hb2 se2 t ki2 fe2 lm2 si2 va2 he2 up2 lo2 sc2 no2 pu2 b12 b22 b32 bu2 bl2 ou) := by
  obtain ⟨hn, ht, hT, hN, hF, hTr, hS⟩ := id hR
  refine Wk.aload_n X 1 rfl dL_law_198 rfl ?_
  refine Wk.aload_n X 0 rfl dL_law_199 rfl ?_
  refine Wk.iload X 4 rfl dL_law_200 ?_
  refine Wk.iconst (v := nI 1) X dL_law_202 (by decide) ?_
  refine Wk.iaddN X dL_law_203 ?_
  refine Wk.sld X hX hbl hbA (by omega) (by omega) dL_law_204 ?_
  refine Wk.aload_n X 0 rfl dL_law_205 rfl ?_
  refine Wk.iload X 4 rfl dL_law_206 ?_
  refine Wk.iconst (v := nI 2) X dL_law_208 (by decide) ?_
  refine Wk.iaddN X dL_law_209 ?_
  refine Wk.sld X hX hbl hbA (by omega) (by omega) dL_law_210 ?_
  refine Wk.aload_n X 0 rfl dL_law_211 rfl ?_
  refine Wk.iload X 4 rfl dL_law_212 ?_
  refine Wk.iconst (v := nI 3) X dL_law_214 (by decide) ?_
  refine Wk.iaddN X dL_law_215 ?_
  refine Wk.sld X hX hbl hbA (by omega) (by omega) dL_law_216 ?_
  refine Wk.callVi (n := 3) (q0 := 0) X (c_X4_feature l dC dI cI cJ cZ h _ _ _ _ _ _ _ _ _ _ _ _ _ _ _ _ _ _ _ _ _ _ _ _ _ (xs (i + 1)) (xs (i + 2)) (xs (i + 3)) hn) (gT gL_law_X4_feature) rfl (by decide +kernel) (by decide) FrC (fun _ => rfl) rfl rfl rfl rfl (Nat.le_of_ble_eq_true rfl) (by show _ ≤ 603072 ∧ _ ≤ 7211114; omega) dL_law_217 ?_
  refine Wk.aload_n X 2 rfl dL_law_220 rfl ?_
  refine Wk.aload_n X 0 rfl dL_law_221 rfl ?_
  refine Wk.iload X 4 rfl dL_law_222 ?_
  refine Wk.iconst (v := nI 1) X dL_law_224 (by decide) ?_
  refine Wk.iaddN X dL_law_225 ?_
  refine Wk.sld X hX hbl hbA (by omega) (by omega) dL_law_226 ?_
  refine Wk.aload_n X 0 rfl dL_law_227 rfl ?_
  refine Wk.iload X 4 rfl dL_law_228 ?_
  refine Wk.iconst (v := nI 2) X dL_law_230 (by decide) ?_
  refine Wk.iaddN X dL_law_231 ?_
  refine Wk.sld X hX hbl hbA (by omega) (by omega) dL_law_232 ?_
  refine Wk.aload_n X 0 rfl dL_law_233 rfl ?_
  refine Wk.iload X 4 rfl dL_law_234 ?_
  refine Wk.iconst (v := nI 3) X dL_law_236 (by decide) ?_
  refine Wk.iaddN X dL_law_237 ?_
  refine Wk.sld X hX hbl hbA (by omega) (by omega) dL_law_238 ?_
  refine Wk.callVi (n := 3) (q0 := 20) X (c_X5_feature l dC dI cI cJ cZ hm _ _ _ _ _ _ _ _ _ _ _ _ _ _ _ _ _ _ _ _ _ _ _ _ (xs (i + 1)) (xs (i + 2)) (xs (i + 3)) hn) (gT gL_law_X5_feature) rfl (by decide +kernel) (by decide) FrM (fun _ => rfl) rfl rfl rfl rfl (Nat.le_of_ble_eq_true rfl) (by show _ ≤ 603072 ∧ _ ≤ 7211114; omega) dL_law_239 ?_
  refine Wk.icmp_eq X 770 dL_law_242 (by decide) (fun _ => ?_) (fun h9 => absurd (ft_eq hn hN _ _ _).1.symm h9)
  exact Wk.wide (by omega) (by omega) (K ⟨hn, ht, hT, (ft_eq hn hN _ _ _).2, hF, hTr, hS⟩)

set_option maxHeartbeats 4000000 in
set_option maxRecDepth 100000 in
theorem law_c3 {p : Program} {l : Launch} {e : Env} {s : State} {m : MethodId} {args : Array Value} {below : List Frame} {meth : Method} {c : Code} {Q : State → Prop} {dC : Nat → ClassId} {dI : Nat → Nat → Nat} {cI cJ cZ : ClassId} {A : Nat → Prop} {b L : Nat} {xs : Nat → Int32} {h hm : Nat → Nat} {ho i q : Nat} {n : Nat} {li : Nat → Int32} {gr : Nat → Int32} {nb : Nat → Int32} {sc : Nat → Int64} {t : Nat} {ki : Nat → Int32} {fe : Nat → Int32} {lm : Nat → Int32} {si : Nat → Int32} {va : Nat → Int32} {he : Nat → Int32} {up : Nat → Int64} {lo : Nat → Int64} {pu : Nat → Int32} {pl : Nat → Int32} {gh : Nat} {gs : Int32} {bf : Bool} {b1 : Int32} {b2 : Int32} {b3 : Int32} {bu : Int64} {bl : Int64} {se : Nat → Int32} {th2 : Int32} {li2 : Nat → Int32} {gr2 : Nat → Int32} {nu2 : Nat → Int32} {hb2 : Nat → Bool} {se2 : Nat → Int32} {ki2 : Nat → Int32} {fe2 : Nat → Int32} {lm2 : Nat → Int32} {si2 : Nat → Int32} {va2 : Nat → Int32} {he2 : Nat → Int32} {up2 : Nat → Int64} {lo2 : Nat → Int64} {sc2 : Nat → Int64} {no2 : Nat → Int32} {pu2 : Nat → Int32} {b12 : Int32} {b22 : Int32} {b32 : Int32} {bu2 : Int64} {bl2 : Int64} {ou : Nat → Int64} (htr : l.stackTraces = false) (X : Cx p s m args c cL_law RL lw_tbl 7 (dC, dI) cl6 (TY cI cJ cZ) A true) (hX : va_X b L xs s s.heap) (hbl : b < s.heap.size) (hbA : ¬ A b) (hL : L ≤ 2048) (hi : i + 4 ≤ L) (hq : q ≤ 512) (hR : RR n t li gr nb ki fe lm si va he up lo se li2 gr2 nu2 hb2 se2 ki2 fe2 lm2 si2 va2 he2 up2 lo2) (K : Kon p l e s m args below meth c Q (dC, dI) A b h hm ho cI cJ cZ i q) : Wk p l e room_1 s m args below meth c (100 + q) (6000 + 8 * q) Q 7 (dC, dI) cl6 A 247 [(0, .ref b), (1, .ref (h 0)), (2, .ref (hm 0)), (3, .ref ho), (4, .int (nI i))] [] (Wg h hm ho cI cJ cZ n li gr nb sc t ki fe lm si va he up lo pu pl gh gs bf b1 b2 b3 bu bl se th2 n li2 gr2 nu2 hb2 se2 t ki2 fe2 lm2 si2 va2 he2 up2 lo2 sc2 no2 pu2 b12 b22 b32 bu2 bl2 ou) := by
  obtain ⟨hn, ht, hT, hN, hF, hTr, hS⟩ := id hR
  refine Wk.aload_n X 1 rfl dL_law_247 rfl ?_
  refine Wk.aload_n X 0 rfl dL_law_248 rfl ?_
  refine Wk.iload X 4 rfl dL_law_249 ?_
  refine Wk.iconst (v := nI 1) X dL_law_251 (by decide) ?_
  refine Wk.iaddN X dL_law_252 ?_
  refine Wk.sld X hX hbl hbA (by omega) (by omega) dL_law_253 ?_
  refine Wk.aload_n X 0 rfl dL_law_254 rfl ?_
  refine Wk.iload X 4 rfl dL_law_255 ?_
  refine Wk.iconst (v := nI 2) X dL_law_257 (by decide) ?_
  refine Wk.iaddN X dL_law_258 ?_
  refine Wk.sld X hX hbl hbA (by omega) (by omega) dL_law_259 ?_
  refine Wk.callVi (n := 2) (q0 := 0) X (c_X4_miss l dC dI cI cJ cZ h _ _ _ _ _ _ _ _ _ _ _ _ _ _ _ _ _ _ _ _ _ _ _ _ _ (xs (i + 1)) (xs (i + 2)) hn) (gT gL_law_X4_miss) rfl (by decide +kernel) (by decide) FrC (fun _ => rfl) rfl rfl rfl rfl (Nat.le_of_ble_eq_true rfl) (by show _ ≤ 603072 ∧ _ ≤ 7211114; omega) dL_law_260 ?_
  refine Wk.aload_n X 2 rfl dL_law_263 rfl ?_
  refine Wk.aload_n X 0 rfl dL_law_264 rfl ?_
  refine Wk.iload X 4 rfl dL_law_265 ?_
  refine Wk.iconst (v := nI 1) X dL_law_267 (by decide) ?_
  refine Wk.iaddN X dL_law_268 ?_
  refine Wk.sld X hX hbl hbA (by omega) (by omega) dL_law_269 ?_
  refine Wk.aload_n X 0 rfl dL_law_270 rfl ?_
  refine Wk.iload X 4 rfl dL_law_271 ?_
  refine Wk.iconst (v := nI 2) X dL_law_273 (by decide) ?_
  refine Wk.iaddN X dL_law_274 ?_
  refine Wk.sld X hX hbl hbA (by omega) (by omega) dL_law_275 ?_
  refine Wk.callVi (n := 2) (q0 := 20) X (c_X5_miss l dC dI cI cJ cZ hm _ _ _ _ _ _ _ _ _ _ _ _ _ _ _ _ _ _ _ _ _ _ _ _ (xs (i + 1)) (xs (i + 2)) hn) (gT gL_law_X5_miss) rfl (by decide +kernel) (by decide) FrM (fun _ => rfl) rfl rfl rfl rfl (Nat.le_of_ble_eq_true rfl) (by show _ ≤ 603072 ∧ _ ≤ 7211114; omega) dL_law_276 ?_
  refine Wk.icmp_eq X 770 dL_law_279 (by decide) (fun _ => ?_) (fun h9 => absurd (ms_eq hn hN _ _).1.symm h9)
  exact Wk.wide (by omega) (by omega) (K ⟨hn, ht, hT, (ms_eq hn hN _ _).2, hF, hTr, hS⟩)

set_option maxHeartbeats 4000000 in
set_option maxRecDepth 100000 in
theorem law_c5 {p : Program} {l : Launch} {e : Env} {s : State} {m : MethodId} {args : Array Value} {below : List Frame} {meth : Method} {c : Code} {Q : State → Prop} {dC : Nat → ClassId} {dI : Nat → Nat → Nat} {cI cJ cZ : ClassId} {A : Nat → Prop} {b L : Nat} {xs : Nat → Int32} {h hm : Nat → Nat} {ho i q : Nat} {n : Nat} {li : Nat → Int32} {gr : Nat → Int32} {nb : Nat → Int32} {sc : Nat → Int64} {t : Nat} {ki : Nat → Int32} {fe : Nat → Int32} {lm : Nat → Int32} {si : Nat → Int32} {va : Nat → Int32} {he : Nat → Int32} {up : Nat → Int64} {lo : Nat → Int64} {pu : Nat → Int32} {pl : Nat → Int32} {gh : Nat} {gs : Int32} {bf : Bool} {b1 : Int32} {b2 : Int32} {b3 : Int32} {bu : Int64} {bl : Int64} {se : Nat → Int32} {th2 : Int32} {li2 : Nat → Int32} {gr2 : Nat → Int32} {nu2 : Nat → Int32} {hb2 : Nat → Bool} {se2 : Nat → Int32} {ki2 : Nat → Int32} {fe2 : Nat → Int32} {lm2 : Nat → Int32} {si2 : Nat → Int32} {va2 : Nat → Int32} {he2 : Nat → Int32} {up2 : Nat → Int64} {lo2 : Nat → Int64} {sc2 : Nat → Int64} {no2 : Nat → Int32} {pu2 : Nat → Int32} {b12 : Int32} {b22 : Int32} {b32 : Int32} {bu2 : Int64} {bl2 : Int64} {ou : Nat → Int64} (htr : l.stackTraces = false) (X : Cx p s m args c cL_law RL lw_tbl 7 (dC, dI) cl6 (TY cI cJ cZ) A true) (hX : va_X b L xs s s.heap) (hbl : b < s.heap.size) (hbA : ¬ A b) (hL : L ≤ 2048) (hi : i + 4 ≤ L) (hq : q ≤ 512) (hR : RR n t li gr nb ki fe lm si va he up lo se li2 gr2 nu2 hb2 se2 ki2 fe2 lm2 si2 va2 he2 up2 lo2) (K : Kon p l e s m args below meth c Q (dC, dI) A b h hm ho cI cJ cZ i q) : Wk p l e room_1 s m args below meth c (100 + q) (6000 + 8 * q) Q 7 (dC, dI) cl6 A 352 [(0, .ref b), (1, .ref (h 0)), (2, .ref (hm 0)), (3, .ref ho), (4, .int (nI i))] [] (Wg h hm ho cI cJ cZ n li gr nb sc t ki fe lm si va he up lo pu pl gh gs bf b1 b2 b3 bu bl se th2 n li2 gr2 nu2 hb2 se2 t ki2 fe2 lm2 si2 va2 he2 up2 lo2 sc2 no2 pu2 b12 b22 b32 bu2 bl2 ou) := by
  obtain ⟨hn, ht, hT, hN, hF, hTr, hS⟩ := id hR
  refine Wk.aload_n X 1 rfl dL_law_352 rfl ?_
  refine Wk.aload_n X 0 rfl dL_law_353 rfl ?_
  refine Wk.iload X 4 rfl dL_law_354 ?_
  refine Wk.iconst (v := nI 1) X dL_law_356 (by decide) ?_
  refine Wk.iaddN X dL_law_357 ?_
  refine Wk.sld X hX hbl hbA (by omega) (by omega) dL_law_358 ?_
  refine Wk.aload_n X 0 rfl dL_law_359 rfl ?_
  refine Wk.iload X 4 rfl dL_law_360 ?_
  refine Wk.iconst (v := nI 2) X dL_law_362 (by decide) ?_
  refine Wk.iaddN X dL_law_363 ?_
  refine Wk.sld X hX hbl hbA (by omega) (by omega) dL_law_364 ?_
  refine Wk.callVi (n := 2) (q0 := 0) X (c_X4_setting l dC dI cI cJ cZ h _ _ _ _ _ _ _ _ _ _ _ _ _ _ _ _ _ _ _ _ _ _ _ _ _ (xs (i + 1)) (xs (i + 2)) ) (gT gL_law_X4_setting) rfl (by decide +kernel) (by decide) FrC (fun _ => rfl) rfl rfl rfl rfl (Nat.le_of_ble_eq_true rfl) (by show _ ≤ 603072 ∧ _ ≤ 7211114; omega) dL_law_365 ?_
  refine Wk.aload_n X 2 rfl dL_law_368 rfl ?_
  refine Wk.aload_n X 0 rfl dL_law_369 rfl ?_
  refine Wk.iload X 4 rfl dL_law_370 ?_
  refine Wk.iconst (v := nI 1) X dL_law_372 (by decide) ?_
  refine Wk.iaddN X dL_law_373 ?_
  refine Wk.sld X hX hbl hbA (by omega) (by omega) dL_law_374 ?_
  refine Wk.aload_n X 0 rfl dL_law_375 rfl ?_
  refine Wk.iload X 4 rfl dL_law_376 ?_
  refine Wk.iconst (v := nI 2) X dL_law_378 (by decide) ?_
  refine Wk.iaddN X dL_law_379 ?_
  refine Wk.sld X hX hbl hbA (by omega) (by omega) dL_law_380 ?_
  refine Wk.callVi (n := 2) (q0 := 20) X (c_X5_setting l dC dI cI cJ cZ hm _ _ _ _ _ _ _ _ _ _ _ _ _ _ _ _ _ _ _ _ _ _ _ _ (xs (i + 1)) (xs (i + 2)) ) (gT gL_law_X5_setting) rfl (by decide +kernel) (by decide) FrM (fun _ => rfl) rfl rfl rfl rfl (Nat.le_of_ble_eq_true rfl) (by show _ ≤ 603072 ∧ _ ≤ 7211114; omega) dL_law_381 ?_
  refine Wk.icmp_eq X 770 dL_law_384 (by decide) (fun _ => ?_) (fun h9 => absurd (st_eq hS _ _).symm h9)
  exact Wk.wide (by omega) (by omega) (K ⟨hn, ht, hT, hN, hF, hTr, hS.set _ _⟩)

set_option maxHeartbeats 4000000 in
set_option maxRecDepth 100000 in
theorem law_c7 {p : Program} {l : Launch} {e : Env} {s : State} {m : MethodId} {args : Array Value} {below : List Frame} {meth : Method} {c : Code} {Q : State → Prop} {dC : Nat → ClassId} {dI : Nat → Nat → Nat} {cI cJ cZ : ClassId} {A : Nat → Prop} {b L : Nat} {xs : Nat → Int32} {h hm : Nat → Nat} {ho i q : Nat} {n : Nat} {li : Nat → Int32} {gr : Nat → Int32} {nb : Nat → Int32} {sc : Nat → Int64} {t : Nat} {ki : Nat → Int32} {fe : Nat → Int32} {lm : Nat → Int32} {si : Nat → Int32} {va : Nat → Int32} {he : Nat → Int32} {up : Nat → Int64} {lo : Nat → Int64} {pu : Nat → Int32} {pl : Nat → Int32} {gh : Nat} {gs : Int32} {bf : Bool} {b1 : Int32} {b2 : Int32} {b3 : Int32} {bu : Int64} {bl : Int64} {se : Nat → Int32} {th2 : Int32} {li2 : Nat → Int32} {gr2 : Nat → Int32} {nu2 : Nat → Int32} {hb2 : Nat → Bool} {se2 : Nat → Int32} {ki2 : Nat → Int32} {fe2 : Nat → Int32} {lm2 : Nat → Int32} {si2 : Nat → Int32} {va2 : Nat → Int32} {he2 : Nat → Int32} {up2 : Nat → Int64} {lo2 : Nat → Int64} {sc2 : Nat → Int64} {no2 : Nat → Int32} {pu2 : Nat → Int32} {b12 : Int32} {b22 : Int32} {b32 : Int32} {bu2 : Int64} {bl2 : Int64} {ou : Nat → Int64} (htr : l.stackTraces = false) (X : Cx p s m args c cL_law RL lw_tbl 7 (dC, dI) cl6 (TY cI cJ cZ) A true) (hX : va_X b L xs s s.heap) (hbl : b < s.heap.size) (hbA : ¬ A b) (hL : L ≤ 2048) (hi : i + 4 ≤ L) (hq : q ≤ 512) (hR : RR n t li gr nb ki fe lm si va he up lo se li2 gr2 nu2 hb2 se2 ki2 fe2 lm2 si2 va2 he2 up2 lo2) (K : Kon p l e s m args below meth c Q (dC, dI) A b h hm ho cI cJ cZ i q) : Wk p l e room_1 s m args below meth c (100 + q) (6000 + 8 * q) Q 7 (dC, dI) cl6 A 402 [(0, .ref b), (1, .ref (h 0)), (2, .ref (hm 0)), (3, .ref ho), (4, .int (nI i))] [] (Wg h hm ho cI cJ cZ n li gr nb sc t ki fe lm si va he up lo pu pl gh gs bf b1 b2 b3 bu bl se th2 n li2 gr2 nu2 hb2 se2 t ki2 fe2 lm2 si2 va2 he2 up2 lo2 sc2 no2 pu2 b12 b22 b32 bu2 bl2 ou) := by
  obtain ⟨hn, ht, hT, hN, hF, hTr, hS⟩ := id hR
  refine Wk.aload_n X 1 rfl dL_law_402 rfl ?_
  refine Wk.callVi (n := 0) (q0 := 0) X (c_X4_cut l dC dI cI cJ cZ h _ _ _ _ _ _ _ _ _ _ _ _ _ _ _ _ _ _ _ _ _ _ _ _ _  ht) (gT gL_law_X4_cut) rfl (by decide +kernel) (by decide) FrC (fun _ => rfl) rfl rfl rfl rfl (Nat.le_of_ble_eq_true rfl) (by show _ ≤ 603072 ∧ _ ≤ 7211114; omega) dL_law_403 ?_
  refine Wk.aload_n X 2 rfl dL_law_406 rfl ?_
  refine Wk.callVi (n := 0) (q0 := 20) X (c_X5_cut l dC dI cI cJ cZ hm _ _ _ _ _ _ _ _ _ _ _ _ _ _ _ _ _ _ _ _ _ _ _ _  ht) (gT gL_law_X5_cut) rfl (by decide +kernel) (by decide) FrM (fun _ => rfl) rfl rfl rfl rfl (Nat.le_of_ble_eq_true rfl) (by show _ ≤ 603072 ∧ _ ≤ 7211114; omega) dL_law_407 ?_
  refine Wk.icmp_eq X 770 dL_law_410 (by decide) (fun _ => ?_) (fun h9 => absurd rfl h9)
  exact Wk.wide (by omega) (by omega) (K hR.cut)

set_option maxHeartbeats 4000000 in
set_option maxRecDepth 100000 in
theorem law_c8 {p : Program} {l : Launch} {e : Env} {s : State} {m : MethodId} {args : Array Value} {below : List Frame} {meth : Method} {c : Code} {Q : State → Prop} {dC : Nat → ClassId} {dI : Nat → Nat → Nat} {cI cJ cZ : ClassId} {A : Nat → Prop} {b L : Nat} {xs : Nat → Int32} {h hm : Nat → Nat} {ho i q : Nat} {n : Nat} {li : Nat → Int32} {gr : Nat → Int32} {nb : Nat → Int32} {sc : Nat → Int64} {t : Nat} {ki : Nat → Int32} {fe : Nat → Int32} {lm : Nat → Int32} {si : Nat → Int32} {va : Nat → Int32} {he : Nat → Int32} {up : Nat → Int64} {lo : Nat → Int64} {pu : Nat → Int32} {pl : Nat → Int32} {gh : Nat} {gs : Int32} {bf : Bool} {b1 : Int32} {b2 : Int32} {b3 : Int32} {bu : Int64} {bl : Int64} {se : Nat → Int32} {th2 : Int32} {li2 : Nat → Int32} {gr2 : Nat → Int32} {nu2 : Nat → Int32} {hb2 : Nat → Bool} {se2 : Nat → Int32} {ki2 : Nat → Int32} {fe2 : Nat → Int32} {lm2 : Nat → Int32} {si2 : Nat → Int32} {va2 : Nat → Int32} {he2 : Nat → Int32} {up2 : Nat → Int64} {lo2 : Nat → Int64} {sc2 : Nat → Int64} {no2 : Nat → Int32} {pu2 : Nat → Int32} {b12 : Int32} {b22 : Int32} {b32 : Int32} {bu2 : Int64} {bl2 : Int64} {ou : Nat → Int64} (htr : l.stackTraces = false) (X : Cx p s m args c cL_law RL lw_tbl 7 (dC, dI) cl6 (TY cI cJ cZ) A true) (hX : va_X b L xs s s.heap) (hbl : b < s.heap.size) (hbA : ¬ A b) (hL : L ≤ 2048) (hi : i + 4 ≤ L) (hq : q ≤ 512) (hR : RR n t li gr nb ki fe lm si va he up lo se li2 gr2 nu2 hb2 se2 ki2 fe2 lm2 si2 va2 he2 up2 lo2) (K : Kon p l e s m args below meth c Q (dC, dI) A b h hm ho cI cJ cZ i q) : Wk p l e room_1 s m args below meth c (100 + q) (6000 + 8 * q) Q 7 (dC, dI) cl6 A 415 [(0, .ref b), (1, .ref (h 0)), (2, .ref (hm 0)), (3, .ref ho), (4, .int (nI i))] [] (Wg h hm ho cI cJ cZ n li gr nb sc t ki fe lm si va he up lo pu pl gh gs bf b1 b2 b3 bu bl se th2 n li2 gr2 nu2 hb2 se2 t ki2 fe2 lm2 si2 va2 he2 up2 lo2 sc2 no2 pu2 b12 b22 b32 bu2 bl2 ou) := by
  obtain ⟨hn, ht, hT, hN, hF, hTr, hS⟩ := id hR
  refine Wk.aload_n X 1 rfl dL_law_415 rfl ?_
  refine Wk.aload_n X 0 rfl dL_law_416 rfl ?_
  refine Wk.iload X 4 rfl dL_law_417 ?_
  refine Wk.iconst (v := nI 1) X dL_law_419 (by decide) ?_
  refine Wk.iaddN X dL_law_420 ?_
  refine Wk.sld X hX hbl hbA (by omega) (by omega) dL_law_421 ?_
  refine Wk.aload_n X 0 rfl dL_law_422 rfl ?_
  refine Wk.iload X 4 rfl dL_law_423 ?_
  refine Wk.iconst (v := nI 2) X dL_law_425 (by decide) ?_
  refine Wk.iaddN X dL_law_426 ?_
  refine Wk.sld X hX hbl hbA (by omega) (by omega) dL_law_427 ?_
  refine Wk.aload_n X 0 rfl dL_law_428 rfl ?_
  refine Wk.iload X 4 rfl dL_law_429 ?_
  refine Wk.iconst (v := nI 3) X dL_law_431 (by decide) ?_
  refine Wk.iaddN X dL_law_432 ?_
  refine Wk.sld X hX hbl hbA (by omega) (by omega) dL_law_433 ?_
  refine Wk.callVi (n := 3) (q0 := 0) X (c_X4_node l dC dI cI cJ cZ h _ _ _ _ _ _ _ _ _ _ _ _ _ _ _ _ _ _ _ _ _ _ _ _ _ (xs (i + 1)) (xs (i + 2)) (xs (i + 3)) ht) (gT gL_law_X4_node) rfl (by decide +kernel) (by decide) FrC (fun _ => rfl) rfl rfl rfl rfl (Nat.le_of_ble_eq_true rfl) (by show _ ≤ 603072 ∧ _ ≤ 7211114; omega) dL_law_434 ?_
  refine Wk.aload_n X 2 rfl dL_law_437 rfl ?_
  refine Wk.aload_n X 0 rfl dL_law_438 rfl ?_
  refine Wk.iload X 4 rfl dL_law_439 ?_
  refine Wk.iconst (v := nI 1) X dL_law_441 (by decide) ?_
  refine Wk.iaddN X dL_law_442 ?_
  refine Wk.sld X hX hbl hbA (by omega) (by omega) dL_law_443 ?_
  refine Wk.aload_n X 0 rfl dL_law_444 rfl ?_
  refine Wk.iload X 4 rfl dL_law_445 ?_
  refine Wk.iconst (v := nI 2) X dL_law_447 (by decide) ?_
  refine Wk.iaddN X dL_law_448 ?_
  refine Wk.sld X hX hbl hbA (by omega) (by omega) dL_law_449 ?_
  refine Wk.aload_n X 0 rfl dL_law_450 rfl ?_
  refine Wk.iload X 4 rfl dL_law_451 ?_
  refine Wk.iconst (v := nI 3) X dL_law_453 (by decide) ?_
  refine Wk.iaddN X dL_law_454 ?_
  refine Wk.sld X hX hbl hbA (by omega) (by omega) dL_law_455 ?_
  refine Wk.callVi (n := 3) (q0 := 20) X (c_X5_node l dC dI cI cJ cZ hm _ _ _ _ _ _ _ _ _ _ _ _ _ _ _ _ _ _ _ _ _ _ _ _ (xs (i + 1)) (xs (i + 2)) (xs (i + 3)) ht) (gT gL_law_X5_node) rfl (by decide +kernel) (by decide) FrM (fun _ => rfl) rfl rfl rfl rfl (Nat.le_of_ble_eq_true rfl) (by show _ ≤ 603072 ∧ _ ≤ 7211114; omega) dL_law_456 ?_
  refine Wk.icmp_eq X 770 dL_law_459 (by decide) (fun _ => ?_) (fun h9 => absurd (nd_eq ht hF _ _ _).symm h9)
  exact Wk.wide (by omega) (by omega) (K hR)

set_option maxHeartbeats 4000000 in
set_option maxRecDepth 100000 in
theorem law_c9 {p : Program} {l : Launch} {e : Env} {s : State} {m : MethodId} {args : Array Value} {below : List Frame} {meth : Method} {c : Code} {Q : State → Prop} {dC : Nat → ClassId} {dI : Nat → Nat → Nat} {cI cJ cZ : ClassId} {A : Nat → Prop} {b L : Nat} {xs : Nat → Int32} {h hm : Nat → Nat} {ho i q : Nat} {n : Nat} {li : Nat → Int32} {gr : Nat → Int32} {nb : Nat → Int32} {sc : Nat → Int64} {t : Nat} {ki : Nat → Int32} {fe : Nat → Int32} {lm : Nat → Int32} {si : Nat → Int32} {va : Nat → Int32} {he : Nat → Int32} {up : Nat → Int64} {lo : Nat → Int64} {pu : Nat → Int32} {pl : Nat → Int32} {gh : Nat} {gs : Int32} {bf : Bool} {b1 : Int32} {b2 : Int32} {b3 : Int32} {bu : Int64} {bl : Int64} {se : Nat → Int32} {th2 : Int32} {li2 : Nat → Int32} {gr2 : Nat → Int32} {nu2 : Nat → Int32} {hb2 : Nat → Bool} {se2 : Nat → Int32} {ki2 : Nat → Int32} {fe2 : Nat → Int32} {lm2 : Nat → Int32} {si2 : Nat → Int32} {va2 : Nat → Int32} {he2 : Nat → Int32} {up2 : Nat → Int64} {lo2 : Nat → Int64} {sc2 : Nat → Int64} {no2 : Nat → Int32} {pu2 : Nat → Int32} {b12 : Int32} {b22 : Int32} {b32 : Int32} {bu2 : Int64} {bl2 : Int64} {ou : Nat → Int64} (htr : l.stackTraces = false) (X : Cx p s m args c cL_law RL lw_tbl 7 (dC, dI) cl6 (TY cI cJ cZ) A true) (hX : va_X b L xs s s.heap) (hbl : b < s.heap.size) (hbA : ¬ A b) (hL : L ≤ 2048) (hi : i + 4 ≤ L) (hq : q ≤ 512) (hR : RR n t li gr nb ki fe lm si va he up lo se li2 gr2 nu2 hb2 se2 ki2 fe2 lm2 si2 va2 he2 up2 lo2) (K : Kon p l e s m args below meth c Q (dC, dI) A b h hm ho cI cJ cZ i q) : Wk p l e room_1 s m args below meth c (100 + q) (6000 + 8 * q) Q 7 (dC, dI) cl6 A 464 [(0, .ref b), (1, .ref (h 0)), (2, .ref (hm 0)), (3, .ref ho), (4, .int (nI i))] [] (Wg h hm ho cI cJ cZ n li gr nb sc t ki fe lm si va he up lo pu pl gh gs bf b1 b2 b3 bu bl se th2 n li2 gr2 nu2 hb2 se2 t ki2 fe2 lm2 si2 va2 he2 up2 lo2 sc2 no2 pu2 b12 b22 b32 bu2 bl2 ou) := by
  obtain ⟨hn, ht, hT, hN, hF, hTr, hS⟩ := id hR
  refine Wk.aload_n X 1 rfl dL_law_464 rfl ?_
  refine Wk.aload_n X 0 rfl dL_law_465 rfl ?_
  refine Wk.iload X 4 rfl dL_law_466 ?_
  refine Wk.iconst (v := nI 1) X dL_law_468 (by decide) ?_
  refine Wk.iaddN X dL_law_469 ?_
  refine Wk.sld X hX hbl hbA (by omega) (by omega) dL_law_470 ?_
  refine Wk.aload_n X 0 rfl dL_law_471 rfl ?_
  refine Wk.iload X 4 rfl dL_law_472 ?_
  refine Wk.iconst (v := nI 2) X dL_law_474 (by decide) ?_
  refine Wk.iaddN X dL_law_475 ?_
  refine Wk.sld X hX hbl hbA (by omega) (by omega) dL_law_476 ?_
  refine Wk.aload_n X 0 rfl dL_law_477 rfl ?_
  refine Wk.iload X 4 rfl dL_law_478 ?_
  refine Wk.iconst (v := nI 3) X dL_law_480 (by decide) ?_
  refine Wk.iaddN X dL_law_481 ?_
  refine Wk.sld X hX hbl hbA (by omega) (by omega) dL_law_482 ?_
  refine Wk.callVl (n := 3) (q0 := 0) X (c_X4_gain l dC dI cI cJ cZ h _ _ _ _ _ _ _ _ _ _ _ _ _ _ _ _ _ _ _ _ _ _ _ _ _ (xs (i + 1)) (xs (i + 2)) (xs (i + 3)) ht) (gT gL_law_X4_gain) rfl (by decide +kernel) (by decide) FrC (fun _ => rfl) rfl rfl rfl rfl (Nat.le_of_ble_eq_true rfl) (by show _ ≤ 603072 ∧ _ ≤ 7211114; omega) dL_law_483 ?_
  refine Wk.aload_n X 2 rfl dL_law_486 rfl ?_
  refine Wk.aload_n X 0 rfl dL_law_487 rfl ?_
  refine Wk.iload X 4 rfl dL_law_488 ?_
  refine Wk.iconst (v := nI 1) X dL_law_490 (by decide) ?_
  refine Wk.iaddN X dL_law_491 ?_
  refine Wk.sld X hX hbl hbA (by omega) (by omega) dL_law_492 ?_
  refine Wk.aload_n X 0 rfl dL_law_493 rfl ?_
  refine Wk.iload X 4 rfl dL_law_494 ?_
  refine Wk.iconst (v := nI 2) X dL_law_496 (by decide) ?_
  refine Wk.iaddN X dL_law_497 ?_
  refine Wk.sld X hX hbl hbA (by omega) (by omega) dL_law_498 ?_
  refine Wk.aload_n X 0 rfl dL_law_499 rfl ?_
  refine Wk.iload X 4 rfl dL_law_500 ?_
  refine Wk.iconst (v := nI 3) X dL_law_502 (by decide) ?_
  refine Wk.iaddN X dL_law_503 ?_
  refine Wk.sld X hX hbl hbA (by omega) (by omega) dL_law_504 ?_
  refine Wk.callVl (n := 3) (q0 := 20) X (c_X5_gain l dC dI cI cJ cZ hm _ _ _ _ _ _ _ _ _ _ _ _ _ _ _ _ _ _ _ _ _ _ _ _ (xs (i + 1)) (xs (i + 2)) (xs (i + 3)) ht) (gT gL_law_X5_gain) rfl (by decide +kernel) (by decide) FrM (fun _ => rfl) rfl rfl rfl rfl (Nat.le_of_ble_eq_true rfl) (by show _ ≤ 603072 ∧ _ ≤ 7211114; omega) dL_law_505 ?_
  refine Wk.lcmp_eq X 770 dL_law_508 dL_law_509 (by decide) (fun _ => ?_) (fun h9 => absurd (gn_eq ht hF _ _ _).symm h9)
  exact Wk.wide (by omega) (by omega) (K hR)

set_option maxHeartbeats 4000000 in
set_option maxRecDepth 100000 in
theorem law_c10 {p : Program} {l : Launch} {e : Env} {s : State} {m : MethodId} {args : Array Value} {below : List Frame} {meth : Method} {c : Code} {Q : State → Prop} {dC : Nat → ClassId} {dI : Nat → Nat → Nat} {cI cJ cZ : ClassId} {A : Nat → Prop} {b L : Nat} {xs : Nat → Int32} {h hm : Nat → Nat} {ho i q : Nat} {n : Nat} {li : Nat → Int32} {gr : Nat → Int32} {nb : Nat → Int32} {sc : Nat → Int64} {t : Nat} {ki : Nat → Int32} {fe : Nat → Int32} {lm : Nat → Int32} {si : Nat → Int32} {va : Nat → Int32} {he : Nat → Int32} {up : Nat → Int64} {lo : Nat → Int64} {pu : Nat → Int32} {pl : Nat → Int32} {gh : Nat} {gs : Int32} {bf : Bool} {b1 : Int32} {b2 : Int32} {b3 : Int32} {bu : Int64} {bl : Int64} {se : Nat → Int32} {th2 : Int32} {li2 : Nat → Int32} {gr2 : Nat → Int32} {nu2 : Nat → Int32} {hb2 : Nat → Bool} {se2 : Nat → Int32} {ki2 : Nat → Int32} {fe2 : Nat → Int32} {lm2 : Nat → Int32} {si2 : Nat → Int32} {va2 : Nat → Int32} {he2 : Nat → Int32} {up2 : Nat → Int64} {lo2 : Nat → Int64} {sc2 : Nat → Int64} {no2 : Nat → Int32} {pu2 : Nat → Int32} {b12 : Int32} {b22 : Int32} {b32 : Int32} {bu2 : Int64} {bl2 : Int64} {ou : Nat → Int64} (htr : l.stackTraces = false) (X : Cx p s m args c cL_law RL lw_tbl 7 (dC, dI) cl6 (TY cI cJ cZ) A true) (hX : va_X b L xs s s.heap) (hbl : b < s.heap.size) (hbA : ¬ A b) (hL : L ≤ 2048) (hi : i + 4 ≤ L) (hq : q ≤ 512) (hR : RR n t li gr nb ki fe lm si va he up lo se li2 gr2 nu2 hb2 se2 ki2 fe2 lm2 si2 va2 he2 up2 lo2) (K : Kon p l e s m args below meth c Q (dC, dI) A b h hm ho cI cJ cZ i q) : Wk p l e room_1 s m args below meth c (100 + q) (6000 + 8 * q) Q 7 (dC, dI) cl6 A 514 [(0, .ref b), (1, .ref (h 0)), (2, .ref (hm 0)), (3, .ref ho), (4, .int (nI i))] [] (Wg h hm ho cI cJ cZ n li gr nb sc t ki fe lm si va he up lo pu pl gh gs bf b1 b2 b3 bu bl se th2 n li2 gr2 nu2 hb2 se2 t ki2 fe2 lm2 si2 va2 he2 up2 lo2 sc2 no2 pu2 b12 b22 b32 bu2 bl2 ou) := by
  obtain ⟨hn, ht, hT, hN, hF, hTr, hS⟩ := id hR
  refine Wk.aload_n X 1 rfl dL_law_514 rfl ?_
  refine Wk.aload_n X 0 rfl dL_law_515 rfl ?_
  refine Wk.iload X 4 rfl dL_law_516 ?_
  refine Wk.iconst (v := nI 1) X dL_law_518 (by decide) ?_
  refine Wk.iaddN X dL_law_519 ?_
  refine Wk.sld X hX hbl hbA (by omega) (by omega) dL_law_520 ?_
  refine Wk.callVl (n := 1) (q0 := 0) X (c_X4_score l dC dI cI cJ cZ h _ _ _ _ _ _ _ _ _ _ _ _ _ _ _ _ _ _ _ _ _ _ _ _ _ (xs (i + 1)) hn ht hR.hfe) (gT gL_law_X4_score) rfl (by decide +kernel) (by decide) FrC (fun _ => rfl) rfl rfl rfl rfl (Nat.le_of_ble_eq_true rfl) (by show _ ≤ 603072 ∧ _ ≤ 7211114; omega) dL_law_521 ?_
  refine Wk.aload_n X 2 rfl dL_law_524 rfl ?_
  refine Wk.aload_n X 0 rfl dL_law_525 rfl ?_
  refine Wk.iload X 4 rfl dL_law_526 ?_
  refine Wk.iconst (v := nI 1) X dL_law_528 (by decide) ?_
  refine Wk.iaddN X dL_law_529 ?_
  refine Wk.sld X hX hbl hbA (by omega) (by omega) dL_law_530 ?_
  refine Wk.callVl (n := 1) (q0 := 20) X (c_X5_score_ l dC dI cI cJ cZ hm _ _ _ _ _ _ _ _ _ _ _ _ _ _ _ _ _ _ _ _ _ _ _ _ (xs (i + 1)) hn ht hR.hfe2 hR.hcu2) (gT gL_law_X5_score_) rfl (by decide +kernel) (by decide) FrM (fun _ => rfl) rfl rfl rfl rfl (Nat.le_of_ble_eq_true rfl) (by show _ ≤ 603072 ∧ _ ≤ 7211114; omega) dL_law_531 ?_
  refine Wk.lcmp_eq X 770 dL_law_534 dL_law_535 (by decide) (fun _ => ?_) (fun h9 => absurd (sco_eq hn hN hF hTr _).symm h9)
  exact Wk.wide (by omega) (by omega) (K hR)

set_option maxHeartbeats 4000000 in
set_option maxRecDepth 100000 in
theorem law_c11 {p : Program} {l : Launch} {e : Env} {s : State} {m : MethodId} {args : Array Value} {below : List Frame} {meth : Method} {c : Code} {Q : State → Prop} {dC : Nat → ClassId} {dI : Nat → Nat → Nat} {cI cJ cZ : ClassId} {A : Nat → Prop} {b L : Nat} {xs : Nat → Int32} {h hm : Nat → Nat} {ho i q : Nat} {n : Nat} {li : Nat → Int32} {gr : Nat → Int32} {nb : Nat → Int32} {sc : Nat → Int64} {t : Nat} {ki : Nat → Int32} {fe : Nat → Int32} {lm : Nat → Int32} {si : Nat → Int32} {va : Nat → Int32} {he : Nat → Int32} {up : Nat → Int64} {lo : Nat → Int64} {pu : Nat → Int32} {pl : Nat → Int32} {gh : Nat} {gs : Int32} {bf : Bool} {b1 : Int32} {b2 : Int32} {b3 : Int32} {bu : Int64} {bl : Int64} {se : Nat → Int32} {th2 : Int32} {li2 : Nat → Int32} {gr2 : Nat → Int32} {nu2 : Nat → Int32} {hb2 : Nat → Bool} {se2 : Nat → Int32} {ki2 : Nat → Int32} {fe2 : Nat → Int32} {lm2 : Nat → Int32} {si2 : Nat → Int32} {va2 : Nat → Int32} {he2 : Nat → Int32} {up2 : Nat → Int64} {lo2 : Nat → Int64} {sc2 : Nat → Int64} {no2 : Nat → Int32} {pu2 : Nat → Int32} {b12 : Int32} {b22 : Int32} {b32 : Int32} {bu2 : Int64} {bl2 : Int64} {ou : Nat → Int64} (htr : l.stackTraces = false) (X : Cx p s m args c cL_law RL lw_tbl 7 (dC, dI) cl6 (TY cI cJ cZ) A true) (hX : va_X b L xs s s.heap) (hbl : b < s.heap.size) (hbA : ¬ A b) (hL : L ≤ 2048) (hi : i + 4 ≤ L) (hq : q ≤ 512) (hR : RR n t li gr nb ki fe lm si va he up lo se li2 gr2 nu2 hb2 se2 ki2 fe2 lm2 si2 va2 he2 up2 lo2) (K : Kon p l e s m args below meth c Q (dC, dI) A b h hm ho cI cJ cZ i q) : Wk p l e room_1 s m args below meth c (100 + q) (6000 + 8 * q) Q 7 (dC, dI) cl6 A 540 [(0, .ref b), (1, .ref (h 0)), (2, .ref (hm 0)), (3, .ref ho), (4, .int (nI i))] [] (Wg h hm ho cI cJ cZ n li gr nb sc t ki fe lm si va he up lo pu pl gh gs bf b1 b2 b3 bu bl se th2 n li2 gr2 nu2 hb2 se2 t ki2 fe2 lm2 si2 va2 he2 up2 lo2 sc2 no2 pu2 b12 b22 b32 bu2 bl2 ou) := by
  obtain ⟨hn, ht, hT, hN, hF, hTr, hS⟩ := id hR
  refine Wk.aload_n X 1 rfl dL_law_540 rfl ?_
  refine Wk.aload_n X 0 rfl dL_law_541 rfl ?_
  refine Wk.iload X 4 rfl dL_law_542 ?_
  refine Wk.iconst (v := nI 1) X dL_law_544 (by decide) ?_
  refine Wk.iaddN X dL_law_545 ?_
  refine Wk.sld X hX hbl hbA (by omega) (by omega) dL_law_546 ?_
  refine Wk.aload_n X 0 rfl dL_law_547 rfl ?_
  refine Wk.iload X 4 rfl dL_law_548 ?_
  refine Wk.iconst (v := nI 2) X dL_law_550 (by decide) ?_
  refine Wk.iaddN X dL_law_551 ?_
  refine Wk.sld X hX hbl hbA (by omega) (by omega) dL_law_552 ?_
  refine Wk.callVi (n := 2) (q0 := 0) X (c_X4_value l dC dI cI cJ cZ h _ _ _ _ _ _ _ _ _ _ _ _ _ _ _ _ _ _ _ _ _ _ _ _ _ (xs (i + 1)) (xs (i + 2)) hn ht hR.hfe) (gT gL_law_X4_value) rfl (by decide +kernel) (by decide) FrC (fun _ => rfl) rfl rfl rfl rfl (Nat.le_of_ble_eq_true rfl) (by show _ ≤ 603072 ∧ _ ≤ 7211114; omega) dL_law_553 ?_
  refine Wk.aload_n X 2 rfl dL_law_556 rfl ?_
  refine Wk.aload_n X 0 rfl dL_law_557 rfl ?_
  refine Wk.iload X 4 rfl dL_law_558 ?_
  refine Wk.iconst (v := nI 1) X dL_law_560 (by decide) ?_
  refine Wk.iaddN X dL_law_561 ?_
  refine Wk.sld X hX hbl hbA (by omega) (by omega) dL_law_562 ?_
  refine Wk.aload_n X 0 rfl dL_law_563 rfl ?_
  refine Wk.iload X 4 rfl dL_law_564 ?_
  refine Wk.iconst (v := nI 2) X dL_law_566 (by decide) ?_
  refine Wk.iaddN X dL_law_567 ?_
  refine Wk.sld X hX hbl hbA (by omega) (by omega) dL_law_568 ?_
  refine Wk.callVi (n := 2) (q0 := 20) X (c_X5_value l dC dI cI cJ cZ hm _ _ _ _ _ _ _ _ _ _ _ _ _ _ _ _ _ _ _ _ _ _ _ _ (xs (i + 1)) (xs (i + 2)) hn ht hR.hfe2 hR.hcu2) (gT gL_law_X5_value) rfl (by decide +kernel) (by decide) FrM (fun _ => rfl) rfl rfl rfl rfl (Nat.le_of_ble_eq_true rfl) (by show _ ≤ 603072 ∧ _ ≤ 7211114; omega) dL_law_569 ?_
  refine Wk.icmp_eq X 770 dL_law_572 (by decide) (fun _ => ?_) (fun h9 => absurd (val_eq hn ht hN hF hTr _ _).symm h9)
  exact Wk.wide (by omega) (by omega) (K hR)

set_option maxHeartbeats 4000000 in
set_option maxRecDepth 100000 in
theorem law_c12 {p : Program} {l : Launch} {e : Env} {s : State} {m : MethodId} {args : Array Value} {below : List Frame} {meth : Method} {c : Code} {Q : State → Prop} {dC : Nat → ClassId} {dI : Nat → Nat → Nat} {cI cJ cZ : ClassId} {A : Nat → Prop} {b L : Nat} {xs : Nat → Int32} {h hm : Nat → Nat} {ho i q : Nat} {n : Nat} {li : Nat → Int32} {gr : Nat → Int32} {nb : Nat → Int32} {sc : Nat → Int64} {t : Nat} {ki : Nat → Int32} {fe : Nat → Int32} {lm : Nat → Int32} {si : Nat → Int32} {va : Nat → Int32} {he : Nat → Int32} {up : Nat → Int64} {lo : Nat → Int64} {pu : Nat → Int32} {pl : Nat → Int32} {gh : Nat} {gs : Int32} {bf : Bool} {b1 : Int32} {b2 : Int32} {b3 : Int32} {bu : Int64} {bl : Int64} {se : Nat → Int32} {th2 : Int32} {li2 : Nat → Int32} {gr2 : Nat → Int32} {nu2 : Nat → Int32} {hb2 : Nat → Bool} {se2 : Nat → Int32} {ki2 : Nat → Int32} {fe2 : Nat → Int32} {lm2 : Nat → Int32} {si2 : Nat → Int32} {va2 : Nat → Int32} {he2 : Nat → Int32} {up2 : Nat → Int64} {lo2 : Nat → Int64} {sc2 : Nat → Int64} {no2 : Nat → Int32} {pu2 : Nat → Int32} {b12 : Int32} {b22 : Int32} {b32 : Int32} {bu2 : Int64} {bl2 : Int64} {ou : Nat → Int64} (htr : l.stackTraces = false) (X : Cx p s m args c cL_law RL lw_tbl 7 (dC, dI) cl6 (TY cI cJ cZ) A true) (hX : va_X b L xs s s.heap) (hbl : b < s.heap.size) (hbA : ¬ A b) (hL : L ≤ 2048) (hi : i + 4 ≤ L) (hq : q ≤ 512) (hR : RR n t li gr nb ki fe lm si va he up lo se li2 gr2 nu2 hb2 se2 ki2 fe2 lm2 si2 va2 he2 up2 lo2) (K : Kon p l e s m args below meth c Q (dC, dI) A b h hm ho cI cJ cZ i q) : Wk p l e room_1 s m args below meth c (100 + q) (6000 + 8 * q) Q 7 (dC, dI) cl6 A 577 [(0, .ref b), (1, .ref (h 0)), (2, .ref (hm 0)), (3, .ref ho), (4, .int (nI i))] [] (Wg h hm ho cI cJ cZ n li gr nb sc t ki fe lm si va he up lo pu pl gh gs bf b1 b2 b3 bu bl se th2 n li2 gr2 nu2 hb2 se2 t ki2 fe2 lm2 si2 va2 he2 up2 lo2 sc2 no2 pu2 b12 b22 b32 bu2 bl2 ou) := by
  obtain ⟨hn, ht, hT, hN, hF, hTr, hS⟩ := id hR
  refine Wk.aload_n X 1 rfl dL_law_577 rfl ?_
  refine Wk.aload_n X 0 rfl dL_law_578 rfl ?_
  refine Wk.iload X 4 rfl dL_law_579 ?_
  refine Wk.iconst (v := nI 1) X dL_law_581 (by decide) ?_
  refine Wk.iaddN X dL_law_582 ?_
  refine Wk.sld X hX hbl hbA (by omega) (by omega) dL_law_583 ?_
  refine Wk.callVi (n := 1) (q0 := 0) X (c_X4_push l dC dI cI cJ cZ h _ _ _ _ _ _ _ _ _ _ _ _ _ _ _ _ _ _ _ _ _ _ _ _ _ (xs (i + 1)) hn ht hR.hfe) (gT gL_law_X4_push) rfl (by decide +kernel) (by decide) FrC (fun _ => rfl) rfl rfl rfl rfl (Nat.le_of_ble_eq_true rfl) (by show _ ≤ 603072 ∧ _ ≤ 7211114; omega) dL_law_584 ?_
  refine Wk.aload_n X 2 rfl dL_law_587 rfl ?_
  refine Wk.aload_n X 0 rfl dL_law_588 rfl ?_
  refine Wk.iload X 4 rfl dL_law_589 ?_
  refine Wk.iconst (v := nI 1) X dL_law_591 (by decide) ?_
  refine Wk.iaddN X dL_law_592 ?_
  refine Wk.sld X hX hbl hbA (by omega) (by omega) dL_law_593 ?_
  refine Wk.callVi (n := 1) (q0 := 20) X (c_X5_push l dC dI cI cJ cZ hm _ _ _ _ _ _ _ _ _ _ _ _ _ _ _ _ _ _ _ _ _ _ _ _ (xs (i + 1)) hn ht hR.hfe2 hR.hcu2) (gT gL_law_X5_push) rfl (by decide +kernel) (by decide) FrM (fun _ => rfl) rfl rfl rfl rfl (Nat.le_of_ble_eq_true rfl) (by show _ ≤ 603072 ∧ _ ≤ 7211114; omega) dL_law_594 ?_
  refine Wk.icmp_eq X 770 dL_law_597 (by decide) (fun _ => ?_) (fun h9 => absurd (hR.push _ _ _).symm h9)
  exact Wk.wide (by omega) (by omega) (K hR)

set_option maxHeartbeats 4000000 in
set_option maxRecDepth 100000 in
theorem law_c13 {p : Program} {l : Launch} {e : Env} {s : State} {m : MethodId} {args : Array Value} {below : List Frame} {meth : Method} {c : Code} {Q : State → Prop} {dC : Nat → ClassId} {dI : Nat → Nat → Nat} {cI cJ cZ : ClassId} {A : Nat → Prop} {b L : Nat} {xs : Nat → Int32} {h hm : Nat → Nat} {ho i q : Nat} {n : Nat} {li : Nat → Int32} {gr : Nat → Int32} {nb : Nat → Int32} {sc : Nat → Int64} {t : Nat} {ki : Nat → Int32} {fe : Nat → Int32} {lm : Nat → Int32} {si : Nat → Int32} {va : Nat → Int32} {he : Nat → Int32} {up : Nat → Int64} {lo : Nat → Int64} {pu : Nat → Int32} {pl : Nat → Int32} {gh : Nat} {gs : Int32} {bf : Bool} {b1 : Int32} {b2 : Int32} {b3 : Int32} {bu : Int64} {bl : Int64} {se : Nat → Int32} {th2 : Int32} {li2 : Nat → Int32} {gr2 : Nat → Int32} {nu2 : Nat → Int32} {hb2 : Nat → Bool} {se2 : Nat → Int32} {ki2 : Nat → Int32} {fe2 : Nat → Int32} {lm2 : Nat → Int32} {si2 : Nat → Int32} {va2 : Nat → Int32} {he2 : Nat → Int32} {up2 : Nat → Int64} {lo2 : Nat → Int64} {sc2 : Nat → Int64} {no2 : Nat → Int32} {pu2 : Nat → Int32} {b12 : Int32} {b22 : Int32} {b32 : Int32} {bu2 : Int64} {bl2 : Int64} {ou : Nat → Int64} (htr : l.stackTraces = false) (X : Cx p s m args c cL_law RL lw_tbl 7 (dC, dI) cl6 (TY cI cJ cZ) A true) (hX : va_X b L xs s s.heap) (hbl : b < s.heap.size) (hbA : ¬ A b) (hL : L ≤ 2048) (hi : i + 4 ≤ L) (hq : q ≤ 512) (hR : RR n t li gr nb ki fe lm si va he up lo se li2 gr2 nu2 hb2 se2 ki2 fe2 lm2 si2 va2 he2 up2 lo2) (K : Kon p l e s m args below meth c Q (dC, dI) A b h hm ho cI cJ cZ i q) : Wk p l e room_1 s m args below meth c (100 + q) (6000 + 8 * q) Q 7 (dC, dI) cl6 A 602 [(0, .ref b), (1, .ref (h 0)), (2, .ref (hm 0)), (3, .ref ho), (4, .int (nI i))] [] (Wg h hm ho cI cJ cZ n li gr nb sc t ki fe lm si va he up lo pu pl gh gs bf b1 b2 b3 bu bl se th2 n li2 gr2 nu2 hb2 se2 t ki2 fe2 lm2 si2 va2 he2 up2 lo2 sc2 no2 pu2 b12 b22 b32 bu2 bl2 ou) := by
  obtain ⟨hn, ht, hT, hN, hF, hTr, hS⟩ := id hR
  refine Wk.aload_n X 1 rfl dL_law_602 rfl ?_
  refine Wk.aload_n X 0 rfl dL_law_603 rfl ?_
  refine Wk.iload X 4 rfl dL_law_604 ?_
  refine Wk.iconst (v := nI 1) X dL_law_606 (by decide) ?_
  refine Wk.iaddN X dL_law_607 ?_
  refine Wk.sld X hX hbl hbA (by omega) (by omega) dL_law_608 ?_
  refine Wk.aload_n X 0 rfl dL_law_609 rfl ?_
  refine Wk.iload X 4 rfl dL_law_610 ?_
  refine Wk.iconst (v := nI 2) X dL_law_612 (by decide) ?_
  refine Wk.iaddN X dL_law_613 ?_
  refine Wk.sld X hX hbl hbA (by omega) (by omega) dL_law_614 ?_
  refine Wk.callVi (n := 2) (q0 := 0) X (c_X4_ranked l dC dI cI cJ cZ h _ _ _ _ _ _ _ _ _ _ _ _ _ _ _ _ _ _ _ _ _ _ _ _ _ (xs (i + 1)) (xs (i + 2)) hn ht hR.hfe) (gT gL_law_X4_ranked) rfl (by decide +kernel) (by decide) FrC (fun _ => rfl) rfl rfl rfl rfl (Nat.le_of_ble_eq_true rfl) (by show _ ≤ 603072 ∧ _ ≤ 7211114; omega) dL_law_615 ?_
  refine Wk.aload_n X 2 rfl dL_law_618 rfl ?_
  refine Wk.aload_n X 0 rfl dL_law_619 rfl ?_
  refine Wk.iload X 4 rfl dL_law_620 ?_
  refine Wk.iconst (v := nI 1) X dL_law_622 (by decide) ?_
  refine Wk.iaddN X dL_law_623 ?_
  refine Wk.sld X hX hbl hbA (by omega) (by omega) dL_law_624 ?_
  refine Wk.aload_n X 0 rfl dL_law_625 rfl ?_
  refine Wk.iload X 4 rfl dL_law_626 ?_
  refine Wk.iconst (v := nI 2) X dL_law_628 (by decide) ?_
  refine Wk.iaddN X dL_law_629 ?_
  refine Wk.sld X hX hbl hbA (by omega) (by omega) dL_law_630 ?_
  refine Wk.callVi (n := 2) (q0 := 20) X (c_X5_ranked l dC dI cI cJ cZ hm _ _ _ _ _ _ _ _ _ _ _ _ _ _ _ _ _ _ _ _ _ _ _ _ (xs (i + 1)) (xs (i + 2)) hn ht hR.hfe2 hR.hcu2) (gT gL_law_X5_ranked) rfl (by decide +kernel) (by decide) FrM (fun _ => rfl) rfl rfl rfl rfl (Nat.le_of_ble_eq_true rfl) (by show _ ≤ 603072 ∧ _ ≤ 7211114; omega) dL_law_631 ?_
  refine Wk.icmp_eq X 770 dL_law_634 (by decide) (fun _ => ?_) (fun h9 => absurd (hR.ranked _ _ _ _).symm h9)
  exact Wk.wide (by omega) (by omega) (K hR)

set_option maxHeartbeats 4000000 in
set_option maxRecDepth 100000 in
theorem law_c14 {p : Program} {l : Launch} {e : Env} {s : State} {m : MethodId} {args : Array Value} {below : List Frame} {meth : Method} {c : Code} {Q : State → Prop} {dC : Nat → ClassId} {dI : Nat → Nat → Nat} {cI cJ cZ : ClassId} {A : Nat → Prop} {b L : Nat} {xs : Nat → Int32} {h hm : Nat → Nat} {ho i q : Nat} {n : Nat} {li : Nat → Int32} {gr : Nat → Int32} {nb : Nat → Int32} {sc : Nat → Int64} {t : Nat} {ki : Nat → Int32} {fe : Nat → Int32} {lm : Nat → Int32} {si : Nat → Int32} {va : Nat → Int32} {he : Nat → Int32} {up : Nat → Int64} {lo : Nat → Int64} {pu : Nat → Int32} {pl : Nat → Int32} {gh : Nat} {gs : Int32} {bf : Bool} {b1 : Int32} {b2 : Int32} {b3 : Int32} {bu : Int64} {bl : Int64} {se : Nat → Int32} {th2 : Int32} {li2 : Nat → Int32} {gr2 : Nat → Int32} {nu2 : Nat → Int32} {hb2 : Nat → Bool} {se2 : Nat → Int32} {ki2 : Nat → Int32} {fe2 : Nat → Int32} {lm2 : Nat → Int32} {si2 : Nat → Int32} {va2 : Nat → Int32} {he2 : Nat → Int32} {up2 : Nat → Int64} {lo2 : Nat → Int64} {sc2 : Nat → Int64} {no2 : Nat → Int32} {pu2 : Nat → Int32} {b12 : Int32} {b22 : Int32} {b32 : Int32} {bu2 : Int64} {bl2 : Int64} {ou : Nat → Int64} (htr : l.stackTraces = false) (X : Cx p s m args c cL_law RL lw_tbl 7 (dC, dI) cl6 (TY cI cJ cZ) A true) (hX : va_X b L xs s s.heap) (hbl : b < s.heap.size) (hbA : ¬ A b) (hL : L ≤ 2048) (hi : i + 4 ≤ L) (hq : q ≤ 512) (hR : RR n t li gr nb ki fe lm si va he up lo se li2 gr2 nu2 hb2 se2 ki2 fe2 lm2 si2 va2 he2 up2 lo2) (K : Kon p l e s m args below meth c Q (dC, dI) A b h hm ho cI cJ cZ i q) : Wk p l e room_1 s m args below meth c (100 + q) (6000 + 8 * q) Q 7 (dC, dI) cl6 A 639 [(0, .ref b), (1, .ref (h 0)), (2, .ref (hm 0)), (3, .ref ho), (4, .int (nI i))] [] (Wg h hm ho cI cJ cZ n li gr nb sc t ki fe lm si va he up lo pu pl gh gs bf b1 b2 b3 bu bl se th2 n li2 gr2 nu2 hb2 se2 t ki2 fe2 lm2 si2 va2 he2 up2 lo2 sc2 no2 pu2 b12 b22 b32 bu2 bl2 ou) := by
  obtain ⟨hn, ht, hT, hN, hF, hTr, hS⟩ := id hR
  refine Wk.aload_n X 1 rfl dL_law_639 rfl ?_
  refine Wk.aload_n X 0 rfl dL_law_640 rfl ?_
  refine Wk.iload X 4 rfl dL_law_641 ?_
  refine Wk.iconst (v := nI 1) X dL_law_643 (by decide) ?_
  refine Wk.iaddN X dL_law_644 ?_
  refine Wk.sld X hX hbl hbA (by omega) (by omega) dL_law_645 ?_
  refine Wk.aload_n X 0 rfl dL_law_646 rfl ?_
  refine Wk.iload X 4 rfl dL_law_647 ?_
  refine Wk.iconst (v := nI 2) X dL_law_649 (by decide) ?_
  refine Wk.iaddN X dL_law_650 ?_
  refine Wk.sld X hX hbl hbA (by omega) (by omega) dL_law_651 ?_
  refine Wk.callVi (n := 2) (q0 := 0) X (c_X4_pairs l dC dI cI cJ cZ h _ _ _ _ _ _ _ _ _ _ _ _ _ _ _ _ _ _ _ _ _ _ _ _ _ (xs (i + 1)) (xs (i + 2)) hn ht hR.hfe) (gT gL_law_X4_pairs) rfl (by decide +kernel) (by decide) FrC (fun _ => rfl) rfl rfl rfl rfl (Nat.le_of_ble_eq_true rfl) (by show _ ≤ 603072 ∧ _ ≤ 7211114; omega) dL_law_652 ?_
  refine Wk.aload_n X 2 rfl dL_law_655 rfl ?_
  refine Wk.aload_n X 0 rfl dL_law_656 rfl ?_
  refine Wk.iload X 4 rfl dL_law_657 ?_
  refine Wk.iconst (v := nI 1) X dL_law_659 (by decide) ?_
  refine Wk.iaddN X dL_law_660 ?_
  refine Wk.sld X hX hbl hbA (by omega) (by omega) dL_law_661 ?_
  refine Wk.aload_n X 0 rfl dL_law_662 rfl ?_
  refine Wk.iload X 4 rfl dL_law_663 ?_
  refine Wk.iconst (v := nI 2) X dL_law_665 (by decide) ?_
  refine Wk.iaddN X dL_law_666 ?_
  refine Wk.sld X hX hbl hbA (by omega) (by omega) dL_law_667 ?_
  refine Wk.callVi (n := 2) (q0 := 20) X (c_X5_pairs l dC dI cI cJ cZ hm _ _ _ _ _ _ _ _ _ _ _ _ _ _ _ _ _ _ _ _ _ _ _ _ (xs (i + 1)) (xs (i + 2)) hn ht hR.hfe2 hR.hcu2) (gT gL_law_X5_pairs) rfl (by decide +kernel) (by decide) FrM (fun _ => rfl) rfl rfl rfl rfl (Nat.le_of_ble_eq_true rfl) (by show _ ≤ 603072 ∧ _ ≤ 7211114; omega) dL_law_668 ?_
  refine Wk.icmp_eq X 770 dL_law_671 (by decide) (fun _ => ?_) (fun h9 => absurd (hR.pairs _ _ _ _).symm h9)
  exact Wk.wide (by omega) (by omega) (K hR)

set_option maxHeartbeats 4000000 in
set_option maxRecDepth 100000 in
theorem law_c16 {p : Program} {l : Launch} {e : Env} {s : State} {m : MethodId} {args : Array Value} {below : List Frame} {meth : Method} {c : Code} {Q : State → Prop} {dC : Nat → ClassId} {dI : Nat → Nat → Nat} {cI cJ cZ : ClassId} {A : Nat → Prop} {b L : Nat} {xs : Nat → Int32} {h hm : Nat → Nat} {ho i q : Nat} {n : Nat} {li : Nat → Int32} {gr : Nat → Int32} {nb : Nat → Int32} {sc : Nat → Int64} {t : Nat} {ki : Nat → Int32} {fe : Nat → Int32} {lm : Nat → Int32} {si : Nat → Int32} {va : Nat → Int32} {he : Nat → Int32} {up : Nat → Int64} {lo : Nat → Int64} {pu : Nat → Int32} {pl : Nat → Int32} {gh : Nat} {gs : Int32} {bf : Bool} {b1 : Int32} {b2 : Int32} {b3 : Int32} {bu : Int64} {bl : Int64} {se : Nat → Int32} {th2 : Int32} {li2 : Nat → Int32} {gr2 : Nat → Int32} {nu2 : Nat → Int32} {hb2 : Nat → Bool} {se2 : Nat → Int32} {ki2 : Nat → Int32} {fe2 : Nat → Int32} {lm2 : Nat → Int32} {si2 : Nat → Int32} {va2 : Nat → Int32} {he2 : Nat → Int32} {up2 : Nat → Int64} {lo2 : Nat → Int64} {sc2 : Nat → Int64} {no2 : Nat → Int32} {pu2 : Nat → Int32} {b12 : Int32} {b22 : Int32} {b32 : Int32} {bu2 : Int64} {bl2 : Int64} {ou : Nat → Int64} (htr : l.stackTraces = false) (X : Cx p s m args c cL_law RL lw_tbl 7 (dC, dI) cl6 (TY cI cJ cZ) A true) (hX : va_X b L xs s s.heap) (hbl : b < s.heap.size) (hbA : ¬ A b) (hL : L ≤ 2048) (hi : i + 4 ≤ L) (hq : q ≤ 512) (hR : RR n t li gr nb ki fe lm si va he up lo se li2 gr2 nu2 hb2 se2 ki2 fe2 lm2 si2 va2 he2 up2 lo2) (K : Kon p l e s m args below meth c Q (dC, dI) A b h hm ho cI cJ cZ i q) : Wk p l e room_1 s m args below meth c (100 + q) (6000 + 8 * q) Q 7 (dC, dI) cl6 A 732 [(0, .ref b), (1, .ref (h 0)), (2, .ref (hm 0)), (3, .ref ho), (4, .int (nI i))] [] (Wg h hm ho cI cJ cZ n li gr nb sc t ki fe lm si va he up lo pu pl gh gs bf b1 b2 b3 bu bl se th2 n li2 gr2 nu2 hb2 se2 t ki2 fe2 lm2 si2 va2 he2 up2 lo2 sc2 no2 pu2 b12 b22 b32 bu2 bl2 ou) := by
  obtain ⟨hn, ht, hT, hN, hF, hTr, hS⟩ := id hR
  refine Wk.aload_n X 1 rfl dL_law_732 rfl ?_
  refine Wk.aload_n X 0 rfl dL_law_733 rfl ?_
  refine Wk.iload X 4 rfl dL_law_734 ?_
  refine Wk.iconst (v := nI 1) X dL_law_736 (by decide) ?_
  refine Wk.iaddN X dL_law_737 ?_
  refine Wk.sld X hX hbl hbA (by omega) (by omega) dL_law_738 ?_
  refine Wk.callVi (n := 1) (q0 := 0) X (c_X4_about l dC dI cI cJ cZ h _ _ _ _ _ _ _ _ _ _ _ _ _ _ _ _ _ _ _ _ _ _ _ _ _ (xs (i + 1)) ht) (gT gL_law_X4_about) rfl (by decide +kernel) (by decide) FrC (fun _ => rfl) rfl rfl rfl rfl (Nat.le_of_ble_eq_true rfl) (by show _ ≤ 603072 ∧ _ ≤ 7211114; omega) dL_law_739 ?_
  refine Wk.aload_n X 2 rfl dL_law_742 rfl ?_
  refine Wk.aload_n X 0 rfl dL_law_743 rfl ?_
  refine Wk.iload X 4 rfl dL_law_744 ?_
  refine Wk.iconst (v := nI 1) X dL_law_746 (by decide) ?_
  refine Wk.iaddN X dL_law_747 ?_
  refine Wk.sld X hX hbl hbA (by omega) (by omega) dL_law_748 ?_
  refine Wk.callVi (n := 1) (q0 := 20) X (c_X5_about l dC dI cI cJ cZ hm _ _ _ _ _ _ _ _ _ _ _ _ _ _ _ _ _ _ _ _ _ _ _ _ (xs (i + 1)) ht) (gT gL_law_X5_about) rfl (by decide +kernel) (by decide) FrM (fun _ => rfl) rfl rfl rfl rfl (Nat.le_of_ble_eq_true rfl) (by show _ ≤ 603072 ∧ _ ≤ 7211114; omega) dL_law_749 ?_
  refine Wk.icmp_eq X 770 dL_law_752 (by decide) (fun _ => ?_) (fun h9 => absurd (ab_eq n hF _).symm h9)
  exact Wk.wide (by omega) (by omega) (K hR)

set_option maxHeartbeats 4000000 in
set_option maxRecDepth 100000 in
theorem law_c17 {p : Program} {l : Launch} {e : Env} {s : State} {m : MethodId} {args : Array Value} {below : List Frame} {meth : Method} {c : Code} {Q : State → Prop} {dC : Nat → ClassId} {dI : Nat → Nat → Nat} {cI cJ cZ : ClassId} {A : Nat → Prop} {b L : Nat} {xs : Nat → Int32} {h hm : Nat → Nat} {ho i q : Nat} {n : Nat} {li : Nat → Int32} {gr : Nat → Int32} {nb : Nat → Int32} {sc : Nat → Int64} {t : Nat} {ki : Nat → Int32} {fe : Nat → Int32} {lm : Nat → Int32} {si : Nat → Int32} {va : Nat → Int32} {he : Nat → Int32} {up : Nat → Int64} {lo : Nat → Int64} {pu : Nat → Int32} {pl : Nat → Int32} {gh : Nat} {gs : Int32} {bf : Bool} {b1 : Int32} {b2 : Int32} {b3 : Int32} {bu : Int64} {bl : Int64} {se : Nat → Int32} {th2 : Int32} {li2 : Nat → Int32} {gr2 : Nat → Int32} {nu2 : Nat → Int32} {hb2 : Nat → Bool} {se2 : Nat → Int32} {ki2 : Nat → Int32} {fe2 : Nat → Int32} {lm2 : Nat → Int32} {si2 : Nat → Int32} {va2 : Nat → Int32} {he2 : Nat → Int32} {up2 : Nat → Int64} {lo2 : Nat → Int64} {sc2 : Nat → Int64} {no2 : Nat → Int32} {pu2 : Nat → Int32} {b12 : Int32} {b22 : Int32} {b32 : Int32} {bu2 : Int64} {bl2 : Int64} {ou : Nat → Int64} (htr : l.stackTraces = false) (X : Cx p s m args c cL_law RL lw_tbl 7 (dC, dI) cl6 (TY cI cJ cZ) A true) (hX : va_X b L xs s s.heap) (hbl : b < s.heap.size) (hbA : ¬ A b) (hL : L ≤ 2048) (hi : i + 4 ≤ L) (hq : q ≤ 512) (hR : RR n t li gr nb ki fe lm si va he up lo se li2 gr2 nu2 hb2 se2 ki2 fe2 lm2 si2 va2 he2 up2 lo2) (K : Kon p l e s m args below meth c Q (dC, dI) A b h hm ho cI cJ cZ i q) : Wk p l e room_1 s m args below meth c (100 + q) (6000 + 8 * q) Q 7 (dC, dI) cl6 A 757 [(0, .ref b), (1, .ref (h 0)), (2, .ref (hm 0)), (3, .ref ho), (4, .int (nI i))] [] (Wg h hm ho cI cJ cZ n li gr nb sc t ki fe lm si va he up lo pu pl gh gs bf b1 b2 b3 bu bl se th2 n li2 gr2 nu2 hb2 se2 t ki2 fe2 lm2 si2 va2 he2 up2 lo2 sc2 no2 pu2 b12 b22 b32 bu2 bl2 ou) := by
  obtain ⟨hn, ht, hT, hN, hF, hTr, hS⟩ := id hR
  refine Wk.aload_n X 1 rfl dL_law_757 rfl ?_
  refine Wk.callVi (n := 0) (q0 := 0) X (c_X4_clear l dC dI cI cJ cZ h _ _ _ _ _ _ _ _ _ _ _ _ _ _ _ _ _ _ _ _ _ _ _ _ _  ) (gT gL_law_X4_clear) rfl (by decide +kernel) (by decide) FrC (fun _ => rfl) rfl rfl rfl rfl (Nat.le_of_ble_eq_true rfl) (by show _ ≤ 603072 ∧ _ ≤ 7211114; omega) dL_law_758 ?_
  refine Wk.aload_n X 2 rfl dL_law_761 rfl ?_
  refine Wk.callVi (n := 0) (q0 := 20) X (c_X5_clear l dC dI cI cJ cZ hm _ _ _ _ _ _ _ _ _ _ _ _ _ _ _ _ _ _ _ _ _ _ _ _  ) (gT gL_law_X5_clear) rfl (by decide +kernel) (by decide) FrM (fun _ => rfl) rfl rfl rfl rfl (Nat.le_of_ble_eq_true rfl) (by show _ ≤ 603072 ∧ _ ≤ 7211114; omega) dL_law_762 ?_
  refine Wk.icmp_eq X 770 dL_law_765 (by decide) (fun _ => ?_) (fun h9 => absurd rfl h9)
  exact Wk.wide (by omega) (by omega) (K ⟨by omega, by omega, RTh.zero _ _ _ _, RNu.clear _ _ _, fun j hj => absurd hj (by omega), fun tr h9 => absurd h9 (by omega), RSe.first _ _⟩)

set_option maxHeartbeats 4000000 in
set_option maxRecDepth 100000 in
theorem law_c6 {p : Program} {l : Launch} {e : Env} {s : State} {m : MethodId} {args : Array Value} {below : List Frame} {meth : Method} {c : Code} {Q : State → Prop} {dC : Nat → ClassId} {dI : Nat → Nat → Nat} {cI cJ cZ : ClassId} {A : Nat → Prop} {b L : Nat} {xs : Nat → Int32} {h hm : Nat → Nat} {ho i q : Nat} {n : Nat} {li : Nat → Int32} {gr : Nat → Int32} {nb : Nat → Int32} {sc : Nat → Int64} {t : Nat} {ki : Nat → Int32} {fe : Nat → Int32} {lm : Nat → Int32} {si : Nat → Int32} {va : Nat → Int32} {he : Nat → Int32} {up : Nat → Int64} {lo : Nat → Int64} {pu : Nat → Int32} {pl : Nat → Int32} {gh : Nat} {gs : Int32} {bf : Bool} {b1 : Int32} {b2 : Int32} {b3 : Int32} {bu : Int64} {bl : Int64} {se : Nat → Int32} {th2 : Int32} {li2 : Nat → Int32} {gr2 : Nat → Int32} {nu2 : Nat → Int32} {hb2 : Nat → Bool} {se2 : Nat → Int32} {ki2 : Nat → Int32} {fe2 : Nat → Int32} {lm2 : Nat → Int32} {si2 : Nat → Int32} {va2 : Nat → Int32} {he2 : Nat → Int32} {up2 : Nat → Int64} {lo2 : Nat → Int64} {sc2 : Nat → Int64} {no2 : Nat → Int32} {pu2 : Nat → Int32} {b12 : Int32} {b22 : Int32} {b32 : Int32} {bu2 : Int64} {bl2 : Int64} {ou : Nat → Int64} (htr : l.stackTraces = false) (X : Cx p s m args c cL_law RL lw_tbl 7 (dC, dI) cl6 (TY cI cJ cZ) A true) (hX : va_X b L xs s s.heap) (hbl : b < s.heap.size) (hbA : ¬ A b) (hL : L ≤ 2048) (hi : i + 4 ≤ L) (hq : q ≤ 512) (hR : RR n t li gr nb ki fe lm si va he up lo se li2 gr2 nu2 hb2 se2 ki2 fe2 lm2 si2 va2 he2 up2 lo2) (K : Kon p l e s m args below meth c Q (dC, dI) A b h hm ho cI cJ cZ i q) : Wk p l e room_1 s m args below meth c (100 + q) (6000 + 8 * q) Q 7 (dC, dI) cl6 A 389 [(0, .ref b), (1, .ref (h 0)), (2, .ref (hm 0)), (3, .ref ho), (4, .int (nI i))] [] (Wg h hm ho cI cJ cZ n li gr nb sc t ki fe lm si va he up lo pu pl gh gs bf b1 b2 b3 bu bl se th2 n li2 gr2 nu2 hb2 se2 t ki2 fe2 lm2 si2 va2 he2 up2 lo2 sc2 no2 pu2 b12 b22 b32 bu2 bl2 ou) := by
  obtain ⟨hn, ht, hT, hN, hF, hTr, hS⟩ := id hR
  by_cases hg : t = 20
  · skip
    refine Wk.aload_n X 1 rfl dL_law_389 rfl ?_
    refine Wk.callVi (n := 0) (q0 := 0) X (c_X4_grow_full l dC dI cI cJ cZ h _ _ _ _ _ _ _ _ _ _ _ _ _ _ _ _ _ _ _ _ _ _ _ _ _  hn hg) (gT gL_law_X4_grow) rfl (by decide +kernel) (by decide) FrC (fun _ => rfl) rfl rfl rfl rfl (Nat.le_of_ble_eq_true rfl) (by show _ ≤ 603072 ∧ _ ≤ 7211114; omega) dL_law_390 ?_
    refine Wk.aload_n X 2 rfl dL_law_393 rfl ?_
    refine Wk.callVi (n := 0) (q0 := 20) X (c_X5_grow_full l dC dI cI cJ cZ hm _ _ _ _ _ _ _ _ _ _ _ _ _ _ _ _ _ _ _ _ _ _ _ _  hn hg) (gT gL_law_X5_grow) rfl (by decide +kernel) (by decide) FrM (fun _ => rfl) rfl rfl rfl rfl (Nat.le_of_ble_eq_true rfl) (by show _ ≤ 603072 ∧ _ ≤ 7211114; omega) dL_law_394 ?_
    refine Wk.icmp_eq X 770 dL_law_397 (by decide) (fun _ => ?_) (fun h9 => absurd rfl h9)
    exact Wk.wide (by omega) (by omega) (K hR)
  · by_cases hz : n = 0
    · skip
      refine Wk.aload_n X 1 rfl dL_law_389 rfl ?_
      refine Wk.callVi (n := 0) (q0 := 0) X (c_X4_grow_state l dC dI cI cJ cZ h _ _ _ _ _ _ _ _ _ _ _ _ _ _ _ _ _ _ _ _ _ _ _ _ _  hn (by omega) hz) (gT gL_law_X4_grow) rfl (by decide +kernel) (by decide) FrC (fun _ => rfl) rfl rfl rfl rfl (Nat.le_of_ble_eq_true rfl) (by show _ ≤ 603072 ∧ _ ≤ 7211114; omega) dL_law_390 ?_
      refine Wk.aload_n X 2 rfl dL_law_393 rfl ?_
      refine Wk.callVi (n := 0) (q0 := 20) X (c_X5_grow_state l dC dI cI cJ cZ hm _ _ _ _ _ _ _ _ _ _ _ _ _ _ _ _ _ _ _ _ _ _ _ _  hn (by omega) hz) (gT gL_law_X5_grow) rfl (by decide +kernel) (by decide) FrM (fun _ => rfl) rfl rfl rfl rfl (Nat.le_of_ble_eq_true rfl) (by show _ ≤ 603072 ∧ _ ≤ 7211114; omega) dL_law_394 ?_
      refine Wk.icmp_eq X 770 dL_law_397 (by decide) (fun _ => ?_) (fun h9 => absurd rfl h9)
      exact Wk.wide (by omega) (by omega) (K hR)
    · skip
      obtain ⟨g1, g2, g3⟩ := grow_eq (pl := pl) (no := no2) (pu := pu) (pu' := pu2) (bf, b1, b2, b3, bu, bl) (b12, b22, b32, bu2, bl2) hn (by omega) hT hN hF hTr hS (scs_eq hn hN hF hTr sc sc2)
      refine Wk.aload_n X 1 rfl dL_law_389 rfl ?_
      refine Wk.callVi (n := 0) (q0 := 0) X (c_X4_grow_ok l dC dI cI cJ cZ h _ _ _ _ _ _ _ _ _ _ _ _ _ _ _ _ _ _ _ _ _ _ _ _ _  hn (by omega) (by omega) hR.hfe) (gT gL_law_X4_grow) rfl (by decide +kernel) (by decide) FrC (fun _ => rfl) rfl rfl rfl rfl (Nat.le_of_ble_eq_true rfl) (by show _ ≤ 603072 ∧ _ ≤ 7211114; omega) dL_law_390 ?_
      refine Wk.aload_n X 2 rfl dL_law_393 rfl ?_
      refine Wk.callVi (n := 0) (q0 := 20) X (c_X5_grow_ok l dC dI cI cJ cZ hm _ _ _ _ _ _ _ _ _ _ _ _ _ _ _ _ _ _ _ _ _ _ _ _  hn (by omega) (by omega) hR.hfe2 hR.hcu2 g2) (gT gL_law_X5_grow) rfl (by decide +kernel) (by decide) FrM (fun _ => rfl) rfl rfl rfl rfl (Nat.le_of_ble_eq_true rfl) (by show _ ≤ 603072 ∧ _ ≤ 7211114; omega) dL_law_394 ?_
      refine Wk.icmp_eq X 770 dL_law_397 (by decide) (fun _ => ?_) (fun h9 => absurd (by rw [show (t + 1) * 15 - t * 15 = 15 by omega, g3]) h9)
      exact Wk.wide (by omega) (by omega) (K ⟨hn, by omega, hT, hN, g1.fo, g1.tr hTr, hS⟩)

set_option maxHeartbeats 4000000 in
set_option maxRecDepth 100000 in
theorem law_c4 {p : Program} {l : Launch} {e : Env} {s : State} {m : MethodId} {args : Array Value} {below : List Frame} {meth : Method} {c : Code} {Q : State → Prop} {dC : Nat → ClassId} {dI : Nat → Nat → Nat} {cI cJ cZ : ClassId} {A : Nat → Prop} {b L : Nat} {xs : Nat → Int32} {h hm : Nat → Nat} {ho i q : Nat} {n : Nat} {li : Nat → Int32} {gr : Nat → Int32} {nb : Nat → Int32} {sc : Nat → Int64} {t : Nat} {ki : Nat → Int32} {fe : Nat → Int32} {lm : Nat → Int32} {si : Nat → Int32} {va : Nat → Int32} {he : Nat → Int32} {up : Nat → Int64} {lo : Nat → Int64} {pu : Nat → Int32} {pl : Nat → Int32} {gh : Nat} {gs : Int32} {bf : Bool} {b1 : Int32} {b2 : Int32} {b3 : Int32} {bu : Int64} {bl : Int64} {se : Nat → Int32} {th2 : Int32} {li2 : Nat → Int32} {gr2 : Nat → Int32} {nu2 : Nat → Int32} {hb2 : Nat → Bool} {se2 : Nat → Int32} {ki2 : Nat → Int32} {fe2 : Nat → Int32} {lm2 : Nat → Int32} {si2 : Nat → Int32} {va2 : Nat → Int32} {he2 : Nat → Int32} {up2 : Nat → Int64} {lo2 : Nat → Int64} {sc2 : Nat → Int64} {no2 : Nat → Int32} {pu2 : Nat → Int32} {b12 : Int32} {b22 : Int32} {b32 : Int32} {bu2 : Int64} {bl2 : Int64} {ou : Nat → Int64} (htr : l.stackTraces = false) (X : Cx p s m args c cL_law RL lw_tbl 7 (dC, dI) cl6 (TY cI cJ cZ) A true) (hX : va_X b L xs s s.heap) (hbl : b < s.heap.size) (hbA : ¬ A b) (hL : L ≤ 2048) (hi : i + 4 ≤ L) (hq : q ≤ 512) (hR : RR n t li gr nb ki fe lm si va he up lo se li2 gr2 nu2 hb2 se2 ki2 fe2 lm2 si2 va2 he2 up2 lo2) (K : Kon p l e s m args below meth c Q (dC, dI) A b h hm ho cI cJ cZ i q) : Wk p l e room_1 s m args below meth c (100 + q) (6000 + 8 * q) Q 7 (dC, dI) cl6 A 284 [(0, .ref b), (1, .ref (h 0)), (2, .ref (hm 0)), (3, .ref ho), (4, .int (nI i))] [] (Wg h hm ho cI cJ cZ n li gr nb sc t ki fe lm si va he up lo pu pl gh gs bf b1 b2 b3 bu bl se th2 n li2 gr2 nu2 hb2 se2 t ki2 fe2 lm2 si2 va2 he2 up2 lo2 sc2 no2 pu2 b12 b22 b32 bu2 bl2 ou) := by
  obtain ⟨hn, ht, hT, hN, hF, hTr, hS⟩ := id hR
  have htd := td_eq hn hN (xs (i + 1)) (xs (i + 2))
  rcases tdC_3 (xs (i + 1)) (xs (i + 2)) n nb with hcs | hcs | hcs
  · rw [hcs] at htd
    refine Wk.aload_n X 1 rfl dL_law_284 rfl ?_
    refine Wk.aload_n X 0 rfl dL_law_285 rfl ?_
    refine Wk.iload X 4 rfl dL_law_286 ?_
    refine Wk.iconst (v := nI 1) X dL_law_288 (by decide) ?_
    refine Wk.iaddN X dL_law_289 ?_
    refine Wk.sld X hX hbl hbA (by omega) (by omega) dL_law_290 ?_
    refine Wk.aload_n X 0 rfl dL_law_291 rfl ?_
    refine Wk.iload X 4 rfl dL_law_292 ?_
    refine Wk.iconst (v := nI 2) X dL_law_294 (by decide) ?_
    refine Wk.iaddN X dL_law_295 ?_
    refine Wk.sld X hX hbl hbA (by omega) (by omega) dL_law_296 ?_
    refine Wk.aload_n X 3 rfl dL_law_297 rfl ?_
    refine Wk.callSj (n := 4) X (c_L_told_ok l dC dI cI cJ cZ h ho _ _ _ _ _ _ _ _ _ _ _ _ _ _ _ _ _ _ _ _ _ _ _ _ _ _ (xs (i + 1)) (xs (i + 2)) hn hcs) gqL_law_L_told rfl (by decide +kernel) (by decide) FrL (fun _ => rfl) rfl rfl (Nat.le_of_ble_eq_true rfl) (by show _ ≤ 603072 ∧ _ ≤ 7211114; omega) dL_law_298 ?_
    refine Wk.istore (lv' := [(5, .int (nI 0)), (0, .ref b), (1, .ref (h 0)), (2, .ref (hm 0)), (3, .ref ho), (4, .int (nI i))]) X dL_law_301 (by decide) rfl ?_
    refine Wk.aload_n X 3 rfl dL_law_303 rfl ?_
    refine Wk.aload_n X 1 rfl dL_law_304 rfl ?_
    refine Wk.iload X 5 rfl dL_law_305 ?_
    refine Wk.iconst (v := nI 1) X dL_law_307 (by decide) ?_
    refine Wk.iaddN X dL_law_308 ?_
    refine Wk.sld X hX hbl hbA (by omega) (by omega) dL_law_309 ?_
    refine Wk.aload_n X 1 rfl dL_law_310 rfl ?_
    refine Wk.iload X 5 rfl dL_law_311 ?_
    refine Wk.iconst (v := nI 2) X dL_law_313 (by decide) ?_
    refine Wk.iaddN X dL_law_314 ?_
    refine Wk.sld X hX hbl hbA (by omega) (by omega) dL_law_315 ?_
    refine Wk.callVi (n := 2) (q0 := 20) X (c_X5_told l dC dI cI cJ cZ hm _ _ _ _ _ _ _ _ _ _ _ _ _ _ _ _ _ _ _ _ _ _ _ _ (xs (i + 1)) (xs (i + 2)) hn) (gT gL_law_X5_told) rfl (by decide +kernel) (by decide) FrM (fun _ => rfl) rfl rfl rfl rfl (Nat.le_of_ble_eq_true rfl) (by show _ ≤ 603072 ∧ _ ≤ 7211114; omega) dL_law_316 ?_
    refine Wk.istore (lv' := (6, .int _) :: [(5, .int (nI 0)), (0, .ref b), (1, .ref (h 0)), (2, .ref (hm 0)), (3, .ref ho), (4, .int (nI i))]) X dL_law_319 (by decide) rfl ?_
    refine Wk.aload_n X 4 rfl dL_law_321 rfl ?_
    refine Wk.callVi (n := 0) (q0 := 20) X (c_X5_thrown l dC dI cI cJ cZ hm _ _ _ _ _ _ _ _ _ _ _ _ _ _ _ _ _ _ _ _ _ _ _ _  ) (gT gL_law_X5_thrown) rfl (by decide +kernel) (by decide) FrM (fun _ => rfl) rfl rfl rfl rfl (Nat.le_of_ble_eq_true rfl) (by show _ ≤ 603072 ∧ _ ≤ 7211114; omega) dL_law_322 ?_
    refine Wk.iload X 1 rfl dL_law_325 ?_
    refine Wk.icmp_eq X 332 dL_law_327 (by decide) (fun _ => ?_) (fun h9 => absurd htd.1 h9)
    refine Wk.iload X 1 rfl dL_law_332 ?_
    refine Wk.if_ne X 349 dL_law_334 (by decide) (fun c9 => ?_) (fun c9 => ?_)
    · exact absurd (by decide) c9
    · skip
      refine Wk.aload_n X 5 rfl dL_law_337 rfl ?_
      refine Wk.iconst (v := nI 0) X dL_law_338 (by decide) ?_
      refine Wk.lald X 37 1 rfl rfl (by decide) (by decide) dL_law_339 ?_
      refine Wk.iload X 0 rfl dL_law_340 ?_
      refine Wk.i2l X dL_law_342 ?_
      refine Wk.lcmp_eq X 349 dL_law_343 dL_law_344 (by decide) (fun _ => ?_) (fun h9 => absurd (by rw [if_pos htd.1, htd.2 rfl]; rfl) h9)
      refine Wk.goto X 770 dL_law_349 (by decide) ?_
      refine Wk.lvs (lv' := [(0, .ref b), (1, .ref (h 0)), (2, .ref (hm 0)), (3, .ref ho), (4, .int (nI i))]) [2, 3, 4, 5, 6] rfl ?_
      exact Wk.wide (by omega) (by omega) (K hR)
  · rw [hcs] at htd
    refine Wk.aload_n X 1 rfl dL_law_284 rfl ?_
    refine Wk.aload_n X 0 rfl dL_law_285 rfl ?_
    refine Wk.iload X 4 rfl dL_law_286 ?_
    refine Wk.iconst (v := nI 1) X dL_law_288 (by decide) ?_
    refine Wk.iaddN X dL_law_289 ?_
    refine Wk.sld X hX hbl hbA (by omega) (by omega) dL_law_290 ?_
    refine Wk.aload_n X 0 rfl dL_law_291 rfl ?_
    refine Wk.iload X 4 rfl dL_law_292 ?_
    refine Wk.iconst (v := nI 2) X dL_law_294 (by decide) ?_
    refine Wk.iaddN X dL_law_295 ?_
    refine Wk.sld X hX hbl hbA (by omega) (by omega) dL_law_296 ?_
    refine Wk.aload_n X 3 rfl dL_law_297 rfl ?_
    refine Wk.callSj (n := 4) X (c_L_told_np l dC dI cI cJ cZ h ho _ _ _ _ _ _ _ _ _ _ _ _ _ _ _ _ _ _ _ _ _ _ _ _ _ _ (xs (i + 1)) (xs (i + 2)) hn hcs htr) gqL_law_L_told rfl (by decide +kernel) (by decide) FrL (fun _ => rfl) rfl rfl (Nat.le_of_ble_eq_true rfl) (by show _ ≤ 603072 ∧ _ ≤ 7211114; omega) dL_law_298 ?_
    refine Wk.istore (lv' := [(5, .int (nI 1)), (0, .ref b), (1, .ref (h 0)), (2, .ref (hm 0)), (3, .ref ho), (4, .int (nI i))]) X dL_law_301 (by decide) rfl ?_
    refine Wk.aload_n X 3 rfl dL_law_303 rfl ?_
    refine Wk.aload_n X 1 rfl dL_law_304 rfl ?_
    refine Wk.iload X 5 rfl dL_law_305 ?_
    refine Wk.iconst (v := nI 1) X dL_law_307 (by decide) ?_
    refine Wk.iaddN X dL_law_308 ?_
    refine Wk.sld X hX hbl hbA (by omega) (by omega) dL_law_309 ?_
    refine Wk.aload_n X 1 rfl dL_law_310 rfl ?_
    refine Wk.iload X 5 rfl dL_law_311 ?_
    refine Wk.iconst (v := nI 2) X dL_law_313 (by decide) ?_
    refine Wk.iaddN X dL_law_314 ?_
    refine Wk.sld X hX hbl hbA (by omega) (by omega) dL_law_315 ?_
    refine Wk.callVi (n := 2) (q0 := 20) X (c_X5_told l dC dI cI cJ cZ hm _ _ _ _ _ _ _ _ _ _ _ _ _ _ _ _ _ _ _ _ _ _ _ _ (xs (i + 1)) (xs (i + 2)) hn) (gT gL_law_X5_told) rfl (by decide +kernel) (by decide) FrM (fun _ => rfl) rfl rfl rfl rfl (Nat.le_of_ble_eq_true rfl) (by show _ ≤ 603072 ∧ _ ≤ 7211114; omega) dL_law_316 ?_
    refine Wk.istore (lv' := (6, .int _) :: [(5, .int (nI 1)), (0, .ref b), (1, .ref (h 0)), (2, .ref (hm 0)), (3, .ref ho), (4, .int (nI i))]) X dL_law_319 (by decide) rfl ?_
    refine Wk.aload_n X 4 rfl dL_law_321 rfl ?_
    refine Wk.callVi (n := 0) (q0 := 20) X (c_X5_thrown l dC dI cI cJ cZ hm _ _ _ _ _ _ _ _ _ _ _ _ _ _ _ _ _ _ _ _ _ _ _ _  ) (gT gL_law_X5_thrown) rfl (by decide +kernel) (by decide) FrM (fun _ => rfl) rfl rfl rfl rfl (Nat.le_of_ble_eq_true rfl) (by show _ ≤ 603072 ∧ _ ≤ 7211114; omega) dL_law_322 ?_
    refine Wk.iload X 1 rfl dL_law_325 ?_
    refine Wk.icmp_eq X 332 dL_law_327 (by decide) (fun _ => ?_) (fun h9 => absurd htd.1 h9)
    refine Wk.iload X 1 rfl dL_law_332 ?_
    refine Wk.if_ne X 349 dL_law_334 (by decide) (fun c9 => ?_) (fun c9 => ?_)
    · skip
      refine Wk.goto X 770 dL_law_349 (by decide) ?_
      refine Wk.lvs (lv' := [(0, .ref b), (1, .ref (h 0)), (2, .ref (hm 0)), (3, .ref ho), (4, .int (nI i))]) [2, 3, 4, 5, 6] rfl ?_
      exact Wk.wide (by omega) (by omega) (K hR)
    · exact absurd c9 (by decide)
  · rw [hcs] at htd
    refine Wk.aload_n X 1 rfl dL_law_284 rfl ?_
    refine Wk.aload_n X 0 rfl dL_law_285 rfl ?_
    refine Wk.iload X 4 rfl dL_law_286 ?_
    refine Wk.iconst (v := nI 1) X dL_law_288 (by decide) ?_
    refine Wk.iaddN X dL_law_289 ?_
    refine Wk.sld X hX hbl hbA (by omega) (by omega) dL_law_290 ?_
    refine Wk.aload_n X 0 rfl dL_law_291 rfl ?_
    refine Wk.iload X 4 rfl dL_law_292 ?_
    refine Wk.iconst (v := nI 2) X dL_law_294 (by decide) ?_
    refine Wk.iaddN X dL_law_295 ?_
    refine Wk.sld X hX hbl hbA (by omega) (by omega) dL_law_296 ?_
    refine Wk.aload_n X 3 rfl dL_law_297 rfl ?_
    refine Wk.callSj (n := 4) X (c_L_told_ai l dC dI cI cJ cZ h ho _ _ _ _ _ _ _ _ _ _ _ _ _ _ _ _ _ _ _ _ _ _ _ _ _ _ (xs (i + 1)) (xs (i + 2)) hn hcs htr) gqL_law_L_told rfl (by decide +kernel) (by decide) FrL (fun _ => rfl) rfl rfl (Nat.le_of_ble_eq_true rfl) (by show _ ≤ 603072 ∧ _ ≤ 7211114; omega) dL_law_298 ?_
    refine Wk.istore (lv' := [(5, .int (nI 2)), (0, .ref b), (1, .ref (h 0)), (2, .ref (hm 0)), (3, .ref ho), (4, .int (nI i))]) X dL_law_301 (by decide) rfl ?_
    refine Wk.aload_n X 3 rfl dL_law_303 rfl ?_
    refine Wk.aload_n X 1 rfl dL_law_304 rfl ?_
    refine Wk.iload X 5 rfl dL_law_305 ?_
    refine Wk.iconst (v := nI 1) X dL_law_307 (by decide) ?_
    refine Wk.iaddN X dL_law_308 ?_
    refine Wk.sld X hX hbl hbA (by omega) (by omega) dL_law_309 ?_
    refine Wk.aload_n X 1 rfl dL_law_310 rfl ?_
    refine Wk.iload X 5 rfl dL_law_311 ?_
    refine Wk.iconst (v := nI 2) X dL_law_313 (by decide) ?_
    refine Wk.iaddN X dL_law_314 ?_
    refine Wk.sld X hX hbl hbA (by omega) (by omega) dL_law_315 ?_
    refine Wk.callVi (n := 2) (q0 := 20) X (c_X5_told l dC dI cI cJ cZ hm _ _ _ _ _ _ _ _ _ _ _ _ _ _ _ _ _ _ _ _ _ _ _ _ (xs (i + 1)) (xs (i + 2)) hn) (gT gL_law_X5_told) rfl (by decide +kernel) (by decide) FrM (fun _ => rfl) rfl rfl rfl rfl (Nat.le_of_ble_eq_true rfl) (by show _ ≤ 603072 ∧ _ ≤ 7211114; omega) dL_law_316 ?_
    refine Wk.istore (lv' := (6, .int _) :: [(5, .int (nI 2)), (0, .ref b), (1, .ref (h 0)), (2, .ref (hm 0)), (3, .ref ho), (4, .int (nI i))]) X dL_law_319 (by decide) rfl ?_
    refine Wk.aload_n X 4 rfl dL_law_321 rfl ?_
    refine Wk.callVi (n := 0) (q0 := 20) X (c_X5_thrown l dC dI cI cJ cZ hm _ _ _ _ _ _ _ _ _ _ _ _ _ _ _ _ _ _ _ _ _ _ _ _  ) (gT gL_law_X5_thrown) rfl (by decide +kernel) (by decide) FrM (fun _ => rfl) rfl rfl rfl rfl (Nat.le_of_ble_eq_true rfl) (by show _ ≤ 603072 ∧ _ ≤ 7211114; omega) dL_law_322 ?_
    refine Wk.iload X 1 rfl dL_law_325 ?_
    refine Wk.icmp_eq X 332 dL_law_327 (by decide) (fun _ => ?_) (fun h9 => absurd htd.1 h9)
    refine Wk.iload X 1 rfl dL_law_332 ?_
    refine Wk.if_ne X 349 dL_law_334 (by decide) (fun c9 => ?_) (fun c9 => ?_)
    · skip
      refine Wk.goto X 770 dL_law_349 (by decide) ?_
      refine Wk.lvs (lv' := [(0, .ref b), (1, .ref (h 0)), (2, .ref (hm 0)), (3, .ref ho), (4, .int (nI i))]) [2, 3, 4, 5, 6] rfl ?_
      exact Wk.wide (by omega) (by omega) (K hR)
    · exact absurd c9 (by decide)

set_option maxHeartbeats 4000000 in
set_option maxRecDepth 100000 in
theorem law_c15 {p : Program} {l : Launch} {e : Env} {s : State} {m : MethodId} {args : Array Value} {below : List Frame} {meth : Method} {c : Code} {Q : State → Prop} {dC : Nat → ClassId} {dI : Nat → Nat → Nat} {cI cJ cZ : ClassId} {A : Nat → Prop} {b L : Nat} {xs : Nat → Int32} {h hm : Nat → Nat} {ho i q : Nat} {n : Nat} {li : Nat → Int32} {gr : Nat → Int32} {nb : Nat → Int32} {sc : Nat → Int64} {t : Nat} {ki : Nat → Int32} {fe : Nat → Int32} {lm : Nat → Int32} {si : Nat → Int32} {va : Nat → Int32} {he : Nat → Int32} {up : Nat → Int64} {lo : Nat → Int64} {pu : Nat → Int32} {pl : Nat → Int32} {gh : Nat} {gs : Int32} {bf : Bool} {b1 : Int32} {b2 : Int32} {b3 : Int32} {bu : Int64} {bl : Int64} {se : Nat → Int32} {th2 : Int32} {li2 : Nat → Int32} {gr2 : Nat → Int32} {nu2 : Nat → Int32} {hb2 : Nat → Bool} {se2 : Nat → Int32} {ki2 : Nat → Int32} {fe2 : Nat → Int32} {lm2 : Nat → Int32} {si2 : Nat → Int32} {va2 : Nat → Int32} {he2 : Nat → Int32} {up2 : Nat → Int64} {lo2 : Nat → Int64} {sc2 : Nat → Int64} {no2 : Nat → Int32} {pu2 : Nat → Int32} {b12 : Int32} {b22 : Int32} {b32 : Int32} {bu2 : Int64} {bl2 : Int64} {ou : Nat → Int64} (htr : l.stackTraces = false) (X : Cx p s m args c cL_law RL lw_tbl 7 (dC, dI) cl6 (TY cI cJ cZ) A true) (hX : va_X b L xs s s.heap) (hbl : b < s.heap.size) (hbA : ¬ A b) (hL : L ≤ 2048) (hi : i + 4 ≤ L) (hq : q ≤ 512) (hR : RR n t li gr nb ki fe lm si va he up lo se li2 gr2 nu2 hb2 se2 ki2 fe2 lm2 si2 va2 he2 up2 lo2) (K : Kon p l e s m args below meth c Q (dC, dI) A b h hm ho cI cJ cZ i q) : Wk p l e room_1 s m args below meth c (100 + q) (6000 + 8 * q) Q 7 (dC, dI) cl6 A 676 [(0, .ref b), (1, .ref (h 0)), (2, .ref (hm 0)), (3, .ref ho), (4, .int (nI i))] [] (Wg h hm ho cI cJ cZ n li gr nb sc t ki fe lm si va he up lo pu pl gh gs bf b1 b2 b3 bu bl se th2 n li2 gr2 nu2 hb2 se2 t ki2 fe2 lm2 si2 va2 he2 up2 lo2 sc2 no2 pu2 b12 b22 b32 bu2 bl2 ou) := by
  obtain ⟨hn, ht, hT, hN, hF, hTr, hS⟩ := id hR
  have hal := allB_alM (xs (i + 1))
  have hcF := hR.cp sc sc2 (xs (i + 1)) false
  have hcT := hR.cp2 sc sc2 (xs (i + 1)) true
  have hsm : cpO li gr (scT sc (scoreC ki fe lm si va nb t) n) (xs (i + 1)) false n n < 2 ^ 31 := cp_small _ _ _ _ _ hn
  have hz9 : nI (cpO li gr (scT sc (scoreC ki fe lm si va nb t) n) (xs (i + 1)) false n n) = 0 ↔ cpO li gr (scT sc (scoreC ki fe lm si va nb t) n) (xs (i + 1)) false n n = 0 := by rw [← nI_0]; exact nI_eq hsm (by decide)
  by_cases hcs : shB li gr (scT sc (scoreC ki fe lm si va nb t) n) (xs (i + 1)) n = true
  · have hcs2 := hcs
    unfold shB at hcs2
    simp only [Bool.and_eq_true, decide_eq_true_eq] at hcs2
    refine Wk.aload_n X 1 rfl dL_law_676 rfl ?_
    refine Wk.aload_n X 0 rfl dL_law_677 rfl ?_
    refine Wk.iload X 4 rfl dL_law_678 ?_
    refine Wk.iconst (v := nI 1) X dL_law_680 (by decide) ?_
    refine Wk.iaddN X dL_law_681 ?_
    refine Wk.sld X hX hbl hbA (by omega) (by omega) dL_law_682 ?_
    refine Wk.aload_n X 3 rfl dL_law_683 rfl ?_
    refine Wk.callSj (n := 3) X (c_L_share_ae l dC dI cI cJ cZ h ho _ _ _ _ _ _ _ _ _ _ _ _ _ _ _ _ _ _ _ _ _ _ _ _ _ _ (xs (i + 1)) hn ht hR.hfe hcs htr) gqL_law_L_share rfl (by decide +kernel) (by decide) FrL (fun _ => rfl) rfl rfl (Nat.le_of_ble_eq_true rfl) (by show _ ≤ 603072 ∧ _ ≤ 7211114; omega) dL_law_684 ?_
    refine Wk.istore (lv' := [(5, .int (nI 1)), (0, .ref b), (1, .ref (h 0)), (2, .ref (hm 0)), (3, .ref ho), (4, .int (nI i))]) X dL_law_687 (by decide) rfl ?_
    refine Wk.aload_n X 3 rfl dL_law_689 rfl ?_
    refine Wk.aload_n X 1 rfl dL_law_690 rfl ?_
    refine Wk.iload X 5 rfl dL_law_691 ?_
    refine Wk.iconst (v := nI 1) X dL_law_693 (by decide) ?_
    refine Wk.iaddN X dL_law_694 ?_
    refine Wk.sld X hX hbl hbA (by omega) (by omega) dL_law_695 ?_
    refine Wk.callVi (n := 1) (q0 := 20) X (c_X5_share l dC dI cI cJ cZ hm _ _ _ _ _ _ _ _ _ _ _ _ _ _ _ _ _ _ _ _ _ _ _ _ (xs (i + 1)) hn ht hR.hfe2 hR.hcu2) (gT gL_law_X5_share) rfl (by decide +kernel) (by decide) FrM (fun _ => rfl) rfl rfl rfl rfl (Nat.le_of_ble_eq_true rfl) (by show _ ≤ 603072 ∧ _ ≤ 7211114; omega) dL_law_696 ?_
    refine Wk.istore (lv' := (6, .int _) :: [(5, .int (nI 1)), (0, .ref b), (1, .ref (h 0)), (2, .ref (hm 0)), (3, .ref ho), (4, .int (nI i))]) X dL_law_699 (by decide) rfl ?_
    refine Wk.aload_n X 4 rfl dL_law_701 rfl ?_
    refine Wk.callVi (n := 0) (q0 := 20) X (c_X5_thrown l dC dI cI cJ cZ hm _ _ _ _ _ _ _ _ _ _ _ _ _ _ _ _ _ _ _ _ _ _ _ _  ) (gT gL_law_X5_thrown) rfl (by decide +kernel) (by decide) FrM (fun _ => rfl) rfl rfl rfl rfl (Nat.le_of_ble_eq_true rfl) (by show _ ≤ 603072 ∧ _ ≤ 7211114; omega) dL_law_702 ?_
    refine Wk.iload X 1 rfl dL_law_705 ?_
    refine Wk.icmp_eq X 712 dL_law_707 (by decide) (fun _ => ?_) (fun h9 => absurd (by rw [hal, hcF, if_pos hcs2.1, if_pos (hz9.mpr hcs2.2)]) h9)
    refine Wk.iload X 1 rfl dL_law_712 ?_
    refine Wk.if_ne X 729 dL_law_714 (by decide) (fun c9 => ?_) (fun c9 => ?_)
    · skip
      refine Wk.goto X 770 dL_law_729 (by decide) ?_
      refine Wk.lvs (lv' := [(0, .ref b), (1, .ref (h 0)), (2, .ref (hm 0)), (3, .ref ho), (4, .int (nI i))]) [2, 3, 4, 5, 6] rfl ?_
      exact Wk.wide (by omega) (by omega) (K hR)
    · exact absurd c9 (by decide)
  · replace hcs : shB li gr (scT sc (scoreC ki fe lm si va nb t) n) (xs (i + 1)) n = false := by simpa using hcs
    have hcs2 := hcs
    unfold shB at hcs2
    simp only [Bool.and_eq_false_iff, decide_eq_false_iff_not] at hcs2
    have nz : allB (xs (i + 1)) = true → ¬ nI (cpO li gr (scT sc (scoreC ki fe lm si va nb t) n) (xs (i + 1)) false n n) = 0 := fun w v => (hcs2.elim (fun u => absurd w (by rw [u]; decide)) id) (hz9.mp v)
    have hth : (if alM (xs (i + 1)) = true then (if nI (cpO li2 gr2 (scT sc2 (scoreM ki2 fe2 lm2 si2 va2 hb2 nu2 t) n) (xs (i + 1)) false n n) = 0 then nI 1 else nI 0) else nI 0) = nI 0 := by
      rw [hal, hcF]
      by_cases w : allB (xs (i + 1)) = true
      · rw [if_pos w, if_neg (nz w)]
      · rw [if_neg w]
    have hvl : (if allB (xs (i + 1)) = true then nI (cpO li gr (scT sc (scoreC ki fe lm si va nb t) n) (xs (i + 1)) true n n * 1000) / nI (cpO li gr (scT sc (scoreC ki fe lm si va nb t) n) (xs (i + 1)) false n n) else -10002) = (if alM (xs (i + 1)) = true then (if nI (cpO li2 gr2 (scT sc2 (scoreM ki2 fe2 lm2 si2 va2 hb2 nu2 t) n) (xs (i + 1)) false n n) = 0 then nI 0 else nI (1000 * cpO li2 gr2 (scT (scT sc2 (scoreM ki2 fe2 lm2 si2 va2 hb2 nu2 t) n) (scoreM ki2 fe2 lm2 si2 va2 hb2 nu2 t) n) (xs (i + 1)) true n n) / nI (cpO li2 gr2 (scT sc2 (scoreM ki2 fe2 lm2 si2 va2 hb2 nu2 t) n) (xs (i + 1)) false n n)) else -10002) := by
      rw [hal, hcF, hcT]
      by_cases w : allB (xs (i + 1)) = true
      · rw [if_pos w, if_pos w, if_neg (nz w), Nat.mul_comm]
      · rw [if_neg w, if_neg w]
    refine Wk.aload_n X 1 rfl dL_law_676 rfl ?_
    refine Wk.aload_n X 0 rfl dL_law_677 rfl ?_
    refine Wk.iload X 4 rfl dL_law_678 ?_
    refine Wk.iconst (v := nI 1) X dL_law_680 (by decide) ?_
    refine Wk.iaddN X dL_law_681 ?_
    refine Wk.sld X hX hbl hbA (by omega) (by omega) dL_law_682 ?_
    refine Wk.aload_n X 3 rfl dL_law_683 rfl ?_
    refine Wk.callSj (n := 3) X (c_L_share_ok l dC dI cI cJ cZ h ho _ _ _ _ _ _ _ _ _ _ _ _ _ _ _ _ _ _ _ _ _ _ _ _ _ _ (xs (i + 1)) hn ht hR.hfe hcs) gqL_law_L_share rfl (by decide +kernel) (by decide) FrL (fun _ => rfl) rfl rfl (Nat.le_of_ble_eq_true rfl) (by show _ ≤ 603072 ∧ _ ≤ 7211114; omega) dL_law_684 ?_
    refine Wk.istore (lv' := [(5, .int (nI 0)), (0, .ref b), (1, .ref (h 0)), (2, .ref (hm 0)), (3, .ref ho), (4, .int (nI i))]) X dL_law_687 (by decide) rfl ?_
    refine Wk.aload_n X 3 rfl dL_law_689 rfl ?_
    refine Wk.aload_n X 1 rfl dL_law_690 rfl ?_
    refine Wk.iload X 5 rfl dL_law_691 ?_
    refine Wk.iconst (v := nI 1) X dL_law_693 (by decide) ?_
    refine Wk.iaddN X dL_law_694 ?_
    refine Wk.sld X hX hbl hbA (by omega) (by omega) dL_law_695 ?_
    refine Wk.callVi (n := 1) (q0 := 20) X (c_X5_share l dC dI cI cJ cZ hm _ _ _ _ _ _ _ _ _ _ _ _ _ _ _ _ _ _ _ _ _ _ _ _ (xs (i + 1)) hn ht hR.hfe2 hR.hcu2) (gT gL_law_X5_share) rfl (by decide +kernel) (by decide) FrM (fun _ => rfl) rfl rfl rfl rfl (Nat.le_of_ble_eq_true rfl) (by show _ ≤ 603072 ∧ _ ≤ 7211114; omega) dL_law_696 ?_
    refine Wk.istore (lv' := (6, .int _) :: [(5, .int (nI 0)), (0, .ref b), (1, .ref (h 0)), (2, .ref (hm 0)), (3, .ref ho), (4, .int (nI i))]) X dL_law_699 (by decide) rfl ?_
    refine Wk.aload_n X 4 rfl dL_law_701 rfl ?_
    refine Wk.callVi (n := 0) (q0 := 20) X (c_X5_thrown l dC dI cI cJ cZ hm _ _ _ _ _ _ _ _ _ _ _ _ _ _ _ _ _ _ _ _ _ _ _ _  ) (gT gL_law_X5_thrown) rfl (by decide +kernel) (by decide) FrM (fun _ => rfl) rfl rfl rfl rfl (Nat.le_of_ble_eq_true rfl) (by show _ ≤ 603072 ∧ _ ≤ 7211114; omega) dL_law_702 ?_
    refine Wk.iload X 1 rfl dL_law_705 ?_
    refine Wk.icmp_eq X 712 dL_law_707 (by decide) (fun _ => ?_) (fun h9 => absurd hth h9)
    refine Wk.iload X 1 rfl dL_law_712 ?_
    refine Wk.if_ne X 729 dL_law_714 (by decide) (fun c9 => ?_) (fun c9 => ?_)
    · exact absurd (by decide) c9
    · skip
      refine Wk.aload_n X 5 rfl dL_law_717 rfl ?_
      refine Wk.iconst (v := nI 0) X dL_law_718 (by decide) ?_
      refine Wk.lald X 37 1 rfl rfl (by decide) (by decide) dL_law_719 ?_
      refine Wk.iload X 0 rfl dL_law_720 ?_
      refine Wk.i2l X dL_law_722 ?_
      refine Wk.lcmp_eq X 729 dL_law_723 dL_law_724 (by decide) (fun _ => ?_) (fun h9 => absurd (congrArg Int32.toInt64 hvl) h9)
      refine Wk.goto X 770 dL_law_729 (by decide) ?_
      refine Wk.lvs (lv' := [(0, .ref b), (1, .ref (h 0)), (2, .ref (hm 0)), (3, .ref ho), (4, .int (nI i))]) [2, 3, 4, 5, 6] rfl ?_
      exact Wk.wide (by omega) (by omega) (K hR)

