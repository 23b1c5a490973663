set_option maxHeartbeats 1000000 in
theorem lc_0 {p : Program} {l : Launch} {e : Env} {s : State} {m : MethodId} {args : Array Value} {below : List Frame} {meth : Method} {c : Code} {H : Heap} {locs : List Loc} {cells slots : Nat} {Q : State → Prop} {E : En} {x y : St} {P2 : Nat → Nat} {b0 L i : Nat} {xs : Nat → Int32} {ls : Array Slot} (hfl : l.stackTraces = false) (S : CF p m c code 7 s args RL) (hz : Lz E P2 s) (hX : va_X b0 L xs s s.heap) (hbl : b0 < s.heap.size) (hA : s.heap.size ≤ eL E) (hL : L ≤ 3072) (hi : i + 6 ≤ L) (hc : cpl x.1 x.2.1 y.1 y.2.1) (hw : Lw E P2 s x y H locs) (hl : lv_has ls 7 (Ll E P2 b0 i)) (hcs : cells + 1 ≤ rmC ∧ slots + 6 ≤ rmS)
    (kk : ∀ (x y : St) (H : Heap) (locs : List Loc) (ls : Array Slot), cpl x.1 x.2.1 y.1 y.2.1 → Lw E P2 s x y H locs → lv_has ls 7 (Ll E P2 b0 i) → W p l e room_1 s m args below meth c H locs (cells + 1) (slots + 6) Q (F0 m 1591 ls [])) : W p l e room_1 s m args below meth c H locs cells slots Q (F0 m 160 ls []) := by
  have hx := S.1
  have hb := S.2.1
  obtain ⟨I, A, K⟩ := x
  obtain ⟨I', B, K'⟩ := y
  obtain ⟨pC, pM, hC, hM, hq⟩ := pr_append l E (enP E P2) I A K I' B K' (xs (i + 1)) (xs (i + 2)) (xs (i + 3)) (xs (i + 4)) (xs (i + 5)) hz.1.1 hz.1.2.1 hc
  refine lv_aload_n hx hb dL_law_160 rfl (lv_at hl 1 rfl) ?_
  refine lw_arg (k := 1) (ki := 1) 0 4 1 hx hb hX hbl hA hw.2.2 hl rfl rfl (nI_add i 1) (by omega) hL dL_law_161 dL_law_162 dL_law_164 (by decide) dL_law_165 dL_law_166 ?_
  refine lw_arg (k := 2) (ki := 2) 0 4 2 hx hb hX hbl hA hw.2.2 hl rfl rfl (nI_add i 2) (by omega) hL dL_law_167 dL_law_168 dL_law_170 (by decide) dL_law_171 dL_law_172 ?_
  refine lw_arg (k := 3) (ki := 3) 0 4 3 hx hb hX hbl hA hw.2.2 hl rfl rfl (nI_add i 3) (by omega) hL dL_law_173 dL_law_174 dL_law_176 (by decide) dL_law_177 dL_law_178 ?_
  refine lw_arg (k := 4) (ki := 4) 0 4 4 hx hb hX hbl hA hw.2.2 hl rfl rfl (nI_add i 4) (by omega) hL dL_law_179 dL_law_180 dL_law_182 (by decide) dL_law_183 dL_law_184 ?_
  refine lw_arg (k := 5) (ki := 5) 0 4 5 hx hb hX hbl hA hw.2.2 hl rfl rfl (nI_add i 5) (by omega) hL dL_law_185 dL_law_186 dL_law_188 (by decide) dL_law_189 dL_law_190 ?_
  refine lw_C S hz hw lk_L_81 rfl hC (by decide) rfl hl.1 (Nat.le_of_ble_eq_true rfl) ⟨by omega, by omega⟩ dL_law_191 rfl (fun z u H locs hp hw => ?_)
  refine lv_aload_n hx hb dL_law_194 rfl (lv_at hl 2 rfl) ?_
  refine lw_arg (k := 1) (ki := 1) 0 4 1 hx hb hX hbl hA hw.2.2 hl rfl rfl (nI_add i 1) (by omega) hL dL_law_195 dL_law_196 dL_law_198 (by decide) dL_law_199 dL_law_200 ?_
  refine lw_arg (k := 2) (ki := 2) 0 4 2 hx hb hX hbl hA hw.2.2 hl rfl rfl (nI_add i 2) (by omega) hL dL_law_201 dL_law_202 dL_law_204 (by decide) dL_law_205 dL_law_206 ?_
  refine lw_arg (k := 3) (ki := 3) 0 4 3 hx hb hX hbl hA hw.2.2 hl rfl rfl (nI_add i 3) (by omega) hL dL_law_207 dL_law_208 dL_law_210 (by decide) dL_law_211 dL_law_212 ?_
  refine lw_arg (k := 4) (ki := 4) 0 4 4 hx hb hX hbl hA hw.2.2 hl rfl rfl (nI_add i 4) (by omega) hL dL_law_213 dL_law_214 dL_law_216 (by decide) dL_law_217 dL_law_218 ?_
  refine lw_arg (k := 5) (ki := 5) 0 4 5 hx hb hX hbl hA hw.2.2 hl rfl rfl (nI_add i 5) (by omega) hL dL_law_219 dL_law_220 dL_law_222 (by decide) dL_law_223 dL_law_224 ?_
  refine lw_M S hz hw lk_L_85 rfl hM (by decide) rfl hl.1 (Nat.le_of_ble_eq_true rfl) ⟨by omega, by omega⟩ dL_law_225 rfl (fun w v H locs hp2 hw => ?_)
  obtain ⟨q1, q2⟩ := hq _ _ _ _ hp hp2
  exact lv_icmp_eq (tgt := 1591) hx hb dL_law_228 (by decide) (fun _ => W.widen (Nat.le_add_right _ _) (Nat.le_add_right _ _) (kk (u.1, u.2.1, va_up u.2.2 118 (K 118)) v H locs ls q2 hw hl)) (fun h => absurd q1 h)
set_option maxHeartbeats 1000000 in
theorem lc_1 {p : Program} {l : Launch} {e : Env} {s : State} {m : MethodId} {args : Array Value} {below : List Frame} {meth : Method} {c : Code} {H : Heap} {locs : List Loc} {cells slots : Nat} {Q : State → Prop} {E : En} {x y : St} {P2 : Nat → Nat} {b0 L i : Nat} {xs : Nat → Int32} {ls : Array Slot} (hfl : l.stackTraces = false) (S : CF p m c code 7 s args RL) (hz : Lz E P2 s) (hX : va_X b0 L xs s s.heap) (hbl : b0 < s.heap.size) (hA : s.heap.size ≤ eL E) (hL : L ≤ 3072) (hi : i + 6 ≤ L) (hc : cpl x.1 x.2.1 y.1 y.2.1) (hw : Lw E P2 s x y H locs) (hl : lv_has ls 7 (Ll E P2 b0 i)) (hcs : cells + 1 ≤ rmC ∧ slots + 6 ≤ rmS)
    (kk : ∀ (x y : St) (H : Heap) (locs : List Loc) (ls : Array Slot), cpl x.1 x.2.1 y.1 y.2.1 → Lw E P2 s x y H locs → lv_has ls 7 (Ll E P2 b0 i) → W p l e room_1 s m args below meth c H locs (cells + 1) (slots + 6) Q (F0 m 1591 ls [])) : W p l e room_1 s m args below meth c H locs cells slots Q (F0 m 233 ls []) := by
  have hx := S.1
  have hb := S.2.1
  obtain ⟨I, A, K⟩ := x
  obtain ⟨I', B, K'⟩ := y
  obtain ⟨pH, pM, hH, hM, hq⟩ := pr_load l hfl E (enP E P2) I A K I' B K' (xs (i + 1)) hz.1.1 hz.1.2.1 hc
  refine lv_aload_n hx hb dL_law_233 rfl (lv_at hl 1 rfl) ?_
  refine lw_arg (k := 1) (ki := 1) 0 4 1 hx hb hX hbl hA hw.2.2 hl rfl rfl (nI_add i 1) (by omega) hL dL_law_234 dL_law_235 dL_law_237 (by decide) dL_law_238 dL_law_239 ?_
  refine lv_aload_n hx hb dL_law_240 rfl (lv_at hl 3 rfl) ?_
  refine lw_H S hz hw lkh_load hH (by decide) rfl hl.1 (Nat.le_of_ble_eq_true rfl) hcs dL_law_241 rfl (fun z u H locs hp hw => ?_)
  refine lv_istore (lv' := (5, .int z) :: Ll E P2 b0 i) hx hb dL_law_244 hl (by decide) rfl (fun ls hl => ?_)
  refine lv_aload_n hx hb dL_law_246 rfl (lv_at hl 3 rfl) ?_
  refine lw_arg (k := 1) (ki := 1) 1 5 1 hx hb hX hbl hA hw.2.2 hl rfl rfl (nI_add i 1) (by omega) hL dL_law_247 dL_law_248 dL_law_250 (by decide) dL_law_251 dL_law_252 ?_
  refine lw_M S hz hw lk_L_91 rfl hM (by decide) rfl hl.1 (Nat.le_of_ble_eq_true rfl) ⟨hcs.1, hcs.2⟩ dL_law_253 rfl (fun w v H locs hp2 hw => ?_)
  refine lv_istore (lv' := (6, .int w) :: (5, .int z) :: Ll E P2 b0 i) hx hb dL_law_256 hl (by decide) rfl (fun ls hl => ?_)
  obtain ⟨q1, q2, q3⟩ := hq _ _ _ _ hp hp2
  exact lw_tI S hz hw hl rfl rfl q1 q3 ⟨hcs.1, hcs.2⟩ dL_law_258 dL_law_259 dL_law_262 dL_law_264 dL_law_269 dL_law_271 dL_law_274 dL_law_275 dL_law_276 dL_law_277 dL_law_279 dL_law_280 dL_law_281 dL_law_286 (by decide) (fun H locs hw => kk u v H locs ls q2 hw (lv_sub hl [2, 3, 4, 5, 6] rfl))
set_option maxHeartbeats 1000000 in
theorem lc_2 {p : Program} {l : Launch} {e : Env} {s : State} {m : MethodId} {args : Array Value} {below : List Frame} {meth : Method} {c : Code} {H : Heap} {locs : List Loc} {cells slots : Nat} {Q : State → Prop} {E : En} {x y : St} {P2 : Nat → Nat} {b0 L i : Nat} {xs : Nat → Int32} {ls : Array Slot} (hfl : l.stackTraces = false) (S : CF p m c code 7 s args RL) (hz : Lz E P2 s) (hX : va_X b0 L xs s s.heap) (hbl : b0 < s.heap.size) (hA : s.heap.size ≤ eL E) (hL : L ≤ 3072) (hi : i + 6 ≤ L) (hc : cpl x.1 x.2.1 y.1 y.2.1) (hw : Lw E P2 s x y H locs) (hl : lv_has ls 7 (Ll E P2 b0 i)) (hcs : cells + 1 ≤ rmC ∧ slots + 6 ≤ rmS)
    (kk : ∀ (x y : St) (H : Heap) (locs : List Loc) (ls : Array Slot), cpl x.1 x.2.1 y.1 y.2.1 → Lw E P2 s x y H locs → lv_has ls 7 (Ll E P2 b0 i) → W p l e room_1 s m args below meth c H locs (cells + 1) (slots + 6) Q (F0 m 1591 ls [])) : W p l e room_1 s m args below meth c H locs cells slots Q (F0 m 289 ls []) := by
  have hx := S.1
  have hb := S.2.1
  obtain ⟨I, A, K⟩ := x
  obtain ⟨I', B, K'⟩ := y
  obtain ⟨pC, pM, hC, hM, hq⟩ := pr_errorOffset l E (enP E P2) I A K I' B K'  hz.1.1 hz.1.2.1 hc
  refine lv_aload_n hx hb dL_law_289 rfl (lv_at hl 1 rfl) ?_
  refine lw_C S hz hw lk_L_96 rfl hC (by decide) rfl hl.1 (Nat.le_of_ble_eq_true rfl) ⟨by omega, by omega⟩ dL_law_290 rfl (fun z u H locs hp hw => ?_)
  refine lv_aload_n hx hb dL_law_293 rfl (lv_at hl 2 rfl) ?_
  refine lw_M S hz hw lk_L_99 rfl hM (by decide) rfl hl.1 (Nat.le_of_ble_eq_true rfl) ⟨by omega, by omega⟩ dL_law_294 rfl (fun w v H locs hp2 hw => ?_)
  obtain ⟨q1, q2⟩ := hq _ _ _ _ hp hp2
  exact lv_icmp_eq (tgt := 1591) hx hb dL_law_297 (by decide) (fun _ => W.widen (Nat.le_add_right _ _) (Nat.le_add_right _ _) (kk (u.1, u.2.1, va_up u.2.2 118 (K 118)) v H locs ls q2 hw hl)) (fun h => absurd q1 h)
set_option maxHeartbeats 1000000 in
theorem lc_3 {p : Program} {l : Launch} {e : Env} {s : State} {m : MethodId} {args : Array Value} {below : List Frame} {meth : Method} {c : Code} {H : Heap} {locs : List Loc} {cells slots : Nat} {Q : State → Prop} {E : En} {x y : St} {P2 : Nat → Nat} {b0 L i : Nat} {xs : Nat → Int32} {ls : Array Slot} (hfl : l.stackTraces = false) (S : CF p m c code 7 s args RL) (hz : Lz E P2 s) (hX : va_X b0 L xs s s.heap) (hbl : b0 < s.heap.size) (hA : s.heap.size ≤ eL E) (hL : L ≤ 3072) (hi : i + 6 ≤ L) (hc : cpl x.1 x.2.1 y.1 y.2.1) (hw : Lw E P2 s x y H locs) (hl : lv_has ls 7 (Ll E P2 b0 i)) (hcs : cells + 1 ≤ rmC ∧ slots + 6 ≤ rmS)
    (kk : ∀ (x y : St) (H : Heap) (locs : List Loc) (ls : Array Slot), cpl x.1 x.2.1 y.1 y.2.1 → Lw E P2 s x y H locs → lv_has ls 7 (Ll E P2 b0 i) → W p l e room_1 s m args below meth c H locs (cells + 1) (slots + 6) Q (F0 m 1591 ls [])) : W p l e room_1 s m args below meth c H locs cells slots Q (F0 m 302 ls []) := by
  have hx := S.1
  have hb := S.2.1
  obtain ⟨I, A, K⟩ := x
  obtain ⟨I', B, K'⟩ := y
  obtain ⟨pC, pM, hC, hM, hq⟩ := pr_roleCount l E (enP E P2) I A K I' B K'  hz.1.1 hz.1.2.1 hc
  refine lv_aload_n hx hb dL_law_302 rfl (lv_at hl 1 rfl) ?_
  refine lw_C S hz hw lk_L_100 rfl hC (by decide) rfl hl.1 (Nat.le_of_ble_eq_true rfl) ⟨by omega, by omega⟩ dL_law_303 rfl (fun z u H locs hp hw => ?_)
  refine lv_aload_n hx hb dL_law_306 rfl (lv_at hl 2 rfl) ?_
  refine lw_M S hz hw lk_L_103 rfl hM (by decide) rfl hl.1 (Nat.le_of_ble_eq_true rfl) ⟨by omega, by omega⟩ dL_law_307 rfl (fun w v H locs hp2 hw => ?_)
  obtain ⟨q1, q2⟩ := hq _ _ _ _ hp hp2
  exact lv_icmp_eq (tgt := 1591) hx hb dL_law_310 (by decide) (fun _ => W.widen (Nat.le_add_right _ _) (Nat.le_add_right _ _) (kk (u.1, u.2.1, va_up u.2.2 118 (K 118)) v H locs ls q2 hw hl)) (fun h => absurd q1 h)
set_option maxHeartbeats 1000000 in
theorem lc_4 {p : Program} {l : Launch} {e : Env} {s : State} {m : MethodId} {args : Array Value} {below : List Frame} {meth : Method} {c : Code} {H : Heap} {locs : List Loc} {cells slots : Nat} {Q : State → Prop} {E : En} {x y : St} {P2 : Nat → Nat} {b0 L i : Nat} {xs : Nat → Int32} {ls : Array Slot} (hfl : l.stackTraces = false) (S : CF p m c code 7 s args RL) (hz : Lz E P2 s) (hX : va_X b0 L xs s s.heap) (hbl : b0 < s.heap.size) (hA : s.heap.size ≤ eL E) (hL : L ≤ 3072) (hi : i + 6 ≤ L) (hc : cpl x.1 x.2.1 y.1 y.2.1) (hw : Lw E P2 s x y H locs) (hl : lv_has ls 7 (Ll E P2 b0 i)) (hcs : cells + 1 ≤ rmC ∧ slots + 6 ≤ rmS)
    (kk : ∀ (x y : St) (H : Heap) (locs : List Loc) (ls : Array Slot), cpl x.1 x.2.1 y.1 y.2.1 → Lw E P2 s x y H locs → lv_has ls 7 (Ll E P2 b0 i) → W p l e room_1 s m args below meth c H locs (cells + 1) (slots + 6) Q (F0 m 1591 ls [])) : W p l e room_1 s m args below meth c H locs cells slots Q (F0 m 315 ls []) := by
  have hx := S.1
  have hb := S.2.1
  obtain ⟨I, A, K⟩ := x
  obtain ⟨I', B, K'⟩ := y
  obtain ⟨pC, pM, hC, hM, hq⟩ := pr_ruleCount l E (enP E P2) I A K I' B K'  hz.1.1 hz.1.2.1 hc
  refine lv_aload_n hx hb dL_law_315 rfl (lv_at hl 1 rfl) ?_
  refine lw_C S hz hw lk_L_104 rfl hC (by decide) rfl hl.1 (Nat.le_of_ble_eq_true rfl) ⟨by omega, by omega⟩ dL_law_316 rfl (fun z u H locs hp hw => ?_)
  refine lv_aload_n hx hb dL_law_319 rfl (lv_at hl 2 rfl) ?_
  refine lw_M S hz hw lk_L_107 rfl hM (by decide) rfl hl.1 (Nat.le_of_ble_eq_true rfl) ⟨by omega, by omega⟩ dL_law_320 rfl (fun w v H locs hp2 hw => ?_)
  obtain ⟨q1, q2⟩ := hq _ _ _ _ hp hp2
  exact lv_icmp_eq (tgt := 1591) hx hb dL_law_323 (by decide) (fun _ => W.widen (Nat.le_add_right _ _) (Nat.le_add_right _ _) (kk (u.1, u.2.1, va_up u.2.2 118 (K 118)) v H locs ls q2 hw hl)) (fun h => absurd q1 h)
set_option maxHeartbeats 1000000 in
theorem lc_5 {p : Program} {l : Launch} {e : Env} {s : State} {m : MethodId} {args : Array Value} {below : List Frame} {meth : Method} {c : Code} {H : Heap} {locs : List Loc} {cells slots : Nat} {Q : State → Prop} {E : En} {x y : St} {P2 : Nat → Nat} {b0 L i : Nat} {xs : Nat → Int32} {ls : Array Slot} (hfl : l.stackTraces = false) (S : CF p m c code 7 s args RL) (hz : Lz E P2 s) (hX : va_X b0 L xs s s.heap) (hbl : b0 < s.heap.size) (hA : s.heap.size ≤ eL E) (hL : L ≤ 3072) (hi : i + 6 ≤ L) (hc : cpl x.1 x.2.1 y.1 y.2.1) (hw : Lw E P2 s x y H locs) (hl : lv_has ls 7 (Ll E P2 b0 i)) (hcs : cells + 1 ≤ rmC ∧ slots + 6 ≤ rmS)
    (kk : ∀ (x y : St) (H : Heap) (locs : List Loc) (ls : Array Slot), cpl x.1 x.2.1 y.1 y.2.1 → Lw E P2 s x y H locs → lv_has ls 7 (Ll E P2 b0 i) → W p l e room_1 s m args below meth c H locs (cells + 1) (slots + 6) Q (F0 m 1591 ls [])) : W p l e room_1 s m args below meth c H locs cells slots Q (F0 m 328 ls []) := by
  have hx := S.1
  have hb := S.2.1
  obtain ⟨I, A, K⟩ := x
  obtain ⟨I', B, K'⟩ := y
  obtain ⟨pH, pM, hH, hM, hq⟩ := pr_colour l hfl E (enP E P2) I A K I' B K' (xs (i + 1)) (xs (i + 2)) hz.1.1 hz.1.2.1 hc
  refine lv_aload_n hx hb dL_law_328 rfl (lv_at hl 1 rfl) ?_
  refine lw_arg (k := 1) (ki := 1) 0 4 1 hx hb hX hbl hA hw.2.2 hl rfl rfl (nI_add i 1) (by omega) hL dL_law_329 dL_law_330 dL_law_332 (by decide) dL_law_333 dL_law_334 ?_
  refine lw_arg (k := 2) (ki := 2) 0 4 2 hx hb hX hbl hA hw.2.2 hl rfl rfl (nI_add i 2) (by omega) hL dL_law_335 dL_law_336 dL_law_338 (by decide) dL_law_339 dL_law_340 ?_
  refine lv_aload_n hx hb dL_law_341 rfl (lv_at hl 3 rfl) ?_
  refine lw_H S hz hw lkh_colour hH (by decide) rfl hl.1 (Nat.le_of_ble_eq_true rfl) hcs dL_law_342 rfl (fun z u H locs hp hw => ?_)
  refine lv_istore (lv' := (5, .int z) :: Ll E P2 b0 i) hx hb dL_law_345 hl (by decide) rfl (fun ls hl => ?_)
  refine lv_aload_n hx hb dL_law_347 rfl (lv_at hl 3 rfl) ?_
  refine lw_arg (k := 1) (ki := 1) 1 5 1 hx hb hX hbl hA hw.2.2 hl rfl rfl (nI_add i 1) (by omega) hL dL_law_348 dL_law_349 dL_law_351 (by decide) dL_law_352 dL_law_353 ?_
  refine lw_arg (k := 2) (ki := 2) 1 5 2 hx hb hX hbl hA hw.2.2 hl rfl rfl (nI_add i 2) (by omega) hL dL_law_354 dL_law_355 dL_law_357 (by decide) dL_law_358 dL_law_359 ?_
  refine lw_M S hz hw lk_L_111 rfl hM (by decide) rfl hl.1 (Nat.le_of_ble_eq_true rfl) ⟨hcs.1, hcs.2⟩ dL_law_360 rfl (fun w v H locs hp2 hw => ?_)
  refine lv_istore (lv' := (6, .int w) :: (5, .int z) :: Ll E P2 b0 i) hx hb dL_law_363 hl (by decide) rfl (fun ls hl => ?_)
  obtain ⟨q1, q2, q3⟩ := hq _ _ _ _ hp hp2
  exact lw_tI S hz hw hl rfl rfl q1 q3 ⟨hcs.1, hcs.2⟩ dL_law_365 dL_law_366 dL_law_369 dL_law_371 dL_law_376 dL_law_378 dL_law_381 dL_law_382 dL_law_383 dL_law_384 dL_law_386 dL_law_387 dL_law_388 dL_law_393 (by decide) (fun H locs hw => kk u v H locs ls q2 hw (lv_sub hl [2, 3, 4, 5, 6] rfl))
set_option maxHeartbeats 1000000 in
theorem lc_6 {p : Program} {l : Launch} {e : Env} {s : State} {m : MethodId} {args : Array Value} {below : List Frame} {meth : Method} {c : Code} {H : Heap} {locs : List Loc} {cells slots : Nat} {Q : State → Prop} {E : En} {x y : St} {P2 : Nat → Nat} {b0 L i : Nat} {xs : Nat → Int32} {ls : Array Slot} (hfl : l.stackTraces = false) (S : CF p m c code 7 s args RL) (hz : Lz E P2 s) (hX : va_X b0 L xs s s.heap) (hbl : b0 < s.heap.size) (hA : s.heap.size ≤ eL E) (hL : L ≤ 3072) (hi : i + 6 ≤ L) (hc : cpl x.1 x.2.1 y.1 y.2.1) (hw : Lw E P2 s x y H locs) (hl : lv_has ls 7 (Ll E P2 b0 i)) (hcs : cells + 1 ≤ rmC ∧ slots + 6 ≤ rmS)
    (kk : ∀ (x y : St) (H : Heap) (locs : List Loc) (ls : Array Slot), cpl x.1 x.2.1 y.1 y.2.1 → Lw E P2 s x y H locs → lv_has ls 7 (Ll E P2 b0 i) → W p l e room_1 s m args below meth c H locs (cells + 1) (slots + 6) Q (F0 m 1591 ls [])) : W p l e room_1 s m args below meth c H locs cells slots Q (F0 m 396 ls []) := by
  have hx := S.1
  have hb := S.2.1
  obtain ⟨I, A, K⟩ := x
  obtain ⟨I', B, K'⟩ := y
  obtain ⟨pH, pM, hH, hM, hq⟩ := pr_isFixed l hfl E (enP E P2) I A K I' B K' (xs (i + 1)) hz.1.1 hz.1.2.1 hc
  refine lv_aload_n hx hb dL_law_396 rfl (lv_at hl 1 rfl) ?_
  refine lw_arg (k := 1) (ki := 1) 0 4 1 hx hb hX hbl hA hw.2.2 hl rfl rfl (nI_add i 1) (by omega) hL dL_law_397 dL_law_398 dL_law_400 (by decide) dL_law_401 dL_law_402 ?_
  refine lv_aload_n hx hb dL_law_403 rfl (lv_at hl 3 rfl) ?_
  refine lw_H S hz hw lkh_isFixed hH (by decide) rfl hl.1 (Nat.le_of_ble_eq_true rfl) hcs dL_law_404 rfl (fun z u H locs hp hw => ?_)
  refine lv_istore (lv' := (5, .int z) :: Ll E P2 b0 i) hx hb dL_law_407 hl (by decide) rfl (fun ls hl => ?_)
  refine lv_aload_n hx hb dL_law_409 rfl (lv_at hl 3 rfl) ?_
  refine lw_arg (k := 1) (ki := 1) 1 5 1 hx hb hX hbl hA hw.2.2 hl rfl rfl (nI_add i 1) (by omega) hL dL_law_410 dL_law_411 dL_law_413 (by decide) dL_law_414 dL_law_415 ?_
  refine lw_M S hz hw lk_L_114 rfl hM (by decide) rfl hl.1 (Nat.le_of_ble_eq_true rfl) ⟨hcs.1, hcs.2⟩ dL_law_416 rfl (fun w v H locs hp2 hw => ?_)
  refine lv_istore (lv' := (6, .int w) :: (5, .int z) :: Ll E P2 b0 i) hx hb dL_law_419 hl (by decide) rfl (fun ls hl => ?_)
  obtain ⟨q1, q2, q3⟩ := hq _ _ _ _ hp hp2
  exact lw_tB S hz hw hl rfl rfl q1 q3 ⟨hcs.1, hcs.2⟩ dL_law_421 dL_law_422 dL_law_425 dL_law_427 dL_law_432 dL_law_434 dL_law_437 dL_law_438 dL_law_439 dL_law_440 dL_law_442 dL_law_445 dL_law_446 dL_law_449 dL_law_450 dL_law_451 dL_law_456 (by decide) (fun H locs hw => kk u v H locs ls q2 hw (lv_sub hl [2, 3, 4, 5, 6] rfl))
set_option maxHeartbeats 1000000 in
theorem lc_7 {p : Program} {l : Launch} {e : Env} {s : State} {m : MethodId} {args : Array Value} {below : List Frame} {meth : Method} {c : Code} {H : Heap} {locs : List Loc} {cells slots : Nat} {Q : State → Prop} {E : En} {x y : St} {P2 : Nat → Nat} {b0 L i : Nat} {xs : Nat → Int32} {ls : Array Slot} (hfl : l.stackTraces = false) (S : CF p m c code 7 s args RL) (hz : Lz E P2 s) (hX : va_X b0 L xs s s.heap) (hbl : b0 < s.heap.size) (hA : s.heap.size ≤ eL E) (hL : L ≤ 3072) (hi : i + 6 ≤ L) (hc : cpl x.1 x.2.1 y.1 y.2.1) (hw : Lw E P2 s x y H locs) (hl : lv_has ls 7 (Ll E P2 b0 i)) (hcs : cells + 1 ≤ rmC ∧ slots + 6 ≤ rmS)
    (kk : ∀ (x y : St) (H : Heap) (locs : List Loc) (ls : Array Slot), cpl x.1 x.2.1 y.1 y.2.1 → Lw E P2 s x y H locs → lv_has ls 7 (Ll E P2 b0 i) → W p l e room_1 s m args below meth c H locs (cells + 1) (slots + 6) Q (F0 m 1591 ls [])) : W p l e room_1 s m args below meth c H locs cells slots Q (F0 m 459 ls []) := by
  have hx := S.1
  have hb := S.2.1
  obtain ⟨I, A, K⟩ := x
  obtain ⟨I', B, K'⟩ := y
  obtain ⟨pH, pM, hH, hM, hq⟩ := pr_luminance l hfl E (enP E P2) I A K I' B K' (xs (i + 1)) (xs (i + 2)) hz.1.1 hz.1.2.1 hc
  refine lv_aload_n hx hb dL_law_459 rfl (lv_at hl 1 rfl) ?_
  refine lw_arg (k := 1) (ki := 1) 0 4 1 hx hb hX hbl hA hw.2.2 hl rfl rfl (nI_add i 1) (by omega) hL dL_law_460 dL_law_461 dL_law_463 (by decide) dL_law_464 dL_law_465 ?_
  refine lw_arg (k := 2) (ki := 2) 0 4 2 hx hb hX hbl hA hw.2.2 hl rfl rfl (nI_add i 2) (by omega) hL dL_law_466 dL_law_467 dL_law_469 (by decide) dL_law_470 dL_law_471 ?_
  refine lv_aload_n hx hb dL_law_472 rfl (lv_at hl 3 rfl) ?_
  refine lw_H S hz hw lkh_luminance hH (by decide) rfl hl.1 (Nat.le_of_ble_eq_true rfl) hcs dL_law_473 rfl (fun z u H locs hp hw => ?_)
  refine lv_istore (lv' := (5, .int z) :: Ll E P2 b0 i) hx hb dL_law_476 hl (by decide) rfl (fun ls hl => ?_)
  refine lv_aload_n hx hb dL_law_478 rfl (lv_at hl 3 rfl) ?_
  refine lw_arg (k := 1) (ki := 1) 1 5 1 hx hb hX hbl hA hw.2.2 hl rfl rfl (nI_add i 1) (by omega) hL dL_law_479 dL_law_480 dL_law_482 (by decide) dL_law_483 dL_law_484 ?_
  refine lw_arg (k := 2) (ki := 2) 1 5 2 hx hb hX hbl hA hw.2.2 hl rfl rfl (nI_add i 2) (by omega) hL dL_law_485 dL_law_486 dL_law_488 (by decide) dL_law_489 dL_law_490 ?_
  refine lw_M S hz hw lk_L_117 rfl hM (by decide) rfl hl.1 (Nat.le_of_ble_eq_true rfl) ⟨hcs.1, hcs.2⟩ dL_law_491 rfl (fun w v H locs hp2 hw => ?_)
  refine lv_istore (lv' := (6, .int w) :: (5, .int z) :: Ll E P2 b0 i) hx hb dL_law_494 hl (by decide) rfl (fun ls hl => ?_)
  obtain ⟨q1, q2, q3⟩ := hq _ _ _ _ hp hp2
  exact lw_tI S hz hw hl rfl rfl q1 q3 ⟨hcs.1, hcs.2⟩ dL_law_496 dL_law_497 dL_law_500 dL_law_502 dL_law_507 dL_law_509 dL_law_512 dL_law_513 dL_law_514 dL_law_515 dL_law_517 dL_law_518 dL_law_519 dL_law_524 (by decide) (fun H locs hw => kk u v H locs ls q2 hw (lv_sub hl [2, 3, 4, 5, 6] rfl))
set_option maxHeartbeats 1000000 in
theorem lc_8 {p : Program} {l : Launch} {e : Env} {s : State} {m : MethodId} {args : Array Value} {below : List Frame} {meth : Method} {c : Code} {H : Heap} {locs : List Loc} {cells slots : Nat} {Q : State → Prop} {E : En} {x y : St} {P2 : Nat → Nat} {b0 L i : Nat} {xs : Nat → Int32} {ls : Array Slot} (hfl : l.stackTraces = false) (S : CF p m c code 7 s args RL) (hz : Lz E P2 s) (hX : va_X b0 L xs s s.heap) (hbl : b0 < s.heap.size) (hA : s.heap.size ≤ eL E) (hL : L ≤ 3072) (hi : i + 6 ≤ L) (hc : cpl x.1 x.2.1 y.1 y.2.1) (hw : Lw E P2 s x y H locs) (hl : lv_has ls 7 (Ll E P2 b0 i)) (hcs : cells + 1 ≤ rmC ∧ slots + 6 ≤ rmS)
    (kk : ∀ (x y : St) (H : Heap) (locs : List Loc) (ls : Array Slot), cpl x.1 x.2.1 y.1 y.2.1 → Lw E P2 s x y H locs → lv_has ls 7 (Ll E P2 b0 i) → W p l e room_1 s m args below meth c H locs (cells + 1) (slots + 6) Q (F0 m 1591 ls [])) : W p l e room_1 s m args below meth c H locs cells slots Q (F0 m 527 ls []) := by
  have hx := S.1
  have hb := S.2.1
  obtain ⟨I, A, K⟩ := x
  obtain ⟨I', B, K'⟩ := y
  obtain ⟨pH, pM, hH, hM, hq⟩ := pr_contrast l hfl E (enP E P2) I A K I' B K' (xs (i + 1)) (xs (i + 2)) (xs (i + 3)) hz.1.1 hz.1.2.1 hc
  refine lv_aload_n hx hb dL_law_527 rfl (lv_at hl 1 rfl) ?_
  refine lw_arg (k := 1) (ki := 1) 0 4 1 hx hb hX hbl hA hw.2.2 hl rfl rfl (nI_add i 1) (by omega) hL dL_law_528 dL_law_529 dL_law_531 (by decide) dL_law_532 dL_law_533 ?_
  refine lw_arg (k := 2) (ki := 2) 0 4 2 hx hb hX hbl hA hw.2.2 hl rfl rfl (nI_add i 2) (by omega) hL dL_law_534 dL_law_535 dL_law_537 (by decide) dL_law_538 dL_law_539 ?_
  refine lw_arg (k := 3) (ki := 3) 0 4 3 hx hb hX hbl hA hw.2.2 hl rfl rfl (nI_add i 3) (by omega) hL dL_law_540 dL_law_541 dL_law_543 (by decide) dL_law_544 dL_law_545 ?_
  refine lv_aload_n hx hb dL_law_546 rfl (lv_at hl 3 rfl) ?_
  refine lw_H S hz hw lkh_contrast hH (by decide) rfl hl.1 (Nat.le_of_ble_eq_true rfl) hcs dL_law_547 rfl (fun z u H locs hp hw => ?_)
  refine lv_istore (lv' := (5, .int z) :: Ll E P2 b0 i) hx hb dL_law_550 hl (by decide) rfl (fun ls hl => ?_)
  refine lv_aload_n hx hb dL_law_552 rfl (lv_at hl 3 rfl) ?_
  refine lw_arg (k := 1) (ki := 1) 1 5 1 hx hb hX hbl hA hw.2.2 hl rfl rfl (nI_add i 1) (by omega) hL dL_law_553 dL_law_554 dL_law_556 (by decide) dL_law_557 dL_law_558 ?_
  refine lw_arg (k := 2) (ki := 2) 1 5 2 hx hb hX hbl hA hw.2.2 hl rfl rfl (nI_add i 2) (by omega) hL dL_law_559 dL_law_560 dL_law_562 (by decide) dL_law_563 dL_law_564 ?_
  refine lw_arg (k := 3) (ki := 3) 1 5 3 hx hb hX hbl hA hw.2.2 hl rfl rfl (nI_add i 3) (by omega) hL dL_law_565 dL_law_566 dL_law_568 (by decide) dL_law_569 dL_law_570 ?_
  refine lw_M S hz hw lk_L_121 rfl hM (by decide) rfl hl.1 (Nat.le_of_ble_eq_true rfl) ⟨hcs.1, hcs.2⟩ dL_law_571 rfl (fun w v H locs hp2 hw => ?_)
  refine lv_istore (lv' := (6, .int w) :: (5, .int z) :: Ll E P2 b0 i) hx hb dL_law_574 hl (by decide) rfl (fun ls hl => ?_)
  obtain ⟨q1, q2, q3⟩ := hq _ _ _ _ hp hp2
  exact lw_tI S hz hw hl rfl rfl q1 q3 ⟨hcs.1, hcs.2⟩ dL_law_576 dL_law_577 dL_law_580 dL_law_582 dL_law_587 dL_law_589 dL_law_592 dL_law_593 dL_law_594 dL_law_595 dL_law_597 dL_law_598 dL_law_599 dL_law_604 (by decide) (fun H locs hw => kk u v H locs ls q2 hw (lv_sub hl [2, 3, 4, 5, 6] rfl))
set_option maxHeartbeats 1000000 in
theorem lc_9 {p : Program} {l : Launch} {e : Env} {s : State} {m : MethodId} {args : Array Value} {below : List Frame} {meth : Method} {c : Code} {H : Heap} {locs : List Loc} {cells slots : Nat} {Q : State → Prop} {E : En} {x y : St} {P2 : Nat → Nat} {b0 L i : Nat} {xs : Nat → Int32} {ls : Array Slot} (hfl : l.stackTraces = false) (S : CF p m c code 7 s args RL) (hz : Lz E P2 s) (hX : va_X b0 L xs s s.heap) (hbl : b0 < s.heap.size) (hA : s.heap.size ≤ eL E) (hL : L ≤ 3072) (hi : i + 6 ≤ L) (hc : cpl x.1 x.2.1 y.1 y.2.1) (hw : Lw E P2 s x y H locs) (hl : lv_has ls 7 (Ll E P2 b0 i)) (hcs : cells + 1 ≤ rmC ∧ slots + 6 ≤ rmS)
    (kk : ∀ (x y : St) (H : Heap) (locs : List Loc) (ls : Array Slot), cpl x.1 x.2.1 y.1 y.2.1 → Lw E P2 s x y H locs → lv_has ls 7 (Ll E P2 b0 i) → W p l e room_1 s m args below meth c H locs (cells + 1) (slots + 6) Q (F0 m 1591 ls [])) : W p l e room_1 s m args below meth c H locs cells slots Q (F0 m 607 ls []) := by
  have hx := S.1
  have hb := S.2.1
  obtain ⟨I, A, K⟩ := x
  obtain ⟨I', B, K'⟩ := y
  obtain ⟨pH, pM, hH, hM, hq⟩ := pr_seen l hfl E (enP E P2) I A K I' B K' (xs (i + 1)) (xs (i + 2)) (xs (i + 3)) hz.1.1 hz.1.2.1 hc
  refine lv_aload_n hx hb dL_law_607 rfl (lv_at hl 1 rfl) ?_
  refine lw_arg (k := 1) (ki := 1) 0 4 1 hx hb hX hbl hA hw.2.2 hl rfl rfl (nI_add i 1) (by omega) hL dL_law_608 dL_law_609 dL_law_611 (by decide) dL_law_612 dL_law_613 ?_
  refine lw_arg (k := 2) (ki := 2) 0 4 2 hx hb hX hbl hA hw.2.2 hl rfl rfl (nI_add i 2) (by omega) hL dL_law_614 dL_law_615 dL_law_617 (by decide) dL_law_618 dL_law_619 ?_
  refine lw_arg (k := 3) (ki := 3) 0 4 3 hx hb hX hbl hA hw.2.2 hl rfl rfl (nI_add i 3) (by omega) hL dL_law_620 dL_law_621 dL_law_623 (by decide) dL_law_624 dL_law_625 ?_
  refine lv_aload_n hx hb dL_law_626 rfl (lv_at hl 3 rfl) ?_
  refine lw_H S hz hw lkh_seen hH (by decide) rfl hl.1 (Nat.le_of_ble_eq_true rfl) hcs dL_law_627 rfl (fun z u H locs hp hw => ?_)
  refine lv_istore (lv' := (5, .int z) :: Ll E P2 b0 i) hx hb dL_law_630 hl (by decide) rfl (fun ls hl => ?_)
  refine lv_aload_n hx hb dL_law_632 rfl (lv_at hl 3 rfl) ?_
  refine lw_arg (k := 1) (ki := 1) 1 5 1 hx hb hX hbl hA hw.2.2 hl rfl rfl (nI_add i 1) (by omega) hL dL_law_633 dL_law_634 dL_law_636 (by decide) dL_law_637 dL_law_638 ?_
  refine lw_arg (k := 2) (ki := 2) 1 5 2 hx hb hX hbl hA hw.2.2 hl rfl rfl (nI_add i 2) (by omega) hL dL_law_639 dL_law_640 dL_law_642 (by decide) dL_law_643 dL_law_644 ?_
  refine lw_arg (k := 3) (ki := 3) 1 5 3 hx hb hX hbl hA hw.2.2 hl rfl rfl (nI_add i 3) (by omega) hL dL_law_645 dL_law_646 dL_law_648 (by decide) dL_law_649 dL_law_650 ?_
  refine lw_M S hz hw lk_L_124 rfl hM (by decide) rfl hl.1 (Nat.le_of_ble_eq_true rfl) ⟨hcs.1, hcs.2⟩ dL_law_651 rfl (fun w v H locs hp2 hw => ?_)
  refine lv_istore (lv' := (6, .int w) :: (5, .int z) :: Ll E P2 b0 i) hx hb dL_law_654 hl (by decide) rfl (fun ls hl => ?_)
  obtain ⟨q1, q2, q3⟩ := hq _ _ _ _ hp hp2
  exact lw_tI S hz hw hl rfl rfl q1 q3 ⟨hcs.1, hcs.2⟩ dL_law_656 dL_law_657 dL_law_660 dL_law_662 dL_law_667 dL_law_669 dL_law_672 dL_law_673 dL_law_674 dL_law_675 dL_law_677 dL_law_678 dL_law_679 dL_law_684 (by decide) (fun H locs hw => kk u v H locs ls q2 hw (lv_sub hl [2, 3, 4, 5, 6] rfl))
set_option maxHeartbeats 1000000 in
theorem lc_10 {p : Program} {l : Launch} {e : Env} {s : State} {m : MethodId} {args : Array Value} {below : List Frame} {meth : Method} {c : Code} {H : Heap} {locs : List Loc} {cells slots : Nat} {Q : State → Prop} {E : En} {x y : St} {P2 : Nat → Nat} {b0 L i : Nat} {xs : Nat → Int32} {ls : Array Slot} (hfl : l.stackTraces = false) (S : CF p m c code 7 s args RL) (hz : Lz E P2 s) (hX : va_X b0 L xs s s.heap) (hbl : b0 < s.heap.size) (hA : s.heap.size ≤ eL E) (hL : L ≤ 3072) (hi : i + 6 ≤ L) (hc : cpl x.1 x.2.1 y.1 y.2.1) (hw : Lw E P2 s x y H locs) (hl : lv_has ls 7 (Ll E P2 b0 i)) (hcs : cells + 1 ≤ rmC ∧ slots + 6 ≤ rmS)
    (kk : ∀ (x y : St) (H : Heap) (locs : List Loc) (ls : Array Slot), cpl x.1 x.2.1 y.1 y.2.1 → Lw E P2 s x y H locs → lv_has ls 7 (Ll E P2 b0 i) → W p l e room_1 s m args below meth c H locs (cells + 1) (slots + 6) Q (F0 m 1591 ls [])) : W p l e room_1 s m args below meth c H locs cells slots Q (F0 m 687 ls []) := by
  have hx := S.1
  have hb := S.2.1
  obtain ⟨I, A, K⟩ := x
  obtain ⟨I', B, K'⟩ := y
  obtain ⟨pH, pM, hH, hM, hq⟩ := pr_difference l hfl E (enP E P2) I A K I' B K' (xs (i + 1)) (xs (i + 2)) (xs (i + 3)) (xs (i + 4)) hz.1.1 hz.1.2.1 hc
  refine lv_aload_n hx hb dL_law_687 rfl (lv_at hl 1 rfl) ?_
  refine lw_arg (k := 1) (ki := 1) 0 4 1 hx hb hX hbl hA hw.2.2 hl rfl rfl (nI_add i 1) (by omega) hL dL_law_688 dL_law_689 dL_law_691 (by decide) dL_law_692 dL_law_693 ?_
  refine lw_arg (k := 2) (ki := 2) 0 4 2 hx hb hX hbl hA hw.2.2 hl rfl rfl (nI_add i 2) (by omega) hL dL_law_694 dL_law_695 dL_law_697 (by decide) dL_law_698 dL_law_699 ?_
  refine lw_arg (k := 3) (ki := 3) 0 4 3 hx hb hX hbl hA hw.2.2 hl rfl rfl (nI_add i 3) (by omega) hL dL_law_700 dL_law_701 dL_law_703 (by decide) dL_law_704 dL_law_705 ?_
  refine lw_arg (k := 4) (ki := 4) 0 4 4 hx hb hX hbl hA hw.2.2 hl rfl rfl (nI_add i 4) (by omega) hL dL_law_706 dL_law_707 dL_law_709 (by decide) dL_law_710 dL_law_711 ?_
  refine lv_aload_n hx hb dL_law_712 rfl (lv_at hl 3 rfl) ?_
  refine lw_H S hz hw lkh_difference hH (by decide) rfl hl.1 (Nat.le_of_ble_eq_true rfl) hcs dL_law_713 rfl (fun z u H locs hp hw => ?_)
  refine lv_istore (lv' := (5, .int z) :: Ll E P2 b0 i) hx hb dL_law_716 hl (by decide) rfl (fun ls hl => ?_)
  refine lv_aload_n hx hb dL_law_718 rfl (lv_at hl 3 rfl) ?_
  refine lw_arg (k := 1) (ki := 1) 1 5 1 hx hb hX hbl hA hw.2.2 hl rfl rfl (nI_add i 1) (by omega) hL dL_law_719 dL_law_720 dL_law_722 (by decide) dL_law_723 dL_law_724 ?_
  refine lw_arg (k := 2) (ki := 2) 1 5 2 hx hb hX hbl hA hw.2.2 hl rfl rfl (nI_add i 2) (by omega) hL dL_law_725 dL_law_726 dL_law_728 (by decide) dL_law_729 dL_law_730 ?_
  refine lw_arg (k := 3) (ki := 3) 1 5 3 hx hb hX hbl hA hw.2.2 hl rfl rfl (nI_add i 3) (by omega) hL dL_law_731 dL_law_732 dL_law_734 (by decide) dL_law_735 dL_law_736 ?_
  refine lw_arg (k := 4) (ki := 4) 1 5 4 hx hb hX hbl hA hw.2.2 hl rfl rfl (nI_add i 4) (by omega) hL dL_law_737 dL_law_738 dL_law_740 (by decide) dL_law_741 dL_law_742 ?_
  refine lw_M S hz hw lk_L_128 rfl hM (by decide) rfl hl.1 (Nat.le_of_ble_eq_true rfl) ⟨hcs.1, hcs.2⟩ dL_law_743 rfl (fun w v H locs hp2 hw => ?_)
  refine lv_istore (lv' := (6, .int w) :: (5, .int z) :: Ll E P2 b0 i) hx hb dL_law_746 hl (by decide) rfl (fun ls hl => ?_)
  obtain ⟨q1, q2, q3⟩ := hq _ _ _ _ hp hp2
  exact lw_tI S hz hw hl rfl rfl q1 q3 ⟨hcs.1, hcs.2⟩ dL_law_748 dL_law_749 dL_law_752 dL_law_754 dL_law_759 dL_law_761 dL_law_764 dL_law_765 dL_law_766 dL_law_767 dL_law_769 dL_law_770 dL_law_771 dL_law_776 (by decide) (fun H locs hw => kk u v H locs ls q2 hw (lv_sub hl [2, 3, 4, 5, 6] rfl))
set_option maxHeartbeats 1000000 in
theorem lc_11 {p : Program} {l : Launch} {e : Env} {s : State} {m : MethodId} {args : Array Value} {below : List Frame} {meth : Method} {c : Code} {H : Heap} {locs : List Loc} {cells slots : Nat} {Q : State → Prop} {E : En} {x y : St} {P2 : Nat → Nat} {b0 L i : Nat} {xs : Nat → Int32} {ls : Array Slot} (hfl : l.stackTraces = false) (S : CF p m c code 7 s args RL) (hz : Lz E P2 s) (hX : va_X b0 L xs s s.heap) (hbl : b0 < s.heap.size) (hA : s.heap.size ≤ eL E) (hL : L ≤ 3072) (hi : i + 6 ≤ L) (hc : cpl x.1 x.2.1 y.1 y.2.1) (hw : Lw E P2 s x y H locs) (hl : lv_has ls 7 (Ll E P2 b0 i)) (hcs : cells + 1 ≤ rmC ∧ slots + 6 ≤ rmS)
    (kk : ∀ (x y : St) (H : Heap) (locs : List Loc) (ls : Array Slot), cpl x.1 x.2.1 y.1 y.2.1 → Lw E P2 s x y H locs → lv_has ls 7 (Ll E P2 b0 i) → W p l e room_1 s m args below meth c H locs (cells + 1) (slots + 6) Q (F0 m 1591 ls [])) : W p l e room_1 s m args below meth c H locs cells slots Q (F0 m 779 ls []) := by
  have hx := S.1
  have hb := S.2.1
  obtain ⟨I, A, K⟩ := x
  obtain ⟨I', B, K'⟩ := y
  obtain ⟨pH, pM, hH, hM, hq⟩ := pr_nearest l hfl E (enP E P2) I A K I' B K' (xs (i + 1)) (xs (i + 2)) hz.1.1 hz.1.2.1 hc
  refine lv_aload_n hx hb dL_law_779 rfl (lv_at hl 1 rfl) ?_
  refine lw_arg (k := 1) (ki := 1) 0 4 1 hx hb hX hbl hA hw.2.2 hl rfl rfl (nI_add i 1) (by omega) hL dL_law_780 dL_law_781 dL_law_783 (by decide) dL_law_784 dL_law_785 ?_
  refine lw_arg (k := 2) (ki := 2) 0 4 2 hx hb hX hbl hA hw.2.2 hl rfl rfl (nI_add i 2) (by omega) hL dL_law_786 dL_law_787 dL_law_789 (by decide) dL_law_790 dL_law_791 ?_
  refine lv_aload_n hx hb dL_law_792 rfl (lv_at hl 3 rfl) ?_
  refine lw_H S hz hw lkh_nearest hH (by decide) rfl hl.1 (Nat.le_of_ble_eq_true rfl) hcs dL_law_793 rfl (fun z u H locs hp hw => ?_)
  refine lv_istore (lv' := (5, .int z) :: Ll E P2 b0 i) hx hb dL_law_796 hl (by decide) rfl (fun ls hl => ?_)
  refine lv_aload_n hx hb dL_law_798 rfl (lv_at hl 3 rfl) ?_
  refine lw_arg (k := 1) (ki := 1) 1 5 1 hx hb hX hbl hA hw.2.2 hl rfl rfl (nI_add i 1) (by omega) hL dL_law_799 dL_law_800 dL_law_802 (by decide) dL_law_803 dL_law_804 ?_
  refine lw_arg (k := 2) (ki := 2) 1 5 2 hx hb hX hbl hA hw.2.2 hl rfl rfl (nI_add i 2) (by omega) hL dL_law_805 dL_law_806 dL_law_808 (by decide) dL_law_809 dL_law_810 ?_
  refine lw_M S hz hw lk_L_131 rfl hM (by decide) rfl hl.1 (Nat.le_of_ble_eq_true rfl) ⟨hcs.1, hcs.2⟩ dL_law_811 rfl (fun w v H locs hp2 hw => ?_)
  refine lv_istore (lv' := (6, .int w) :: (5, .int z) :: Ll E P2 b0 i) hx hb dL_law_814 hl (by decide) rfl (fun ls hl => ?_)
  obtain ⟨q1, q2, q3⟩ := hq _ _ _ _ hp hp2
  exact lw_tI S hz hw hl rfl rfl q1 q3 ⟨hcs.1, hcs.2⟩ dL_law_816 dL_law_817 dL_law_820 dL_law_822 dL_law_827 dL_law_829 dL_law_832 dL_law_833 dL_law_834 dL_law_835 dL_law_837 dL_law_838 dL_law_839 dL_law_844 (by decide) (fun H locs hw => kk u v H locs ls q2 hw (lv_sub hl [2, 3, 4, 5, 6] rfl))
set_option maxHeartbeats 1000000 in
theorem lc_12 {p : Program} {l : Launch} {e : Env} {s : State} {m : MethodId} {args : Array Value} {below : List Frame} {meth : Method} {c : Code} {H : Heap} {locs : List Loc} {cells slots : Nat} {Q : State → Prop} {E : En} {x y : St} {P2 : Nat → Nat} {b0 L i : Nat} {xs : Nat → Int32} {ls : Array Slot} (hfl : l.stackTraces = false) (S : CF p m c code 7 s args RL) (hz : Lz E P2 s) (hX : va_X b0 L xs s s.heap) (hbl : b0 < s.heap.size) (hA : s.heap.size ≤ eL E) (hL : L ≤ 3072) (hi : i + 6 ≤ L) (hc : cpl x.1 x.2.1 y.1 y.2.1) (hw : Lw E P2 s x y H locs) (hl : lv_has ls 7 (Ll E P2 b0 i)) (hcs : cells + 1 ≤ rmC ∧ slots + 6 ≤ rmS)
    (kk : ∀ (x y : St) (H : Heap) (locs : List Loc) (ls : Array Slot), cpl x.1 x.2.1 y.1 y.2.1 → Lw E P2 s x y H locs → lv_has ls 7 (Ll E P2 b0 i) → W p l e room_1 s m args below meth c H locs (cells + 1) (slots + 6) Q (F0 m 1591 ls [])) : W p l e room_1 s m args below meth c H locs cells slots Q (F0 m 847 ls []) := by
  have hx := S.1
  have hb := S.2.1
  obtain ⟨I, A, K⟩ := x
  obtain ⟨I', B, K'⟩ := y
  obtain ⟨pH, pM, hH, hM, hq⟩ := pr_need l hfl E (enP E P2) I A K I' B K' (xs (i + 1)) (xs (i + 2)) hz.1.1 hz.1.2.1 hc
  refine lv_aload_n hx hb dL_law_847 rfl (lv_at hl 1 rfl) ?_
  refine lw_arg (k := 1) (ki := 1) 0 4 1 hx hb hX hbl hA hw.2.2 hl rfl rfl (nI_add i 1) (by omega) hL dL_law_848 dL_law_849 dL_law_851 (by decide) dL_law_852 dL_law_853 ?_
  refine lw_arg (k := 2) (ki := 2) 0 4 2 hx hb hX hbl hA hw.2.2 hl rfl rfl (nI_add i 2) (by omega) hL dL_law_854 dL_law_855 dL_law_857 (by decide) dL_law_858 dL_law_859 ?_
  refine lv_aload_n hx hb dL_law_860 rfl (lv_at hl 3 rfl) ?_
  refine lw_H S hz hw lkh_need hH (by decide) rfl hl.1 (Nat.le_of_ble_eq_true rfl) hcs dL_law_861 rfl (fun z u H locs hp hw => ?_)
  refine lv_istore (lv' := (5, .int z) :: Ll E P2 b0 i) hx hb dL_law_864 hl (by decide) rfl (fun ls hl => ?_)
  refine lv_aload_n hx hb dL_law_866 rfl (lv_at hl 3 rfl) ?_
  refine lw_arg (k := 1) (ki := 1) 1 5 1 hx hb hX hbl hA hw.2.2 hl rfl rfl (nI_add i 1) (by omega) hL dL_law_867 dL_law_868 dL_law_870 (by decide) dL_law_871 dL_law_872 ?_
  refine lw_arg (k := 2) (ki := 2) 1 5 2 hx hb hX hbl hA hw.2.2 hl rfl rfl (nI_add i 2) (by omega) hL dL_law_873 dL_law_874 dL_law_876 (by decide) dL_law_877 dL_law_878 ?_
  refine lw_M S hz hw lk_L_134 rfl hM (by decide) rfl hl.1 (Nat.le_of_ble_eq_true rfl) ⟨hcs.1, hcs.2⟩ dL_law_879 rfl (fun w v H locs hp2 hw => ?_)
  refine lv_istore (lv' := (6, .int w) :: (5, .int z) :: Ll E P2 b0 i) hx hb dL_law_882 hl (by decide) rfl (fun ls hl => ?_)
  obtain ⟨q1, q2, q3⟩ := hq _ _ _ _ hp hp2
  exact lw_tI S hz hw hl rfl rfl q1 q3 ⟨hcs.1, hcs.2⟩ dL_law_884 dL_law_885 dL_law_888 dL_law_890 dL_law_895 dL_law_897 dL_law_900 dL_law_901 dL_law_902 dL_law_903 dL_law_905 dL_law_906 dL_law_907 dL_law_912 (by decide) (fun H locs hw => kk u v H locs ls q2 hw (lv_sub hl [2, 3, 4, 5, 6] rfl))
set_option maxHeartbeats 1000000 in
theorem lc_13 {p : Program} {l : Launch} {e : Env} {s : State} {m : MethodId} {args : Array Value} {below : List Frame} {meth : Method} {c : Code} {H : Heap} {locs : List Loc} {cells slots : Nat} {Q : State → Prop} {E : En} {x y : St} {P2 : Nat → Nat} {b0 L i : Nat} {xs : Nat → Int32} {ls : Array Slot} (hfl : l.stackTraces = false) (S : CF p m c code 7 s args RL) (hz : Lz E P2 s) (hX : va_X b0 L xs s s.heap) (hbl : b0 < s.heap.size) (hA : s.heap.size ≤ eL E) (hL : L ≤ 3072) (hi : i + 6 ≤ L) (hc : cpl x.1 x.2.1 y.1 y.2.1) (hw : Lw E P2 s x y H locs) (hl : lv_has ls 7 (Ll E P2 b0 i)) (hcs : cells + 1 ≤ rmC ∧ slots + 6 ≤ rmS)
    (kk : ∀ (x y : St) (H : Heap) (locs : List Loc) (ls : Array Slot), cpl x.1 x.2.1 y.1 y.2.1 → Lw E P2 s x y H locs → lv_has ls 7 (Ll E P2 b0 i) → W p l e room_1 s m args below meth c H locs (cells + 1) (slots + 6) Q (F0 m 1591 ls [])) : W p l e room_1 s m args below meth c H locs cells slots Q (F0 m 915 ls []) := by
  have hx := S.1
  have hb := S.2.1
  obtain ⟨I, A, K⟩ := x
  obtain ⟨I', B, K'⟩ := y
  obtain ⟨pH, pM, hH, hM, hq⟩ := pr_value l hfl E (enP E P2) I A K I' B K' (xs (i + 1)) (xs (i + 2)) hz.1.1 hz.1.2.1 hc
  refine lv_aload_n hx hb dL_law_915 rfl (lv_at hl 1 rfl) ?_
  refine lw_arg (k := 1) (ki := 1) 0 4 1 hx hb hX hbl hA hw.2.2 hl rfl rfl (nI_add i 1) (by omega) hL dL_law_916 dL_law_917 dL_law_919 (by decide) dL_law_920 dL_law_921 ?_
  refine lw_arg (k := 2) (ki := 2) 0 4 2 hx hb hX hbl hA hw.2.2 hl rfl rfl (nI_add i 2) (by omega) hL dL_law_922 dL_law_923 dL_law_925 (by decide) dL_law_926 dL_law_927 ?_
  refine lv_aload_n hx hb dL_law_928 rfl (lv_at hl 3 rfl) ?_
  refine lw_H S hz hw lkh_value hH (by decide) rfl hl.1 (Nat.le_of_ble_eq_true rfl) hcs dL_law_929 rfl (fun z u H locs hp hw => ?_)
  refine lv_istore (lv' := (5, .int z) :: Ll E P2 b0 i) hx hb dL_law_932 hl (by decide) rfl (fun ls hl => ?_)
  refine lv_aload_n hx hb dL_law_934 rfl (lv_at hl 3 rfl) ?_
  refine lw_arg (k := 1) (ki := 1) 1 5 1 hx hb hX hbl hA hw.2.2 hl rfl rfl (nI_add i 1) (by omega) hL dL_law_935 dL_law_936 dL_law_938 (by decide) dL_law_939 dL_law_940 ?_
  refine lw_arg (k := 2) (ki := 2) 1 5 2 hx hb hX hbl hA hw.2.2 hl rfl rfl (nI_add i 2) (by omega) hL dL_law_941 dL_law_942 dL_law_944 (by decide) dL_law_945 dL_law_946 ?_
  refine lw_M S hz hw lk_L_137 rfl hM (by decide) rfl hl.1 (Nat.le_of_ble_eq_true rfl) ⟨hcs.1, hcs.2⟩ dL_law_947 rfl (fun w v H locs hp2 hw => ?_)
  refine lv_istore (lv' := (6, .int w) :: (5, .int z) :: Ll E P2 b0 i) hx hb dL_law_950 hl (by decide) rfl (fun ls hl => ?_)
  obtain ⟨q1, q2, q3⟩ := hq _ _ _ _ hp hp2
  exact lw_tI S hz hw hl rfl rfl q1 q3 ⟨hcs.1, hcs.2⟩ dL_law_952 dL_law_953 dL_law_956 dL_law_958 dL_law_963 dL_law_965 dL_law_968 dL_law_969 dL_law_970 dL_law_971 dL_law_973 dL_law_974 dL_law_975 dL_law_980 (by decide) (fun H locs hw => kk u v H locs ls q2 hw (lv_sub hl [2, 3, 4, 5, 6] rfl))
set_option maxHeartbeats 1000000 in
theorem lc_14 {p : Program} {l : Launch} {e : Env} {s : State} {m : MethodId} {args : Array Value} {below : List Frame} {meth : Method} {c : Code} {H : Heap} {locs : List Loc} {cells slots : Nat} {Q : State → Prop} {E : En} {x y : St} {P2 : Nat → Nat} {b0 L i : Nat} {xs : Nat → Int32} {ls : Array Slot} (hfl : l.stackTraces = false) (S : CF p m c code 7 s args RL) (hz : Lz E P2 s) (hX : va_X b0 L xs s s.heap) (hbl : b0 < s.heap.size) (hA : s.heap.size ≤ eL E) (hL : L ≤ 3072) (hi : i + 6 ≤ L) (hc : cpl x.1 x.2.1 y.1 y.2.1) (hw : Lw E P2 s x y H locs) (hl : lv_has ls 7 (Ll E P2 b0 i)) (hcs : cells + 1 ≤ rmC ∧ slots + 6 ≤ rmS)
    (kk : ∀ (x y : St) (H : Heap) (locs : List Loc) (ls : Array Slot), cpl x.1 x.2.1 y.1 y.2.1 → Lw E P2 s x y H locs → lv_has ls 7 (Ll E P2 b0 i) → W p l e room_1 s m args below meth c H locs (cells + 1) (slots + 6) Q (F0 m 1591 ls [])) : W p l e room_1 s m args below meth c H locs cells slots Q (F0 m 983 ls []) := by
  have hx := S.1
  have hb := S.2.1
  obtain ⟨I, A, K⟩ := x
  obtain ⟨I', B, K'⟩ := y
  obtain ⟨pC, pM, hC, hM, hq⟩ := pr_violations l E (enP E P2) I A K I' B K'  hz.1.1 hz.1.2.1 hc
  refine lv_aload_n hx hb dL_law_983 rfl (lv_at hl 1 rfl) ?_
  refine lw_C S hz hw lk_L_138 rfl hC (by decide) rfl hl.1 (Nat.le_of_ble_eq_true rfl) ⟨by omega, by omega⟩ dL_law_984 rfl (fun z u H locs hp hw => ?_)
  refine lv_aload_n hx hb dL_law_987 rfl (lv_at hl 2 rfl) ?_
  refine lw_M S hz hw lk_L_141 rfl hM (by decide) rfl hl.1 (Nat.le_of_ble_eq_true rfl) ⟨by omega, by omega⟩ dL_law_988 rfl (fun w v H locs hp2 hw => ?_)
  obtain ⟨q1, q2⟩ := hq _ _ _ _ hp hp2
  exact lv_icmp_eq (tgt := 1591) hx hb dL_law_991 (by decide) (fun _ => W.widen (Nat.le_add_right _ _) (Nat.le_add_right _ _) (kk (u.1, u.2.1, va_up u.2.2 118 (K 118)) v H locs ls q2 hw hl)) (fun h => absurd q1 h)
set_option maxHeartbeats 1000000 in
theorem lc_15 {p : Program} {l : Launch} {e : Env} {s : State} {m : MethodId} {args : Array Value} {below : List Frame} {meth : Method} {c : Code} {H : Heap} {locs : List Loc} {cells slots : Nat} {Q : State → Prop} {E : En} {x y : St} {P2 : Nat → Nat} {b0 L i : Nat} {xs : Nat → Int32} {ls : Array Slot} (hfl : l.stackTraces = false) (S : CF p m c code 7 s args RL) (hz : Lz E P2 s) (hX : va_X b0 L xs s s.heap) (hbl : b0 < s.heap.size) (hA : s.heap.size ≤ eL E) (hL : L ≤ 3072) (hi : i + 6 ≤ L) (hc : cpl x.1 x.2.1 y.1 y.2.1) (hw : Lw E P2 s x y H locs) (hl : lv_has ls 7 (Ll E P2 b0 i)) (hcs : cells + 1 ≤ rmC ∧ slots + 6 ≤ rmS)
    (kk : ∀ (x y : St) (H : Heap) (locs : List Loc) (ls : Array Slot), cpl x.1 x.2.1 y.1 y.2.1 → Lw E P2 s x y H locs → lv_has ls 7 (Ll E P2 b0 i) → W p l e room_1 s m args below meth c H locs (cells + 1) (slots + 6) Q (F0 m 1591 ls [])) : W p l e room_1 s m args below meth c H locs cells slots Q (F0 m 996 ls []) := by
  have hx := S.1
  have hb := S.2.1
  obtain ⟨I, A, K⟩ := x
  obtain ⟨I', B, K'⟩ := y
  obtain ⟨pH, pM, hH, hM, hq⟩ := pr_violation l hfl E (enP E P2) I A K I' B K' (xs (i + 1)) hz.1.1 hz.1.2.1 hc
  refine lv_aload_n hx hb dL_law_996 rfl (lv_at hl 1 rfl) ?_
  refine lw_arg (k := 1) (ki := 1) 0 4 1 hx hb hX hbl hA hw.2.2 hl rfl rfl (nI_add i 1) (by omega) hL dL_law_997 dL_law_998 dL_law_1000 (by decide) dL_law_1001 dL_law_1002 ?_
  refine lv_aload_n hx hb dL_law_1003 rfl (lv_at hl 3 rfl) ?_
  refine lw_H S hz hw lkh_violation hH (by decide) rfl hl.1 (Nat.le_of_ble_eq_true rfl) hcs dL_law_1004 rfl (fun z u H locs hp hw => ?_)
  refine lv_istore (lv' := (5, .int z) :: Ll E P2 b0 i) hx hb dL_law_1007 hl (by decide) rfl (fun ls hl => ?_)
  refine lv_aload_n hx hb dL_law_1009 rfl (lv_at hl 3 rfl) ?_
  refine lw_arg (k := 1) (ki := 1) 1 5 1 hx hb hX hbl hA hw.2.2 hl rfl rfl (nI_add i 1) (by omega) hL dL_law_1010 dL_law_1011 dL_law_1013 (by decide) dL_law_1014 dL_law_1015 ?_
  refine lw_M S hz hw lk_L_144 rfl hM (by decide) rfl hl.1 (Nat.le_of_ble_eq_true rfl) ⟨hcs.1, hcs.2⟩ dL_law_1016 rfl (fun w v H locs hp2 hw => ?_)
  refine lv_istore (lv' := (6, .int w) :: (5, .int z) :: Ll E P2 b0 i) hx hb dL_law_1019 hl (by decide) rfl (fun ls hl => ?_)
  obtain ⟨q1, q2, q3⟩ := hq _ _ _ _ hp hp2
  exact lw_tI S hz hw hl rfl rfl q1 q3 ⟨hcs.1, hcs.2⟩ dL_law_1021 dL_law_1022 dL_law_1025 dL_law_1027 dL_law_1032 dL_law_1034 dL_law_1037 dL_law_1038 dL_law_1039 dL_law_1040 dL_law_1042 dL_law_1043 dL_law_1044 dL_law_1049 (by decide) (fun H locs hw => kk u v H locs ls q2 hw (lv_sub hl [2, 3, 4, 5, 6] rfl))
set_option maxHeartbeats 1000000 in
theorem lc_16 {p : Program} {l : Launch} {e : Env} {s : State} {m : MethodId} {args : Array Value} {below : List Frame} {meth : Method} {c : Code} {H : Heap} {locs : List Loc} {cells slots : Nat} {Q : State → Prop} {E : En} {x y : St} {P2 : Nat → Nat} {b0 L i : Nat} {xs : Nat → Int32} {ls : Array Slot} (hfl : l.stackTraces = false) (S : CF p m c code 7 s args RL) (hz : Lz E P2 s) (hX : va_X b0 L xs s s.heap) (hbl : b0 < s.heap.size) (hA : s.heap.size ≤ eL E) (hL : L ≤ 3072) (hi : i + 6 ≤ L) (hc : cpl x.1 x.2.1 y.1 y.2.1) (hw : Lw E P2 s x y H locs) (hl : lv_has ls 7 (Ll E P2 b0 i)) (hcs : cells + 1 ≤ rmC ∧ slots + 6 ≤ rmS)
    (kk : ∀ (x y : St) (H : Heap) (locs : List Loc) (ls : Array Slot), cpl x.1 x.2.1 y.1 y.2.1 → Lw E P2 s x y H locs → lv_has ls 7 (Ll E P2 b0 i) → W p l e room_1 s m args below meth c H locs (cells + 1) (slots + 6) Q (F0 m 1591 ls [])) : W p l e room_1 s m args below meth c H locs cells slots Q (F0 m 1052 ls []) := by
  have hx := S.1
  have hb := S.2.1
  obtain ⟨I, A, K⟩ := x
  obtain ⟨I', B, K'⟩ := y
  obtain ⟨pH, pM, hH, hM, hq⟩ := pr_smallestMargin l hfl E (enP E P2) I A K I' B K' (xs (i + 1)) hz.1.1 hz.1.2.1 hc
  refine lv_aload_n hx hb dL_law_1052 rfl (lv_at hl 1 rfl) ?_
  refine lw_arg (k := 1) (ki := 1) 0 4 1 hx hb hX hbl hA hw.2.2 hl rfl rfl (nI_add i 1) (by omega) hL dL_law_1053 dL_law_1054 dL_law_1056 (by decide) dL_law_1057 dL_law_1058 ?_
  refine lv_aload_n hx hb dL_law_1059 rfl (lv_at hl 3 rfl) ?_
  refine lw_H S hz hw lkh_smallestMargin hH (by decide) rfl hl.1 (Nat.le_of_ble_eq_true rfl) hcs dL_law_1060 rfl (fun z u H locs hp hw => ?_)
  refine lv_istore (lv' := (5, .int z) :: Ll E P2 b0 i) hx hb dL_law_1063 hl (by decide) rfl (fun ls hl => ?_)
  refine lv_aload_n hx hb dL_law_1065 rfl (lv_at hl 3 rfl) ?_
  refine lw_arg (k := 1) (ki := 1) 1 5 1 hx hb hX hbl hA hw.2.2 hl rfl rfl (nI_add i 1) (by omega) hL dL_law_1066 dL_law_1067 dL_law_1069 (by decide) dL_law_1070 dL_law_1071 ?_
  refine lw_M S hz hw lk_L_147 rfl hM (by decide) rfl hl.1 (Nat.le_of_ble_eq_true rfl) ⟨hcs.1, hcs.2⟩ dL_law_1072 rfl (fun w v H locs hp2 hw => ?_)
  refine lv_istore (lv' := (6, .int w) :: (5, .int z) :: Ll E P2 b0 i) hx hb dL_law_1075 hl (by decide) rfl (fun ls hl => ?_)
  obtain ⟨q1, q2, q3⟩ := hq _ _ _ _ hp hp2
  exact lw_tI S hz hw hl rfl rfl q1 q3 ⟨hcs.1, hcs.2⟩ dL_law_1077 dL_law_1078 dL_law_1081 dL_law_1083 dL_law_1088 dL_law_1090 dL_law_1093 dL_law_1094 dL_law_1095 dL_law_1096 dL_law_1098 dL_law_1099 dL_law_1100 dL_law_1105 (by decide) (fun H locs hw => kk u v H locs ls q2 hw (lv_sub hl [2, 3, 4, 5, 6] rfl))
set_option maxHeartbeats 1000000 in
theorem lc_17 {p : Program} {l : Launch} {e : Env} {s : State} {m : MethodId} {args : Array Value} {below : List Frame} {meth : Method} {c : Code} {H : Heap} {locs : List Loc} {cells slots : Nat} {Q : State → Prop} {E : En} {x y : St} {P2 : Nat → Nat} {b0 L i : Nat} {xs : Nat → Int32} {ls : Array Slot} (hfl : l.stackTraces = false) (S : CF p m c code 7 s args RL) (hz : Lz E P2 s) (hX : va_X b0 L xs s s.heap) (hbl : b0 < s.heap.size) (hA : s.heap.size ≤ eL E) (hL : L ≤ 3072) (hi : i + 6 ≤ L) (hc : cpl x.1 x.2.1 y.1 y.2.1) (hw : Lw E P2 s x y H locs) (hl : lv_has ls 7 (Ll E P2 b0 i)) (hcs : cells + 1 ≤ rmC ∧ slots + 6 ≤ rmS)
    (kk : ∀ (x y : St) (H : Heap) (locs : List Loc) (ls : Array Slot), cpl x.1 x.2.1 y.1 y.2.1 → Lw E P2 s x y H locs → lv_has ls 7 (Ll E P2 b0 i) → W p l e room_1 s m args below meth c H locs (cells + 1) (slots + 6) Q (F0 m 1591 ls [])) : W p l e room_1 s m args below meth c H locs cells slots Q (F0 m 1108 ls []) := by
  have hx := S.1
  have hb := S.2.1
  obtain ⟨I, A, K⟩ := x
  obtain ⟨I', B, K'⟩ := y
  obtain ⟨pH, pM, hH, hM, hq⟩ := pr_bestShift l hfl E (enP E P2) I A K I' B K' (xs (i + 1)) (xs (i + 2)) hz.1.1 hz.1.2.1 hc
  refine lv_aload_n hx hb dL_law_1108 rfl (lv_at hl 1 rfl) ?_
  refine lw_arg (k := 1) (ki := 1) 0 4 1 hx hb hX hbl hA hw.2.2 hl rfl rfl (nI_add i 1) (by omega) hL dL_law_1109 dL_law_1110 dL_law_1112 (by decide) dL_law_1113 dL_law_1114 ?_
  refine lw_arg (k := 2) (ki := 2) 0 4 2 hx hb hX hbl hA hw.2.2 hl rfl rfl (nI_add i 2) (by omega) hL dL_law_1115 dL_law_1116 dL_law_1118 (by decide) dL_law_1119 dL_law_1120 ?_
  refine lv_aload_n hx hb dL_law_1121 rfl (lv_at hl 3 rfl) ?_
  refine lw_H S hz hw lkh_bestShift hH (by decide) rfl hl.1 (Nat.le_of_ble_eq_true rfl) hcs dL_law_1122 rfl (fun z u H locs hp hw => ?_)
  refine lv_istore (lv' := (5, .int z) :: Ll E P2 b0 i) hx hb dL_law_1125 hl (by decide) rfl (fun ls hl => ?_)
  refine lv_aload_n hx hb dL_law_1127 rfl (lv_at hl 3 rfl) ?_
  refine lw_arg (k := 1) (ki := 1) 1 5 1 hx hb hX hbl hA hw.2.2 hl rfl rfl (nI_add i 1) (by omega) hL dL_law_1128 dL_law_1129 dL_law_1131 (by decide) dL_law_1132 dL_law_1133 ?_
  refine lw_arg (k := 2) (ki := 2) 1 5 2 hx hb hX hbl hA hw.2.2 hl rfl rfl (nI_add i 2) (by omega) hL dL_law_1134 dL_law_1135 dL_law_1137 (by decide) dL_law_1138 dL_law_1139 ?_
  refine lw_M S hz hw lk_L_150 rfl hM (by decide) rfl hl.1 (Nat.le_of_ble_eq_true rfl) ⟨hcs.1, hcs.2⟩ dL_law_1140 rfl (fun w v H locs hp2 hw => ?_)
  refine lv_istore (lv' := (6, .int w) :: (5, .int z) :: Ll E P2 b0 i) hx hb dL_law_1143 hl (by decide) rfl (fun ls hl => ?_)
  obtain ⟨q1, q2, q3⟩ := hq _ _ _ _ hp hp2
  exact lw_tI S hz hw hl rfl rfl q1 q3 ⟨hcs.1, hcs.2⟩ dL_law_1145 dL_law_1146 dL_law_1149 dL_law_1151 dL_law_1156 dL_law_1158 dL_law_1161 dL_law_1162 dL_law_1163 dL_law_1164 dL_law_1166 dL_law_1167 dL_law_1168 dL_law_1173 (by decide) (fun H locs hw => kk u v H locs ls q2 hw (lv_sub hl [2, 3, 4, 5, 6] rfl))
set_option maxHeartbeats 1000000 in
theorem lc_18 {p : Program} {l : Launch} {e : Env} {s : State} {m : MethodId} {args : Array Value} {below : List Frame} {meth : Method} {c : Code} {H : Heap} {locs : List Loc} {cells slots : Nat} {Q : State → Prop} {E : En} {x y : St} {P2 : Nat → Nat} {b0 L i : Nat} {xs : Nat → Int32} {ls : Array Slot} (hfl : l.stackTraces = false) (S : CF p m c code 7 s args RL) (hz : Lz E P2 s) (hX : va_X b0 L xs s s.heap) (hbl : b0 < s.heap.size) (hA : s.heap.size ≤ eL E) (hL : L ≤ 3072) (hi : i + 6 ≤ L) (hc : cpl x.1 x.2.1 y.1 y.2.1) (hw : Lw E P2 s x y H locs) (hl : lv_has ls 7 (Ll E P2 b0 i)) (hcs : cells + 1 ≤ rmC ∧ slots + 6 ≤ rmS)
    (kk : ∀ (x y : St) (H : Heap) (locs : List Loc) (ls : Array Slot), cpl x.1 x.2.1 y.1 y.2.1 → Lw E P2 s x y H locs → lv_has ls 7 (Ll E P2 b0 i) → W p l e room_1 s m args below meth c H locs (cells + 1) (slots + 6) Q (F0 m 1591 ls [])) : W p l e room_1 s m args below meth c H locs cells slots Q (F0 m 1176 ls []) := by
  have hx := S.1
  have hb := S.2.1
  obtain ⟨I, A, K⟩ := x
  obtain ⟨I', B, K'⟩ := y
  obtain ⟨pH, pM, hH, hM, hq⟩ := pr_shiftRole l hfl E (enP E P2) I A K I' B K' (xs (i + 1)) (xs (i + 2)) hz.1.1 hz.1.2.1 hc
  refine lv_aload_n hx hb dL_law_1176 rfl (lv_at hl 1 rfl) ?_
  refine lw_arg (k := 1) (ki := 1) 0 4 1 hx hb hX hbl hA hw.2.2 hl rfl rfl (nI_add i 1) (by omega) hL dL_law_1177 dL_law_1178 dL_law_1180 (by decide) dL_law_1181 dL_law_1182 ?_
  refine lw_arg (k := 2) (ki := 2) 0 4 2 hx hb hX hbl hA hw.2.2 hl rfl rfl (nI_add i 2) (by omega) hL dL_law_1183 dL_law_1184 dL_law_1186 (by decide) dL_law_1187 dL_law_1188 ?_
  refine lv_aload_n hx hb dL_law_1189 rfl (lv_at hl 3 rfl) ?_
  refine lw_H S hz hw lkh_shiftRole hH (by decide) rfl hl.1 (Nat.le_of_ble_eq_true rfl) hcs dL_law_1190 rfl (fun z u H locs hp hw => ?_)
  refine lv_istore (lv' := (5, .int z) :: Ll E P2 b0 i) hx hb dL_law_1193 hl (by decide) rfl (fun ls hl => ?_)
  refine lv_aload_n hx hb dL_law_1195 rfl (lv_at hl 3 rfl) ?_
  refine lw_arg (k := 1) (ki := 1) 1 5 1 hx hb hX hbl hA hw.2.2 hl rfl rfl (nI_add i 1) (by omega) hL dL_law_1196 dL_law_1197 dL_law_1199 (by decide) dL_law_1200 dL_law_1201 ?_
  refine lw_arg (k := 2) (ki := 2) 1 5 2 hx hb hX hbl hA hw.2.2 hl rfl rfl (nI_add i 2) (by omega) hL dL_law_1202 dL_law_1203 dL_law_1205 (by decide) dL_law_1206 dL_law_1207 ?_
  refine lw_M S hz hw lk_L_153 rfl hM (by decide) rfl hl.1 (Nat.le_of_ble_eq_true rfl) ⟨hcs.1, hcs.2⟩ dL_law_1208 rfl (fun w v H locs hp2 hw => ?_)
  refine lv_istore (lv' := (6, .int w) :: (5, .int z) :: Ll E P2 b0 i) hx hb dL_law_1211 hl (by decide) rfl (fun ls hl => ?_)
  obtain ⟨q1, q2, q3⟩ := hq _ _ _ _ hp hp2
  exact lw_tI S hz hw hl rfl rfl q1 q3 ⟨hcs.1, hcs.2⟩ dL_law_1213 dL_law_1214 dL_law_1217 dL_law_1219 dL_law_1224 dL_law_1226 dL_law_1229 dL_law_1230 dL_law_1231 dL_law_1232 dL_law_1234 dL_law_1235 dL_law_1236 dL_law_1241 (by decide) (fun H locs hw => kk u v H locs ls q2 hw (lv_sub hl [2, 3, 4, 5, 6] rfl))
set_option maxHeartbeats 1000000 in
theorem lc_19 {p : Program} {l : Launch} {e : Env} {s : State} {m : MethodId} {args : Array Value} {below : List Frame} {meth : Method} {c : Code} {H : Heap} {locs : List Loc} {cells slots : Nat} {Q : State → Prop} {E : En} {x y : St} {P2 : Nat → Nat} {b0 L i : Nat} {xs : Nat → Int32} {ls : Array Slot} (hfl : l.stackTraces = false) (S : CF p m c code 7 s args RL) (hz : Lz E P2 s) (hX : va_X b0 L xs s s.heap) (hbl : b0 < s.heap.size) (hA : s.heap.size ≤ eL E) (hL : L ≤ 3072) (hi : i + 6 ≤ L) (hc : cpl x.1 x.2.1 y.1 y.2.1) (hw : Lw E P2 s x y H locs) (hl : lv_has ls 7 (Ll E P2 b0 i)) (hcs : cells + 1 ≤ rmC ∧ slots + 6 ≤ rmS)
    (kk : ∀ (x y : St) (H : Heap) (locs : List Loc) (ls : Array Slot), cpl x.1 x.2.1 y.1 y.2.1 → Lw E P2 s x y H locs → lv_has ls 7 (Ll E P2 b0 i) → W p l e room_1 s m args below meth c H locs (cells + 1) (slots + 6) Q (F0 m 1591 ls [])) : W p l e room_1 s m args below meth c H locs cells slots Q (F0 m 1244 ls []) := by
  have hx := S.1
  have hb := S.2.1
  obtain ⟨I, A, K⟩ := x
  obtain ⟨I', B, K'⟩ := y
  obtain ⟨pH, pM, hH, hM, hq⟩ := pr_setColour l hfl E (enP E P2) I A K I' B K' (xs (i + 1)) (xs (i + 2)) (xs (i + 3)) hz.1.1 hz.1.2.1 hc
  refine lv_aload_n hx hb dL_law_1244 rfl (lv_at hl 1 rfl) ?_
  refine lw_arg (k := 1) (ki := 1) 0 4 1 hx hb hX hbl hA hw.2.2 hl rfl rfl (nI_add i 1) (by omega) hL dL_law_1245 dL_law_1246 dL_law_1248 (by decide) dL_law_1249 dL_law_1250 ?_
  refine lw_arg (k := 2) (ki := 2) 0 4 2 hx hb hX hbl hA hw.2.2 hl rfl rfl (nI_add i 2) (by omega) hL dL_law_1251 dL_law_1252 dL_law_1254 (by decide) dL_law_1255 dL_law_1256 ?_
  refine lw_arg (k := 3) (ki := 3) 0 4 3 hx hb hX hbl hA hw.2.2 hl rfl rfl (nI_add i 3) (by omega) hL dL_law_1257 dL_law_1258 dL_law_1260 (by decide) dL_law_1261 dL_law_1262 ?_
  refine lv_aload_n hx hb dL_law_1263 rfl (lv_at hl 3 rfl) ?_
  refine lw_H S hz hw lkh_setColour hH (by decide) rfl hl.1 (Nat.le_of_ble_eq_true rfl) hcs dL_law_1264 rfl (fun z u H locs hp hw => ?_)
  refine lv_istore (lv' := (5, .int z) :: Ll E P2 b0 i) hx hb dL_law_1267 hl (by decide) rfl (fun ls hl => ?_)
  refine lv_aload_n hx hb dL_law_1269 rfl (lv_at hl 3 rfl) ?_
  refine lw_arg (k := 1) (ki := 1) 1 5 1 hx hb hX hbl hA hw.2.2 hl rfl rfl (nI_add i 1) (by omega) hL dL_law_1270 dL_law_1271 dL_law_1273 (by decide) dL_law_1274 dL_law_1275 ?_
  refine lw_arg (k := 2) (ki := 2) 1 5 2 hx hb hX hbl hA hw.2.2 hl rfl rfl (nI_add i 2) (by omega) hL dL_law_1276 dL_law_1277 dL_law_1279 (by decide) dL_law_1280 dL_law_1281 ?_
  refine lw_arg (k := 3) (ki := 3) 1 5 3 hx hb hX hbl hA hw.2.2 hl rfl rfl (nI_add i 3) (by omega) hL dL_law_1282 dL_law_1283 dL_law_1285 (by decide) dL_law_1286 dL_law_1287 ?_
  refine lw_M S hz hw lk_L_156 rfl hM (by decide) rfl hl.1 (Nat.le_of_ble_eq_true rfl) ⟨hcs.1, hcs.2⟩ dL_law_1288 rfl (fun w v H locs hp2 hw => ?_)
  refine lv_istore (lv' := (6, .int w) :: (5, .int z) :: Ll E P2 b0 i) hx hb dL_law_1291 hl (by decide) rfl (fun ls hl => ?_)
  obtain ⟨q1, q2, q3⟩ := hq _ _ _ _ hp hp2
  exact lw_tI S hz hw hl rfl rfl q1 q3 ⟨hcs.1, hcs.2⟩ dL_law_1293 dL_law_1294 dL_law_1297 dL_law_1299 dL_law_1304 dL_law_1306 dL_law_1309 dL_law_1310 dL_law_1311 dL_law_1312 dL_law_1314 dL_law_1315 dL_law_1316 dL_law_1321 (by decide) (fun H locs hw => kk u v H locs ls q2 hw (lv_sub hl [2, 3, 4, 5, 6] rfl))
set_option maxHeartbeats 1000000 in
theorem lc_20 {p : Program} {l : Launch} {e : Env} {s : State} {m : MethodId} {args : Array Value} {below : List Frame} {meth : Method} {c : Code} {H : Heap} {locs : List Loc} {cells slots : Nat} {Q : State → Prop} {E : En} {x y : St} {P2 : Nat → Nat} {b0 L i : Nat} {xs : Nat → Int32} {ls : Array Slot} (hfl : l.stackTraces = false) (S : CF p m c code 7 s args RL) (hz : Lz E P2 s) (hX : va_X b0 L xs s s.heap) (hbl : b0 < s.heap.size) (hA : s.heap.size ≤ eL E) (hL : L ≤ 3072) (hi : i + 6 ≤ L) (hc : cpl x.1 x.2.1 y.1 y.2.1) (hw : Lw E P2 s x y H locs) (hl : lv_has ls 7 (Ll E P2 b0 i)) (hcs : cells + 1 ≤ rmC ∧ slots + 6 ≤ rmS)
    (kk : ∀ (x y : St) (H : Heap) (locs : List Loc) (ls : Array Slot), cpl x.1 x.2.1 y.1 y.2.1 → Lw E P2 s x y H locs → lv_has ls 7 (Ll E P2 b0 i) → W p l e room_1 s m args below meth c H locs (cells + 1) (slots + 6) Q (F0 m 1591 ls [])) : W p l e room_1 s m args below meth c H locs cells slots Q (F0 m 1324 ls []) := by
  have hx := S.1
  have hb := S.2.1
  obtain ⟨I, A, K⟩ := x
  obtain ⟨I', B, K'⟩ := y
  obtain ⟨pH, pM, hH, hM, hq⟩ := pr_setFixed l hfl E (enP E P2) I A K I' B K' (xs (i + 1)) (if xs (i + 2) = 0 then 0 else 1) (b01 _) hz.1.1 hz.1.2.1 hc
  refine lv_aload_n hx hb dL_law_1324 rfl (lv_at hl 1 rfl) ?_
  refine lw_arg (k := 1) (ki := 1) 0 4 1 hx hb hX hbl hA hw.2.2 hl rfl rfl (nI_add i 1) (by omega) hL dL_law_1325 dL_law_1326 dL_law_1328 (by decide) dL_law_1329 dL_law_1330 ?_
  refine lw_arg (k := 2) (ki := 2) 0 4 2 hx hb hX hbl hA hw.2.2 hl rfl rfl (nI_add i 2) (by omega) hL dL_law_1331 dL_law_1332 dL_law_1334 (by decide) dL_law_1335 dL_law_1336 ?_
  refine lw_b01 hx hb dL_law_1337 dL_law_1340 dL_law_1341 dL_law_1344 ?_
  refine lv_aload_n hx hb dL_law_1345 rfl (lv_at hl 3 rfl) ?_
  refine lw_H S hz hw lkh_setFixed hH (by decide) rfl hl.1 (Nat.le_of_ble_eq_true rfl) hcs dL_law_1346 rfl (fun z u H locs hp hw => ?_)
  refine lv_istore (lv' := (5, .int z) :: Ll E P2 b0 i) hx hb dL_law_1349 hl (by decide) rfl (fun ls hl => ?_)
  refine lv_aload_n hx hb dL_law_1351 rfl (lv_at hl 3 rfl) ?_
  refine lw_arg (k := 1) (ki := 1) 1 5 1 hx hb hX hbl hA hw.2.2 hl rfl rfl (nI_add i 1) (by omega) hL dL_law_1352 dL_law_1353 dL_law_1355 (by decide) dL_law_1356 dL_law_1357 ?_
  refine lw_arg (k := 2) (ki := 2) 1 5 2 hx hb hX hbl hA hw.2.2 hl rfl rfl (nI_add i 2) (by omega) hL dL_law_1358 dL_law_1359 dL_law_1361 (by decide) dL_law_1362 dL_law_1363 ?_
  refine lw_b01 hx hb dL_law_1364 dL_law_1367 dL_law_1368 dL_law_1371 ?_
  refine lw_M S hz hw lk_L_160 rfl hM (by decide) rfl hl.1 (Nat.le_of_ble_eq_true rfl) ⟨hcs.1, hcs.2⟩ dL_law_1372 rfl (fun w v H locs hp2 hw => ?_)
  refine lv_istore (lv' := (6, .int w) :: (5, .int z) :: Ll E P2 b0 i) hx hb dL_law_1375 hl (by decide) rfl (fun ls hl => ?_)
  obtain ⟨q1, q2, q3⟩ := hq _ _ _ _ hp hp2
  exact lw_tB S hz hw hl rfl rfl q1 q3 ⟨hcs.1, hcs.2⟩ dL_law_1377 dL_law_1378 dL_law_1381 dL_law_1383 dL_law_1388 dL_law_1390 dL_law_1393 dL_law_1394 dL_law_1395 dL_law_1396 dL_law_1398 dL_law_1401 dL_law_1402 dL_law_1405 dL_law_1406 dL_law_1407 dL_law_1412 (by decide) (fun H locs hw => kk u v H locs ls q2 hw (lv_sub hl [2, 3, 4, 5, 6] rfl))
set_option maxHeartbeats 1000000 in
theorem lc_21 {p : Program} {l : Launch} {e : Env} {s : State} {m : MethodId} {args : Array Value} {below : List Frame} {meth : Method} {c : Code} {H : Heap} {locs : List Loc} {cells slots : Nat} {Q : State → Prop} {E : En} {x y : St} {P2 : Nat → Nat} {b0 L i : Nat} {xs : Nat → Int32} {ls : Array Slot} (hfl : l.stackTraces = false) (S : CF p m c code 7 s args RL) (hz : Lz E P2 s) (hX : va_X b0 L xs s s.heap) (hbl : b0 < s.heap.size) (hA : s.heap.size ≤ eL E) (hL : L ≤ 3072) (hi : i + 6 ≤ L) (hc : cpl x.1 x.2.1 y.1 y.2.1) (hw : Lw E P2 s x y H locs) (hl : lv_has ls 7 (Ll E P2 b0 i)) (hcs : cells + 1 ≤ rmC ∧ slots + 6 ≤ rmS)
    (kk : ∀ (x y : St) (H : Heap) (locs : List Loc) (ls : Array Slot), cpl x.1 x.2.1 y.1 y.2.1 → Lw E P2 s x y H locs → lv_has ls 7 (Ll E P2 b0 i) → W p l e room_1 s m args below meth c H locs (cells + 1) (slots + 6) Q (F0 m 1591 ls [])) : W p l e room_1 s m args below meth c H locs cells slots Q (F0 m 1415 ls []) := by
  have hx := S.1
  have hb := S.2.1
  obtain ⟨I, A, K⟩ := x
  obtain ⟨I', B, K'⟩ := y
  obtain ⟨pH, pM, hH, hM, hq⟩ := pr_shift l hfl E (enP E P2) I A K I' B K' (xs (i + 1)) (xs (i + 2)) (xs (i + 3)) hz.1.1 hz.1.2.1 hc
  refine lv_aload_n hx hb dL_law_1415 rfl (lv_at hl 1 rfl) ?_
  refine lw_arg (k := 1) (ki := 1) 0 4 1 hx hb hX hbl hA hw.2.2 hl rfl rfl (nI_add i 1) (by omega) hL dL_law_1416 dL_law_1417 dL_law_1419 (by decide) dL_law_1420 dL_law_1421 ?_
  refine lw_arg (k := 2) (ki := 2) 0 4 2 hx hb hX hbl hA hw.2.2 hl rfl rfl (nI_add i 2) (by omega) hL dL_law_1422 dL_law_1423 dL_law_1425 (by decide) dL_law_1426 dL_law_1427 ?_
  refine lw_arg (k := 3) (ki := 3) 0 4 3 hx hb hX hbl hA hw.2.2 hl rfl rfl (nI_add i 3) (by omega) hL dL_law_1428 dL_law_1429 dL_law_1431 (by decide) dL_law_1432 dL_law_1433 ?_
  refine lv_aload_n hx hb dL_law_1434 rfl (lv_at hl 3 rfl) ?_
  refine lw_H S hz hw lkh_shift hH (by decide) rfl hl.1 (Nat.le_of_ble_eq_true rfl) hcs dL_law_1435 rfl (fun z u H locs hp hw => ?_)
  refine lv_istore (lv' := (5, .int z) :: Ll E P2 b0 i) hx hb dL_law_1438 hl (by decide) rfl (fun ls hl => ?_)
  refine lv_aload_n hx hb dL_law_1440 rfl (lv_at hl 3 rfl) ?_
  refine lw_arg (k := 1) (ki := 1) 1 5 1 hx hb hX hbl hA hw.2.2 hl rfl rfl (nI_add i 1) (by omega) hL dL_law_1441 dL_law_1442 dL_law_1444 (by decide) dL_law_1445 dL_law_1446 ?_
  refine lw_arg (k := 2) (ki := 2) 1 5 2 hx hb hX hbl hA hw.2.2 hl rfl rfl (nI_add i 2) (by omega) hL dL_law_1447 dL_law_1448 dL_law_1450 (by decide) dL_law_1451 dL_law_1452 ?_
  refine lw_arg (k := 3) (ki := 3) 1 5 3 hx hb hX hbl hA hw.2.2 hl rfl rfl (nI_add i 3) (by omega) hL dL_law_1453 dL_law_1454 dL_law_1456 (by decide) dL_law_1457 dL_law_1458 ?_
  refine lw_M S hz hw lk_L_163 rfl hM (by decide) rfl hl.1 (Nat.le_of_ble_eq_true rfl) ⟨hcs.1, hcs.2⟩ dL_law_1459 rfl (fun w v H locs hp2 hw => ?_)
  refine lv_istore (lv' := (6, .int w) :: (5, .int z) :: Ll E P2 b0 i) hx hb dL_law_1462 hl (by decide) rfl (fun ls hl => ?_)
  obtain ⟨q1, q2, q3⟩ := hq _ _ _ _ hp hp2
  exact lw_tI S hz hw hl rfl rfl q1 q3 ⟨hcs.1, hcs.2⟩ dL_law_1464 dL_law_1465 dL_law_1468 dL_law_1470 dL_law_1475 dL_law_1477 dL_law_1480 dL_law_1481 dL_law_1482 dL_law_1483 dL_law_1485 dL_law_1486 dL_law_1487 dL_law_1492 (by decide) (fun H locs hw => kk u v H locs ls q2 hw (lv_sub hl [2, 3, 4, 5, 6] rfl))
set_option maxHeartbeats 1000000 in
theorem lc_22 {p : Program} {l : Launch} {e : Env} {s : State} {m : MethodId} {args : Array Value} {below : List Frame} {meth : Method} {c : Code} {H : Heap} {locs : List Loc} {cells slots : Nat} {Q : State → Prop} {E : En} {x y : St} {P2 : Nat → Nat} {b0 L i : Nat} {xs : Nat → Int32} {ls : Array Slot} (hfl : l.stackTraces = false) (S : CF p m c code 7 s args RL) (hz : Lz E P2 s) (hX : va_X b0 L xs s s.heap) (hbl : b0 < s.heap.size) (hA : s.heap.size ≤ eL E) (hL : L ≤ 3072) (hi : i + 6 ≤ L) (hc : cpl x.1 x.2.1 y.1 y.2.1) (hw : Lw E P2 s x y H locs) (hl : lv_has ls 7 (Ll E P2 b0 i)) (hcs : cells + 1 ≤ rmC ∧ slots + 6 ≤ rmS)
    (kk : ∀ (x y : St) (H : Heap) (locs : List Loc) (ls : Array Slot), cpl x.1 x.2.1 y.1 y.2.1 → Lw E P2 s x y H locs → lv_has ls 7 (Ll E P2 b0 i) → W p l e room_1 s m args below meth c H locs (cells + 1) (slots + 6) Q (F0 m 1591 ls [])) : W p l e room_1 s m args below meth c H locs cells slots Q (F0 m 1495 ls []) := by
  have hx := S.1
  have hb := S.2.1
  obtain ⟨I, A, K⟩ := x
  obtain ⟨I', B, K'⟩ := y
  obtain ⟨pH, pM, hH, hM, hq⟩ := pr_repair l hfl E (enP E P2) I A K I' B K' (xs (i + 1)) hz.1.1 hz.1.2.1 hc
  refine lv_aload_n hx hb dL_law_1495 rfl (lv_at hl 1 rfl) ?_
  refine lw_arg (k := 1) (ki := 1) 0 4 1 hx hb hX hbl hA hw.2.2 hl rfl rfl (nI_add i 1) (by omega) hL dL_law_1496 dL_law_1497 dL_law_1499 (by decide) dL_law_1500 dL_law_1501 ?_
  refine lv_aload_n hx hb dL_law_1502 rfl (lv_at hl 3 rfl) ?_
  refine lw_H S hz hw lkh_repair hH (by decide) rfl hl.1 (Nat.le_of_ble_eq_true rfl) hcs dL_law_1503 rfl (fun z u H locs hp hw => ?_)
  refine lv_istore (lv' := (5, .int z) :: Ll E P2 b0 i) hx hb dL_law_1506 hl (by decide) rfl (fun ls hl => ?_)
  refine lv_aload_n hx hb dL_law_1508 rfl (lv_at hl 3 rfl) ?_
  refine lw_arg (k := 1) (ki := 1) 1 5 1 hx hb hX hbl hA hw.2.2 hl rfl rfl (nI_add i 1) (by omega) hL dL_law_1509 dL_law_1510 dL_law_1512 (by decide) dL_law_1513 dL_law_1514 ?_
  refine lw_M S hz hw lk_L_166 rfl hM (by decide) rfl hl.1 (Nat.le_of_ble_eq_true rfl) ⟨hcs.1, hcs.2⟩ dL_law_1515 rfl (fun w v H locs hp2 hw => ?_)
  refine lv_istore (lv' := (6, .int w) :: (5, .int z) :: Ll E P2 b0 i) hx hb dL_law_1518 hl (by decide) rfl (fun ls hl => ?_)
  obtain ⟨q1, q2, q3⟩ := hq _ _ _ _ hp hp2
  exact lw_tI S hz hw hl rfl rfl q1 q3 ⟨hcs.1, hcs.2⟩ dL_law_1520 dL_law_1521 dL_law_1524 dL_law_1526 dL_law_1531 dL_law_1533 dL_law_1536 dL_law_1537 dL_law_1538 dL_law_1539 dL_law_1541 dL_law_1542 dL_law_1543 dL_law_1548 (by decide) (fun H locs hw => kk u v H locs ls q2 hw (lv_sub hl [2, 3, 4, 5, 6] rfl))
set_option maxHeartbeats 1000000 in
theorem lc_23 {p : Program} {l : Launch} {e : Env} {s : State} {m : MethodId} {args : Array Value} {below : List Frame} {meth : Method} {c : Code} {H : Heap} {locs : List Loc} {cells slots : Nat} {Q : State → Prop} {E : En} {x y : St} {P2 : Nat → Nat} {b0 L i : Nat} {xs : Nat → Int32} {ls : Array Slot} (hfl : l.stackTraces = false) (S : CF p m c code 7 s args RL) (hz : Lz E P2 s) (hX : va_X b0 L xs s s.heap) (hbl : b0 < s.heap.size) (hA : s.heap.size ≤ eL E) (hL : L ≤ 3072) (hi : i + 6 ≤ L) (hc : cpl x.1 x.2.1 y.1 y.2.1) (hw : Lw E P2 s x y H locs) (hl : lv_has ls 7 (Ll E P2 b0 i)) (hcs : cells + 1 ≤ rmC ∧ slots + 6 ≤ rmS)
    (kk : ∀ (x y : St) (H : Heap) (locs : List Loc) (ls : Array Slot), cpl x.1 x.2.1 y.1 y.2.1 → Lw E P2 s x y H locs → lv_has ls 7 (Ll E P2 b0 i) → W p l e room_1 s m args below meth c H locs (cells + 1) (slots + 6) Q (F0 m 1591 ls [])) : W p l e room_1 s m args below meth c H locs cells slots Q (F0 m 1551 ls []) := by
  have hx := S.1
  have hb := S.2.1
  obtain ⟨I, A, K⟩ := x
  obtain ⟨I', B, K'⟩ := y
  obtain ⟨pC, pM, hC, hM, hq⟩ := pr_swapSchemes l E (enP E P2) I A K I' B K'  hz.1.1 hz.1.2.1 hc
  refine lv_aload_n hx hb dL_law_1551 rfl (lv_at hl 1 rfl) ?_
  refine lw_C S hz hw lk_L_167 rfl hC (by decide) rfl hl.1 (Nat.le_of_ble_eq_true rfl) ⟨by omega, by omega⟩ dL_law_1552 rfl (fun z u H locs hp hw => ?_)
  refine lv_aload_n hx hb dL_law_1555 rfl (lv_at hl 2 rfl) ?_
  refine lw_M S hz hw lk_L_170 rfl hM (by decide) rfl hl.1 (Nat.le_of_ble_eq_true rfl) ⟨by omega, by omega⟩ dL_law_1556 rfl (fun w v H locs hp2 hw => ?_)
  obtain ⟨q1, q2⟩ := hq _ _ _ _ hp hp2
  exact lv_icmp_eq (tgt := 1591) hx hb dL_law_1559 (by decide) (fun _ => W.widen (Nat.le_add_right _ _) (Nat.le_add_right _ _) (kk (u.1, u.2.1, va_up u.2.2 118 (K 118)) v H locs ls q2 hw hl)) (fun h => absurd q1 h)
set_option maxHeartbeats 1000000 in
theorem lc_24 {p : Program} {l : Launch} {e : Env} {s : State} {m : MethodId} {args : Array Value} {below : List Frame} {meth : Method} {c : Code} {H : Heap} {locs : List Loc} {cells slots : Nat} {Q : State → Prop} {E : En} {x y : St} {P2 : Nat → Nat} {b0 L i : Nat} {xs : Nat → Int32} {ls : Array Slot} (hfl : l.stackTraces = false) (S : CF p m c code 7 s args RL) (hz : Lz E P2 s) (hX : va_X b0 L xs s s.heap) (hbl : b0 < s.heap.size) (hA : s.heap.size ≤ eL E) (hL : L ≤ 3072) (hi : i + 6 ≤ L) (hc : cpl x.1 x.2.1 y.1 y.2.1) (hw : Lw E P2 s x y H locs) (hl : lv_has ls 7 (Ll E P2 b0 i)) (hcs : cells + 1 ≤ rmC ∧ slots + 6 ≤ rmS)
    (kk : ∀ (x y : St) (H : Heap) (locs : List Loc) (ls : Array Slot), cpl x.1 x.2.1 y.1 y.2.1 → Lw E P2 s x y H locs → lv_has ls 7 (Ll E P2 b0 i) → W p l e room_1 s m args below meth c H locs (cells + 1) (slots + 6) Q (F0 m 1591 ls [])) : W p l e room_1 s m args below meth c H locs cells slots Q (F0 m 1564 ls []) := by
  have hx := S.1
  have hb := S.2.1
  obtain ⟨I, A, K⟩ := x
  obtain ⟨I', B, K'⟩ := y
  obtain ⟨pC, pM, hC, hM, hq⟩ := pr_undo l E (enP E P2) I A K I' B K'  hz.1.1 hz.1.2.1 hc
  refine lv_aload_n hx hb dL_law_1564 rfl (lv_at hl 1 rfl) ?_
  refine lw_C S hz hw lk_L_171 rfl hC (by decide) rfl hl.1 (Nat.le_of_ble_eq_true rfl) ⟨by omega, by omega⟩ dL_law_1565 rfl (fun z u H locs hp hw => ?_)
  refine lv_aload_n hx hb dL_law_1568 rfl (lv_at hl 2 rfl) ?_
  refine lw_M S hz hw lk_L_174 rfl hM (by decide) rfl hl.1 (Nat.le_of_ble_eq_true rfl) ⟨by omega, by omega⟩ dL_law_1569 rfl (fun w v H locs hp2 hw => ?_)
  obtain ⟨q1, q2⟩ := hq _ _ _ _ hp hp2
  exact lv_icmp_eq (tgt := 1591) hx hb dL_law_1572 (by decide) (fun _ => W.widen (Nat.le_add_right _ _) (Nat.le_add_right _ _) (kk (u.1, u.2.1, va_up u.2.2 118 (K 118)) v H locs ls q2 hw hl)) (fun h => absurd q1 h)
set_option maxHeartbeats 1000000 in
theorem lc_25 {p : Program} {l : Launch} {e : Env} {s : State} {m : MethodId} {args : Array Value} {below : List Frame} {meth : Method} {c : Code} {H : Heap} {locs : List Loc} {cells slots : Nat} {Q : State → Prop} {E : En} {x y : St} {P2 : Nat → Nat} {b0 L i : Nat} {xs : Nat → Int32} {ls : Array Slot} (hfl : l.stackTraces = false) (S : CF p m c code 7 s args RL) (hz : Lz E P2 s) (hX : va_X b0 L xs s s.heap) (hbl : b0 < s.heap.size) (hA : s.heap.size ≤ eL E) (hL : L ≤ 3072) (hi : i + 6 ≤ L) (hc : cpl x.1 x.2.1 y.1 y.2.1) (hw : Lw E P2 s x y H locs) (hl : lv_has ls 7 (Ll E P2 b0 i)) (hcs : cells + 1 ≤ rmC ∧ slots + 6 ≤ rmS)
    (kk : ∀ (x y : St) (H : Heap) (locs : List Loc) (ls : Array Slot), cpl x.1 x.2.1 y.1 y.2.1 → Lw E P2 s x y H locs → lv_has ls 7 (Ll E P2 b0 i) → W p l e room_1 s m args below meth c H locs (cells + 1) (slots + 6) Q (F0 m 1591 ls [])) : W p l e room_1 s m args below meth c H locs cells slots Q (F0 m 1577 ls []) := by
  have hx := S.1
  have hb := S.2.1
  obtain ⟨I, A, K⟩ := x
  obtain ⟨I', B, K'⟩ := y
  obtain ⟨bl, nx, kp, nr, nu, h⟩ := hc
  obtain ⟨hD, hM, hv, hnr, hnu⟩ := cpl_ok h
  obtain ⟨hP, hP2, hS⟩ := hw
  have hU := lw_U (kd := kO) hz.2.1 hz.2.2 hP hS
  have hcs0 : cells + 0 ≤ rmC ∧ slots + 0 ≤ rmS := ⟨by omega, by omega⟩
  refine lv_aload_n hx hb dL_law_1577 rfl (lv_at hl 1 rfl) ?_
  refine cn_sl (ck_V (a := eP E 0) S lk_L_175 (c_X6_checksum l E I A K nr nu (ev_c hz.1.1) hD) ⟨rfl, rfl⟩ ⟨Nat.le_of_ble_eq_true rfl, Nat.le_of_ble_eq_true rfl⟩ bl_w (rc_w hz.2.1 (wO_c hP) 0 (by decide) (cK_lo (by decide)) rfl) (fun U h1 h2 => ⟨(hU U h1 h2).1, (hU U h1 h2).2.1, wO_c (hU U h1 h2).2.2⟩) rfl hl.1 (Nat.le_of_ble_eq_true rfl) ⟨hcs0.1, hcs0.2⟩ dL_law_1578 rfl) (fun z hzz => ?_)
  refine lv_aload_n hx hb dL_law_1581 rfl (lv_at hl 2 rfl) ?_
  have hK2 : Vk (enP E P2) s := hz.2.1
  have hC2 : Stc (enP E P2) s s.heap := hz.2.2
  have hS2 : va_S (eA (enP E P2)) s.heap H locs := hS
  refine va_calll (ck_V (a := P2 0) S lk_L_179 (c_X7_checksum l (enP E P2) I' B K' nr nu hz.1.2.1 hM) ⟨rfl, rfl⟩ ⟨Nat.le_of_ble_eq_true rfl, Nat.le_of_ble_eq_true rfl⟩ bl_w (rc_w hK2 hP2 0 (by decide) rfl rfl) (lw_U hK2 hC2 hP2 hS2) rfl hl.1 (Nat.le_of_ble_eq_true rfl) ⟨hcs0.1, hcs0.2⟩ dL_law_1582 rfl) hS (fun _ _ h => lw_A (E := enP E P2) hz.1.2.1 h) (fun _ h => lw_A (E := enP E P2) hz.1.2.1 h) (fun w v t H1 locs1 ht _ hp hB _ hk1 hS1 => ?_)
  obtain ⟨hw, rfl⟩ := hp
  have e : z = w := by
    rw [hzz, hw, vM_ckU hv nu (Nat.le_refl _), vM_ckR hv nr (Nat.le_refl _)]
  refine W.lcmp hx hb dL_law_1585 ?_
  refine lv_if_eq (tgt := 1591) hx hb dL_law_1586 (by decide) (fun _ => ?_) (fun h => absurd (lc_eq.mpr e) h)
  refine W.widen (Nat.le_add_right _ _) (Nat.le_add_right _ _) (kk (I, A, K) (up2 I' 0 0 0, B, K') H1 locs1 ls (cpl_of (cpl_th h)) ⟨lw_k1 hz hP hk1, ?_, hS1⟩ hl)
  rw [← ht]
  exact hB
