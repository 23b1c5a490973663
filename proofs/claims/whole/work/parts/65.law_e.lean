/-! the law's rows -/
/-- the room as the Statement has it: its numbers are measured anew at every TURN, so no row names them -/
abbrev rmC : Nat := room_1.cells
abbrev rmS : Nat := room_1.slots
def Lz (E : En) (P2 : Nat → Nat) (s : State) : Prop := (Ev 119 E ∧ Ev mN (enP E P2) ∧ ∀ i j, i < 119 → j < mN → eP E i ≠ P2 j) ∧ Vk E s ∧ Stc E s s.heap
def Lw (E : En) (P2 : Nat → Nat) (s : State) (x y : St) (H : Heap) (locs : List Loc) : Prop := Wp 119 E kO x H ∧ Wp mN (enP E P2) mK y H ∧ va_S (eA E) s.heap H locs
def Ll (E : En) (P2 : Nat → Nat) (b i : Nat) : List (Nat × Value) := [(0, .ref b), (1, .ref (eP E 0)), (2, .ref (P2 0)), (3, .ref (eP E 118)), (4, .int (nI i))]
section LR
variable {p : Program} {l : Launch} {e : Env} {s : State} {m : MethodId} {args : Array Value} {below : List Frame} {meth : Method} {c : Code} {H : Heap} {locs : List Loc} {cells slots : Nat} {Q : State → Prop}
variable {b : ByteArray} {nL pc idx maxL n N i : Nat} {ls : Array Slot} {rest av st0 : List Value} {own : String} {E : En} {kd : Nat → Lk} {x y z : St} {yy : MethodName} {ret : Option FieldType} {post : Int32 → St → Prop} {P2 : Nat → Nat} {b0 L : Nat} {xs : Nat → Int32}
theorem lw_U (hK : Vk E s) (hC : Stc E s s.heap) (hP : Wp N E kd x H) (hS : va_S (eA E) s.heap H locs) : ∀ U : State, U.heap = H → s.WarmedH U.vm → Bw N E kd x U := by
  intro U hU hW
  refine ⟨va_K.moved hW.alike hK, (hC.warm hW).kept (fun a h1 h2 => ?_), by rw [hU]; exact hP⟩
  rw [hU]
  exact hS.2.1 a h1 (fun h => absurd h (Nat.not_le.mpr h2))
theorem lw_A (hE : Ev N E) {q : Nat} (h : cA N E q) : eA E q := by
  obtain ⟨i, hi, rfl⟩ := h
  exact hE.2 i hi
theorem lw_k2 {H1 : Heap} (hz : Lz E P2 s) (hP : Wp mN (enP E P2) mK y H) (hk : ∀ q, q < H.size → ¬ cA 119 E q → H1[q]? = H[q]?) : Wp mN (enP E P2) mK y H1 := by
  refine hP.kept (fun k q hq => ?_)
  obtain ⟨h1, rfl⟩ := fw_get hq
  refine hk _ (hP k _ hq).lt ?_
  rintro ⟨j, hj, e⟩
  exact hz.1.2.2 j k hj h1 e.symm
theorem lw_k1 {H1 : Heap} (hz : Lz E P2 s) (hP : Wp 119 E kO x H) (hk : ∀ q, q < H.size → ¬ cA mN (enP E P2) q → H1[q]? = H[q]?) : Wp 119 E kO x H1 := by
  refine hP.kept (fun k q hq => ?_)
  obtain ⟨h1, rfl⟩ := fw_get hq
  refine hk _ (hP k _ hq).lt ?_
  rintro ⟨j, hj, e⟩
  exact hz.1.2.2 k j h1 hj e
theorem vc_6 : vwCl[5]? = some ("ColorScheme", TX6, 7) := rfl
/-- a helper -/
theorem lw_H {hh : List (Nat × Nat × Nat × Nat)} (S : CF p m c code nL s args own) (hz : Lz E P2 s) (hw : Lw E P2 s x y H locs) (L : LkH own idx yy b maxL hh n) (hM : Mh l yy b maxL hh E av x post) (hmx : maxL ≤ 100) (hn : av.length = n) (hsz : ls.size = nL) (hcat : (rest.map fun v => v.category).sum ≤ 8) (hcs : cells + 1 ≤ rmC ∧ slots + 6 ≤ rmS) (hdg : decode code pc = .ok (.invokestatic idx, 3)) (hst : st0 = av.reverse ++ rest)
    (kk : ∀ (r : Int32) (u : St) (H : Heap) (locs : List Loc), post r u → Lw E P2 s u y H locs → W p l e room_1 s m args below meth c H locs (cells + 1) (slots + 6) Q (F0 m (pc + 3) ls (.int r :: rest))) : W p l e room_1 s m args below meth c H locs cells slots Q (F0 m pc ls st0) := by
  obtain ⟨hP, hP2, hS⟩ := hw
  exact va_calli (mh_S S L hM ⟨by decide, Nat.le_trans (show 8 + (maxL + 11) + 2100 ≤ 3000 by omega) (Nat.le_of_ble_eq_true rfl)⟩ (lw_U hz.2.1 hz.2.2 hP hS) hn hsz hcat hcs hdg hst) hS (fun _ _ h => lw_A hz.1.1 h) (fun _ h => lw_A hz.1.1 h) (fun r u t H1 locs1 ht _ hp hB _ hk1 hS1 => kk r u H1 locs1 hp ⟨by rw [← ht]; exact hB, lw_k2 hz hP2 hk1, hS1⟩)
/-- a method of the component -/
theorem lw_C (S : CF p m c code nL s args own) (hz : Lz E P2 s) (hw : Lw E P2 s x y H locs) (L : LkV own idx yy b maxL ret n) (hy : yy.cls = "ColorScheme") (hM : Ma l yy b maxL ret cN E cK (.ref (eP E 0) :: av) x post) (hmx : maxL ≤ 100) (hn : av.length = n) (hsz : ls.size = nL) (hcat : (rest.map fun v => v.category).sum ≤ 8) (hcs : cells + 0 ≤ rmC ∧ slots + 0 ≤ rmS) (hdg : decode code pc = .ok (.invokevirtual idx, 3)) (hst : st0 = av.reverse ++ .ref (eP E 0) :: rest)
    (kk : ∀ (r : Int32) (u : St) (H : Heap) (locs : List Loc), post r u → Lw E P2 s (u.1, u.2.1, va_up u.2.2 118 (x.2.2 118)) y H locs → W p l e room_1 s m args below meth c H locs (cells + 0) (slots + 0) Q (F0 m (pc + 3) ls (.int r :: rest))) : W p l e room_1 s m args below meth c H locs cells slots Q (F0 m pc ls st0) := by
  obtain ⟨hP, hP2, hS⟩ := hw
  have hU := lw_U (kd := kO) hz.2.1 hz.2.2 hP hS
  refine va_calli (ma_V S L hM ⟨by decide, Nat.le_trans (show 8 + (maxL + 11) + 2000 ≤ 3000 by omega) (Nat.le_of_ble_eq_true rfl)⟩ ?_ (fun U h1 h2 => ⟨(hU U h1 h2).1, (hU U h1 h2).2.1, wO_c (hU U h1 h2).2.2⟩) (wO_c hP) hn hsz hcat hcs hdg hst) hS (fun _ _ h => lw_A hz.1.1 (cA_c h)) (fun _ h => lw_A hz.1.1 (cA_c h)) (fun r u t H1 locs1 ht _ hp hB _ hk1 hS1 => kk r u H1 locs1 hp ⟨?_, lw_k2 hz hP2 (fun q h1 h2 => hk1 q h1 (fun h => h2 (cA_c h))), hS1⟩)
  · rw [hy]
    exact rc_w hz.2.1 (wO_c hP) 0 (by decide) (cK_lo (by decide)) (C := "ColorScheme") rfl
  · rw [ht] at hB
    exact wO_of hz.1.1 hP hB hk1
/-- a method of the model -/
theorem lw_M (S : CF p m c code nL s args own) (hz : Lz E P2 s) (hw : Lw E P2 s x y H locs) (L : LkV own idx yy b maxL ret n) (hy : yy.cls = "ColorSchemeModel") (hM : Ma l yy b maxL ret mN (enP E P2) mK (.ref (P2 0) :: av) y post) (hmx : maxL ≤ 100) (hn : av.length = n) (hsz : ls.size = nL) (hcat : (rest.map fun v => v.category).sum ≤ 8) (hcs : cells + 0 ≤ rmC ∧ slots + 0 ≤ rmS) (hdg : decode code pc = .ok (.invokevirtual idx, 3)) (hst : st0 = av.reverse ++ .ref (P2 0) :: rest)
    (kk : ∀ (r : Int32) (u : St) (H : Heap) (locs : List Loc), post r u → Lw E P2 s x u H locs → W p l e room_1 s m args below meth c H locs (cells + 0) (slots + 0) Q (F0 m (pc + 3) ls (.int r :: rest))) : W p l e room_1 s m args below meth c H locs cells slots Q (F0 m pc ls st0) := by
  obtain ⟨hP, hP2, hS⟩ := hw
  have hK : Vk (enP E P2) s := hz.2.1
  have hC : Stc (enP E P2) s s.heap := hz.2.2
  have hS2 : va_S (eA (enP E P2)) s.heap H locs := hS
  refine va_calli (ma_V S L hM ⟨by decide, Nat.le_trans (show 8 + (maxL + 11) + 2000 ≤ 3000 by omega) (Nat.le_of_ble_eq_true rfl)⟩ ?_ (lw_U hK hC hP2 hS2) hP2 hn hsz hcat hcs hdg hst) hS (fun _ _ h => lw_A (E := enP E P2) hz.1.2.1 h) (fun _ h => lw_A (E := enP E P2) hz.1.2.1 h) (fun r u t H1 locs1 ht _ hp hB _ hk1 hS1 => kk r u H1 locs1 hp ⟨lw_k1 hz hP hk1, by rw [← ht]; exact hB, hS1⟩)
  rw [hy]
  exact rc_w hK hP2 0 (by decide) (C := "ColorSchemeModel") rfl rfl
/-- one of the script's ints: aload_0, iload 4, a constant, iadd, iaload -/
theorem lw_arg {LL : List (Nat × Value)} {k : Int32} {ki : Int} (k0 k4 j : Nat) (hx : p.tables.exec = Jvm.exec) (hb : c.code = code) (hX : va_X b0 L xs s s.heap) (hbl : b0 < s.heap.size) (hA : s.heap.size ≤ eL E) (hS : va_S (eA E) s.heap H locs) (hl : lv_has ls 7 LL) (h0 : LL[k0]? = some (0, .ref b0)) (h4 : LL[k4]? = some (4, .int (nI i))) (hk : nI i + k = nI (i + j)) (hj : i + j < L) (hL : L ≤ 3072)
    (d0 : decode code pc = .ok (.aload_n 0, 1)) (d1 : decode code (pc + 1) = .ok (.iload 4, 2)) (d2 : decode code (pc + 3) = .ok (.iconst ki, 1)) (hk2 : Int32.ofInt ki = k) (d3 : decode code (pc + 4) = .ok (.iadd, 1)) (d4 : decode code (pc + 5) = .ok (.iaload, 1))
    (kk : W p l e room_1 s m args below meth c H locs cells slots Q (F0 m (pc + 6) ls (.int (xs (i + j)) :: rest))) : W p l e room_1 s m args below meth c H locs cells slots Q (F0 m pc ls rest) := by
  refine lv_aload_n hx hb d0 rfl (lv_at hl k0 h0) ?_
  refine lv_iload hx hb d1 (lv_at hl k4 h4) ?_
  refine lv_iconst (v := k) hx hb d2 hk2 ?_
  refine lv_iadd hx hb d3 ?_
  refine tp_i (y := nI (i + j)) hk ?_
  refine va_sld hx hb hX hbl (fun h => absurd (Nat.le_trans hA h) (Nat.not_le.mpr hbl)) hS (vp_in_nI hj (by omega)) d4 ?_
  rw [nI_clamp (by omega)]
  exact kk
end LR
theorem lw_tI {p : Program} {l : Launch} {e : Env} {s : State} {m : MethodId} {args : Array Value} {below : List Frame} {meth : Method} {c : Code} {H : Heap} {locs : List Loc} {cells slots : Nat} {Q : State → Prop} {pc : Nat} {ls : Array Slot} {E : En} {x y : St} {P2 : Nat → Nat} {LL : List (Nat × Value)} {v w : Int32} {off : Int} (S : CF p m c code 7 s args RL) (hz : Lz E P2 s) (hw : Lw E P2 s x y H locs) (hl : lv_has ls 7 ((6, .int w) :: (5, .int v) :: LL)) (h2 : LL[2]? = some (2, .ref (P2 0))) (h3 : LL[3]? = some (3, .ref (eP E 118))) (hth : y.1 0 0 = v) (hv : v = 0 → x.2.2 118 0 = w.toInt64) (hcs : cells + 0 ≤ rmC ∧ slots + 0 ≤ rmS) (d0 : decode code pc = .ok (.aload_n 2, 1)) (d1 : decode code (pc + 1) = .ok (.invokevirtual 92, 3)) (d4 : decode code (pc + 4) = .ok (.iload 5, 2)) (d6 : decode code (pc + 6) = .ok (.if_icmp .eq 5, 3)) (d11 : decode code (pc + 11) = .ok (.iload 5, 2)) (d13 : decode code (pc + 13) = .ok (.ifCond .ne 15, 3)) (d16 : decode code (pc + 16) = .ok (.aload_n 3, 1)) (d17 : decode code (pc + 17) = .ok (.iconst 0, 1)) (d18 : decode code (pc + 18) = .ok (.laload, 1)) (d19 : decode code (pc + 19) = .ok (.iload 6, 2)) (d21 : decode code (pc + 21) = .ok (.i2l, 1)) (d22 : decode code (pc + 22) = .ok (.lcmp, 1)) (d23 : decode code (pc + 23) = .ok (.ifCond .eq 5, 3)) (d28 : decode code (pc + 28) = .ok (.goto off, 3)) (hof : ((pc + 28 : Nat) : Int) + off = ((1591 : Nat) : Int))
    (kk : ∀ (H : Heap) (locs : List Loc), Lw E P2 s x y H locs → W p l e room_1 s m args below meth c H locs cells slots Q (F0 m 1591 ls [])) : W p l e room_1 s m args below meth c H locs cells slots Q (F0 m pc ls []) := by
  have hx := S.1
  have hb := S.2.1
  refine lv_aload_n hx hb d0 rfl (lv_at hl 4 h2) ?_
  refine lw_M S hz hw lk_L_92 rfl (ma_si (c_X7_thrown l (enP E P2) y.1 y.2.1 y.2.2 hz.1.2.1) ⟨by decide, by decide⟩) (by decide) rfl hl.1 (Nat.le_of_ble_eq_true rfl) hcs d1 rfl (fun r u H locs hp hw => ?_)
  obtain ⟨hr, hu⟩ := hp
  rw [hu] at hw
  have hw : Lw E P2 s x y H locs := hw
  refine lv_iload hx hb d4 (lv_at hl 1 rfl) ?_
  refine lv_icmp_eq (tgt := pc + 11) hx hb d6 (by omega) (fun _ => ?_) (fun h => absurd (hr.trans hth) h)
  refine lv_iload hx hb d11 (lv_at hl 1 rfl) ?_
  have hend : W p l e room_1 s m args below meth c H locs cells slots Q (F0 m (pc + 28) ls []) := lv_goto (tgt := 1591) hx hb d28 hof (kk H locs hw)
  refine lv_if_ne (tgt := pc + 28) hx hb d13 (by omega) (fun _ => hend) (fun h0 => ?_)
  refine lv_aload_n hx hb d16 rfl (lv_at hl 5 h3) ?_
  refine lv_iconst (v := 0) hx hb d17 (by decide) ?_
  refine rw_lald (x := x) S hz.2.1 hw.1 118 (by decide) kO_118 0 rfl (by decide) (by decide) (hv h0) d18 ?_
  refine lv_iload hx hb d19 (lv_at hl 0 rfl) ?_
  refine lv_i2l hx hb d21 rfl ?_
  refine W.lcmp hx hb d22 ?_
  exact lv_if_eq (tgt := pc + 28) hx hb d23 (by omega) (fun _ => hend) (fun h => absurd (lc_eq.mpr rfl) h)
theorem lw_tB {p : Program} {l : Launch} {e : Env} {s : State} {m : MethodId} {args : Array Value} {below : List Frame} {meth : Method} {c : Code} {H : Heap} {locs : List Loc} {cells slots : Nat} {Q : State → Prop} {pc : Nat} {ls : Array Slot} {E : En} {x y : St} {P2 : Nat → Nat} {LL : List (Nat × Value)} {v w : Int32} {off : Int} (S : CF p m c code 7 s args RL) (hz : Lz E P2 s) (hw : Lw E P2 s x y H locs) (hl : lv_has ls 7 ((6, .int w) :: (5, .int v) :: LL)) (h2 : LL[2]? = some (2, .ref (P2 0))) (h3 : LL[3]? = some (3, .ref (eP E 118))) (hth : y.1 0 0 = v) (hv : v = 0 → x.2.2 118 0 = bL w) (hcs : cells + 0 ≤ rmC ∧ slots + 0 ≤ rmS) (d0 : decode code pc = .ok (.aload_n 2, 1)) (d1 : decode code (pc + 1) = .ok (.invokevirtual 92, 3)) (d4 : decode code (pc + 4) = .ok (.iload 5, 2)) (d6 : decode code (pc + 6) = .ok (.if_icmp .eq 5, 3)) (d11 : decode code (pc + 11) = .ok (.iload 5, 2)) (d13 : decode code (pc + 13) = .ok (.ifCond .ne 22, 3)) (d16 : decode code (pc + 16) = .ok (.aload_n 3, 1)) (d17 : decode code (pc + 17) = .ok (.iconst 0, 1)) (d18 : decode code (pc + 18) = .ok (.laload, 1)) (d19 : decode code (pc + 19) = .ok (.iload 6, 2)) (d21 : decode code (pc + 21) = .ok (.ifCond .eq 7, 3)) (d24 : decode code (pc + 24) = .ok (.lconst 1, 1)) (d25 : decode code (pc + 25) = .ok (.goto 4, 3)) (d28 : decode code (pc + 28) = .ok (.lconst 0, 1)) (d29 : decode code (pc + 29) = .ok (.lcmp, 1)) (d30 : decode code (pc + 30) = .ok (.ifCond .eq 5, 3)) (d35 : decode code (pc + 35) = .ok (.goto off, 3)) (hof : ((pc + 35 : Nat) : Int) + off = ((1591 : Nat) : Int))
    (kk : ∀ (H : Heap) (locs : List Loc), Lw E P2 s x y H locs → W p l e room_1 s m args below meth c H locs cells slots Q (F0 m 1591 ls [])) : W p l e room_1 s m args below meth c H locs cells slots Q (F0 m pc ls []) := by
  have hx := S.1
  have hb := S.2.1
  refine lv_aload_n hx hb d0 rfl (lv_at hl 4 h2) ?_
  refine lw_M S hz hw lk_L_92 rfl (ma_si (c_X7_thrown l (enP E P2) y.1 y.2.1 y.2.2 hz.1.2.1) ⟨by decide, by decide⟩) (by decide) rfl hl.1 (Nat.le_of_ble_eq_true rfl) hcs d1 rfl (fun r u H locs hp hw => ?_)
  obtain ⟨hr, hu⟩ := hp
  rw [hu] at hw
  have hw : Lw E P2 s x y H locs := hw
  refine lv_iload hx hb d4 (lv_at hl 1 rfl) ?_
  refine lv_icmp_eq (tgt := pc + 11) hx hb d6 (by omega) (fun _ => ?_) (fun h => absurd (hr.trans hth) h)
  refine lv_iload hx hb d11 (lv_at hl 1 rfl) ?_
  have hend : W p l e room_1 s m args below meth c H locs cells slots Q (F0 m (pc + 35) ls []) := lv_goto (tgt := 1591) hx hb d35 hof (kk H locs hw)
  refine lv_if_ne (tgt := pc + 35) hx hb d13 (by omega) (fun _ => hend) (fun h0 => ?_)
  refine lv_aload_n hx hb d16 rfl (lv_at hl 5 h3) ?_
  refine lv_iconst (v := 0) hx hb d17 (by decide) ?_
  refine rw_lald (x := x) S hz.2.1 hw.1 118 (by decide) kO_118 0 rfl (by decide) (by decide) (hv h0) d18 ?_
  refine lv_iload hx hb d19 (lv_at hl 0 rfl) ?_
  refine lv_if_eq (tgt := pc + 28) hx hb d21 (by omega) (fun h9 => ?_) (fun h9 => ?_)
  · refine lv_lconst (v := 0) hx hb d28 (by decide) ?_
    refine W.lcmp hx hb d29 ?_
    exact lv_if_eq (tgt := pc + 35) hx hb d30 (by omega) (fun _ => hend) (fun h => absurd (lc_eq.mpr (if_pos h9)) h)
  · refine lv_lconst (v := 1) hx hb d24 (by decide) ?_
    refine lv_goto (tgt := pc + 29) hx hb d25 (by omega) ?_
    refine W.lcmp hx hb d29 ?_
    exact lv_if_eq (tgt := pc + 35) hx hb d30 (by omega) (fun _ => hend) (fun h => absurd (lc_eq.mpr (if_neg h9)) h)
theorem lw_b01 {p : Program} {l : Launch} {e : Env} {s : State} {m : MethodId} {args : Array Value} {below : List Frame} {meth : Method} {c : Code} {H : Heap} {locs : List Loc} {cells slots : Nat} {Q : State → Prop} {pc : Nat} {ls : Array Slot} {rest : List Value} {v : Int32} (hx : p.tables.exec = Jvm.exec) (hb : c.code = code) (d0 : decode code pc = .ok (.ifCond .eq 7, 3)) (d3 : decode code (pc + 3) = .ok (.iconst 1, 1)) (d4 : decode code (pc + 4) = .ok (.goto 4, 3)) (d7 : decode code (pc + 7) = .ok (.iconst 0, 1))
    (kk : W p l e room_1 s m args below meth c H locs cells slots Q (F0 m (pc + 8) ls (.int (if v = 0 then 0 else 1) :: rest))) : W p l e room_1 s m args below meth c H locs cells slots Q (F0 m pc ls (.int v :: rest)) := by
  refine lv_if_eq (tgt := pc + 7) hx hb d0 (by omega) (fun h9 => ?_) (fun h9 => ?_)
  · rw [if_pos h9] at kk
    exact lv_iconst (v := 0) hx hb d7 (by decide) kk
  · rw [if_neg h9] at kk
    refine lv_iconst (v := 1) hx hb d3 (by decide) ?_
    exact lv_goto (tgt := pc + 8) hx hb d4 (by omega) kk
theorem b01 (v : Int32) : (if v = 0 then (0 : Int32) else 1) = 0 ∨ (if v = 0 then (0 : Int32) else 1) = 1 := by
  by_cases h : v = 0
  · exact Or.inl (if_pos h)
  · exact Or.inr (if_neg h)
theorem lkh_load : LkH RL 86 yL_load cL_load 4 hh_load 3 := ⟨lwg_at 337 (by decide +kernel), lwg_at 335 (by decide +kernel), lwg_at 336 (by decide +kernel), ni_L, by decide +kernel⟩
theorem lkh_colour : LkH RL 108 yL_colour cL_colour 5 hh_colour 4 := ⟨lwg_at 649 (by decide +kernel), lwg_at 647 (by decide +kernel), lwg_at 648 (by decide +kernel), ni_L, by decide +kernel⟩
theorem lkh_isFixed : LkH RL 112 yL_isFixed cL_isFixed 4 hh_isFixed 3 := ⟨lwg_at 682 (by decide +kernel), lwg_at 680 (by decide +kernel), lwg_at 681 (by decide +kernel), ni_L, by decide +kernel⟩
theorem lkh_luminance : LkH RL 115 yL_luminance cL_luminance 5 hh_luminance 4 := ⟨lwg_at 689 (by decide +kernel), lwg_at 687 (by decide +kernel), lwg_at 688 (by decide +kernel), ni_L, by decide +kernel⟩
theorem lkh_contrast : LkH RL 118 yL_contrast cL_contrast 6 hh_contrast 5 := ⟨lwg_at 697 (by decide +kernel), lwg_at 695 (by decide +kernel), lwg_at 696 (by decide +kernel), ni_L, by decide +kernel⟩
theorem lkh_seen : LkH RL 122 yL_seen cL_seen 6 hh_seen 5 := ⟨lwg_at 705 (by decide +kernel), lwg_at 703 (by decide +kernel), lwg_at 704 (by decide +kernel), ni_L, by decide +kernel⟩
theorem lkh_difference : LkH RL 125 yL_difference cL_difference 7 hh_difference 6 := ⟨lwg_at 721 (by decide +kernel), lwg_at 719 (by decide +kernel), lwg_at 720 (by decide +kernel), ni_L, by decide +kernel⟩
theorem lkh_nearest : LkH RL 129 yL_nearest cL_nearest 5 hh_nearest 4 := ⟨lwg_at 729 (by decide +kernel), lwg_at 727 (by decide +kernel), lwg_at 728 (by decide +kernel), ni_L, by decide +kernel⟩
theorem lkh_need : LkH RL 132 yL_need cL_need 5 hh_need 4 := ⟨lwg_at 746 (by decide +kernel), lwg_at 744 (by decide +kernel), lwg_at 745 (by decide +kernel), ni_L, by decide +kernel⟩
theorem lkh_value : LkH RL 135 yL_value cL_value 5 hh_value 4 := ⟨lwg_at 758 (by decide +kernel), lwg_at 756 (by decide +kernel), lwg_at 757 (by decide +kernel), ni_L, by decide +kernel⟩
theorem lkh_violation : LkH RL 142 yL_violation cL_violation 4 hh_violation 3 := ⟨lwg_at 765 (by decide +kernel), lwg_at 763 (by decide +kernel), lwg_at 764 (by decide +kernel), ni_L, by decide +kernel⟩
theorem lkh_smallestMargin : LkH RL 145 yL_smallestMargin cL_smallestMargin 4 hh_smallestMargin 3 := ⟨lwg_at 797 (by decide +kernel), lwg_at 795 (by decide +kernel), lwg_at 796 (by decide +kernel), ni_L, by decide +kernel⟩
theorem lkh_bestShift : LkH RL 148 yL_bestShift cL_bestShift 5 hh_bestShift 4 := ⟨lwg_at 809 (by decide +kernel), lwg_at 807 (by decide +kernel), lwg_at 808 (by decide +kernel), ni_L, by decide +kernel⟩
theorem lkh_shiftRole : LkH RL 151 yL_shiftRole cL_shiftRole 5 hh_shiftRole 4 := ⟨lwg_at 833 (by decide +kernel), lwg_at 831 (by decide +kernel), lwg_at 832 (by decide +kernel), ni_L, by decide +kernel⟩
theorem lkh_setColour : LkH RL 154 yL_setColour cL_setColour 6 hh_setColour 5 := ⟨lwg_at 841 (by decide +kernel), lwg_at 839 (by decide +kernel), lwg_at 840 (by decide +kernel), ni_L, by decide +kernel⟩
theorem lkh_setFixed : LkH RL 157 yL_setFixed cL_setFixed 5 hh_setFixed 4 := ⟨lwg_at 848 (by decide +kernel), lwg_at 846 (by decide +kernel), lwg_at 847 (by decide +kernel), ni_L, by decide +kernel⟩
theorem lkh_shift : LkH RL 161 yL_shift cL_shift 6 hh_shift 5 := ⟨lwg_at 855 (by decide +kernel), lwg_at 853 (by decide +kernel), lwg_at 854 (by decide +kernel), ni_L, by decide +kernel⟩
theorem lkh_repair : LkH RL 164 yL_repair cL_repair 4 hh_repair 3 := ⟨lwg_at 881 (by decide +kernel), lwg_at 879 (by decide +kernel), lwg_at 880 (by decide +kernel), ni_L, by decide +kernel⟩
