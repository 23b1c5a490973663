theorem tp_i {p : Program} {l : Launch} {e : Env} {R : Room} {s : State} {m : MethodId} {args : Array Value} {below : List Frame} {meth : Method} {c : Code} {H : Heap} {locs : List Loc} {cells slots : Nat} {Q : State → Prop} {pc : Nat} {ls : Array Slot} {rest : List Value} {x y : Int32} (h : x = y) (k : W p l e R s m args below meth c H locs cells slots Q (F0 m pc ls (.int y :: rest))) : W p l e R s m args below meth c H locs cells slots Q (F0 m pc ls (.int x :: rest)) := h ▸ k
theorem lc_le {x y : Int64} : lg_cmp x y ≤ 0 ↔ x ≤ y := by
  unfold lg_cmp
  by_cases h : x > y
  · rw [if_pos h]
    exact ⟨fun q => absurd q (by decide), fun q => absurd h (Int64.not_lt.mpr q)⟩
  · rw [if_neg h]
    refine ⟨fun _ => Int64.not_lt.mp h, fun _ => ?_⟩
    split <;> decide
theorem lc_eq {x y : Int64} : lg_cmp x y = 0 ↔ x = y := by
  unfold lg_cmp
  by_cases h : x > y
  · rw [if_pos h]
    refine ⟨fun q => absurd q (by decide), fun q => ?_⟩
    subst q
    exact absurd h (Int64.lt_irrefl)
  · rw [if_neg h]
    by_cases h2 : x = y
    · simp [h2]
    · rw [if_neg h2]
      exact ⟨fun q => absurd q (by decide), fun q => absurd q h2⟩
theorem lc_ne {x y : Int64} : ¬ lg_cmp x y = 0 ↔ ¬ x = y := not_congr lc_eq
theorem lc_ge {x y : Int64} : 0 ≤ lg_cmp x y ↔ y ≤ x := by
  unfold lg_cmp
  by_cases h : x > y
  · rw [if_pos h]
    exact ⟨fun _ => Int64.le_of_lt h, fun _ => by decide⟩
  · rw [if_neg h]
    by_cases h2 : x = y
    · subst h2
      simp
    · rw [if_neg h2]
      exact ⟨fun q => absurd q (by decide), fun q => absurd (Int64.le_antisymm (Int64.not_lt.mp h) q) h2⟩
theorem lc_gt {x y : Int64} : 0 < lg_cmp x y ↔ y < x := by
  rw [← Int32.not_le, lc_le, Int64.not_le]
theorem lc_lt {x y : Int64} : lg_cmp x y < 0 ↔ x < y := by
  rw [← Int32.not_le, lc_ge, Int64.not_le]
theorem m_lt {a b : Int64} (h : b ≤ a) : ¬ a < b := Int64.not_lt.mpr h
theorem m_le {a b : Int64} (h : ¬ b ≤ a) : a < b := Int64.not_le.mp h
def cCh (j : Nat) (x : Int32) : Int32 := pLim ((sfF j * pRed x + sfF (j + 1) * pGreen x + sfF (j + 2) * pBlue x) / 1000) 0 255
def cSeen (t : Nat) (x : Int32) : Int32 := pMix (cCh (9 * t) x) (cCh (9 * t + 3) x) (cCh (9 * t + 6) x)
def cDif (t : Nat) (a b : Int32) : Int32 := 3 * iAbs (cCh (9 * t) a - cCh (9 * t) b) + 4 * iAbs (cCh (9 * t + 3) a - cCh (9 * t + 3) b) + 2 * iAbs (cCh (9 * t + 6) a - cCh (9 * t + 6) b)
def lMin (x y : Int64) : Int64 := if y < x then y else x
def lMax (x y : Int64) : Int64 := if y < x then x else y
def cProd (x y : Int32) : Int32 := (lMax (-1000000) (lMin 1000000 (x.toInt64 * y.toInt64))).toInt32
theorem sw4 {x : Int32} (h1 : ¬ x = 1) (h2 : ¬ x = 2) (h3 : ¬ x = 3) (h4 : ¬ x = 4) : x.toInt < 1 ∨ 4 < x.toInt := by
  have e1 := lv_neT h1 (a := 1) (by decide)
  have e2 := lv_neT h2 (a := 2) (by decide)
  have e3 := lv_neT h3 (a := 3) (by decide)
  have e4 := lv_neT h4 (a := 4) (by decide)
  omega
set_option maxHeartbeats 1000000 in
set_option maxRecDepth 100000 in
theorem c_X0_seenChannel (l : Launch) (E : En) (x : Int32) (j : Nat) (hj : j < 43) : Met l yX0_seenChannel (wz yX0_seenChannel cX0_seenChannel 3 (some .int)) (rmk 1 0 0 22) (va_Pc [.int x, .int (nI j)] (Bs E)) (qSi (fun zz => zz = cCh j x)) 0 0 fr0 := by
  refine en_ofW RX0 rfl (by decide +kernel) (Nat.le_of_ble_eq_true rfl) ?_
  intro p e s m below meth c ls S hr hlk hnm hl hB
  have hx := S.1
  have hb := S.2.1
  have hC : Stc E s s.heap := hB
  have hl : lv_has ls 3 [(0, .int x), (1, .int (nI j))] := hl
  obtain ⟨t0, hZ, hT⟩ := hC.2.1
  refine va_getsN hx hb hZ (va_S.rf (A := eA E)) S.2.2.2.1 (va_Nw.use rfl hC.1.1.2.2.2.2) (fun _ h => h) dX0_seenChannel_0 ?_
  refine lv_iload_n hx hb dX0_seenChannel_3 rfl (lv_at hl 1 rfl) ?_
  refine va_ti hx hb hT (va_S.rf (A := eA E)) (v := .int (sfF j)) (vp_in_nI (by omega) (by decide)) (by rw [nI_clamp (by omega)]) dX0_seenChannel_4 ?_
  refine lv_iload_n hx hb dX0_seenChannel_5 rfl (lv_at hl 0 rfl) ?_
  refine cn_si (ck_S S lk_X0_10 (c_X0_red l x) ⟨rfl, rfl⟩ ⟨Nat.le_of_ble_eq_true rfl, Nat.le_of_ble_eq_true rfl⟩ bl_T t_U rfl hl.1 (Nat.le_of_ble_eq_true rfl) ⟨Nat.le_refl _, Nat.le_refl _⟩ dX0_seenChannel_6 rfl) (fun r1 g2 => ?_)
  obtain rfl : r1 = pRed x := g2
  refine lv_imul hx hb dX0_seenChannel_9 ?_
  refine va_getsN hx hb hZ (va_S.rf (A := eA E)) S.2.2.2.1 (va_Nw.use rfl hC.1.1.2.2.2.2) (fun _ h => h) dX0_seenChannel_10 ?_
  refine lv_iload_n hx hb dX0_seenChannel_13 rfl (lv_at hl 1 rfl) ?_
  refine lv_iconst (v := 1) hx hb dX0_seenChannel_14 (by decide) ?_
  refine lv_iadd hx hb dX0_seenChannel_15 ?_
  refine tp_i (y := nI (j + 1)) (nI_add j 1) ?_
  refine va_ti hx hb hT (va_S.rf (A := eA E)) (v := .int (sfF (j + 1))) (vp_in_nI (by omega) (by decide)) (by rw [nI_clamp (by omega)]) dX0_seenChannel_16 ?_
  refine lv_iload_n hx hb dX0_seenChannel_17 rfl (lv_at hl 0 rfl) ?_
  refine cn_si (ck_S S lk_X0_16 (c_X0_green l x) ⟨rfl, rfl⟩ ⟨Nat.le_of_ble_eq_true rfl, Nat.le_of_ble_eq_true rfl⟩ bl_T t_U rfl hl.1 (Nat.le_of_ble_eq_true rfl) ⟨Nat.le_refl _, Nat.le_refl _⟩ dX0_seenChannel_18 rfl) (fun r3 g4 => ?_)
  obtain rfl : r3 = pGreen x := g4
  refine lv_imul hx hb dX0_seenChannel_21 ?_
  refine lv_iadd hx hb dX0_seenChannel_22 ?_
  refine va_getsN hx hb hZ (va_S.rf (A := eA E)) S.2.2.2.1 (va_Nw.use rfl hC.1.1.2.2.2.2) (fun _ h => h) dX0_seenChannel_23 ?_
  refine lv_iload_n hx hb dX0_seenChannel_26 rfl (lv_at hl 1 rfl) ?_
  refine lv_iconst (v := 2) hx hb dX0_seenChannel_27 (by decide) ?_
  refine lv_iadd hx hb dX0_seenChannel_28 ?_
  refine tp_i (y := nI (j + 2)) (nI_add j 2) ?_
  refine va_ti hx hb hT (va_S.rf (A := eA E)) (v := .int (sfF (j + 2))) (vp_in_nI (by omega) (by decide)) (by rw [nI_clamp (by omega)]) dX0_seenChannel_29 ?_
  refine lv_iload_n hx hb dX0_seenChannel_30 rfl (lv_at hl 0 rfl) ?_
  refine cn_si (ck_S S lk_X0_19 (c_X0_blue l x) ⟨rfl, rfl⟩ ⟨Nat.le_of_ble_eq_true rfl, Nat.le_of_ble_eq_true rfl⟩ bl_T t_U rfl hl.1 (Nat.le_of_ble_eq_true rfl) ⟨Nat.le_refl _, Nat.le_refl _⟩ dX0_seenChannel_31 rfl) (fun r5 g6 => ?_)
  obtain rfl : r5 = pBlue x := g6
  refine lv_imul hx hb dX0_seenChannel_34 ?_
  refine lv_iadd hx hb dX0_seenChannel_35 ?_
  refine lv_istore_n (lv' := [(2, .int ((((sfF j) * (pRed x)) + ((sfF (j + 1)) * (pGreen x))) + ((sfF (j + 2)) * (pBlue x)))), (0, .int x), (1, .int (nI j))]) hx hb dX0_seenChannel_36 rfl hl (by decide) rfl (fun ls hl => ?_)
  refine lv_iload_n hx hb dX0_seenChannel_37 rfl (lv_at hl 0 rfl) ?_
  refine lv_sipush (v := 1000) hx hb dX0_seenChannel_38 (by decide) ?_
  refine lv_idiv hx hb dX0_seenChannel_41 (by decide) ?_
  refine lv_iconst (v := 0) hx hb dX0_seenChannel_42 (by decide) ?_
  refine lv_sipush (v := 255) hx hb dX0_seenChannel_43 (by decide) ?_
  refine cn_si (ck_N S ln_X6_limited hC.1.1.2.2.1 (c_X6_limited l (((((sfF j) * (pRed x)) + ((sfF (j + 1)) * (pGreen x))) + ((sfF (j + 2)) * (pBlue x))) / 1000) 0 255) ⟨rfl, rfl⟩ ⟨Nat.le_of_ble_eq_true rfl, Nat.le_of_ble_eq_true rfl⟩ bl_T t_U rfl hl.1 (Nat.le_of_ble_eq_true rfl) ⟨Nat.le_refl _, Nat.le_refl _⟩ dX0_seenChannel_46 rfl) (fun r7 g8 => ?_)
  obtain rfl : r7 = pLim (((((sfF j) * (pRed x)) + ((sfF (j + 1)) * (pGreen x))) + ((sfF (j + 2)) * (pBlue x))) / 1000) 0 255 := g8
  exact re_si (v := (pLim (((((sfF j) * (pRed x)) + ((sfF (j + 1)) * (pGreen x))) + ((sfF (j + 2)) * (pBlue x))) / 1000) 0 255)) hx hb hr hlk rfl dX0_seenChannel_49

set_option maxHeartbeats 1000000 in
set_option maxRecDepth 100000 in
theorem c_X0_seenWith (l : Launch) (E : En) (x : Int32) (t : Nat) (ht : t < 5) : Met l yX0_seenWith (wz yX0_seenWith cX0_seenWith 3 (some .int)) (rmk 2 0 0 44) (va_Pc [.int x, .int (nI t)] (Bs E)) (qSi (fun zz => zz = cSeen t x)) 0 0 fr0 := by
  refine en_ofW RX0 rfl (by decide +kernel) (Nat.le_of_ble_eq_true rfl) ?_
  intro p e s m below meth c ls S hr hlk hnm hl hB
  have hx := S.1
  have hb := S.2.1
  have hC : Stc E s s.heap := hB
  have hl : lv_has ls 3 [(0, .int x), (1, .int (nI t))] := hl
  refine lv_bipush (v := 9) hx hb dX0_seenWith_0 (by decide) ?_
  refine lv_iload_n hx hb dX0_seenWith_2 rfl (lv_at hl 1 rfl) ?_
  refine lv_imul hx hb dX0_seenWith_3 ?_
  refine tp_i (y := nI (9 * t)) (pk_mul 9 t) ?_
  refine lv_istore_n (lv' := [(2, .int (nI (9 * t))), (0, .int x), (1, .int (nI t))]) hx hb dX0_seenWith_4 rfl hl (by decide) rfl (fun ls hl => ?_)
  refine lv_iload_n hx hb dX0_seenWith_5 rfl (lv_at hl 1 rfl) ?_
  refine lv_iload_n hx hb dX0_seenWith_6 rfl (lv_at hl 0 rfl) ?_
  refine cn_si (ck_S S lk_X0_34 (c_X0_seenChannel l E x (9 * t) (by omega)) ⟨rfl, rfl⟩ ⟨Nat.le_of_ble_eq_true rfl, Nat.le_of_ble_eq_true rfl⟩ bl_s (bs_H hC) rfl hl.1 (Nat.le_of_ble_eq_true rfl) ⟨Nat.le_refl _, Nat.le_refl _⟩ dX0_seenWith_7 rfl) (fun r1 g2 => ?_)
  obtain rfl : r1 = cCh (9 * t) x := g2
  refine lv_iload_n hx hb dX0_seenWith_10 rfl (lv_at hl 1 rfl) ?_
  refine lv_iload_n hx hb dX0_seenWith_11 rfl (lv_at hl 0 rfl) ?_
  refine lv_iconst (v := 3) hx hb dX0_seenWith_12 (by decide) ?_
  refine lv_iadd hx hb dX0_seenWith_13 ?_
  refine tp_i (y := nI (9 * t + 3)) (nI_add (9 * t) 3) ?_
  refine cn_si (ck_S S lk_X0_34 (c_X0_seenChannel l E x (9 * t + 3) (by omega)) ⟨rfl, rfl⟩ ⟨Nat.le_of_ble_eq_true rfl, Nat.le_of_ble_eq_true rfl⟩ bl_s (bs_H hC) rfl hl.1 (Nat.le_of_ble_eq_true rfl) ⟨Nat.le_refl _, Nat.le_refl _⟩ dX0_seenWith_14 rfl) (fun r3 g4 => ?_)
  obtain rfl : r3 = cCh (9 * t + 3) x := g4
  refine lv_iload_n hx hb dX0_seenWith_17 rfl (lv_at hl 1 rfl) ?_
  refine lv_iload_n hx hb dX0_seenWith_18 rfl (lv_at hl 0 rfl) ?_
  refine lv_bipush (v := 6) hx hb dX0_seenWith_19 (by decide) ?_
  refine lv_iadd hx hb dX0_seenWith_21 ?_
  refine tp_i (y := nI (9 * t + 6)) (nI_add (9 * t) 6) ?_
  refine cn_si (ck_S S lk_X0_34 (c_X0_seenChannel l E x (9 * t + 6) (by omega)) ⟨rfl, rfl⟩ ⟨Nat.le_of_ble_eq_true rfl, Nat.le_of_ble_eq_true rfl⟩ bl_s (bs_H hC) rfl hl.1 (Nat.le_of_ble_eq_true rfl) ⟨Nat.le_refl _, Nat.le_refl _⟩ dX0_seenWith_22 rfl) (fun r5 g6 => ?_)
  obtain rfl : r5 = cCh (9 * t + 6) x := g6
  refine cn_si (ck_S S lk_X0_37 (c_X0_joined l (cCh (9 * t) x) (cCh (9 * t + 3) x) (cCh (9 * t + 6) x)) ⟨rfl, rfl⟩ ⟨Nat.le_of_ble_eq_true rfl, Nat.le_of_ble_eq_true rfl⟩ bl_T t_U rfl hl.1 (Nat.le_of_ble_eq_true rfl) ⟨Nat.le_refl _, Nat.le_refl _⟩ dX0_seenWith_25 rfl) (fun r7 g8 => ?_)
  obtain rfl : r7 = pMix (cCh (9 * t) x) (cCh (9 * t + 3) x) (cCh (9 * t + 6) x) := g8
  exact re_si (v := (pMix (cCh (9 * t) x) (cCh (9 * t + 3) x) (cCh (9 * t + 6) x))) hx hb hr hlk rfl dX0_seenWith_28

set_option maxHeartbeats 1000000 in
set_option maxRecDepth 100000 in
theorem c_X0_differenceOf (l : Launch) (E : En) (x y : Int32) (t : Nat) (ht : t < 5) : Met l yX0_differenceOf (wz yX0_differenceOf cX0_differenceOf 4 (some .int)) (rmk 2 0 0 44) (va_Pc [.int x, .int y, .int (nI t)] (Bs E)) (qSi (fun zz => zz = cDif t x y)) 0 0 fr0 := by
  refine en_ofW RX0 rfl (by decide +kernel) (Nat.le_of_ble_eq_true rfl) ?_
  intro p e s m below meth c ls S hr hlk hnm hl hB
  have hx := S.1
  have hb := S.2.1
  have hC : Stc E s s.heap := hB
  have hl : lv_has ls 4 [(0, .int x), (1, .int y), (2, .int (nI t))] := hl
  refine lv_bipush (v := 9) hx hb dX0_differenceOf_0 (by decide) ?_
  refine lv_iload_n hx hb dX0_differenceOf_2 rfl (lv_at hl 2 rfl) ?_
  refine lv_imul hx hb dX0_differenceOf_3 ?_
  refine tp_i (y := nI (9 * t)) (pk_mul 9 t) ?_
  refine lv_istore_n (lv' := [(3, .int (nI (9 * t))), (0, .int x), (1, .int y), (2, .int (nI t))]) hx hb dX0_differenceOf_4 rfl hl (by decide) rfl (fun ls hl => ?_)
  refine lv_iconst (v := 3) hx hb dX0_differenceOf_5 (by decide) ?_
  refine lv_iload_n hx hb dX0_differenceOf_6 rfl (lv_at hl 1 rfl) ?_
  refine lv_iload_n hx hb dX0_differenceOf_7 rfl (lv_at hl 0 rfl) ?_
  refine cn_si (ck_S S lk_X0_34 (c_X0_seenChannel l E x (9 * t) (by omega)) ⟨rfl, rfl⟩ ⟨Nat.le_of_ble_eq_true rfl, Nat.le_of_ble_eq_true rfl⟩ bl_s (bs_H hC) rfl hl.1 (Nat.le_of_ble_eq_true rfl) ⟨Nat.le_refl _, Nat.le_refl _⟩ dX0_differenceOf_8 rfl) (fun r1 g2 => ?_)
  obtain rfl : r1 = cCh (9 * t) x := g2
  refine lv_iload_n hx hb dX0_differenceOf_11 rfl (lv_at hl 2 rfl) ?_
  refine lv_iload_n hx hb dX0_differenceOf_12 rfl (lv_at hl 0 rfl) ?_
  refine cn_si (ck_S S lk_X0_34 (c_X0_seenChannel l E y (9 * t) (by omega)) ⟨rfl, rfl⟩ ⟨Nat.le_of_ble_eq_true rfl, Nat.le_of_ble_eq_true rfl⟩ bl_s (bs_H hC) rfl hl.1 (Nat.le_of_ble_eq_true rfl) ⟨Nat.le_refl _, Nat.le_refl _⟩ dX0_differenceOf_13 rfl) (fun r3 g4 => ?_)
  obtain rfl : r3 = cCh (9 * t) y := g4
  refine lv_isub hx hb dX0_differenceOf_16 ?_
  refine va_mabs hx hb (S.2.2.1.trans hl.1.symm) S.2.2.2.1 (S.2.2.2.2 _ km_X0_48) (S.2.2.2.2 _ ms_abs) (S.2.2.2.2 _ mi_Math) (S.2.2.2.2 _ mc_abs) (Nat.le_of_ble_eq_true rfl) (Nat.le_of_ble_eq_true rfl) (Nat.zero_le _) (Nat.zero_le _) dX0_differenceOf_17 ?_
  refine W.eq (g2 := F0 m 20 ls [.int (iAbs ((cCh (9 * t) x) - (cCh (9 * t) y))), .int 3]) rfl ?_
  refine lv_imul hx hb dX0_differenceOf_20 ?_
  refine lv_iconst (v := 4) hx hb dX0_differenceOf_21 (by decide) ?_
  refine lv_iload_n hx hb dX0_differenceOf_22 rfl (lv_at hl 1 rfl) ?_
  refine lv_iload_n hx hb dX0_differenceOf_23 rfl (lv_at hl 0 rfl) ?_
  refine lv_iconst (v := 3) hx hb dX0_differenceOf_24 (by decide) ?_
  refine lv_iadd hx hb dX0_differenceOf_25 ?_
  refine tp_i (y := nI (9 * t + 3)) (nI_add (9 * t) 3) ?_
  refine cn_si (ck_S S lk_X0_34 (c_X0_seenChannel l E x (9 * t + 3) (by omega)) ⟨rfl, rfl⟩ ⟨Nat.le_of_ble_eq_true rfl, Nat.le_of_ble_eq_true rfl⟩ bl_s (bs_H hC) rfl hl.1 (Nat.le_of_ble_eq_true rfl) ⟨Nat.le_refl _, Nat.le_refl _⟩ dX0_differenceOf_26 rfl) (fun r5 g6 => ?_)
  obtain rfl : r5 = cCh (9 * t + 3) x := g6
  refine lv_iload_n hx hb dX0_differenceOf_29 rfl (lv_at hl 2 rfl) ?_
  refine lv_iload_n hx hb dX0_differenceOf_30 rfl (lv_at hl 0 rfl) ?_
  refine lv_iconst (v := 3) hx hb dX0_differenceOf_31 (by decide) ?_
  refine lv_iadd hx hb dX0_differenceOf_32 ?_
  refine tp_i (y := nI (9 * t + 3)) (nI_add (9 * t) 3) ?_
  refine cn_si (ck_S S lk_X0_34 (c_X0_seenChannel l E y (9 * t + 3) (by omega)) ⟨rfl, rfl⟩ ⟨Nat.le_of_ble_eq_true rfl, Nat.le_of_ble_eq_true rfl⟩ bl_s (bs_H hC) rfl hl.1 (Nat.le_of_ble_eq_true rfl) ⟨Nat.le_refl _, Nat.le_refl _⟩ dX0_differenceOf_33 rfl) (fun r7 g8 => ?_)
  obtain rfl : r7 = cCh (9 * t + 3) y := g8
  refine lv_isub hx hb dX0_differenceOf_36 ?_
  refine va_mabs hx hb (S.2.2.1.trans hl.1.symm) S.2.2.2.1 (S.2.2.2.2 _ km_X0_48) (S.2.2.2.2 _ ms_abs) (S.2.2.2.2 _ mi_Math) (S.2.2.2.2 _ mc_abs) (Nat.le_of_ble_eq_true rfl) (Nat.le_of_ble_eq_true rfl) (Nat.zero_le _) (Nat.zero_le _) dX0_differenceOf_37 ?_
  refine W.eq (g2 := F0 m 40 ls [.int (iAbs ((cCh (9 * t + 3) x) - (cCh (9 * t + 3) y))), .int 4, .int (3 * (iAbs ((cCh (9 * t) x) - (cCh (9 * t) y))))]) rfl ?_
  refine lv_imul hx hb dX0_differenceOf_40 ?_
  refine lv_iadd hx hb dX0_differenceOf_41 ?_
  refine lv_iconst (v := 2) hx hb dX0_differenceOf_42 (by decide) ?_
  refine lv_iload_n hx hb dX0_differenceOf_43 rfl (lv_at hl 1 rfl) ?_
  refine lv_iload_n hx hb dX0_differenceOf_44 rfl (lv_at hl 0 rfl) ?_
  refine lv_bipush (v := 6) hx hb dX0_differenceOf_45 (by decide) ?_
  refine lv_iadd hx hb dX0_differenceOf_47 ?_
  refine tp_i (y := nI (9 * t + 6)) (nI_add (9 * t) 6) ?_
  refine cn_si (ck_S S lk_X0_34 (c_X0_seenChannel l E x (9 * t + 6) (by omega)) ⟨rfl, rfl⟩ ⟨Nat.le_of_ble_eq_true rfl, Nat.le_of_ble_eq_true rfl⟩ bl_s (bs_H hC) rfl hl.1 (Nat.le_of_ble_eq_true rfl) ⟨Nat.le_refl _, Nat.le_refl _⟩ dX0_differenceOf_48 rfl) (fun r9 g10 => ?_)
  obtain rfl : r9 = cCh (9 * t + 6) x := g10
  refine lv_iload_n hx hb dX0_differenceOf_51 rfl (lv_at hl 2 rfl) ?_
  refine lv_iload_n hx hb dX0_differenceOf_52 rfl (lv_at hl 0 rfl) ?_
  refine lv_bipush (v := 6) hx hb dX0_differenceOf_53 (by decide) ?_
  refine lv_iadd hx hb dX0_differenceOf_55 ?_
  refine tp_i (y := nI (9 * t + 6)) (nI_add (9 * t) 6) ?_
  refine cn_si (ck_S S lk_X0_34 (c_X0_seenChannel l E y (9 * t + 6) (by omega)) ⟨rfl, rfl⟩ ⟨Nat.le_of_ble_eq_true rfl, Nat.le_of_ble_eq_true rfl⟩ bl_s (bs_H hC) rfl hl.1 (Nat.le_of_ble_eq_true rfl) ⟨Nat.le_refl _, Nat.le_refl _⟩ dX0_differenceOf_56 rfl) (fun r11 g12 => ?_)
  obtain rfl : r11 = cCh (9 * t + 6) y := g12
  refine lv_isub hx hb dX0_differenceOf_59 ?_
  refine va_mabs hx hb (S.2.2.1.trans hl.1.symm) S.2.2.2.1 (S.2.2.2.2 _ km_X0_48) (S.2.2.2.2 _ ms_abs) (S.2.2.2.2 _ mi_Math) (S.2.2.2.2 _ mc_abs) (Nat.le_of_ble_eq_true rfl) (Nat.le_of_ble_eq_true rfl) (Nat.zero_le _) (Nat.zero_le _) dX0_differenceOf_60 ?_
  refine W.eq (g2 := F0 m 63 ls [.int (iAbs ((cCh (9 * t + 6) x) - (cCh (9 * t + 6) y))), .int 2, .int ((3 * (iAbs ((cCh (9 * t) x) - (cCh (9 * t) y)))) + (4 * (iAbs ((cCh (9 * t + 3) x) - (cCh (9 * t + 3) y)))))]) rfl ?_
  refine lv_imul hx hb dX0_differenceOf_63 ?_
  refine lv_iadd hx hb dX0_differenceOf_64 ?_
  exact re_si (v := (((3 * (iAbs ((cCh (9 * t) x) - (cCh (9 * t) y)))) + (4 * (iAbs ((cCh (9 * t + 3) x) - (cCh (9 * t + 3) y))))) + (2 * (iAbs ((cCh (9 * t + 6) x) - (cCh (9 * t + 6) y)))))) hx hb hr hlk rfl dX0_differenceOf_65

set_option maxHeartbeats 1000000 in
set_option maxRecDepth 100000 in
theorem c_X7_seenAs (l : Launch) (x s0 : Int32)  : Met l yX7_seenAs (wz yX7_seenAs cX7_seenAs 2 (some .int)) (rmk 3 0 0 64) (va_Pc [.int x, .int s0] (fun _ => True)) (qSi (fun zz => zz = rSeen x s0)) 0 0 fr0 := by
  refine en_ofW RX7 rfl (by decide +kernel) (Nat.le_of_ble_eq_true rfl) ?_
  intro p e s m below meth c ls S hr hlk hnm hl hB
  have hx := S.1
  have hb := S.2.1
  have hl : lv_has ls 2 [(0, .int x), (1, .int s0)] := hl
  refine lv_iload_n hx hb dX7_seenAs_0 rfl (lv_at hl 1 rfl) ?_
  by_cases e1 : s0 = 1
  · subst e1
    refine lv_tableIn (off := 31) (tgt := 32) hx hb dX7_seenAs_1 (by decide) (by decide) rfl (by decide) ?_
    refine lv_sipush (v := 152) hx hb dX7_seenAs_32 (by decide) ?_
    refine lv_sipush (v := 1053) hx hb dX7_seenAs_35 (by decide) ?_
    refine lv_sipush (v := (-205)) hx hb dX7_seenAs_38 (by decide) ?_
    refine lv_iload_n hx hb dX7_seenAs_41 rfl (lv_at hl 0 rfl) ?_
    refine cn_si (ck_S S lk_X7_194 (c_X7_channel l 152 1053 (-205) x) ⟨rfl, rfl⟩ ⟨Nat.le_of_ble_eq_true rfl, Nat.le_of_ble_eq_true rfl⟩ bl_T t_U rfl hl.1 (Nat.le_of_ble_eq_true rfl) ⟨Nat.le_refl _, Nat.le_refl _⟩ dX7_seenAs_42 rfl) (fun r1 g2 => ?_)
    obtain rfl : r1 = rCh 152 1053 (-205) x := g2
    refine lv_bipush (v := 115) hx hb dX7_seenAs_45 (by decide) ?_
    refine lv_sipush (v := 786) hx hb dX7_seenAs_47 (by decide) ?_
    refine lv_bipush (v := 99) hx hb dX7_seenAs_50 (by decide) ?_
    refine lv_iload_n hx hb dX7_seenAs_52 rfl (lv_at hl 0 rfl) ?_
    refine cn_si (ck_S S lk_X7_194 (c_X7_channel l 115 786 99 x) ⟨rfl, rfl⟩ ⟨Nat.le_of_ble_eq_true rfl, Nat.le_of_ble_eq_true rfl⟩ bl_T t_U rfl hl.1 (Nat.le_of_ble_eq_true rfl) ⟨Nat.le_refl _, Nat.le_refl _⟩ dX7_seenAs_53 rfl) (fun r3 g4 => ?_)
    obtain rfl : r3 = rCh 115 786 99 x := g4
    refine lv_bipush (v := (-4)) hx hb dX7_seenAs_56 (by decide) ?_
    refine lv_bipush (v := (-48)) hx hb dX7_seenAs_58 (by decide) ?_
    refine lv_sipush (v := 1052) hx hb dX7_seenAs_60 (by decide) ?_
    refine lv_iload_n hx hb dX7_seenAs_63 rfl (lv_at hl 0 rfl) ?_
    refine cn_si (ck_S S lk_X7_194 (c_X7_channel l (-4) (-48) 1052 x) ⟨rfl, rfl⟩ ⟨Nat.le_of_ble_eq_true rfl, Nat.le_of_ble_eq_true rfl⟩ bl_T t_U rfl hl.1 (Nat.le_of_ble_eq_true rfl) ⟨Nat.le_refl _, Nat.le_refl _⟩ dX7_seenAs_64 rfl) (fun r5 g6 => ?_)
    obtain rfl : r5 = rCh (-4) (-48) 1052 x := g6
    refine cn_si (ck_S S lk_X7_128 (c_X7_mixed l (rCh 152 1053 (-205) x) (rCh 115 786 99 x) (rCh (-4) (-48) 1052 x)) ⟨rfl, rfl⟩ ⟨Nat.le_of_ble_eq_true rfl, Nat.le_of_ble_eq_true rfl⟩ bl_T t_U rfl hl.1 (Nat.le_of_ble_eq_true rfl) ⟨Nat.le_refl _, Nat.le_refl _⟩ dX7_seenAs_67 rfl) (fun r7 g8 => ?_)
    obtain rfl : r7 = pMix (rCh 152 1053 (-205) x) (rCh 115 786 99 x) (rCh (-4) (-48) 1052 x) := g8
    exact re_si (v := (pMix (rCh 152 1053 (-205) x) (rCh 115 786 99 x) (rCh (-4) (-48) 1052 x))) hx hb hr hlk rfl dX7_seenAs_70
  by_cases e2 : s0 = 2
  · subst e2
    refine lv_tableIn (off := 70) (tgt := 71) hx hb dX7_seenAs_1 (by decide) (by decide) rfl (by decide) ?_
    refine lv_sipush (v := 367) hx hb dX7_seenAs_71 (by decide) ?_
    refine lv_sipush (v := 861) hx hb dX7_seenAs_74 (by decide) ?_
    refine lv_sipush (v := (-228)) hx hb dX7_seenAs_77 (by decide) ?_
    refine lv_iload_n hx hb dX7_seenAs_80 rfl (lv_at hl 0 rfl) ?_
    refine cn_si (ck_S S lk_X7_194 (c_X7_channel l 367 861 (-228) x) ⟨rfl, rfl⟩ ⟨Nat.le_of_ble_eq_true rfl, Nat.le_of_ble_eq_true rfl⟩ bl_T t_U rfl hl.1 (Nat.le_of_ble_eq_true rfl) ⟨Nat.le_refl _, Nat.le_refl _⟩ dX7_seenAs_81 rfl) (fun r9 g10 => ?_)
    obtain rfl : r9 = rCh 367 861 (-228) x := g10
    refine lv_sipush (v := 280) hx hb dX7_seenAs_84 (by decide) ?_
    refine lv_sipush (v := 673) hx hb dX7_seenAs_87 (by decide) ?_
    refine lv_bipush (v := 47) hx hb dX7_seenAs_90 (by decide) ?_
    refine lv_iload_n hx hb dX7_seenAs_92 rfl (lv_at hl 0 rfl) ?_
    refine cn_si (ck_S S lk_X7_194 (c_X7_channel l 280 673 47 x) ⟨rfl, rfl⟩ ⟨Nat.le_of_ble_eq_true rfl, Nat.le_of_ble_eq_true rfl⟩ bl_T t_U rfl hl.1 (Nat.le_of_ble_eq_true rfl) ⟨Nat.le_refl _, Nat.le_refl _⟩ dX7_seenAs_93 rfl) (fun r11 g12 => ?_)
    obtain rfl : r11 = rCh 280 673 47 x := g12
    refine lv_bipush (v := (-12)) hx hb dX7_seenAs_96 (by decide) ?_
    refine lv_bipush (v := 43) hx hb dX7_seenAs_98 (by decide) ?_
    refine lv_sipush (v := 969) hx hb dX7_seenAs_100 (by decide) ?_
    refine lv_iload_n hx hb dX7_seenAs_103 rfl (lv_at hl 0 rfl) ?_
    refine cn_si (ck_S S lk_X7_194 (c_X7_channel l (-12) 43 969 x) ⟨rfl, rfl⟩ ⟨Nat.le_of_ble_eq_true rfl, Nat.le_of_ble_eq_true rfl⟩ bl_T t_U rfl hl.1 (Nat.le_of_ble_eq_true rfl) ⟨Nat.le_refl _, Nat.le_refl _⟩ dX7_seenAs_104 rfl) (fun r13 g14 => ?_)
    obtain rfl : r13 = rCh (-12) 43 969 x := g14
    refine cn_si (ck_S S lk_X7_128 (c_X7_mixed l (rCh 367 861 (-228) x) (rCh 280 673 47 x) (rCh (-12) 43 969 x)) ⟨rfl, rfl⟩ ⟨Nat.le_of_ble_eq_true rfl, Nat.le_of_ble_eq_true rfl⟩ bl_T t_U rfl hl.1 (Nat.le_of_ble_eq_true rfl) ⟨Nat.le_refl _, Nat.le_refl _⟩ dX7_seenAs_107 rfl) (fun r15 g16 => ?_)
    obtain rfl : r15 = pMix (rCh 367 861 (-228) x) (rCh 280 673 47 x) (rCh (-12) 43 969 x) := g16
    exact re_si (v := (pMix (rCh 367 861 (-228) x) (rCh 280 673 47 x) (rCh (-12) 43 969 x))) hx hb hr hlk rfl dX7_seenAs_110
  by_cases e3 : s0 = 3
  · subst e3
    refine lv_tableIn (off := 110) (tgt := 111) hx hb dX7_seenAs_1 (by decide) (by decide) rfl (by decide) ?_
    refine lv_sipush (v := 1256) hx hb dX7_seenAs_111 (by decide) ?_
    refine lv_bipush (v := (-77)) hx hb dX7_seenAs_114 (by decide) ?_
    refine lv_sipush (v := (-179)) hx hb dX7_seenAs_116 (by decide) ?_
    refine lv_iload_n hx hb dX7_seenAs_119 rfl (lv_at hl 0 rfl) ?_
    refine cn_si (ck_S S lk_X7_194 (c_X7_channel l 1256 (-77) (-179) x) ⟨rfl, rfl⟩ ⟨Nat.le_of_ble_eq_true rfl, Nat.le_of_ble_eq_true rfl⟩ bl_T t_U rfl hl.1 (Nat.le_of_ble_eq_true rfl) ⟨Nat.le_refl _, Nat.le_refl _⟩ dX7_seenAs_120 rfl) (fun r17 g18 => ?_)
    obtain rfl : r17 = rCh 1256 (-77) (-179) x := g18
    refine lv_bipush (v := (-78)) hx hb dX7_seenAs_123 (by decide) ?_
    refine lv_sipush (v := 930) hx hb dX7_seenAs_125 (by decide) ?_
    refine lv_sipush (v := 148) hx hb dX7_seenAs_128 (by decide) ?_
    refine lv_iload_n hx hb dX7_seenAs_131 rfl (lv_at hl 0 rfl) ?_
    refine cn_si (ck_S S lk_X7_194 (c_X7_channel l (-78) 930 148 x) ⟨rfl, rfl⟩ ⟨Nat.le_of_ble_eq_true rfl, Nat.le_of_ble_eq_true rfl⟩ bl_T t_U rfl hl.1 (Nat.le_of_ble_eq_true rfl) ⟨Nat.le_refl _, Nat.le_refl _⟩ dX7_seenAs_132 rfl) (fun r19 g20 => ?_)
    obtain rfl : r19 = rCh (-78) 930 148 x := g20
    refine lv_iconst (v := 5) hx hb dX7_seenAs_135 (by decide) ?_
    refine lv_sipush (v := 691) hx hb dX7_seenAs_136 (by decide) ?_
    refine lv_sipush (v := 304) hx hb dX7_seenAs_139 (by decide) ?_
    refine lv_iload_n hx hb dX7_seenAs_142 rfl (lv_at hl 0 rfl) ?_
    refine cn_si (ck_S S lk_X7_194 (c_X7_channel l 5 691 304 x) ⟨rfl, rfl⟩ ⟨Nat.le_of_ble_eq_true rfl, Nat.le_of_ble_eq_true rfl⟩ bl_T t_U rfl hl.1 (Nat.le_of_ble_eq_true rfl) ⟨Nat.le_refl _, Nat.le_refl _⟩ dX7_seenAs_143 rfl) (fun r21 g22 => ?_)
    obtain rfl : r21 = rCh 5 691 304 x := g22
    refine cn_si (ck_S S lk_X7_128 (c_X7_mixed l (rCh 1256 (-77) (-179) x) (rCh (-78) 930 148 x) (rCh 5 691 304 x)) ⟨rfl, rfl⟩ ⟨Nat.le_of_ble_eq_true rfl, Nat.le_of_ble_eq_true rfl⟩ bl_T t_U rfl hl.1 (Nat.le_of_ble_eq_true rfl) ⟨Nat.le_refl _, Nat.le_refl _⟩ dX7_seenAs_146 rfl) (fun r23 g24 => ?_)
    obtain rfl : r23 = pMix (rCh 1256 (-77) (-179) x) (rCh (-78) 930 148 x) (rCh 5 691 304 x) := g24
    exact re_si (v := (pMix (rCh 1256 (-77) (-179) x) (rCh (-78) 930 148 x) (rCh 5 691 304 x))) hx hb hr hlk rfl dX7_seenAs_149
  by_cases e4 : s0 = 4
  · subst e4
    refine lv_tableIn (off := 149) (tgt := 150) hx hb dX7_seenAs_1 (by decide) (by decide) rfl (by decide) ?_
    refine lv_sipush (v := 299) hx hb dX7_seenAs_150 (by decide) ?_
    refine lv_sipush (v := 587) hx hb dX7_seenAs_153 (by decide) ?_
    refine lv_bipush (v := 114) hx hb dX7_seenAs_156 (by decide) ?_
    refine lv_iload_n hx hb dX7_seenAs_158 rfl (lv_at hl 0 rfl) ?_
    refine cn_si (ck_S S lk_X7_194 (c_X7_channel l 299 587 114 x) ⟨rfl, rfl⟩ ⟨Nat.le_of_ble_eq_true rfl, Nat.le_of_ble_eq_true rfl⟩ bl_T t_U rfl hl.1 (Nat.le_of_ble_eq_true rfl) ⟨Nat.le_refl _, Nat.le_refl _⟩ dX7_seenAs_159 rfl) (fun r25 g26 => ?_)
    obtain rfl : r25 = rCh 299 587 114 x := g26
    refine lv_sipush (v := 299) hx hb dX7_seenAs_162 (by decide) ?_
    refine lv_sipush (v := 587) hx hb dX7_seenAs_165 (by decide) ?_
    refine lv_bipush (v := 114) hx hb dX7_seenAs_168 (by decide) ?_
    refine lv_iload_n hx hb dX7_seenAs_170 rfl (lv_at hl 0 rfl) ?_
    refine cn_si (ck_S S lk_X7_194 (c_X7_channel l 299 587 114 x) ⟨rfl, rfl⟩ ⟨Nat.le_of_ble_eq_true rfl, Nat.le_of_ble_eq_true rfl⟩ bl_T t_U rfl hl.1 (Nat.le_of_ble_eq_true rfl) ⟨Nat.le_refl _, Nat.le_refl _⟩ dX7_seenAs_171 rfl) (fun r27 g28 => ?_)
    obtain rfl : r27 = rCh 299 587 114 x := g28
    refine lv_sipush (v := 299) hx hb dX7_seenAs_174 (by decide) ?_
    refine lv_sipush (v := 587) hx hb dX7_seenAs_177 (by decide) ?_
    refine lv_bipush (v := 114) hx hb dX7_seenAs_180 (by decide) ?_
    refine lv_iload_n hx hb dX7_seenAs_182 rfl (lv_at hl 0 rfl) ?_
    refine cn_si (ck_S S lk_X7_194 (c_X7_channel l 299 587 114 x) ⟨rfl, rfl⟩ ⟨Nat.le_of_ble_eq_true rfl, Nat.le_of_ble_eq_true rfl⟩ bl_T t_U rfl hl.1 (Nat.le_of_ble_eq_true rfl) ⟨Nat.le_refl _, Nat.le_refl _⟩ dX7_seenAs_183 rfl) (fun r29 g30 => ?_)
    obtain rfl : r29 = rCh 299 587 114 x := g30
    refine cn_si (ck_S S lk_X7_128 (c_X7_mixed l (rCh 299 587 114 x) (rCh 299 587 114 x) (rCh 299 587 114 x)) ⟨rfl, rfl⟩ ⟨Nat.le_of_ble_eq_true rfl, Nat.le_of_ble_eq_true rfl⟩ bl_T t_U rfl hl.1 (Nat.le_of_ble_eq_true rfl) ⟨Nat.le_refl _, Nat.le_refl _⟩ dX7_seenAs_186 rfl) (fun r31 g32 => ?_)
    obtain rfl : r31 = pMix (rCh 299 587 114 x) (rCh 299 587 114 x) (rCh 299 587 114 x) := g32
    exact re_si (v := (pMix (rCh 299 587 114 x) (rCh 299 587 114 x) (rCh 299 587 114 x))) hx hb hr hlk rfl dX7_seenAs_189
  refine lv_tableOut (tgt := 190) hx hb dX7_seenAs_1 (sw4 e1 e2 e3 e4) (by decide) ?_
  refine lv_iload_n hx hb dX7_seenAs_190 rfl (lv_at hl 0 rfl) ?_
  exact re_si (v := x) hx hb hr hlk (by simp [rSeen, e1, e2, e3, e4]) dX7_seenAs_191

set_option maxHeartbeats 1000000 in
set_option maxRecDepth 100000 in
theorem c_X7_limited (l : Launch) (v : Int64)  : Met l yX7_limited (wz yX7_limited cX7_limited 2 (some .long)) (rmk 0 0 0 0) (va_Pc [.long v] (fun _ => True)) (qSl (fun zz => zz = rLimL v)) 0 0 fr0 := by
  refine en_ofW RX7 rfl (by decide +kernel) (Nat.le_of_ble_eq_true rfl) ?_
  intro p e s m below meth c ls S hr hlk hnm hl hB
  have hx := S.1
  have hb := S.2.1
  have hl : lv_has ls 2 [(0, .long v)] := hl
  refine lv_lload_n hx hb dX7_limited_0 rfl (lv_at hl 0 rfl) ?_
  refine lv_ldc2 (v := 1000000) hx hb S.2.2.2.1 (S.2.2.2.2 _ kc_X7_201) dX7_limited_1 ?_
  refine W.lcmp hx hb dX7_limited_4 ?_
  refine lv_if_le (tgt := 14) hx hb dX7_limited_5 (by decide) (fun h5 => ?_) (fun h5 => ?_)
  · refine lv_lload_n hx hb dX7_limited_14 rfl (lv_at hl 0 rfl) ?_
    refine lv_ldc2 (v := (-1000000)) hx hb S.2.2.2.1 (S.2.2.2.2 _ kc_X7_203) dX7_limited_15 ?_
    refine W.lcmp hx hb dX7_limited_18 ?_
    refine lv_if_ge (tgt := 28) hx hb dX7_limited_19 (by decide) (fun h19 => ?_) (fun h19 => ?_)
    · refine lv_lload_n hx hb dX7_limited_28 rfl (lv_at hl 0 rfl) ?_
      exact re_sl (v := v) hx hb hr hlk (by simp [rLimL, (m_lt (lc_le.mp h5)), (m_lt (lc_ge.mp h19))]) dX7_limited_29
    · refine lv_ldc2 (v := (-1000000)) hx hb S.2.2.2.1 (S.2.2.2.2 _ kc_X7_203) dX7_limited_22 ?_
      refine lv_goto (tgt := 29) hx hb dX7_limited_25 (by decide) ?_
      exact re_sl (v := (-1000000)) hx hb hr hlk (by simp [rLimL, (m_lt (lc_le.mp h5)), (m_le (fun q => h19 (lc_ge.mpr q)))]) dX7_limited_29
  · refine lv_ldc2 (v := 1000000) hx hb S.2.2.2.1 (S.2.2.2.2 _ kc_X7_201) dX7_limited_8 ?_
    refine lv_goto (tgt := 29) hx hb dX7_limited_11 (by decide) ?_
    exact re_sl (v := 1000000) hx hb hr hlk (by simp [rLimL, (m_le (fun q => h5 (lc_le.mpr q)))]) dX7_limited_29

set_option maxHeartbeats 1000000 in
set_option maxRecDepth 100000 in
theorem c_X7_operate (l : Launch) (op : Int32) (x y : Int64)  : Met l yX7_operate (wz yX7_operate cX7_operate 5 (some .long)) (rmk 1 0 0 21) (va_Pc [.int op, .long x, .long y] (fun _ => True)) (qSl (fun zz => zz = rOp op x y)) 0 0 fr0 := by
  refine en_ofW RX7 rfl (by decide +kernel) (Nat.le_of_ble_eq_true rfl) ?_
  intro p e s m below meth c ls S hr hlk hnm hl hB
  have hx := S.1
  have hb := S.2.1
  have hl : lv_has ls 5 [(0, .int op), (1, .long x), (3, .long y)] := hl
  refine lv_iload_n hx hb dX7_operate_0 rfl (lv_at hl 0 rfl) ?_
  refine lv_iconst (v := 5) hx hb dX7_operate_1 (by decide) ?_
  refine lv_icmp_ne (tgt := 19) hx hb dX7_operate_2 (by decide) (fun h2 => ?_) (fun h2 => ?_)
  · refine lv_iload_n hx hb dX7_operate_19 rfl (lv_at hl 0 rfl) ?_
    refine lv_iconst (v := 2) hx hb dX7_operate_20 (by decide) ?_
    refine lv_icmp_ne (tgt := 30) hx hb dX7_operate_21 (by decide) (fun h21 => ?_) (fun h21 => ?_)
    · refine lv_iload_n hx hb dX7_operate_30 rfl (lv_at hl 0 rfl) ?_
      refine lv_iconst (v := 3) hx hb dX7_operate_31 (by decide) ?_
      refine lv_icmp_ne (tgt := 41) hx hb dX7_operate_32 (by decide) (fun h32 => ?_) (fun h32 => ?_)
      · refine lv_lload_n hx hb dX7_operate_41 rfl (lv_at hl 1 rfl) ?_
        refine lv_lload_n hx hb dX7_operate_42 rfl (lv_at hl 2 rfl) ?_
        refine lv_lmul hx hb dX7_operate_43 ?_
        refine cn_sl (ck_S S lk_X7_205 (c_X7_limited l (x * y)) ⟨rfl, rfl⟩ ⟨Nat.le_of_ble_eq_true rfl, Nat.le_of_ble_eq_true rfl⟩ bl_T t_U rfl hl.1 (Nat.le_of_ble_eq_true rfl) ⟨Nat.le_refl _, Nat.le_refl _⟩ dX7_operate_44 rfl) (fun r1 g2 => ?_)
        obtain rfl : r1 = rLimL (x * y) := g2
        exact re_sl (v := (rLimL (x * y))) hx hb hr hlk (by simp [rOp, h2, h21, h32]) dX7_operate_47
      · refine lv_lload_n hx hb dX7_operate_35 rfl (lv_at hl 1 rfl) ?_
        refine lv_lload_n hx hb dX7_operate_36 rfl (lv_at hl 2 rfl) ?_
        refine lv_lsub hx hb dX7_operate_37 ?_
        refine lv_goto (tgt := 44) hx hb dX7_operate_38 (by decide) ?_
        refine cn_sl (ck_S S lk_X7_205 (c_X7_limited l (x - y)) ⟨rfl, rfl⟩ ⟨Nat.le_of_ble_eq_true rfl, Nat.le_of_ble_eq_true rfl⟩ bl_T t_U rfl hl.1 (Nat.le_of_ble_eq_true rfl) ⟨Nat.le_refl _, Nat.le_refl _⟩ dX7_operate_44 rfl) (fun r3 g4 => ?_)
        obtain rfl : r3 = rLimL (x - y) := g4
        exact re_sl (v := (rLimL (x - y))) hx hb hr hlk (by simp [rOp, h2, h21, h32]) dX7_operate_47
    · refine lv_lload_n hx hb dX7_operate_24 rfl (lv_at hl 1 rfl) ?_
      refine lv_lload_n hx hb dX7_operate_25 rfl (lv_at hl 2 rfl) ?_
      refine lv_ladd hx hb dX7_operate_26 ?_
      refine lv_goto (tgt := 44) hx hb dX7_operate_27 (by decide) ?_
      refine cn_sl (ck_S S lk_X7_205 (c_X7_limited l (x + y)) ⟨rfl, rfl⟩ ⟨Nat.le_of_ble_eq_true rfl, Nat.le_of_ble_eq_true rfl⟩ bl_T t_U rfl hl.1 (Nat.le_of_ble_eq_true rfl) ⟨Nat.le_refl _, Nat.le_refl _⟩ dX7_operate_44 rfl) (fun r5 g6 => ?_)
      obtain rfl : r5 = rLimL (x + y) := g6
      exact re_sl (v := (rLimL (x + y))) hx hb hr hlk (by simp [rOp, h2, h21]) dX7_operate_47
  · refine lv_lload_n hx hb dX7_operate_5 rfl (lv_at hl 2 rfl) ?_
    refine lv_lconst (v := 0) hx hb dX7_operate_6 (by decide) ?_
    refine W.lcmp hx hb dX7_operate_7 ?_
    refine lv_if_ne (tgt := 15) hx hb dX7_operate_8 (by decide) (fun h8 => ?_) (fun h8 => ?_)
    · refine lv_lload_n hx hb dX7_operate_15 rfl (lv_at hl 1 rfl) ?_
      refine lv_lload_n hx hb dX7_operate_16 rfl (lv_at hl 2 rfl) ?_
      refine lv_ldiv hx hb dX7_operate_17 (lc_ne.mp h8) ?_
      exact re_sl (v := (x / y)) hx hb hr hlk (by simp [rOp, h2, (lc_ne.mp h8)]) dX7_operate_18
    · refine lv_lconst (v := 0) hx hb dX7_operate_11 (by decide) ?_
      refine lv_goto (tgt := 18) hx hb dX7_operate_12 (by decide) ?_
      exact re_sl (v := 0) hx hb hr hlk (by simp [rOp, h2, (lc_eq.mp h8)]) dX7_operate_18

set_option maxHeartbeats 1000000 in
set_option maxRecDepth 100000 in
theorem c_X2_product (l : Launch) (x y : Int32)  : Met l yX2_product (wz yX2_product cX2_product 4 (some .int)) (rmk 1 0 0 40) (va_Pc [.int x, .int y] (fun _ => True)) (qSi (fun zz => zz = cProd x y)) 0 0 fr0 := by
  refine en_ofW RX2 rfl (by decide +kernel) (Nat.le_of_ble_eq_true rfl) ?_
  intro p e s m below meth c ls S hr hlk hnm hl hB
  have hx := S.1
  have hb := S.2.1
  have hl : lv_has ls 4 [(0, .int x), (1, .int y)] := hl
  refine lv_iload_n hx hb dX2_product_0 rfl (lv_at hl 0 rfl) ?_
  refine lv_i2l hx hb dX2_product_1 rfl ?_
  refine lv_iload_n hx hb dX2_product_2 rfl (lv_at hl 1 rfl) ?_
  refine lv_i2l hx hb dX2_product_3 rfl ?_
  refine lv_lmul hx hb dX2_product_4 ?_
  refine lv_lstore_n (lv' := [(2, .long (x.toInt64 * y.toInt64)), (0, .int x), (1, .int y)]) hx hb dX2_product_5 rfl hl (by decide) rfl (fun ls hl => ?_)
  refine lv_ldc2 (v := (-1000000)) hx hb S.2.2.2.1 (S.2.2.2.2 _ kc_X2_88) dX2_product_6 ?_
  refine lv_ldc2 (v := 1000000) hx hb S.2.2.2.1 (S.2.2.2.2 _ kc_X2_90) dX2_product_9 ?_
  refine lv_lload_n hx hb dX2_product_12 rfl (lv_at hl 0 rfl) ?_
  refine va_mmin_long hx hb (S.2.2.1.trans hl.1.symm) S.2.2.2.1 (S.2.2.2.2 _ km_X2_92) (S.2.2.2.2 _ ms_min_long) (S.2.2.2.2 _ mi_Math) (S.2.2.2.2 _ mc_min_long) (Nat.le_of_ble_eq_true rfl) (Nat.le_of_ble_eq_true rfl) (Nat.zero_le _) (Nat.zero_le _) dX2_product_13 ?_
  refine W.eq (g2 := F0 m 16 ls [.long (lMin 1000000 (x.toInt64 * y.toInt64)), .long (-1000000)]) rfl ?_
  refine va_mmax_long hx hb (S.2.2.1.trans hl.1.symm) S.2.2.2.1 (S.2.2.2.2 _ km_X2_98) (S.2.2.2.2 _ ms_max_long) (S.2.2.2.2 _ mi_Math) (S.2.2.2.2 _ mc_max_long) (Nat.le_of_ble_eq_true rfl) (Nat.le_of_ble_eq_true rfl) (Nat.zero_le _) (Nat.zero_le _) dX2_product_16 ?_
  refine W.eq (g2 := F0 m 19 ls [.long (lMax (-1000000) (lMin 1000000 (x.toInt64 * y.toInt64)))]) rfl ?_
  refine lv_l2i hx hb dX2_product_19 rfl ?_
  exact re_si (v := (lMax (-1000000) (lMin 1000000 (x.toInt64 * y.toInt64))).toInt32) hx hb hr hlk rfl dX2_product_20

