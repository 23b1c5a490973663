set_option maxHeartbeats 1000000 in
set_option maxRecDepth 100000 in
theorem c_X7_thrown (l : Launch) (E : En) (I A : Nat → Nat → Int32) (K : Nat → Nat → Int64)  (hE : Ev mN E) : Met l yX7_thrown (wz yX7_thrown cX7_thrown 1 (some .int)) (rmk 0 0 0 0) (va_Pc [.ref (eP E 0)] (Bw mN E mK (I, A, K))) (qSi (fun zz => zz = I 0 0)) 0 0 fr0 := by
  refine en_ofW RX7 rfl (by decide +kernel) (Nat.le_of_ble_eq_true rfl) ?_
  intro p e s m below meth c ls S hr hlk hnm hl hB
  have hx := S.1
  have hb := S.2.1
  obtain ⟨hK, hC, hP⟩ := hB
  have hS : va_S (cA mN E) s.heap s.heap [] := va_S.rf
  have hl : lv_has ls 1 [(0, .ref (eP E 0))] := hl
  refine lv_aload_n hx hb dX7_thrown_0 rfl (lv_at hl 0 rfl) ?_
  refine rw_geti (x := (I, A, K)) (v := I 0 0) S hK hP 0 (by decide) rfl fk_X7_35 rfl rfl dX7_thrown_1 ?_
  exact re_si (v := I 0 0) hx hb hr hlk rfl dX7_thrown_4

set_option maxHeartbeats 1000000 in
set_option maxRecDepth 100000 in
theorem c_X7_errorOffset (l : Launch) (E : En) (I A : Nat → Nat → Int32) (K : Nat → Nat → Int64)  (hE : Ev mN E) : Met l yX7_errorOffset (wz yX7_errorOffset cX7_errorOffset 1 (some .int)) (rmk 0 0 0 0) (va_Pc [.ref (eP E 0)] (Bw mN E mK (I, A, K))) (qWi mN E mK (fun zz uu => zz = I 0 7 ∧ uu = (up2 I 0 0 0, A, K))) 0 0 (cA mN E) := by
  refine en_ofW RX7 rfl (by decide +kernel) (Nat.le_of_ble_eq_true rfl) ?_
  intro p e s m below meth c ls S hr hlk hnm hl hB
  have hx := S.1
  have hb := S.2.1
  obtain ⟨hK, hC, hP⟩ := hB
  have hS : va_S (cA mN E) s.heap s.heap [] := va_S.rf
  have hl : lv_has ls 1 [(0, .ref (eP E 0))] := hl
  refine lv_aload_n hx hb dX7_errorOffset_0 rfl (lv_at hl 0 rfl) ?_
  refine lv_iconst (v := 0) hx hb dX7_errorOffset_1 (by decide) ?_
  refine rw_puti (x := (I, A, K)) (v := 0) S hE hK hP hS 0 (by decide) rfl fk_X7_35 rfl tyX7_ok nmX7 ⟨rfl, by decide +kernel⟩ dX7_errorOffset_2 (fun H locs hP hS => ?_)
  have hP : Wp mN E mK ((up2 I 0 0 0), A, K) H := hP
  refine lv_aload_n hx hb dX7_errorOffset_5 rfl (lv_at hl 0 rfl) ?_
  refine rw_geti (x := (up2 I 0 0 0, A, K)) (v := I 0 7) S hK hP 0 (by decide) rfl fk_X7_13 rfl (up2_j (f := I) (q := 0) (j := 0) (a := 0) (b := 7) (v := 0) (by decide)) dX7_errorOffset_6 ?_
  exact re_wi (x := ((up2 I 0 0 0), A, K)) (v := I 0 7) hx hb hr hlk hP hS ⟨rfl, rfl⟩ dX7_errorOffset_9

set_option maxHeartbeats 1000000 in
set_option maxRecDepth 100000 in
theorem c_X7_roleCount (l : Launch) (E : En) (I A : Nat → Nat → Int32) (K : Nat → Nat → Int64) (nr nu : Nat) (hE : Ev mN E) (hM : MOk A nr nu) : Met l yX7_roleCount (wz yX7_roleCount cX7_roleCount 1 (some .int)) (rmk 0 0 0 0) (va_Pc [.ref (eP E 0)] (Bw mN E mK (I, A, K))) (qWi mN E mK (fun zz uu => zz = nI nr ∧ uu = (up2 I 0 0 0, A, K))) 0 0 (cA mN E) := by
  refine en_ofW RX7 rfl (by decide +kernel) (Nat.le_of_ble_eq_true rfl) ?_
  intro p e s m below meth c ls S hr hlk hnm hl hB
  have hx := S.1
  have hb := S.2.1
  obtain ⟨hK, hC, hP⟩ := hB
  have hS : va_S (cA mN E) s.heap s.heap [] := va_S.rf
  have hl : lv_has ls 1 [(0, .ref (eP E 0))] := hl
  obtain ⟨⟨hn1, hn2⟩, ⟨hr0, hr1⟩, hu3, hcv⟩ := id hM
  refine lv_aload_n hx hb dX7_roleCount_0 rfl (lv_at hl 0 rfl) ?_
  refine lv_iconst (v := 0) hx hb dX7_roleCount_1 (by decide) ?_
  refine rw_puti (x := (I, A, K)) (v := 0) S hE hK hP hS 0 (by decide) rfl fk_X7_35 rfl tyX7_ok nmX7 ⟨rfl, by decide +kernel⟩ dX7_roleCount_2 (fun H locs hP hS => ?_)
  have hP : Wp mN E mK ((up2 I 0 0 0), A, K) H := hP
  refine lv_aload_n hx hb dX7_roleCount_5 rfl (lv_at hl 0 rfl) ?_
  refine rw_getr (x := ((up2 I 0 0 0), A, K)) S hK hP 0 (by decide) rfl fk_X7_17 rfl dX7_roleCount_6 ?_
  refine lv_iconst (v := 0) hx hb dX7_roleCount_9 (by decide) ?_
  refine rw_iald (x := ((up2 I 0 0 0), A, K)) (v := nI nr) S hK hP 2 (by decide) rfl 0 rfl (by decide) (by decide) hr0 dX7_roleCount_10 ?_
  exact re_wi (x := ((up2 I 0 0 0), A, K)) (v := nI nr) hx hb hr hlk hP hS ⟨rfl, rfl⟩ dX7_roleCount_11

set_option maxHeartbeats 1000000 in
set_option maxRecDepth 100000 in
theorem c_X7_ruleCount (l : Launch) (E : En) (I A : Nat → Nat → Int32) (K : Nat → Nat → Int64) (nr nu : Nat) (hE : Ev mN E) (hM : MOk A nr nu) : Met l yX7_ruleCount (wz yX7_ruleCount cX7_ruleCount 1 (some .int)) (rmk 0 0 0 0) (va_Pc [.ref (eP E 0)] (Bw mN E mK (I, A, K))) (qWi mN E mK (fun zz uu => zz = nI nu ∧ uu = (up2 I 0 0 0, A, K))) 0 0 (cA mN E) := by
  refine en_ofW RX7 rfl (by decide +kernel) (Nat.le_of_ble_eq_true rfl) ?_
  intro p e s m below meth c ls S hr hlk hnm hl hB
  have hx := S.1
  have hb := S.2.1
  obtain ⟨hK, hC, hP⟩ := hB
  have hS : va_S (cA mN E) s.heap s.heap [] := va_S.rf
  have hl : lv_has ls 1 [(0, .ref (eP E 0))] := hl
  obtain ⟨⟨hn1, hn2⟩, ⟨hr0, hr1⟩, hu3, hcv⟩ := id hM
  refine lv_aload_n hx hb dX7_ruleCount_0 rfl (lv_at hl 0 rfl) ?_
  refine lv_iconst (v := 0) hx hb dX7_ruleCount_1 (by decide) ?_
  refine rw_puti (x := (I, A, K)) (v := 0) S hE hK hP hS 0 (by decide) rfl fk_X7_35 rfl tyX7_ok nmX7 ⟨rfl, by decide +kernel⟩ dX7_ruleCount_2 (fun H locs hP hS => ?_)
  have hP : Wp mN E mK ((up2 I 0 0 0), A, K) H := hP
  refine lv_aload_n hx hb dX7_ruleCount_5 rfl (lv_at hl 0 rfl) ?_
  refine rw_getr (x := ((up2 I 0 0 0), A, K)) S hK hP 0 (by decide) rfl fk_X7_17 rfl dX7_ruleCount_6 ?_
  refine lv_iconst (v := 1) hx hb dX7_ruleCount_9 (by decide) ?_
  refine rw_iald (x := ((up2 I 0 0 0), A, K)) (v := nI nu) S hK hP 2 (by decide) rfl 1 rfl (by decide) (by decide) hr1 dX7_ruleCount_10 ?_
  exact re_wi (x := ((up2 I 0 0 0), A, K)) (v := nI nu) hx hb hr hlk hP hS ⟨rfl, rfl⟩ dX7_ruleCount_11

set_option maxHeartbeats 1000000 in
set_option maxRecDepth 100000 in
theorem c_X7_allViolated (l : Launch) (E : En) (I A : Nat → Nat → Int32) (K : Nat → Nat → Int64) (nr nu : Nat) (hE : Ev mN E) (hM : MOk A nr nu) : Met l yX7_allViolated (wz yX7_allViolated cX7_allViolated 1 (some .int)) (rmk 7 0 0 155) (va_Pc [.ref (eP E 0)] (Bw mN E mK (I, A, K))) (qSi (fun zz => zz = mVio A 0 nu + mVio A 1 nu)) 0 0 fr0 := by
  refine en_ofW RX7 rfl (by decide +kernel) (Nat.le_of_ble_eq_true rfl) ?_
  intro p e s m below meth c ls S hr hlk hnm hl hB
  have hx := S.1
  have hb := S.2.1
  obtain ⟨hK, hC, hP⟩ := hB
  have hS : va_S (cA mN E) s.heap s.heap [] := va_S.rf
  have hl : lv_has ls 1 [(0, .ref (eP E 0))] := hl
  obtain ⟨⟨hn1, hn2⟩, ⟨hr0, hr1⟩, hu3, hcv⟩ := id hM
  refine lv_aload_n hx hb dX7_allViolated_0 rfl (lv_at hl 0 rfl) ?_
  refine lv_iconst (v := 0) hx hb dX7_allViolated_1 (by decide) ?_
  refine cn_si (ck_V (a := eP E 0) S lk_X7_245 (c_X7_violatedIn l E I A K 0 nr nu hE hM (by decide)) ⟨rfl, rfl⟩ ⟨Nat.le_of_ble_eq_true rfl, Nat.le_of_ble_eq_true rfl⟩ bl_w (rc_w hK hP 0 (by decide) rfl rfl) (bw_U hE hK hC hP hS) rfl hl.1 (Nat.le_of_ble_eq_true rfl) ⟨Nat.le_refl _, Nat.le_refl _⟩ dX7_allViolated_2 rfl) (fun r1 g2 => ?_)
  obtain rfl : r1 = mVio A 0 nu := g2
  refine lv_aload_n hx hb dX7_allViolated_5 rfl (lv_at hl 0 rfl) ?_
  refine lv_iconst (v := 1) hx hb dX7_allViolated_6 (by decide) ?_
  refine cn_si (ck_V (a := eP E 0) S lk_X7_245 (c_X7_violatedIn l E I A K 1 nr nu hE hM (by decide)) ⟨rfl, rfl⟩ ⟨Nat.le_of_ble_eq_true rfl, Nat.le_of_ble_eq_true rfl⟩ bl_w (rc_w hK hP 0 (by decide) rfl rfl) (bw_U hE hK hC hP hS) rfl hl.1 (Nat.le_of_ble_eq_true rfl) ⟨Nat.le_refl _, Nat.le_refl _⟩ dX7_allViolated_7 rfl) (fun r3 g4 => ?_)
  obtain rfl : r3 = mVio A 1 nu := g4
  refine lv_iadd hx hb dX7_allViolated_10 ?_
  exact re_si (v := ((mVio A 0 nu) + (mVio A 1 nu))) hx hb hr hlk rfl dX7_allViolated_11

set_option maxHeartbeats 1000000 in
set_option maxRecDepth 100000 in
theorem c_X7_violations (l : Launch) (E : En) (I A : Nat → Nat → Int32) (K : Nat → Nat → Int64) (nr nu : Nat) (hE : Ev mN E) (hM : MOk A nr nu) : Met l yX7_violations (wz yX7_violations cX7_violations 1 (some .int)) (rmk 8 0 0 175) (va_Pc [.ref (eP E 0)] (Bw mN E mK (I, A, K))) (qWi mN E mK (fun zz uu => zz = mVio A 0 nu + mVio A 1 nu ∧ uu = (up2 I 0 0 0, A, K))) 0 0 (cA mN E) := by
  refine en_ofW RX7 rfl (by decide +kernel) (Nat.le_of_ble_eq_true rfl) ?_
  intro p e s m below meth c ls S hr hlk hnm hl hB
  have hx := S.1
  have hb := S.2.1
  obtain ⟨hK, hC, hP⟩ := hB
  have hS : va_S (cA mN E) s.heap s.heap [] := va_S.rf
  have hl : lv_has ls 1 [(0, .ref (eP E 0))] := hl
  obtain ⟨⟨hn1, hn2⟩, ⟨hr0, hr1⟩, hu3, hcv⟩ := id hM
  refine lv_aload_n hx hb dX7_violations_0 rfl (lv_at hl 0 rfl) ?_
  refine lv_iconst (v := 0) hx hb dX7_violations_1 (by decide) ?_
  refine rw_puti (x := (I, A, K)) (v := 0) S hE hK hP hS 0 (by decide) rfl fk_X7_35 rfl tyX7_ok nmX7 ⟨rfl, by decide +kernel⟩ dX7_violations_2 (fun H locs hP hS => ?_)
  have hP : Wp mN E mK ((up2 I 0 0 0), A, K) H := hP
  refine lv_aload_n hx hb dX7_violations_5 rfl (lv_at hl 0 rfl) ?_
  refine cn_si (ck_V (a := eP E 0) S lk_X7_280 (c_X7_allViolated l E (up2 I 0 0 0) A K nr nu hE hM) ⟨rfl, rfl⟩ ⟨Nat.le_of_ble_eq_true rfl, Nat.le_of_ble_eq_true rfl⟩ bl_w (rc_w hK hP 0 (by decide) rfl rfl) (bw_U hE hK hC hP hS) rfl hl.1 (Nat.le_of_ble_eq_true rfl) ⟨Nat.le_refl _, Nat.le_refl _⟩ dX7_violations_6 rfl) (fun r1 g2 => ?_)
  obtain rfl : r1 = mVio A 0 nu + mVio A 1 nu := g2
  exact re_wi (x := ((up2 I 0 0 0), A, K)) (v := (mVio A 0 nu + mVio A 1 nu)) hx hb hr hlk hP hS ⟨rfl, rfl⟩ dX7_violations_9

set_option maxHeartbeats 1000000 in
set_option maxRecDepth 100000 in
theorem c_X7_colour (l : Launch) (E : En) (I A : Nat → Nat → Int32) (K : Nat → Nat → Int64) (nr nu : Nat) (r : Nat) (sc : Nat) (hE : Ev mN E) (hM : MOk A nr nu) (k0 : r < nr) (k1 : sc < 2) : Met l yX7_colour (wz yX7_colour cX7_colour 3 (some .int)) (rmk 2 0 0 43) (va_Pc [.ref (eP E 0), .int (nI r), .int (nI sc)] (Bw mN E mK (I, A, K))) (qWi mN E mK (fun zz uu => zz = mCol A r sc ∧ uu = (up2 I 0 0 0, A, K))) 0 0 (cA mN E) := by
  refine en_ofW RX7 rfl (by decide +kernel) (Nat.le_of_ble_eq_true rfl) ?_
  intro p e s m below meth c ls S hr hlk hnm hl hB
  have hx := S.1
  have hb := S.2.1
  obtain ⟨hK, hC, hP⟩ := hB
  have hS : va_S (cA mN E) s.heap s.heap [] := va_S.rf
  have hl : lv_has ls 3 [(0, .ref (eP E 0)), (1, .int (nI r)), (2, .int (nI sc))] := hl
  obtain ⟨⟨hn1, hn2⟩, ⟨hr0, hr1⟩, hu3, hcv⟩ := id hM
  refine lv_aload_n hx hb dX7_colour_0 rfl (lv_at hl 0 rfl) ?_
  refine lv_iconst (v := 0) hx hb dX7_colour_1 (by decide) ?_
  refine rw_puti (x := (I, A, K)) (v := 0) S hE hK hP hS 0 (by decide) rfl fk_X7_35 rfl tyX7_ok nmX7 ⟨rfl, by decide +kernel⟩ dX7_colour_2 (fun H locs hP hS => ?_)
  have hP : Wp mN E mK ((up2 I 0 0 0), A, K) H := hP
  refine lv_aload_n hx hb dX7_colour_5 rfl (lv_at hl 0 rfl) ?_
  refine lv_iload_n hx hb dX7_colour_6 rfl (lv_at hl 1 rfl) ?_
  refine cn_wi (ck_V (a := eP E 0) S lk_X7_267 (c_X7_noRole_n l E (up2 I 0 0 0) A K r nr nu hE hM rfl k0) ⟨rfl, rfl⟩ ⟨Nat.le_of_ble_eq_true rfl, Nat.le_of_ble_eq_true rfl⟩ bl_w (rc_w hK hP 0 (by decide) rfl rfl) (bw_U hE hK hC hP hS) rfl hl.1 (Nat.le_of_ble_eq_true rfl) ⟨Nat.le_refl _, Nat.le_refl _⟩ dX7_colour_7 rfl) hS (fun r1 u2 H locs g3 hP hS => ?_)
  obtain ⟨rfl, rfl⟩ : r1 = 0 ∧ u2 = ((up2 I 0 0 0), A, K) := g3
  have hP : Wp mN E mK ((up2 I 0 0 0), A, K) H := hP
  refine lv_if_ne (tgt := 21) hx hb dX7_colour_10 (by decide) (fun h10 => absurd h10 (by decide)) (fun h10 => ?_)
  refine lv_aload_n hx hb dX7_colour_13 rfl (lv_at hl 0 rfl) ?_
  refine lv_iload_n hx hb dX7_colour_14 rfl (lv_at hl 2 rfl) ?_
  refine cn_wi (ck_V (a := eP E 0) S lk_X7_264 (c_X7_noScheme_n l E (up2 I 0 0 0) A K sc hE rfl k1) ⟨rfl, rfl⟩ ⟨Nat.le_of_ble_eq_true rfl, Nat.le_of_ble_eq_true rfl⟩ bl_w (rc_w hK hP 0 (by decide) rfl rfl) (bw_U hE hK hC hP hS) rfl hl.1 (Nat.le_of_ble_eq_true rfl) ⟨Nat.le_refl _, Nat.le_refl _⟩ dX7_colour_15 rfl) hS (fun r4 u5 H locs g6 hP hS => ?_)
  obtain ⟨rfl, rfl⟩ : r4 = 0 ∧ u5 = ((up2 I 0 0 0), A, K) := g6
  have hP : Wp mN E mK ((up2 I 0 0 0), A, K) H := hP
  refine lv_if_eq (tgt := 25) hx hb dX7_colour_18 (by decide) (fun h18 => ?_) (fun h18 => absurd (by decide) h18)
  refine lv_aload_n hx hb dX7_colour_25 rfl (lv_at hl 0 rfl) ?_
  refine lv_iload_n hx hb dX7_colour_26 rfl (lv_at hl 1 rfl) ?_
  refine lv_iload_n hx hb dX7_colour_27 rfl (lv_at hl 2 rfl) ?_
  refine cn_si (ck_V (a := eP E 0) S lk_X7_220 (c_X7_colourOf l E (up2 I 0 0 0) A K r sc hE (by omega) k1) ⟨rfl, rfl⟩ ⟨Nat.le_of_ble_eq_true rfl, Nat.le_of_ble_eq_true rfl⟩ bl_w (rc_w hK hP 0 (by decide) rfl rfl) (bw_U hE hK hC hP hS) rfl hl.1 (Nat.le_of_ble_eq_true rfl) ⟨Nat.le_refl _, Nat.le_refl _⟩ dX7_colour_28 rfl) (fun r7 g8 => ?_)
  obtain rfl : r7 = mCol A r sc := g8
  exact re_wi (x := ((up2 I 0 0 0), A, K)) (v := (mCol A r sc)) hx hb hr hlk hP hS ⟨rfl, rfl⟩ dX7_colour_31

set_option maxHeartbeats 1000000 in
set_option maxRecDepth 100000 in
theorem c_X7_colour_b0 (l : Launch) (E : En) (I A : Nat → Nat → Int32) (K : Nat → Nat → Int64) (nr nu : Nat) (x0 : Int32) (x1 : Int32) (hE : Ev mN E) (hM : MOk A nr nu) (kb : x0 < 0 ∨ nI nr ≤ x0) : Met l yX7_colour (wz yX7_colour cX7_colour 3 (some .int)) (rmk 2 0 0 43) (va_Pc [.ref (eP E 0), .int x0, .int x1] (Bw mN E mK (I, A, K))) (qWi mN E mK (fun zz uu => uu = (up2 I 0 0 1, A, K))) 0 0 (cA mN E) := by
  refine en_ofW RX7 rfl (by decide +kernel) (Nat.le_of_ble_eq_true rfl) ?_
  intro p e s m below meth c ls S hr hlk hnm hl hB
  have hx := S.1
  have hb := S.2.1
  obtain ⟨hK, hC, hP⟩ := hB
  have hS : va_S (cA mN E) s.heap s.heap [] := va_S.rf
  have hl : lv_has ls 3 [(0, .ref (eP E 0)), (1, .int x0), (2, .int x1)] := hl
  obtain ⟨⟨hn1, hn2⟩, ⟨hr0, hr1⟩, hu3, hcv⟩ := id hM
  refine lv_aload_n hx hb dX7_colour_0 rfl (lv_at hl 0 rfl) ?_
  refine lv_iconst (v := 0) hx hb dX7_colour_1 (by decide) ?_
  refine rw_puti (x := (I, A, K)) (v := 0) S hE hK hP hS 0 (by decide) rfl fk_X7_35 rfl tyX7_ok nmX7 ⟨rfl, by decide +kernel⟩ dX7_colour_2 (fun H locs hP hS => ?_)
  have hP : Wp mN E mK ((up2 I 0 0 0), A, K) H := hP
  refine lv_aload_n hx hb dX7_colour_5 rfl (lv_at hl 0 rfl) ?_
  refine lv_iload_n hx hb dX7_colour_6 rfl (lv_at hl 1 rfl) ?_
  refine cn_wi (ck_V (a := eP E 0) S lk_X7_267 (c_X7_noRole_b l E (up2 I 0 0 0) A K x0 nr nu hE hM rfl kb) ⟨rfl, rfl⟩ ⟨Nat.le_of_ble_eq_true rfl, Nat.le_of_ble_eq_true rfl⟩ bl_w (rc_w hK hP 0 (by decide) rfl rfl) (bw_U hE hK hC hP hS) rfl hl.1 (Nat.le_of_ble_eq_true rfl) ⟨Nat.le_refl _, Nat.le_refl _⟩ dX7_colour_7 rfl) hS (fun r1 u2 H locs g3 hP hS => ?_)
  obtain ⟨rfl, rfl⟩ : r1 = 1 ∧ u2 = ((up2 (up2 I 0 0 0) 0 0 1), A, K) := g3
  have hP : Wp mN E mK ((up2 (up2 I 0 0 0) 0 0 1), A, K) H := hP
  refine lv_if_ne (tgt := 21) hx hb dX7_colour_10 (by decide) (fun h10 => ?_) (fun h10 => absurd h10 (by decide))
  refine lv_iconst (v := 0) hx hb dX7_colour_21 (by decide) ?_
  refine lv_goto (tgt := 31) hx hb dX7_colour_22 (by decide) ?_
  exact re_wi (x := ((up2 (up2 I 0 0 0) 0 0 1), A, K)) (v := 0) hx hb hr hlk hP hS (by rw [up2_up]) dX7_colour_31

set_option maxHeartbeats 1000000 in
set_option maxRecDepth 100000 in
theorem c_X7_colour_b1 (l : Launch) (E : En) (I A : Nat → Nat → Int32) (K : Nat → Nat → Int64) (nr nu : Nat) (r : Nat) (x1 : Int32) (hE : Ev mN E) (hM : MOk A nr nu) (k0 : r < nr) (kb : x1 < 0 ∨ 2 ≤ x1) : Met l yX7_colour (wz yX7_colour cX7_colour 3 (some .int)) (rmk 2 0 0 43) (va_Pc [.ref (eP E 0), .int (nI r), .int x1] (Bw mN E mK (I, A, K))) (qWi mN E mK (fun zz uu => uu = (up2 I 0 0 1, A, K))) 0 0 (cA mN E) := by
  refine en_ofW RX7 rfl (by decide +kernel) (Nat.le_of_ble_eq_true rfl) ?_
  intro p e s m below meth c ls S hr hlk hnm hl hB
  have hx := S.1
  have hb := S.2.1
  obtain ⟨hK, hC, hP⟩ := hB
  have hS : va_S (cA mN E) s.heap s.heap [] := va_S.rf
  have hl : lv_has ls 3 [(0, .ref (eP E 0)), (1, .int (nI r)), (2, .int x1)] := hl
  obtain ⟨⟨hn1, hn2⟩, ⟨hr0, hr1⟩, hu3, hcv⟩ := id hM
  refine lv_aload_n hx hb dX7_colour_0 rfl (lv_at hl 0 rfl) ?_
  refine lv_iconst (v := 0) hx hb dX7_colour_1 (by decide) ?_
  refine rw_puti (x := (I, A, K)) (v := 0) S hE hK hP hS 0 (by decide) rfl fk_X7_35 rfl tyX7_ok nmX7 ⟨rfl, by decide +kernel⟩ dX7_colour_2 (fun H locs hP hS => ?_)
  have hP : Wp mN E mK ((up2 I 0 0 0), A, K) H := hP
  refine lv_aload_n hx hb dX7_colour_5 rfl (lv_at hl 0 rfl) ?_
  refine lv_iload_n hx hb dX7_colour_6 rfl (lv_at hl 1 rfl) ?_
  refine cn_wi (ck_V (a := eP E 0) S lk_X7_267 (c_X7_noRole_n l E (up2 I 0 0 0) A K r nr nu hE hM rfl k0) ⟨rfl, rfl⟩ ⟨Nat.le_of_ble_eq_true rfl, Nat.le_of_ble_eq_true rfl⟩ bl_w (rc_w hK hP 0 (by decide) rfl rfl) (bw_U hE hK hC hP hS) rfl hl.1 (Nat.le_of_ble_eq_true rfl) ⟨Nat.le_refl _, Nat.le_refl _⟩ dX7_colour_7 rfl) hS (fun r1 u2 H locs g3 hP hS => ?_)
  obtain ⟨rfl, rfl⟩ : r1 = 0 ∧ u2 = ((up2 I 0 0 0), A, K) := g3
  have hP : Wp mN E mK ((up2 I 0 0 0), A, K) H := hP
  refine lv_if_ne (tgt := 21) hx hb dX7_colour_10 (by decide) (fun h10 => absurd h10 (by decide)) (fun h10 => ?_)
  refine lv_aload_n hx hb dX7_colour_13 rfl (lv_at hl 0 rfl) ?_
  refine lv_iload_n hx hb dX7_colour_14 rfl (lv_at hl 2 rfl) ?_
  refine cn_wi (ck_V (a := eP E 0) S lk_X7_264 (c_X7_noScheme_b l E (up2 I 0 0 0) A K x1 hE rfl kb) ⟨rfl, rfl⟩ ⟨Nat.le_of_ble_eq_true rfl, Nat.le_of_ble_eq_true rfl⟩ bl_w (rc_w hK hP 0 (by decide) rfl rfl) (bw_U hE hK hC hP hS) rfl hl.1 (Nat.le_of_ble_eq_true rfl) ⟨Nat.le_refl _, Nat.le_refl _⟩ dX7_colour_15 rfl) hS (fun r4 u5 H locs g6 hP hS => ?_)
  obtain ⟨rfl, rfl⟩ : r4 = 1 ∧ u5 = ((up2 (up2 I 0 0 0) 0 0 1), A, K) := g6
  have hP : Wp mN E mK ((up2 (up2 I 0 0 0) 0 0 1), A, K) H := hP
  refine lv_if_eq (tgt := 25) hx hb dX7_colour_18 (by decide) (fun h18 => absurd h18 (by decide)) (fun h18 => ?_)
  refine lv_iconst (v := 0) hx hb dX7_colour_21 (by decide) ?_
  refine lv_goto (tgt := 31) hx hb dX7_colour_22 (by decide) ?_
  exact re_wi (x := ((up2 (up2 I 0 0 0) 0 0 1), A, K)) (v := 0) hx hb hr hlk hP hS (by rw [up2_up]) dX7_colour_31

set_option maxHeartbeats 1000000 in
set_option maxRecDepth 100000 in
theorem c_X7_isFixed (l : Launch) (E : En) (I A : Nat → Nat → Int32) (K : Nat → Nat → Int64) (nr nu : Nat) (r : Nat) (hE : Ev mN E) (hM : MOk A nr nu) (k0 : r < nr) : Met l yX7_isFixed (wz yX7_isFixed cX7_isFixed 2 (some .boolean)) (rmk 2 0 0 43) (va_Pc [.ref (eP E 0), .int (nI r)] (Bw mN E mK (I, A, K))) (qWi mN E mK (fun zz uu => zz = (if A 2 (4 + 3 * r + 2) = 1 then 1 else 0) ∧ uu = (up2 I 0 0 0, A, K))) 0 0 (cA mN E) := by
  refine en_ofW RX7 rfl (by decide +kernel) (Nat.le_of_ble_eq_true rfl) ?_
  intro p e s m below meth c ls S hr hlk hnm hl hB
  have hx := S.1
  have hb := S.2.1
  obtain ⟨hK, hC, hP⟩ := hB
  have hS : va_S (cA mN E) s.heap s.heap [] := va_S.rf
  have hl : lv_has ls 2 [(0, .ref (eP E 0)), (1, .int (nI r))] := hl
  obtain ⟨⟨hn1, hn2⟩, ⟨hr0, hr1⟩, hu3, hcv⟩ := id hM
  refine lv_aload_n hx hb dX7_isFixed_0 rfl (lv_at hl 0 rfl) ?_
  refine lv_iconst (v := 0) hx hb dX7_isFixed_1 (by decide) ?_
  refine rw_puti (x := (I, A, K)) (v := 0) S hE hK hP hS 0 (by decide) rfl fk_X7_35 rfl tyX7_ok nmX7 ⟨rfl, by decide +kernel⟩ dX7_isFixed_2 (fun H locs hP hS => ?_)
  have hP : Wp mN E mK ((up2 I 0 0 0), A, K) H := hP
  refine lv_aload_n hx hb dX7_isFixed_5 rfl (lv_at hl 0 rfl) ?_
  refine lv_iload_n hx hb dX7_isFixed_6 rfl (lv_at hl 1 rfl) ?_
  refine cn_wi (ck_V (a := eP E 0) S lk_X7_267 (c_X7_noRole_n l E (up2 I 0 0 0) A K r nr nu hE hM rfl k0) ⟨rfl, rfl⟩ ⟨Nat.le_of_ble_eq_true rfl, Nat.le_of_ble_eq_true rfl⟩ bl_w (rc_w hK hP 0 (by decide) rfl rfl) (bw_U hE hK hC hP hS) rfl hl.1 (Nat.le_of_ble_eq_true rfl) ⟨Nat.le_refl _, Nat.le_refl _⟩ dX7_isFixed_7 rfl) hS (fun r1 u2 H locs g3 hP hS => ?_)
  obtain ⟨rfl, rfl⟩ : r1 = 0 ∧ u2 = ((up2 I 0 0 0), A, K) := g3
  have hP : Wp mN E mK ((up2 I 0 0 0), A, K) H := hP
  refine lv_if_ne (tgt := 32) hx hb dX7_isFixed_10 (by decide) (fun h10 => absurd h10 (by decide)) (fun h10 => ?_)
  refine lv_aload_n hx hb dX7_isFixed_13 rfl (lv_at hl 0 rfl) ?_
  refine rw_getr (x := ((up2 I 0 0 0), A, K)) S hK hP 0 (by decide) rfl fk_X7_17 rfl dX7_isFixed_14 ?_
  refine lv_iload_n hx hb dX7_isFixed_17 rfl (lv_at hl 1 rfl) ?_
  refine cn_si (ck_S S lk_X7_136 (c_X7_roleN l r) ⟨rfl, rfl⟩ ⟨Nat.le_of_ble_eq_true rfl, Nat.le_of_ble_eq_true rfl⟩ bl_T t_U rfl hl.1 (Nat.le_of_ble_eq_true rfl) ⟨Nat.le_refl _, Nat.le_refl _⟩ dX7_isFixed_18 rfl) (fun r4 g5 => ?_)
  obtain rfl : r4 = nI (4 + 3 * r) := g5
  refine lv_iconst (v := 2) hx hb dX7_isFixed_21 (by decide) ?_
  refine lv_iadd hx hb dX7_isFixed_22 ?_
  refine tp_i (y := nI ((4 + 3 * r) + 2)) (nI_add (4 + 3 * r) 2) ?_
  refine rw_iald (x := ((up2 I 0 0 0), A, K)) (v := A 2 ((4 + 3 * r) + 2)) S hK hP 2 (by decide) rfl ((4 + 3 * r) + 2) rfl (by omega) (by decide) rfl dX7_isFixed_23 ?_
  refine lv_iconst (v := 1) hx hb dX7_isFixed_24 (by decide) ?_
  refine lv_icmp_ne (tgt := 32) hx hb dX7_isFixed_25 (by decide) (fun h25 => ?_) (fun h25 => ?_)
  · refine lv_iconst (v := 0) hx hb dX7_isFixed_32 (by decide) ?_
    exact re_wz (x := ((up2 I 0 0 0), A, K)) (v := 0) hx hb hr hlk rfl hP hS ⟨(if_neg h25).symm, rfl⟩ dX7_isFixed_33
  · refine lv_iconst (v := 1) hx hb dX7_isFixed_28 (by decide) ?_
    refine lv_goto (tgt := 33) hx hb dX7_isFixed_29 (by decide) ?_
    exact re_wz (x := ((up2 I 0 0 0), A, K)) (v := 1) hx hb hr hlk rfl hP hS ⟨(if_pos h25).symm, rfl⟩ dX7_isFixed_33

set_option maxHeartbeats 1000000 in
set_option maxRecDepth 100000 in
theorem c_X7_isFixed_b0 (l : Launch) (E : En) (I A : Nat → Nat → Int32) (K : Nat → Nat → Int64) (nr nu : Nat) (x0 : Int32) (hE : Ev mN E) (hM : MOk A nr nu) (kb : x0 < 0 ∨ nI nr ≤ x0) : Met l yX7_isFixed (wz yX7_isFixed cX7_isFixed 2 (some .boolean)) (rmk 2 0 0 43) (va_Pc [.ref (eP E 0), .int x0] (Bw mN E mK (I, A, K))) (qWi mN E mK (fun zz uu => uu = (up2 I 0 0 1, A, K))) 0 0 (cA mN E) := by
  refine en_ofW RX7 rfl (by decide +kernel) (Nat.le_of_ble_eq_true rfl) ?_
  intro p e s m below meth c ls S hr hlk hnm hl hB
  have hx := S.1
  have hb := S.2.1
  obtain ⟨hK, hC, hP⟩ := hB
  have hS : va_S (cA mN E) s.heap s.heap [] := va_S.rf
  have hl : lv_has ls 2 [(0, .ref (eP E 0)), (1, .int x0)] := hl
  obtain ⟨⟨hn1, hn2⟩, ⟨hr0, hr1⟩, hu3, hcv⟩ := id hM
  refine lv_aload_n hx hb dX7_isFixed_0 rfl (lv_at hl 0 rfl) ?_
  refine lv_iconst (v := 0) hx hb dX7_isFixed_1 (by decide) ?_
  refine rw_puti (x := (I, A, K)) (v := 0) S hE hK hP hS 0 (by decide) rfl fk_X7_35 rfl tyX7_ok nmX7 ⟨rfl, by decide +kernel⟩ dX7_isFixed_2 (fun H locs hP hS => ?_)
  have hP : Wp mN E mK ((up2 I 0 0 0), A, K) H := hP
  refine lv_aload_n hx hb dX7_isFixed_5 rfl (lv_at hl 0 rfl) ?_
  refine lv_iload_n hx hb dX7_isFixed_6 rfl (lv_at hl 1 rfl) ?_
  refine cn_wi (ck_V (a := eP E 0) S lk_X7_267 (c_X7_noRole_b l E (up2 I 0 0 0) A K x0 nr nu hE hM rfl kb) ⟨rfl, rfl⟩ ⟨Nat.le_of_ble_eq_true rfl, Nat.le_of_ble_eq_true rfl⟩ bl_w (rc_w hK hP 0 (by decide) rfl rfl) (bw_U hE hK hC hP hS) rfl hl.1 (Nat.le_of_ble_eq_true rfl) ⟨Nat.le_refl _, Nat.le_refl _⟩ dX7_isFixed_7 rfl) hS (fun r1 u2 H locs g3 hP hS => ?_)
  obtain ⟨rfl, rfl⟩ : r1 = 1 ∧ u2 = ((up2 (up2 I 0 0 0) 0 0 1), A, K) := g3
  have hP : Wp mN E mK ((up2 (up2 I 0 0 0) 0 0 1), A, K) H := hP
  refine lv_if_ne (tgt := 32) hx hb dX7_isFixed_10 (by decide) (fun h10 => ?_) (fun h10 => absurd h10 (by decide))
  refine lv_iconst (v := 0) hx hb dX7_isFixed_32 (by decide) ?_
  exact re_wz (x := ((up2 (up2 I 0 0 0) 0 0 1), A, K)) (v := 0) hx hb hr hlk rfl hP hS (by rw [up2_up]) dX7_isFixed_33

set_option maxHeartbeats 1000000 in
set_option maxRecDepth 100000 in
theorem c_X7_luminance (l : Launch) (E : En) (I A : Nat → Nat → Int32) (K : Nat → Nat → Int64) (nr nu : Nat) (r : Nat) (sc : Nat) (hE : Ev mN E) (hM : MOk A nr nu) (k0 : r < nr) (k1 : sc < 2) : Met l yX7_luminance (wz yX7_luminance cX7_luminance 3 (some .int)) (rmk 2 0 0 43) (va_Pc [.ref (eP E 0), .int (nI r), .int (nI sc)] (Bw mN E mK (I, A, K))) (qWi mN E mK (fun zz uu => zz = pBri (mCol A r sc) ∧ uu = (up2 I 0 0 0, A, K))) 0 0 (cA mN E) := by
  refine en_ofW RX7 rfl (by decide +kernel) (Nat.le_of_ble_eq_true rfl) ?_
  intro p e s m below meth c ls S hr hlk hnm hl hB
  have hx := S.1
  have hb := S.2.1
  obtain ⟨hK, hC, hP⟩ := hB
  have hS : va_S (cA mN E) s.heap s.heap [] := va_S.rf
  have hl : lv_has ls 3 [(0, .ref (eP E 0)), (1, .int (nI r)), (2, .int (nI sc))] := hl
  obtain ⟨⟨hn1, hn2⟩, ⟨hr0, hr1⟩, hu3, hcv⟩ := id hM
  refine lv_aload_n hx hb dX7_luminance_0 rfl (lv_at hl 0 rfl) ?_
  refine lv_iconst (v := 0) hx hb dX7_luminance_1 (by decide) ?_
  refine rw_puti (x := (I, A, K)) (v := 0) S hE hK hP hS 0 (by decide) rfl fk_X7_35 rfl tyX7_ok nmX7 ⟨rfl, by decide +kernel⟩ dX7_luminance_2 (fun H locs hP hS => ?_)
  have hP : Wp mN E mK ((up2 I 0 0 0), A, K) H := hP
  refine lv_aload_n hx hb dX7_luminance_5 rfl (lv_at hl 0 rfl) ?_
  refine lv_iload_n hx hb dX7_luminance_6 rfl (lv_at hl 1 rfl) ?_
  refine cn_wi (ck_V (a := eP E 0) S lk_X7_267 (c_X7_noRole_n l E (up2 I 0 0 0) A K r nr nu hE hM rfl k0) ⟨rfl, rfl⟩ ⟨Nat.le_of_ble_eq_true rfl, Nat.le_of_ble_eq_true rfl⟩ bl_w (rc_w hK hP 0 (by decide) rfl rfl) (bw_U hE hK hC hP hS) rfl hl.1 (Nat.le_of_ble_eq_true rfl) ⟨Nat.le_refl _, Nat.le_refl _⟩ dX7_luminance_7 rfl) hS (fun r1 u2 H locs g3 hP hS => ?_)
  obtain ⟨rfl, rfl⟩ : r1 = 0 ∧ u2 = ((up2 I 0 0 0), A, K) := g3
  have hP : Wp mN E mK ((up2 I 0 0 0), A, K) H := hP
  refine lv_if_ne (tgt := 21) hx hb dX7_luminance_10 (by decide) (fun h10 => absurd h10 (by decide)) (fun h10 => ?_)
  refine lv_aload_n hx hb dX7_luminance_13 rfl (lv_at hl 0 rfl) ?_
  refine lv_iload_n hx hb dX7_luminance_14 rfl (lv_at hl 2 rfl) ?_
  refine cn_wi (ck_V (a := eP E 0) S lk_X7_264 (c_X7_noScheme_n l E (up2 I 0 0 0) A K sc hE rfl k1) ⟨rfl, rfl⟩ ⟨Nat.le_of_ble_eq_true rfl, Nat.le_of_ble_eq_true rfl⟩ bl_w (rc_w hK hP 0 (by decide) rfl rfl) (bw_U hE hK hC hP hS) rfl hl.1 (Nat.le_of_ble_eq_true rfl) ⟨Nat.le_refl _, Nat.le_refl _⟩ dX7_luminance_15 rfl) hS (fun r4 u5 H locs g6 hP hS => ?_)
  obtain ⟨rfl, rfl⟩ : r4 = 0 ∧ u5 = ((up2 I 0 0 0), A, K) := g6
  have hP : Wp mN E mK ((up2 I 0 0 0), A, K) H := hP
  refine lv_if_eq (tgt := 25) hx hb dX7_luminance_18 (by decide) (fun h18 => ?_) (fun h18 => absurd (by decide) h18)
  refine lv_aload_n hx hb dX7_luminance_25 rfl (lv_at hl 0 rfl) ?_
  refine lv_iload_n hx hb dX7_luminance_26 rfl (lv_at hl 1 rfl) ?_
  refine lv_iload_n hx hb dX7_luminance_27 rfl (lv_at hl 2 rfl) ?_
  refine cn_si (ck_V (a := eP E 0) S lk_X7_220 (c_X7_colourOf l E (up2 I 0 0 0) A K r sc hE (by omega) k1) ⟨rfl, rfl⟩ ⟨Nat.le_of_ble_eq_true rfl, Nat.le_of_ble_eq_true rfl⟩ bl_w (rc_w hK hP 0 (by decide) rfl rfl) (bw_U hE hK hC hP hS) rfl hl.1 (Nat.le_of_ble_eq_true rfl) ⟨Nat.le_refl _, Nat.le_refl _⟩ dX7_luminance_28 rfl) (fun r7 g8 => ?_)
  obtain rfl : r7 = mCol A r sc := g8
  refine cn_si (ck_S S lk_X7_185 (c_X7_bright l (mCol A r sc)) ⟨rfl, rfl⟩ ⟨Nat.le_of_ble_eq_true rfl, Nat.le_of_ble_eq_true rfl⟩ bl_T t_U rfl hl.1 (Nat.le_of_ble_eq_true rfl) ⟨Nat.le_refl _, Nat.le_refl _⟩ dX7_luminance_31 rfl) (fun r9 g10 => ?_)
  obtain rfl : r9 = pBri (mCol A r sc) := g10
  exact re_wi (x := ((up2 I 0 0 0), A, K)) (v := (pBri (mCol A r sc))) hx hb hr hlk hP hS ⟨rfl, rfl⟩ dX7_luminance_34

set_option maxHeartbeats 1000000 in
set_option maxRecDepth 100000 in
theorem c_X7_luminance_b0 (l : Launch) (E : En) (I A : Nat → Nat → Int32) (K : Nat → Nat → Int64) (nr nu : Nat) (x0 : Int32) (x1 : Int32) (hE : Ev mN E) (hM : MOk A nr nu) (kb : x0 < 0 ∨ nI nr ≤ x0) : Met l yX7_luminance (wz yX7_luminance cX7_luminance 3 (some .int)) (rmk 2 0 0 43) (va_Pc [.ref (eP E 0), .int x0, .int x1] (Bw mN E mK (I, A, K))) (qWi mN E mK (fun zz uu => uu = (up2 I 0 0 1, A, K))) 0 0 (cA mN E) := by
  refine en_ofW RX7 rfl (by decide +kernel) (Nat.le_of_ble_eq_true rfl) ?_
  intro p e s m below meth c ls S hr hlk hnm hl hB
  have hx := S.1
  have hb := S.2.1
  obtain ⟨hK, hC, hP⟩ := hB
  have hS : va_S (cA mN E) s.heap s.heap [] := va_S.rf
  have hl : lv_has ls 3 [(0, .ref (eP E 0)), (1, .int x0), (2, .int x1)] := hl
  obtain ⟨⟨hn1, hn2⟩, ⟨hr0, hr1⟩, hu3, hcv⟩ := id hM
  refine lv_aload_n hx hb dX7_luminance_0 rfl (lv_at hl 0 rfl) ?_
  refine lv_iconst (v := 0) hx hb dX7_luminance_1 (by decide) ?_
  refine rw_puti (x := (I, A, K)) (v := 0) S hE hK hP hS 0 (by decide) rfl fk_X7_35 rfl tyX7_ok nmX7 ⟨rfl, by decide +kernel⟩ dX7_luminance_2 (fun H locs hP hS => ?_)
  have hP : Wp mN E mK ((up2 I 0 0 0), A, K) H := hP
  refine lv_aload_n hx hb dX7_luminance_5 rfl (lv_at hl 0 rfl) ?_
  refine lv_iload_n hx hb dX7_luminance_6 rfl (lv_at hl 1 rfl) ?_
  refine cn_wi (ck_V (a := eP E 0) S lk_X7_267 (c_X7_noRole_b l E (up2 I 0 0 0) A K x0 nr nu hE hM rfl kb) ⟨rfl, rfl⟩ ⟨Nat.le_of_ble_eq_true rfl, Nat.le_of_ble_eq_true rfl⟩ bl_w (rc_w hK hP 0 (by decide) rfl rfl) (bw_U hE hK hC hP hS) rfl hl.1 (Nat.le_of_ble_eq_true rfl) ⟨Nat.le_refl _, Nat.le_refl _⟩ dX7_luminance_7 rfl) hS (fun r1 u2 H locs g3 hP hS => ?_)
  obtain ⟨rfl, rfl⟩ : r1 = 1 ∧ u2 = ((up2 (up2 I 0 0 0) 0 0 1), A, K) := g3
  have hP : Wp mN E mK ((up2 (up2 I 0 0 0) 0 0 1), A, K) H := hP
  refine lv_if_ne (tgt := 21) hx hb dX7_luminance_10 (by decide) (fun h10 => ?_) (fun h10 => absurd h10 (by decide))
  refine lv_iconst (v := 0) hx hb dX7_luminance_21 (by decide) ?_
  refine lv_goto (tgt := 34) hx hb dX7_luminance_22 (by decide) ?_
  exact re_wi (x := ((up2 (up2 I 0 0 0) 0 0 1), A, K)) (v := 0) hx hb hr hlk hP hS (by rw [up2_up]) dX7_luminance_34

set_option maxHeartbeats 1000000 in
set_option maxRecDepth 100000 in
theorem c_X7_luminance_b1 (l : Launch) (E : En) (I A : Nat → Nat → Int32) (K : Nat → Nat → Int64) (nr nu : Nat) (r : Nat) (x1 : Int32) (hE : Ev mN E) (hM : MOk A nr nu) (k0 : r < nr) (kb : x1 < 0 ∨ 2 ≤ x1) : Met l yX7_luminance (wz yX7_luminance cX7_luminance 3 (some .int)) (rmk 2 0 0 43) (va_Pc [.ref (eP E 0), .int (nI r), .int x1] (Bw mN E mK (I, A, K))) (qWi mN E mK (fun zz uu => uu = (up2 I 0 0 1, A, K))) 0 0 (cA mN E) := by
  refine en_ofW RX7 rfl (by decide +kernel) (Nat.le_of_ble_eq_true rfl) ?_
  intro p e s m below meth c ls S hr hlk hnm hl hB
  have hx := S.1
  have hb := S.2.1
  obtain ⟨hK, hC, hP⟩ := hB
  have hS : va_S (cA mN E) s.heap s.heap [] := va_S.rf
  have hl : lv_has ls 3 [(0, .ref (eP E 0)), (1, .int (nI r)), (2, .int x1)] := hl
  obtain ⟨⟨hn1, hn2⟩, ⟨hr0, hr1⟩, hu3, hcv⟩ := id hM
  refine lv_aload_n hx hb dX7_luminance_0 rfl (lv_at hl 0 rfl) ?_
  refine lv_iconst (v := 0) hx hb dX7_luminance_1 (by decide) ?_
  refine rw_puti (x := (I, A, K)) (v := 0) S hE hK hP hS 0 (by decide) rfl fk_X7_35 rfl tyX7_ok nmX7 ⟨rfl, by decide +kernel⟩ dX7_luminance_2 (fun H locs hP hS => ?_)
  have hP : Wp mN E mK ((up2 I 0 0 0), A, K) H := hP
  refine lv_aload_n hx hb dX7_luminance_5 rfl (lv_at hl 0 rfl) ?_
  refine lv_iload_n hx hb dX7_luminance_6 rfl (lv_at hl 1 rfl) ?_
  refine cn_wi (ck_V (a := eP E 0) S lk_X7_267 (c_X7_noRole_n l E (up2 I 0 0 0) A K r nr nu hE hM rfl k0) ⟨rfl, rfl⟩ ⟨Nat.le_of_ble_eq_true rfl, Nat.le_of_ble_eq_true rfl⟩ bl_w (rc_w hK hP 0 (by decide) rfl rfl) (bw_U hE hK hC hP hS) rfl hl.1 (Nat.le_of_ble_eq_true rfl) ⟨Nat.le_refl _, Nat.le_refl _⟩ dX7_luminance_7 rfl) hS (fun r1 u2 H locs g3 hP hS => ?_)
  obtain ⟨rfl, rfl⟩ : r1 = 0 ∧ u2 = ((up2 I 0 0 0), A, K) := g3
  have hP : Wp mN E mK ((up2 I 0 0 0), A, K) H := hP
  refine lv_if_ne (tgt := 21) hx hb dX7_luminance_10 (by decide) (fun h10 => absurd h10 (by decide)) (fun h10 => ?_)
  refine lv_aload_n hx hb dX7_luminance_13 rfl (lv_at hl 0 rfl) ?_
  refine lv_iload_n hx hb dX7_luminance_14 rfl (lv_at hl 2 rfl) ?_
  refine cn_wi (ck_V (a := eP E 0) S lk_X7_264 (c_X7_noScheme_b l E (up2 I 0 0 0) A K x1 hE rfl kb) ⟨rfl, rfl⟩ ⟨Nat.le_of_ble_eq_true rfl, Nat.le_of_ble_eq_true rfl⟩ bl_w (rc_w hK hP 0 (by decide) rfl rfl) (bw_U hE hK hC hP hS) rfl hl.1 (Nat.le_of_ble_eq_true rfl) ⟨Nat.le_refl _, Nat.le_refl _⟩ dX7_luminance_15 rfl) hS (fun r4 u5 H locs g6 hP hS => ?_)
  obtain ⟨rfl, rfl⟩ : r4 = 1 ∧ u5 = ((up2 (up2 I 0 0 0) 0 0 1), A, K) := g6
  have hP : Wp mN E mK ((up2 (up2 I 0 0 0) 0 0 1), A, K) H := hP
  refine lv_if_eq (tgt := 25) hx hb dX7_luminance_18 (by decide) (fun h18 => absurd h18 (by decide)) (fun h18 => ?_)
  refine lv_iconst (v := 0) hx hb dX7_luminance_21 (by decide) ?_
  refine lv_goto (tgt := 34) hx hb dX7_luminance_22 (by decide) ?_
  exact re_wi (x := ((up2 (up2 I 0 0 0) 0 0 1), A, K)) (v := 0) hx hb hr hlk hP hS (by rw [up2_up]) dX7_luminance_34

set_option maxHeartbeats 1000000 in
set_option maxRecDepth 100000 in
theorem c_X7_contrast (l : Launch) (E : En) (I A : Nat → Nat → Int32) (K : Nat → Nat → Int64) (nr nu : Nat) (r : Nat) (q : Nat) (sc : Nat) (hE : Ev mN E) (hM : MOk A nr nu) (k0 : r < nr) (k1 : q < nr) (k2 : sc < 2) : Met l yX7_contrast (wz yX7_contrast cX7_contrast 4 (some .int)) (rmk 3 0 0 61) (va_Pc [.ref (eP E 0), .int (nI r), .int (nI q), .int (nI sc)] (Bw mN E mK (I, A, K))) (qWi mN E mK (fun zz uu => zz = rCon (mCol A r sc) (mCol A q sc) ∧ uu = (up2 I 0 0 0, A, K))) 0 0 (cA mN E) := by
  refine en_ofW RX7 rfl (by decide +kernel) (Nat.le_of_ble_eq_true rfl) ?_
  intro p e s m below meth c ls S hr hlk hnm hl hB
  have hx := S.1
  have hb := S.2.1
  obtain ⟨hK, hC, hP⟩ := hB
  have hS : va_S (cA mN E) s.heap s.heap [] := va_S.rf
  have hl : lv_has ls 4 [(0, .ref (eP E 0)), (1, .int (nI r)), (2, .int (nI q)), (3, .int (nI sc))] := hl
  obtain ⟨⟨hn1, hn2⟩, ⟨hr0, hr1⟩, hu3, hcv⟩ := id hM
  refine lv_aload_n hx hb dX7_contrast_0 rfl (lv_at hl 0 rfl) ?_
  refine lv_iconst (v := 0) hx hb dX7_contrast_1 (by decide) ?_
  refine rw_puti (x := (I, A, K)) (v := 0) S hE hK hP hS 0 (by decide) rfl fk_X7_35 rfl tyX7_ok nmX7 ⟨rfl, by decide +kernel⟩ dX7_contrast_2 (fun H locs hP hS => ?_)
  have hP : Wp mN E mK ((up2 I 0 0 0), A, K) H := hP
  refine lv_aload_n hx hb dX7_contrast_5 rfl (lv_at hl 0 rfl) ?_
  refine lv_iload_n hx hb dX7_contrast_6 rfl (lv_at hl 1 rfl) ?_
  refine cn_wi (ck_V (a := eP E 0) S lk_X7_267 (c_X7_noRole_n l E (up2 I 0 0 0) A K r nr nu hE hM rfl k0) ⟨rfl, rfl⟩ ⟨Nat.le_of_ble_eq_true rfl, Nat.le_of_ble_eq_true rfl⟩ bl_w (rc_w hK hP 0 (by decide) rfl rfl) (bw_U hE hK hC hP hS) rfl hl.1 (Nat.le_of_ble_eq_true rfl) ⟨Nat.le_refl _, Nat.le_refl _⟩ dX7_contrast_7 rfl) hS (fun r1 u2 H locs g3 hP hS => ?_)
  obtain ⟨rfl, rfl⟩ : r1 = 0 ∧ u2 = ((up2 I 0 0 0), A, K) := g3
  have hP : Wp mN E mK ((up2 I 0 0 0), A, K) H := hP
  refine lv_if_ne (tgt := 29) hx hb dX7_contrast_10 (by decide) (fun h10 => absurd h10 (by decide)) (fun h10 => ?_)
  refine lv_aload_n hx hb dX7_contrast_13 rfl (lv_at hl 0 rfl) ?_
  refine lv_iload_n hx hb dX7_contrast_14 rfl (lv_at hl 2 rfl) ?_
  refine cn_wi (ck_V (a := eP E 0) S lk_X7_267 (c_X7_noRole_n l E (up2 I 0 0 0) A K q nr nu hE hM rfl k1) ⟨rfl, rfl⟩ ⟨Nat.le_of_ble_eq_true rfl, Nat.le_of_ble_eq_true rfl⟩ bl_w (rc_w hK hP 0 (by decide) rfl rfl) (bw_U hE hK hC hP hS) rfl hl.1 (Nat.le_of_ble_eq_true rfl) ⟨Nat.le_refl _, Nat.le_refl _⟩ dX7_contrast_15 rfl) hS (fun r4 u5 H locs g6 hP hS => ?_)
  obtain ⟨rfl, rfl⟩ : r4 = 0 ∧ u5 = ((up2 I 0 0 0), A, K) := g6
  have hP : Wp mN E mK ((up2 I 0 0 0), A, K) H := hP
  refine lv_if_ne (tgt := 29) hx hb dX7_contrast_18 (by decide) (fun h18 => absurd h18 (by decide)) (fun h18 => ?_)
  refine lv_aload_n hx hb dX7_contrast_21 rfl (lv_at hl 0 rfl) ?_
  refine lv_iload_n hx hb dX7_contrast_22 rfl (lv_at hl 3 rfl) ?_
  refine cn_wi (ck_V (a := eP E 0) S lk_X7_264 (c_X7_noScheme_n l E (up2 I 0 0 0) A K sc hE rfl k2) ⟨rfl, rfl⟩ ⟨Nat.le_of_ble_eq_true rfl, Nat.le_of_ble_eq_true rfl⟩ bl_w (rc_w hK hP 0 (by decide) rfl rfl) (bw_U hE hK hC hP hS) rfl hl.1 (Nat.le_of_ble_eq_true rfl) ⟨Nat.le_refl _, Nat.le_refl _⟩ dX7_contrast_23 rfl) hS (fun r7 u8 H locs g9 hP hS => ?_)
  obtain ⟨rfl, rfl⟩ : r7 = 0 ∧ u8 = ((up2 I 0 0 0), A, K) := g9
  have hP : Wp mN E mK ((up2 I 0 0 0), A, K) H := hP
  refine lv_if_eq (tgt := 33) hx hb dX7_contrast_26 (by decide) (fun h26 => ?_) (fun h26 => absurd (by decide) h26)
  refine lv_aload_n hx hb dX7_contrast_33 rfl (lv_at hl 0 rfl) ?_
  refine lv_iload_n hx hb dX7_contrast_34 rfl (lv_at hl 1 rfl) ?_
  refine lv_iload_n hx hb dX7_contrast_35 rfl (lv_at hl 3 rfl) ?_
  refine cn_si (ck_V (a := eP E 0) S lk_X7_220 (c_X7_colourOf l E (up2 I 0 0 0) A K r sc hE (by omega) k2) ⟨rfl, rfl⟩ ⟨Nat.le_of_ble_eq_true rfl, Nat.le_of_ble_eq_true rfl⟩ bl_w (rc_w hK hP 0 (by decide) rfl rfl) (bw_U hE hK hC hP hS) rfl hl.1 (Nat.le_of_ble_eq_true rfl) ⟨Nat.le_refl _, Nat.le_refl _⟩ dX7_contrast_36 rfl) (fun r10 g11 => ?_)
  obtain rfl : r10 = mCol A r sc := g11
  refine lv_aload_n hx hb dX7_contrast_39 rfl (lv_at hl 0 rfl) ?_
  refine lv_iload_n hx hb dX7_contrast_40 rfl (lv_at hl 2 rfl) ?_
  refine lv_iload_n hx hb dX7_contrast_41 rfl (lv_at hl 3 rfl) ?_
  refine cn_si (ck_V (a := eP E 0) S lk_X7_220 (c_X7_colourOf l E (up2 I 0 0 0) A K q sc hE (by omega) k2) ⟨rfl, rfl⟩ ⟨Nat.le_of_ble_eq_true rfl, Nat.le_of_ble_eq_true rfl⟩ bl_w (rc_w hK hP 0 (by decide) rfl rfl) (bw_U hE hK hC hP hS) rfl hl.1 (Nat.le_of_ble_eq_true rfl) ⟨Nat.le_refl _, Nat.le_refl _⟩ dX7_contrast_42 rfl) (fun r12 g13 => ?_)
  obtain rfl : r12 = mCol A q sc := g13
  refine cn_si (ck_S S lk_X7_223 (c_X7_contrastOf l (mCol A r sc) (mCol A q sc) (vC_nz (hcv _ k0 _ k2) (hcv _ k1 _ k2))) ⟨rfl, rfl⟩ ⟨Nat.le_of_ble_eq_true rfl, Nat.le_of_ble_eq_true rfl⟩ bl_T t_U rfl hl.1 (Nat.le_of_ble_eq_true rfl) ⟨Nat.le_refl _, Nat.le_refl _⟩ dX7_contrast_45 rfl) (fun r14 g15 => ?_)
  obtain rfl : r14 = rCon (mCol A r sc) (mCol A q sc) := g15
  exact re_wi (x := ((up2 I 0 0 0), A, K)) (v := (rCon (mCol A r sc) (mCol A q sc))) hx hb hr hlk hP hS ⟨rfl, rfl⟩ dX7_contrast_48

set_option maxHeartbeats 1000000 in
set_option maxRecDepth 100000 in
theorem c_X7_contrast_b0 (l : Launch) (E : En) (I A : Nat → Nat → Int32) (K : Nat → Nat → Int64) (nr nu : Nat) (x0 : Int32) (x1 : Int32) (x2 : Int32) (hE : Ev mN E) (hM : MOk A nr nu) (kb : x0 < 0 ∨ nI nr ≤ x0) : Met l yX7_contrast (wz yX7_contrast cX7_contrast 4 (some .int)) (rmk 2 0 0 43) (va_Pc [.ref (eP E 0), .int x0, .int x1, .int x2] (Bw mN E mK (I, A, K))) (qWi mN E mK (fun zz uu => uu = (up2 I 0 0 1, A, K))) 0 0 (cA mN E) := by
  refine en_ofW RX7 rfl (by decide +kernel) (Nat.le_of_ble_eq_true rfl) ?_
  intro p e s m below meth c ls S hr hlk hnm hl hB
  have hx := S.1
  have hb := S.2.1
  obtain ⟨hK, hC, hP⟩ := hB
  have hS : va_S (cA mN E) s.heap s.heap [] := va_S.rf
  have hl : lv_has ls 4 [(0, .ref (eP E 0)), (1, .int x0), (2, .int x1), (3, .int x2)] := hl
  obtain ⟨⟨hn1, hn2⟩, ⟨hr0, hr1⟩, hu3, hcv⟩ := id hM
  refine lv_aload_n hx hb dX7_contrast_0 rfl (lv_at hl 0 rfl) ?_
  refine lv_iconst (v := 0) hx hb dX7_contrast_1 (by decide) ?_
  refine rw_puti (x := (I, A, K)) (v := 0) S hE hK hP hS 0 (by decide) rfl fk_X7_35 rfl tyX7_ok nmX7 ⟨rfl, by decide +kernel⟩ dX7_contrast_2 (fun H locs hP hS => ?_)
  have hP : Wp mN E mK ((up2 I 0 0 0), A, K) H := hP
  refine lv_aload_n hx hb dX7_contrast_5 rfl (lv_at hl 0 rfl) ?_
  refine lv_iload_n hx hb dX7_contrast_6 rfl (lv_at hl 1 rfl) ?_
  refine cn_wi (ck_V (a := eP E 0) S lk_X7_267 (c_X7_noRole_b l E (up2 I 0 0 0) A K x0 nr nu hE hM rfl kb) ⟨rfl, rfl⟩ ⟨Nat.le_of_ble_eq_true rfl, Nat.le_of_ble_eq_true rfl⟩ bl_w (rc_w hK hP 0 (by decide) rfl rfl) (bw_U hE hK hC hP hS) rfl hl.1 (Nat.le_of_ble_eq_true rfl) ⟨Nat.le_refl _, Nat.le_refl _⟩ dX7_contrast_7 rfl) hS (fun r1 u2 H locs g3 hP hS => ?_)
  obtain ⟨rfl, rfl⟩ : r1 = 1 ∧ u2 = ((up2 (up2 I 0 0 0) 0 0 1), A, K) := g3
  have hP : Wp mN E mK ((up2 (up2 I 0 0 0) 0 0 1), A, K) H := hP
  refine lv_if_ne (tgt := 29) hx hb dX7_contrast_10 (by decide) (fun h10 => ?_) (fun h10 => absurd h10 (by decide))
  refine lv_iconst (v := 0) hx hb dX7_contrast_29 (by decide) ?_
  refine lv_goto (tgt := 48) hx hb dX7_contrast_30 (by decide) ?_
  exact re_wi (x := ((up2 (up2 I 0 0 0) 0 0 1), A, K)) (v := 0) hx hb hr hlk hP hS (by rw [up2_up]) dX7_contrast_48

set_option maxHeartbeats 1000000 in
set_option maxRecDepth 100000 in
theorem c_X7_contrast_b1 (l : Launch) (E : En) (I A : Nat → Nat → Int32) (K : Nat → Nat → Int64) (nr nu : Nat) (r : Nat) (x1 : Int32) (x2 : Int32) (hE : Ev mN E) (hM : MOk A nr nu) (k0 : r < nr) (kb : x1 < 0 ∨ nI nr ≤ x1) : Met l yX7_contrast (wz yX7_contrast cX7_contrast 4 (some .int)) (rmk 2 0 0 43) (va_Pc [.ref (eP E 0), .int (nI r), .int x1, .int x2] (Bw mN E mK (I, A, K))) (qWi mN E mK (fun zz uu => uu = (up2 I 0 0 1, A, K))) 0 0 (cA mN E) := by
  refine en_ofW RX7 rfl (by decide +kernel) (Nat.le_of_ble_eq_true rfl) ?_
  intro p e s m below meth c ls S hr hlk hnm hl hB
  have hx := S.1
  have hb := S.2.1
  obtain ⟨hK, hC, hP⟩ := hB
  have hS : va_S (cA mN E) s.heap s.heap [] := va_S.rf
  have hl : lv_has ls 4 [(0, .ref (eP E 0)), (1, .int (nI r)), (2, .int x1), (3, .int x2)] := hl
  obtain ⟨⟨hn1, hn2⟩, ⟨hr0, hr1⟩, hu3, hcv⟩ := id hM
  refine lv_aload_n hx hb dX7_contrast_0 rfl (lv_at hl 0 rfl) ?_
  refine lv_iconst (v := 0) hx hb dX7_contrast_1 (by decide) ?_
  refine rw_puti (x := (I, A, K)) (v := 0) S hE hK hP hS 0 (by decide) rfl fk_X7_35 rfl tyX7_ok nmX7 ⟨rfl, by decide +kernel⟩ dX7_contrast_2 (fun H locs hP hS => ?_)
  have hP : Wp mN E mK ((up2 I 0 0 0), A, K) H := hP
  refine lv_aload_n hx hb dX7_contrast_5 rfl (lv_at hl 0 rfl) ?_
  refine lv_iload_n hx hb dX7_contrast_6 rfl (lv_at hl 1 rfl) ?_
  refine cn_wi (ck_V (a := eP E 0) S lk_X7_267 (c_X7_noRole_n l E (up2 I 0 0 0) A K r nr nu hE hM rfl k0) ⟨rfl, rfl⟩ ⟨Nat.le_of_ble_eq_true rfl, Nat.le_of_ble_eq_true rfl⟩ bl_w (rc_w hK hP 0 (by decide) rfl rfl) (bw_U hE hK hC hP hS) rfl hl.1 (Nat.le_of_ble_eq_true rfl) ⟨Nat.le_refl _, Nat.le_refl _⟩ dX7_contrast_7 rfl) hS (fun r1 u2 H locs g3 hP hS => ?_)
  obtain ⟨rfl, rfl⟩ : r1 = 0 ∧ u2 = ((up2 I 0 0 0), A, K) := g3
  have hP : Wp mN E mK ((up2 I 0 0 0), A, K) H := hP
  refine lv_if_ne (tgt := 29) hx hb dX7_contrast_10 (by decide) (fun h10 => absurd h10 (by decide)) (fun h10 => ?_)
  refine lv_aload_n hx hb dX7_contrast_13 rfl (lv_at hl 0 rfl) ?_
  refine lv_iload_n hx hb dX7_contrast_14 rfl (lv_at hl 2 rfl) ?_
  refine cn_wi (ck_V (a := eP E 0) S lk_X7_267 (c_X7_noRole_b l E (up2 I 0 0 0) A K x1 nr nu hE hM rfl kb) ⟨rfl, rfl⟩ ⟨Nat.le_of_ble_eq_true rfl, Nat.le_of_ble_eq_true rfl⟩ bl_w (rc_w hK hP 0 (by decide) rfl rfl) (bw_U hE hK hC hP hS) rfl hl.1 (Nat.le_of_ble_eq_true rfl) ⟨Nat.le_refl _, Nat.le_refl _⟩ dX7_contrast_15 rfl) hS (fun r4 u5 H locs g6 hP hS => ?_)
  obtain ⟨rfl, rfl⟩ : r4 = 1 ∧ u5 = ((up2 (up2 I 0 0 0) 0 0 1), A, K) := g6
  have hP : Wp mN E mK ((up2 (up2 I 0 0 0) 0 0 1), A, K) H := hP
  refine lv_if_ne (tgt := 29) hx hb dX7_contrast_18 (by decide) (fun h18 => ?_) (fun h18 => absurd h18 (by decide))
  refine lv_iconst (v := 0) hx hb dX7_contrast_29 (by decide) ?_
  refine lv_goto (tgt := 48) hx hb dX7_contrast_30 (by decide) ?_
  exact re_wi (x := ((up2 (up2 I 0 0 0) 0 0 1), A, K)) (v := 0) hx hb hr hlk hP hS (by rw [up2_up]) dX7_contrast_48

set_option maxHeartbeats 1000000 in
set_option maxRecDepth 100000 in
theorem c_X7_contrast_b2 (l : Launch) (E : En) (I A : Nat → Nat → Int32) (K : Nat → Nat → Int64) (nr nu : Nat) (r : Nat) (q : Nat) (x2 : Int32) (hE : Ev mN E) (hM : MOk A nr nu) (k0 : r < nr) (k1 : q < nr) (kb : x2 < 0 ∨ 2 ≤ x2) : Met l yX7_contrast (wz yX7_contrast cX7_contrast 4 (some .int)) (rmk 2 0 0 43) (va_Pc [.ref (eP E 0), .int (nI r), .int (nI q), .int x2] (Bw mN E mK (I, A, K))) (qWi mN E mK (fun zz uu => uu = (up2 I 0 0 1, A, K))) 0 0 (cA mN E) := by
  refine en_ofW RX7 rfl (by decide +kernel) (Nat.le_of_ble_eq_true rfl) ?_
  intro p e s m below meth c ls S hr hlk hnm hl hB
  have hx := S.1
  have hb := S.2.1
  obtain ⟨hK, hC, hP⟩ := hB
  have hS : va_S (cA mN E) s.heap s.heap [] := va_S.rf
  have hl : lv_has ls 4 [(0, .ref (eP E 0)), (1, .int (nI r)), (2, .int (nI q)), (3, .int x2)] := hl
  obtain ⟨⟨hn1, hn2⟩, ⟨hr0, hr1⟩, hu3, hcv⟩ := id hM
  refine lv_aload_n hx hb dX7_contrast_0 rfl (lv_at hl 0 rfl) ?_
  refine lv_iconst (v := 0) hx hb dX7_contrast_1 (by decide) ?_
  refine rw_puti (x := (I, A, K)) (v := 0) S hE hK hP hS 0 (by decide) rfl fk_X7_35 rfl tyX7_ok nmX7 ⟨rfl, by decide +kernel⟩ dX7_contrast_2 (fun H locs hP hS => ?_)
  have hP : Wp mN E mK ((up2 I 0 0 0), A, K) H := hP
  refine lv_aload_n hx hb dX7_contrast_5 rfl (lv_at hl 0 rfl) ?_
  refine lv_iload_n hx hb dX7_contrast_6 rfl (lv_at hl 1 rfl) ?_
  refine cn_wi (ck_V (a := eP E 0) S lk_X7_267 (c_X7_noRole_n l E (up2 I 0 0 0) A K r nr nu hE hM rfl k0) ⟨rfl, rfl⟩ ⟨Nat.le_of_ble_eq_true rfl, Nat.le_of_ble_eq_true rfl⟩ bl_w (rc_w hK hP 0 (by decide) rfl rfl) (bw_U hE hK hC hP hS) rfl hl.1 (Nat.le_of_ble_eq_true rfl) ⟨Nat.le_refl _, Nat.le_refl _⟩ dX7_contrast_7 rfl) hS (fun r1 u2 H locs g3 hP hS => ?_)
  obtain ⟨rfl, rfl⟩ : r1 = 0 ∧ u2 = ((up2 I 0 0 0), A, K) := g3
  have hP : Wp mN E mK ((up2 I 0 0 0), A, K) H := hP
  refine lv_if_ne (tgt := 29) hx hb dX7_contrast_10 (by decide) (fun h10 => absurd h10 (by decide)) (fun h10 => ?_)
  refine lv_aload_n hx hb dX7_contrast_13 rfl (lv_at hl 0 rfl) ?_
  refine lv_iload_n hx hb dX7_contrast_14 rfl (lv_at hl 2 rfl) ?_
  refine cn_wi (ck_V (a := eP E 0) S lk_X7_267 (c_X7_noRole_n l E (up2 I 0 0 0) A K q nr nu hE hM rfl k1) ⟨rfl, rfl⟩ ⟨Nat.le_of_ble_eq_true rfl, Nat.le_of_ble_eq_true rfl⟩ bl_w (rc_w hK hP 0 (by decide) rfl rfl) (bw_U hE hK hC hP hS) rfl hl.1 (Nat.le_of_ble_eq_true rfl) ⟨Nat.le_refl _, Nat.le_refl _⟩ dX7_contrast_15 rfl) hS (fun r4 u5 H locs g6 hP hS => ?_)
  obtain ⟨rfl, rfl⟩ : r4 = 0 ∧ u5 = ((up2 I 0 0 0), A, K) := g6
  have hP : Wp mN E mK ((up2 I 0 0 0), A, K) H := hP
  refine lv_if_ne (tgt := 29) hx hb dX7_contrast_18 (by decide) (fun h18 => absurd h18 (by decide)) (fun h18 => ?_)
  refine lv_aload_n hx hb dX7_contrast_21 rfl (lv_at hl 0 rfl) ?_
  refine lv_iload_n hx hb dX7_contrast_22 rfl (lv_at hl 3 rfl) ?_
  refine cn_wi (ck_V (a := eP E 0) S lk_X7_264 (c_X7_noScheme_b l E (up2 I 0 0 0) A K x2 hE rfl kb) ⟨rfl, rfl⟩ ⟨Nat.le_of_ble_eq_true rfl, Nat.le_of_ble_eq_true rfl⟩ bl_w (rc_w hK hP 0 (by decide) rfl rfl) (bw_U hE hK hC hP hS) rfl hl.1 (Nat.le_of_ble_eq_true rfl) ⟨Nat.le_refl _, Nat.le_refl _⟩ dX7_contrast_23 rfl) hS (fun r7 u8 H locs g9 hP hS => ?_)
  obtain ⟨rfl, rfl⟩ : r7 = 1 ∧ u8 = ((up2 (up2 I 0 0 0) 0 0 1), A, K) := g9
  have hP : Wp mN E mK ((up2 (up2 I 0 0 0) 0 0 1), A, K) H := hP
  refine lv_if_eq (tgt := 33) hx hb dX7_contrast_26 (by decide) (fun h26 => absurd h26 (by decide)) (fun h26 => ?_)
  refine lv_iconst (v := 0) hx hb dX7_contrast_29 (by decide) ?_
  refine lv_goto (tgt := 48) hx hb dX7_contrast_30 (by decide) ?_
  exact re_wi (x := ((up2 (up2 I 0 0 0) 0 0 1), A, K)) (v := 0) hx hb hr hlk hP hS (by rw [up2_up]) dX7_contrast_48

set_option maxHeartbeats 1000000 in
set_option maxRecDepth 100000 in
theorem c_X7_seen (l : Launch) (E : En) (I A : Nat → Nat → Int32) (K : Nat → Nat → Int64) (nr nu : Nat) (r : Nat) (sc : Nat) (t : Nat) (hE : Ev mN E) (hM : MOk A nr nu) (k0 : r < nr) (k1 : sc < 2) (k2 : t < 5) : Met l yX7_seen (wz yX7_seen cX7_seen 4 (some .int)) (rmk 4 0 0 85) (va_Pc [.ref (eP E 0), .int (nI r), .int (nI sc), .int (nI t)] (Bw mN E mK (I, A, K))) (qWi mN E mK (fun zz uu => zz = rSeen (mCol A r sc) (nI t) ∧ uu = (up2 I 0 0 0, A, K))) 0 0 (cA mN E) := by
  refine en_ofW RX7 rfl (by decide +kernel) (Nat.le_of_ble_eq_true rfl) ?_
  intro p e s m below meth c ls S hr hlk hnm hl hB
  have hx := S.1
  have hb := S.2.1
  obtain ⟨hK, hC, hP⟩ := hB
  have hS : va_S (cA mN E) s.heap s.heap [] := va_S.rf
  have hl : lv_has ls 4 [(0, .ref (eP E 0)), (1, .int (nI r)), (2, .int (nI sc)), (3, .int (nI t))] := hl
  obtain ⟨⟨hn1, hn2⟩, ⟨hr0, hr1⟩, hu3, hcv⟩ := id hM
  refine lv_aload_n hx hb dX7_seen_0 rfl (lv_at hl 0 rfl) ?_
  refine lv_iconst (v := 0) hx hb dX7_seen_1 (by decide) ?_
  refine rw_puti (x := (I, A, K)) (v := 0) S hE hK hP hS 0 (by decide) rfl fk_X7_35 rfl tyX7_ok nmX7 ⟨rfl, by decide +kernel⟩ dX7_seen_2 (fun H locs hP hS => ?_)
  have hP : Wp mN E mK ((up2 I 0 0 0), A, K) H := hP
  refine lv_aload_n hx hb dX7_seen_5 rfl (lv_at hl 0 rfl) ?_
  refine lv_iload_n hx hb dX7_seen_6 rfl (lv_at hl 1 rfl) ?_
  refine cn_wi (ck_V (a := eP E 0) S lk_X7_267 (c_X7_noRole_n l E (up2 I 0 0 0) A K r nr nu hE hM rfl k0) ⟨rfl, rfl⟩ ⟨Nat.le_of_ble_eq_true rfl, Nat.le_of_ble_eq_true rfl⟩ bl_w (rc_w hK hP 0 (by decide) rfl rfl) (bw_U hE hK hC hP hS) rfl hl.1 (Nat.le_of_ble_eq_true rfl) ⟨Nat.le_refl _, Nat.le_refl _⟩ dX7_seen_7 rfl) hS (fun r1 u2 H locs g3 hP hS => ?_)
  obtain ⟨rfl, rfl⟩ : r1 = 0 ∧ u2 = ((up2 I 0 0 0), A, K) := g3
  have hP : Wp mN E mK ((up2 I 0 0 0), A, K) H := hP
  refine lv_if_ne (tgt := 29) hx hb dX7_seen_10 (by decide) (fun h10 => absurd h10 (by decide)) (fun h10 => ?_)
  refine lv_aload_n hx hb dX7_seen_13 rfl (lv_at hl 0 rfl) ?_
  refine lv_iload_n hx hb dX7_seen_14 rfl (lv_at hl 2 rfl) ?_
  refine cn_wi (ck_V (a := eP E 0) S lk_X7_264 (c_X7_noScheme_n l E (up2 I 0 0 0) A K sc hE rfl k1) ⟨rfl, rfl⟩ ⟨Nat.le_of_ble_eq_true rfl, Nat.le_of_ble_eq_true rfl⟩ bl_w (rc_w hK hP 0 (by decide) rfl rfl) (bw_U hE hK hC hP hS) rfl hl.1 (Nat.le_of_ble_eq_true rfl) ⟨Nat.le_refl _, Nat.le_refl _⟩ dX7_seen_15 rfl) hS (fun r4 u5 H locs g6 hP hS => ?_)
  obtain ⟨rfl, rfl⟩ : r4 = 0 ∧ u5 = ((up2 I 0 0 0), A, K) := g6
  have hP : Wp mN E mK ((up2 I 0 0 0), A, K) H := hP
  refine lv_if_ne (tgt := 29) hx hb dX7_seen_18 (by decide) (fun h18 => absurd h18 (by decide)) (fun h18 => ?_)
  refine lv_aload_n hx hb dX7_seen_21 rfl (lv_at hl 0 rfl) ?_
  refine lv_iload_n hx hb dX7_seen_22 rfl (lv_at hl 3 rfl) ?_
  refine cn_wi (ck_V (a := eP E 0) S lk_X7_270 (c_X7_noSight_n l E (up2 I 0 0 0) A K t hE rfl k2) ⟨rfl, rfl⟩ ⟨Nat.le_of_ble_eq_true rfl, Nat.le_of_ble_eq_true rfl⟩ bl_w (rc_w hK hP 0 (by decide) rfl rfl) (bw_U hE hK hC hP hS) rfl hl.1 (Nat.le_of_ble_eq_true rfl) ⟨Nat.le_refl _, Nat.le_refl _⟩ dX7_seen_23 rfl) hS (fun r7 u8 H locs g9 hP hS => ?_)
  obtain ⟨rfl, rfl⟩ : r7 = 0 ∧ u8 = ((up2 I 0 0 0), A, K) := g9
  have hP : Wp mN E mK ((up2 I 0 0 0), A, K) H := hP
  refine lv_if_eq (tgt := 33) hx hb dX7_seen_26 (by decide) (fun h26 => ?_) (fun h26 => absurd (by decide) h26)
  refine lv_aload_n hx hb dX7_seen_33 rfl (lv_at hl 0 rfl) ?_
  refine lv_iload_n hx hb dX7_seen_34 rfl (lv_at hl 1 rfl) ?_
  refine lv_iload_n hx hb dX7_seen_35 rfl (lv_at hl 2 rfl) ?_
  refine cn_si (ck_V (a := eP E 0) S lk_X7_220 (c_X7_colourOf l E (up2 I 0 0 0) A K r sc hE (by omega) k1) ⟨rfl, rfl⟩ ⟨Nat.le_of_ble_eq_true rfl, Nat.le_of_ble_eq_true rfl⟩ bl_w (rc_w hK hP 0 (by decide) rfl rfl) (bw_U hE hK hC hP hS) rfl hl.1 (Nat.le_of_ble_eq_true rfl) ⟨Nat.le_refl _, Nat.le_refl _⟩ dX7_seen_36 rfl) (fun r10 g11 => ?_)
  obtain rfl : r10 = mCol A r sc := g11
  refine lv_iload_n hx hb dX7_seen_39 rfl (lv_at hl 3 rfl) ?_
  refine cn_si (ck_S S lk_X7_226 (c_X7_seenAs l (mCol A r sc) (nI t)) ⟨rfl, rfl⟩ ⟨Nat.le_of_ble_eq_true rfl, Nat.le_of_ble_eq_true rfl⟩ bl_T t_U rfl hl.1 (Nat.le_of_ble_eq_true rfl) ⟨Nat.le_refl _, Nat.le_refl _⟩ dX7_seen_40 rfl) (fun r12 g13 => ?_)
  obtain rfl : r12 = rSeen (mCol A r sc) (nI t) := g13
  exact re_wi (x := ((up2 I 0 0 0), A, K)) (v := (rSeen (mCol A r sc) (nI t))) hx hb hr hlk hP hS ⟨rfl, rfl⟩ dX7_seen_43

set_option maxHeartbeats 1000000 in
set_option maxRecDepth 100000 in
theorem c_X7_seen_b0 (l : Launch) (E : En) (I A : Nat → Nat → Int32) (K : Nat → Nat → Int64) (nr nu : Nat) (x0 : Int32) (x1 : Int32) (x2 : Int32) (hE : Ev mN E) (hM : MOk A nr nu) (kb : x0 < 0 ∨ nI nr ≤ x0) : Met l yX7_seen (wz yX7_seen cX7_seen 4 (some .int)) (rmk 2 0 0 43) (va_Pc [.ref (eP E 0), .int x0, .int x1, .int x2] (Bw mN E mK (I, A, K))) (qWi mN E mK (fun zz uu => uu = (up2 I 0 0 1, A, K))) 0 0 (cA mN E) := by
  refine en_ofW RX7 rfl (by decide +kernel) (Nat.le_of_ble_eq_true rfl) ?_
  intro p e s m below meth c ls S hr hlk hnm hl hB
  have hx := S.1
  have hb := S.2.1
  obtain ⟨hK, hC, hP⟩ := hB
  have hS : va_S (cA mN E) s.heap s.heap [] := va_S.rf
  have hl : lv_has ls 4 [(0, .ref (eP E 0)), (1, .int x0), (2, .int x1), (3, .int x2)] := hl
  obtain ⟨⟨hn1, hn2⟩, ⟨hr0, hr1⟩, hu3, hcv⟩ := id hM
  refine lv_aload_n hx hb dX7_seen_0 rfl (lv_at hl 0 rfl) ?_
  refine lv_iconst (v := 0) hx hb dX7_seen_1 (by decide) ?_
  refine rw_puti (x := (I, A, K)) (v := 0) S hE hK hP hS 0 (by decide) rfl fk_X7_35 rfl tyX7_ok nmX7 ⟨rfl, by decide +kernel⟩ dX7_seen_2 (fun H locs hP hS => ?_)
  have hP : Wp mN E mK ((up2 I 0 0 0), A, K) H := hP
  refine lv_aload_n hx hb dX7_seen_5 rfl (lv_at hl 0 rfl) ?_
  refine lv_iload_n hx hb dX7_seen_6 rfl (lv_at hl 1 rfl) ?_
  refine cn_wi (ck_V (a := eP E 0) S lk_X7_267 (c_X7_noRole_b l E (up2 I 0 0 0) A K x0 nr nu hE hM rfl kb) ⟨rfl, rfl⟩ ⟨Nat.le_of_ble_eq_true rfl, Nat.le_of_ble_eq_true rfl⟩ bl_w (rc_w hK hP 0 (by decide) rfl rfl) (bw_U hE hK hC hP hS) rfl hl.1 (Nat.le_of_ble_eq_true rfl) ⟨Nat.le_refl _, Nat.le_refl _⟩ dX7_seen_7 rfl) hS (fun r1 u2 H locs g3 hP hS => ?_)
  obtain ⟨rfl, rfl⟩ : r1 = 1 ∧ u2 = ((up2 (up2 I 0 0 0) 0 0 1), A, K) := g3
  have hP : Wp mN E mK ((up2 (up2 I 0 0 0) 0 0 1), A, K) H := hP
  refine lv_if_ne (tgt := 29) hx hb dX7_seen_10 (by decide) (fun h10 => ?_) (fun h10 => absurd h10 (by decide))
  refine lv_iconst (v := 0) hx hb dX7_seen_29 (by decide) ?_
  refine lv_goto (tgt := 43) hx hb dX7_seen_30 (by decide) ?_
  exact re_wi (x := ((up2 (up2 I 0 0 0) 0 0 1), A, K)) (v := 0) hx hb hr hlk hP hS (by rw [up2_up]) dX7_seen_43

set_option maxHeartbeats 1000000 in
set_option maxRecDepth 100000 in
theorem c_X7_seen_b1 (l : Launch) (E : En) (I A : Nat → Nat → Int32) (K : Nat → Nat → Int64) (nr nu : Nat) (r : Nat) (x1 : Int32) (x2 : Int32) (hE : Ev mN E) (hM : MOk A nr nu) (k0 : r < nr) (kb : x1 < 0 ∨ 2 ≤ x1) : Met l yX7_seen (wz yX7_seen cX7_seen 4 (some .int)) (rmk 2 0 0 43) (va_Pc [.ref (eP E 0), .int (nI r), .int x1, .int x2] (Bw mN E mK (I, A, K))) (qWi mN E mK (fun zz uu => uu = (up2 I 0 0 1, A, K))) 0 0 (cA mN E) := by
  refine en_ofW RX7 rfl (by decide +kernel) (Nat.le_of_ble_eq_true rfl) ?_
  intro p e s m below meth c ls S hr hlk hnm hl hB
  have hx := S.1
  have hb := S.2.1
  obtain ⟨hK, hC, hP⟩ := hB
  have hS : va_S (cA mN E) s.heap s.heap [] := va_S.rf
  have hl : lv_has ls 4 [(0, .ref (eP E 0)), (1, .int (nI r)), (2, .int x1), (3, .int x2)] := hl
  obtain ⟨⟨hn1, hn2⟩, ⟨hr0, hr1⟩, hu3, hcv⟩ := id hM
  refine lv_aload_n hx hb dX7_seen_0 rfl (lv_at hl 0 rfl) ?_
  refine lv_iconst (v := 0) hx hb dX7_seen_1 (by decide) ?_
  refine rw_puti (x := (I, A, K)) (v := 0) S hE hK hP hS 0 (by decide) rfl fk_X7_35 rfl tyX7_ok nmX7 ⟨rfl, by decide +kernel⟩ dX7_seen_2 (fun H locs hP hS => ?_)
  have hP : Wp mN E mK ((up2 I 0 0 0), A, K) H := hP
  refine lv_aload_n hx hb dX7_seen_5 rfl (lv_at hl 0 rfl) ?_
  refine lv_iload_n hx hb dX7_seen_6 rfl (lv_at hl 1 rfl) ?_
  refine cn_wi (ck_V (a := eP E 0) S lk_X7_267 (c_X7_noRole_n l E (up2 I 0 0 0) A K r nr nu hE hM rfl k0) ⟨rfl, rfl⟩ ⟨Nat.le_of_ble_eq_true rfl, Nat.le_of_ble_eq_true rfl⟩ bl_w (rc_w hK hP 0 (by decide) rfl rfl) (bw_U hE hK hC hP hS) rfl hl.1 (Nat.le_of_ble_eq_true rfl) ⟨Nat.le_refl _, Nat.le_refl _⟩ dX7_seen_7 rfl) hS (fun r1 u2 H locs g3 hP hS => ?_)
  obtain ⟨rfl, rfl⟩ : r1 = 0 ∧ u2 = ((up2 I 0 0 0), A, K) := g3
  have hP : Wp mN E mK ((up2 I 0 0 0), A, K) H := hP
  refine lv_if_ne (tgt := 29) hx hb dX7_seen_10 (by decide) (fun h10 => absurd h10 (by decide)) (fun h10 => ?_)
  refine lv_aload_n hx hb dX7_seen_13 rfl (lv_at hl 0 rfl) ?_
  refine lv_iload_n hx hb dX7_seen_14 rfl (lv_at hl 2 rfl) ?_
  refine cn_wi (ck_V (a := eP E 0) S lk_X7_264 (c_X7_noScheme_b l E (up2 I 0 0 0) A K x1 hE rfl kb) ⟨rfl, rfl⟩ ⟨Nat.le_of_ble_eq_true rfl, Nat.le_of_ble_eq_true rfl⟩ bl_w (rc_w hK hP 0 (by decide) rfl rfl) (bw_U hE hK hC hP hS) rfl hl.1 (Nat.le_of_ble_eq_true rfl) ⟨Nat.le_refl _, Nat.le_refl _⟩ dX7_seen_15 rfl) hS (fun r4 u5 H locs g6 hP hS => ?_)
  obtain ⟨rfl, rfl⟩ : r4 = 1 ∧ u5 = ((up2 (up2 I 0 0 0) 0 0 1), A, K) := g6
  have hP : Wp mN E mK ((up2 (up2 I 0 0 0) 0 0 1), A, K) H := hP
  refine lv_if_ne (tgt := 29) hx hb dX7_seen_18 (by decide) (fun h18 => ?_) (fun h18 => absurd h18 (by decide))
  refine lv_iconst (v := 0) hx hb dX7_seen_29 (by decide) ?_
  refine lv_goto (tgt := 43) hx hb dX7_seen_30 (by decide) ?_
  exact re_wi (x := ((up2 (up2 I 0 0 0) 0 0 1), A, K)) (v := 0) hx hb hr hlk hP hS (by rw [up2_up]) dX7_seen_43

set_option maxHeartbeats 1000000 in
set_option maxRecDepth 100000 in
theorem c_X7_seen_b2 (l : Launch) (E : En) (I A : Nat → Nat → Int32) (K : Nat → Nat → Int64) (nr nu : Nat) (r : Nat) (sc : Nat) (x2 : Int32) (hE : Ev mN E) (hM : MOk A nr nu) (k0 : r < nr) (k1 : sc < 2) (kb : x2 < 0 ∨ 5 ≤ x2) : Met l yX7_seen (wz yX7_seen cX7_seen 4 (some .int)) (rmk 2 0 0 43) (va_Pc [.ref (eP E 0), .int (nI r), .int (nI sc), .int x2] (Bw mN E mK (I, A, K))) (qWi mN E mK (fun zz uu => uu = (up2 I 0 0 2, A, K))) 0 0 (cA mN E) := by
  refine en_ofW RX7 rfl (by decide +kernel) (Nat.le_of_ble_eq_true rfl) ?_
  intro p e s m below meth c ls S hr hlk hnm hl hB
  have hx := S.1
  have hb := S.2.1
  obtain ⟨hK, hC, hP⟩ := hB
  have hS : va_S (cA mN E) s.heap s.heap [] := va_S.rf
  have hl : lv_has ls 4 [(0, .ref (eP E 0)), (1, .int (nI r)), (2, .int (nI sc)), (3, .int x2)] := hl
  obtain ⟨⟨hn1, hn2⟩, ⟨hr0, hr1⟩, hu3, hcv⟩ := id hM
  refine lv_aload_n hx hb dX7_seen_0 rfl (lv_at hl 0 rfl) ?_
  refine lv_iconst (v := 0) hx hb dX7_seen_1 (by decide) ?_
  refine rw_puti (x := (I, A, K)) (v := 0) S hE hK hP hS 0 (by decide) rfl fk_X7_35 rfl tyX7_ok nmX7 ⟨rfl, by decide +kernel⟩ dX7_seen_2 (fun H locs hP hS => ?_)
  have hP : Wp mN E mK ((up2 I 0 0 0), A, K) H := hP
  refine lv_aload_n hx hb dX7_seen_5 rfl (lv_at hl 0 rfl) ?_
  refine lv_iload_n hx hb dX7_seen_6 rfl (lv_at hl 1 rfl) ?_
  refine cn_wi (ck_V (a := eP E 0) S lk_X7_267 (c_X7_noRole_n l E (up2 I 0 0 0) A K r nr nu hE hM rfl k0) ⟨rfl, rfl⟩ ⟨Nat.le_of_ble_eq_true rfl, Nat.le_of_ble_eq_true rfl⟩ bl_w (rc_w hK hP 0 (by decide) rfl rfl) (bw_U hE hK hC hP hS) rfl hl.1 (Nat.le_of_ble_eq_true rfl) ⟨Nat.le_refl _, Nat.le_refl _⟩ dX7_seen_7 rfl) hS (fun r1 u2 H locs g3 hP hS => ?_)
  obtain ⟨rfl, rfl⟩ : r1 = 0 ∧ u2 = ((up2 I 0 0 0), A, K) := g3
  have hP : Wp mN E mK ((up2 I 0 0 0), A, K) H := hP
  refine lv_if_ne (tgt := 29) hx hb dX7_seen_10 (by decide) (fun h10 => absurd h10 (by decide)) (fun h10 => ?_)
  refine lv_aload_n hx hb dX7_seen_13 rfl (lv_at hl 0 rfl) ?_
  refine lv_iload_n hx hb dX7_seen_14 rfl (lv_at hl 2 rfl) ?_
  refine cn_wi (ck_V (a := eP E 0) S lk_X7_264 (c_X7_noScheme_n l E (up2 I 0 0 0) A K sc hE rfl k1) ⟨rfl, rfl⟩ ⟨Nat.le_of_ble_eq_true rfl, Nat.le_of_ble_eq_true rfl⟩ bl_w (rc_w hK hP 0 (by decide) rfl rfl) (bw_U hE hK hC hP hS) rfl hl.1 (Nat.le_of_ble_eq_true rfl) ⟨Nat.le_refl _, Nat.le_refl _⟩ dX7_seen_15 rfl) hS (fun r4 u5 H locs g6 hP hS => ?_)
  obtain ⟨rfl, rfl⟩ : r4 = 0 ∧ u5 = ((up2 I 0 0 0), A, K) := g6
  have hP : Wp mN E mK ((up2 I 0 0 0), A, K) H := hP
  refine lv_if_ne (tgt := 29) hx hb dX7_seen_18 (by decide) (fun h18 => absurd h18 (by decide)) (fun h18 => ?_)
  refine lv_aload_n hx hb dX7_seen_21 rfl (lv_at hl 0 rfl) ?_
  refine lv_iload_n hx hb dX7_seen_22 rfl (lv_at hl 3 rfl) ?_
  refine cn_wi (ck_V (a := eP E 0) S lk_X7_270 (c_X7_noSight_b l E (up2 I 0 0 0) A K x2 hE rfl kb) ⟨rfl, rfl⟩ ⟨Nat.le_of_ble_eq_true rfl, Nat.le_of_ble_eq_true rfl⟩ bl_w (rc_w hK hP 0 (by decide) rfl rfl) (bw_U hE hK hC hP hS) rfl hl.1 (Nat.le_of_ble_eq_true rfl) ⟨Nat.le_refl _, Nat.le_refl _⟩ dX7_seen_23 rfl) hS (fun r7 u8 H locs g9 hP hS => ?_)
  obtain ⟨rfl, rfl⟩ : r7 = 1 ∧ u8 = ((up2 (up2 I 0 0 0) 0 0 2), A, K) := g9
  have hP : Wp mN E mK ((up2 (up2 I 0 0 0) 0 0 2), A, K) H := hP
  refine lv_if_eq (tgt := 33) hx hb dX7_seen_26 (by decide) (fun h26 => absurd h26 (by decide)) (fun h26 => ?_)
  refine lv_iconst (v := 0) hx hb dX7_seen_29 (by decide) ?_
  refine lv_goto (tgt := 43) hx hb dX7_seen_30 (by decide) ?_
  exact re_wi (x := ((up2 (up2 I 0 0 0) 0 0 2), A, K)) (v := 0) hx hb hr hlk hP hS (by rw [up2_up]) dX7_seen_43

set_option maxHeartbeats 1000000 in
set_option maxRecDepth 100000 in
theorem c_X7_difference (l : Launch) (E : En) (I A : Nat → Nat → Int32) (K : Nat → Nat → Int64) (nr nu : Nat) (r : Nat) (q : Nat) (sc : Nat) (t : Nat) (hE : Ev mN E) (hM : MOk A nr nu) (k0 : r < nr) (k1 : q < nr) (k2 : sc < 2) (k3 : t < 5) : Met l yX7_difference (wz yX7_difference cX7_difference 5 (some .int)) (rmk 4 0 0 85) (va_Pc [.ref (eP E 0), .int (nI r), .int (nI q), .int (nI sc), .int (nI t)] (Bw mN E mK (I, A, K))) (qWi mN E mK (fun zz uu => zz = rDif (rSeen (mCol A r sc) (nI t)) (rSeen (mCol A q sc) (nI t)) ∧ uu = (up2 I 0 0 0, A, K))) 0 0 (cA mN E) := by
  refine en_ofW RX7 rfl (by decide +kernel) (Nat.le_of_ble_eq_true rfl) ?_
  intro p e s m below meth c ls S hr hlk hnm hl hB
  have hx := S.1
  have hb := S.2.1
  obtain ⟨hK, hC, hP⟩ := hB
  have hS : va_S (cA mN E) s.heap s.heap [] := va_S.rf
  have hl : lv_has ls 5 [(0, .ref (eP E 0)), (1, .int (nI r)), (2, .int (nI q)), (3, .int (nI sc)), (4, .int (nI t))] := hl
  obtain ⟨⟨hn1, hn2⟩, ⟨hr0, hr1⟩, hu3, hcv⟩ := id hM
  refine lv_aload_n hx hb dX7_difference_0 rfl (lv_at hl 0 rfl) ?_
  refine lv_iconst (v := 0) hx hb dX7_difference_1 (by decide) ?_
  refine rw_puti (x := (I, A, K)) (v := 0) S hE hK hP hS 0 (by decide) rfl fk_X7_35 rfl tyX7_ok nmX7 ⟨rfl, by decide +kernel⟩ dX7_difference_2 (fun H locs hP hS => ?_)
  have hP : Wp mN E mK ((up2 I 0 0 0), A, K) H := hP
  refine lv_aload_n hx hb dX7_difference_5 rfl (lv_at hl 0 rfl) ?_
  refine lv_iload_n hx hb dX7_difference_6 rfl (lv_at hl 1 rfl) ?_
  refine cn_wi (ck_V (a := eP E 0) S lk_X7_267 (c_X7_noRole_n l E (up2 I 0 0 0) A K r nr nu hE hM rfl k0) ⟨rfl, rfl⟩ ⟨Nat.le_of_ble_eq_true rfl, Nat.le_of_ble_eq_true rfl⟩ bl_w (rc_w hK hP 0 (by decide) rfl rfl) (bw_U hE hK hC hP hS) rfl hl.1 (Nat.le_of_ble_eq_true rfl) ⟨Nat.le_refl _, Nat.le_refl _⟩ dX7_difference_7 rfl) hS (fun r1 u2 H locs g3 hP hS => ?_)
  obtain ⟨rfl, rfl⟩ : r1 = 0 ∧ u2 = ((up2 I 0 0 0), A, K) := g3
  have hP : Wp mN E mK ((up2 I 0 0 0), A, K) H := hP
  refine lv_if_ne (tgt := 38) hx hb dX7_difference_10 (by decide) (fun h10 => absurd h10 (by decide)) (fun h10 => ?_)
  refine lv_aload_n hx hb dX7_difference_13 rfl (lv_at hl 0 rfl) ?_
  refine lv_iload_n hx hb dX7_difference_14 rfl (lv_at hl 2 rfl) ?_
  refine cn_wi (ck_V (a := eP E 0) S lk_X7_267 (c_X7_noRole_n l E (up2 I 0 0 0) A K q nr nu hE hM rfl k1) ⟨rfl, rfl⟩ ⟨Nat.le_of_ble_eq_true rfl, Nat.le_of_ble_eq_true rfl⟩ bl_w (rc_w hK hP 0 (by decide) rfl rfl) (bw_U hE hK hC hP hS) rfl hl.1 (Nat.le_of_ble_eq_true rfl) ⟨Nat.le_refl _, Nat.le_refl _⟩ dX7_difference_15 rfl) hS (fun r4 u5 H locs g6 hP hS => ?_)
  obtain ⟨rfl, rfl⟩ : r4 = 0 ∧ u5 = ((up2 I 0 0 0), A, K) := g6
  have hP : Wp mN E mK ((up2 I 0 0 0), A, K) H := hP
  refine lv_if_ne (tgt := 38) hx hb dX7_difference_18 (by decide) (fun h18 => absurd h18 (by decide)) (fun h18 => ?_)
  refine lv_aload_n hx hb dX7_difference_21 rfl (lv_at hl 0 rfl) ?_
  refine lv_iload_n hx hb dX7_difference_22 rfl (lv_at hl 3 rfl) ?_
  refine cn_wi (ck_V (a := eP E 0) S lk_X7_264 (c_X7_noScheme_n l E (up2 I 0 0 0) A K sc hE rfl k2) ⟨rfl, rfl⟩ ⟨Nat.le_of_ble_eq_true rfl, Nat.le_of_ble_eq_true rfl⟩ bl_w (rc_w hK hP 0 (by decide) rfl rfl) (bw_U hE hK hC hP hS) rfl hl.1 (Nat.le_of_ble_eq_true rfl) ⟨Nat.le_refl _, Nat.le_refl _⟩ dX7_difference_23 rfl) hS (fun r7 u8 H locs g9 hP hS => ?_)
  obtain ⟨rfl, rfl⟩ : r7 = 0 ∧ u8 = ((up2 I 0 0 0), A, K) := g9
  have hP : Wp mN E mK ((up2 I 0 0 0), A, K) H := hP
  refine lv_if_ne (tgt := 38) hx hb dX7_difference_26 (by decide) (fun h26 => absurd h26 (by decide)) (fun h26 => ?_)
  refine lv_aload_n hx hb dX7_difference_29 rfl (lv_at hl 0 rfl) ?_
  refine lv_iload hx hb dX7_difference_30 (lv_at hl 4 rfl) ?_
  refine cn_wi (ck_V (a := eP E 0) S lk_X7_270 (c_X7_noSight_n l E (up2 I 0 0 0) A K t hE rfl k3) ⟨rfl, rfl⟩ ⟨Nat.le_of_ble_eq_true rfl, Nat.le_of_ble_eq_true rfl⟩ bl_w (rc_w hK hP 0 (by decide) rfl rfl) (bw_U hE hK hC hP hS) rfl hl.1 (Nat.le_of_ble_eq_true rfl) ⟨Nat.le_refl _, Nat.le_refl _⟩ dX7_difference_32 rfl) hS (fun r10 u11 H locs g12 hP hS => ?_)
  obtain ⟨rfl, rfl⟩ : r10 = 0 ∧ u11 = ((up2 I 0 0 0), A, K) := g12
  have hP : Wp mN E mK ((up2 I 0 0 0), A, K) H := hP
  refine lv_if_eq (tgt := 40) hx hb dX7_difference_35 (by decide) (fun h35 => ?_) (fun h35 => absurd (by decide) h35)
  refine lv_aload_n hx hb dX7_difference_40 rfl (lv_at hl 0 rfl) ?_
  refine lv_iload_n hx hb dX7_difference_41 rfl (lv_at hl 1 rfl) ?_
  refine lv_iload_n hx hb dX7_difference_42 rfl (lv_at hl 3 rfl) ?_
  refine cn_si (ck_V (a := eP E 0) S lk_X7_220 (c_X7_colourOf l E (up2 I 0 0 0) A K r sc hE (by omega) k2) ⟨rfl, rfl⟩ ⟨Nat.le_of_ble_eq_true rfl, Nat.le_of_ble_eq_true rfl⟩ bl_w (rc_w hK hP 0 (by decide) rfl rfl) (bw_U hE hK hC hP hS) rfl hl.1 (Nat.le_of_ble_eq_true rfl) ⟨Nat.le_refl _, Nat.le_refl _⟩ dX7_difference_43 rfl) (fun r13 g14 => ?_)
  obtain rfl : r13 = mCol A r sc := g14
  refine lv_iload hx hb dX7_difference_46 (lv_at hl 4 rfl) ?_
  refine cn_si (ck_S S lk_X7_226 (c_X7_seenAs l (mCol A r sc) (nI t)) ⟨rfl, rfl⟩ ⟨Nat.le_of_ble_eq_true rfl, Nat.le_of_ble_eq_true rfl⟩ bl_T t_U rfl hl.1 (Nat.le_of_ble_eq_true rfl) ⟨Nat.le_refl _, Nat.le_refl _⟩ dX7_difference_48 rfl) (fun r15 g16 => ?_)
  obtain rfl : r15 = rSeen (mCol A r sc) (nI t) := g16
  refine lv_aload_n hx hb dX7_difference_51 rfl (lv_at hl 0 rfl) ?_
  refine lv_iload_n hx hb dX7_difference_52 rfl (lv_at hl 2 rfl) ?_
  refine lv_iload_n hx hb dX7_difference_53 rfl (lv_at hl 3 rfl) ?_
  refine cn_si (ck_V (a := eP E 0) S lk_X7_220 (c_X7_colourOf l E (up2 I 0 0 0) A K q sc hE (by omega) k2) ⟨rfl, rfl⟩ ⟨Nat.le_of_ble_eq_true rfl, Nat.le_of_ble_eq_true rfl⟩ bl_w (rc_w hK hP 0 (by decide) rfl rfl) (bw_U hE hK hC hP hS) rfl hl.1 (Nat.le_of_ble_eq_true rfl) ⟨Nat.le_refl _, Nat.le_refl _⟩ dX7_difference_54 rfl) (fun r17 g18 => ?_)
  obtain rfl : r17 = mCol A q sc := g18
  refine lv_iload hx hb dX7_difference_57 (lv_at hl 4 rfl) ?_
  refine cn_si (ck_S S lk_X7_226 (c_X7_seenAs l (mCol A q sc) (nI t)) ⟨rfl, rfl⟩ ⟨Nat.le_of_ble_eq_true rfl, Nat.le_of_ble_eq_true rfl⟩ bl_T t_U rfl hl.1 (Nat.le_of_ble_eq_true rfl) ⟨Nat.le_refl _, Nat.le_refl _⟩ dX7_difference_59 rfl) (fun r19 g20 => ?_)
  obtain rfl : r19 = rSeen (mCol A q sc) (nI t) := g20
  refine cn_si (ck_S S lk_X7_229 (c_X7_differenceOf l (rSeen (mCol A r sc) (nI t)) (rSeen (mCol A q sc) (nI t))) ⟨rfl, rfl⟩ ⟨Nat.le_of_ble_eq_true rfl, Nat.le_of_ble_eq_true rfl⟩ bl_T t_U rfl hl.1 (Nat.le_of_ble_eq_true rfl) ⟨Nat.le_refl _, Nat.le_refl _⟩ dX7_difference_62 rfl) (fun r21 g22 => ?_)
  obtain rfl : r21 = rDif (rSeen (mCol A r sc) (nI t)) (rSeen (mCol A q sc) (nI t)) := g22
  exact re_wi (x := ((up2 I 0 0 0), A, K)) (v := (rDif (rSeen (mCol A r sc) (nI t)) (rSeen (mCol A q sc) (nI t)))) hx hb hr hlk hP hS ⟨rfl, rfl⟩ dX7_difference_65

set_option maxHeartbeats 1000000 in
set_option maxRecDepth 100000 in
theorem c_X7_difference_b0 (l : Launch) (E : En) (I A : Nat → Nat → Int32) (K : Nat → Nat → Int64) (nr nu : Nat) (x0 : Int32) (x1 : Int32) (x2 : Int32) (x3 : Int32) (hE : Ev mN E) (hM : MOk A nr nu) (kb : x0 < 0 ∨ nI nr ≤ x0) : Met l yX7_difference (wz yX7_difference cX7_difference 5 (some .int)) (rmk 2 0 0 43) (va_Pc [.ref (eP E 0), .int x0, .int x1, .int x2, .int x3] (Bw mN E mK (I, A, K))) (qWi mN E mK (fun zz uu => uu = (up2 I 0 0 1, A, K))) 0 0 (cA mN E) := by
  refine en_ofW RX7 rfl (by decide +kernel) (Nat.le_of_ble_eq_true rfl) ?_
  intro p e s m below meth c ls S hr hlk hnm hl hB
  have hx := S.1
  have hb := S.2.1
  obtain ⟨hK, hC, hP⟩ := hB
  have hS : va_S (cA mN E) s.heap s.heap [] := va_S.rf
  have hl : lv_has ls 5 [(0, .ref (eP E 0)), (1, .int x0), (2, .int x1), (3, .int x2), (4, .int x3)] := hl
  obtain ⟨⟨hn1, hn2⟩, ⟨hr0, hr1⟩, hu3, hcv⟩ := id hM
  refine lv_aload_n hx hb dX7_difference_0 rfl (lv_at hl 0 rfl) ?_
  refine lv_iconst (v := 0) hx hb dX7_difference_1 (by decide) ?_
  refine rw_puti (x := (I, A, K)) (v := 0) S hE hK hP hS 0 (by decide) rfl fk_X7_35 rfl tyX7_ok nmX7 ⟨rfl, by decide +kernel⟩ dX7_difference_2 (fun H locs hP hS => ?_)
  have hP : Wp mN E mK ((up2 I 0 0 0), A, K) H := hP
  refine lv_aload_n hx hb dX7_difference_5 rfl (lv_at hl 0 rfl) ?_
  refine lv_iload_n hx hb dX7_difference_6 rfl (lv_at hl 1 rfl) ?_
  refine cn_wi (ck_V (a := eP E 0) S lk_X7_267 (c_X7_noRole_b l E (up2 I 0 0 0) A K x0 nr nu hE hM rfl kb) ⟨rfl, rfl⟩ ⟨Nat.le_of_ble_eq_true rfl, Nat.le_of_ble_eq_true rfl⟩ bl_w (rc_w hK hP 0 (by decide) rfl rfl) (bw_U hE hK hC hP hS) rfl hl.1 (Nat.le_of_ble_eq_true rfl) ⟨Nat.le_refl _, Nat.le_refl _⟩ dX7_difference_7 rfl) hS (fun r1 u2 H locs g3 hP hS => ?_)
  obtain ⟨rfl, rfl⟩ : r1 = 1 ∧ u2 = ((up2 (up2 I 0 0 0) 0 0 1), A, K) := g3
  have hP : Wp mN E mK ((up2 (up2 I 0 0 0) 0 0 1), A, K) H := hP
  refine lv_if_ne (tgt := 38) hx hb dX7_difference_10 (by decide) (fun h10 => ?_) (fun h10 => absurd h10 (by decide))
  refine lv_iconst (v := 0) hx hb dX7_difference_38 (by decide) ?_
  exact re_wi (x := ((up2 (up2 I 0 0 0) 0 0 1), A, K)) (v := 0) hx hb hr hlk hP hS (by rw [up2_up]) dX7_difference_39

set_option maxHeartbeats 1000000 in
set_option maxRecDepth 100000 in
theorem c_X7_difference_b1 (l : Launch) (E : En) (I A : Nat → Nat → Int32) (K : Nat → Nat → Int64) (nr nu : Nat) (r : Nat) (x1 : Int32) (x2 : Int32) (x3 : Int32) (hE : Ev mN E) (hM : MOk A nr nu) (k0 : r < nr) (kb : x1 < 0 ∨ nI nr ≤ x1) : Met l yX7_difference (wz yX7_difference cX7_difference 5 (some .int)) (rmk 2 0 0 43) (va_Pc [.ref (eP E 0), .int (nI r), .int x1, .int x2, .int x3] (Bw mN E mK (I, A, K))) (qWi mN E mK (fun zz uu => uu = (up2 I 0 0 1, A, K))) 0 0 (cA mN E) := by
  refine en_ofW RX7 rfl (by decide +kernel) (Nat.le_of_ble_eq_true rfl) ?_
  intro p e s m below meth c ls S hr hlk hnm hl hB
  have hx := S.1
  have hb := S.2.1
  obtain ⟨hK, hC, hP⟩ := hB
  have hS : va_S (cA mN E) s.heap s.heap [] := va_S.rf
  have hl : lv_has ls 5 [(0, .ref (eP E 0)), (1, .int (nI r)), (2, .int x1), (3, .int x2), (4, .int x3)] := hl
  obtain ⟨⟨hn1, hn2⟩, ⟨hr0, hr1⟩, hu3, hcv⟩ := id hM
  refine lv_aload_n hx hb dX7_difference_0 rfl (lv_at hl 0 rfl) ?_
  refine lv_iconst (v := 0) hx hb dX7_difference_1 (by decide) ?_
  refine rw_puti (x := (I, A, K)) (v := 0) S hE hK hP hS 0 (by decide) rfl fk_X7_35 rfl tyX7_ok nmX7 ⟨rfl, by decide +kernel⟩ dX7_difference_2 (fun H locs hP hS => ?_)
  have hP : Wp mN E mK ((up2 I 0 0 0), A, K) H := hP
  refine lv_aload_n hx hb dX7_difference_5 rfl (lv_at hl 0 rfl) ?_
  refine lv_iload_n hx hb dX7_difference_6 rfl (lv_at hl 1 rfl) ?_
  refine cn_wi (ck_V (a := eP E 0) S lk_X7_267 (c_X7_noRole_n l E (up2 I 0 0 0) A K r nr nu hE hM rfl k0) ⟨rfl, rfl⟩ ⟨Nat.le_of_ble_eq_true rfl, Nat.le_of_ble_eq_true rfl⟩ bl_w (rc_w hK hP 0 (by decide) rfl rfl) (bw_U hE hK hC hP hS) rfl hl.1 (Nat.le_of_ble_eq_true rfl) ⟨Nat.le_refl _, Nat.le_refl _⟩ dX7_difference_7 rfl) hS (fun r1 u2 H locs g3 hP hS => ?_)
  obtain ⟨rfl, rfl⟩ : r1 = 0 ∧ u2 = ((up2 I 0 0 0), A, K) := g3
  have hP : Wp mN E mK ((up2 I 0 0 0), A, K) H := hP
  refine lv_if_ne (tgt := 38) hx hb dX7_difference_10 (by decide) (fun h10 => absurd h10 (by decide)) (fun h10 => ?_)
  refine lv_aload_n hx hb dX7_difference_13 rfl (lv_at hl 0 rfl) ?_
  refine lv_iload_n hx hb dX7_difference_14 rfl (lv_at hl 2 rfl) ?_
  refine cn_wi (ck_V (a := eP E 0) S lk_X7_267 (c_X7_noRole_b l E (up2 I 0 0 0) A K x1 nr nu hE hM rfl kb) ⟨rfl, rfl⟩ ⟨Nat.le_of_ble_eq_true rfl, Nat.le_of_ble_eq_true rfl⟩ bl_w (rc_w hK hP 0 (by decide) rfl rfl) (bw_U hE hK hC hP hS) rfl hl.1 (Nat.le_of_ble_eq_true rfl) ⟨Nat.le_refl _, Nat.le_refl _⟩ dX7_difference_15 rfl) hS (fun r4 u5 H locs g6 hP hS => ?_)
  obtain ⟨rfl, rfl⟩ : r4 = 1 ∧ u5 = ((up2 (up2 I 0 0 0) 0 0 1), A, K) := g6
  have hP : Wp mN E mK ((up2 (up2 I 0 0 0) 0 0 1), A, K) H := hP
  refine lv_if_ne (tgt := 38) hx hb dX7_difference_18 (by decide) (fun h18 => ?_) (fun h18 => absurd h18 (by decide))
  refine lv_iconst (v := 0) hx hb dX7_difference_38 (by decide) ?_
  exact re_wi (x := ((up2 (up2 I 0 0 0) 0 0 1), A, K)) (v := 0) hx hb hr hlk hP hS (by rw [up2_up]) dX7_difference_39

set_option maxHeartbeats 1000000 in
set_option maxRecDepth 100000 in
theorem c_X7_difference_b2 (l : Launch) (E : En) (I A : Nat → Nat → Int32) (K : Nat → Nat → Int64) (nr nu : Nat) (r : Nat) (q : Nat) (x2 : Int32) (x3 : Int32) (hE : Ev mN E) (hM : MOk A nr nu) (k0 : r < nr) (k1 : q < nr) (kb : x2 < 0 ∨ 2 ≤ x2) : Met l yX7_difference (wz yX7_difference cX7_difference 5 (some .int)) (rmk 2 0 0 43) (va_Pc [.ref (eP E 0), .int (nI r), .int (nI q), .int x2, .int x3] (Bw mN E mK (I, A, K))) (qWi mN E mK (fun zz uu => uu = (up2 I 0 0 1, A, K))) 0 0 (cA mN E) := by
  refine en_ofW RX7 rfl (by decide +kernel) (Nat.le_of_ble_eq_true rfl) ?_
  intro p e s m below meth c ls S hr hlk hnm hl hB
  have hx := S.1
  have hb := S.2.1
  obtain ⟨hK, hC, hP⟩ := hB
  have hS : va_S (cA mN E) s.heap s.heap [] := va_S.rf
  have hl : lv_has ls 5 [(0, .ref (eP E 0)), (1, .int (nI r)), (2, .int (nI q)), (3, .int x2), (4, .int x3)] := hl
  obtain ⟨⟨hn1, hn2⟩, ⟨hr0, hr1⟩, hu3, hcv⟩ := id hM
  refine lv_aload_n hx hb dX7_difference_0 rfl (lv_at hl 0 rfl) ?_
  refine lv_iconst (v := 0) hx hb dX7_difference_1 (by decide) ?_
  refine rw_puti (x := (I, A, K)) (v := 0) S hE hK hP hS 0 (by decide) rfl fk_X7_35 rfl tyX7_ok nmX7 ⟨rfl, by decide +kernel⟩ dX7_difference_2 (fun H locs hP hS => ?_)
  have hP : Wp mN E mK ((up2 I 0 0 0), A, K) H := hP
  refine lv_aload_n hx hb dX7_difference_5 rfl (lv_at hl 0 rfl) ?_
  refine lv_iload_n hx hb dX7_difference_6 rfl (lv_at hl 1 rfl) ?_
  refine cn_wi (ck_V (a := eP E 0) S lk_X7_267 (c_X7_noRole_n l E (up2 I 0 0 0) A K r nr nu hE hM rfl k0) ⟨rfl, rfl⟩ ⟨Nat.le_of_ble_eq_true rfl, Nat.le_of_ble_eq_true rfl⟩ bl_w (rc_w hK hP 0 (by decide) rfl rfl) (bw_U hE hK hC hP hS) rfl hl.1 (Nat.le_of_ble_eq_true rfl) ⟨Nat.le_refl _, Nat.le_refl _⟩ dX7_difference_7 rfl) hS (fun r1 u2 H locs g3 hP hS => ?_)
  obtain ⟨rfl, rfl⟩ : r1 = 0 ∧ u2 = ((up2 I 0 0 0), A, K) := g3
  have hP : Wp mN E mK ((up2 I 0 0 0), A, K) H := hP
  refine lv_if_ne (tgt := 38) hx hb dX7_difference_10 (by decide) (fun h10 => absurd h10 (by decide)) (fun h10 => ?_)
  refine lv_aload_n hx hb dX7_difference_13 rfl (lv_at hl 0 rfl) ?_
  refine lv_iload_n hx hb dX7_difference_14 rfl (lv_at hl 2 rfl) ?_
  refine cn_wi (ck_V (a := eP E 0) S lk_X7_267 (c_X7_noRole_n l E (up2 I 0 0 0) A K q nr nu hE hM rfl k1) ⟨rfl, rfl⟩ ⟨Nat.le_of_ble_eq_true rfl, Nat.le_of_ble_eq_true rfl⟩ bl_w (rc_w hK hP 0 (by decide) rfl rfl) (bw_U hE hK hC hP hS) rfl hl.1 (Nat.le_of_ble_eq_true rfl) ⟨Nat.le_refl _, Nat.le_refl _⟩ dX7_difference_15 rfl) hS (fun r4 u5 H locs g6 hP hS => ?_)
  obtain ⟨rfl, rfl⟩ : r4 = 0 ∧ u5 = ((up2 I 0 0 0), A, K) := g6
  have hP : Wp mN E mK ((up2 I 0 0 0), A, K) H := hP
  refine lv_if_ne (tgt := 38) hx hb dX7_difference_18 (by decide) (fun h18 => absurd h18 (by decide)) (fun h18 => ?_)
  refine lv_aload_n hx hb dX7_difference_21 rfl (lv_at hl 0 rfl) ?_
  refine lv_iload_n hx hb dX7_difference_22 rfl (lv_at hl 3 rfl) ?_
  refine cn_wi (ck_V (a := eP E 0) S lk_X7_264 (c_X7_noScheme_b l E (up2 I 0 0 0) A K x2 hE rfl kb) ⟨rfl, rfl⟩ ⟨Nat.le_of_ble_eq_true rfl, Nat.le_of_ble_eq_true rfl⟩ bl_w (rc_w hK hP 0 (by decide) rfl rfl) (bw_U hE hK hC hP hS) rfl hl.1 (Nat.le_of_ble_eq_true rfl) ⟨Nat.le_refl _, Nat.le_refl _⟩ dX7_difference_23 rfl) hS (fun r7 u8 H locs g9 hP hS => ?_)
  obtain ⟨rfl, rfl⟩ : r7 = 1 ∧ u8 = ((up2 (up2 I 0 0 0) 0 0 1), A, K) := g9
  have hP : Wp mN E mK ((up2 (up2 I 0 0 0) 0 0 1), A, K) H := hP
  refine lv_if_ne (tgt := 38) hx hb dX7_difference_26 (by decide) (fun h26 => ?_) (fun h26 => absurd h26 (by decide))
  refine lv_iconst (v := 0) hx hb dX7_difference_38 (by decide) ?_
  exact re_wi (x := ((up2 (up2 I 0 0 0) 0 0 1), A, K)) (v := 0) hx hb hr hlk hP hS (by rw [up2_up]) dX7_difference_39

set_option maxHeartbeats 1000000 in
set_option maxRecDepth 100000 in
theorem c_X7_difference_b3 (l : Launch) (E : En) (I A : Nat → Nat → Int32) (K : Nat → Nat → Int64) (nr nu : Nat) (r : Nat) (q : Nat) (sc : Nat) (x3 : Int32) (hE : Ev mN E) (hM : MOk A nr nu) (k0 : r < nr) (k1 : q < nr) (k2 : sc < 2) (kb : x3 < 0 ∨ 5 ≤ x3) : Met l yX7_difference (wz yX7_difference cX7_difference 5 (some .int)) (rmk 2 0 0 43) (va_Pc [.ref (eP E 0), .int (nI r), .int (nI q), .int (nI sc), .int x3] (Bw mN E mK (I, A, K))) (qWi mN E mK (fun zz uu => uu = (up2 I 0 0 2, A, K))) 0 0 (cA mN E) := by
  refine en_ofW RX7 rfl (by decide +kernel) (Nat.le_of_ble_eq_true rfl) ?_
  intro p e s m below meth c ls S hr hlk hnm hl hB
  have hx := S.1
  have hb := S.2.1
  obtain ⟨hK, hC, hP⟩ := hB
  have hS : va_S (cA mN E) s.heap s.heap [] := va_S.rf
  have hl : lv_has ls 5 [(0, .ref (eP E 0)), (1, .int (nI r)), (2, .int (nI q)), (3, .int (nI sc)), (4, .int x3)] := hl
  obtain ⟨⟨hn1, hn2⟩, ⟨hr0, hr1⟩, hu3, hcv⟩ := id hM
  refine lv_aload_n hx hb dX7_difference_0 rfl (lv_at hl 0 rfl) ?_
  refine lv_iconst (v := 0) hx hb dX7_difference_1 (by decide) ?_
  refine rw_puti (x := (I, A, K)) (v := 0) S hE hK hP hS 0 (by decide) rfl fk_X7_35 rfl tyX7_ok nmX7 ⟨rfl, by decide +kernel⟩ dX7_difference_2 (fun H locs hP hS => ?_)
  have hP : Wp mN E mK ((up2 I 0 0 0), A, K) H := hP
  refine lv_aload_n hx hb dX7_difference_5 rfl (lv_at hl 0 rfl) ?_
  refine lv_iload_n hx hb dX7_difference_6 rfl (lv_at hl 1 rfl) ?_
  refine cn_wi (ck_V (a := eP E 0) S lk_X7_267 (c_X7_noRole_n l E (up2 I 0 0 0) A K r nr nu hE hM rfl k0) ⟨rfl, rfl⟩ ⟨Nat.le_of_ble_eq_true rfl, Nat.le_of_ble_eq_true rfl⟩ bl_w (rc_w hK hP 0 (by decide) rfl rfl) (bw_U hE hK hC hP hS) rfl hl.1 (Nat.le_of_ble_eq_true rfl) ⟨Nat.le_refl _, Nat.le_refl _⟩ dX7_difference_7 rfl) hS (fun r1 u2 H locs g3 hP hS => ?_)
  obtain ⟨rfl, rfl⟩ : r1 = 0 ∧ u2 = ((up2 I 0 0 0), A, K) := g3
  have hP : Wp mN E mK ((up2 I 0 0 0), A, K) H := hP
  refine lv_if_ne (tgt := 38) hx hb dX7_difference_10 (by decide) (fun h10 => absurd h10 (by decide)) (fun h10 => ?_)
  refine lv_aload_n hx hb dX7_difference_13 rfl (lv_at hl 0 rfl) ?_
  refine lv_iload_n hx hb dX7_difference_14 rfl (lv_at hl 2 rfl) ?_
  refine cn_wi (ck_V (a := eP E 0) S lk_X7_267 (c_X7_noRole_n l E (up2 I 0 0 0) A K q nr nu hE hM rfl k1) ⟨rfl, rfl⟩ ⟨Nat.le_of_ble_eq_true rfl, Nat.le_of_ble_eq_true rfl⟩ bl_w (rc_w hK hP 0 (by decide) rfl rfl) (bw_U hE hK hC hP hS) rfl hl.1 (Nat.le_of_ble_eq_true rfl) ⟨Nat.le_refl _, Nat.le_refl _⟩ dX7_difference_15 rfl) hS (fun r4 u5 H locs g6 hP hS => ?_)
  obtain ⟨rfl, rfl⟩ : r4 = 0 ∧ u5 = ((up2 I 0 0 0), A, K) := g6
  have hP : Wp mN E mK ((up2 I 0 0 0), A, K) H := hP
  refine lv_if_ne (tgt := 38) hx hb dX7_difference_18 (by decide) (fun h18 => absurd h18 (by decide)) (fun h18 => ?_)
  refine lv_aload_n hx hb dX7_difference_21 rfl (lv_at hl 0 rfl) ?_
  refine lv_iload_n hx hb dX7_difference_22 rfl (lv_at hl 3 rfl) ?_
  refine cn_wi (ck_V (a := eP E 0) S lk_X7_264 (c_X7_noScheme_n l E (up2 I 0 0 0) A K sc hE rfl k2) ⟨rfl, rfl⟩ ⟨Nat.le_of_ble_eq_true rfl, Nat.le_of_ble_eq_true rfl⟩ bl_w (rc_w hK hP 0 (by decide) rfl rfl) (bw_U hE hK hC hP hS) rfl hl.1 (Nat.le_of_ble_eq_true rfl) ⟨Nat.le_refl _, Nat.le_refl _⟩ dX7_difference_23 rfl) hS (fun r7 u8 H locs g9 hP hS => ?_)
  obtain ⟨rfl, rfl⟩ : r7 = 0 ∧ u8 = ((up2 I 0 0 0), A, K) := g9
  have hP : Wp mN E mK ((up2 I 0 0 0), A, K) H := hP
  refine lv_if_ne (tgt := 38) hx hb dX7_difference_26 (by decide) (fun h26 => absurd h26 (by decide)) (fun h26 => ?_)
  refine lv_aload_n hx hb dX7_difference_29 rfl (lv_at hl 0 rfl) ?_
  refine lv_iload hx hb dX7_difference_30 (lv_at hl 4 rfl) ?_
  refine cn_wi (ck_V (a := eP E 0) S lk_X7_270 (c_X7_noSight_b l E (up2 I 0 0 0) A K x3 hE rfl kb) ⟨rfl, rfl⟩ ⟨Nat.le_of_ble_eq_true rfl, Nat.le_of_ble_eq_true rfl⟩ bl_w (rc_w hK hP 0 (by decide) rfl rfl) (bw_U hE hK hC hP hS) rfl hl.1 (Nat.le_of_ble_eq_true rfl) ⟨Nat.le_refl _, Nat.le_refl _⟩ dX7_difference_32 rfl) hS (fun r10 u11 H locs g12 hP hS => ?_)
  obtain ⟨rfl, rfl⟩ : r10 = 1 ∧ u11 = ((up2 (up2 I 0 0 0) 0 0 2), A, K) := g12
  have hP : Wp mN E mK ((up2 (up2 I 0 0 0) 0 0 2), A, K) H := hP
  refine lv_if_eq (tgt := 40) hx hb dX7_difference_35 (by decide) (fun h35 => absurd h35 (by decide)) (fun h35 => ?_)
  refine lv_iconst (v := 0) hx hb dX7_difference_38 (by decide) ?_
  exact re_wi (x := ((up2 (up2 I 0 0 0) 0 0 2), A, K)) (v := 0) hx hb hr hlk hP hS (by rw [up2_up]) dX7_difference_39

set_option maxHeartbeats 1000000 in
set_option maxRecDepth 100000 in
theorem c_X7_need (l : Launch) (E : En) (I A : Nat → Nat → Int32) (K : Nat → Nat → Int64) (nr nu : Nat) (u : Nat) (sc : Nat) (hE : Ev mN E) (hM : MOk A nr nu) (k0 : u < nu) (k1 : sc < 2) : Met l yX7_need (wz yX7_need cX7_need 3 (some .int)) (rmk 3 0 0 65) (va_Pc [.ref (eP E 0), .int (nI u), .int (nI sc)] (Bw mN E mK (I, A, K))) (qWi mN E mK (fun zz uu => zz = mNd A u sc ∧ uu = (up2 I 0 0 0, A, K))) 0 0 (cA mN E) := by
  refine en_ofW RX7 rfl (by decide +kernel) (Nat.le_of_ble_eq_true rfl) ?_
  intro p e s m below meth c ls S hr hlk hnm hl hB
  have hx := S.1
  have hb := S.2.1
  obtain ⟨hK, hC, hP⟩ := hB
  have hS : va_S (cA mN E) s.heap s.heap [] := va_S.rf
  have hl : lv_has ls 3 [(0, .ref (eP E 0)), (1, .int (nI u)), (2, .int (nI sc))] := hl
  obtain ⟨⟨hn1, hn2⟩, ⟨hr0, hr1⟩, hu3, hcv⟩ := id hM
  refine lv_aload_n hx hb dX7_need_0 rfl (lv_at hl 0 rfl) ?_
  refine lv_iconst (v := 0) hx hb dX7_need_1 (by decide) ?_
  refine rw_puti (x := (I, A, K)) (v := 0) S hE hK hP hS 0 (by decide) rfl fk_X7_35 rfl tyX7_ok nmX7 ⟨rfl, by decide +kernel⟩ dX7_need_2 (fun H locs hP hS => ?_)
  have hP : Wp mN E mK ((up2 I 0 0 0), A, K) H := hP
  refine lv_aload_n hx hb dX7_need_5 rfl (lv_at hl 0 rfl) ?_
  refine lv_iload_n hx hb dX7_need_6 rfl (lv_at hl 1 rfl) ?_
  refine lv_iload_n hx hb dX7_need_7 rfl (lv_at hl 2 rfl) ?_
  refine cn_wi (ck_V (a := eP E 0) S lk_X7_277 (c_X7_noRule_n l E (up2 I 0 0 0) A K u sc nr nu hE hM rfl k0 k1) ⟨rfl, rfl⟩ ⟨Nat.le_of_ble_eq_true rfl, Nat.le_of_ble_eq_true rfl⟩ bl_w (rc_w hK hP 0 (by decide) rfl rfl) (bw_U hE hK hC hP hS) rfl hl.1 (Nat.le_of_ble_eq_true rfl) ⟨Nat.le_refl _, Nat.le_refl _⟩ dX7_need_8 rfl) hS (fun r1 u2 H locs g3 hP hS => ?_)
  obtain ⟨rfl, rfl⟩ : r1 = 0 ∧ u2 = ((up2 I 0 0 0), A, K) := g3
  have hP : Wp mN E mK ((up2 I 0 0 0), A, K) H := hP
  refine lv_if_eq (tgt := 18) hx hb dX7_need_11 (by decide) (fun h11 => ?_) (fun h11 => absurd (by decide) h11)
  refine lv_aload_n hx hb dX7_need_18 rfl (lv_at hl 0 rfl) ?_
  refine lv_iload_n hx hb dX7_need_19 rfl (lv_at hl 1 rfl) ?_
  refine lv_iload_n hx hb dX7_need_20 rfl (lv_at hl 2 rfl) ?_
  refine cn_si (ck_V (a := eP E 0) S lk_X7_235 (c_X7_needOf l E (up2 I 0 0 0) A K u sc hE (by omega) k1) ⟨rfl, rfl⟩ ⟨Nat.le_of_ble_eq_true rfl, Nat.le_of_ble_eq_true rfl⟩ bl_w (rc_w hK hP 0 (by decide) rfl rfl) (bw_U hE hK hC hP hS) rfl hl.1 (Nat.le_of_ble_eq_true rfl) ⟨Nat.le_refl _, Nat.le_refl _⟩ dX7_need_21 rfl) (fun r4 g5 => ?_)
  obtain rfl : r4 = mNd A u sc := g5
  exact re_wi (x := ((up2 I 0 0 0), A, K)) (v := (mNd A u sc)) hx hb hr hlk hP hS ⟨rfl, rfl⟩ dX7_need_24

set_option maxHeartbeats 1000000 in
set_option maxRecDepth 100000 in
theorem c_X7_need_b0 (l : Launch) (E : En) (I A : Nat → Nat → Int32) (K : Nat → Nat → Int64) (nr nu : Nat) (x0 : Int32) (x1 : Int32) (hE : Ev mN E) (hM : MOk A nr nu) (kb : x0 < 0 ∨ nI nu ≤ x0) : Met l yX7_need (wz yX7_need cX7_need 3 (some .int)) (rmk 2 0 0 44) (va_Pc [.ref (eP E 0), .int x0, .int x1] (Bw mN E mK (I, A, K))) (qWi mN E mK (fun zz uu => uu = (up2 I 0 0 1, A, K))) 0 0 (cA mN E) := by
  refine en_ofW RX7 rfl (by decide +kernel) (Nat.le_of_ble_eq_true rfl) ?_
  intro p e s m below meth c ls S hr hlk hnm hl hB
  have hx := S.1
  have hb := S.2.1
  obtain ⟨hK, hC, hP⟩ := hB
  have hS : va_S (cA mN E) s.heap s.heap [] := va_S.rf
  have hl : lv_has ls 3 [(0, .ref (eP E 0)), (1, .int x0), (2, .int x1)] := hl
  obtain ⟨⟨hn1, hn2⟩, ⟨hr0, hr1⟩, hu3, hcv⟩ := id hM
  refine lv_aload_n hx hb dX7_need_0 rfl (lv_at hl 0 rfl) ?_
  refine lv_iconst (v := 0) hx hb dX7_need_1 (by decide) ?_
  refine rw_puti (x := (I, A, K)) (v := 0) S hE hK hP hS 0 (by decide) rfl fk_X7_35 rfl tyX7_ok nmX7 ⟨rfl, by decide +kernel⟩ dX7_need_2 (fun H locs hP hS => ?_)
  have hP : Wp mN E mK ((up2 I 0 0 0), A, K) H := hP
  refine lv_aload_n hx hb dX7_need_5 rfl (lv_at hl 0 rfl) ?_
  refine lv_iload_n hx hb dX7_need_6 rfl (lv_at hl 1 rfl) ?_
  refine lv_iload_n hx hb dX7_need_7 rfl (lv_at hl 2 rfl) ?_
  refine cn_wi (ck_V (a := eP E 0) S lk_X7_277 (c_X7_noRule_b l E (up2 I 0 0 0) A K x0 x1 nr nu hE hM rfl kb) ⟨rfl, rfl⟩ ⟨Nat.le_of_ble_eq_true rfl, Nat.le_of_ble_eq_true rfl⟩ bl_w (rc_w hK hP 0 (by decide) rfl rfl) (bw_U hE hK hC hP hS) rfl hl.1 (Nat.le_of_ble_eq_true rfl) ⟨Nat.le_refl _, Nat.le_refl _⟩ dX7_need_8 rfl) hS (fun r1 u2 H locs g3 hP hS => ?_)
  obtain ⟨rfl, rfl⟩ : r1 = 1 ∧ u2 = ((up2 (up2 I 0 0 0) 0 0 1), A, K) := g3
  have hP : Wp mN E mK ((up2 (up2 I 0 0 0) 0 0 1), A, K) H := hP
  refine lv_if_eq (tgt := 18) hx hb dX7_need_11 (by decide) (fun h11 => absurd h11 (by decide)) (fun h11 => ?_)
  refine lv_iconst (v := 0) hx hb dX7_need_14 (by decide) ?_
  refine lv_goto (tgt := 24) hx hb dX7_need_15 (by decide) ?_
  exact re_wi (x := ((up2 (up2 I 0 0 0) 0 0 1), A, K)) (v := 0) hx hb hr hlk hP hS (by rw [up2_up]) dX7_need_24

set_option maxHeartbeats 1000000 in
set_option maxRecDepth 100000 in
theorem c_X7_need_b1 (l : Launch) (E : En) (I A : Nat → Nat → Int32) (K : Nat → Nat → Int64) (nr nu : Nat) (u : Nat) (x1 : Int32) (hE : Ev mN E) (hM : MOk A nr nu) (k0 : u < nu) (kb : x1 < 0 ∨ 2 ≤ x1) : Met l yX7_need (wz yX7_need cX7_need 3 (some .int)) (rmk 3 0 0 65) (va_Pc [.ref (eP E 0), .int (nI u), .int x1] (Bw mN E mK (I, A, K))) (qWi mN E mK (fun zz uu => uu = (up2 I 0 0 1, A, K))) 0 0 (cA mN E) := by
  refine en_ofW RX7 rfl (by decide +kernel) (Nat.le_of_ble_eq_true rfl) ?_
  intro p e s m below meth c ls S hr hlk hnm hl hB
  have hx := S.1
  have hb := S.2.1
  obtain ⟨hK, hC, hP⟩ := hB
  have hS : va_S (cA mN E) s.heap s.heap [] := va_S.rf
  have hl : lv_has ls 3 [(0, .ref (eP E 0)), (1, .int (nI u)), (2, .int x1)] := hl
  obtain ⟨⟨hn1, hn2⟩, ⟨hr0, hr1⟩, hu3, hcv⟩ := id hM
  refine lv_aload_n hx hb dX7_need_0 rfl (lv_at hl 0 rfl) ?_
  refine lv_iconst (v := 0) hx hb dX7_need_1 (by decide) ?_
  refine rw_puti (x := (I, A, K)) (v := 0) S hE hK hP hS 0 (by decide) rfl fk_X7_35 rfl tyX7_ok nmX7 ⟨rfl, by decide +kernel⟩ dX7_need_2 (fun H locs hP hS => ?_)
  have hP : Wp mN E mK ((up2 I 0 0 0), A, K) H := hP
  refine lv_aload_n hx hb dX7_need_5 rfl (lv_at hl 0 rfl) ?_
  refine lv_iload_n hx hb dX7_need_6 rfl (lv_at hl 1 rfl) ?_
  refine lv_iload_n hx hb dX7_need_7 rfl (lv_at hl 2 rfl) ?_
  refine cn_wi (ck_V (a := eP E 0) S lk_X7_277 (c_X7_noRule_c l E (up2 I 0 0 0) A K u x1 nr nu hE hM rfl k0 kb) ⟨rfl, rfl⟩ ⟨Nat.le_of_ble_eq_true rfl, Nat.le_of_ble_eq_true rfl⟩ bl_w (rc_w hK hP 0 (by decide) rfl rfl) (bw_U hE hK hC hP hS) rfl hl.1 (Nat.le_of_ble_eq_true rfl) ⟨Nat.le_refl _, Nat.le_refl _⟩ dX7_need_8 rfl) hS (fun r1 u2 H locs g3 hP hS => ?_)
  obtain ⟨rfl, rfl⟩ : r1 = 1 ∧ u2 = ((up2 (up2 I 0 0 0) 0 0 1), A, K) := g3
  have hP : Wp mN E mK ((up2 (up2 I 0 0 0) 0 0 1), A, K) H := hP
  refine lv_if_eq (tgt := 18) hx hb dX7_need_11 (by decide) (fun h11 => absurd h11 (by decide)) (fun h11 => ?_)
  refine lv_iconst (v := 0) hx hb dX7_need_14 (by decide) ?_
  refine lv_goto (tgt := 24) hx hb dX7_need_15 (by decide) ?_
  exact re_wi (x := ((up2 (up2 I 0 0 0) 0 0 1), A, K)) (v := 0) hx hb hr hlk hP hS (by rw [up2_up]) dX7_need_24

set_option maxHeartbeats 1000000 in
set_option maxRecDepth 100000 in
theorem c_X7_value (l : Launch) (E : En) (I A : Nat → Nat → Int32) (K : Nat → Nat → Int64) (nr nu : Nat) (u : Nat) (sc : Nat) (hE : Ev mN E) (hM : MOk A nr nu) (k0 : u < nu) (k1 : sc < 2) : Met l yX7_value (wz yX7_value cX7_value 3 (some .int)) (rmk 5 0 0 110) (va_Pc [.ref (eP E 0), .int (nI u), .int (nI sc)] (Bw mN E mK (I, A, K))) (qWi mN E mK (fun zz uu => zz = mVal A u sc ∧ uu = (up2 I 0 0 0, A, K))) 0 0 (cA mN E) := by
  refine en_ofW RX7 rfl (by decide +kernel) (Nat.le_of_ble_eq_true rfl) ?_
  intro p e s m below meth c ls S hr hlk hnm hl hB
  have hx := S.1
  have hb := S.2.1
  obtain ⟨hK, hC, hP⟩ := hB
  have hS : va_S (cA mN E) s.heap s.heap [] := va_S.rf
  have hl : lv_has ls 3 [(0, .ref (eP E 0)), (1, .int (nI u)), (2, .int (nI sc))] := hl
  obtain ⟨⟨hn1, hn2⟩, ⟨hr0, hr1⟩, hu3, hcv⟩ := id hM
  refine lv_aload_n hx hb dX7_value_0 rfl (lv_at hl 0 rfl) ?_
  refine lv_iconst (v := 0) hx hb dX7_value_1 (by decide) ?_
  refine rw_puti (x := (I, A, K)) (v := 0) S hE hK hP hS 0 (by decide) rfl fk_X7_35 rfl tyX7_ok nmX7 ⟨rfl, by decide +kernel⟩ dX7_value_2 (fun H locs hP hS => ?_)
  have hP : Wp mN E mK ((up2 I 0 0 0), A, K) H := hP
  refine lv_aload_n hx hb dX7_value_5 rfl (lv_at hl 0 rfl) ?_
  refine lv_iload_n hx hb dX7_value_6 rfl (lv_at hl 1 rfl) ?_
  refine lv_iload_n hx hb dX7_value_7 rfl (lv_at hl 2 rfl) ?_
  refine cn_wi (ck_V (a := eP E 0) S lk_X7_277 (c_X7_noRule_n l E (up2 I 0 0 0) A K u sc nr nu hE hM rfl k0 k1) ⟨rfl, rfl⟩ ⟨Nat.le_of_ble_eq_true rfl, Nat.le_of_ble_eq_true rfl⟩ bl_w (rc_w hK hP 0 (by decide) rfl rfl) (bw_U hE hK hC hP hS) rfl hl.1 (Nat.le_of_ble_eq_true rfl) ⟨Nat.le_refl _, Nat.le_refl _⟩ dX7_value_8 rfl) hS (fun r1 u2 H locs g3 hP hS => ?_)
  obtain ⟨rfl, rfl⟩ : r1 = 0 ∧ u2 = ((up2 I 0 0 0), A, K) := g3
  have hP : Wp mN E mK ((up2 I 0 0 0), A, K) H := hP
  refine lv_if_eq (tgt := 18) hx hb dX7_value_11 (by decide) (fun h11 => ?_) (fun h11 => absurd (by decide) h11)
  refine lv_aload_n hx hb dX7_value_18 rfl (lv_at hl 0 rfl) ?_
  refine lv_iload_n hx hb dX7_value_19 rfl (lv_at hl 1 rfl) ?_
  refine lv_iload_n hx hb dX7_value_20 rfl (lv_at hl 2 rfl) ?_
  refine cn_si (ck_V (a := eP E 0) S lk_X7_232 (c_X7_valueOf l E (up2 I 0 0 0) A K u sc nr nu hE hM k0 k1) ⟨rfl, rfl⟩ ⟨Nat.le_of_ble_eq_true rfl, Nat.le_of_ble_eq_true rfl⟩ bl_w (rc_w hK hP 0 (by decide) rfl rfl) (bw_U hE hK hC hP hS) rfl hl.1 (Nat.le_of_ble_eq_true rfl) ⟨Nat.le_refl _, Nat.le_refl _⟩ dX7_value_21 rfl) (fun r4 g5 => ?_)
  obtain rfl : r4 = mVal A u sc := g5
  exact re_wi (x := ((up2 I 0 0 0), A, K)) (v := (mVal A u sc)) hx hb hr hlk hP hS ⟨rfl, rfl⟩ dX7_value_24

set_option maxHeartbeats 1000000 in
set_option maxRecDepth 100000 in
theorem c_X7_value_b0 (l : Launch) (E : En) (I A : Nat → Nat → Int32) (K : Nat → Nat → Int64) (nr nu : Nat) (x0 : Int32) (x1 : Int32) (hE : Ev mN E) (hM : MOk A nr nu) (kb : x0 < 0 ∨ nI nu ≤ x0) : Met l yX7_value (wz yX7_value cX7_value 3 (some .int)) (rmk 2 0 0 44) (va_Pc [.ref (eP E 0), .int x0, .int x1] (Bw mN E mK (I, A, K))) (qWi mN E mK (fun zz uu => uu = (up2 I 0 0 1, A, K))) 0 0 (cA mN E) := by
  refine en_ofW RX7 rfl (by decide +kernel) (Nat.le_of_ble_eq_true rfl) ?_
  intro p e s m below meth c ls S hr hlk hnm hl hB
  have hx := S.1
  have hb := S.2.1
  obtain ⟨hK, hC, hP⟩ := hB
  have hS : va_S (cA mN E) s.heap s.heap [] := va_S.rf
  have hl : lv_has ls 3 [(0, .ref (eP E 0)), (1, .int x0), (2, .int x1)] := hl
  obtain ⟨⟨hn1, hn2⟩, ⟨hr0, hr1⟩, hu3, hcv⟩ := id hM
  refine lv_aload_n hx hb dX7_value_0 rfl (lv_at hl 0 rfl) ?_
  refine lv_iconst (v := 0) hx hb dX7_value_1 (by decide) ?_
  refine rw_puti (x := (I, A, K)) (v := 0) S hE hK hP hS 0 (by decide) rfl fk_X7_35 rfl tyX7_ok nmX7 ⟨rfl, by decide +kernel⟩ dX7_value_2 (fun H locs hP hS => ?_)
  have hP : Wp mN E mK ((up2 I 0 0 0), A, K) H := hP
  refine lv_aload_n hx hb dX7_value_5 rfl (lv_at hl 0 rfl) ?_
  refine lv_iload_n hx hb dX7_value_6 rfl (lv_at hl 1 rfl) ?_
  refine lv_iload_n hx hb dX7_value_7 rfl (lv_at hl 2 rfl) ?_
  refine cn_wi (ck_V (a := eP E 0) S lk_X7_277 (c_X7_noRule_b l E (up2 I 0 0 0) A K x0 x1 nr nu hE hM rfl kb) ⟨rfl, rfl⟩ ⟨Nat.le_of_ble_eq_true rfl, Nat.le_of_ble_eq_true rfl⟩ bl_w (rc_w hK hP 0 (by decide) rfl rfl) (bw_U hE hK hC hP hS) rfl hl.1 (Nat.le_of_ble_eq_true rfl) ⟨Nat.le_refl _, Nat.le_refl _⟩ dX7_value_8 rfl) hS (fun r1 u2 H locs g3 hP hS => ?_)
  obtain ⟨rfl, rfl⟩ : r1 = 1 ∧ u2 = ((up2 (up2 I 0 0 0) 0 0 1), A, K) := g3
  have hP : Wp mN E mK ((up2 (up2 I 0 0 0) 0 0 1), A, K) H := hP
  refine lv_if_eq (tgt := 18) hx hb dX7_value_11 (by decide) (fun h11 => absurd h11 (by decide)) (fun h11 => ?_)
  refine lv_iconst (v := 0) hx hb dX7_value_14 (by decide) ?_
  refine lv_goto (tgt := 24) hx hb dX7_value_15 (by decide) ?_
  exact re_wi (x := ((up2 (up2 I 0 0 0) 0 0 1), A, K)) (v := 0) hx hb hr hlk hP hS (by rw [up2_up]) dX7_value_24

set_option maxHeartbeats 1000000 in
set_option maxRecDepth 100000 in
theorem c_X7_value_b1 (l : Launch) (E : En) (I A : Nat → Nat → Int32) (K : Nat → Nat → Int64) (nr nu : Nat) (u : Nat) (x1 : Int32) (hE : Ev mN E) (hM : MOk A nr nu) (k0 : u < nu) (kb : x1 < 0 ∨ 2 ≤ x1) : Met l yX7_value (wz yX7_value cX7_value 3 (some .int)) (rmk 3 0 0 65) (va_Pc [.ref (eP E 0), .int (nI u), .int x1] (Bw mN E mK (I, A, K))) (qWi mN E mK (fun zz uu => uu = (up2 I 0 0 1, A, K))) 0 0 (cA mN E) := by
  refine en_ofW RX7 rfl (by decide +kernel) (Nat.le_of_ble_eq_true rfl) ?_
  intro p e s m below meth c ls S hr hlk hnm hl hB
  have hx := S.1
  have hb := S.2.1
  obtain ⟨hK, hC, hP⟩ := hB
  have hS : va_S (cA mN E) s.heap s.heap [] := va_S.rf
  have hl : lv_has ls 3 [(0, .ref (eP E 0)), (1, .int (nI u)), (2, .int x1)] := hl
  obtain ⟨⟨hn1, hn2⟩, ⟨hr0, hr1⟩, hu3, hcv⟩ := id hM
  refine lv_aload_n hx hb dX7_value_0 rfl (lv_at hl 0 rfl) ?_
  refine lv_iconst (v := 0) hx hb dX7_value_1 (by decide) ?_
  refine rw_puti (x := (I, A, K)) (v := 0) S hE hK hP hS 0 (by decide) rfl fk_X7_35 rfl tyX7_ok nmX7 ⟨rfl, by decide +kernel⟩ dX7_value_2 (fun H locs hP hS => ?_)
  have hP : Wp mN E mK ((up2 I 0 0 0), A, K) H := hP
  refine lv_aload_n hx hb dX7_value_5 rfl (lv_at hl 0 rfl) ?_
  refine lv_iload_n hx hb dX7_value_6 rfl (lv_at hl 1 rfl) ?_
  refine lv_iload_n hx hb dX7_value_7 rfl (lv_at hl 2 rfl) ?_
  refine cn_wi (ck_V (a := eP E 0) S lk_X7_277 (c_X7_noRule_c l E (up2 I 0 0 0) A K u x1 nr nu hE hM rfl k0 kb) ⟨rfl, rfl⟩ ⟨Nat.le_of_ble_eq_true rfl, Nat.le_of_ble_eq_true rfl⟩ bl_w (rc_w hK hP 0 (by decide) rfl rfl) (bw_U hE hK hC hP hS) rfl hl.1 (Nat.le_of_ble_eq_true rfl) ⟨Nat.le_refl _, Nat.le_refl _⟩ dX7_value_8 rfl) hS (fun r1 u2 H locs g3 hP hS => ?_)
  obtain ⟨rfl, rfl⟩ : r1 = 1 ∧ u2 = ((up2 (up2 I 0 0 0) 0 0 1), A, K) := g3
  have hP : Wp mN E mK ((up2 (up2 I 0 0 0) 0 0 1), A, K) H := hP
  refine lv_if_eq (tgt := 18) hx hb dX7_value_11 (by decide) (fun h11 => absurd h11 (by decide)) (fun h11 => ?_)
  refine lv_iconst (v := 0) hx hb dX7_value_14 (by decide) ?_
  refine lv_goto (tgt := 24) hx hb dX7_value_15 (by decide) ?_
  exact re_wi (x := ((up2 (up2 I 0 0 0) 0 0 1), A, K)) (v := 0) hx hb hr hlk hP hS (by rw [up2_up]) dX7_value_24

def mNr (A : Nat → Nat → Int32) (sc : Nat) (x : Int32) : Nat → Int32 × Int32 := lfo (fun r a => if a.1 = -1 then (nI r, rDif (mCol A r sc) x) else if rDif (mCol A r sc) x < a.2 then (nI r, rDif (mCol A r sc) x) else a) (-1, 0)
theorem mNr_s {A : Nat → Nat → Int32} {sc i : Nat} {x : Int32} : mNr A sc x (i + 1) = if (mNr A sc x i).1 = -1 then (nI i, rDif (mCol A i sc) x) else if rDif (mCol A i sc) x < (mNr A sc x i).2 then (nI i, rDif (mCol A i sc) x) else mNr A sc x i := rfl
def mMar (A : Nat → Nat → Int32) (s : Nat) : Nat → Int32 := lfo (fun u a => rMin a (mVal A u s - mNd A u s)) 9999
set_option maxHeartbeats 1000000 in
set_option maxRecDepth 100000 in
theorem c_X7_nearest (l : Launch) (E : En) (I A : Nat → Nat → Int32) (K : Nat → Nat → Int64) (nr nu : Nat) (x : Int32) (sc : Nat) (hE : Ev mN E) (hM : MOk A nr nu) (k1 : sc < 2) (k0 : ¬ x < 0 ∧ ¬ 16777215 < x) : Met l yX7_nearest (wz yX7_nearest cX7_nearest 7 (some .int)) (rmk 2 0 0 43) (va_Pc [.ref (eP E 0), .int x, .int (nI sc)] (Bw mN E mK (I, A, K))) (qWi mN E mK (fun zz uu => zz = (mNr A sc x nr).1 ∧ uu = (up2 I 0 0 0, A, K))) 0 0 (cA mN E) := by
  refine en_ofW RX7 rfl (by decide +kernel) (Nat.le_of_ble_eq_true rfl) ?_
  intro p e s m below meth c ls S hr hlk hnm hl hB
  have hx := S.1
  have hb := S.2.1
  obtain ⟨hK, hC, hP⟩ := hB
  have hS : va_S (cA mN E) s.heap s.heap [] := va_S.rf
  have hl : lv_has ls 7 [(0, .ref (eP E 0)), (1, .int x), (2, .int (nI sc))] := hl
  obtain ⟨⟨hn1, hn2⟩, ⟨hr0, hr1⟩, hu3, hcv⟩ := id hM
  refine lv_aload_n hx hb dX7_nearest_0 rfl (lv_at hl 0 rfl) ?_
  refine lv_iconst (v := 0) hx hb dX7_nearest_1 (by decide) ?_
  refine rw_puti (x := (I, A, K)) (v := 0) S hE hK hP hS 0 (by decide) rfl fk_X7_35 rfl tyX7_ok nmX7 ⟨rfl, by decide +kernel⟩ dX7_nearest_2 (fun H locs hP hS => ?_)
  have hP : Wp mN E mK ((up2 I 0 0 0), A, K) H := hP
  refine lv_aload_n hx hb dX7_nearest_5 rfl (lv_at hl 0 rfl) ?_
  refine lv_iload_n hx hb dX7_nearest_6 rfl (lv_at hl 2 rfl) ?_
  refine cn_wi (ck_V (a := eP E 0) S lk_X7_264 (c_X7_noScheme_n l E (up2 I 0 0 0) A K sc hE rfl k1) ⟨rfl, rfl⟩ ⟨Nat.le_of_ble_eq_true rfl, Nat.le_of_ble_eq_true rfl⟩ bl_w (rc_w hK hP 0 (by decide) rfl rfl) (bw_U hE hK hC hP hS) rfl hl.1 (Nat.le_of_ble_eq_true rfl) ⟨Nat.le_refl _, Nat.le_refl _⟩ dX7_nearest_7 rfl) hS (fun r1 u2 H locs g3 hP hS => ?_)
  obtain ⟨rfl, rfl⟩ : r1 = 0 ∧ u2 = ((up2 I 0 0 0), A, K) := g3
  have hP : Wp mN E mK ((up2 I 0 0 0), A, K) H := hP
  refine lv_if_ne (tgt := 21) hx hb dX7_nearest_10 (by decide) (fun h10 => absurd h10 (by decide)) (fun h10 => ?_)
  refine lv_aload_n hx hb dX7_nearest_13 rfl (lv_at hl 0 rfl) ?_
  refine lv_iload_n hx hb dX7_nearest_14 rfl (lv_at hl 1 rfl) ?_
  refine cn_wi (ck_V (a := eP E 0) S lk_X7_274 (c_X7_noColour_n l E (up2 I 0 0 0) A K x hE rfl k0) ⟨rfl, rfl⟩ ⟨Nat.le_of_ble_eq_true rfl, Nat.le_of_ble_eq_true rfl⟩ bl_w (rc_w hK hP 0 (by decide) rfl rfl) (bw_U hE hK hC hP hS) rfl hl.1 (Nat.le_of_ble_eq_true rfl) ⟨Nat.le_refl _, Nat.le_refl _⟩ dX7_nearest_15 rfl) hS (fun r4 u5 H locs g6 hP hS => ?_)
  obtain ⟨rfl, rfl⟩ : r4 = 0 ∧ u5 = ((up2 I 0 0 0), A, K) := g6
  have hP : Wp mN E mK ((up2 I 0 0 0), A, K) H := hP
  refine lv_if_eq (tgt := 23) hx hb dX7_nearest_18 (by decide) (fun h18 => ?_) (fun h18 => absurd (by decide) h18)
  refine lv_iconst (v := (-1)) hx hb dX7_nearest_23 (by decide) ?_
  refine lv_istore_n (lv' := [(3, .int (-1)), (0, .ref (eP E 0)), (1, .int x), (2, .int (nI sc))]) hx hb dX7_nearest_24 rfl hl (by decide) rfl (fun ls hl => ?_)
  refine lv_iconst (v := 0) hx hb dX7_nearest_25 (by decide) ?_
  refine lv_istore (lv' := [(4, .int 0), (3, .int (-1)), (0, .ref (eP E 0)), (1, .int x), (2, .int (nI sc))]) hx hb dX7_nearest_26 hl (by decide) rfl (fun ls hl => ?_)
  refine lv_iconst (v := 0) hx hb dX7_nearest_28 (by decide) ?_
  refine lv_istore (lv' := [(5, .int 0), (4, .int 0), (3, .int (-1)), (0, .ref (eP E 0)), (1, .int x), (2, .int (nI sc))]) hx hb dX7_nearest_29 hl (by decide) rfl (fun ls hl => ?_)
  have HL : ∀ (n i : Nat), i + n = nr → ∀ (H : Heap) (locs : List Loc), Wp mN E mK ((up2 I 0 0 0), A, K) H → va_S (cA mN E) s.heap H locs → ∀ ls : Array Slot, lv_has ls 7 [(5, .int (nI i)), (4, .int ((mNr A sc x i).2)), (3, .int ((mNr A sc x i).1)), (0, .ref (eP E 0)), (1, .int x), (2, .int (nI sc))] → W p l e (rmk 2 0 0 43) s m ([.ref (eP E 0), .int x, .int (nI sc)] : List Value).toArray below meth c H locs 0 0 (MQ below (qWi mN E mK (fun zz uu => zz = (mNr A sc x nr).1 ∧ uu = (up2 I 0 0 0, A, K))) ([.ref (eP E 0), .int x, .int (nI sc)] : List Value).toArray s 0 0 (cA mN E)) (F0 m 31 ls []) := by
    intro n
    induction n with
    | zero =>
      intro i hi H locs hP hS ls hl
      have hiN : i = nr := by omega
      rw [hiN] at hl
      try rw [hiN] at hP
      refine lv_iload hx hb dX7_nearest_31 (lv_at hl 0 rfl) ?_
      refine lv_aload_n hx hb dX7_nearest_33 rfl (lv_at hl 3 rfl) ?_
      refine rw_getr (x := ((up2 I 0 0 0), A, K)) S hK hP 0 (by decide) rfl fk_X7_17 rfl dX7_nearest_34 ?_
      refine lv_iconst (v := 0) hx hb dX7_nearest_37 (by decide) ?_
      refine rw_iald (x := ((up2 I 0 0 0), A, K)) (v := nI nr) S hK hP 2 (by decide) rfl 0 rfl (by decide) (by decide) hr0 dX7_nearest_38 ?_
      refine lv_icmp_ge (tgt := 83) hx hb dX7_nearest_39 (by decide) (fun h39 => ?_) (fun h39 => absurd (Int32.le_refl _) h39)
      refine lv_iload_n hx hb dX7_nearest_83 rfl (lv_at hl 2 rfl) ?_
      exact re_wi (x := ((up2 I 0 0 0), A, K)) (v := (mNr A sc x nr).1) hx hb hr hlk hP hS ⟨rfl, rfl⟩ dX7_nearest_84
    | succ n ih =>
      intro i hi H locs hP hS ls hl
      have hlt : i < nr := by omega
      refine lv_iload hx hb dX7_nearest_31 (lv_at hl 0 rfl) ?_
      refine lv_aload_n hx hb dX7_nearest_33 rfl (lv_at hl 3 rfl) ?_
      refine rw_getr (x := ((up2 I 0 0 0), A, K)) S hK hP 0 (by decide) rfl fk_X7_17 rfl dX7_nearest_34 ?_
      refine lv_iconst (v := 0) hx hb dX7_nearest_37 (by decide) ?_
      refine rw_iald (x := ((up2 I 0 0 0), A, K)) (v := nI nr) S hK hP 2 (by decide) rfl 0 rfl (by decide) (by decide) hr0 dX7_nearest_38 ?_
      refine lv_icmp_ge (tgt := 83) hx hb dX7_nearest_39 (by decide) (fun h39 => absurd h39 (nI_ge hlt (by omega))) (fun h39 => ?_)
      refine lv_aload_n hx hb dX7_nearest_42 rfl (lv_at hl 3 rfl) ?_
      refine lv_iload hx hb dX7_nearest_43 (lv_at hl 0 rfl) ?_
      refine lv_iload_n hx hb dX7_nearest_45 rfl (lv_at hl 5 rfl) ?_
      refine cn_si (ck_V (a := eP E 0) S lk_X7_220 (c_X7_colourOf l E (up2 I 0 0 0) A K i sc hE (by omega) k1) ⟨rfl, rfl⟩ ⟨Nat.le_of_ble_eq_true rfl, Nat.le_of_ble_eq_true rfl⟩ bl_w (rc_w hK hP 0 (by decide) rfl rfl) (bw_U hE hK hC hP hS) rfl hl.1 (Nat.le_of_ble_eq_true rfl) ⟨Nat.le_refl _, Nat.le_refl _⟩ dX7_nearest_46 rfl) (fun r7 g8 => ?_)
      obtain rfl : r7 = mCol A i sc := g8
      refine lv_iload_n hx hb dX7_nearest_49 rfl (lv_at hl 4 rfl) ?_
      refine cn_si (ck_S S lk_X7_229 (c_X7_differenceOf l (mCol A i sc) x) ⟨rfl, rfl⟩ ⟨Nat.le_of_ble_eq_true rfl, Nat.le_of_ble_eq_true rfl⟩ bl_T t_U rfl hl.1 (Nat.le_of_ble_eq_true rfl) ⟨Nat.le_refl _, Nat.le_refl _⟩ dX7_nearest_50 rfl) (fun r9 g10 => ?_)
      obtain rfl : r9 = rDif (mCol A i sc) x := g10
      refine lv_istore (lv' := [(6, .int (rDif (mCol A i sc) x)), (5, .int (nI i)), (4, .int ((mNr A sc x i).2)), (3, .int ((mNr A sc x i).1)), (0, .ref (eP E 0)), (1, .int x), (2, .int (nI sc))]) hx hb dX7_nearest_53 hl (by decide) rfl (fun ls hl => ?_)
      refine lv_iload_n hx hb dX7_nearest_55 rfl (lv_at hl 3 rfl) ?_
      refine lv_iconst (v := (-1)) hx hb dX7_nearest_56 (by decide) ?_
      refine lv_icmp_eq (tgt := 70) hx hb dX7_nearest_57 (by decide) (fun h57 => ?_) (fun h57 => ?_)
      · refine lv_iload hx hb dX7_nearest_70 (lv_at hl 1 rfl) ?_
        refine lv_istore_n (lv' := [(3, .int (nI i)), (6, .int (rDif (mCol A i sc) x)), (5, .int (nI i)), (4, .int ((mNr A sc x i).2)), (0, .ref (eP E 0)), (1, .int x), (2, .int (nI sc))]) hx hb dX7_nearest_72 rfl hl (by decide) rfl (fun ls hl => ?_)
        refine lv_iload hx hb dX7_nearest_73 (lv_at hl 1 rfl) ?_
        refine lv_istore (lv' := [(4, .int (rDif (mCol A i sc) x)), (3, .int (nI i)), (6, .int (rDif (mCol A i sc) x)), (5, .int (nI i)), (0, .ref (eP E 0)), (1, .int x), (2, .int (nI sc))]) hx hb dX7_nearest_75 hl (by decide) rfl (fun ls hl => ?_)
        refine lv_iinc (v := nI (i + 1)) (lv' := [(5, .int (nI (i + 1))), (4, .int (rDif (mCol A i sc) x)), (3, .int (nI i)), (6, .int (rDif (mCol A i sc) x)), (0, .ref (eP E 0)), (1, .int x), (2, .int (nI sc))]) hx hb dX7_nearest_77 hl (k := 3) rfl (nI_1 _) (by decide) rfl (fun ls hl => ?_)
        refine lv_goto (tgt := 31) hx hb dX7_nearest_80 (by decide) ?_
        refine ih (i + 1) (by omega) _ _ hP hS ls ?_
        rw [show (mNr A sc x (i + 1)).1 = nI i from by rw [mNr_s, if_pos h57]]
        rw [show (mNr A sc x (i + 1)).2 = (rDif (mCol A i sc) x) from by rw [mNr_s, if_pos h57]]
        exact lv_sub hl [0, 1, 2, 4, 5, 6] rfl
      · refine lv_iload hx hb dX7_nearest_60 (lv_at hl 0 rfl) ?_
        refine lv_iload hx hb dX7_nearest_62 (lv_at hl 2 rfl) ?_
        refine lv_icmp_lt (tgt := 70) hx hb dX7_nearest_64 (by decide) (fun h64 => ?_) (fun h64 => ?_)
        · refine lv_iload hx hb dX7_nearest_70 (lv_at hl 1 rfl) ?_
          refine lv_istore_n (lv' := [(3, .int (nI i)), (6, .int (rDif (mCol A i sc) x)), (5, .int (nI i)), (4, .int ((mNr A sc x i).2)), (0, .ref (eP E 0)), (1, .int x), (2, .int (nI sc))]) hx hb dX7_nearest_72 rfl hl (by decide) rfl (fun ls hl => ?_)
          refine lv_iload hx hb dX7_nearest_73 (lv_at hl 1 rfl) ?_
          refine lv_istore (lv' := [(4, .int (rDif (mCol A i sc) x)), (3, .int (nI i)), (6, .int (rDif (mCol A i sc) x)), (5, .int (nI i)), (0, .ref (eP E 0)), (1, .int x), (2, .int (nI sc))]) hx hb dX7_nearest_75 hl (by decide) rfl (fun ls hl => ?_)
          refine lv_iinc (v := nI (i + 1)) (lv' := [(5, .int (nI (i + 1))), (4, .int (rDif (mCol A i sc) x)), (3, .int (nI i)), (6, .int (rDif (mCol A i sc) x)), (0, .ref (eP E 0)), (1, .int x), (2, .int (nI sc))]) hx hb dX7_nearest_77 hl (k := 3) rfl (nI_1 _) (by decide) rfl (fun ls hl => ?_)
          refine lv_goto (tgt := 31) hx hb dX7_nearest_80 (by decide) ?_
          refine ih (i + 1) (by omega) _ _ hP hS ls ?_
          rw [show (mNr A sc x (i + 1)).1 = nI i from by rw [mNr_s, if_neg h57, if_pos h64]]
          rw [show (mNr A sc x (i + 1)).2 = (rDif (mCol A i sc) x) from by rw [mNr_s, if_neg h57, if_pos h64]]
          exact lv_sub hl [0, 1, 2, 4, 5, 6] rfl
        · refine lv_goto (tgt := 77) hx hb dX7_nearest_67 (by decide) ?_
          refine lv_iinc (v := nI (i + 1)) (lv' := [(5, .int (nI (i + 1))), (6, .int (rDif (mCol A i sc) x)), (4, .int ((mNr A sc x i).2)), (3, .int ((mNr A sc x i).1)), (0, .ref (eP E 0)), (1, .int x), (2, .int (nI sc))]) hx hb dX7_nearest_77 hl (k := 1) rfl (nI_1 _) (by decide) rfl (fun ls hl => ?_)
          refine lv_goto (tgt := 31) hx hb dX7_nearest_80 (by decide) ?_
          refine ih (i + 1) (by omega) _ _ hP hS ls ?_
          rw [show (mNr A sc x (i + 1)).1 = (mNr A sc x i).1 from by rw [mNr_s, if_neg h57, if_neg h64]]
          rw [show (mNr A sc x (i + 1)).2 = (mNr A sc x i).2 from by rw [mNr_s, if_neg h57, if_neg h64]]
          exact lv_sub hl [0, 2, 3, 4, 5, 6] rfl
  exact HL nr 0 (by omega) _ _ hP hS ls (lv_sub hl [0, 1, 2, 3, 4, 5] rfl)

set_option maxHeartbeats 1000000 in
set_option maxRecDepth 100000 in
theorem c_X7_nearest_b0 (l : Launch) (E : En) (I A : Nat → Nat → Int32) (K : Nat → Nat → Int64) (nr nu : Nat) (x0 : Int32) (x1 : Int32) (hE : Ev mN E) (hM : MOk A nr nu) (kb : x1 < 0 ∨ 2 ≤ x1) : Met l yX7_nearest (wz yX7_nearest cX7_nearest 7 (some .int)) (rmk 2 0 0 43) (va_Pc [.ref (eP E 0), .int x0, .int x1] (Bw mN E mK (I, A, K))) (qWi mN E mK (fun zz uu => uu = (up2 I 0 0 1, A, K))) 0 0 (cA mN E) := by
  refine en_ofW RX7 rfl (by decide +kernel) (Nat.le_of_ble_eq_true rfl) ?_
  intro p e s m below meth c ls S hr hlk hnm hl hB
  have hx := S.1
  have hb := S.2.1
  obtain ⟨hK, hC, hP⟩ := hB
  have hS : va_S (cA mN E) s.heap s.heap [] := va_S.rf
  have hl : lv_has ls 7 [(0, .ref (eP E 0)), (1, .int x0), (2, .int x1)] := hl
  obtain ⟨⟨hn1, hn2⟩, ⟨hr0, hr1⟩, hu3, hcv⟩ := id hM
  refine lv_aload_n hx hb dX7_nearest_0 rfl (lv_at hl 0 rfl) ?_
  refine lv_iconst (v := 0) hx hb dX7_nearest_1 (by decide) ?_
  refine rw_puti (x := (I, A, K)) (v := 0) S hE hK hP hS 0 (by decide) rfl fk_X7_35 rfl tyX7_ok nmX7 ⟨rfl, by decide +kernel⟩ dX7_nearest_2 (fun H locs hP hS => ?_)
  have hP : Wp mN E mK ((up2 I 0 0 0), A, K) H := hP
  refine lv_aload_n hx hb dX7_nearest_5 rfl (lv_at hl 0 rfl) ?_
  refine lv_iload_n hx hb dX7_nearest_6 rfl (lv_at hl 2 rfl) ?_
  refine cn_wi (ck_V (a := eP E 0) S lk_X7_264 (c_X7_noScheme_b l E (up2 I 0 0 0) A K x1 hE rfl kb) ⟨rfl, rfl⟩ ⟨Nat.le_of_ble_eq_true rfl, Nat.le_of_ble_eq_true rfl⟩ bl_w (rc_w hK hP 0 (by decide) rfl rfl) (bw_U hE hK hC hP hS) rfl hl.1 (Nat.le_of_ble_eq_true rfl) ⟨Nat.le_refl _, Nat.le_refl _⟩ dX7_nearest_7 rfl) hS (fun r1 u2 H locs g3 hP hS => ?_)
  obtain ⟨rfl, rfl⟩ : r1 = 1 ∧ u2 = ((up2 (up2 I 0 0 0) 0 0 1), A, K) := g3
  have hP : Wp mN E mK ((up2 (up2 I 0 0 0) 0 0 1), A, K) H := hP
  refine lv_if_ne (tgt := 21) hx hb dX7_nearest_10 (by decide) (fun h10 => ?_) (fun h10 => absurd h10 (by decide))
  refine lv_iconst (v := 0) hx hb dX7_nearest_21 (by decide) ?_
  exact re_wi (x := ((up2 (up2 I 0 0 0) 0 0 1), A, K)) (v := 0) hx hb hr hlk hP hS (by rw [up2_up]) dX7_nearest_22

set_option maxHeartbeats 1000000 in
set_option maxRecDepth 100000 in
theorem c_X7_nearest_b1 (l : Launch) (E : En) (I A : Nat → Nat → Int32) (K : Nat → Nat → Int64) (nr nu : Nat) (x0 : Int32) (sc : Nat) (hE : Ev mN E) (hM : MOk A nr nu) (k1 : sc < 2) (kb : x0 < 0 ∨ 16777215 < x0) : Met l yX7_nearest (wz yX7_nearest cX7_nearest 7 (some .int)) (rmk 2 0 0 43) (va_Pc [.ref (eP E 0), .int x0, .int (nI sc)] (Bw mN E mK (I, A, K))) (qWi mN E mK (fun zz uu => uu = (up2 I 0 0 2, A, K))) 0 0 (cA mN E) := by
  refine en_ofW RX7 rfl (by decide +kernel) (Nat.le_of_ble_eq_true rfl) ?_
  intro p e s m below meth c ls S hr hlk hnm hl hB
  have hx := S.1
  have hb := S.2.1
  obtain ⟨hK, hC, hP⟩ := hB
  have hS : va_S (cA mN E) s.heap s.heap [] := va_S.rf
  have hl : lv_has ls 7 [(0, .ref (eP E 0)), (1, .int x0), (2, .int (nI sc))] := hl
  obtain ⟨⟨hn1, hn2⟩, ⟨hr0, hr1⟩, hu3, hcv⟩ := id hM
  refine lv_aload_n hx hb dX7_nearest_0 rfl (lv_at hl 0 rfl) ?_
  refine lv_iconst (v := 0) hx hb dX7_nearest_1 (by decide) ?_
  refine rw_puti (x := (I, A, K)) (v := 0) S hE hK hP hS 0 (by decide) rfl fk_X7_35 rfl tyX7_ok nmX7 ⟨rfl, by decide +kernel⟩ dX7_nearest_2 (fun H locs hP hS => ?_)
  have hP : Wp mN E mK ((up2 I 0 0 0), A, K) H := hP
  refine lv_aload_n hx hb dX7_nearest_5 rfl (lv_at hl 0 rfl) ?_
  refine lv_iload_n hx hb dX7_nearest_6 rfl (lv_at hl 2 rfl) ?_
  refine cn_wi (ck_V (a := eP E 0) S lk_X7_264 (c_X7_noScheme_n l E (up2 I 0 0 0) A K sc hE rfl k1) ⟨rfl, rfl⟩ ⟨Nat.le_of_ble_eq_true rfl, Nat.le_of_ble_eq_true rfl⟩ bl_w (rc_w hK hP 0 (by decide) rfl rfl) (bw_U hE hK hC hP hS) rfl hl.1 (Nat.le_of_ble_eq_true rfl) ⟨Nat.le_refl _, Nat.le_refl _⟩ dX7_nearest_7 rfl) hS (fun r1 u2 H locs g3 hP hS => ?_)
  obtain ⟨rfl, rfl⟩ : r1 = 0 ∧ u2 = ((up2 I 0 0 0), A, K) := g3
  have hP : Wp mN E mK ((up2 I 0 0 0), A, K) H := hP
  refine lv_if_ne (tgt := 21) hx hb dX7_nearest_10 (by decide) (fun h10 => absurd h10 (by decide)) (fun h10 => ?_)
  refine lv_aload_n hx hb dX7_nearest_13 rfl (lv_at hl 0 rfl) ?_
  refine lv_iload_n hx hb dX7_nearest_14 rfl (lv_at hl 1 rfl) ?_
  refine cn_wi (ck_V (a := eP E 0) S lk_X7_274 (c_X7_noColour_b l E (up2 I 0 0 0) A K x0 hE rfl kb) ⟨rfl, rfl⟩ ⟨Nat.le_of_ble_eq_true rfl, Nat.le_of_ble_eq_true rfl⟩ bl_w (rc_w hK hP 0 (by decide) rfl rfl) (bw_U hE hK hC hP hS) rfl hl.1 (Nat.le_of_ble_eq_true rfl) ⟨Nat.le_refl _, Nat.le_refl _⟩ dX7_nearest_15 rfl) hS (fun r4 u5 H locs g6 hP hS => ?_)
  obtain ⟨rfl, rfl⟩ : r4 = 1 ∧ u5 = ((up2 (up2 I 0 0 0) 0 0 2), A, K) := g6
  have hP : Wp mN E mK ((up2 (up2 I 0 0 0) 0 0 2), A, K) H := hP
  refine lv_if_eq (tgt := 23) hx hb dX7_nearest_18 (by decide) (fun h18 => absurd h18 (by decide)) (fun h18 => ?_)
  refine lv_iconst (v := 0) hx hb dX7_nearest_21 (by decide) ?_
  exact re_wi (x := ((up2 (up2 I 0 0 0) 0 0 2), A, K)) (v := 0) hx hb hr hlk hP hS (by rw [up2_up]) dX7_nearest_22

set_option maxHeartbeats 1000000 in
set_option maxRecDepth 100000 in
theorem c_X7_smallestMargin (l : Launch) (E : En) (I A : Nat → Nat → Int32) (K : Nat → Nat → Int64) (nr nu : Nat) (sc : Nat) (hE : Ev mN E) (hM : MOk A nr nu) (k0 : sc < 2) : Met l yX7_smallestMargin (wz yX7_smallestMargin cX7_smallestMargin 4 (some .int)) (rmk 5 0 0 110) (va_Pc [.ref (eP E 0), .int (nI sc)] (Bw mN E mK (I, A, K))) (qWi mN E mK (fun zz uu => zz = mMar A sc nu ∧ uu = (up2 I 0 0 0, A, K))) 0 0 (cA mN E) := by
  refine en_ofW RX7 rfl (by decide +kernel) (Nat.le_of_ble_eq_true rfl) ?_
  intro p e s m below meth c ls S hr hlk hnm hl hB
  have hx := S.1
  have hb := S.2.1
  obtain ⟨hK, hC, hP⟩ := hB
  have hS : va_S (cA mN E) s.heap s.heap [] := va_S.rf
  have hl : lv_has ls 4 [(0, .ref (eP E 0)), (1, .int (nI sc))] := hl
  obtain ⟨⟨hn1, hn2⟩, ⟨hr0, hr1⟩, hu3, hcv⟩ := id hM
  refine lv_aload_n hx hb dX7_smallestMargin_0 rfl (lv_at hl 0 rfl) ?_
  refine lv_iconst (v := 0) hx hb dX7_smallestMargin_1 (by decide) ?_
  refine rw_puti (x := (I, A, K)) (v := 0) S hE hK hP hS 0 (by decide) rfl fk_X7_35 rfl tyX7_ok nmX7 ⟨rfl, by decide +kernel⟩ dX7_smallestMargin_2 (fun H locs hP hS => ?_)
  have hP : Wp mN E mK ((up2 I 0 0 0), A, K) H := hP
  refine lv_aload_n hx hb dX7_smallestMargin_5 rfl (lv_at hl 0 rfl) ?_
  refine lv_iload_n hx hb dX7_smallestMargin_6 rfl (lv_at hl 1 rfl) ?_
  refine cn_wi (ck_V (a := eP E 0) S lk_X7_264 (c_X7_noScheme_n l E (up2 I 0 0 0) A K sc hE rfl k0) ⟨rfl, rfl⟩ ⟨Nat.le_of_ble_eq_true rfl, Nat.le_of_ble_eq_true rfl⟩ bl_w (rc_w hK hP 0 (by decide) rfl rfl) (bw_U hE hK hC hP hS) rfl hl.1 (Nat.le_of_ble_eq_true rfl) ⟨Nat.le_refl _, Nat.le_refl _⟩ dX7_smallestMargin_7 rfl) hS (fun r1 u2 H locs g3 hP hS => ?_)
  obtain ⟨rfl, rfl⟩ : r1 = 0 ∧ u2 = ((up2 I 0 0 0), A, K) := g3
  have hP : Wp mN E mK ((up2 I 0 0 0), A, K) H := hP
  refine lv_if_eq (tgt := 15) hx hb dX7_smallestMargin_10 (by decide) (fun h10 => ?_) (fun h10 => absurd (by decide) h10)
  refine lv_sipush (v := 9999) hx hb dX7_smallestMargin_15 (by decide) ?_
  refine lv_istore_n (lv' := [(2, .int 9999), (0, .ref (eP E 0)), (1, .int (nI sc))]) hx hb dX7_smallestMargin_18 rfl hl (by decide) rfl (fun ls hl => ?_)
  refine lv_iconst (v := 0) hx hb dX7_smallestMargin_19 (by decide) ?_
  refine lv_istore_n (lv' := [(3, .int 0), (2, .int 9999), (0, .ref (eP E 0)), (1, .int (nI sc))]) hx hb dX7_smallestMargin_20 rfl hl (by decide) rfl (fun ls hl => ?_)
  have HL : ∀ (n i : Nat), i + n = nu → ∀ (H : Heap) (locs : List Loc), Wp mN E mK ((up2 I 0 0 0), A, K) H → va_S (cA mN E) s.heap H locs → ∀ ls : Array Slot, lv_has ls 4 [(3, .int (nI i)), (2, .int (mMar A sc i)), (0, .ref (eP E 0)), (1, .int (nI sc))] → W p l e (rmk 5 0 0 110) s m ([.ref (eP E 0), .int (nI sc)] : List Value).toArray below meth c H locs 0 0 (MQ below (qWi mN E mK (fun zz uu => zz = mMar A sc nu ∧ uu = (up2 I 0 0 0, A, K))) ([.ref (eP E 0), .int (nI sc)] : List Value).toArray s 0 0 (cA mN E)) (F0 m 21 ls []) := by
    intro n
    induction n with
    | zero =>
      intro i hi H locs hP hS ls hl
      have hiN : i = nu := by omega
      rw [hiN] at hl
      try rw [hiN] at hP
      refine lv_iload_n hx hb dX7_smallestMargin_21 rfl (lv_at hl 0 rfl) ?_
      refine lv_aload_n hx hb dX7_smallestMargin_22 rfl (lv_at hl 2 rfl) ?_
      refine rw_getr (x := ((up2 I 0 0 0), A, K)) S hK hP 0 (by decide) rfl fk_X7_17 rfl dX7_smallestMargin_23 ?_
      refine lv_iconst (v := 1) hx hb dX7_smallestMargin_26 (by decide) ?_
      refine rw_iald (x := ((up2 I 0 0 0), A, K)) (v := nI nu) S hK hP 2 (by decide) rfl 1 rfl (by decide) (by decide) hr1 dX7_smallestMargin_27 ?_
      refine lv_icmp_ge (tgt := 55) hx hb dX7_smallestMargin_28 (by decide) (fun h28 => ?_) (fun h28 => absurd (Int32.le_refl _) h28)
      refine lv_iload_n hx hb dX7_smallestMargin_55 rfl (lv_at hl 1 rfl) ?_
      exact re_wi (x := ((up2 I 0 0 0), A, K)) (v := mMar A sc nu) hx hb hr hlk hP hS ⟨rfl, rfl⟩ dX7_smallestMargin_56
    | succ n ih =>
      intro i hi H locs hP hS ls hl
      have hlt : i < nu := by omega
      refine lv_iload_n hx hb dX7_smallestMargin_21 rfl (lv_at hl 0 rfl) ?_
      refine lv_aload_n hx hb dX7_smallestMargin_22 rfl (lv_at hl 2 rfl) ?_
      refine rw_getr (x := ((up2 I 0 0 0), A, K)) S hK hP 0 (by decide) rfl fk_X7_17 rfl dX7_smallestMargin_23 ?_
      refine lv_iconst (v := 1) hx hb dX7_smallestMargin_26 (by decide) ?_
      refine rw_iald (x := ((up2 I 0 0 0), A, K)) (v := nI nu) S hK hP 2 (by decide) rfl 1 rfl (by decide) (by decide) hr1 dX7_smallestMargin_27 ?_
      refine lv_icmp_ge (tgt := 55) hx hb dX7_smallestMargin_28 (by decide) (fun h28 => absurd h28 (nI_ge hlt (by omega))) (fun h28 => ?_)
      refine lv_iload_n hx hb dX7_smallestMargin_31 rfl (lv_at hl 1 rfl) ?_
      refine lv_aload_n hx hb dX7_smallestMargin_32 rfl (lv_at hl 2 rfl) ?_
      refine lv_iload_n hx hb dX7_smallestMargin_33 rfl (lv_at hl 0 rfl) ?_
      refine lv_iload_n hx hb dX7_smallestMargin_34 rfl (lv_at hl 3 rfl) ?_
      refine cn_si (ck_V (a := eP E 0) S lk_X7_232 (c_X7_valueOf l E (up2 I 0 0 0) A K i sc nr nu hE hM hlt k0) ⟨rfl, rfl⟩ ⟨Nat.le_of_ble_eq_true rfl, Nat.le_of_ble_eq_true rfl⟩ bl_w (rc_w hK hP 0 (by decide) rfl rfl) (bw_U hE hK hC hP hS) rfl hl.1 (Nat.le_of_ble_eq_true rfl) ⟨Nat.le_refl _, Nat.le_refl _⟩ dX7_smallestMargin_35 rfl) (fun r4 g5 => ?_)
      obtain rfl : r4 = mVal A i sc := g5
      refine lv_aload_n hx hb dX7_smallestMargin_38 rfl (lv_at hl 2 rfl) ?_
      refine lv_iload_n hx hb dX7_smallestMargin_39 rfl (lv_at hl 0 rfl) ?_
      refine lv_iload_n hx hb dX7_smallestMargin_40 rfl (lv_at hl 3 rfl) ?_
      refine cn_si (ck_V (a := eP E 0) S lk_X7_235 (c_X7_needOf l E (up2 I 0 0 0) A K i sc hE (by omega) k0) ⟨rfl, rfl⟩ ⟨Nat.le_of_ble_eq_true rfl, Nat.le_of_ble_eq_true rfl⟩ bl_w (rc_w hK hP 0 (by decide) rfl rfl) (bw_U hE hK hC hP hS) rfl hl.1 (Nat.le_of_ble_eq_true rfl) ⟨Nat.le_refl _, Nat.le_refl _⟩ dX7_smallestMargin_41 rfl) (fun r6 g7 => ?_)
      obtain rfl : r6 = mNd A i sc := g7
      refine lv_isub hx hb dX7_smallestMargin_44 ?_
      refine cn_si (ck_S S lk_X7_91 (c_X7_min l (mMar A sc i) ((mVal A i sc) - (mNd A i sc))) ⟨rfl, rfl⟩ ⟨Nat.le_of_ble_eq_true rfl, Nat.le_of_ble_eq_true rfl⟩ bl_T t_U rfl hl.1 (Nat.le_of_ble_eq_true rfl) ⟨Nat.le_refl _, Nat.le_refl _⟩ dX7_smallestMargin_45 rfl) (fun r8 g9 => ?_)
      obtain rfl : r8 = rMin (mMar A sc i) ((mVal A i sc) - (mNd A i sc)) := g9
      refine lv_istore_n (lv' := [(2, .int (rMin (mMar A sc i) ((mVal A i sc) - (mNd A i sc)))), (3, .int (nI i)), (0, .ref (eP E 0)), (1, .int (nI sc))]) hx hb dX7_smallestMargin_48 rfl hl (by decide) rfl (fun ls hl => ?_)
      refine lv_iinc (v := nI (i + 1)) (lv' := [(3, .int (nI (i + 1))), (2, .int (rMin (mMar A sc i) ((mVal A i sc) - (mNd A i sc)))), (0, .ref (eP E 0)), (1, .int (nI sc))]) hx hb dX7_smallestMargin_49 hl (k := 1) rfl (nI_1 _) (by decide) rfl (fun ls hl => ?_)
      refine lv_goto (tgt := 21) hx hb dX7_smallestMargin_52 (by decide) ?_
      exact ih (i + 1) (by omega) _ _ hP hS ls (lv_sub hl [0, 1, 2, 3] rfl)
  exact HL nu 0 (by omega) _ _ hP hS ls (lv_sub hl [0, 1, 2, 3] rfl)

set_option maxHeartbeats 1000000 in
set_option maxRecDepth 100000 in
theorem c_X7_smallestMargin_b0 (l : Launch) (E : En) (I A : Nat → Nat → Int32) (K : Nat → Nat → Int64) (nr nu : Nat) (x0 : Int32) (hE : Ev mN E) (hM : MOk A nr nu) (kb : x0 < 0 ∨ 2 ≤ x0) : Met l yX7_smallestMargin (wz yX7_smallestMargin cX7_smallestMargin 4 (some .int)) (rmk 2 0 0 43) (va_Pc [.ref (eP E 0), .int x0] (Bw mN E mK (I, A, K))) (qWi mN E mK (fun zz uu => uu = (up2 I 0 0 1, A, K))) 0 0 (cA mN E) := by
  refine en_ofW RX7 rfl (by decide +kernel) (Nat.le_of_ble_eq_true rfl) ?_
  intro p e s m below meth c ls S hr hlk hnm hl hB
  have hx := S.1
  have hb := S.2.1
  obtain ⟨hK, hC, hP⟩ := hB
  have hS : va_S (cA mN E) s.heap s.heap [] := va_S.rf
  have hl : lv_has ls 4 [(0, .ref (eP E 0)), (1, .int x0)] := hl
  obtain ⟨⟨hn1, hn2⟩, ⟨hr0, hr1⟩, hu3, hcv⟩ := id hM
  refine lv_aload_n hx hb dX7_smallestMargin_0 rfl (lv_at hl 0 rfl) ?_
  refine lv_iconst (v := 0) hx hb dX7_smallestMargin_1 (by decide) ?_
  refine rw_puti (x := (I, A, K)) (v := 0) S hE hK hP hS 0 (by decide) rfl fk_X7_35 rfl tyX7_ok nmX7 ⟨rfl, by decide +kernel⟩ dX7_smallestMargin_2 (fun H locs hP hS => ?_)
  have hP : Wp mN E mK ((up2 I 0 0 0), A, K) H := hP
  refine lv_aload_n hx hb dX7_smallestMargin_5 rfl (lv_at hl 0 rfl) ?_
  refine lv_iload_n hx hb dX7_smallestMargin_6 rfl (lv_at hl 1 rfl) ?_
  refine cn_wi (ck_V (a := eP E 0) S lk_X7_264 (c_X7_noScheme_b l E (up2 I 0 0 0) A K x0 hE rfl kb) ⟨rfl, rfl⟩ ⟨Nat.le_of_ble_eq_true rfl, Nat.le_of_ble_eq_true rfl⟩ bl_w (rc_w hK hP 0 (by decide) rfl rfl) (bw_U hE hK hC hP hS) rfl hl.1 (Nat.le_of_ble_eq_true rfl) ⟨Nat.le_refl _, Nat.le_refl _⟩ dX7_smallestMargin_7 rfl) hS (fun r1 u2 H locs g3 hP hS => ?_)
  obtain ⟨rfl, rfl⟩ : r1 = 1 ∧ u2 = ((up2 (up2 I 0 0 0) 0 0 1), A, K) := g3
  have hP : Wp mN E mK ((up2 (up2 I 0 0 0) 0 0 1), A, K) H := hP
  refine lv_if_eq (tgt := 15) hx hb dX7_smallestMargin_10 (by decide) (fun h10 => absurd h10 (by decide)) (fun h10 => ?_)
  refine lv_iconst (v := 0) hx hb dX7_smallestMargin_13 (by decide) ?_
  exact re_wi (x := ((up2 (up2 I 0 0 0) 0 0 1), A, K)) (v := 0) hx hb hr hlk hP hS (by rw [up2_up]) dX7_smallestMargin_14

