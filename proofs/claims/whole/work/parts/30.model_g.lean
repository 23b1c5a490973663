set_option maxHeartbeats 1000000 in
set_option maxRecDepth 100000 in
theorem c_X7_makeShift (l : Launch) (E : En) (I A : Nat → Nat → Int32) (K : Nat → Nat → Int64) (r sc : Nat) (am : Int32) (hE : Ev mN E) (kr : r < 10) (hsc : sc < 2) : Met l yX7_makeShift (wz yX7_makeShift cX7_makeShift 5 (some .int)) (rmk 3 0 0 62) (va_Pc [.ref (eP E 0), .int (nI r), .int (nI sc), .int am] (Bw mN E mK (I, A, K))) (qWi mN E mK (fun zz uu => zz = mShd A r sc am 2 (4 + 3 * r + sc) ∧ uu = (I, mShd A r sc am, K))) 0 0 (cA mN E) := by
  refine en_ofW RX7 rfl (by decide +kernel) (Nat.le_of_ble_eq_true rfl) ?_
  intro p e s m below meth c ls S hr hlk hnm hl hB
  have hx := S.1
  have hb := S.2.1
  obtain ⟨hK, hC, hP⟩ := hB
  have hS : va_S (cA mN E) s.heap s.heap [] := va_S.rf
  have hl : lv_has ls 5 [(0, .ref (eP E 0)), (1, .int (nI r)), (2, .int (nI sc)), (3, .int am)] := hl
  refine lv_iload_n hx hb dX7_makeShift_0 rfl (lv_at hl 1 rfl) ?_
  refine cn_si (ck_S S lk_X7_136 (c_X7_roleN l r) ⟨rfl, rfl⟩ ⟨Nat.le_of_ble_eq_true rfl, Nat.le_of_ble_eq_true rfl⟩ bl_T t_U rfl hl.1 (Nat.le_of_ble_eq_true rfl) ⟨Nat.le_refl _, Nat.le_refl _⟩ dX7_makeShift_1 rfl) (fun r1 g2 => ?_)
  obtain rfl : r1 = nI (4 + 3 * r) := g2
  refine lv_iload_n hx hb dX7_makeShift_4 rfl (lv_at hl 2 rfl) ?_
  refine lv_iadd hx hb dX7_makeShift_5 ?_
  refine tp_i (y := nI ((4 + 3 * r) + sc)) (nI_add (4 + 3 * r) sc) ?_
  refine lv_istore (lv' := [(4, .int (nI ((4 + 3 * r) + sc))), (0, .ref (eP E 0)), (1, .int (nI r)), (2, .int (nI sc)), (3, .int am)]) hx hb dX7_makeShift_6 hl (by decide) rfl (fun ls hl => ?_)
  refine lv_aload_n hx hb dX7_makeShift_8 rfl (lv_at hl 1 rfl) ?_
  refine rw_getr (x := (I, A, K)) S hK hP 0 (by decide) rfl fk_X7_17 rfl dX7_makeShift_9 ?_
  refine lv_iload hx hb dX7_makeShift_12 (lv_at hl 0 rfl) ?_
  refine lv_aload_n hx hb dX7_makeShift_14 rfl (lv_at hl 1 rfl) ?_
  refine rw_getr (x := (I, A, K)) S hK hP 0 (by decide) rfl fk_X7_17 rfl dX7_makeShift_15 ?_
  refine lv_iload hx hb dX7_makeShift_18 (lv_at hl 0 rfl) ?_
  refine rw_iald (x := (I, A, K)) (v := A 2 ((4 + 3 * r) + sc)) S hK hP 2 (by decide) rfl ((4 + 3 * r) + sc) rfl (by omega) (by decide) rfl dX7_makeShift_20 ?_
  refine lv_iload_n hx hb dX7_makeShift_21 rfl (lv_at hl 4 rfl) ?_
  refine cn_si (ck_S S lk_X7_242 (c_X7_shifted l (A 2 ((4 + 3 * r) + sc)) am) ⟨rfl, rfl⟩ ⟨Nat.le_of_ble_eq_true rfl, Nat.le_of_ble_eq_true rfl⟩ bl_T t_U rfl hl.1 (Nat.le_of_ble_eq_true rfl) ⟨Nat.le_refl _, Nat.le_refl _⟩ dX7_makeShift_22 rfl) (fun r3 g4 => ?_)
  obtain rfl : r3 = rShf (A 2 ((4 + 3 * r) + sc)) am := g4
  refine rw_iast (x := (I, A, K)) (v := (rShf (A 2 ((4 + 3 * r) + sc)) am)) S hE hK hP hS 2 (by decide) rfl ((4 + 3 * r) + sc) rfl (by omega) (by decide) dX7_makeShift_25 (fun H locs hP hS => ?_)
  have hP : Wp mN E mK (I, (up2 A 2 ((4 + 3 * r) + sc) (rShf (A 2 ((4 + 3 * r) + sc)) am)), K) H := hP
  have hP : Wp mN E mK (I, (mShd A r sc am), K) H := hP
  refine lv_aload_n hx hb dX7_makeShift_26 rfl (lv_at hl 1 rfl) ?_
  refine rw_getr (x := (I, (mShd A r sc am), K)) S hK hP 0 (by decide) rfl fk_X7_17 rfl dX7_makeShift_27 ?_
  refine lv_iload hx hb dX7_makeShift_30 (lv_at hl 0 rfl) ?_
  refine rw_iald (x := (I, (mShd A r sc am), K)) (v := (mShd A r sc am) 2 ((4 + 3 * r) + sc)) S hK hP 2 (by decide) rfl ((4 + 3 * r) + sc) rfl (by omega) (by decide) rfl dX7_makeShift_32 ?_
  exact re_wi (x := (I, (mShd A r sc am), K)) (v := (mShd A r sc am) 2 ((4 + 3 * r) + sc)) hx hb hr hlk hP hS ⟨rfl, rfl⟩ dX7_makeShift_33

set_option maxHeartbeats 1000000 in
set_option maxRecDepth 100000 in
theorem c_X7_setColour (l : Launch) (E : En) (I A : Nat → Nat → Int32) (K : Nat → Nat → Int64) (nr nu : Nat) (r : Nat) (sc : Nat) (x : Int32) (ud : Nat) (hE : Ev mN E) (hM : MOk A nr nu) (k0 : r < nr) (k1 : sc < 2) (k2 : ¬ x < 0 ∧ ¬ 16777215 < x) (hud : I 0 11 = nI ud) (hu8 : ud ≤ 8) : Met l yX7_setColour (wz yX7_setColour cX7_setColour 5 (some .int)) (rmk 2 0 0 43) (va_Pc [.ref (eP E 0), .int (nI r), .int (nI sc), .int x] (Bw mN E mK (I, A, K))) (qWi mN E mK (fun zz uu => zz = mCol A r sc ∧ uu = ((up2 (up2 I 0 0 0) 0 11 (nI (min (ud + 1) 8))), up2 (mRem A ud) 2 (4 + 3 * r + sc) x, K))) 0 0 (cA mN E) := by
  refine en_ofW RX7 rfl (by decide +kernel) (Nat.le_of_ble_eq_true rfl) ?_
  intro p e s m below meth c ls S hr hlk hnm hl hB
  have hx := S.1
  have hb := S.2.1
  obtain ⟨hK, hC, hP⟩ := hB
  have hS : va_S (cA mN E) s.heap s.heap [] := va_S.rf
  have hl : lv_has ls 5 [(0, .ref (eP E 0)), (1, .int (nI r)), (2, .int (nI sc)), (3, .int x)] := hl
  obtain ⟨⟨hn1, hn2⟩, ⟨hr0, hr1⟩, hu3, hcv⟩ := id hM
  refine lv_aload_n hx hb dX7_setColour_0 rfl (lv_at hl 0 rfl) ?_
  refine lv_iconst (v := 0) hx hb dX7_setColour_1 (by decide) ?_
  refine rw_puti (x := (I, A, K)) (v := 0) S hE hK hP hS 0 (by decide) rfl fk_X7_35 rfl tyX7_ok nmX7 ⟨rfl, by decide +kernel⟩ dX7_setColour_2 (fun H locs hP hS => ?_)
  have hP : Wp mN E mK ((up2 I 0 0 0), A, K) H := hP
  refine lv_aload_n hx hb dX7_setColour_5 rfl (lv_at hl 0 rfl) ?_
  refine lv_iload_n hx hb dX7_setColour_6 rfl (lv_at hl 1 rfl) ?_
  refine cn_wi (ck_V (a := eP E 0) S lk_X7_267 (c_X7_noRole_n l E (up2 I 0 0 0) A K r nr nu hE hM rfl k0) ⟨rfl, rfl⟩ ⟨Nat.le_of_ble_eq_true rfl, Nat.le_of_ble_eq_true rfl⟩ bl_w (rc_w hK hP 0 (by decide) rfl rfl) (bw_U hE hK hC hP hS) rfl hl.1 (Nat.le_of_ble_eq_true rfl) ⟨Nat.le_refl _, Nat.le_refl _⟩ dX7_setColour_7 rfl) hS (fun r1 u2 H locs g3 hP hS => ?_)
  obtain ⟨rfl, rfl⟩ : r1 = 0 ∧ u2 = ((up2 I 0 0 0), A, K) := g3
  have hP : Wp mN E mK ((up2 I 0 0 0), A, K) H := hP
  refine lv_if_ne (tgt := 29) hx hb dX7_setColour_10 (by decide) (fun h10 => absurd h10 (by decide)) (fun h10 => ?_)
  refine lv_aload_n hx hb dX7_setColour_13 rfl (lv_at hl 0 rfl) ?_
  refine lv_iload_n hx hb dX7_setColour_14 rfl (lv_at hl 2 rfl) ?_
  refine cn_wi (ck_V (a := eP E 0) S lk_X7_264 (c_X7_noScheme_n l E (up2 I 0 0 0) A K sc hE rfl k1) ⟨rfl, rfl⟩ ⟨Nat.le_of_ble_eq_true rfl, Nat.le_of_ble_eq_true rfl⟩ bl_w (rc_w hK hP 0 (by decide) rfl rfl) (bw_U hE hK hC hP hS) rfl hl.1 (Nat.le_of_ble_eq_true rfl) ⟨Nat.le_refl _, Nat.le_refl _⟩ dX7_setColour_15 rfl) hS (fun r4 u5 H locs g6 hP hS => ?_)
  obtain ⟨rfl, rfl⟩ : r4 = 0 ∧ u5 = ((up2 I 0 0 0), A, K) := g6
  have hP : Wp mN E mK ((up2 I 0 0 0), A, K) H := hP
  refine lv_if_ne (tgt := 29) hx hb dX7_setColour_18 (by decide) (fun h18 => absurd h18 (by decide)) (fun h18 => ?_)
  refine lv_aload_n hx hb dX7_setColour_21 rfl (lv_at hl 0 rfl) ?_
  refine lv_iload_n hx hb dX7_setColour_22 rfl (lv_at hl 3 rfl) ?_
  refine cn_wi (ck_V (a := eP E 0) S lk_X7_274 (c_X7_noColour_n l E (up2 I 0 0 0) A K x hE rfl k2) ⟨rfl, rfl⟩ ⟨Nat.le_of_ble_eq_true rfl, Nat.le_of_ble_eq_true rfl⟩ bl_w (rc_w hK hP 0 (by decide) rfl rfl) (bw_U hE hK hC hP hS) rfl hl.1 (Nat.le_of_ble_eq_true rfl) ⟨Nat.le_refl _, Nat.le_refl _⟩ dX7_setColour_23 rfl) hS (fun r7 u8 H locs g9 hP hS => ?_)
  obtain ⟨rfl, rfl⟩ : r7 = 0 ∧ u8 = ((up2 I 0 0 0), A, K) := g9
  have hP : Wp mN E mK ((up2 I 0 0 0), A, K) H := hP
  refine lv_if_eq (tgt := 31) hx hb dX7_setColour_26 (by decide) (fun h26 => ?_) (fun h26 => absurd (by decide) h26)
  refine lv_aload_n hx hb dX7_setColour_31 rfl (lv_at hl 0 rfl) ?_
  refine cn_wv (ck_V (a := eP E 0) S lk_X7_166 (c_X7_remember l E (up2 I 0 0 0) A K ud hE hud hu8) ⟨rfl, rfl⟩ ⟨Nat.le_of_ble_eq_true rfl, Nat.le_of_ble_eq_true rfl⟩ bl_w (rc_w hK hP 0 (by decide) rfl rfl) (bw_U hE hK hC hP hS) rfl hl.1 (Nat.le_of_ble_eq_true rfl) ⟨Nat.le_refl _, Nat.le_refl _⟩ dX7_setColour_32 rfl) hS (fun u11 H locs g12 hP hS => ?_)
  obtain rfl : u11 = ((up2 (up2 I 0 0 0) 0 11 (nI (min (ud + 1) 8))), (mRem A ud), K) := g12
  have hP : Wp mN E mK ((up2 (up2 I 0 0 0) 0 11 (nI (min (ud + 1) 8))), (mRem A ud), K) H := hP
  refine lv_aload_n hx hb dX7_setColour_35 rfl (lv_at hl 0 rfl) ?_
  refine lv_iload_n hx hb dX7_setColour_36 rfl (lv_at hl 1 rfl) ?_
  refine lv_iload_n hx hb dX7_setColour_37 rfl (lv_at hl 2 rfl) ?_
  refine cn_si (ck_V (a := eP E 0) S lk_X7_220 (c_X7_colourOf l E (up2 (up2 I 0 0 0) 0 11 (nI (min (ud + 1) 8))) (mRem A ud) K r sc hE (by omega) k1) ⟨rfl, rfl⟩ ⟨Nat.le_of_ble_eq_true rfl, Nat.le_of_ble_eq_true rfl⟩ bl_w (rc_w hK hP 0 (by decide) rfl rfl) (bw_U hE hK hC hP hS) rfl hl.1 (Nat.le_of_ble_eq_true rfl) ⟨Nat.le_refl _, Nat.le_refl _⟩ dX7_setColour_38 rfl) (fun r13 g14 => ?_)
  obtain rfl : r13 = mCol (mRem A ud) r sc := g14
  refine lv_istore (lv' := [(4, .int (mCol (mRem A ud) r sc)), (0, .ref (eP E 0)), (1, .int (nI r)), (2, .int (nI sc)), (3, .int x)]) hx hb dX7_setColour_41 hl (by decide) rfl (fun ls hl => ?_)
  refine lv_aload_n hx hb dX7_setColour_43 rfl (lv_at hl 1 rfl) ?_
  refine rw_getr (x := ((up2 (up2 I 0 0 0) 0 11 (nI (min (ud + 1) 8))), (mRem A ud), K)) S hK hP 0 (by decide) rfl fk_X7_17 rfl dX7_setColour_44 ?_
  refine lv_iload_n hx hb dX7_setColour_47 rfl (lv_at hl 2 rfl) ?_
  refine cn_si (ck_S S lk_X7_136 (c_X7_roleN l r) ⟨rfl, rfl⟩ ⟨Nat.le_of_ble_eq_true rfl, Nat.le_of_ble_eq_true rfl⟩ bl_T t_U rfl hl.1 (Nat.le_of_ble_eq_true rfl) ⟨Nat.le_refl _, Nat.le_refl _⟩ dX7_setColour_48 rfl) (fun r15 g16 => ?_)
  obtain rfl : r15 = nI (4 + 3 * r) := g16
  refine lv_iload_n hx hb dX7_setColour_51 rfl (lv_at hl 3 rfl) ?_
  refine lv_iadd hx hb dX7_setColour_52 ?_
  refine tp_i (y := nI ((4 + 3 * r) + sc)) (nI_add (4 + 3 * r) sc) ?_
  refine lv_iload_n hx hb dX7_setColour_53 rfl (lv_at hl 4 rfl) ?_
  refine rw_iast (x := ((up2 (up2 I 0 0 0) 0 11 (nI (min (ud + 1) 8))), (mRem A ud), K)) (v := x) S hE hK hP hS 2 (by decide) rfl ((4 + 3 * r) + sc) rfl (by omega) (by decide) dX7_setColour_54 (fun H locs hP hS => ?_)
  have hP : Wp mN E mK ((up2 (up2 I 0 0 0) 0 11 (nI (min (ud + 1) 8))), (up2 (mRem A ud) 2 ((4 + 3 * r) + sc) x), K) H := hP
  refine lv_iload hx hb dX7_setColour_55 (lv_at hl 0 rfl) ?_
  exact re_wi (x := ((up2 (up2 I 0 0 0) 0 11 (nI (min (ud + 1) 8))), (up2 (mRem A ud) 2 ((4 + 3 * r) + sc) x), K)) (v := (mCol (mRem A ud) r sc)) hx hb hr hlk hP hS ⟨congrFun (mRem_ne hu8 (by decide)) _, rfl⟩ dX7_setColour_57

set_option maxHeartbeats 1000000 in
set_option maxRecDepth 100000 in
theorem c_X7_setColour_b0 (l : Launch) (E : En) (I A : Nat → Nat → Int32) (K : Nat → Nat → Int64) (nr nu : Nat) (x0 : Int32) (x1 : Int32) (x2 : Int32) (hE : Ev mN E) (hM : MOk A nr nu) (kb : x0 < 0 ∨ nI nr ≤ x0) : Met l yX7_setColour (wz yX7_setColour cX7_setColour 5 (some .int)) (rmk 2 0 0 43) (va_Pc [.ref (eP E 0), .int x0, .int x1, .int x2] (Bw mN E mK (I, A, K))) (qWi mN E mK (fun zz uu => uu = (up2 I 0 0 1, A, K))) 0 0 (cA mN E) := by
  refine en_ofW RX7 rfl (by decide +kernel) (Nat.le_of_ble_eq_true rfl) ?_
  intro p e s m below meth c ls S hr hlk hnm hl hB
  have hx := S.1
  have hb := S.2.1
  obtain ⟨hK, hC, hP⟩ := hB
  have hS : va_S (cA mN E) s.heap s.heap [] := va_S.rf
  have hl : lv_has ls 5 [(0, .ref (eP E 0)), (1, .int x0), (2, .int x1), (3, .int x2)] := hl
  obtain ⟨⟨hn1, hn2⟩, ⟨hr0, hr1⟩, hu3, hcv⟩ := id hM
  refine lv_aload_n hx hb dX7_setColour_0 rfl (lv_at hl 0 rfl) ?_
  refine lv_iconst (v := 0) hx hb dX7_setColour_1 (by decide) ?_
  refine rw_puti (x := (I, A, K)) (v := 0) S hE hK hP hS 0 (by decide) rfl fk_X7_35 rfl tyX7_ok nmX7 ⟨rfl, by decide +kernel⟩ dX7_setColour_2 (fun H locs hP hS => ?_)
  have hP : Wp mN E mK ((up2 I 0 0 0), A, K) H := hP
  refine lv_aload_n hx hb dX7_setColour_5 rfl (lv_at hl 0 rfl) ?_
  refine lv_iload_n hx hb dX7_setColour_6 rfl (lv_at hl 1 rfl) ?_
  refine cn_wi (ck_V (a := eP E 0) S lk_X7_267 (c_X7_noRole_b l E (up2 I 0 0 0) A K x0 nr nu hE hM rfl kb) ⟨rfl, rfl⟩ ⟨Nat.le_of_ble_eq_true rfl, Nat.le_of_ble_eq_true rfl⟩ bl_w (rc_w hK hP 0 (by decide) rfl rfl) (bw_U hE hK hC hP hS) rfl hl.1 (Nat.le_of_ble_eq_true rfl) ⟨Nat.le_refl _, Nat.le_refl _⟩ dX7_setColour_7 rfl) hS (fun r1 u2 H locs g3 hP hS => ?_)
  obtain ⟨rfl, rfl⟩ : r1 = 1 ∧ u2 = ((up2 (up2 I 0 0 0) 0 0 1), A, K) := g3
  have hP : Wp mN E mK ((up2 (up2 I 0 0 0) 0 0 1), A, K) H := hP
  refine lv_if_ne (tgt := 29) hx hb dX7_setColour_10 (by decide) (fun h10 => ?_) (fun h10 => absurd h10 (by decide))
  refine lv_iconst (v := 0) hx hb dX7_setColour_29 (by decide) ?_
  exact re_wi (x := ((up2 (up2 I 0 0 0) 0 0 1), A, K)) (v := 0) hx hb hr hlk hP hS (by rw [up2_up]) dX7_setColour_30

set_option maxHeartbeats 1000000 in
set_option maxRecDepth 100000 in
theorem c_X7_setColour_b1 (l : Launch) (E : En) (I A : Nat → Nat → Int32) (K : Nat → Nat → Int64) (nr nu : Nat) (r : Nat) (x1 : Int32) (x2 : Int32) (hE : Ev mN E) (hM : MOk A nr nu) (k0 : r < nr) (kb : x1 < 0 ∨ 2 ≤ x1) : Met l yX7_setColour (wz yX7_setColour cX7_setColour 5 (some .int)) (rmk 2 0 0 43) (va_Pc [.ref (eP E 0), .int (nI r), .int x1, .int x2] (Bw mN E mK (I, A, K))) (qWi mN E mK (fun zz uu => uu = (up2 I 0 0 1, A, K))) 0 0 (cA mN E) := by
  refine en_ofW RX7 rfl (by decide +kernel) (Nat.le_of_ble_eq_true rfl) ?_
  intro p e s m below meth c ls S hr hlk hnm hl hB
  have hx := S.1
  have hb := S.2.1
  obtain ⟨hK, hC, hP⟩ := hB
  have hS : va_S (cA mN E) s.heap s.heap [] := va_S.rf
  have hl : lv_has ls 5 [(0, .ref (eP E 0)), (1, .int (nI r)), (2, .int x1), (3, .int x2)] := hl
  obtain ⟨⟨hn1, hn2⟩, ⟨hr0, hr1⟩, hu3, hcv⟩ := id hM
  refine lv_aload_n hx hb dX7_setColour_0 rfl (lv_at hl 0 rfl) ?_
  refine lv_iconst (v := 0) hx hb dX7_setColour_1 (by decide) ?_
  refine rw_puti (x := (I, A, K)) (v := 0) S hE hK hP hS 0 (by decide) rfl fk_X7_35 rfl tyX7_ok nmX7 ⟨rfl, by decide +kernel⟩ dX7_setColour_2 (fun H locs hP hS => ?_)
  have hP : Wp mN E mK ((up2 I 0 0 0), A, K) H := hP
  refine lv_aload_n hx hb dX7_setColour_5 rfl (lv_at hl 0 rfl) ?_
  refine lv_iload_n hx hb dX7_setColour_6 rfl (lv_at hl 1 rfl) ?_
  refine cn_wi (ck_V (a := eP E 0) S lk_X7_267 (c_X7_noRole_n l E (up2 I 0 0 0) A K r nr nu hE hM rfl k0) ⟨rfl, rfl⟩ ⟨Nat.le_of_ble_eq_true rfl, Nat.le_of_ble_eq_true rfl⟩ bl_w (rc_w hK hP 0 (by decide) rfl rfl) (bw_U hE hK hC hP hS) rfl hl.1 (Nat.le_of_ble_eq_true rfl) ⟨Nat.le_refl _, Nat.le_refl _⟩ dX7_setColour_7 rfl) hS (fun r1 u2 H locs g3 hP hS => ?_)
  obtain ⟨rfl, rfl⟩ : r1 = 0 ∧ u2 = ((up2 I 0 0 0), A, K) := g3
  have hP : Wp mN E mK ((up2 I 0 0 0), A, K) H := hP
  refine lv_if_ne (tgt := 29) hx hb dX7_setColour_10 (by decide) (fun h10 => absurd h10 (by decide)) (fun h10 => ?_)
  refine lv_aload_n hx hb dX7_setColour_13 rfl (lv_at hl 0 rfl) ?_
  refine lv_iload_n hx hb dX7_setColour_14 rfl (lv_at hl 2 rfl) ?_
  refine cn_wi (ck_V (a := eP E 0) S lk_X7_264 (c_X7_noScheme_b l E (up2 I 0 0 0) A K x1 hE rfl kb) ⟨rfl, rfl⟩ ⟨Nat.le_of_ble_eq_true rfl, Nat.le_of_ble_eq_true rfl⟩ bl_w (rc_w hK hP 0 (by decide) rfl rfl) (bw_U hE hK hC hP hS) rfl hl.1 (Nat.le_of_ble_eq_true rfl) ⟨Nat.le_refl _, Nat.le_refl _⟩ dX7_setColour_15 rfl) hS (fun r4 u5 H locs g6 hP hS => ?_)
  obtain ⟨rfl, rfl⟩ : r4 = 1 ∧ u5 = ((up2 (up2 I 0 0 0) 0 0 1), A, K) := g6
  have hP : Wp mN E mK ((up2 (up2 I 0 0 0) 0 0 1), A, K) H := hP
  refine lv_if_ne (tgt := 29) hx hb dX7_setColour_18 (by decide) (fun h18 => ?_) (fun h18 => absurd h18 (by decide))
  refine lv_iconst (v := 0) hx hb dX7_setColour_29 (by decide) ?_
  exact re_wi (x := ((up2 (up2 I 0 0 0) 0 0 1), A, K)) (v := 0) hx hb hr hlk hP hS (by rw [up2_up]) dX7_setColour_30

set_option maxHeartbeats 1000000 in
set_option maxRecDepth 100000 in
theorem c_X7_setColour_b2 (l : Launch) (E : En) (I A : Nat → Nat → Int32) (K : Nat → Nat → Int64) (nr nu : Nat) (r : Nat) (sc : Nat) (x2 : Int32) (hE : Ev mN E) (hM : MOk A nr nu) (k0 : r < nr) (k1 : sc < 2) (kb : x2 < 0 ∨ 16777215 < x2) : Met l yX7_setColour (wz yX7_setColour cX7_setColour 5 (some .int)) (rmk 2 0 0 43) (va_Pc [.ref (eP E 0), .int (nI r), .int (nI sc), .int x2] (Bw mN E mK (I, A, K))) (qWi mN E mK (fun zz uu => uu = (up2 I 0 0 2, A, K))) 0 0 (cA mN E) := by
  refine en_ofW RX7 rfl (by decide +kernel) (Nat.le_of_ble_eq_true rfl) ?_
  intro p e s m below meth c ls S hr hlk hnm hl hB
  have hx := S.1
  have hb := S.2.1
  obtain ⟨hK, hC, hP⟩ := hB
  have hS : va_S (cA mN E) s.heap s.heap [] := va_S.rf
  have hl : lv_has ls 5 [(0, .ref (eP E 0)), (1, .int (nI r)), (2, .int (nI sc)), (3, .int x2)] := hl
  obtain ⟨⟨hn1, hn2⟩, ⟨hr0, hr1⟩, hu3, hcv⟩ := id hM
  refine lv_aload_n hx hb dX7_setColour_0 rfl (lv_at hl 0 rfl) ?_
  refine lv_iconst (v := 0) hx hb dX7_setColour_1 (by decide) ?_
  refine rw_puti (x := (I, A, K)) (v := 0) S hE hK hP hS 0 (by decide) rfl fk_X7_35 rfl tyX7_ok nmX7 ⟨rfl, by decide +kernel⟩ dX7_setColour_2 (fun H locs hP hS => ?_)
  have hP : Wp mN E mK ((up2 I 0 0 0), A, K) H := hP
  refine lv_aload_n hx hb dX7_setColour_5 rfl (lv_at hl 0 rfl) ?_
  refine lv_iload_n hx hb dX7_setColour_6 rfl (lv_at hl 1 rfl) ?_
  refine cn_wi (ck_V (a := eP E 0) S lk_X7_267 (c_X7_noRole_n l E (up2 I 0 0 0) A K r nr nu hE hM rfl k0) ⟨rfl, rfl⟩ ⟨Nat.le_of_ble_eq_true rfl, Nat.le_of_ble_eq_true rfl⟩ bl_w (rc_w hK hP 0 (by decide) rfl rfl) (bw_U hE hK hC hP hS) rfl hl.1 (Nat.le_of_ble_eq_true rfl) ⟨Nat.le_refl _, Nat.le_refl _⟩ dX7_setColour_7 rfl) hS (fun r1 u2 H locs g3 hP hS => ?_)
  obtain ⟨rfl, rfl⟩ : r1 = 0 ∧ u2 = ((up2 I 0 0 0), A, K) := g3
  have hP : Wp mN E mK ((up2 I 0 0 0), A, K) H := hP
  refine lv_if_ne (tgt := 29) hx hb dX7_setColour_10 (by decide) (fun h10 => absurd h10 (by decide)) (fun h10 => ?_)
  refine lv_aload_n hx hb dX7_setColour_13 rfl (lv_at hl 0 rfl) ?_
  refine lv_iload_n hx hb dX7_setColour_14 rfl (lv_at hl 2 rfl) ?_
  refine cn_wi (ck_V (a := eP E 0) S lk_X7_264 (c_X7_noScheme_n l E (up2 I 0 0 0) A K sc hE rfl k1) ⟨rfl, rfl⟩ ⟨Nat.le_of_ble_eq_true rfl, Nat.le_of_ble_eq_true rfl⟩ bl_w (rc_w hK hP 0 (by decide) rfl rfl) (bw_U hE hK hC hP hS) rfl hl.1 (Nat.le_of_ble_eq_true rfl) ⟨Nat.le_refl _, Nat.le_refl _⟩ dX7_setColour_15 rfl) hS (fun r4 u5 H locs g6 hP hS => ?_)
  obtain ⟨rfl, rfl⟩ : r4 = 0 ∧ u5 = ((up2 I 0 0 0), A, K) := g6
  have hP : Wp mN E mK ((up2 I 0 0 0), A, K) H := hP
  refine lv_if_ne (tgt := 29) hx hb dX7_setColour_18 (by decide) (fun h18 => absurd h18 (by decide)) (fun h18 => ?_)
  refine lv_aload_n hx hb dX7_setColour_21 rfl (lv_at hl 0 rfl) ?_
  refine lv_iload_n hx hb dX7_setColour_22 rfl (lv_at hl 3 rfl) ?_
  refine cn_wi (ck_V (a := eP E 0) S lk_X7_274 (c_X7_noColour_b l E (up2 I 0 0 0) A K x2 hE rfl kb) ⟨rfl, rfl⟩ ⟨Nat.le_of_ble_eq_true rfl, Nat.le_of_ble_eq_true rfl⟩ bl_w (rc_w hK hP 0 (by decide) rfl rfl) (bw_U hE hK hC hP hS) rfl hl.1 (Nat.le_of_ble_eq_true rfl) ⟨Nat.le_refl _, Nat.le_refl _⟩ dX7_setColour_23 rfl) hS (fun r7 u8 H locs g9 hP hS => ?_)
  obtain ⟨rfl, rfl⟩ : r7 = 1 ∧ u8 = ((up2 (up2 I 0 0 0) 0 0 2), A, K) := g9
  have hP : Wp mN E mK ((up2 (up2 I 0 0 0) 0 0 2), A, K) H := hP
  refine lv_if_eq (tgt := 31) hx hb dX7_setColour_26 (by decide) (fun h26 => absurd h26 (by decide)) (fun h26 => ?_)
  refine lv_iconst (v := 0) hx hb dX7_setColour_29 (by decide) ?_
  exact re_wi (x := ((up2 (up2 I 0 0 0) 0 0 2), A, K)) (v := 0) hx hb hr hlk hP hS (by rw [up2_up]) dX7_setColour_30

set_option maxHeartbeats 1000000 in
set_option maxRecDepth 100000 in
theorem c_X7_setFixed (l : Launch) (E : En) (I A : Nat → Nat → Int32) (K : Nat → Nat → Int64) (nr nu : Nat) (r : Nat) (am : Int32) (ud : Nat) (hE : Ev mN E) (hM : MOk A nr nu) (k0 : r < nr) (hud : I 0 11 = nI ud) (hu8 : ud ≤ 8) : Met l yX7_setFixed (wz yX7_setFixed cX7_setFixed 4 (some .boolean)) (rmk 2 0 0 43) (va_Pc [.ref (eP E 0), .int (nI r), .int am] (Bw mN E mK (I, A, K))) (qWi mN E mK (fun zz uu => zz = (if A 2 (4 + 3 * r + 2) = 1 then 1 else 0) ∧ uu = ((up2 (up2 I 0 0 0) 0 11 (nI (min (ud + 1) 8))), up2 (mRem A ud) 2 (4 + 3 * r + 2) (if am = 0 then 0 else 1), K))) 0 0 (cA mN E) := by
  refine en_ofW RX7 rfl (by decide +kernel) (Nat.le_of_ble_eq_true rfl) ?_
  intro p e s m below meth c ls S hr hlk hnm hl hB
  have hx := S.1
  have hb := S.2.1
  obtain ⟨hK, hC, hP⟩ := hB
  have hS : va_S (cA mN E) s.heap s.heap [] := va_S.rf
  have hl : lv_has ls 4 [(0, .ref (eP E 0)), (1, .int (nI r)), (2, .int am)] := hl
  obtain ⟨⟨hn1, hn2⟩, ⟨hr0, hr1⟩, hu3, hcv⟩ := id hM
  refine lv_aload_n hx hb dX7_setFixed_0 rfl (lv_at hl 0 rfl) ?_
  refine lv_iconst (v := 0) hx hb dX7_setFixed_1 (by decide) ?_
  refine rw_puti (x := (I, A, K)) (v := 0) S hE hK hP hS 0 (by decide) rfl fk_X7_35 rfl tyX7_ok nmX7 ⟨rfl, by decide +kernel⟩ dX7_setFixed_2 (fun H locs hP hS => ?_)
  have hP : Wp mN E mK ((up2 I 0 0 0), A, K) H := hP
  refine lv_aload_n hx hb dX7_setFixed_5 rfl (lv_at hl 0 rfl) ?_
  refine lv_iload_n hx hb dX7_setFixed_6 rfl (lv_at hl 1 rfl) ?_
  refine cn_wi (ck_V (a := eP E 0) S lk_X7_267 (c_X7_noRole_n l E (up2 I 0 0 0) A K r nr nu hE hM rfl k0) ⟨rfl, rfl⟩ ⟨Nat.le_of_ble_eq_true rfl, Nat.le_of_ble_eq_true rfl⟩ bl_w (rc_w hK hP 0 (by decide) rfl rfl) (bw_U hE hK hC hP hS) rfl hl.1 (Nat.le_of_ble_eq_true rfl) ⟨Nat.le_refl _, Nat.le_refl _⟩ dX7_setFixed_7 rfl) hS (fun r1 u2 H locs g3 hP hS => ?_)
  obtain ⟨rfl, rfl⟩ : r1 = 0 ∧ u2 = ((up2 I 0 0 0), A, K) := g3
  have hP : Wp mN E mK ((up2 I 0 0 0), A, K) H := hP
  refine lv_if_eq (tgt := 15) hx hb dX7_setFixed_10 (by decide) (fun h10 => ?_) (fun h10 => absurd (by decide) h10)
  refine lv_aload_n hx hb dX7_setFixed_15 rfl (lv_at hl 0 rfl) ?_
  refine cn_wv (ck_V (a := eP E 0) S lk_X7_166 (c_X7_remember l E (up2 I 0 0 0) A K ud hE hud hu8) ⟨rfl, rfl⟩ ⟨Nat.le_of_ble_eq_true rfl, Nat.le_of_ble_eq_true rfl⟩ bl_w (rc_w hK hP 0 (by decide) rfl rfl) (bw_U hE hK hC hP hS) rfl hl.1 (Nat.le_of_ble_eq_true rfl) ⟨Nat.le_refl _, Nat.le_refl _⟩ dX7_setFixed_16 rfl) hS (fun u5 H locs g6 hP hS => ?_)
  obtain rfl : u5 = ((up2 (up2 I 0 0 0) 0 11 (nI (min (ud + 1) 8))), (mRem A ud), K) := g6
  have hP : Wp mN E mK ((up2 (up2 I 0 0 0) 0 11 (nI (min (ud + 1) 8))), (mRem A ud), K) H := hP
  refine lv_aload_n hx hb dX7_setFixed_19 rfl (lv_at hl 0 rfl) ?_
  refine rw_getr (x := ((up2 (up2 I 0 0 0) 0 11 (nI (min (ud + 1) 8))), (mRem A ud), K)) S hK hP 0 (by decide) rfl fk_X7_17 rfl dX7_setFixed_20 ?_
  refine lv_iload_n hx hb dX7_setFixed_23 rfl (lv_at hl 1 rfl) ?_
  refine cn_si (ck_S S lk_X7_136 (c_X7_roleN l r) ⟨rfl, rfl⟩ ⟨Nat.le_of_ble_eq_true rfl, Nat.le_of_ble_eq_true rfl⟩ bl_T t_U rfl hl.1 (Nat.le_of_ble_eq_true rfl) ⟨Nat.le_refl _, Nat.le_refl _⟩ dX7_setFixed_24 rfl) (fun r7 g8 => ?_)
  obtain rfl : r7 = nI (4 + 3 * r) := g8
  refine lv_iconst (v := 2) hx hb dX7_setFixed_27 (by decide) ?_
  refine lv_iadd hx hb dX7_setFixed_28 ?_
  refine tp_i (y := nI ((4 + 3 * r) + 2)) (nI_add (4 + 3 * r) 2) ?_
  refine rw_iald (x := ((up2 (up2 I 0 0 0) 0 11 (nI (min (ud + 1) 8))), (mRem A ud), K)) (v := A 2 (4 + 3 * r + 2)) S hK hP 2 (by decide) rfl ((4 + 3 * r) + 2) rfl (by omega) (by decide) (congrFun (mRem_ne hu8 (by decide)) _) dX7_setFixed_29 ?_
  refine lv_iconst (v := 1) hx hb dX7_setFixed_30 (by decide) ?_
  refine lv_icmp_ne (tgt := 38) hx hb dX7_setFixed_31 (by decide) (fun h31 => ?_) (fun h31 => ?_)
  · refine lv_iconst (v := 0) hx hb dX7_setFixed_38 (by decide) ?_
    refine lv_istore_n (lv' := [(3, .int 0), (0, .ref (eP E 0)), (1, .int (nI r)), (2, .int am)]) hx hb dX7_setFixed_39 rfl hl (by decide) rfl (fun ls hl => ?_)
    refine lv_aload_n hx hb dX7_setFixed_40 rfl (lv_at hl 1 rfl) ?_
    refine rw_getr (x := ((up2 (up2 I 0 0 0) 0 11 (nI (min (ud + 1) 8))), (mRem A ud), K)) S hK hP 0 (by decide) rfl fk_X7_17 rfl dX7_setFixed_41 ?_
    refine lv_iload_n hx hb dX7_setFixed_44 rfl (lv_at hl 2 rfl) ?_
    refine cn_si (ck_S S lk_X7_136 (c_X7_roleN l r) ⟨rfl, rfl⟩ ⟨Nat.le_of_ble_eq_true rfl, Nat.le_of_ble_eq_true rfl⟩ bl_T t_U rfl hl.1 (Nat.le_of_ble_eq_true rfl) ⟨Nat.le_refl _, Nat.le_refl _⟩ dX7_setFixed_45 rfl) (fun r9 g10 => ?_)
    obtain rfl : r9 = nI (4 + 3 * r) := g10
    refine lv_iconst (v := 2) hx hb dX7_setFixed_48 (by decide) ?_
    refine lv_iadd hx hb dX7_setFixed_49 ?_
    refine tp_i (y := nI ((4 + 3 * r) + 2)) (nI_add (4 + 3 * r) 2) ?_
    refine lv_iload_n hx hb dX7_setFixed_50 rfl (lv_at hl 3 rfl) ?_
    refine lv_if_eq (tgt := 58) hx hb dX7_setFixed_51 (by decide) (fun h51 => ?_) (fun h51 => ?_)
    · refine lv_iconst (v := 0) hx hb dX7_setFixed_58 (by decide) ?_
      refine rw_iast (x := ((up2 (up2 I 0 0 0) 0 11 (nI (min (ud + 1) 8))), (mRem A ud), K)) (v := 0) S hE hK hP hS 2 (by decide) rfl ((4 + 3 * r) + 2) rfl (by omega) (by decide) dX7_setFixed_59 (fun H locs hP hS => ?_)
      have hP : Wp mN E mK ((up2 (up2 I 0 0 0) 0 11 (nI (min (ud + 1) 8))), (up2 (mRem A ud) 2 ((4 + 3 * r) + 2) 0), K) H := hP
      refine lv_iload_n hx hb dX7_setFixed_60 rfl (lv_at hl 0 rfl) ?_
      exact re_wz (x := ((up2 (up2 I 0 0 0) 0 11 (nI (min (ud + 1) 8))), (up2 (mRem A ud) 2 ((4 + 3 * r) + 2) 0), K)) (v := 0) hx hb hr hlk rfl hP hS ⟨(if_neg h31).symm, by rw [if_pos h51]⟩ dX7_setFixed_61
    · refine lv_iconst (v := 1) hx hb dX7_setFixed_54 (by decide) ?_
      refine lv_goto (tgt := 59) hx hb dX7_setFixed_55 (by decide) ?_
      refine rw_iast (x := ((up2 (up2 I 0 0 0) 0 11 (nI (min (ud + 1) 8))), (mRem A ud), K)) (v := 1) S hE hK hP hS 2 (by decide) rfl ((4 + 3 * r) + 2) rfl (by omega) (by decide) dX7_setFixed_59 (fun H locs hP hS => ?_)
      have hP : Wp mN E mK ((up2 (up2 I 0 0 0) 0 11 (nI (min (ud + 1) 8))), (up2 (mRem A ud) 2 ((4 + 3 * r) + 2) 1), K) H := hP
      refine lv_iload_n hx hb dX7_setFixed_60 rfl (lv_at hl 0 rfl) ?_
      exact re_wz (x := ((up2 (up2 I 0 0 0) 0 11 (nI (min (ud + 1) 8))), (up2 (mRem A ud) 2 ((4 + 3 * r) + 2) 1), K)) (v := 0) hx hb hr hlk rfl hP hS ⟨(if_neg h31).symm, by rw [if_neg h51]⟩ dX7_setFixed_61
  · refine lv_iconst (v := 1) hx hb dX7_setFixed_34 (by decide) ?_
    refine lv_goto (tgt := 39) hx hb dX7_setFixed_35 (by decide) ?_
    refine lv_istore_n (lv' := [(3, .int 1), (0, .ref (eP E 0)), (1, .int (nI r)), (2, .int am)]) hx hb dX7_setFixed_39 rfl hl (by decide) rfl (fun ls hl => ?_)
    refine lv_aload_n hx hb dX7_setFixed_40 rfl (lv_at hl 1 rfl) ?_
    refine rw_getr (x := ((up2 (up2 I 0 0 0) 0 11 (nI (min (ud + 1) 8))), (mRem A ud), K)) S hK hP 0 (by decide) rfl fk_X7_17 rfl dX7_setFixed_41 ?_
    refine lv_iload_n hx hb dX7_setFixed_44 rfl (lv_at hl 2 rfl) ?_
    refine cn_si (ck_S S lk_X7_136 (c_X7_roleN l r) ⟨rfl, rfl⟩ ⟨Nat.le_of_ble_eq_true rfl, Nat.le_of_ble_eq_true rfl⟩ bl_T t_U rfl hl.1 (Nat.le_of_ble_eq_true rfl) ⟨Nat.le_refl _, Nat.le_refl _⟩ dX7_setFixed_45 rfl) (fun r11 g12 => ?_)
    obtain rfl : r11 = nI (4 + 3 * r) := g12
    refine lv_iconst (v := 2) hx hb dX7_setFixed_48 (by decide) ?_
    refine lv_iadd hx hb dX7_setFixed_49 ?_
    refine tp_i (y := nI ((4 + 3 * r) + 2)) (nI_add (4 + 3 * r) 2) ?_
    refine lv_iload_n hx hb dX7_setFixed_50 rfl (lv_at hl 3 rfl) ?_
    refine lv_if_eq (tgt := 58) hx hb dX7_setFixed_51 (by decide) (fun h51 => ?_) (fun h51 => ?_)
    · refine lv_iconst (v := 0) hx hb dX7_setFixed_58 (by decide) ?_
      refine rw_iast (x := ((up2 (up2 I 0 0 0) 0 11 (nI (min (ud + 1) 8))), (mRem A ud), K)) (v := 0) S hE hK hP hS 2 (by decide) rfl ((4 + 3 * r) + 2) rfl (by omega) (by decide) dX7_setFixed_59 (fun H locs hP hS => ?_)
      have hP : Wp mN E mK ((up2 (up2 I 0 0 0) 0 11 (nI (min (ud + 1) 8))), (up2 (mRem A ud) 2 ((4 + 3 * r) + 2) 0), K) H := hP
      refine lv_iload_n hx hb dX7_setFixed_60 rfl (lv_at hl 0 rfl) ?_
      exact re_wz (x := ((up2 (up2 I 0 0 0) 0 11 (nI (min (ud + 1) 8))), (up2 (mRem A ud) 2 ((4 + 3 * r) + 2) 0), K)) (v := 1) hx hb hr hlk rfl hP hS ⟨(if_pos h31).symm, by rw [if_pos h51]⟩ dX7_setFixed_61
    · refine lv_iconst (v := 1) hx hb dX7_setFixed_54 (by decide) ?_
      refine lv_goto (tgt := 59) hx hb dX7_setFixed_55 (by decide) ?_
      refine rw_iast (x := ((up2 (up2 I 0 0 0) 0 11 (nI (min (ud + 1) 8))), (mRem A ud), K)) (v := 1) S hE hK hP hS 2 (by decide) rfl ((4 + 3 * r) + 2) rfl (by omega) (by decide) dX7_setFixed_59 (fun H locs hP hS => ?_)
      have hP : Wp mN E mK ((up2 (up2 I 0 0 0) 0 11 (nI (min (ud + 1) 8))), (up2 (mRem A ud) 2 ((4 + 3 * r) + 2) 1), K) H := hP
      refine lv_iload_n hx hb dX7_setFixed_60 rfl (lv_at hl 0 rfl) ?_
      exact re_wz (x := ((up2 (up2 I 0 0 0) 0 11 (nI (min (ud + 1) 8))), (up2 (mRem A ud) 2 ((4 + 3 * r) + 2) 1), K)) (v := 1) hx hb hr hlk rfl hP hS ⟨(if_pos h31).symm, by rw [if_neg h51]⟩ dX7_setFixed_61

set_option maxHeartbeats 1000000 in
set_option maxRecDepth 100000 in
theorem c_X7_setFixed_b0 (l : Launch) (E : En) (I A : Nat → Nat → Int32) (K : Nat → Nat → Int64) (nr nu : Nat) (x0 : Int32) (x1 : Int32) (hE : Ev mN E) (hM : MOk A nr nu) (kb : x0 < 0 ∨ nI nr ≤ x0) : Met l yX7_setFixed (wz yX7_setFixed cX7_setFixed 4 (some .boolean)) (rmk 2 0 0 43) (va_Pc [.ref (eP E 0), .int x0, .int x1] (Bw mN E mK (I, A, K))) (qWi mN E mK (fun zz uu => uu = (up2 I 0 0 1, A, K))) 0 0 (cA mN E) := by
  refine en_ofW RX7 rfl (by decide +kernel) (Nat.le_of_ble_eq_true rfl) ?_
  intro p e s m below meth c ls S hr hlk hnm hl hB
  have hx := S.1
  have hb := S.2.1
  obtain ⟨hK, hC, hP⟩ := hB
  have hS : va_S (cA mN E) s.heap s.heap [] := va_S.rf
  have hl : lv_has ls 4 [(0, .ref (eP E 0)), (1, .int x0), (2, .int x1)] := hl
  obtain ⟨⟨hn1, hn2⟩, ⟨hr0, hr1⟩, hu3, hcv⟩ := id hM
  refine lv_aload_n hx hb dX7_setFixed_0 rfl (lv_at hl 0 rfl) ?_
  refine lv_iconst (v := 0) hx hb dX7_setFixed_1 (by decide) ?_
  refine rw_puti (x := (I, A, K)) (v := 0) S hE hK hP hS 0 (by decide) rfl fk_X7_35 rfl tyX7_ok nmX7 ⟨rfl, by decide +kernel⟩ dX7_setFixed_2 (fun H locs hP hS => ?_)
  have hP : Wp mN E mK ((up2 I 0 0 0), A, K) H := hP
  refine lv_aload_n hx hb dX7_setFixed_5 rfl (lv_at hl 0 rfl) ?_
  refine lv_iload_n hx hb dX7_setFixed_6 rfl (lv_at hl 1 rfl) ?_
  refine cn_wi (ck_V (a := eP E 0) S lk_X7_267 (c_X7_noRole_b l E (up2 I 0 0 0) A K x0 nr nu hE hM rfl kb) ⟨rfl, rfl⟩ ⟨Nat.le_of_ble_eq_true rfl, Nat.le_of_ble_eq_true rfl⟩ bl_w (rc_w hK hP 0 (by decide) rfl rfl) (bw_U hE hK hC hP hS) rfl hl.1 (Nat.le_of_ble_eq_true rfl) ⟨Nat.le_refl _, Nat.le_refl _⟩ dX7_setFixed_7 rfl) hS (fun r1 u2 H locs g3 hP hS => ?_)
  obtain ⟨rfl, rfl⟩ : r1 = 1 ∧ u2 = ((up2 (up2 I 0 0 0) 0 0 1), A, K) := g3
  have hP : Wp mN E mK ((up2 (up2 I 0 0 0) 0 0 1), A, K) H := hP
  refine lv_if_eq (tgt := 15) hx hb dX7_setFixed_10 (by decide) (fun h10 => absurd h10 (by decide)) (fun h10 => ?_)
  refine lv_iconst (v := 0) hx hb dX7_setFixed_13 (by decide) ?_
  exact re_wz (x := ((up2 (up2 I 0 0 0) 0 0 1), A, K)) (v := 0) hx hb hr hlk rfl hP hS (by rw [up2_up]) dX7_setFixed_14

set_option maxHeartbeats 1000000 in
set_option maxRecDepth 100000 in
theorem c_X7_shift (l : Launch) (E : En) (I A : Nat → Nat → Int32) (K : Nat → Nat → Int64) (nr nu : Nat) (r sc : Nat) (am : Int32) (ud : Nat) (hE : Ev mN E) (hM : MOk A nr nu) (k0 : r < nr) (k1 : sc < 2) (k2 : ¬ am < -255 ∧ ¬ 255 < am) (k3 : ¬ A 2 (4 + 3 * r + 2) = 1) (hud : I 0 11 = nI ud) (hu8 : ud ≤ 8) : Met l yX7_shift (wz yX7_shift cX7_shift 4 (some .int)) (rmk 4 0 0 86) (va_Pc [.ref (eP E 0), .int (nI r), .int (nI sc), .int am] (Bw mN E mK (I, A, K))) (qWi mN E mK (fun zz uu => zz = mShd (mRem A ud) r sc am 2 (4 + 3 * r + sc) ∧ uu = ((up2 (up2 I 0 0 0) 0 11 (nI (min (ud + 1) 8))), mShd (mRem A ud) r sc am, K))) 0 0 (cA mN E) := by
  refine en_ofW RX7 rfl (by decide +kernel) (Nat.le_of_ble_eq_true rfl) ?_
  intro p e s m below meth c ls S hr hlk hnm hl hB
  have hx := S.1
  have hb := S.2.1
  obtain ⟨hK, hC, hP⟩ := hB
  have hS : va_S (cA mN E) s.heap s.heap [] := va_S.rf
  have hl : lv_has ls 4 [(0, .ref (eP E 0)), (1, .int (nI r)), (2, .int (nI sc)), (3, .int am)] := hl
  obtain ⟨⟨hn1, hn2⟩, ⟨hr0, hr1⟩, hu3, hcv⟩ := id hM
  refine lv_aload_n hx hb dX7_shift_0 rfl (lv_at hl 0 rfl) ?_
  refine lv_iconst (v := 0) hx hb dX7_shift_1 (by decide) ?_
  refine rw_puti (x := (I, A, K)) (v := 0) S hE hK hP hS 0 (by decide) rfl fk_X7_35 rfl tyX7_ok nmX7 ⟨rfl, by decide +kernel⟩ dX7_shift_2 (fun H locs hP hS => ?_)
  have hP : Wp mN E mK ((up2 I 0 0 0), A, K) H := hP
  refine lv_aload_n hx hb dX7_shift_5 rfl (lv_at hl 0 rfl) ?_
  refine lv_iload_n hx hb dX7_shift_6 rfl (lv_at hl 1 rfl) ?_
  refine cn_wi (ck_V (a := eP E 0) S lk_X7_267 (c_X7_noRole_n l E (up2 I 0 0 0) A K r nr nu hE hM rfl k0) ⟨rfl, rfl⟩ ⟨Nat.le_of_ble_eq_true rfl, Nat.le_of_ble_eq_true rfl⟩ bl_w (rc_w hK hP 0 (by decide) rfl rfl) (bw_U hE hK hC hP hS) rfl hl.1 (Nat.le_of_ble_eq_true rfl) ⟨Nat.le_refl _, Nat.le_refl _⟩ dX7_shift_7 rfl) hS (fun r1 u2 H locs g3 hP hS => ?_)
  obtain ⟨rfl, rfl⟩ : r1 = 0 ∧ u2 = ((up2 I 0 0 0), A, K) := g3
  have hP : Wp mN E mK ((up2 I 0 0 0), A, K) H := hP
  refine lv_if_ne (tgt := 75) hx hb dX7_shift_10 (by decide) (fun h10 => absurd h10 (by decide)) (fun h10 => ?_)
  refine lv_aload_n hx hb dX7_shift_13 rfl (lv_at hl 0 rfl) ?_
  refine lv_iload_n hx hb dX7_shift_14 rfl (lv_at hl 2 rfl) ?_
  refine cn_wi (ck_V (a := eP E 0) S lk_X7_264 (c_X7_noScheme_n l E (up2 I 0 0 0) A K sc hE rfl k1) ⟨rfl, rfl⟩ ⟨Nat.le_of_ble_eq_true rfl, Nat.le_of_ble_eq_true rfl⟩ bl_w (rc_w hK hP 0 (by decide) rfl rfl) (bw_U hE hK hC hP hS) rfl hl.1 (Nat.le_of_ble_eq_true rfl) ⟨Nat.le_refl _, Nat.le_refl _⟩ dX7_shift_15 rfl) hS (fun r4 u5 H locs g6 hP hS => ?_)
  obtain ⟨rfl, rfl⟩ : r4 = 0 ∧ u5 = ((up2 I 0 0 0), A, K) := g6
  have hP : Wp mN E mK ((up2 I 0 0 0), A, K) H := hP
  refine lv_if_ne (tgt := 75) hx hb dX7_shift_18 (by decide) (fun h18 => absurd h18 (by decide)) (fun h18 => ?_)
  refine lv_aload_n hx hb dX7_shift_21 rfl (lv_at hl 0 rfl) ?_
  refine lv_iload_n hx hb dX7_shift_22 rfl (lv_at hl 3 rfl) ?_
  refine lv_sipush (v := (-255)) hx hb dX7_shift_23 (by decide) ?_
  refine lv_sipush (v := 255) hx hb dX7_shift_26 (by decide) ?_
  refine cn_si (ck_S S lk_X7_58 (c_X7_in l am (-255) 255) ⟨rfl, rfl⟩ ⟨Nat.le_of_ble_eq_true rfl, Nat.le_of_ble_eq_true rfl⟩ bl_T t_U rfl hl.1 (Nat.le_of_ble_eq_true rfl) ⟨Nat.le_refl _, Nat.le_refl _⟩ dX7_shift_29 rfl) (fun r7 g8 => ?_)
  obtain rfl : r7 = rIn am (-255) 255 := g8
  refine tp_i (y := 1) (rIn_y k2.1 k2.2) ?_
  refine lv_if_ne (tgt := 39) hx hb dX7_shift_32 (by decide) (fun h32 => ?_) (fun h32 => absurd h32 (by decide))
  refine lv_iconst (v := 0) hx hb dX7_shift_39 (by decide) ?_
  refine lv_iconst (v := 2) hx hb dX7_shift_40 (by decide) ?_
  refine cn_wi (ck_V (a := eP E 0) S lk_X7_159 (c_X7_fails_n l E (up2 I 0 0 0) A K 2 hE rfl) ⟨rfl, rfl⟩ ⟨Nat.le_of_ble_eq_true rfl, Nat.le_of_ble_eq_true rfl⟩ bl_w (rc_w hK hP 0 (by decide) rfl rfl) (bw_U hE hK hC hP hS) rfl hl.1 (Nat.le_of_ble_eq_true rfl) ⟨Nat.le_refl _, Nat.le_refl _⟩ dX7_shift_41 rfl) hS (fun r9 u10 H locs g11 hP hS => ?_)
  obtain ⟨rfl, rfl⟩ : r9 = 0 ∧ u10 = ((up2 I 0 0 0), A, K) := g11
  have hP : Wp mN E mK ((up2 I 0 0 0), A, K) H := hP
  refine lv_if_ne (tgt := 75) hx hb dX7_shift_44 (by decide) (fun h44 => absurd h44 (by decide)) (fun h44 => ?_)
  refine lv_aload_n hx hb dX7_shift_47 rfl (lv_at hl 0 rfl) ?_
  refine lv_aload_n hx hb dX7_shift_48 rfl (lv_at hl 0 rfl) ?_
  refine rw_getr (x := ((up2 I 0 0 0), A, K)) S hK hP 0 (by decide) rfl fk_X7_17 rfl dX7_shift_49 ?_
  refine lv_iload_n hx hb dX7_shift_52 rfl (lv_at hl 1 rfl) ?_
  refine cn_si (ck_S S lk_X7_136 (c_X7_roleN l r) ⟨rfl, rfl⟩ ⟨Nat.le_of_ble_eq_true rfl, Nat.le_of_ble_eq_true rfl⟩ bl_T t_U rfl hl.1 (Nat.le_of_ble_eq_true rfl) ⟨Nat.le_refl _, Nat.le_refl _⟩ dX7_shift_53 rfl) (fun r12 g13 => ?_)
  obtain rfl : r12 = nI (4 + 3 * r) := g13
  refine lv_iconst (v := 2) hx hb dX7_shift_56 (by decide) ?_
  refine lv_iadd hx hb dX7_shift_57 ?_
  refine tp_i (y := nI ((4 + 3 * r) + 2)) (nI_add (4 + 3 * r) 2) ?_
  refine rw_iald (x := ((up2 I 0 0 0), A, K)) (v := A 2 ((4 + 3 * r) + 2)) S hK hP 2 (by decide) rfl ((4 + 3 * r) + 2) rfl (by omega) (by decide) rfl dX7_shift_58 ?_
  refine lv_iconst (v := 1) hx hb dX7_shift_59 (by decide) ?_
  refine lv_icmp_ne (tgt := 67) hx hb dX7_shift_60 (by decide) (fun h60 => ?_) (fun h60 => absurd h60 (show ¬ A 2 (4 + 3 * r + 2) = 1 from k3))
  refine lv_iconst (v := 0) hx hb dX7_shift_67 (by decide) ?_
  refine lv_iconst (v := 3) hx hb dX7_shift_68 (by decide) ?_
  refine cn_wi (ck_V (a := eP E 0) S lk_X7_159 (c_X7_fails_n l E (up2 I 0 0 0) A K 3 hE rfl) ⟨rfl, rfl⟩ ⟨Nat.le_of_ble_eq_true rfl, Nat.le_of_ble_eq_true rfl⟩ bl_w (rc_w hK hP 0 (by decide) rfl rfl) (bw_U hE hK hC hP hS) rfl hl.1 (Nat.le_of_ble_eq_true rfl) ⟨Nat.le_refl _, Nat.le_refl _⟩ dX7_shift_69 rfl) hS (fun r14 u15 H locs g16 hP hS => ?_)
  obtain ⟨rfl, rfl⟩ : r14 = 0 ∧ u15 = ((up2 I 0 0 0), A, K) := g16
  have hP : Wp mN E mK ((up2 I 0 0 0), A, K) H := hP
  refine lv_if_eq (tgt := 77) hx hb dX7_shift_72 (by decide) (fun h72 => ?_) (fun h72 => absurd (by decide) h72)
  refine lv_aload_n hx hb dX7_shift_77 rfl (lv_at hl 0 rfl) ?_
  refine cn_wv (ck_V (a := eP E 0) S lk_X7_166 (c_X7_remember l E (up2 I 0 0 0) A K ud hE hud hu8) ⟨rfl, rfl⟩ ⟨Nat.le_of_ble_eq_true rfl, Nat.le_of_ble_eq_true rfl⟩ bl_w (rc_w hK hP 0 (by decide) rfl rfl) (bw_U hE hK hC hP hS) rfl hl.1 (Nat.le_of_ble_eq_true rfl) ⟨Nat.le_refl _, Nat.le_refl _⟩ dX7_shift_78 rfl) hS (fun u18 H locs g19 hP hS => ?_)
  obtain rfl : u18 = ((up2 (up2 I 0 0 0) 0 11 (nI (min (ud + 1) 8))), (mRem A ud), K) := g19
  have hP : Wp mN E mK ((up2 (up2 I 0 0 0) 0 11 (nI (min (ud + 1) 8))), (mRem A ud), K) H := hP
  refine lv_aload_n hx hb dX7_shift_81 rfl (lv_at hl 0 rfl) ?_
  refine lv_iload_n hx hb dX7_shift_82 rfl (lv_at hl 1 rfl) ?_
  refine lv_iload_n hx hb dX7_shift_83 rfl (lv_at hl 2 rfl) ?_
  refine lv_iload_n hx hb dX7_shift_84 rfl (lv_at hl 3 rfl) ?_
  refine cn_wi (ck_V (a := eP E 0) S lk_X7_286 (c_X7_makeShift l E (up2 (up2 I 0 0 0) 0 11 (nI (min (ud + 1) 8))) (mRem A ud) K r sc am hE (by omega) k1) ⟨rfl, rfl⟩ ⟨Nat.le_of_ble_eq_true rfl, Nat.le_of_ble_eq_true rfl⟩ bl_w (rc_w hK hP 0 (by decide) rfl rfl) (bw_U hE hK hC hP hS) rfl hl.1 (Nat.le_of_ble_eq_true rfl) ⟨Nat.le_refl _, Nat.le_refl _⟩ dX7_shift_85 rfl) hS (fun r20 u21 H locs g22 hP hS => ?_)
  obtain ⟨rfl, rfl⟩ : r20 = (mShd (mRem A ud) r sc am 2 (4 + 3 * r + sc)) ∧ u21 = ((up2 (up2 I 0 0 0) 0 11 (nI (min (ud + 1) 8))), (mShd (mRem A ud) r sc am), K) := g22
  have hP : Wp mN E mK ((up2 (up2 I 0 0 0) 0 11 (nI (min (ud + 1) 8))), (mShd (mRem A ud) r sc am), K) H := hP
  exact re_wi (x := ((up2 (up2 I 0 0 0) 0 11 (nI (min (ud + 1) 8))), (mShd (mRem A ud) r sc am), K)) (v := (mShd (mRem A ud) r sc am 2 (4 + 3 * r + sc))) hx hb hr hlk hP hS ⟨rfl, rfl⟩ dX7_shift_88

set_option maxHeartbeats 1000000 in
set_option maxRecDepth 100000 in
theorem c_X7_shift_b0 (l : Launch) (E : En) (I A : Nat → Nat → Int32) (K : Nat → Nat → Int64) (nr nu : Nat) (x0 x1 x2 : Int32) (hE : Ev mN E) (hM : MOk A nr nu) (kb : x0 < 0 ∨ nI nr ≤ x0) : Met l yX7_shift (wz yX7_shift cX7_shift 4 (some .int)) (rmk 2 0 0 43) (va_Pc [.ref (eP E 0), .int x0, .int x1, .int x2] (Bw mN E mK (I, A, K))) (qWi mN E mK (fun zz uu => uu = (up2 I 0 0 1, A, K))) 0 0 (cA mN E) := by
  refine en_ofW RX7 rfl (by decide +kernel) (Nat.le_of_ble_eq_true rfl) ?_
  intro p e s m below meth c ls S hr hlk hnm hl hB
  have hx := S.1
  have hb := S.2.1
  obtain ⟨hK, hC, hP⟩ := hB
  have hS : va_S (cA mN E) s.heap s.heap [] := va_S.rf
  have hl : lv_has ls 4 [(0, .ref (eP E 0)), (1, .int x0), (2, .int x1), (3, .int x2)] := hl
  obtain ⟨⟨hn1, hn2⟩, ⟨hr0, hr1⟩, hu3, hcv⟩ := id hM
  refine lv_aload_n hx hb dX7_shift_0 rfl (lv_at hl 0 rfl) ?_
  refine lv_iconst (v := 0) hx hb dX7_shift_1 (by decide) ?_
  refine rw_puti (x := (I, A, K)) (v := 0) S hE hK hP hS 0 (by decide) rfl fk_X7_35 rfl tyX7_ok nmX7 ⟨rfl, by decide +kernel⟩ dX7_shift_2 (fun H locs hP hS => ?_)
  have hP : Wp mN E mK ((up2 I 0 0 0), A, K) H := hP
  refine lv_aload_n hx hb dX7_shift_5 rfl (lv_at hl 0 rfl) ?_
  refine lv_iload_n hx hb dX7_shift_6 rfl (lv_at hl 1 rfl) ?_
  refine cn_wi (ck_V (a := eP E 0) S lk_X7_267 (c_X7_noRole_b l E (up2 I 0 0 0) A K x0 nr nu hE hM rfl kb) ⟨rfl, rfl⟩ ⟨Nat.le_of_ble_eq_true rfl, Nat.le_of_ble_eq_true rfl⟩ bl_w (rc_w hK hP 0 (by decide) rfl rfl) (bw_U hE hK hC hP hS) rfl hl.1 (Nat.le_of_ble_eq_true rfl) ⟨Nat.le_refl _, Nat.le_refl _⟩ dX7_shift_7 rfl) hS (fun r1 u2 H locs g3 hP hS => ?_)
  obtain ⟨rfl, rfl⟩ : r1 = 1 ∧ u2 = ((up2 (up2 I 0 0 0) 0 0 1), A, K) := g3
  have hP : Wp mN E mK ((up2 (up2 I 0 0 0) 0 0 1), A, K) H := hP
  refine lv_if_ne (tgt := 75) hx hb dX7_shift_10 (by decide) (fun h10 => ?_) (fun h10 => absurd h10 (by decide))
  refine lv_iconst (v := 0) hx hb dX7_shift_75 (by decide) ?_
  exact re_wi (x := ((up2 (up2 I 0 0 0) 0 0 1), A, K)) (v := 0) hx hb hr hlk hP hS (by rw [up2_up]) dX7_shift_76

set_option maxHeartbeats 1000000 in
set_option maxRecDepth 100000 in
theorem c_X7_shift_b1 (l : Launch) (E : En) (I A : Nat → Nat → Int32) (K : Nat → Nat → Int64) (nr nu : Nat) (r : Nat) (x1 x2 : Int32) (hE : Ev mN E) (hM : MOk A nr nu) (k0 : r < nr) (kb : x1 < 0 ∨ 2 ≤ x1) : Met l yX7_shift (wz yX7_shift cX7_shift 4 (some .int)) (rmk 2 0 0 43) (va_Pc [.ref (eP E 0), .int (nI r), .int x1, .int x2] (Bw mN E mK (I, A, K))) (qWi mN E mK (fun zz uu => uu = (up2 I 0 0 1, A, K))) 0 0 (cA mN E) := by
  refine en_ofW RX7 rfl (by decide +kernel) (Nat.le_of_ble_eq_true rfl) ?_
  intro p e s m below meth c ls S hr hlk hnm hl hB
  have hx := S.1
  have hb := S.2.1
  obtain ⟨hK, hC, hP⟩ := hB
  have hS : va_S (cA mN E) s.heap s.heap [] := va_S.rf
  have hl : lv_has ls 4 [(0, .ref (eP E 0)), (1, .int (nI r)), (2, .int x1), (3, .int x2)] := hl
  obtain ⟨⟨hn1, hn2⟩, ⟨hr0, hr1⟩, hu3, hcv⟩ := id hM
  refine lv_aload_n hx hb dX7_shift_0 rfl (lv_at hl 0 rfl) ?_
  refine lv_iconst (v := 0) hx hb dX7_shift_1 (by decide) ?_
  refine rw_puti (x := (I, A, K)) (v := 0) S hE hK hP hS 0 (by decide) rfl fk_X7_35 rfl tyX7_ok nmX7 ⟨rfl, by decide +kernel⟩ dX7_shift_2 (fun H locs hP hS => ?_)
  have hP : Wp mN E mK ((up2 I 0 0 0), A, K) H := hP
  refine lv_aload_n hx hb dX7_shift_5 rfl (lv_at hl 0 rfl) ?_
  refine lv_iload_n hx hb dX7_shift_6 rfl (lv_at hl 1 rfl) ?_
  refine cn_wi (ck_V (a := eP E 0) S lk_X7_267 (c_X7_noRole_n l E (up2 I 0 0 0) A K r nr nu hE hM rfl k0) ⟨rfl, rfl⟩ ⟨Nat.le_of_ble_eq_true rfl, Nat.le_of_ble_eq_true rfl⟩ bl_w (rc_w hK hP 0 (by decide) rfl rfl) (bw_U hE hK hC hP hS) rfl hl.1 (Nat.le_of_ble_eq_true rfl) ⟨Nat.le_refl _, Nat.le_refl _⟩ dX7_shift_7 rfl) hS (fun r1 u2 H locs g3 hP hS => ?_)
  obtain ⟨rfl, rfl⟩ : r1 = 0 ∧ u2 = ((up2 I 0 0 0), A, K) := g3
  have hP : Wp mN E mK ((up2 I 0 0 0), A, K) H := hP
  refine lv_if_ne (tgt := 75) hx hb dX7_shift_10 (by decide) (fun h10 => absurd h10 (by decide)) (fun h10 => ?_)
  refine lv_aload_n hx hb dX7_shift_13 rfl (lv_at hl 0 rfl) ?_
  refine lv_iload_n hx hb dX7_shift_14 rfl (lv_at hl 2 rfl) ?_
  refine cn_wi (ck_V (a := eP E 0) S lk_X7_264 (c_X7_noScheme_b l E (up2 I 0 0 0) A K x1 hE rfl kb) ⟨rfl, rfl⟩ ⟨Nat.le_of_ble_eq_true rfl, Nat.le_of_ble_eq_true rfl⟩ bl_w (rc_w hK hP 0 (by decide) rfl rfl) (bw_U hE hK hC hP hS) rfl hl.1 (Nat.le_of_ble_eq_true rfl) ⟨Nat.le_refl _, Nat.le_refl _⟩ dX7_shift_15 rfl) hS (fun r4 u5 H locs g6 hP hS => ?_)
  obtain ⟨rfl, rfl⟩ : r4 = 1 ∧ u5 = ((up2 (up2 I 0 0 0) 0 0 1), A, K) := g6
  have hP : Wp mN E mK ((up2 (up2 I 0 0 0) 0 0 1), A, K) H := hP
  refine lv_if_ne (tgt := 75) hx hb dX7_shift_18 (by decide) (fun h18 => ?_) (fun h18 => absurd h18 (by decide))
  refine lv_iconst (v := 0) hx hb dX7_shift_75 (by decide) ?_
  exact re_wi (x := ((up2 (up2 I 0 0 0) 0 0 1), A, K)) (v := 0) hx hb hr hlk hP hS (by rw [up2_up]) dX7_shift_76

set_option maxHeartbeats 1000000 in
set_option maxRecDepth 100000 in
theorem c_X7_shift_b2 (l : Launch) (E : En) (I A : Nat → Nat → Int32) (K : Nat → Nat → Int64) (nr nu : Nat) (r sc : Nat) (am : Int32) (hE : Ev mN E) (hM : MOk A nr nu) (k0 : r < nr) (k1 : sc < 2) (kb : am < -255 ∨ 255 < am) : Met l yX7_shift (wz yX7_shift cX7_shift 4 (some .int)) (rmk 2 0 0 43) (va_Pc [.ref (eP E 0), .int (nI r), .int (nI sc), .int am] (Bw mN E mK (I, A, K))) (qWi mN E mK (fun zz uu => uu = (up2 I 0 0 2, A, K))) 0 0 (cA mN E) := by
  refine en_ofW RX7 rfl (by decide +kernel) (Nat.le_of_ble_eq_true rfl) ?_
  intro p e s m below meth c ls S hr hlk hnm hl hB
  have hx := S.1
  have hb := S.2.1
  obtain ⟨hK, hC, hP⟩ := hB
  have hS : va_S (cA mN E) s.heap s.heap [] := va_S.rf
  have hl : lv_has ls 4 [(0, .ref (eP E 0)), (1, .int (nI r)), (2, .int (nI sc)), (3, .int am)] := hl
  obtain ⟨⟨hn1, hn2⟩, ⟨hr0, hr1⟩, hu3, hcv⟩ := id hM
  refine lv_aload_n hx hb dX7_shift_0 rfl (lv_at hl 0 rfl) ?_
  refine lv_iconst (v := 0) hx hb dX7_shift_1 (by decide) ?_
  refine rw_puti (x := (I, A, K)) (v := 0) S hE hK hP hS 0 (by decide) rfl fk_X7_35 rfl tyX7_ok nmX7 ⟨rfl, by decide +kernel⟩ dX7_shift_2 (fun H locs hP hS => ?_)
  have hP : Wp mN E mK ((up2 I 0 0 0), A, K) H := hP
  refine lv_aload_n hx hb dX7_shift_5 rfl (lv_at hl 0 rfl) ?_
  refine lv_iload_n hx hb dX7_shift_6 rfl (lv_at hl 1 rfl) ?_
  refine cn_wi (ck_V (a := eP E 0) S lk_X7_267 (c_X7_noRole_n l E (up2 I 0 0 0) A K r nr nu hE hM rfl k0) ⟨rfl, rfl⟩ ⟨Nat.le_of_ble_eq_true rfl, Nat.le_of_ble_eq_true rfl⟩ bl_w (rc_w hK hP 0 (by decide) rfl rfl) (bw_U hE hK hC hP hS) rfl hl.1 (Nat.le_of_ble_eq_true rfl) ⟨Nat.le_refl _, Nat.le_refl _⟩ dX7_shift_7 rfl) hS (fun r1 u2 H locs g3 hP hS => ?_)
  obtain ⟨rfl, rfl⟩ : r1 = 0 ∧ u2 = ((up2 I 0 0 0), A, K) := g3
  have hP : Wp mN E mK ((up2 I 0 0 0), A, K) H := hP
  refine lv_if_ne (tgt := 75) hx hb dX7_shift_10 (by decide) (fun h10 => absurd h10 (by decide)) (fun h10 => ?_)
  refine lv_aload_n hx hb dX7_shift_13 rfl (lv_at hl 0 rfl) ?_
  refine lv_iload_n hx hb dX7_shift_14 rfl (lv_at hl 2 rfl) ?_
  refine cn_wi (ck_V (a := eP E 0) S lk_X7_264 (c_X7_noScheme_n l E (up2 I 0 0 0) A K sc hE rfl k1) ⟨rfl, rfl⟩ ⟨Nat.le_of_ble_eq_true rfl, Nat.le_of_ble_eq_true rfl⟩ bl_w (rc_w hK hP 0 (by decide) rfl rfl) (bw_U hE hK hC hP hS) rfl hl.1 (Nat.le_of_ble_eq_true rfl) ⟨Nat.le_refl _, Nat.le_refl _⟩ dX7_shift_15 rfl) hS (fun r4 u5 H locs g6 hP hS => ?_)
  obtain ⟨rfl, rfl⟩ : r4 = 0 ∧ u5 = ((up2 I 0 0 0), A, K) := g6
  have hP : Wp mN E mK ((up2 I 0 0 0), A, K) H := hP
  refine lv_if_ne (tgt := 75) hx hb dX7_shift_18 (by decide) (fun h18 => absurd h18 (by decide)) (fun h18 => ?_)
  refine lv_aload_n hx hb dX7_shift_21 rfl (lv_at hl 0 rfl) ?_
  refine lv_iload_n hx hb dX7_shift_22 rfl (lv_at hl 3 rfl) ?_
  refine lv_sipush (v := (-255)) hx hb dX7_shift_23 (by decide) ?_
  refine lv_sipush (v := 255) hx hb dX7_shift_26 (by decide) ?_
  refine cn_si (ck_S S lk_X7_58 (c_X7_in l am (-255) 255) ⟨rfl, rfl⟩ ⟨Nat.le_of_ble_eq_true rfl, Nat.le_of_ble_eq_true rfl⟩ bl_T t_U rfl hl.1 (Nat.le_of_ble_eq_true rfl) ⟨Nat.le_refl _, Nat.le_refl _⟩ dX7_shift_29 rfl) (fun r7 g8 => ?_)
  obtain rfl : r7 = rIn am (-255) 255 := g8
  refine tp_i (y := 0) (rIn_n kb) ?_
  refine lv_if_ne (tgt := 39) hx hb dX7_shift_32 (by decide) (fun h32 => absurd h32 (by decide)) (fun h32 => ?_)
  refine lv_iconst (v := 1) hx hb dX7_shift_35 (by decide) ?_
  refine lv_goto (tgt := 40) hx hb dX7_shift_36 (by decide) ?_
  refine lv_iconst (v := 2) hx hb dX7_shift_40 (by decide) ?_
  refine cn_wi (ck_V (a := eP E 0) S lk_X7_159 (c_X7_fails_b l E (up2 I 0 0 0) A K 2 hE rfl (by decide)) ⟨rfl, rfl⟩ ⟨Nat.le_of_ble_eq_true rfl, Nat.le_of_ble_eq_true rfl⟩ bl_w (rc_w hK hP 0 (by decide) rfl rfl) (bw_U hE hK hC hP hS) rfl hl.1 (Nat.le_of_ble_eq_true rfl) ⟨Nat.le_refl _, Nat.le_refl _⟩ dX7_shift_41 rfl) hS (fun r9 u10 H locs g11 hP hS => ?_)
  obtain ⟨rfl, rfl⟩ : r9 = 1 ∧ u10 = ((up2 (up2 I 0 0 0) 0 0 2), A, K) := g11
  have hP : Wp mN E mK ((up2 (up2 I 0 0 0) 0 0 2), A, K) H := hP
  refine lv_if_ne (tgt := 75) hx hb dX7_shift_44 (by decide) (fun h44 => ?_) (fun h44 => absurd h44 (by decide))
  refine lv_iconst (v := 0) hx hb dX7_shift_75 (by decide) ?_
  exact re_wi (x := ((up2 (up2 I 0 0 0) 0 0 2), A, K)) (v := 0) hx hb hr hlk hP hS (by rw [up2_up]) dX7_shift_76

set_option maxHeartbeats 1000000 in
set_option maxRecDepth 100000 in
theorem c_X7_shift_b3 (l : Launch) (E : En) (I A : Nat → Nat → Int32) (K : Nat → Nat → Int64) (nr nu : Nat) (r sc : Nat) (am : Int32) (hE : Ev mN E) (hM : MOk A nr nu) (k0 : r < nr) (k1 : sc < 2) (k2 : ¬ am < -255 ∧ ¬ 255 < am) (kb : A 2 (4 + 3 * r + 2) = 1) : Met l yX7_shift (wz yX7_shift cX7_shift 4 (some .int)) (rmk 2 0 0 43) (va_Pc [.ref (eP E 0), .int (nI r), .int (nI sc), .int am] (Bw mN E mK (I, A, K))) (qWi mN E mK (fun zz uu => uu = (up2 I 0 0 3, A, K))) 0 0 (cA mN E) := by
  refine en_ofW RX7 rfl (by decide +kernel) (Nat.le_of_ble_eq_true rfl) ?_
  intro p e s m below meth c ls S hr hlk hnm hl hB
  have hx := S.1
  have hb := S.2.1
  obtain ⟨hK, hC, hP⟩ := hB
  have hS : va_S (cA mN E) s.heap s.heap [] := va_S.rf
  have hl : lv_has ls 4 [(0, .ref (eP E 0)), (1, .int (nI r)), (2, .int (nI sc)), (3, .int am)] := hl
  obtain ⟨⟨hn1, hn2⟩, ⟨hr0, hr1⟩, hu3, hcv⟩ := id hM
  refine lv_aload_n hx hb dX7_shift_0 rfl (lv_at hl 0 rfl) ?_
  refine lv_iconst (v := 0) hx hb dX7_shift_1 (by decide) ?_
  refine rw_puti (x := (I, A, K)) (v := 0) S hE hK hP hS 0 (by decide) rfl fk_X7_35 rfl tyX7_ok nmX7 ⟨rfl, by decide +kernel⟩ dX7_shift_2 (fun H locs hP hS => ?_)
  have hP : Wp mN E mK ((up2 I 0 0 0), A, K) H := hP
  refine lv_aload_n hx hb dX7_shift_5 rfl (lv_at hl 0 rfl) ?_
  refine lv_iload_n hx hb dX7_shift_6 rfl (lv_at hl 1 rfl) ?_
  refine cn_wi (ck_V (a := eP E 0) S lk_X7_267 (c_X7_noRole_n l E (up2 I 0 0 0) A K r nr nu hE hM rfl k0) ⟨rfl, rfl⟩ ⟨Nat.le_of_ble_eq_true rfl, Nat.le_of_ble_eq_true rfl⟩ bl_w (rc_w hK hP 0 (by decide) rfl rfl) (bw_U hE hK hC hP hS) rfl hl.1 (Nat.le_of_ble_eq_true rfl) ⟨Nat.le_refl _, Nat.le_refl _⟩ dX7_shift_7 rfl) hS (fun r1 u2 H locs g3 hP hS => ?_)
  obtain ⟨rfl, rfl⟩ : r1 = 0 ∧ u2 = ((up2 I 0 0 0), A, K) := g3
  have hP : Wp mN E mK ((up2 I 0 0 0), A, K) H := hP
  refine lv_if_ne (tgt := 75) hx hb dX7_shift_10 (by decide) (fun h10 => absurd h10 (by decide)) (fun h10 => ?_)
  refine lv_aload_n hx hb dX7_shift_13 rfl (lv_at hl 0 rfl) ?_
  refine lv_iload_n hx hb dX7_shift_14 rfl (lv_at hl 2 rfl) ?_
  refine cn_wi (ck_V (a := eP E 0) S lk_X7_264 (c_X7_noScheme_n l E (up2 I 0 0 0) A K sc hE rfl k1) ⟨rfl, rfl⟩ ⟨Nat.le_of_ble_eq_true rfl, Nat.le_of_ble_eq_true rfl⟩ bl_w (rc_w hK hP 0 (by decide) rfl rfl) (bw_U hE hK hC hP hS) rfl hl.1 (Nat.le_of_ble_eq_true rfl) ⟨Nat.le_refl _, Nat.le_refl _⟩ dX7_shift_15 rfl) hS (fun r4 u5 H locs g6 hP hS => ?_)
  obtain ⟨rfl, rfl⟩ : r4 = 0 ∧ u5 = ((up2 I 0 0 0), A, K) := g6
  have hP : Wp mN E mK ((up2 I 0 0 0), A, K) H := hP
  refine lv_if_ne (tgt := 75) hx hb dX7_shift_18 (by decide) (fun h18 => absurd h18 (by decide)) (fun h18 => ?_)
  refine lv_aload_n hx hb dX7_shift_21 rfl (lv_at hl 0 rfl) ?_
  refine lv_iload_n hx hb dX7_shift_22 rfl (lv_at hl 3 rfl) ?_
  refine lv_sipush (v := (-255)) hx hb dX7_shift_23 (by decide) ?_
  refine lv_sipush (v := 255) hx hb dX7_shift_26 (by decide) ?_
  refine cn_si (ck_S S lk_X7_58 (c_X7_in l am (-255) 255) ⟨rfl, rfl⟩ ⟨Nat.le_of_ble_eq_true rfl, Nat.le_of_ble_eq_true rfl⟩ bl_T t_U rfl hl.1 (Nat.le_of_ble_eq_true rfl) ⟨Nat.le_refl _, Nat.le_refl _⟩ dX7_shift_29 rfl) (fun r7 g8 => ?_)
  obtain rfl : r7 = rIn am (-255) 255 := g8
  refine tp_i (y := 1) (rIn_y k2.1 k2.2) ?_
  refine lv_if_ne (tgt := 39) hx hb dX7_shift_32 (by decide) (fun h32 => ?_) (fun h32 => absurd h32 (by decide))
  refine lv_iconst (v := 0) hx hb dX7_shift_39 (by decide) ?_
  refine lv_iconst (v := 2) hx hb dX7_shift_40 (by decide) ?_
  refine cn_wi (ck_V (a := eP E 0) S lk_X7_159 (c_X7_fails_n l E (up2 I 0 0 0) A K 2 hE rfl) ⟨rfl, rfl⟩ ⟨Nat.le_of_ble_eq_true rfl, Nat.le_of_ble_eq_true rfl⟩ bl_w (rc_w hK hP 0 (by decide) rfl rfl) (bw_U hE hK hC hP hS) rfl hl.1 (Nat.le_of_ble_eq_true rfl) ⟨Nat.le_refl _, Nat.le_refl _⟩ dX7_shift_41 rfl) hS (fun r9 u10 H locs g11 hP hS => ?_)
  obtain ⟨rfl, rfl⟩ : r9 = 0 ∧ u10 = ((up2 I 0 0 0), A, K) := g11
  have hP : Wp mN E mK ((up2 I 0 0 0), A, K) H := hP
  refine lv_if_ne (tgt := 75) hx hb dX7_shift_44 (by decide) (fun h44 => absurd h44 (by decide)) (fun h44 => ?_)
  refine lv_aload_n hx hb dX7_shift_47 rfl (lv_at hl 0 rfl) ?_
  refine lv_aload_n hx hb dX7_shift_48 rfl (lv_at hl 0 rfl) ?_
  refine rw_getr (x := ((up2 I 0 0 0), A, K)) S hK hP 0 (by decide) rfl fk_X7_17 rfl dX7_shift_49 ?_
  refine lv_iload_n hx hb dX7_shift_52 rfl (lv_at hl 1 rfl) ?_
  refine cn_si (ck_S S lk_X7_136 (c_X7_roleN l r) ⟨rfl, rfl⟩ ⟨Nat.le_of_ble_eq_true rfl, Nat.le_of_ble_eq_true rfl⟩ bl_T t_U rfl hl.1 (Nat.le_of_ble_eq_true rfl) ⟨Nat.le_refl _, Nat.le_refl _⟩ dX7_shift_53 rfl) (fun r12 g13 => ?_)
  obtain rfl : r12 = nI (4 + 3 * r) := g13
  refine lv_iconst (v := 2) hx hb dX7_shift_56 (by decide) ?_
  refine lv_iadd hx hb dX7_shift_57 ?_
  refine tp_i (y := nI ((4 + 3 * r) + 2)) (nI_add (4 + 3 * r) 2) ?_
  refine rw_iald (x := ((up2 I 0 0 0), A, K)) (v := A 2 ((4 + 3 * r) + 2)) S hK hP 2 (by decide) rfl ((4 + 3 * r) + 2) rfl (by omega) (by decide) rfl dX7_shift_58 ?_
  refine lv_iconst (v := 1) hx hb dX7_shift_59 (by decide) ?_
  refine lv_icmp_ne (tgt := 67) hx hb dX7_shift_60 (by decide) (fun h60 => absurd h60 (fun g => g kb)) (fun h60 => ?_)
  refine lv_iconst (v := 1) hx hb dX7_shift_63 (by decide) ?_
  refine lv_goto (tgt := 68) hx hb dX7_shift_64 (by decide) ?_
  refine lv_iconst (v := 3) hx hb dX7_shift_68 (by decide) ?_
  refine cn_wi (ck_V (a := eP E 0) S lk_X7_159 (c_X7_fails_b l E (up2 I 0 0 0) A K 3 hE rfl (by decide)) ⟨rfl, rfl⟩ ⟨Nat.le_of_ble_eq_true rfl, Nat.le_of_ble_eq_true rfl⟩ bl_w (rc_w hK hP 0 (by decide) rfl rfl) (bw_U hE hK hC hP hS) rfl hl.1 (Nat.le_of_ble_eq_true rfl) ⟨Nat.le_refl _, Nat.le_refl _⟩ dX7_shift_69 rfl) hS (fun r14 u15 H locs g16 hP hS => ?_)
  obtain ⟨rfl, rfl⟩ : r14 = 1 ∧ u15 = ((up2 (up2 I 0 0 0) 0 0 3), A, K) := g16
  have hP : Wp mN E mK ((up2 (up2 I 0 0 0) 0 0 3), A, K) H := hP
  refine lv_if_eq (tgt := 77) hx hb dX7_shift_72 (by decide) (fun h72 => absurd h72 (by decide)) (fun h72 => ?_)
  refine lv_iconst (v := 0) hx hb dX7_shift_75 (by decide) ?_
  exact re_wi (x := ((up2 (up2 I 0 0 0) 0 0 3), A, K)) (v := 0) hx hb hr hlk hP hS (by rw [up2_up]) dX7_shift_76

def mEx (A : Nat → Nat → Int32) : Nat → Nat → Nat → Int32 := lfo (fun r B => up2 (up2 B 2 (4 + 3 * r) (B 2 (4 + 3 * r + 1))) 2 (4 + 3 * r + 1) (B 2 (4 + 3 * r))) A
theorem mEx_s {A : Nat → Nat → Int32} {i : Nat} : mEx A (i + 1) = up2 (up2 (mEx A i) 2 (4 + 3 * i) (mEx A i 2 (4 + 3 * i + 1))) 2 (4 + 3 * i + 1) (mEx A i 2 (4 + 3 * i)) := rfl
theorem mEx_hi {A : Nat → Nat → Int32} {b : Nat} (hb : b < 4 ∨ 34 ≤ b ∨ b % 3 = 0) : ∀ n, n ≤ 10 → mEx A n 2 b = A 2 b
  | 0, _ => rfl
  | n + 1, hn => by rw [mEx_s, up2_j (by omega), up2_j (by omega), mEx_hi hb n (by omega)]
theorem mEx_vC {A : Nat → Nat → Int32} {m : Nat} (h : ∀ r, r < m → ∀ s, s < 2 → vC (mCol A r s)) : ∀ n, n ≤ m → ∀ r, r < m → ∀ s, s < 2 → vC (mCol (mEx A n) r s)
  | 0, _ => h
  | n + 1, hn => fun r hr s hs => by
    have ih := mEx_vC h n (by omega)
    have a0 := ih n (by omega) 0 (by decide)
    have a1 := ih n (by omega) 1 (by decide)
    have b0 := ih r hr s hs
    unfold mCol at *
    rw [mEx_s, up2_at]
    by_cases e1 : 2 = 2 ∧ 4 + 3 * r + s = 4 + 3 * n + 1
    · rw [if_pos e1]; exact a0
    · rw [if_neg e1, up2_at]
      by_cases e2 : 2 = 2 ∧ 4 + 3 * r + s = 4 + 3 * n
      · rw [if_pos e2]; exact a1
      · rw [if_neg e2]; exact b0
theorem MOk_ex {A : Nat → Nat → Int32} {nr nu n : Nat} (hn : n ≤ nr) (h : MOk A nr nu) : MOk (mEx A n) nr nu := by
  have h' := h
  obtain ⟨h1, ⟨h2, h3⟩, h4, h5⟩ := h
  have hn2 : n ≤ 10 := by omega
  refine ⟨h1, ⟨(mEx_hi (by omega) n hn2).trans h2, (mEx_hi (by omega) n hn2).trans h3⟩, fun u hu => ?_, mEx_vC h5 n hn⟩
  unfold mF mG
  rw [mEx_hi (by omega) n hn2, mEx_hi (by omega) n hn2]
  exact h4 u hu
set_option maxHeartbeats 1000000 in
set_option maxRecDepth 100000 in
theorem c_X7_swapSchemes (l : Launch) (E : En) (I A : Nat → Nat → Int32) (K : Nat → Nat → Int64) (nr nu ud : Nat) (hE : Ev mN E) (hM : MOk A nr nu) (hud : I 0 11 = nI ud) (hu8 : ud ≤ 8) : Met l yX7_swapSchemes (wz yX7_swapSchemes cX7_swapSchemes 3 (some .int)) (rmk 8 0 0 175) (va_Pc [.ref (eP E 0)] (Bw mN E mK (I, A, K))) (qWi mN E mK (fun zz uu => zz = mVio (mEx (mRem A ud) nr) 0 nu + mVio (mEx (mRem A ud) nr) 1 nu ∧ uu = ((up2 (up2 I 0 0 0) 0 11 (nI (min (ud + 1) 8))), mEx (mRem A ud) nr, K))) 0 0 (cA mN E) := by
  refine en_ofW RX7 rfl (by decide +kernel) (Nat.le_of_ble_eq_true rfl) ?_
  intro p e s m below meth c ls S hr hlk hnm hl hB
  have hx := S.1
  have hb := S.2.1
  obtain ⟨hK, hC, hP⟩ := hB
  have hS : va_S (cA mN E) s.heap s.heap [] := va_S.rf
  have hl : lv_has ls 3 [(0, .ref (eP E 0))] := hl
  obtain ⟨⟨hn1, hn2⟩, ⟨hr0, hr1⟩, hu3, hcv⟩ := id hM
  refine lv_aload_n hx hb dX7_swapSchemes_0 rfl (lv_at hl 0 rfl) ?_
  refine lv_iconst (v := 0) hx hb dX7_swapSchemes_1 (by decide) ?_
  refine rw_puti (x := (I, A, K)) (v := 0) S hE hK hP hS 0 (by decide) rfl fk_X7_35 rfl tyX7_ok nmX7 ⟨rfl, by decide +kernel⟩ dX7_swapSchemes_2 (fun H locs hP hS => ?_)
  have hP : Wp mN E mK ((up2 I 0 0 0), A, K) H := hP
  refine lv_aload_n hx hb dX7_swapSchemes_5 rfl (lv_at hl 0 rfl) ?_
  refine cn_wv (ck_V (a := eP E 0) S lk_X7_166 (c_X7_remember l E (up2 I 0 0 0) A K ud hE hud hu8) ⟨rfl, rfl⟩ ⟨Nat.le_of_ble_eq_true rfl, Nat.le_of_ble_eq_true rfl⟩ bl_w (rc_w hK hP 0 (by decide) rfl rfl) (bw_U hE hK hC hP hS) rfl hl.1 (Nat.le_of_ble_eq_true rfl) ⟨Nat.le_refl _, Nat.le_refl _⟩ dX7_swapSchemes_6 rfl) hS (fun u2 H locs g3 hP hS => ?_)
  obtain rfl : u2 = ((up2 (up2 I 0 0 0) 0 11 (nI (min (ud + 1) 8))), (mRem A ud), K) := g3
  have hP : Wp mN E mK ((up2 (up2 I 0 0 0) 0 11 (nI (min (ud + 1) 8))), (mRem A ud), K) H := hP
  refine lv_iconst (v := 0) hx hb dX7_swapSchemes_9 (by decide) ?_
  refine lv_istore_n (lv' := [(1, .int 0), (0, .ref (eP E 0))]) hx hb dX7_swapSchemes_10 rfl hl (by decide) rfl (fun ls hl => ?_)
  have HL : ∀ (n i : Nat), i + n = nr → ∀ (H : Heap) (locs : List Loc), Wp mN E mK ((up2 (up2 I 0 0 0) 0 11 (nI (min (ud + 1) 8))), (mEx (mRem A ud) i), K) H → va_S (cA mN E) s.heap H locs → ∀ ls : Array Slot, lv_has ls 3 [(1, .int (nI i)), (0, .ref (eP E 0))] → W p l e (rmk 8 0 0 175) s m ([.ref (eP E 0)] : List Value).toArray below meth c H locs 0 0 (MQ below (qWi mN E mK (fun zz uu => zz = mVio (mEx (mRem A ud) nr) 0 nu + mVio (mEx (mRem A ud) nr) 1 nu ∧ uu = ((up2 (up2 I 0 0 0) 0 11 (nI (min (ud + 1) 8))), mEx (mRem A ud) nr, K))) ([.ref (eP E 0)] : List Value).toArray s 0 0 (cA mN E)) (F0 m 11 ls []) := by
    intro n
    induction n with
    | zero =>
      intro i hi H locs hP hS ls hl
      have hiN : i = nr := by omega
      rw [hiN] at hl
      try rw [hiN] at hP
      refine lv_iload_n hx hb dX7_swapSchemes_11 rfl (lv_at hl 0 rfl) ?_
      refine lv_aload_n hx hb dX7_swapSchemes_12 rfl (lv_at hl 1 rfl) ?_
      refine rw_getr (x := ((up2 (up2 I 0 0 0) 0 11 (nI (min (ud + 1) 8))), (mEx (mRem A ud) nr), K)) S hK hP 0 (by decide) rfl fk_X7_17 rfl dX7_swapSchemes_13 ?_
      refine lv_iconst (v := 0) hx hb dX7_swapSchemes_16 (by decide) ?_
      refine rw_iald (x := ((up2 (up2 I 0 0 0) 0 11 (nI (min (ud + 1) 8))), (mEx (mRem A ud) nr), K)) (v := nI nr) S hK hP 2 (by decide) rfl 0 rfl (by decide) (by decide) ((mEx_hi (by omega) _ (by omega)).trans ((congrFun (mRem_ne hu8 (by decide)) 0).trans hr0)) dX7_swapSchemes_17 ?_
      refine lv_icmp_ge (tgt := 69) hx hb dX7_swapSchemes_18 (by decide) (fun h18 => ?_) (fun h18 => absurd (Int32.le_refl _) h18)
      refine lv_aload_n hx hb dX7_swapSchemes_69 rfl (lv_at hl 1 rfl) ?_
      have hM2 : MOk (mEx (mRem A ud) nr) nr nu := MOk_ex (Nat.le_refl _) (MOk_rem hu8 hM)
      refine cn_si (ck_V (a := eP E 0) S lk_X7_280 (c_X7_allViolated l E (up2 (up2 I 0 0 0) 0 11 (nI (min (ud + 1) 8))) (mEx (mRem A ud) nr) K nr nu hE hM2) ⟨rfl, rfl⟩ ⟨Nat.le_of_ble_eq_true rfl, Nat.le_of_ble_eq_true rfl⟩ bl_w (rc_w hK hP 0 (by decide) rfl rfl) (bw_U hE hK hC hP hS) rfl hl.1 (Nat.le_of_ble_eq_true rfl) ⟨Nat.le_refl _, Nat.le_refl _⟩ dX7_swapSchemes_70 rfl) (fun r4 g5 => ?_)
      obtain rfl : r4 = mVio (mEx (mRem A ud) nr) 0 nu + mVio (mEx (mRem A ud) nr) 1 nu := g5
      exact re_wi (x := ((up2 (up2 I 0 0 0) 0 11 (nI (min (ud + 1) 8))), (mEx (mRem A ud) nr), K)) (v := (mVio (mEx (mRem A ud) nr) 0 nu + mVio (mEx (mRem A ud) nr) 1 nu)) hx hb hr hlk hP hS ⟨rfl, rfl⟩ dX7_swapSchemes_73
    | succ n ih =>
      intro i hi H locs hP hS ls hl
      have hlt : i < nr := by omega
      refine lv_iload_n hx hb dX7_swapSchemes_11 rfl (lv_at hl 0 rfl) ?_
      refine lv_aload_n hx hb dX7_swapSchemes_12 rfl (lv_at hl 1 rfl) ?_
      refine rw_getr (x := ((up2 (up2 I 0 0 0) 0 11 (nI (min (ud + 1) 8))), (mEx (mRem A ud) i), K)) S hK hP 0 (by decide) rfl fk_X7_17 rfl dX7_swapSchemes_13 ?_
      refine lv_iconst (v := 0) hx hb dX7_swapSchemes_16 (by decide) ?_
      refine rw_iald (x := ((up2 (up2 I 0 0 0) 0 11 (nI (min (ud + 1) 8))), (mEx (mRem A ud) i), K)) (v := nI nr) S hK hP 2 (by decide) rfl 0 rfl (by decide) (by decide) ((mEx_hi (by omega) _ (by omega)).trans ((congrFun (mRem_ne hu8 (by decide)) 0).trans hr0)) dX7_swapSchemes_17 ?_
      refine lv_icmp_ge (tgt := 69) hx hb dX7_swapSchemes_18 (by decide) (fun h18 => absurd h18 (nI_ge hlt (by omega))) (fun h18 => ?_)
      refine lv_aload_n hx hb dX7_swapSchemes_21 rfl (lv_at hl 1 rfl) ?_
      refine rw_getr (x := ((up2 (up2 I 0 0 0) 0 11 (nI (min (ud + 1) 8))), (mEx (mRem A ud) i), K)) S hK hP 0 (by decide) rfl fk_X7_17 rfl dX7_swapSchemes_22 ?_
      refine lv_iload_n hx hb dX7_swapSchemes_25 rfl (lv_at hl 0 rfl) ?_
      refine cn_si (ck_S S lk_X7_136 (c_X7_roleN l i) ⟨rfl, rfl⟩ ⟨Nat.le_of_ble_eq_true rfl, Nat.le_of_ble_eq_true rfl⟩ bl_T t_U rfl hl.1 (Nat.le_of_ble_eq_true rfl) ⟨Nat.le_refl _, Nat.le_refl _⟩ dX7_swapSchemes_26 rfl) (fun r6 g7 => ?_)
      obtain rfl : r6 = nI (4 + 3 * i) := g7
      refine rw_iald (x := ((up2 (up2 I 0 0 0) 0 11 (nI (min (ud + 1) 8))), (mEx (mRem A ud) i), K)) (v := (mEx (mRem A ud) i) 2 (4 + 3 * i)) S hK hP 2 (by decide) rfl (4 + 3 * i) rfl (by omega) (by decide) rfl dX7_swapSchemes_29 ?_
      refine lv_istore_n (lv' := [(2, .int ((mEx (mRem A ud) i) 2 (4 + 3 * i))), (1, .int (nI i)), (0, .ref (eP E 0))]) hx hb dX7_swapSchemes_30 rfl hl (by decide) rfl (fun ls hl => ?_)
      refine lv_aload_n hx hb dX7_swapSchemes_31 rfl (lv_at hl 2 rfl) ?_
      refine rw_getr (x := ((up2 (up2 I 0 0 0) 0 11 (nI (min (ud + 1) 8))), (mEx (mRem A ud) i), K)) S hK hP 0 (by decide) rfl fk_X7_17 rfl dX7_swapSchemes_32 ?_
      refine lv_iload_n hx hb dX7_swapSchemes_35 rfl (lv_at hl 1 rfl) ?_
      refine cn_si (ck_S S lk_X7_136 (c_X7_roleN l i) ⟨rfl, rfl⟩ ⟨Nat.le_of_ble_eq_true rfl, Nat.le_of_ble_eq_true rfl⟩ bl_T t_U rfl hl.1 (Nat.le_of_ble_eq_true rfl) ⟨Nat.le_refl _, Nat.le_refl _⟩ dX7_swapSchemes_36 rfl) (fun r8 g9 => ?_)
      obtain rfl : r8 = nI (4 + 3 * i) := g9
      refine lv_aload_n hx hb dX7_swapSchemes_39 rfl (lv_at hl 2 rfl) ?_
      refine rw_getr (x := ((up2 (up2 I 0 0 0) 0 11 (nI (min (ud + 1) 8))), (mEx (mRem A ud) i), K)) S hK hP 0 (by decide) rfl fk_X7_17 rfl dX7_swapSchemes_40 ?_
      refine lv_iload_n hx hb dX7_swapSchemes_43 rfl (lv_at hl 1 rfl) ?_
      refine cn_si (ck_S S lk_X7_136 (c_X7_roleN l i) ⟨rfl, rfl⟩ ⟨Nat.le_of_ble_eq_true rfl, Nat.le_of_ble_eq_true rfl⟩ bl_T t_U rfl hl.1 (Nat.le_of_ble_eq_true rfl) ⟨Nat.le_refl _, Nat.le_refl _⟩ dX7_swapSchemes_44 rfl) (fun r10 g11 => ?_)
      obtain rfl : r10 = nI (4 + 3 * i) := g11
      refine lv_iconst (v := 1) hx hb dX7_swapSchemes_47 (by decide) ?_
      refine lv_iadd hx hb dX7_swapSchemes_48 ?_
      refine tp_i (y := nI ((4 + 3 * i) + 1)) (nI_add (4 + 3 * i) 1) ?_
      refine rw_iald (x := ((up2 (up2 I 0 0 0) 0 11 (nI (min (ud + 1) 8))), (mEx (mRem A ud) i), K)) (v := (mEx (mRem A ud) i) 2 ((4 + 3 * i) + 1)) S hK hP 2 (by decide) rfl ((4 + 3 * i) + 1) rfl (by omega) (by decide) rfl dX7_swapSchemes_49 ?_
      refine rw_iast (x := ((up2 (up2 I 0 0 0) 0 11 (nI (min (ud + 1) 8))), (mEx (mRem A ud) i), K)) (v := (mEx (mRem A ud) i) 2 ((4 + 3 * i) + 1)) S hE hK hP hS 2 (by decide) rfl (4 + 3 * i) rfl (by omega) (by decide) dX7_swapSchemes_50 (fun H locs hP hS => ?_)
      have hP : Wp mN E mK ((up2 (up2 I 0 0 0) 0 11 (nI (min (ud + 1) 8))), (up2 (mEx (mRem A ud) i) 2 (4 + 3 * i) ((mEx (mRem A ud) i) 2 ((4 + 3 * i) + 1))), K) H := hP
      refine lv_aload_n hx hb dX7_swapSchemes_51 rfl (lv_at hl 2 rfl) ?_
      refine rw_getr (x := ((up2 (up2 I 0 0 0) 0 11 (nI (min (ud + 1) 8))), (up2 (mEx (mRem A ud) i) 2 (4 + 3 * i) ((mEx (mRem A ud) i) 2 ((4 + 3 * i) + 1))), K)) S hK hP 0 (by decide) rfl fk_X7_17 rfl dX7_swapSchemes_52 ?_
      refine lv_iload_n hx hb dX7_swapSchemes_55 rfl (lv_at hl 1 rfl) ?_
      refine cn_si (ck_S S lk_X7_136 (c_X7_roleN l i) ⟨rfl, rfl⟩ ⟨Nat.le_of_ble_eq_true rfl, Nat.le_of_ble_eq_true rfl⟩ bl_T t_U rfl hl.1 (Nat.le_of_ble_eq_true rfl) ⟨Nat.le_refl _, Nat.le_refl _⟩ dX7_swapSchemes_56 rfl) (fun r12 g13 => ?_)
      obtain rfl : r12 = nI (4 + 3 * i) := g13
      refine lv_iconst (v := 1) hx hb dX7_swapSchemes_59 (by decide) ?_
      refine lv_iadd hx hb dX7_swapSchemes_60 ?_
      refine tp_i (y := nI ((4 + 3 * i) + 1)) (nI_add (4 + 3 * i) 1) ?_
      refine lv_iload_n hx hb dX7_swapSchemes_61 rfl (lv_at hl 0 rfl) ?_
      refine rw_iast (x := ((up2 (up2 I 0 0 0) 0 11 (nI (min (ud + 1) 8))), (up2 (mEx (mRem A ud) i) 2 (4 + 3 * i) ((mEx (mRem A ud) i) 2 ((4 + 3 * i) + 1))), K)) (v := (mEx (mRem A ud) i) 2 (4 + 3 * i)) S hE hK hP hS 2 (by decide) rfl ((4 + 3 * i) + 1) rfl (by omega) (by decide) dX7_swapSchemes_62 (fun H locs hP hS => ?_)
      have hP : Wp mN E mK ((up2 (up2 I 0 0 0) 0 11 (nI (min (ud + 1) 8))), (up2 (up2 (mEx (mRem A ud) i) 2 (4 + 3 * i) ((mEx (mRem A ud) i) 2 ((4 + 3 * i) + 1))) 2 ((4 + 3 * i) + 1) ((mEx (mRem A ud) i) 2 (4 + 3 * i))), K) H := hP
      refine lv_iinc (v := nI (i + 1)) (lv' := [(1, .int (nI (i + 1))), (2, .int ((mEx (mRem A ud) i) 2 (4 + 3 * i))), (0, .ref (eP E 0))]) hx hb dX7_swapSchemes_63 hl (k := 1) rfl (nI_1 _) (by decide) rfl (fun ls hl => ?_)
      refine lv_goto (tgt := 11) hx hb dX7_swapSchemes_66 (by decide) ?_
      exact ih (i + 1) (by omega) _ _ hP hS ls (lv_sub hl [0, 2] rfl)
  exact HL nr 0 (by omega) _ _ hP hS ls (lv_sub hl [0, 1] rfl)

