def cRep (nu : Nat) : Nat → (Nat → Nat → Int32) → Nat × (Nat → Nat → Int32)
  | 0, A => (0, A)
  | n + 1, A => if (cMnd A 0 nu (2 * nu) 0).1 = 0 then (0, (cMnd A 0 nu (2 * nu) 0).2) else ((cRep nu n (cMnd A 0 nu (2 * nu) 0).2).1 + 1, (cRep nu n (cMnd A 0 nu (2 * nu) 0).2).2)
theorem cRep_n {nu n : Nat} {A : Nat → Nat → Int32} (h : (cMnd A 0 nu (2 * nu) 0).1 = 0) : cRep nu (n + 1) A = (0, (cMnd A 0 nu (2 * nu) 0).2) := if_pos h
theorem cRep_y {nu n : Nat} {A : Nat → Nat → Int32} (h : ¬ (cMnd A 0 nu (2 * nu) 0).1 = 0) : cRep nu (n + 1) A = ((cRep nu n (cMnd A 0 nu (2 * nu) 0).2).1 + 1, (cRep nu n (cMnd A 0 nu (2 * nu) 0).2).2) := if_neg h
theorem DOk_mnd {I : Nat → Nat → Int32} {d nr nu : Nat} : ∀ (n i : Nat) (A : Nat → Nat → Int32), DOk I A d nr nu → DOk I (cMnd A d nu n i).2 d nr nu
  | 0, _, _, h => h
  | n + 1, i, A, h => by
    by_cases hk : cKept A d (i / 2) (i % 2) = 0
    · rcases hq : cBest A d (i / 2) (i % 2) nu with _ | ch
      · rw [cMnd_n hk hq]
        exact DOk_mnd n (i + 1) A h
      · rw [cMnd_y hk hq]
        exact DOk_col (Nat.mod_lt _ (by decide)) h
    · rw [cMnd_k hk]
      exact DOk_mnd n (i + 1) A h
set_option maxHeartbeats 1000000 in
set_option maxRecDepth 100000 in
theorem c_X6_violation (l : Launch) (E : En) (I A : Nat → Nat → Int32) (K : Nat → Nat → Int64) (x : Int32) (nr nu pl : Nat) (hE : Ev cN E) (hD : DOk I A 0 nr nu) (kp1 : cVP A 0 x (2 * nu) 0 0 = nI pl) (kp2 : pl < 1000) : Met l yX6_violation (wz yX6_violation cX6_violation 3 (some .int)) (rmk 6 0 0 136) (va_Pc [.ref (eP E 0), .int x] (Bw cN E cK (I, A, K))) (qSi (fun zz => zz = nI (10 * (pl / 2) + pl % 2))) 0 0 fr0 := by
  refine en_ofW RX6 rfl (by decide +kernel) (Nat.le_of_ble_eq_true rfl) ?_
  intro p e s m below meth c ls S hr hlk hnm hl hB
  have hx := S.1
  have hb := S.2.1
  obtain ⟨hK, hC, hP⟩ := hB
  have hS : va_S (cA cN E) s.heap s.heap [] := va_S.rf
  have hl : lv_has ls 3 [(0, .ref (eP E 0)), (1, .int x)] := hl
  obtain ⟨⟨hn1, hn2⟩, ⟨hr0, hr3⟩, hu3⟩ := id hD
  refine lv_aload_n hx hb dX6_violation_0 rfl (lv_at hl 0 rfl) ?_
  refine rw_getr (x := (I, A, K)) S hK hP 0 (by decide) (cK_lo (by decide)) fk_X6_25 rfl dX6_violation_1 ?_
  refine lv_iload_n hx hb dX6_violation_4 rfl (lv_at hl 1 rfl) ?_
  refine cn_si (ck_V (a := eP E (dB 0 0)) S lk_X6_131 (c_X1_violationPlace l E I A K x 0 nr nu hE (by decide) hD) ⟨rfl, rfl⟩ ⟨Nat.le_of_ble_eq_true rfl, Nat.le_of_ble_eq_true rfl⟩ bl_w (rc_w hK hP (dB 0 0) (dB_lt (by decide) (by decide)) (cK_D (by decide)) rfl) (bw_U hE hK hC hP hS) rfl hl.1 (Nat.le_of_ble_eq_true rfl) ⟨Nat.le_refl _, Nat.le_refl _⟩ dX6_violation_5 rfl) (fun r1 g2 => ?_)
  obtain rfl : r1 = cVP A 0 x (2 * nu) 0 0 := g2
  refine tp_i (y := nI pl) kp1 ?_
  refine lv_istore_n (lv' := [(2, .int (nI pl)), (0, .ref (eP E 0)), (1, .int x)]) hx hb dX6_violation_8 rfl hl (by decide) rfl (fun ls hl => ?_)
  refine lv_iload_n hx hb dX6_violation_9 rfl (lv_at hl 0 rfl) ?_
  refine lv_if_ge (tgt := 23) hx hb dX6_violation_10 (by decide) (fun h10 => ?_) (fun h10 => absurd (nI_pos' (by omega)) h10)
  refine lv_bipush (v := 10) hx hb dX6_violation_23 (by decide) ?_
  refine lv_iload_n hx hb dX6_violation_25 rfl (lv_at hl 0 rfl) ?_
  refine lv_iconst (v := 2) hx hb dX6_violation_26 (by decide) ?_
  refine lv_idiv hx hb dX6_violation_27 (by decide) ?_
  refine tp_i (y := nI (pl / 2)) (pk_div (by omega) (by decide) (by decide)) ?_
  refine lv_imul hx hb dX6_violation_28 ?_
  refine tp_i (y := nI (10 * (pl / 2))) (pk_mul 10 (pl / 2)) ?_
  refine lv_iload_n hx hb dX6_violation_29 rfl (lv_at hl 0 rfl) ?_
  refine lv_iconst (v := 2) hx hb dX6_violation_30 (by decide) ?_
  refine lv_irem hx hb dX6_violation_31 (by decide) ?_
  refine tp_i (y := nI (pl % 2)) (pk_rem (by omega) (by decide) (by decide)) ?_
  refine lv_iadd hx hb dX6_violation_32 ?_
  refine tp_i (y := nI (10 * (pl / 2) + pl % 2)) (nI_add _ _) ?_
  exact re_si (v := (nI (10 * (pl / 2) + pl % 2))) hx hb hr hlk rfl dX6_violation_33

set_option maxHeartbeats 1000000 in
set_option maxRecDepth 100000 in
theorem c_X6_setColour (l : Launch) (E : En) (I A : Nat → Nat → Int32) (K : Nat → Nat → Int64) (nr nu : Nat) (r : Nat) (sc : Nat) (x : Int32) (nx kp : Nat) (hE : Ev cN E) (hD : DOk I A 0 nr nu) (k1 : r < nr) (k2 : sc < 2) (k3 : ¬ x < 0 ∧ ¬ 16777215 < x) (hnx : I 6 1 = nI nx) (hkp : I 6 2 = nI kp) (hn8 : nx < 8) (hk8 : kp ≤ 8) : Met l yX6_setColour (wz yX6_setColour cX6_setColour 5 (some .int)) (rmk 3 0 0 103) (va_Pc [.ref (eP E 0), .int (nI r), .int (nI sc), .int x] (Bw cN E cK (I, A, K))) (qWi cN E cK (fun zz uu => zz = cCpy A (2 + nx) 0 (dB 0 (2 + sc)) r ∧ uu = (hKeI I 0 nx kp, up2 (cCpy A (2 + nx) 0) (dB 0 (2 + sc)) r x, K))) 0 0 (cA cN E) := by
  refine en_ofW RX6 rfl (by decide +kernel) (Nat.le_of_ble_eq_true rfl) ?_
  intro p e s m below meth c ls S hr hlk hnm hl hB
  have hx := S.1
  have hb := S.2.1
  obtain ⟨hK, hC, hP⟩ := hB
  have hS : va_S (cA cN E) s.heap s.heap [] := va_S.rf
  have hl : lv_has ls 5 [(0, .ref (eP E 0)), (1, .int (nI r)), (2, .int (nI sc)), (3, .int x)] := hl
  obtain ⟨⟨hn1, hn2⟩, ⟨hr0, hr3⟩, hu3⟩ := id hD
  refine lv_aload_n hx hb dX6_setColour_0 rfl (lv_at hl 0 rfl) ?_
  refine lv_iload_n hx hb dX6_setColour_1 rfl (lv_at hl 1 rfl) ?_
  refine cn_sv (ck_V (a := eP E 0) S lk_X6_78 (c_X6_requireRole l E I A K r nr nu hE hD k1) ⟨rfl, rfl⟩ ⟨Nat.le_of_ble_eq_true rfl, Nat.le_of_ble_eq_true rfl⟩ bl_w (rc_w hK hP 0 (by decide) (cK_lo (by decide)) rfl) (bw_U hE hK hC hP hS) rfl hl.1 (Nat.le_of_ble_eq_true rfl) ⟨Nat.le_refl _, Nat.le_refl _⟩ dX6_setColour_2 rfl) ?_
  refine lv_aload_n hx hb dX6_setColour_5 rfl (lv_at hl 0 rfl) ?_
  refine lv_iload_n hx hb dX6_setColour_6 rfl (lv_at hl 2 rfl) ?_
  refine cn_sv (ck_V (a := eP E 0) S lk_X6_82 (c_X6_requireScheme l E I A K sc nr nu hE hD k2) ⟨rfl, rfl⟩ ⟨Nat.le_of_ble_eq_true rfl, Nat.le_of_ble_eq_true rfl⟩ bl_w (rc_w hK hP 0 (by decide) (cK_lo (by decide)) rfl) (bw_U hE hK hC hP hS) rfl hl.1 (Nat.le_of_ble_eq_true rfl) ⟨Nat.le_refl _, Nat.le_refl _⟩ dX6_setColour_7 rfl) ?_
  refine lv_aload_n hx hb dX6_setColour_10 rfl (lv_at hl 0 rfl) ?_
  refine lv_iload_n hx hb dX6_setColour_11 rfl (lv_at hl 3 rfl) ?_
  refine cn_sv (ck_V (a := eP E 0) S lk_X6_113 (c_X6_requireColour l E I A K x nr nu hE hD k3) ⟨rfl, rfl⟩ ⟨Nat.le_of_ble_eq_true rfl, Nat.le_of_ble_eq_true rfl⟩ bl_w (rc_w hK hP 0 (by decide) (cK_lo (by decide)) rfl) (bw_U hE hK hC hP hS) rfl hl.1 (Nat.le_of_ble_eq_true rfl) ⟨Nat.le_refl _, Nat.le_refl _⟩ dX6_setColour_12 rfl) ?_
  refine lv_aload_n hx hb dX6_setColour_15 rfl (lv_at hl 0 rfl) ?_
  refine rw_getr (x := (I, A, K)) S hK hP 0 (by decide) (cK_lo (by decide)) fk_X6_35 rfl dX6_setColour_16 ?_
  refine lv_aload_n hx hb dX6_setColour_19 rfl (lv_at hl 0 rfl) ?_
  refine rw_getr (x := (I, A, K)) S hK hP 0 (by decide) (cK_lo (by decide)) fk_X6_25 rfl dX6_setColour_20 ?_
  refine cn_wv (ck_V (a := eP E 6) S lk_X6_65 (c_X3_keep l E I A K 0 nx kp hE hnx hkp hn8 hk8 (by decide)) ⟨rfl, rfl⟩ ⟨Nat.le_of_ble_eq_true rfl, Nat.le_of_ble_eq_true rfl⟩ bl_w (rc_w hK hP 6 (by decide) (cK_lo (by decide)) rfl) (bw_U hE hK hC hP hS) rfl hl.1 (Nat.le_of_ble_eq_true rfl) ⟨Nat.le_refl _, Nat.le_refl _⟩ dX6_setColour_23 rfl) hS (fun u2 H locs g3 hP hS => ?_)
  obtain rfl : u2 = (hKeI I 0 nx kp, cCpy A (2 + nx) 0, K) := g3
  have hP : Wp cN E cK ((hKeI I 0 nx kp), (cCpy A (2 + nx) 0), K) H := hP
  refine lv_aload_n hx hb dX6_setColour_26 rfl (lv_at hl 0 rfl) ?_
  refine rw_getr (x := ((hKeI I 0 nx kp), (cCpy A (2 + nx) 0), K)) S hK hP 0 (by decide) (cK_lo (by decide)) fk_X6_25 rfl dX6_setColour_27 ?_
  refine rw_getr (x := ((hKeI I 0 nx kp), (cCpy A (2 + nx) 0), K)) S hK hP (dB 0 0) (dB_lt (by decide) (by decide)) (cK_D (by decide)) fk_X6_85 rfl dX6_setColour_30 ?_
  refine lv_iload_n hx hb dX6_setColour_33 rfl (lv_at hl 2 rfl) ?_
  refine rw_aald (x := ((hKeI I 0 nx kp), (cCpy A (2 + nx) 0), K)) (r := (dB 0 (2 + sc))) S hK hP (dB 0 1) (dB_lt (by decide) (by decide)) 5 (cK_D (by decide)) rfl rfl sc rfl (by omega) (by decide) rfl dX6_setColour_34 ?_
  refine lv_iload_n hx hb dX6_setColour_35 rfl (lv_at hl 1 rfl) ?_
  refine rw_iald (x := ((hKeI I 0 nx kp), (cCpy A (2 + nx) 0), K)) (v := (cCpy A (2 + nx) 0) (dB 0 (2 + sc)) r) S hK hP (dB 0 (2 + sc)) (dB_lt (by decide) (by omega)) (cK_col (by omega)) r rfl (by omega) (by decide) rfl dX6_setColour_36 ?_
  refine lv_istore (lv' := [(4, .int ((cCpy A (2 + nx) 0) (dB 0 (2 + sc)) r)), (0, .ref (eP E 0)), (1, .int (nI r)), (2, .int (nI sc)), (3, .int x)]) hx hb dX6_setColour_37 hl (by decide) rfl (fun ls hl => ?_)
  refine lv_aload_n hx hb dX6_setColour_39 rfl (lv_at hl 1 rfl) ?_
  refine rw_getr (x := ((hKeI I 0 nx kp), (cCpy A (2 + nx) 0), K)) S hK hP 0 (by decide) (cK_lo (by decide)) fk_X6_25 rfl dX6_setColour_40 ?_
  refine rw_getr (x := ((hKeI I 0 nx kp), (cCpy A (2 + nx) 0), K)) S hK hP (dB 0 0) (dB_lt (by decide) (by decide)) (cK_D (by decide)) fk_X6_85 rfl dX6_setColour_43 ?_
  refine lv_iload_n hx hb dX6_setColour_46 rfl (lv_at hl 3 rfl) ?_
  refine rw_aald (x := ((hKeI I 0 nx kp), (cCpy A (2 + nx) 0), K)) (r := (dB 0 (2 + sc))) S hK hP (dB 0 1) (dB_lt (by decide) (by decide)) 5 (cK_D (by decide)) rfl rfl sc rfl (by omega) (by decide) rfl dX6_setColour_47 ?_
  refine lv_iload_n hx hb dX6_setColour_48 rfl (lv_at hl 2 rfl) ?_
  refine lv_iload_n hx hb dX6_setColour_49 rfl (lv_at hl 4 rfl) ?_
  refine rw_iast (x := ((hKeI I 0 nx kp), (cCpy A (2 + nx) 0), K)) (v := x) S hE hK hP hS (dB 0 (2 + sc)) (dB_lt (by decide) (by omega)) (cK_col (by omega)) r rfl (by omega) (by decide) dX6_setColour_50 (fun H locs hP hS => ?_)
  have hP : Wp cN E cK ((hKeI I 0 nx kp), (up2 (cCpy A (2 + nx) 0) (dB 0 (2 + sc)) r x), K) H := hP
  refine lv_iload hx hb dX6_setColour_51 (lv_at hl 0 rfl) ?_
  exact re_wi (x := ((hKeI I 0 nx kp), (up2 (cCpy A (2 + nx) 0) (dB 0 (2 + sc)) r x), K)) (v := (cCpy A (2 + nx) 0) (dB 0 (2 + sc)) r) hx hb hr hlk hP hS ⟨rfl, rfl⟩ dX6_setColour_53

set_option maxHeartbeats 1000000 in
set_option maxRecDepth 100000 in
theorem cx_X6_setColour_0 (l : Launch) (E : En) (I A : Nat → Nat → Int32) (K : Nat → Nat → Int64) (nr nu : Nat) (x0 : Int32) (x1 : Int32) (x2 : Int32) (hE : Ev cN E) (hD : DOk I A 0 nr nu) (hfl : l.stackTraces = false) (kb : x0 < 0 ∨ nI nr ≤ x0) : vx_Met l yX6_setColour (wz yX6_setColour cX6_setColour 5 (some .int)) (rmk 7 1 6 116) (va_Pc [.ref (eP E 0), .int x0, .int x1, .int x2] (Bw cN E cK (I, A, K))) qNo (xC "java/lang/IndexOutOfBoundsException") 1 6 fr0 := by
  refine en_ofX RX6 rfl (by decide +kernel) (Nat.le_of_ble_eq_true rfl) ?_
  intro p e s m below meth c ls S hr hlk hnm hout hl hB
  have hx := S.1
  have hb := S.2.1
  obtain ⟨hK, hC, hP⟩ := hB
  have hS : va_S (cA cN E) s.heap s.heap [] := va_S.rf
  have hl : lv_has ls 5 [(0, .ref (eP E 0)), (1, .int x0), (2, .int x1), (3, .int x2)] := hl
  obtain ⟨⟨hn1, hn2⟩, ⟨hr0, hr3⟩, hu3⟩ := id hD
  refine lv_aload_n hx hb dX6_setColour_0 rfl (lv_at hl 0 rfl) ?_
  refine lv_iload_n hx hb dX6_setColour_1 rfl (lv_at hl 1 rfl) ?_
  exact xk_V (a := eP E 0) S lk_X6_78 (cx_X6_requireRole l E I A K x0 nr nu hE hD hfl kb) ⟨Nat.le_of_ble_eq_true rfl, Nat.le_of_ble_eq_true rfl⟩ (rc_w hK hP 0 (by decide) (cK_lo (by decide)) rfl) (bw_U hE hK hC hP hS) rfl hl.1 (Nat.le_of_ble_eq_true rfl) dX6_setColour_2 rfl hout hlk ⟨Nat.le_of_ble_eq_true rfl, Nat.le_of_ble_eq_true rfl⟩ bl_w

set_option maxHeartbeats 1000000 in
set_option maxRecDepth 100000 in
theorem cx_X6_setColour_1 (l : Launch) (E : En) (I A : Nat → Nat → Int32) (K : Nat → Nat → Int64) (nr nu : Nat) (r : Nat) (x1 : Int32) (x2 : Int32) (hE : Ev cN E) (hD : DOk I A 0 nr nu) (hfl : l.stackTraces = false) (k1 : r < nr) (kb : x1 < 0 ∨ 2 ≤ x1) : vx_Met l yX6_setColour (wz yX6_setColour cX6_setColour 5 (some .int)) (rmk 7 1 6 116) (va_Pc [.ref (eP E 0), .int (nI r), .int x1, .int x2] (Bw cN E cK (I, A, K))) qNo (xC "java/lang/IndexOutOfBoundsException") 1 6 fr0 := by
  refine en_ofX RX6 rfl (by decide +kernel) (Nat.le_of_ble_eq_true rfl) ?_
  intro p e s m below meth c ls S hr hlk hnm hout hl hB
  have hx := S.1
  have hb := S.2.1
  obtain ⟨hK, hC, hP⟩ := hB
  have hS : va_S (cA cN E) s.heap s.heap [] := va_S.rf
  have hl : lv_has ls 5 [(0, .ref (eP E 0)), (1, .int (nI r)), (2, .int x1), (3, .int x2)] := hl
  obtain ⟨⟨hn1, hn2⟩, ⟨hr0, hr3⟩, hu3⟩ := id hD
  refine lv_aload_n hx hb dX6_setColour_0 rfl (lv_at hl 0 rfl) ?_
  refine lv_iload_n hx hb dX6_setColour_1 rfl (lv_at hl 1 rfl) ?_
  refine cn_sv (ck_V (a := eP E 0) S lk_X6_78 (c_X6_requireRole l E I A K r nr nu hE hD k1) ⟨rfl, rfl⟩ ⟨Nat.le_of_ble_eq_true rfl, Nat.le_of_ble_eq_true rfl⟩ bl_w (rc_w hK hP 0 (by decide) (cK_lo (by decide)) rfl) (bw_U hE hK hC hP hS) rfl hl.1 (Nat.le_of_ble_eq_true rfl) ⟨Nat.zero_le _, Nat.zero_le _⟩ dX6_setColour_2 rfl) ?_
  refine lv_aload_n hx hb dX6_setColour_5 rfl (lv_at hl 0 rfl) ?_
  refine lv_iload_n hx hb dX6_setColour_6 rfl (lv_at hl 2 rfl) ?_
  exact xk_V (a := eP E 0) S lk_X6_82 (cx_X6_requireScheme l E I A K x1 nr nu hE hD hfl kb) ⟨Nat.le_of_ble_eq_true rfl, Nat.le_of_ble_eq_true rfl⟩ (rc_w hK hP 0 (by decide) (cK_lo (by decide)) rfl) (bw_U hE hK hC hP hS) rfl hl.1 (Nat.le_of_ble_eq_true rfl) dX6_setColour_7 rfl hout hlk ⟨Nat.le_of_ble_eq_true rfl, Nat.le_of_ble_eq_true rfl⟩ bl_w

set_option maxHeartbeats 1000000 in
set_option maxRecDepth 100000 in
theorem cx_X6_setColour_2 (l : Launch) (E : En) (I A : Nat → Nat → Int32) (K : Nat → Nat → Int64) (nr nu : Nat) (r : Nat) (sc : Nat) (x2 : Int32) (hE : Ev cN E) (hD : DOk I A 0 nr nu) (hfl : l.stackTraces = false) (k1 : r < nr) (k2 : sc < 2) (kb : x2 < 0 ∨ 16777215 < x2) : vx_Met l yX6_setColour (wz yX6_setColour cX6_setColour 5 (some .int)) (rmk 7 1 6 116) (va_Pc [.ref (eP E 0), .int (nI r), .int (nI sc), .int x2] (Bw cN E cK (I, A, K))) qNo (xC "java/lang/IllegalArgumentException") 1 6 fr0 := by
  refine en_ofX RX6 rfl (by decide +kernel) (Nat.le_of_ble_eq_true rfl) ?_
  intro p e s m below meth c ls S hr hlk hnm hout hl hB
  have hx := S.1
  have hb := S.2.1
  obtain ⟨hK, hC, hP⟩ := hB
  have hS : va_S (cA cN E) s.heap s.heap [] := va_S.rf
  have hl : lv_has ls 5 [(0, .ref (eP E 0)), (1, .int (nI r)), (2, .int (nI sc)), (3, .int x2)] := hl
  obtain ⟨⟨hn1, hn2⟩, ⟨hr0, hr3⟩, hu3⟩ := id hD
  refine lv_aload_n hx hb dX6_setColour_0 rfl (lv_at hl 0 rfl) ?_
  refine lv_iload_n hx hb dX6_setColour_1 rfl (lv_at hl 1 rfl) ?_
  refine cn_sv (ck_V (a := eP E 0) S lk_X6_78 (c_X6_requireRole l E I A K r nr nu hE hD k1) ⟨rfl, rfl⟩ ⟨Nat.le_of_ble_eq_true rfl, Nat.le_of_ble_eq_true rfl⟩ bl_w (rc_w hK hP 0 (by decide) (cK_lo (by decide)) rfl) (bw_U hE hK hC hP hS) rfl hl.1 (Nat.le_of_ble_eq_true rfl) ⟨Nat.zero_le _, Nat.zero_le _⟩ dX6_setColour_2 rfl) ?_
  refine lv_aload_n hx hb dX6_setColour_5 rfl (lv_at hl 0 rfl) ?_
  refine lv_iload_n hx hb dX6_setColour_6 rfl (lv_at hl 2 rfl) ?_
  refine cn_sv (ck_V (a := eP E 0) S lk_X6_82 (c_X6_requireScheme l E I A K sc nr nu hE hD k2) ⟨rfl, rfl⟩ ⟨Nat.le_of_ble_eq_true rfl, Nat.le_of_ble_eq_true rfl⟩ bl_w (rc_w hK hP 0 (by decide) (cK_lo (by decide)) rfl) (bw_U hE hK hC hP hS) rfl hl.1 (Nat.le_of_ble_eq_true rfl) ⟨Nat.zero_le _, Nat.zero_le _⟩ dX6_setColour_7 rfl) ?_
  refine lv_aload_n hx hb dX6_setColour_10 rfl (lv_at hl 0 rfl) ?_
  refine lv_iload_n hx hb dX6_setColour_11 rfl (lv_at hl 3 rfl) ?_
  exact xk_V (a := eP E 0) S lk_X6_113 (cx_X6_requireColour l E I A K x2 nr nu hE hD hfl kb) ⟨Nat.le_of_ble_eq_true rfl, Nat.le_of_ble_eq_true rfl⟩ (rc_w hK hP 0 (by decide) (cK_lo (by decide)) rfl) (bw_U hE hK hC hP hS) rfl hl.1 (Nat.le_of_ble_eq_true rfl) dX6_setColour_12 rfl hout hlk ⟨Nat.le_of_ble_eq_true rfl, Nat.le_of_ble_eq_true rfl⟩ bl_w

set_option maxHeartbeats 1000000 in
set_option maxRecDepth 100000 in
theorem c_X6_setFixed (l : Launch) (E : En) (I A : Nat → Nat → Int32) (K : Nat → Nat → Int64) (nr nu : Nat) (r : Nat) (am : Int32) (nx kp : Nat) (hE : Ev cN E) (hD : DOk I A 0 nr nu) (k1 : r < nr) (hnx : I 6 1 = nI nx) (hkp : I 6 2 = nI kp) (hn8 : nx < 8) (hk8 : kp ≤ 8) (hf1 : A (dB 0 4) r = 0 ∨ A (dB 0 4) r = 1) : Met l yX6_setFixed (wz yX6_setFixed cX6_setFixed 4 (some .boolean)) (rmk 3 0 0 103) (va_Pc [.ref (eP E 0), .int (nI r), .int am] (Bw cN E cK (I, A, K))) (qWi cN E cK (fun zz uu => zz = cCpy A (2 + nx) 0 (dB 0 4) r ∧ uu = (hKeI I 0 nx kp, up2 (cCpy A (2 + nx) 0) (dB 0 4) r (vp_nar .boolean am), K))) 0 0 (cA cN E) := by
  refine en_ofW RX6 rfl (by decide +kernel) (Nat.le_of_ble_eq_true rfl) ?_
  intro p e s m below meth c ls S hr hlk hnm hl hB
  have hx := S.1
  have hb := S.2.1
  obtain ⟨hK, hC, hP⟩ := hB
  have hS : va_S (cA cN E) s.heap s.heap [] := va_S.rf
  have hl : lv_has ls 4 [(0, .ref (eP E 0)), (1, .int (nI r)), (2, .int am)] := hl
  obtain ⟨⟨hn1, hn2⟩, ⟨hr0, hr3⟩, hu3⟩ := id hD
  refine lv_aload_n hx hb dX6_setFixed_0 rfl (lv_at hl 0 rfl) ?_
  refine lv_iload_n hx hb dX6_setFixed_1 rfl (lv_at hl 1 rfl) ?_
  refine cn_sv (ck_V (a := eP E 0) S lk_X6_78 (c_X6_requireRole l E I A K r nr nu hE hD k1) ⟨rfl, rfl⟩ ⟨Nat.le_of_ble_eq_true rfl, Nat.le_of_ble_eq_true rfl⟩ bl_w (rc_w hK hP 0 (by decide) (cK_lo (by decide)) rfl) (bw_U hE hK hC hP hS) rfl hl.1 (Nat.le_of_ble_eq_true rfl) ⟨Nat.le_refl _, Nat.le_refl _⟩ dX6_setFixed_2 rfl) ?_
  refine lv_aload_n hx hb dX6_setFixed_5 rfl (lv_at hl 0 rfl) ?_
  refine rw_getr (x := (I, A, K)) S hK hP 0 (by decide) (cK_lo (by decide)) fk_X6_35 rfl dX6_setFixed_6 ?_
  refine lv_aload_n hx hb dX6_setFixed_9 rfl (lv_at hl 0 rfl) ?_
  refine rw_getr (x := (I, A, K)) S hK hP 0 (by decide) (cK_lo (by decide)) fk_X6_25 rfl dX6_setFixed_10 ?_
  refine cn_wv (ck_V (a := eP E 6) S lk_X6_65 (c_X3_keep l E I A K 0 nx kp hE hnx hkp hn8 hk8 (by decide)) ⟨rfl, rfl⟩ ⟨Nat.le_of_ble_eq_true rfl, Nat.le_of_ble_eq_true rfl⟩ bl_w (rc_w hK hP 6 (by decide) (cK_lo (by decide)) rfl) (bw_U hE hK hC hP hS) rfl hl.1 (Nat.le_of_ble_eq_true rfl) ⟨Nat.le_refl _, Nat.le_refl _⟩ dX6_setFixed_13 rfl) hS (fun u2 H locs g3 hP hS => ?_)
  obtain rfl : u2 = (hKeI I 0 nx kp, cCpy A (2 + nx) 0, K) := g3
  have hP : Wp cN E cK ((hKeI I 0 nx kp), (cCpy A (2 + nx) 0), K) H := hP
  refine lv_aload_n hx hb dX6_setFixed_16 rfl (lv_at hl 0 rfl) ?_
  refine rw_getr (x := ((hKeI I 0 nx kp), (cCpy A (2 + nx) 0), K)) S hK hP 0 (by decide) (cK_lo (by decide)) fk_X6_25 rfl dX6_setFixed_17 ?_
  refine rw_getr (x := ((hKeI I 0 nx kp), (cCpy A (2 + nx) 0), K)) S hK hP (dB 0 0) (dB_lt (by decide) (by decide)) (cK_D (by decide)) fk_X6_89 rfl dX6_setFixed_20 ?_
  refine lv_iload_n hx hb dX6_setFixed_23 rfl (lv_at hl 1 rfl) ?_
  refine rw_zald (x := ((hKeI I 0 nx kp), (cCpy A (2 + nx) 0), K)) (v := (cCpy A (2 + nx) 0) (dB 0 4) r) S hK hP (dB 0 4) (dB_lt (by decide) (by decide)) (cK_D (by decide)) r rfl (by omega) (by decide) rfl dX6_setFixed_24 ?_
  refine lv_istore_n (lv' := [(3, .int ((cCpy A (2 + nx) 0) (dB 0 4) r)), (0, .ref (eP E 0)), (1, .int (nI r)), (2, .int am)]) hx hb dX6_setFixed_25 rfl hl (by decide) rfl (fun ls hl => ?_)
  refine lv_aload_n hx hb dX6_setFixed_26 rfl (lv_at hl 1 rfl) ?_
  refine rw_getr (x := ((hKeI I 0 nx kp), (cCpy A (2 + nx) 0), K)) S hK hP 0 (by decide) (cK_lo (by decide)) fk_X6_25 rfl dX6_setFixed_27 ?_
  refine rw_getr (x := ((hKeI I 0 nx kp), (cCpy A (2 + nx) 0), K)) S hK hP (dB 0 0) (dB_lt (by decide) (by decide)) (cK_D (by decide)) fk_X6_89 rfl dX6_setFixed_30 ?_
  refine lv_iload_n hx hb dX6_setFixed_33 rfl (lv_at hl 2 rfl) ?_
  refine lv_iload_n hx hb dX6_setFixed_34 rfl (lv_at hl 3 rfl) ?_
  refine rw_zast (x := ((hKeI I 0 nx kp), (cCpy A (2 + nx) 0), K)) (v := am) (w := vp_nar .boolean am) S hE hK hP hS (dB 0 4) (dB_lt (by decide) (by decide)) (cK_D (by decide)) r rfl (by omega) (by decide) rfl dX6_setFixed_35 (fun H locs hP hS => ?_)
  have hP : Wp cN E cK ((hKeI I 0 nx kp), (up2 (cCpy A (2 + nx) 0) (dB 0 4) r (vp_nar .boolean am)), K) H := hP
  refine lv_iload_n hx hb dX6_setFixed_36 rfl (lv_at hl 0 rfl) ?_
  exact re_wz (x := ((hKeI I 0 nx kp), (up2 (cCpy A (2 + nx) 0) (dB 0 4) r (vp_nar .boolean am)), K)) (v := (cCpy A (2 + nx) 0) (dB 0 4) r) hx hb hr hlk (by rw [cCpy_D (by decide) (by omega)]; rcases hf1 with q | q <;> rw [q] <;> rfl) hP hS ⟨rfl, rfl⟩ dX6_setFixed_37

set_option maxHeartbeats 1000000 in
set_option maxRecDepth 100000 in
theorem cx_X6_setFixed_0 (l : Launch) (E : En) (I A : Nat → Nat → Int32) (K : Nat → Nat → Int64) (nr nu : Nat) (x0 : Int32) (x1 : Int32) (hE : Ev cN E) (hD : DOk I A 0 nr nu) (hfl : l.stackTraces = false) (kb : x0 < 0 ∨ nI nr ≤ x0) : vx_Met l yX6_setFixed (wz yX6_setFixed cX6_setFixed 4 (some .boolean)) (rmk 7 1 6 116) (va_Pc [.ref (eP E 0), .int x0, .int x1] (Bw cN E cK (I, A, K))) qNo (xC "java/lang/IndexOutOfBoundsException") 1 6 fr0 := by
  refine en_ofX RX6 rfl (by decide +kernel) (Nat.le_of_ble_eq_true rfl) ?_
  intro p e s m below meth c ls S hr hlk hnm hout hl hB
  have hx := S.1
  have hb := S.2.1
  obtain ⟨hK, hC, hP⟩ := hB
  have hS : va_S (cA cN E) s.heap s.heap [] := va_S.rf
  have hl : lv_has ls 4 [(0, .ref (eP E 0)), (1, .int x0), (2, .int x1)] := hl
  obtain ⟨⟨hn1, hn2⟩, ⟨hr0, hr3⟩, hu3⟩ := id hD
  refine lv_aload_n hx hb dX6_setFixed_0 rfl (lv_at hl 0 rfl) ?_
  refine lv_iload_n hx hb dX6_setFixed_1 rfl (lv_at hl 1 rfl) ?_
  exact xk_V (a := eP E 0) S lk_X6_78 (cx_X6_requireRole l E I A K x0 nr nu hE hD hfl kb) ⟨Nat.le_of_ble_eq_true rfl, Nat.le_of_ble_eq_true rfl⟩ (rc_w hK hP 0 (by decide) (cK_lo (by decide)) rfl) (bw_U hE hK hC hP hS) rfl hl.1 (Nat.le_of_ble_eq_true rfl) dX6_setFixed_2 rfl hout hlk ⟨Nat.le_of_ble_eq_true rfl, Nat.le_of_ble_eq_true rfl⟩ bl_w

set_option maxHeartbeats 1000000 in
set_option maxRecDepth 100000 in
theorem c_X6_shift (l : Launch) (E : En) (I A : Nat → Nat → Int32) (K : Nat → Nat → Int64) (nr nu : Nat) (r : Nat) (sc : Nat) (am : Int32) (nx kp : Nat) (hE : Ev cN E) (hD : DOk I A 0 nr nu) (k1 : r < nr) (k2 : sc < 2) (hnx : I 6 1 = nI nx) (hkp : I 6 2 = nI kp) (hn8 : nx < 8) (hk8 : kp ≤ 8) (ha1 : ¬ am < -255) (ha2 : ¬ 255 < am) (hf0 : A (dB 0 4) r = 0) : Met l yX6_shift (wz yX6_shift cX6_shift 4 (some .int)) (rmk 3 0 0 103) (va_Pc [.ref (eP E 0), .int (nI r), .int (nI sc), .int am] (Bw cN E cK (I, A, K))) (qWi cN E cK (fun zz uu => zz = cShf (cCpy A (2 + nx) 0 (dB 0 (2 + sc)) r) am ∧ uu = (hKeI I 0 nx kp, up2 (cCpy A (2 + nx) 0) (dB 0 (2 + sc)) r (cShf (cCpy A (2 + nx) 0 (dB 0 (2 + sc)) r) am), K))) 0 0 (cA cN E) := by
  refine en_ofW RX6 rfl (by decide +kernel) (Nat.le_of_ble_eq_true rfl) ?_
  intro p e s m below meth c ls S hr hlk hnm hl hB
  have hx := S.1
  have hb := S.2.1
  obtain ⟨hK, hC, hP⟩ := hB
  have hS : va_S (cA cN E) s.heap s.heap [] := va_S.rf
  have hl : lv_has ls 4 [(0, .ref (eP E 0)), (1, .int (nI r)), (2, .int (nI sc)), (3, .int am)] := hl
  obtain ⟨⟨hn1, hn2⟩, ⟨hr0, hr3⟩, hu3⟩ := id hD
  refine lv_aload_n hx hb dX6_shift_0 rfl (lv_at hl 0 rfl) ?_
  refine lv_iload_n hx hb dX6_shift_1 rfl (lv_at hl 1 rfl) ?_
  refine cn_sv (ck_V (a := eP E 0) S lk_X6_78 (c_X6_requireRole l E I A K r nr nu hE hD k1) ⟨rfl, rfl⟩ ⟨Nat.le_of_ble_eq_true rfl, Nat.le_of_ble_eq_true rfl⟩ bl_w (rc_w hK hP 0 (by decide) (cK_lo (by decide)) rfl) (bw_U hE hK hC hP hS) rfl hl.1 (Nat.le_of_ble_eq_true rfl) ⟨Nat.le_refl _, Nat.le_refl _⟩ dX6_shift_2 rfl) ?_
  refine lv_aload_n hx hb dX6_shift_5 rfl (lv_at hl 0 rfl) ?_
  refine lv_iload_n hx hb dX6_shift_6 rfl (lv_at hl 2 rfl) ?_
  refine cn_sv (ck_V (a := eP E 0) S lk_X6_82 (c_X6_requireScheme l E I A K sc nr nu hE hD k2) ⟨rfl, rfl⟩ ⟨Nat.le_of_ble_eq_true rfl, Nat.le_of_ble_eq_true rfl⟩ bl_w (rc_w hK hP 0 (by decide) (cK_lo (by decide)) rfl) (bw_U hE hK hC hP hS) rfl hl.1 (Nat.le_of_ble_eq_true rfl) ⟨Nat.le_refl _, Nat.le_refl _⟩ dX6_shift_7 rfl) ?_
  refine lv_iload_n hx hb dX6_shift_10 rfl (lv_at hl 3 rfl) ?_
  refine lv_sipush (v := (-255)) hx hb dX6_shift_11 (by decide) ?_
  refine lv_icmp_lt (tgt := 24) hx hb dX6_shift_14 (by decide) (fun h14 => absurd h14 ha1) (fun h14 => ?_)
  refine lv_iload_n hx hb dX6_shift_17 rfl (lv_at hl 3 rfl) ?_
  refine lv_sipush (v := 255) hx hb dX6_shift_18 (by decide) ?_
  refine lv_icmp_le (tgt := 34) hx hb dX6_shift_21 (by decide) (fun h21 => ?_) (fun h21 => absurd (l_le ha2) h21)
  refine lv_aload_n hx hb dX6_shift_34 rfl (lv_at hl 0 rfl) ?_
  refine rw_getr (x := (I, A, K)) S hK hP 0 (by decide) (cK_lo (by decide)) fk_X6_25 rfl dX6_shift_35 ?_
  refine rw_getr (x := (I, A, K)) S hK hP (dB 0 0) (dB_lt (by decide) (by decide)) (cK_D (by decide)) fk_X6_89 rfl dX6_shift_38 ?_
  refine lv_iload_n hx hb dX6_shift_41 rfl (lv_at hl 1 rfl) ?_
  refine rw_zald (x := (I, A, K)) (v := A (dB 0 4) r) S hK hP (dB 0 4) (dB_lt (by decide) (by decide)) (cK_D (by decide)) r rfl (by omega) (by decide) rfl dX6_shift_42 ?_
  refine lv_if_eq (tgt := 56) hx hb dX6_shift_43 (by decide) (fun h43 => ?_) (fun h43 => absurd hf0 h43)
  refine lv_aload_n hx hb dX6_shift_56 rfl (lv_at hl 0 rfl) ?_
  refine rw_getr (x := (I, A, K)) S hK hP 0 (by decide) (cK_lo (by decide)) fk_X6_35 rfl dX6_shift_57 ?_
  refine lv_aload_n hx hb dX6_shift_60 rfl (lv_at hl 0 rfl) ?_
  refine rw_getr (x := (I, A, K)) S hK hP 0 (by decide) (cK_lo (by decide)) fk_X6_25 rfl dX6_shift_61 ?_
  refine cn_wv (ck_V (a := eP E 6) S lk_X6_65 (c_X3_keep l E I A K 0 nx kp hE hnx hkp hn8 hk8 (by decide)) ⟨rfl, rfl⟩ ⟨Nat.le_of_ble_eq_true rfl, Nat.le_of_ble_eq_true rfl⟩ bl_w (rc_w hK hP 6 (by decide) (cK_lo (by decide)) rfl) (bw_U hE hK hC hP hS) rfl hl.1 (Nat.le_of_ble_eq_true rfl) ⟨Nat.le_refl _, Nat.le_refl _⟩ dX6_shift_64 rfl) hS (fun u2 H locs g3 hP hS => ?_)
  obtain rfl : u2 = (hKeI I 0 nx kp, cCpy A (2 + nx) 0, K) := g3
  have hP : Wp cN E cK ((hKeI I 0 nx kp), (cCpy A (2 + nx) 0), K) H := hP
  refine lv_aload_n hx hb dX6_shift_67 rfl (lv_at hl 0 rfl) ?_
  refine rw_getr (x := ((hKeI I 0 nx kp), (cCpy A (2 + nx) 0), K)) S hK hP 0 (by decide) (cK_lo (by decide)) fk_X6_25 rfl dX6_shift_68 ?_
  refine rw_getr (x := ((hKeI I 0 nx kp), (cCpy A (2 + nx) 0), K)) S hK hP (dB 0 0) (dB_lt (by decide) (by decide)) (cK_D (by decide)) fk_X6_85 rfl dX6_shift_71 ?_
  refine lv_iload_n hx hb dX6_shift_74 rfl (lv_at hl 2 rfl) ?_
  refine rw_aald (x := ((hKeI I 0 nx kp), (cCpy A (2 + nx) 0), K)) (r := (dB 0 (2 + sc))) S hK hP (dB 0 1) (dB_lt (by decide) (by decide)) 5 (cK_D (by decide)) rfl rfl sc rfl (by omega) (by decide) rfl dX6_shift_75 ?_
  refine lv_iload_n hx hb dX6_shift_76 rfl (lv_at hl 1 rfl) ?_
  refine lv_aload_n hx hb dX6_shift_77 rfl (lv_at hl 0 rfl) ?_
  refine rw_getr (x := ((hKeI I 0 nx kp), (cCpy A (2 + nx) 0), K)) S hK hP 0 (by decide) (cK_lo (by decide)) fk_X6_25 rfl dX6_shift_78 ?_
  refine rw_getr (x := ((hKeI I 0 nx kp), (cCpy A (2 + nx) 0), K)) S hK hP (dB 0 0) (dB_lt (by decide) (by decide)) (cK_D (by decide)) fk_X6_85 rfl dX6_shift_81 ?_
  refine lv_iload_n hx hb dX6_shift_84 rfl (lv_at hl 2 rfl) ?_
  refine rw_aald (x := ((hKeI I 0 nx kp), (cCpy A (2 + nx) 0), K)) (r := (dB 0 (2 + sc))) S hK hP (dB 0 1) (dB_lt (by decide) (by decide)) 5 (cK_D (by decide)) rfl rfl sc rfl (by omega) (by decide) rfl dX6_shift_85 ?_
  refine lv_iload_n hx hb dX6_shift_86 rfl (lv_at hl 1 rfl) ?_
  refine rw_iald (x := ((hKeI I 0 nx kp), (cCpy A (2 + nx) 0), K)) (v := (cCpy A (2 + nx) 0) (dB 0 (2 + sc)) r) S hK hP (dB 0 (2 + sc)) (dB_lt (by decide) (by omega)) (cK_col (by omega)) r rfl (by omega) (by decide) rfl dX6_shift_87 ?_
  refine lv_iload_n hx hb dX6_shift_88 rfl (lv_at hl 3 rfl) ?_
  refine cn_si (ck_S S lk_X6_162 (c_X0_shifted l E ((cCpy A (2 + nx) 0) (dB 0 (2 + sc)) r) am) ⟨rfl, rfl⟩ ⟨Nat.le_of_ble_eq_true rfl, Nat.le_of_ble_eq_true rfl⟩ bl_s (bs_U hE hC hS) rfl hl.1 (Nat.le_of_ble_eq_true rfl) ⟨Nat.le_refl _, Nat.le_refl _⟩ dX6_shift_89 rfl) (fun r4 g5 => ?_)
  obtain rfl : r4 = cShf ((cCpy A (2 + nx) 0) (dB 0 (2 + sc)) r) am := g5
  refine rw_iast (x := ((hKeI I 0 nx kp), (cCpy A (2 + nx) 0), K)) (v := (cShf ((cCpy A (2 + nx) 0) (dB 0 (2 + sc)) r) am)) S hE hK hP hS (dB 0 (2 + sc)) (dB_lt (by decide) (by omega)) (cK_col (by omega)) r rfl (by omega) (by decide) dX6_shift_92 (fun H locs hP hS => ?_)
  have hP : Wp cN E cK ((hKeI I 0 nx kp), (up2 (cCpy A (2 + nx) 0) (dB 0 (2 + sc)) r (cShf ((cCpy A (2 + nx) 0) (dB 0 (2 + sc)) r) am)), K) H := hP
  refine lv_aload_n hx hb dX6_shift_93 rfl (lv_at hl 0 rfl) ?_
  refine rw_getr (x := ((hKeI I 0 nx kp), (up2 (cCpy A (2 + nx) 0) (dB 0 (2 + sc)) r (cShf ((cCpy A (2 + nx) 0) (dB 0 (2 + sc)) r) am)), K)) S hK hP 0 (by decide) (cK_lo (by decide)) fk_X6_25 rfl dX6_shift_94 ?_
  refine rw_getr (x := ((hKeI I 0 nx kp), (up2 (cCpy A (2 + nx) 0) (dB 0 (2 + sc)) r (cShf ((cCpy A (2 + nx) 0) (dB 0 (2 + sc)) r) am)), K)) S hK hP (dB 0 0) (dB_lt (by decide) (by decide)) (cK_D (by decide)) fk_X6_85 rfl dX6_shift_97 ?_
  refine lv_iload_n hx hb dX6_shift_100 rfl (lv_at hl 2 rfl) ?_
  refine rw_aald (x := ((hKeI I 0 nx kp), (up2 (cCpy A (2 + nx) 0) (dB 0 (2 + sc)) r (cShf ((cCpy A (2 + nx) 0) (dB 0 (2 + sc)) r) am)), K)) (r := (dB 0 (2 + sc))) S hK hP (dB 0 1) (dB_lt (by decide) (by decide)) 5 (cK_D (by decide)) rfl rfl sc rfl (by omega) (by decide) rfl dX6_shift_101 ?_
  refine lv_iload_n hx hb dX6_shift_102 rfl (lv_at hl 1 rfl) ?_
  refine rw_iald (x := ((hKeI I 0 nx kp), (up2 (cCpy A (2 + nx) 0) (dB 0 (2 + sc)) r (cShf ((cCpy A (2 + nx) 0) (dB 0 (2 + sc)) r) am)), K)) (v := (cShf ((cCpy A (2 + nx) 0) (dB 0 (2 + sc)) r) am)) S hK hP (dB 0 (2 + sc)) (dB_lt (by decide) (by omega)) (cK_col (by omega)) r rfl (by omega) (by decide) (up2_eq (f := (cCpy A (2 + nx) 0)) (q := (dB 0 (2 + sc))) (j := r) (v := (cShf ((cCpy A (2 + nx) 0) (dB 0 (2 + sc)) r) am))) dX6_shift_103 ?_
  exact re_wi (x := ((hKeI I 0 nx kp), (up2 (cCpy A (2 + nx) 0) (dB 0 (2 + sc)) r (cShf ((cCpy A (2 + nx) 0) (dB 0 (2 + sc)) r) am)), K)) (v := (cShf ((cCpy A (2 + nx) 0) (dB 0 (2 + sc)) r) am)) hx hb hr hlk hP hS ⟨rfl, rfl⟩ dX6_shift_104

set_option maxHeartbeats 1000000 in
set_option maxRecDepth 100000 in
theorem cx_X6_shift_0 (l : Launch) (E : En) (I A : Nat → Nat → Int32) (K : Nat → Nat → Int64) (nr nu : Nat) (x0 : Int32) (x1 : Int32) (x2 : Int32) (hE : Ev cN E) (hD : DOk I A 0 nr nu) (hfl : l.stackTraces = false) (kb : x0 < 0 ∨ nI nr ≤ x0) : vx_Met l yX6_shift (wz yX6_shift cX6_shift 4 (some .int)) (rmk 7 1 6 116) (va_Pc [.ref (eP E 0), .int x0, .int x1, .int x2] (Bw cN E cK (I, A, K))) qNo (xC "java/lang/IndexOutOfBoundsException") 1 6 fr0 := by
  refine en_ofX RX6 rfl (by decide +kernel) (Nat.le_of_ble_eq_true rfl) ?_
  intro p e s m below meth c ls S hr hlk hnm hout hl hB
  have hx := S.1
  have hb := S.2.1
  obtain ⟨hK, hC, hP⟩ := hB
  have hS : va_S (cA cN E) s.heap s.heap [] := va_S.rf
  have hl : lv_has ls 4 [(0, .ref (eP E 0)), (1, .int x0), (2, .int x1), (3, .int x2)] := hl
  obtain ⟨⟨hn1, hn2⟩, ⟨hr0, hr3⟩, hu3⟩ := id hD
  refine lv_aload_n hx hb dX6_shift_0 rfl (lv_at hl 0 rfl) ?_
  refine lv_iload_n hx hb dX6_shift_1 rfl (lv_at hl 1 rfl) ?_
  exact xk_V (a := eP E 0) S lk_X6_78 (cx_X6_requireRole l E I A K x0 nr nu hE hD hfl kb) ⟨Nat.le_of_ble_eq_true rfl, Nat.le_of_ble_eq_true rfl⟩ (rc_w hK hP 0 (by decide) (cK_lo (by decide)) rfl) (bw_U hE hK hC hP hS) rfl hl.1 (Nat.le_of_ble_eq_true rfl) dX6_shift_2 rfl hout hlk ⟨Nat.le_of_ble_eq_true rfl, Nat.le_of_ble_eq_true rfl⟩ bl_w

set_option maxHeartbeats 1000000 in
set_option maxRecDepth 100000 in
theorem cx_X6_shift_1 (l : Launch) (E : En) (I A : Nat → Nat → Int32) (K : Nat → Nat → Int64) (nr nu : Nat) (r : Nat) (x1 : Int32) (x2 : Int32) (hE : Ev cN E) (hD : DOk I A 0 nr nu) (hfl : l.stackTraces = false) (k1 : r < nr) (kb : x1 < 0 ∨ 2 ≤ x1) : vx_Met l yX6_shift (wz yX6_shift cX6_shift 4 (some .int)) (rmk 7 1 6 116) (va_Pc [.ref (eP E 0), .int (nI r), .int x1, .int x2] (Bw cN E cK (I, A, K))) qNo (xC "java/lang/IndexOutOfBoundsException") 1 6 fr0 := by
  refine en_ofX RX6 rfl (by decide +kernel) (Nat.le_of_ble_eq_true rfl) ?_
  intro p e s m below meth c ls S hr hlk hnm hout hl hB
  have hx := S.1
  have hb := S.2.1
  obtain ⟨hK, hC, hP⟩ := hB
  have hS : va_S (cA cN E) s.heap s.heap [] := va_S.rf
  have hl : lv_has ls 4 [(0, .ref (eP E 0)), (1, .int (nI r)), (2, .int x1), (3, .int x2)] := hl
  obtain ⟨⟨hn1, hn2⟩, ⟨hr0, hr3⟩, hu3⟩ := id hD
  refine lv_aload_n hx hb dX6_shift_0 rfl (lv_at hl 0 rfl) ?_
  refine lv_iload_n hx hb dX6_shift_1 rfl (lv_at hl 1 rfl) ?_
  refine cn_sv (ck_V (a := eP E 0) S lk_X6_78 (c_X6_requireRole l E I A K r nr nu hE hD k1) ⟨rfl, rfl⟩ ⟨Nat.le_of_ble_eq_true rfl, Nat.le_of_ble_eq_true rfl⟩ bl_w (rc_w hK hP 0 (by decide) (cK_lo (by decide)) rfl) (bw_U hE hK hC hP hS) rfl hl.1 (Nat.le_of_ble_eq_true rfl) ⟨Nat.zero_le _, Nat.zero_le _⟩ dX6_shift_2 rfl) ?_
  refine lv_aload_n hx hb dX6_shift_5 rfl (lv_at hl 0 rfl) ?_
  refine lv_iload_n hx hb dX6_shift_6 rfl (lv_at hl 2 rfl) ?_
  exact xk_V (a := eP E 0) S lk_X6_82 (cx_X6_requireScheme l E I A K x1 nr nu hE hD hfl kb) ⟨Nat.le_of_ble_eq_true rfl, Nat.le_of_ble_eq_true rfl⟩ (rc_w hK hP 0 (by decide) (cK_lo (by decide)) rfl) (bw_U hE hK hC hP hS) rfl hl.1 (Nat.le_of_ble_eq_true rfl) dX6_shift_7 rfl hout hlk ⟨Nat.le_of_ble_eq_true rfl, Nat.le_of_ble_eq_true rfl⟩ bl_w

set_option maxHeartbeats 1000000 in
set_option maxRecDepth 100000 in
theorem cx_X6_shift_2 (l : Launch) (E : En) (I A : Nat → Nat → Int32) (K : Nat → Nat → Int64) (nr nu r sc : Nat) (am : Int32) (hE : Ev cN E) (hD : DOk I A 0 nr nu) (hfl : l.stackTraces = false) (k1 : r < nr) (k2 : sc < 2) (kb : am < -255 ∨ 255 < am) : vx_Met l yX6_shift (wz yX6_shift cX6_shift 4 (some .int)) (rmk 6 1 6 95) (va_Pc [.ref (eP E 0), .int (nI r), .int (nI sc), .int am] (Bw cN E cK (I, A, K))) qNo (xC "java/lang/IllegalArgumentException") 1 6 fr0 := by
  refine en_ofX RX6 rfl (by decide +kernel) (Nat.le_of_ble_eq_true rfl) ?_
  intro p e s m below meth c ls S hr hlk hnm hout hl hB
  have hx := S.1
  have hb := S.2.1
  obtain ⟨hK, hC, hP⟩ := hB
  have hS : va_S (cA cN E) s.heap s.heap [] := va_S.rf
  have hl : lv_has ls 4 [(0, .ref (eP E 0)), (1, .int (nI r)), (2, .int (nI sc)), (3, .int am)] := hl
  obtain ⟨⟨hn1, hn2⟩, ⟨hr0, hr3⟩, hu3⟩ := id hD
  refine lv_aload_n hx hb dX6_shift_0 rfl (lv_at hl 0 rfl) ?_
  refine lv_iload_n hx hb dX6_shift_1 rfl (lv_at hl 1 rfl) ?_
  refine cn_sv (ck_V (a := eP E 0) S lk_X6_78 (c_X6_requireRole l E I A K r nr nu hE hD k1) ⟨rfl, rfl⟩ ⟨Nat.le_of_ble_eq_true rfl, Nat.le_of_ble_eq_true rfl⟩ bl_w (rc_w hK hP 0 (by decide) (cK_lo (by decide)) rfl) (bw_U hE hK hC hP hS) rfl hl.1 (Nat.le_of_ble_eq_true rfl) ⟨Nat.zero_le _, Nat.zero_le _⟩ dX6_shift_2 rfl) ?_
  refine lv_aload_n hx hb dX6_shift_5 rfl (lv_at hl 0 rfl) ?_
  refine lv_iload_n hx hb dX6_shift_6 rfl (lv_at hl 2 rfl) ?_
  refine cn_sv (ck_V (a := eP E 0) S lk_X6_82 (c_X6_requireScheme l E I A K sc nr nu hE hD k2) ⟨rfl, rfl⟩ ⟨Nat.le_of_ble_eq_true rfl, Nat.le_of_ble_eq_true rfl⟩ bl_w (rc_w hK hP 0 (by decide) (cK_lo (by decide)) rfl) (bw_U hE hK hC hP hS) rfl hl.1 (Nat.le_of_ble_eq_true rfl) ⟨Nat.zero_le _, Nat.zero_le _⟩ dX6_shift_7 rfl) ?_
  refine lv_iload_n hx hb dX6_shift_10 rfl (lv_at hl 3 rfl) ?_
  refine lv_sipush (v := (-255)) hx hb dX6_shift_11 (by decide) ?_
  refine lv_icmp_lt (tgt := 24) hx hb dX6_shift_14 (by decide) (fun h14 => ?_) (fun h14 => ?_)
  · exact rx_throw (text := "an amount is -255 to 255") S hfl hC xk_50_54 (by decide) (by decide) hl.1 dX6_shift_24 dX6_shift_27 dX6_shift_28 dX6_shift_30 dX6_shift_33 hout hlk (Nat.le_of_ble_eq_true rfl) (Nat.le_of_ble_eq_true rfl) (Nat.le_of_ble_eq_true rfl) (Nat.le_of_ble_eq_true rfl)
  · refine lv_iload_n hx hb dX6_shift_17 rfl (lv_at hl 3 rfl) ?_
    refine lv_sipush (v := 255) hx hb dX6_shift_18 (by decide) ?_
    refine lv_icmp_le (tgt := 34) hx hb dX6_shift_21 (by decide) (fun h21 => absurd h21 (n_le (kb.resolve_left h14))) (fun h21 => ?_)
    exact rx_throw (text := "an amount is -255 to 255") S hfl hC xk_50_54 (by decide) (by decide) hl.1 dX6_shift_24 dX6_shift_27 dX6_shift_28 dX6_shift_30 dX6_shift_33 hout hlk (Nat.le_of_ble_eq_true rfl) (Nat.le_of_ble_eq_true rfl) (Nat.le_of_ble_eq_true rfl) (Nat.le_of_ble_eq_true rfl)

set_option maxHeartbeats 1000000 in
set_option maxRecDepth 100000 in
theorem cx_X6_shift_3 (l : Launch) (E : En) (I A : Nat → Nat → Int32) (K : Nat → Nat → Int64) (nr nu r sc : Nat) (am : Int32) (hE : Ev cN E) (hD : DOk I A 0 nr nu) (hfl : l.stackTraces = false) (k1 : r < nr) (k2 : sc < 2) (ha1 : ¬ am < -255) (ha2 : ¬ 255 < am) (hf0 : ¬ A (dB 0 4) r = 0) : vx_Met l yX6_shift (wz yX6_shift cX6_shift 4 (some .int)) (rmk 6 1 6 95) (va_Pc [.ref (eP E 0), .int (nI r), .int (nI sc), .int am] (Bw cN E cK (I, A, K))) qNo (xC "java/lang/IllegalStateException") 1 6 fr0 := by
  refine en_ofX RX6 rfl (by decide +kernel) (Nat.le_of_ble_eq_true rfl) ?_
  intro p e s m below meth c ls S hr hlk hnm hout hl hB
  have hx := S.1
  have hb := S.2.1
  obtain ⟨hK, hC, hP⟩ := hB
  have hS : va_S (cA cN E) s.heap s.heap [] := va_S.rf
  have hl : lv_has ls 4 [(0, .ref (eP E 0)), (1, .int (nI r)), (2, .int (nI sc)), (3, .int am)] := hl
  obtain ⟨⟨hn1, hn2⟩, ⟨hr0, hr3⟩, hu3⟩ := id hD
  refine lv_aload_n hx hb dX6_shift_0 rfl (lv_at hl 0 rfl) ?_
  refine lv_iload_n hx hb dX6_shift_1 rfl (lv_at hl 1 rfl) ?_
  refine cn_sv (ck_V (a := eP E 0) S lk_X6_78 (c_X6_requireRole l E I A K r nr nu hE hD k1) ⟨rfl, rfl⟩ ⟨Nat.le_of_ble_eq_true rfl, Nat.le_of_ble_eq_true rfl⟩ bl_w (rc_w hK hP 0 (by decide) (cK_lo (by decide)) rfl) (bw_U hE hK hC hP hS) rfl hl.1 (Nat.le_of_ble_eq_true rfl) ⟨Nat.zero_le _, Nat.zero_le _⟩ dX6_shift_2 rfl) ?_
  refine lv_aload_n hx hb dX6_shift_5 rfl (lv_at hl 0 rfl) ?_
  refine lv_iload_n hx hb dX6_shift_6 rfl (lv_at hl 2 rfl) ?_
  refine cn_sv (ck_V (a := eP E 0) S lk_X6_82 (c_X6_requireScheme l E I A K sc nr nu hE hD k2) ⟨rfl, rfl⟩ ⟨Nat.le_of_ble_eq_true rfl, Nat.le_of_ble_eq_true rfl⟩ bl_w (rc_w hK hP 0 (by decide) (cK_lo (by decide)) rfl) (bw_U hE hK hC hP hS) rfl hl.1 (Nat.le_of_ble_eq_true rfl) ⟨Nat.zero_le _, Nat.zero_le _⟩ dX6_shift_7 rfl) ?_
  refine lv_iload_n hx hb dX6_shift_10 rfl (lv_at hl 3 rfl) ?_
  refine lv_sipush (v := (-255)) hx hb dX6_shift_11 (by decide) ?_
  refine lv_icmp_lt (tgt := 24) hx hb dX6_shift_14 (by decide) (fun h14 => absurd h14 ha1) (fun h14 => ?_)
  refine lv_iload_n hx hb dX6_shift_17 rfl (lv_at hl 3 rfl) ?_
  refine lv_sipush (v := 255) hx hb dX6_shift_18 (by decide) ?_
  refine lv_icmp_le (tgt := 34) hx hb dX6_shift_21 (by decide) (fun h21 => ?_) (fun h21 => absurd (l_le ha2) h21)
  refine lv_aload_n hx hb dX6_shift_34 rfl (lv_at hl 0 rfl) ?_
  refine rw_getr (x := (I, A, K)) S hK hP 0 (by decide) (cK_lo (by decide)) fk_X6_25 rfl dX6_shift_35 ?_
  refine rw_getr (x := (I, A, K)) S hK hP (dB 0 0) (dB_lt (by decide) (by decide)) (cK_D (by decide)) fk_X6_89 rfl dX6_shift_38 ?_
  refine lv_iload_n hx hb dX6_shift_41 rfl (lv_at hl 1 rfl) ?_
  refine rw_zald (x := (I, A, K)) (v := A (dB 0 4) r) S hK hP (dB 0 4) (dB_lt (by decide) (by decide)) (cK_D (by decide)) r rfl (by omega) (by decide) rfl dX6_shift_42 ?_
  refine lv_if_eq (tgt := 56) hx hb dX6_shift_43 (by decide) (fun h43 => absurd h43 hf0) (fun h43 => ?_)
  exact rx_throw (text := "the role is fixed") S hfl hC xk_157_161 (by decide) (by decide) hl.1 dX6_shift_46 dX6_shift_49 dX6_shift_50 dX6_shift_52 dX6_shift_55 hout hlk (Nat.le_of_ble_eq_true rfl) (Nat.le_of_ble_eq_true rfl) (Nat.le_of_ble_eq_true rfl) (Nat.le_of_ble_eq_true rfl)

set_option maxHeartbeats 1000000 in
set_option maxRecDepth 100000 in
theorem c_X6_repair (l : Launch) (E : En) (I A : Nat → Nat → Int32) (K : Nat → Nat → Int64) (k nr nu nx kp : Nat) (hE : Ev cN E) (hD : DOk I A 0 nr nu) (hnx : I 6 1 = nI nx) (hkp : I 6 2 = nI kp) (hn8 : nx < 8) (hk8 : kp ≤ 8) (hk1 : 1 ≤ k) (hk2 : k ≤ 6) : Met l yX6_repair (wz yX6_repair cX6_repair 3 (some .int)) (rmk 7 0 0 166) (va_Pc [.ref (eP E 0), .int (nI k)] (Bw cN E cK (I, A, K))) (qWi cN E cK (fun zz uu => zz = nI (cRep nu k (cCpy A (2 + nx) 0)).1 ∧ uu = (hKeI I 0 nx kp, (cRep nu k (cCpy A (2 + nx) 0)).2, K))) 0 0 (cA cN E) := by
  refine en_ofW RX6 rfl (by decide +kernel) (Nat.le_of_ble_eq_true rfl) ?_
  intro p e s m below meth c ls S hr hlk hnm hl hB
  have hx := S.1
  have hb := S.2.1
  obtain ⟨hK, hC, hP⟩ := hB
  have hS : va_S (cA cN E) s.heap s.heap [] := va_S.rf
  have hl : lv_has ls 3 [(0, .ref (eP E 0)), (1, .int (nI k))] := hl
  obtain ⟨⟨hn1, hn2⟩, ⟨hr0, hr3⟩, hu3⟩ := id hD
  refine lv_iload_n hx hb dX6_repair_0 rfl (lv_at hl 1 rfl) ?_
  refine lv_iconst (v := 1) hx hb dX6_repair_1 (by decide) ?_
  refine lv_icmp_lt (tgt := 11) hx hb dX6_repair_2 (by decide) (fun h2 => absurd h2 (nI_nlt (b := 1) hk1 (by omega))) (fun h2 => ?_)
  refine lv_iload_n hx hb dX6_repair_5 rfl (lv_at hl 1 rfl) ?_
  refine lv_bipush (v := 6) hx hb dX6_repair_6 (by decide) ?_
  refine lv_icmp_le (tgt := 21) hx hb dX6_repair_8 (by decide) (fun h8 => ?_) (fun h8 => absurd (nI_le (b := 6) hk2 (by decide)) h8)
  refine lv_aload_n hx hb dX6_repair_21 rfl (lv_at hl 0 rfl) ?_
  refine rw_getr (x := (I, A, K)) S hK hP 0 (by decide) (cK_lo (by decide)) fk_X6_35 rfl dX6_repair_22 ?_
  refine lv_aload_n hx hb dX6_repair_25 rfl (lv_at hl 0 rfl) ?_
  refine rw_getr (x := (I, A, K)) S hK hP 0 (by decide) (cK_lo (by decide)) fk_X6_25 rfl dX6_repair_26 ?_
  refine cn_wv (ck_V (a := eP E 6) S lk_X6_65 (c_X3_keep l E I A K 0 nx kp hE hnx hkp hn8 hk8 (by decide)) ⟨rfl, rfl⟩ ⟨Nat.le_of_ble_eq_true rfl, Nat.le_of_ble_eq_true rfl⟩ bl_w (rc_w hK hP 6 (by decide) (cK_lo (by decide)) rfl) (bw_U hE hK hC hP hS) rfl hl.1 (Nat.le_of_ble_eq_true rfl) ⟨Nat.le_refl _, Nat.le_refl _⟩ dX6_repair_29 rfl) hS (fun u2 H locs g3 hP hS => ?_)
  obtain rfl : u2 = (hKeI I 0 nx kp, cCpy A (2 + nx) 0, K) := g3
  have hP : Wp cN E cK ((hKeI I 0 nx kp), (cCpy A (2 + nx) 0), K) H := hP
  refine lv_iconst (v := 0) hx hb dX6_repair_32 (by decide) ?_
  refine lv_istore_n (lv' := [(2, .int 0), (0, .ref (eP E 0)), (1, .int (nI k))]) hx hb dX6_repair_33 rfl hl (by decide) rfl (fun ls hl => ?_)
  have HL : ∀ (n i : Nat) (B : Nat → Nat → Int32), i + n = k → i + (cRep nu n B).1 = (cRep nu k (cCpy A (2 + nx) 0)).1 ∧ (cRep nu n B).2 = (cRep nu k (cCpy A (2 + nx) 0)).2 ∧ DOk (hKeI I 0 nx kp) B 0 nr nu → ∀ (H : Heap) (locs : List Loc), Wp cN E cK ((hKeI I 0 nx kp), B, K) H → va_S (cA cN E) s.heap H locs → ∀ ls : Array Slot, lv_has ls 3 [(2, .int (nI i)), (0, .ref (eP E 0)), (1, .int (nI k))] → W p l e (rmk 7 0 0 166) s m ([.ref (eP E 0), .int (nI k)] : List Value).toArray below meth c H locs 0 0 (MQ below (qWi cN E cK (fun zz uu => zz = nI (cRep nu k (cCpy A (2 + nx) 0)).1 ∧ uu = (hKeI I 0 nx kp, (cRep nu k (cCpy A (2 + nx) 0)).2, K))) ([.ref (eP E 0), .int (nI k)] : List Value).toArray s 0 0 (cA cN E)) (F0 m 34 ls []) := by
    intro n
    induction n with
    | zero =>
      intro i B hi hv H locs hP hS ls hl
      have hiN : i = k := by omega
      rw [hiN] at hl
      try rw [hiN] at hP
      refine lv_iload_n hx hb dX6_repair_34 rfl (lv_at hl 0 rfl) ?_
      refine lv_iload_n hx hb dX6_repair_35 rfl (lv_at hl 2 rfl) ?_
      refine lv_icmp_ge (tgt := 55) hx hb dX6_repair_36 (by decide) (fun h36 => ?_) (fun h36 => absurd (Int32.le_refl _) h36)
      refine lv_iload_n hx hb dX6_repair_55 rfl (lv_at hl 0 rfl) ?_
      exact re_wi (x := ((hKeI I 0 nx kp), B, K)) (v := nI k) hx hb hr hlk hP hS ⟨by rw [← hv.1, hiN]; rfl, by rw [← hv.2.1]; rfl⟩ dX6_repair_56
    | succ n ih =>
      intro i B hi hv H locs hP hS ls hl
      have hlt : i < k := by omega
      refine lv_iload_n hx hb dX6_repair_34 rfl (lv_at hl 0 rfl) ?_
      refine lv_iload_n hx hb dX6_repair_35 rfl (lv_at hl 2 rfl) ?_
      refine lv_icmp_ge (tgt := 55) hx hb dX6_repair_36 (by decide) (fun h36 => absurd h36 (nI_ge hlt (by omega))) (fun h36 => ?_)
      refine lv_aload_n hx hb dX6_repair_39 rfl (lv_at hl 1 rfl) ?_
      refine rw_getr (x := ((hKeI I 0 nx kp), B, K)) S hK hP 0 (by decide) (cK_lo (by decide)) fk_X6_25 rfl dX6_repair_40 ?_
      refine cn_wi (ck_V (a := eP E (dB 0 0)) S lk_X6_167 (c_X1_mendFirst l E (hKeI I 0 nx kp) B K 0 nr nu hE (by decide) hv.2.2) ⟨rfl, rfl⟩ ⟨Nat.le_of_ble_eq_true rfl, Nat.le_of_ble_eq_true rfl⟩ bl_w (rc_w hK hP (dB 0 0) (dB_lt (by decide) (by decide)) (cK_D (by decide)) rfl) (bw_U hE hK hC hP hS) rfl hl.1 (Nat.le_of_ble_eq_true rfl) ⟨Nat.le_refl _, Nat.le_refl _⟩ dX6_repair_43 rfl) hS (fun r4 u5 H locs g6 hP hS => ?_)
      obtain ⟨rfl, rfl⟩ : r4 = (cMnd B 0 nu (2 * nu) 0).1 ∧ u5 = ((hKeI I 0 nx kp), (cMnd B 0 nu (2 * nu) 0).2, K) := g6
      have hP : Wp cN E cK ((hKeI I 0 nx kp), (cMnd B 0 nu (2 * nu) 0).2, K) H := hP
      refine lv_if_eq (tgt := 55) hx hb dX6_repair_46 (by decide) (fun h46 => ?_) (fun h46 => ?_)
      · refine lv_iload_n hx hb dX6_repair_55 rfl (lv_at hl 0 rfl) ?_
        exact re_wi (x := ((hKeI I 0 nx kp), (cMnd B 0 nu (2 * nu) 0).2, K)) (v := nI i) hx hb hr hlk hP hS ⟨by rw [← hv.1, cRep_n h46]; rfl, by rw [← hv.2.1, cRep_n h46]⟩ dX6_repair_56
      · refine lv_iinc (v := nI (i + 1)) (lv' := [(2, .int (nI (i + 1))), (0, .ref (eP E 0)), (1, .int (nI k))]) hx hb dX6_repair_49 hl (k := 0) rfl (nI_1 _) (by decide) rfl (fun ls hl => ?_)
        refine lv_goto (tgt := 34) hx hb dX6_repair_52 (by decide) ?_
        exact ih (i + 1) (cMnd B 0 nu (2 * nu) 0).2 (by omega) ⟨by rw [← hv.1, cRep_y h46]; show i + 1 + _ = i + (_ + 1); omega, by rw [← hv.2.1, cRep_y h46], DOk_mnd _ _ _ hv.2.2⟩ _ _ hP hS ls (lv_sub hl [0, 1, 2] rfl)
  exact HL k 0 (cCpy A (2 + nx) 0) (by omega) ⟨Nat.zero_add _, rfl, DOk_keep (by decide) hD⟩ _ _ hP hS ls (lv_sub hl [0, 1, 2] rfl)

set_option maxHeartbeats 1000000 in
set_option maxRecDepth 100000 in
theorem cx_X6_repair_0 (l : Launch) (E : En) (I A : Nat → Nat → Int32) (K : Nat → Nat → Int64) (nr nu : Nat) (x : Int32) (hE : Ev cN E) (hD : DOk I A 0 nr nu) (hfl : l.stackTraces = false) (kb : x < 1 ∨ 6 < x) : vx_Met l yX6_repair (wz yX6_repair cX6_repair 3 (some .int)) (rmk 6 1 6 95) (va_Pc [.ref (eP E 0), .int x] (Bw cN E cK (I, A, K))) qNo (xC "java/lang/IllegalArgumentException") 1 6 fr0 := by
  refine en_ofX RX6 rfl (by decide +kernel) (Nat.le_of_ble_eq_true rfl) ?_
  intro p e s m below meth c ls S hr hlk hnm hout hl hB
  have hx := S.1
  have hb := S.2.1
  obtain ⟨hK, hC, hP⟩ := hB
  have hS : va_S (cA cN E) s.heap s.heap [] := va_S.rf
  have hl : lv_has ls 3 [(0, .ref (eP E 0)), (1, .int x)] := hl
  obtain ⟨⟨hn1, hn2⟩, ⟨hr0, hr3⟩, hu3⟩ := id hD
  refine lv_iload_n hx hb dX6_repair_0 rfl (lv_at hl 1 rfl) ?_
  refine lv_iconst (v := 1) hx hb dX6_repair_1 (by decide) ?_
  refine lv_icmp_lt (tgt := 11) hx hb dX6_repair_2 (by decide) (fun h2 => ?_) (fun h2 => ?_)
  · exact rx_throw (text := "at most 1 to 6 shifts") S hfl hC xk_50_54 (by decide) (by decide) hl.1 dX6_repair_11 dX6_repair_14 dX6_repair_15 dX6_repair_17 dX6_repair_20 hout hlk (Nat.le_of_ble_eq_true rfl) (Nat.le_of_ble_eq_true rfl) (Nat.le_of_ble_eq_true rfl) (Nat.le_of_ble_eq_true rfl)
  · refine lv_iload_n hx hb dX6_repair_5 rfl (lv_at hl 1 rfl) ?_
    refine lv_bipush (v := 6) hx hb dX6_repair_6 (by decide) ?_
    refine lv_icmp_le (tgt := 21) hx hb dX6_repair_8 (by decide) (fun h8 => absurd h8 (n_le (kb.resolve_left h2))) (fun h8 => ?_)
    exact rx_throw (text := "at most 1 to 6 shifts") S hfl hC xk_50_54 (by decide) (by decide) hl.1 dX6_repair_11 dX6_repair_14 dX6_repair_15 dX6_repair_17 dX6_repair_20 hout hlk (Nat.le_of_ble_eq_true rfl) (Nat.le_of_ble_eq_true rfl) (Nat.le_of_ble_eq_true rfl) (Nat.le_of_ble_eq_true rfl)

set_option maxHeartbeats 1000000 in
set_option maxRecDepth 100000 in
theorem cx_X6_load_0 (l : Launch) (E : En) (I A : Nat → Nat → Int32) (K : Nat → Nat → Int64) (n : Nat) (x : Int32) (hE : Ev cN E) (hfl : l.stackTraces = false) (hil : I 0 5 = nI n) (kb : x < 0 ∨ nI n < x) : vx_Met l yX6_load (wz yX6_load cX6_load 3 (some .int)) (rmk 6 1 6 95) (va_Pc [.ref (eP E 0), .int x] (Bw cN E cK (I, A, K))) qNo (xC "java/lang/IllegalArgumentException") 1 6 fr0 := by
  refine en_ofX RX6 rfl (by decide +kernel) (Nat.le_of_ble_eq_true rfl) ?_
  intro p e s m below meth c ls S hr hlk hnm hout hl hB
  have hx := S.1
  have hb := S.2.1
  obtain ⟨hK, hC, hP⟩ := hB
  have hS : va_S (cA cN E) s.heap s.heap [] := va_S.rf
  have hl : lv_has ls 3 [(0, .ref (eP E 0)), (1, .int x)] := hl
  refine lv_iload_n hx hb dX6_load_0 rfl (lv_at hl 1 rfl) ?_
  refine lv_if_lt (tgt := 12) hx hb dX6_load_1 (by decide) (fun h1 => ?_) (fun h1 => ?_)
  · exact rx_throw (text := "the buffer has no such length") S hfl hC xk_50_54 (by decide) (by decide) hl.1 dX6_load_12 dX6_load_15 dX6_load_16 dX6_load_18 dX6_load_21 hout hlk (Nat.le_of_ble_eq_true rfl) (Nat.le_of_ble_eq_true rfl) (Nat.le_of_ble_eq_true rfl) (Nat.le_of_ble_eq_true rfl)
  · refine lv_iload_n hx hb dX6_load_4 rfl (lv_at hl 1 rfl) ?_
    refine lv_aload_n hx hb dX6_load_5 rfl (lv_at hl 0 rfl) ?_
    refine rw_geti (x := (I, A, K)) (v := nI n) S hK hP 0 (by decide) (cK_lo (by decide)) fk_X6_39 rfl hil dX6_load_6 ?_
    refine lv_icmp_le (tgt := 22) hx hb dX6_load_9 (by decide) (fun h9 => absurd h9 (n_le (kb.resolve_left h1))) (fun h9 => ?_)
    exact rx_throw (text := "the buffer has no such length") S hfl hC xk_50_54 (by decide) (by decide) hl.1 dX6_load_12 dX6_load_15 dX6_load_16 dX6_load_18 dX6_load_21 hout hlk (Nat.le_of_ble_eq_true rfl) (Nat.le_of_ble_eq_true rfl) (Nat.le_of_ble_eq_true rfl) (Nat.le_of_ble_eq_true rfl)

