set_option maxHeartbeats 1000000 in
set_option maxRecDepth 100000 in
theorem c_X2_isThere (l : Launch) (E : En) (I A : Nat → Nat → Int32) (K : Nat → Nat → Int64) (T : Nat → Int32) (n : Nat) (z : Tz) (hE : Ev cN E) (hT : A 1 = T) (hz : zOk n z) : Met l yX2_isThere (wz yX2_isThere cX2_isThere 1 (some .boolean)) (rmk 0 0 0 0) (va_Pc [.ref (eP E 4)] (Bw cN E cK (tkW I T n z, A, K))) (qSi (fun zz => zz = bI (decide (¬ I 4 1 = -1)))) 0 0 fr0 := by
  refine en_ofW RX2 rfl (by decide +kernel) (Nat.le_of_ble_eq_true rfl) ?_
  intro p e s m below meth c ls S hr hlk hnm hl hB
  have hx := S.1
  have hb := S.2.1
  obtain ⟨hK, hC, hP⟩ := hB
  have hS : va_S (cA cN E) s.heap s.heap [] := va_S.rf
  have hl : lv_has ls 1 [(0, .ref (eP E 4))] := hl
  obtain ⟨hz1, hz2⟩ := id hz
  refine lv_aload_n hx hb dX2_isThere_0 rfl (lv_at hl 0 rfl) ?_
  refine rw_geti (x := ((tkW I T n z), A, K)) (v := I 4 1) S hK hP 4 (by decide) (cK_lo (by decide)) fk_X2_11 rfl (tkW_ne (I := I) (T := T) (n := n) (z := z) (a := 4) (b := 1) (by decide)) dX2_isThere_1 ?_
  refine lv_iconst (v := (-1)) hx hb dX2_isThere_4 (by decide) ?_
  refine lv_icmp_eq (tgt := 12) hx hb dX2_isThere_5 (by decide) (fun h5 => ?_) (fun h5 => ?_)
  · refine lv_iconst (v := 0) hx hb dX2_isThere_12 (by decide) ?_
    exact re_sz (v := 0) hx hb hr hlk rfl (bI_n (fun q => q h5)) dX2_isThere_13
  · refine lv_iconst (v := 1) hx hb dX2_isThere_8 (by decide) ?_
    refine lv_goto (tgt := 13) hx hb dX2_isThere_9 (by decide) ?_
    exact re_sz (v := 1) hx hb hr hlk rfl (bI_y h5) dX2_isThere_13

set_option maxHeartbeats 1000000 in
set_option maxRecDepth 100000 in
theorem c_X4_readColour (l : Launch) (E : En) (I A : Nat → Nat → Int32) (K : Nat → Nat → Int64) (T : Nat → Int32) (n : Nat) (z : Tz) (hE : Ev cN E) (hT : A 1 = T) (hz : zOk n z) : Met l yX4_readColour (wz yX4_readColour cX4_readColour 4 (some .int)) (rmk 3 0 0 73) (va_Pc [.ref (eP E 2)] (Bw cN E cK (tkW I T n z, A, K))) (qWi cN E cK (fun zz uu => zz = zCv T n z ∧ uu = (tkW I T n (zCz T n z), A, K))) 0 0 (cA cN E) := by
  refine en_ofW RX4 rfl (by decide +kernel) (Nat.le_of_ble_eq_true rfl) ?_
  intro p e s m below meth c ls S hr hlk hnm hl hB
  have hx := S.1
  have hb := S.2.1
  obtain ⟨hK, hC, hP⟩ := hB
  have hS : va_S (cA cN E) s.heap s.heap [] := va_S.rf
  have hl : lv_has ls 4 [(0, .ref (eP E 2))] := hl
  obtain ⟨hz1, hz2⟩ := id hz
  refine lv_aload_n hx hb dX4_readColour_0 rfl (lv_at hl 0 rfl) ?_
  refine rw_getr (x := ((tkW I T n z), A, K)) S hK hP 2 (by decide) (cK_lo (by decide)) fk_X4_24 rfl dX4_readColour_1 ?_
  refine lv_iconst (v := 0) hx hb dX4_readColour_4 (by decide) ?_
  refine lv_sipush (v := 255) hx hb dX4_readColour_5 (by decide) ?_
  refine cn_wi (ck_V (a := eP E 3) S lk_X4_125 (c_X5_needNumber l E I A K T n z 0 255 hE hT hz) ⟨rfl, rfl⟩ ⟨Nat.le_of_ble_eq_true rfl, Nat.le_of_ble_eq_true rfl⟩ bl_w (rc_w hK hP 3 (by decide) (cK_lo (by decide)) rfl) (bw_U hE hK hC hP hS) rfl hl.1 (Nat.le_of_ble_eq_true rfl) ⟨Nat.le_refl _, Nat.le_refl _⟩ dX4_readColour_8 rfl) hS (fun r1 u2 H locs g3 hP hS => ?_)
  obtain ⟨rfl, rfl⟩ : r1 = zNv T n 0 255 z ∧ u2 = (tkW I T n (zNz T n 0 255 z), A, K) := g3
  have hP : Wp cN E cK ((tkW I T n ((zNz T n 0 255 z))), A, K) H := hP
  refine lv_istore_n (lv' := [(1, .int (zNv T n 0 255 z)), (0, .ref (eP E 2))]) hx hb dX4_readColour_11 rfl hl (by decide) rfl (fun ls hl => ?_)
  refine lv_aload_n hx hb dX4_readColour_12 rfl (lv_at hl 1 rfl) ?_
  refine rw_getr (x := ((tkW I T n ((zNz T n 0 255 z))), A, K)) S hK hP 2 (by decide) (cK_lo (by decide)) fk_X4_24 rfl dX4_readColour_13 ?_
  refine lv_iconst (v := 0) hx hb dX4_readColour_16 (by decide) ?_
  refine lv_sipush (v := 255) hx hb dX4_readColour_17 (by decide) ?_
  refine cn_wi (ck_V (a := eP E 3) S lk_X4_125 (c_X5_needNumber l E I A K T n ((zNz T n 0 255 z)) 0 255 hE hT (zOk_C1 hz)) ⟨rfl, rfl⟩ ⟨Nat.le_of_ble_eq_true rfl, Nat.le_of_ble_eq_true rfl⟩ bl_w (rc_w hK hP 3 (by decide) (cK_lo (by decide)) rfl) (bw_U hE hK hC hP hS) rfl hl.1 (Nat.le_of_ble_eq_true rfl) ⟨Nat.le_refl _, Nat.le_refl _⟩ dX4_readColour_20 rfl) hS (fun r4 u5 H locs g6 hP hS => ?_)
  obtain ⟨rfl, rfl⟩ : r4 = zNv T n 0 255 ((zNz T n 0 255 z)) ∧ u5 = (tkW I T n (zNz T n 0 255 ((zNz T n 0 255 z))), A, K) := g6
  have hP : Wp cN E cK ((tkW I T n ((zNz T n 0 255 ((zNz T n 0 255 z))))), A, K) H := hP
  refine lv_istore_n (lv' := [(2, .int (zNv T n 0 255 ((zNz T n 0 255 z)))), (1, .int (zNv T n 0 255 z)), (0, .ref (eP E 2))]) hx hb dX4_readColour_23 rfl hl (by decide) rfl (fun ls hl => ?_)
  refine lv_aload_n hx hb dX4_readColour_24 rfl (lv_at hl 2 rfl) ?_
  refine rw_getr (x := ((tkW I T n ((zNz T n 0 255 ((zNz T n 0 255 z))))), A, K)) S hK hP 2 (by decide) (cK_lo (by decide)) fk_X4_24 rfl dX4_readColour_25 ?_
  refine lv_iconst (v := 0) hx hb dX4_readColour_28 (by decide) ?_
  refine lv_sipush (v := 255) hx hb dX4_readColour_29 (by decide) ?_
  refine cn_wi (ck_V (a := eP E 3) S lk_X4_125 (c_X5_needNumber l E I A K T n ((zNz T n 0 255 ((zNz T n 0 255 z)))) 0 255 hE hT (zOk_C2 hz)) ⟨rfl, rfl⟩ ⟨Nat.le_of_ble_eq_true rfl, Nat.le_of_ble_eq_true rfl⟩ bl_w (rc_w hK hP 3 (by decide) (cK_lo (by decide)) rfl) (bw_U hE hK hC hP hS) rfl hl.1 (Nat.le_of_ble_eq_true rfl) ⟨Nat.le_refl _, Nat.le_refl _⟩ dX4_readColour_32 rfl) hS (fun r7 u8 H locs g9 hP hS => ?_)
  obtain ⟨rfl, rfl⟩ : r7 = zNv T n 0 255 ((zNz T n 0 255 ((zNz T n 0 255 z)))) ∧ u8 = (tkW I T n (zNz T n 0 255 ((zNz T n 0 255 ((zNz T n 0 255 z))))), A, K) := g9
  have hP : Wp cN E cK ((tkW I T n ((zNz T n 0 255 ((zNz T n 0 255 ((zNz T n 0 255 z))))))), A, K) H := hP
  refine lv_istore_n (lv' := [(3, .int (zNv T n 0 255 ((zNz T n 0 255 ((zNz T n 0 255 z)))))), (2, .int (zNv T n 0 255 ((zNz T n 0 255 z)))), (1, .int (zNv T n 0 255 z)), (0, .ref (eP E 2))]) hx hb dX4_readColour_35 rfl hl (by decide) rfl (fun ls hl => ?_)
  refine lv_iload_n hx hb dX4_readColour_36 rfl (lv_at hl 2 rfl) ?_
  refine lv_iload_n hx hb dX4_readColour_37 rfl (lv_at hl 1 rfl) ?_
  refine lv_iload_n hx hb dX4_readColour_38 rfl (lv_at hl 0 rfl) ?_
  refine cn_si (ck_S S lk_X4_129 (c_X0_joined l (zNv T n 0 255 z) (zNv T n 0 255 ((zNz T n 0 255 z))) (zNv T n 0 255 ((zNz T n 0 255 ((zNz T n 0 255 z)))))) ⟨rfl, rfl⟩ ⟨Nat.le_of_ble_eq_true rfl, Nat.le_of_ble_eq_true rfl⟩ bl_T t_U rfl hl.1 (Nat.le_of_ble_eq_true rfl) ⟨Nat.le_refl _, Nat.le_refl _⟩ dX4_readColour_39 rfl) (fun r10 g11 => ?_)
  obtain rfl : r10 = pMix (zNv T n 0 255 z) (zNv T n 0 255 ((zNz T n 0 255 z))) (zNv T n 0 255 ((zNz T n 0 255 ((zNz T n 0 255 z))))) := g11
  exact re_wi (x := ((tkW I T n ((zNz T n 0 255 ((zNz T n 0 255 ((zNz T n 0 255 z))))))), A, K)) (v := (pMix (zNv T n 0 255 z) (zNv T n 0 255 ((zNz T n 0 255 z))) (zNv T n 0 255 ((zNz T n 0 255 ((zNz T n 0 255 z))))))) hx hb hr hlk hP hS ⟨rfl, rfl⟩ dX4_readColour_42

set_option maxHeartbeats 1000000 in
set_option maxRecDepth 100000 in
theorem c_X4_readRole (l : Launch) (E : En) (I A : Nat → Nat → Int32) (K : Nat → Nat → Int64) (T : Nat → Int32) (n : Nat) (z : Tz) (nr nu : Nat) (fp : Option Nat) (hE : Ev cN E) (hp : pOk T n (nr, nu, fp, A, z)) : Met l yX4_readRole (wz yX4_readRole cX4_readRole 5 none) (rmk 6 0 0 137) (va_Pc [.ref (eP E 2), .ref (eP E (dB 1 0))] (Bw cN E cK (pW I K T n (nr, nu, fp, A, z)))) (qWv cN E cK (fun uu => uu = pW I K T n (sRole T n (nr, nu, fp, A, z)))) 0 0 (cA cN E) := by
  refine en_ofW RX4 rfl (by decide +kernel) (Nat.le_of_ble_eq_true rfl) ?_
  intro p e s m below meth c ls S hr hlk hnm hl hB
  have hx := S.1
  have hb := S.2.1
  obtain ⟨hK, hC, hP⟩ := hB
  have hS : va_S (cA cN E) s.heap s.heap [] := va_S.rf
  have hl : lv_has ls 5 [(0, .ref (eP E 2)), (1, .ref (eP E (dB 1 0)))] := hl
  have hnr : nr ≤ 10 := hp.1.1
  have hnu : nu ≤ 12 := hp.1.2
  have hz : zOk n z := hp.2.1.1
  have hT : A 1 = T := hp.2.1.2
  have hfq : ∀ q, fp = some q → q ≤ n := hp.2.2.1
  obtain ⟨hz1, hz2⟩ := id hz
  have hP : Wp cN E cK (tkW (pI I nr nu fp) T n z, A, K) s.heap := hP
  refine lv_aload_n hx hb dX4_readRole_0 rfl (lv_at hl 1 rfl) ?_
  refine rw_geti (x := ((tkW (pI I nr nu fp) T n z), A, K)) (v := nI nr) S hK hP (dB 1 0) (dB_lt (by decide) (by decide)) (cK_D (by decide)) fk_X4_104 rfl ((tkW_ne (I := (pI I nr nu fp)) (T := T) (n := n) (z := z) (a := (dB 1 0)) (b := 0) (dB_nlo (by decide))).trans pI_r0) dX4_readRole_1 ?_
  refine lv_bipush (v := 10) hx hb dX4_readRole_4 (by decide) ?_
  refine lv_icmp_lt (tgt := 19) hx hb dX4_readRole_6 (by decide) (fun h6 => ?_) (fun h6 => ?_)
  · have hr10 : nr < 10 := (nI_ltI (b := 10) (by omega) (by decide)).mp h6
    refine lv_aload_n hx hb dX4_readRole_19 rfl (lv_at hl 0 rfl) ?_
    refine rw_getr (x := ((tkW (pI I nr nu fp) T n z), A, K)) S hK hP 2 (by decide) (cK_lo (by decide)) fk_X4_24 rfl dX4_readRole_20 ?_
    refine cn_wv (ck_V (a := eP E 3) S lk_X4_107 (c_X5_adv l E (pI I nr nu fp) A K T n z hE hT hz) ⟨rfl, rfl⟩ ⟨Nat.le_of_ble_eq_true rfl, Nat.le_of_ble_eq_true rfl⟩ bl_w (rc_w hK hP 3 (by decide) (cK_lo (by decide)) rfl) (bw_U hE hK hC hP hS) rfl hl.1 (Nat.le_of_ble_eq_true rfl) ⟨Nat.le_refl _, Nat.le_refl _⟩ dX4_readRole_23 rfl) hS (fun u2 H locs g3 hP hS => ?_)
    obtain rfl : u2 = (tkW (pI I nr nu fp) T n (zA T n z), A, K) := g3
    have hP : Wp cN E cK ((tkW (pI I nr nu fp) T n ((zA T n z))), A, K) H := hP
    refine lv_aload_n hx hb dX4_readRole_26 rfl (lv_at hl 0 rfl) ?_
    refine cn_wi (ck_V (a := eP E 2) S lk_X4_110 (c_X4_readColour l E (pI I nr nu fp) A K T n ((zA T n z)) hE hT (zOk_A hz)) ⟨rfl, rfl⟩ ⟨Nat.le_of_ble_eq_true rfl, Nat.le_of_ble_eq_true rfl⟩ bl_w (rc_w hK hP 2 (by decide) (cK_lo (by decide)) rfl) (bw_U hE hK hC hP hS) rfl hl.1 (Nat.le_of_ble_eq_true rfl) ⟨Nat.le_refl _, Nat.le_refl _⟩ dX4_readRole_27 rfl) hS (fun r4 u5 H locs g6 hP hS => ?_)
    obtain ⟨rfl, rfl⟩ : r4 = zCv T n ((zA T n z)) ∧ u5 = (tkW (pI I nr nu fp) T n (zCz T n ((zA T n z))), A, K) := g6
    have hP : Wp cN E cK ((tkW (pI I nr nu fp) T n ((zCz T n ((zA T n z))))), A, K) H := hP
    have hP : Wp cN E cK ((tkW (pI I nr nu fp) T n (zR2 T n z)), A, K) H := hP
    refine tp_i (y := (zRl T n z)) rfl ?_
    refine lv_istore_n (lv' := [(2, .int (zRl T n z)), (0, .ref (eP E 2)), (1, .ref (eP E (dB 1 0)))]) hx hb dX4_readRole_30 rfl hl (by decide) rfl (fun ls hl => ?_)
    refine lv_ldc (v := 16777215) hx hb S.2.2.2.1 (S.2.2.2.2 _ kc_X4_113) dX4_readRole_31 ?_
    refine lv_iload_n hx hb dX4_readRole_33 rfl (lv_at hl 0 rfl) ?_
    refine lv_isub hx hb dX4_readRole_34 ?_
    refine lv_istore_n (lv' := [(3, .int (16777215 - (zRl T n z))), (2, .int (zRl T n z)), (0, .ref (eP E 2)), (1, .ref (eP E (dB 1 0)))]) hx hb dX4_readRole_35 rfl hl (by decide) rfl (fun ls hl => ?_)
    refine lv_aload_n hx hb dX4_readRole_36 rfl (lv_at hl 2 rfl) ?_
    refine rw_getr (x := ((tkW (pI I nr nu fp) T n (zR2 T n z)), A, K)) S hK hP 2 (by decide) (cK_lo (by decide)) fk_X4_24 rfl dX4_readRole_37 ?_
    refine va_ldcS (q := eS E 5) (tx := "dark") hx hb S.2.2.2.1 (tr_5 hC.1.2.1) dX4_readRole_40 ?_
    refine cn_wi (ck_V (a := eP E 3) S lk_X4_116 (c_X5_passWord l E (pI I nr nu fp) A K T n (zR2 T n z) 5 hE hT (zOk_R2 hz) (by decide)) ⟨rfl, rfl⟩ ⟨Nat.le_of_ble_eq_true rfl, Nat.le_of_ble_eq_true rfl⟩ bl_w (rc_w hK hP 3 (by decide) (cK_lo (by decide)) rfl) (bw_U hE hK hC hP hS) rfl hl.1 (Nat.le_of_ble_eq_true rfl) ⟨Nat.le_refl _, Nat.le_refl _⟩ dX4_readRole_42 rfl) hS (fun r7 u8 H locs g9 hP hS => ?_)
    obtain ⟨rfl, rfl⟩ : r7 = bI (zW T n (tw 5) (zR2 T n z)) ∧ u8 = (tkW (pI I nr nu fp) T n (zPW T n (tw 5) (zR2 T n z)), A, K) := g9
    have hP : Wp cN E cK ((tkW (pI I nr nu fp) T n ((zPW T n (tw 5) (zR2 T n z)))), A, K) H := hP
    refine lv_if_eq (tgt := 53) hx hb dX4_readRole_45 (by decide) (fun h45 => ?_) (fun h45 => ?_)
    · have q5 : zW T n (tw 5) (zR2 T n z) = false := bI_f h45
      rw [zPW_f q5] at hP
      have hP : Wp cN E cK ((tkW (pI I nr nu fp) T n (zR2 T n z)), A, K) H := hP
      have e3 : zR3 T n z = zR2 T n z := if_neg (ne_t q5)
      have ed : zRd T n z = (16777215 - zRl T n z) := if_neg (ne_t q5)
      rw [← e3] at hP
      rw [← ed] at hl
      have hP : Wp cN E cK ((tkW (pI I nr nu fp) T n (zR3 T n z)), A, K) H := hP
      have hl : lv_has ls 5 [(3, .int (zRd T n z)), (2, .int (zRl T n z)), (0, .ref (eP E 2)), (1, .ref (eP E (dB 1 0)))] := hl
      refine lv_aload_n hx hb dX4_readRole_53 rfl (lv_at hl 2 rfl) ?_
      refine rw_getr (x := ((tkW (pI I nr nu fp) T n (zR3 T n z)), A, K)) S hK hP 2 (by decide) (cK_lo (by decide)) fk_X4_24 rfl dX4_readRole_54 ?_
      refine va_ldcS (q := eS E 6) (tx := "fixed") hx hb S.2.2.2.1 (tr_6 hC.1.2.1) dX4_readRole_57 ?_
      refine cn_wi (ck_V (a := eP E 3) S lk_X4_116 (c_X5_passWord l E (pI I nr nu fp) A K T n (zR3 T n z) 6 hE hT (zOk_R3 hz) (by decide)) ⟨rfl, rfl⟩ ⟨Nat.le_of_ble_eq_true rfl, Nat.le_of_ble_eq_true rfl⟩ bl_w (rc_w hK hP 3 (by decide) (cK_lo (by decide)) rfl) (bw_U hE hK hC hP hS) rfl hl.1 (Nat.le_of_ble_eq_true rfl) ⟨Nat.le_refl _, Nat.le_refl _⟩ dX4_readRole_59 rfl) hS (fun r10 u11 H locs g12 hP hS => ?_)
      obtain ⟨rfl, rfl⟩ : r10 = bI (zW T n (tw 6) (zR3 T n z)) ∧ u11 = (tkW (pI I nr nu fp) T n (zPW T n (tw 6) (zR3 T n z)), A, K) := g12
      have hP : Wp cN E cK ((tkW (pI I nr nu fp) T n ((zPW T n (tw 6) (zR3 T n z)))), A, K) H := hP
      have hP : Wp cN E cK ((tkW (pI I nr nu fp) T n (zR4 T n z)), A, K) H := hP
      refine tp_i (y := (zRf T n z)) rfl ?_
      refine lv_istore (lv' := [(4, .int (zRf T n z)), (3, .int (zRd T n z)), (2, .int (zRl T n z)), (0, .ref (eP E 2)), (1, .ref (eP E (dB 1 0)))]) hx hb dX4_readRole_62 hl (by decide) rfl (fun ls hl => ?_)
      refine lv_aload_n hx hb dX4_readRole_64 rfl (lv_at hl 3 rfl) ?_
      refine rw_getr (x := ((tkW (pI I nr nu fp) T n (zR4 T n z)), A, K)) S hK hP 2 (by decide) (cK_lo (by decide)) fk_X4_24 rfl dX4_readRole_65 ?_
      refine cn_si (ck_V (a := eP E 3) S lk_X4_67 (c_X5_firstError l E (pI I nr nu fp) A K T n (zR4 T n z) hE hT (zOk_R4 hz)) ⟨rfl, rfl⟩ ⟨Nat.le_of_ble_eq_true rfl, Nat.le_of_ble_eq_true rfl⟩ bl_w (rc_w hK hP 3 (by decide) (cK_lo (by decide)) rfl) (bw_U hE hK hC hP hS) rfl hl.1 (Nat.le_of_ble_eq_true rfl) ⟨Nat.le_refl _, Nat.le_refl _⟩ dX4_readRole_68 rfl) (fun r13 g14 => ?_)
      obtain rfl : r13 = (zR4 T n z).1 := g14
      refine lv_if_ne (tgt := 82) hx hb dX4_readRole_71 (by decide) (fun h71 => ?_) (fun h71 => ?_)
      · exact re_wv (x := ((tkW (pI I nr nu fp) T n (zR4 T n z)), A, K)) hx hb hr hlk hP hS (by rw [sRole_n (by omega) h71, pW_mk]) dX4_readRole_82
      · refine lv_aload_n hx hb dX4_readRole_74 rfl (lv_at hl 4 rfl) ?_
        refine lv_iload_n hx hb dX4_readRole_75 rfl (lv_at hl 2 rfl) ?_
        refine lv_iload_n hx hb dX4_readRole_76 rfl (lv_at hl 1 rfl) ?_
        refine lv_iload hx hb dX4_readRole_77 (lv_at hl 0 rfl) ?_
        refine cn_wv (ck_V (a := eP E (dB 1 0)) S lk_X4_121 (c_X1_addRole l E (tkW (pI I nr nu fp) T n (zR4 T n z)) A K (zRl T n z) (zRd T n z) (zRf T n z) 1 nr hE (by decide) rfl hr10) ⟨rfl, rfl⟩ ⟨Nat.le_of_ble_eq_true rfl, Nat.le_of_ble_eq_true rfl⟩ bl_w (rc_w hK hP (dB 1 0) (dB_lt (by decide) (by decide)) (cK_D (by decide)) rfl) (bw_U hE hK hC hP hS) rfl hl.1 (Nat.le_of_ble_eq_true rfl) ⟨Nat.le_refl _, Nat.le_refl _⟩ dX4_readRole_79 rfl) hS (fun u16 H locs g17 hP hS => ?_)
        obtain rfl : u16 = (up2 (tkW (pI I nr nu fp) T n (zR4 T n z)) (dB 1 0) 0 (nI (nr + 1)), cAdR A 1 nr (zRl T n z) (zRd T n z) (zRf T n z), K) := g17
        have hP : Wp cN E cK ((up2 (tkW (pI I nr nu fp) T n (zR4 T n z)) (dB 1 0) 0 (nI (nr + 1))), (cAdR A 1 nr (zRl T n z) (zRd T n z) (zRf T n z)), K) H := hP
        rw [tkW_up (dB_nlo (by decide)), pI_w2] at hP
        have hP : Wp cN E cK ((tkW (pI I (nr + 1) nu fp) T n (zR4 T n z)), (cAdR A 1 nr (zRl T n z) (zRd T n z) (zRf T n z)), K) H := hP
        exact re_wv (x := ((tkW (pI I (nr + 1) nu fp) T n (zR4 T n z)), (cAdR A 1 nr (zRl T n z) (zRd T n z) (zRf T n z)), K)) hx hb hr hlk hP hS (by rw [sRole_y (by omega) h71, pW_mk]) dX4_readRole_82
    · have q5 : zW T n (tw 5) (zR2 T n z) = true := bI_t h45
      rw [zPW_t q5] at hP
      have hP : Wp cN E cK ((tkW (pI I nr nu fp) T n (zA T n (zR2 T n z))), A, K) H := hP
      refine lv_aload_n hx hb dX4_readRole_48 rfl (lv_at hl 2 rfl) ?_
      refine cn_wi (ck_V (a := eP E 2) S lk_X4_110 (c_X4_readColour l E (pI I nr nu fp) A K T n (zA T n (zR2 T n z)) hE hT (zOk_A (zOk_R2 hz))) ⟨rfl, rfl⟩ ⟨Nat.le_of_ble_eq_true rfl, Nat.le_of_ble_eq_true rfl⟩ bl_w (rc_w hK hP 2 (by decide) (cK_lo (by decide)) rfl) (bw_U hE hK hC hP hS) rfl hl.1 (Nat.le_of_ble_eq_true rfl) ⟨Nat.le_refl _, Nat.le_refl _⟩ dX4_readRole_49 rfl) hS (fun r18 u19 H locs g20 hP hS => ?_)
      obtain ⟨rfl, rfl⟩ : r18 = zCv T n (zA T n (zR2 T n z)) ∧ u19 = (tkW (pI I nr nu fp) T n (zCz T n (zA T n (zR2 T n z))), A, K) := g20
      have hP : Wp cN E cK ((tkW (pI I nr nu fp) T n ((zCz T n (zA T n (zR2 T n z))))), A, K) H := hP
      refine lv_istore_n (lv' := [(3, .int (zCv T n (zA T n (zR2 T n z)))), (2, .int (zRl T n z)), (0, .ref (eP E 2)), (1, .ref (eP E (dB 1 0)))]) hx hb dX4_readRole_52 rfl hl (by decide) rfl (fun ls hl => ?_)
      have e3 : zR3 T n z = zCz T n (zA T n (zR2 T n z)) := if_pos q5
      have ed : zRd T n z = zCv T n (zA T n (zR2 T n z)) := if_pos q5
      rw [← e3] at hP
      rw [← ed] at hl
      have hP : Wp cN E cK ((tkW (pI I nr nu fp) T n (zR3 T n z)), A, K) H := hP
      have hl : lv_has ls 5 [(3, .int (zRd T n z)), (2, .int (zRl T n z)), (0, .ref (eP E 2)), (1, .ref (eP E (dB 1 0)))] := hl
      refine lv_aload_n hx hb dX4_readRole_53 rfl (lv_at hl 2 rfl) ?_
      refine rw_getr (x := ((tkW (pI I nr nu fp) T n (zR3 T n z)), A, K)) S hK hP 2 (by decide) (cK_lo (by decide)) fk_X4_24 rfl dX4_readRole_54 ?_
      refine va_ldcS (q := eS E 6) (tx := "fixed") hx hb S.2.2.2.1 (tr_6 hC.1.2.1) dX4_readRole_57 ?_
      refine cn_wi (ck_V (a := eP E 3) S lk_X4_116 (c_X5_passWord l E (pI I nr nu fp) A K T n (zR3 T n z) 6 hE hT (zOk_R3 hz) (by decide)) ⟨rfl, rfl⟩ ⟨Nat.le_of_ble_eq_true rfl, Nat.le_of_ble_eq_true rfl⟩ bl_w (rc_w hK hP 3 (by decide) (cK_lo (by decide)) rfl) (bw_U hE hK hC hP hS) rfl hl.1 (Nat.le_of_ble_eq_true rfl) ⟨Nat.le_refl _, Nat.le_refl _⟩ dX4_readRole_59 rfl) hS (fun r21 u22 H locs g23 hP hS => ?_)
      obtain ⟨rfl, rfl⟩ : r21 = bI (zW T n (tw 6) (zR3 T n z)) ∧ u22 = (tkW (pI I nr nu fp) T n (zPW T n (tw 6) (zR3 T n z)), A, K) := g23
      have hP : Wp cN E cK ((tkW (pI I nr nu fp) T n ((zPW T n (tw 6) (zR3 T n z)))), A, K) H := hP
      have hP : Wp cN E cK ((tkW (pI I nr nu fp) T n (zR4 T n z)), A, K) H := hP
      refine tp_i (y := (zRf T n z)) rfl ?_
      refine lv_istore (lv' := [(4, .int (zRf T n z)), (3, .int (zRd T n z)), (2, .int (zRl T n z)), (0, .ref (eP E 2)), (1, .ref (eP E (dB 1 0)))]) hx hb dX4_readRole_62 hl (by decide) rfl (fun ls hl => ?_)
      refine lv_aload_n hx hb dX4_readRole_64 rfl (lv_at hl 3 rfl) ?_
      refine rw_getr (x := ((tkW (pI I nr nu fp) T n (zR4 T n z)), A, K)) S hK hP 2 (by decide) (cK_lo (by decide)) fk_X4_24 rfl dX4_readRole_65 ?_
      refine cn_si (ck_V (a := eP E 3) S lk_X4_67 (c_X5_firstError l E (pI I nr nu fp) A K T n (zR4 T n z) hE hT (zOk_R4 hz)) ⟨rfl, rfl⟩ ⟨Nat.le_of_ble_eq_true rfl, Nat.le_of_ble_eq_true rfl⟩ bl_w (rc_w hK hP 3 (by decide) (cK_lo (by decide)) rfl) (bw_U hE hK hC hP hS) rfl hl.1 (Nat.le_of_ble_eq_true rfl) ⟨Nat.le_refl _, Nat.le_refl _⟩ dX4_readRole_68 rfl) (fun r24 g25 => ?_)
      obtain rfl : r24 = (zR4 T n z).1 := g25
      refine lv_if_ne (tgt := 82) hx hb dX4_readRole_71 (by decide) (fun h71 => ?_) (fun h71 => ?_)
      · exact re_wv (x := ((tkW (pI I nr nu fp) T n (zR4 T n z)), A, K)) hx hb hr hlk hP hS (by rw [sRole_n (by omega) h71, pW_mk]) dX4_readRole_82
      · refine lv_aload_n hx hb dX4_readRole_74 rfl (lv_at hl 4 rfl) ?_
        refine lv_iload_n hx hb dX4_readRole_75 rfl (lv_at hl 2 rfl) ?_
        refine lv_iload_n hx hb dX4_readRole_76 rfl (lv_at hl 1 rfl) ?_
        refine lv_iload hx hb dX4_readRole_77 (lv_at hl 0 rfl) ?_
        refine cn_wv (ck_V (a := eP E (dB 1 0)) S lk_X4_121 (c_X1_addRole l E (tkW (pI I nr nu fp) T n (zR4 T n z)) A K (zRl T n z) (zRd T n z) (zRf T n z) 1 nr hE (by decide) rfl hr10) ⟨rfl, rfl⟩ ⟨Nat.le_of_ble_eq_true rfl, Nat.le_of_ble_eq_true rfl⟩ bl_w (rc_w hK hP (dB 1 0) (dB_lt (by decide) (by decide)) (cK_D (by decide)) rfl) (bw_U hE hK hC hP hS) rfl hl.1 (Nat.le_of_ble_eq_true rfl) ⟨Nat.le_refl _, Nat.le_refl _⟩ dX4_readRole_79 rfl) hS (fun u27 H locs g28 hP hS => ?_)
        obtain rfl : u27 = (up2 (tkW (pI I nr nu fp) T n (zR4 T n z)) (dB 1 0) 0 (nI (nr + 1)), cAdR A 1 nr (zRl T n z) (zRd T n z) (zRf T n z), K) := g28
        have hP : Wp cN E cK ((up2 (tkW (pI I nr nu fp) T n (zR4 T n z)) (dB 1 0) 0 (nI (nr + 1))), (cAdR A 1 nr (zRl T n z) (zRd T n z) (zRf T n z)), K) H := hP
        rw [tkW_up (dB_nlo (by decide)), pI_w2] at hP
        have hP : Wp cN E cK ((tkW (pI I (nr + 1) nu fp) T n (zR4 T n z)), (cAdR A 1 nr (zRl T n z) (zRd T n z) (zRf T n z)), K) H := hP
        exact re_wv (x := ((tkW (pI I (nr + 1) nu fp) T n (zR4 T n z)), (cAdR A 1 nr (zRl T n z) (zRd T n z) (zRf T n z)), K)) hx hb hr hlk hP hS (by rw [sRole_y (by omega) h71, pW_mk]) dX4_readRole_82
  · have hr10 : 10 ≤ nr := Nat.not_lt.mp (fun g => h6 (nI_lt (b := 10) g (by decide)))
    refine lv_aload_n hx hb dX4_readRole_9 rfl (lv_at hl 0 rfl) ?_
    refine rw_getr (x := ((tkW (pI I nr nu fp) T n z), A, K)) S hK hP 2 (by decide) (cK_lo (by decide)) fk_X4_24 rfl dX4_readRole_10 ?_
    refine lv_bipush (v := (-4)) hx hb dX4_readRole_13 (by decide) ?_
    refine cn_wv (ck_V (a := eP E 3) S lk_X4_101 (c_X5_fail l E (pI I nr nu fp) A K T n z (-4) hE hT hz (by decide)) ⟨rfl, rfl⟩ ⟨Nat.le_of_ble_eq_true rfl, Nat.le_of_ble_eq_true rfl⟩ bl_w (rc_w hK hP 3 (by decide) (cK_lo (by decide)) rfl) (bw_U hE hK hC hP hS) rfl hl.1 (Nat.le_of_ble_eq_true rfl) ⟨Nat.le_refl _, Nat.le_refl _⟩ dX4_readRole_15 rfl) hS (fun u30 H locs g31 hP hS => ?_)
    obtain rfl : u30 = (tkW (pI I nr nu fp) T n (zF (-4) z), A, K) := g31
    have hP : Wp cN E cK ((tkW (pI I nr nu fp) T n ((zF (-4) z))), A, K) H := hP
    exact re_wv (x := ((tkW (pI I nr nu fp) T n ((zF (-4) z))), A, K)) hx hb hr hlk hP hS (by rw [sRole_f hr10, pW_mk]) dX4_readRole_18

set_option maxHeartbeats 1000000 in
set_option maxRecDepth 100000 in
theorem c_X4_readRule_1 (l : Launch) (E : En) (I A : Nat → Nat → Int32) (K : Nat → Nat → Int64) (T : Nat → Int32) (n : Nat) (z : Tz) (nr nu : Nat) (fp : Option Nat) (hE : Ev cN E) (hp : pOk T n (nr, nu, fp, A, z)) : Met l yX4_readRule (wz yX4_readRule cX4_readRule 7 none) (rmk 3 0 0 73) (va_Pc [.ref (eP E 2), .ref (eP E (dB 1 0)), .int 1] (Bw cN E cK (pW I K T n (nr, nu, fp, A, z)))) (qWv cN E cK (fun uu => uu = pW I K T n (sRule T n true (nr, nu, fp, A, z)))) 0 0 (cA cN E) := by
  refine en_ofW RX4 rfl (by decide +kernel) (Nat.le_of_ble_eq_true rfl) ?_
  intro p e s m below meth c ls S hr hlk hnm hl hB
  have hx := S.1
  have hb := S.2.1
  obtain ⟨hK, hC, hP⟩ := hB
  have hS : va_S (cA cN E) s.heap s.heap [] := va_S.rf
  have hl : lv_has ls 7 [(0, .ref (eP E 2)), (1, .ref (eP E (dB 1 0))), (2, .int 1)] := hl
  have hnr : nr ≤ 10 := hp.1.1
  have hnu : nu ≤ 12 := hp.1.2
  have hz : zOk n z := hp.2.1.1
  have hT : A 1 = T := hp.2.1.2
  have hfq : ∀ q, fp = some q → q ≤ n := hp.2.2.1
  obtain ⟨hz1, hz2⟩ := id hz
  have hP : Wp cN E cK (tkW (pI I nr nu fp) T n z, A, K) s.heap := hP
  refine lv_aload_n hx hb dX4_readRule_0 rfl (lv_at hl 1 rfl) ?_
  refine rw_geti (x := ((tkW (pI I nr nu fp) T n z), A, K)) (v := nI nu) S hK hP (dB 1 0) (dB_lt (by decide) (by decide)) (cK_D (by decide)) fk_X4_135 rfl ((tkW_ne (I := (pI I nr nu fp)) (T := T) (n := n) (z := z) (a := (dB 1 0)) (b := 3) (dB_nlo (by decide))).trans pI_r3) dX4_readRule_1 ?_
  refine lv_bipush (v := 12) hx hb dX4_readRule_4 (by decide) ?_
  refine lv_icmp_lt (tgt := 19) hx hb dX4_readRule_6 (by decide) (fun h6 => ?_) (fun h6 => ?_)
  · have hu12 : nu < 12 := (nI_ltI (b := 12) (by omega) (by decide)).mp h6
    refine lv_aload_n hx hb dX4_readRule_19 rfl (lv_at hl 0 rfl) ?_
    refine rw_getr (x := ((tkW (pI I nr nu fp) T n z), A, K)) S hK hP 2 (by decide) (cK_lo (by decide)) fk_X4_24 rfl dX4_readRule_20 ?_
    refine cn_wv (ck_V (a := eP E 3) S lk_X4_107 (c_X5_adv l E (pI I nr nu fp) A K T n z hE hT hz) ⟨rfl, rfl⟩ ⟨Nat.le_of_ble_eq_true rfl, Nat.le_of_ble_eq_true rfl⟩ bl_w (rc_w hK hP 3 (by decide) (cK_lo (by decide)) rfl) (bw_U hE hK hC hP hS) rfl hl.1 (Nat.le_of_ble_eq_true rfl) ⟨Nat.le_refl _, Nat.le_refl _⟩ dX4_readRule_23 rfl) hS (fun u2 H locs g3 hP hS => ?_)
    obtain rfl : u2 = (tkW (pI I nr nu fp) T n (zA T n z), A, K) := g3
    have hP : Wp cN E cK ((tkW (pI I nr nu fp) T n ((zA T n z))), A, K) H := hP
    refine lv_aload_n hx hb dX4_readRule_26 rfl (lv_at hl 0 rfl) ?_
    refine rw_getr (x := ((tkW (pI I nr nu fp) T n ((zA T n z))), A, K)) S hK hP 2 (by decide) (cK_lo (by decide)) fk_X4_24 rfl dX4_readRule_27 ?_
    refine lv_iconst (v := 0) hx hb dX4_readRule_30 (by decide) ?_
    refine lv_aload_n hx hb dX4_readRule_31 rfl (lv_at hl 1 rfl) ?_
    refine rw_geti (x := ((tkW (pI I nr nu fp) T n ((zA T n z))), A, K)) (v := nI nr) S hK hP (dB 1 0) (dB_lt (by decide) (by decide)) (cK_D (by decide)) fk_X4_104 rfl ((tkW_ne (I := (pI I nr nu fp)) (T := T) (n := n) (z := ((zA T n z))) (a := (dB 1 0)) (b := 0) (dB_nlo (by decide))).trans pI_r0) dX4_readRule_32 ?_
    refine lv_iconst (v := 1) hx hb dX4_readRule_35 (by decide) ?_
    refine lv_isub hx hb dX4_readRule_36 ?_
    refine cn_wi (ck_V (a := eP E 3) S lk_X4_125 (c_X5_needNumber l E (pI I nr nu fp) A K T n ((zA T n z)) 0 ((nI nr) - 1) hE hT (zOk_A hz)) ⟨rfl, rfl⟩ ⟨Nat.le_of_ble_eq_true rfl, Nat.le_of_ble_eq_true rfl⟩ bl_w (rc_w hK hP 3 (by decide) (cK_lo (by decide)) rfl) (bw_U hE hK hC hP hS) rfl hl.1 (Nat.le_of_ble_eq_true rfl) ⟨Nat.le_refl _, Nat.le_refl _⟩ dX4_readRule_37 rfl) hS (fun r4 u5 H locs g6 hP hS => ?_)
    obtain ⟨rfl, rfl⟩ : r4 = zNv T n 0 ((nI nr) - 1) ((zA T n z)) ∧ u5 = (tkW (pI I nr nu fp) T n (zNz T n 0 ((nI nr) - 1) ((zA T n z))), A, K) := g6
    have hP : Wp cN E cK ((tkW (pI I nr nu fp) T n ((zNz T n 0 ((nI nr) - 1) ((zA T n z))))), A, K) H := hP
    have hP : Wp cN E cK ((tkW (pI I nr nu fp) T n (zU2 T n nr z)), A, K) H := hP
    refine tp_i (y := (zUf T n nr z)) rfl ?_
    refine lv_istore_n (lv' := [(3, .int (zUf T n nr z)), (0, .ref (eP E 2)), (1, .ref (eP E (dB 1 0))), (2, .int 1)]) hx hb dX4_readRule_40 rfl hl (by decide) rfl (fun ls hl => ?_)
    refine lv_aload_n hx hb dX4_readRule_41 rfl (lv_at hl 1 rfl) ?_
    refine rw_getr (x := ((tkW (pI I nr nu fp) T n (zU2 T n nr z)), A, K)) S hK hP 2 (by decide) (cK_lo (by decide)) fk_X4_24 rfl dX4_readRule_42 ?_
    refine cn_si (ck_V (a := eP E 3) S lk_X4_138 (c_X5_isNumber l E (pI I nr nu fp) A K T n (zU2 T n nr z) hE hT (zOk_U2 hz)) ⟨rfl, rfl⟩ ⟨Nat.le_of_ble_eq_true rfl, Nat.le_of_ble_eq_true rfl⟩ bl_w (rc_w hK hP 3 (by decide) (cK_lo (by decide)) rfl) (bw_U hE hK hC hP hS) rfl hl.1 (Nat.le_of_ble_eq_true rfl) ⟨Nat.le_refl _, Nat.le_refl _⟩ dX4_readRule_45 rfl) (fun r7 g8 => ?_)
    obtain rfl : r7 = bI (zN T n (zU2 T n nr z)) := g8
    refine lv_if_eq (tgt := 71) hx hb dX4_readRule_48 (by decide) (fun h48 => ?_) (fun h48 => ?_)
    · have q1 : zN T n (zU2 T n nr z) = false := bI_f h48
      have e3 : zU3 T n nr z = (zU2 T n nr z) := if_neg (fun g => ne_t q1 g.1)
      rw [← e3] at hP
      have hP : Wp cN E cK ((tkW (pI I nr nu fp) T n (zU3 T n nr z)), A, K) H := hP
      refine lv_aload_n hx hb dX4_readRule_71 rfl (lv_at hl 1 rfl) ?_
      refine rw_getr (x := ((tkW (pI I nr nu fp) T n (zU3 T n nr z)), A, K)) S hK hP 2 (by decide) (cK_lo (by decide)) fk_X4_24 rfl dX4_readRule_72 ?_
      refine lv_iconst (v := 0) hx hb dX4_readRule_75 (by decide) ?_
      refine lv_aload_n hx hb dX4_readRule_76 rfl (lv_at hl 2 rfl) ?_
      refine rw_geti (x := ((tkW (pI I nr nu fp) T n (zU3 T n nr z)), A, K)) (v := nI nr) S hK hP (dB 1 0) (dB_lt (by decide) (by decide)) (cK_D (by decide)) fk_X4_104 rfl ((tkW_ne (I := (pI I nr nu fp)) (T := T) (n := n) (z := (zU3 T n nr z)) (a := (dB 1 0)) (b := 0) (dB_nlo (by decide))).trans pI_r0) dX4_readRule_77 ?_
      refine lv_iconst (v := 1) hx hb dX4_readRule_80 (by decide) ?_
      refine lv_isub hx hb dX4_readRule_81 ?_
      refine cn_wi (ck_V (a := eP E 3) S lk_X4_125 (c_X5_needNumber l E (pI I nr nu fp) A K T n (zU3 T n nr z) 0 ((nI nr) - 1) hE hT (zOk_U3 hz)) ⟨rfl, rfl⟩ ⟨Nat.le_of_ble_eq_true rfl, Nat.le_of_ble_eq_true rfl⟩ bl_w (rc_w hK hP 3 (by decide) (cK_lo (by decide)) rfl) (bw_U hE hK hC hP hS) rfl hl.1 (Nat.le_of_ble_eq_true rfl) ⟨Nat.le_refl _, Nat.le_refl _⟩ dX4_readRule_82 rfl) hS (fun r9 u10 H locs g11 hP hS => ?_)
      obtain ⟨rfl, rfl⟩ : r9 = zNv T n 0 ((nI nr) - 1) (zU3 T n nr z) ∧ u10 = (tkW (pI I nr nu fp) T n (zNz T n 0 ((nI nr) - 1) (zU3 T n nr z)), A, K) := g11
      have hP : Wp cN E cK ((tkW (pI I nr nu fp) T n ((zNz T n 0 ((nI nr) - 1) (zU3 T n nr z)))), A, K) H := hP
      have hP : Wp cN E cK ((tkW (pI I nr nu fp) T n (zU4 T n nr z)), A, K) H := hP
      refine tp_i (y := (zUg T n nr z)) rfl ?_
      refine lv_istore (lv' := [(4, .int (zUg T n nr z)), (3, .int (zUf T n nr z)), (0, .ref (eP E 2)), (1, .ref (eP E (dB 1 0))), (2, .int 1)]) hx hb dX4_readRule_85 hl (by decide) rfl (fun ls hl => ?_)
      refine lv_iload_n hx hb dX4_readRule_87 rfl (lv_at hl 4 rfl) ?_
      refine lv_if_eq (tgt := 95) hx hb dX4_readRule_88 (by decide) (fun h88 => absurd h88 (by decide)) (fun h88 => ?_)
      refine lv_iconst (v := (-1)) hx hb dX4_readRule_91 (by decide) ?_
      refine lv_goto (tgt := 104) hx hb dX4_readRule_92 (by decide) ?_
      have hP : Wp cN E cK ((tkW (pI I nr nu fp) T n (zU5 T n nr true z)), A, K) H := hP
      refine tp_i (y := (zUt T n nr true z)) rfl ?_
      refine lv_istore (lv' := [(5, .int (zUt T n nr true z)), (4, .int (zUg T n nr z)), (3, .int (zUf T n nr z)), (0, .ref (eP E 2)), (1, .ref (eP E (dB 1 0))), (2, .int 1)]) hx hb dX4_readRule_104 hl (by decide) rfl (fun ls hl => ?_)
      refine lv_aload_n hx hb dX4_readRule_106 rfl (lv_at hl 3 rfl) ?_
      refine rw_getr (x := ((tkW (pI I nr nu fp) T n (zU5 T n nr true z)), A, K)) S hK hP 2 (by decide) (cK_lo (by decide)) fk_X4_24 rfl dX4_readRule_107 ?_
      refine lv_iconst (v := 1) hx hb dX4_readRule_110 (by decide) ?_
      refine lv_iload_n hx hb dX4_readRule_111 rfl (lv_at hl 5 rfl) ?_
      refine lv_if_eq (tgt := 120) hx hb dX4_readRule_112 (by decide) (fun h112 => absurd h112 (by decide)) (fun h112 => ?_)
      refine lv_bipush (v := 9) hx hb dX4_readRule_115 (by decide) ?_
      refine lv_goto (tgt := 123) hx hb dX4_readRule_117 (by decide) ?_
      refine cn_wi (ck_V (a := eP E 3) S lk_X4_125 (c_X5_needNumber l E (pI I nr nu fp) A K T n (zU5 T n nr true z) 1 9 hE hT (zOk_U5 (b := true) hz)) ⟨rfl, rfl⟩ ⟨Nat.le_of_ble_eq_true rfl, Nat.le_of_ble_eq_true rfl⟩ bl_w (rc_w hK hP 3 (by decide) (cK_lo (by decide)) rfl) (bw_U hE hK hC hP hS) rfl hl.1 (Nat.le_of_ble_eq_true rfl) ⟨Nat.le_refl _, Nat.le_refl _⟩ dX4_readRule_123 rfl) hS (fun r12 u13 H locs g14 hP hS => ?_)
      obtain ⟨rfl, rfl⟩ : r12 = zNv T n 1 9 (zU5 T n nr true z) ∧ u13 = (tkW (pI I nr nu fp) T n (zNz T n 1 9 (zU5 T n nr true z)), A, K) := g14
      have hP : Wp cN E cK ((tkW (pI I nr nu fp) T n ((zNz T n 1 9 (zU5 T n nr true z)))), A, K) H := hP
      have hP : Wp cN E cK ((tkW (pI I nr nu fp) T n (zU6 T n nr true z)), A, K) H := hP
      refine tp_i (y := (zUa T n nr true z)) rfl ?_
      refine lv_istore (lv' := [(6, .int (zUa T n nr true z)), (5, .int (zUt T n nr true z)), (4, .int (zUg T n nr z)), (3, .int (zUf T n nr z)), (0, .ref (eP E 2)), (1, .ref (eP E (dB 1 0))), (2, .int 1)]) hx hb dX4_readRule_126 hl (by decide) rfl (fun ls hl => ?_)
      refine lv_aload_n hx hb dX4_readRule_128 rfl (lv_at hl 4 rfl) ?_
      refine rw_getr (x := ((tkW (pI I nr nu fp) T n (zU6 T n nr true z)), A, K)) S hK hP 2 (by decide) (cK_lo (by decide)) fk_X4_24 rfl dX4_readRule_129 ?_
      refine cn_si (ck_V (a := eP E 3) S lk_X4_67 (c_X5_firstError l E (pI I nr nu fp) A K T n (zU6 T n nr true z) hE hT (zOk_U6 (b := true) hz)) ⟨rfl, rfl⟩ ⟨Nat.le_of_ble_eq_true rfl, Nat.le_of_ble_eq_true rfl⟩ bl_w (rc_w hK hP 3 (by decide) (cK_lo (by decide)) rfl) (bw_U hE hK hC hP hS) rfl hl.1 (Nat.le_of_ble_eq_true rfl) ⟨Nat.le_refl _, Nat.le_refl _⟩ dX4_readRule_132 rfl) (fun r15 g16 => ?_)
      obtain rfl : r15 = (zU6 T n nr true z).1 := g16
      refine lv_if_ne (tgt := 160) hx hb dX4_readRule_135 (by decide) (fun h135 => ?_) (fun h135 => ?_)
      · exact re_wv (x := ((tkW (pI I nr nu fp) T n (zU6 T n nr true z)), A, K)) hx hb hr hlk hP hS (by rw [sRule_n (by omega) h135, pW_mk]) dX4_readRule_160
      · refine lv_aload_n hx hb dX4_readRule_138 rfl (lv_at hl 4 rfl) ?_
        refine rw_getr (x := ((tkW (pI I nr nu fp) T n (zU6 T n nr true z)), A, K)) S hK hP 2 (by decide) (cK_lo (by decide)) fk_X4_9 rfl dX4_readRule_139 ?_
        refine lv_aload_n hx hb dX4_readRule_142 rfl (lv_at hl 5 rfl) ?_
        refine rw_geti (x := ((tkW (pI I nr nu fp) T n (zU6 T n nr true z)), A, K)) (v := nI nu) S hK hP (dB 1 0) (dB_lt (by decide) (by decide)) (cK_D (by decide)) fk_X4_135 rfl ((tkW_ne (I := (pI I nr nu fp)) (T := T) (n := n) (z := (zU6 T n nr true z)) (a := (dB 1 0)) (b := 3) (dB_nlo (by decide))).trans pI_r3) dX4_readRule_143 ?_
        refine lv_iload hx hb dX4_readRule_146 (lv_at hl 0 rfl) ?_
        refine rw_iast (x := ((tkW (pI I nr nu fp) T n (zU6 T n nr true z)), A, K)) (v := (zUa T n nr true z)) S hE hK hP hS 5 (by decide) (cK_lo (by decide)) nu rfl (by omega) (by decide) dX4_readRule_148 (fun H locs hP hS => ?_)
        have hP : Wp cN E cK ((tkW (pI I nr nu fp) T n (zU6 T n nr true z)), (up2 A 5 nu (zUa T n nr true z)), K) H := hP
        refine lv_aload_n hx hb dX4_readRule_149 rfl (lv_at hl 5 rfl) ?_
        refine lv_iload_n hx hb dX4_readRule_150 rfl (lv_at hl 3 rfl) ?_
        refine lv_iload hx hb dX4_readRule_151 (lv_at hl 2 rfl) ?_
        refine lv_iload hx hb dX4_readRule_153 (lv_at hl 1 rfl) ?_
        refine lv_iload hx hb dX4_readRule_155 (lv_at hl 0 rfl) ?_
        refine cn_wv (ck_V (a := eP E (dB 1 0)) S lk_X4_144 (c_X1_addRule l E (tkW (pI I nr nu fp) T n (zU6 T n nr true z)) (up2 A 5 nu (zUa T n nr true z)) K (zUf T n nr z) (zUg T n nr z) (zUt T n nr true z) (zUa T n nr true z) 1 nu hE (by decide) rfl hu12) ⟨rfl, rfl⟩ ⟨Nat.le_of_ble_eq_true rfl, Nat.le_of_ble_eq_true rfl⟩ bl_w (rc_w hK hP (dB 1 0) (dB_lt (by decide) (by decide)) (cK_D (by decide)) rfl) (bw_U hE hK hC hP hS) rfl hl.1 (Nat.le_of_ble_eq_true rfl) ⟨Nat.le_refl _, Nat.le_refl _⟩ dX4_readRule_157 rfl) hS (fun u18 H locs g19 hP hS => ?_)
        obtain rfl : u18 = (up2 (tkW (pI I nr nu fp) T n (zU6 T n nr true z)) (dB 1 0) 3 (nI (nu + 1)), cAdU (up2 A 5 nu (zUa T n nr true z)) 1 nu (zUf T n nr z) (zUg T n nr z) (zUt T n nr true z) (zUa T n nr true z), K) := g19
        have hP : Wp cN E cK ((up2 (tkW (pI I nr nu fp) T n (zU6 T n nr true z)) (dB 1 0) 3 (nI (nu + 1))), (cAdU (up2 A 5 nu (zUa T n nr true z)) 1 nu (zUf T n nr z) (zUg T n nr z) (zUt T n nr true z) (zUa T n nr true z)), K) H := hP
        rw [tkW_up (dB_nlo (by decide)), pI_w3] at hP
        have hP : Wp cN E cK ((tkW (pI I nr (nu + 1) fp) T n (zU6 T n nr true z)), (cAdU (up2 A 5 nu (zUa T n nr true z)) 1 nu (zUf T n nr z) (zUg T n nr z) (zUt T n nr true z) (zUa T n nr true z)), K) H := hP
        exact re_wv (x := ((tkW (pI I nr (nu + 1) fp) T n (zU6 T n nr true z)), (cAdU (up2 A 5 nu (zUa T n nr true z)) 1 nu (zUf T n nr z) (zUg T n nr z) (zUt T n nr true z) (zUa T n nr true z)), K)) hx hb hr hlk hP hS (by rw [sRule_y (by omega) h135, pW_mk]) dX4_readRule_160
    · have q1 : zN T n (zU2 T n nr z) = true := bI_t h48
      refine lv_aload_n hx hb dX4_readRule_51 rfl (lv_at hl 1 rfl) ?_
      refine rw_getr (x := ((tkW (pI I nr nu fp) T n (zU2 T n nr z)), A, K)) S hK hP 2 (by decide) (cK_lo (by decide)) fk_X4_24 rfl dX4_readRule_52 ?_
      refine cn_si (ck_V (a := eP E 3) S lk_X4_141 (c_X5_currentNumber l E (pI I nr nu fp) A K T n (zU2 T n nr z) hE hT (zOk_U2 hz)) ⟨rfl, rfl⟩ ⟨Nat.le_of_ble_eq_true rfl, Nat.le_of_ble_eq_true rfl⟩ bl_w (rc_w hK hP 3 (by decide) (cK_lo (by decide)) rfl) (bw_U hE hK hC hP hS) rfl hl.1 (Nat.le_of_ble_eq_true rfl) ⟨Nat.le_refl _, Nat.le_refl _⟩ dX4_readRule_55 rfl) (fun r20 g21 => ?_)
      obtain rfl : r20 = tkV T n (zU2 T n nr z).2 := g21
      refine lv_iload_n hx hb dX4_readRule_58 rfl (lv_at hl 0 rfl) ?_
      refine lv_icmp_ne (tgt := 71) hx hb dX4_readRule_59 (by decide) (fun h59 => ?_) (fun h59 => ?_)
      · have e3 : zU3 T n nr z = (zU2 T n nr z) := if_neg (fun g => h59 g.2)
        rw [← e3] at hP
        have hP : Wp cN E cK ((tkW (pI I nr nu fp) T n (zU3 T n nr z)), A, K) H := hP
        refine lv_aload_n hx hb dX4_readRule_71 rfl (lv_at hl 1 rfl) ?_
        refine rw_getr (x := ((tkW (pI I nr nu fp) T n (zU3 T n nr z)), A, K)) S hK hP 2 (by decide) (cK_lo (by decide)) fk_X4_24 rfl dX4_readRule_72 ?_
        refine lv_iconst (v := 0) hx hb dX4_readRule_75 (by decide) ?_
        refine lv_aload_n hx hb dX4_readRule_76 rfl (lv_at hl 2 rfl) ?_
        refine rw_geti (x := ((tkW (pI I nr nu fp) T n (zU3 T n nr z)), A, K)) (v := nI nr) S hK hP (dB 1 0) (dB_lt (by decide) (by decide)) (cK_D (by decide)) fk_X4_104 rfl ((tkW_ne (I := (pI I nr nu fp)) (T := T) (n := n) (z := (zU3 T n nr z)) (a := (dB 1 0)) (b := 0) (dB_nlo (by decide))).trans pI_r0) dX4_readRule_77 ?_
        refine lv_iconst (v := 1) hx hb dX4_readRule_80 (by decide) ?_
        refine lv_isub hx hb dX4_readRule_81 ?_
        refine cn_wi (ck_V (a := eP E 3) S lk_X4_125 (c_X5_needNumber l E (pI I nr nu fp) A K T n (zU3 T n nr z) 0 ((nI nr) - 1) hE hT (zOk_U3 hz)) ⟨rfl, rfl⟩ ⟨Nat.le_of_ble_eq_true rfl, Nat.le_of_ble_eq_true rfl⟩ bl_w (rc_w hK hP 3 (by decide) (cK_lo (by decide)) rfl) (bw_U hE hK hC hP hS) rfl hl.1 (Nat.le_of_ble_eq_true rfl) ⟨Nat.le_refl _, Nat.le_refl _⟩ dX4_readRule_82 rfl) hS (fun r22 u23 H locs g24 hP hS => ?_)
        obtain ⟨rfl, rfl⟩ : r22 = zNv T n 0 ((nI nr) - 1) (zU3 T n nr z) ∧ u23 = (tkW (pI I nr nu fp) T n (zNz T n 0 ((nI nr) - 1) (zU3 T n nr z)), A, K) := g24
        have hP : Wp cN E cK ((tkW (pI I nr nu fp) T n ((zNz T n 0 ((nI nr) - 1) (zU3 T n nr z)))), A, K) H := hP
        have hP : Wp cN E cK ((tkW (pI I nr nu fp) T n (zU4 T n nr z)), A, K) H := hP
        refine tp_i (y := (zUg T n nr z)) rfl ?_
        refine lv_istore (lv' := [(4, .int (zUg T n nr z)), (3, .int (zUf T n nr z)), (0, .ref (eP E 2)), (1, .ref (eP E (dB 1 0))), (2, .int 1)]) hx hb dX4_readRule_85 hl (by decide) rfl (fun ls hl => ?_)
        refine lv_iload_n hx hb dX4_readRule_87 rfl (lv_at hl 4 rfl) ?_
        refine lv_if_eq (tgt := 95) hx hb dX4_readRule_88 (by decide) (fun h88 => absurd h88 (by decide)) (fun h88 => ?_)
        refine lv_iconst (v := (-1)) hx hb dX4_readRule_91 (by decide) ?_
        refine lv_goto (tgt := 104) hx hb dX4_readRule_92 (by decide) ?_
        have hP : Wp cN E cK ((tkW (pI I nr nu fp) T n (zU5 T n nr true z)), A, K) H := hP
        refine tp_i (y := (zUt T n nr true z)) rfl ?_
        refine lv_istore (lv' := [(5, .int (zUt T n nr true z)), (4, .int (zUg T n nr z)), (3, .int (zUf T n nr z)), (0, .ref (eP E 2)), (1, .ref (eP E (dB 1 0))), (2, .int 1)]) hx hb dX4_readRule_104 hl (by decide) rfl (fun ls hl => ?_)
        refine lv_aload_n hx hb dX4_readRule_106 rfl (lv_at hl 3 rfl) ?_
        refine rw_getr (x := ((tkW (pI I nr nu fp) T n (zU5 T n nr true z)), A, K)) S hK hP 2 (by decide) (cK_lo (by decide)) fk_X4_24 rfl dX4_readRule_107 ?_
        refine lv_iconst (v := 1) hx hb dX4_readRule_110 (by decide) ?_
        refine lv_iload_n hx hb dX4_readRule_111 rfl (lv_at hl 5 rfl) ?_
        refine lv_if_eq (tgt := 120) hx hb dX4_readRule_112 (by decide) (fun h112 => absurd h112 (by decide)) (fun h112 => ?_)
        refine lv_bipush (v := 9) hx hb dX4_readRule_115 (by decide) ?_
        refine lv_goto (tgt := 123) hx hb dX4_readRule_117 (by decide) ?_
        refine cn_wi (ck_V (a := eP E 3) S lk_X4_125 (c_X5_needNumber l E (pI I nr nu fp) A K T n (zU5 T n nr true z) 1 9 hE hT (zOk_U5 (b := true) hz)) ⟨rfl, rfl⟩ ⟨Nat.le_of_ble_eq_true rfl, Nat.le_of_ble_eq_true rfl⟩ bl_w (rc_w hK hP 3 (by decide) (cK_lo (by decide)) rfl) (bw_U hE hK hC hP hS) rfl hl.1 (Nat.le_of_ble_eq_true rfl) ⟨Nat.le_refl _, Nat.le_refl _⟩ dX4_readRule_123 rfl) hS (fun r25 u26 H locs g27 hP hS => ?_)
        obtain ⟨rfl, rfl⟩ : r25 = zNv T n 1 9 (zU5 T n nr true z) ∧ u26 = (tkW (pI I nr nu fp) T n (zNz T n 1 9 (zU5 T n nr true z)), A, K) := g27
        have hP : Wp cN E cK ((tkW (pI I nr nu fp) T n ((zNz T n 1 9 (zU5 T n nr true z)))), A, K) H := hP
        have hP : Wp cN E cK ((tkW (pI I nr nu fp) T n (zU6 T n nr true z)), A, K) H := hP
        refine tp_i (y := (zUa T n nr true z)) rfl ?_
        refine lv_istore (lv' := [(6, .int (zUa T n nr true z)), (5, .int (zUt T n nr true z)), (4, .int (zUg T n nr z)), (3, .int (zUf T n nr z)), (0, .ref (eP E 2)), (1, .ref (eP E (dB 1 0))), (2, .int 1)]) hx hb dX4_readRule_126 hl (by decide) rfl (fun ls hl => ?_)
        refine lv_aload_n hx hb dX4_readRule_128 rfl (lv_at hl 4 rfl) ?_
        refine rw_getr (x := ((tkW (pI I nr nu fp) T n (zU6 T n nr true z)), A, K)) S hK hP 2 (by decide) (cK_lo (by decide)) fk_X4_24 rfl dX4_readRule_129 ?_
        refine cn_si (ck_V (a := eP E 3) S lk_X4_67 (c_X5_firstError l E (pI I nr nu fp) A K T n (zU6 T n nr true z) hE hT (zOk_U6 (b := true) hz)) ⟨rfl, rfl⟩ ⟨Nat.le_of_ble_eq_true rfl, Nat.le_of_ble_eq_true rfl⟩ bl_w (rc_w hK hP 3 (by decide) (cK_lo (by decide)) rfl) (bw_U hE hK hC hP hS) rfl hl.1 (Nat.le_of_ble_eq_true rfl) ⟨Nat.le_refl _, Nat.le_refl _⟩ dX4_readRule_132 rfl) (fun r28 g29 => ?_)
        obtain rfl : r28 = (zU6 T n nr true z).1 := g29
        refine lv_if_ne (tgt := 160) hx hb dX4_readRule_135 (by decide) (fun h135 => ?_) (fun h135 => ?_)
        · exact re_wv (x := ((tkW (pI I nr nu fp) T n (zU6 T n nr true z)), A, K)) hx hb hr hlk hP hS (by rw [sRule_n (by omega) h135, pW_mk]) dX4_readRule_160
        · refine lv_aload_n hx hb dX4_readRule_138 rfl (lv_at hl 4 rfl) ?_
          refine rw_getr (x := ((tkW (pI I nr nu fp) T n (zU6 T n nr true z)), A, K)) S hK hP 2 (by decide) (cK_lo (by decide)) fk_X4_9 rfl dX4_readRule_139 ?_
          refine lv_aload_n hx hb dX4_readRule_142 rfl (lv_at hl 5 rfl) ?_
          refine rw_geti (x := ((tkW (pI I nr nu fp) T n (zU6 T n nr true z)), A, K)) (v := nI nu) S hK hP (dB 1 0) (dB_lt (by decide) (by decide)) (cK_D (by decide)) fk_X4_135 rfl ((tkW_ne (I := (pI I nr nu fp)) (T := T) (n := n) (z := (zU6 T n nr true z)) (a := (dB 1 0)) (b := 3) (dB_nlo (by decide))).trans pI_r3) dX4_readRule_143 ?_
          refine lv_iload hx hb dX4_readRule_146 (lv_at hl 0 rfl) ?_
          refine rw_iast (x := ((tkW (pI I nr nu fp) T n (zU6 T n nr true z)), A, K)) (v := (zUa T n nr true z)) S hE hK hP hS 5 (by decide) (cK_lo (by decide)) nu rfl (by omega) (by decide) dX4_readRule_148 (fun H locs hP hS => ?_)
          have hP : Wp cN E cK ((tkW (pI I nr nu fp) T n (zU6 T n nr true z)), (up2 A 5 nu (zUa T n nr true z)), K) H := hP
          refine lv_aload_n hx hb dX4_readRule_149 rfl (lv_at hl 5 rfl) ?_
          refine lv_iload_n hx hb dX4_readRule_150 rfl (lv_at hl 3 rfl) ?_
          refine lv_iload hx hb dX4_readRule_151 (lv_at hl 2 rfl) ?_
          refine lv_iload hx hb dX4_readRule_153 (lv_at hl 1 rfl) ?_
          refine lv_iload hx hb dX4_readRule_155 (lv_at hl 0 rfl) ?_
          refine cn_wv (ck_V (a := eP E (dB 1 0)) S lk_X4_144 (c_X1_addRule l E (tkW (pI I nr nu fp) T n (zU6 T n nr true z)) (up2 A 5 nu (zUa T n nr true z)) K (zUf T n nr z) (zUg T n nr z) (zUt T n nr true z) (zUa T n nr true z) 1 nu hE (by decide) rfl hu12) ⟨rfl, rfl⟩ ⟨Nat.le_of_ble_eq_true rfl, Nat.le_of_ble_eq_true rfl⟩ bl_w (rc_w hK hP (dB 1 0) (dB_lt (by decide) (by decide)) (cK_D (by decide)) rfl) (bw_U hE hK hC hP hS) rfl hl.1 (Nat.le_of_ble_eq_true rfl) ⟨Nat.le_refl _, Nat.le_refl _⟩ dX4_readRule_157 rfl) hS (fun u31 H locs g32 hP hS => ?_)
          obtain rfl : u31 = (up2 (tkW (pI I nr nu fp) T n (zU6 T n nr true z)) (dB 1 0) 3 (nI (nu + 1)), cAdU (up2 A 5 nu (zUa T n nr true z)) 1 nu (zUf T n nr z) (zUg T n nr z) (zUt T n nr true z) (zUa T n nr true z), K) := g32
          have hP : Wp cN E cK ((up2 (tkW (pI I nr nu fp) T n (zU6 T n nr true z)) (dB 1 0) 3 (nI (nu + 1))), (cAdU (up2 A 5 nu (zUa T n nr true z)) 1 nu (zUf T n nr z) (zUg T n nr z) (zUt T n nr true z) (zUa T n nr true z)), K) H := hP
          rw [tkW_up (dB_nlo (by decide)), pI_w3] at hP
          have hP : Wp cN E cK ((tkW (pI I nr (nu + 1) fp) T n (zU6 T n nr true z)), (cAdU (up2 A 5 nu (zUa T n nr true z)) 1 nu (zUf T n nr z) (zUg T n nr z) (zUt T n nr true z) (zUa T n nr true z)), K) H := hP
          exact re_wv (x := ((tkW (pI I nr (nu + 1) fp) T n (zU6 T n nr true z)), (cAdU (up2 A 5 nu (zUa T n nr true z)) 1 nu (zUf T n nr z) (zUg T n nr z) (zUt T n nr true z) (zUa T n nr true z)), K)) hx hb hr hlk hP hS (by rw [sRule_y (by omega) h135, pW_mk]) dX4_readRule_160
      · refine lv_aload_n hx hb dX4_readRule_62 rfl (lv_at hl 1 rfl) ?_
        refine rw_getr (x := ((tkW (pI I nr nu fp) T n (zU2 T n nr z)), A, K)) S hK hP 2 (by decide) (cK_lo (by decide)) fk_X4_24 rfl dX4_readRule_63 ?_
        refine lv_bipush (v := (-3)) hx hb dX4_readRule_66 (by decide) ?_
        refine cn_wv (ck_V (a := eP E 3) S lk_X4_101 (c_X5_fail l E (pI I nr nu fp) A K T n (zU2 T n nr z) (-3) hE hT (zOk_U2 hz) (by decide)) ⟨rfl, rfl⟩ ⟨Nat.le_of_ble_eq_true rfl, Nat.le_of_ble_eq_true rfl⟩ bl_w (rc_w hK hP 3 (by decide) (cK_lo (by decide)) rfl) (bw_U hE hK hC hP hS) rfl hl.1 (Nat.le_of_ble_eq_true rfl) ⟨Nat.le_refl _, Nat.le_refl _⟩ dX4_readRule_68 rfl) hS (fun u34 H locs g35 hP hS => ?_)
        obtain rfl : u34 = (tkW (pI I nr nu fp) T n (zF (-3) (zU2 T n nr z)), A, K) := g35
        have hP : Wp cN E cK ((tkW (pI I nr nu fp) T n ((zF (-3) (zU2 T n nr z)))), A, K) H := hP
        have e3 : zU3 T n nr z = zF (-3) (zU2 T n nr z) := if_pos ⟨q1, h59⟩
        rw [← e3] at hP
        have hP : Wp cN E cK ((tkW (pI I nr nu fp) T n (zU3 T n nr z)), A, K) H := hP
        refine lv_aload_n hx hb dX4_readRule_71 rfl (lv_at hl 1 rfl) ?_
        refine rw_getr (x := ((tkW (pI I nr nu fp) T n (zU3 T n nr z)), A, K)) S hK hP 2 (by decide) (cK_lo (by decide)) fk_X4_24 rfl dX4_readRule_72 ?_
        refine lv_iconst (v := 0) hx hb dX4_readRule_75 (by decide) ?_
        refine lv_aload_n hx hb dX4_readRule_76 rfl (lv_at hl 2 rfl) ?_
        refine rw_geti (x := ((tkW (pI I nr nu fp) T n (zU3 T n nr z)), A, K)) (v := nI nr) S hK hP (dB 1 0) (dB_lt (by decide) (by decide)) (cK_D (by decide)) fk_X4_104 rfl ((tkW_ne (I := (pI I nr nu fp)) (T := T) (n := n) (z := (zU3 T n nr z)) (a := (dB 1 0)) (b := 0) (dB_nlo (by decide))).trans pI_r0) dX4_readRule_77 ?_
        refine lv_iconst (v := 1) hx hb dX4_readRule_80 (by decide) ?_
        refine lv_isub hx hb dX4_readRule_81 ?_
        refine cn_wi (ck_V (a := eP E 3) S lk_X4_125 (c_X5_needNumber l E (pI I nr nu fp) A K T n (zU3 T n nr z) 0 ((nI nr) - 1) hE hT (zOk_U3 hz)) ⟨rfl, rfl⟩ ⟨Nat.le_of_ble_eq_true rfl, Nat.le_of_ble_eq_true rfl⟩ bl_w (rc_w hK hP 3 (by decide) (cK_lo (by decide)) rfl) (bw_U hE hK hC hP hS) rfl hl.1 (Nat.le_of_ble_eq_true rfl) ⟨Nat.le_refl _, Nat.le_refl _⟩ dX4_readRule_82 rfl) hS (fun r36 u37 H locs g38 hP hS => ?_)
        obtain ⟨rfl, rfl⟩ : r36 = zNv T n 0 ((nI nr) - 1) (zU3 T n nr z) ∧ u37 = (tkW (pI I nr nu fp) T n (zNz T n 0 ((nI nr) - 1) (zU3 T n nr z)), A, K) := g38
        have hP : Wp cN E cK ((tkW (pI I nr nu fp) T n ((zNz T n 0 ((nI nr) - 1) (zU3 T n nr z)))), A, K) H := hP
        have hP : Wp cN E cK ((tkW (pI I nr nu fp) T n (zU4 T n nr z)), A, K) H := hP
        refine tp_i (y := (zUg T n nr z)) rfl ?_
        refine lv_istore (lv' := [(4, .int (zUg T n nr z)), (3, .int (zUf T n nr z)), (0, .ref (eP E 2)), (1, .ref (eP E (dB 1 0))), (2, .int 1)]) hx hb dX4_readRule_85 hl (by decide) rfl (fun ls hl => ?_)
        refine lv_iload_n hx hb dX4_readRule_87 rfl (lv_at hl 4 rfl) ?_
        refine lv_if_eq (tgt := 95) hx hb dX4_readRule_88 (by decide) (fun h88 => absurd h88 (by decide)) (fun h88 => ?_)
        refine lv_iconst (v := (-1)) hx hb dX4_readRule_91 (by decide) ?_
        refine lv_goto (tgt := 104) hx hb dX4_readRule_92 (by decide) ?_
        have hP : Wp cN E cK ((tkW (pI I nr nu fp) T n (zU5 T n nr true z)), A, K) H := hP
        refine tp_i (y := (zUt T n nr true z)) rfl ?_
        refine lv_istore (lv' := [(5, .int (zUt T n nr true z)), (4, .int (zUg T n nr z)), (3, .int (zUf T n nr z)), (0, .ref (eP E 2)), (1, .ref (eP E (dB 1 0))), (2, .int 1)]) hx hb dX4_readRule_104 hl (by decide) rfl (fun ls hl => ?_)
        refine lv_aload_n hx hb dX4_readRule_106 rfl (lv_at hl 3 rfl) ?_
        refine rw_getr (x := ((tkW (pI I nr nu fp) T n (zU5 T n nr true z)), A, K)) S hK hP 2 (by decide) (cK_lo (by decide)) fk_X4_24 rfl dX4_readRule_107 ?_
        refine lv_iconst (v := 1) hx hb dX4_readRule_110 (by decide) ?_
        refine lv_iload_n hx hb dX4_readRule_111 rfl (lv_at hl 5 rfl) ?_
        refine lv_if_eq (tgt := 120) hx hb dX4_readRule_112 (by decide) (fun h112 => absurd h112 (by decide)) (fun h112 => ?_)
        refine lv_bipush (v := 9) hx hb dX4_readRule_115 (by decide) ?_
        refine lv_goto (tgt := 123) hx hb dX4_readRule_117 (by decide) ?_
        refine cn_wi (ck_V (a := eP E 3) S lk_X4_125 (c_X5_needNumber l E (pI I nr nu fp) A K T n (zU5 T n nr true z) 1 9 hE hT (zOk_U5 (b := true) hz)) ⟨rfl, rfl⟩ ⟨Nat.le_of_ble_eq_true rfl, Nat.le_of_ble_eq_true rfl⟩ bl_w (rc_w hK hP 3 (by decide) (cK_lo (by decide)) rfl) (bw_U hE hK hC hP hS) rfl hl.1 (Nat.le_of_ble_eq_true rfl) ⟨Nat.le_refl _, Nat.le_refl _⟩ dX4_readRule_123 rfl) hS (fun r39 u40 H locs g41 hP hS => ?_)
        obtain ⟨rfl, rfl⟩ : r39 = zNv T n 1 9 (zU5 T n nr true z) ∧ u40 = (tkW (pI I nr nu fp) T n (zNz T n 1 9 (zU5 T n nr true z)), A, K) := g41
        have hP : Wp cN E cK ((tkW (pI I nr nu fp) T n ((zNz T n 1 9 (zU5 T n nr true z)))), A, K) H := hP
        have hP : Wp cN E cK ((tkW (pI I nr nu fp) T n (zU6 T n nr true z)), A, K) H := hP
        refine tp_i (y := (zUa T n nr true z)) rfl ?_
        refine lv_istore (lv' := [(6, .int (zUa T n nr true z)), (5, .int (zUt T n nr true z)), (4, .int (zUg T n nr z)), (3, .int (zUf T n nr z)), (0, .ref (eP E 2)), (1, .ref (eP E (dB 1 0))), (2, .int 1)]) hx hb dX4_readRule_126 hl (by decide) rfl (fun ls hl => ?_)
        refine lv_aload_n hx hb dX4_readRule_128 rfl (lv_at hl 4 rfl) ?_
        refine rw_getr (x := ((tkW (pI I nr nu fp) T n (zU6 T n nr true z)), A, K)) S hK hP 2 (by decide) (cK_lo (by decide)) fk_X4_24 rfl dX4_readRule_129 ?_
        refine cn_si (ck_V (a := eP E 3) S lk_X4_67 (c_X5_firstError l E (pI I nr nu fp) A K T n (zU6 T n nr true z) hE hT (zOk_U6 (b := true) hz)) ⟨rfl, rfl⟩ ⟨Nat.le_of_ble_eq_true rfl, Nat.le_of_ble_eq_true rfl⟩ bl_w (rc_w hK hP 3 (by decide) (cK_lo (by decide)) rfl) (bw_U hE hK hC hP hS) rfl hl.1 (Nat.le_of_ble_eq_true rfl) ⟨Nat.le_refl _, Nat.le_refl _⟩ dX4_readRule_132 rfl) (fun r42 g43 => ?_)
        obtain rfl : r42 = (zU6 T n nr true z).1 := g43
        refine lv_if_ne (tgt := 160) hx hb dX4_readRule_135 (by decide) (fun h135 => ?_) (fun h135 => ?_)
        · exact re_wv (x := ((tkW (pI I nr nu fp) T n (zU6 T n nr true z)), A, K)) hx hb hr hlk hP hS (by rw [sRule_n (by omega) h135, pW_mk]) dX4_readRule_160
        · refine lv_aload_n hx hb dX4_readRule_138 rfl (lv_at hl 4 rfl) ?_
          refine rw_getr (x := ((tkW (pI I nr nu fp) T n (zU6 T n nr true z)), A, K)) S hK hP 2 (by decide) (cK_lo (by decide)) fk_X4_9 rfl dX4_readRule_139 ?_
          refine lv_aload_n hx hb dX4_readRule_142 rfl (lv_at hl 5 rfl) ?_
          refine rw_geti (x := ((tkW (pI I nr nu fp) T n (zU6 T n nr true z)), A, K)) (v := nI nu) S hK hP (dB 1 0) (dB_lt (by decide) (by decide)) (cK_D (by decide)) fk_X4_135 rfl ((tkW_ne (I := (pI I nr nu fp)) (T := T) (n := n) (z := (zU6 T n nr true z)) (a := (dB 1 0)) (b := 3) (dB_nlo (by decide))).trans pI_r3) dX4_readRule_143 ?_
          refine lv_iload hx hb dX4_readRule_146 (lv_at hl 0 rfl) ?_
          refine rw_iast (x := ((tkW (pI I nr nu fp) T n (zU6 T n nr true z)), A, K)) (v := (zUa T n nr true z)) S hE hK hP hS 5 (by decide) (cK_lo (by decide)) nu rfl (by omega) (by decide) dX4_readRule_148 (fun H locs hP hS => ?_)
          have hP : Wp cN E cK ((tkW (pI I nr nu fp) T n (zU6 T n nr true z)), (up2 A 5 nu (zUa T n nr true z)), K) H := hP
          refine lv_aload_n hx hb dX4_readRule_149 rfl (lv_at hl 5 rfl) ?_
          refine lv_iload_n hx hb dX4_readRule_150 rfl (lv_at hl 3 rfl) ?_
          refine lv_iload hx hb dX4_readRule_151 (lv_at hl 2 rfl) ?_
          refine lv_iload hx hb dX4_readRule_153 (lv_at hl 1 rfl) ?_
          refine lv_iload hx hb dX4_readRule_155 (lv_at hl 0 rfl) ?_
          refine cn_wv (ck_V (a := eP E (dB 1 0)) S lk_X4_144 (c_X1_addRule l E (tkW (pI I nr nu fp) T n (zU6 T n nr true z)) (up2 A 5 nu (zUa T n nr true z)) K (zUf T n nr z) (zUg T n nr z) (zUt T n nr true z) (zUa T n nr true z) 1 nu hE (by decide) rfl hu12) ⟨rfl, rfl⟩ ⟨Nat.le_of_ble_eq_true rfl, Nat.le_of_ble_eq_true rfl⟩ bl_w (rc_w hK hP (dB 1 0) (dB_lt (by decide) (by decide)) (cK_D (by decide)) rfl) (bw_U hE hK hC hP hS) rfl hl.1 (Nat.le_of_ble_eq_true rfl) ⟨Nat.le_refl _, Nat.le_refl _⟩ dX4_readRule_157 rfl) hS (fun u45 H locs g46 hP hS => ?_)
          obtain rfl : u45 = (up2 (tkW (pI I nr nu fp) T n (zU6 T n nr true z)) (dB 1 0) 3 (nI (nu + 1)), cAdU (up2 A 5 nu (zUa T n nr true z)) 1 nu (zUf T n nr z) (zUg T n nr z) (zUt T n nr true z) (zUa T n nr true z), K) := g46
          have hP : Wp cN E cK ((up2 (tkW (pI I nr nu fp) T n (zU6 T n nr true z)) (dB 1 0) 3 (nI (nu + 1))), (cAdU (up2 A 5 nu (zUa T n nr true z)) 1 nu (zUf T n nr z) (zUg T n nr z) (zUt T n nr true z) (zUa T n nr true z)), K) H := hP
          rw [tkW_up (dB_nlo (by decide)), pI_w3] at hP
          have hP : Wp cN E cK ((tkW (pI I nr (nu + 1) fp) T n (zU6 T n nr true z)), (cAdU (up2 A 5 nu (zUa T n nr true z)) 1 nu (zUf T n nr z) (zUg T n nr z) (zUt T n nr true z) (zUa T n nr true z)), K) H := hP
          exact re_wv (x := ((tkW (pI I nr (nu + 1) fp) T n (zU6 T n nr true z)), (cAdU (up2 A 5 nu (zUa T n nr true z)) 1 nu (zUf T n nr z) (zUg T n nr z) (zUt T n nr true z) (zUa T n nr true z)), K)) hx hb hr hlk hP hS (by rw [sRule_y (by omega) h135, pW_mk]) dX4_readRule_160
  · have hu12 : 12 ≤ nu := Nat.not_lt.mp (fun g => h6 (nI_lt (b := 12) g (by decide)))
    refine lv_aload_n hx hb dX4_readRule_9 rfl (lv_at hl 0 rfl) ?_
    refine rw_getr (x := ((tkW (pI I nr nu fp) T n z), A, K)) S hK hP 2 (by decide) (cK_lo (by decide)) fk_X4_24 rfl dX4_readRule_10 ?_
    refine lv_bipush (v := (-4)) hx hb dX4_readRule_13 (by decide) ?_
    refine cn_wv (ck_V (a := eP E 3) S lk_X4_101 (c_X5_fail l E (pI I nr nu fp) A K T n z (-4) hE hT hz (by decide)) ⟨rfl, rfl⟩ ⟨Nat.le_of_ble_eq_true rfl, Nat.le_of_ble_eq_true rfl⟩ bl_w (rc_w hK hP 3 (by decide) (cK_lo (by decide)) rfl) (bw_U hE hK hC hP hS) rfl hl.1 (Nat.le_of_ble_eq_true rfl) ⟨Nat.le_refl _, Nat.le_refl _⟩ dX4_readRule_15 rfl) hS (fun u48 H locs g49 hP hS => ?_)
    obtain rfl : u48 = (tkW (pI I nr nu fp) T n (zF (-4) z), A, K) := g49
    have hP : Wp cN E cK ((tkW (pI I nr nu fp) T n ((zF (-4) z))), A, K) H := hP
    exact re_wv (x := ((tkW (pI I nr nu fp) T n ((zF (-4) z))), A, K)) hx hb hr hlk hP hS (by rw [sRule_f hu12, pW_mk]) dX4_readRule_18

set_option maxHeartbeats 1000000 in
set_option maxRecDepth 100000 in
theorem c_X4_readRule_0 (l : Launch) (E : En) (I A : Nat → Nat → Int32) (K : Nat → Nat → Int64) (T : Nat → Int32) (n : Nat) (z : Tz) (nr nu : Nat) (fp : Option Nat) (hE : Ev cN E) (hp : pOk T n (nr, nu, fp, A, z)) : Met l yX4_readRule (wz yX4_readRule cX4_readRule 7 none) (rmk 3 0 0 73) (va_Pc [.ref (eP E 2), .ref (eP E (dB 1 0)), .int 0] (Bw cN E cK (pW I K T n (nr, nu, fp, A, z)))) (qWv cN E cK (fun uu => uu = pW I K T n (sRule T n false (nr, nu, fp, A, z)))) 0 0 (cA cN E) := by
  refine en_ofW RX4 rfl (by decide +kernel) (Nat.le_of_ble_eq_true rfl) ?_
  intro p e s m below meth c ls S hr hlk hnm hl hB
  have hx := S.1
  have hb := S.2.1
  obtain ⟨hK, hC, hP⟩ := hB
  have hS : va_S (cA cN E) s.heap s.heap [] := va_S.rf
  have hl : lv_has ls 7 [(0, .ref (eP E 2)), (1, .ref (eP E (dB 1 0))), (2, .int 0)] := hl
  have hnr : nr ≤ 10 := hp.1.1
  have hnu : nu ≤ 12 := hp.1.2
  have hz : zOk n z := hp.2.1.1
  have hT : A 1 = T := hp.2.1.2
  have hfq : ∀ q, fp = some q → q ≤ n := hp.2.2.1
  obtain ⟨hz1, hz2⟩ := id hz
  have hP : Wp cN E cK (tkW (pI I nr nu fp) T n z, A, K) s.heap := hP
  refine lv_aload_n hx hb dX4_readRule_0 rfl (lv_at hl 1 rfl) ?_
  refine rw_geti (x := ((tkW (pI I nr nu fp) T n z), A, K)) (v := nI nu) S hK hP (dB 1 0) (dB_lt (by decide) (by decide)) (cK_D (by decide)) fk_X4_135 rfl ((tkW_ne (I := (pI I nr nu fp)) (T := T) (n := n) (z := z) (a := (dB 1 0)) (b := 3) (dB_nlo (by decide))).trans pI_r3) dX4_readRule_1 ?_
  refine lv_bipush (v := 12) hx hb dX4_readRule_4 (by decide) ?_
  refine lv_icmp_lt (tgt := 19) hx hb dX4_readRule_6 (by decide) (fun h6 => ?_) (fun h6 => ?_)
  · have hu12 : nu < 12 := (nI_ltI (b := 12) (by omega) (by decide)).mp h6
    refine lv_aload_n hx hb dX4_readRule_19 rfl (lv_at hl 0 rfl) ?_
    refine rw_getr (x := ((tkW (pI I nr nu fp) T n z), A, K)) S hK hP 2 (by decide) (cK_lo (by decide)) fk_X4_24 rfl dX4_readRule_20 ?_
    refine cn_wv (ck_V (a := eP E 3) S lk_X4_107 (c_X5_adv l E (pI I nr nu fp) A K T n z hE hT hz) ⟨rfl, rfl⟩ ⟨Nat.le_of_ble_eq_true rfl, Nat.le_of_ble_eq_true rfl⟩ bl_w (rc_w hK hP 3 (by decide) (cK_lo (by decide)) rfl) (bw_U hE hK hC hP hS) rfl hl.1 (Nat.le_of_ble_eq_true rfl) ⟨Nat.le_refl _, Nat.le_refl _⟩ dX4_readRule_23 rfl) hS (fun u2 H locs g3 hP hS => ?_)
    obtain rfl : u2 = (tkW (pI I nr nu fp) T n (zA T n z), A, K) := g3
    have hP : Wp cN E cK ((tkW (pI I nr nu fp) T n ((zA T n z))), A, K) H := hP
    refine lv_aload_n hx hb dX4_readRule_26 rfl (lv_at hl 0 rfl) ?_
    refine rw_getr (x := ((tkW (pI I nr nu fp) T n ((zA T n z))), A, K)) S hK hP 2 (by decide) (cK_lo (by decide)) fk_X4_24 rfl dX4_readRule_27 ?_
    refine lv_iconst (v := 0) hx hb dX4_readRule_30 (by decide) ?_
    refine lv_aload_n hx hb dX4_readRule_31 rfl (lv_at hl 1 rfl) ?_
    refine rw_geti (x := ((tkW (pI I nr nu fp) T n ((zA T n z))), A, K)) (v := nI nr) S hK hP (dB 1 0) (dB_lt (by decide) (by decide)) (cK_D (by decide)) fk_X4_104 rfl ((tkW_ne (I := (pI I nr nu fp)) (T := T) (n := n) (z := ((zA T n z))) (a := (dB 1 0)) (b := 0) (dB_nlo (by decide))).trans pI_r0) dX4_readRule_32 ?_
    refine lv_iconst (v := 1) hx hb dX4_readRule_35 (by decide) ?_
    refine lv_isub hx hb dX4_readRule_36 ?_
    refine cn_wi (ck_V (a := eP E 3) S lk_X4_125 (c_X5_needNumber l E (pI I nr nu fp) A K T n ((zA T n z)) 0 ((nI nr) - 1) hE hT (zOk_A hz)) ⟨rfl, rfl⟩ ⟨Nat.le_of_ble_eq_true rfl, Nat.le_of_ble_eq_true rfl⟩ bl_w (rc_w hK hP 3 (by decide) (cK_lo (by decide)) rfl) (bw_U hE hK hC hP hS) rfl hl.1 (Nat.le_of_ble_eq_true rfl) ⟨Nat.le_refl _, Nat.le_refl _⟩ dX4_readRule_37 rfl) hS (fun r4 u5 H locs g6 hP hS => ?_)
    obtain ⟨rfl, rfl⟩ : r4 = zNv T n 0 ((nI nr) - 1) ((zA T n z)) ∧ u5 = (tkW (pI I nr nu fp) T n (zNz T n 0 ((nI nr) - 1) ((zA T n z))), A, K) := g6
    have hP : Wp cN E cK ((tkW (pI I nr nu fp) T n ((zNz T n 0 ((nI nr) - 1) ((zA T n z))))), A, K) H := hP
    have hP : Wp cN E cK ((tkW (pI I nr nu fp) T n (zU2 T n nr z)), A, K) H := hP
    refine tp_i (y := (zUf T n nr z)) rfl ?_
    refine lv_istore_n (lv' := [(3, .int (zUf T n nr z)), (0, .ref (eP E 2)), (1, .ref (eP E (dB 1 0))), (2, .int 0)]) hx hb dX4_readRule_40 rfl hl (by decide) rfl (fun ls hl => ?_)
    refine lv_aload_n hx hb dX4_readRule_41 rfl (lv_at hl 1 rfl) ?_
    refine rw_getr (x := ((tkW (pI I nr nu fp) T n (zU2 T n nr z)), A, K)) S hK hP 2 (by decide) (cK_lo (by decide)) fk_X4_24 rfl dX4_readRule_42 ?_
    refine cn_si (ck_V (a := eP E 3) S lk_X4_138 (c_X5_isNumber l E (pI I nr nu fp) A K T n (zU2 T n nr z) hE hT (zOk_U2 hz)) ⟨rfl, rfl⟩ ⟨Nat.le_of_ble_eq_true rfl, Nat.le_of_ble_eq_true rfl⟩ bl_w (rc_w hK hP 3 (by decide) (cK_lo (by decide)) rfl) (bw_U hE hK hC hP hS) rfl hl.1 (Nat.le_of_ble_eq_true rfl) ⟨Nat.le_refl _, Nat.le_refl _⟩ dX4_readRule_45 rfl) (fun r7 g8 => ?_)
    obtain rfl : r7 = bI (zN T n (zU2 T n nr z)) := g8
    refine lv_if_eq (tgt := 71) hx hb dX4_readRule_48 (by decide) (fun h48 => ?_) (fun h48 => ?_)
    · have q1 : zN T n (zU2 T n nr z) = false := bI_f h48
      have e3 : zU3 T n nr z = (zU2 T n nr z) := if_neg (fun g => ne_t q1 g.1)
      rw [← e3] at hP
      have hP : Wp cN E cK ((tkW (pI I nr nu fp) T n (zU3 T n nr z)), A, K) H := hP
      refine lv_aload_n hx hb dX4_readRule_71 rfl (lv_at hl 1 rfl) ?_
      refine rw_getr (x := ((tkW (pI I nr nu fp) T n (zU3 T n nr z)), A, K)) S hK hP 2 (by decide) (cK_lo (by decide)) fk_X4_24 rfl dX4_readRule_72 ?_
      refine lv_iconst (v := 0) hx hb dX4_readRule_75 (by decide) ?_
      refine lv_aload_n hx hb dX4_readRule_76 rfl (lv_at hl 2 rfl) ?_
      refine rw_geti (x := ((tkW (pI I nr nu fp) T n (zU3 T n nr z)), A, K)) (v := nI nr) S hK hP (dB 1 0) (dB_lt (by decide) (by decide)) (cK_D (by decide)) fk_X4_104 rfl ((tkW_ne (I := (pI I nr nu fp)) (T := T) (n := n) (z := (zU3 T n nr z)) (a := (dB 1 0)) (b := 0) (dB_nlo (by decide))).trans pI_r0) dX4_readRule_77 ?_
      refine lv_iconst (v := 1) hx hb dX4_readRule_80 (by decide) ?_
      refine lv_isub hx hb dX4_readRule_81 ?_
      refine cn_wi (ck_V (a := eP E 3) S lk_X4_125 (c_X5_needNumber l E (pI I nr nu fp) A K T n (zU3 T n nr z) 0 ((nI nr) - 1) hE hT (zOk_U3 hz)) ⟨rfl, rfl⟩ ⟨Nat.le_of_ble_eq_true rfl, Nat.le_of_ble_eq_true rfl⟩ bl_w (rc_w hK hP 3 (by decide) (cK_lo (by decide)) rfl) (bw_U hE hK hC hP hS) rfl hl.1 (Nat.le_of_ble_eq_true rfl) ⟨Nat.le_refl _, Nat.le_refl _⟩ dX4_readRule_82 rfl) hS (fun r9 u10 H locs g11 hP hS => ?_)
      obtain ⟨rfl, rfl⟩ : r9 = zNv T n 0 ((nI nr) - 1) (zU3 T n nr z) ∧ u10 = (tkW (pI I nr nu fp) T n (zNz T n 0 ((nI nr) - 1) (zU3 T n nr z)), A, K) := g11
      have hP : Wp cN E cK ((tkW (pI I nr nu fp) T n ((zNz T n 0 ((nI nr) - 1) (zU3 T n nr z)))), A, K) H := hP
      have hP : Wp cN E cK ((tkW (pI I nr nu fp) T n (zU4 T n nr z)), A, K) H := hP
      refine tp_i (y := (zUg T n nr z)) rfl ?_
      refine lv_istore (lv' := [(4, .int (zUg T n nr z)), (3, .int (zUf T n nr z)), (0, .ref (eP E 2)), (1, .ref (eP E (dB 1 0))), (2, .int 0)]) hx hb dX4_readRule_85 hl (by decide) rfl (fun ls hl => ?_)
      refine lv_iload_n hx hb dX4_readRule_87 rfl (lv_at hl 4 rfl) ?_
      refine lv_if_eq (tgt := 95) hx hb dX4_readRule_88 (by decide) (fun h88 => ?_) (fun h88 => absurd (by decide) h88)
      refine lv_aload_n hx hb dX4_readRule_95 rfl (lv_at hl 2 rfl) ?_
      refine rw_getr (x := ((tkW (pI I nr nu fp) T n (zU4 T n nr z)), A, K)) S hK hP 2 (by decide) (cK_lo (by decide)) fk_X4_24 rfl dX4_readRule_96 ?_
      refine lv_iconst (v := 0) hx hb dX4_readRule_99 (by decide) ?_
      refine lv_iconst (v := 4) hx hb dX4_readRule_100 (by decide) ?_
      refine cn_wi (ck_V (a := eP E 3) S lk_X4_125 (c_X5_needNumber l E (pI I nr nu fp) A K T n (zU4 T n nr z) 0 4 hE hT (zOk_U4 hz)) ⟨rfl, rfl⟩ ⟨Nat.le_of_ble_eq_true rfl, Nat.le_of_ble_eq_true rfl⟩ bl_w (rc_w hK hP 3 (by decide) (cK_lo (by decide)) rfl) (bw_U hE hK hC hP hS) rfl hl.1 (Nat.le_of_ble_eq_true rfl) ⟨Nat.le_refl _, Nat.le_refl _⟩ dX4_readRule_101 rfl) hS (fun r12 u13 H locs g14 hP hS => ?_)
      obtain ⟨rfl, rfl⟩ : r12 = zNv T n 0 4 (zU4 T n nr z) ∧ u13 = (tkW (pI I nr nu fp) T n (zNz T n 0 4 (zU4 T n nr z)), A, K) := g14
      have hP : Wp cN E cK ((tkW (pI I nr nu fp) T n ((zNz T n 0 4 (zU4 T n nr z)))), A, K) H := hP
      have hP : Wp cN E cK ((tkW (pI I nr nu fp) T n (zU5 T n nr false z)), A, K) H := hP
      refine tp_i (y := (zUt T n nr false z)) rfl ?_
      refine lv_istore (lv' := [(5, .int (zUt T n nr false z)), (4, .int (zUg T n nr z)), (3, .int (zUf T n nr z)), (0, .ref (eP E 2)), (1, .ref (eP E (dB 1 0))), (2, .int 0)]) hx hb dX4_readRule_104 hl (by decide) rfl (fun ls hl => ?_)
      refine lv_aload_n hx hb dX4_readRule_106 rfl (lv_at hl 3 rfl) ?_
      refine rw_getr (x := ((tkW (pI I nr nu fp) T n (zU5 T n nr false z)), A, K)) S hK hP 2 (by decide) (cK_lo (by decide)) fk_X4_24 rfl dX4_readRule_107 ?_
      refine lv_iconst (v := 1) hx hb dX4_readRule_110 (by decide) ?_
      refine lv_iload_n hx hb dX4_readRule_111 rfl (lv_at hl 5 rfl) ?_
      refine lv_if_eq (tgt := 120) hx hb dX4_readRule_112 (by decide) (fun h112 => ?_) (fun h112 => absurd (by decide) h112)
      refine lv_sipush (v := 2295) hx hb dX4_readRule_120 (by decide) ?_
      refine cn_wi (ck_V (a := eP E 3) S lk_X4_125 (c_X5_needNumber l E (pI I nr nu fp) A K T n (zU5 T n nr false z) 1 2295 hE hT (zOk_U5 (b := false) hz)) ⟨rfl, rfl⟩ ⟨Nat.le_of_ble_eq_true rfl, Nat.le_of_ble_eq_true rfl⟩ bl_w (rc_w hK hP 3 (by decide) (cK_lo (by decide)) rfl) (bw_U hE hK hC hP hS) rfl hl.1 (Nat.le_of_ble_eq_true rfl) ⟨Nat.le_refl _, Nat.le_refl _⟩ dX4_readRule_123 rfl) hS (fun r15 u16 H locs g17 hP hS => ?_)
      obtain ⟨rfl, rfl⟩ : r15 = zNv T n 1 2295 (zU5 T n nr false z) ∧ u16 = (tkW (pI I nr nu fp) T n (zNz T n 1 2295 (zU5 T n nr false z)), A, K) := g17
      have hP : Wp cN E cK ((tkW (pI I nr nu fp) T n ((zNz T n 1 2295 (zU5 T n nr false z)))), A, K) H := hP
      have hP : Wp cN E cK ((tkW (pI I nr nu fp) T n (zU6 T n nr false z)), A, K) H := hP
      refine tp_i (y := (zUa T n nr false z)) rfl ?_
      refine lv_istore (lv' := [(6, .int (zUa T n nr false z)), (5, .int (zUt T n nr false z)), (4, .int (zUg T n nr z)), (3, .int (zUf T n nr z)), (0, .ref (eP E 2)), (1, .ref (eP E (dB 1 0))), (2, .int 0)]) hx hb dX4_readRule_126 hl (by decide) rfl (fun ls hl => ?_)
      refine lv_aload_n hx hb dX4_readRule_128 rfl (lv_at hl 4 rfl) ?_
      refine rw_getr (x := ((tkW (pI I nr nu fp) T n (zU6 T n nr false z)), A, K)) S hK hP 2 (by decide) (cK_lo (by decide)) fk_X4_24 rfl dX4_readRule_129 ?_
      refine cn_si (ck_V (a := eP E 3) S lk_X4_67 (c_X5_firstError l E (pI I nr nu fp) A K T n (zU6 T n nr false z) hE hT (zOk_U6 (b := false) hz)) ⟨rfl, rfl⟩ ⟨Nat.le_of_ble_eq_true rfl, Nat.le_of_ble_eq_true rfl⟩ bl_w (rc_w hK hP 3 (by decide) (cK_lo (by decide)) rfl) (bw_U hE hK hC hP hS) rfl hl.1 (Nat.le_of_ble_eq_true rfl) ⟨Nat.le_refl _, Nat.le_refl _⟩ dX4_readRule_132 rfl) (fun r18 g19 => ?_)
      obtain rfl : r18 = (zU6 T n nr false z).1 := g19
      refine lv_if_ne (tgt := 160) hx hb dX4_readRule_135 (by decide) (fun h135 => ?_) (fun h135 => ?_)
      · exact re_wv (x := ((tkW (pI I nr nu fp) T n (zU6 T n nr false z)), A, K)) hx hb hr hlk hP hS (by rw [sRule_n (by omega) h135, pW_mk]) dX4_readRule_160
      · refine lv_aload_n hx hb dX4_readRule_138 rfl (lv_at hl 4 rfl) ?_
        refine rw_getr (x := ((tkW (pI I nr nu fp) T n (zU6 T n nr false z)), A, K)) S hK hP 2 (by decide) (cK_lo (by decide)) fk_X4_9 rfl dX4_readRule_139 ?_
        refine lv_aload_n hx hb dX4_readRule_142 rfl (lv_at hl 5 rfl) ?_
        refine rw_geti (x := ((tkW (pI I nr nu fp) T n (zU6 T n nr false z)), A, K)) (v := nI nu) S hK hP (dB 1 0) (dB_lt (by decide) (by decide)) (cK_D (by decide)) fk_X4_135 rfl ((tkW_ne (I := (pI I nr nu fp)) (T := T) (n := n) (z := (zU6 T n nr false z)) (a := (dB 1 0)) (b := 3) (dB_nlo (by decide))).trans pI_r3) dX4_readRule_143 ?_
        refine lv_iload hx hb dX4_readRule_146 (lv_at hl 0 rfl) ?_
        refine rw_iast (x := ((tkW (pI I nr nu fp) T n (zU6 T n nr false z)), A, K)) (v := (zUa T n nr false z)) S hE hK hP hS 5 (by decide) (cK_lo (by decide)) nu rfl (by omega) (by decide) dX4_readRule_148 (fun H locs hP hS => ?_)
        have hP : Wp cN E cK ((tkW (pI I nr nu fp) T n (zU6 T n nr false z)), (up2 A 5 nu (zUa T n nr false z)), K) H := hP
        refine lv_aload_n hx hb dX4_readRule_149 rfl (lv_at hl 5 rfl) ?_
        refine lv_iload_n hx hb dX4_readRule_150 rfl (lv_at hl 3 rfl) ?_
        refine lv_iload hx hb dX4_readRule_151 (lv_at hl 2 rfl) ?_
        refine lv_iload hx hb dX4_readRule_153 (lv_at hl 1 rfl) ?_
        refine lv_iload hx hb dX4_readRule_155 (lv_at hl 0 rfl) ?_
        refine cn_wv (ck_V (a := eP E (dB 1 0)) S lk_X4_144 (c_X1_addRule l E (tkW (pI I nr nu fp) T n (zU6 T n nr false z)) (up2 A 5 nu (zUa T n nr false z)) K (zUf T n nr z) (zUg T n nr z) (zUt T n nr false z) (zUa T n nr false z) 1 nu hE (by decide) rfl hu12) ⟨rfl, rfl⟩ ⟨Nat.le_of_ble_eq_true rfl, Nat.le_of_ble_eq_true rfl⟩ bl_w (rc_w hK hP (dB 1 0) (dB_lt (by decide) (by decide)) (cK_D (by decide)) rfl) (bw_U hE hK hC hP hS) rfl hl.1 (Nat.le_of_ble_eq_true rfl) ⟨Nat.le_refl _, Nat.le_refl _⟩ dX4_readRule_157 rfl) hS (fun u21 H locs g22 hP hS => ?_)
        obtain rfl : u21 = (up2 (tkW (pI I nr nu fp) T n (zU6 T n nr false z)) (dB 1 0) 3 (nI (nu + 1)), cAdU (up2 A 5 nu (zUa T n nr false z)) 1 nu (zUf T n nr z) (zUg T n nr z) (zUt T n nr false z) (zUa T n nr false z), K) := g22
        have hP : Wp cN E cK ((up2 (tkW (pI I nr nu fp) T n (zU6 T n nr false z)) (dB 1 0) 3 (nI (nu + 1))), (cAdU (up2 A 5 nu (zUa T n nr false z)) 1 nu (zUf T n nr z) (zUg T n nr z) (zUt T n nr false z) (zUa T n nr false z)), K) H := hP
        rw [tkW_up (dB_nlo (by decide)), pI_w3] at hP
        have hP : Wp cN E cK ((tkW (pI I nr (nu + 1) fp) T n (zU6 T n nr false z)), (cAdU (up2 A 5 nu (zUa T n nr false z)) 1 nu (zUf T n nr z) (zUg T n nr z) (zUt T n nr false z) (zUa T n nr false z)), K) H := hP
        exact re_wv (x := ((tkW (pI I nr (nu + 1) fp) T n (zU6 T n nr false z)), (cAdU (up2 A 5 nu (zUa T n nr false z)) 1 nu (zUf T n nr z) (zUg T n nr z) (zUt T n nr false z) (zUa T n nr false z)), K)) hx hb hr hlk hP hS (by rw [sRule_y (by omega) h135, pW_mk]) dX4_readRule_160
    · have q1 : zN T n (zU2 T n nr z) = true := bI_t h48
      refine lv_aload_n hx hb dX4_readRule_51 rfl (lv_at hl 1 rfl) ?_
      refine rw_getr (x := ((tkW (pI I nr nu fp) T n (zU2 T n nr z)), A, K)) S hK hP 2 (by decide) (cK_lo (by decide)) fk_X4_24 rfl dX4_readRule_52 ?_
      refine cn_si (ck_V (a := eP E 3) S lk_X4_141 (c_X5_currentNumber l E (pI I nr nu fp) A K T n (zU2 T n nr z) hE hT (zOk_U2 hz)) ⟨rfl, rfl⟩ ⟨Nat.le_of_ble_eq_true rfl, Nat.le_of_ble_eq_true rfl⟩ bl_w (rc_w hK hP 3 (by decide) (cK_lo (by decide)) rfl) (bw_U hE hK hC hP hS) rfl hl.1 (Nat.le_of_ble_eq_true rfl) ⟨Nat.le_refl _, Nat.le_refl _⟩ dX4_readRule_55 rfl) (fun r23 g24 => ?_)
      obtain rfl : r23 = tkV T n (zU2 T n nr z).2 := g24
      refine lv_iload_n hx hb dX4_readRule_58 rfl (lv_at hl 0 rfl) ?_
      refine lv_icmp_ne (tgt := 71) hx hb dX4_readRule_59 (by decide) (fun h59 => ?_) (fun h59 => ?_)
      · have e3 : zU3 T n nr z = (zU2 T n nr z) := if_neg (fun g => h59 g.2)
        rw [← e3] at hP
        have hP : Wp cN E cK ((tkW (pI I nr nu fp) T n (zU3 T n nr z)), A, K) H := hP
        refine lv_aload_n hx hb dX4_readRule_71 rfl (lv_at hl 1 rfl) ?_
        refine rw_getr (x := ((tkW (pI I nr nu fp) T n (zU3 T n nr z)), A, K)) S hK hP 2 (by decide) (cK_lo (by decide)) fk_X4_24 rfl dX4_readRule_72 ?_
        refine lv_iconst (v := 0) hx hb dX4_readRule_75 (by decide) ?_
        refine lv_aload_n hx hb dX4_readRule_76 rfl (lv_at hl 2 rfl) ?_
        refine rw_geti (x := ((tkW (pI I nr nu fp) T n (zU3 T n nr z)), A, K)) (v := nI nr) S hK hP (dB 1 0) (dB_lt (by decide) (by decide)) (cK_D (by decide)) fk_X4_104 rfl ((tkW_ne (I := (pI I nr nu fp)) (T := T) (n := n) (z := (zU3 T n nr z)) (a := (dB 1 0)) (b := 0) (dB_nlo (by decide))).trans pI_r0) dX4_readRule_77 ?_
        refine lv_iconst (v := 1) hx hb dX4_readRule_80 (by decide) ?_
        refine lv_isub hx hb dX4_readRule_81 ?_
        refine cn_wi (ck_V (a := eP E 3) S lk_X4_125 (c_X5_needNumber l E (pI I nr nu fp) A K T n (zU3 T n nr z) 0 ((nI nr) - 1) hE hT (zOk_U3 hz)) ⟨rfl, rfl⟩ ⟨Nat.le_of_ble_eq_true rfl, Nat.le_of_ble_eq_true rfl⟩ bl_w (rc_w hK hP 3 (by decide) (cK_lo (by decide)) rfl) (bw_U hE hK hC hP hS) rfl hl.1 (Nat.le_of_ble_eq_true rfl) ⟨Nat.le_refl _, Nat.le_refl _⟩ dX4_readRule_82 rfl) hS (fun r25 u26 H locs g27 hP hS => ?_)
        obtain ⟨rfl, rfl⟩ : r25 = zNv T n 0 ((nI nr) - 1) (zU3 T n nr z) ∧ u26 = (tkW (pI I nr nu fp) T n (zNz T n 0 ((nI nr) - 1) (zU3 T n nr z)), A, K) := g27
        have hP : Wp cN E cK ((tkW (pI I nr nu fp) T n ((zNz T n 0 ((nI nr) - 1) (zU3 T n nr z)))), A, K) H := hP
        have hP : Wp cN E cK ((tkW (pI I nr nu fp) T n (zU4 T n nr z)), A, K) H := hP
        refine tp_i (y := (zUg T n nr z)) rfl ?_
        refine lv_istore (lv' := [(4, .int (zUg T n nr z)), (3, .int (zUf T n nr z)), (0, .ref (eP E 2)), (1, .ref (eP E (dB 1 0))), (2, .int 0)]) hx hb dX4_readRule_85 hl (by decide) rfl (fun ls hl => ?_)
        refine lv_iload_n hx hb dX4_readRule_87 rfl (lv_at hl 4 rfl) ?_
        refine lv_if_eq (tgt := 95) hx hb dX4_readRule_88 (by decide) (fun h88 => ?_) (fun h88 => absurd (by decide) h88)
        refine lv_aload_n hx hb dX4_readRule_95 rfl (lv_at hl 2 rfl) ?_
        refine rw_getr (x := ((tkW (pI I nr nu fp) T n (zU4 T n nr z)), A, K)) S hK hP 2 (by decide) (cK_lo (by decide)) fk_X4_24 rfl dX4_readRule_96 ?_
        refine lv_iconst (v := 0) hx hb dX4_readRule_99 (by decide) ?_
        refine lv_iconst (v := 4) hx hb dX4_readRule_100 (by decide) ?_
        refine cn_wi (ck_V (a := eP E 3) S lk_X4_125 (c_X5_needNumber l E (pI I nr nu fp) A K T n (zU4 T n nr z) 0 4 hE hT (zOk_U4 hz)) ⟨rfl, rfl⟩ ⟨Nat.le_of_ble_eq_true rfl, Nat.le_of_ble_eq_true rfl⟩ bl_w (rc_w hK hP 3 (by decide) (cK_lo (by decide)) rfl) (bw_U hE hK hC hP hS) rfl hl.1 (Nat.le_of_ble_eq_true rfl) ⟨Nat.le_refl _, Nat.le_refl _⟩ dX4_readRule_101 rfl) hS (fun r28 u29 H locs g30 hP hS => ?_)
        obtain ⟨rfl, rfl⟩ : r28 = zNv T n 0 4 (zU4 T n nr z) ∧ u29 = (tkW (pI I nr nu fp) T n (zNz T n 0 4 (zU4 T n nr z)), A, K) := g30
        have hP : Wp cN E cK ((tkW (pI I nr nu fp) T n ((zNz T n 0 4 (zU4 T n nr z)))), A, K) H := hP
        have hP : Wp cN E cK ((tkW (pI I nr nu fp) T n (zU5 T n nr false z)), A, K) H := hP
        refine tp_i (y := (zUt T n nr false z)) rfl ?_
        refine lv_istore (lv' := [(5, .int (zUt T n nr false z)), (4, .int (zUg T n nr z)), (3, .int (zUf T n nr z)), (0, .ref (eP E 2)), (1, .ref (eP E (dB 1 0))), (2, .int 0)]) hx hb dX4_readRule_104 hl (by decide) rfl (fun ls hl => ?_)
        refine lv_aload_n hx hb dX4_readRule_106 rfl (lv_at hl 3 rfl) ?_
        refine rw_getr (x := ((tkW (pI I nr nu fp) T n (zU5 T n nr false z)), A, K)) S hK hP 2 (by decide) (cK_lo (by decide)) fk_X4_24 rfl dX4_readRule_107 ?_
        refine lv_iconst (v := 1) hx hb dX4_readRule_110 (by decide) ?_
        refine lv_iload_n hx hb dX4_readRule_111 rfl (lv_at hl 5 rfl) ?_
        refine lv_if_eq (tgt := 120) hx hb dX4_readRule_112 (by decide) (fun h112 => ?_) (fun h112 => absurd (by decide) h112)
        refine lv_sipush (v := 2295) hx hb dX4_readRule_120 (by decide) ?_
        refine cn_wi (ck_V (a := eP E 3) S lk_X4_125 (c_X5_needNumber l E (pI I nr nu fp) A K T n (zU5 T n nr false z) 1 2295 hE hT (zOk_U5 (b := false) hz)) ⟨rfl, rfl⟩ ⟨Nat.le_of_ble_eq_true rfl, Nat.le_of_ble_eq_true rfl⟩ bl_w (rc_w hK hP 3 (by decide) (cK_lo (by decide)) rfl) (bw_U hE hK hC hP hS) rfl hl.1 (Nat.le_of_ble_eq_true rfl) ⟨Nat.le_refl _, Nat.le_refl _⟩ dX4_readRule_123 rfl) hS (fun r31 u32 H locs g33 hP hS => ?_)
        obtain ⟨rfl, rfl⟩ : r31 = zNv T n 1 2295 (zU5 T n nr false z) ∧ u32 = (tkW (pI I nr nu fp) T n (zNz T n 1 2295 (zU5 T n nr false z)), A, K) := g33
        have hP : Wp cN E cK ((tkW (pI I nr nu fp) T n ((zNz T n 1 2295 (zU5 T n nr false z)))), A, K) H := hP
        have hP : Wp cN E cK ((tkW (pI I nr nu fp) T n (zU6 T n nr false z)), A, K) H := hP
        refine tp_i (y := (zUa T n nr false z)) rfl ?_
        refine lv_istore (lv' := [(6, .int (zUa T n nr false z)), (5, .int (zUt T n nr false z)), (4, .int (zUg T n nr z)), (3, .int (zUf T n nr z)), (0, .ref (eP E 2)), (1, .ref (eP E (dB 1 0))), (2, .int 0)]) hx hb dX4_readRule_126 hl (by decide) rfl (fun ls hl => ?_)
        refine lv_aload_n hx hb dX4_readRule_128 rfl (lv_at hl 4 rfl) ?_
        refine rw_getr (x := ((tkW (pI I nr nu fp) T n (zU6 T n nr false z)), A, K)) S hK hP 2 (by decide) (cK_lo (by decide)) fk_X4_24 rfl dX4_readRule_129 ?_
        refine cn_si (ck_V (a := eP E 3) S lk_X4_67 (c_X5_firstError l E (pI I nr nu fp) A K T n (zU6 T n nr false z) hE hT (zOk_U6 (b := false) hz)) ⟨rfl, rfl⟩ ⟨Nat.le_of_ble_eq_true rfl, Nat.le_of_ble_eq_true rfl⟩ bl_w (rc_w hK hP 3 (by decide) (cK_lo (by decide)) rfl) (bw_U hE hK hC hP hS) rfl hl.1 (Nat.le_of_ble_eq_true rfl) ⟨Nat.le_refl _, Nat.le_refl _⟩ dX4_readRule_132 rfl) (fun r34 g35 => ?_)
        obtain rfl : r34 = (zU6 T n nr false z).1 := g35
        refine lv_if_ne (tgt := 160) hx hb dX4_readRule_135 (by decide) (fun h135 => ?_) (fun h135 => ?_)
        · exact re_wv (x := ((tkW (pI I nr nu fp) T n (zU6 T n nr false z)), A, K)) hx hb hr hlk hP hS (by rw [sRule_n (by omega) h135, pW_mk]) dX4_readRule_160
        · refine lv_aload_n hx hb dX4_readRule_138 rfl (lv_at hl 4 rfl) ?_
          refine rw_getr (x := ((tkW (pI I nr nu fp) T n (zU6 T n nr false z)), A, K)) S hK hP 2 (by decide) (cK_lo (by decide)) fk_X4_9 rfl dX4_readRule_139 ?_
          refine lv_aload_n hx hb dX4_readRule_142 rfl (lv_at hl 5 rfl) ?_
          refine rw_geti (x := ((tkW (pI I nr nu fp) T n (zU6 T n nr false z)), A, K)) (v := nI nu) S hK hP (dB 1 0) (dB_lt (by decide) (by decide)) (cK_D (by decide)) fk_X4_135 rfl ((tkW_ne (I := (pI I nr nu fp)) (T := T) (n := n) (z := (zU6 T n nr false z)) (a := (dB 1 0)) (b := 3) (dB_nlo (by decide))).trans pI_r3) dX4_readRule_143 ?_
          refine lv_iload hx hb dX4_readRule_146 (lv_at hl 0 rfl) ?_
          refine rw_iast (x := ((tkW (pI I nr nu fp) T n (zU6 T n nr false z)), A, K)) (v := (zUa T n nr false z)) S hE hK hP hS 5 (by decide) (cK_lo (by decide)) nu rfl (by omega) (by decide) dX4_readRule_148 (fun H locs hP hS => ?_)
          have hP : Wp cN E cK ((tkW (pI I nr nu fp) T n (zU6 T n nr false z)), (up2 A 5 nu (zUa T n nr false z)), K) H := hP
          refine lv_aload_n hx hb dX4_readRule_149 rfl (lv_at hl 5 rfl) ?_
          refine lv_iload_n hx hb dX4_readRule_150 rfl (lv_at hl 3 rfl) ?_
          refine lv_iload hx hb dX4_readRule_151 (lv_at hl 2 rfl) ?_
          refine lv_iload hx hb dX4_readRule_153 (lv_at hl 1 rfl) ?_
          refine lv_iload hx hb dX4_readRule_155 (lv_at hl 0 rfl) ?_
          refine cn_wv (ck_V (a := eP E (dB 1 0)) S lk_X4_144 (c_X1_addRule l E (tkW (pI I nr nu fp) T n (zU6 T n nr false z)) (up2 A 5 nu (zUa T n nr false z)) K (zUf T n nr z) (zUg T n nr z) (zUt T n nr false z) (zUa T n nr false z) 1 nu hE (by decide) rfl hu12) ⟨rfl, rfl⟩ ⟨Nat.le_of_ble_eq_true rfl, Nat.le_of_ble_eq_true rfl⟩ bl_w (rc_w hK hP (dB 1 0) (dB_lt (by decide) (by decide)) (cK_D (by decide)) rfl) (bw_U hE hK hC hP hS) rfl hl.1 (Nat.le_of_ble_eq_true rfl) ⟨Nat.le_refl _, Nat.le_refl _⟩ dX4_readRule_157 rfl) hS (fun u37 H locs g38 hP hS => ?_)
          obtain rfl : u37 = (up2 (tkW (pI I nr nu fp) T n (zU6 T n nr false z)) (dB 1 0) 3 (nI (nu + 1)), cAdU (up2 A 5 nu (zUa T n nr false z)) 1 nu (zUf T n nr z) (zUg T n nr z) (zUt T n nr false z) (zUa T n nr false z), K) := g38
          have hP : Wp cN E cK ((up2 (tkW (pI I nr nu fp) T n (zU6 T n nr false z)) (dB 1 0) 3 (nI (nu + 1))), (cAdU (up2 A 5 nu (zUa T n nr false z)) 1 nu (zUf T n nr z) (zUg T n nr z) (zUt T n nr false z) (zUa T n nr false z)), K) H := hP
          rw [tkW_up (dB_nlo (by decide)), pI_w3] at hP
          have hP : Wp cN E cK ((tkW (pI I nr (nu + 1) fp) T n (zU6 T n nr false z)), (cAdU (up2 A 5 nu (zUa T n nr false z)) 1 nu (zUf T n nr z) (zUg T n nr z) (zUt T n nr false z) (zUa T n nr false z)), K) H := hP
          exact re_wv (x := ((tkW (pI I nr (nu + 1) fp) T n (zU6 T n nr false z)), (cAdU (up2 A 5 nu (zUa T n nr false z)) 1 nu (zUf T n nr z) (zUg T n nr z) (zUt T n nr false z) (zUa T n nr false z)), K)) hx hb hr hlk hP hS (by rw [sRule_y (by omega) h135, pW_mk]) dX4_readRule_160
      · refine lv_aload_n hx hb dX4_readRule_62 rfl (lv_at hl 1 rfl) ?_
        refine rw_getr (x := ((tkW (pI I nr nu fp) T n (zU2 T n nr z)), A, K)) S hK hP 2 (by decide) (cK_lo (by decide)) fk_X4_24 rfl dX4_readRule_63 ?_
        refine lv_bipush (v := (-3)) hx hb dX4_readRule_66 (by decide) ?_
        refine cn_wv (ck_V (a := eP E 3) S lk_X4_101 (c_X5_fail l E (pI I nr nu fp) A K T n (zU2 T n nr z) (-3) hE hT (zOk_U2 hz) (by decide)) ⟨rfl, rfl⟩ ⟨Nat.le_of_ble_eq_true rfl, Nat.le_of_ble_eq_true rfl⟩ bl_w (rc_w hK hP 3 (by decide) (cK_lo (by decide)) rfl) (bw_U hE hK hC hP hS) rfl hl.1 (Nat.le_of_ble_eq_true rfl) ⟨Nat.le_refl _, Nat.le_refl _⟩ dX4_readRule_68 rfl) hS (fun u40 H locs g41 hP hS => ?_)
        obtain rfl : u40 = (tkW (pI I nr nu fp) T n (zF (-3) (zU2 T n nr z)), A, K) := g41
        have hP : Wp cN E cK ((tkW (pI I nr nu fp) T n ((zF (-3) (zU2 T n nr z)))), A, K) H := hP
        have e3 : zU3 T n nr z = zF (-3) (zU2 T n nr z) := if_pos ⟨q1, h59⟩
        rw [← e3] at hP
        have hP : Wp cN E cK ((tkW (pI I nr nu fp) T n (zU3 T n nr z)), A, K) H := hP
        refine lv_aload_n hx hb dX4_readRule_71 rfl (lv_at hl 1 rfl) ?_
        refine rw_getr (x := ((tkW (pI I nr nu fp) T n (zU3 T n nr z)), A, K)) S hK hP 2 (by decide) (cK_lo (by decide)) fk_X4_24 rfl dX4_readRule_72 ?_
        refine lv_iconst (v := 0) hx hb dX4_readRule_75 (by decide) ?_
        refine lv_aload_n hx hb dX4_readRule_76 rfl (lv_at hl 2 rfl) ?_
        refine rw_geti (x := ((tkW (pI I nr nu fp) T n (zU3 T n nr z)), A, K)) (v := nI nr) S hK hP (dB 1 0) (dB_lt (by decide) (by decide)) (cK_D (by decide)) fk_X4_104 rfl ((tkW_ne (I := (pI I nr nu fp)) (T := T) (n := n) (z := (zU3 T n nr z)) (a := (dB 1 0)) (b := 0) (dB_nlo (by decide))).trans pI_r0) dX4_readRule_77 ?_
        refine lv_iconst (v := 1) hx hb dX4_readRule_80 (by decide) ?_
        refine lv_isub hx hb dX4_readRule_81 ?_
        refine cn_wi (ck_V (a := eP E 3) S lk_X4_125 (c_X5_needNumber l E (pI I nr nu fp) A K T n (zU3 T n nr z) 0 ((nI nr) - 1) hE hT (zOk_U3 hz)) ⟨rfl, rfl⟩ ⟨Nat.le_of_ble_eq_true rfl, Nat.le_of_ble_eq_true rfl⟩ bl_w (rc_w hK hP 3 (by decide) (cK_lo (by decide)) rfl) (bw_U hE hK hC hP hS) rfl hl.1 (Nat.le_of_ble_eq_true rfl) ⟨Nat.le_refl _, Nat.le_refl _⟩ dX4_readRule_82 rfl) hS (fun r42 u43 H locs g44 hP hS => ?_)
        obtain ⟨rfl, rfl⟩ : r42 = zNv T n 0 ((nI nr) - 1) (zU3 T n nr z) ∧ u43 = (tkW (pI I nr nu fp) T n (zNz T n 0 ((nI nr) - 1) (zU3 T n nr z)), A, K) := g44
        have hP : Wp cN E cK ((tkW (pI I nr nu fp) T n ((zNz T n 0 ((nI nr) - 1) (zU3 T n nr z)))), A, K) H := hP
        have hP : Wp cN E cK ((tkW (pI I nr nu fp) T n (zU4 T n nr z)), A, K) H := hP
        refine tp_i (y := (zUg T n nr z)) rfl ?_
        refine lv_istore (lv' := [(4, .int (zUg T n nr z)), (3, .int (zUf T n nr z)), (0, .ref (eP E 2)), (1, .ref (eP E (dB 1 0))), (2, .int 0)]) hx hb dX4_readRule_85 hl (by decide) rfl (fun ls hl => ?_)
        refine lv_iload_n hx hb dX4_readRule_87 rfl (lv_at hl 4 rfl) ?_
        refine lv_if_eq (tgt := 95) hx hb dX4_readRule_88 (by decide) (fun h88 => ?_) (fun h88 => absurd (by decide) h88)
        refine lv_aload_n hx hb dX4_readRule_95 rfl (lv_at hl 2 rfl) ?_
        refine rw_getr (x := ((tkW (pI I nr nu fp) T n (zU4 T n nr z)), A, K)) S hK hP 2 (by decide) (cK_lo (by decide)) fk_X4_24 rfl dX4_readRule_96 ?_
        refine lv_iconst (v := 0) hx hb dX4_readRule_99 (by decide) ?_
        refine lv_iconst (v := 4) hx hb dX4_readRule_100 (by decide) ?_
        refine cn_wi (ck_V (a := eP E 3) S lk_X4_125 (c_X5_needNumber l E (pI I nr nu fp) A K T n (zU4 T n nr z) 0 4 hE hT (zOk_U4 hz)) ⟨rfl, rfl⟩ ⟨Nat.le_of_ble_eq_true rfl, Nat.le_of_ble_eq_true rfl⟩ bl_w (rc_w hK hP 3 (by decide) (cK_lo (by decide)) rfl) (bw_U hE hK hC hP hS) rfl hl.1 (Nat.le_of_ble_eq_true rfl) ⟨Nat.le_refl _, Nat.le_refl _⟩ dX4_readRule_101 rfl) hS (fun r45 u46 H locs g47 hP hS => ?_)
        obtain ⟨rfl, rfl⟩ : r45 = zNv T n 0 4 (zU4 T n nr z) ∧ u46 = (tkW (pI I nr nu fp) T n (zNz T n 0 4 (zU4 T n nr z)), A, K) := g47
        have hP : Wp cN E cK ((tkW (pI I nr nu fp) T n ((zNz T n 0 4 (zU4 T n nr z)))), A, K) H := hP
        have hP : Wp cN E cK ((tkW (pI I nr nu fp) T n (zU5 T n nr false z)), A, K) H := hP
        refine tp_i (y := (zUt T n nr false z)) rfl ?_
        refine lv_istore (lv' := [(5, .int (zUt T n nr false z)), (4, .int (zUg T n nr z)), (3, .int (zUf T n nr z)), (0, .ref (eP E 2)), (1, .ref (eP E (dB 1 0))), (2, .int 0)]) hx hb dX4_readRule_104 hl (by decide) rfl (fun ls hl => ?_)
        refine lv_aload_n hx hb dX4_readRule_106 rfl (lv_at hl 3 rfl) ?_
        refine rw_getr (x := ((tkW (pI I nr nu fp) T n (zU5 T n nr false z)), A, K)) S hK hP 2 (by decide) (cK_lo (by decide)) fk_X4_24 rfl dX4_readRule_107 ?_
        refine lv_iconst (v := 1) hx hb dX4_readRule_110 (by decide) ?_
        refine lv_iload_n hx hb dX4_readRule_111 rfl (lv_at hl 5 rfl) ?_
        refine lv_if_eq (tgt := 120) hx hb dX4_readRule_112 (by decide) (fun h112 => ?_) (fun h112 => absurd (by decide) h112)
        refine lv_sipush (v := 2295) hx hb dX4_readRule_120 (by decide) ?_
        refine cn_wi (ck_V (a := eP E 3) S lk_X4_125 (c_X5_needNumber l E (pI I nr nu fp) A K T n (zU5 T n nr false z) 1 2295 hE hT (zOk_U5 (b := false) hz)) ⟨rfl, rfl⟩ ⟨Nat.le_of_ble_eq_true rfl, Nat.le_of_ble_eq_true rfl⟩ bl_w (rc_w hK hP 3 (by decide) (cK_lo (by decide)) rfl) (bw_U hE hK hC hP hS) rfl hl.1 (Nat.le_of_ble_eq_true rfl) ⟨Nat.le_refl _, Nat.le_refl _⟩ dX4_readRule_123 rfl) hS (fun r48 u49 H locs g50 hP hS => ?_)
        obtain ⟨rfl, rfl⟩ : r48 = zNv T n 1 2295 (zU5 T n nr false z) ∧ u49 = (tkW (pI I nr nu fp) T n (zNz T n 1 2295 (zU5 T n nr false z)), A, K) := g50
        have hP : Wp cN E cK ((tkW (pI I nr nu fp) T n ((zNz T n 1 2295 (zU5 T n nr false z)))), A, K) H := hP
        have hP : Wp cN E cK ((tkW (pI I nr nu fp) T n (zU6 T n nr false z)), A, K) H := hP
        refine tp_i (y := (zUa T n nr false z)) rfl ?_
        refine lv_istore (lv' := [(6, .int (zUa T n nr false z)), (5, .int (zUt T n nr false z)), (4, .int (zUg T n nr z)), (3, .int (zUf T n nr z)), (0, .ref (eP E 2)), (1, .ref (eP E (dB 1 0))), (2, .int 0)]) hx hb dX4_readRule_126 hl (by decide) rfl (fun ls hl => ?_)
        refine lv_aload_n hx hb dX4_readRule_128 rfl (lv_at hl 4 rfl) ?_
        refine rw_getr (x := ((tkW (pI I nr nu fp) T n (zU6 T n nr false z)), A, K)) S hK hP 2 (by decide) (cK_lo (by decide)) fk_X4_24 rfl dX4_readRule_129 ?_
        refine cn_si (ck_V (a := eP E 3) S lk_X4_67 (c_X5_firstError l E (pI I nr nu fp) A K T n (zU6 T n nr false z) hE hT (zOk_U6 (b := false) hz)) ⟨rfl, rfl⟩ ⟨Nat.le_of_ble_eq_true rfl, Nat.le_of_ble_eq_true rfl⟩ bl_w (rc_w hK hP 3 (by decide) (cK_lo (by decide)) rfl) (bw_U hE hK hC hP hS) rfl hl.1 (Nat.le_of_ble_eq_true rfl) ⟨Nat.le_refl _, Nat.le_refl _⟩ dX4_readRule_132 rfl) (fun r51 g52 => ?_)
        obtain rfl : r51 = (zU6 T n nr false z).1 := g52
        refine lv_if_ne (tgt := 160) hx hb dX4_readRule_135 (by decide) (fun h135 => ?_) (fun h135 => ?_)
        · exact re_wv (x := ((tkW (pI I nr nu fp) T n (zU6 T n nr false z)), A, K)) hx hb hr hlk hP hS (by rw [sRule_n (by omega) h135, pW_mk]) dX4_readRule_160
        · refine lv_aload_n hx hb dX4_readRule_138 rfl (lv_at hl 4 rfl) ?_
          refine rw_getr (x := ((tkW (pI I nr nu fp) T n (zU6 T n nr false z)), A, K)) S hK hP 2 (by decide) (cK_lo (by decide)) fk_X4_9 rfl dX4_readRule_139 ?_
          refine lv_aload_n hx hb dX4_readRule_142 rfl (lv_at hl 5 rfl) ?_
          refine rw_geti (x := ((tkW (pI I nr nu fp) T n (zU6 T n nr false z)), A, K)) (v := nI nu) S hK hP (dB 1 0) (dB_lt (by decide) (by decide)) (cK_D (by decide)) fk_X4_135 rfl ((tkW_ne (I := (pI I nr nu fp)) (T := T) (n := n) (z := (zU6 T n nr false z)) (a := (dB 1 0)) (b := 3) (dB_nlo (by decide))).trans pI_r3) dX4_readRule_143 ?_
          refine lv_iload hx hb dX4_readRule_146 (lv_at hl 0 rfl) ?_
          refine rw_iast (x := ((tkW (pI I nr nu fp) T n (zU6 T n nr false z)), A, K)) (v := (zUa T n nr false z)) S hE hK hP hS 5 (by decide) (cK_lo (by decide)) nu rfl (by omega) (by decide) dX4_readRule_148 (fun H locs hP hS => ?_)
          have hP : Wp cN E cK ((tkW (pI I nr nu fp) T n (zU6 T n nr false z)), (up2 A 5 nu (zUa T n nr false z)), K) H := hP
          refine lv_aload_n hx hb dX4_readRule_149 rfl (lv_at hl 5 rfl) ?_
          refine lv_iload_n hx hb dX4_readRule_150 rfl (lv_at hl 3 rfl) ?_
          refine lv_iload hx hb dX4_readRule_151 (lv_at hl 2 rfl) ?_
          refine lv_iload hx hb dX4_readRule_153 (lv_at hl 1 rfl) ?_
          refine lv_iload hx hb dX4_readRule_155 (lv_at hl 0 rfl) ?_
          refine cn_wv (ck_V (a := eP E (dB 1 0)) S lk_X4_144 (c_X1_addRule l E (tkW (pI I nr nu fp) T n (zU6 T n nr false z)) (up2 A 5 nu (zUa T n nr false z)) K (zUf T n nr z) (zUg T n nr z) (zUt T n nr false z) (zUa T n nr false z) 1 nu hE (by decide) rfl hu12) ⟨rfl, rfl⟩ ⟨Nat.le_of_ble_eq_true rfl, Nat.le_of_ble_eq_true rfl⟩ bl_w (rc_w hK hP (dB 1 0) (dB_lt (by decide) (by decide)) (cK_D (by decide)) rfl) (bw_U hE hK hC hP hS) rfl hl.1 (Nat.le_of_ble_eq_true rfl) ⟨Nat.le_refl _, Nat.le_refl _⟩ dX4_readRule_157 rfl) hS (fun u54 H locs g55 hP hS => ?_)
          obtain rfl : u54 = (up2 (tkW (pI I nr nu fp) T n (zU6 T n nr false z)) (dB 1 0) 3 (nI (nu + 1)), cAdU (up2 A 5 nu (zUa T n nr false z)) 1 nu (zUf T n nr z) (zUg T n nr z) (zUt T n nr false z) (zUa T n nr false z), K) := g55
          have hP : Wp cN E cK ((up2 (tkW (pI I nr nu fp) T n (zU6 T n nr false z)) (dB 1 0) 3 (nI (nu + 1))), (cAdU (up2 A 5 nu (zUa T n nr false z)) 1 nu (zUf T n nr z) (zUg T n nr z) (zUt T n nr false z) (zUa T n nr false z)), K) H := hP
          rw [tkW_up (dB_nlo (by decide)), pI_w3] at hP
          have hP : Wp cN E cK ((tkW (pI I nr (nu + 1) fp) T n (zU6 T n nr false z)), (cAdU (up2 A 5 nu (zUa T n nr false z)) 1 nu (zUf T n nr z) (zUg T n nr z) (zUt T n nr false z) (zUa T n nr false z)), K) H := hP
          exact re_wv (x := ((tkW (pI I nr (nu + 1) fp) T n (zU6 T n nr false z)), (cAdU (up2 A 5 nu (zUa T n nr false z)) 1 nu (zUf T n nr z) (zUg T n nr z) (zUt T n nr false z) (zUa T n nr false z)), K)) hx hb hr hlk hP hS (by rw [sRule_y (by omega) h135, pW_mk]) dX4_readRule_160
  · have hu12 : 12 ≤ nu := Nat.not_lt.mp (fun g => h6 (nI_lt (b := 12) g (by decide)))
    refine lv_aload_n hx hb dX4_readRule_9 rfl (lv_at hl 0 rfl) ?_
    refine rw_getr (x := ((tkW (pI I nr nu fp) T n z), A, K)) S hK hP 2 (by decide) (cK_lo (by decide)) fk_X4_24 rfl dX4_readRule_10 ?_
    refine lv_bipush (v := (-4)) hx hb dX4_readRule_13 (by decide) ?_
    refine cn_wv (ck_V (a := eP E 3) S lk_X4_101 (c_X5_fail l E (pI I nr nu fp) A K T n z (-4) hE hT hz (by decide)) ⟨rfl, rfl⟩ ⟨Nat.le_of_ble_eq_true rfl, Nat.le_of_ble_eq_true rfl⟩ bl_w (rc_w hK hP 3 (by decide) (cK_lo (by decide)) rfl) (bw_U hE hK hC hP hS) rfl hl.1 (Nat.le_of_ble_eq_true rfl) ⟨Nat.le_refl _, Nat.le_refl _⟩ dX4_readRule_15 rfl) hS (fun u57 H locs g58 hP hS => ?_)
    obtain rfl : u57 = (tkW (pI I nr nu fp) T n (zF (-4) z), A, K) := g58
    have hP : Wp cN E cK ((tkW (pI I nr nu fp) T n ((zF (-4) z))), A, K) H := hP
    exact re_wv (x := ((tkW (pI I nr nu fp) T n ((zF (-4) z))), A, K)) hx hb hr hlk hP hS (by rw [sRule_f hu12, pW_mk]) dX4_readRule_18

set_option maxHeartbeats 1000000 in
set_option maxRecDepth 100000 in
theorem c_X2_readSum (l : Launch) (E : En) (I A : Nat → Nat → Int32) (K : Nat → Nat → Int64) (T : Nat → Int32) (n : Nat) (z : Tz) (nr nu : Nat) (fp : Option Nat) (hE : Ev cN E) (hp : pOk T n (nr, nu, fp, A, z)) : Met l yX2_readSum (wz yX2_readSum cX2_readSum 1 none) (rmk 21 0 0 477) (va_Pc [.ref (eP E 4)] (Bw cN E cK (pW I K T n (nr, nu, fp, A, z)))) (qWv cN E cK (fun uu => uu = pW I K T n (sFlo T n (nr, nu, fp, A, z)))) 0 0 (cA cN E) := by
  refine en_ofW RX2 rfl (by decide +kernel) (Nat.le_of_ble_eq_true rfl) ?_
  intro p e s m below meth c ls S hr hlk hnm hl hB
  have hx := S.1
  have hb := S.2.1
  obtain ⟨hK, hC, hP⟩ := hB
  have hS : va_S (cA cN E) s.heap s.heap [] := va_S.rf
  have hl : lv_has ls 1 [(0, .ref (eP E 4))] := hl
  have hnr : nr ≤ 10 := hp.1.1
  have hnu : nu ≤ 12 := hp.1.2
  have hz : zOk n z := hp.2.1.1
  have hT : A 1 = T := hp.2.1.2
  have hfq : ∀ q, fp = some q → q ≤ n := hp.2.2.1
  obtain ⟨hz1, hz2⟩ := id hz
  have hP : Wp cN E cK (tkW (pI I nr nu fp) T n z, A, K) s.heap := hP
  refine lv_aload_n hx hb dX2_readSum_0 rfl (lv_at hl 0 rfl) ?_
  refine lv_aload_n hx hb dX2_readSum_1 rfl (lv_at hl 0 rfl) ?_
  refine rw_getr (x := ((tkW (pI I nr nu fp) T n z), A, K)) S hK hP 4 (by decide) (cK_lo (by decide)) fk_X2_21 rfl dX2_readSum_2 ?_
  refine cn_si (ck_V (a := eP E 3) S lk_X2_25 (c_X5_currentEnd l E (pI I nr nu fp) A K T n z hE hT hz) ⟨rfl, rfl⟩ ⟨Nat.le_of_ble_eq_true rfl, Nat.le_of_ble_eq_true rfl⟩ bl_w (rc_w hK hP 3 (by decide) (cK_lo (by decide)) rfl) (bw_U hE hK hC hP hS) rfl hl.1 (Nat.le_of_ble_eq_true rfl) ⟨Nat.le_refl _, Nat.le_refl _⟩ dX2_readSum_5 rfl) (fun r1 g2 => ?_)
  obtain rfl : r1 = nI (tkE T n z.2) := g2
  refine rw_puti (x := ((tkW (pI I nr nu fp) T n z), A, K)) (v := (nI (tkE T n z.2))) S hE hK hP hS 4 (by decide) (cK_lo (by decide)) fk_X2_11 rfl tyX2_ok nmX2 ⟨rfl, by decide +kernel⟩ dX2_readSum_8 (fun H locs hP hS => ?_)
  have hP : Wp cN E cK (up2 (tkW (pI I nr nu fp) T n z) 4 1 (nI (tkE T n z.2)), A, K) H := hP
  rw [tkW_up (by decide)] at hP
  rw [show ((nI (tkE T n z.2)) : Int32) = optI (some (tkE T n z.2)) from rfl, pI_w4] at hP
  have hP : Wp cN E cK ((tkW (pI I nr nu (some (tkE T n z.2))) T n z), A, K) H := hP
  have hP : Wp cN E cK ((tkW (pI I nr nu (some (tkE T n z.2))) T n z), A, K) H := hP
  refine lv_aload_n hx hb dX2_readSum_11 rfl (lv_at hl 0 rfl) ?_
  refine rw_getr (x := ((tkW (pI I nr nu (some (tkE T n z.2))) T n z), A, K)) S hK hP 4 (by decide) (cK_lo (by decide)) fk_X2_21 rfl dX2_readSum_12 ?_
  refine cn_wv (ck_V (a := eP E 3) S lk_X2_31 (c_X5_adv l E (pI I nr nu (some (tkE T n z.2))) A K T n z hE hT hz) ⟨rfl, rfl⟩ ⟨Nat.le_of_ble_eq_true rfl, Nat.le_of_ble_eq_true rfl⟩ bl_w (rc_w hK hP 3 (by decide) (cK_lo (by decide)) rfl) (bw_U hE hK hC hP hS) rfl hl.1 (Nat.le_of_ble_eq_true rfl) ⟨Nat.le_refl _, Nat.le_refl _⟩ dX2_readSum_15 rfl) hS (fun u4 H locs g5 hP hS => ?_)
  obtain rfl : u4 = (tkW (pI I nr nu (some (tkE T n z.2))) T n (zA T n z), A, K) := g5
  have hP : Wp cN E cK ((tkW (pI I nr nu (some (tkE T n z.2))) T n ((zA T n z))), A, K) H := hP
  refine lv_aload_n hx hb dX2_readSum_18 rfl (lv_at hl 0 rfl) ?_
  refine lv_iconst (v := 0) hx hb dX2_readSum_19 (by decide) ?_
  refine cn_wi (ck_V (a := eP E 4) S lk_X2_34 (c_X2_sum_4 l E (pI I nr nu (some (tkE T n z.2))) A K T n ((zA T n z)) hE hT (zOk_A hz)) ⟨rfl, rfl⟩ ⟨Nat.le_of_ble_eq_true rfl, Nat.le_of_ble_eq_true rfl⟩ bl_w (rc_w hK hP 4 (by decide) (cK_lo (by decide)) rfl) (bw_U hE hK hC hP hS) rfl hl.1 (Nat.le_of_ble_eq_true rfl) ⟨Nat.le_refl _, Nat.le_refl _⟩ dX2_readSum_20 rfl) hS (fun r6 u7 H locs g8 hP hS => ?_)
  obtain ⟨rfl, rfl⟩ : r6 = (zSu T n ((pI I nr nu (some (tkE T n z.2))) 4 2) ((pI I nr nu (some (tkE T n z.2))) 4 3) 4 ((zA T n z))).1 ∧ u7 = (tkW (pI I nr nu (some (tkE T n z.2))) T n (zSu T n ((pI I nr nu (some (tkE T n z.2))) 4 2) ((pI I nr nu (some (tkE T n z.2))) 4 3) 4 ((zA T n z))).2, A, K) := g8
  have hP : Wp cN E cK ((tkW (pI I nr nu (some (tkE T n z.2))) T n ((zSu T n ((pI I nr nu (some (tkE T n z.2))) 4 2) ((pI I nr nu (some (tkE T n z.2))) 4 3) 4 ((zA T n z))).2)), A, K) H := hP
  refine lv_pop hx hb dX2_readSum_23 rfl ?_
  rw [zSu_i 0 0] at hP
  have hP : Wp cN E cK ((tkW (pI I nr nu (some (tkE T n z.2))) T n ((zSu T n 0 0 4 (zA T n z)).2)), A, K) H := hP
  exact re_wv (x := ((tkW (pI I nr nu (some (tkE T n z.2))) T n ((zSu T n 0 0 4 (zA T n z)).2)), A, K)) hx hb hr hlk hP hS rfl dX2_readSum_24

set_option maxHeartbeats 1000000 in
set_option maxRecDepth 100000 in
theorem c_X4_readStatement (l : Launch) (E : En) (I A : Nat → Nat → Int32) (K : Nat → Nat → Int64) (T : Nat → Int32) (n : Nat) (z : Tz) (nr nu : Nat) (fp : Option Nat) (hE : Ev cN E) (hp : pOk T n (nr, nu, fp, A, z)) : Met l yX4_readStatement (wz yX4_readStatement cX4_readStatement 2 none) (rmk 22 0 0 497) (va_Pc [.ref (eP E 2), .ref (eP E (dB 1 0))] (Bw cN E cK (pW I K T n (nr, nu, fp, A, z)))) (qWv cN E cK (fun uu => uu = pW I K T n (sStm T n (nr, nu, fp, A, z)))) 0 0 (cA cN E) := by
  refine en_ofW RX4 rfl (by decide +kernel) (Nat.le_of_ble_eq_true rfl) ?_
  intro p e s m below meth c ls S hr hlk hnm hl hB
  have hx := S.1
  have hb := S.2.1
  obtain ⟨hK, hC, hP⟩ := hB
  have hS : va_S (cA cN E) s.heap s.heap [] := va_S.rf
  have hl : lv_has ls 2 [(0, .ref (eP E 2)), (1, .ref (eP E (dB 1 0)))] := hl
  have hnr : nr ≤ 10 := hp.1.1
  have hnu : nu ≤ 12 := hp.1.2
  have hz : zOk n z := hp.2.1.1
  have hT : A 1 = T := hp.2.1.2
  have hfq : ∀ q, fp = some q → q ≤ n := hp.2.2.1
  obtain ⟨hz1, hz2⟩ := id hz
  have hP : Wp cN E cK (tkW (pI I nr nu fp) T n z, A, K) s.heap := hP
  refine lv_aload_n hx hb dX4_readStatement_0 rfl (lv_at hl 0 rfl) ?_
  refine rw_getr (x := ((tkW (pI I nr nu fp) T n z), A, K)) S hK hP 2 (by decide) (cK_lo (by decide)) fk_X4_24 rfl dX4_readStatement_1 ?_
  refine va_ldcS (q := eS E 1) (tx := "role") hx hb S.2.2.2.1 (tr_1 hC.1.2.1) dX4_readStatement_4 ?_
  refine cn_si (ck_V (a := eP E 3) S lk_X4_79 (c_X5_isWord l E (pI I nr nu fp) A K T n z 1 hE hT hz (by decide)) ⟨rfl, rfl⟩ ⟨Nat.le_of_ble_eq_true rfl, Nat.le_of_ble_eq_true rfl⟩ bl_w (rc_w hK hP 3 (by decide) (cK_lo (by decide)) rfl) (bw_U hE hK hC hP hS) rfl hl.1 (Nat.le_of_ble_eq_true rfl) ⟨Nat.le_refl _, Nat.le_refl _⟩ dX4_readStatement_6 rfl) (fun r1 g2 => ?_)
  obtain rfl : r1 = bI (zW T n (tw 1) z) := g2
  refine lv_if_eq (tgt := 20) hx hb dX4_readStatement_9 (by decide) (fun h9 => ?_) (fun h9 => ?_)
  · have q1 : zW T n (tw 1) z = false := bI_f h9
    refine lv_aload_n hx hb dX4_readStatement_20 rfl (lv_at hl 0 rfl) ?_
    refine rw_getr (x := ((tkW (pI I nr nu fp) T n z), A, K)) S hK hP 2 (by decide) (cK_lo (by decide)) fk_X4_24 rfl dX4_readStatement_21 ?_
    refine va_ldcS (q := eS E 2) (tx := "text") hx hb S.2.2.2.1 (tr_2 hC.1.2.1) dX4_readStatement_24 ?_
    refine cn_si (ck_V (a := eP E 3) S lk_X4_79 (c_X5_isWord l E (pI I nr nu fp) A K T n z 2 hE hT hz (by decide)) ⟨rfl, rfl⟩ ⟨Nat.le_of_ble_eq_true rfl, Nat.le_of_ble_eq_true rfl⟩ bl_w (rc_w hK hP 3 (by decide) (cK_lo (by decide)) rfl) (bw_U hE hK hC hP hS) rfl hl.1 (Nat.le_of_ble_eq_true rfl) ⟨Nat.le_refl _, Nat.le_refl _⟩ dX4_readStatement_26 rfl) (fun r3 g4 => ?_)
    obtain rfl : r3 = bI (zW T n (tw 2) z) := g4
    refine lv_if_eq (tgt := 41) hx hb dX4_readStatement_29 (by decide) (fun h29 => ?_) (fun h29 => ?_)
    · have q2 : zW T n (tw 2) z = false := bI_f h29
      refine lv_aload_n hx hb dX4_readStatement_41 rfl (lv_at hl 0 rfl) ?_
      refine rw_getr (x := ((tkW (pI I nr nu fp) T n z), A, K)) S hK hP 2 (by decide) (cK_lo (by decide)) fk_X4_24 rfl dX4_readStatement_42 ?_
      refine va_ldcS (q := eS E 3) (tx := "distinct") hx hb S.2.2.2.1 (tr_3 hC.1.2.1) dX4_readStatement_45 ?_
      refine cn_si (ck_V (a := eP E 3) S lk_X4_79 (c_X5_isWord l E (pI I nr nu fp) A K T n z 3 hE hT hz (by decide)) ⟨rfl, rfl⟩ ⟨Nat.le_of_ble_eq_true rfl, Nat.le_of_ble_eq_true rfl⟩ bl_w (rc_w hK hP 3 (by decide) (cK_lo (by decide)) rfl) (bw_U hE hK hC hP hS) rfl hl.1 (Nat.le_of_ble_eq_true rfl) ⟨Nat.le_refl _, Nat.le_refl _⟩ dX4_readStatement_47 rfl) (fun r5 g6 => ?_)
      obtain rfl : r5 = bI (zW T n (tw 3) z) := g6
      refine lv_if_eq (tgt := 62) hx hb dX4_readStatement_50 (by decide) (fun h50 => ?_) (fun h50 => ?_)
      · have q3 : zW T n (tw 3) z = false := bI_f h50
        refine lv_aload_n hx hb dX4_readStatement_62 rfl (lv_at hl 0 rfl) ?_
        refine rw_getr (x := ((tkW (pI I nr nu fp) T n z), A, K)) S hK hP 2 (by decide) (cK_lo (by decide)) fk_X4_24 rfl dX4_readStatement_63 ?_
        refine va_ldcS (q := eS E 4) (tx := "floor") hx hb S.2.2.2.1 (tr_4 hC.1.2.1) dX4_readStatement_66 ?_
        refine cn_si (ck_V (a := eP E 3) S lk_X4_79 (c_X5_isWord l E (pI I nr nu fp) A K T n z 4 hE hT hz (by decide)) ⟨rfl, rfl⟩ ⟨Nat.le_of_ble_eq_true rfl, Nat.le_of_ble_eq_true rfl⟩ bl_w (rc_w hK hP 3 (by decide) (cK_lo (by decide)) rfl) (bw_U hE hK hC hP hS) rfl hl.1 (Nat.le_of_ble_eq_true rfl) ⟨Nat.le_refl _, Nat.le_refl _⟩ dX4_readStatement_68 rfl) (fun r7 g8 => ?_)
        obtain rfl : r7 = bI (zW T n (tw 4) z) := g8
        refine lv_if_eq (tgt := 94) hx hb dX4_readStatement_71 (by decide) (fun h71 => ?_) (fun h71 => ?_)
        · have q4 : zW T n (tw 4) z = false := bI_f h71
          refine lv_aload_n hx hb dX4_readStatement_94 rfl (lv_at hl 0 rfl) ?_
          refine rw_getr (x := ((tkW (pI I nr nu fp) T n z), A, K)) S hK hP 2 (by decide) (cK_lo (by decide)) fk_X4_24 rfl dX4_readStatement_95 ?_
          refine lv_bipush (v := (-2)) hx hb dX4_readStatement_98 (by decide) ?_
          refine cn_wv (ck_V (a := eP E 3) S lk_X4_101 (c_X5_fail l E (pI I nr nu fp) A K T n z (-2) hE hT hz (by decide)) ⟨rfl, rfl⟩ ⟨Nat.le_of_ble_eq_true rfl, Nat.le_of_ble_eq_true rfl⟩ bl_w (rc_w hK hP 3 (by decide) (cK_lo (by decide)) rfl) (bw_U hE hK hC hP hS) rfl hl.1 (Nat.le_of_ble_eq_true rfl) ⟨Nat.le_refl _, Nat.le_refl _⟩ dX4_readStatement_100 rfl) hS (fun u10 H locs g11 hP hS => ?_)
          obtain rfl : u10 = (tkW (pI I nr nu fp) T n (zF (-2) z), A, K) := g11
          have hP : Wp cN E cK ((tkW (pI I nr nu fp) T n ((zF (-2) z))), A, K) H := hP
          exact re_wv (x := ((tkW (pI I nr nu fp) T n ((zF (-2) z))), A, K)) hx hb hr hlk hP hS (by rw [sStm_5 (P := (nr, nu, fp, A, z)) q1 q2 q3 (fun g => ne_t q4 g.1)]; exact pW_mk.symm) dX4_readStatement_103
        · have q4 : zW T n (tw 4) z = true := bI_t h71
          refine lv_aload_n hx hb dX4_readStatement_74 rfl (lv_at hl 0 rfl) ?_
          refine rw_getr (x := ((tkW (pI I nr nu fp) T n z), A, K)) S hK hP 2 (by decide) (cK_lo (by decide)) fk_X4_33 rfl dX4_readStatement_75 ?_
          refine cn_si (ck_V (a := eP E 4) S lk_X4_95 (c_X2_isThere l E (pI I nr nu fp) A K T n z hE hT hz) ⟨rfl, rfl⟩ ⟨Nat.le_of_ble_eq_true rfl, Nat.le_of_ble_eq_true rfl⟩ bl_w (rc_w hK hP 4 (by decide) (cK_lo (by decide)) rfl) (bw_U hE hK hC hP hS) rfl hl.1 (Nat.le_of_ble_eq_true rfl) ⟨Nat.le_refl _, Nat.le_refl _⟩ dX4_readStatement_78 rfl) (fun r12 g13 => ?_)
          obtain rfl : r12 = bI (decide (¬ (pI I nr nu fp) 4 1 = -1)) := g13
          refine lv_if_ne (tgt := 94) hx hb dX4_readStatement_81 (by decide) (fun h81 => ?_) (fun h81 => ?_)
          · have qf : ¬ fp = none := fun g => of_decide_eq_true (bI_t h81) (by rw [g]; rfl)
            refine lv_aload_n hx hb dX4_readStatement_94 rfl (lv_at hl 0 rfl) ?_
            refine rw_getr (x := ((tkW (pI I nr nu fp) T n z), A, K)) S hK hP 2 (by decide) (cK_lo (by decide)) fk_X4_24 rfl dX4_readStatement_95 ?_
            refine lv_bipush (v := (-2)) hx hb dX4_readStatement_98 (by decide) ?_
            refine cn_wv (ck_V (a := eP E 3) S lk_X4_101 (c_X5_fail l E (pI I nr nu fp) A K T n z (-2) hE hT hz (by decide)) ⟨rfl, rfl⟩ ⟨Nat.le_of_ble_eq_true rfl, Nat.le_of_ble_eq_true rfl⟩ bl_w (rc_w hK hP 3 (by decide) (cK_lo (by decide)) rfl) (bw_U hE hK hC hP hS) rfl hl.1 (Nat.le_of_ble_eq_true rfl) ⟨Nat.le_refl _, Nat.le_refl _⟩ dX4_readStatement_100 rfl) hS (fun u15 H locs g16 hP hS => ?_)
            obtain rfl : u15 = (tkW (pI I nr nu fp) T n (zF (-2) z), A, K) := g16
            have hP : Wp cN E cK ((tkW (pI I nr nu fp) T n ((zF (-2) z))), A, K) H := hP
            exact re_wv (x := ((tkW (pI I nr nu fp) T n ((zF (-2) z))), A, K)) hx hb hr hlk hP hS (by rw [sStm_5 (P := (nr, nu, fp, A, z)) q1 q2 q3 (fun g => qf g.2)]; exact pW_mk.symm) dX4_readStatement_103
          · have qf : fp = none := fn_of hz2 hfq (bI_f h81)
            refine lv_aload_n hx hb dX4_readStatement_84 rfl (lv_at hl 0 rfl) ?_
            refine rw_getr (x := ((tkW (pI I nr nu fp) T n z), A, K)) S hK hP 2 (by decide) (cK_lo (by decide)) fk_X4_33 rfl dX4_readStatement_85 ?_
            refine cn_wv (ck_V (a := eP E 4) S lk_X4_98 (c_X2_readSum l E I A K T n z nr nu fp hE hp) ⟨rfl, rfl⟩ ⟨Nat.le_of_ble_eq_true rfl, Nat.le_of_ble_eq_true rfl⟩ bl_w (rc_w hK hP 4 (by decide) (cK_lo (by decide)) rfl) (bw_U hE hK hC hP hS) rfl hl.1 (Nat.le_of_ble_eq_true rfl) ⟨Nat.le_refl _, Nat.le_refl _⟩ dX4_readStatement_88 rfl) hS (fun u18 H locs g19 hP hS => ?_)
            obtain rfl : u18 = pW I K T n (sFlo T n (nr, nu, fp, A, z)) := g19
            have hP : Wp cN E cK (pW I K T n (sFlo T n (nr, nu, fp, A, z))) H := hP
            have hP : Wp cN E cK ((tkW (pI I ((sFlo T n (nr, nu, fp, A, z)).1) ((sFlo T n (nr, nu, fp, A, z)).2.1) ((sFlo T n (nr, nu, fp, A, z)).2.2.1)) T n ((sFlo T n (nr, nu, fp, A, z)).2.2.2.2)), (sFlo T n (nr, nu, fp, A, z)).2.2.2.1, K) H := hP
            refine lv_goto (tgt := 103) hx hb dX4_readStatement_91 (by decide) ?_
            exact re_wv (x := ((tkW (pI I ((sFlo T n (nr, nu, fp, A, z)).1) ((sFlo T n (nr, nu, fp, A, z)).2.1) ((sFlo T n (nr, nu, fp, A, z)).2.2.1)) T n ((sFlo T n (nr, nu, fp, A, z)).2.2.2.2)), (sFlo T n (nr, nu, fp, A, z)).2.2.2.1, K)) hx hb hr hlk hP hS (by rw [sStm_4 (P := (nr, nu, fp, A, z)) q1 q2 q3 q4 qf]; rfl) dX4_readStatement_103
      · have q3 : zW T n (tw 3) z = true := bI_t h50
        refine lv_aload_n hx hb dX4_readStatement_53 rfl (lv_at hl 0 rfl) ?_
        refine lv_aload_n hx hb dX4_readStatement_54 rfl (lv_at hl 1 rfl) ?_
        refine lv_iconst (v := 0) hx hb dX4_readStatement_55 (by decide) ?_
        refine cn_wv (ck_V (a := eP E 2) S lk_X4_88 (c_X4_readRule_0 l E I A K T n z nr nu fp hE hp) ⟨rfl, rfl⟩ ⟨Nat.le_of_ble_eq_true rfl, Nat.le_of_ble_eq_true rfl⟩ bl_w (rc_w hK hP 2 (by decide) (cK_lo (by decide)) rfl) (bw_U hE hK hC hP hS) rfl hl.1 (Nat.le_of_ble_eq_true rfl) ⟨Nat.le_refl _, Nat.le_refl _⟩ dX4_readStatement_56 rfl) hS (fun u21 H locs g22 hP hS => ?_)
        obtain rfl : u21 = pW I K T n (sRule T n false (nr, nu, fp, A, z)) := g22
        have hP : Wp cN E cK (pW I K T n (sRule T n false (nr, nu, fp, A, z))) H := hP
        have hP : Wp cN E cK ((tkW (pI I ((sRule T n false (nr, nu, fp, A, z)).1) ((sRule T n false (nr, nu, fp, A, z)).2.1) ((sRule T n false (nr, nu, fp, A, z)).2.2.1)) T n ((sRule T n false (nr, nu, fp, A, z)).2.2.2.2)), (sRule T n false (nr, nu, fp, A, z)).2.2.2.1, K) H := hP
        refine lv_goto (tgt := 103) hx hb dX4_readStatement_59 (by decide) ?_
        exact re_wv (x := ((tkW (pI I ((sRule T n false (nr, nu, fp, A, z)).1) ((sRule T n false (nr, nu, fp, A, z)).2.1) ((sRule T n false (nr, nu, fp, A, z)).2.2.1)) T n ((sRule T n false (nr, nu, fp, A, z)).2.2.2.2)), (sRule T n false (nr, nu, fp, A, z)).2.2.2.1, K)) hx hb hr hlk hP hS (by rw [sStm_3 (P := (nr, nu, fp, A, z)) q1 q2 q3]; rfl) dX4_readStatement_103
    · have q2 : zW T n (tw 2) z = true := bI_t h29
      refine lv_aload_n hx hb dX4_readStatement_32 rfl (lv_at hl 0 rfl) ?_
      refine lv_aload_n hx hb dX4_readStatement_33 rfl (lv_at hl 1 rfl) ?_
      refine lv_iconst (v := 1) hx hb dX4_readStatement_34 (by decide) ?_
      refine cn_wv (ck_V (a := eP E 2) S lk_X4_88 (c_X4_readRule_1 l E I A K T n z nr nu fp hE hp) ⟨rfl, rfl⟩ ⟨Nat.le_of_ble_eq_true rfl, Nat.le_of_ble_eq_true rfl⟩ bl_w (rc_w hK hP 2 (by decide) (cK_lo (by decide)) rfl) (bw_U hE hK hC hP hS) rfl hl.1 (Nat.le_of_ble_eq_true rfl) ⟨Nat.le_refl _, Nat.le_refl _⟩ dX4_readStatement_35 rfl) hS (fun u24 H locs g25 hP hS => ?_)
      obtain rfl : u24 = pW I K T n (sRule T n true (nr, nu, fp, A, z)) := g25
      have hP : Wp cN E cK (pW I K T n (sRule T n true (nr, nu, fp, A, z))) H := hP
      have hP : Wp cN E cK ((tkW (pI I ((sRule T n true (nr, nu, fp, A, z)).1) ((sRule T n true (nr, nu, fp, A, z)).2.1) ((sRule T n true (nr, nu, fp, A, z)).2.2.1)) T n ((sRule T n true (nr, nu, fp, A, z)).2.2.2.2)), (sRule T n true (nr, nu, fp, A, z)).2.2.2.1, K) H := hP
      refine lv_goto (tgt := 103) hx hb dX4_readStatement_38 (by decide) ?_
      exact re_wv (x := ((tkW (pI I ((sRule T n true (nr, nu, fp, A, z)).1) ((sRule T n true (nr, nu, fp, A, z)).2.1) ((sRule T n true (nr, nu, fp, A, z)).2.2.1)) T n ((sRule T n true (nr, nu, fp, A, z)).2.2.2.2)), (sRule T n true (nr, nu, fp, A, z)).2.2.2.1, K)) hx hb hr hlk hP hS (by rw [sStm_2 (P := (nr, nu, fp, A, z)) q1 q2]; rfl) dX4_readStatement_103
  · have q1 : zW T n (tw 1) z = true := bI_t h9
    refine lv_aload_n hx hb dX4_readStatement_12 rfl (lv_at hl 0 rfl) ?_
    refine lv_aload_n hx hb dX4_readStatement_13 rfl (lv_at hl 1 rfl) ?_
    refine cn_wv (ck_V (a := eP E 2) S lk_X4_83 (c_X4_readRole l E I A K T n z nr nu fp hE hp) ⟨rfl, rfl⟩ ⟨Nat.le_of_ble_eq_true rfl, Nat.le_of_ble_eq_true rfl⟩ bl_w (rc_w hK hP 2 (by decide) (cK_lo (by decide)) rfl) (bw_U hE hK hC hP hS) rfl hl.1 (Nat.le_of_ble_eq_true rfl) ⟨Nat.le_refl _, Nat.le_refl _⟩ dX4_readStatement_14 rfl) hS (fun u27 H locs g28 hP hS => ?_)
    obtain rfl : u27 = pW I K T n (sRole T n (nr, nu, fp, A, z)) := g28
    have hP : Wp cN E cK (pW I K T n (sRole T n (nr, nu, fp, A, z))) H := hP
    have hP : Wp cN E cK ((tkW (pI I ((sRole T n (nr, nu, fp, A, z)).1) ((sRole T n (nr, nu, fp, A, z)).2.1) ((sRole T n (nr, nu, fp, A, z)).2.2.1)) T n ((sRole T n (nr, nu, fp, A, z)).2.2.2.2)), (sRole T n (nr, nu, fp, A, z)).2.2.2.1, K) H := hP
    refine lv_goto (tgt := 103) hx hb dX4_readStatement_17 (by decide) ?_
    exact re_wv (x := ((tkW (pI I ((sRole T n (nr, nu, fp, A, z)).1) ((sRole T n (nr, nu, fp, A, z)).2.1) ((sRole T n (nr, nu, fp, A, z)).2.2.1)) T n ((sRole T n (nr, nu, fp, A, z)).2.2.2.2)), (sRole T n (nr, nu, fp, A, z)).2.2.2.1, K)) hx hb hr hlk hP hS (by rw [sStm_1 (P := (nr, nu, fp, A, z)) q1]; rfl) dX4_readStatement_103

