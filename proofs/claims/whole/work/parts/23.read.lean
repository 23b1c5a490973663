theorem sRd_e {T : Nat → Int32} {n : Nat} {A : Nat → Nat → Int32} : sLp T n 700 (0, 0, none, A, zNS T n 59 (zNW T n (tw 0) (0, 0))) = sRd T n A := rfl
/-- what a reading leaves: the error's place in the reader, the draft's numbers and arrays; nothing else that counts -/
def rdP (I A : Nat → Nat → Int32) (k : Nat) (J B : Nat → Nat → Int32) : Prop := (∀ a, a ≠ 2 → a ≠ 3 → a ≠ 4 → a ≠ 19 → J a = I a) ∧ J 2 3 = (if (sRd (A 1) k A).2.2.2.2.1 = 0 then -1 else nI (tkB (A 1) k (sRd (A 1) k A).2.2.2.2.2)) ∧ (J 19 0 = nI (sRd (A 1) k A).1 ∧ J 19 3 = nI (sRd (A 1) k A).2.1) ∧ B = (if (sRd (A 1) k A).2.2.2.2.1 = 0 then zSt (A 1) k (sRd (A 1) k A).2.2.1 (sRd (A 1) k A).2.2.2.1 (sRd (A 1) k A).2.1 else (sRd (A 1) k A).2.2.2.1)
theorem rd_o1 {I : Nat → Nat → Int32} {x y : Nat} {f : Option Nat} {v : Int32} {T : Nat → Int32} {n : Nat} {z : Tz} : ∀ a, a ≠ 2 → a ≠ 3 → a ≠ 4 → a ≠ 19 → tkW (up2 (pI I x y f) 2 3 v) T n z a = I a := by
  intro a h2 h3 h4 h19
  funext b
  rw [tkW_ne h3, up2_q h2, pI_at]
  simp [h4, h19]
theorem rd_o2 {I : Nat → Nat → Int32} {x y : Nat} {f : Option Nat} {v c d : Int32} {T : Nat → Int32} {n : Nat} {z : Tz} : ∀ a, a ≠ 2 → a ≠ 3 → a ≠ 4 → a ≠ 19 → tkW (fS (up2 (pI I x y f) 2 3 v) c d) T n z a = I a := by
  intro a h2 h3 h4 h19
  funext b
  rw [tkW_ne h3, fS_ne h4, up2_q h2, pI_at]
  simp [h4, h19]
theorem rdP_e {I A : Nat → Nat → Int32} {k : Nat} (h : ¬ (sRd (A 1) k A).2.2.2.2.1 = 0) : rdP I A k (tkW (up2 (pI I (sRd (A 1) k A).1 (sRd (A 1) k A).2.1 (sRd (A 1) k A).2.2.1) 2 3 (nI (tkB (A 1) k (sRd (A 1) k A).2.2.2.2.2))) (A 1) k (sRd (A 1) k A).2.2.2.2) (sRd (A 1) k A).2.2.2.1 := by
  refine ⟨rd_o1, ?_, ⟨rfl, rfl⟩, (if_neg h).symm⟩
  rw [if_neg h]
  rfl
theorem rdP_o {I A : Nat → Nat → Int32} {k : Nat} {c d : Int32} {y : Tz} (h : (sRd (A 1) k A).2.2.2.2.1 = 0) : rdP I A k (tkW (fS (up2 (pI I (sRd (A 1) k A).1 (sRd (A 1) k A).2.1 (sRd (A 1) k A).2.2.1) 2 3 (-1)) c d) (A 1) k y) (zSt (A 1) k (sRd (A 1) k A).2.2.1 (sRd (A 1) k A).2.2.2.1 (sRd (A 1) k A).2.1) := by
  refine ⟨rd_o2, ?_, ⟨rfl, rfl⟩, (if_pos h).symm⟩
  rw [if_pos h]
  rfl
set_option maxHeartbeats 1000000 in
set_option maxRecDepth 100000 in
theorem c_X4_errorStart (l : Launch) (E : En) (I A : Nat → Nat → Int32) (K : Nat → Nat → Int64)   : Met l yX4_errorStart (wz yX4_errorStart cX4_errorStart 1 (some .int)) (rmk 0 0 0 0) (va_Pc [.ref (eP E 2)] (Bw cN E cK (I, A, K))) (qSi (fun zz => zz = I 2 3)) 0 0 fr0 := by
  refine en_ofW RX4 rfl (by decide +kernel) (Nat.le_of_ble_eq_true rfl) ?_
  intro p e s m below meth c ls S hr hlk hnm hl hB
  have hx := S.1
  have hb := S.2.1
  obtain ⟨hK, hC, hP⟩ := hB
  have hS : va_S (cA cN E) s.heap s.heap [] := va_S.rf
  have hl : lv_has ls 1 [(0, .ref (eP E 2))] := hl
  refine lv_aload_n hx hb dX4_errorStart_0 rfl (lv_at hl 0 rfl) ?_
  refine rw_geti (x := (I, A, K)) (v := I 2 3) S hK hP 2 (by decide) (cK_lo (by decide)) fk_X4_15 rfl rfl dX4_errorStart_1 ?_
  exact re_si (v := I 2 3) hx hb hr hlk rfl dX4_errorStart_4

set_option maxHeartbeats 1000000 in
set_option maxRecDepth 100000 in
theorem c_X4_read (l : Launch) (E : En) (I A : Nat → Nat → Int32) (K : Nat → Nat → Int64) (k : Nat) (hE : Ev cN E) (hk : k ≤ 700) : Met l yX4_read (wz yX4_read cX4_read 4 (some .int)) (rmk 23 0 0 521) (va_Pc [.ref (eP E 2), .int (nI k), .ref (eP E (dB 1 0))] (Bw cN E cK (I, A, K))) (qWi cN E cK (fun zz uu => zz = (sRd (A 1) k A).2.2.2.2.1 ∧ ∃ J B, rdP I A k J B ∧ uu = (J, B, K))) 0 0 (cA cN E) := by
  refine en_ofW RX4 rfl (by decide +kernel) (Nat.le_of_ble_eq_true rfl) ?_
  intro p e s m below meth c ls S hr hlk hnm hl hB
  have hx := S.1
  have hb := S.2.1
  obtain ⟨hK, hC, hP⟩ := hB
  have hS : va_S (cA cN E) s.heap s.heap [] := va_S.rf
  have hl : lv_has ls 4 [(0, .ref (eP E 2)), (1, .int (nI k)), (2, .ref (eP E (dB 1 0)))] := hl
  refine lv_aload_n hx hb dX4_read_0 rfl (lv_at hl 2 rfl) ?_
  refine cn_wv (ck_V (a := eP E (dB 1 0)) S lk_X4_37 (c_X1_clear l E I A K 1 hE (by decide)) ⟨rfl, rfl⟩ ⟨Nat.le_of_ble_eq_true rfl, Nat.le_of_ble_eq_true rfl⟩ bl_w (rc_w hK hP (dB 1 0) (dB_lt (by decide) (by decide)) (cK_D (by decide)) rfl) (bw_U hE hK hC hP hS) rfl hl.1 (Nat.le_of_ble_eq_true rfl) ⟨Nat.le_refl _, Nat.le_refl _⟩ dX4_read_1 rfl) hS (fun u2 H locs g3 hP hS => ?_)
  obtain rfl : u2 = (up2 (up2 I (dB 1 0) 0 0) (dB 1 0) 3 0, A, K) := g3
  have hP : Wp cN E cK ((up2 (up2 I (dB 1 0) 0 0) (dB 1 0) 3 0), A, K) H := hP
  refine lv_aload_n hx hb dX4_read_4 rfl (lv_at hl 0 rfl) ?_
  refine rw_getr (x := ((up2 (up2 I (dB 1 0) 0 0) (dB 1 0) 3 0), A, K)) S hK hP 2 (by decide) (cK_lo (by decide)) fk_X4_33 rfl dX4_read_5 ?_
  refine cn_wv (ck_V (a := eP E 4) S lk_X4_42 (c_X2_forget l E (up2 (up2 I (dB 1 0) 0 0) (dB 1 0) 3 0) A K hE) ⟨rfl, rfl⟩ ⟨Nat.le_of_ble_eq_true rfl, Nat.le_of_ble_eq_true rfl⟩ bl_w (rc_w hK hP 4 (by decide) (cK_lo (by decide)) rfl) (bw_U hE hK hC hP hS) rfl hl.1 (Nat.le_of_ble_eq_true rfl) ⟨Nat.le_refl _, Nat.le_refl _⟩ dX4_read_8 rfl) hS (fun u5 H locs g6 hP hS => ?_)
  obtain rfl : u5 = (up2 (up2 (up2 I (dB 1 0) 0 0) (dB 1 0) 3 0) 4 1 (-1), A, K) := g6
  have hP : Wp cN E cK ((up2 (up2 (up2 I (dB 1 0) 0 0) (dB 1 0) 3 0) 4 1 (-1)), A, K) H := hP
  have hP : Wp cN E cK ((pI I 0 0 none), A, K) H := hP
  refine lv_aload_n hx hb dX4_read_11 rfl (lv_at hl 0 rfl) ?_
  refine rw_getr (x := ((pI I 0 0 none), A, K)) S hK hP 2 (by decide) (cK_lo (by decide)) fk_X4_24 rfl dX4_read_12 ?_
  refine lv_iload_n hx hb dX4_read_15 rfl (lv_at hl 1 rfl) ?_
  refine cn_wv (ck_V (a := eP E 3) S lk_X4_45 (c_X5_open l E (pI I 0 0 none) A K k hE hk) ⟨rfl, rfl⟩ ⟨Nat.le_of_ble_eq_true rfl, Nat.le_of_ble_eq_true rfl⟩ bl_w (rc_w hK hP 3 (by decide) (cK_lo (by decide)) rfl) (bw_U hE hK hC hP hS) rfl hl.1 (Nat.le_of_ble_eq_true rfl) ⟨Nat.le_refl _, Nat.le_refl _⟩ dX4_read_16 rfl) hS (fun u8 H locs g9 hP hS => ?_)
  obtain rfl : u8 = (tkW (pI I 0 0 none) (A 1) k (0, 0), A, K) := g9
  have hP : Wp cN E cK ((tkW (pI I 0 0 none) (A 1) k (0, 0)), A, K) H := hP
  refine lv_aload_n hx hb dX4_read_19 rfl (lv_at hl 0 rfl) ?_
  refine rw_getr (x := ((tkW (pI I 0 0 none) (A 1) k (0, 0)), A, K)) S hK hP 2 (by decide) (cK_lo (by decide)) fk_X4_24 rfl dX4_read_20 ?_
  refine va_ldcS (q := eS E 0) (tx := "scheme") hx hb S.2.2.2.1 (tr_0 hC.1.2.1) dX4_read_23 ?_
  refine cn_wv (ck_V (a := eP E 3) S lk_X4_51 (c_X5_needWord l E (pI I 0 0 none) A K (A 1) k (0, 0) 0 hE rfl (⟨Nat.zero_le _, hk⟩ : zOk k (0, 0)) (by decide)) ⟨rfl, rfl⟩ ⟨Nat.le_of_ble_eq_true rfl, Nat.le_of_ble_eq_true rfl⟩ bl_w (rc_w hK hP 3 (by decide) (cK_lo (by decide)) rfl) (bw_U hE hK hC hP hS) rfl hl.1 (Nat.le_of_ble_eq_true rfl) ⟨Nat.le_refl _, Nat.le_refl _⟩ dX4_read_25 rfl) hS (fun u11 H locs g12 hP hS => ?_)
  obtain rfl : u11 = (tkW (pI I 0 0 none) (A 1) k (zNW (A 1) k (tw 0) (0, 0)), A, K) := g12
  have hP : Wp cN E cK ((tkW (pI I 0 0 none) (A 1) k ((zNW (A 1) k (tw 0) (0, 0)))), A, K) H := hP
  refine lv_aload_n hx hb dX4_read_28 rfl (lv_at hl 0 rfl) ?_
  refine rw_getr (x := ((tkW (pI I 0 0 none) (A 1) k ((zNW (A 1) k (tw 0) (0, 0)))), A, K)) S hK hP 2 (by decide) (cK_lo (by decide)) fk_X4_24 rfl dX4_read_29 ?_
  refine lv_bipush (v := 59) hx hb dX4_read_32 (by decide) ?_
  refine cn_wv (ck_V (a := eP E 3) S lk_X4_55 (c_X5_needSign l E (pI I 0 0 none) A K (A 1) k ((zNW (A 1) k (tw 0) (0, 0))) 59 hE rfl (zOk_NW (⟨Nat.zero_le _, hk⟩ : zOk k (0, 0)))) ⟨rfl, rfl⟩ ⟨Nat.le_of_ble_eq_true rfl, Nat.le_of_ble_eq_true rfl⟩ bl_w (rc_w hK hP 3 (by decide) (cK_lo (by decide)) rfl) (bw_U hE hK hC hP hS) rfl hl.1 (Nat.le_of_ble_eq_true rfl) ⟨Nat.le_refl _, Nat.le_refl _⟩ dX4_read_34 rfl) hS (fun u14 H locs g15 hP hS => ?_)
  obtain rfl : u14 = (tkW (pI I 0 0 none) (A 1) k (zNS (A 1) k 59 ((zNW (A 1) k (tw 0) (0, 0)))), A, K) := g15
  have hP : Wp cN E cK ((tkW (pI I 0 0 none) (A 1) k ((zNS (A 1) k 59 ((zNW (A 1) k (tw 0) (0, 0)))))), A, K) H := hP
  refine lv_iconst (v := 0) hx hb dX4_read_37 (by decide) ?_
  refine lv_istore_n (lv' := [(3, .int 0), (0, .ref (eP E 2)), (1, .int (nI k)), (2, .ref (eP E (dB 1 0)))]) hx hb dX4_read_38 rfl hl (by decide) rfl (fun ls hl => ?_)
  have HL : ∀ (cnt i : Nat) (P : Ps), i + cnt = 700 → pOk (A 1) k P → sLp (A 1) k cnt P = sRd (A 1) k A → ∀ (H : Heap) (locs : List Loc), Wp cN E cK ((tkW (pI I P.1 P.2.1 P.2.2.1) (A 1) k P.2.2.2.2), P.2.2.2.1, K) H → va_S (cA cN E) s.heap H locs → ∀ ls : Array Slot, lv_has ls 4 [(3, .int (nI i)), (0, .ref (eP E 2)), (1, .int (nI k)), (2, .ref (eP E (dB 1 0)))] → W p l e (rmk 23 0 0 521) s m ([.ref (eP E 2), .int (nI k), .ref (eP E (dB 1 0))] : List Value).toArray below meth c H locs 0 0 (MQ below (qWi cN E cK (fun zz uu => zz = (sRd (A 1) k A).2.2.2.2.1 ∧ ∃ J B, rdP I A k J B ∧ uu = (J, B, K))) ([.ref (eP E 2), .int (nI k), .ref (eP E (dB 1 0))] : List Value).toArray s 0 0 (cA cN E)) (F0 m 39 ls []) := by
    intro cnt
    induction cnt with
    | zero =>
      intro i P hi hp hv H locs hP hS ls hl
      have hiN : i = 700 := by omega
      rw [hiN] at hl
      try rw [hiN] at hP
      refine lv_iload_n hx hb dX4_read_39 rfl (lv_at hl 0 rfl) ?_
      refine lv_sipush (v := 700) hx hb dX4_read_40 (by decide) ?_
      refine lv_icmp_ge (tgt := 76) hx hb dX4_read_43 (by decide) (fun h43 => ?_) (fun h43 => absurd (Int32.le_refl _) h43)
      have hfin : P = sRd (A 1) k A := hv
      rw [hfin] at hP hp
      have hP : Wp cN E cK ((tkW (pI I ((sRd (A 1) k A).1) ((sRd (A 1) k A).2.1) ((sRd (A 1) k A).2.2.1)) (A 1) k ((sRd (A 1) k A).2.2.2.2)), (sRd (A 1) k A).2.2.2.1, K) H := hP
      refine lv_aload_n hx hb dX4_read_76 rfl (lv_at hl 1 rfl) ?_
      refine rw_getr (x := ((tkW (pI I ((sRd (A 1) k A).1) ((sRd (A 1) k A).2.1) ((sRd (A 1) k A).2.2.1)) (A 1) k ((sRd (A 1) k A).2.2.2.2)), (sRd (A 1) k A).2.2.2.1, K)) S hK hP 2 (by decide) (cK_lo (by decide)) fk_X4_24 rfl dX4_read_77 ?_
      refine cn_si (ck_V (a := eP E 3) S lk_X4_67 (c_X5_firstError l E (pI I ((sRd (A 1) k A).1) ((sRd (A 1) k A).2.1) ((sRd (A 1) k A).2.2.1)) ((sRd (A 1) k A).2.2.2.1) K (A 1) k ((sRd (A 1) k A).2.2.2.2) hE hp.2.1.2 hp.2.1.1) ⟨rfl, rfl⟩ ⟨Nat.le_of_ble_eq_true rfl, Nat.le_of_ble_eq_true rfl⟩ bl_w (rc_w hK hP 3 (by decide) (cK_lo (by decide)) rfl) (bw_U hE hK hC hP hS) rfl hl.1 (Nat.le_of_ble_eq_true rfl) ⟨Nat.le_refl _, Nat.le_refl _⟩ dX4_read_80 rfl) (fun r16 g17 => ?_)
      obtain rfl : r16 = ((sRd (A 1) k A).2.2.2.2).1 := g17
      refine lv_istore_n (lv' := [(3, .int (((sRd (A 1) k A).2.2.2.2).1)), (0, .ref (eP E 2)), (1, .int (nI k)), (2, .ref (eP E (dB 1 0)))]) hx hb dX4_read_83 rfl hl (by decide) rfl (fun ls hl => ?_)
      refine lv_aload_n hx hb dX4_read_84 rfl (lv_at hl 1 rfl) ?_
      refine lv_iload_n hx hb dX4_read_85 rfl (lv_at hl 0 rfl) ?_
      refine lv_if_ne (tgt := 93) hx hb dX4_read_86 (by decide) (fun h86 => ?_) (fun h86 => ?_)
      · refine lv_aload_n hx hb dX4_read_93 rfl (lv_at hl 1 rfl) ?_
        refine rw_getr (x := ((tkW (pI I ((sRd (A 1) k A).1) ((sRd (A 1) k A).2.1) ((sRd (A 1) k A).2.2.1)) (A 1) k ((sRd (A 1) k A).2.2.2.2)), (sRd (A 1) k A).2.2.2.1, K)) S hK hP 2 (by decide) (cK_lo (by decide)) fk_X4_24 rfl dX4_read_94 ?_
        refine cn_si (ck_V (a := eP E 3) S lk_X4_71 (c_X5_currentStart l E (pI I ((sRd (A 1) k A).1) ((sRd (A 1) k A).2.1) ((sRd (A 1) k A).2.2.1)) ((sRd (A 1) k A).2.2.2.1) K (A 1) k ((sRd (A 1) k A).2.2.2.2) hE hp.2.1.2 hp.2.1.1) ⟨rfl, rfl⟩ ⟨Nat.le_of_ble_eq_true rfl, Nat.le_of_ble_eq_true rfl⟩ bl_w (rc_w hK hP 3 (by decide) (cK_lo (by decide)) rfl) (bw_U hE hK hC hP hS) rfl hl.1 (Nat.le_of_ble_eq_true rfl) ⟨Nat.le_refl _, Nat.le_refl _⟩ dX4_read_97 rfl) (fun r18 g19 => ?_)
        obtain rfl : r18 = nI (tkB (A 1) k ((sRd (A 1) k A).2.2.2.2).2) := g19
        refine rw_puti (x := ((tkW (pI I ((sRd (A 1) k A).1) ((sRd (A 1) k A).2.1) ((sRd (A 1) k A).2.2.1)) (A 1) k ((sRd (A 1) k A).2.2.2.2)), (sRd (A 1) k A).2.2.2.1, K)) (v := (nI (tkB (A 1) k ((sRd (A 1) k A).2.2.2.2).2))) S hE hK hP hS 2 (by decide) (cK_lo (by decide)) fk_X4_15 rfl tyX4_ok nmX4 ⟨rfl, by decide +kernel⟩ dX4_read_100 (fun H locs hP hS => ?_)
        have hP : Wp cN E cK (up2 (tkW (pI I ((sRd (A 1) k A).1) ((sRd (A 1) k A).2.1) ((sRd (A 1) k A).2.2.1)) (A 1) k ((sRd (A 1) k A).2.2.2.2)) 2 3 (nI (tkB (A 1) k ((sRd (A 1) k A).2.2.2.2).2)), (sRd (A 1) k A).2.2.2.1, K) H := hP
        rw [tkW_up (by decide)] at hP
        have hP : Wp cN E cK ((tkW (up2 (pI I ((sRd (A 1) k A).1) ((sRd (A 1) k A).2.1) ((sRd (A 1) k A).2.2.1)) 2 3 (nI (tkB (A 1) k ((sRd (A 1) k A).2.2.2.2).2))) (A 1) k ((sRd (A 1) k A).2.2.2.2)), (sRd (A 1) k A).2.2.2.1, K) H := hP
        refine lv_iload_n hx hb dX4_read_103 rfl (lv_at hl 0 rfl) ?_
        refine lv_if_ne (tgt := 112) hx hb dX4_read_104 (by decide) (fun h104 => ?_) (fun h104 => absurd h104 (show ¬ (sRd (A 1) k A).2.2.2.2.1 = 0 from h86))
        refine lv_iload_n hx hb dX4_read_112 rfl (lv_at hl 0 rfl) ?_
        exact re_wi (x := ((tkW (up2 (pI I ((sRd (A 1) k A).1) ((sRd (A 1) k A).2.1) ((sRd (A 1) k A).2.2.1)) 2 3 (nI (tkB (A 1) k ((sRd (A 1) k A).2.2.2.2).2))) (A 1) k ((sRd (A 1) k A).2.2.2.2)), (sRd (A 1) k A).2.2.2.1, K)) (v := (((sRd (A 1) k A).2.2.2.2).1)) hx hb hr hlk hP hS ⟨rfl, _, _, rdP_e h86, rfl⟩ dX4_read_113
      · refine lv_iconst (v := (-1)) hx hb dX4_read_89 (by decide) ?_
        refine lv_goto (tgt := 100) hx hb dX4_read_90 (by decide) ?_
        refine rw_puti (x := ((tkW (pI I ((sRd (A 1) k A).1) ((sRd (A 1) k A).2.1) ((sRd (A 1) k A).2.2.1)) (A 1) k ((sRd (A 1) k A).2.2.2.2)), (sRd (A 1) k A).2.2.2.1, K)) (v := (-1)) S hE hK hP hS 2 (by decide) (cK_lo (by decide)) fk_X4_15 rfl tyX4_ok nmX4 ⟨rfl, by decide +kernel⟩ dX4_read_100 (fun H locs hP hS => ?_)
        have hP : Wp cN E cK (up2 (tkW (pI I ((sRd (A 1) k A).1) ((sRd (A 1) k A).2.1) ((sRd (A 1) k A).2.2.1)) (A 1) k ((sRd (A 1) k A).2.2.2.2)) 2 3 (-1), (sRd (A 1) k A).2.2.2.1, K) H := hP
        rw [tkW_up (by decide)] at hP
        have hP : Wp cN E cK ((tkW (up2 (pI I ((sRd (A 1) k A).1) ((sRd (A 1) k A).2.1) ((sRd (A 1) k A).2.2.1)) 2 3 (-1)) (A 1) k ((sRd (A 1) k A).2.2.2.2)), (sRd (A 1) k A).2.2.2.1, K) H := hP
        refine lv_iload_n hx hb dX4_read_103 rfl (lv_at hl 0 rfl) ?_
        refine lv_if_ne (tgt := 112) hx hb dX4_read_104 (by decide) (fun h104 => absurd h104 (fun g => g h86)) (fun h104 => ?_)
        refine lv_aload_n hx hb dX4_read_107 rfl (lv_at hl 1 rfl) ?_
        refine lv_aload_n hx hb dX4_read_108 rfl (lv_at hl 3 rfl) ?_
        refine cn_wv (ck_V (a := eP E 2) S lk_X4_74 (c_X4_setTextNeeds l E (up2 (pI I ((sRd (A 1) k A).1) ((sRd (A 1) k A).2.1) ((sRd (A 1) k A).2.2.1)) 2 3 (-1)) ((sRd (A 1) k A).2.2.2.1) K (A 1) k ((sRd (A 1) k A).2.2.2.2) ((sRd (A 1) k A).2.1) ((sRd (A 1) k A).2.2.1) hE hp.2.1.2 hp.2.1.1 h86 rfl hp.2.2.1 (hp.2.2.2 h86) rfl hp.1.2) ⟨rfl, rfl⟩ ⟨Nat.le_of_ble_eq_true rfl, Nat.le_of_ble_eq_true rfl⟩ bl_w (rc_w hK hP 2 (by decide) (cK_lo (by decide)) rfl) (bw_U hE hK hC hP hS) rfl hl.1 (Nat.le_of_ble_eq_true rfl) ⟨Nat.le_refl _, Nat.le_refl _⟩ dX4_read_109 rfl) hS (fun u21 H locs g22 hP hS => ?_)
        obtain ⟨a23, b23, y23, ⟨hy23, h0y23⟩, rfl⟩ : ∃ oa ob oy, (zOk k oy ∧ oy.1 = 0) ∧ u21 = (tkW (fS (up2 (pI I ((sRd (A 1) k A).1) ((sRd (A 1) k A).2.1) ((sRd (A 1) k A).2.2.1)) 2 3 (-1)) oa ob) (A 1) k oy, (zSt (A 1) k ((sRd (A 1) k A).2.2.1) ((sRd (A 1) k A).2.2.2.1) ((sRd (A 1) k A).2.1)), K) := g22
        have hP : Wp cN E cK ((tkW (fS (up2 (pI I ((sRd (A 1) k A).1) ((sRd (A 1) k A).2.1) ((sRd (A 1) k A).2.2.1)) 2 3 (-1)) a23 b23) (A 1) k y23), (zSt (A 1) k ((sRd (A 1) k A).2.2.1) ((sRd (A 1) k A).2.2.2.1) ((sRd (A 1) k A).2.1)), K) H := hP
        refine lv_iload_n hx hb dX4_read_112 rfl (lv_at hl 0 rfl) ?_
        exact re_wi (x := ((tkW (fS (up2 (pI I ((sRd (A 1) k A).1) ((sRd (A 1) k A).2.1) ((sRd (A 1) k A).2.2.1)) 2 3 (-1)) a23 b23) (A 1) k y23), (zSt (A 1) k ((sRd (A 1) k A).2.2.1) ((sRd (A 1) k A).2.2.2.1) ((sRd (A 1) k A).2.1)), K)) (v := (((sRd (A 1) k A).2.2.2.2).1)) hx hb hr hlk hP hS ⟨rfl, _, _, rdP_o h86, rfl⟩ dX4_read_113
    | succ cnt ih =>
      intro i P hi hp hv H locs hP hS ls hl
      have hlt : i < 700 := by omega
      refine lv_iload_n hx hb dX4_read_39 rfl (lv_at hl 0 rfl) ?_
      refine lv_sipush (v := 700) hx hb dX4_read_40 (by decide) ?_
      refine lv_icmp_ge (tgt := 76) hx hb dX4_read_43 (by decide) (fun h43 => absurd h43 (nI_ge (b := 700) hlt (by decide))) (fun h43 => ?_)
      refine lv_aload_n hx hb dX4_read_46 rfl (lv_at hl 1 rfl) ?_
      refine rw_getr (x := ((tkW (pI I P.1 P.2.1 P.2.2.1) (A 1) k P.2.2.2.2), P.2.2.2.1, K)) S hK hP 2 (by decide) (cK_lo (by decide)) fk_X4_24 rfl dX4_read_47 ?_
      refine cn_si (ck_V (a := eP E 3) S lk_X4_59 (c_X5_hasMore l E (pI I P.1 P.2.1 P.2.2.1) P.2.2.2.1 K (A 1) k P.2.2.2.2 hE hp.2.1.2 hp.2.1.1) ⟨rfl, rfl⟩ ⟨Nat.le_of_ble_eq_true rfl, Nat.le_of_ble_eq_true rfl⟩ bl_w (rc_w hK hP 3 (by decide) (cK_lo (by decide)) rfl) (bw_U hE hK hC hP hS) rfl hl.1 (Nat.le_of_ble_eq_true rfl) ⟨Nat.le_refl _, Nat.le_refl _⟩ dX4_read_50 rfl) (fun r24 g25 => ?_)
      obtain rfl : r24 = bI (zM (A 1) k P.2.2.2.2) := g25
      refine lv_if_eq (tgt := 76) hx hb dX4_read_53 (by decide) (fun h53 => ?_) (fun h53 => ?_)
      · have hm : zM (A 1) k P.2.2.2.2 = false := bI_f h53
        have hfin : P = sRd (A 1) k A := (sLp_e hm).symm.trans hv
        rw [hfin] at hP hp
        have hP : Wp cN E cK ((tkW (pI I ((sRd (A 1) k A).1) ((sRd (A 1) k A).2.1) ((sRd (A 1) k A).2.2.1)) (A 1) k ((sRd (A 1) k A).2.2.2.2)), (sRd (A 1) k A).2.2.2.1, K) H := hP
        refine lv_aload_n hx hb dX4_read_76 rfl (lv_at hl 1 rfl) ?_
        refine rw_getr (x := ((tkW (pI I ((sRd (A 1) k A).1) ((sRd (A 1) k A).2.1) ((sRd (A 1) k A).2.2.1)) (A 1) k ((sRd (A 1) k A).2.2.2.2)), (sRd (A 1) k A).2.2.2.1, K)) S hK hP 2 (by decide) (cK_lo (by decide)) fk_X4_24 rfl dX4_read_77 ?_
        refine cn_si (ck_V (a := eP E 3) S lk_X4_67 (c_X5_firstError l E (pI I ((sRd (A 1) k A).1) ((sRd (A 1) k A).2.1) ((sRd (A 1) k A).2.2.1)) ((sRd (A 1) k A).2.2.2.1) K (A 1) k ((sRd (A 1) k A).2.2.2.2) hE hp.2.1.2 hp.2.1.1) ⟨rfl, rfl⟩ ⟨Nat.le_of_ble_eq_true rfl, Nat.le_of_ble_eq_true rfl⟩ bl_w (rc_w hK hP 3 (by decide) (cK_lo (by decide)) rfl) (bw_U hE hK hC hP hS) rfl hl.1 (Nat.le_of_ble_eq_true rfl) ⟨Nat.le_refl _, Nat.le_refl _⟩ dX4_read_80 rfl) (fun r26 g27 => ?_)
        obtain rfl : r26 = ((sRd (A 1) k A).2.2.2.2).1 := g27
        refine lv_istore_n (lv' := [(3, .int (((sRd (A 1) k A).2.2.2.2).1)), (0, .ref (eP E 2)), (1, .int (nI k)), (2, .ref (eP E (dB 1 0)))]) hx hb dX4_read_83 rfl hl (by decide) rfl (fun ls hl => ?_)
        refine lv_aload_n hx hb dX4_read_84 rfl (lv_at hl 1 rfl) ?_
        refine lv_iload_n hx hb dX4_read_85 rfl (lv_at hl 0 rfl) ?_
        refine lv_if_ne (tgt := 93) hx hb dX4_read_86 (by decide) (fun h86 => ?_) (fun h86 => ?_)
        · refine lv_aload_n hx hb dX4_read_93 rfl (lv_at hl 1 rfl) ?_
          refine rw_getr (x := ((tkW (pI I ((sRd (A 1) k A).1) ((sRd (A 1) k A).2.1) ((sRd (A 1) k A).2.2.1)) (A 1) k ((sRd (A 1) k A).2.2.2.2)), (sRd (A 1) k A).2.2.2.1, K)) S hK hP 2 (by decide) (cK_lo (by decide)) fk_X4_24 rfl dX4_read_94 ?_
          refine cn_si (ck_V (a := eP E 3) S lk_X4_71 (c_X5_currentStart l E (pI I ((sRd (A 1) k A).1) ((sRd (A 1) k A).2.1) ((sRd (A 1) k A).2.2.1)) ((sRd (A 1) k A).2.2.2.1) K (A 1) k ((sRd (A 1) k A).2.2.2.2) hE hp.2.1.2 hp.2.1.1) ⟨rfl, rfl⟩ ⟨Nat.le_of_ble_eq_true rfl, Nat.le_of_ble_eq_true rfl⟩ bl_w (rc_w hK hP 3 (by decide) (cK_lo (by decide)) rfl) (bw_U hE hK hC hP hS) rfl hl.1 (Nat.le_of_ble_eq_true rfl) ⟨Nat.le_refl _, Nat.le_refl _⟩ dX4_read_97 rfl) (fun r28 g29 => ?_)
          obtain rfl : r28 = nI (tkB (A 1) k ((sRd (A 1) k A).2.2.2.2).2) := g29
          refine rw_puti (x := ((tkW (pI I ((sRd (A 1) k A).1) ((sRd (A 1) k A).2.1) ((sRd (A 1) k A).2.2.1)) (A 1) k ((sRd (A 1) k A).2.2.2.2)), (sRd (A 1) k A).2.2.2.1, K)) (v := (nI (tkB (A 1) k ((sRd (A 1) k A).2.2.2.2).2))) S hE hK hP hS 2 (by decide) (cK_lo (by decide)) fk_X4_15 rfl tyX4_ok nmX4 ⟨rfl, by decide +kernel⟩ dX4_read_100 (fun H locs hP hS => ?_)
          have hP : Wp cN E cK (up2 (tkW (pI I ((sRd (A 1) k A).1) ((sRd (A 1) k A).2.1) ((sRd (A 1) k A).2.2.1)) (A 1) k ((sRd (A 1) k A).2.2.2.2)) 2 3 (nI (tkB (A 1) k ((sRd (A 1) k A).2.2.2.2).2)), (sRd (A 1) k A).2.2.2.1, K) H := hP
          rw [tkW_up (by decide)] at hP
          have hP : Wp cN E cK ((tkW (up2 (pI I ((sRd (A 1) k A).1) ((sRd (A 1) k A).2.1) ((sRd (A 1) k A).2.2.1)) 2 3 (nI (tkB (A 1) k ((sRd (A 1) k A).2.2.2.2).2))) (A 1) k ((sRd (A 1) k A).2.2.2.2)), (sRd (A 1) k A).2.2.2.1, K) H := hP
          refine lv_iload_n hx hb dX4_read_103 rfl (lv_at hl 0 rfl) ?_
          refine lv_if_ne (tgt := 112) hx hb dX4_read_104 (by decide) (fun h104 => ?_) (fun h104 => absurd h104 (show ¬ (sRd (A 1) k A).2.2.2.2.1 = 0 from h86))
          refine lv_iload_n hx hb dX4_read_112 rfl (lv_at hl 0 rfl) ?_
          exact re_wi (x := ((tkW (up2 (pI I ((sRd (A 1) k A).1) ((sRd (A 1) k A).2.1) ((sRd (A 1) k A).2.2.1)) 2 3 (nI (tkB (A 1) k ((sRd (A 1) k A).2.2.2.2).2))) (A 1) k ((sRd (A 1) k A).2.2.2.2)), (sRd (A 1) k A).2.2.2.1, K)) (v := (((sRd (A 1) k A).2.2.2.2).1)) hx hb hr hlk hP hS ⟨rfl, _, _, rdP_e h86, rfl⟩ dX4_read_113
        · refine lv_iconst (v := (-1)) hx hb dX4_read_89 (by decide) ?_
          refine lv_goto (tgt := 100) hx hb dX4_read_90 (by decide) ?_
          refine rw_puti (x := ((tkW (pI I ((sRd (A 1) k A).1) ((sRd (A 1) k A).2.1) ((sRd (A 1) k A).2.2.1)) (A 1) k ((sRd (A 1) k A).2.2.2.2)), (sRd (A 1) k A).2.2.2.1, K)) (v := (-1)) S hE hK hP hS 2 (by decide) (cK_lo (by decide)) fk_X4_15 rfl tyX4_ok nmX4 ⟨rfl, by decide +kernel⟩ dX4_read_100 (fun H locs hP hS => ?_)
          have hP : Wp cN E cK (up2 (tkW (pI I ((sRd (A 1) k A).1) ((sRd (A 1) k A).2.1) ((sRd (A 1) k A).2.2.1)) (A 1) k ((sRd (A 1) k A).2.2.2.2)) 2 3 (-1), (sRd (A 1) k A).2.2.2.1, K) H := hP
          rw [tkW_up (by decide)] at hP
          have hP : Wp cN E cK ((tkW (up2 (pI I ((sRd (A 1) k A).1) ((sRd (A 1) k A).2.1) ((sRd (A 1) k A).2.2.1)) 2 3 (-1)) (A 1) k ((sRd (A 1) k A).2.2.2.2)), (sRd (A 1) k A).2.2.2.1, K) H := hP
          refine lv_iload_n hx hb dX4_read_103 rfl (lv_at hl 0 rfl) ?_
          refine lv_if_ne (tgt := 112) hx hb dX4_read_104 (by decide) (fun h104 => absurd h104 (fun g => g h86)) (fun h104 => ?_)
          refine lv_aload_n hx hb dX4_read_107 rfl (lv_at hl 1 rfl) ?_
          refine lv_aload_n hx hb dX4_read_108 rfl (lv_at hl 3 rfl) ?_
          refine cn_wv (ck_V (a := eP E 2) S lk_X4_74 (c_X4_setTextNeeds l E (up2 (pI I ((sRd (A 1) k A).1) ((sRd (A 1) k A).2.1) ((sRd (A 1) k A).2.2.1)) 2 3 (-1)) ((sRd (A 1) k A).2.2.2.1) K (A 1) k ((sRd (A 1) k A).2.2.2.2) ((sRd (A 1) k A).2.1) ((sRd (A 1) k A).2.2.1) hE hp.2.1.2 hp.2.1.1 h86 rfl hp.2.2.1 (hp.2.2.2 h86) rfl hp.1.2) ⟨rfl, rfl⟩ ⟨Nat.le_of_ble_eq_true rfl, Nat.le_of_ble_eq_true rfl⟩ bl_w (rc_w hK hP 2 (by decide) (cK_lo (by decide)) rfl) (bw_U hE hK hC hP hS) rfl hl.1 (Nat.le_of_ble_eq_true rfl) ⟨Nat.le_refl _, Nat.le_refl _⟩ dX4_read_109 rfl) hS (fun u31 H locs g32 hP hS => ?_)
          obtain ⟨a33, b33, y33, ⟨hy33, h0y33⟩, rfl⟩ : ∃ oa ob oy, (zOk k oy ∧ oy.1 = 0) ∧ u31 = (tkW (fS (up2 (pI I ((sRd (A 1) k A).1) ((sRd (A 1) k A).2.1) ((sRd (A 1) k A).2.2.1)) 2 3 (-1)) oa ob) (A 1) k oy, (zSt (A 1) k ((sRd (A 1) k A).2.2.1) ((sRd (A 1) k A).2.2.2.1) ((sRd (A 1) k A).2.1)), K) := g32
          have hP : Wp cN E cK ((tkW (fS (up2 (pI I ((sRd (A 1) k A).1) ((sRd (A 1) k A).2.1) ((sRd (A 1) k A).2.2.1)) 2 3 (-1)) a33 b33) (A 1) k y33), (zSt (A 1) k ((sRd (A 1) k A).2.2.1) ((sRd (A 1) k A).2.2.2.1) ((sRd (A 1) k A).2.1)), K) H := hP
          refine lv_iload_n hx hb dX4_read_112 rfl (lv_at hl 0 rfl) ?_
          exact re_wi (x := ((tkW (fS (up2 (pI I ((sRd (A 1) k A).1) ((sRd (A 1) k A).2.1) ((sRd (A 1) k A).2.2.1)) 2 3 (-1)) a33 b33) (A 1) k y33), (zSt (A 1) k ((sRd (A 1) k A).2.2.1) ((sRd (A 1) k A).2.2.2.1) ((sRd (A 1) k A).2.1)), K)) (v := (((sRd (A 1) k A).2.2.2.2).1)) hx hb hr hlk hP hS ⟨rfl, _, _, rdP_o h86, rfl⟩ dX4_read_113
      · have hm : zM (A 1) k P.2.2.2.2 = true := bI_t h53
        refine lv_aload_n hx hb dX4_read_56 rfl (lv_at hl 1 rfl) ?_
        refine lv_aload_n hx hb dX4_read_57 rfl (lv_at hl 3 rfl) ?_
        refine cn_wv (ck_V (a := eP E 2) S lk_X4_63 (c_X4_readStatement l E I P.2.2.2.1 K (A 1) k P.2.2.2.2 P.1 P.2.1 P.2.2.1 hE hp) ⟨rfl, rfl⟩ ⟨Nat.le_of_ble_eq_true rfl, Nat.le_of_ble_eq_true rfl⟩ bl_w (rc_w hK hP 2 (by decide) (cK_lo (by decide)) rfl) (bw_U hE hK hC hP hS) rfl hl.1 (Nat.le_of_ble_eq_true rfl) ⟨Nat.le_refl _, Nat.le_refl _⟩ dX4_read_58 rfl) hS (fun u35 H locs g36 hP hS => ?_)
        obtain rfl : u35 = pW I K (A 1) k (sStm (A 1) k (P.1, P.2.1, P.2.2.1, P.2.2.2.1, P.2.2.2.2)) := g36
        have hP : Wp cN E cK (pW I K (A 1) k (sStm (A 1) k (P.1, P.2.1, P.2.2.1, P.2.2.2.1, P.2.2.2.2))) H := hP
        have hP : Wp cN E cK ((tkW (pI I ((sStm (A 1) k (P.1, P.2.1, P.2.2.1, P.2.2.2.1, P.2.2.2.2)).1) ((sStm (A 1) k (P.1, P.2.1, P.2.2.1, P.2.2.2.1, P.2.2.2.2)).2.1) ((sStm (A 1) k (P.1, P.2.1, P.2.2.1, P.2.2.2.1, P.2.2.2.2)).2.2.1)) (A 1) k ((sStm (A 1) k (P.1, P.2.1, P.2.2.1, P.2.2.2.1, P.2.2.2.2)).2.2.2.2)), (sStm (A 1) k (P.1, P.2.1, P.2.2.1, P.2.2.2.1, P.2.2.2.2)).2.2.2.1, K) H := hP
        have hP : Wp cN E cK ((tkW (pI I ((sStm (A 1) k P).1) ((sStm (A 1) k P).2.1) ((sStm (A 1) k P).2.2.1)) (A 1) k ((sStm (A 1) k P).2.2.2.2)), (sStm (A 1) k P).2.2.2.1, K) H := hP
        refine lv_aload_n hx hb dX4_read_61 rfl (lv_at hl 1 rfl) ?_
        refine rw_getr (x := ((tkW (pI I ((sStm (A 1) k P).1) ((sStm (A 1) k P).2.1) ((sStm (A 1) k P).2.2.1)) (A 1) k ((sStm (A 1) k P).2.2.2.2)), (sStm (A 1) k P).2.2.2.1, K)) S hK hP 2 (by decide) (cK_lo (by decide)) fk_X4_24 rfl dX4_read_62 ?_
        refine lv_bipush (v := 59) hx hb dX4_read_65 (by decide) ?_
        refine cn_wv (ck_V (a := eP E 3) S lk_X4_55 (c_X5_needSign l E (pI I ((sStm (A 1) k P).1) ((sStm (A 1) k P).2.1) ((sStm (A 1) k P).2.2.1)) ((sStm (A 1) k P).2.2.2.1) K (A 1) k ((sStm (A 1) k P).2.2.2.2) 59 hE (pOk_stm hp).2.1.2 (pOk_stm hp).2.1.1) ⟨rfl, rfl⟩ ⟨Nat.le_of_ble_eq_true rfl, Nat.le_of_ble_eq_true rfl⟩ bl_w (rc_w hK hP 3 (by decide) (cK_lo (by decide)) rfl) (bw_U hE hK hC hP hS) rfl hl.1 (Nat.le_of_ble_eq_true rfl) ⟨Nat.le_refl _, Nat.le_refl _⟩ dX4_read_67 rfl) hS (fun u38 H locs g39 hP hS => ?_)
        obtain rfl : u38 = (tkW (pI I ((sStm (A 1) k P).1) ((sStm (A 1) k P).2.1) ((sStm (A 1) k P).2.2.1)) (A 1) k (zNS (A 1) k 59 ((sStm (A 1) k P).2.2.2.2)), ((sStm (A 1) k P).2.2.2.1), K) := g39
        have hP : Wp cN E cK ((tkW (pI I ((sStm (A 1) k P).1) ((sStm (A 1) k P).2.1) ((sStm (A 1) k P).2.2.1)) (A 1) k ((zNS (A 1) k 59 ((sStm (A 1) k P).2.2.2.2)))), (sStm (A 1) k P).2.2.2.1, K) H := hP
        refine lv_iinc (v := nI (i + 1)) (lv' := [(3, .int (nI (i + 1))), (0, .ref (eP E 2)), (1, .int (nI k)), (2, .ref (eP E (dB 1 0)))]) hx hb dX4_read_70 hl (k := 0) rfl (nI_1 _) (by decide) rfl (fun ls hl => ?_)
        refine lv_goto (tgt := 39) hx hb dX4_read_73 (by decide) ?_
        exact ih (i + 1) (sSt (A 1) k P) (by omega) (pOk_st hp) ((sLp_s hm).symm.trans hv) _ _ hP hS ls (lv_sub hl [0, 1, 2, 3] rfl)
  exact HL 700 0 (0, 0, none, A, (zNS (A 1) k 59 (zNW (A 1) k (tw 0) (0, 0)))) (by omega) (pOk_mk (by decide) (by decide) (zOk_NS (zOk_NW (⟨Nat.zero_le _, hk⟩ : zOk k (0, 0)))) rfl (fun q h => by cases h) (fun _ q h => by cases h)) sRd_e _ _ hP hS ls (lv_sub hl [0, 1, 2, 3] rfl)

/-- what a good load leaves -/
def ldI (J : Nat → Nat → Int32) (nx kp : Nat) : Nat → Nat → Int32 := cCpI (hKeI (up2 J 0 6 (J 2 3)) 0 nx kp) 0 1
def ldA (B : Nat → Nat → Int32) (nx : Nat) : Nat → Nat → Int32 := cCpy (cCpy B (2 + nx) 0) 0 1
set_option maxHeartbeats 1000000 in
set_option maxRecDepth 100000 in
theorem c_X6_load (l : Launch) (E : En) (I A : Nat → Nat → Int32) (K : Nat → Nat → Int64) (k bl nx kp : Nat) (hE : Ev cN E) (hil : I 0 5 = nI bl) (hkm : k ≤ bl) (hm : bl ≤ 700) (hnx : I 6 1 = nI nx) (hkp : I 6 2 = nI kp) (hn8 : nx < 8) (hk8 : kp ≤ 8) : Met l yX6_load (wz yX6_load cX6_load 3 (some .int)) (rmk 24 0 0 544) (va_Pc [.ref (eP E 0), .int (nI k)] (Bw cN E cK (I, A, K))) (qWi cN E cK (fun zz uu => ∃ J B, rdP (up2 I 0 5 0) A k J B ∧ ((¬ (sRd (A 1) k A).2.2.2.2.1 = 0 ∧ zz = (sRd (A 1) k A).2.2.2.2.1 ∧ uu = (up2 J 0 6 (J 2 3), B, K)) ∨ ((sRd (A 1) k A).2.2.2.2.1 = 0 ∧ zz = nI (sRd (A 1) k A).2.1 ∧ uu = (ldI J nx kp, ldA B nx, K))))) 0 0 (cA cN E) := by
  refine en_ofW RX6 rfl (by decide +kernel) (Nat.le_of_ble_eq_true rfl) ?_
  intro p e s m below meth c ls S hr hlk hnm hl hB
  have hx := S.1
  have hb := S.2.1
  obtain ⟨hK, hC, hP⟩ := hB
  have hS : va_S (cA cN E) s.heap s.heap [] := va_S.rf
  have hl : lv_has ls 3 [(0, .ref (eP E 0)), (1, .int (nI k))] := hl
  refine lv_iload_n hx hb dX6_load_0 rfl (lv_at hl 1 rfl) ?_
  refine lv_if_lt (tgt := 12) hx hb dX6_load_1 (by decide) (fun h1 => absurd h1 (nI_pos (by omega))) (fun h1 => ?_)
  refine lv_iload_n hx hb dX6_load_4 rfl (lv_at hl 1 rfl) ?_
  refine lv_aload_n hx hb dX6_load_5 rfl (lv_at hl 0 rfl) ?_
  refine rw_geti (x := (I, A, K)) (v := nI bl) S hK hP 0 (by decide) (cK_lo (by decide)) fk_X6_39 rfl hil dX6_load_6 ?_
  refine lv_icmp_le (tgt := 22) hx hb dX6_load_9 (by decide) (fun h9 => ?_) (fun h9 => absurd (nI_le hkm (by omega)) h9)
  refine lv_aload_n hx hb dX6_load_22 rfl (lv_at hl 0 rfl) ?_
  refine lv_iconst (v := 0) hx hb dX6_load_23 (by decide) ?_
  refine rw_puti (x := (I, A, K)) (v := 0) S hE hK hP hS 0 (by decide) (cK_lo (by decide)) fk_X6_39 rfl tyX6_ok nmX6 ⟨rfl, by decide +kernel⟩ dX6_load_24 (fun H locs hP hS => ?_)
  have hP : Wp cN E cK ((up2 I 0 5 0), A, K) H := hP
  refine lv_aload_n hx hb dX6_load_27 rfl (lv_at hl 0 rfl) ?_
  refine rw_getr (x := ((up2 I 0 5 0), A, K)) S hK hP 0 (by decide) (cK_lo (by decide)) fk_X6_18 rfl dX6_load_28 ?_
  refine lv_iload_n hx hb dX6_load_31 rfl (lv_at hl 1 rfl) ?_
  refine lv_aload_n hx hb dX6_load_32 rfl (lv_at hl 0 rfl) ?_
  refine rw_getr (x := ((up2 I 0 5 0), A, K)) S hK hP 0 (by decide) (cK_lo (by decide)) fk_X6_29 rfl dX6_load_33 ?_
  refine cn_wi (ck_V (a := eP E 2) S lk_X6_57 (c_X4_read l E (up2 I 0 5 0) A K k hE (by omega)) ⟨rfl, rfl⟩ ⟨Nat.le_of_ble_eq_true rfl, Nat.le_of_ble_eq_true rfl⟩ bl_w (rc_w hK hP 2 (by decide) (cK_lo (by decide)) rfl) (bw_U hE hK hC hP hS) rfl hl.1 (Nat.le_of_ble_eq_true rfl) ⟨Nat.le_refl _, Nat.le_refl _⟩ dX6_load_36 rfl) hS (fun r1 u2 H locs g3 hP hS => ?_)
  obtain ⟨rfl, J4, B4, hrd, rfl⟩ : r1 = (sRd (A 1) k A).2.2.2.2.1 ∧ (∃ oj ob, rdP (up2 I 0 5 0) A k oj ob ∧ u2 = (oj, ob, K)) := g3
  have hP : Wp cN E cK (J4, B4, K) H := hP
  have hj := hrd.1
  have hnx2 : J4 6 1 = nI nx := (congrFun (hj 6 (by decide) (by decide) (by decide) (by decide)) 1).trans hnx
  have hkp2 : J4 6 2 = nI kp := (congrFun (hj 6 (by decide) (by decide) (by decide) (by decide)) 2).trans hkp
  refine lv_istore_n (lv' := [(2, .int ((sRd (A 1) k A).2.2.2.2.1)), (0, .ref (eP E 0)), (1, .int (nI k))]) hx hb dX6_load_39 rfl hl (by decide) rfl (fun ls hl => ?_)
  refine lv_aload_n hx hb dX6_load_40 rfl (lv_at hl 1 rfl) ?_
  refine lv_aload_n hx hb dX6_load_41 rfl (lv_at hl 1 rfl) ?_
  refine rw_getr (x := (J4, B4, K)) S hK hP 0 (by decide) (cK_lo (by decide)) fk_X6_18 rfl dX6_load_42 ?_
  refine cn_si (ck_V (a := eP E 2) S lk_X6_61 (c_X4_errorStart l E J4 B4 K) ⟨rfl, rfl⟩ ⟨Nat.le_of_ble_eq_true rfl, Nat.le_of_ble_eq_true rfl⟩ bl_w (rc_w hK hP 2 (by decide) (cK_lo (by decide)) rfl) (bw_U hE hK hC hP hS) rfl hl.1 (Nat.le_of_ble_eq_true rfl) ⟨Nat.le_refl _, Nat.le_refl _⟩ dX6_load_45 rfl) (fun r5 g6 => ?_)
  obtain rfl : r5 = J4 2 3 := g6
  refine rw_puti (x := (J4, B4, K)) (v := (J4 2 3)) S hE hK hP hS 0 (by decide) (cK_lo (by decide)) fk_X6_43 rfl tyX6_ok nmX6 ⟨rfl, by decide +kernel⟩ dX6_load_48 (fun H locs hP hS => ?_)
  have hP : Wp cN E cK ((up2 J4 0 6 (J4 2 3)), B4, K) H := hP
  refine lv_iload_n hx hb dX6_load_51 rfl (lv_at hl 0 rfl) ?_
  refine lv_if_eq (tgt := 57) hx hb dX6_load_52 (by decide) (fun h52 => ?_) (fun h52 => ?_)
  · refine lv_aload_n hx hb dX6_load_57 rfl (lv_at hl 1 rfl) ?_
    refine rw_getr (x := ((up2 J4 0 6 (J4 2 3)), B4, K)) S hK hP 0 (by decide) (cK_lo (by decide)) fk_X6_35 rfl dX6_load_58 ?_
    refine lv_aload_n hx hb dX6_load_61 rfl (lv_at hl 1 rfl) ?_
    refine rw_getr (x := ((up2 J4 0 6 (J4 2 3)), B4, K)) S hK hP 0 (by decide) (cK_lo (by decide)) fk_X6_25 rfl dX6_load_62 ?_
    refine cn_wv (ck_V (a := eP E 6) S lk_X6_65 (c_X3_keep l E (up2 J4 0 6 (J4 2 3)) B4 K 0 nx kp hE hnx2 hkp2 hn8 hk8 (by decide)) ⟨rfl, rfl⟩ ⟨Nat.le_of_ble_eq_true rfl, Nat.le_of_ble_eq_true rfl⟩ bl_w (rc_w hK hP 6 (by decide) (cK_lo (by decide)) rfl) (bw_U hE hK hC hP hS) rfl hl.1 (Nat.le_of_ble_eq_true rfl) ⟨Nat.le_refl _, Nat.le_refl _⟩ dX6_load_65 rfl) hS (fun u8 H locs g9 hP hS => ?_)
    obtain rfl : u8 = (hKeI (up2 J4 0 6 (J4 2 3)) 0 nx kp, cCpy B4 (2 + nx) 0, K) := g9
    have hP : Wp cN E cK ((hKeI (up2 J4 0 6 (J4 2 3)) 0 nx kp), (cCpy B4 (2 + nx) 0), K) H := hP
    refine lv_aload_n hx hb dX6_load_68 rfl (lv_at hl 1 rfl) ?_
    refine rw_getr (x := ((hKeI (up2 J4 0 6 (J4 2 3)) 0 nx kp), (cCpy B4 (2 + nx) 0), K)) S hK hP 0 (by decide) (cK_lo (by decide)) fk_X6_25 rfl dX6_load_69 ?_
    refine lv_aload_n hx hb dX6_load_72 rfl (lv_at hl 1 rfl) ?_
    refine rw_getr (x := ((hKeI (up2 J4 0 6 (J4 2 3)) 0 nx kp), (cCpy B4 (2 + nx) 0), K)) S hK hP 0 (by decide) (cK_lo (by decide)) fk_X6_29 rfl dX6_load_73 ?_
    refine cn_wv (ck_V (a := eP E (dB 0 0)) S lk_X6_69 (c_X1_copyFrom l E (hKeI (up2 J4 0 6 (J4 2 3)) 0 nx kp) (cCpy B4 (2 + nx) 0) K 0 1 hE (by decide) (by decide)) ⟨rfl, rfl⟩ ⟨Nat.le_of_ble_eq_true rfl, Nat.le_of_ble_eq_true rfl⟩ bl_w (rc_w hK hP (dB 0 0) (dB_lt (by decide) (by decide)) (cK_D (by decide)) rfl) (bw_U hE hK hC hP hS) rfl hl.1 (Nat.le_of_ble_eq_true rfl) ⟨Nat.le_refl _, Nat.le_refl _⟩ dX6_load_76 rfl) hS (fun u11 H locs g12 hP hS => ?_)
    obtain rfl : u11 = (cCpI (hKeI (up2 J4 0 6 (J4 2 3)) 0 nx kp) 0 1, cCpy (cCpy B4 (2 + nx) 0) 0 1, K) := g12
    have hP : Wp cN E cK ((cCpI (hKeI (up2 J4 0 6 (J4 2 3)) 0 nx kp) 0 1), (cCpy (cCpy B4 (2 + nx) 0) 0 1), K) H := hP
    have hu83 : (cCpI (hKeI (up2 J4 0 6 (J4 2 3)) 0 nx kp) 0 1) (dB 0 0) 3 = nI (sRd (A 1) k A).2.1 := up2_eq.trans ((hKeI_D (e := 1) (by omega)).trans hrd.2.2.1.2)
    refine lv_aload_n hx hb dX6_load_79 rfl (lv_at hl 1 rfl) ?_
    refine rw_getr (x := ((cCpI (hKeI (up2 J4 0 6 (J4 2 3)) 0 nx kp) 0 1), (cCpy (cCpy B4 (2 + nx) 0) 0 1), K)) S hK hP 0 (by decide) (cK_lo (by decide)) fk_X6_25 rfl dX6_load_80 ?_
    refine rw_geti (x := ((cCpI (hKeI (up2 J4 0 6 (J4 2 3)) 0 nx kp) 0 1), (cCpy (cCpy B4 (2 + nx) 0) 0 1), K)) (v := nI (sRd (A 1) k A).2.1) S hK hP (dB 0 0) (dB_lt (by decide) (by decide)) (cK_D (by decide)) fk_X6_72 rfl hu83 dX6_load_83 ?_
    exact re_wi (x := ((cCpI (hKeI (up2 J4 0 6 (J4 2 3)) 0 nx kp) 0 1), (cCpy (cCpy B4 (2 + nx) 0) 0 1), K)) (v := nI (sRd (A 1) k A).2.1) hx hb hr hlk hP hS ⟨J4, B4, hrd, Or.inr ⟨h52, rfl, rfl⟩⟩ dX6_load_86
  · refine lv_iload_n hx hb dX6_load_55 rfl (lv_at hl 0 rfl) ?_
    exact re_wi (x := ((up2 J4 0 6 (J4 2 3)), B4, K)) (v := (sRd (A 1) k A).2.2.2.2.1) hx hb hr hlk hP hS ⟨J4, B4, hrd, Or.inl ⟨h52, rfl, rfl⟩⟩ dX6_load_56

