def bsh (v k : Int32) : Int32 := (v >>> (k &&& 31)).toInt8.toInt32
def cPut (A : Nat → Nat → Int32) (n : Nat) (v : Int32) : Nat → Nat → Int32 := up2 (up2 (up2 (up2 A 1 n (bsh v 24)) 1 (n + 1) (bsh v 16)) 1 (n + 2) (bsh v 8)) 1 (n + 3) v.toInt8.toInt32
def cApp (A : Nat → Nat → Int32) (n : Nat) (w0 w1 w2 w3 w4 : Int32) : Nat → Nat → Int32 := cPut (cPut (cPut (cPut (cPut A n w0) (n + 4) w1) (n + 8) w2) (n + 12) w3) (n + 16) w4
theorem cpR_ne {A : Nat → Nat → Int32} {p q n a : Nat} (h : a ≠ q) : cpR A p q n a = A a := by simp [cpR, va_up, h]
theorem cFix_ne {A : Nat → Nat → Int32} {d d2 a : Nat} (h : a ≠ dB d 4) : ∀ n, cFix A d d2 n a = A a
  | 0 => rfl
  | n + 1 => by
    show up2 (cFix A d d2 n) (dB d 4) n _ a = A a
    rw [up2_row h, cFix_ne h n]
theorem cCpy_ne {A : Nat → Nat → Int32} {d d2 a : Nat} (h : ∀ k, 2 ≤ k → k ≤ 10 → a ≠ dB d k) : cCpy A d d2 a = A a := by
  unfold cCpy cCp1
  rw [cpR_ne (h 7 (by decide) (by decide)), cpR_ne (h 6 (by decide) (by decide)), cpR_ne (h 5 (by decide) (by decide)), cFix_ne (h 4 (by decide) (by decide)), cpR_ne (h 10 (by decide) (by decide)), cpR_ne (h 3 (by decide) (by decide)), cpR_ne (h 9 (by decide) (by decide)), cpR_ne (h 2 (by decide) (by decide))]
theorem cCpy_D {A : Nat → Nat → Int32} {d d2 e k : Nat} (hk : k < 11) (h : e ≠ d) : cCpy A d d2 (dB e k) = A (dB e k) := cCpy_ne (fun j h1 h2 => dB_ne hk (by omega) (Or.inl h))
theorem cCpy_lo {A : Nat → Nat → Int32} {d d2 a : Nat} (h : a < 8) : cCpy A d d2 a = A a := cCpy_ne (fun j h1 h2 => Ne.symm (dB_nlo h))
theorem cExc_ne {A : Nat → Nat → Int32} {d a : Nat} (h2 : a ≠ dB d 2) (h3 : a ≠ dB d 3) : ∀ n, cExc A d n a = A a
  | 0 => rfl
  | n + 1 => by
    show up2 (up2 (cExc A d n) (dB d 2) n _) (dB d 3) n _ a = A a
    rw [up2_row h3, up2_row h2, cExc_ne h2 h3 n]
theorem DOk_ext {I A I2 A2 : Nat → Nat → Int32} {d nr nu : Nat} (hI : ∀ j, I2 (dB d 0) j = I (dB d 0) j) (h5 : A2 (dB d 5) = A (dB d 5)) (h6 : A2 (dB d 6) = A (dB d 6)) (h7 : A2 (dB d 7) = A (dB d 7)) (h : DOk I A d nr nu) : DOk I2 A2 d nr nu := by
  unfold DOk dF dG dT at *
  simp only [hI, h5, h6, h7]
  exact h
theorem hKeI_D {I : Nat → Nat → Int32} {d2 e nx kp j : Nat} (h : e ≠ 2 + nx) : hKeI I d2 nx kp (dB e 0) j = I (dB e 0) j := by
  unfold hKeI cCpI
  rw [up2_q (dB_nlo (by decide)), up2_q (dB_nlo (by decide)), up2_q (dB_ne (by decide) (by decide) (Or.inl h)), up2_q (dB_ne (by decide) (by decide) (Or.inl h))]
theorem DOk_keep {I A : Nat → Nat → Int32} {e d2 nr nu nx kp : Nat} (he : e < 2) (h : DOk I A e nr nu) : DOk (hKeI I d2 nx kp) (cCpy A (2 + nx) d2) e nr nu :=
  DOk_ext (fun _ => hKeI_D (by omega)) (cCpy_D (by decide) (by omega)) (cCpy_D (by decide) (by omega)) (cCpy_D (by decide) (by omega)) h
theorem DOk_exc {I A : Nat → Nat → Int32} {e nr nu n : Nat} (h : DOk I A e nr nu) : DOk I (cExc A e n) e nr nu :=
  DOk_ext (fun _ => rfl) (cExc_ne (dB_ne (by decide) (by decide) (Or.inr (by decide))) (dB_ne (by decide) (by decide) (Or.inr (by decide))) n) (cExc_ne (dB_ne (by decide) (by decide) (Or.inr (by decide))) (dB_ne (by decide) (by decide) (Or.inr (by decide))) n) (cExc_ne (dB_ne (by decide) (by decide) (Or.inr (by decide))) (dB_ne (by decide) (by decide) (Or.inr (by decide))) n) h
def cCkR (A : Nat → Nat → Int32) (d : Nat) : Nat → Int64 := lfo (fun r a => 31 * (31 * (31 * a + (A (dB d 2) r).toInt64) + (A (dB d 3) r).toInt64) + (if A (dB d 4) r = 0 then (0 : Int32) else 1).toInt64) 0
def cCkU (A : Nat → Nat → Int32) (d : Nat) (a0 : Int64) : Nat → Int64 := lfo (fun u a => 31 * (31 * a + (cVal A d u 0).toInt64) + (cVal A d u 1).toInt64) a0
set_option maxHeartbeats 1000000 in
set_option maxRecDepth 100000 in
theorem c_X6_putWord (l : Launch) (E : En) (I A : Nat → Nat → Int32) (K : Nat → Nat → Int64) (n : Nat) (v : Int32) (hE : Ev cN E) (hn : n + 3 < 700) : Met l yX6_putWord (wz yX6_putWord cX6_putWord 3 none) (rmk 0 0 0 0) (va_Pc [.ref (eP E 0), .int (nI n), .int v] (Bw cN E cK (I, A, K))) (qWv cN E cK (fun uu => uu = (I, cPut A n v, K))) 0 0 (cA cN E) := by
  refine en_ofW RX6 rfl (by decide +kernel) (Nat.le_of_ble_eq_true rfl) ?_
  intro p e s m below meth c ls S hr hlk hnm hl hB
  have hx := S.1
  have hb := S.2.1
  obtain ⟨hK, hC, hP⟩ := hB
  have hS : va_S (cA cN E) s.heap s.heap [] := va_S.rf
  have hl : lv_has ls 3 [(0, .ref (eP E 0)), (1, .int (nI n)), (2, .int v)] := hl
  refine lv_aload_n hx hb dX6_putWord_0 rfl (lv_at hl 0 rfl) ?_
  refine rw_getr (x := (I, A, K)) S hK hP 0 (by decide) (cK_lo (by decide)) fk_X6_9 rfl dX6_putWord_1 ?_
  refine lv_iload_n hx hb dX6_putWord_4 rfl (lv_at hl 1 rfl) ?_
  refine lv_iload_n hx hb dX6_putWord_5 rfl (lv_at hl 2 rfl) ?_
  refine lv_bipush (v := 24) hx hb dX6_putWord_6 (by decide) ?_
  refine lv_ishr hx hb dX6_putWord_8 ?_
  refine lv_i2b hx hb dX6_putWord_9 rfl ?_
  refine rw_bast (x := (I, A, K)) (v := (v >>> (24 &&& 31)).toInt8.toInt32) (w := (v >>> (24 &&& 31)).toInt8.toInt32) S hE hK hP hS 1 (by decide) (cK_lo (by decide)) n rfl (by omega) (by decide) (pk_vb _) dX6_putWord_10 (fun H locs hP hS => ?_)
  have hP : Wp cN E cK (I, (up2 A 1 n ((v >>> (24 &&& 31)).toInt8.toInt32)), K) H := hP
  refine lv_aload_n hx hb dX6_putWord_11 rfl (lv_at hl 0 rfl) ?_
  refine rw_getr (x := (I, (up2 A 1 n ((v >>> (24 &&& 31)).toInt8.toInt32)), K)) S hK hP 0 (by decide) (cK_lo (by decide)) fk_X6_9 rfl dX6_putWord_12 ?_
  refine lv_iload_n hx hb dX6_putWord_15 rfl (lv_at hl 1 rfl) ?_
  refine lv_iconst (v := 1) hx hb dX6_putWord_16 (by decide) ?_
  refine lv_iadd hx hb dX6_putWord_17 ?_
  refine tp_i (y := nI (n + 1)) (nI_add n 1) ?_
  refine lv_iload_n hx hb dX6_putWord_18 rfl (lv_at hl 2 rfl) ?_
  refine lv_bipush (v := 16) hx hb dX6_putWord_19 (by decide) ?_
  refine lv_ishr hx hb dX6_putWord_21 ?_
  refine lv_i2b hx hb dX6_putWord_22 rfl ?_
  refine rw_bast (x := (I, (up2 A 1 n ((v >>> (24 &&& 31)).toInt8.toInt32)), K)) (v := (v >>> (16 &&& 31)).toInt8.toInt32) (w := (v >>> (16 &&& 31)).toInt8.toInt32) S hE hK hP hS 1 (by decide) (cK_lo (by decide)) (n + 1) rfl (by omega) (by decide) (pk_vb _) dX6_putWord_23 (fun H locs hP hS => ?_)
  have hP : Wp cN E cK (I, (up2 (up2 A 1 n ((v >>> (24 &&& 31)).toInt8.toInt32)) 1 (n + 1) ((v >>> (16 &&& 31)).toInt8.toInt32)), K) H := hP
  refine lv_aload_n hx hb dX6_putWord_24 rfl (lv_at hl 0 rfl) ?_
  refine rw_getr (x := (I, (up2 (up2 A 1 n ((v >>> (24 &&& 31)).toInt8.toInt32)) 1 (n + 1) ((v >>> (16 &&& 31)).toInt8.toInt32)), K)) S hK hP 0 (by decide) (cK_lo (by decide)) fk_X6_9 rfl dX6_putWord_25 ?_
  refine lv_iload_n hx hb dX6_putWord_28 rfl (lv_at hl 1 rfl) ?_
  refine lv_iconst (v := 2) hx hb dX6_putWord_29 (by decide) ?_
  refine lv_iadd hx hb dX6_putWord_30 ?_
  refine tp_i (y := nI (n + 2)) (nI_add n 2) ?_
  refine lv_iload_n hx hb dX6_putWord_31 rfl (lv_at hl 2 rfl) ?_
  refine lv_bipush (v := 8) hx hb dX6_putWord_32 (by decide) ?_
  refine lv_ishr hx hb dX6_putWord_34 ?_
  refine lv_i2b hx hb dX6_putWord_35 rfl ?_
  refine rw_bast (x := (I, (up2 (up2 A 1 n ((v >>> (24 &&& 31)).toInt8.toInt32)) 1 (n + 1) ((v >>> (16 &&& 31)).toInt8.toInt32)), K)) (v := (v >>> (8 &&& 31)).toInt8.toInt32) (w := (v >>> (8 &&& 31)).toInt8.toInt32) S hE hK hP hS 1 (by decide) (cK_lo (by decide)) (n + 2) rfl (by omega) (by decide) (pk_vb _) dX6_putWord_36 (fun H locs hP hS => ?_)
  have hP : Wp cN E cK (I, (up2 (up2 (up2 A 1 n ((v >>> (24 &&& 31)).toInt8.toInt32)) 1 (n + 1) ((v >>> (16 &&& 31)).toInt8.toInt32)) 1 (n + 2) ((v >>> (8 &&& 31)).toInt8.toInt32)), K) H := hP
  refine lv_aload_n hx hb dX6_putWord_37 rfl (lv_at hl 0 rfl) ?_
  refine rw_getr (x := (I, (up2 (up2 (up2 A 1 n ((v >>> (24 &&& 31)).toInt8.toInt32)) 1 (n + 1) ((v >>> (16 &&& 31)).toInt8.toInt32)) 1 (n + 2) ((v >>> (8 &&& 31)).toInt8.toInt32)), K)) S hK hP 0 (by decide) (cK_lo (by decide)) fk_X6_9 rfl dX6_putWord_38 ?_
  refine lv_iload_n hx hb dX6_putWord_41 rfl (lv_at hl 1 rfl) ?_
  refine lv_iconst (v := 3) hx hb dX6_putWord_42 (by decide) ?_
  refine lv_iadd hx hb dX6_putWord_43 ?_
  refine tp_i (y := nI (n + 3)) (nI_add n 3) ?_
  refine lv_iload_n hx hb dX6_putWord_44 rfl (lv_at hl 2 rfl) ?_
  refine lv_i2b hx hb dX6_putWord_45 rfl ?_
  refine rw_bast (x := (I, (up2 (up2 (up2 A 1 n ((v >>> (24 &&& 31)).toInt8.toInt32)) 1 (n + 1) ((v >>> (16 &&& 31)).toInt8.toInt32)) 1 (n + 2) ((v >>> (8 &&& 31)).toInt8.toInt32)), K)) (v := v.toInt8.toInt32) (w := v.toInt8.toInt32) S hE hK hP hS 1 (by decide) (cK_lo (by decide)) (n + 3) rfl (by omega) (by decide) (pk_vb _) dX6_putWord_46 (fun H locs hP hS => ?_)
  have hP : Wp cN E cK (I, (up2 (up2 (up2 (up2 A 1 n ((v >>> (24 &&& 31)).toInt8.toInt32)) 1 (n + 1) ((v >>> (16 &&& 31)).toInt8.toInt32)) 1 (n + 2) ((v >>> (8 &&& 31)).toInt8.toInt32)) 1 (n + 3) v.toInt8.toInt32), K) H := hP
  exact re_wv (x := (I, (up2 (up2 (up2 (up2 A 1 n ((v >>> (24 &&& 31)).toInt8.toInt32)) 1 (n + 1) ((v >>> (16 &&& 31)).toInt8.toInt32)) 1 (n + 2) ((v >>> (8 &&& 31)).toInt8.toInt32)) 1 (n + 3) v.toInt8.toInt32), K)) hx hb hr hlk hP hS rfl dX6_putWord_47

set_option maxHeartbeats 1000000 in
set_option maxRecDepth 100000 in
theorem c_X6_append (l : Launch) (E : En) (I A : Nat → Nat → Int32) (K : Nat → Nat → Int64) (w0 w1 w2 w3 w4 : Int32) (n : Nat) (hE : Ev cN E) (hil : I 0 5 = nI n) (hn : n ≤ 700) : Met l yX6_append (wz yX6_append cX6_append 6 (some .int)) (rmk 1 0 0 22) (va_Pc [.ref (eP E 0), .int w0, .int w1, .int w2, .int w3, .int w4] (Bw cN E cK (I, A, K))) (qWi cN E cK (fun zz uu => (n + 20 ≤ 700 ∧ zz = nI (n + 20) ∧ uu = (up2 I 0 5 (nI (n + 20)), cApp A n w0 w1 w2 w3 w4, K)) ∨ (700 < n + 20 ∧ zz = -1 ∧ uu = (I, A, K)))) 0 0 (cA cN E) := by
  refine en_ofW RX6 rfl (by decide +kernel) (Nat.le_of_ble_eq_true rfl) ?_
  intro p e s m below meth c ls S hr hlk hnm hl hB
  have hx := S.1
  have hb := S.2.1
  obtain ⟨hK, hC, hP⟩ := hB
  have hS : va_S (cA cN E) s.heap s.heap [] := va_S.rf
  have hl : lv_has ls 6 [(0, .ref (eP E 0)), (1, .int w0), (2, .int w1), (3, .int w2), (4, .int w3), (5, .int w4)] := hl
  refine lv_aload_n hx hb dX6_append_0 rfl (lv_at hl 0 rfl) ?_
  refine rw_geti (x := (I, A, K)) (v := nI n) S hK hP 0 (by decide) (cK_lo (by decide)) fk_X6_39 rfl hil dX6_append_1 ?_
  refine lv_bipush (v := 20) hx hb dX6_append_4 (by decide) ?_
  refine lv_iadd hx hb dX6_append_6 ?_
  refine tp_i (y := nI (n + 20)) (nI_add n 20) ?_
  refine lv_sipush (v := 700) hx hb dX6_append_7 (by decide) ?_
  refine lv_icmp_le (tgt := 15) hx hb dX6_append_10 (by decide) (fun h10 => ?_) (fun h10 => ?_)
  · have h10n : n + 20 ≤ 700 := (nI_leI (b := 700) (by omega) (by decide)).mp h10
    refine lv_aload_n hx hb dX6_append_15 rfl (lv_at hl 0 rfl) ?_
    refine lv_aload_n hx hb dX6_append_16 rfl (lv_at hl 0 rfl) ?_
    refine rw_geti (x := (I, A, K)) (v := nI n) S hK hP 0 (by decide) (cK_lo (by decide)) fk_X6_39 rfl hil dX6_append_17 ?_
    refine lv_iload_n hx hb dX6_append_20 rfl (lv_at hl 1 rfl) ?_
    refine cn_wv (ck_V (a := eP E 0) S lk_X6_46 (c_X6_putWord l E I A K n w0 hE (by omega)) ⟨rfl, rfl⟩ ⟨Nat.le_of_ble_eq_true rfl, Nat.le_of_ble_eq_true rfl⟩ bl_w (rc_w hK hP 0 (by decide) (cK_lo (by decide)) rfl) (bw_U hE hK hC hP hS) rfl hl.1 (Nat.le_of_ble_eq_true rfl) ⟨Nat.le_refl _, Nat.le_refl _⟩ dX6_append_21 rfl) hS (fun u2 H locs g3 hP hS => ?_)
    obtain rfl : u2 = (I, cPut A n w0, K) := g3
    have hP : Wp cN E cK (I, (cPut A n w0), K) H := hP
    refine lv_aload_n hx hb dX6_append_24 rfl (lv_at hl 0 rfl) ?_
    refine lv_aload_n hx hb dX6_append_25 rfl (lv_at hl 0 rfl) ?_
    refine rw_geti (x := (I, (cPut A n w0), K)) (v := nI n) S hK hP 0 (by decide) (cK_lo (by decide)) fk_X6_39 rfl hil dX6_append_26 ?_
    refine lv_iconst (v := 4) hx hb dX6_append_29 (by decide) ?_
    refine lv_iadd hx hb dX6_append_30 ?_
    refine tp_i (y := nI (n + 4)) (nI_add n 4) ?_
    refine lv_iload_n hx hb dX6_append_31 rfl (lv_at hl 2 rfl) ?_
    refine cn_wv (ck_V (a := eP E 0) S lk_X6_46 (c_X6_putWord l E I (cPut A n w0) K (n + 4) w1 hE (by omega)) ⟨rfl, rfl⟩ ⟨Nat.le_of_ble_eq_true rfl, Nat.le_of_ble_eq_true rfl⟩ bl_w (rc_w hK hP 0 (by decide) (cK_lo (by decide)) rfl) (bw_U hE hK hC hP hS) rfl hl.1 (Nat.le_of_ble_eq_true rfl) ⟨Nat.le_refl _, Nat.le_refl _⟩ dX6_append_32 rfl) hS (fun u5 H locs g6 hP hS => ?_)
    obtain rfl : u5 = (I, cPut (cPut A n w0) (n + 4) w1, K) := g6
    have hP : Wp cN E cK (I, (cPut (cPut A n w0) (n + 4) w1), K) H := hP
    refine lv_aload_n hx hb dX6_append_35 rfl (lv_at hl 0 rfl) ?_
    refine lv_aload_n hx hb dX6_append_36 rfl (lv_at hl 0 rfl) ?_
    refine rw_geti (x := (I, (cPut (cPut A n w0) (n + 4) w1), K)) (v := nI n) S hK hP 0 (by decide) (cK_lo (by decide)) fk_X6_39 rfl hil dX6_append_37 ?_
    refine lv_bipush (v := 8) hx hb dX6_append_40 (by decide) ?_
    refine lv_iadd hx hb dX6_append_42 ?_
    refine tp_i (y := nI (n + 8)) (nI_add n 8) ?_
    refine lv_iload_n hx hb dX6_append_43 rfl (lv_at hl 3 rfl) ?_
    refine cn_wv (ck_V (a := eP E 0) S lk_X6_46 (c_X6_putWord l E I (cPut (cPut A n w0) (n + 4) w1) K (n + 8) w2 hE (by omega)) ⟨rfl, rfl⟩ ⟨Nat.le_of_ble_eq_true rfl, Nat.le_of_ble_eq_true rfl⟩ bl_w (rc_w hK hP 0 (by decide) (cK_lo (by decide)) rfl) (bw_U hE hK hC hP hS) rfl hl.1 (Nat.le_of_ble_eq_true rfl) ⟨Nat.le_refl _, Nat.le_refl _⟩ dX6_append_44 rfl) hS (fun u8 H locs g9 hP hS => ?_)
    obtain rfl : u8 = (I, cPut (cPut (cPut A n w0) (n + 4) w1) (n + 8) w2, K) := g9
    have hP : Wp cN E cK (I, (cPut (cPut (cPut A n w0) (n + 4) w1) (n + 8) w2), K) H := hP
    refine lv_aload_n hx hb dX6_append_47 rfl (lv_at hl 0 rfl) ?_
    refine lv_aload_n hx hb dX6_append_48 rfl (lv_at hl 0 rfl) ?_
    refine rw_geti (x := (I, (cPut (cPut (cPut A n w0) (n + 4) w1) (n + 8) w2), K)) (v := nI n) S hK hP 0 (by decide) (cK_lo (by decide)) fk_X6_39 rfl hil dX6_append_49 ?_
    refine lv_bipush (v := 12) hx hb dX6_append_52 (by decide) ?_
    refine lv_iadd hx hb dX6_append_54 ?_
    refine tp_i (y := nI (n + 12)) (nI_add n 12) ?_
    refine lv_iload hx hb dX6_append_55 (lv_at hl 4 rfl) ?_
    refine cn_wv (ck_V (a := eP E 0) S lk_X6_46 (c_X6_putWord l E I (cPut (cPut (cPut A n w0) (n + 4) w1) (n + 8) w2) K (n + 12) w3 hE (by omega)) ⟨rfl, rfl⟩ ⟨Nat.le_of_ble_eq_true rfl, Nat.le_of_ble_eq_true rfl⟩ bl_w (rc_w hK hP 0 (by decide) (cK_lo (by decide)) rfl) (bw_U hE hK hC hP hS) rfl hl.1 (Nat.le_of_ble_eq_true rfl) ⟨Nat.le_refl _, Nat.le_refl _⟩ dX6_append_57 rfl) hS (fun u11 H locs g12 hP hS => ?_)
    obtain rfl : u11 = (I, cPut (cPut (cPut (cPut A n w0) (n + 4) w1) (n + 8) w2) (n + 12) w3, K) := g12
    have hP : Wp cN E cK (I, (cPut (cPut (cPut (cPut A n w0) (n + 4) w1) (n + 8) w2) (n + 12) w3), K) H := hP
    refine lv_aload_n hx hb dX6_append_60 rfl (lv_at hl 0 rfl) ?_
    refine lv_aload_n hx hb dX6_append_61 rfl (lv_at hl 0 rfl) ?_
    refine rw_geti (x := (I, (cPut (cPut (cPut (cPut A n w0) (n + 4) w1) (n + 8) w2) (n + 12) w3), K)) (v := nI n) S hK hP 0 (by decide) (cK_lo (by decide)) fk_X6_39 rfl hil dX6_append_62 ?_
    refine lv_bipush (v := 16) hx hb dX6_append_65 (by decide) ?_
    refine lv_iadd hx hb dX6_append_67 ?_
    refine tp_i (y := nI (n + 16)) (nI_add n 16) ?_
    refine lv_iload hx hb dX6_append_68 (lv_at hl 5 rfl) ?_
    refine cn_wv (ck_V (a := eP E 0) S lk_X6_46 (c_X6_putWord l E I (cPut (cPut (cPut (cPut A n w0) (n + 4) w1) (n + 8) w2) (n + 12) w3) K (n + 16) w4 hE (by omega)) ⟨rfl, rfl⟩ ⟨Nat.le_of_ble_eq_true rfl, Nat.le_of_ble_eq_true rfl⟩ bl_w (rc_w hK hP 0 (by decide) (cK_lo (by decide)) rfl) (bw_U hE hK hC hP hS) rfl hl.1 (Nat.le_of_ble_eq_true rfl) ⟨Nat.le_refl _, Nat.le_refl _⟩ dX6_append_70 rfl) hS (fun u14 H locs g15 hP hS => ?_)
    obtain rfl : u14 = (I, cPut (cPut (cPut (cPut (cPut A n w0) (n + 4) w1) (n + 8) w2) (n + 12) w3) (n + 16) w4, K) := g15
    have hP : Wp cN E cK (I, (cPut (cPut (cPut (cPut (cPut A n w0) (n + 4) w1) (n + 8) w2) (n + 12) w3) (n + 16) w4), K) H := hP
    refine lv_aload_n hx hb dX6_append_73 rfl (lv_at hl 0 rfl) ?_
    refine lv_dup hx hb dX6_append_74 rfl ?_
    refine rw_geti (x := (I, (cPut (cPut (cPut (cPut (cPut A n w0) (n + 4) w1) (n + 8) w2) (n + 12) w3) (n + 16) w4), K)) (v := nI n) S hK hP 0 (by decide) (cK_lo (by decide)) fk_X6_39 rfl hil dX6_append_75 ?_
    refine lv_bipush (v := 20) hx hb dX6_append_78 (by decide) ?_
    refine lv_iadd hx hb dX6_append_80 ?_
    refine tp_i (y := nI (n + 20)) (nI_add n 20) ?_
    refine rw_puti (x := (I, (cPut (cPut (cPut (cPut (cPut A n w0) (n + 4) w1) (n + 8) w2) (n + 12) w3) (n + 16) w4), K)) (v := (nI (n + 20))) S hE hK hP hS 0 (by decide) (cK_lo (by decide)) fk_X6_39 rfl tyX6_ok nmX6 ⟨rfl, by decide +kernel⟩ dX6_append_81 (fun H locs hP hS => ?_)
    have hP : Wp cN E cK ((up2 I 0 5 (nI (n + 20))), (cPut (cPut (cPut (cPut (cPut A n w0) (n + 4) w1) (n + 8) w2) (n + 12) w3) (n + 16) w4), K) H := hP
    refine lv_aload_n hx hb dX6_append_84 rfl (lv_at hl 0 rfl) ?_
    refine rw_geti (x := ((up2 I 0 5 (nI (n + 20))), (cPut (cPut (cPut (cPut (cPut A n w0) (n + 4) w1) (n + 8) w2) (n + 12) w3) (n + 16) w4), K)) (v := (nI (n + 20))) S hK hP 0 (by decide) (cK_lo (by decide)) fk_X6_39 rfl (up2_eq (f := I) (q := 0) (j := 5) (v := (nI (n + 20)))) dX6_append_85 ?_
    exact re_wi (x := ((up2 I 0 5 (nI (n + 20))), (cPut (cPut (cPut (cPut (cPut A n w0) (n + 4) w1) (n + 8) w2) (n + 12) w3) (n + 16) w4), K)) (v := (nI (n + 20))) hx hb hr hlk hP hS (Or.inl ⟨h10n, rfl, rfl⟩) dX6_append_88
  · have h10n : ¬ n + 20 ≤ 700 := fun q => h10 ((nI_leI (b := 700) (by omega) (by decide)).mpr q)
    refine lv_iconst (v := (-1)) hx hb dX6_append_13 (by decide) ?_
    exact re_wi (x := (I, A, K)) (v := (-1)) hx hb hr hlk hP hS (Or.inr ⟨by omega, rfl, rfl⟩) dX6_append_14

set_option maxHeartbeats 1000000 in
set_option maxRecDepth 100000 in
theorem c_X6_errorOffset (l : Launch) (E : En) (I A : Nat → Nat → Int32) (K : Nat → Nat → Int64)   : Met l yX6_errorOffset (wz yX6_errorOffset cX6_errorOffset 1 (some .int)) (rmk 0 0 0 0) (va_Pc [.ref (eP E 0)] (Bw cN E cK (I, A, K))) (qSi (fun zz => zz = I 0 6)) 0 0 fr0 := by
  refine en_ofW RX6 rfl (by decide +kernel) (Nat.le_of_ble_eq_true rfl) ?_
  intro p e s m below meth c ls S hr hlk hnm hl hB
  have hx := S.1
  have hb := S.2.1
  obtain ⟨hK, hC, hP⟩ := hB
  have hS : va_S (cA cN E) s.heap s.heap [] := va_S.rf
  have hl : lv_has ls 1 [(0, .ref (eP E 0))] := hl
  refine lv_aload_n hx hb dX6_errorOffset_0 rfl (lv_at hl 0 rfl) ?_
  refine rw_geti (x := (I, A, K)) (v := I 0 6) S hK hP 0 (by decide) (cK_lo (by decide)) fk_X6_43 rfl rfl dX6_errorOffset_1 ?_
  exact re_si (v := I 0 6) hx hb hr hlk rfl dX6_errorOffset_4

set_option maxHeartbeats 1000000 in
set_option maxRecDepth 100000 in
theorem c_X6_roleCount (l : Launch) (E : En) (I A : Nat → Nat → Int32) (K : Nat → Nat → Int64) (nr nu : Nat) (hE : Ev cN E) (hD : DOk I A 0 nr nu) : Met l yX6_roleCount (wz yX6_roleCount cX6_roleCount 1 (some .int)) (rmk 0 0 0 0) (va_Pc [.ref (eP E 0)] (Bw cN E cK (I, A, K))) (qSi (fun zz => zz = nI nr)) 0 0 fr0 := by
  refine en_ofW RX6 rfl (by decide +kernel) (Nat.le_of_ble_eq_true rfl) ?_
  intro p e s m below meth c ls S hr hlk hnm hl hB
  have hx := S.1
  have hb := S.2.1
  obtain ⟨hK, hC, hP⟩ := hB
  have hS : va_S (cA cN E) s.heap s.heap [] := va_S.rf
  have hl : lv_has ls 1 [(0, .ref (eP E 0))] := hl
  obtain ⟨⟨hn1, hn2⟩, ⟨hr0, hr3⟩, hu3⟩ := id hD
  refine lv_aload_n hx hb dX6_roleCount_0 rfl (lv_at hl 0 rfl) ?_
  refine rw_getr (x := (I, A, K)) S hK hP 0 (by decide) (cK_lo (by decide)) fk_X6_25 rfl dX6_roleCount_1 ?_
  refine rw_geti (x := (I, A, K)) (v := nI nr) S hK hP (dB 0 0) (dB_lt (by decide) (by decide)) (cK_D (by decide)) fk_X6_75 rfl hr0 dX6_roleCount_4 ?_
  exact re_si (v := nI nr) hx hb hr hlk rfl dX6_roleCount_7

set_option maxHeartbeats 1000000 in
set_option maxRecDepth 100000 in
theorem c_X6_ruleCount (l : Launch) (E : En) (I A : Nat → Nat → Int32) (K : Nat → Nat → Int64) (nr nu : Nat) (hE : Ev cN E) (hD : DOk I A 0 nr nu) : Met l yX6_ruleCount (wz yX6_ruleCount cX6_ruleCount 1 (some .int)) (rmk 0 0 0 0) (va_Pc [.ref (eP E 0)] (Bw cN E cK (I, A, K))) (qSi (fun zz => zz = nI nu)) 0 0 fr0 := by
  refine en_ofW RX6 rfl (by decide +kernel) (Nat.le_of_ble_eq_true rfl) ?_
  intro p e s m below meth c ls S hr hlk hnm hl hB
  have hx := S.1
  have hb := S.2.1
  obtain ⟨hK, hC, hP⟩ := hB
  have hS : va_S (cA cN E) s.heap s.heap [] := va_S.rf
  have hl : lv_has ls 1 [(0, .ref (eP E 0))] := hl
  obtain ⟨⟨hn1, hn2⟩, ⟨hr0, hr3⟩, hu3⟩ := id hD
  refine lv_aload_n hx hb dX6_ruleCount_0 rfl (lv_at hl 0 rfl) ?_
  refine rw_getr (x := (I, A, K)) S hK hP 0 (by decide) (cK_lo (by decide)) fk_X6_25 rfl dX6_ruleCount_1 ?_
  refine rw_geti (x := (I, A, K)) (v := nI nu) S hK hP (dB 0 0) (dB_lt (by decide) (by decide)) (cK_D (by decide)) fk_X6_72 rfl hr3 dX6_ruleCount_4 ?_
  exact re_si (v := nI nu) hx hb hr hlk rfl dX6_ruleCount_7

set_option maxHeartbeats 1000000 in
set_option maxRecDepth 100000 in
theorem c_X6_violations (l : Launch) (E : En) (I A : Nat → Nat → Int32) (K : Nat → Nat → Int64) (nr nu : Nat) (hE : Ev cN E) (hD : DOk I A 0 nr nu) : Met l yX6_violations (wz yX6_violations cX6_violations 1 (some .int)) (rmk 5 0 0 114) (va_Pc [.ref (eP E 0)] (Bw cN E cK (I, A, K))) (qSi (fun zz => zz = cVio A 0 0 nu + cVio A 0 1 nu)) 0 0 fr0 := by
  refine en_ofW RX6 rfl (by decide +kernel) (Nat.le_of_ble_eq_true rfl) ?_
  intro p e s m below meth c ls S hr hlk hnm hl hB
  have hx := S.1
  have hb := S.2.1
  obtain ⟨hK, hC, hP⟩ := hB
  have hS : va_S (cA cN E) s.heap s.heap [] := va_S.rf
  have hl : lv_has ls 1 [(0, .ref (eP E 0))] := hl
  obtain ⟨⟨hn1, hn2⟩, ⟨hr0, hr3⟩, hu3⟩ := id hD
  refine lv_aload_n hx hb dX6_violations_0 rfl (lv_at hl 0 rfl) ?_
  refine rw_getr (x := (I, A, K)) S hK hP 0 (by decide) (cK_lo (by decide)) fk_X6_25 rfl dX6_violations_1 ?_
  refine lv_iconst (v := 0) hx hb dX6_violations_4 (by decide) ?_
  refine cn_si (ck_V (a := eP E (dB 0 0)) S lk_X6_128 (c_X1_violatedIn l E I A K 0 nr nu 0 hE (by decide) hD (by decide)) ⟨rfl, rfl⟩ ⟨Nat.le_of_ble_eq_true rfl, Nat.le_of_ble_eq_true rfl⟩ bl_w (rc_w hK hP (dB 0 0) (dB_lt (by decide) (by decide)) (cK_D (by decide)) rfl) (bw_U hE hK hC hP hS) rfl hl.1 (Nat.le_of_ble_eq_true rfl) ⟨Nat.le_refl _, Nat.le_refl _⟩ dX6_violations_5 rfl) (fun r1 g2 => ?_)
  obtain rfl : r1 = cVio A 0 0 nu := g2
  refine lv_aload_n hx hb dX6_violations_8 rfl (lv_at hl 0 rfl) ?_
  refine rw_getr (x := (I, A, K)) S hK hP 0 (by decide) (cK_lo (by decide)) fk_X6_25 rfl dX6_violations_9 ?_
  refine lv_iconst (v := 1) hx hb dX6_violations_12 (by decide) ?_
  refine cn_si (ck_V (a := eP E (dB 0 0)) S lk_X6_128 (c_X1_violatedIn l E I A K 0 nr nu 1 hE (by decide) hD (by decide)) ⟨rfl, rfl⟩ ⟨Nat.le_of_ble_eq_true rfl, Nat.le_of_ble_eq_true rfl⟩ bl_w (rc_w hK hP (dB 0 0) (dB_lt (by decide) (by decide)) (cK_D (by decide)) rfl) (bw_U hE hK hC hP hS) rfl hl.1 (Nat.le_of_ble_eq_true rfl) ⟨Nat.le_refl _, Nat.le_refl _⟩ dX6_violations_13 rfl) (fun r3 g4 => ?_)
  obtain rfl : r3 = cVio A 0 1 nu := g4
  refine lv_iadd hx hb dX6_violations_16 ?_
  exact re_si (v := ((cVio A 0 0 nu) + (cVio A 0 1 nu))) hx hb hr hlk rfl dX6_violations_17

set_option maxHeartbeats 1000000 in
set_option maxRecDepth 100000 in
theorem c_X6_swapSchemes (l : Launch) (E : En) (I A : Nat → Nat → Int32) (K : Nat → Nat → Int64) (nr nu nx kp : Nat) (hE : Ev cN E) (hD : DOk I A 0 nr nu) (hnx : I 6 1 = nI nx) (hkp : I 6 2 = nI kp) (hn8 : nx < 8) (hk8 : kp ≤ 8) : Met l yX6_swapSchemes (wz yX6_swapSchemes cX6_swapSchemes 1 (some .int)) (rmk 6 0 0 134) (va_Pc [.ref (eP E 0)] (Bw cN E cK (I, A, K))) (qWi cN E cK (fun zz uu => zz = cVio (cExc (cCpy A (2 + nx) 0) 0 nr) 0 0 nu + cVio (cExc (cCpy A (2 + nx) 0) 0 nr) 0 1 nu ∧ uu = (hKeI I 0 nx kp, cExc (cCpy A (2 + nx) 0) 0 nr, K))) 0 0 (cA cN E) := by
  refine en_ofW RX6 rfl (by decide +kernel) (Nat.le_of_ble_eq_true rfl) ?_
  intro p e s m below meth c ls S hr hlk hnm hl hB
  have hx := S.1
  have hb := S.2.1
  obtain ⟨hK, hC, hP⟩ := hB
  have hS : va_S (cA cN E) s.heap s.heap [] := va_S.rf
  have hl : lv_has ls 1 [(0, .ref (eP E 0))] := hl
  obtain ⟨⟨hn1, hn2⟩, ⟨hr0, hr3⟩, hu3⟩ := id hD
  refine lv_aload_n hx hb dX6_swapSchemes_0 rfl (lv_at hl 0 rfl) ?_
  refine rw_getr (x := (I, A, K)) S hK hP 0 (by decide) (cK_lo (by decide)) fk_X6_35 rfl dX6_swapSchemes_1 ?_
  refine lv_aload_n hx hb dX6_swapSchemes_4 rfl (lv_at hl 0 rfl) ?_
  refine rw_getr (x := (I, A, K)) S hK hP 0 (by decide) (cK_lo (by decide)) fk_X6_25 rfl dX6_swapSchemes_5 ?_
  refine cn_wv (ck_V (a := eP E 6) S lk_X6_65 (c_X3_keep l E I A K 0 nx kp hE hnx hkp hn8 hk8 (by decide)) ⟨rfl, rfl⟩ ⟨Nat.le_of_ble_eq_true rfl, Nat.le_of_ble_eq_true rfl⟩ bl_w (rc_w hK hP 6 (by decide) (cK_lo (by decide)) rfl) (bw_U hE hK hC hP hS) rfl hl.1 (Nat.le_of_ble_eq_true rfl) ⟨Nat.le_refl _, Nat.le_refl _⟩ dX6_swapSchemes_8 rfl) hS (fun u2 H locs g3 hP hS => ?_)
  obtain rfl : u2 = (hKeI I 0 nx kp, cCpy A (2 + nx) 0, K) := g3
  have hP : Wp cN E cK ((hKeI I 0 nx kp), (cCpy A (2 + nx) 0), K) H := hP
  refine lv_aload_n hx hb dX6_swapSchemes_11 rfl (lv_at hl 0 rfl) ?_
  refine rw_getr (x := ((hKeI I 0 nx kp), (cCpy A (2 + nx) 0), K)) S hK hP 0 (by decide) (cK_lo (by decide)) fk_X6_25 rfl dX6_swapSchemes_12 ?_
  refine cn_wv (ck_V (a := eP E (dB 0 0)) S lk_X6_171 (c_X1_exchangeColours l E (hKeI I 0 nx kp) (cCpy A (2 + nx) 0) K 0 nr nu hE (by decide) (DOk_keep (by decide) hD)) ⟨rfl, rfl⟩ ⟨Nat.le_of_ble_eq_true rfl, Nat.le_of_ble_eq_true rfl⟩ bl_w (rc_w hK hP (dB 0 0) (dB_lt (by decide) (by decide)) (cK_D (by decide)) rfl) (bw_U hE hK hC hP hS) rfl hl.1 (Nat.le_of_ble_eq_true rfl) ⟨Nat.le_refl _, Nat.le_refl _⟩ dX6_swapSchemes_15 rfl) hS (fun u5 H locs g6 hP hS => ?_)
  obtain rfl : u5 = ((hKeI I 0 nx kp), cExc (cCpy A (2 + nx) 0) 0 nr, K) := g6
  have hP : Wp cN E cK ((hKeI I 0 nx kp), (cExc (cCpy A (2 + nx) 0) 0 nr), K) H := hP
  refine lv_aload_n hx hb dX6_swapSchemes_18 rfl (lv_at hl 0 rfl) ?_
  refine cn_si (ck_V (a := eP E 0) S lk_X6_174 (c_X6_violations l E (hKeI I 0 nx kp) (cExc (cCpy A (2 + nx) 0) 0 nr) K nr nu hE (DOk_exc (DOk_keep (by decide) hD))) ⟨rfl, rfl⟩ ⟨Nat.le_of_ble_eq_true rfl, Nat.le_of_ble_eq_true rfl⟩ bl_w (rc_w hK hP 0 (by decide) (cK_lo (by decide)) rfl) (bw_U hE hK hC hP hS) rfl hl.1 (Nat.le_of_ble_eq_true rfl) ⟨Nat.le_refl _, Nat.le_refl _⟩ dX6_swapSchemes_19 rfl) (fun r7 g8 => ?_)
  obtain rfl : r7 = cVio (cExc (cCpy A (2 + nx) 0) 0 nr) 0 0 nu + cVio (cExc (cCpy A (2 + nx) 0) 0 nr) 0 1 nu := g8
  exact re_wi (x := ((hKeI I 0 nx kp), (cExc (cCpy A (2 + nx) 0) 0 nr), K)) (v := (cVio (cExc (cCpy A (2 + nx) 0) 0 nr) 0 0 nu + cVio (cExc (cCpy A (2 + nx) 0) 0 nr) 0 1 nu)) hx hb hr hlk hP hS ⟨rfl, rfl⟩ dX6_swapSchemes_22

set_option maxHeartbeats 1000000 in
set_option maxRecDepth 100000 in
theorem c_X6_undo (l : Launch) (E : En) (I A : Nat → Nat → Int32) (K : Nat → Nat → Int64) (nx kp : Nat) (hE : Ev cN E) (hnx : I 6 1 = nI nx) (hkp : I 6 2 = nI kp) (hn8 : nx < 8) (hk8 : kp ≤ 8) : Met l yX6_undo (wz yX6_undo cX6_undo 1 (some .int)) (rmk 3 0 0 103) (va_Pc [.ref (eP E 0)] (Bw cN E cK (I, A, K))) (qWi cN E cK (fun zz uu => (kp = 0 ∧ zz = -1 ∧ uu = (I, A, K)) ∨ (0 < kp ∧ zz = nI (kp - 1) ∧ uu = (hTaI I 0 nx kp, cCpy A 0 (2 + (nx + 7) % 8), K)))) 0 0 (cA cN E) := by
  refine en_ofW RX6 rfl (by decide +kernel) (Nat.le_of_ble_eq_true rfl) ?_
  intro p e s m below meth c ls S hr hlk hnm hl hB
  have hx := S.1
  have hb := S.2.1
  obtain ⟨hK, hC, hP⟩ := hB
  have hS : va_S (cA cN E) s.heap s.heap [] := va_S.rf
  have hl : lv_has ls 1 [(0, .ref (eP E 0))] := hl
  refine lv_aload_n hx hb dX6_undo_0 rfl (lv_at hl 0 rfl) ?_
  refine rw_getr (x := (I, A, K)) S hK hP 0 (by decide) (cK_lo (by decide)) fk_X6_35 rfl dX6_undo_1 ?_
  refine rw_geti (x := (I, A, K)) (v := nI kp) S hK hP 6 (by decide) (cK_lo (by decide)) fk_X6_177 rfl hkp dX6_undo_4 ?_
  refine lv_if_ne (tgt := 12) hx hb dX6_undo_7 (by decide) (fun h7 => ?_) (fun h7 => ?_)
  · have hk0 : 0 < kp := Nat.pos_of_ne_zero (fun q => h7 (by rw [q]; rfl))
    have hT2 : hTaI I 0 nx kp 6 2 = nI (kp - 1) := (cCpI_lo (by decide)).trans rfl
    refine lv_aload_n hx hb dX6_undo_12 rfl (lv_at hl 0 rfl) ?_
    refine rw_getr (x := (I, A, K)) S hK hP 0 (by decide) (cK_lo (by decide)) fk_X6_35 rfl dX6_undo_13 ?_
    refine lv_aload_n hx hb dX6_undo_16 rfl (lv_at hl 0 rfl) ?_
    refine rw_getr (x := (I, A, K)) S hK hP 0 (by decide) (cK_lo (by decide)) fk_X6_25 rfl dX6_undo_17 ?_
    refine cn_wv (ck_V (a := eP E 6) S lk_X6_180 (c_X3_takeBack l E I A K 0 nx kp hE hnx hkp hn8 hk8 (by decide) hk0) ⟨rfl, rfl⟩ ⟨Nat.le_of_ble_eq_true rfl, Nat.le_of_ble_eq_true rfl⟩ bl_w (rc_w hK hP 6 (by decide) (cK_lo (by decide)) rfl) (bw_U hE hK hC hP hS) rfl hl.1 (Nat.le_of_ble_eq_true rfl) ⟨Nat.le_refl _, Nat.le_refl _⟩ dX6_undo_20 rfl) hS (fun u2 H locs g3 hP hS => ?_)
    obtain rfl : u2 = (hTaI I 0 nx kp, cCpy A 0 (2 + (nx + 7) % 8), K) := g3
    have hP : Wp cN E cK ((hTaI I 0 nx kp), (cCpy A 0 (2 + (nx + 7) % 8)), K) H := hP
    refine lv_aload_n hx hb dX6_undo_23 rfl (lv_at hl 0 rfl) ?_
    refine rw_getr (x := ((hTaI I 0 nx kp), (cCpy A 0 (2 + (nx + 7) % 8)), K)) S hK hP 0 (by decide) (cK_lo (by decide)) fk_X6_35 rfl dX6_undo_24 ?_
    refine rw_geti (x := ((hTaI I 0 nx kp), (cCpy A 0 (2 + (nx + 7) % 8)), K)) (v := nI (kp - 1)) S hK hP 6 (by decide) (cK_lo (by decide)) fk_X6_177 rfl hT2 dX6_undo_27 ?_
    exact re_wi (x := ((hTaI I 0 nx kp), (cCpy A 0 (2 + (nx + 7) % 8)), K)) (v := nI (kp - 1)) hx hb hr hlk hP hS (Or.inr ⟨hk0, rfl, rfl⟩) dX6_undo_30
  · have hk0 : kp = 0 := (nI_eq (b := 0) (by omega) (by decide)).mp h7
    refine lv_iconst (v := (-1)) hx hb dX6_undo_10 (by decide) ?_
    exact re_wi (x := (I, A, K)) (v := (-1)) hx hb hr hlk hP hS (Or.inl ⟨hk0, rfl, rfl⟩) dX6_undo_11

set_option maxHeartbeats 1000000 in
set_option maxRecDepth 100000 in
theorem c_X6_checksum (l : Launch) (E : En) (I A : Nat → Nat → Int32) (K : Nat → Nat → Int64) (nr nu : Nat) (hE : Ev cN E) (hD : DOk I A 0 nr nu) : Met l yX6_checksum (wz yX6_checksum cX6_checksum 4 (some .long)) (rmk 4 0 0 91) (va_Pc [.ref (eP E 0)] (Bw cN E cK (I, A, K))) (qSl (fun zz => zz = cCkU A 0 (cCkR A 0 nr) nu)) 0 0 fr0 := by
  refine en_ofW RX6 rfl (by decide +kernel) (Nat.le_of_ble_eq_true rfl) ?_
  intro p e s m below meth c ls S hr hlk hnm hl hB
  have hx := S.1
  have hb := S.2.1
  obtain ⟨hK, hC, hP⟩ := hB
  have hS : va_S (cA cN E) s.heap s.heap [] := va_S.rf
  have hl : lv_has ls 4 [(0, .ref (eP E 0))] := hl
  obtain ⟨⟨hn1, hn2⟩, ⟨hr0, hr3⟩, hu3⟩ := id hD
  refine lv_lconst (v := 0) hx hb dX6_checksum_0 (by decide) ?_
  refine lv_lstore_n (lv' := [(1, .long 0), (0, .ref (eP E 0))]) hx hb dX6_checksum_1 rfl hl (by decide) rfl (fun ls hl => ?_)
  refine lv_iconst (v := 0) hx hb dX6_checksum_2 (by decide) ?_
  refine lv_istore_n (lv' := [(3, .int 0), (1, .long 0), (0, .ref (eP E 0))]) hx hb dX6_checksum_3 rfl hl (by decide) rfl (fun ls hl => ?_)
  have HL : ∀ (n i : Nat), i + n = nr → ∀ ls : Array Slot, lv_has ls 4 [(3, .int (nI i)), (1, .long (cCkR A 0 i)), (0, .ref (eP E 0))] → W p l e (rmk 4 0 0 91) s m ([.ref (eP E 0)] : List Value).toArray below meth c s.heap [] 0 0 (MQ below (qSl (fun zz => zz = cCkU A 0 (cCkR A 0 nr) nu)) ([.ref (eP E 0)] : List Value).toArray s 0 0 fr0) (F0 m 4 ls []) := by
    intro n
    induction n with
    | zero =>
      intro i hi ls hl
      have hiN : i = nr := by omega
      rw [hiN] at hl
      refine lv_iload_n hx hb dX6_checksum_4 rfl (lv_at hl 0 rfl) ?_
      refine lv_aload_n hx hb dX6_checksum_5 rfl (lv_at hl 2 rfl) ?_
      refine rw_getr (x := (I, A, K)) S hK hP 0 (by decide) (cK_lo (by decide)) fk_X6_25 rfl dX6_checksum_6 ?_
      refine rw_geti (x := (I, A, K)) (v := nI nr) S hK hP (dB 0 0) (dB_lt (by decide) (by decide)) (cK_D (by decide)) fk_X6_75 rfl hr0 dX6_checksum_9 ?_
      refine lv_icmp_ge (tgt := 84) hx hb dX6_checksum_12 (by decide) (fun h12 => ?_) (fun h12 => absurd (Int32.le_refl _) h12)
      refine lv_iconst (v := 0) hx hb dX6_checksum_84 (by decide) ?_
      refine lv_istore_n (lv' := [(3, .int 0), (1, .long (cCkR A 0 nr)), (0, .ref (eP E 0))]) hx hb dX6_checksum_85 rfl hl (by decide) rfl (fun ls hl => ?_)
      have HL : ∀ (n i : Nat), i + n = nu → ∀ ls : Array Slot, lv_has ls 4 [(3, .int (nI i)), (1, .long (cCkU A 0 (cCkR A 0 nr) i)), (0, .ref (eP E 0))] → W p l e (rmk 4 0 0 91) s m ([.ref (eP E 0)] : List Value).toArray below meth c s.heap [] 0 0 (MQ below (qSl (fun zz => zz = cCkU A 0 (cCkR A 0 nr) nu)) ([.ref (eP E 0)] : List Value).toArray s 0 0 fr0) (F0 m 86 ls []) := by
        intro n
        induction n with
        | zero =>
          intro i hi ls hl
          have hiN : i = nu := by omega
          rw [hiN] at hl
          refine lv_iload_n hx hb dX6_checksum_86 rfl (lv_at hl 0 rfl) ?_
          refine lv_aload_n hx hb dX6_checksum_87 rfl (lv_at hl 2 rfl) ?_
          refine rw_getr (x := (I, A, K)) S hK hP 0 (by decide) (cK_lo (by decide)) fk_X6_25 rfl dX6_checksum_88 ?_
          refine rw_geti (x := (I, A, K)) (v := nI nu) S hK hP (dB 0 0) (dB_lt (by decide) (by decide)) (cK_D (by decide)) fk_X6_72 rfl hr3 dX6_checksum_91 ?_
          refine lv_icmp_ge (tgt := 137) hx hb dX6_checksum_94 (by decide) (fun h94 => ?_) (fun h94 => absurd (Int32.le_refl _) h94)
          refine lv_lload_n hx hb dX6_checksum_137 rfl (lv_at hl 1 rfl) ?_
          exact re_sl (v := cCkU A 0 (cCkR A 0 nr) nu) hx hb hr hlk rfl dX6_checksum_138
        | succ n ih =>
          intro i hi ls hl
          have hlt : i < nu := by omega
          refine lv_iload_n hx hb dX6_checksum_86 rfl (lv_at hl 0 rfl) ?_
          refine lv_aload_n hx hb dX6_checksum_87 rfl (lv_at hl 2 rfl) ?_
          refine rw_getr (x := (I, A, K)) S hK hP 0 (by decide) (cK_lo (by decide)) fk_X6_25 rfl dX6_checksum_88 ?_
          refine rw_geti (x := (I, A, K)) (v := nI nu) S hK hP (dB 0 0) (dB_lt (by decide) (by decide)) (cK_D (by decide)) fk_X6_72 rfl hr3 dX6_checksum_91 ?_
          refine lv_icmp_ge (tgt := 137) hx hb dX6_checksum_94 (by decide) (fun h94 => absurd h94 (nI_ge hlt (by omega))) (fun h94 => ?_)
          refine lv_ldc2 (v := 31) hx hb S.2.2.2.1 (S.2.2.2.2 _ kc_X6_183) dX6_checksum_97 ?_
          refine lv_lload_n hx hb dX6_checksum_100 rfl (lv_at hl 1 rfl) ?_
          refine lv_lmul hx hb dX6_checksum_101 ?_
          refine lv_aload_n hx hb dX6_checksum_102 rfl (lv_at hl 2 rfl) ?_
          refine rw_getr (x := (I, A, K)) S hK hP 0 (by decide) (cK_lo (by decide)) fk_X6_25 rfl dX6_checksum_103 ?_
          refine lv_iload_n hx hb dX6_checksum_106 rfl (lv_at hl 0 rfl) ?_
          refine lv_iconst (v := 0) hx hb dX6_checksum_107 (by decide) ?_
          refine cn_si (ck_V (a := eP E (dB 0 0)) S lk_X6_125 (c_X1_ruleValue l E I A K 0 nr nu i 0 hE (by decide) hD hlt (by decide)) ⟨rfl, rfl⟩ ⟨Nat.le_of_ble_eq_true rfl, Nat.le_of_ble_eq_true rfl⟩ bl_w (rc_w hK hP (dB 0 0) (dB_lt (by decide) (by decide)) (cK_D (by decide)) rfl) (bw_U hE hK hC hP hS) rfl hl.1 (Nat.le_of_ble_eq_true rfl) ⟨Nat.le_refl _, Nat.le_refl _⟩ dX6_checksum_108 rfl) (fun r1 g2 => ?_)
          obtain rfl : r1 = cVal A 0 i 0 := g2
          refine lv_i2l hx hb dX6_checksum_111 rfl ?_
          refine lv_ladd hx hb dX6_checksum_112 ?_
          refine lv_lstore_n (lv' := [(1, .long ((31 * (cCkU A 0 (cCkR A 0 nr) i)) + ((cVal A 0 i 0).toInt64))), (3, .int (nI i)), (0, .ref (eP E 0))]) hx hb dX6_checksum_113 rfl hl (by decide) rfl (fun ls hl => ?_)
          refine lv_ldc2 (v := 31) hx hb S.2.2.2.1 (S.2.2.2.2 _ kc_X6_183) dX6_checksum_114 ?_
          refine lv_lload_n hx hb dX6_checksum_117 rfl (lv_at hl 0 rfl) ?_
          refine lv_lmul hx hb dX6_checksum_118 ?_
          refine lv_aload_n hx hb dX6_checksum_119 rfl (lv_at hl 2 rfl) ?_
          refine rw_getr (x := (I, A, K)) S hK hP 0 (by decide) (cK_lo (by decide)) fk_X6_25 rfl dX6_checksum_120 ?_
          refine lv_iload_n hx hb dX6_checksum_123 rfl (lv_at hl 1 rfl) ?_
          refine lv_iconst (v := 1) hx hb dX6_checksum_124 (by decide) ?_
          refine cn_si (ck_V (a := eP E (dB 0 0)) S lk_X6_125 (c_X1_ruleValue l E I A K 0 nr nu i 1 hE (by decide) hD hlt (by decide)) ⟨rfl, rfl⟩ ⟨Nat.le_of_ble_eq_true rfl, Nat.le_of_ble_eq_true rfl⟩ bl_w (rc_w hK hP (dB 0 0) (dB_lt (by decide) (by decide)) (cK_D (by decide)) rfl) (bw_U hE hK hC hP hS) rfl hl.1 (Nat.le_of_ble_eq_true rfl) ⟨Nat.le_refl _, Nat.le_refl _⟩ dX6_checksum_125 rfl) (fun r3 g4 => ?_)
          obtain rfl : r3 = cVal A 0 i 1 := g4
          refine lv_i2l hx hb dX6_checksum_128 rfl ?_
          refine lv_ladd hx hb dX6_checksum_129 ?_
          refine lv_lstore_n (lv' := [(1, .long ((31 * ((31 * (cCkU A 0 (cCkR A 0 nr) i)) + ((cVal A 0 i 0).toInt64))) + ((cVal A 0 i 1).toInt64))), (3, .int (nI i)), (0, .ref (eP E 0))]) hx hb dX6_checksum_130 rfl hl (by decide) rfl (fun ls hl => ?_)
          refine lv_iinc (v := nI (i + 1)) (lv' := [(3, .int (nI (i + 1))), (1, .long ((31 * ((31 * (cCkU A 0 (cCkR A 0 nr) i)) + ((cVal A 0 i 0).toInt64))) + ((cVal A 0 i 1).toInt64))), (0, .ref (eP E 0))]) hx hb dX6_checksum_131 hl (k := 1) rfl (nI_1 _) (by decide) rfl (fun ls hl => ?_)
          refine lv_goto (tgt := 86) hx hb dX6_checksum_134 (by decide) ?_
          refine ih (i + 1) (by omega) ls ?_
          rw [show cCkU A 0 (cCkR A 0 nr) (i + 1) = ((31 * ((31 * (cCkU A 0 (cCkR A 0 nr) i)) + ((cVal A 0 i 0).toInt64))) + ((cVal A 0 i 1).toInt64)) from rfl]
          exact lv_sub hl [0, 1, 2] rfl
      exact HL nu 0 (by omega) ls (lv_sub hl [0, 1, 2] rfl)
    | succ n ih =>
      intro i hi ls hl
      have hlt : i < nr := by omega
      refine lv_iload_n hx hb dX6_checksum_4 rfl (lv_at hl 0 rfl) ?_
      refine lv_aload_n hx hb dX6_checksum_5 rfl (lv_at hl 2 rfl) ?_
      refine rw_getr (x := (I, A, K)) S hK hP 0 (by decide) (cK_lo (by decide)) fk_X6_25 rfl dX6_checksum_6 ?_
      refine rw_geti (x := (I, A, K)) (v := nI nr) S hK hP (dB 0 0) (dB_lt (by decide) (by decide)) (cK_D (by decide)) fk_X6_75 rfl hr0 dX6_checksum_9 ?_
      refine lv_icmp_ge (tgt := 84) hx hb dX6_checksum_12 (by decide) (fun h12 => absurd h12 (nI_ge hlt (by omega))) (fun h12 => ?_)
      refine lv_ldc2 (v := 31) hx hb S.2.2.2.1 (S.2.2.2.2 _ kc_X6_183) dX6_checksum_15 ?_
      refine lv_lload_n hx hb dX6_checksum_18 rfl (lv_at hl 1 rfl) ?_
      refine lv_lmul hx hb dX6_checksum_19 ?_
      refine lv_aload_n hx hb dX6_checksum_20 rfl (lv_at hl 2 rfl) ?_
      refine rw_getr (x := (I, A, K)) S hK hP 0 (by decide) (cK_lo (by decide)) fk_X6_25 rfl dX6_checksum_21 ?_
      refine rw_getr (x := (I, A, K)) S hK hP (dB 0 0) (dB_lt (by decide) (by decide)) (cK_D (by decide)) fk_X6_85 rfl dX6_checksum_24 ?_
      refine lv_iconst (v := 0) hx hb dX6_checksum_27 (by decide) ?_
      refine rw_aald (x := (I, A, K)) (r := (dB 0 2)) S hK hP (dB 0 1) (dB_lt (by decide) (by decide)) 5 (cK_D (by decide)) rfl rfl 0 rfl (by decide) (by decide) rfl dX6_checksum_28 ?_
      refine lv_iload_n hx hb dX6_checksum_29 rfl (lv_at hl 0 rfl) ?_
      refine rw_iald (x := (I, A, K)) (v := A (dB 0 2) i) S hK hP (dB 0 2) (dB_lt (by decide) (by decide)) (cK_D (by decide)) i rfl (by omega) (by decide) rfl dX6_checksum_30 ?_
      refine lv_i2l hx hb dX6_checksum_31 rfl ?_
      refine lv_ladd hx hb dX6_checksum_32 ?_
      refine lv_lstore_n (lv' := [(1, .long ((31 * (cCkR A 0 i)) + ((A (dB 0 2) i).toInt64))), (3, .int (nI i)), (0, .ref (eP E 0))]) hx hb dX6_checksum_33 rfl hl (by decide) rfl (fun ls hl => ?_)
      refine lv_ldc2 (v := 31) hx hb S.2.2.2.1 (S.2.2.2.2 _ kc_X6_183) dX6_checksum_34 ?_
      refine lv_lload_n hx hb dX6_checksum_37 rfl (lv_at hl 0 rfl) ?_
      refine lv_lmul hx hb dX6_checksum_38 ?_
      refine lv_aload_n hx hb dX6_checksum_39 rfl (lv_at hl 2 rfl) ?_
      refine rw_getr (x := (I, A, K)) S hK hP 0 (by decide) (cK_lo (by decide)) fk_X6_25 rfl dX6_checksum_40 ?_
      refine rw_getr (x := (I, A, K)) S hK hP (dB 0 0) (dB_lt (by decide) (by decide)) (cK_D (by decide)) fk_X6_85 rfl dX6_checksum_43 ?_
      refine lv_iconst (v := 1) hx hb dX6_checksum_46 (by decide) ?_
      refine rw_aald (x := (I, A, K)) (r := (dB 0 3)) S hK hP (dB 0 1) (dB_lt (by decide) (by decide)) 5 (cK_D (by decide)) rfl rfl 1 rfl (by decide) (by decide) rfl dX6_checksum_47 ?_
      refine lv_iload_n hx hb dX6_checksum_48 rfl (lv_at hl 1 rfl) ?_
      refine rw_iald (x := (I, A, K)) (v := A (dB 0 3) i) S hK hP (dB 0 3) (dB_lt (by decide) (by decide)) (cK_D (by decide)) i rfl (by omega) (by decide) rfl dX6_checksum_49 ?_
      refine lv_i2l hx hb dX6_checksum_50 rfl ?_
      refine lv_ladd hx hb dX6_checksum_51 ?_
      refine lv_lstore_n (lv' := [(1, .long ((31 * ((31 * (cCkR A 0 i)) + ((A (dB 0 2) i).toInt64))) + ((A (dB 0 3) i).toInt64))), (3, .int (nI i)), (0, .ref (eP E 0))]) hx hb dX6_checksum_52 rfl hl (by decide) rfl (fun ls hl => ?_)
      refine lv_ldc2 (v := 31) hx hb S.2.2.2.1 (S.2.2.2.2 _ kc_X6_183) dX6_checksum_53 ?_
      refine lv_lload_n hx hb dX6_checksum_56 rfl (lv_at hl 0 rfl) ?_
      refine lv_lmul hx hb dX6_checksum_57 ?_
      refine lv_aload_n hx hb dX6_checksum_58 rfl (lv_at hl 2 rfl) ?_
      refine rw_getr (x := (I, A, K)) S hK hP 0 (by decide) (cK_lo (by decide)) fk_X6_25 rfl dX6_checksum_59 ?_
      refine rw_getr (x := (I, A, K)) S hK hP (dB 0 0) (dB_lt (by decide) (by decide)) (cK_D (by decide)) fk_X6_89 rfl dX6_checksum_62 ?_
      refine lv_iload_n hx hb dX6_checksum_65 rfl (lv_at hl 1 rfl) ?_
      refine rw_zald (x := (I, A, K)) (v := A (dB 0 4) i) S hK hP (dB 0 4) (dB_lt (by decide) (by decide)) (cK_D (by decide)) i rfl (by omega) (by decide) rfl dX6_checksum_66 ?_
      refine lv_if_eq (tgt := 74) hx hb dX6_checksum_67 (by decide) (fun h67 => ?_) (fun h67 => ?_)
      · refine lv_iconst (v := 0) hx hb dX6_checksum_74 (by decide) ?_
        refine lv_i2l hx hb dX6_checksum_75 rfl ?_
        refine lv_ladd hx hb dX6_checksum_76 ?_
        refine lv_lstore_n (lv' := [(1, .long ((31 * ((31 * ((31 * (cCkR A 0 i)) + ((A (dB 0 2) i).toInt64))) + ((A (dB 0 3) i).toInt64))) + ((0 : Int32).toInt64))), (3, .int (nI i)), (0, .ref (eP E 0))]) hx hb dX6_checksum_77 rfl hl (by decide) rfl (fun ls hl => ?_)
        refine lv_iinc (v := nI (i + 1)) (lv' := [(3, .int (nI (i + 1))), (1, .long ((31 * ((31 * ((31 * (cCkR A 0 i)) + ((A (dB 0 2) i).toInt64))) + ((A (dB 0 3) i).toInt64))) + ((0 : Int32).toInt64))), (0, .ref (eP E 0))]) hx hb dX6_checksum_78 hl (k := 1) rfl (nI_1 _) (by decide) rfl (fun ls hl => ?_)
        refine lv_goto (tgt := 4) hx hb dX6_checksum_81 (by decide) ?_
        refine ih (i + 1) (by omega) ls ?_
        rw [show cCkR A 0 (i + 1) = ((31 * ((31 * ((31 * (cCkR A 0 i)) + ((A (dB 0 2) i).toInt64))) + ((A (dB 0 3) i).toInt64))) + ((0 : Int32).toInt64)) from (by simp [cCkR, lfo, h67])]
        exact lv_sub hl [0, 1, 2] rfl
      · refine lv_iconst (v := 1) hx hb dX6_checksum_70 (by decide) ?_
        refine lv_goto (tgt := 75) hx hb dX6_checksum_71 (by decide) ?_
        refine lv_i2l hx hb dX6_checksum_75 rfl ?_
        refine lv_ladd hx hb dX6_checksum_76 ?_
        refine lv_lstore_n (lv' := [(1, .long ((31 * ((31 * ((31 * (cCkR A 0 i)) + ((A (dB 0 2) i).toInt64))) + ((A (dB 0 3) i).toInt64))) + ((1 : Int32).toInt64))), (3, .int (nI i)), (0, .ref (eP E 0))]) hx hb dX6_checksum_77 rfl hl (by decide) rfl (fun ls hl => ?_)
        refine lv_iinc (v := nI (i + 1)) (lv' := [(3, .int (nI (i + 1))), (1, .long ((31 * ((31 * ((31 * (cCkR A 0 i)) + ((A (dB 0 2) i).toInt64))) + ((A (dB 0 3) i).toInt64))) + ((1 : Int32).toInt64))), (0, .ref (eP E 0))]) hx hb dX6_checksum_78 hl (k := 1) rfl (nI_1 _) (by decide) rfl (fun ls hl => ?_)
        refine lv_goto (tgt := 4) hx hb dX6_checksum_81 (by decide) ?_
        refine ih (i + 1) (by omega) ls ?_
        rw [show cCkR A 0 (i + 1) = ((31 * ((31 * ((31 * (cCkR A 0 i)) + ((A (dB 0 2) i).toInt64))) + ((A (dB 0 3) i).toInt64))) + ((1 : Int32).toInt64)) from (by simp [cCkR, lfo, h67])]
        exact lv_sub hl [0, 1, 2] rfl
  exact HL nr 0 (by omega) ls (lv_sub hl [0, 1, 2] rfl)

