def cpR (A : Nat → Nat → Int32) (p q n : Nat) : Nat → Nat → Int32 := va_up A q (va_cpy (A p) (A q) 0 0 n)
def cCp1 (A : Nat → Nat → Int32) (d d2 : Nat) : Nat → Nat → Int32 := cpR (cpR (cpR (cpR A (dB d2 2) (dB d 2) 10) (dB d2 9) (dB d 9) 12) (dB d2 3) (dB d 3) 10) (dB d2 10) (dB d 10) 12
def cCpy (A : Nat → Nat → Int32) (d d2 : Nat) : Nat → Nat → Int32 := cpR (cpR (cpR (cFix (cCp1 A d d2) d d2 10) (dB d2 5) (dB d 5) 12) (dB d2 6) (dB d 6) 12) (dB d2 7) (dB d 7) 12
def cCpI (I : Nat → Nat → Int32) (d d2 : Nat) : Nat → Nat → Int32 := up2 (up2 I (dB d 0) 0 (I (dB d2 0) 0)) (dB d 0) 3 (I (dB d2 0) 3)
theorem iMin_nI {a b : Nat} (ha : a < 2 ^ 31) (hb : b < 2 ^ 31) : iMin (nI a) (nI b) = nI (min a b) := by
  unfold iMin
  by_cases h : b < a
  · rw [if_pos (nI_lt h ha), Nat.min_eq_right (by omega)]
  · rw [if_neg (nI_nlt (by omega) hb), Nat.min_eq_left (by omega)]
theorem iMax_nI {a b : Nat} (ha : a < 2 ^ 31) (hb : b < 2 ^ 31) : iMax (nI a) (nI b) = nI (max a b) := by
  unfold iMax
  by_cases h : a < b
  · rw [if_pos (nI_lt h hb), Nat.max_eq_right (by omega)]
  · rw [if_neg (nI_nlt (by omega) ha), Nat.max_eq_left (by omega)]
set_option maxHeartbeats 1000000 in
set_option maxRecDepth 100000 in
theorem c_X1_copyFrom (l : Launch) (E : En) (I A : Nat → Nat → Int32) (K : Nat → Nat → Int64) (d d2 : Nat) (hE : Ev cN E) (hd : d < 10) (he : d2 < 10) : Met l yX1_copyFrom (wz yX1_copyFrom cX1_copyFrom 3 none) (rmk 1 0 0 60) (va_Pc [.ref (eP E (dB d 0)), .ref (eP E (dB d2 0))] (Bw cN E cK (I, A, K))) (qWv cN E cK (fun uu => uu = (cCpI I d d2, cCpy A d d2, K))) 0 0 (cA cN E) := by
  refine en_ofW RX1 rfl (by decide +kernel) (Nat.le_of_ble_eq_true rfl) ?_
  intro p e s m below meth c ls S hr hlk hnm hl hB
  have hx := S.1
  have hb := S.2.1
  obtain ⟨hK, hC, hP⟩ := hB
  have hS : va_S (cA cN E) s.heap s.heap [] := va_S.rf
  have hl : lv_has ls 3 [(0, .ref (eP E (dB d 0))), (1, .ref (eP E (dB d2 0)))] := hl
  refine lv_aload_n hx hb dX1_copyFrom_0 rfl (lv_at hl 0 rfl) ?_
  refine lv_aload_n hx hb dX1_copyFrom_1 rfl (lv_at hl 1 rfl) ?_
  refine rw_geti (x := (I, A, K)) (v := I (dB d2 0) 0) S hK hP (dB d2 0) (dB_lt he (by decide)) (cK_D (by decide)) fk_X1_9 rfl rfl dX1_copyFrom_2 ?_
  refine rw_puti (x := (I, A, K)) (v := I (dB d2 0) 0) S hE hK hP hS (dB d 0) (dB_lt hd (by decide)) (cK_D (by decide)) fk_X1_9 rfl tyX1_ok nmX1 ⟨rfl, by decide +kernel⟩ dX1_copyFrom_5 (fun H locs hP hS => ?_)
  have hP : Wp cN E cK ((up2 I (dB d 0) 0 (I (dB d2 0) 0)), A, K) H := hP
  refine lv_aload_n hx hb dX1_copyFrom_8 rfl (lv_at hl 0 rfl) ?_
  refine lv_aload_n hx hb dX1_copyFrom_9 rfl (lv_at hl 1 rfl) ?_
  refine rw_geti (x := ((up2 I (dB d 0) 0 (I (dB d2 0) 0)), A, K)) (v := I (dB d2 0) 3) S hK hP (dB d2 0) (dB_lt he (by decide)) (cK_D (by decide)) fk_X1_24 rfl (up2_j (by decide)) dX1_copyFrom_10 ?_
  refine rw_puti (x := ((up2 I (dB d 0) 0 (I (dB d2 0) 0)), A, K)) (v := I (dB d2 0) 3) S hE hK hP hS (dB d 0) (dB_lt hd (by decide)) (cK_D (by decide)) fk_X1_24 rfl tyX1_ok nmX1 ⟨rfl, by decide +kernel⟩ dX1_copyFrom_13 (fun H locs hP hS => ?_)
  have hP : Wp cN E cK ((up2 (up2 I (dB d 0) 0 (I (dB d2 0) 0)) (dB d 0) 3 (I (dB d2 0) 3)), A, K) H := hP
  refine lv_iconst (v := 0) hx hb dX1_copyFrom_16 (by decide) ?_
  refine lv_istore_n (lv' := [(2, .int 0), (0, .ref (eP E (dB d 0))), (1, .ref (eP E (dB d2 0)))]) hx hb dX1_copyFrom_17 rfl hl (by decide) rfl (fun ls hl => ?_)
  refine lv_iload_n hx hb dX1_copyFrom_18 rfl (lv_at hl 0 rfl) ?_
  refine lv_iconst (v := 2) hx hb dX1_copyFrom_19 (by decide) ?_
  refine lv_icmp_ge (tgt := 67) hx hb dX1_copyFrom_20 (by decide) (fun h20 => absurd h20 (by decide)) (fun h20 => ?_)
  refine lv_aload_n hx hb dX1_copyFrom_23 rfl (lv_at hl 2 rfl) ?_
  refine rw_getr (x := ((up2 (up2 I (dB d 0) 0 (I (dB d2 0) 0)) (dB d 0) 3 (I (dB d2 0) 3)), A, K)) S hK hP (dB d2 0) (dB_lt he (by decide)) (cK_D (by decide)) fk_X1_17 rfl dX1_copyFrom_24 ?_
  refine lv_iload_n hx hb dX1_copyFrom_27 rfl (lv_at hl 0 rfl) ?_
  refine rw_aald (x := ((up2 (up2 I (dB d 0) 0 (I (dB d2 0) 0)) (dB d 0) 3 (I (dB d2 0) 3)), A, K)) (r := (dB d2 2)) S hK hP (dB d2 1) (dB_lt he (by decide)) 5 (cK_D (by decide)) rfl rfl 0 rfl (by decide) (by decide) rfl dX1_copyFrom_28 ?_
  refine lv_iconst (v := 0) hx hb dX1_copyFrom_29 (by decide) ?_
  refine lv_aload_n hx hb dX1_copyFrom_30 rfl (lv_at hl 1 rfl) ?_
  refine rw_getr (x := ((up2 (up2 I (dB d 0) 0 (I (dB d2 0) 0)) (dB d 0) 3 (I (dB d2 0) 3)), A, K)) S hK hP (dB d 0) (dB_lt hd (by decide)) (cK_D (by decide)) fk_X1_17 rfl dX1_copyFrom_31 ?_
  refine lv_iload_n hx hb dX1_copyFrom_34 rfl (lv_at hl 0 rfl) ?_
  refine rw_aald (x := ((up2 (up2 I (dB d 0) 0 (I (dB d2 0) 0)) (dB d 0) 3 (I (dB d2 0) 3)), A, K)) (r := (dB d 2)) S hK hP (dB d 1) (dB_lt hd (by decide)) 5 (cK_D (by decide)) rfl rfl 0 rfl (by decide) (by decide) rfl dX1_copyFrom_35 ?_
  refine lv_iconst (v := 0) hx hb dX1_copyFrom_36 (by decide) ?_
  refine lv_bipush (v := 10) hx hb dX1_copyFrom_37 (by decide) ?_
  refine rw_copyi (x := ((up2 (up2 I (dB d 0) 0 (I (dB d2 0) 0)) (dB d 0) 3 (I (dB d2 0) 3)), A, K)) S hE hK hP hS hl.1 (dB d2 2) (dB d 2) (dB_lt he (by decide)) (dB_lt hd (by decide)) (cK_D (by decide)) (cK_D (by decide)) km_X1_40 sy_copy 10 ⟨rfl, rfl, rfl⟩ (by decide) (by decide) (by decide) (Nat.le_of_ble_eq_true rfl) (Nat.le_of_ble_eq_true rfl) dX1_copyFrom_39 (fun H locs hP hS => ?_)
  have hP : Wp cN E cK ((up2 (up2 I (dB d 0) 0 (I (dB d2 0) 0)) (dB d 0) 3 (I (dB d2 0) 3)), (cpR A (dB d2 2) (dB d 2) 10), K) H := hP
  refine lv_aload_n hx hb dX1_copyFrom_42 rfl (lv_at hl 2 rfl) ?_
  refine rw_getr (x := ((up2 (up2 I (dB d 0) 0 (I (dB d2 0) 0)) (dB d 0) 3 (I (dB d2 0) 3)), (cpR A (dB d2 2) (dB d 2) 10), K)) S hK hP (dB d2 0) (dB_lt he (by decide)) (cK_D (by decide)) fk_X1_37 rfl dX1_copyFrom_43 ?_
  refine lv_iload_n hx hb dX1_copyFrom_46 rfl (lv_at hl 0 rfl) ?_
  refine rw_aald (x := ((up2 (up2 I (dB d 0) 0 (I (dB d2 0) 0)) (dB d 0) 3 (I (dB d2 0) 3)), (cpR A (dB d2 2) (dB d 2) 10), K)) (r := (dB d2 9)) S hK hP (dB d2 8) (dB_lt he (by decide)) 5 (cK_D (by decide)) rfl rfl 0 rfl (by decide) (by decide) rfl dX1_copyFrom_47 ?_
  refine lv_iconst (v := 0) hx hb dX1_copyFrom_48 (by decide) ?_
  refine lv_aload_n hx hb dX1_copyFrom_49 rfl (lv_at hl 1 rfl) ?_
  refine rw_getr (x := ((up2 (up2 I (dB d 0) 0 (I (dB d2 0) 0)) (dB d 0) 3 (I (dB d2 0) 3)), (cpR A (dB d2 2) (dB d 2) 10), K)) S hK hP (dB d 0) (dB_lt hd (by decide)) (cK_D (by decide)) fk_X1_37 rfl dX1_copyFrom_50 ?_
  refine lv_iload_n hx hb dX1_copyFrom_53 rfl (lv_at hl 0 rfl) ?_
  refine rw_aald (x := ((up2 (up2 I (dB d 0) 0 (I (dB d2 0) 0)) (dB d 0) 3 (I (dB d2 0) 3)), (cpR A (dB d2 2) (dB d 2) 10), K)) (r := (dB d 9)) S hK hP (dB d 8) (dB_lt hd (by decide)) 5 (cK_D (by decide)) rfl rfl 0 rfl (by decide) (by decide) rfl dX1_copyFrom_54 ?_
  refine lv_iconst (v := 0) hx hb dX1_copyFrom_55 (by decide) ?_
  refine lv_bipush (v := 12) hx hb dX1_copyFrom_56 (by decide) ?_
  refine rw_copyi (x := ((up2 (up2 I (dB d 0) 0 (I (dB d2 0) 0)) (dB d 0) 3 (I (dB d2 0) 3)), (cpR A (dB d2 2) (dB d 2) 10), K)) S hE hK hP hS hl.1 (dB d2 9) (dB d 9) (dB_lt he (by decide)) (dB_lt hd (by decide)) (cK_D (by decide)) (cK_D (by decide)) km_X1_40 sy_copy 12 ⟨rfl, rfl, rfl⟩ (by decide) (by decide) (by decide) (Nat.le_of_ble_eq_true rfl) (Nat.le_of_ble_eq_true rfl) dX1_copyFrom_58 (fun H locs hP hS => ?_)
  have hP : Wp cN E cK ((up2 (up2 I (dB d 0) 0 (I (dB d2 0) 0)) (dB d 0) 3 (I (dB d2 0) 3)), (cpR (cpR A (dB d2 2) (dB d 2) 10) (dB d2 9) (dB d 9) 12), K) H := hP
  refine lv_iinc (v := 1) (lv' := [(2, .int 1), (0, .ref (eP E (dB d 0))), (1, .ref (eP E (dB d2 0)))]) hx hb dX1_copyFrom_61 hl (k := 0) rfl rfl (by decide) rfl (fun ls hl => ?_)
  refine lv_goto (tgt := 18) hx hb dX1_copyFrom_64 (by decide) ?_
  refine lv_iload_n hx hb dX1_copyFrom_18 rfl (lv_at hl 0 rfl) ?_
  refine lv_iconst (v := 2) hx hb dX1_copyFrom_19 (by decide) ?_
  refine lv_icmp_ge (tgt := 67) hx hb dX1_copyFrom_20 (by decide) (fun h20 => absurd h20 (by decide)) (fun h20 => ?_)
  refine lv_aload_n hx hb dX1_copyFrom_23 rfl (lv_at hl 2 rfl) ?_
  refine rw_getr (x := ((up2 (up2 I (dB d 0) 0 (I (dB d2 0) 0)) (dB d 0) 3 (I (dB d2 0) 3)), (cpR (cpR A (dB d2 2) (dB d 2) 10) (dB d2 9) (dB d 9) 12), K)) S hK hP (dB d2 0) (dB_lt he (by decide)) (cK_D (by decide)) fk_X1_17 rfl dX1_copyFrom_24 ?_
  refine lv_iload_n hx hb dX1_copyFrom_27 rfl (lv_at hl 0 rfl) ?_
  refine rw_aald (x := ((up2 (up2 I (dB d 0) 0 (I (dB d2 0) 0)) (dB d 0) 3 (I (dB d2 0) 3)), (cpR (cpR A (dB d2 2) (dB d 2) 10) (dB d2 9) (dB d 9) 12), K)) (r := (dB d2 3)) S hK hP (dB d2 1) (dB_lt he (by decide)) 5 (cK_D (by decide)) rfl rfl 1 rfl (by decide) (by decide) rfl dX1_copyFrom_28 ?_
  refine lv_iconst (v := 0) hx hb dX1_copyFrom_29 (by decide) ?_
  refine lv_aload_n hx hb dX1_copyFrom_30 rfl (lv_at hl 1 rfl) ?_
  refine rw_getr (x := ((up2 (up2 I (dB d 0) 0 (I (dB d2 0) 0)) (dB d 0) 3 (I (dB d2 0) 3)), (cpR (cpR A (dB d2 2) (dB d 2) 10) (dB d2 9) (dB d 9) 12), K)) S hK hP (dB d 0) (dB_lt hd (by decide)) (cK_D (by decide)) fk_X1_17 rfl dX1_copyFrom_31 ?_
  refine lv_iload_n hx hb dX1_copyFrom_34 rfl (lv_at hl 0 rfl) ?_
  refine rw_aald (x := ((up2 (up2 I (dB d 0) 0 (I (dB d2 0) 0)) (dB d 0) 3 (I (dB d2 0) 3)), (cpR (cpR A (dB d2 2) (dB d 2) 10) (dB d2 9) (dB d 9) 12), K)) (r := (dB d 3)) S hK hP (dB d 1) (dB_lt hd (by decide)) 5 (cK_D (by decide)) rfl rfl 1 rfl (by decide) (by decide) rfl dX1_copyFrom_35 ?_
  refine lv_iconst (v := 0) hx hb dX1_copyFrom_36 (by decide) ?_
  refine lv_bipush (v := 10) hx hb dX1_copyFrom_37 (by decide) ?_
  refine rw_copyi (x := ((up2 (up2 I (dB d 0) 0 (I (dB d2 0) 0)) (dB d 0) 3 (I (dB d2 0) 3)), (cpR (cpR A (dB d2 2) (dB d 2) 10) (dB d2 9) (dB d 9) 12), K)) S hE hK hP hS hl.1 (dB d2 3) (dB d 3) (dB_lt he (by decide)) (dB_lt hd (by decide)) (cK_D (by decide)) (cK_D (by decide)) km_X1_40 sy_copy 10 ⟨rfl, rfl, rfl⟩ (by decide) (by decide) (by decide) (Nat.le_of_ble_eq_true rfl) (Nat.le_of_ble_eq_true rfl) dX1_copyFrom_39 (fun H locs hP hS => ?_)
  have hP : Wp cN E cK ((up2 (up2 I (dB d 0) 0 (I (dB d2 0) 0)) (dB d 0) 3 (I (dB d2 0) 3)), (cpR (cpR (cpR A (dB d2 2) (dB d 2) 10) (dB d2 9) (dB d 9) 12) (dB d2 3) (dB d 3) 10), K) H := hP
  refine lv_aload_n hx hb dX1_copyFrom_42 rfl (lv_at hl 2 rfl) ?_
  refine rw_getr (x := ((up2 (up2 I (dB d 0) 0 (I (dB d2 0) 0)) (dB d 0) 3 (I (dB d2 0) 3)), (cpR (cpR (cpR A (dB d2 2) (dB d 2) 10) (dB d2 9) (dB d 9) 12) (dB d2 3) (dB d 3) 10), K)) S hK hP (dB d2 0) (dB_lt he (by decide)) (cK_D (by decide)) fk_X1_37 rfl dX1_copyFrom_43 ?_
  refine lv_iload_n hx hb dX1_copyFrom_46 rfl (lv_at hl 0 rfl) ?_
  refine rw_aald (x := ((up2 (up2 I (dB d 0) 0 (I (dB d2 0) 0)) (dB d 0) 3 (I (dB d2 0) 3)), (cpR (cpR (cpR A (dB d2 2) (dB d 2) 10) (dB d2 9) (dB d 9) 12) (dB d2 3) (dB d 3) 10), K)) (r := (dB d2 10)) S hK hP (dB d2 8) (dB_lt he (by decide)) 5 (cK_D (by decide)) rfl rfl 1 rfl (by decide) (by decide) rfl dX1_copyFrom_47 ?_
  refine lv_iconst (v := 0) hx hb dX1_copyFrom_48 (by decide) ?_
  refine lv_aload_n hx hb dX1_copyFrom_49 rfl (lv_at hl 1 rfl) ?_
  refine rw_getr (x := ((up2 (up2 I (dB d 0) 0 (I (dB d2 0) 0)) (dB d 0) 3 (I (dB d2 0) 3)), (cpR (cpR (cpR A (dB d2 2) (dB d 2) 10) (dB d2 9) (dB d 9) 12) (dB d2 3) (dB d 3) 10), K)) S hK hP (dB d 0) (dB_lt hd (by decide)) (cK_D (by decide)) fk_X1_37 rfl dX1_copyFrom_50 ?_
  refine lv_iload_n hx hb dX1_copyFrom_53 rfl (lv_at hl 0 rfl) ?_
  refine rw_aald (x := ((up2 (up2 I (dB d 0) 0 (I (dB d2 0) 0)) (dB d 0) 3 (I (dB d2 0) 3)), (cpR (cpR (cpR A (dB d2 2) (dB d 2) 10) (dB d2 9) (dB d 9) 12) (dB d2 3) (dB d 3) 10), K)) (r := (dB d 10)) S hK hP (dB d 8) (dB_lt hd (by decide)) 5 (cK_D (by decide)) rfl rfl 1 rfl (by decide) (by decide) rfl dX1_copyFrom_54 ?_
  refine lv_iconst (v := 0) hx hb dX1_copyFrom_55 (by decide) ?_
  refine lv_bipush (v := 12) hx hb dX1_copyFrom_56 (by decide) ?_
  refine rw_copyi (x := ((up2 (up2 I (dB d 0) 0 (I (dB d2 0) 0)) (dB d 0) 3 (I (dB d2 0) 3)), (cpR (cpR (cpR A (dB d2 2) (dB d 2) 10) (dB d2 9) (dB d 9) 12) (dB d2 3) (dB d 3) 10), K)) S hE hK hP hS hl.1 (dB d2 10) (dB d 10) (dB_lt he (by decide)) (dB_lt hd (by decide)) (cK_D (by decide)) (cK_D (by decide)) km_X1_40 sy_copy 12 ⟨rfl, rfl, rfl⟩ (by decide) (by decide) (by decide) (Nat.le_of_ble_eq_true rfl) (Nat.le_of_ble_eq_true rfl) dX1_copyFrom_58 (fun H locs hP hS => ?_)
  have hP : Wp cN E cK ((up2 (up2 I (dB d 0) 0 (I (dB d2 0) 0)) (dB d 0) 3 (I (dB d2 0) 3)), (cpR (cpR (cpR (cpR A (dB d2 2) (dB d 2) 10) (dB d2 9) (dB d 9) 12) (dB d2 3) (dB d 3) 10) (dB d2 10) (dB d 10) 12), K) H := hP
  refine lv_iinc (v := 2) (lv' := [(2, .int 2), (0, .ref (eP E (dB d 0))), (1, .ref (eP E (dB d2 0)))]) hx hb dX1_copyFrom_61 hl (k := 0) rfl rfl (by decide) rfl (fun ls hl => ?_)
  refine lv_goto (tgt := 18) hx hb dX1_copyFrom_64 (by decide) ?_
  refine lv_iload_n hx hb dX1_copyFrom_18 rfl (lv_at hl 0 rfl) ?_
  refine lv_iconst (v := 2) hx hb dX1_copyFrom_19 (by decide) ?_
  refine lv_icmp_ge (tgt := 67) hx hb dX1_copyFrom_20 (by decide) (fun h20 => ?_) (fun h20 => absurd (by decide) h20)
  have hP : Wp cN E cK (cCpI I d d2, cCp1 A d d2, K) H := hP
  refine lv_iconst (v := 0) hx hb dX1_copyFrom_67 (by decide) ?_
  refine lv_istore_n (lv' := [(2, .int 0), (0, .ref (eP E (dB d 0))), (1, .ref (eP E (dB d2 0)))]) hx hb dX1_copyFrom_68 rfl hl (by decide) rfl (fun ls hl => ?_)
  have HL : ∀ (n i : Nat), i + n = 10 → ∀ (H : Heap) (locs : List Loc), Wp cN E cK ((cCpI I d d2), (cFix (cCp1 A d d2) d d2 i), K) H → va_S (cA cN E) s.heap H locs → ∀ ls : Array Slot, lv_has ls 3 [(2, .int (nI i)), (0, .ref (eP E (dB d 0))), (1, .ref (eP E (dB d2 0)))] → W p l e (rmk 1 0 0 60) s m ([.ref (eP E (dB d 0)), .ref (eP E (dB d2 0))] : List Value).toArray below meth c H locs 0 0 (MQ below (qWv cN E cK (fun uu => uu = (cCpI I d d2, cCpy A d d2, K))) ([.ref (eP E (dB d 0)), .ref (eP E (dB d2 0))] : List Value).toArray s 0 0 (cA cN E)) (F0 m 69 ls []) := by
    intro n
    induction n with
    | zero =>
      intro i hi H locs hP hS ls hl
      have hiN : i = 10 := by omega
      rw [hiN] at hl
      try rw [hiN] at hP
      refine lv_iload_n hx hb dX1_copyFrom_69 rfl (lv_at hl 0 rfl) ?_
      refine lv_bipush (v := 10) hx hb dX1_copyFrom_70 (by decide) ?_
      refine lv_icmp_ge (tgt := 93) hx hb dX1_copyFrom_72 (by decide) (fun h72 => ?_) (fun h72 => absurd (Int32.le_refl _) h72)
      refine lv_aload_n hx hb dX1_copyFrom_93 rfl (lv_at hl 2 rfl) ?_
      refine rw_getr (x := ((cCpI I d d2), (cFix (cCp1 A d d2) d d2 10), K)) S hK hP (dB d2 0) (dB_lt he (by decide)) (cK_D (by decide)) fk_X1_27 rfl dX1_copyFrom_94 ?_
      refine lv_iconst (v := 0) hx hb dX1_copyFrom_97 (by decide) ?_
      refine lv_aload_n hx hb dX1_copyFrom_98 rfl (lv_at hl 1 rfl) ?_
      refine rw_getr (x := ((cCpI I d d2), (cFix (cCp1 A d d2) d d2 10), K)) S hK hP (dB d 0) (dB_lt hd (by decide)) (cK_D (by decide)) fk_X1_27 rfl dX1_copyFrom_99 ?_
      refine lv_iconst (v := 0) hx hb dX1_copyFrom_102 (by decide) ?_
      refine lv_bipush (v := 12) hx hb dX1_copyFrom_103 (by decide) ?_
      refine rw_copyi (x := ((cCpI I d d2), (cFix (cCp1 A d d2) d d2 10), K)) S hE hK hP hS hl.1 (dB d2 5) (dB d 5) (dB_lt he (by decide)) (dB_lt hd (by decide)) (cK_D (by decide)) (cK_D (by decide)) km_X1_40 sy_copy 12 ⟨rfl, rfl, rfl⟩ (by decide) (by decide) (by decide) (Nat.le_of_ble_eq_true rfl) (Nat.le_of_ble_eq_true rfl) dX1_copyFrom_105 (fun H locs hP hS => ?_)
      have hP : Wp cN E cK ((cCpI I d d2), (cpR (cFix (cCp1 A d d2) d d2 10) (dB d2 5) (dB d 5) 12), K) H := hP
      refine lv_aload_n hx hb dX1_copyFrom_108 rfl (lv_at hl 2 rfl) ?_
      refine rw_getr (x := ((cCpI I d d2), (cpR (cFix (cCp1 A d d2) d d2 10) (dB d2 5) (dB d 5) 12), K)) S hK hP (dB d2 0) (dB_lt he (by decide)) (cK_D (by decide)) fk_X1_31 rfl dX1_copyFrom_109 ?_
      refine lv_iconst (v := 0) hx hb dX1_copyFrom_112 (by decide) ?_
      refine lv_aload_n hx hb dX1_copyFrom_113 rfl (lv_at hl 1 rfl) ?_
      refine rw_getr (x := ((cCpI I d d2), (cpR (cFix (cCp1 A d d2) d d2 10) (dB d2 5) (dB d 5) 12), K)) S hK hP (dB d 0) (dB_lt hd (by decide)) (cK_D (by decide)) fk_X1_31 rfl dX1_copyFrom_114 ?_
      refine lv_iconst (v := 0) hx hb dX1_copyFrom_117 (by decide) ?_
      refine lv_bipush (v := 12) hx hb dX1_copyFrom_118 (by decide) ?_
      refine rw_copyi (x := ((cCpI I d d2), (cpR (cFix (cCp1 A d d2) d d2 10) (dB d2 5) (dB d 5) 12), K)) S hE hK hP hS hl.1 (dB d2 6) (dB d 6) (dB_lt he (by decide)) (dB_lt hd (by decide)) (cK_D (by decide)) (cK_D (by decide)) km_X1_40 sy_copy 12 ⟨rfl, rfl, rfl⟩ (by decide) (by decide) (by decide) (Nat.le_of_ble_eq_true rfl) (Nat.le_of_ble_eq_true rfl) dX1_copyFrom_120 (fun H locs hP hS => ?_)
      have hP : Wp cN E cK ((cCpI I d d2), (cpR (cpR (cFix (cCp1 A d d2) d d2 10) (dB d2 5) (dB d 5) 12) (dB d2 6) (dB d 6) 12), K) H := hP
      refine lv_aload_n hx hb dX1_copyFrom_123 rfl (lv_at hl 2 rfl) ?_
      refine rw_getr (x := ((cCpI I d d2), (cpR (cpR (cFix (cCp1 A d d2) d d2 10) (dB d2 5) (dB d 5) 12) (dB d2 6) (dB d 6) 12), K)) S hK hP (dB d2 0) (dB_lt he (by decide)) (cK_D (by decide)) fk_X1_34 rfl dX1_copyFrom_124 ?_
      refine lv_iconst (v := 0) hx hb dX1_copyFrom_127 (by decide) ?_
      refine lv_aload_n hx hb dX1_copyFrom_128 rfl (lv_at hl 1 rfl) ?_
      refine rw_getr (x := ((cCpI I d d2), (cpR (cpR (cFix (cCp1 A d d2) d d2 10) (dB d2 5) (dB d 5) 12) (dB d2 6) (dB d 6) 12), K)) S hK hP (dB d 0) (dB_lt hd (by decide)) (cK_D (by decide)) fk_X1_34 rfl dX1_copyFrom_129 ?_
      refine lv_iconst (v := 0) hx hb dX1_copyFrom_132 (by decide) ?_
      refine lv_bipush (v := 12) hx hb dX1_copyFrom_133 (by decide) ?_
      refine rw_copyi (x := ((cCpI I d d2), (cpR (cpR (cFix (cCp1 A d d2) d d2 10) (dB d2 5) (dB d 5) 12) (dB d2 6) (dB d 6) 12), K)) S hE hK hP hS hl.1 (dB d2 7) (dB d 7) (dB_lt he (by decide)) (dB_lt hd (by decide)) (cK_D (by decide)) (cK_D (by decide)) km_X1_40 sy_copy 12 ⟨rfl, rfl, rfl⟩ (by decide) (by decide) (by decide) (Nat.le_of_ble_eq_true rfl) (Nat.le_of_ble_eq_true rfl) dX1_copyFrom_135 (fun H locs hP hS => ?_)
      have hP : Wp cN E cK ((cCpI I d d2), (cpR (cpR (cpR (cFix (cCp1 A d d2) d d2 10) (dB d2 5) (dB d 5) 12) (dB d2 6) (dB d 6) 12) (dB d2 7) (dB d 7) 12), K) H := hP
      exact re_wv (x := ((cCpI I d d2), (cpR (cpR (cpR (cFix (cCp1 A d d2) d d2 10) (dB d2 5) (dB d 5) 12) (dB d2 6) (dB d 6) 12) (dB d2 7) (dB d 7) 12), K)) hx hb hr hlk hP hS rfl dX1_copyFrom_138
    | succ n ih =>
      intro i hi H locs hP hS ls hl
      have hlt : i < 10 := by omega
      refine lv_iload_n hx hb dX1_copyFrom_69 rfl (lv_at hl 0 rfl) ?_
      refine lv_bipush (v := 10) hx hb dX1_copyFrom_70 (by decide) ?_
      refine lv_icmp_ge (tgt := 93) hx hb dX1_copyFrom_72 (by decide) (fun h72 => absurd h72 (nI_ge (b := 10) hlt (by decide))) (fun h72 => ?_)
      refine lv_aload_n hx hb dX1_copyFrom_75 rfl (lv_at hl 1 rfl) ?_
      refine rw_getr (x := ((cCpI I d d2), (cFix (cCp1 A d d2) d d2 i), K)) S hK hP (dB d 0) (dB_lt hd (by decide)) (cK_D (by decide)) fk_X1_20 rfl dX1_copyFrom_76 ?_
      refine lv_iload_n hx hb dX1_copyFrom_79 rfl (lv_at hl 0 rfl) ?_
      refine lv_aload_n hx hb dX1_copyFrom_80 rfl (lv_at hl 2 rfl) ?_
      refine rw_getr (x := ((cCpI I d d2), (cFix (cCp1 A d d2) d d2 i), K)) S hK hP (dB d2 0) (dB_lt he (by decide)) (cK_D (by decide)) fk_X1_20 rfl dX1_copyFrom_81 ?_
      refine lv_iload_n hx hb dX1_copyFrom_84 rfl (lv_at hl 0 rfl) ?_
      refine rw_zald (x := ((cCpI I d d2), (cFix (cCp1 A d d2) d d2 i), K)) (v := (cFix (cCp1 A d d2) d d2 i) (dB d2 4) i) S hK hP (dB d2 4) (dB_lt he (by decide)) (cK_D (by decide)) i rfl (by omega) (by decide) rfl dX1_copyFrom_85 ?_
      refine rw_zast (x := ((cCpI I d d2), (cFix (cCp1 A d d2) d d2 i), K)) (v := (cFix (cCp1 A d d2) d d2 i) (dB d2 4) i) (w := vp_nar .boolean ((cFix (cCp1 A d d2) d d2 i) (dB d2 4) i)) S hE hK hP hS (dB d 4) (dB_lt hd (by decide)) (cK_D (by decide)) i rfl (by omega) (by decide) rfl dX1_copyFrom_86 (fun H locs hP hS => ?_)
      have hP : Wp cN E cK ((cCpI I d d2), (up2 (cFix (cCp1 A d d2) d d2 i) (dB d 4) i (vp_nar .boolean ((cFix (cCp1 A d d2) d d2 i) (dB d2 4) i))), K) H := hP
      refine lv_iinc (v := nI (i + 1)) (lv' := [(2, .int (nI (i + 1))), (0, .ref (eP E (dB d 0))), (1, .ref (eP E (dB d2 0)))]) hx hb dX1_copyFrom_87 hl (k := 0) rfl (nI_1 _) (by decide) rfl (fun ls hl => ?_)
      refine lv_goto (tgt := 69) hx hb dX1_copyFrom_90 (by decide) ?_
      exact ih (i + 1) (by omega) _ _ hP hS ls (lv_sub hl [0, 1, 2] rfl)
  exact HL 10 0 (by omega) _ _ hP hS ls (lv_sub hl [0, 1, 2] rfl)

def hKeI (I : Nat → Nat → Int32) (e nx kp : Nat) : Nat → Nat → Int32 := up2 (up2 (cCpI I (2 + nx) e) 6 1 (nI ((nx + 1) % 8))) 6 2 (nI (min (kp + 1) 8))
def hTaI (I : Nat → Nat → Int32) (d nx kp : Nat) : Nat → Nat → Int32 := cCpI (up2 (up2 I 6 2 (nI (kp - 1))) 6 1 (nI ((nx + 7) % 8))) d (2 + (nx + 7) % 8)
theorem cCpI_lo {I : Nat → Nat → Int32} {d e q j : Nat} (h : q < 8) : cCpI I d e q j = I q j := by
  unfold cCpI
  rw [up2_q (Ne.symm (dB_nlo h)), up2_q (Ne.symm (dB_nlo h))]
set_option maxHeartbeats 1000000 in
set_option maxRecDepth 100000 in
theorem c_X3_keep (l : Launch) (E : En) (I A : Nat → Nat → Int32) (K : Nat → Nat → Int64) (d2 nx kp : Nat) (hE : Ev cN E) (hnx : I 6 1 = nI nx) (hkp : I 6 2 = nI kp) (hn8 : nx < 8) (hk8 : kp ≤ 8) (he : d2 < 2) : Met l yX3_keep (wz yX3_keep cX3_keep 2 none) (rmk 2 0 0 82) (va_Pc [.ref (eP E 6), .ref (eP E (dB d2 0))] (Bw cN E cK (I, A, K))) (qWv cN E cK (fun uu => uu = (hKeI I d2 nx kp, cCpy A (2 + nx) d2, K))) 0 0 (cA cN E) := by
  refine en_ofW RX3 rfl (by decide +kernel) (Nat.le_of_ble_eq_true rfl) ?_
  intro p e s m below meth c ls S hr hlk hnm hl hB
  have hx := S.1
  have hb := S.2.1
  obtain ⟨hK, hC, hP⟩ := hB
  have hS : va_S (cA cN E) s.heap s.heap [] := va_S.rf
  have hl : lv_has ls 2 [(0, .ref (eP E 6)), (1, .ref (eP E (dB d2 0)))] := hl
  refine lv_aload_n hx hb dX3_keep_0 rfl (lv_at hl 0 rfl) ?_
  refine rw_getr (x := (I, A, K)) S hK hP 6 (by decide) (cK_lo (by decide)) fk_X3_11 rfl dX3_keep_1 ?_
  refine lv_aload_n hx hb dX3_keep_4 rfl (lv_at hl 0 rfl) ?_
  refine rw_geti (x := (I, A, K)) (v := nI nx) S hK hP 6 (by decide) (cK_lo (by decide)) fk_X3_17 rfl hnx dX3_keep_5 ?_
  refine rw_aald (x := (I, A, K)) (r := (dB (2 + nx) 0)) S hK hP 7 (by decide) 4 (cK_lo (by decide)) rfl rfl nx rfl (by omega) (by decide) rfl dX3_keep_8 ?_
  refine lv_aload_n hx hb dX3_keep_9 rfl (lv_at hl 1 rfl) ?_
  refine cn_wv (ck_V (a := eP E (dB (2 + nx) 0)) S lk_X3_25 (c_X1_copyFrom l E I A K (2 + nx) d2 hE (by omega) (by omega)) ⟨rfl, rfl⟩ ⟨Nat.le_of_ble_eq_true rfl, Nat.le_of_ble_eq_true rfl⟩ bl_w (rc_w hK hP (dB (2 + nx) 0) (dB_lt (by omega) (by decide)) (cK_D (by decide)) rfl) (bw_U hE hK hC hP hS) rfl hl.1 (Nat.le_of_ble_eq_true rfl) ⟨Nat.le_refl _, Nat.le_refl _⟩ dX3_keep_10 rfl) hS (fun u2 H locs g3 hP hS => ?_)
  obtain rfl : u2 = (cCpI I (2 + nx) d2, cCpy A (2 + nx) d2, K) := g3
  have hP : Wp cN E cK ((cCpI I (2 + nx) d2), (cCpy A (2 + nx) d2), K) H := hP
  have hnx2 : cCpI I (2 + nx) d2 6 1 = nI nx := (cCpI_lo (by decide)).trans hnx
  have hkp2 : cCpI I (2 + nx) d2 6 2 = nI kp := (cCpI_lo (by decide)).trans hkp
  refine lv_aload_n hx hb dX3_keep_13 rfl (lv_at hl 0 rfl) ?_
  refine lv_aload_n hx hb dX3_keep_14 rfl (lv_at hl 0 rfl) ?_
  refine rw_geti (x := ((cCpI I (2 + nx) d2), (cCpy A (2 + nx) d2), K)) (v := nI nx) S hK hP 6 (by decide) (cK_lo (by decide)) fk_X3_17 rfl hnx2 dX3_keep_15 ?_
  refine lv_iconst (v := 1) hx hb dX3_keep_18 (by decide) ?_
  refine lv_iadd hx hb dX3_keep_19 ?_
  refine tp_i (y := nI (nx + 1)) (nI_1 nx) ?_
  refine lv_bipush (v := 8) hx hb dX3_keep_20 (by decide) ?_
  refine lv_irem hx hb dX3_keep_22 (by decide) ?_
  refine tp_i (y := nI ((nx + 1) % 8)) (pk_rem (by omega) (by decide) (by decide)) ?_
  refine rw_puti (x := ((cCpI I (2 + nx) d2), (cCpy A (2 + nx) d2), K)) (v := (nI ((nx + 1) % 8))) S hE hK hP hS 6 (by decide) (cK_lo (by decide)) fk_X3_17 rfl tyX3_ok nmX3 ⟨rfl, by decide +kernel⟩ dX3_keep_23 (fun H locs hP hS => ?_)
  have hP : Wp cN E cK ((up2 (cCpI I (2 + nx) d2) 6 1 (nI ((nx + 1) % 8))), (cCpy A (2 + nx) d2), K) H := hP
  refine lv_aload_n hx hb dX3_keep_26 rfl (lv_at hl 0 rfl) ?_
  refine lv_aload_n hx hb dX3_keep_27 rfl (lv_at hl 0 rfl) ?_
  refine rw_geti (x := ((up2 (cCpI I (2 + nx) d2) 6 1 (nI ((nx + 1) % 8))), (cCpy A (2 + nx) d2), K)) (v := nI kp) S hK hP 6 (by decide) (cK_lo (by decide)) fk_X3_21 rfl ((up2_j (f := (cCpI I (2 + nx) d2)) (q := 6) (j := 1) (a := 6) (b := 2) (v := (nI ((nx + 1) % 8))) (by decide)).trans hkp2) dX3_keep_28 ?_
  refine lv_iconst (v := 1) hx hb dX3_keep_31 (by decide) ?_
  refine lv_iadd hx hb dX3_keep_32 ?_
  refine tp_i (y := nI (kp + 1)) (nI_1 kp) ?_
  refine lv_bipush (v := 8) hx hb dX3_keep_33 (by decide) ?_
  refine va_mmin hx hb (S.2.2.1.trans hl.1.symm) S.2.2.2.1 (S.2.2.2.2 _ km_X3_29) (S.2.2.2.2 _ ms_min) (S.2.2.2.2 _ mi_Math) (S.2.2.2.2 _ mc_min) (Nat.le_of_ble_eq_true rfl) (Nat.le_of_ble_eq_true rfl) (Nat.zero_le _) (Nat.zero_le _) dX3_keep_35 ?_
  refine W.eq (g2 := F0 m 38 ls [.int (iMin (nI (kp + 1)) 8), .ref (eP E 6)]) rfl ?_
  refine tp_i (y := nI (min (kp + 1) 8)) (iMin_nI (b := 8) (by omega) (by decide)) ?_
  refine rw_puti (x := ((up2 (cCpI I (2 + nx) d2) 6 1 (nI ((nx + 1) % 8))), (cCpy A (2 + nx) d2), K)) (v := (nI (min (kp + 1) 8))) S hE hK hP hS 6 (by decide) (cK_lo (by decide)) fk_X3_21 rfl tyX3_ok nmX3 ⟨rfl, by decide +kernel⟩ dX3_keep_38 (fun H locs hP hS => ?_)
  have hP : Wp cN E cK ((up2 (up2 (cCpI I (2 + nx) d2) 6 1 (nI ((nx + 1) % 8))) 6 2 (nI (min (kp + 1) 8))), (cCpy A (2 + nx) d2), K) H := hP
  exact re_wv (x := ((up2 (up2 (cCpI I (2 + nx) d2) 6 1 (nI ((nx + 1) % 8))) 6 2 (nI (min (kp + 1) 8))), (cCpy A (2 + nx) d2), K)) hx hb hr hlk hP hS rfl dX3_keep_41

set_option maxHeartbeats 1000000 in
set_option maxRecDepth 100000 in
theorem c_X3_takeBack (l : Launch) (E : En) (I A : Nat → Nat → Int32) (K : Nat → Nat → Int64) (d nx kp : Nat) (hE : Ev cN E) (hnx : I 6 1 = nI nx) (hkp : I 6 2 = nI kp) (hn8 : nx < 8) (hk8 : kp ≤ 8) (hd : d < 2) (hk0 : 0 < kp) : Met l yX3_takeBack (wz yX3_takeBack cX3_takeBack 2 none) (rmk 2 0 0 82) (va_Pc [.ref (eP E 6), .ref (eP E (dB d 0))] (Bw cN E cK (I, A, K))) (qWv cN E cK (fun uu => uu = (hTaI I d nx kp, cCpy A d (2 + (nx + 7) % 8), K))) 0 0 (cA cN E) := by
  refine en_ofW RX3 rfl (by decide +kernel) (Nat.le_of_ble_eq_true rfl) ?_
  intro p e s m below meth c ls S hr hlk hnm hl hB
  have hx := S.1
  have hb := S.2.1
  obtain ⟨hK, hC, hP⟩ := hB
  have hS : va_S (cA cN E) s.heap s.heap [] := va_S.rf
  have hl : lv_has ls 2 [(0, .ref (eP E 6)), (1, .ref (eP E (dB d 0)))] := hl
  refine lv_aload_n hx hb dX3_takeBack_0 rfl (lv_at hl 0 rfl) ?_
  refine rw_geti (x := (I, A, K)) (v := nI kp) S hK hP 6 (by decide) (cK_lo (by decide)) fk_X3_21 rfl hkp dX3_takeBack_1 ?_
  refine lv_if_le (tgt := 46) hx hb dX3_takeBack_4 (by decide) (fun h4 => absurd h4 (nI_nle hk0 (by omega))) (fun h4 => ?_)
  refine lv_aload_n hx hb dX3_takeBack_7 rfl (lv_at hl 0 rfl) ?_
  refine lv_dup hx hb dX3_takeBack_8 rfl ?_
  refine rw_geti (x := (I, A, K)) (v := nI kp) S hK hP 6 (by decide) (cK_lo (by decide)) fk_X3_21 rfl hkp dX3_takeBack_9 ?_
  refine lv_iconst (v := 1) hx hb dX3_takeBack_12 (by decide) ?_
  refine lv_isub hx hb dX3_takeBack_13 ?_
  refine tp_i (y := nI (kp - 1)) (pk_sub (a := kp) (b := 1) hk0) ?_
  refine rw_puti (x := (I, A, K)) (v := (nI (kp - 1))) S hE hK hP hS 6 (by decide) (cK_lo (by decide)) fk_X3_21 rfl tyX3_ok nmX3 ⟨rfl, by decide +kernel⟩ dX3_takeBack_14 (fun H locs hP hS => ?_)
  have hP : Wp cN E cK ((up2 I 6 2 (nI (kp - 1))), A, K) H := hP
  refine lv_aload_n hx hb dX3_takeBack_17 rfl (lv_at hl 0 rfl) ?_
  refine lv_aload_n hx hb dX3_takeBack_18 rfl (lv_at hl 0 rfl) ?_
  refine rw_geti (x := ((up2 I 6 2 (nI (kp - 1))), A, K)) (v := nI nx) S hK hP 6 (by decide) (cK_lo (by decide)) fk_X3_17 rfl ((up2_j (f := I) (q := 6) (j := 2) (a := 6) (b := 1) (v := (nI (kp - 1))) (by decide)).trans hnx) dX3_takeBack_19 ?_
  refine lv_bipush (v := 8) hx hb dX3_takeBack_22 (by decide) ?_
  refine lv_iadd hx hb dX3_takeBack_24 ?_
  refine tp_i (y := nI (nx + 8)) (nI_add nx 8) ?_
  refine lv_iconst (v := 1) hx hb dX3_takeBack_25 (by decide) ?_
  refine lv_isub hx hb dX3_takeBack_26 ?_
  refine tp_i (y := nI (nx + 7)) (pk_sub (a := nx + 8) (b := 1) (by omega)) ?_
  refine lv_bipush (v := 8) hx hb dX3_takeBack_27 (by decide) ?_
  refine lv_irem hx hb dX3_takeBack_29 (by decide) ?_
  refine tp_i (y := nI ((nx + 7) % 8)) (pk_rem (by omega) (by decide) (by decide)) ?_
  refine rw_puti (x := ((up2 I 6 2 (nI (kp - 1))), A, K)) (v := (nI ((nx + 7) % 8))) S hE hK hP hS 6 (by decide) (cK_lo (by decide)) fk_X3_17 rfl tyX3_ok nmX3 ⟨rfl, by decide +kernel⟩ dX3_takeBack_30 (fun H locs hP hS => ?_)
  have hP : Wp cN E cK ((up2 (up2 I 6 2 (nI (kp - 1))) 6 1 (nI ((nx + 7) % 8))), A, K) H := hP
  refine lv_aload_n hx hb dX3_takeBack_33 rfl (lv_at hl 1 rfl) ?_
  refine lv_aload_n hx hb dX3_takeBack_34 rfl (lv_at hl 0 rfl) ?_
  refine rw_getr (x := ((up2 (up2 I 6 2 (nI (kp - 1))) 6 1 (nI ((nx + 7) % 8))), A, K)) S hK hP 6 (by decide) (cK_lo (by decide)) fk_X3_11 rfl dX3_takeBack_35 ?_
  refine lv_aload_n hx hb dX3_takeBack_38 rfl (lv_at hl 0 rfl) ?_
  refine rw_geti (x := ((up2 (up2 I 6 2 (nI (kp - 1))) 6 1 (nI ((nx + 7) % 8))), A, K)) (v := (nI ((nx + 7) % 8))) S hK hP 6 (by decide) (cK_lo (by decide)) fk_X3_17 rfl (up2_eq (f := (up2 I 6 2 (nI (kp - 1)))) (q := 6) (j := 1) (v := (nI ((nx + 7) % 8)))) dX3_takeBack_39 ?_
  refine rw_aald (x := ((up2 (up2 I 6 2 (nI (kp - 1))) 6 1 (nI ((nx + 7) % 8))), A, K)) (r := (dB (2 + (nx + 7) % 8) 0)) S hK hP 7 (by decide) 4 (cK_lo (by decide)) rfl rfl ((nx + 7) % 8) rfl (by omega) (by decide) rfl dX3_takeBack_42 ?_
  refine cn_wv (ck_V (a := eP E (dB d 0)) S lk_X3_25 (c_X1_copyFrom l E (up2 (up2 I 6 2 (nI (kp - 1))) 6 1 (nI ((nx + 7) % 8))) A K d (2 + (nx + 7) % 8) hE (by omega) (by omega)) ⟨rfl, rfl⟩ ⟨Nat.le_of_ble_eq_true rfl, Nat.le_of_ble_eq_true rfl⟩ bl_w (rc_w hK hP (dB d 0) (dB_lt (by omega) (by decide)) (cK_D (by decide)) rfl) (bw_U hE hK hC hP hS) rfl hl.1 (Nat.le_of_ble_eq_true rfl) ⟨Nat.le_refl _, Nat.le_refl _⟩ dX3_takeBack_43 rfl) hS (fun u2 H locs g3 hP hS => ?_)
  obtain rfl : u2 = (cCpI (up2 (up2 I 6 2 (nI (kp - 1))) 6 1 (nI ((nx + 7) % 8))) d (2 + (nx + 7) % 8), cCpy A d (2 + (nx + 7) % 8), K) := g3
  have hP : Wp cN E cK ((cCpI (up2 (up2 I 6 2 (nI (kp - 1))) 6 1 (nI ((nx + 7) % 8))) d (2 + (nx + 7) % 8)), (cCpy A d (2 + (nx + 7) % 8)), K) H := hP
  exact re_wv (x := ((cCpI (up2 (up2 I 6 2 (nI (kp - 1))) 6 1 (nI ((nx + 7) % 8))) d (2 + (nx + 7) % 8)), (cCpy A d (2 + (nx + 7) % 8)), K)) hx hb hr hlk hP hS rfl dX3_takeBack_46

