/-! the floor's expression: what its reading gives, by the depth that is left -/
def zFc (T : Nat → Int32) (n : Nat) (sz sc : Int32) (S : Option (Tz → Int32 × Tz)) (z : Tz) : Int32 × Tz := if zN T n z = true then (zNv T n 0 9999 z, zNz T n 0 9999 z) else if zW T n (tw 7) z = true then (sz, zA T n z) else if zW T n (tw 8) z = true then (sc, zA T n z) else if zS T n 40 z = true then (match S with | none => (0, zF (-5) z) | some f => ((f (zA T n z)).1, zNS T n 41 (f (zA T n z)).2)) else (0, zF (-2) z)
def zTl (T : Nat → Int32) (n : Nat) (F : Tz → Int32 × Tz) : Nat → Int32 × Tz → Int32 × Tz
  | 0, a => a
  | k + 1, a => if zS T n 42 a.2 = true then zTl T n F k (cProd a.1 (F (zA T n a.2)).1, (F (zA T n a.2)).2) else if zS T n 47 a.2 = true then zTl T n F k (cQuo a.1 (F (zA T n a.2)).1, (F (zA T n a.2)).2) else a
def zSl (T : Nat → Int32) (n : Nat) (F : Tz → Int32 × Tz) : Nat → Int32 × Tz → Int32 × Tz
  | 0, a => a
  | k + 1, a => if zS T n 43 a.2 = true then zSl T n F k (pLim (a.1 + (F (zA T n a.2)).1) (-1000000) 1000000, (F (zA T n a.2)).2) else if zS T n 45 a.2 = true then zSl T n F k (pLim (a.1 - (F (zA T n a.2)).1) (-1000000) 1000000, (F (zA T n a.2)).2) else a
def zTm (T : Nat → Int32) (n : Nat) (F : Tz → Int32 × Tz) (z : Tz) : Int32 × Tz := zTl T n F 700 (F z)
def zSm (T : Nat → Int32) (n : Nat) (F : Tz → Int32 × Tz) (z : Tz) : Int32 × Tz := zSl T n F 700 (F z)
def zSu (T : Nat → Int32) (n : Nat) (sz sc : Int32) : Nat → Tz → Int32 × Tz
  | 0 => zSm T n (zTm T n (zFc T n sz sc none))
  | D + 1 => zSm T n (zTm T n (zFc T n sz sc (some (zSu T n sz sc D))))
def zFd (T : Nat → Int32) (n : Nat) (sz sc : Int32) : Nat → Tz → Int32 × Tz
  | 0 => zFc T n sz sc none
  | D + 1 => zFc T n sz sc (some (zSu T n sz sc D))
def zTd (T : Nat → Int32) (n : Nat) (sz sc : Int32) (D : Nat) : Tz → Int32 × Tz := zTm T n (zFd T n sz sc D)
theorem zTd_e {T : Nat → Int32} {n : Nat} {sz sc : Int32} {D : Nat} {z : Tz} : zTd T n sz sc D z = zTl T n (zFd T n sz sc D) 700 (zFd T n sz sc D z) := rfl
theorem zSu_e {T : Nat → Int32} {n : Nat} {sz sc : Int32} {D : Nat} {z : Tz} : zSu T n sz sc D z = zSl T n (zTd T n sz sc D) 700 (zTd T n sz sc D z) := by cases D <;> rfl
theorem zSu_T {T : Nat → Int32} {n : Nat} {sz sc : Int32} {D : Nat} : zSu T n sz sc D = zSm T n (zTd T n sz sc D) := by cases D <;> rfl
theorem zTl_m {T : Nat → Int32} {n k : Nat} {F : Tz → Int32 × Tz} {a : Int32} {y : Tz} (h : zS T n 42 y = true) : zTl T n F (k + 1) (a, y) = zTl T n F k (cProd a (F (zA T n y)).1, (F (zA T n y)).2) := if_pos h
theorem zTl_d {T : Nat → Int32} {n k : Nat} {F : Tz → Int32 × Tz} {a : Int32} {y : Tz} (h0 : zS T n 42 y = false) (h : zS T n 47 y = true) : zTl T n F (k + 1) (a, y) = zTl T n F k (cQuo a (F (zA T n y)).1, (F (zA T n y)).2) := (if_neg (by rw [h0]; decide)).trans (if_pos h)
theorem zTl_e {T : Nat → Int32} {n k : Nat} {F : Tz → Int32 × Tz} {a : Int32} {y : Tz} (h0 : zS T n 42 y = false) (h : zS T n 47 y = false) : zTl T n F (k + 1) (a, y) = (a, y) := (if_neg (by rw [h0]; decide)).trans (if_neg (by rw [h]; decide))
theorem zSl_m {T : Nat → Int32} {n k : Nat} {F : Tz → Int32 × Tz} {a : Int32} {y : Tz} (h : zS T n 43 y = true) : zSl T n F (k + 1) (a, y) = zSl T n F k (pLim (a + (F (zA T n y)).1) (-1000000) 1000000, (F (zA T n y)).2) := if_pos h
theorem zSl_d {T : Nat → Int32} {n k : Nat} {F : Tz → Int32 × Tz} {a : Int32} {y : Tz} (h0 : zS T n 43 y = false) (h : zS T n 45 y = true) : zSl T n F (k + 1) (a, y) = zSl T n F k (pLim (a - (F (zA T n y)).1) (-1000000) 1000000, (F (zA T n y)).2) := (if_neg (by rw [h0]; decide)).trans (if_pos h)
theorem zSl_e {T : Nat → Int32} {n k : Nat} {F : Tz → Int32 × Tz} {a : Int32} {y : Tz} (h0 : zS T n 43 y = false) (h : zS T n 45 y = false) : zSl T n F (k + 1) (a, y) = (a, y) := (if_neg (by rw [h0]; decide)).trans (if_neg (by rw [h]; decide))
theorem zOk_Tl {T : Nat → Int32} {n : Nat} {F : Tz → Int32 × Tz} (hF : ∀ z, zOk n z → zOk n (F z).2) : ∀ k a, zOk n a.2 → zOk n (zTl T n F k a).2
  | 0, a, h => h
  | k + 1, a, h => by
    unfold zTl
    split
    · exact zOk_Tl hF k _ (hF _ (zOk_A h))
    · split
      · exact zOk_Tl hF k _ (hF _ (zOk_A h))
      · exact h
theorem zOk_Sl {T : Nat → Int32} {n : Nat} {F : Tz → Int32 × Tz} (hF : ∀ z, zOk n z → zOk n (F z).2) : ∀ k a, zOk n a.2 → zOk n (zSl T n F k a).2
  | 0, a, h => h
  | k + 1, a, h => by
    unfold zSl
    split
    · exact zOk_Sl hF k _ (hF _ (zOk_A h))
    · split
      · exact zOk_Sl hF k _ (hF _ (zOk_A h))
      · exact h
theorem zOk_Fc {T : Nat → Int32} {n : Nat} {sz sc : Int32} {S : Option (Tz → Int32 × Tz)} (hS : ∀ f, S = some f → ∀ z, zOk n z → zOk n (f z).2) (z : Tz) (h : zOk n z) : zOk n (zFc T n sz sc S z).2 := by
  unfold zFc
  split
  · exact zOk_NN h
  · split
    · exact zOk_A h
    · split
      · exact zOk_A h
      · split
        · cases S with
          | none => exact h
          | some f => exact zOk_NS (hS f rfl _ (zOk_A h))
        · exact h
theorem zOk_Tm {T : Nat → Int32} {n : Nat} {F : Tz → Int32 × Tz} (hF : ∀ z, zOk n z → zOk n (F z).2) (z : Tz) (h : zOk n z) : zOk n (zTm T n F z).2 := zOk_Tl hF 700 _ (hF z h)
theorem zOk_Sm {T : Nat → Int32} {n : Nat} {F : Tz → Int32 × Tz} (hF : ∀ z, zOk n z → zOk n (F z).2) (z : Tz) (h : zOk n z) : zOk n (zSm T n F z).2 := zOk_Sl hF 700 _ (hF z h)
theorem zOk_Su {T : Nat → Int32} {n : Nat} {sz sc : Int32} : ∀ D z, zOk n z → zOk n (zSu T n sz sc D z).2
  | 0, z, h => zOk_Sm (fun z h => zOk_Tm (fun z h => zOk_Fc (fun f hf => by cases hf) z h) z h) z h
  | D + 1, z, h => zOk_Sm (fun z h => zOk_Tm (fun z h => zOk_Fc (fun f hf => by cases hf; exact fun z h => zOk_Su D z h) z h) z h) z h
theorem zOk_Fd {T : Nat → Int32} {n : Nat} {sz sc : Int32} : ∀ D z, zOk n z → zOk n (zFd T n sz sc D z).2
  | 0, z, h => zOk_Fc (fun f hf => by cases hf) z h
  | D + 1, z, h => zOk_Fc (fun f hf => by cases hf; exact fun z h => zOk_Su D z h) z h
theorem zOk_Td {T : Nat → Int32} {n : Nat} {sz sc : Int32} (D : Nat) (z : Tz) (h : zOk n z) : zOk n (zTd T n sz sc D z).2 := zOk_Tm (fun z h => zOk_Fd D z h) z h
theorem zPW_f {T : Nat → Int32} {n : Nat} {w : List Int32} {z : Tz} (h : zW T n w z = false) : zPW T n w z = z := if_neg (by rw [h]; decide)
theorem zPW_t {T : Nat → Int32} {n : Nat} {w : List Int32} {z : Tz} (h : zW T n w z = true) : zPW T n w z = zA T n z := if_pos h
theorem zPS_f {T : Nat → Int32} {n : Nat} {w : Int32} {z : Tz} (h : zS T n w z = false) : zPS T n w z = z := if_neg (by rw [h]; decide)
theorem zPS_t {T : Nat → Int32} {n : Nat} {w : Int32} {z : Tz} (h : zS T n w z = true) : zPS T n w z = zA T n z := if_pos h
theorem ne_t {b : Bool} (h : b = false) : ¬ b = true := by rw [h]; decide
section FC
variable {T : Nat → Int32} {n : Nat} {sz sc : Int32} {S : Option (Tz → Int32 × Tz)} {f : Tz → Int32 × Tz} {z : Tz}
theorem zFc_1 (h : zN T n z = true) : zFc T n sz sc S z = (zNv T n 0 9999 z, zNz T n 0 9999 z) := by
  unfold zFc
  rw [if_pos h]
theorem zFc_2 (h : zN T n z = false) (h2 : zW T n (tw 7) z = true) : zFc T n sz sc S z = (sz, zA T n z) := by
  unfold zFc
  rw [if_neg (ne_t h), if_pos h2]
theorem zFc_3 (h : zN T n z = false) (h2 : zW T n (tw 7) z = false) (h3 : zW T n (tw 8) z = true) : zFc T n sz sc S z = (sc, zA T n z) := by
  unfold zFc
  rw [if_neg (ne_t h), if_neg (ne_t h2), if_pos h3]
theorem zFc_4 (h : zN T n z = false) (h2 : zW T n (tw 7) z = false) (h3 : zW T n (tw 8) z = false) (h4 : zS T n 40 z = false) : zFc T n sz sc S z = (0, zF (-2) z) := by
  unfold zFc
  rw [if_neg (ne_t h), if_neg (ne_t h2), if_neg (ne_t h3), if_neg (ne_t h4)]
theorem zFc_5 (h : zN T n z = false) (h2 : zW T n (tw 7) z = false) (h3 : zW T n (tw 8) z = false) (h4 : zS T n 40 z = true) : zFc T n sz sc none z = (0, zF (-5) z) := by
  unfold zFc
  rw [if_neg (ne_t h), if_neg (ne_t h2), if_neg (ne_t h3), if_pos h4]
theorem zFc_6 (h : zN T n z = false) (h2 : zW T n (tw 7) z = false) (h3 : zW T n (tw 8) z = false) (h4 : zS T n 40 z = true) : zFc T n sz sc (some f) z = ((f (zA T n z)).1, zNS T n 41 (f (zA T n z)).2) := by
  unfold zFc
  rw [if_neg (ne_t h), if_neg (ne_t h2), if_neg (ne_t h3), if_pos h4]
theorem zFd_0 : zFd T n sz sc 0 z = zFc T n sz sc none z := rfl
theorem zFd_s {D : Nat} : zFd T n sz sc (D + 1) z = zFc T n sz sc (some (zSu T n sz sc D)) z := rfl
end FC
set_option maxHeartbeats 1000000 in
set_option maxRecDepth 100000 in
theorem c_X2_forget (l : Launch) (E : En) (I A : Nat → Nat → Int32) (K : Nat → Nat → Int64)  (hE : Ev cN E) : Met l yX2_forget (wz yX2_forget cX2_forget 1 none) (rmk 0 0 0 0) (va_Pc [.ref (eP E 4)] (Bw cN E cK (I, A, K))) (qWv cN E cK (fun uu => uu = (up2 I 4 1 (-1), A, K))) 0 0 (cA cN E) := by
  refine en_ofW RX2 rfl (by decide +kernel) (Nat.le_of_ble_eq_true rfl) ?_
  intro p e s m below meth c ls S hr hlk hnm hl hB
  have hx := S.1
  have hb := S.2.1
  obtain ⟨hK, hC, hP⟩ := hB
  have hS : va_S (cA cN E) s.heap s.heap [] := va_S.rf
  have hl : lv_has ls 1 [(0, .ref (eP E 4))] := hl
  refine lv_aload_n hx hb dX2_forget_0 rfl (lv_at hl 0 rfl) ?_
  refine lv_iconst (v := (-1)) hx hb dX2_forget_1 (by decide) ?_
  refine rw_puti (x := (I, A, K)) (v := (-1)) S hE hK hP hS 4 (by decide) (cK_lo (by decide)) fk_X2_11 rfl tyX2_ok nmX2 ⟨rfl, by decide +kernel⟩ dX2_forget_2 (fun H locs hP hS => ?_)
  have hP : Wp cN E cK ((up2 I 4 1 (-1)), A, K) H := hP
  exact re_wv (x := ((up2 I 4 1 (-1)), A, K)) hx hb hr hlk hP hS rfl dX2_forget_5

set_option maxHeartbeats 1000000 in
set_option maxRecDepth 100000 in
theorem c_X2_factor_0 (l : Launch) (E : En) (I A : Nat → Nat → Int32) (K : Nat → Nat → Int64) (T : Nat → Int32) (n : Nat) (z : Tz) (hE : Ev cN E) (hT : A 1 = T) (hz : zOk n z) : Met l yX2_factor (wz yX2_factor cX2_factor 3 (some .int)) (rmk 6 0 0 137) (va_Pc [.ref (eP E 4), .int 4] (Bw cN E cK (tkW I T n z, A, K))) (qWi cN E cK (fun zz uu => zz = (zFd T n (I 4 2) (I 4 3) 0 z).1 ∧ uu = (tkW I T n (zFd T n (I 4 2) (I 4 3) 0 z).2, A, K))) 0 0 (cA cN E) := by
  refine en_ofW RX2 rfl (by decide +kernel) (Nat.le_of_ble_eq_true rfl) ?_
  intro p e s m below meth c ls S hr hlk hnm hl hB
  have hx := S.1
  have hb := S.2.1
  obtain ⟨hK, hC, hP⟩ := hB
  have hS : va_S (cA cN E) s.heap s.heap [] := va_S.rf
  have hl : lv_has ls 3 [(0, .ref (eP E 4)), (1, .int 4)] := hl
  obtain ⟨hz1, hz2⟩ := id hz
  refine lv_aload_n hx hb dX2_factor_0 rfl (lv_at hl 0 rfl) ?_
  refine rw_getr (x := ((tkW I T n z), A, K)) S hK hP 4 (by decide) (cK_lo (by decide)) fk_X2_21 rfl dX2_factor_1 ?_
  refine cn_si (ck_V (a := eP E 3) S lk_X2_65 (c_X5_isNumber l E I A K T n z hE hT hz) ⟨rfl, rfl⟩ ⟨Nat.le_of_ble_eq_true rfl, Nat.le_of_ble_eq_true rfl⟩ bl_w (rc_w hK hP 3 (by decide) (cK_lo (by decide)) rfl) (bw_U hE hK hC hP hS) rfl hl.1 (Nat.le_of_ble_eq_true rfl) ⟨Nat.le_refl _, Nat.le_refl _⟩ dX2_factor_4 rfl) (fun r1 g2 => ?_)
  obtain rfl : r1 = bI (zN T n z) := g2
  refine lv_if_eq (tgt := 22) hx hb dX2_factor_7 (by decide) (fun h7 => ?_) (fun h7 => ?_)
  · have q1 : zN T n z = false := bI_f h7
    refine lv_aload_n hx hb dX2_factor_22 rfl (lv_at hl 0 rfl) ?_
    refine rw_getr (x := ((tkW I T n z), A, K)) S hK hP 4 (by decide) (cK_lo (by decide)) fk_X2_21 rfl dX2_factor_23 ?_
    refine va_ldcS (q := eS E 7) (tx := "size") hx hb S.2.2.2.1 (tr_7 hC.1.2.1) dX2_factor_26 ?_
    refine cn_wi (ck_V (a := eP E 3) S lk_X2_73 (c_X5_passWord l E I A K T n z 7 hE hT hz (by decide)) ⟨rfl, rfl⟩ ⟨Nat.le_of_ble_eq_true rfl, Nat.le_of_ble_eq_true rfl⟩ bl_w (rc_w hK hP 3 (by decide) (cK_lo (by decide)) rfl) (bw_U hE hK hC hP hS) rfl hl.1 (Nat.le_of_ble_eq_true rfl) ⟨Nat.le_refl _, Nat.le_refl _⟩ dX2_factor_28 rfl) hS (fun r3 u4 H locs g5 hP hS => ?_)
    obtain ⟨rfl, rfl⟩ : r3 = bI (zW T n (tw 7) z) ∧ u4 = (tkW I T n (zPW T n (tw 7) z), A, K) := g5
    have hP : Wp cN E cK ((tkW I T n ((zPW T n (tw 7) z))), A, K) H := hP
    refine lv_if_eq (tgt := 39) hx hb dX2_factor_31 (by decide) (fun h31 => ?_) (fun h31 => ?_)
    · have q2 : zW T n (tw 7) z = false := bI_f h31
      rw [zPW_f q2] at hP
      have hP : Wp cN E cK ((tkW I T n z), A, K) H := hP
      refine lv_aload_n hx hb dX2_factor_39 rfl (lv_at hl 0 rfl) ?_
      refine rw_getr (x := ((tkW I T n z), A, K)) S hK hP 4 (by decide) (cK_lo (by decide)) fk_X2_21 rfl dX2_factor_40 ?_
      refine va_ldcS (q := eS E 8) (tx := "scheme") hx hb S.2.2.2.1 (tr_8 hC.1.2.1) dX2_factor_43 ?_
      refine cn_wi (ck_V (a := eP E 3) S lk_X2_73 (c_X5_passWord l E I A K T n z 8 hE hT hz (by decide)) ⟨rfl, rfl⟩ ⟨Nat.le_of_ble_eq_true rfl, Nat.le_of_ble_eq_true rfl⟩ bl_w (rc_w hK hP 3 (by decide) (cK_lo (by decide)) rfl) (bw_U hE hK hC hP hS) rfl hl.1 (Nat.le_of_ble_eq_true rfl) ⟨Nat.le_refl _, Nat.le_refl _⟩ dX2_factor_45 rfl) hS (fun r6 u7 H locs g8 hP hS => ?_)
      obtain ⟨rfl, rfl⟩ : r6 = bI (zW T n (tw 8) z) ∧ u7 = (tkW I T n (zPW T n (tw 8) z), A, K) := g8
      have hP : Wp cN E cK ((tkW I T n ((zPW T n (tw 8) z))), A, K) H := hP
      refine lv_if_eq (tgt := 56) hx hb dX2_factor_48 (by decide) (fun h48 => ?_) (fun h48 => ?_)
      · have q3 : zW T n (tw 8) z = false := bI_f h48
        rw [zPW_f q3] at hP
        have hP : Wp cN E cK ((tkW I T n z), A, K) H := hP
        refine lv_aload_n hx hb dX2_factor_56 rfl (lv_at hl 0 rfl) ?_
        refine rw_getr (x := ((tkW I T n z), A, K)) S hK hP 4 (by decide) (cK_lo (by decide)) fk_X2_21 rfl dX2_factor_57 ?_
        refine lv_bipush (v := 40) hx hb dX2_factor_60 (by decide) ?_
        refine cn_si (ck_V (a := eP E 3) S lk_X2_78 (c_X5_isSign l E I A K T n z 40 hE hT hz) ⟨rfl, rfl⟩ ⟨Nat.le_of_ble_eq_true rfl, Nat.le_of_ble_eq_true rfl⟩ bl_w (rc_w hK hP 3 (by decide) (cK_lo (by decide)) rfl) (bw_U hE hK hC hP hS) rfl hl.1 (Nat.le_of_ble_eq_true rfl) ⟨Nat.le_refl _, Nat.le_refl _⟩ dX2_factor_62 rfl) (fun r9 g10 => ?_)
        obtain rfl : r9 = bI (zS T n 40 z) := g10
        refine lv_if_ne (tgt := 79) hx hb dX2_factor_65 (by decide) (fun h65 => ?_) (fun h65 => ?_)
        · have q4 : zS T n 40 z = true := bI_t h65
          refine lv_iload_n hx hb dX2_factor_79 rfl (lv_at hl 1 rfl) ?_
          refine lv_iconst (v := 4) hx hb dX2_factor_80 (by decide) ?_
          refine lv_icmp_lt (tgt := 95) hx hb dX2_factor_81 (by decide) (fun h81 => absurd h81 (by decide)) (fun h81 => ?_)
          refine lv_aload_n hx hb dX2_factor_84 rfl (lv_at hl 0 rfl) ?_
          refine rw_getr (x := ((tkW I T n z), A, K)) S hK hP 4 (by decide) (cK_lo (by decide)) fk_X2_21 rfl dX2_factor_85 ?_
          refine lv_bipush (v := (-5)) hx hb dX2_factor_88 (by decide) ?_
          refine cn_wv (ck_V (a := eP E 3) S lk_X2_81 (c_X5_fail l E I A K T n z (-5) hE hT hz (by decide)) ⟨rfl, rfl⟩ ⟨Nat.le_of_ble_eq_true rfl, Nat.le_of_ble_eq_true rfl⟩ bl_w (rc_w hK hP 3 (by decide) (cK_lo (by decide)) rfl) (bw_U hE hK hC hP hS) rfl hl.1 (Nat.le_of_ble_eq_true rfl) ⟨Nat.le_refl _, Nat.le_refl _⟩ dX2_factor_90 rfl) hS (fun u12 H locs g13 hP hS => ?_)
          obtain rfl : u12 = (tkW I T n (zF (-5) z), A, K) := g13
          have hP : Wp cN E cK ((tkW I T n ((zF (-5) z))), A, K) H := hP
          refine lv_iconst (v := 0) hx hb dX2_factor_93 (by decide) ?_
          have hfc := (show zFd T n (I 4 2) (I 4 3) 0 z = (0, zF (-5) z) from zFd_0.trans (zFc_5 q1 q2 q3 q4))
          exact re_wi (x := ((tkW I T n ((zF (-5) z))), A, K)) (v := 0) hx hb hr hlk hP hS ⟨(congrArg Prod.fst hfc).symm, by rw [hfc]⟩ dX2_factor_94
        · have q4 : zS T n 40 z = false := bI_f h65
          refine lv_aload_n hx hb dX2_factor_68 rfl (lv_at hl 0 rfl) ?_
          refine rw_getr (x := ((tkW I T n z), A, K)) S hK hP 4 (by decide) (cK_lo (by decide)) fk_X2_21 rfl dX2_factor_69 ?_
          refine lv_bipush (v := (-2)) hx hb dX2_factor_72 (by decide) ?_
          refine cn_wv (ck_V (a := eP E 3) S lk_X2_81 (c_X5_fail l E I A K T n z (-2) hE hT hz (by decide)) ⟨rfl, rfl⟩ ⟨Nat.le_of_ble_eq_true rfl, Nat.le_of_ble_eq_true rfl⟩ bl_w (rc_w hK hP 3 (by decide) (cK_lo (by decide)) rfl) (bw_U hE hK hC hP hS) rfl hl.1 (Nat.le_of_ble_eq_true rfl) ⟨Nat.le_refl _, Nat.le_refl _⟩ dX2_factor_74 rfl) hS (fun u15 H locs g16 hP hS => ?_)
          obtain rfl : u15 = (tkW I T n (zF (-2) z), A, K) := g16
          have hP : Wp cN E cK ((tkW I T n ((zF (-2) z))), A, K) H := hP
          refine lv_iconst (v := 0) hx hb dX2_factor_77 (by decide) ?_
          have hfc := (show zFd T n (I 4 2) (I 4 3) 0 z = (0, zF (-2) z) from zFd_0.trans (zFc_4 q1 q2 q3 q4))
          exact re_wi (x := ((tkW I T n ((zF (-2) z))), A, K)) (v := 0) hx hb hr hlk hP hS ⟨(congrArg Prod.fst hfc).symm, by rw [hfc]⟩ dX2_factor_78
      · have q3 : zW T n (tw 8) z = true := bI_t h48
        rw [zPW_t q3] at hP
        have hP : Wp cN E cK ((tkW I T n (zA T n z)), A, K) H := hP
        refine lv_aload_n hx hb dX2_factor_51 rfl (lv_at hl 0 rfl) ?_
        refine rw_geti (x := ((tkW I T n (zA T n z)), A, K)) (v := I 4 3) S hK hP 4 (by decide) (cK_lo (by decide)) fk_X2_18 rfl (tkW_ne (I := I) (T := T) (n := n) (z := (zA T n z)) (a := 4) (b := 3) (by decide)) dX2_factor_52 ?_
        have hfc := (show zFd T n (I 4 2) (I 4 3) 0 z = (I 4 3, zA T n z) from zFd_0.trans (zFc_3 q1 q2 q3))
        exact re_wi (x := ((tkW I T n (zA T n z)), A, K)) (v := I 4 3) hx hb hr hlk hP hS ⟨(congrArg Prod.fst hfc).symm, by rw [hfc]⟩ dX2_factor_55
    · have q2 : zW T n (tw 7) z = true := bI_t h31
      rw [zPW_t q2] at hP
      have hP : Wp cN E cK ((tkW I T n (zA T n z)), A, K) H := hP
      refine lv_aload_n hx hb dX2_factor_34 rfl (lv_at hl 0 rfl) ?_
      refine rw_geti (x := ((tkW I T n (zA T n z)), A, K)) (v := I 4 2) S hK hP 4 (by decide) (cK_lo (by decide)) fk_X2_15 rfl (tkW_ne (I := I) (T := T) (n := n) (z := (zA T n z)) (a := 4) (b := 2) (by decide)) dX2_factor_35 ?_
      have hfc := (show zFd T n (I 4 2) (I 4 3) 0 z = (I 4 2, zA T n z) from zFd_0.trans (zFc_2 q1 q2))
      exact re_wi (x := ((tkW I T n (zA T n z)), A, K)) (v := I 4 2) hx hb hr hlk hP hS ⟨(congrArg Prod.fst hfc).symm, by rw [hfc]⟩ dX2_factor_38
  · have q1 : zN T n z = true := bI_t h7
    refine lv_aload_n hx hb dX2_factor_10 rfl (lv_at hl 0 rfl) ?_
    refine rw_getr (x := ((tkW I T n z), A, K)) S hK hP 4 (by decide) (cK_lo (by decide)) fk_X2_21 rfl dX2_factor_11 ?_
    refine lv_iconst (v := 0) hx hb dX2_factor_14 (by decide) ?_
    refine lv_sipush (v := 9999) hx hb dX2_factor_15 (by decide) ?_
    refine cn_wi (ck_V (a := eP E 3) S lk_X2_69 (c_X5_needNumber l E I A K T n z 0 9999 hE hT hz) ⟨rfl, rfl⟩ ⟨Nat.le_of_ble_eq_true rfl, Nat.le_of_ble_eq_true rfl⟩ bl_w (rc_w hK hP 3 (by decide) (cK_lo (by decide)) rfl) (bw_U hE hK hC hP hS) rfl hl.1 (Nat.le_of_ble_eq_true rfl) ⟨Nat.le_refl _, Nat.le_refl _⟩ dX2_factor_18 rfl) hS (fun r17 u18 H locs g19 hP hS => ?_)
    obtain ⟨rfl, rfl⟩ : r17 = zNv T n 0 9999 z ∧ u18 = (tkW I T n (zNz T n 0 9999 z), A, K) := g19
    have hP : Wp cN E cK ((tkW I T n ((zNz T n 0 9999 z))), A, K) H := hP
    have hfc := (show zFd T n (I 4 2) (I 4 3) 0 z = (zNv T n 0 9999 z, zNz T n 0 9999 z) from zFd_0.trans (zFc_1 q1))
    exact re_wi (x := ((tkW I T n ((zNz T n 0 9999 z))), A, K)) (v := (zNv T n 0 9999 z)) hx hb hr hlk hP hS ⟨(congrArg Prod.fst hfc).symm, by rw [hfc]⟩ dX2_factor_21

set_option maxHeartbeats 1000000 in
set_option maxRecDepth 100000 in
theorem c_X2_term_0 (l : Launch) (E : En) (I A : Nat → Nat → Int32) (K : Nat → Nat → Int64) (T : Nat → Int32) (n : Nat) (z : Tz) (hE : Ev cN E) (hT : A 1 = T) (hz : zOk n z) : Met l yX2_term (wz yX2_term cX2_term 4 (some .int)) (rmk 7 0 0 159) (va_Pc [.ref (eP E 4), .int 4] (Bw cN E cK (tkW I T n z, A, K))) (qWi cN E cK (fun zz uu => zz = (zTd T n (I 4 2) (I 4 3) 0 z).1 ∧ uu = (tkW I T n (zTd T n (I 4 2) (I 4 3) 0 z).2, A, K))) 0 0 (cA cN E) := by
  refine en_ofW RX2 rfl (by decide +kernel) (Nat.le_of_ble_eq_true rfl) ?_
  intro p e s m below meth c ls S hr hlk hnm hl hB
  have hx := S.1
  have hb := S.2.1
  obtain ⟨hK, hC, hP⟩ := hB
  have hS : va_S (cA cN E) s.heap s.heap [] := va_S.rf
  have hl : lv_has ls 4 [(0, .ref (eP E 4)), (1, .int 4)] := hl
  obtain ⟨hz1, hz2⟩ := id hz
  refine lv_aload_n hx hb dX2_term_0 rfl (lv_at hl 0 rfl) ?_
  refine lv_iload_n hx hb dX2_term_1 rfl (lv_at hl 1 rfl) ?_
  refine cn_wi (ck_V (a := eP E 4) S lk_X2_55 (c_X2_factor_0 l E I A K T n z hE hT hz) ⟨rfl, rfl⟩ ⟨Nat.le_of_ble_eq_true rfl, Nat.le_of_ble_eq_true rfl⟩ bl_w (rc_w hK hP 4 (by decide) (cK_lo (by decide)) rfl) (bw_U hE hK hC hP hS) rfl hl.1 (Nat.le_of_ble_eq_true rfl) ⟨Nat.le_refl _, Nat.le_refl _⟩ dX2_term_2 rfl) hS (fun r1 u2 H locs g3 hP hS => ?_)
  obtain ⟨rfl, rfl⟩ : r1 = (zFd T n (I 4 2) (I 4 3) 0 z).1 ∧ u2 = (tkW I T n (zFd T n (I 4 2) (I 4 3) 0 z).2, A, K) := g3
  have hP : Wp cN E cK ((tkW I T n ((zFd T n (I 4 2) (I 4 3) 0 z).2)), A, K) H := hP
  refine lv_istore_n (lv' := [(2, .int ((zFd T n (I 4 2) (I 4 3) 0 z).1)), (0, .ref (eP E 4)), (1, .int 4)]) hx hb dX2_term_5 rfl hl (by decide) rfl (fun ls hl => ?_)
  refine lv_iconst (v := 0) hx hb dX2_term_6 (by decide) ?_
  refine lv_istore_n (lv' := [(3, .int 0), (2, .int ((zFd T n (I 4 2) (I 4 3) 0 z).1)), (0, .ref (eP E 4)), (1, .int 4)]) hx hb dX2_term_7 rfl hl (by decide) rfl (fun ls hl => ?_)
  have HL : ∀ (cnt i : Nat) (a : Int32) (za : Tz), i + cnt = 700 → zOk n za → zTl T n (zFd T n (I 4 2) (I 4 3) 0) cnt (a, za) = zTl T n (zFd T n (I 4 2) (I 4 3) 0) 700 ((zFd T n (I 4 2) (I 4 3) 0) z) → ∀ (H : Heap) (locs : List Loc), Wp cN E cK ((tkW I T n za), A, K) H → va_S (cA cN E) s.heap H locs → ∀ ls : Array Slot, lv_has ls 4 [(3, .int (nI i)), (2, .int a), (0, .ref (eP E 4)), (1, .int 4)] → W p l e (rmk 7 0 0 159) s m ([.ref (eP E 4), .int 4] : List Value).toArray below meth c H locs 0 0 (MQ below (qWi cN E cK (fun zz uu => zz = (zTd T n (I 4 2) (I 4 3) 0 z).1 ∧ uu = (tkW I T n (zTd T n (I 4 2) (I 4 3) 0 z).2, A, K))) ([.ref (eP E 4), .int 4] : List Value).toArray s 0 0 (cA cN E)) (F0 m 8 ls []) := by
    intro cnt
    induction cnt with
    | zero =>
      intro i a za hi hza hv H locs hP hS ls hl
      have hiN : i = 700 := by omega
      rw [hiN] at hl
      try rw [hiN] at hP
      refine lv_iload_n hx hb dX2_term_8 rfl (lv_at hl 0 rfl) ?_
      refine lv_sipush (v := 700) hx hb dX2_term_9 (by decide) ?_
      refine lv_icmp_ge (tgt := 68) hx hb dX2_term_12 (by decide) (fun h12 => ?_) (fun h12 => absurd (Int32.le_refl _) h12)
      refine lv_iload_n hx hb dX2_term_68 rfl (lv_at hl 1 rfl) ?_
      have hfc : (a, za) = zTl T n (zFd T n (I 4 2) (I 4 3) 0) 700 ((zFd T n (I 4 2) (I 4 3) 0) z) := hv
      have hfc : (a, za) = zTd T n (I 4 2) (I 4 3) 0 z := hfc.trans zTd_e.symm
      exact re_wi (x := ((tkW I T n za), A, K)) (v := a) hx hb hr hlk hP hS ⟨congrArg Prod.fst hfc, by rw [← hfc]⟩ dX2_term_69
    | succ cnt ih =>
      intro i a za hi hza hv H locs hP hS ls hl
      have hlt : i < 700 := by omega
      refine lv_iload_n hx hb dX2_term_8 rfl (lv_at hl 0 rfl) ?_
      refine lv_sipush (v := 700) hx hb dX2_term_9 (by decide) ?_
      refine lv_icmp_ge (tgt := 68) hx hb dX2_term_12 (by decide) (fun h12 => absurd h12 (nI_ge (b := 700) hlt (by decide))) (fun h12 => ?_)
      refine lv_aload_n hx hb dX2_term_15 rfl (lv_at hl 2 rfl) ?_
      refine rw_getr (x := ((tkW I T n za), A, K)) S hK hP 4 (by decide) (cK_lo (by decide)) fk_X2_21 rfl dX2_term_16 ?_
      refine lv_bipush (v := 42) hx hb dX2_term_19 (by decide) ?_
      refine cn_wi (ck_V (a := eP E 3) S lk_X2_49 (c_X5_passSign l E I A K T n za 42 hE hT hza) ⟨rfl, rfl⟩ ⟨Nat.le_of_ble_eq_true rfl, Nat.le_of_ble_eq_true rfl⟩ bl_w (rc_w hK hP 3 (by decide) (cK_lo (by decide)) rfl) (bw_U hE hK hC hP hS) rfl hl.1 (Nat.le_of_ble_eq_true rfl) ⟨Nat.le_refl _, Nat.le_refl _⟩ dX2_term_21 rfl) hS (fun r4 u5 H locs g6 hP hS => ?_)
      obtain ⟨rfl, rfl⟩ : r4 = bI (zS T n 42 za) ∧ u5 = (tkW I T n (zPS T n 42 za), A, K) := g6
      have hP : Wp cN E cK ((tkW I T n ((zPS T n 42 za))), A, K) H := hP
      refine lv_if_eq (tgt := 40) hx hb dX2_term_24 (by decide) (fun h24 => ?_) (fun h24 => ?_)
      · have q1 : zS T n 42 za = false := bI_f h24
        rw [zPS_f q1] at hP
        have hP : Wp cN E cK ((tkW I T n za), A, K) H := hP
        refine lv_aload_n hx hb dX2_term_40 rfl (lv_at hl 2 rfl) ?_
        refine rw_getr (x := ((tkW I T n za), A, K)) S hK hP 4 (by decide) (cK_lo (by decide)) fk_X2_21 rfl dX2_term_41 ?_
        refine lv_bipush (v := 47) hx hb dX2_term_44 (by decide) ?_
        refine cn_wi (ck_V (a := eP E 3) S lk_X2_49 (c_X5_passSign l E I A K T n za 47 hE hT hza) ⟨rfl, rfl⟩ ⟨Nat.le_of_ble_eq_true rfl, Nat.le_of_ble_eq_true rfl⟩ bl_w (rc_w hK hP 3 (by decide) (cK_lo (by decide)) rfl) (bw_U hE hK hC hP hS) rfl hl.1 (Nat.le_of_ble_eq_true rfl) ⟨Nat.le_refl _, Nat.le_refl _⟩ dX2_term_46 rfl) hS (fun r7 u8 H locs g9 hP hS => ?_)
        obtain ⟨rfl, rfl⟩ : r7 = bI (zS T n 47 za) ∧ u8 = (tkW I T n (zPS T n 47 za), A, K) := g9
        have hP : Wp cN E cK ((tkW I T n ((zPS T n 47 za))), A, K) H := hP
        refine lv_if_eq (tgt := 68) hx hb dX2_term_49 (by decide) (fun h49 => ?_) (fun h49 => ?_)
        · have q2 : zS T n 47 za = false := bI_f h49
          rw [zPS_f q2] at hP
          have hP : Wp cN E cK ((tkW I T n za), A, K) H := hP
          refine lv_iload_n hx hb dX2_term_68 rfl (lv_at hl 1 rfl) ?_
          have hfc := (zTl_e (F := (zFd T n (I 4 2) (I 4 3) 0)) (k := cnt) (a := a) q1 q2).symm.trans hv
          have hfc : (a, za) = zTd T n (I 4 2) (I 4 3) 0 z := hfc.trans zTd_e.symm
          exact re_wi (x := ((tkW I T n za), A, K)) (v := a) hx hb hr hlk hP hS ⟨congrArg Prod.fst hfc, by rw [← hfc]⟩ dX2_term_69
        · have q2 : zS T n 47 za = true := bI_t h49
          rw [zPS_t q2] at hP
          have hP : Wp cN E cK ((tkW I T n (zA T n za)), A, K) H := hP
          refine lv_iload_n hx hb dX2_term_52 rfl (lv_at hl 1 rfl) ?_
          refine lv_aload_n hx hb dX2_term_53 rfl (lv_at hl 2 rfl) ?_
          refine lv_iload_n hx hb dX2_term_54 rfl (lv_at hl 3 rfl) ?_
          refine cn_wi (ck_V (a := eP E 4) S lk_X2_55 (c_X2_factor_0 l E I A K T n (zA T n za) hE hT (zOk_A hza)) ⟨rfl, rfl⟩ ⟨Nat.le_of_ble_eq_true rfl, Nat.le_of_ble_eq_true rfl⟩ bl_w (rc_w hK hP 4 (by decide) (cK_lo (by decide)) rfl) (bw_U hE hK hC hP hS) rfl hl.1 (Nat.le_of_ble_eq_true rfl) ⟨Nat.le_refl _, Nat.le_refl _⟩ dX2_term_55 rfl) hS (fun r10 u11 H locs g12 hP hS => ?_)
          obtain ⟨rfl, rfl⟩ : r10 = (zFd T n (I 4 2) (I 4 3) 0 (zA T n za)).1 ∧ u11 = (tkW I T n (zFd T n (I 4 2) (I 4 3) 0 (zA T n za)).2, A, K) := g12
          have hP : Wp cN E cK ((tkW I T n ((zFd T n (I 4 2) (I 4 3) 0 (zA T n za)).2)), A, K) H := hP
          refine cn_si (ck_S S lk_X2_62 (c_X2_quotient l a ((zFd T n (I 4 2) (I 4 3) 0 (zA T n za)).1)) ⟨rfl, rfl⟩ ⟨Nat.le_of_ble_eq_true rfl, Nat.le_of_ble_eq_true rfl⟩ bl_T t_U rfl hl.1 (Nat.le_of_ble_eq_true rfl) ⟨Nat.le_refl _, Nat.le_refl _⟩ dX2_term_58 rfl) (fun r13 g14 => ?_)
          obtain rfl : r13 = cQuo a ((zFd T n (I 4 2) (I 4 3) 0 (zA T n za)).1) := g14
          refine lv_istore_n (lv' := [(2, .int (cQuo a ((zFd T n (I 4 2) (I 4 3) 0 (zA T n za)).1))), (3, .int (nI i)), (0, .ref (eP E 4)), (1, .int 4)]) hx hb dX2_term_61 rfl hl (by decide) rfl (fun ls hl => ?_)
          refine lv_iinc (v := nI (i + 1)) (lv' := [(3, .int (nI (i + 1))), (2, .int (cQuo a ((zFd T n (I 4 2) (I 4 3) 0 (zA T n za)).1))), (0, .ref (eP E 4)), (1, .int 4)]) hx hb dX2_term_62 hl (k := 1) rfl (nI_1 _) (by decide) rfl (fun ls hl => ?_)
          refine lv_goto (tgt := 8) hx hb dX2_term_65 (by decide) ?_
          exact ih (i + 1) _ _ (by omega) (zOk_Fd 0 _ (zOk_A hza)) ((zTl_d q1 q2).symm.trans hv) _ _ hP hS ls (lv_sub hl [0, 1, 2, 3] rfl)
      · have q1 : zS T n 42 za = true := bI_t h24
        rw [zPS_t q1] at hP
        have hP : Wp cN E cK ((tkW I T n (zA T n za)), A, K) H := hP
        refine lv_iload_n hx hb dX2_term_27 rfl (lv_at hl 1 rfl) ?_
        refine lv_aload_n hx hb dX2_term_28 rfl (lv_at hl 2 rfl) ?_
        refine lv_iload_n hx hb dX2_term_29 rfl (lv_at hl 3 rfl) ?_
        refine cn_wi (ck_V (a := eP E 4) S lk_X2_55 (c_X2_factor_0 l E I A K T n (zA T n za) hE hT (zOk_A hza)) ⟨rfl, rfl⟩ ⟨Nat.le_of_ble_eq_true rfl, Nat.le_of_ble_eq_true rfl⟩ bl_w (rc_w hK hP 4 (by decide) (cK_lo (by decide)) rfl) (bw_U hE hK hC hP hS) rfl hl.1 (Nat.le_of_ble_eq_true rfl) ⟨Nat.le_refl _, Nat.le_refl _⟩ dX2_term_30 rfl) hS (fun r15 u16 H locs g17 hP hS => ?_)
        obtain ⟨rfl, rfl⟩ : r15 = (zFd T n (I 4 2) (I 4 3) 0 (zA T n za)).1 ∧ u16 = (tkW I T n (zFd T n (I 4 2) (I 4 3) 0 (zA T n za)).2, A, K) := g17
        have hP : Wp cN E cK ((tkW I T n ((zFd T n (I 4 2) (I 4 3) 0 (zA T n za)).2)), A, K) H := hP
        refine cn_si (ck_S S lk_X2_58 (c_X2_product l a ((zFd T n (I 4 2) (I 4 3) 0 (zA T n za)).1)) ⟨rfl, rfl⟩ ⟨Nat.le_of_ble_eq_true rfl, Nat.le_of_ble_eq_true rfl⟩ bl_T t_U rfl hl.1 (Nat.le_of_ble_eq_true rfl) ⟨Nat.le_refl _, Nat.le_refl _⟩ dX2_term_33 rfl) (fun r18 g19 => ?_)
        obtain rfl : r18 = cProd a ((zFd T n (I 4 2) (I 4 3) 0 (zA T n za)).1) := g19
        refine lv_istore_n (lv' := [(2, .int (cProd a ((zFd T n (I 4 2) (I 4 3) 0 (zA T n za)).1))), (3, .int (nI i)), (0, .ref (eP E 4)), (1, .int 4)]) hx hb dX2_term_36 rfl hl (by decide) rfl (fun ls hl => ?_)
        refine lv_goto (tgt := 62) hx hb dX2_term_37 (by decide) ?_
        refine lv_iinc (v := nI (i + 1)) (lv' := [(3, .int (nI (i + 1))), (2, .int (cProd a ((zFd T n (I 4 2) (I 4 3) 0 (zA T n za)).1))), (0, .ref (eP E 4)), (1, .int 4)]) hx hb dX2_term_62 hl (k := 1) rfl (nI_1 _) (by decide) rfl (fun ls hl => ?_)
        refine lv_goto (tgt := 8) hx hb dX2_term_65 (by decide) ?_
        exact ih (i + 1) _ _ (by omega) (zOk_Fd 0 _ (zOk_A hza)) ((zTl_m q1).symm.trans hv) _ _ hP hS ls (lv_sub hl [0, 1, 2, 3] rfl)
  exact HL 700 0 ((zFd T n (I 4 2) (I 4 3) 0) z).1 ((zFd T n (I 4 2) (I 4 3) 0) z).2 (by omega) (zOk_Fd 0 _ hz) (congrArg (zTl T n (zFd T n (I 4 2) (I 4 3) 0) 700) (rfl : (((zFd T n (I 4 2) (I 4 3) 0) z).1, ((zFd T n (I 4 2) (I 4 3) 0) z).2) = (zFd T n (I 4 2) (I 4 3) 0) z)) _ _ hP hS ls (lv_sub hl [0, 1, 2, 3] rfl)

set_option maxHeartbeats 1000000 in
set_option maxRecDepth 100000 in
theorem c_X2_sum_0 (l : Launch) (E : En) (I A : Nat → Nat → Int32) (K : Nat → Nat → Int64) (T : Nat → Int32) (n : Nat) (z : Tz) (hE : Ev cN E) (hT : A 1 = T) (hz : zOk n z) : Met l yX2_sum (wz yX2_sum cX2_sum 4 (some .int)) (rmk 8 0 0 182) (va_Pc [.ref (eP E 4), .int 4] (Bw cN E cK (tkW I T n z, A, K))) (qWi cN E cK (fun zz uu => zz = (zSu T n (I 4 2) (I 4 3) 0 z).1 ∧ uu = (tkW I T n (zSu T n (I 4 2) (I 4 3) 0 z).2, A, K))) 0 0 (cA cN E) := by
  refine en_ofW RX2 rfl (by decide +kernel) (Nat.le_of_ble_eq_true rfl) ?_
  intro p e s m below meth c ls S hr hlk hnm hl hB
  have hx := S.1
  have hb := S.2.1
  obtain ⟨hK, hC, hP⟩ := hB
  have hS : va_S (cA cN E) s.heap s.heap [] := va_S.rf
  have hl : lv_has ls 4 [(0, .ref (eP E 4)), (1, .int 4)] := hl
  obtain ⟨hz1, hz2⟩ := id hz
  refine lv_aload_n hx hb dX2_sum_0 rfl (lv_at hl 0 rfl) ?_
  refine lv_iload_n hx hb dX2_sum_1 rfl (lv_at hl 1 rfl) ?_
  refine cn_wi (ck_V (a := eP E 4) S lk_X2_46 (c_X2_term_0 l E I A K T n z hE hT hz) ⟨rfl, rfl⟩ ⟨Nat.le_of_ble_eq_true rfl, Nat.le_of_ble_eq_true rfl⟩ bl_w (rc_w hK hP 4 (by decide) (cK_lo (by decide)) rfl) (bw_U hE hK hC hP hS) rfl hl.1 (Nat.le_of_ble_eq_true rfl) ⟨Nat.le_refl _, Nat.le_refl _⟩ dX2_sum_2 rfl) hS (fun r1 u2 H locs g3 hP hS => ?_)
  obtain ⟨rfl, rfl⟩ : r1 = (zTd T n (I 4 2) (I 4 3) 0 z).1 ∧ u2 = (tkW I T n (zTd T n (I 4 2) (I 4 3) 0 z).2, A, K) := g3
  have hP : Wp cN E cK ((tkW I T n ((zTd T n (I 4 2) (I 4 3) 0 z).2)), A, K) H := hP
  refine lv_istore_n (lv' := [(2, .int ((zTd T n (I 4 2) (I 4 3) 0 z).1)), (0, .ref (eP E 4)), (1, .int 4)]) hx hb dX2_sum_5 rfl hl (by decide) rfl (fun ls hl => ?_)
  refine lv_iconst (v := 0) hx hb dX2_sum_6 (by decide) ?_
  refine lv_istore_n (lv' := [(3, .int 0), (2, .int ((zTd T n (I 4 2) (I 4 3) 0 z).1)), (0, .ref (eP E 4)), (1, .int 4)]) hx hb dX2_sum_7 rfl hl (by decide) rfl (fun ls hl => ?_)
  have HL : ∀ (cnt i : Nat) (a : Int32) (za : Tz), i + cnt = 700 → zOk n za → zSl T n (zTd T n (I 4 2) (I 4 3) 0) cnt (a, za) = zSl T n (zTd T n (I 4 2) (I 4 3) 0) 700 ((zTd T n (I 4 2) (I 4 3) 0) z) → ∀ (H : Heap) (locs : List Loc), Wp cN E cK ((tkW I T n za), A, K) H → va_S (cA cN E) s.heap H locs → ∀ ls : Array Slot, lv_has ls 4 [(3, .int (nI i)), (2, .int a), (0, .ref (eP E 4)), (1, .int 4)] → W p l e (rmk 8 0 0 182) s m ([.ref (eP E 4), .int 4] : List Value).toArray below meth c H locs 0 0 (MQ below (qWi cN E cK (fun zz uu => zz = (zSu T n (I 4 2) (I 4 3) 0 z).1 ∧ uu = (tkW I T n (zSu T n (I 4 2) (I 4 3) 0 z).2, A, K))) ([.ref (eP E 4), .int 4] : List Value).toArray s 0 0 (cA cN E)) (F0 m 8 ls []) := by
    intro cnt
    induction cnt with
    | zero =>
      intro i a za hi hza hv H locs hP hS ls hl
      have hiN : i = 700 := by omega
      rw [hiN] at hl
      try rw [hiN] at hP
      refine lv_iload_n hx hb dX2_sum_8 rfl (lv_at hl 0 rfl) ?_
      refine lv_sipush (v := 700) hx hb dX2_sum_9 (by decide) ?_
      refine lv_icmp_ge (tgt := 78) hx hb dX2_sum_12 (by decide) (fun h12 => ?_) (fun h12 => absurd (Int32.le_refl _) h12)
      refine lv_iload_n hx hb dX2_sum_78 rfl (lv_at hl 1 rfl) ?_
      have hfc : (a, za) = zSl T n (zTd T n (I 4 2) (I 4 3) 0) 700 ((zTd T n (I 4 2) (I 4 3) 0) z) := hv
      have hfc : (a, za) = zSu T n (I 4 2) (I 4 3) 0 z := hfc.trans zSu_e.symm
      exact re_wi (x := ((tkW I T n za), A, K)) (v := a) hx hb hr hlk hP hS ⟨congrArg Prod.fst hfc, by rw [← hfc]⟩ dX2_sum_79
    | succ cnt ih =>
      intro i a za hi hza hv H locs hP hS ls hl
      have hlt : i < 700 := by omega
      refine lv_iload_n hx hb dX2_sum_8 rfl (lv_at hl 0 rfl) ?_
      refine lv_sipush (v := 700) hx hb dX2_sum_9 (by decide) ?_
      refine lv_icmp_ge (tgt := 78) hx hb dX2_sum_12 (by decide) (fun h12 => absurd h12 (nI_ge (b := 700) hlt (by decide))) (fun h12 => ?_)
      refine lv_aload_n hx hb dX2_sum_15 rfl (lv_at hl 2 rfl) ?_
      refine rw_getr (x := ((tkW I T n za), A, K)) S hK hP 4 (by decide) (cK_lo (by decide)) fk_X2_21 rfl dX2_sum_16 ?_
      refine lv_bipush (v := 43) hx hb dX2_sum_19 (by decide) ?_
      refine cn_wi (ck_V (a := eP E 3) S lk_X2_49 (c_X5_passSign l E I A K T n za 43 hE hT hza) ⟨rfl, rfl⟩ ⟨Nat.le_of_ble_eq_true rfl, Nat.le_of_ble_eq_true rfl⟩ bl_w (rc_w hK hP 3 (by decide) (cK_lo (by decide)) rfl) (bw_U hE hK hC hP hS) rfl hl.1 (Nat.le_of_ble_eq_true rfl) ⟨Nat.le_refl _, Nat.le_refl _⟩ dX2_sum_21 rfl) hS (fun r4 u5 H locs g6 hP hS => ?_)
      obtain ⟨rfl, rfl⟩ : r4 = bI (zS T n 43 za) ∧ u5 = (tkW I T n (zPS T n 43 za), A, K) := g6
      have hP : Wp cN E cK ((tkW I T n ((zPS T n 43 za))), A, K) H := hP
      refine lv_if_eq (tgt := 45) hx hb dX2_sum_24 (by decide) (fun h24 => ?_) (fun h24 => ?_)
      · have q1 : zS T n 43 za = false := bI_f h24
        rw [zPS_f q1] at hP
        have hP : Wp cN E cK ((tkW I T n za), A, K) H := hP
        refine lv_aload_n hx hb dX2_sum_45 rfl (lv_at hl 2 rfl) ?_
        refine rw_getr (x := ((tkW I T n za), A, K)) S hK hP 4 (by decide) (cK_lo (by decide)) fk_X2_21 rfl dX2_sum_46 ?_
        refine lv_bipush (v := 45) hx hb dX2_sum_49 (by decide) ?_
        refine cn_wi (ck_V (a := eP E 3) S lk_X2_49 (c_X5_passSign l E I A K T n za 45 hE hT hza) ⟨rfl, rfl⟩ ⟨Nat.le_of_ble_eq_true rfl, Nat.le_of_ble_eq_true rfl⟩ bl_w (rc_w hK hP 3 (by decide) (cK_lo (by decide)) rfl) (bw_U hE hK hC hP hS) rfl hl.1 (Nat.le_of_ble_eq_true rfl) ⟨Nat.le_refl _, Nat.le_refl _⟩ dX2_sum_51 rfl) hS (fun r7 u8 H locs g9 hP hS => ?_)
        obtain ⟨rfl, rfl⟩ : r7 = bI (zS T n 45 za) ∧ u8 = (tkW I T n (zPS T n 45 za), A, K) := g9
        have hP : Wp cN E cK ((tkW I T n ((zPS T n 45 za))), A, K) H := hP
        refine lv_if_eq (tgt := 78) hx hb dX2_sum_54 (by decide) (fun h54 => ?_) (fun h54 => ?_)
        · have q2 : zS T n 45 za = false := bI_f h54
          rw [zPS_f q2] at hP
          have hP : Wp cN E cK ((tkW I T n za), A, K) H := hP
          refine lv_iload_n hx hb dX2_sum_78 rfl (lv_at hl 1 rfl) ?_
          have hfc := (zSl_e (F := (zTd T n (I 4 2) (I 4 3) 0)) (k := cnt) (a := a) q1 q2).symm.trans hv
          have hfc : (a, za) = zSu T n (I 4 2) (I 4 3) 0 z := hfc.trans zSu_e.symm
          exact re_wi (x := ((tkW I T n za), A, K)) (v := a) hx hb hr hlk hP hS ⟨congrArg Prod.fst hfc, by rw [← hfc]⟩ dX2_sum_79
        · have q2 : zS T n 45 za = true := bI_t h54
          rw [zPS_t q2] at hP
          have hP : Wp cN E cK ((tkW I T n (zA T n za)), A, K) H := hP
          refine lv_iload_n hx hb dX2_sum_57 rfl (lv_at hl 1 rfl) ?_
          refine lv_aload_n hx hb dX2_sum_58 rfl (lv_at hl 2 rfl) ?_
          refine lv_iload_n hx hb dX2_sum_59 rfl (lv_at hl 3 rfl) ?_
          refine cn_wi (ck_V (a := eP E 4) S lk_X2_46 (c_X2_term_0 l E I A K T n (zA T n za) hE hT (zOk_A hza)) ⟨rfl, rfl⟩ ⟨Nat.le_of_ble_eq_true rfl, Nat.le_of_ble_eq_true rfl⟩ bl_w (rc_w hK hP 4 (by decide) (cK_lo (by decide)) rfl) (bw_U hE hK hC hP hS) rfl hl.1 (Nat.le_of_ble_eq_true rfl) ⟨Nat.le_refl _, Nat.le_refl _⟩ dX2_sum_60 rfl) hS (fun r10 u11 H locs g12 hP hS => ?_)
          obtain ⟨rfl, rfl⟩ : r10 = (zTd T n (I 4 2) (I 4 3) 0 (zA T n za)).1 ∧ u11 = (tkW I T n (zTd T n (I 4 2) (I 4 3) 0 (zA T n za)).2, A, K) := g12
          have hP : Wp cN E cK ((tkW I T n ((zTd T n (I 4 2) (I 4 3) 0 (zA T n za)).2)), A, K) H := hP
          refine lv_isub hx hb dX2_sum_63 ?_
          refine lv_ldc (v := (-1000000)) hx hb S.2.2.2.1 (S.2.2.2.2 _ kc_X2_53) dX2_sum_64 ?_
          refine lv_ldc (v := 1000000) hx hb S.2.2.2.1 (S.2.2.2.2 _ kc_X2_54) dX2_sum_66 ?_
          refine cn_si (ck_N S ln_X6_limited hC.1.1.2.2.2.1 (c_X6_limited l (a - ((zTd T n (I 4 2) (I 4 3) 0 (zA T n za)).1)) (-1000000) 1000000) ⟨rfl, rfl⟩ ⟨Nat.le_of_ble_eq_true rfl, Nat.le_of_ble_eq_true rfl⟩ bl_T t_U rfl hl.1 (Nat.le_of_ble_eq_true rfl) ⟨Nat.le_refl _, Nat.le_refl _⟩ dX2_sum_68 rfl) (fun r13 g14 => ?_)
          obtain rfl : r13 = pLim (a - ((zTd T n (I 4 2) (I 4 3) 0 (zA T n za)).1)) (-1000000) 1000000 := g14
          refine lv_istore_n (lv' := [(2, .int (pLim (a - ((zTd T n (I 4 2) (I 4 3) 0 (zA T n za)).1)) (-1000000) 1000000)), (3, .int (nI i)), (0, .ref (eP E 4)), (1, .int 4)]) hx hb dX2_sum_71 rfl hl (by decide) rfl (fun ls hl => ?_)
          refine lv_iinc (v := nI (i + 1)) (lv' := [(3, .int (nI (i + 1))), (2, .int (pLim (a - ((zTd T n (I 4 2) (I 4 3) 0 (zA T n za)).1)) (-1000000) 1000000)), (0, .ref (eP E 4)), (1, .int 4)]) hx hb dX2_sum_72 hl (k := 1) rfl (nI_1 _) (by decide) rfl (fun ls hl => ?_)
          refine lv_goto (tgt := 8) hx hb dX2_sum_75 (by decide) ?_
          exact ih (i + 1) _ _ (by omega) (zOk_Td 0 _ (zOk_A hza)) ((zSl_d q1 q2).symm.trans hv) _ _ hP hS ls (lv_sub hl [0, 1, 2, 3] rfl)
      · have q1 : zS T n 43 za = true := bI_t h24
        rw [zPS_t q1] at hP
        have hP : Wp cN E cK ((tkW I T n (zA T n za)), A, K) H := hP
        refine lv_iload_n hx hb dX2_sum_27 rfl (lv_at hl 1 rfl) ?_
        refine lv_aload_n hx hb dX2_sum_28 rfl (lv_at hl 2 rfl) ?_
        refine lv_iload_n hx hb dX2_sum_29 rfl (lv_at hl 3 rfl) ?_
        refine cn_wi (ck_V (a := eP E 4) S lk_X2_46 (c_X2_term_0 l E I A K T n (zA T n za) hE hT (zOk_A hza)) ⟨rfl, rfl⟩ ⟨Nat.le_of_ble_eq_true rfl, Nat.le_of_ble_eq_true rfl⟩ bl_w (rc_w hK hP 4 (by decide) (cK_lo (by decide)) rfl) (bw_U hE hK hC hP hS) rfl hl.1 (Nat.le_of_ble_eq_true rfl) ⟨Nat.le_refl _, Nat.le_refl _⟩ dX2_sum_30 rfl) hS (fun r15 u16 H locs g17 hP hS => ?_)
        obtain ⟨rfl, rfl⟩ : r15 = (zTd T n (I 4 2) (I 4 3) 0 (zA T n za)).1 ∧ u16 = (tkW I T n (zTd T n (I 4 2) (I 4 3) 0 (zA T n za)).2, A, K) := g17
        have hP : Wp cN E cK ((tkW I T n ((zTd T n (I 4 2) (I 4 3) 0 (zA T n za)).2)), A, K) H := hP
        refine lv_iadd hx hb dX2_sum_33 ?_
        refine lv_ldc (v := (-1000000)) hx hb S.2.2.2.1 (S.2.2.2.2 _ kc_X2_53) dX2_sum_34 ?_
        refine lv_ldc (v := 1000000) hx hb S.2.2.2.1 (S.2.2.2.2 _ kc_X2_54) dX2_sum_36 ?_
        refine cn_si (ck_N S ln_X6_limited hC.1.1.2.2.2.1 (c_X6_limited l (a + ((zTd T n (I 4 2) (I 4 3) 0 (zA T n za)).1)) (-1000000) 1000000) ⟨rfl, rfl⟩ ⟨Nat.le_of_ble_eq_true rfl, Nat.le_of_ble_eq_true rfl⟩ bl_T t_U rfl hl.1 (Nat.le_of_ble_eq_true rfl) ⟨Nat.le_refl _, Nat.le_refl _⟩ dX2_sum_38 rfl) (fun r18 g19 => ?_)
        obtain rfl : r18 = pLim (a + ((zTd T n (I 4 2) (I 4 3) 0 (zA T n za)).1)) (-1000000) 1000000 := g19
        refine lv_istore_n (lv' := [(2, .int (pLim (a + ((zTd T n (I 4 2) (I 4 3) 0 (zA T n za)).1)) (-1000000) 1000000)), (3, .int (nI i)), (0, .ref (eP E 4)), (1, .int 4)]) hx hb dX2_sum_41 rfl hl (by decide) rfl (fun ls hl => ?_)
        refine lv_goto (tgt := 72) hx hb dX2_sum_42 (by decide) ?_
        refine lv_iinc (v := nI (i + 1)) (lv' := [(3, .int (nI (i + 1))), (2, .int (pLim (a + ((zTd T n (I 4 2) (I 4 3) 0 (zA T n za)).1)) (-1000000) 1000000)), (0, .ref (eP E 4)), (1, .int 4)]) hx hb dX2_sum_72 hl (k := 1) rfl (nI_1 _) (by decide) rfl (fun ls hl => ?_)
        refine lv_goto (tgt := 8) hx hb dX2_sum_75 (by decide) ?_
        exact ih (i + 1) _ _ (by omega) (zOk_Td 0 _ (zOk_A hza)) ((zSl_m q1).symm.trans hv) _ _ hP hS ls (lv_sub hl [0, 1, 2, 3] rfl)
  exact HL 700 0 ((zTd T n (I 4 2) (I 4 3) 0) z).1 ((zTd T n (I 4 2) (I 4 3) 0) z).2 (by omega) (zOk_Td 0 _ hz) (congrArg (zSl T n (zTd T n (I 4 2) (I 4 3) 0) 700) (rfl : (((zTd T n (I 4 2) (I 4 3) 0) z).1, ((zTd T n (I 4 2) (I 4 3) 0) z).2) = (zTd T n (I 4 2) (I 4 3) 0) z)) _ _ hP hS ls (lv_sub hl [0, 1, 2, 3] rfl)

set_option maxHeartbeats 1000000 in
set_option maxRecDepth 100000 in
theorem c_X2_factor_1 (l : Launch) (E : En) (I A : Nat → Nat → Int32) (K : Nat → Nat → Int64) (T : Nat → Int32) (n : Nat) (z : Tz) (hE : Ev cN E) (hT : A 1 = T) (hz : zOk n z) : Met l yX2_factor (wz yX2_factor cX2_factor 3 (some .int)) (rmk 9 0 0 205) (va_Pc [.ref (eP E 4), .int 3] (Bw cN E cK (tkW I T n z, A, K))) (qWi cN E cK (fun zz uu => zz = (zFd T n (I 4 2) (I 4 3) 1 z).1 ∧ uu = (tkW I T n (zFd T n (I 4 2) (I 4 3) 1 z).2, A, K))) 0 0 (cA cN E) := by
  refine en_ofW RX2 rfl (by decide +kernel) (Nat.le_of_ble_eq_true rfl) ?_
  intro p e s m below meth c ls S hr hlk hnm hl hB
  have hx := S.1
  have hb := S.2.1
  obtain ⟨hK, hC, hP⟩ := hB
  have hS : va_S (cA cN E) s.heap s.heap [] := va_S.rf
  have hl : lv_has ls 3 [(0, .ref (eP E 4)), (1, .int 3)] := hl
  obtain ⟨hz1, hz2⟩ := id hz
  refine lv_aload_n hx hb dX2_factor_0 rfl (lv_at hl 0 rfl) ?_
  refine rw_getr (x := ((tkW I T n z), A, K)) S hK hP 4 (by decide) (cK_lo (by decide)) fk_X2_21 rfl dX2_factor_1 ?_
  refine cn_si (ck_V (a := eP E 3) S lk_X2_65 (c_X5_isNumber l E I A K T n z hE hT hz) ⟨rfl, rfl⟩ ⟨Nat.le_of_ble_eq_true rfl, Nat.le_of_ble_eq_true rfl⟩ bl_w (rc_w hK hP 3 (by decide) (cK_lo (by decide)) rfl) (bw_U hE hK hC hP hS) rfl hl.1 (Nat.le_of_ble_eq_true rfl) ⟨Nat.le_refl _, Nat.le_refl _⟩ dX2_factor_4 rfl) (fun r1 g2 => ?_)
  obtain rfl : r1 = bI (zN T n z) := g2
  refine lv_if_eq (tgt := 22) hx hb dX2_factor_7 (by decide) (fun h7 => ?_) (fun h7 => ?_)
  · have q1 : zN T n z = false := bI_f h7
    refine lv_aload_n hx hb dX2_factor_22 rfl (lv_at hl 0 rfl) ?_
    refine rw_getr (x := ((tkW I T n z), A, K)) S hK hP 4 (by decide) (cK_lo (by decide)) fk_X2_21 rfl dX2_factor_23 ?_
    refine va_ldcS (q := eS E 7) (tx := "size") hx hb S.2.2.2.1 (tr_7 hC.1.2.1) dX2_factor_26 ?_
    refine cn_wi (ck_V (a := eP E 3) S lk_X2_73 (c_X5_passWord l E I A K T n z 7 hE hT hz (by decide)) ⟨rfl, rfl⟩ ⟨Nat.le_of_ble_eq_true rfl, Nat.le_of_ble_eq_true rfl⟩ bl_w (rc_w hK hP 3 (by decide) (cK_lo (by decide)) rfl) (bw_U hE hK hC hP hS) rfl hl.1 (Nat.le_of_ble_eq_true rfl) ⟨Nat.le_refl _, Nat.le_refl _⟩ dX2_factor_28 rfl) hS (fun r3 u4 H locs g5 hP hS => ?_)
    obtain ⟨rfl, rfl⟩ : r3 = bI (zW T n (tw 7) z) ∧ u4 = (tkW I T n (zPW T n (tw 7) z), A, K) := g5
    have hP : Wp cN E cK ((tkW I T n ((zPW T n (tw 7) z))), A, K) H := hP
    refine lv_if_eq (tgt := 39) hx hb dX2_factor_31 (by decide) (fun h31 => ?_) (fun h31 => ?_)
    · have q2 : zW T n (tw 7) z = false := bI_f h31
      rw [zPW_f q2] at hP
      have hP : Wp cN E cK ((tkW I T n z), A, K) H := hP
      refine lv_aload_n hx hb dX2_factor_39 rfl (lv_at hl 0 rfl) ?_
      refine rw_getr (x := ((tkW I T n z), A, K)) S hK hP 4 (by decide) (cK_lo (by decide)) fk_X2_21 rfl dX2_factor_40 ?_
      refine va_ldcS (q := eS E 8) (tx := "scheme") hx hb S.2.2.2.1 (tr_8 hC.1.2.1) dX2_factor_43 ?_
      refine cn_wi (ck_V (a := eP E 3) S lk_X2_73 (c_X5_passWord l E I A K T n z 8 hE hT hz (by decide)) ⟨rfl, rfl⟩ ⟨Nat.le_of_ble_eq_true rfl, Nat.le_of_ble_eq_true rfl⟩ bl_w (rc_w hK hP 3 (by decide) (cK_lo (by decide)) rfl) (bw_U hE hK hC hP hS) rfl hl.1 (Nat.le_of_ble_eq_true rfl) ⟨Nat.le_refl _, Nat.le_refl _⟩ dX2_factor_45 rfl) hS (fun r6 u7 H locs g8 hP hS => ?_)
      obtain ⟨rfl, rfl⟩ : r6 = bI (zW T n (tw 8) z) ∧ u7 = (tkW I T n (zPW T n (tw 8) z), A, K) := g8
      have hP : Wp cN E cK ((tkW I T n ((zPW T n (tw 8) z))), A, K) H := hP
      refine lv_if_eq (tgt := 56) hx hb dX2_factor_48 (by decide) (fun h48 => ?_) (fun h48 => ?_)
      · have q3 : zW T n (tw 8) z = false := bI_f h48
        rw [zPW_f q3] at hP
        have hP : Wp cN E cK ((tkW I T n z), A, K) H := hP
        refine lv_aload_n hx hb dX2_factor_56 rfl (lv_at hl 0 rfl) ?_
        refine rw_getr (x := ((tkW I T n z), A, K)) S hK hP 4 (by decide) (cK_lo (by decide)) fk_X2_21 rfl dX2_factor_57 ?_
        refine lv_bipush (v := 40) hx hb dX2_factor_60 (by decide) ?_
        refine cn_si (ck_V (a := eP E 3) S lk_X2_78 (c_X5_isSign l E I A K T n z 40 hE hT hz) ⟨rfl, rfl⟩ ⟨Nat.le_of_ble_eq_true rfl, Nat.le_of_ble_eq_true rfl⟩ bl_w (rc_w hK hP 3 (by decide) (cK_lo (by decide)) rfl) (bw_U hE hK hC hP hS) rfl hl.1 (Nat.le_of_ble_eq_true rfl) ⟨Nat.le_refl _, Nat.le_refl _⟩ dX2_factor_62 rfl) (fun r9 g10 => ?_)
        obtain rfl : r9 = bI (zS T n 40 z) := g10
        refine lv_if_ne (tgt := 79) hx hb dX2_factor_65 (by decide) (fun h65 => ?_) (fun h65 => ?_)
        · have q4 : zS T n 40 z = true := bI_t h65
          refine lv_iload_n hx hb dX2_factor_79 rfl (lv_at hl 1 rfl) ?_
          refine lv_iconst (v := 4) hx hb dX2_factor_80 (by decide) ?_
          refine lv_icmp_lt (tgt := 95) hx hb dX2_factor_81 (by decide) (fun h81 => ?_) (fun h81 => absurd (by decide) h81)
          refine lv_aload_n hx hb dX2_factor_95 rfl (lv_at hl 0 rfl) ?_
          refine rw_getr (x := ((tkW I T n z), A, K)) S hK hP 4 (by decide) (cK_lo (by decide)) fk_X2_21 rfl dX2_factor_96 ?_
          refine cn_wv (ck_V (a := eP E 3) S lk_X2_31 (c_X5_adv l E I A K T n z hE hT hz) ⟨rfl, rfl⟩ ⟨Nat.le_of_ble_eq_true rfl, Nat.le_of_ble_eq_true rfl⟩ bl_w (rc_w hK hP 3 (by decide) (cK_lo (by decide)) rfl) (bw_U hE hK hC hP hS) rfl hl.1 (Nat.le_of_ble_eq_true rfl) ⟨Nat.le_refl _, Nat.le_refl _⟩ dX2_factor_99 rfl) hS (fun u12 H locs g13 hP hS => ?_)
          obtain rfl : u12 = (tkW I T n (zA T n z), A, K) := g13
          have hP : Wp cN E cK ((tkW I T n ((zA T n z))), A, K) H := hP
          refine lv_aload_n hx hb dX2_factor_102 rfl (lv_at hl 0 rfl) ?_
          refine lv_iload_n hx hb dX2_factor_103 rfl (lv_at hl 1 rfl) ?_
          refine lv_iconst (v := 1) hx hb dX2_factor_104 (by decide) ?_
          refine lv_iadd hx hb dX2_factor_105 ?_
          refine tp_i (y := 4) rfl ?_
          refine cn_wi (ck_V (a := eP E 4) S lk_X2_34 (c_X2_sum_0 l E I A K T n ((zA T n z)) hE hT (zOk_A hz)) ⟨rfl, rfl⟩ ⟨Nat.le_of_ble_eq_true rfl, Nat.le_of_ble_eq_true rfl⟩ bl_w (rc_w hK hP 4 (by decide) (cK_lo (by decide)) rfl) (bw_U hE hK hC hP hS) rfl hl.1 (Nat.le_of_ble_eq_true rfl) ⟨Nat.le_refl _, Nat.le_refl _⟩ dX2_factor_106 rfl) hS (fun r14 u15 H locs g16 hP hS => ?_)
          obtain ⟨rfl, rfl⟩ : r14 = (zSu T n (I 4 2) (I 4 3) 0 ((zA T n z))).1 ∧ u15 = (tkW I T n (zSu T n (I 4 2) (I 4 3) 0 ((zA T n z))).2, A, K) := g16
          have hP : Wp cN E cK ((tkW I T n ((zSu T n (I 4 2) (I 4 3) 0 ((zA T n z))).2)), A, K) H := hP
          refine lv_istore_n (lv' := [(2, .int ((zSu T n (I 4 2) (I 4 3) 0 ((zA T n z))).1)), (0, .ref (eP E 4)), (1, .int 3)]) hx hb dX2_factor_109 rfl hl (by decide) rfl (fun ls hl => ?_)
          refine lv_aload_n hx hb dX2_factor_110 rfl (lv_at hl 1 rfl) ?_
          refine rw_getr (x := ((tkW I T n ((zSu T n (I 4 2) (I 4 3) 0 ((zA T n z))).2)), A, K)) S hK hP 4 (by decide) (cK_lo (by decide)) fk_X2_21 rfl dX2_factor_111 ?_
          refine lv_bipush (v := 41) hx hb dX2_factor_114 (by decide) ?_
          refine cn_wv (ck_V (a := eP E 3) S lk_X2_84 (c_X5_needSign l E I A K T n ((zSu T n (I 4 2) (I 4 3) 0 ((zA T n z))).2) 41 hE hT (zOk_Su 0 _ (zOk_A hz))) ⟨rfl, rfl⟩ ⟨Nat.le_of_ble_eq_true rfl, Nat.le_of_ble_eq_true rfl⟩ bl_w (rc_w hK hP 3 (by decide) (cK_lo (by decide)) rfl) (bw_U hE hK hC hP hS) rfl hl.1 (Nat.le_of_ble_eq_true rfl) ⟨Nat.le_refl _, Nat.le_refl _⟩ dX2_factor_116 rfl) hS (fun u18 H locs g19 hP hS => ?_)
          obtain rfl : u18 = (tkW I T n (zNS T n 41 ((zSu T n (I 4 2) (I 4 3) 0 ((zA T n z))).2)), A, K) := g19
          have hP : Wp cN E cK ((tkW I T n ((zNS T n 41 ((zSu T n (I 4 2) (I 4 3) 0 ((zA T n z))).2)))), A, K) H := hP
          refine lv_iload_n hx hb dX2_factor_119 rfl (lv_at hl 0 rfl) ?_
          have hfc := (show zFd T n (I 4 2) (I 4 3) 1 z = ((zSu T n (I 4 2) (I 4 3) 0 (zA T n z)).1, zNS T n 41 (zSu T n (I 4 2) (I 4 3) 0 (zA T n z)).2) from (zFd_s (D := 0)).trans (zFc_6 q1 q2 q3 q4))
          exact re_wi (x := ((tkW I T n ((zNS T n 41 ((zSu T n (I 4 2) (I 4 3) 0 ((zA T n z))).2)))), A, K)) (v := ((zSu T n (I 4 2) (I 4 3) 0 ((zA T n z))).1)) hx hb hr hlk hP hS ⟨(congrArg Prod.fst hfc).symm, by rw [hfc]⟩ dX2_factor_120
        · have q4 : zS T n 40 z = false := bI_f h65
          refine lv_aload_n hx hb dX2_factor_68 rfl (lv_at hl 0 rfl) ?_
          refine rw_getr (x := ((tkW I T n z), A, K)) S hK hP 4 (by decide) (cK_lo (by decide)) fk_X2_21 rfl dX2_factor_69 ?_
          refine lv_bipush (v := (-2)) hx hb dX2_factor_72 (by decide) ?_
          refine cn_wv (ck_V (a := eP E 3) S lk_X2_81 (c_X5_fail l E I A K T n z (-2) hE hT hz (by decide)) ⟨rfl, rfl⟩ ⟨Nat.le_of_ble_eq_true rfl, Nat.le_of_ble_eq_true rfl⟩ bl_w (rc_w hK hP 3 (by decide) (cK_lo (by decide)) rfl) (bw_U hE hK hC hP hS) rfl hl.1 (Nat.le_of_ble_eq_true rfl) ⟨Nat.le_refl _, Nat.le_refl _⟩ dX2_factor_74 rfl) hS (fun u21 H locs g22 hP hS => ?_)
          obtain rfl : u21 = (tkW I T n (zF (-2) z), A, K) := g22
          have hP : Wp cN E cK ((tkW I T n ((zF (-2) z))), A, K) H := hP
          refine lv_iconst (v := 0) hx hb dX2_factor_77 (by decide) ?_
          have hfc := (show zFd T n (I 4 2) (I 4 3) 1 z = (0, zF (-2) z) from (zFd_s (D := 0)).trans (zFc_4 q1 q2 q3 q4))
          exact re_wi (x := ((tkW I T n ((zF (-2) z))), A, K)) (v := 0) hx hb hr hlk hP hS ⟨(congrArg Prod.fst hfc).symm, by rw [hfc]⟩ dX2_factor_78
      · have q3 : zW T n (tw 8) z = true := bI_t h48
        rw [zPW_t q3] at hP
        have hP : Wp cN E cK ((tkW I T n (zA T n z)), A, K) H := hP
        refine lv_aload_n hx hb dX2_factor_51 rfl (lv_at hl 0 rfl) ?_
        refine rw_geti (x := ((tkW I T n (zA T n z)), A, K)) (v := I 4 3) S hK hP 4 (by decide) (cK_lo (by decide)) fk_X2_18 rfl (tkW_ne (I := I) (T := T) (n := n) (z := (zA T n z)) (a := 4) (b := 3) (by decide)) dX2_factor_52 ?_
        have hfc := (show zFd T n (I 4 2) (I 4 3) 1 z = (I 4 3, zA T n z) from (zFd_s (D := 0)).trans (zFc_3 q1 q2 q3))
        exact re_wi (x := ((tkW I T n (zA T n z)), A, K)) (v := I 4 3) hx hb hr hlk hP hS ⟨(congrArg Prod.fst hfc).symm, by rw [hfc]⟩ dX2_factor_55
    · have q2 : zW T n (tw 7) z = true := bI_t h31
      rw [zPW_t q2] at hP
      have hP : Wp cN E cK ((tkW I T n (zA T n z)), A, K) H := hP
      refine lv_aload_n hx hb dX2_factor_34 rfl (lv_at hl 0 rfl) ?_
      refine rw_geti (x := ((tkW I T n (zA T n z)), A, K)) (v := I 4 2) S hK hP 4 (by decide) (cK_lo (by decide)) fk_X2_15 rfl (tkW_ne (I := I) (T := T) (n := n) (z := (zA T n z)) (a := 4) (b := 2) (by decide)) dX2_factor_35 ?_
      have hfc := (show zFd T n (I 4 2) (I 4 3) 1 z = (I 4 2, zA T n z) from (zFd_s (D := 0)).trans (zFc_2 q1 q2))
      exact re_wi (x := ((tkW I T n (zA T n z)), A, K)) (v := I 4 2) hx hb hr hlk hP hS ⟨(congrArg Prod.fst hfc).symm, by rw [hfc]⟩ dX2_factor_38
  · have q1 : zN T n z = true := bI_t h7
    refine lv_aload_n hx hb dX2_factor_10 rfl (lv_at hl 0 rfl) ?_
    refine rw_getr (x := ((tkW I T n z), A, K)) S hK hP 4 (by decide) (cK_lo (by decide)) fk_X2_21 rfl dX2_factor_11 ?_
    refine lv_iconst (v := 0) hx hb dX2_factor_14 (by decide) ?_
    refine lv_sipush (v := 9999) hx hb dX2_factor_15 (by decide) ?_
    refine cn_wi (ck_V (a := eP E 3) S lk_X2_69 (c_X5_needNumber l E I A K T n z 0 9999 hE hT hz) ⟨rfl, rfl⟩ ⟨Nat.le_of_ble_eq_true rfl, Nat.le_of_ble_eq_true rfl⟩ bl_w (rc_w hK hP 3 (by decide) (cK_lo (by decide)) rfl) (bw_U hE hK hC hP hS) rfl hl.1 (Nat.le_of_ble_eq_true rfl) ⟨Nat.le_refl _, Nat.le_refl _⟩ dX2_factor_18 rfl) hS (fun r23 u24 H locs g25 hP hS => ?_)
    obtain ⟨rfl, rfl⟩ : r23 = zNv T n 0 9999 z ∧ u24 = (tkW I T n (zNz T n 0 9999 z), A, K) := g25
    have hP : Wp cN E cK ((tkW I T n ((zNz T n 0 9999 z))), A, K) H := hP
    have hfc := (show zFd T n (I 4 2) (I 4 3) 1 z = (zNv T n 0 9999 z, zNz T n 0 9999 z) from (zFd_s (D := 0)).trans (zFc_1 q1))
    exact re_wi (x := ((tkW I T n ((zNz T n 0 9999 z))), A, K)) (v := (zNv T n 0 9999 z)) hx hb hr hlk hP hS ⟨(congrArg Prod.fst hfc).symm, by rw [hfc]⟩ dX2_factor_21

set_option maxHeartbeats 1000000 in
set_option maxRecDepth 100000 in
theorem c_X2_term_1 (l : Launch) (E : En) (I A : Nat → Nat → Int32) (K : Nat → Nat → Int64) (T : Nat → Int32) (n : Nat) (z : Tz) (hE : Ev cN E) (hT : A 1 = T) (hz : zOk n z) : Met l yX2_term (wz yX2_term cX2_term 4 (some .int)) (rmk 10 0 0 227) (va_Pc [.ref (eP E 4), .int 3] (Bw cN E cK (tkW I T n z, A, K))) (qWi cN E cK (fun zz uu => zz = (zTd T n (I 4 2) (I 4 3) 1 z).1 ∧ uu = (tkW I T n (zTd T n (I 4 2) (I 4 3) 1 z).2, A, K))) 0 0 (cA cN E) := by
  refine en_ofW RX2 rfl (by decide +kernel) (Nat.le_of_ble_eq_true rfl) ?_
  intro p e s m below meth c ls S hr hlk hnm hl hB
  have hx := S.1
  have hb := S.2.1
  obtain ⟨hK, hC, hP⟩ := hB
  have hS : va_S (cA cN E) s.heap s.heap [] := va_S.rf
  have hl : lv_has ls 4 [(0, .ref (eP E 4)), (1, .int 3)] := hl
  obtain ⟨hz1, hz2⟩ := id hz
  refine lv_aload_n hx hb dX2_term_0 rfl (lv_at hl 0 rfl) ?_
  refine lv_iload_n hx hb dX2_term_1 rfl (lv_at hl 1 rfl) ?_
  refine cn_wi (ck_V (a := eP E 4) S lk_X2_55 (c_X2_factor_1 l E I A K T n z hE hT hz) ⟨rfl, rfl⟩ ⟨Nat.le_of_ble_eq_true rfl, Nat.le_of_ble_eq_true rfl⟩ bl_w (rc_w hK hP 4 (by decide) (cK_lo (by decide)) rfl) (bw_U hE hK hC hP hS) rfl hl.1 (Nat.le_of_ble_eq_true rfl) ⟨Nat.le_refl _, Nat.le_refl _⟩ dX2_term_2 rfl) hS (fun r1 u2 H locs g3 hP hS => ?_)
  obtain ⟨rfl, rfl⟩ : r1 = (zFd T n (I 4 2) (I 4 3) 1 z).1 ∧ u2 = (tkW I T n (zFd T n (I 4 2) (I 4 3) 1 z).2, A, K) := g3
  have hP : Wp cN E cK ((tkW I T n ((zFd T n (I 4 2) (I 4 3) 1 z).2)), A, K) H := hP
  refine lv_istore_n (lv' := [(2, .int ((zFd T n (I 4 2) (I 4 3) 1 z).1)), (0, .ref (eP E 4)), (1, .int 3)]) hx hb dX2_term_5 rfl hl (by decide) rfl (fun ls hl => ?_)
  refine lv_iconst (v := 0) hx hb dX2_term_6 (by decide) ?_
  refine lv_istore_n (lv' := [(3, .int 0), (2, .int ((zFd T n (I 4 2) (I 4 3) 1 z).1)), (0, .ref (eP E 4)), (1, .int 3)]) hx hb dX2_term_7 rfl hl (by decide) rfl (fun ls hl => ?_)
  have HL : ∀ (cnt i : Nat) (a : Int32) (za : Tz), i + cnt = 700 → zOk n za → zTl T n (zFd T n (I 4 2) (I 4 3) 1) cnt (a, za) = zTl T n (zFd T n (I 4 2) (I 4 3) 1) 700 ((zFd T n (I 4 2) (I 4 3) 1) z) → ∀ (H : Heap) (locs : List Loc), Wp cN E cK ((tkW I T n za), A, K) H → va_S (cA cN E) s.heap H locs → ∀ ls : Array Slot, lv_has ls 4 [(3, .int (nI i)), (2, .int a), (0, .ref (eP E 4)), (1, .int 3)] → W p l e (rmk 10 0 0 227) s m ([.ref (eP E 4), .int 3] : List Value).toArray below meth c H locs 0 0 (MQ below (qWi cN E cK (fun zz uu => zz = (zTd T n (I 4 2) (I 4 3) 1 z).1 ∧ uu = (tkW I T n (zTd T n (I 4 2) (I 4 3) 1 z).2, A, K))) ([.ref (eP E 4), .int 3] : List Value).toArray s 0 0 (cA cN E)) (F0 m 8 ls []) := by
    intro cnt
    induction cnt with
    | zero =>
      intro i a za hi hza hv H locs hP hS ls hl
      have hiN : i = 700 := by omega
      rw [hiN] at hl
      try rw [hiN] at hP
      refine lv_iload_n hx hb dX2_term_8 rfl (lv_at hl 0 rfl) ?_
      refine lv_sipush (v := 700) hx hb dX2_term_9 (by decide) ?_
      refine lv_icmp_ge (tgt := 68) hx hb dX2_term_12 (by decide) (fun h12 => ?_) (fun h12 => absurd (Int32.le_refl _) h12)
      refine lv_iload_n hx hb dX2_term_68 rfl (lv_at hl 1 rfl) ?_
      have hfc : (a, za) = zTl T n (zFd T n (I 4 2) (I 4 3) 1) 700 ((zFd T n (I 4 2) (I 4 3) 1) z) := hv
      have hfc : (a, za) = zTd T n (I 4 2) (I 4 3) 1 z := hfc.trans zTd_e.symm
      exact re_wi (x := ((tkW I T n za), A, K)) (v := a) hx hb hr hlk hP hS ⟨congrArg Prod.fst hfc, by rw [← hfc]⟩ dX2_term_69
    | succ cnt ih =>
      intro i a za hi hza hv H locs hP hS ls hl
      have hlt : i < 700 := by omega
      refine lv_iload_n hx hb dX2_term_8 rfl (lv_at hl 0 rfl) ?_
      refine lv_sipush (v := 700) hx hb dX2_term_9 (by decide) ?_
      refine lv_icmp_ge (tgt := 68) hx hb dX2_term_12 (by decide) (fun h12 => absurd h12 (nI_ge (b := 700) hlt (by decide))) (fun h12 => ?_)
      refine lv_aload_n hx hb dX2_term_15 rfl (lv_at hl 2 rfl) ?_
      refine rw_getr (x := ((tkW I T n za), A, K)) S hK hP 4 (by decide) (cK_lo (by decide)) fk_X2_21 rfl dX2_term_16 ?_
      refine lv_bipush (v := 42) hx hb dX2_term_19 (by decide) ?_
      refine cn_wi (ck_V (a := eP E 3) S lk_X2_49 (c_X5_passSign l E I A K T n za 42 hE hT hza) ⟨rfl, rfl⟩ ⟨Nat.le_of_ble_eq_true rfl, Nat.le_of_ble_eq_true rfl⟩ bl_w (rc_w hK hP 3 (by decide) (cK_lo (by decide)) rfl) (bw_U hE hK hC hP hS) rfl hl.1 (Nat.le_of_ble_eq_true rfl) ⟨Nat.le_refl _, Nat.le_refl _⟩ dX2_term_21 rfl) hS (fun r4 u5 H locs g6 hP hS => ?_)
      obtain ⟨rfl, rfl⟩ : r4 = bI (zS T n 42 za) ∧ u5 = (tkW I T n (zPS T n 42 za), A, K) := g6
      have hP : Wp cN E cK ((tkW I T n ((zPS T n 42 za))), A, K) H := hP
      refine lv_if_eq (tgt := 40) hx hb dX2_term_24 (by decide) (fun h24 => ?_) (fun h24 => ?_)
      · have q1 : zS T n 42 za = false := bI_f h24
        rw [zPS_f q1] at hP
        have hP : Wp cN E cK ((tkW I T n za), A, K) H := hP
        refine lv_aload_n hx hb dX2_term_40 rfl (lv_at hl 2 rfl) ?_
        refine rw_getr (x := ((tkW I T n za), A, K)) S hK hP 4 (by decide) (cK_lo (by decide)) fk_X2_21 rfl dX2_term_41 ?_
        refine lv_bipush (v := 47) hx hb dX2_term_44 (by decide) ?_
        refine cn_wi (ck_V (a := eP E 3) S lk_X2_49 (c_X5_passSign l E I A K T n za 47 hE hT hza) ⟨rfl, rfl⟩ ⟨Nat.le_of_ble_eq_true rfl, Nat.le_of_ble_eq_true rfl⟩ bl_w (rc_w hK hP 3 (by decide) (cK_lo (by decide)) rfl) (bw_U hE hK hC hP hS) rfl hl.1 (Nat.le_of_ble_eq_true rfl) ⟨Nat.le_refl _, Nat.le_refl _⟩ dX2_term_46 rfl) hS (fun r7 u8 H locs g9 hP hS => ?_)
        obtain ⟨rfl, rfl⟩ : r7 = bI (zS T n 47 za) ∧ u8 = (tkW I T n (zPS T n 47 za), A, K) := g9
        have hP : Wp cN E cK ((tkW I T n ((zPS T n 47 za))), A, K) H := hP
        refine lv_if_eq (tgt := 68) hx hb dX2_term_49 (by decide) (fun h49 => ?_) (fun h49 => ?_)
        · have q2 : zS T n 47 za = false := bI_f h49
          rw [zPS_f q2] at hP
          have hP : Wp cN E cK ((tkW I T n za), A, K) H := hP
          refine lv_iload_n hx hb dX2_term_68 rfl (lv_at hl 1 rfl) ?_
          have hfc := (zTl_e (F := (zFd T n (I 4 2) (I 4 3) 1)) (k := cnt) (a := a) q1 q2).symm.trans hv
          have hfc : (a, za) = zTd T n (I 4 2) (I 4 3) 1 z := hfc.trans zTd_e.symm
          exact re_wi (x := ((tkW I T n za), A, K)) (v := a) hx hb hr hlk hP hS ⟨congrArg Prod.fst hfc, by rw [← hfc]⟩ dX2_term_69
        · have q2 : zS T n 47 za = true := bI_t h49
          rw [zPS_t q2] at hP
          have hP : Wp cN E cK ((tkW I T n (zA T n za)), A, K) H := hP
          refine lv_iload_n hx hb dX2_term_52 rfl (lv_at hl 1 rfl) ?_
          refine lv_aload_n hx hb dX2_term_53 rfl (lv_at hl 2 rfl) ?_
          refine lv_iload_n hx hb dX2_term_54 rfl (lv_at hl 3 rfl) ?_
          refine cn_wi (ck_V (a := eP E 4) S lk_X2_55 (c_X2_factor_1 l E I A K T n (zA T n za) hE hT (zOk_A hza)) ⟨rfl, rfl⟩ ⟨Nat.le_of_ble_eq_true rfl, Nat.le_of_ble_eq_true rfl⟩ bl_w (rc_w hK hP 4 (by decide) (cK_lo (by decide)) rfl) (bw_U hE hK hC hP hS) rfl hl.1 (Nat.le_of_ble_eq_true rfl) ⟨Nat.le_refl _, Nat.le_refl _⟩ dX2_term_55 rfl) hS (fun r10 u11 H locs g12 hP hS => ?_)
          obtain ⟨rfl, rfl⟩ : r10 = (zFd T n (I 4 2) (I 4 3) 1 (zA T n za)).1 ∧ u11 = (tkW I T n (zFd T n (I 4 2) (I 4 3) 1 (zA T n za)).2, A, K) := g12
          have hP : Wp cN E cK ((tkW I T n ((zFd T n (I 4 2) (I 4 3) 1 (zA T n za)).2)), A, K) H := hP
          refine cn_si (ck_S S lk_X2_62 (c_X2_quotient l a ((zFd T n (I 4 2) (I 4 3) 1 (zA T n za)).1)) ⟨rfl, rfl⟩ ⟨Nat.le_of_ble_eq_true rfl, Nat.le_of_ble_eq_true rfl⟩ bl_T t_U rfl hl.1 (Nat.le_of_ble_eq_true rfl) ⟨Nat.le_refl _, Nat.le_refl _⟩ dX2_term_58 rfl) (fun r13 g14 => ?_)
          obtain rfl : r13 = cQuo a ((zFd T n (I 4 2) (I 4 3) 1 (zA T n za)).1) := g14
          refine lv_istore_n (lv' := [(2, .int (cQuo a ((zFd T n (I 4 2) (I 4 3) 1 (zA T n za)).1))), (3, .int (nI i)), (0, .ref (eP E 4)), (1, .int 3)]) hx hb dX2_term_61 rfl hl (by decide) rfl (fun ls hl => ?_)
          refine lv_iinc (v := nI (i + 1)) (lv' := [(3, .int (nI (i + 1))), (2, .int (cQuo a ((zFd T n (I 4 2) (I 4 3) 1 (zA T n za)).1))), (0, .ref (eP E 4)), (1, .int 3)]) hx hb dX2_term_62 hl (k := 1) rfl (nI_1 _) (by decide) rfl (fun ls hl => ?_)
          refine lv_goto (tgt := 8) hx hb dX2_term_65 (by decide) ?_
          exact ih (i + 1) _ _ (by omega) (zOk_Fd 1 _ (zOk_A hza)) ((zTl_d q1 q2).symm.trans hv) _ _ hP hS ls (lv_sub hl [0, 1, 2, 3] rfl)
      · have q1 : zS T n 42 za = true := bI_t h24
        rw [zPS_t q1] at hP
        have hP : Wp cN E cK ((tkW I T n (zA T n za)), A, K) H := hP
        refine lv_iload_n hx hb dX2_term_27 rfl (lv_at hl 1 rfl) ?_
        refine lv_aload_n hx hb dX2_term_28 rfl (lv_at hl 2 rfl) ?_
        refine lv_iload_n hx hb dX2_term_29 rfl (lv_at hl 3 rfl) ?_
        refine cn_wi (ck_V (a := eP E 4) S lk_X2_55 (c_X2_factor_1 l E I A K T n (zA T n za) hE hT (zOk_A hza)) ⟨rfl, rfl⟩ ⟨Nat.le_of_ble_eq_true rfl, Nat.le_of_ble_eq_true rfl⟩ bl_w (rc_w hK hP 4 (by decide) (cK_lo (by decide)) rfl) (bw_U hE hK hC hP hS) rfl hl.1 (Nat.le_of_ble_eq_true rfl) ⟨Nat.le_refl _, Nat.le_refl _⟩ dX2_term_30 rfl) hS (fun r15 u16 H locs g17 hP hS => ?_)
        obtain ⟨rfl, rfl⟩ : r15 = (zFd T n (I 4 2) (I 4 3) 1 (zA T n za)).1 ∧ u16 = (tkW I T n (zFd T n (I 4 2) (I 4 3) 1 (zA T n za)).2, A, K) := g17
        have hP : Wp cN E cK ((tkW I T n ((zFd T n (I 4 2) (I 4 3) 1 (zA T n za)).2)), A, K) H := hP
        refine cn_si (ck_S S lk_X2_58 (c_X2_product l a ((zFd T n (I 4 2) (I 4 3) 1 (zA T n za)).1)) ⟨rfl, rfl⟩ ⟨Nat.le_of_ble_eq_true rfl, Nat.le_of_ble_eq_true rfl⟩ bl_T t_U rfl hl.1 (Nat.le_of_ble_eq_true rfl) ⟨Nat.le_refl _, Nat.le_refl _⟩ dX2_term_33 rfl) (fun r18 g19 => ?_)
        obtain rfl : r18 = cProd a ((zFd T n (I 4 2) (I 4 3) 1 (zA T n za)).1) := g19
        refine lv_istore_n (lv' := [(2, .int (cProd a ((zFd T n (I 4 2) (I 4 3) 1 (zA T n za)).1))), (3, .int (nI i)), (0, .ref (eP E 4)), (1, .int 3)]) hx hb dX2_term_36 rfl hl (by decide) rfl (fun ls hl => ?_)
        refine lv_goto (tgt := 62) hx hb dX2_term_37 (by decide) ?_
        refine lv_iinc (v := nI (i + 1)) (lv' := [(3, .int (nI (i + 1))), (2, .int (cProd a ((zFd T n (I 4 2) (I 4 3) 1 (zA T n za)).1))), (0, .ref (eP E 4)), (1, .int 3)]) hx hb dX2_term_62 hl (k := 1) rfl (nI_1 _) (by decide) rfl (fun ls hl => ?_)
        refine lv_goto (tgt := 8) hx hb dX2_term_65 (by decide) ?_
        exact ih (i + 1) _ _ (by omega) (zOk_Fd 1 _ (zOk_A hza)) ((zTl_m q1).symm.trans hv) _ _ hP hS ls (lv_sub hl [0, 1, 2, 3] rfl)
  exact HL 700 0 ((zFd T n (I 4 2) (I 4 3) 1) z).1 ((zFd T n (I 4 2) (I 4 3) 1) z).2 (by omega) (zOk_Fd 1 _ hz) (congrArg (zTl T n (zFd T n (I 4 2) (I 4 3) 1) 700) (rfl : (((zFd T n (I 4 2) (I 4 3) 1) z).1, ((zFd T n (I 4 2) (I 4 3) 1) z).2) = (zFd T n (I 4 2) (I 4 3) 1) z)) _ _ hP hS ls (lv_sub hl [0, 1, 2, 3] rfl)

set_option maxHeartbeats 1000000 in
set_option maxRecDepth 100000 in
theorem c_X2_sum_1 (l : Launch) (E : En) (I A : Nat → Nat → Int32) (K : Nat → Nat → Int64) (T : Nat → Int32) (n : Nat) (z : Tz) (hE : Ev cN E) (hT : A 1 = T) (hz : zOk n z) : Met l yX2_sum (wz yX2_sum cX2_sum 4 (some .int)) (rmk 11 0 0 250) (va_Pc [.ref (eP E 4), .int 3] (Bw cN E cK (tkW I T n z, A, K))) (qWi cN E cK (fun zz uu => zz = (zSu T n (I 4 2) (I 4 3) 1 z).1 ∧ uu = (tkW I T n (zSu T n (I 4 2) (I 4 3) 1 z).2, A, K))) 0 0 (cA cN E) := by
  refine en_ofW RX2 rfl (by decide +kernel) (Nat.le_of_ble_eq_true rfl) ?_
  intro p e s m below meth c ls S hr hlk hnm hl hB
  have hx := S.1
  have hb := S.2.1
  obtain ⟨hK, hC, hP⟩ := hB
  have hS : va_S (cA cN E) s.heap s.heap [] := va_S.rf
  have hl : lv_has ls 4 [(0, .ref (eP E 4)), (1, .int 3)] := hl
  obtain ⟨hz1, hz2⟩ := id hz
  refine lv_aload_n hx hb dX2_sum_0 rfl (lv_at hl 0 rfl) ?_
  refine lv_iload_n hx hb dX2_sum_1 rfl (lv_at hl 1 rfl) ?_
  refine cn_wi (ck_V (a := eP E 4) S lk_X2_46 (c_X2_term_1 l E I A K T n z hE hT hz) ⟨rfl, rfl⟩ ⟨Nat.le_of_ble_eq_true rfl, Nat.le_of_ble_eq_true rfl⟩ bl_w (rc_w hK hP 4 (by decide) (cK_lo (by decide)) rfl) (bw_U hE hK hC hP hS) rfl hl.1 (Nat.le_of_ble_eq_true rfl) ⟨Nat.le_refl _, Nat.le_refl _⟩ dX2_sum_2 rfl) hS (fun r1 u2 H locs g3 hP hS => ?_)
  obtain ⟨rfl, rfl⟩ : r1 = (zTd T n (I 4 2) (I 4 3) 1 z).1 ∧ u2 = (tkW I T n (zTd T n (I 4 2) (I 4 3) 1 z).2, A, K) := g3
  have hP : Wp cN E cK ((tkW I T n ((zTd T n (I 4 2) (I 4 3) 1 z).2)), A, K) H := hP
  refine lv_istore_n (lv' := [(2, .int ((zTd T n (I 4 2) (I 4 3) 1 z).1)), (0, .ref (eP E 4)), (1, .int 3)]) hx hb dX2_sum_5 rfl hl (by decide) rfl (fun ls hl => ?_)
  refine lv_iconst (v := 0) hx hb dX2_sum_6 (by decide) ?_
  refine lv_istore_n (lv' := [(3, .int 0), (2, .int ((zTd T n (I 4 2) (I 4 3) 1 z).1)), (0, .ref (eP E 4)), (1, .int 3)]) hx hb dX2_sum_7 rfl hl (by decide) rfl (fun ls hl => ?_)
  have HL : ∀ (cnt i : Nat) (a : Int32) (za : Tz), i + cnt = 700 → zOk n za → zSl T n (zTd T n (I 4 2) (I 4 3) 1) cnt (a, za) = zSl T n (zTd T n (I 4 2) (I 4 3) 1) 700 ((zTd T n (I 4 2) (I 4 3) 1) z) → ∀ (H : Heap) (locs : List Loc), Wp cN E cK ((tkW I T n za), A, K) H → va_S (cA cN E) s.heap H locs → ∀ ls : Array Slot, lv_has ls 4 [(3, .int (nI i)), (2, .int a), (0, .ref (eP E 4)), (1, .int 3)] → W p l e (rmk 11 0 0 250) s m ([.ref (eP E 4), .int 3] : List Value).toArray below meth c H locs 0 0 (MQ below (qWi cN E cK (fun zz uu => zz = (zSu T n (I 4 2) (I 4 3) 1 z).1 ∧ uu = (tkW I T n (zSu T n (I 4 2) (I 4 3) 1 z).2, A, K))) ([.ref (eP E 4), .int 3] : List Value).toArray s 0 0 (cA cN E)) (F0 m 8 ls []) := by
    intro cnt
    induction cnt with
    | zero =>
      intro i a za hi hza hv H locs hP hS ls hl
      have hiN : i = 700 := by omega
      rw [hiN] at hl
      try rw [hiN] at hP
      refine lv_iload_n hx hb dX2_sum_8 rfl (lv_at hl 0 rfl) ?_
      refine lv_sipush (v := 700) hx hb dX2_sum_9 (by decide) ?_
      refine lv_icmp_ge (tgt := 78) hx hb dX2_sum_12 (by decide) (fun h12 => ?_) (fun h12 => absurd (Int32.le_refl _) h12)
      refine lv_iload_n hx hb dX2_sum_78 rfl (lv_at hl 1 rfl) ?_
      have hfc : (a, za) = zSl T n (zTd T n (I 4 2) (I 4 3) 1) 700 ((zTd T n (I 4 2) (I 4 3) 1) z) := hv
      have hfc : (a, za) = zSu T n (I 4 2) (I 4 3) 1 z := hfc.trans zSu_e.symm
      exact re_wi (x := ((tkW I T n za), A, K)) (v := a) hx hb hr hlk hP hS ⟨congrArg Prod.fst hfc, by rw [← hfc]⟩ dX2_sum_79
    | succ cnt ih =>
      intro i a za hi hza hv H locs hP hS ls hl
      have hlt : i < 700 := by omega
      refine lv_iload_n hx hb dX2_sum_8 rfl (lv_at hl 0 rfl) ?_
      refine lv_sipush (v := 700) hx hb dX2_sum_9 (by decide) ?_
      refine lv_icmp_ge (tgt := 78) hx hb dX2_sum_12 (by decide) (fun h12 => absurd h12 (nI_ge (b := 700) hlt (by decide))) (fun h12 => ?_)
      refine lv_aload_n hx hb dX2_sum_15 rfl (lv_at hl 2 rfl) ?_
      refine rw_getr (x := ((tkW I T n za), A, K)) S hK hP 4 (by decide) (cK_lo (by decide)) fk_X2_21 rfl dX2_sum_16 ?_
      refine lv_bipush (v := 43) hx hb dX2_sum_19 (by decide) ?_
      refine cn_wi (ck_V (a := eP E 3) S lk_X2_49 (c_X5_passSign l E I A K T n za 43 hE hT hza) ⟨rfl, rfl⟩ ⟨Nat.le_of_ble_eq_true rfl, Nat.le_of_ble_eq_true rfl⟩ bl_w (rc_w hK hP 3 (by decide) (cK_lo (by decide)) rfl) (bw_U hE hK hC hP hS) rfl hl.1 (Nat.le_of_ble_eq_true rfl) ⟨Nat.le_refl _, Nat.le_refl _⟩ dX2_sum_21 rfl) hS (fun r4 u5 H locs g6 hP hS => ?_)
      obtain ⟨rfl, rfl⟩ : r4 = bI (zS T n 43 za) ∧ u5 = (tkW I T n (zPS T n 43 za), A, K) := g6
      have hP : Wp cN E cK ((tkW I T n ((zPS T n 43 za))), A, K) H := hP
      refine lv_if_eq (tgt := 45) hx hb dX2_sum_24 (by decide) (fun h24 => ?_) (fun h24 => ?_)
      · have q1 : zS T n 43 za = false := bI_f h24
        rw [zPS_f q1] at hP
        have hP : Wp cN E cK ((tkW I T n za), A, K) H := hP
        refine lv_aload_n hx hb dX2_sum_45 rfl (lv_at hl 2 rfl) ?_
        refine rw_getr (x := ((tkW I T n za), A, K)) S hK hP 4 (by decide) (cK_lo (by decide)) fk_X2_21 rfl dX2_sum_46 ?_
        refine lv_bipush (v := 45) hx hb dX2_sum_49 (by decide) ?_
        refine cn_wi (ck_V (a := eP E 3) S lk_X2_49 (c_X5_passSign l E I A K T n za 45 hE hT hza) ⟨rfl, rfl⟩ ⟨Nat.le_of_ble_eq_true rfl, Nat.le_of_ble_eq_true rfl⟩ bl_w (rc_w hK hP 3 (by decide) (cK_lo (by decide)) rfl) (bw_U hE hK hC hP hS) rfl hl.1 (Nat.le_of_ble_eq_true rfl) ⟨Nat.le_refl _, Nat.le_refl _⟩ dX2_sum_51 rfl) hS (fun r7 u8 H locs g9 hP hS => ?_)
        obtain ⟨rfl, rfl⟩ : r7 = bI (zS T n 45 za) ∧ u8 = (tkW I T n (zPS T n 45 za), A, K) := g9
        have hP : Wp cN E cK ((tkW I T n ((zPS T n 45 za))), A, K) H := hP
        refine lv_if_eq (tgt := 78) hx hb dX2_sum_54 (by decide) (fun h54 => ?_) (fun h54 => ?_)
        · have q2 : zS T n 45 za = false := bI_f h54
          rw [zPS_f q2] at hP
          have hP : Wp cN E cK ((tkW I T n za), A, K) H := hP
          refine lv_iload_n hx hb dX2_sum_78 rfl (lv_at hl 1 rfl) ?_
          have hfc := (zSl_e (F := (zTd T n (I 4 2) (I 4 3) 1)) (k := cnt) (a := a) q1 q2).symm.trans hv
          have hfc : (a, za) = zSu T n (I 4 2) (I 4 3) 1 z := hfc.trans zSu_e.symm
          exact re_wi (x := ((tkW I T n za), A, K)) (v := a) hx hb hr hlk hP hS ⟨congrArg Prod.fst hfc, by rw [← hfc]⟩ dX2_sum_79
        · have q2 : zS T n 45 za = true := bI_t h54
          rw [zPS_t q2] at hP
          have hP : Wp cN E cK ((tkW I T n (zA T n za)), A, K) H := hP
          refine lv_iload_n hx hb dX2_sum_57 rfl (lv_at hl 1 rfl) ?_
          refine lv_aload_n hx hb dX2_sum_58 rfl (lv_at hl 2 rfl) ?_
          refine lv_iload_n hx hb dX2_sum_59 rfl (lv_at hl 3 rfl) ?_
          refine cn_wi (ck_V (a := eP E 4) S lk_X2_46 (c_X2_term_1 l E I A K T n (zA T n za) hE hT (zOk_A hza)) ⟨rfl, rfl⟩ ⟨Nat.le_of_ble_eq_true rfl, Nat.le_of_ble_eq_true rfl⟩ bl_w (rc_w hK hP 4 (by decide) (cK_lo (by decide)) rfl) (bw_U hE hK hC hP hS) rfl hl.1 (Nat.le_of_ble_eq_true rfl) ⟨Nat.le_refl _, Nat.le_refl _⟩ dX2_sum_60 rfl) hS (fun r10 u11 H locs g12 hP hS => ?_)
          obtain ⟨rfl, rfl⟩ : r10 = (zTd T n (I 4 2) (I 4 3) 1 (zA T n za)).1 ∧ u11 = (tkW I T n (zTd T n (I 4 2) (I 4 3) 1 (zA T n za)).2, A, K) := g12
          have hP : Wp cN E cK ((tkW I T n ((zTd T n (I 4 2) (I 4 3) 1 (zA T n za)).2)), A, K) H := hP
          refine lv_isub hx hb dX2_sum_63 ?_
          refine lv_ldc (v := (-1000000)) hx hb S.2.2.2.1 (S.2.2.2.2 _ kc_X2_53) dX2_sum_64 ?_
          refine lv_ldc (v := 1000000) hx hb S.2.2.2.1 (S.2.2.2.2 _ kc_X2_54) dX2_sum_66 ?_
          refine cn_si (ck_N S ln_X6_limited hC.1.1.2.2.2.1 (c_X6_limited l (a - ((zTd T n (I 4 2) (I 4 3) 1 (zA T n za)).1)) (-1000000) 1000000) ⟨rfl, rfl⟩ ⟨Nat.le_of_ble_eq_true rfl, Nat.le_of_ble_eq_true rfl⟩ bl_T t_U rfl hl.1 (Nat.le_of_ble_eq_true rfl) ⟨Nat.le_refl _, Nat.le_refl _⟩ dX2_sum_68 rfl) (fun r13 g14 => ?_)
          obtain rfl : r13 = pLim (a - ((zTd T n (I 4 2) (I 4 3) 1 (zA T n za)).1)) (-1000000) 1000000 := g14
          refine lv_istore_n (lv' := [(2, .int (pLim (a - ((zTd T n (I 4 2) (I 4 3) 1 (zA T n za)).1)) (-1000000) 1000000)), (3, .int (nI i)), (0, .ref (eP E 4)), (1, .int 3)]) hx hb dX2_sum_71 rfl hl (by decide) rfl (fun ls hl => ?_)
          refine lv_iinc (v := nI (i + 1)) (lv' := [(3, .int (nI (i + 1))), (2, .int (pLim (a - ((zTd T n (I 4 2) (I 4 3) 1 (zA T n za)).1)) (-1000000) 1000000)), (0, .ref (eP E 4)), (1, .int 3)]) hx hb dX2_sum_72 hl (k := 1) rfl (nI_1 _) (by decide) rfl (fun ls hl => ?_)
          refine lv_goto (tgt := 8) hx hb dX2_sum_75 (by decide) ?_
          exact ih (i + 1) _ _ (by omega) (zOk_Td 1 _ (zOk_A hza)) ((zSl_d q1 q2).symm.trans hv) _ _ hP hS ls (lv_sub hl [0, 1, 2, 3] rfl)
      · have q1 : zS T n 43 za = true := bI_t h24
        rw [zPS_t q1] at hP
        have hP : Wp cN E cK ((tkW I T n (zA T n za)), A, K) H := hP
        refine lv_iload_n hx hb dX2_sum_27 rfl (lv_at hl 1 rfl) ?_
        refine lv_aload_n hx hb dX2_sum_28 rfl (lv_at hl 2 rfl) ?_
        refine lv_iload_n hx hb dX2_sum_29 rfl (lv_at hl 3 rfl) ?_
        refine cn_wi (ck_V (a := eP E 4) S lk_X2_46 (c_X2_term_1 l E I A K T n (zA T n za) hE hT (zOk_A hza)) ⟨rfl, rfl⟩ ⟨Nat.le_of_ble_eq_true rfl, Nat.le_of_ble_eq_true rfl⟩ bl_w (rc_w hK hP 4 (by decide) (cK_lo (by decide)) rfl) (bw_U hE hK hC hP hS) rfl hl.1 (Nat.le_of_ble_eq_true rfl) ⟨Nat.le_refl _, Nat.le_refl _⟩ dX2_sum_30 rfl) hS (fun r15 u16 H locs g17 hP hS => ?_)
        obtain ⟨rfl, rfl⟩ : r15 = (zTd T n (I 4 2) (I 4 3) 1 (zA T n za)).1 ∧ u16 = (tkW I T n (zTd T n (I 4 2) (I 4 3) 1 (zA T n za)).2, A, K) := g17
        have hP : Wp cN E cK ((tkW I T n ((zTd T n (I 4 2) (I 4 3) 1 (zA T n za)).2)), A, K) H := hP
        refine lv_iadd hx hb dX2_sum_33 ?_
        refine lv_ldc (v := (-1000000)) hx hb S.2.2.2.1 (S.2.2.2.2 _ kc_X2_53) dX2_sum_34 ?_
        refine lv_ldc (v := 1000000) hx hb S.2.2.2.1 (S.2.2.2.2 _ kc_X2_54) dX2_sum_36 ?_
        refine cn_si (ck_N S ln_X6_limited hC.1.1.2.2.2.1 (c_X6_limited l (a + ((zTd T n (I 4 2) (I 4 3) 1 (zA T n za)).1)) (-1000000) 1000000) ⟨rfl, rfl⟩ ⟨Nat.le_of_ble_eq_true rfl, Nat.le_of_ble_eq_true rfl⟩ bl_T t_U rfl hl.1 (Nat.le_of_ble_eq_true rfl) ⟨Nat.le_refl _, Nat.le_refl _⟩ dX2_sum_38 rfl) (fun r18 g19 => ?_)
        obtain rfl : r18 = pLim (a + ((zTd T n (I 4 2) (I 4 3) 1 (zA T n za)).1)) (-1000000) 1000000 := g19
        refine lv_istore_n (lv' := [(2, .int (pLim (a + ((zTd T n (I 4 2) (I 4 3) 1 (zA T n za)).1)) (-1000000) 1000000)), (3, .int (nI i)), (0, .ref (eP E 4)), (1, .int 3)]) hx hb dX2_sum_41 rfl hl (by decide) rfl (fun ls hl => ?_)
        refine lv_goto (tgt := 72) hx hb dX2_sum_42 (by decide) ?_
        refine lv_iinc (v := nI (i + 1)) (lv' := [(3, .int (nI (i + 1))), (2, .int (pLim (a + ((zTd T n (I 4 2) (I 4 3) 1 (zA T n za)).1)) (-1000000) 1000000)), (0, .ref (eP E 4)), (1, .int 3)]) hx hb dX2_sum_72 hl (k := 1) rfl (nI_1 _) (by decide) rfl (fun ls hl => ?_)
        refine lv_goto (tgt := 8) hx hb dX2_sum_75 (by decide) ?_
        exact ih (i + 1) _ _ (by omega) (zOk_Td 1 _ (zOk_A hza)) ((zSl_m q1).symm.trans hv) _ _ hP hS ls (lv_sub hl [0, 1, 2, 3] rfl)
  exact HL 700 0 ((zTd T n (I 4 2) (I 4 3) 1) z).1 ((zTd T n (I 4 2) (I 4 3) 1) z).2 (by omega) (zOk_Td 1 _ hz) (congrArg (zSl T n (zTd T n (I 4 2) (I 4 3) 1) 700) (rfl : (((zTd T n (I 4 2) (I 4 3) 1) z).1, ((zTd T n (I 4 2) (I 4 3) 1) z).2) = (zTd T n (I 4 2) (I 4 3) 1) z)) _ _ hP hS ls (lv_sub hl [0, 1, 2, 3] rfl)

set_option maxHeartbeats 1000000 in
set_option maxRecDepth 100000 in
theorem c_X2_factor_2 (l : Launch) (E : En) (I A : Nat → Nat → Int32) (K : Nat → Nat → Int64) (T : Nat → Int32) (n : Nat) (z : Tz) (hE : Ev cN E) (hT : A 1 = T) (hz : zOk n z) : Met l yX2_factor (wz yX2_factor cX2_factor 3 (some .int)) (rmk 12 0 0 273) (va_Pc [.ref (eP E 4), .int 2] (Bw cN E cK (tkW I T n z, A, K))) (qWi cN E cK (fun zz uu => zz = (zFd T n (I 4 2) (I 4 3) 2 z).1 ∧ uu = (tkW I T n (zFd T n (I 4 2) (I 4 3) 2 z).2, A, K))) 0 0 (cA cN E) := by
  refine en_ofW RX2 rfl (by decide +kernel) (Nat.le_of_ble_eq_true rfl) ?_
  intro p e s m below meth c ls S hr hlk hnm hl hB
  have hx := S.1
  have hb := S.2.1
  obtain ⟨hK, hC, hP⟩ := hB
  have hS : va_S (cA cN E) s.heap s.heap [] := va_S.rf
  have hl : lv_has ls 3 [(0, .ref (eP E 4)), (1, .int 2)] := hl
  obtain ⟨hz1, hz2⟩ := id hz
  refine lv_aload_n hx hb dX2_factor_0 rfl (lv_at hl 0 rfl) ?_
  refine rw_getr (x := ((tkW I T n z), A, K)) S hK hP 4 (by decide) (cK_lo (by decide)) fk_X2_21 rfl dX2_factor_1 ?_
  refine cn_si (ck_V (a := eP E 3) S lk_X2_65 (c_X5_isNumber l E I A K T n z hE hT hz) ⟨rfl, rfl⟩ ⟨Nat.le_of_ble_eq_true rfl, Nat.le_of_ble_eq_true rfl⟩ bl_w (rc_w hK hP 3 (by decide) (cK_lo (by decide)) rfl) (bw_U hE hK hC hP hS) rfl hl.1 (Nat.le_of_ble_eq_true rfl) ⟨Nat.le_refl _, Nat.le_refl _⟩ dX2_factor_4 rfl) (fun r1 g2 => ?_)
  obtain rfl : r1 = bI (zN T n z) := g2
  refine lv_if_eq (tgt := 22) hx hb dX2_factor_7 (by decide) (fun h7 => ?_) (fun h7 => ?_)
  · have q1 : zN T n z = false := bI_f h7
    refine lv_aload_n hx hb dX2_factor_22 rfl (lv_at hl 0 rfl) ?_
    refine rw_getr (x := ((tkW I T n z), A, K)) S hK hP 4 (by decide) (cK_lo (by decide)) fk_X2_21 rfl dX2_factor_23 ?_
    refine va_ldcS (q := eS E 7) (tx := "size") hx hb S.2.2.2.1 (tr_7 hC.1.2.1) dX2_factor_26 ?_
    refine cn_wi (ck_V (a := eP E 3) S lk_X2_73 (c_X5_passWord l E I A K T n z 7 hE hT hz (by decide)) ⟨rfl, rfl⟩ ⟨Nat.le_of_ble_eq_true rfl, Nat.le_of_ble_eq_true rfl⟩ bl_w (rc_w hK hP 3 (by decide) (cK_lo (by decide)) rfl) (bw_U hE hK hC hP hS) rfl hl.1 (Nat.le_of_ble_eq_true rfl) ⟨Nat.le_refl _, Nat.le_refl _⟩ dX2_factor_28 rfl) hS (fun r3 u4 H locs g5 hP hS => ?_)
    obtain ⟨rfl, rfl⟩ : r3 = bI (zW T n (tw 7) z) ∧ u4 = (tkW I T n (zPW T n (tw 7) z), A, K) := g5
    have hP : Wp cN E cK ((tkW I T n ((zPW T n (tw 7) z))), A, K) H := hP
    refine lv_if_eq (tgt := 39) hx hb dX2_factor_31 (by decide) (fun h31 => ?_) (fun h31 => ?_)
    · have q2 : zW T n (tw 7) z = false := bI_f h31
      rw [zPW_f q2] at hP
      have hP : Wp cN E cK ((tkW I T n z), A, K) H := hP
      refine lv_aload_n hx hb dX2_factor_39 rfl (lv_at hl 0 rfl) ?_
      refine rw_getr (x := ((tkW I T n z), A, K)) S hK hP 4 (by decide) (cK_lo (by decide)) fk_X2_21 rfl dX2_factor_40 ?_
      refine va_ldcS (q := eS E 8) (tx := "scheme") hx hb S.2.2.2.1 (tr_8 hC.1.2.1) dX2_factor_43 ?_
      refine cn_wi (ck_V (a := eP E 3) S lk_X2_73 (c_X5_passWord l E I A K T n z 8 hE hT hz (by decide)) ⟨rfl, rfl⟩ ⟨Nat.le_of_ble_eq_true rfl, Nat.le_of_ble_eq_true rfl⟩ bl_w (rc_w hK hP 3 (by decide) (cK_lo (by decide)) rfl) (bw_U hE hK hC hP hS) rfl hl.1 (Nat.le_of_ble_eq_true rfl) ⟨Nat.le_refl _, Nat.le_refl _⟩ dX2_factor_45 rfl) hS (fun r6 u7 H locs g8 hP hS => ?_)
      obtain ⟨rfl, rfl⟩ : r6 = bI (zW T n (tw 8) z) ∧ u7 = (tkW I T n (zPW T n (tw 8) z), A, K) := g8
      have hP : Wp cN E cK ((tkW I T n ((zPW T n (tw 8) z))), A, K) H := hP
      refine lv_if_eq (tgt := 56) hx hb dX2_factor_48 (by decide) (fun h48 => ?_) (fun h48 => ?_)
      · have q3 : zW T n (tw 8) z = false := bI_f h48
        rw [zPW_f q3] at hP
        have hP : Wp cN E cK ((tkW I T n z), A, K) H := hP
        refine lv_aload_n hx hb dX2_factor_56 rfl (lv_at hl 0 rfl) ?_
        refine rw_getr (x := ((tkW I T n z), A, K)) S hK hP 4 (by decide) (cK_lo (by decide)) fk_X2_21 rfl dX2_factor_57 ?_
        refine lv_bipush (v := 40) hx hb dX2_factor_60 (by decide) ?_
        refine cn_si (ck_V (a := eP E 3) S lk_X2_78 (c_X5_isSign l E I A K T n z 40 hE hT hz) ⟨rfl, rfl⟩ ⟨Nat.le_of_ble_eq_true rfl, Nat.le_of_ble_eq_true rfl⟩ bl_w (rc_w hK hP 3 (by decide) (cK_lo (by decide)) rfl) (bw_U hE hK hC hP hS) rfl hl.1 (Nat.le_of_ble_eq_true rfl) ⟨Nat.le_refl _, Nat.le_refl _⟩ dX2_factor_62 rfl) (fun r9 g10 => ?_)
        obtain rfl : r9 = bI (zS T n 40 z) := g10
        refine lv_if_ne (tgt := 79) hx hb dX2_factor_65 (by decide) (fun h65 => ?_) (fun h65 => ?_)
        · have q4 : zS T n 40 z = true := bI_t h65
          refine lv_iload_n hx hb dX2_factor_79 rfl (lv_at hl 1 rfl) ?_
          refine lv_iconst (v := 4) hx hb dX2_factor_80 (by decide) ?_
          refine lv_icmp_lt (tgt := 95) hx hb dX2_factor_81 (by decide) (fun h81 => ?_) (fun h81 => absurd (by decide) h81)
          refine lv_aload_n hx hb dX2_factor_95 rfl (lv_at hl 0 rfl) ?_
          refine rw_getr (x := ((tkW I T n z), A, K)) S hK hP 4 (by decide) (cK_lo (by decide)) fk_X2_21 rfl dX2_factor_96 ?_
          refine cn_wv (ck_V (a := eP E 3) S lk_X2_31 (c_X5_adv l E I A K T n z hE hT hz) ⟨rfl, rfl⟩ ⟨Nat.le_of_ble_eq_true rfl, Nat.le_of_ble_eq_true rfl⟩ bl_w (rc_w hK hP 3 (by decide) (cK_lo (by decide)) rfl) (bw_U hE hK hC hP hS) rfl hl.1 (Nat.le_of_ble_eq_true rfl) ⟨Nat.le_refl _, Nat.le_refl _⟩ dX2_factor_99 rfl) hS (fun u12 H locs g13 hP hS => ?_)
          obtain rfl : u12 = (tkW I T n (zA T n z), A, K) := g13
          have hP : Wp cN E cK ((tkW I T n ((zA T n z))), A, K) H := hP
          refine lv_aload_n hx hb dX2_factor_102 rfl (lv_at hl 0 rfl) ?_
          refine lv_iload_n hx hb dX2_factor_103 rfl (lv_at hl 1 rfl) ?_
          refine lv_iconst (v := 1) hx hb dX2_factor_104 (by decide) ?_
          refine lv_iadd hx hb dX2_factor_105 ?_
          refine tp_i (y := 3) rfl ?_
          refine cn_wi (ck_V (a := eP E 4) S lk_X2_34 (c_X2_sum_1 l E I A K T n ((zA T n z)) hE hT (zOk_A hz)) ⟨rfl, rfl⟩ ⟨Nat.le_of_ble_eq_true rfl, Nat.le_of_ble_eq_true rfl⟩ bl_w (rc_w hK hP 4 (by decide) (cK_lo (by decide)) rfl) (bw_U hE hK hC hP hS) rfl hl.1 (Nat.le_of_ble_eq_true rfl) ⟨Nat.le_refl _, Nat.le_refl _⟩ dX2_factor_106 rfl) hS (fun r14 u15 H locs g16 hP hS => ?_)
          obtain ⟨rfl, rfl⟩ : r14 = (zSu T n (I 4 2) (I 4 3) 1 ((zA T n z))).1 ∧ u15 = (tkW I T n (zSu T n (I 4 2) (I 4 3) 1 ((zA T n z))).2, A, K) := g16
          have hP : Wp cN E cK ((tkW I T n ((zSu T n (I 4 2) (I 4 3) 1 ((zA T n z))).2)), A, K) H := hP
          refine lv_istore_n (lv' := [(2, .int ((zSu T n (I 4 2) (I 4 3) 1 ((zA T n z))).1)), (0, .ref (eP E 4)), (1, .int 2)]) hx hb dX2_factor_109 rfl hl (by decide) rfl (fun ls hl => ?_)
          refine lv_aload_n hx hb dX2_factor_110 rfl (lv_at hl 1 rfl) ?_
          refine rw_getr (x := ((tkW I T n ((zSu T n (I 4 2) (I 4 3) 1 ((zA T n z))).2)), A, K)) S hK hP 4 (by decide) (cK_lo (by decide)) fk_X2_21 rfl dX2_factor_111 ?_
          refine lv_bipush (v := 41) hx hb dX2_factor_114 (by decide) ?_
          refine cn_wv (ck_V (a := eP E 3) S lk_X2_84 (c_X5_needSign l E I A K T n ((zSu T n (I 4 2) (I 4 3) 1 ((zA T n z))).2) 41 hE hT (zOk_Su 1 _ (zOk_A hz))) ⟨rfl, rfl⟩ ⟨Nat.le_of_ble_eq_true rfl, Nat.le_of_ble_eq_true rfl⟩ bl_w (rc_w hK hP 3 (by decide) (cK_lo (by decide)) rfl) (bw_U hE hK hC hP hS) rfl hl.1 (Nat.le_of_ble_eq_true rfl) ⟨Nat.le_refl _, Nat.le_refl _⟩ dX2_factor_116 rfl) hS (fun u18 H locs g19 hP hS => ?_)
          obtain rfl : u18 = (tkW I T n (zNS T n 41 ((zSu T n (I 4 2) (I 4 3) 1 ((zA T n z))).2)), A, K) := g19
          have hP : Wp cN E cK ((tkW I T n ((zNS T n 41 ((zSu T n (I 4 2) (I 4 3) 1 ((zA T n z))).2)))), A, K) H := hP
          refine lv_iload_n hx hb dX2_factor_119 rfl (lv_at hl 0 rfl) ?_
          have hfc := (show zFd T n (I 4 2) (I 4 3) 2 z = ((zSu T n (I 4 2) (I 4 3) 1 (zA T n z)).1, zNS T n 41 (zSu T n (I 4 2) (I 4 3) 1 (zA T n z)).2) from (zFd_s (D := 1)).trans (zFc_6 q1 q2 q3 q4))
          exact re_wi (x := ((tkW I T n ((zNS T n 41 ((zSu T n (I 4 2) (I 4 3) 1 ((zA T n z))).2)))), A, K)) (v := ((zSu T n (I 4 2) (I 4 3) 1 ((zA T n z))).1)) hx hb hr hlk hP hS ⟨(congrArg Prod.fst hfc).symm, by rw [hfc]⟩ dX2_factor_120
        · have q4 : zS T n 40 z = false := bI_f h65
          refine lv_aload_n hx hb dX2_factor_68 rfl (lv_at hl 0 rfl) ?_
          refine rw_getr (x := ((tkW I T n z), A, K)) S hK hP 4 (by decide) (cK_lo (by decide)) fk_X2_21 rfl dX2_factor_69 ?_
          refine lv_bipush (v := (-2)) hx hb dX2_factor_72 (by decide) ?_
          refine cn_wv (ck_V (a := eP E 3) S lk_X2_81 (c_X5_fail l E I A K T n z (-2) hE hT hz (by decide)) ⟨rfl, rfl⟩ ⟨Nat.le_of_ble_eq_true rfl, Nat.le_of_ble_eq_true rfl⟩ bl_w (rc_w hK hP 3 (by decide) (cK_lo (by decide)) rfl) (bw_U hE hK hC hP hS) rfl hl.1 (Nat.le_of_ble_eq_true rfl) ⟨Nat.le_refl _, Nat.le_refl _⟩ dX2_factor_74 rfl) hS (fun u21 H locs g22 hP hS => ?_)
          obtain rfl : u21 = (tkW I T n (zF (-2) z), A, K) := g22
          have hP : Wp cN E cK ((tkW I T n ((zF (-2) z))), A, K) H := hP
          refine lv_iconst (v := 0) hx hb dX2_factor_77 (by decide) ?_
          have hfc := (show zFd T n (I 4 2) (I 4 3) 2 z = (0, zF (-2) z) from (zFd_s (D := 1)).trans (zFc_4 q1 q2 q3 q4))
          exact re_wi (x := ((tkW I T n ((zF (-2) z))), A, K)) (v := 0) hx hb hr hlk hP hS ⟨(congrArg Prod.fst hfc).symm, by rw [hfc]⟩ dX2_factor_78
      · have q3 : zW T n (tw 8) z = true := bI_t h48
        rw [zPW_t q3] at hP
        have hP : Wp cN E cK ((tkW I T n (zA T n z)), A, K) H := hP
        refine lv_aload_n hx hb dX2_factor_51 rfl (lv_at hl 0 rfl) ?_
        refine rw_geti (x := ((tkW I T n (zA T n z)), A, K)) (v := I 4 3) S hK hP 4 (by decide) (cK_lo (by decide)) fk_X2_18 rfl (tkW_ne (I := I) (T := T) (n := n) (z := (zA T n z)) (a := 4) (b := 3) (by decide)) dX2_factor_52 ?_
        have hfc := (show zFd T n (I 4 2) (I 4 3) 2 z = (I 4 3, zA T n z) from (zFd_s (D := 1)).trans (zFc_3 q1 q2 q3))
        exact re_wi (x := ((tkW I T n (zA T n z)), A, K)) (v := I 4 3) hx hb hr hlk hP hS ⟨(congrArg Prod.fst hfc).symm, by rw [hfc]⟩ dX2_factor_55
    · have q2 : zW T n (tw 7) z = true := bI_t h31
      rw [zPW_t q2] at hP
      have hP : Wp cN E cK ((tkW I T n (zA T n z)), A, K) H := hP
      refine lv_aload_n hx hb dX2_factor_34 rfl (lv_at hl 0 rfl) ?_
      refine rw_geti (x := ((tkW I T n (zA T n z)), A, K)) (v := I 4 2) S hK hP 4 (by decide) (cK_lo (by decide)) fk_X2_15 rfl (tkW_ne (I := I) (T := T) (n := n) (z := (zA T n z)) (a := 4) (b := 2) (by decide)) dX2_factor_35 ?_
      have hfc := (show zFd T n (I 4 2) (I 4 3) 2 z = (I 4 2, zA T n z) from (zFd_s (D := 1)).trans (zFc_2 q1 q2))
      exact re_wi (x := ((tkW I T n (zA T n z)), A, K)) (v := I 4 2) hx hb hr hlk hP hS ⟨(congrArg Prod.fst hfc).symm, by rw [hfc]⟩ dX2_factor_38
  · have q1 : zN T n z = true := bI_t h7
    refine lv_aload_n hx hb dX2_factor_10 rfl (lv_at hl 0 rfl) ?_
    refine rw_getr (x := ((tkW I T n z), A, K)) S hK hP 4 (by decide) (cK_lo (by decide)) fk_X2_21 rfl dX2_factor_11 ?_
    refine lv_iconst (v := 0) hx hb dX2_factor_14 (by decide) ?_
    refine lv_sipush (v := 9999) hx hb dX2_factor_15 (by decide) ?_
    refine cn_wi (ck_V (a := eP E 3) S lk_X2_69 (c_X5_needNumber l E I A K T n z 0 9999 hE hT hz) ⟨rfl, rfl⟩ ⟨Nat.le_of_ble_eq_true rfl, Nat.le_of_ble_eq_true rfl⟩ bl_w (rc_w hK hP 3 (by decide) (cK_lo (by decide)) rfl) (bw_U hE hK hC hP hS) rfl hl.1 (Nat.le_of_ble_eq_true rfl) ⟨Nat.le_refl _, Nat.le_refl _⟩ dX2_factor_18 rfl) hS (fun r23 u24 H locs g25 hP hS => ?_)
    obtain ⟨rfl, rfl⟩ : r23 = zNv T n 0 9999 z ∧ u24 = (tkW I T n (zNz T n 0 9999 z), A, K) := g25
    have hP : Wp cN E cK ((tkW I T n ((zNz T n 0 9999 z))), A, K) H := hP
    have hfc := (show zFd T n (I 4 2) (I 4 3) 2 z = (zNv T n 0 9999 z, zNz T n 0 9999 z) from (zFd_s (D := 1)).trans (zFc_1 q1))
    exact re_wi (x := ((tkW I T n ((zNz T n 0 9999 z))), A, K)) (v := (zNv T n 0 9999 z)) hx hb hr hlk hP hS ⟨(congrArg Prod.fst hfc).symm, by rw [hfc]⟩ dX2_factor_21

set_option maxHeartbeats 1000000 in
set_option maxRecDepth 100000 in
theorem c_X2_term_2 (l : Launch) (E : En) (I A : Nat → Nat → Int32) (K : Nat → Nat → Int64) (T : Nat → Int32) (n : Nat) (z : Tz) (hE : Ev cN E) (hT : A 1 = T) (hz : zOk n z) : Met l yX2_term (wz yX2_term cX2_term 4 (some .int)) (rmk 13 0 0 295) (va_Pc [.ref (eP E 4), .int 2] (Bw cN E cK (tkW I T n z, A, K))) (qWi cN E cK (fun zz uu => zz = (zTd T n (I 4 2) (I 4 3) 2 z).1 ∧ uu = (tkW I T n (zTd T n (I 4 2) (I 4 3) 2 z).2, A, K))) 0 0 (cA cN E) := by
  refine en_ofW RX2 rfl (by decide +kernel) (Nat.le_of_ble_eq_true rfl) ?_
  intro p e s m below meth c ls S hr hlk hnm hl hB
  have hx := S.1
  have hb := S.2.1
  obtain ⟨hK, hC, hP⟩ := hB
  have hS : va_S (cA cN E) s.heap s.heap [] := va_S.rf
  have hl : lv_has ls 4 [(0, .ref (eP E 4)), (1, .int 2)] := hl
  obtain ⟨hz1, hz2⟩ := id hz
  refine lv_aload_n hx hb dX2_term_0 rfl (lv_at hl 0 rfl) ?_
  refine lv_iload_n hx hb dX2_term_1 rfl (lv_at hl 1 rfl) ?_
  refine cn_wi (ck_V (a := eP E 4) S lk_X2_55 (c_X2_factor_2 l E I A K T n z hE hT hz) ⟨rfl, rfl⟩ ⟨Nat.le_of_ble_eq_true rfl, Nat.le_of_ble_eq_true rfl⟩ bl_w (rc_w hK hP 4 (by decide) (cK_lo (by decide)) rfl) (bw_U hE hK hC hP hS) rfl hl.1 (Nat.le_of_ble_eq_true rfl) ⟨Nat.le_refl _, Nat.le_refl _⟩ dX2_term_2 rfl) hS (fun r1 u2 H locs g3 hP hS => ?_)
  obtain ⟨rfl, rfl⟩ : r1 = (zFd T n (I 4 2) (I 4 3) 2 z).1 ∧ u2 = (tkW I T n (zFd T n (I 4 2) (I 4 3) 2 z).2, A, K) := g3
  have hP : Wp cN E cK ((tkW I T n ((zFd T n (I 4 2) (I 4 3) 2 z).2)), A, K) H := hP
  refine lv_istore_n (lv' := [(2, .int ((zFd T n (I 4 2) (I 4 3) 2 z).1)), (0, .ref (eP E 4)), (1, .int 2)]) hx hb dX2_term_5 rfl hl (by decide) rfl (fun ls hl => ?_)
  refine lv_iconst (v := 0) hx hb dX2_term_6 (by decide) ?_
  refine lv_istore_n (lv' := [(3, .int 0), (2, .int ((zFd T n (I 4 2) (I 4 3) 2 z).1)), (0, .ref (eP E 4)), (1, .int 2)]) hx hb dX2_term_7 rfl hl (by decide) rfl (fun ls hl => ?_)
  have HL : ∀ (cnt i : Nat) (a : Int32) (za : Tz), i + cnt = 700 → zOk n za → zTl T n (zFd T n (I 4 2) (I 4 3) 2) cnt (a, za) = zTl T n (zFd T n (I 4 2) (I 4 3) 2) 700 ((zFd T n (I 4 2) (I 4 3) 2) z) → ∀ (H : Heap) (locs : List Loc), Wp cN E cK ((tkW I T n za), A, K) H → va_S (cA cN E) s.heap H locs → ∀ ls : Array Slot, lv_has ls 4 [(3, .int (nI i)), (2, .int a), (0, .ref (eP E 4)), (1, .int 2)] → W p l e (rmk 13 0 0 295) s m ([.ref (eP E 4), .int 2] : List Value).toArray below meth c H locs 0 0 (MQ below (qWi cN E cK (fun zz uu => zz = (zTd T n (I 4 2) (I 4 3) 2 z).1 ∧ uu = (tkW I T n (zTd T n (I 4 2) (I 4 3) 2 z).2, A, K))) ([.ref (eP E 4), .int 2] : List Value).toArray s 0 0 (cA cN E)) (F0 m 8 ls []) := by
    intro cnt
    induction cnt with
    | zero =>
      intro i a za hi hza hv H locs hP hS ls hl
      have hiN : i = 700 := by omega
      rw [hiN] at hl
      try rw [hiN] at hP
      refine lv_iload_n hx hb dX2_term_8 rfl (lv_at hl 0 rfl) ?_
      refine lv_sipush (v := 700) hx hb dX2_term_9 (by decide) ?_
      refine lv_icmp_ge (tgt := 68) hx hb dX2_term_12 (by decide) (fun h12 => ?_) (fun h12 => absurd (Int32.le_refl _) h12)
      refine lv_iload_n hx hb dX2_term_68 rfl (lv_at hl 1 rfl) ?_
      have hfc : (a, za) = zTl T n (zFd T n (I 4 2) (I 4 3) 2) 700 ((zFd T n (I 4 2) (I 4 3) 2) z) := hv
      have hfc : (a, za) = zTd T n (I 4 2) (I 4 3) 2 z := hfc.trans zTd_e.symm
      exact re_wi (x := ((tkW I T n za), A, K)) (v := a) hx hb hr hlk hP hS ⟨congrArg Prod.fst hfc, by rw [← hfc]⟩ dX2_term_69
    | succ cnt ih =>
      intro i a za hi hza hv H locs hP hS ls hl
      have hlt : i < 700 := by omega
      refine lv_iload_n hx hb dX2_term_8 rfl (lv_at hl 0 rfl) ?_
      refine lv_sipush (v := 700) hx hb dX2_term_9 (by decide) ?_
      refine lv_icmp_ge (tgt := 68) hx hb dX2_term_12 (by decide) (fun h12 => absurd h12 (nI_ge (b := 700) hlt (by decide))) (fun h12 => ?_)
      refine lv_aload_n hx hb dX2_term_15 rfl (lv_at hl 2 rfl) ?_
      refine rw_getr (x := ((tkW I T n za), A, K)) S hK hP 4 (by decide) (cK_lo (by decide)) fk_X2_21 rfl dX2_term_16 ?_
      refine lv_bipush (v := 42) hx hb dX2_term_19 (by decide) ?_
      refine cn_wi (ck_V (a := eP E 3) S lk_X2_49 (c_X5_passSign l E I A K T n za 42 hE hT hza) ⟨rfl, rfl⟩ ⟨Nat.le_of_ble_eq_true rfl, Nat.le_of_ble_eq_true rfl⟩ bl_w (rc_w hK hP 3 (by decide) (cK_lo (by decide)) rfl) (bw_U hE hK hC hP hS) rfl hl.1 (Nat.le_of_ble_eq_true rfl) ⟨Nat.le_refl _, Nat.le_refl _⟩ dX2_term_21 rfl) hS (fun r4 u5 H locs g6 hP hS => ?_)
      obtain ⟨rfl, rfl⟩ : r4 = bI (zS T n 42 za) ∧ u5 = (tkW I T n (zPS T n 42 za), A, K) := g6
      have hP : Wp cN E cK ((tkW I T n ((zPS T n 42 za))), A, K) H := hP
      refine lv_if_eq (tgt := 40) hx hb dX2_term_24 (by decide) (fun h24 => ?_) (fun h24 => ?_)
      · have q1 : zS T n 42 za = false := bI_f h24
        rw [zPS_f q1] at hP
        have hP : Wp cN E cK ((tkW I T n za), A, K) H := hP
        refine lv_aload_n hx hb dX2_term_40 rfl (lv_at hl 2 rfl) ?_
        refine rw_getr (x := ((tkW I T n za), A, K)) S hK hP 4 (by decide) (cK_lo (by decide)) fk_X2_21 rfl dX2_term_41 ?_
        refine lv_bipush (v := 47) hx hb dX2_term_44 (by decide) ?_
        refine cn_wi (ck_V (a := eP E 3) S lk_X2_49 (c_X5_passSign l E I A K T n za 47 hE hT hza) ⟨rfl, rfl⟩ ⟨Nat.le_of_ble_eq_true rfl, Nat.le_of_ble_eq_true rfl⟩ bl_w (rc_w hK hP 3 (by decide) (cK_lo (by decide)) rfl) (bw_U hE hK hC hP hS) rfl hl.1 (Nat.le_of_ble_eq_true rfl) ⟨Nat.le_refl _, Nat.le_refl _⟩ dX2_term_46 rfl) hS (fun r7 u8 H locs g9 hP hS => ?_)
        obtain ⟨rfl, rfl⟩ : r7 = bI (zS T n 47 za) ∧ u8 = (tkW I T n (zPS T n 47 za), A, K) := g9
        have hP : Wp cN E cK ((tkW I T n ((zPS T n 47 za))), A, K) H := hP
        refine lv_if_eq (tgt := 68) hx hb dX2_term_49 (by decide) (fun h49 => ?_) (fun h49 => ?_)
        · have q2 : zS T n 47 za = false := bI_f h49
          rw [zPS_f q2] at hP
          have hP : Wp cN E cK ((tkW I T n za), A, K) H := hP
          refine lv_iload_n hx hb dX2_term_68 rfl (lv_at hl 1 rfl) ?_
          have hfc := (zTl_e (F := (zFd T n (I 4 2) (I 4 3) 2)) (k := cnt) (a := a) q1 q2).symm.trans hv
          have hfc : (a, za) = zTd T n (I 4 2) (I 4 3) 2 z := hfc.trans zTd_e.symm
          exact re_wi (x := ((tkW I T n za), A, K)) (v := a) hx hb hr hlk hP hS ⟨congrArg Prod.fst hfc, by rw [← hfc]⟩ dX2_term_69
        · have q2 : zS T n 47 za = true := bI_t h49
          rw [zPS_t q2] at hP
          have hP : Wp cN E cK ((tkW I T n (zA T n za)), A, K) H := hP
          refine lv_iload_n hx hb dX2_term_52 rfl (lv_at hl 1 rfl) ?_
          refine lv_aload_n hx hb dX2_term_53 rfl (lv_at hl 2 rfl) ?_
          refine lv_iload_n hx hb dX2_term_54 rfl (lv_at hl 3 rfl) ?_
          refine cn_wi (ck_V (a := eP E 4) S lk_X2_55 (c_X2_factor_2 l E I A K T n (zA T n za) hE hT (zOk_A hza)) ⟨rfl, rfl⟩ ⟨Nat.le_of_ble_eq_true rfl, Nat.le_of_ble_eq_true rfl⟩ bl_w (rc_w hK hP 4 (by decide) (cK_lo (by decide)) rfl) (bw_U hE hK hC hP hS) rfl hl.1 (Nat.le_of_ble_eq_true rfl) ⟨Nat.le_refl _, Nat.le_refl _⟩ dX2_term_55 rfl) hS (fun r10 u11 H locs g12 hP hS => ?_)
          obtain ⟨rfl, rfl⟩ : r10 = (zFd T n (I 4 2) (I 4 3) 2 (zA T n za)).1 ∧ u11 = (tkW I T n (zFd T n (I 4 2) (I 4 3) 2 (zA T n za)).2, A, K) := g12
          have hP : Wp cN E cK ((tkW I T n ((zFd T n (I 4 2) (I 4 3) 2 (zA T n za)).2)), A, K) H := hP
          refine cn_si (ck_S S lk_X2_62 (c_X2_quotient l a ((zFd T n (I 4 2) (I 4 3) 2 (zA T n za)).1)) ⟨rfl, rfl⟩ ⟨Nat.le_of_ble_eq_true rfl, Nat.le_of_ble_eq_true rfl⟩ bl_T t_U rfl hl.1 (Nat.le_of_ble_eq_true rfl) ⟨Nat.le_refl _, Nat.le_refl _⟩ dX2_term_58 rfl) (fun r13 g14 => ?_)
          obtain rfl : r13 = cQuo a ((zFd T n (I 4 2) (I 4 3) 2 (zA T n za)).1) := g14
          refine lv_istore_n (lv' := [(2, .int (cQuo a ((zFd T n (I 4 2) (I 4 3) 2 (zA T n za)).1))), (3, .int (nI i)), (0, .ref (eP E 4)), (1, .int 2)]) hx hb dX2_term_61 rfl hl (by decide) rfl (fun ls hl => ?_)
          refine lv_iinc (v := nI (i + 1)) (lv' := [(3, .int (nI (i + 1))), (2, .int (cQuo a ((zFd T n (I 4 2) (I 4 3) 2 (zA T n za)).1))), (0, .ref (eP E 4)), (1, .int 2)]) hx hb dX2_term_62 hl (k := 1) rfl (nI_1 _) (by decide) rfl (fun ls hl => ?_)
          refine lv_goto (tgt := 8) hx hb dX2_term_65 (by decide) ?_
          exact ih (i + 1) _ _ (by omega) (zOk_Fd 2 _ (zOk_A hza)) ((zTl_d q1 q2).symm.trans hv) _ _ hP hS ls (lv_sub hl [0, 1, 2, 3] rfl)
      · have q1 : zS T n 42 za = true := bI_t h24
        rw [zPS_t q1] at hP
        have hP : Wp cN E cK ((tkW I T n (zA T n za)), A, K) H := hP
        refine lv_iload_n hx hb dX2_term_27 rfl (lv_at hl 1 rfl) ?_
        refine lv_aload_n hx hb dX2_term_28 rfl (lv_at hl 2 rfl) ?_
        refine lv_iload_n hx hb dX2_term_29 rfl (lv_at hl 3 rfl) ?_
        refine cn_wi (ck_V (a := eP E 4) S lk_X2_55 (c_X2_factor_2 l E I A K T n (zA T n za) hE hT (zOk_A hza)) ⟨rfl, rfl⟩ ⟨Nat.le_of_ble_eq_true rfl, Nat.le_of_ble_eq_true rfl⟩ bl_w (rc_w hK hP 4 (by decide) (cK_lo (by decide)) rfl) (bw_U hE hK hC hP hS) rfl hl.1 (Nat.le_of_ble_eq_true rfl) ⟨Nat.le_refl _, Nat.le_refl _⟩ dX2_term_30 rfl) hS (fun r15 u16 H locs g17 hP hS => ?_)
        obtain ⟨rfl, rfl⟩ : r15 = (zFd T n (I 4 2) (I 4 3) 2 (zA T n za)).1 ∧ u16 = (tkW I T n (zFd T n (I 4 2) (I 4 3) 2 (zA T n za)).2, A, K) := g17
        have hP : Wp cN E cK ((tkW I T n ((zFd T n (I 4 2) (I 4 3) 2 (zA T n za)).2)), A, K) H := hP
        refine cn_si (ck_S S lk_X2_58 (c_X2_product l a ((zFd T n (I 4 2) (I 4 3) 2 (zA T n za)).1)) ⟨rfl, rfl⟩ ⟨Nat.le_of_ble_eq_true rfl, Nat.le_of_ble_eq_true rfl⟩ bl_T t_U rfl hl.1 (Nat.le_of_ble_eq_true rfl) ⟨Nat.le_refl _, Nat.le_refl _⟩ dX2_term_33 rfl) (fun r18 g19 => ?_)
        obtain rfl : r18 = cProd a ((zFd T n (I 4 2) (I 4 3) 2 (zA T n za)).1) := g19
        refine lv_istore_n (lv' := [(2, .int (cProd a ((zFd T n (I 4 2) (I 4 3) 2 (zA T n za)).1))), (3, .int (nI i)), (0, .ref (eP E 4)), (1, .int 2)]) hx hb dX2_term_36 rfl hl (by decide) rfl (fun ls hl => ?_)
        refine lv_goto (tgt := 62) hx hb dX2_term_37 (by decide) ?_
        refine lv_iinc (v := nI (i + 1)) (lv' := [(3, .int (nI (i + 1))), (2, .int (cProd a ((zFd T n (I 4 2) (I 4 3) 2 (zA T n za)).1))), (0, .ref (eP E 4)), (1, .int 2)]) hx hb dX2_term_62 hl (k := 1) rfl (nI_1 _) (by decide) rfl (fun ls hl => ?_)
        refine lv_goto (tgt := 8) hx hb dX2_term_65 (by decide) ?_
        exact ih (i + 1) _ _ (by omega) (zOk_Fd 2 _ (zOk_A hza)) ((zTl_m q1).symm.trans hv) _ _ hP hS ls (lv_sub hl [0, 1, 2, 3] rfl)
  exact HL 700 0 ((zFd T n (I 4 2) (I 4 3) 2) z).1 ((zFd T n (I 4 2) (I 4 3) 2) z).2 (by omega) (zOk_Fd 2 _ hz) (congrArg (zTl T n (zFd T n (I 4 2) (I 4 3) 2) 700) (rfl : (((zFd T n (I 4 2) (I 4 3) 2) z).1, ((zFd T n (I 4 2) (I 4 3) 2) z).2) = (zFd T n (I 4 2) (I 4 3) 2) z)) _ _ hP hS ls (lv_sub hl [0, 1, 2, 3] rfl)

set_option maxHeartbeats 1000000 in
set_option maxRecDepth 100000 in
theorem c_X2_sum_2 (l : Launch) (E : En) (I A : Nat → Nat → Int32) (K : Nat → Nat → Int64) (T : Nat → Int32) (n : Nat) (z : Tz) (hE : Ev cN E) (hT : A 1 = T) (hz : zOk n z) : Met l yX2_sum (wz yX2_sum cX2_sum 4 (some .int)) (rmk 14 0 0 318) (va_Pc [.ref (eP E 4), .int 2] (Bw cN E cK (tkW I T n z, A, K))) (qWi cN E cK (fun zz uu => zz = (zSu T n (I 4 2) (I 4 3) 2 z).1 ∧ uu = (tkW I T n (zSu T n (I 4 2) (I 4 3) 2 z).2, A, K))) 0 0 (cA cN E) := by
  refine en_ofW RX2 rfl (by decide +kernel) (Nat.le_of_ble_eq_true rfl) ?_
  intro p e s m below meth c ls S hr hlk hnm hl hB
  have hx := S.1
  have hb := S.2.1
  obtain ⟨hK, hC, hP⟩ := hB
  have hS : va_S (cA cN E) s.heap s.heap [] := va_S.rf
  have hl : lv_has ls 4 [(0, .ref (eP E 4)), (1, .int 2)] := hl
  obtain ⟨hz1, hz2⟩ := id hz
  refine lv_aload_n hx hb dX2_sum_0 rfl (lv_at hl 0 rfl) ?_
  refine lv_iload_n hx hb dX2_sum_1 rfl (lv_at hl 1 rfl) ?_
  refine cn_wi (ck_V (a := eP E 4) S lk_X2_46 (c_X2_term_2 l E I A K T n z hE hT hz) ⟨rfl, rfl⟩ ⟨Nat.le_of_ble_eq_true rfl, Nat.le_of_ble_eq_true rfl⟩ bl_w (rc_w hK hP 4 (by decide) (cK_lo (by decide)) rfl) (bw_U hE hK hC hP hS) rfl hl.1 (Nat.le_of_ble_eq_true rfl) ⟨Nat.le_refl _, Nat.le_refl _⟩ dX2_sum_2 rfl) hS (fun r1 u2 H locs g3 hP hS => ?_)
  obtain ⟨rfl, rfl⟩ : r1 = (zTd T n (I 4 2) (I 4 3) 2 z).1 ∧ u2 = (tkW I T n (zTd T n (I 4 2) (I 4 3) 2 z).2, A, K) := g3
  have hP : Wp cN E cK ((tkW I T n ((zTd T n (I 4 2) (I 4 3) 2 z).2)), A, K) H := hP
  refine lv_istore_n (lv' := [(2, .int ((zTd T n (I 4 2) (I 4 3) 2 z).1)), (0, .ref (eP E 4)), (1, .int 2)]) hx hb dX2_sum_5 rfl hl (by decide) rfl (fun ls hl => ?_)
  refine lv_iconst (v := 0) hx hb dX2_sum_6 (by decide) ?_
  refine lv_istore_n (lv' := [(3, .int 0), (2, .int ((zTd T n (I 4 2) (I 4 3) 2 z).1)), (0, .ref (eP E 4)), (1, .int 2)]) hx hb dX2_sum_7 rfl hl (by decide) rfl (fun ls hl => ?_)
  have HL : ∀ (cnt i : Nat) (a : Int32) (za : Tz), i + cnt = 700 → zOk n za → zSl T n (zTd T n (I 4 2) (I 4 3) 2) cnt (a, za) = zSl T n (zTd T n (I 4 2) (I 4 3) 2) 700 ((zTd T n (I 4 2) (I 4 3) 2) z) → ∀ (H : Heap) (locs : List Loc), Wp cN E cK ((tkW I T n za), A, K) H → va_S (cA cN E) s.heap H locs → ∀ ls : Array Slot, lv_has ls 4 [(3, .int (nI i)), (2, .int a), (0, .ref (eP E 4)), (1, .int 2)] → W p l e (rmk 14 0 0 318) s m ([.ref (eP E 4), .int 2] : List Value).toArray below meth c H locs 0 0 (MQ below (qWi cN E cK (fun zz uu => zz = (zSu T n (I 4 2) (I 4 3) 2 z).1 ∧ uu = (tkW I T n (zSu T n (I 4 2) (I 4 3) 2 z).2, A, K))) ([.ref (eP E 4), .int 2] : List Value).toArray s 0 0 (cA cN E)) (F0 m 8 ls []) := by
    intro cnt
    induction cnt with
    | zero =>
      intro i a za hi hza hv H locs hP hS ls hl
      have hiN : i = 700 := by omega
      rw [hiN] at hl
      try rw [hiN] at hP
      refine lv_iload_n hx hb dX2_sum_8 rfl (lv_at hl 0 rfl) ?_
      refine lv_sipush (v := 700) hx hb dX2_sum_9 (by decide) ?_
      refine lv_icmp_ge (tgt := 78) hx hb dX2_sum_12 (by decide) (fun h12 => ?_) (fun h12 => absurd (Int32.le_refl _) h12)
      refine lv_iload_n hx hb dX2_sum_78 rfl (lv_at hl 1 rfl) ?_
      have hfc : (a, za) = zSl T n (zTd T n (I 4 2) (I 4 3) 2) 700 ((zTd T n (I 4 2) (I 4 3) 2) z) := hv
      have hfc : (a, za) = zSu T n (I 4 2) (I 4 3) 2 z := hfc.trans zSu_e.symm
      exact re_wi (x := ((tkW I T n za), A, K)) (v := a) hx hb hr hlk hP hS ⟨congrArg Prod.fst hfc, by rw [← hfc]⟩ dX2_sum_79
    | succ cnt ih =>
      intro i a za hi hza hv H locs hP hS ls hl
      have hlt : i < 700 := by omega
      refine lv_iload_n hx hb dX2_sum_8 rfl (lv_at hl 0 rfl) ?_
      refine lv_sipush (v := 700) hx hb dX2_sum_9 (by decide) ?_
      refine lv_icmp_ge (tgt := 78) hx hb dX2_sum_12 (by decide) (fun h12 => absurd h12 (nI_ge (b := 700) hlt (by decide))) (fun h12 => ?_)
      refine lv_aload_n hx hb dX2_sum_15 rfl (lv_at hl 2 rfl) ?_
      refine rw_getr (x := ((tkW I T n za), A, K)) S hK hP 4 (by decide) (cK_lo (by decide)) fk_X2_21 rfl dX2_sum_16 ?_
      refine lv_bipush (v := 43) hx hb dX2_sum_19 (by decide) ?_
      refine cn_wi (ck_V (a := eP E 3) S lk_X2_49 (c_X5_passSign l E I A K T n za 43 hE hT hza) ⟨rfl, rfl⟩ ⟨Nat.le_of_ble_eq_true rfl, Nat.le_of_ble_eq_true rfl⟩ bl_w (rc_w hK hP 3 (by decide) (cK_lo (by decide)) rfl) (bw_U hE hK hC hP hS) rfl hl.1 (Nat.le_of_ble_eq_true rfl) ⟨Nat.le_refl _, Nat.le_refl _⟩ dX2_sum_21 rfl) hS (fun r4 u5 H locs g6 hP hS => ?_)
      obtain ⟨rfl, rfl⟩ : r4 = bI (zS T n 43 za) ∧ u5 = (tkW I T n (zPS T n 43 za), A, K) := g6
      have hP : Wp cN E cK ((tkW I T n ((zPS T n 43 za))), A, K) H := hP
      refine lv_if_eq (tgt := 45) hx hb dX2_sum_24 (by decide) (fun h24 => ?_) (fun h24 => ?_)
      · have q1 : zS T n 43 za = false := bI_f h24
        rw [zPS_f q1] at hP
        have hP : Wp cN E cK ((tkW I T n za), A, K) H := hP
        refine lv_aload_n hx hb dX2_sum_45 rfl (lv_at hl 2 rfl) ?_
        refine rw_getr (x := ((tkW I T n za), A, K)) S hK hP 4 (by decide) (cK_lo (by decide)) fk_X2_21 rfl dX2_sum_46 ?_
        refine lv_bipush (v := 45) hx hb dX2_sum_49 (by decide) ?_
        refine cn_wi (ck_V (a := eP E 3) S lk_X2_49 (c_X5_passSign l E I A K T n za 45 hE hT hza) ⟨rfl, rfl⟩ ⟨Nat.le_of_ble_eq_true rfl, Nat.le_of_ble_eq_true rfl⟩ bl_w (rc_w hK hP 3 (by decide) (cK_lo (by decide)) rfl) (bw_U hE hK hC hP hS) rfl hl.1 (Nat.le_of_ble_eq_true rfl) ⟨Nat.le_refl _, Nat.le_refl _⟩ dX2_sum_51 rfl) hS (fun r7 u8 H locs g9 hP hS => ?_)
        obtain ⟨rfl, rfl⟩ : r7 = bI (zS T n 45 za) ∧ u8 = (tkW I T n (zPS T n 45 za), A, K) := g9
        have hP : Wp cN E cK ((tkW I T n ((zPS T n 45 za))), A, K) H := hP
        refine lv_if_eq (tgt := 78) hx hb dX2_sum_54 (by decide) (fun h54 => ?_) (fun h54 => ?_)
        · have q2 : zS T n 45 za = false := bI_f h54
          rw [zPS_f q2] at hP
          have hP : Wp cN E cK ((tkW I T n za), A, K) H := hP
          refine lv_iload_n hx hb dX2_sum_78 rfl (lv_at hl 1 rfl) ?_
          have hfc := (zSl_e (F := (zTd T n (I 4 2) (I 4 3) 2)) (k := cnt) (a := a) q1 q2).symm.trans hv
          have hfc : (a, za) = zSu T n (I 4 2) (I 4 3) 2 z := hfc.trans zSu_e.symm
          exact re_wi (x := ((tkW I T n za), A, K)) (v := a) hx hb hr hlk hP hS ⟨congrArg Prod.fst hfc, by rw [← hfc]⟩ dX2_sum_79
        · have q2 : zS T n 45 za = true := bI_t h54
          rw [zPS_t q2] at hP
          have hP : Wp cN E cK ((tkW I T n (zA T n za)), A, K) H := hP
          refine lv_iload_n hx hb dX2_sum_57 rfl (lv_at hl 1 rfl) ?_
          refine lv_aload_n hx hb dX2_sum_58 rfl (lv_at hl 2 rfl) ?_
          refine lv_iload_n hx hb dX2_sum_59 rfl (lv_at hl 3 rfl) ?_
          refine cn_wi (ck_V (a := eP E 4) S lk_X2_46 (c_X2_term_2 l E I A K T n (zA T n za) hE hT (zOk_A hza)) ⟨rfl, rfl⟩ ⟨Nat.le_of_ble_eq_true rfl, Nat.le_of_ble_eq_true rfl⟩ bl_w (rc_w hK hP 4 (by decide) (cK_lo (by decide)) rfl) (bw_U hE hK hC hP hS) rfl hl.1 (Nat.le_of_ble_eq_true rfl) ⟨Nat.le_refl _, Nat.le_refl _⟩ dX2_sum_60 rfl) hS (fun r10 u11 H locs g12 hP hS => ?_)
          obtain ⟨rfl, rfl⟩ : r10 = (zTd T n (I 4 2) (I 4 3) 2 (zA T n za)).1 ∧ u11 = (tkW I T n (zTd T n (I 4 2) (I 4 3) 2 (zA T n za)).2, A, K) := g12
          have hP : Wp cN E cK ((tkW I T n ((zTd T n (I 4 2) (I 4 3) 2 (zA T n za)).2)), A, K) H := hP
          refine lv_isub hx hb dX2_sum_63 ?_
          refine lv_ldc (v := (-1000000)) hx hb S.2.2.2.1 (S.2.2.2.2 _ kc_X2_53) dX2_sum_64 ?_
          refine lv_ldc (v := 1000000) hx hb S.2.2.2.1 (S.2.2.2.2 _ kc_X2_54) dX2_sum_66 ?_
          refine cn_si (ck_N S ln_X6_limited hC.1.1.2.2.2.1 (c_X6_limited l (a - ((zTd T n (I 4 2) (I 4 3) 2 (zA T n za)).1)) (-1000000) 1000000) ⟨rfl, rfl⟩ ⟨Nat.le_of_ble_eq_true rfl, Nat.le_of_ble_eq_true rfl⟩ bl_T t_U rfl hl.1 (Nat.le_of_ble_eq_true rfl) ⟨Nat.le_refl _, Nat.le_refl _⟩ dX2_sum_68 rfl) (fun r13 g14 => ?_)
          obtain rfl : r13 = pLim (a - ((zTd T n (I 4 2) (I 4 3) 2 (zA T n za)).1)) (-1000000) 1000000 := g14
          refine lv_istore_n (lv' := [(2, .int (pLim (a - ((zTd T n (I 4 2) (I 4 3) 2 (zA T n za)).1)) (-1000000) 1000000)), (3, .int (nI i)), (0, .ref (eP E 4)), (1, .int 2)]) hx hb dX2_sum_71 rfl hl (by decide) rfl (fun ls hl => ?_)
          refine lv_iinc (v := nI (i + 1)) (lv' := [(3, .int (nI (i + 1))), (2, .int (pLim (a - ((zTd T n (I 4 2) (I 4 3) 2 (zA T n za)).1)) (-1000000) 1000000)), (0, .ref (eP E 4)), (1, .int 2)]) hx hb dX2_sum_72 hl (k := 1) rfl (nI_1 _) (by decide) rfl (fun ls hl => ?_)
          refine lv_goto (tgt := 8) hx hb dX2_sum_75 (by decide) ?_
          exact ih (i + 1) _ _ (by omega) (zOk_Td 2 _ (zOk_A hza)) ((zSl_d q1 q2).symm.trans hv) _ _ hP hS ls (lv_sub hl [0, 1, 2, 3] rfl)
      · have q1 : zS T n 43 za = true := bI_t h24
        rw [zPS_t q1] at hP
        have hP : Wp cN E cK ((tkW I T n (zA T n za)), A, K) H := hP
        refine lv_iload_n hx hb dX2_sum_27 rfl (lv_at hl 1 rfl) ?_
        refine lv_aload_n hx hb dX2_sum_28 rfl (lv_at hl 2 rfl) ?_
        refine lv_iload_n hx hb dX2_sum_29 rfl (lv_at hl 3 rfl) ?_
        refine cn_wi (ck_V (a := eP E 4) S lk_X2_46 (c_X2_term_2 l E I A K T n (zA T n za) hE hT (zOk_A hza)) ⟨rfl, rfl⟩ ⟨Nat.le_of_ble_eq_true rfl, Nat.le_of_ble_eq_true rfl⟩ bl_w (rc_w hK hP 4 (by decide) (cK_lo (by decide)) rfl) (bw_U hE hK hC hP hS) rfl hl.1 (Nat.le_of_ble_eq_true rfl) ⟨Nat.le_refl _, Nat.le_refl _⟩ dX2_sum_30 rfl) hS (fun r15 u16 H locs g17 hP hS => ?_)
        obtain ⟨rfl, rfl⟩ : r15 = (zTd T n (I 4 2) (I 4 3) 2 (zA T n za)).1 ∧ u16 = (tkW I T n (zTd T n (I 4 2) (I 4 3) 2 (zA T n za)).2, A, K) := g17
        have hP : Wp cN E cK ((tkW I T n ((zTd T n (I 4 2) (I 4 3) 2 (zA T n za)).2)), A, K) H := hP
        refine lv_iadd hx hb dX2_sum_33 ?_
        refine lv_ldc (v := (-1000000)) hx hb S.2.2.2.1 (S.2.2.2.2 _ kc_X2_53) dX2_sum_34 ?_
        refine lv_ldc (v := 1000000) hx hb S.2.2.2.1 (S.2.2.2.2 _ kc_X2_54) dX2_sum_36 ?_
        refine cn_si (ck_N S ln_X6_limited hC.1.1.2.2.2.1 (c_X6_limited l (a + ((zTd T n (I 4 2) (I 4 3) 2 (zA T n za)).1)) (-1000000) 1000000) ⟨rfl, rfl⟩ ⟨Nat.le_of_ble_eq_true rfl, Nat.le_of_ble_eq_true rfl⟩ bl_T t_U rfl hl.1 (Nat.le_of_ble_eq_true rfl) ⟨Nat.le_refl _, Nat.le_refl _⟩ dX2_sum_38 rfl) (fun r18 g19 => ?_)
        obtain rfl : r18 = pLim (a + ((zTd T n (I 4 2) (I 4 3) 2 (zA T n za)).1)) (-1000000) 1000000 := g19
        refine lv_istore_n (lv' := [(2, .int (pLim (a + ((zTd T n (I 4 2) (I 4 3) 2 (zA T n za)).1)) (-1000000) 1000000)), (3, .int (nI i)), (0, .ref (eP E 4)), (1, .int 2)]) hx hb dX2_sum_41 rfl hl (by decide) rfl (fun ls hl => ?_)
        refine lv_goto (tgt := 72) hx hb dX2_sum_42 (by decide) ?_
        refine lv_iinc (v := nI (i + 1)) (lv' := [(3, .int (nI (i + 1))), (2, .int (pLim (a + ((zTd T n (I 4 2) (I 4 3) 2 (zA T n za)).1)) (-1000000) 1000000)), (0, .ref (eP E 4)), (1, .int 2)]) hx hb dX2_sum_72 hl (k := 1) rfl (nI_1 _) (by decide) rfl (fun ls hl => ?_)
        refine lv_goto (tgt := 8) hx hb dX2_sum_75 (by decide) ?_
        exact ih (i + 1) _ _ (by omega) (zOk_Td 2 _ (zOk_A hza)) ((zSl_m q1).symm.trans hv) _ _ hP hS ls (lv_sub hl [0, 1, 2, 3] rfl)
  exact HL 700 0 ((zTd T n (I 4 2) (I 4 3) 2) z).1 ((zTd T n (I 4 2) (I 4 3) 2) z).2 (by omega) (zOk_Td 2 _ hz) (congrArg (zSl T n (zTd T n (I 4 2) (I 4 3) 2) 700) (rfl : (((zTd T n (I 4 2) (I 4 3) 2) z).1, ((zTd T n (I 4 2) (I 4 3) 2) z).2) = (zTd T n (I 4 2) (I 4 3) 2) z)) _ _ hP hS ls (lv_sub hl [0, 1, 2, 3] rfl)

set_option maxHeartbeats 1000000 in
set_option maxRecDepth 100000 in
theorem c_X2_factor_3 (l : Launch) (E : En) (I A : Nat → Nat → Int32) (K : Nat → Nat → Int64) (T : Nat → Int32) (n : Nat) (z : Tz) (hE : Ev cN E) (hT : A 1 = T) (hz : zOk n z) : Met l yX2_factor (wz yX2_factor cX2_factor 3 (some .int)) (rmk 15 0 0 341) (va_Pc [.ref (eP E 4), .int 1] (Bw cN E cK (tkW I T n z, A, K))) (qWi cN E cK (fun zz uu => zz = (zFd T n (I 4 2) (I 4 3) 3 z).1 ∧ uu = (tkW I T n (zFd T n (I 4 2) (I 4 3) 3 z).2, A, K))) 0 0 (cA cN E) := by
  refine en_ofW RX2 rfl (by decide +kernel) (Nat.le_of_ble_eq_true rfl) ?_
  intro p e s m below meth c ls S hr hlk hnm hl hB
  have hx := S.1
  have hb := S.2.1
  obtain ⟨hK, hC, hP⟩ := hB
  have hS : va_S (cA cN E) s.heap s.heap [] := va_S.rf
  have hl : lv_has ls 3 [(0, .ref (eP E 4)), (1, .int 1)] := hl
  obtain ⟨hz1, hz2⟩ := id hz
  refine lv_aload_n hx hb dX2_factor_0 rfl (lv_at hl 0 rfl) ?_
  refine rw_getr (x := ((tkW I T n z), A, K)) S hK hP 4 (by decide) (cK_lo (by decide)) fk_X2_21 rfl dX2_factor_1 ?_
  refine cn_si (ck_V (a := eP E 3) S lk_X2_65 (c_X5_isNumber l E I A K T n z hE hT hz) ⟨rfl, rfl⟩ ⟨Nat.le_of_ble_eq_true rfl, Nat.le_of_ble_eq_true rfl⟩ bl_w (rc_w hK hP 3 (by decide) (cK_lo (by decide)) rfl) (bw_U hE hK hC hP hS) rfl hl.1 (Nat.le_of_ble_eq_true rfl) ⟨Nat.le_refl _, Nat.le_refl _⟩ dX2_factor_4 rfl) (fun r1 g2 => ?_)
  obtain rfl : r1 = bI (zN T n z) := g2
  refine lv_if_eq (tgt := 22) hx hb dX2_factor_7 (by decide) (fun h7 => ?_) (fun h7 => ?_)
  · have q1 : zN T n z = false := bI_f h7
    refine lv_aload_n hx hb dX2_factor_22 rfl (lv_at hl 0 rfl) ?_
    refine rw_getr (x := ((tkW I T n z), A, K)) S hK hP 4 (by decide) (cK_lo (by decide)) fk_X2_21 rfl dX2_factor_23 ?_
    refine va_ldcS (q := eS E 7) (tx := "size") hx hb S.2.2.2.1 (tr_7 hC.1.2.1) dX2_factor_26 ?_
    refine cn_wi (ck_V (a := eP E 3) S lk_X2_73 (c_X5_passWord l E I A K T n z 7 hE hT hz (by decide)) ⟨rfl, rfl⟩ ⟨Nat.le_of_ble_eq_true rfl, Nat.le_of_ble_eq_true rfl⟩ bl_w (rc_w hK hP 3 (by decide) (cK_lo (by decide)) rfl) (bw_U hE hK hC hP hS) rfl hl.1 (Nat.le_of_ble_eq_true rfl) ⟨Nat.le_refl _, Nat.le_refl _⟩ dX2_factor_28 rfl) hS (fun r3 u4 H locs g5 hP hS => ?_)
    obtain ⟨rfl, rfl⟩ : r3 = bI (zW T n (tw 7) z) ∧ u4 = (tkW I T n (zPW T n (tw 7) z), A, K) := g5
    have hP : Wp cN E cK ((tkW I T n ((zPW T n (tw 7) z))), A, K) H := hP
    refine lv_if_eq (tgt := 39) hx hb dX2_factor_31 (by decide) (fun h31 => ?_) (fun h31 => ?_)
    · have q2 : zW T n (tw 7) z = false := bI_f h31
      rw [zPW_f q2] at hP
      have hP : Wp cN E cK ((tkW I T n z), A, K) H := hP
      refine lv_aload_n hx hb dX2_factor_39 rfl (lv_at hl 0 rfl) ?_
      refine rw_getr (x := ((tkW I T n z), A, K)) S hK hP 4 (by decide) (cK_lo (by decide)) fk_X2_21 rfl dX2_factor_40 ?_
      refine va_ldcS (q := eS E 8) (tx := "scheme") hx hb S.2.2.2.1 (tr_8 hC.1.2.1) dX2_factor_43 ?_
      refine cn_wi (ck_V (a := eP E 3) S lk_X2_73 (c_X5_passWord l E I A K T n z 8 hE hT hz (by decide)) ⟨rfl, rfl⟩ ⟨Nat.le_of_ble_eq_true rfl, Nat.le_of_ble_eq_true rfl⟩ bl_w (rc_w hK hP 3 (by decide) (cK_lo (by decide)) rfl) (bw_U hE hK hC hP hS) rfl hl.1 (Nat.le_of_ble_eq_true rfl) ⟨Nat.le_refl _, Nat.le_refl _⟩ dX2_factor_45 rfl) hS (fun r6 u7 H locs g8 hP hS => ?_)
      obtain ⟨rfl, rfl⟩ : r6 = bI (zW T n (tw 8) z) ∧ u7 = (tkW I T n (zPW T n (tw 8) z), A, K) := g8
      have hP : Wp cN E cK ((tkW I T n ((zPW T n (tw 8) z))), A, K) H := hP
      refine lv_if_eq (tgt := 56) hx hb dX2_factor_48 (by decide) (fun h48 => ?_) (fun h48 => ?_)
      · have q3 : zW T n (tw 8) z = false := bI_f h48
        rw [zPW_f q3] at hP
        have hP : Wp cN E cK ((tkW I T n z), A, K) H := hP
        refine lv_aload_n hx hb dX2_factor_56 rfl (lv_at hl 0 rfl) ?_
        refine rw_getr (x := ((tkW I T n z), A, K)) S hK hP 4 (by decide) (cK_lo (by decide)) fk_X2_21 rfl dX2_factor_57 ?_
        refine lv_bipush (v := 40) hx hb dX2_factor_60 (by decide) ?_
        refine cn_si (ck_V (a := eP E 3) S lk_X2_78 (c_X5_isSign l E I A K T n z 40 hE hT hz) ⟨rfl, rfl⟩ ⟨Nat.le_of_ble_eq_true rfl, Nat.le_of_ble_eq_true rfl⟩ bl_w (rc_w hK hP 3 (by decide) (cK_lo (by decide)) rfl) (bw_U hE hK hC hP hS) rfl hl.1 (Nat.le_of_ble_eq_true rfl) ⟨Nat.le_refl _, Nat.le_refl _⟩ dX2_factor_62 rfl) (fun r9 g10 => ?_)
        obtain rfl : r9 = bI (zS T n 40 z) := g10
        refine lv_if_ne (tgt := 79) hx hb dX2_factor_65 (by decide) (fun h65 => ?_) (fun h65 => ?_)
        · have q4 : zS T n 40 z = true := bI_t h65
          refine lv_iload_n hx hb dX2_factor_79 rfl (lv_at hl 1 rfl) ?_
          refine lv_iconst (v := 4) hx hb dX2_factor_80 (by decide) ?_
          refine lv_icmp_lt (tgt := 95) hx hb dX2_factor_81 (by decide) (fun h81 => ?_) (fun h81 => absurd (by decide) h81)
          refine lv_aload_n hx hb dX2_factor_95 rfl (lv_at hl 0 rfl) ?_
          refine rw_getr (x := ((tkW I T n z), A, K)) S hK hP 4 (by decide) (cK_lo (by decide)) fk_X2_21 rfl dX2_factor_96 ?_
          refine cn_wv (ck_V (a := eP E 3) S lk_X2_31 (c_X5_adv l E I A K T n z hE hT hz) ⟨rfl, rfl⟩ ⟨Nat.le_of_ble_eq_true rfl, Nat.le_of_ble_eq_true rfl⟩ bl_w (rc_w hK hP 3 (by decide) (cK_lo (by decide)) rfl) (bw_U hE hK hC hP hS) rfl hl.1 (Nat.le_of_ble_eq_true rfl) ⟨Nat.le_refl _, Nat.le_refl _⟩ dX2_factor_99 rfl) hS (fun u12 H locs g13 hP hS => ?_)
          obtain rfl : u12 = (tkW I T n (zA T n z), A, K) := g13
          have hP : Wp cN E cK ((tkW I T n ((zA T n z))), A, K) H := hP
          refine lv_aload_n hx hb dX2_factor_102 rfl (lv_at hl 0 rfl) ?_
          refine lv_iload_n hx hb dX2_factor_103 rfl (lv_at hl 1 rfl) ?_
          refine lv_iconst (v := 1) hx hb dX2_factor_104 (by decide) ?_
          refine lv_iadd hx hb dX2_factor_105 ?_
          refine tp_i (y := 2) rfl ?_
          refine cn_wi (ck_V (a := eP E 4) S lk_X2_34 (c_X2_sum_2 l E I A K T n ((zA T n z)) hE hT (zOk_A hz)) ⟨rfl, rfl⟩ ⟨Nat.le_of_ble_eq_true rfl, Nat.le_of_ble_eq_true rfl⟩ bl_w (rc_w hK hP 4 (by decide) (cK_lo (by decide)) rfl) (bw_U hE hK hC hP hS) rfl hl.1 (Nat.le_of_ble_eq_true rfl) ⟨Nat.le_refl _, Nat.le_refl _⟩ dX2_factor_106 rfl) hS (fun r14 u15 H locs g16 hP hS => ?_)
          obtain ⟨rfl, rfl⟩ : r14 = (zSu T n (I 4 2) (I 4 3) 2 ((zA T n z))).1 ∧ u15 = (tkW I T n (zSu T n (I 4 2) (I 4 3) 2 ((zA T n z))).2, A, K) := g16
          have hP : Wp cN E cK ((tkW I T n ((zSu T n (I 4 2) (I 4 3) 2 ((zA T n z))).2)), A, K) H := hP
          refine lv_istore_n (lv' := [(2, .int ((zSu T n (I 4 2) (I 4 3) 2 ((zA T n z))).1)), (0, .ref (eP E 4)), (1, .int 1)]) hx hb dX2_factor_109 rfl hl (by decide) rfl (fun ls hl => ?_)
          refine lv_aload_n hx hb dX2_factor_110 rfl (lv_at hl 1 rfl) ?_
          refine rw_getr (x := ((tkW I T n ((zSu T n (I 4 2) (I 4 3) 2 ((zA T n z))).2)), A, K)) S hK hP 4 (by decide) (cK_lo (by decide)) fk_X2_21 rfl dX2_factor_111 ?_
          refine lv_bipush (v := 41) hx hb dX2_factor_114 (by decide) ?_
          refine cn_wv (ck_V (a := eP E 3) S lk_X2_84 (c_X5_needSign l E I A K T n ((zSu T n (I 4 2) (I 4 3) 2 ((zA T n z))).2) 41 hE hT (zOk_Su 2 _ (zOk_A hz))) ⟨rfl, rfl⟩ ⟨Nat.le_of_ble_eq_true rfl, Nat.le_of_ble_eq_true rfl⟩ bl_w (rc_w hK hP 3 (by decide) (cK_lo (by decide)) rfl) (bw_U hE hK hC hP hS) rfl hl.1 (Nat.le_of_ble_eq_true rfl) ⟨Nat.le_refl _, Nat.le_refl _⟩ dX2_factor_116 rfl) hS (fun u18 H locs g19 hP hS => ?_)
          obtain rfl : u18 = (tkW I T n (zNS T n 41 ((zSu T n (I 4 2) (I 4 3) 2 ((zA T n z))).2)), A, K) := g19
          have hP : Wp cN E cK ((tkW I T n ((zNS T n 41 ((zSu T n (I 4 2) (I 4 3) 2 ((zA T n z))).2)))), A, K) H := hP
          refine lv_iload_n hx hb dX2_factor_119 rfl (lv_at hl 0 rfl) ?_
          have hfc := (show zFd T n (I 4 2) (I 4 3) 3 z = ((zSu T n (I 4 2) (I 4 3) 2 (zA T n z)).1, zNS T n 41 (zSu T n (I 4 2) (I 4 3) 2 (zA T n z)).2) from (zFd_s (D := 2)).trans (zFc_6 q1 q2 q3 q4))
          exact re_wi (x := ((tkW I T n ((zNS T n 41 ((zSu T n (I 4 2) (I 4 3) 2 ((zA T n z))).2)))), A, K)) (v := ((zSu T n (I 4 2) (I 4 3) 2 ((zA T n z))).1)) hx hb hr hlk hP hS ⟨(congrArg Prod.fst hfc).symm, by rw [hfc]⟩ dX2_factor_120
        · have q4 : zS T n 40 z = false := bI_f h65
          refine lv_aload_n hx hb dX2_factor_68 rfl (lv_at hl 0 rfl) ?_
          refine rw_getr (x := ((tkW I T n z), A, K)) S hK hP 4 (by decide) (cK_lo (by decide)) fk_X2_21 rfl dX2_factor_69 ?_
          refine lv_bipush (v := (-2)) hx hb dX2_factor_72 (by decide) ?_
          refine cn_wv (ck_V (a := eP E 3) S lk_X2_81 (c_X5_fail l E I A K T n z (-2) hE hT hz (by decide)) ⟨rfl, rfl⟩ ⟨Nat.le_of_ble_eq_true rfl, Nat.le_of_ble_eq_true rfl⟩ bl_w (rc_w hK hP 3 (by decide) (cK_lo (by decide)) rfl) (bw_U hE hK hC hP hS) rfl hl.1 (Nat.le_of_ble_eq_true rfl) ⟨Nat.le_refl _, Nat.le_refl _⟩ dX2_factor_74 rfl) hS (fun u21 H locs g22 hP hS => ?_)
          obtain rfl : u21 = (tkW I T n (zF (-2) z), A, K) := g22
          have hP : Wp cN E cK ((tkW I T n ((zF (-2) z))), A, K) H := hP
          refine lv_iconst (v := 0) hx hb dX2_factor_77 (by decide) ?_
          have hfc := (show zFd T n (I 4 2) (I 4 3) 3 z = (0, zF (-2) z) from (zFd_s (D := 2)).trans (zFc_4 q1 q2 q3 q4))
          exact re_wi (x := ((tkW I T n ((zF (-2) z))), A, K)) (v := 0) hx hb hr hlk hP hS ⟨(congrArg Prod.fst hfc).symm, by rw [hfc]⟩ dX2_factor_78
      · have q3 : zW T n (tw 8) z = true := bI_t h48
        rw [zPW_t q3] at hP
        have hP : Wp cN E cK ((tkW I T n (zA T n z)), A, K) H := hP
        refine lv_aload_n hx hb dX2_factor_51 rfl (lv_at hl 0 rfl) ?_
        refine rw_geti (x := ((tkW I T n (zA T n z)), A, K)) (v := I 4 3) S hK hP 4 (by decide) (cK_lo (by decide)) fk_X2_18 rfl (tkW_ne (I := I) (T := T) (n := n) (z := (zA T n z)) (a := 4) (b := 3) (by decide)) dX2_factor_52 ?_
        have hfc := (show zFd T n (I 4 2) (I 4 3) 3 z = (I 4 3, zA T n z) from (zFd_s (D := 2)).trans (zFc_3 q1 q2 q3))
        exact re_wi (x := ((tkW I T n (zA T n z)), A, K)) (v := I 4 3) hx hb hr hlk hP hS ⟨(congrArg Prod.fst hfc).symm, by rw [hfc]⟩ dX2_factor_55
    · have q2 : zW T n (tw 7) z = true := bI_t h31
      rw [zPW_t q2] at hP
      have hP : Wp cN E cK ((tkW I T n (zA T n z)), A, K) H := hP
      refine lv_aload_n hx hb dX2_factor_34 rfl (lv_at hl 0 rfl) ?_
      refine rw_geti (x := ((tkW I T n (zA T n z)), A, K)) (v := I 4 2) S hK hP 4 (by decide) (cK_lo (by decide)) fk_X2_15 rfl (tkW_ne (I := I) (T := T) (n := n) (z := (zA T n z)) (a := 4) (b := 2) (by decide)) dX2_factor_35 ?_
      have hfc := (show zFd T n (I 4 2) (I 4 3) 3 z = (I 4 2, zA T n z) from (zFd_s (D := 2)).trans (zFc_2 q1 q2))
      exact re_wi (x := ((tkW I T n (zA T n z)), A, K)) (v := I 4 2) hx hb hr hlk hP hS ⟨(congrArg Prod.fst hfc).symm, by rw [hfc]⟩ dX2_factor_38
  · have q1 : zN T n z = true := bI_t h7
    refine lv_aload_n hx hb dX2_factor_10 rfl (lv_at hl 0 rfl) ?_
    refine rw_getr (x := ((tkW I T n z), A, K)) S hK hP 4 (by decide) (cK_lo (by decide)) fk_X2_21 rfl dX2_factor_11 ?_
    refine lv_iconst (v := 0) hx hb dX2_factor_14 (by decide) ?_
    refine lv_sipush (v := 9999) hx hb dX2_factor_15 (by decide) ?_
    refine cn_wi (ck_V (a := eP E 3) S lk_X2_69 (c_X5_needNumber l E I A K T n z 0 9999 hE hT hz) ⟨rfl, rfl⟩ ⟨Nat.le_of_ble_eq_true rfl, Nat.le_of_ble_eq_true rfl⟩ bl_w (rc_w hK hP 3 (by decide) (cK_lo (by decide)) rfl) (bw_U hE hK hC hP hS) rfl hl.1 (Nat.le_of_ble_eq_true rfl) ⟨Nat.le_refl _, Nat.le_refl _⟩ dX2_factor_18 rfl) hS (fun r23 u24 H locs g25 hP hS => ?_)
    obtain ⟨rfl, rfl⟩ : r23 = zNv T n 0 9999 z ∧ u24 = (tkW I T n (zNz T n 0 9999 z), A, K) := g25
    have hP : Wp cN E cK ((tkW I T n ((zNz T n 0 9999 z))), A, K) H := hP
    have hfc := (show zFd T n (I 4 2) (I 4 3) 3 z = (zNv T n 0 9999 z, zNz T n 0 9999 z) from (zFd_s (D := 2)).trans (zFc_1 q1))
    exact re_wi (x := ((tkW I T n ((zNz T n 0 9999 z))), A, K)) (v := (zNv T n 0 9999 z)) hx hb hr hlk hP hS ⟨(congrArg Prod.fst hfc).symm, by rw [hfc]⟩ dX2_factor_21

set_option maxHeartbeats 1000000 in
set_option maxRecDepth 100000 in
theorem c_X2_term_3 (l : Launch) (E : En) (I A : Nat → Nat → Int32) (K : Nat → Nat → Int64) (T : Nat → Int32) (n : Nat) (z : Tz) (hE : Ev cN E) (hT : A 1 = T) (hz : zOk n z) : Met l yX2_term (wz yX2_term cX2_term 4 (some .int)) (rmk 16 0 0 363) (va_Pc [.ref (eP E 4), .int 1] (Bw cN E cK (tkW I T n z, A, K))) (qWi cN E cK (fun zz uu => zz = (zTd T n (I 4 2) (I 4 3) 3 z).1 ∧ uu = (tkW I T n (zTd T n (I 4 2) (I 4 3) 3 z).2, A, K))) 0 0 (cA cN E) := by
  refine en_ofW RX2 rfl (by decide +kernel) (Nat.le_of_ble_eq_true rfl) ?_
  intro p e s m below meth c ls S hr hlk hnm hl hB
  have hx := S.1
  have hb := S.2.1
  obtain ⟨hK, hC, hP⟩ := hB
  have hS : va_S (cA cN E) s.heap s.heap [] := va_S.rf
  have hl : lv_has ls 4 [(0, .ref (eP E 4)), (1, .int 1)] := hl
  obtain ⟨hz1, hz2⟩ := id hz
  refine lv_aload_n hx hb dX2_term_0 rfl (lv_at hl 0 rfl) ?_
  refine lv_iload_n hx hb dX2_term_1 rfl (lv_at hl 1 rfl) ?_
  refine cn_wi (ck_V (a := eP E 4) S lk_X2_55 (c_X2_factor_3 l E I A K T n z hE hT hz) ⟨rfl, rfl⟩ ⟨Nat.le_of_ble_eq_true rfl, Nat.le_of_ble_eq_true rfl⟩ bl_w (rc_w hK hP 4 (by decide) (cK_lo (by decide)) rfl) (bw_U hE hK hC hP hS) rfl hl.1 (Nat.le_of_ble_eq_true rfl) ⟨Nat.le_refl _, Nat.le_refl _⟩ dX2_term_2 rfl) hS (fun r1 u2 H locs g3 hP hS => ?_)
  obtain ⟨rfl, rfl⟩ : r1 = (zFd T n (I 4 2) (I 4 3) 3 z).1 ∧ u2 = (tkW I T n (zFd T n (I 4 2) (I 4 3) 3 z).2, A, K) := g3
  have hP : Wp cN E cK ((tkW I T n ((zFd T n (I 4 2) (I 4 3) 3 z).2)), A, K) H := hP
  refine lv_istore_n (lv' := [(2, .int ((zFd T n (I 4 2) (I 4 3) 3 z).1)), (0, .ref (eP E 4)), (1, .int 1)]) hx hb dX2_term_5 rfl hl (by decide) rfl (fun ls hl => ?_)
  refine lv_iconst (v := 0) hx hb dX2_term_6 (by decide) ?_
  refine lv_istore_n (lv' := [(3, .int 0), (2, .int ((zFd T n (I 4 2) (I 4 3) 3 z).1)), (0, .ref (eP E 4)), (1, .int 1)]) hx hb dX2_term_7 rfl hl (by decide) rfl (fun ls hl => ?_)
  have HL : ∀ (cnt i : Nat) (a : Int32) (za : Tz), i + cnt = 700 → zOk n za → zTl T n (zFd T n (I 4 2) (I 4 3) 3) cnt (a, za) = zTl T n (zFd T n (I 4 2) (I 4 3) 3) 700 ((zFd T n (I 4 2) (I 4 3) 3) z) → ∀ (H : Heap) (locs : List Loc), Wp cN E cK ((tkW I T n za), A, K) H → va_S (cA cN E) s.heap H locs → ∀ ls : Array Slot, lv_has ls 4 [(3, .int (nI i)), (2, .int a), (0, .ref (eP E 4)), (1, .int 1)] → W p l e (rmk 16 0 0 363) s m ([.ref (eP E 4), .int 1] : List Value).toArray below meth c H locs 0 0 (MQ below (qWi cN E cK (fun zz uu => zz = (zTd T n (I 4 2) (I 4 3) 3 z).1 ∧ uu = (tkW I T n (zTd T n (I 4 2) (I 4 3) 3 z).2, A, K))) ([.ref (eP E 4), .int 1] : List Value).toArray s 0 0 (cA cN E)) (F0 m 8 ls []) := by
    intro cnt
    induction cnt with
    | zero =>
      intro i a za hi hza hv H locs hP hS ls hl
      have hiN : i = 700 := by omega
      rw [hiN] at hl
      try rw [hiN] at hP
      refine lv_iload_n hx hb dX2_term_8 rfl (lv_at hl 0 rfl) ?_
      refine lv_sipush (v := 700) hx hb dX2_term_9 (by decide) ?_
      refine lv_icmp_ge (tgt := 68) hx hb dX2_term_12 (by decide) (fun h12 => ?_) (fun h12 => absurd (Int32.le_refl _) h12)
      refine lv_iload_n hx hb dX2_term_68 rfl (lv_at hl 1 rfl) ?_
      have hfc : (a, za) = zTl T n (zFd T n (I 4 2) (I 4 3) 3) 700 ((zFd T n (I 4 2) (I 4 3) 3) z) := hv
      have hfc : (a, za) = zTd T n (I 4 2) (I 4 3) 3 z := hfc.trans zTd_e.symm
      exact re_wi (x := ((tkW I T n za), A, K)) (v := a) hx hb hr hlk hP hS ⟨congrArg Prod.fst hfc, by rw [← hfc]⟩ dX2_term_69
    | succ cnt ih =>
      intro i a za hi hza hv H locs hP hS ls hl
      have hlt : i < 700 := by omega
      refine lv_iload_n hx hb dX2_term_8 rfl (lv_at hl 0 rfl) ?_
      refine lv_sipush (v := 700) hx hb dX2_term_9 (by decide) ?_
      refine lv_icmp_ge (tgt := 68) hx hb dX2_term_12 (by decide) (fun h12 => absurd h12 (nI_ge (b := 700) hlt (by decide))) (fun h12 => ?_)
      refine lv_aload_n hx hb dX2_term_15 rfl (lv_at hl 2 rfl) ?_
      refine rw_getr (x := ((tkW I T n za), A, K)) S hK hP 4 (by decide) (cK_lo (by decide)) fk_X2_21 rfl dX2_term_16 ?_
      refine lv_bipush (v := 42) hx hb dX2_term_19 (by decide) ?_
      refine cn_wi (ck_V (a := eP E 3) S lk_X2_49 (c_X5_passSign l E I A K T n za 42 hE hT hza) ⟨rfl, rfl⟩ ⟨Nat.le_of_ble_eq_true rfl, Nat.le_of_ble_eq_true rfl⟩ bl_w (rc_w hK hP 3 (by decide) (cK_lo (by decide)) rfl) (bw_U hE hK hC hP hS) rfl hl.1 (Nat.le_of_ble_eq_true rfl) ⟨Nat.le_refl _, Nat.le_refl _⟩ dX2_term_21 rfl) hS (fun r4 u5 H locs g6 hP hS => ?_)
      obtain ⟨rfl, rfl⟩ : r4 = bI (zS T n 42 za) ∧ u5 = (tkW I T n (zPS T n 42 za), A, K) := g6
      have hP : Wp cN E cK ((tkW I T n ((zPS T n 42 za))), A, K) H := hP
      refine lv_if_eq (tgt := 40) hx hb dX2_term_24 (by decide) (fun h24 => ?_) (fun h24 => ?_)
      · have q1 : zS T n 42 za = false := bI_f h24
        rw [zPS_f q1] at hP
        have hP : Wp cN E cK ((tkW I T n za), A, K) H := hP
        refine lv_aload_n hx hb dX2_term_40 rfl (lv_at hl 2 rfl) ?_
        refine rw_getr (x := ((tkW I T n za), A, K)) S hK hP 4 (by decide) (cK_lo (by decide)) fk_X2_21 rfl dX2_term_41 ?_
        refine lv_bipush (v := 47) hx hb dX2_term_44 (by decide) ?_
        refine cn_wi (ck_V (a := eP E 3) S lk_X2_49 (c_X5_passSign l E I A K T n za 47 hE hT hza) ⟨rfl, rfl⟩ ⟨Nat.le_of_ble_eq_true rfl, Nat.le_of_ble_eq_true rfl⟩ bl_w (rc_w hK hP 3 (by decide) (cK_lo (by decide)) rfl) (bw_U hE hK hC hP hS) rfl hl.1 (Nat.le_of_ble_eq_true rfl) ⟨Nat.le_refl _, Nat.le_refl _⟩ dX2_term_46 rfl) hS (fun r7 u8 H locs g9 hP hS => ?_)
        obtain ⟨rfl, rfl⟩ : r7 = bI (zS T n 47 za) ∧ u8 = (tkW I T n (zPS T n 47 za), A, K) := g9
        have hP : Wp cN E cK ((tkW I T n ((zPS T n 47 za))), A, K) H := hP
        refine lv_if_eq (tgt := 68) hx hb dX2_term_49 (by decide) (fun h49 => ?_) (fun h49 => ?_)
        · have q2 : zS T n 47 za = false := bI_f h49
          rw [zPS_f q2] at hP
          have hP : Wp cN E cK ((tkW I T n za), A, K) H := hP
          refine lv_iload_n hx hb dX2_term_68 rfl (lv_at hl 1 rfl) ?_
          have hfc := (zTl_e (F := (zFd T n (I 4 2) (I 4 3) 3)) (k := cnt) (a := a) q1 q2).symm.trans hv
          have hfc : (a, za) = zTd T n (I 4 2) (I 4 3) 3 z := hfc.trans zTd_e.symm
          exact re_wi (x := ((tkW I T n za), A, K)) (v := a) hx hb hr hlk hP hS ⟨congrArg Prod.fst hfc, by rw [← hfc]⟩ dX2_term_69
        · have q2 : zS T n 47 za = true := bI_t h49
          rw [zPS_t q2] at hP
          have hP : Wp cN E cK ((tkW I T n (zA T n za)), A, K) H := hP
          refine lv_iload_n hx hb dX2_term_52 rfl (lv_at hl 1 rfl) ?_
          refine lv_aload_n hx hb dX2_term_53 rfl (lv_at hl 2 rfl) ?_
          refine lv_iload_n hx hb dX2_term_54 rfl (lv_at hl 3 rfl) ?_
          refine cn_wi (ck_V (a := eP E 4) S lk_X2_55 (c_X2_factor_3 l E I A K T n (zA T n za) hE hT (zOk_A hza)) ⟨rfl, rfl⟩ ⟨Nat.le_of_ble_eq_true rfl, Nat.le_of_ble_eq_true rfl⟩ bl_w (rc_w hK hP 4 (by decide) (cK_lo (by decide)) rfl) (bw_U hE hK hC hP hS) rfl hl.1 (Nat.le_of_ble_eq_true rfl) ⟨Nat.le_refl _, Nat.le_refl _⟩ dX2_term_55 rfl) hS (fun r10 u11 H locs g12 hP hS => ?_)
          obtain ⟨rfl, rfl⟩ : r10 = (zFd T n (I 4 2) (I 4 3) 3 (zA T n za)).1 ∧ u11 = (tkW I T n (zFd T n (I 4 2) (I 4 3) 3 (zA T n za)).2, A, K) := g12
          have hP : Wp cN E cK ((tkW I T n ((zFd T n (I 4 2) (I 4 3) 3 (zA T n za)).2)), A, K) H := hP
          refine cn_si (ck_S S lk_X2_62 (c_X2_quotient l a ((zFd T n (I 4 2) (I 4 3) 3 (zA T n za)).1)) ⟨rfl, rfl⟩ ⟨Nat.le_of_ble_eq_true rfl, Nat.le_of_ble_eq_true rfl⟩ bl_T t_U rfl hl.1 (Nat.le_of_ble_eq_true rfl) ⟨Nat.le_refl _, Nat.le_refl _⟩ dX2_term_58 rfl) (fun r13 g14 => ?_)
          obtain rfl : r13 = cQuo a ((zFd T n (I 4 2) (I 4 3) 3 (zA T n za)).1) := g14
          refine lv_istore_n (lv' := [(2, .int (cQuo a ((zFd T n (I 4 2) (I 4 3) 3 (zA T n za)).1))), (3, .int (nI i)), (0, .ref (eP E 4)), (1, .int 1)]) hx hb dX2_term_61 rfl hl (by decide) rfl (fun ls hl => ?_)
          refine lv_iinc (v := nI (i + 1)) (lv' := [(3, .int (nI (i + 1))), (2, .int (cQuo a ((zFd T n (I 4 2) (I 4 3) 3 (zA T n za)).1))), (0, .ref (eP E 4)), (1, .int 1)]) hx hb dX2_term_62 hl (k := 1) rfl (nI_1 _) (by decide) rfl (fun ls hl => ?_)
          refine lv_goto (tgt := 8) hx hb dX2_term_65 (by decide) ?_
          exact ih (i + 1) _ _ (by omega) (zOk_Fd 3 _ (zOk_A hza)) ((zTl_d q1 q2).symm.trans hv) _ _ hP hS ls (lv_sub hl [0, 1, 2, 3] rfl)
      · have q1 : zS T n 42 za = true := bI_t h24
        rw [zPS_t q1] at hP
        have hP : Wp cN E cK ((tkW I T n (zA T n za)), A, K) H := hP
        refine lv_iload_n hx hb dX2_term_27 rfl (lv_at hl 1 rfl) ?_
        refine lv_aload_n hx hb dX2_term_28 rfl (lv_at hl 2 rfl) ?_
        refine lv_iload_n hx hb dX2_term_29 rfl (lv_at hl 3 rfl) ?_
        refine cn_wi (ck_V (a := eP E 4) S lk_X2_55 (c_X2_factor_3 l E I A K T n (zA T n za) hE hT (zOk_A hza)) ⟨rfl, rfl⟩ ⟨Nat.le_of_ble_eq_true rfl, Nat.le_of_ble_eq_true rfl⟩ bl_w (rc_w hK hP 4 (by decide) (cK_lo (by decide)) rfl) (bw_U hE hK hC hP hS) rfl hl.1 (Nat.le_of_ble_eq_true rfl) ⟨Nat.le_refl _, Nat.le_refl _⟩ dX2_term_30 rfl) hS (fun r15 u16 H locs g17 hP hS => ?_)
        obtain ⟨rfl, rfl⟩ : r15 = (zFd T n (I 4 2) (I 4 3) 3 (zA T n za)).1 ∧ u16 = (tkW I T n (zFd T n (I 4 2) (I 4 3) 3 (zA T n za)).2, A, K) := g17
        have hP : Wp cN E cK ((tkW I T n ((zFd T n (I 4 2) (I 4 3) 3 (zA T n za)).2)), A, K) H := hP
        refine cn_si (ck_S S lk_X2_58 (c_X2_product l a ((zFd T n (I 4 2) (I 4 3) 3 (zA T n za)).1)) ⟨rfl, rfl⟩ ⟨Nat.le_of_ble_eq_true rfl, Nat.le_of_ble_eq_true rfl⟩ bl_T t_U rfl hl.1 (Nat.le_of_ble_eq_true rfl) ⟨Nat.le_refl _, Nat.le_refl _⟩ dX2_term_33 rfl) (fun r18 g19 => ?_)
        obtain rfl : r18 = cProd a ((zFd T n (I 4 2) (I 4 3) 3 (zA T n za)).1) := g19
        refine lv_istore_n (lv' := [(2, .int (cProd a ((zFd T n (I 4 2) (I 4 3) 3 (zA T n za)).1))), (3, .int (nI i)), (0, .ref (eP E 4)), (1, .int 1)]) hx hb dX2_term_36 rfl hl (by decide) rfl (fun ls hl => ?_)
        refine lv_goto (tgt := 62) hx hb dX2_term_37 (by decide) ?_
        refine lv_iinc (v := nI (i + 1)) (lv' := [(3, .int (nI (i + 1))), (2, .int (cProd a ((zFd T n (I 4 2) (I 4 3) 3 (zA T n za)).1))), (0, .ref (eP E 4)), (1, .int 1)]) hx hb dX2_term_62 hl (k := 1) rfl (nI_1 _) (by decide) rfl (fun ls hl => ?_)
        refine lv_goto (tgt := 8) hx hb dX2_term_65 (by decide) ?_
        exact ih (i + 1) _ _ (by omega) (zOk_Fd 3 _ (zOk_A hza)) ((zTl_m q1).symm.trans hv) _ _ hP hS ls (lv_sub hl [0, 1, 2, 3] rfl)
  exact HL 700 0 ((zFd T n (I 4 2) (I 4 3) 3) z).1 ((zFd T n (I 4 2) (I 4 3) 3) z).2 (by omega) (zOk_Fd 3 _ hz) (congrArg (zTl T n (zFd T n (I 4 2) (I 4 3) 3) 700) (rfl : (((zFd T n (I 4 2) (I 4 3) 3) z).1, ((zFd T n (I 4 2) (I 4 3) 3) z).2) = (zFd T n (I 4 2) (I 4 3) 3) z)) _ _ hP hS ls (lv_sub hl [0, 1, 2, 3] rfl)

set_option maxHeartbeats 1000000 in
set_option maxRecDepth 100000 in
theorem c_X2_sum_3 (l : Launch) (E : En) (I A : Nat → Nat → Int32) (K : Nat → Nat → Int64) (T : Nat → Int32) (n : Nat) (z : Tz) (hE : Ev cN E) (hT : A 1 = T) (hz : zOk n z) : Met l yX2_sum (wz yX2_sum cX2_sum 4 (some .int)) (rmk 17 0 0 386) (va_Pc [.ref (eP E 4), .int 1] (Bw cN E cK (tkW I T n z, A, K))) (qWi cN E cK (fun zz uu => zz = (zSu T n (I 4 2) (I 4 3) 3 z).1 ∧ uu = (tkW I T n (zSu T n (I 4 2) (I 4 3) 3 z).2, A, K))) 0 0 (cA cN E) := by
  refine en_ofW RX2 rfl (by decide +kernel) (Nat.le_of_ble_eq_true rfl) ?_
  intro p e s m below meth c ls S hr hlk hnm hl hB
  have hx := S.1
  have hb := S.2.1
  obtain ⟨hK, hC, hP⟩ := hB
  have hS : va_S (cA cN E) s.heap s.heap [] := va_S.rf
  have hl : lv_has ls 4 [(0, .ref (eP E 4)), (1, .int 1)] := hl
  obtain ⟨hz1, hz2⟩ := id hz
  refine lv_aload_n hx hb dX2_sum_0 rfl (lv_at hl 0 rfl) ?_
  refine lv_iload_n hx hb dX2_sum_1 rfl (lv_at hl 1 rfl) ?_
  refine cn_wi (ck_V (a := eP E 4) S lk_X2_46 (c_X2_term_3 l E I A K T n z hE hT hz) ⟨rfl, rfl⟩ ⟨Nat.le_of_ble_eq_true rfl, Nat.le_of_ble_eq_true rfl⟩ bl_w (rc_w hK hP 4 (by decide) (cK_lo (by decide)) rfl) (bw_U hE hK hC hP hS) rfl hl.1 (Nat.le_of_ble_eq_true rfl) ⟨Nat.le_refl _, Nat.le_refl _⟩ dX2_sum_2 rfl) hS (fun r1 u2 H locs g3 hP hS => ?_)
  obtain ⟨rfl, rfl⟩ : r1 = (zTd T n (I 4 2) (I 4 3) 3 z).1 ∧ u2 = (tkW I T n (zTd T n (I 4 2) (I 4 3) 3 z).2, A, K) := g3
  have hP : Wp cN E cK ((tkW I T n ((zTd T n (I 4 2) (I 4 3) 3 z).2)), A, K) H := hP
  refine lv_istore_n (lv' := [(2, .int ((zTd T n (I 4 2) (I 4 3) 3 z).1)), (0, .ref (eP E 4)), (1, .int 1)]) hx hb dX2_sum_5 rfl hl (by decide) rfl (fun ls hl => ?_)
  refine lv_iconst (v := 0) hx hb dX2_sum_6 (by decide) ?_
  refine lv_istore_n (lv' := [(3, .int 0), (2, .int ((zTd T n (I 4 2) (I 4 3) 3 z).1)), (0, .ref (eP E 4)), (1, .int 1)]) hx hb dX2_sum_7 rfl hl (by decide) rfl (fun ls hl => ?_)
  have HL : ∀ (cnt i : Nat) (a : Int32) (za : Tz), i + cnt = 700 → zOk n za → zSl T n (zTd T n (I 4 2) (I 4 3) 3) cnt (a, za) = zSl T n (zTd T n (I 4 2) (I 4 3) 3) 700 ((zTd T n (I 4 2) (I 4 3) 3) z) → ∀ (H : Heap) (locs : List Loc), Wp cN E cK ((tkW I T n za), A, K) H → va_S (cA cN E) s.heap H locs → ∀ ls : Array Slot, lv_has ls 4 [(3, .int (nI i)), (2, .int a), (0, .ref (eP E 4)), (1, .int 1)] → W p l e (rmk 17 0 0 386) s m ([.ref (eP E 4), .int 1] : List Value).toArray below meth c H locs 0 0 (MQ below (qWi cN E cK (fun zz uu => zz = (zSu T n (I 4 2) (I 4 3) 3 z).1 ∧ uu = (tkW I T n (zSu T n (I 4 2) (I 4 3) 3 z).2, A, K))) ([.ref (eP E 4), .int 1] : List Value).toArray s 0 0 (cA cN E)) (F0 m 8 ls []) := by
    intro cnt
    induction cnt with
    | zero =>
      intro i a za hi hza hv H locs hP hS ls hl
      have hiN : i = 700 := by omega
      rw [hiN] at hl
      try rw [hiN] at hP
      refine lv_iload_n hx hb dX2_sum_8 rfl (lv_at hl 0 rfl) ?_
      refine lv_sipush (v := 700) hx hb dX2_sum_9 (by decide) ?_
      refine lv_icmp_ge (tgt := 78) hx hb dX2_sum_12 (by decide) (fun h12 => ?_) (fun h12 => absurd (Int32.le_refl _) h12)
      refine lv_iload_n hx hb dX2_sum_78 rfl (lv_at hl 1 rfl) ?_
      have hfc : (a, za) = zSl T n (zTd T n (I 4 2) (I 4 3) 3) 700 ((zTd T n (I 4 2) (I 4 3) 3) z) := hv
      have hfc : (a, za) = zSu T n (I 4 2) (I 4 3) 3 z := hfc.trans zSu_e.symm
      exact re_wi (x := ((tkW I T n za), A, K)) (v := a) hx hb hr hlk hP hS ⟨congrArg Prod.fst hfc, by rw [← hfc]⟩ dX2_sum_79
    | succ cnt ih =>
      intro i a za hi hza hv H locs hP hS ls hl
      have hlt : i < 700 := by omega
      refine lv_iload_n hx hb dX2_sum_8 rfl (lv_at hl 0 rfl) ?_
      refine lv_sipush (v := 700) hx hb dX2_sum_9 (by decide) ?_
      refine lv_icmp_ge (tgt := 78) hx hb dX2_sum_12 (by decide) (fun h12 => absurd h12 (nI_ge (b := 700) hlt (by decide))) (fun h12 => ?_)
      refine lv_aload_n hx hb dX2_sum_15 rfl (lv_at hl 2 rfl) ?_
      refine rw_getr (x := ((tkW I T n za), A, K)) S hK hP 4 (by decide) (cK_lo (by decide)) fk_X2_21 rfl dX2_sum_16 ?_
      refine lv_bipush (v := 43) hx hb dX2_sum_19 (by decide) ?_
      refine cn_wi (ck_V (a := eP E 3) S lk_X2_49 (c_X5_passSign l E I A K T n za 43 hE hT hza) ⟨rfl, rfl⟩ ⟨Nat.le_of_ble_eq_true rfl, Nat.le_of_ble_eq_true rfl⟩ bl_w (rc_w hK hP 3 (by decide) (cK_lo (by decide)) rfl) (bw_U hE hK hC hP hS) rfl hl.1 (Nat.le_of_ble_eq_true rfl) ⟨Nat.le_refl _, Nat.le_refl _⟩ dX2_sum_21 rfl) hS (fun r4 u5 H locs g6 hP hS => ?_)
      obtain ⟨rfl, rfl⟩ : r4 = bI (zS T n 43 za) ∧ u5 = (tkW I T n (zPS T n 43 za), A, K) := g6
      have hP : Wp cN E cK ((tkW I T n ((zPS T n 43 za))), A, K) H := hP
      refine lv_if_eq (tgt := 45) hx hb dX2_sum_24 (by decide) (fun h24 => ?_) (fun h24 => ?_)
      · have q1 : zS T n 43 za = false := bI_f h24
        rw [zPS_f q1] at hP
        have hP : Wp cN E cK ((tkW I T n za), A, K) H := hP
        refine lv_aload_n hx hb dX2_sum_45 rfl (lv_at hl 2 rfl) ?_
        refine rw_getr (x := ((tkW I T n za), A, K)) S hK hP 4 (by decide) (cK_lo (by decide)) fk_X2_21 rfl dX2_sum_46 ?_
        refine lv_bipush (v := 45) hx hb dX2_sum_49 (by decide) ?_
        refine cn_wi (ck_V (a := eP E 3) S lk_X2_49 (c_X5_passSign l E I A K T n za 45 hE hT hza) ⟨rfl, rfl⟩ ⟨Nat.le_of_ble_eq_true rfl, Nat.le_of_ble_eq_true rfl⟩ bl_w (rc_w hK hP 3 (by decide) (cK_lo (by decide)) rfl) (bw_U hE hK hC hP hS) rfl hl.1 (Nat.le_of_ble_eq_true rfl) ⟨Nat.le_refl _, Nat.le_refl _⟩ dX2_sum_51 rfl) hS (fun r7 u8 H locs g9 hP hS => ?_)
        obtain ⟨rfl, rfl⟩ : r7 = bI (zS T n 45 za) ∧ u8 = (tkW I T n (zPS T n 45 za), A, K) := g9
        have hP : Wp cN E cK ((tkW I T n ((zPS T n 45 za))), A, K) H := hP
        refine lv_if_eq (tgt := 78) hx hb dX2_sum_54 (by decide) (fun h54 => ?_) (fun h54 => ?_)
        · have q2 : zS T n 45 za = false := bI_f h54
          rw [zPS_f q2] at hP
          have hP : Wp cN E cK ((tkW I T n za), A, K) H := hP
          refine lv_iload_n hx hb dX2_sum_78 rfl (lv_at hl 1 rfl) ?_
          have hfc := (zSl_e (F := (zTd T n (I 4 2) (I 4 3) 3)) (k := cnt) (a := a) q1 q2).symm.trans hv
          have hfc : (a, za) = zSu T n (I 4 2) (I 4 3) 3 z := hfc.trans zSu_e.symm
          exact re_wi (x := ((tkW I T n za), A, K)) (v := a) hx hb hr hlk hP hS ⟨congrArg Prod.fst hfc, by rw [← hfc]⟩ dX2_sum_79
        · have q2 : zS T n 45 za = true := bI_t h54
          rw [zPS_t q2] at hP
          have hP : Wp cN E cK ((tkW I T n (zA T n za)), A, K) H := hP
          refine lv_iload_n hx hb dX2_sum_57 rfl (lv_at hl 1 rfl) ?_
          refine lv_aload_n hx hb dX2_sum_58 rfl (lv_at hl 2 rfl) ?_
          refine lv_iload_n hx hb dX2_sum_59 rfl (lv_at hl 3 rfl) ?_
          refine cn_wi (ck_V (a := eP E 4) S lk_X2_46 (c_X2_term_3 l E I A K T n (zA T n za) hE hT (zOk_A hza)) ⟨rfl, rfl⟩ ⟨Nat.le_of_ble_eq_true rfl, Nat.le_of_ble_eq_true rfl⟩ bl_w (rc_w hK hP 4 (by decide) (cK_lo (by decide)) rfl) (bw_U hE hK hC hP hS) rfl hl.1 (Nat.le_of_ble_eq_true rfl) ⟨Nat.le_refl _, Nat.le_refl _⟩ dX2_sum_60 rfl) hS (fun r10 u11 H locs g12 hP hS => ?_)
          obtain ⟨rfl, rfl⟩ : r10 = (zTd T n (I 4 2) (I 4 3) 3 (zA T n za)).1 ∧ u11 = (tkW I T n (zTd T n (I 4 2) (I 4 3) 3 (zA T n za)).2, A, K) := g12
          have hP : Wp cN E cK ((tkW I T n ((zTd T n (I 4 2) (I 4 3) 3 (zA T n za)).2)), A, K) H := hP
          refine lv_isub hx hb dX2_sum_63 ?_
          refine lv_ldc (v := (-1000000)) hx hb S.2.2.2.1 (S.2.2.2.2 _ kc_X2_53) dX2_sum_64 ?_
          refine lv_ldc (v := 1000000) hx hb S.2.2.2.1 (S.2.2.2.2 _ kc_X2_54) dX2_sum_66 ?_
          refine cn_si (ck_N S ln_X6_limited hC.1.1.2.2.2.1 (c_X6_limited l (a - ((zTd T n (I 4 2) (I 4 3) 3 (zA T n za)).1)) (-1000000) 1000000) ⟨rfl, rfl⟩ ⟨Nat.le_of_ble_eq_true rfl, Nat.le_of_ble_eq_true rfl⟩ bl_T t_U rfl hl.1 (Nat.le_of_ble_eq_true rfl) ⟨Nat.le_refl _, Nat.le_refl _⟩ dX2_sum_68 rfl) (fun r13 g14 => ?_)
          obtain rfl : r13 = pLim (a - ((zTd T n (I 4 2) (I 4 3) 3 (zA T n za)).1)) (-1000000) 1000000 := g14
          refine lv_istore_n (lv' := [(2, .int (pLim (a - ((zTd T n (I 4 2) (I 4 3) 3 (zA T n za)).1)) (-1000000) 1000000)), (3, .int (nI i)), (0, .ref (eP E 4)), (1, .int 1)]) hx hb dX2_sum_71 rfl hl (by decide) rfl (fun ls hl => ?_)
          refine lv_iinc (v := nI (i + 1)) (lv' := [(3, .int (nI (i + 1))), (2, .int (pLim (a - ((zTd T n (I 4 2) (I 4 3) 3 (zA T n za)).1)) (-1000000) 1000000)), (0, .ref (eP E 4)), (1, .int 1)]) hx hb dX2_sum_72 hl (k := 1) rfl (nI_1 _) (by decide) rfl (fun ls hl => ?_)
          refine lv_goto (tgt := 8) hx hb dX2_sum_75 (by decide) ?_
          exact ih (i + 1) _ _ (by omega) (zOk_Td 3 _ (zOk_A hza)) ((zSl_d q1 q2).symm.trans hv) _ _ hP hS ls (lv_sub hl [0, 1, 2, 3] rfl)
      · have q1 : zS T n 43 za = true := bI_t h24
        rw [zPS_t q1] at hP
        have hP : Wp cN E cK ((tkW I T n (zA T n za)), A, K) H := hP
        refine lv_iload_n hx hb dX2_sum_27 rfl (lv_at hl 1 rfl) ?_
        refine lv_aload_n hx hb dX2_sum_28 rfl (lv_at hl 2 rfl) ?_
        refine lv_iload_n hx hb dX2_sum_29 rfl (lv_at hl 3 rfl) ?_
        refine cn_wi (ck_V (a := eP E 4) S lk_X2_46 (c_X2_term_3 l E I A K T n (zA T n za) hE hT (zOk_A hza)) ⟨rfl, rfl⟩ ⟨Nat.le_of_ble_eq_true rfl, Nat.le_of_ble_eq_true rfl⟩ bl_w (rc_w hK hP 4 (by decide) (cK_lo (by decide)) rfl) (bw_U hE hK hC hP hS) rfl hl.1 (Nat.le_of_ble_eq_true rfl) ⟨Nat.le_refl _, Nat.le_refl _⟩ dX2_sum_30 rfl) hS (fun r15 u16 H locs g17 hP hS => ?_)
        obtain ⟨rfl, rfl⟩ : r15 = (zTd T n (I 4 2) (I 4 3) 3 (zA T n za)).1 ∧ u16 = (tkW I T n (zTd T n (I 4 2) (I 4 3) 3 (zA T n za)).2, A, K) := g17
        have hP : Wp cN E cK ((tkW I T n ((zTd T n (I 4 2) (I 4 3) 3 (zA T n za)).2)), A, K) H := hP
        refine lv_iadd hx hb dX2_sum_33 ?_
        refine lv_ldc (v := (-1000000)) hx hb S.2.2.2.1 (S.2.2.2.2 _ kc_X2_53) dX2_sum_34 ?_
        refine lv_ldc (v := 1000000) hx hb S.2.2.2.1 (S.2.2.2.2 _ kc_X2_54) dX2_sum_36 ?_
        refine cn_si (ck_N S ln_X6_limited hC.1.1.2.2.2.1 (c_X6_limited l (a + ((zTd T n (I 4 2) (I 4 3) 3 (zA T n za)).1)) (-1000000) 1000000) ⟨rfl, rfl⟩ ⟨Nat.le_of_ble_eq_true rfl, Nat.le_of_ble_eq_true rfl⟩ bl_T t_U rfl hl.1 (Nat.le_of_ble_eq_true rfl) ⟨Nat.le_refl _, Nat.le_refl _⟩ dX2_sum_38 rfl) (fun r18 g19 => ?_)
        obtain rfl : r18 = pLim (a + ((zTd T n (I 4 2) (I 4 3) 3 (zA T n za)).1)) (-1000000) 1000000 := g19
        refine lv_istore_n (lv' := [(2, .int (pLim (a + ((zTd T n (I 4 2) (I 4 3) 3 (zA T n za)).1)) (-1000000) 1000000)), (3, .int (nI i)), (0, .ref (eP E 4)), (1, .int 1)]) hx hb dX2_sum_41 rfl hl (by decide) rfl (fun ls hl => ?_)
        refine lv_goto (tgt := 72) hx hb dX2_sum_42 (by decide) ?_
        refine lv_iinc (v := nI (i + 1)) (lv' := [(3, .int (nI (i + 1))), (2, .int (pLim (a + ((zTd T n (I 4 2) (I 4 3) 3 (zA T n za)).1)) (-1000000) 1000000)), (0, .ref (eP E 4)), (1, .int 1)]) hx hb dX2_sum_72 hl (k := 1) rfl (nI_1 _) (by decide) rfl (fun ls hl => ?_)
        refine lv_goto (tgt := 8) hx hb dX2_sum_75 (by decide) ?_
        exact ih (i + 1) _ _ (by omega) (zOk_Td 3 _ (zOk_A hza)) ((zSl_m q1).symm.trans hv) _ _ hP hS ls (lv_sub hl [0, 1, 2, 3] rfl)
  exact HL 700 0 ((zTd T n (I 4 2) (I 4 3) 3) z).1 ((zTd T n (I 4 2) (I 4 3) 3) z).2 (by omega) (zOk_Td 3 _ hz) (congrArg (zSl T n (zTd T n (I 4 2) (I 4 3) 3) 700) (rfl : (((zTd T n (I 4 2) (I 4 3) 3) z).1, ((zTd T n (I 4 2) (I 4 3) 3) z).2) = (zTd T n (I 4 2) (I 4 3) 3) z)) _ _ hP hS ls (lv_sub hl [0, 1, 2, 3] rfl)

set_option maxHeartbeats 1000000 in
set_option maxRecDepth 100000 in
theorem c_X2_factor_4 (l : Launch) (E : En) (I A : Nat → Nat → Int32) (K : Nat → Nat → Int64) (T : Nat → Int32) (n : Nat) (z : Tz) (hE : Ev cN E) (hT : A 1 = T) (hz : zOk n z) : Met l yX2_factor (wz yX2_factor cX2_factor 3 (some .int)) (rmk 18 0 0 409) (va_Pc [.ref (eP E 4), .int 0] (Bw cN E cK (tkW I T n z, A, K))) (qWi cN E cK (fun zz uu => zz = (zFd T n (I 4 2) (I 4 3) 4 z).1 ∧ uu = (tkW I T n (zFd T n (I 4 2) (I 4 3) 4 z).2, A, K))) 0 0 (cA cN E) := by
  refine en_ofW RX2 rfl (by decide +kernel) (Nat.le_of_ble_eq_true rfl) ?_
  intro p e s m below meth c ls S hr hlk hnm hl hB
  have hx := S.1
  have hb := S.2.1
  obtain ⟨hK, hC, hP⟩ := hB
  have hS : va_S (cA cN E) s.heap s.heap [] := va_S.rf
  have hl : lv_has ls 3 [(0, .ref (eP E 4)), (1, .int 0)] := hl
  obtain ⟨hz1, hz2⟩ := id hz
  refine lv_aload_n hx hb dX2_factor_0 rfl (lv_at hl 0 rfl) ?_
  refine rw_getr (x := ((tkW I T n z), A, K)) S hK hP 4 (by decide) (cK_lo (by decide)) fk_X2_21 rfl dX2_factor_1 ?_
  refine cn_si (ck_V (a := eP E 3) S lk_X2_65 (c_X5_isNumber l E I A K T n z hE hT hz) ⟨rfl, rfl⟩ ⟨Nat.le_of_ble_eq_true rfl, Nat.le_of_ble_eq_true rfl⟩ bl_w (rc_w hK hP 3 (by decide) (cK_lo (by decide)) rfl) (bw_U hE hK hC hP hS) rfl hl.1 (Nat.le_of_ble_eq_true rfl) ⟨Nat.le_refl _, Nat.le_refl _⟩ dX2_factor_4 rfl) (fun r1 g2 => ?_)
  obtain rfl : r1 = bI (zN T n z) := g2
  refine lv_if_eq (tgt := 22) hx hb dX2_factor_7 (by decide) (fun h7 => ?_) (fun h7 => ?_)
  · have q1 : zN T n z = false := bI_f h7
    refine lv_aload_n hx hb dX2_factor_22 rfl (lv_at hl 0 rfl) ?_
    refine rw_getr (x := ((tkW I T n z), A, K)) S hK hP 4 (by decide) (cK_lo (by decide)) fk_X2_21 rfl dX2_factor_23 ?_
    refine va_ldcS (q := eS E 7) (tx := "size") hx hb S.2.2.2.1 (tr_7 hC.1.2.1) dX2_factor_26 ?_
    refine cn_wi (ck_V (a := eP E 3) S lk_X2_73 (c_X5_passWord l E I A K T n z 7 hE hT hz (by decide)) ⟨rfl, rfl⟩ ⟨Nat.le_of_ble_eq_true rfl, Nat.le_of_ble_eq_true rfl⟩ bl_w (rc_w hK hP 3 (by decide) (cK_lo (by decide)) rfl) (bw_U hE hK hC hP hS) rfl hl.1 (Nat.le_of_ble_eq_true rfl) ⟨Nat.le_refl _, Nat.le_refl _⟩ dX2_factor_28 rfl) hS (fun r3 u4 H locs g5 hP hS => ?_)
    obtain ⟨rfl, rfl⟩ : r3 = bI (zW T n (tw 7) z) ∧ u4 = (tkW I T n (zPW T n (tw 7) z), A, K) := g5
    have hP : Wp cN E cK ((tkW I T n ((zPW T n (tw 7) z))), A, K) H := hP
    refine lv_if_eq (tgt := 39) hx hb dX2_factor_31 (by decide) (fun h31 => ?_) (fun h31 => ?_)
    · have q2 : zW T n (tw 7) z = false := bI_f h31
      rw [zPW_f q2] at hP
      have hP : Wp cN E cK ((tkW I T n z), A, K) H := hP
      refine lv_aload_n hx hb dX2_factor_39 rfl (lv_at hl 0 rfl) ?_
      refine rw_getr (x := ((tkW I T n z), A, K)) S hK hP 4 (by decide) (cK_lo (by decide)) fk_X2_21 rfl dX2_factor_40 ?_
      refine va_ldcS (q := eS E 8) (tx := "scheme") hx hb S.2.2.2.1 (tr_8 hC.1.2.1) dX2_factor_43 ?_
      refine cn_wi (ck_V (a := eP E 3) S lk_X2_73 (c_X5_passWord l E I A K T n z 8 hE hT hz (by decide)) ⟨rfl, rfl⟩ ⟨Nat.le_of_ble_eq_true rfl, Nat.le_of_ble_eq_true rfl⟩ bl_w (rc_w hK hP 3 (by decide) (cK_lo (by decide)) rfl) (bw_U hE hK hC hP hS) rfl hl.1 (Nat.le_of_ble_eq_true rfl) ⟨Nat.le_refl _, Nat.le_refl _⟩ dX2_factor_45 rfl) hS (fun r6 u7 H locs g8 hP hS => ?_)
      obtain ⟨rfl, rfl⟩ : r6 = bI (zW T n (tw 8) z) ∧ u7 = (tkW I T n (zPW T n (tw 8) z), A, K) := g8
      have hP : Wp cN E cK ((tkW I T n ((zPW T n (tw 8) z))), A, K) H := hP
      refine lv_if_eq (tgt := 56) hx hb dX2_factor_48 (by decide) (fun h48 => ?_) (fun h48 => ?_)
      · have q3 : zW T n (tw 8) z = false := bI_f h48
        rw [zPW_f q3] at hP
        have hP : Wp cN E cK ((tkW I T n z), A, K) H := hP
        refine lv_aload_n hx hb dX2_factor_56 rfl (lv_at hl 0 rfl) ?_
        refine rw_getr (x := ((tkW I T n z), A, K)) S hK hP 4 (by decide) (cK_lo (by decide)) fk_X2_21 rfl dX2_factor_57 ?_
        refine lv_bipush (v := 40) hx hb dX2_factor_60 (by decide) ?_
        refine cn_si (ck_V (a := eP E 3) S lk_X2_78 (c_X5_isSign l E I A K T n z 40 hE hT hz) ⟨rfl, rfl⟩ ⟨Nat.le_of_ble_eq_true rfl, Nat.le_of_ble_eq_true rfl⟩ bl_w (rc_w hK hP 3 (by decide) (cK_lo (by decide)) rfl) (bw_U hE hK hC hP hS) rfl hl.1 (Nat.le_of_ble_eq_true rfl) ⟨Nat.le_refl _, Nat.le_refl _⟩ dX2_factor_62 rfl) (fun r9 g10 => ?_)
        obtain rfl : r9 = bI (zS T n 40 z) := g10
        refine lv_if_ne (tgt := 79) hx hb dX2_factor_65 (by decide) (fun h65 => ?_) (fun h65 => ?_)
        · have q4 : zS T n 40 z = true := bI_t h65
          refine lv_iload_n hx hb dX2_factor_79 rfl (lv_at hl 1 rfl) ?_
          refine lv_iconst (v := 4) hx hb dX2_factor_80 (by decide) ?_
          refine lv_icmp_lt (tgt := 95) hx hb dX2_factor_81 (by decide) (fun h81 => ?_) (fun h81 => absurd (by decide) h81)
          refine lv_aload_n hx hb dX2_factor_95 rfl (lv_at hl 0 rfl) ?_
          refine rw_getr (x := ((tkW I T n z), A, K)) S hK hP 4 (by decide) (cK_lo (by decide)) fk_X2_21 rfl dX2_factor_96 ?_
          refine cn_wv (ck_V (a := eP E 3) S lk_X2_31 (c_X5_adv l E I A K T n z hE hT hz) ⟨rfl, rfl⟩ ⟨Nat.le_of_ble_eq_true rfl, Nat.le_of_ble_eq_true rfl⟩ bl_w (rc_w hK hP 3 (by decide) (cK_lo (by decide)) rfl) (bw_U hE hK hC hP hS) rfl hl.1 (Nat.le_of_ble_eq_true rfl) ⟨Nat.le_refl _, Nat.le_refl _⟩ dX2_factor_99 rfl) hS (fun u12 H locs g13 hP hS => ?_)
          obtain rfl : u12 = (tkW I T n (zA T n z), A, K) := g13
          have hP : Wp cN E cK ((tkW I T n ((zA T n z))), A, K) H := hP
          refine lv_aload_n hx hb dX2_factor_102 rfl (lv_at hl 0 rfl) ?_
          refine lv_iload_n hx hb dX2_factor_103 rfl (lv_at hl 1 rfl) ?_
          refine lv_iconst (v := 1) hx hb dX2_factor_104 (by decide) ?_
          refine lv_iadd hx hb dX2_factor_105 ?_
          refine tp_i (y := 1) rfl ?_
          refine cn_wi (ck_V (a := eP E 4) S lk_X2_34 (c_X2_sum_3 l E I A K T n ((zA T n z)) hE hT (zOk_A hz)) ⟨rfl, rfl⟩ ⟨Nat.le_of_ble_eq_true rfl, Nat.le_of_ble_eq_true rfl⟩ bl_w (rc_w hK hP 4 (by decide) (cK_lo (by decide)) rfl) (bw_U hE hK hC hP hS) rfl hl.1 (Nat.le_of_ble_eq_true rfl) ⟨Nat.le_refl _, Nat.le_refl _⟩ dX2_factor_106 rfl) hS (fun r14 u15 H locs g16 hP hS => ?_)
          obtain ⟨rfl, rfl⟩ : r14 = (zSu T n (I 4 2) (I 4 3) 3 ((zA T n z))).1 ∧ u15 = (tkW I T n (zSu T n (I 4 2) (I 4 3) 3 ((zA T n z))).2, A, K) := g16
          have hP : Wp cN E cK ((tkW I T n ((zSu T n (I 4 2) (I 4 3) 3 ((zA T n z))).2)), A, K) H := hP
          refine lv_istore_n (lv' := [(2, .int ((zSu T n (I 4 2) (I 4 3) 3 ((zA T n z))).1)), (0, .ref (eP E 4)), (1, .int 0)]) hx hb dX2_factor_109 rfl hl (by decide) rfl (fun ls hl => ?_)
          refine lv_aload_n hx hb dX2_factor_110 rfl (lv_at hl 1 rfl) ?_
          refine rw_getr (x := ((tkW I T n ((zSu T n (I 4 2) (I 4 3) 3 ((zA T n z))).2)), A, K)) S hK hP 4 (by decide) (cK_lo (by decide)) fk_X2_21 rfl dX2_factor_111 ?_
          refine lv_bipush (v := 41) hx hb dX2_factor_114 (by decide) ?_
          refine cn_wv (ck_V (a := eP E 3) S lk_X2_84 (c_X5_needSign l E I A K T n ((zSu T n (I 4 2) (I 4 3) 3 ((zA T n z))).2) 41 hE hT (zOk_Su 3 _ (zOk_A hz))) ⟨rfl, rfl⟩ ⟨Nat.le_of_ble_eq_true rfl, Nat.le_of_ble_eq_true rfl⟩ bl_w (rc_w hK hP 3 (by decide) (cK_lo (by decide)) rfl) (bw_U hE hK hC hP hS) rfl hl.1 (Nat.le_of_ble_eq_true rfl) ⟨Nat.le_refl _, Nat.le_refl _⟩ dX2_factor_116 rfl) hS (fun u18 H locs g19 hP hS => ?_)
          obtain rfl : u18 = (tkW I T n (zNS T n 41 ((zSu T n (I 4 2) (I 4 3) 3 ((zA T n z))).2)), A, K) := g19
          have hP : Wp cN E cK ((tkW I T n ((zNS T n 41 ((zSu T n (I 4 2) (I 4 3) 3 ((zA T n z))).2)))), A, K) H := hP
          refine lv_iload_n hx hb dX2_factor_119 rfl (lv_at hl 0 rfl) ?_
          have hfc := (show zFd T n (I 4 2) (I 4 3) 4 z = ((zSu T n (I 4 2) (I 4 3) 3 (zA T n z)).1, zNS T n 41 (zSu T n (I 4 2) (I 4 3) 3 (zA T n z)).2) from (zFd_s (D := 3)).trans (zFc_6 q1 q2 q3 q4))
          exact re_wi (x := ((tkW I T n ((zNS T n 41 ((zSu T n (I 4 2) (I 4 3) 3 ((zA T n z))).2)))), A, K)) (v := ((zSu T n (I 4 2) (I 4 3) 3 ((zA T n z))).1)) hx hb hr hlk hP hS ⟨(congrArg Prod.fst hfc).symm, by rw [hfc]⟩ dX2_factor_120
        · have q4 : zS T n 40 z = false := bI_f h65
          refine lv_aload_n hx hb dX2_factor_68 rfl (lv_at hl 0 rfl) ?_
          refine rw_getr (x := ((tkW I T n z), A, K)) S hK hP 4 (by decide) (cK_lo (by decide)) fk_X2_21 rfl dX2_factor_69 ?_
          refine lv_bipush (v := (-2)) hx hb dX2_factor_72 (by decide) ?_
          refine cn_wv (ck_V (a := eP E 3) S lk_X2_81 (c_X5_fail l E I A K T n z (-2) hE hT hz (by decide)) ⟨rfl, rfl⟩ ⟨Nat.le_of_ble_eq_true rfl, Nat.le_of_ble_eq_true rfl⟩ bl_w (rc_w hK hP 3 (by decide) (cK_lo (by decide)) rfl) (bw_U hE hK hC hP hS) rfl hl.1 (Nat.le_of_ble_eq_true rfl) ⟨Nat.le_refl _, Nat.le_refl _⟩ dX2_factor_74 rfl) hS (fun u21 H locs g22 hP hS => ?_)
          obtain rfl : u21 = (tkW I T n (zF (-2) z), A, K) := g22
          have hP : Wp cN E cK ((tkW I T n ((zF (-2) z))), A, K) H := hP
          refine lv_iconst (v := 0) hx hb dX2_factor_77 (by decide) ?_
          have hfc := (show zFd T n (I 4 2) (I 4 3) 4 z = (0, zF (-2) z) from (zFd_s (D := 3)).trans (zFc_4 q1 q2 q3 q4))
          exact re_wi (x := ((tkW I T n ((zF (-2) z))), A, K)) (v := 0) hx hb hr hlk hP hS ⟨(congrArg Prod.fst hfc).symm, by rw [hfc]⟩ dX2_factor_78
      · have q3 : zW T n (tw 8) z = true := bI_t h48
        rw [zPW_t q3] at hP
        have hP : Wp cN E cK ((tkW I T n (zA T n z)), A, K) H := hP
        refine lv_aload_n hx hb dX2_factor_51 rfl (lv_at hl 0 rfl) ?_
        refine rw_geti (x := ((tkW I T n (zA T n z)), A, K)) (v := I 4 3) S hK hP 4 (by decide) (cK_lo (by decide)) fk_X2_18 rfl (tkW_ne (I := I) (T := T) (n := n) (z := (zA T n z)) (a := 4) (b := 3) (by decide)) dX2_factor_52 ?_
        have hfc := (show zFd T n (I 4 2) (I 4 3) 4 z = (I 4 3, zA T n z) from (zFd_s (D := 3)).trans (zFc_3 q1 q2 q3))
        exact re_wi (x := ((tkW I T n (zA T n z)), A, K)) (v := I 4 3) hx hb hr hlk hP hS ⟨(congrArg Prod.fst hfc).symm, by rw [hfc]⟩ dX2_factor_55
    · have q2 : zW T n (tw 7) z = true := bI_t h31
      rw [zPW_t q2] at hP
      have hP : Wp cN E cK ((tkW I T n (zA T n z)), A, K) H := hP
      refine lv_aload_n hx hb dX2_factor_34 rfl (lv_at hl 0 rfl) ?_
      refine rw_geti (x := ((tkW I T n (zA T n z)), A, K)) (v := I 4 2) S hK hP 4 (by decide) (cK_lo (by decide)) fk_X2_15 rfl (tkW_ne (I := I) (T := T) (n := n) (z := (zA T n z)) (a := 4) (b := 2) (by decide)) dX2_factor_35 ?_
      have hfc := (show zFd T n (I 4 2) (I 4 3) 4 z = (I 4 2, zA T n z) from (zFd_s (D := 3)).trans (zFc_2 q1 q2))
      exact re_wi (x := ((tkW I T n (zA T n z)), A, K)) (v := I 4 2) hx hb hr hlk hP hS ⟨(congrArg Prod.fst hfc).symm, by rw [hfc]⟩ dX2_factor_38
  · have q1 : zN T n z = true := bI_t h7
    refine lv_aload_n hx hb dX2_factor_10 rfl (lv_at hl 0 rfl) ?_
    refine rw_getr (x := ((tkW I T n z), A, K)) S hK hP 4 (by decide) (cK_lo (by decide)) fk_X2_21 rfl dX2_factor_11 ?_
    refine lv_iconst (v := 0) hx hb dX2_factor_14 (by decide) ?_
    refine lv_sipush (v := 9999) hx hb dX2_factor_15 (by decide) ?_
    refine cn_wi (ck_V (a := eP E 3) S lk_X2_69 (c_X5_needNumber l E I A K T n z 0 9999 hE hT hz) ⟨rfl, rfl⟩ ⟨Nat.le_of_ble_eq_true rfl, Nat.le_of_ble_eq_true rfl⟩ bl_w (rc_w hK hP 3 (by decide) (cK_lo (by decide)) rfl) (bw_U hE hK hC hP hS) rfl hl.1 (Nat.le_of_ble_eq_true rfl) ⟨Nat.le_refl _, Nat.le_refl _⟩ dX2_factor_18 rfl) hS (fun r23 u24 H locs g25 hP hS => ?_)
    obtain ⟨rfl, rfl⟩ : r23 = zNv T n 0 9999 z ∧ u24 = (tkW I T n (zNz T n 0 9999 z), A, K) := g25
    have hP : Wp cN E cK ((tkW I T n ((zNz T n 0 9999 z))), A, K) H := hP
    have hfc := (show zFd T n (I 4 2) (I 4 3) 4 z = (zNv T n 0 9999 z, zNz T n 0 9999 z) from (zFd_s (D := 3)).trans (zFc_1 q1))
    exact re_wi (x := ((tkW I T n ((zNz T n 0 9999 z))), A, K)) (v := (zNv T n 0 9999 z)) hx hb hr hlk hP hS ⟨(congrArg Prod.fst hfc).symm, by rw [hfc]⟩ dX2_factor_21

set_option maxHeartbeats 1000000 in
set_option maxRecDepth 100000 in
theorem c_X2_term_4 (l : Launch) (E : En) (I A : Nat → Nat → Int32) (K : Nat → Nat → Int64) (T : Nat → Int32) (n : Nat) (z : Tz) (hE : Ev cN E) (hT : A 1 = T) (hz : zOk n z) : Met l yX2_term (wz yX2_term cX2_term 4 (some .int)) (rmk 19 0 0 431) (va_Pc [.ref (eP E 4), .int 0] (Bw cN E cK (tkW I T n z, A, K))) (qWi cN E cK (fun zz uu => zz = (zTd T n (I 4 2) (I 4 3) 4 z).1 ∧ uu = (tkW I T n (zTd T n (I 4 2) (I 4 3) 4 z).2, A, K))) 0 0 (cA cN E) := by
  refine en_ofW RX2 rfl (by decide +kernel) (Nat.le_of_ble_eq_true rfl) ?_
  intro p e s m below meth c ls S hr hlk hnm hl hB
  have hx := S.1
  have hb := S.2.1
  obtain ⟨hK, hC, hP⟩ := hB
  have hS : va_S (cA cN E) s.heap s.heap [] := va_S.rf
  have hl : lv_has ls 4 [(0, .ref (eP E 4)), (1, .int 0)] := hl
  obtain ⟨hz1, hz2⟩ := id hz
  refine lv_aload_n hx hb dX2_term_0 rfl (lv_at hl 0 rfl) ?_
  refine lv_iload_n hx hb dX2_term_1 rfl (lv_at hl 1 rfl) ?_
  refine cn_wi (ck_V (a := eP E 4) S lk_X2_55 (c_X2_factor_4 l E I A K T n z hE hT hz) ⟨rfl, rfl⟩ ⟨Nat.le_of_ble_eq_true rfl, Nat.le_of_ble_eq_true rfl⟩ bl_w (rc_w hK hP 4 (by decide) (cK_lo (by decide)) rfl) (bw_U hE hK hC hP hS) rfl hl.1 (Nat.le_of_ble_eq_true rfl) ⟨Nat.le_refl _, Nat.le_refl _⟩ dX2_term_2 rfl) hS (fun r1 u2 H locs g3 hP hS => ?_)
  obtain ⟨rfl, rfl⟩ : r1 = (zFd T n (I 4 2) (I 4 3) 4 z).1 ∧ u2 = (tkW I T n (zFd T n (I 4 2) (I 4 3) 4 z).2, A, K) := g3
  have hP : Wp cN E cK ((tkW I T n ((zFd T n (I 4 2) (I 4 3) 4 z).2)), A, K) H := hP
  refine lv_istore_n (lv' := [(2, .int ((zFd T n (I 4 2) (I 4 3) 4 z).1)), (0, .ref (eP E 4)), (1, .int 0)]) hx hb dX2_term_5 rfl hl (by decide) rfl (fun ls hl => ?_)
  refine lv_iconst (v := 0) hx hb dX2_term_6 (by decide) ?_
  refine lv_istore_n (lv' := [(3, .int 0), (2, .int ((zFd T n (I 4 2) (I 4 3) 4 z).1)), (0, .ref (eP E 4)), (1, .int 0)]) hx hb dX2_term_7 rfl hl (by decide) rfl (fun ls hl => ?_)
  have HL : ∀ (cnt i : Nat) (a : Int32) (za : Tz), i + cnt = 700 → zOk n za → zTl T n (zFd T n (I 4 2) (I 4 3) 4) cnt (a, za) = zTl T n (zFd T n (I 4 2) (I 4 3) 4) 700 ((zFd T n (I 4 2) (I 4 3) 4) z) → ∀ (H : Heap) (locs : List Loc), Wp cN E cK ((tkW I T n za), A, K) H → va_S (cA cN E) s.heap H locs → ∀ ls : Array Slot, lv_has ls 4 [(3, .int (nI i)), (2, .int a), (0, .ref (eP E 4)), (1, .int 0)] → W p l e (rmk 19 0 0 431) s m ([.ref (eP E 4), .int 0] : List Value).toArray below meth c H locs 0 0 (MQ below (qWi cN E cK (fun zz uu => zz = (zTd T n (I 4 2) (I 4 3) 4 z).1 ∧ uu = (tkW I T n (zTd T n (I 4 2) (I 4 3) 4 z).2, A, K))) ([.ref (eP E 4), .int 0] : List Value).toArray s 0 0 (cA cN E)) (F0 m 8 ls []) := by
    intro cnt
    induction cnt with
    | zero =>
      intro i a za hi hza hv H locs hP hS ls hl
      have hiN : i = 700 := by omega
      rw [hiN] at hl
      try rw [hiN] at hP
      refine lv_iload_n hx hb dX2_term_8 rfl (lv_at hl 0 rfl) ?_
      refine lv_sipush (v := 700) hx hb dX2_term_9 (by decide) ?_
      refine lv_icmp_ge (tgt := 68) hx hb dX2_term_12 (by decide) (fun h12 => ?_) (fun h12 => absurd (Int32.le_refl _) h12)
      refine lv_iload_n hx hb dX2_term_68 rfl (lv_at hl 1 rfl) ?_
      have hfc : (a, za) = zTl T n (zFd T n (I 4 2) (I 4 3) 4) 700 ((zFd T n (I 4 2) (I 4 3) 4) z) := hv
      have hfc : (a, za) = zTd T n (I 4 2) (I 4 3) 4 z := hfc.trans zTd_e.symm
      exact re_wi (x := ((tkW I T n za), A, K)) (v := a) hx hb hr hlk hP hS ⟨congrArg Prod.fst hfc, by rw [← hfc]⟩ dX2_term_69
    | succ cnt ih =>
      intro i a za hi hza hv H locs hP hS ls hl
      have hlt : i < 700 := by omega
      refine lv_iload_n hx hb dX2_term_8 rfl (lv_at hl 0 rfl) ?_
      refine lv_sipush (v := 700) hx hb dX2_term_9 (by decide) ?_
      refine lv_icmp_ge (tgt := 68) hx hb dX2_term_12 (by decide) (fun h12 => absurd h12 (nI_ge (b := 700) hlt (by decide))) (fun h12 => ?_)
      refine lv_aload_n hx hb dX2_term_15 rfl (lv_at hl 2 rfl) ?_
      refine rw_getr (x := ((tkW I T n za), A, K)) S hK hP 4 (by decide) (cK_lo (by decide)) fk_X2_21 rfl dX2_term_16 ?_
      refine lv_bipush (v := 42) hx hb dX2_term_19 (by decide) ?_
      refine cn_wi (ck_V (a := eP E 3) S lk_X2_49 (c_X5_passSign l E I A K T n za 42 hE hT hza) ⟨rfl, rfl⟩ ⟨Nat.le_of_ble_eq_true rfl, Nat.le_of_ble_eq_true rfl⟩ bl_w (rc_w hK hP 3 (by decide) (cK_lo (by decide)) rfl) (bw_U hE hK hC hP hS) rfl hl.1 (Nat.le_of_ble_eq_true rfl) ⟨Nat.le_refl _, Nat.le_refl _⟩ dX2_term_21 rfl) hS (fun r4 u5 H locs g6 hP hS => ?_)
      obtain ⟨rfl, rfl⟩ : r4 = bI (zS T n 42 za) ∧ u5 = (tkW I T n (zPS T n 42 za), A, K) := g6
      have hP : Wp cN E cK ((tkW I T n ((zPS T n 42 za))), A, K) H := hP
      refine lv_if_eq (tgt := 40) hx hb dX2_term_24 (by decide) (fun h24 => ?_) (fun h24 => ?_)
      · have q1 : zS T n 42 za = false := bI_f h24
        rw [zPS_f q1] at hP
        have hP : Wp cN E cK ((tkW I T n za), A, K) H := hP
        refine lv_aload_n hx hb dX2_term_40 rfl (lv_at hl 2 rfl) ?_
        refine rw_getr (x := ((tkW I T n za), A, K)) S hK hP 4 (by decide) (cK_lo (by decide)) fk_X2_21 rfl dX2_term_41 ?_
        refine lv_bipush (v := 47) hx hb dX2_term_44 (by decide) ?_
        refine cn_wi (ck_V (a := eP E 3) S lk_X2_49 (c_X5_passSign l E I A K T n za 47 hE hT hza) ⟨rfl, rfl⟩ ⟨Nat.le_of_ble_eq_true rfl, Nat.le_of_ble_eq_true rfl⟩ bl_w (rc_w hK hP 3 (by decide) (cK_lo (by decide)) rfl) (bw_U hE hK hC hP hS) rfl hl.1 (Nat.le_of_ble_eq_true rfl) ⟨Nat.le_refl _, Nat.le_refl _⟩ dX2_term_46 rfl) hS (fun r7 u8 H locs g9 hP hS => ?_)
        obtain ⟨rfl, rfl⟩ : r7 = bI (zS T n 47 za) ∧ u8 = (tkW I T n (zPS T n 47 za), A, K) := g9
        have hP : Wp cN E cK ((tkW I T n ((zPS T n 47 za))), A, K) H := hP
        refine lv_if_eq (tgt := 68) hx hb dX2_term_49 (by decide) (fun h49 => ?_) (fun h49 => ?_)
        · have q2 : zS T n 47 za = false := bI_f h49
          rw [zPS_f q2] at hP
          have hP : Wp cN E cK ((tkW I T n za), A, K) H := hP
          refine lv_iload_n hx hb dX2_term_68 rfl (lv_at hl 1 rfl) ?_
          have hfc := (zTl_e (F := (zFd T n (I 4 2) (I 4 3) 4)) (k := cnt) (a := a) q1 q2).symm.trans hv
          have hfc : (a, za) = zTd T n (I 4 2) (I 4 3) 4 z := hfc.trans zTd_e.symm
          exact re_wi (x := ((tkW I T n za), A, K)) (v := a) hx hb hr hlk hP hS ⟨congrArg Prod.fst hfc, by rw [← hfc]⟩ dX2_term_69
        · have q2 : zS T n 47 za = true := bI_t h49
          rw [zPS_t q2] at hP
          have hP : Wp cN E cK ((tkW I T n (zA T n za)), A, K) H := hP
          refine lv_iload_n hx hb dX2_term_52 rfl (lv_at hl 1 rfl) ?_
          refine lv_aload_n hx hb dX2_term_53 rfl (lv_at hl 2 rfl) ?_
          refine lv_iload_n hx hb dX2_term_54 rfl (lv_at hl 3 rfl) ?_
          refine cn_wi (ck_V (a := eP E 4) S lk_X2_55 (c_X2_factor_4 l E I A K T n (zA T n za) hE hT (zOk_A hza)) ⟨rfl, rfl⟩ ⟨Nat.le_of_ble_eq_true rfl, Nat.le_of_ble_eq_true rfl⟩ bl_w (rc_w hK hP 4 (by decide) (cK_lo (by decide)) rfl) (bw_U hE hK hC hP hS) rfl hl.1 (Nat.le_of_ble_eq_true rfl) ⟨Nat.le_refl _, Nat.le_refl _⟩ dX2_term_55 rfl) hS (fun r10 u11 H locs g12 hP hS => ?_)
          obtain ⟨rfl, rfl⟩ : r10 = (zFd T n (I 4 2) (I 4 3) 4 (zA T n za)).1 ∧ u11 = (tkW I T n (zFd T n (I 4 2) (I 4 3) 4 (zA T n za)).2, A, K) := g12
          have hP : Wp cN E cK ((tkW I T n ((zFd T n (I 4 2) (I 4 3) 4 (zA T n za)).2)), A, K) H := hP
          refine cn_si (ck_S S lk_X2_62 (c_X2_quotient l a ((zFd T n (I 4 2) (I 4 3) 4 (zA T n za)).1)) ⟨rfl, rfl⟩ ⟨Nat.le_of_ble_eq_true rfl, Nat.le_of_ble_eq_true rfl⟩ bl_T t_U rfl hl.1 (Nat.le_of_ble_eq_true rfl) ⟨Nat.le_refl _, Nat.le_refl _⟩ dX2_term_58 rfl) (fun r13 g14 => ?_)
          obtain rfl : r13 = cQuo a ((zFd T n (I 4 2) (I 4 3) 4 (zA T n za)).1) := g14
          refine lv_istore_n (lv' := [(2, .int (cQuo a ((zFd T n (I 4 2) (I 4 3) 4 (zA T n za)).1))), (3, .int (nI i)), (0, .ref (eP E 4)), (1, .int 0)]) hx hb dX2_term_61 rfl hl (by decide) rfl (fun ls hl => ?_)
          refine lv_iinc (v := nI (i + 1)) (lv' := [(3, .int (nI (i + 1))), (2, .int (cQuo a ((zFd T n (I 4 2) (I 4 3) 4 (zA T n za)).1))), (0, .ref (eP E 4)), (1, .int 0)]) hx hb dX2_term_62 hl (k := 1) rfl (nI_1 _) (by decide) rfl (fun ls hl => ?_)
          refine lv_goto (tgt := 8) hx hb dX2_term_65 (by decide) ?_
          exact ih (i + 1) _ _ (by omega) (zOk_Fd 4 _ (zOk_A hza)) ((zTl_d q1 q2).symm.trans hv) _ _ hP hS ls (lv_sub hl [0, 1, 2, 3] rfl)
      · have q1 : zS T n 42 za = true := bI_t h24
        rw [zPS_t q1] at hP
        have hP : Wp cN E cK ((tkW I T n (zA T n za)), A, K) H := hP
        refine lv_iload_n hx hb dX2_term_27 rfl (lv_at hl 1 rfl) ?_
        refine lv_aload_n hx hb dX2_term_28 rfl (lv_at hl 2 rfl) ?_
        refine lv_iload_n hx hb dX2_term_29 rfl (lv_at hl 3 rfl) ?_
        refine cn_wi (ck_V (a := eP E 4) S lk_X2_55 (c_X2_factor_4 l E I A K T n (zA T n za) hE hT (zOk_A hza)) ⟨rfl, rfl⟩ ⟨Nat.le_of_ble_eq_true rfl, Nat.le_of_ble_eq_true rfl⟩ bl_w (rc_w hK hP 4 (by decide) (cK_lo (by decide)) rfl) (bw_U hE hK hC hP hS) rfl hl.1 (Nat.le_of_ble_eq_true rfl) ⟨Nat.le_refl _, Nat.le_refl _⟩ dX2_term_30 rfl) hS (fun r15 u16 H locs g17 hP hS => ?_)
        obtain ⟨rfl, rfl⟩ : r15 = (zFd T n (I 4 2) (I 4 3) 4 (zA T n za)).1 ∧ u16 = (tkW I T n (zFd T n (I 4 2) (I 4 3) 4 (zA T n za)).2, A, K) := g17
        have hP : Wp cN E cK ((tkW I T n ((zFd T n (I 4 2) (I 4 3) 4 (zA T n za)).2)), A, K) H := hP
        refine cn_si (ck_S S lk_X2_58 (c_X2_product l a ((zFd T n (I 4 2) (I 4 3) 4 (zA T n za)).1)) ⟨rfl, rfl⟩ ⟨Nat.le_of_ble_eq_true rfl, Nat.le_of_ble_eq_true rfl⟩ bl_T t_U rfl hl.1 (Nat.le_of_ble_eq_true rfl) ⟨Nat.le_refl _, Nat.le_refl _⟩ dX2_term_33 rfl) (fun r18 g19 => ?_)
        obtain rfl : r18 = cProd a ((zFd T n (I 4 2) (I 4 3) 4 (zA T n za)).1) := g19
        refine lv_istore_n (lv' := [(2, .int (cProd a ((zFd T n (I 4 2) (I 4 3) 4 (zA T n za)).1))), (3, .int (nI i)), (0, .ref (eP E 4)), (1, .int 0)]) hx hb dX2_term_36 rfl hl (by decide) rfl (fun ls hl => ?_)
        refine lv_goto (tgt := 62) hx hb dX2_term_37 (by decide) ?_
        refine lv_iinc (v := nI (i + 1)) (lv' := [(3, .int (nI (i + 1))), (2, .int (cProd a ((zFd T n (I 4 2) (I 4 3) 4 (zA T n za)).1))), (0, .ref (eP E 4)), (1, .int 0)]) hx hb dX2_term_62 hl (k := 1) rfl (nI_1 _) (by decide) rfl (fun ls hl => ?_)
        refine lv_goto (tgt := 8) hx hb dX2_term_65 (by decide) ?_
        exact ih (i + 1) _ _ (by omega) (zOk_Fd 4 _ (zOk_A hza)) ((zTl_m q1).symm.trans hv) _ _ hP hS ls (lv_sub hl [0, 1, 2, 3] rfl)
  exact HL 700 0 ((zFd T n (I 4 2) (I 4 3) 4) z).1 ((zFd T n (I 4 2) (I 4 3) 4) z).2 (by omega) (zOk_Fd 4 _ hz) (congrArg (zTl T n (zFd T n (I 4 2) (I 4 3) 4) 700) (rfl : (((zFd T n (I 4 2) (I 4 3) 4) z).1, ((zFd T n (I 4 2) (I 4 3) 4) z).2) = (zFd T n (I 4 2) (I 4 3) 4) z)) _ _ hP hS ls (lv_sub hl [0, 1, 2, 3] rfl)

set_option maxHeartbeats 1000000 in
set_option maxRecDepth 100000 in
theorem c_X2_sum_4 (l : Launch) (E : En) (I A : Nat → Nat → Int32) (K : Nat → Nat → Int64) (T : Nat → Int32) (n : Nat) (z : Tz) (hE : Ev cN E) (hT : A 1 = T) (hz : zOk n z) : Met l yX2_sum (wz yX2_sum cX2_sum 4 (some .int)) (rmk 20 0 0 454) (va_Pc [.ref (eP E 4), .int 0] (Bw cN E cK (tkW I T n z, A, K))) (qWi cN E cK (fun zz uu => zz = (zSu T n (I 4 2) (I 4 3) 4 z).1 ∧ uu = (tkW I T n (zSu T n (I 4 2) (I 4 3) 4 z).2, A, K))) 0 0 (cA cN E) := by
  refine en_ofW RX2 rfl (by decide +kernel) (Nat.le_of_ble_eq_true rfl) ?_
  intro p e s m below meth c ls S hr hlk hnm hl hB
  have hx := S.1
  have hb := S.2.1
  obtain ⟨hK, hC, hP⟩ := hB
  have hS : va_S (cA cN E) s.heap s.heap [] := va_S.rf
  have hl : lv_has ls 4 [(0, .ref (eP E 4)), (1, .int 0)] := hl
  obtain ⟨hz1, hz2⟩ := id hz
  refine lv_aload_n hx hb dX2_sum_0 rfl (lv_at hl 0 rfl) ?_
  refine lv_iload_n hx hb dX2_sum_1 rfl (lv_at hl 1 rfl) ?_
  refine cn_wi (ck_V (a := eP E 4) S lk_X2_46 (c_X2_term_4 l E I A K T n z hE hT hz) ⟨rfl, rfl⟩ ⟨Nat.le_of_ble_eq_true rfl, Nat.le_of_ble_eq_true rfl⟩ bl_w (rc_w hK hP 4 (by decide) (cK_lo (by decide)) rfl) (bw_U hE hK hC hP hS) rfl hl.1 (Nat.le_of_ble_eq_true rfl) ⟨Nat.le_refl _, Nat.le_refl _⟩ dX2_sum_2 rfl) hS (fun r1 u2 H locs g3 hP hS => ?_)
  obtain ⟨rfl, rfl⟩ : r1 = (zTd T n (I 4 2) (I 4 3) 4 z).1 ∧ u2 = (tkW I T n (zTd T n (I 4 2) (I 4 3) 4 z).2, A, K) := g3
  have hP : Wp cN E cK ((tkW I T n ((zTd T n (I 4 2) (I 4 3) 4 z).2)), A, K) H := hP
  refine lv_istore_n (lv' := [(2, .int ((zTd T n (I 4 2) (I 4 3) 4 z).1)), (0, .ref (eP E 4)), (1, .int 0)]) hx hb dX2_sum_5 rfl hl (by decide) rfl (fun ls hl => ?_)
  refine lv_iconst (v := 0) hx hb dX2_sum_6 (by decide) ?_
  refine lv_istore_n (lv' := [(3, .int 0), (2, .int ((zTd T n (I 4 2) (I 4 3) 4 z).1)), (0, .ref (eP E 4)), (1, .int 0)]) hx hb dX2_sum_7 rfl hl (by decide) rfl (fun ls hl => ?_)
  have HL : ∀ (cnt i : Nat) (a : Int32) (za : Tz), i + cnt = 700 → zOk n za → zSl T n (zTd T n (I 4 2) (I 4 3) 4) cnt (a, za) = zSl T n (zTd T n (I 4 2) (I 4 3) 4) 700 ((zTd T n (I 4 2) (I 4 3) 4) z) → ∀ (H : Heap) (locs : List Loc), Wp cN E cK ((tkW I T n za), A, K) H → va_S (cA cN E) s.heap H locs → ∀ ls : Array Slot, lv_has ls 4 [(3, .int (nI i)), (2, .int a), (0, .ref (eP E 4)), (1, .int 0)] → W p l e (rmk 20 0 0 454) s m ([.ref (eP E 4), .int 0] : List Value).toArray below meth c H locs 0 0 (MQ below (qWi cN E cK (fun zz uu => zz = (zSu T n (I 4 2) (I 4 3) 4 z).1 ∧ uu = (tkW I T n (zSu T n (I 4 2) (I 4 3) 4 z).2, A, K))) ([.ref (eP E 4), .int 0] : List Value).toArray s 0 0 (cA cN E)) (F0 m 8 ls []) := by
    intro cnt
    induction cnt with
    | zero =>
      intro i a za hi hza hv H locs hP hS ls hl
      have hiN : i = 700 := by omega
      rw [hiN] at hl
      try rw [hiN] at hP
      refine lv_iload_n hx hb dX2_sum_8 rfl (lv_at hl 0 rfl) ?_
      refine lv_sipush (v := 700) hx hb dX2_sum_9 (by decide) ?_
      refine lv_icmp_ge (tgt := 78) hx hb dX2_sum_12 (by decide) (fun h12 => ?_) (fun h12 => absurd (Int32.le_refl _) h12)
      refine lv_iload_n hx hb dX2_sum_78 rfl (lv_at hl 1 rfl) ?_
      have hfc : (a, za) = zSl T n (zTd T n (I 4 2) (I 4 3) 4) 700 ((zTd T n (I 4 2) (I 4 3) 4) z) := hv
      have hfc : (a, za) = zSu T n (I 4 2) (I 4 3) 4 z := hfc.trans zSu_e.symm
      exact re_wi (x := ((tkW I T n za), A, K)) (v := a) hx hb hr hlk hP hS ⟨congrArg Prod.fst hfc, by rw [← hfc]⟩ dX2_sum_79
    | succ cnt ih =>
      intro i a za hi hza hv H locs hP hS ls hl
      have hlt : i < 700 := by omega
      refine lv_iload_n hx hb dX2_sum_8 rfl (lv_at hl 0 rfl) ?_
      refine lv_sipush (v := 700) hx hb dX2_sum_9 (by decide) ?_
      refine lv_icmp_ge (tgt := 78) hx hb dX2_sum_12 (by decide) (fun h12 => absurd h12 (nI_ge (b := 700) hlt (by decide))) (fun h12 => ?_)
      refine lv_aload_n hx hb dX2_sum_15 rfl (lv_at hl 2 rfl) ?_
      refine rw_getr (x := ((tkW I T n za), A, K)) S hK hP 4 (by decide) (cK_lo (by decide)) fk_X2_21 rfl dX2_sum_16 ?_
      refine lv_bipush (v := 43) hx hb dX2_sum_19 (by decide) ?_
      refine cn_wi (ck_V (a := eP E 3) S lk_X2_49 (c_X5_passSign l E I A K T n za 43 hE hT hza) ⟨rfl, rfl⟩ ⟨Nat.le_of_ble_eq_true rfl, Nat.le_of_ble_eq_true rfl⟩ bl_w (rc_w hK hP 3 (by decide) (cK_lo (by decide)) rfl) (bw_U hE hK hC hP hS) rfl hl.1 (Nat.le_of_ble_eq_true rfl) ⟨Nat.le_refl _, Nat.le_refl _⟩ dX2_sum_21 rfl) hS (fun r4 u5 H locs g6 hP hS => ?_)
      obtain ⟨rfl, rfl⟩ : r4 = bI (zS T n 43 za) ∧ u5 = (tkW I T n (zPS T n 43 za), A, K) := g6
      have hP : Wp cN E cK ((tkW I T n ((zPS T n 43 za))), A, K) H := hP
      refine lv_if_eq (tgt := 45) hx hb dX2_sum_24 (by decide) (fun h24 => ?_) (fun h24 => ?_)
      · have q1 : zS T n 43 za = false := bI_f h24
        rw [zPS_f q1] at hP
        have hP : Wp cN E cK ((tkW I T n za), A, K) H := hP
        refine lv_aload_n hx hb dX2_sum_45 rfl (lv_at hl 2 rfl) ?_
        refine rw_getr (x := ((tkW I T n za), A, K)) S hK hP 4 (by decide) (cK_lo (by decide)) fk_X2_21 rfl dX2_sum_46 ?_
        refine lv_bipush (v := 45) hx hb dX2_sum_49 (by decide) ?_
        refine cn_wi (ck_V (a := eP E 3) S lk_X2_49 (c_X5_passSign l E I A K T n za 45 hE hT hza) ⟨rfl, rfl⟩ ⟨Nat.le_of_ble_eq_true rfl, Nat.le_of_ble_eq_true rfl⟩ bl_w (rc_w hK hP 3 (by decide) (cK_lo (by decide)) rfl) (bw_U hE hK hC hP hS) rfl hl.1 (Nat.le_of_ble_eq_true rfl) ⟨Nat.le_refl _, Nat.le_refl _⟩ dX2_sum_51 rfl) hS (fun r7 u8 H locs g9 hP hS => ?_)
        obtain ⟨rfl, rfl⟩ : r7 = bI (zS T n 45 za) ∧ u8 = (tkW I T n (zPS T n 45 za), A, K) := g9
        have hP : Wp cN E cK ((tkW I T n ((zPS T n 45 za))), A, K) H := hP
        refine lv_if_eq (tgt := 78) hx hb dX2_sum_54 (by decide) (fun h54 => ?_) (fun h54 => ?_)
        · have q2 : zS T n 45 za = false := bI_f h54
          rw [zPS_f q2] at hP
          have hP : Wp cN E cK ((tkW I T n za), A, K) H := hP
          refine lv_iload_n hx hb dX2_sum_78 rfl (lv_at hl 1 rfl) ?_
          have hfc := (zSl_e (F := (zTd T n (I 4 2) (I 4 3) 4)) (k := cnt) (a := a) q1 q2).symm.trans hv
          have hfc : (a, za) = zSu T n (I 4 2) (I 4 3) 4 z := hfc.trans zSu_e.symm
          exact re_wi (x := ((tkW I T n za), A, K)) (v := a) hx hb hr hlk hP hS ⟨congrArg Prod.fst hfc, by rw [← hfc]⟩ dX2_sum_79
        · have q2 : zS T n 45 za = true := bI_t h54
          rw [zPS_t q2] at hP
          have hP : Wp cN E cK ((tkW I T n (zA T n za)), A, K) H := hP
          refine lv_iload_n hx hb dX2_sum_57 rfl (lv_at hl 1 rfl) ?_
          refine lv_aload_n hx hb dX2_sum_58 rfl (lv_at hl 2 rfl) ?_
          refine lv_iload_n hx hb dX2_sum_59 rfl (lv_at hl 3 rfl) ?_
          refine cn_wi (ck_V (a := eP E 4) S lk_X2_46 (c_X2_term_4 l E I A K T n (zA T n za) hE hT (zOk_A hza)) ⟨rfl, rfl⟩ ⟨Nat.le_of_ble_eq_true rfl, Nat.le_of_ble_eq_true rfl⟩ bl_w (rc_w hK hP 4 (by decide) (cK_lo (by decide)) rfl) (bw_U hE hK hC hP hS) rfl hl.1 (Nat.le_of_ble_eq_true rfl) ⟨Nat.le_refl _, Nat.le_refl _⟩ dX2_sum_60 rfl) hS (fun r10 u11 H locs g12 hP hS => ?_)
          obtain ⟨rfl, rfl⟩ : r10 = (zTd T n (I 4 2) (I 4 3) 4 (zA T n za)).1 ∧ u11 = (tkW I T n (zTd T n (I 4 2) (I 4 3) 4 (zA T n za)).2, A, K) := g12
          have hP : Wp cN E cK ((tkW I T n ((zTd T n (I 4 2) (I 4 3) 4 (zA T n za)).2)), A, K) H := hP
          refine lv_isub hx hb dX2_sum_63 ?_
          refine lv_ldc (v := (-1000000)) hx hb S.2.2.2.1 (S.2.2.2.2 _ kc_X2_53) dX2_sum_64 ?_
          refine lv_ldc (v := 1000000) hx hb S.2.2.2.1 (S.2.2.2.2 _ kc_X2_54) dX2_sum_66 ?_
          refine cn_si (ck_N S ln_X6_limited hC.1.1.2.2.2.1 (c_X6_limited l (a - ((zTd T n (I 4 2) (I 4 3) 4 (zA T n za)).1)) (-1000000) 1000000) ⟨rfl, rfl⟩ ⟨Nat.le_of_ble_eq_true rfl, Nat.le_of_ble_eq_true rfl⟩ bl_T t_U rfl hl.1 (Nat.le_of_ble_eq_true rfl) ⟨Nat.le_refl _, Nat.le_refl _⟩ dX2_sum_68 rfl) (fun r13 g14 => ?_)
          obtain rfl : r13 = pLim (a - ((zTd T n (I 4 2) (I 4 3) 4 (zA T n za)).1)) (-1000000) 1000000 := g14
          refine lv_istore_n (lv' := [(2, .int (pLim (a - ((zTd T n (I 4 2) (I 4 3) 4 (zA T n za)).1)) (-1000000) 1000000)), (3, .int (nI i)), (0, .ref (eP E 4)), (1, .int 0)]) hx hb dX2_sum_71 rfl hl (by decide) rfl (fun ls hl => ?_)
          refine lv_iinc (v := nI (i + 1)) (lv' := [(3, .int (nI (i + 1))), (2, .int (pLim (a - ((zTd T n (I 4 2) (I 4 3) 4 (zA T n za)).1)) (-1000000) 1000000)), (0, .ref (eP E 4)), (1, .int 0)]) hx hb dX2_sum_72 hl (k := 1) rfl (nI_1 _) (by decide) rfl (fun ls hl => ?_)
          refine lv_goto (tgt := 8) hx hb dX2_sum_75 (by decide) ?_
          exact ih (i + 1) _ _ (by omega) (zOk_Td 4 _ (zOk_A hza)) ((zSl_d q1 q2).symm.trans hv) _ _ hP hS ls (lv_sub hl [0, 1, 2, 3] rfl)
      · have q1 : zS T n 43 za = true := bI_t h24
        rw [zPS_t q1] at hP
        have hP : Wp cN E cK ((tkW I T n (zA T n za)), A, K) H := hP
        refine lv_iload_n hx hb dX2_sum_27 rfl (lv_at hl 1 rfl) ?_
        refine lv_aload_n hx hb dX2_sum_28 rfl (lv_at hl 2 rfl) ?_
        refine lv_iload_n hx hb dX2_sum_29 rfl (lv_at hl 3 rfl) ?_
        refine cn_wi (ck_V (a := eP E 4) S lk_X2_46 (c_X2_term_4 l E I A K T n (zA T n za) hE hT (zOk_A hza)) ⟨rfl, rfl⟩ ⟨Nat.le_of_ble_eq_true rfl, Nat.le_of_ble_eq_true rfl⟩ bl_w (rc_w hK hP 4 (by decide) (cK_lo (by decide)) rfl) (bw_U hE hK hC hP hS) rfl hl.1 (Nat.le_of_ble_eq_true rfl) ⟨Nat.le_refl _, Nat.le_refl _⟩ dX2_sum_30 rfl) hS (fun r15 u16 H locs g17 hP hS => ?_)
        obtain ⟨rfl, rfl⟩ : r15 = (zTd T n (I 4 2) (I 4 3) 4 (zA T n za)).1 ∧ u16 = (tkW I T n (zTd T n (I 4 2) (I 4 3) 4 (zA T n za)).2, A, K) := g17
        have hP : Wp cN E cK ((tkW I T n ((zTd T n (I 4 2) (I 4 3) 4 (zA T n za)).2)), A, K) H := hP
        refine lv_iadd hx hb dX2_sum_33 ?_
        refine lv_ldc (v := (-1000000)) hx hb S.2.2.2.1 (S.2.2.2.2 _ kc_X2_53) dX2_sum_34 ?_
        refine lv_ldc (v := 1000000) hx hb S.2.2.2.1 (S.2.2.2.2 _ kc_X2_54) dX2_sum_36 ?_
        refine cn_si (ck_N S ln_X6_limited hC.1.1.2.2.2.1 (c_X6_limited l (a + ((zTd T n (I 4 2) (I 4 3) 4 (zA T n za)).1)) (-1000000) 1000000) ⟨rfl, rfl⟩ ⟨Nat.le_of_ble_eq_true rfl, Nat.le_of_ble_eq_true rfl⟩ bl_T t_U rfl hl.1 (Nat.le_of_ble_eq_true rfl) ⟨Nat.le_refl _, Nat.le_refl _⟩ dX2_sum_38 rfl) (fun r18 g19 => ?_)
        obtain rfl : r18 = pLim (a + ((zTd T n (I 4 2) (I 4 3) 4 (zA T n za)).1)) (-1000000) 1000000 := g19
        refine lv_istore_n (lv' := [(2, .int (pLim (a + ((zTd T n (I 4 2) (I 4 3) 4 (zA T n za)).1)) (-1000000) 1000000)), (3, .int (nI i)), (0, .ref (eP E 4)), (1, .int 0)]) hx hb dX2_sum_41 rfl hl (by decide) rfl (fun ls hl => ?_)
        refine lv_goto (tgt := 72) hx hb dX2_sum_42 (by decide) ?_
        refine lv_iinc (v := nI (i + 1)) (lv' := [(3, .int (nI (i + 1))), (2, .int (pLim (a + ((zTd T n (I 4 2) (I 4 3) 4 (zA T n za)).1)) (-1000000) 1000000)), (0, .ref (eP E 4)), (1, .int 0)]) hx hb dX2_sum_72 hl (k := 1) rfl (nI_1 _) (by decide) rfl (fun ls hl => ?_)
        refine lv_goto (tgt := 8) hx hb dX2_sum_75 (by decide) ?_
        exact ih (i + 1) _ _ (by omega) (zOk_Td 4 _ (zOk_A hza)) ((zSl_m q1).symm.trans hv) _ _ hP hS ls (lv_sub hl [0, 1, 2, 3] rfl)
  exact HL 700 0 ((zTd T n (I 4 2) (I 4 3) 4) z).1 ((zTd T n (I 4 2) (I 4 3) 4) z).2 (by omega) (zOk_Td 4 _ hz) (congrArg (zSl T n (zTd T n (I 4 2) (I 4 3) 4) 700) (rfl : (((zTd T n (I 4 2) (I 4 3) 4) z).1, ((zTd T n (I 4 2) (I 4 3) 4) z).2) = (zTd T n (I 4 2) (I 4 3) 4) z)) _ _ hP hS ls (lv_sub hl [0, 1, 2, 3] rfl)

