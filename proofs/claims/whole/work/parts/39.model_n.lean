set_option maxHeartbeats 1000000 in
set_option maxRecDepth 100000 in
theorem c_X7_emit_bad (l : Launch) (E : En) (I A : Nat → Nat → Int32) (K : Nat → Nat → Int64) (v : Int32) (hE : Ev mN E) (h05 : ¬ I 0 5 = 0) : Met l yX7_emit (wz yX7_emit cX7_emit 2 none) (rmk 1 0 0 20) (va_Pc [.ref (eP E 0), .int v] (Bw mN E mK (I, A, K))) (qWv mN E mK (fun uu => uu = (I, A, K))) 0 0 (cA mN E) := by
  refine en_ofW RX7 rfl (by decide +kernel) (Nat.le_of_ble_eq_true rfl) ?_
  intro p e s m below meth c ls S hr hlk hnm hl hB
  have hx := S.1
  have hb := S.2.1
  obtain ⟨hK, hC, hP⟩ := hB
  have hS : va_S (cA mN E) s.heap s.heap [] := va_S.rf
  have hl : lv_has ls 2 [(0, .ref (eP E 0)), (1, .int v)] := hl
  refine lv_aload_n hx hb dX7_emit_0 rfl (lv_at hl 0 rfl) ?_
  refine cn_si (ck_V (a := eP E 0) S lk_X7_62 (c_X7_isGood l E I A K hE) ⟨rfl, rfl⟩ ⟨Nat.le_of_ble_eq_true rfl, Nat.le_of_ble_eq_true rfl⟩ bl_w (rc_w hK hP 0 (by decide) rfl rfl) (bw_U hE hK hC hP hS) rfl hl.1 (Nat.le_of_ble_eq_true rfl) ⟨Nat.le_refl _, Nat.le_refl _⟩ dX7_emit_1 rfl) (fun r1 g2 => ?_)
  obtain rfl : r1 = bI (decide (I 0 5 = 0)) := g2
  refine lv_if_ne (tgt := 8) hx hb dX7_emit_4 (by decide) (fun h4 => absurd h4 (fun g => g (show bI (decide (I 0 5 = 0)) = 0 from by rw [decide_eq_false h05]; rfl))) (fun h4 => ?_)
  exact re_wv (x := (I, A, K)) hx hb hr hlk hP hS rfl dX7_emit_7

set_option maxHeartbeats 1000000 in
set_option maxRecDepth 100000 in
theorem c_X7_factor_bad (l : Launch) (E : En) (I A : Nat → Nat → Int32) (K : Nat → Nat → Int64)  (hE : Ev mN E) (h05 : ¬ I 0 5 = 0) : Met l yX7_factor (wz yX7_factor cX7_factor 4 none) (rmk 1 0 0 20) (va_Pc [.ref (eP E 0)] (Bw mN E mK (I, A, K))) (qWv mN E mK (fun uu => uu = (I, A, K))) 0 0 (cA mN E) := by
  refine en_ofW RX7 rfl (by decide +kernel) (Nat.le_of_ble_eq_true rfl) ?_
  intro p e s m below meth c ls S hr hlk hnm hl hB
  have hx := S.1
  have hb := S.2.1
  obtain ⟨hK, hC, hP⟩ := hB
  have hS : va_S (cA mN E) s.heap s.heap [] := va_S.rf
  have hl : lv_has ls 4 [(0, .ref (eP E 0))] := hl
  refine lv_aload_n hx hb dX7_factor_0 rfl (lv_at hl 0 rfl) ?_
  refine cn_si (ck_V (a := eP E 0) S lk_X7_62 (c_X7_isGood l E I A K hE) ⟨rfl, rfl⟩ ⟨Nat.le_of_ble_eq_true rfl, Nat.le_of_ble_eq_true rfl⟩ bl_w (rc_w hK hP 0 (by decide) rfl rfl) (bw_U hE hK hC hP hS) rfl hl.1 (Nat.le_of_ble_eq_true rfl) ⟨Nat.le_refl _, Nat.le_refl _⟩ dX7_factor_1 rfl) (fun r1 g2 => ?_)
  obtain rfl : r1 = bI (decide (I 0 5 = 0)) := g2
  refine lv_if_ne (tgt := 8) hx hb dX7_factor_4 (by decide) (fun h4 => absurd h4 (fun g => g (show bI (decide (I 0 5 = 0)) = 0 from by rw [decide_eq_false h05]; rfl))) (fun h4 => ?_)
  exact re_wv (x := (I, A, K)) hx hb hr hlk hP hS rfl dX7_factor_7

set_option maxHeartbeats 1000000 in
set_option maxRecDepth 100000 in
theorem c_X7_term_bad (l : Launch) (E : En) (I A : Nat → Nat → Int32) (K : Nat → Nat → Int64)  (hE : Ev mN E) (h05 : ¬ I 0 5 = 0) : Met l yX7_term (wz yX7_term cX7_term 2 none) (rmk 2 0 0 43) (va_Pc [.ref (eP E 0)] (Bw mN E mK (I, A, K))) (qWv mN E mK (fun uu => uu = (I, A, K))) 0 0 (cA mN E) := by
  refine en_ofW RX7 rfl (by decide +kernel) (Nat.le_of_ble_eq_true rfl) ?_
  intro p e s m below meth c ls S hr hlk hnm hl hB
  have hx := S.1
  have hb := S.2.1
  obtain ⟨hK, hC, hP⟩ := hB
  have hS : va_S (cA mN E) s.heap s.heap [] := va_S.rf
  have hl : lv_has ls 2 [(0, .ref (eP E 0))] := hl
  refine lv_aload_n hx hb dX7_term_0 rfl (lv_at hl 0 rfl) ?_
  refine cn_wv (ck_V (a := eP E 0) S lk_X7_119 (c_X7_factor_bad l E I A K hE h05) ⟨rfl, rfl⟩ ⟨Nat.le_of_ble_eq_true rfl, Nat.le_of_ble_eq_true rfl⟩ bl_w (rc_w hK hP 0 (by decide) rfl rfl) (bw_U hE hK hC hP hS) rfl hl.1 (Nat.le_of_ble_eq_true rfl) ⟨Nat.le_refl _, Nat.le_refl _⟩ dX7_term_1 rfl) hS (fun u2 H locs g3 hP hS => ?_)
  obtain rfl : u2 = (I, A, K) := g3
  have hP : Wp mN E mK (I, A, K) H := hP
  refine lv_aload_n hx hb dX7_term_4 rfl (lv_at hl 0 rfl) ?_
  refine cn_si (ck_V (a := eP E 0) S lk_X7_62 (c_X7_isGood l E I A K hE) ⟨rfl, rfl⟩ ⟨Nat.le_of_ble_eq_true rfl, Nat.le_of_ble_eq_true rfl⟩ bl_w (rc_w hK hP 0 (by decide) rfl rfl) (bw_U hE hK hC hP hS) rfl hl.1 (Nat.le_of_ble_eq_true rfl) ⟨Nat.le_refl _, Nat.le_refl _⟩ dX7_term_5 rfl) (fun r4 g5 => ?_)
  obtain rfl : r4 = bI (decide (I 0 5 = 0)) := g5
  refine lv_if_eq (tgt := 74) hx hb dX7_term_8 (by decide) (fun h8 => ?_) (fun h8 => absurd (show bI (decide (I 0 5 = 0)) = 0 from by rw [decide_eq_false h05]; rfl) h8)
  exact re_wv (x := (I, A, K)) hx hb hr hlk hP hS rfl dX7_term_74

set_option maxHeartbeats 1000000 in
set_option maxRecDepth 100000 in
theorem c_X7_sum_bad (l : Launch) (E : En) (I A : Nat → Nat → Int32) (K : Nat → Nat → Int64)  (hE : Ev mN E) (h05 : ¬ I 0 5 = 0) : Met l yX7_sum (wz yX7_sum cX7_sum 2 none) (rmk 3 0 0 64) (va_Pc [.ref (eP E 0)] (Bw mN E mK (I, A, K))) (qWv mN E mK (fun uu => uu = (I, A, K))) 0 0 (cA mN E) := by
  refine en_ofW RX7 rfl (by decide +kernel) (Nat.le_of_ble_eq_true rfl) ?_
  intro p e s m below meth c ls S hr hlk hnm hl hB
  have hx := S.1
  have hb := S.2.1
  obtain ⟨hK, hC, hP⟩ := hB
  have hS : va_S (cA mN E) s.heap s.heap [] := va_S.rf
  have hl : lv_has ls 2 [(0, .ref (eP E 0))] := hl
  refine lv_aload_n hx hb dX7_sum_0 rfl (lv_at hl 0 rfl) ?_
  refine cn_wv (ck_V (a := eP E 0) S lk_X7_122 (c_X7_term_bad l E I A K hE h05) ⟨rfl, rfl⟩ ⟨Nat.le_of_ble_eq_true rfl, Nat.le_of_ble_eq_true rfl⟩ bl_w (rc_w hK hP 0 (by decide) rfl rfl) (bw_U hE hK hC hP hS) rfl hl.1 (Nat.le_of_ble_eq_true rfl) ⟨Nat.le_refl _, Nat.le_refl _⟩ dX7_sum_1 rfl) hS (fun u2 H locs g3 hP hS => ?_)
  obtain rfl : u2 = (I, A, K) := g3
  have hP : Wp mN E mK (I, A, K) H := hP
  refine lv_aload_n hx hb dX7_sum_4 rfl (lv_at hl 0 rfl) ?_
  refine cn_si (ck_V (a := eP E 0) S lk_X7_62 (c_X7_isGood l E I A K hE) ⟨rfl, rfl⟩ ⟨Nat.le_of_ble_eq_true rfl, Nat.le_of_ble_eq_true rfl⟩ bl_w (rc_w hK hP 0 (by decide) rfl rfl) (bw_U hE hK hC hP hS) rfl hl.1 (Nat.le_of_ble_eq_true rfl) ⟨Nat.le_refl _, Nat.le_refl _⟩ dX7_sum_5 rfl) (fun r4 g5 => ?_)
  obtain rfl : r4 = bI (decide (I 0 5 = 0)) := g5
  refine lv_if_eq (tgt := 74) hx hb dX7_sum_8 (by decide) (fun h8 => ?_) (fun h8 => absurd (show bI (decide (I 0 5 = 0)) = 0 from by rw [decide_eq_false h05]; rfl) h8)
  exact re_wv (x := (I, A, K)) hx hb hr hlk hP hS rfl dX7_sum_74

