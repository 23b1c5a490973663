set_option maxHeartbeats 1000000 in
set_option maxRecDepth 100000 in
theorem c_X6_requireRole (l : Launch) (E : En) (I A : Nat → Nat → Int32) (K : Nat → Nat → Int64) (r nr nu : Nat) (hE : Ev cN E) (hD : DOk I A 0 nr nu) (kr : r < nr) : Met l yX6_requireRole (wz yX6_requireRole cX6_requireRole 2 none) (rmk 0 0 0 0) (va_Pc [.ref (eP E 0), .int (nI r)] (Bw cN E cK (I, A, K))) qSv 0 0 fr0 := by
  refine en_ofW RX6 rfl (by decide +kernel) (Nat.le_of_ble_eq_true rfl) ?_
  intro p e s m below meth c ls S hr hlk hnm hl hB
  have hx := S.1
  have hb := S.2.1
  obtain ⟨hK, hC, hP⟩ := hB
  have hS : va_S (cA cN E) s.heap s.heap [] := va_S.rf
  have hl : lv_has ls 2 [(0, .ref (eP E 0)), (1, .int (nI r))] := hl
  obtain ⟨⟨hn1, hn2⟩, ⟨hr0, hr3⟩, hu3⟩ := id hD
  refine lv_iload_n hx hb dX6_requireRole_0 rfl (lv_at hl 1 rfl) ?_
  refine lv_if_lt (tgt := 15) hx hb dX6_requireRole_1 (by decide) (fun h1 => absurd h1 (nI_pos (by omega))) (fun h1 => ?_)
  refine lv_iload_n hx hb dX6_requireRole_4 rfl (lv_at hl 1 rfl) ?_
  refine lv_aload_n hx hb dX6_requireRole_5 rfl (lv_at hl 0 rfl) ?_
  refine rw_getr (x := (I, A, K)) S hK hP 0 (by decide) (cK_lo (by decide)) fk_X6_25 rfl dX6_requireRole_6 ?_
  refine rw_geti (x := (I, A, K)) (v := nI nr) S hK hP (dB 0 0) (dB_lt (by decide) (by decide)) (cK_D (by decide)) fk_X6_75 rfl hr0 dX6_requireRole_9 ?_
  refine lv_icmp_lt (tgt := 25) hx hb dX6_requireRole_12 (by decide) (fun h12 => ?_) (fun h12 => absurd (nI_lt kr (by omega)) h12)
  exact re_sv hx hb hr hlk dX6_requireRole_25

set_option maxHeartbeats 1000000 in
set_option maxRecDepth 100000 in
theorem c_X6_requireRule (l : Launch) (E : En) (I A : Nat → Nat → Int32) (K : Nat → Nat → Int64) (u nr nu : Nat) (hE : Ev cN E) (hD : DOk I A 0 nr nu) (kr : u < nu) : Met l yX6_requireRule (wz yX6_requireRule cX6_requireRule 2 none) (rmk 0 0 0 0) (va_Pc [.ref (eP E 0), .int (nI u)] (Bw cN E cK (I, A, K))) qSv 0 0 fr0 := by
  refine en_ofW RX6 rfl (by decide +kernel) (Nat.le_of_ble_eq_true rfl) ?_
  intro p e s m below meth c ls S hr hlk hnm hl hB
  have hx := S.1
  have hb := S.2.1
  obtain ⟨hK, hC, hP⟩ := hB
  have hS : va_S (cA cN E) s.heap s.heap [] := va_S.rf
  have hl : lv_has ls 2 [(0, .ref (eP E 0)), (1, .int (nI u))] := hl
  obtain ⟨⟨hn1, hn2⟩, ⟨hr0, hr3⟩, hu3⟩ := id hD
  refine lv_iload_n hx hb dX6_requireRule_0 rfl (lv_at hl 1 rfl) ?_
  refine lv_if_lt (tgt := 15) hx hb dX6_requireRule_1 (by decide) (fun h1 => absurd h1 (nI_pos (by omega))) (fun h1 => ?_)
  refine lv_iload_n hx hb dX6_requireRule_4 rfl (lv_at hl 1 rfl) ?_
  refine lv_aload_n hx hb dX6_requireRule_5 rfl (lv_at hl 0 rfl) ?_
  refine rw_getr (x := (I, A, K)) S hK hP 0 (by decide) (cK_lo (by decide)) fk_X6_25 rfl dX6_requireRule_6 ?_
  refine rw_geti (x := (I, A, K)) (v := nI nu) S hK hP (dB 0 0) (dB_lt (by decide) (by decide)) (cK_D (by decide)) fk_X6_72 rfl hr3 dX6_requireRule_9 ?_
  refine lv_icmp_lt (tgt := 25) hx hb dX6_requireRule_12 (by decide) (fun h12 => ?_) (fun h12 => absurd (nI_lt kr (by omega)) h12)
  exact re_sv hx hb hr hlk dX6_requireRule_25

set_option maxHeartbeats 1000000 in
set_option maxRecDepth 100000 in
theorem c_X6_requireScheme (l : Launch) (E : En) (I A : Nat → Nat → Int32) (K : Nat → Nat → Int64) (sc nr nu : Nat) (hE : Ev cN E) (hD : DOk I A 0 nr nu) (kr : sc < 2) : Met l yX6_requireScheme (wz yX6_requireScheme cX6_requireScheme 2 none) (rmk 0 0 0 0) (va_Pc [.ref (eP E 0), .int (nI sc)] (Bw cN E cK (I, A, K))) qSv 0 0 fr0 := by
  refine en_ofW RX6 rfl (by decide +kernel) (Nat.le_of_ble_eq_true rfl) ?_
  intro p e s m below meth c ls S hr hlk hnm hl hB
  have hx := S.1
  have hb := S.2.1
  obtain ⟨hK, hC, hP⟩ := hB
  have hS : va_S (cA cN E) s.heap s.heap [] := va_S.rf
  have hl : lv_has ls 2 [(0, .ref (eP E 0)), (1, .int (nI sc))] := hl
  obtain ⟨⟨hn1, hn2⟩, ⟨hr0, hr3⟩, hu3⟩ := id hD
  refine lv_iload_n hx hb dX6_requireScheme_0 rfl (lv_at hl 1 rfl) ?_
  refine lv_if_lt (tgt := 9) hx hb dX6_requireScheme_1 (by decide) (fun h1 => absurd h1 (nI_pos (by omega))) (fun h1 => ?_)
  refine lv_iload_n hx hb dX6_requireScheme_4 rfl (lv_at hl 1 rfl) ?_
  refine lv_iconst (v := 2) hx hb dX6_requireScheme_5 (by decide) ?_
  refine lv_icmp_lt (tgt := 19) hx hb dX6_requireScheme_6 (by decide) (fun h6 => ?_) (fun h6 => absurd (nI_lt (b := 2) kr (by decide)) h6)
  exact re_sv hx hb hr hlk dX6_requireScheme_19

set_option maxHeartbeats 1000000 in
set_option maxRecDepth 100000 in
theorem c_X6_requireSight (l : Launch) (E : En) (I A : Nat → Nat → Int32) (K : Nat → Nat → Int64) (t nr nu : Nat) (hE : Ev cN E) (hD : DOk I A 0 nr nu) (kr : t < 5) : Met l yX6_requireSight (wz yX6_requireSight cX6_requireSight 2 none) (rmk 0 0 0 0) (va_Pc [.ref (eP E 0), .int (nI t)] (Bw cN E cK (I, A, K))) qSv 0 0 fr0 := by
  refine en_ofW RX6 rfl (by decide +kernel) (Nat.le_of_ble_eq_true rfl) ?_
  intro p e s m below meth c ls S hr hlk hnm hl hB
  have hx := S.1
  have hb := S.2.1
  obtain ⟨hK, hC, hP⟩ := hB
  have hS : va_S (cA cN E) s.heap s.heap [] := va_S.rf
  have hl : lv_has ls 2 [(0, .ref (eP E 0)), (1, .int (nI t))] := hl
  obtain ⟨⟨hn1, hn2⟩, ⟨hr0, hr3⟩, hu3⟩ := id hD
  refine lv_iload_n hx hb dX6_requireSight_0 rfl (lv_at hl 1 rfl) ?_
  refine lv_if_lt (tgt := 9) hx hb dX6_requireSight_1 (by decide) (fun h1 => absurd h1 (nI_pos (by omega))) (fun h1 => ?_)
  refine lv_iload_n hx hb dX6_requireSight_4 rfl (lv_at hl 1 rfl) ?_
  refine lv_iconst (v := 5) hx hb dX6_requireSight_5 (by decide) ?_
  refine lv_icmp_lt (tgt := 19) hx hb dX6_requireSight_6 (by decide) (fun h6 => ?_) (fun h6 => absurd (nI_lt (b := 5) kr (by decide)) h6)
  exact re_sv hx hb hr hlk dX6_requireSight_19

set_option maxHeartbeats 1000000 in
set_option maxRecDepth 100000 in
theorem c_X6_requireColour (l : Launch) (E : En) (I A : Nat → Nat → Int32) (K : Nat → Nat → Int64) (x : Int32) (nr nu : Nat) (hE : Ev cN E) (hD : DOk I A 0 nr nu) (kr : ¬ x < 0 ∧ ¬ 16777215 < x) : Met l yX6_requireColour (wz yX6_requireColour cX6_requireColour 2 none) (rmk 0 0 0 0) (va_Pc [.ref (eP E 0), .int x] (Bw cN E cK (I, A, K))) qSv 0 0 fr0 := by
  refine en_ofW RX6 rfl (by decide +kernel) (Nat.le_of_ble_eq_true rfl) ?_
  intro p e s m below meth c ls S hr hlk hnm hl hB
  have hx := S.1
  have hb := S.2.1
  obtain ⟨hK, hC, hP⟩ := hB
  have hS : va_S (cA cN E) s.heap s.heap [] := va_S.rf
  have hl : lv_has ls 2 [(0, .ref (eP E 0)), (1, .int x)] := hl
  obtain ⟨⟨hn1, hn2⟩, ⟨hr0, hr3⟩, hu3⟩ := id hD
  refine lv_iload_n hx hb dX6_requireColour_0 rfl (lv_at hl 1 rfl) ?_
  refine lv_if_lt (tgt := 10) hx hb dX6_requireColour_1 (by decide) (fun h1 => absurd h1 kr.1) (fun h1 => ?_)
  refine lv_iload_n hx hb dX6_requireColour_4 rfl (lv_at hl 1 rfl) ?_
  refine lv_ldc (v := 16777215) hx hb S.2.2.2.1 (S.2.2.2.2 _ kc_X6_196) dX6_requireColour_5 ?_
  refine lv_icmp_le (tgt := 20) hx hb dX6_requireColour_7 (by decide) (fun h7 => ?_) (fun h7 => absurd (l_le kr.2) h7)
  exact re_sv hx hb hr hlk dX6_requireColour_20

set_option maxHeartbeats 1000000 in
set_option maxRecDepth 100000 in
theorem cx_X6_requireRole (l : Launch) (E : En) (I A : Nat → Nat → Int32) (K : Nat → Nat → Int64) (x : Int32) (nr nu : Nat) (hE : Ev cN E) (hD : DOk I A 0 nr nu) (hfl : l.stackTraces = false) (kb : x < 0 ∨ nI nr ≤ x) : vx_Met l yX6_requireRole (wz yX6_requireRole cX6_requireRole 2 none) (rmk 6 1 6 95) (va_Pc [.ref (eP E 0), .int x] (Bw cN E cK (I, A, K))) qNo (xC "java/lang/IndexOutOfBoundsException") 1 6 fr0 := by
  refine en_ofX RX6 rfl (by decide +kernel) (Nat.le_of_ble_eq_true rfl) ?_
  intro p e s m below meth c ls S hr hlk hnm hout hl hB
  have hx := S.1
  have hb := S.2.1
  obtain ⟨hK, hC, hP⟩ := hB
  have hS : va_S (cA cN E) s.heap s.heap [] := va_S.rf
  have hl : lv_has ls 2 [(0, .ref (eP E 0)), (1, .int x)] := hl
  obtain ⟨⟨hn1, hn2⟩, ⟨hr0, hr3⟩, hu3⟩ := id hD
  refine lv_iload_n hx hb dX6_requireRole_0 rfl (lv_at hl 1 rfl) ?_
  refine lv_if_lt (tgt := 15) hx hb dX6_requireRole_1 (by decide) (fun h1 => ?_) (fun h1 => ?_)
  · exact rx_throw (text := "no such role") S hfl hC xk_185_189 (by decide) (by decide) hl.1 dX6_requireRole_15 dX6_requireRole_18 dX6_requireRole_19 dX6_requireRole_21 dX6_requireRole_24 hout hlk (Nat.le_of_ble_eq_true rfl) (Nat.le_of_ble_eq_true rfl) (Nat.le_of_ble_eq_true rfl) (Nat.le_of_ble_eq_true rfl)
  · refine lv_iload_n hx hb dX6_requireRole_4 rfl (lv_at hl 1 rfl) ?_
    refine lv_aload_n hx hb dX6_requireRole_5 rfl (lv_at hl 0 rfl) ?_
    refine rw_getr (x := (I, A, K)) S hK hP 0 (by decide) (cK_lo (by decide)) fk_X6_25 rfl dX6_requireRole_6 ?_
    refine rw_geti (x := (I, A, K)) (v := nI nr) S hK hP (dB 0 0) (dB_lt (by decide) (by decide)) (cK_D (by decide)) fk_X6_75 rfl hr0 dX6_requireRole_9 ?_
    refine lv_icmp_lt (tgt := 25) hx hb dX6_requireRole_12 (by decide) (fun h12 => absurd h12 (n_lt (kb.resolve_left h1))) (fun h12 => ?_)
    exact rx_throw (text := "no such role") S hfl hC xk_185_189 (by decide) (by decide) hl.1 dX6_requireRole_15 dX6_requireRole_18 dX6_requireRole_19 dX6_requireRole_21 dX6_requireRole_24 hout hlk (Nat.le_of_ble_eq_true rfl) (Nat.le_of_ble_eq_true rfl) (Nat.le_of_ble_eq_true rfl) (Nat.le_of_ble_eq_true rfl)

set_option maxHeartbeats 1000000 in
set_option maxRecDepth 100000 in
theorem cx_X6_requireRule (l : Launch) (E : En) (I A : Nat → Nat → Int32) (K : Nat → Nat → Int64) (x : Int32) (nr nu : Nat) (hE : Ev cN E) (hD : DOk I A 0 nr nu) (hfl : l.stackTraces = false) (kb : x < 0 ∨ nI nu ≤ x) : vx_Met l yX6_requireRule (wz yX6_requireRule cX6_requireRule 2 none) (rmk 6 1 6 95) (va_Pc [.ref (eP E 0), .int x] (Bw cN E cK (I, A, K))) qNo (xC "java/lang/IndexOutOfBoundsException") 1 6 fr0 := by
  refine en_ofX RX6 rfl (by decide +kernel) (Nat.le_of_ble_eq_true rfl) ?_
  intro p e s m below meth c ls S hr hlk hnm hout hl hB
  have hx := S.1
  have hb := S.2.1
  obtain ⟨hK, hC, hP⟩ := hB
  have hS : va_S (cA cN E) s.heap s.heap [] := va_S.rf
  have hl : lv_has ls 2 [(0, .ref (eP E 0)), (1, .int x)] := hl
  obtain ⟨⟨hn1, hn2⟩, ⟨hr0, hr3⟩, hu3⟩ := id hD
  refine lv_iload_n hx hb dX6_requireRule_0 rfl (lv_at hl 1 rfl) ?_
  refine lv_if_lt (tgt := 15) hx hb dX6_requireRule_1 (by decide) (fun h1 => ?_) (fun h1 => ?_)
  · exact rx_throw (text := "no such rule") S hfl hC xk_185_189 (by decide) (by decide) hl.1 dX6_requireRule_15 dX6_requireRule_18 dX6_requireRule_19 dX6_requireRule_21 dX6_requireRule_24 hout hlk (Nat.le_of_ble_eq_true rfl) (Nat.le_of_ble_eq_true rfl) (Nat.le_of_ble_eq_true rfl) (Nat.le_of_ble_eq_true rfl)
  · refine lv_iload_n hx hb dX6_requireRule_4 rfl (lv_at hl 1 rfl) ?_
    refine lv_aload_n hx hb dX6_requireRule_5 rfl (lv_at hl 0 rfl) ?_
    refine rw_getr (x := (I, A, K)) S hK hP 0 (by decide) (cK_lo (by decide)) fk_X6_25 rfl dX6_requireRule_6 ?_
    refine rw_geti (x := (I, A, K)) (v := nI nu) S hK hP (dB 0 0) (dB_lt (by decide) (by decide)) (cK_D (by decide)) fk_X6_72 rfl hr3 dX6_requireRule_9 ?_
    refine lv_icmp_lt (tgt := 25) hx hb dX6_requireRule_12 (by decide) (fun h12 => absurd h12 (n_lt (kb.resolve_left h1))) (fun h12 => ?_)
    exact rx_throw (text := "no such rule") S hfl hC xk_185_189 (by decide) (by decide) hl.1 dX6_requireRule_15 dX6_requireRule_18 dX6_requireRule_19 dX6_requireRule_21 dX6_requireRule_24 hout hlk (Nat.le_of_ble_eq_true rfl) (Nat.le_of_ble_eq_true rfl) (Nat.le_of_ble_eq_true rfl) (Nat.le_of_ble_eq_true rfl)

set_option maxHeartbeats 1000000 in
set_option maxRecDepth 100000 in
theorem cx_X6_requireScheme (l : Launch) (E : En) (I A : Nat → Nat → Int32) (K : Nat → Nat → Int64) (x : Int32) (nr nu : Nat) (hE : Ev cN E) (hD : DOk I A 0 nr nu) (hfl : l.stackTraces = false) (kb : x < 0 ∨ 2 ≤ x) : vx_Met l yX6_requireScheme (wz yX6_requireScheme cX6_requireScheme 2 none) (rmk 6 1 6 95) (va_Pc [.ref (eP E 0), .int x] (Bw cN E cK (I, A, K))) qNo (xC "java/lang/IndexOutOfBoundsException") 1 6 fr0 := by
  refine en_ofX RX6 rfl (by decide +kernel) (Nat.le_of_ble_eq_true rfl) ?_
  intro p e s m below meth c ls S hr hlk hnm hout hl hB
  have hx := S.1
  have hb := S.2.1
  obtain ⟨hK, hC, hP⟩ := hB
  have hS : va_S (cA cN E) s.heap s.heap [] := va_S.rf
  have hl : lv_has ls 2 [(0, .ref (eP E 0)), (1, .int x)] := hl
  obtain ⟨⟨hn1, hn2⟩, ⟨hr0, hr3⟩, hu3⟩ := id hD
  refine lv_iload_n hx hb dX6_requireScheme_0 rfl (lv_at hl 1 rfl) ?_
  refine lv_if_lt (tgt := 9) hx hb dX6_requireScheme_1 (by decide) (fun h1 => ?_) (fun h1 => ?_)
  · exact rx_throw (text := "no such scheme") S hfl hC xk_185_189 (by decide) (by decide) hl.1 dX6_requireScheme_9 dX6_requireScheme_12 dX6_requireScheme_13 dX6_requireScheme_15 dX6_requireScheme_18 hout hlk (Nat.le_of_ble_eq_true rfl) (Nat.le_of_ble_eq_true rfl) (Nat.le_of_ble_eq_true rfl) (Nat.le_of_ble_eq_true rfl)
  · refine lv_iload_n hx hb dX6_requireScheme_4 rfl (lv_at hl 1 rfl) ?_
    refine lv_iconst (v := 2) hx hb dX6_requireScheme_5 (by decide) ?_
    refine lv_icmp_lt (tgt := 19) hx hb dX6_requireScheme_6 (by decide) (fun h6 => absurd h6 (n_lt (kb.resolve_left h1))) (fun h6 => ?_)
    exact rx_throw (text := "no such scheme") S hfl hC xk_185_189 (by decide) (by decide) hl.1 dX6_requireScheme_9 dX6_requireScheme_12 dX6_requireScheme_13 dX6_requireScheme_15 dX6_requireScheme_18 hout hlk (Nat.le_of_ble_eq_true rfl) (Nat.le_of_ble_eq_true rfl) (Nat.le_of_ble_eq_true rfl) (Nat.le_of_ble_eq_true rfl)

set_option maxHeartbeats 1000000 in
set_option maxRecDepth 100000 in
theorem cx_X6_requireSight (l : Launch) (E : En) (I A : Nat → Nat → Int32) (K : Nat → Nat → Int64) (x : Int32) (nr nu : Nat) (hE : Ev cN E) (hD : DOk I A 0 nr nu) (hfl : l.stackTraces = false) (kb : x < 0 ∨ 5 ≤ x) : vx_Met l yX6_requireSight (wz yX6_requireSight cX6_requireSight 2 none) (rmk 6 1 6 95) (va_Pc [.ref (eP E 0), .int x] (Bw cN E cK (I, A, K))) qNo (xC "java/lang/IllegalArgumentException") 1 6 fr0 := by
  refine en_ofX RX6 rfl (by decide +kernel) (Nat.le_of_ble_eq_true rfl) ?_
  intro p e s m below meth c ls S hr hlk hnm hout hl hB
  have hx := S.1
  have hb := S.2.1
  obtain ⟨hK, hC, hP⟩ := hB
  have hS : va_S (cA cN E) s.heap s.heap [] := va_S.rf
  have hl : lv_has ls 2 [(0, .ref (eP E 0)), (1, .int x)] := hl
  obtain ⟨⟨hn1, hn2⟩, ⟨hr0, hr3⟩, hu3⟩ := id hD
  refine lv_iload_n hx hb dX6_requireSight_0 rfl (lv_at hl 1 rfl) ?_
  refine lv_if_lt (tgt := 9) hx hb dX6_requireSight_1 (by decide) (fun h1 => ?_) (fun h1 => ?_)
  · exact rx_throw (text := "a sight is 0 to 4") S hfl hC xk_50_54 (by decide) (by decide) hl.1 dX6_requireSight_9 dX6_requireSight_12 dX6_requireSight_13 dX6_requireSight_15 dX6_requireSight_18 hout hlk (Nat.le_of_ble_eq_true rfl) (Nat.le_of_ble_eq_true rfl) (Nat.le_of_ble_eq_true rfl) (Nat.le_of_ble_eq_true rfl)
  · refine lv_iload_n hx hb dX6_requireSight_4 rfl (lv_at hl 1 rfl) ?_
    refine lv_iconst (v := 5) hx hb dX6_requireSight_5 (by decide) ?_
    refine lv_icmp_lt (tgt := 19) hx hb dX6_requireSight_6 (by decide) (fun h6 => absurd h6 (n_lt (kb.resolve_left h1))) (fun h6 => ?_)
    exact rx_throw (text := "a sight is 0 to 4") S hfl hC xk_50_54 (by decide) (by decide) hl.1 dX6_requireSight_9 dX6_requireSight_12 dX6_requireSight_13 dX6_requireSight_15 dX6_requireSight_18 hout hlk (Nat.le_of_ble_eq_true rfl) (Nat.le_of_ble_eq_true rfl) (Nat.le_of_ble_eq_true rfl) (Nat.le_of_ble_eq_true rfl)

set_option maxHeartbeats 1000000 in
set_option maxRecDepth 100000 in
theorem cx_X6_requireColour (l : Launch) (E : En) (I A : Nat → Nat → Int32) (K : Nat → Nat → Int64) (x : Int32) (nr nu : Nat) (hE : Ev cN E) (hD : DOk I A 0 nr nu) (hfl : l.stackTraces = false) (kb : x < 0 ∨ 16777215 < x) : vx_Met l yX6_requireColour (wz yX6_requireColour cX6_requireColour 2 none) (rmk 6 1 6 95) (va_Pc [.ref (eP E 0), .int x] (Bw cN E cK (I, A, K))) qNo (xC "java/lang/IllegalArgumentException") 1 6 fr0 := by
  refine en_ofX RX6 rfl (by decide +kernel) (Nat.le_of_ble_eq_true rfl) ?_
  intro p e s m below meth c ls S hr hlk hnm hout hl hB
  have hx := S.1
  have hb := S.2.1
  obtain ⟨hK, hC, hP⟩ := hB
  have hS : va_S (cA cN E) s.heap s.heap [] := va_S.rf
  have hl : lv_has ls 2 [(0, .ref (eP E 0)), (1, .int x)] := hl
  obtain ⟨⟨hn1, hn2⟩, ⟨hr0, hr3⟩, hu3⟩ := id hD
  refine lv_iload_n hx hb dX6_requireColour_0 rfl (lv_at hl 1 rfl) ?_
  refine lv_if_lt (tgt := 10) hx hb dX6_requireColour_1 (by decide) (fun h1 => ?_) (fun h1 => ?_)
  · exact rx_throw (text := "a colour is 0 to 16777215") S hfl hC xk_50_54 (by decide) (by decide) hl.1 dX6_requireColour_10 dX6_requireColour_13 dX6_requireColour_14 dX6_requireColour_16 dX6_requireColour_19 hout hlk (Nat.le_of_ble_eq_true rfl) (Nat.le_of_ble_eq_true rfl) (Nat.le_of_ble_eq_true rfl) (Nat.le_of_ble_eq_true rfl)
  · refine lv_iload_n hx hb dX6_requireColour_4 rfl (lv_at hl 1 rfl) ?_
    refine lv_ldc (v := 16777215) hx hb S.2.2.2.1 (S.2.2.2.2 _ kc_X6_196) dX6_requireColour_5 ?_
    refine lv_icmp_le (tgt := 20) hx hb dX6_requireColour_7 (by decide) (fun h7 => absurd h7 (n_le (kb.resolve_left h1))) (fun h7 => ?_)
    exact rx_throw (text := "a colour is 0 to 16777215") S hfl hC xk_50_54 (by decide) (by decide) hl.1 dX6_requireColour_10 dX6_requireColour_13 dX6_requireColour_14 dX6_requireColour_16 dX6_requireColour_19 hout hlk (Nat.le_of_ble_eq_true rfl) (Nat.le_of_ble_eq_true rfl) (Nat.le_of_ble_eq_true rfl) (Nat.le_of_ble_eq_true rfl)

set_option maxHeartbeats 1000000 in
set_option maxRecDepth 100000 in
theorem c_X6_colour (l : Launch) (E : En) (I A : Nat → Nat → Int32) (K : Nat → Nat → Int64) (nr nu : Nat) (r : Nat) (sc : Nat) (hE : Ev cN E) (hD : DOk I A 0 nr nu) (k1 : r < nr) (k2 : sc < 2) : Met l yX6_colour (wz yX6_colour cX6_colour 3 (some .int)) (rmk 1 0 0 21) (va_Pc [.ref (eP E 0), .int (nI r), .int (nI sc)] (Bw cN E cK (I, A, K))) (qSi (fun zz => zz = A (dB 0 (2 + sc)) r)) 0 0 fr0 := by
  refine en_ofW RX6 rfl (by decide +kernel) (Nat.le_of_ble_eq_true rfl) ?_
  intro p e s m below meth c ls S hr hlk hnm hl hB
  have hx := S.1
  have hb := S.2.1
  obtain ⟨hK, hC, hP⟩ := hB
  have hS : va_S (cA cN E) s.heap s.heap [] := va_S.rf
  have hl : lv_has ls 3 [(0, .ref (eP E 0)), (1, .int (nI r)), (2, .int (nI sc))] := hl
  obtain ⟨⟨hn1, hn2⟩, ⟨hr0, hr3⟩, hu3⟩ := id hD
  refine lv_aload_n hx hb dX6_colour_0 rfl (lv_at hl 0 rfl) ?_
  refine lv_iload_n hx hb dX6_colour_1 rfl (lv_at hl 1 rfl) ?_
  refine cn_sv (ck_V (a := eP E 0) S lk_X6_78 (c_X6_requireRole l E I A K r nr nu hE hD k1) ⟨rfl, rfl⟩ ⟨Nat.le_of_ble_eq_true rfl, Nat.le_of_ble_eq_true rfl⟩ bl_w (rc_w hK hP 0 (by decide) (cK_lo (by decide)) rfl) (bw_U hE hK hC hP hS) rfl hl.1 (Nat.le_of_ble_eq_true rfl) ⟨Nat.le_refl _, Nat.le_refl _⟩ dX6_colour_2 rfl) ?_
  refine lv_aload_n hx hb dX6_colour_5 rfl (lv_at hl 0 rfl) ?_
  refine lv_iload_n hx hb dX6_colour_6 rfl (lv_at hl 2 rfl) ?_
  refine cn_sv (ck_V (a := eP E 0) S lk_X6_82 (c_X6_requireScheme l E I A K sc nr nu hE hD k2) ⟨rfl, rfl⟩ ⟨Nat.le_of_ble_eq_true rfl, Nat.le_of_ble_eq_true rfl⟩ bl_w (rc_w hK hP 0 (by decide) (cK_lo (by decide)) rfl) (bw_U hE hK hC hP hS) rfl hl.1 (Nat.le_of_ble_eq_true rfl) ⟨Nat.le_refl _, Nat.le_refl _⟩ dX6_colour_7 rfl) ?_
  refine lv_aload_n hx hb dX6_colour_10 rfl (lv_at hl 0 rfl) ?_
  refine rw_getr (x := (I, A, K)) S hK hP 0 (by decide) (cK_lo (by decide)) fk_X6_25 rfl dX6_colour_11 ?_
  refine rw_getr (x := (I, A, K)) S hK hP (dB 0 0) (dB_lt (by decide) (by decide)) (cK_D (by decide)) fk_X6_85 rfl dX6_colour_14 ?_
  refine lv_iload_n hx hb dX6_colour_17 rfl (lv_at hl 2 rfl) ?_
  refine rw_aald (x := (I, A, K)) (r := (dB 0 (2 + sc))) S hK hP (dB 0 1) (dB_lt (by decide) (by decide)) 5 (cK_D (by decide)) rfl rfl sc rfl (by omega) (by decide) rfl dX6_colour_18 ?_
  refine lv_iload_n hx hb dX6_colour_19 rfl (lv_at hl 1 rfl) ?_
  refine rw_iald (x := (I, A, K)) (v := A (dB 0 (2 + sc)) r) S hK hP (dB 0 (2 + sc)) (dB_lt (by decide) (by omega)) (cK_col (by omega)) r rfl (by omega) (by decide) rfl dX6_colour_20 ?_
  exact re_si (v := A (dB 0 (2 + sc)) r) hx hb hr hlk rfl dX6_colour_21

set_option maxHeartbeats 1000000 in
set_option maxRecDepth 100000 in
theorem cx_X6_colour_0 (l : Launch) (E : En) (I A : Nat → Nat → Int32) (K : Nat → Nat → Int64) (nr nu : Nat) (x0 : Int32) (x1 : Int32) (hE : Ev cN E) (hD : DOk I A 0 nr nu) (hfl : l.stackTraces = false) (kb : x0 < 0 ∨ nI nr ≤ x0) : vx_Met l yX6_colour (wz yX6_colour cX6_colour 3 (some .int)) (rmk 7 1 6 116) (va_Pc [.ref (eP E 0), .int x0, .int x1] (Bw cN E cK (I, A, K))) qNo (xC "java/lang/IndexOutOfBoundsException") 1 6 fr0 := by
  refine en_ofX RX6 rfl (by decide +kernel) (Nat.le_of_ble_eq_true rfl) ?_
  intro p e s m below meth c ls S hr hlk hnm hout hl hB
  have hx := S.1
  have hb := S.2.1
  obtain ⟨hK, hC, hP⟩ := hB
  have hS : va_S (cA cN E) s.heap s.heap [] := va_S.rf
  have hl : lv_has ls 3 [(0, .ref (eP E 0)), (1, .int x0), (2, .int x1)] := hl
  obtain ⟨⟨hn1, hn2⟩, ⟨hr0, hr3⟩, hu3⟩ := id hD
  refine lv_aload_n hx hb dX6_colour_0 rfl (lv_at hl 0 rfl) ?_
  refine lv_iload_n hx hb dX6_colour_1 rfl (lv_at hl 1 rfl) ?_
  exact xk_V (a := eP E 0) S lk_X6_78 (cx_X6_requireRole l E I A K x0 nr nu hE hD hfl kb) ⟨Nat.le_of_ble_eq_true rfl, Nat.le_of_ble_eq_true rfl⟩ (rc_w hK hP 0 (by decide) (cK_lo (by decide)) rfl) (bw_U hE hK hC hP hS) rfl hl.1 (Nat.le_of_ble_eq_true rfl) dX6_colour_2 rfl hout hlk ⟨Nat.le_of_ble_eq_true rfl, Nat.le_of_ble_eq_true rfl⟩ bl_w

set_option maxHeartbeats 1000000 in
set_option maxRecDepth 100000 in
theorem cx_X6_colour_1 (l : Launch) (E : En) (I A : Nat → Nat → Int32) (K : Nat → Nat → Int64) (nr nu : Nat) (r : Nat) (x1 : Int32) (hE : Ev cN E) (hD : DOk I A 0 nr nu) (hfl : l.stackTraces = false) (k1 : r < nr) (kb : x1 < 0 ∨ 2 ≤ x1) : vx_Met l yX6_colour (wz yX6_colour cX6_colour 3 (some .int)) (rmk 7 1 6 116) (va_Pc [.ref (eP E 0), .int (nI r), .int x1] (Bw cN E cK (I, A, K))) qNo (xC "java/lang/IndexOutOfBoundsException") 1 6 fr0 := by
  refine en_ofX RX6 rfl (by decide +kernel) (Nat.le_of_ble_eq_true rfl) ?_
  intro p e s m below meth c ls S hr hlk hnm hout hl hB
  have hx := S.1
  have hb := S.2.1
  obtain ⟨hK, hC, hP⟩ := hB
  have hS : va_S (cA cN E) s.heap s.heap [] := va_S.rf
  have hl : lv_has ls 3 [(0, .ref (eP E 0)), (1, .int (nI r)), (2, .int x1)] := hl
  obtain ⟨⟨hn1, hn2⟩, ⟨hr0, hr3⟩, hu3⟩ := id hD
  refine lv_aload_n hx hb dX6_colour_0 rfl (lv_at hl 0 rfl) ?_
  refine lv_iload_n hx hb dX6_colour_1 rfl (lv_at hl 1 rfl) ?_
  refine cn_sv (ck_V (a := eP E 0) S lk_X6_78 (c_X6_requireRole l E I A K r nr nu hE hD k1) ⟨rfl, rfl⟩ ⟨Nat.le_of_ble_eq_true rfl, Nat.le_of_ble_eq_true rfl⟩ bl_w (rc_w hK hP 0 (by decide) (cK_lo (by decide)) rfl) (bw_U hE hK hC hP hS) rfl hl.1 (Nat.le_of_ble_eq_true rfl) ⟨Nat.zero_le _, Nat.zero_le _⟩ dX6_colour_2 rfl) ?_
  refine lv_aload_n hx hb dX6_colour_5 rfl (lv_at hl 0 rfl) ?_
  refine lv_iload_n hx hb dX6_colour_6 rfl (lv_at hl 2 rfl) ?_
  exact xk_V (a := eP E 0) S lk_X6_82 (cx_X6_requireScheme l E I A K x1 nr nu hE hD hfl kb) ⟨Nat.le_of_ble_eq_true rfl, Nat.le_of_ble_eq_true rfl⟩ (rc_w hK hP 0 (by decide) (cK_lo (by decide)) rfl) (bw_U hE hK hC hP hS) rfl hl.1 (Nat.le_of_ble_eq_true rfl) dX6_colour_7 rfl hout hlk ⟨Nat.le_of_ble_eq_true rfl, Nat.le_of_ble_eq_true rfl⟩ bl_w

set_option maxHeartbeats 1000000 in
set_option maxRecDepth 100000 in
theorem c_X6_isFixed (l : Launch) (E : En) (I A : Nat → Nat → Int32) (K : Nat → Nat → Int64) (nr nu : Nat) (r : Nat) (hE : Ev cN E) (hD : DOk I A 0 nr nu) (k1 : r < nr) (hf1 : A (dB 0 4) r = 0 ∨ A (dB 0 4) r = 1) : Met l yX6_isFixed (wz yX6_isFixed cX6_isFixed 2 (some .boolean)) (rmk 1 0 0 21) (va_Pc [.ref (eP E 0), .int (nI r)] (Bw cN E cK (I, A, K))) (qSi (fun zz => zz = A (dB 0 4) r)) 0 0 fr0 := by
  refine en_ofW RX6 rfl (by decide +kernel) (Nat.le_of_ble_eq_true rfl) ?_
  intro p e s m below meth c ls S hr hlk hnm hl hB
  have hx := S.1
  have hb := S.2.1
  obtain ⟨hK, hC, hP⟩ := hB
  have hS : va_S (cA cN E) s.heap s.heap [] := va_S.rf
  have hl : lv_has ls 2 [(0, .ref (eP E 0)), (1, .int (nI r))] := hl
  obtain ⟨⟨hn1, hn2⟩, ⟨hr0, hr3⟩, hu3⟩ := id hD
  refine lv_aload_n hx hb dX6_isFixed_0 rfl (lv_at hl 0 rfl) ?_
  refine lv_iload_n hx hb dX6_isFixed_1 rfl (lv_at hl 1 rfl) ?_
  refine cn_sv (ck_V (a := eP E 0) S lk_X6_78 (c_X6_requireRole l E I A K r nr nu hE hD k1) ⟨rfl, rfl⟩ ⟨Nat.le_of_ble_eq_true rfl, Nat.le_of_ble_eq_true rfl⟩ bl_w (rc_w hK hP 0 (by decide) (cK_lo (by decide)) rfl) (bw_U hE hK hC hP hS) rfl hl.1 (Nat.le_of_ble_eq_true rfl) ⟨Nat.le_refl _, Nat.le_refl _⟩ dX6_isFixed_2 rfl) ?_
  refine lv_aload_n hx hb dX6_isFixed_5 rfl (lv_at hl 0 rfl) ?_
  refine rw_getr (x := (I, A, K)) S hK hP 0 (by decide) (cK_lo (by decide)) fk_X6_25 rfl dX6_isFixed_6 ?_
  refine rw_getr (x := (I, A, K)) S hK hP (dB 0 0) (dB_lt (by decide) (by decide)) (cK_D (by decide)) fk_X6_89 rfl dX6_isFixed_9 ?_
  refine lv_iload_n hx hb dX6_isFixed_12 rfl (lv_at hl 1 rfl) ?_
  refine rw_zald (x := (I, A, K)) (v := A (dB 0 4) r) S hK hP (dB 0 4) (dB_lt (by decide) (by decide)) (cK_D (by decide)) r rfl (by omega) (by decide) rfl dX6_isFixed_13 ?_
  exact re_sz (v := A (dB 0 4) r) hx hb hr hlk (by rcases hf1 with q | q <;> rw [q] <;> rfl) rfl dX6_isFixed_14

set_option maxHeartbeats 1000000 in
set_option maxRecDepth 100000 in
theorem cx_X6_isFixed_0 (l : Launch) (E : En) (I A : Nat → Nat → Int32) (K : Nat → Nat → Int64) (nr nu : Nat) (x0 : Int32) (hE : Ev cN E) (hD : DOk I A 0 nr nu) (hfl : l.stackTraces = false) (kb : x0 < 0 ∨ nI nr ≤ x0) : vx_Met l yX6_isFixed (wz yX6_isFixed cX6_isFixed 2 (some .boolean)) (rmk 7 1 6 116) (va_Pc [.ref (eP E 0), .int x0] (Bw cN E cK (I, A, K))) qNo (xC "java/lang/IndexOutOfBoundsException") 1 6 fr0 := by
  refine en_ofX RX6 rfl (by decide +kernel) (Nat.le_of_ble_eq_true rfl) ?_
  intro p e s m below meth c ls S hr hlk hnm hout hl hB
  have hx := S.1
  have hb := S.2.1
  obtain ⟨hK, hC, hP⟩ := hB
  have hS : va_S (cA cN E) s.heap s.heap [] := va_S.rf
  have hl : lv_has ls 2 [(0, .ref (eP E 0)), (1, .int x0)] := hl
  obtain ⟨⟨hn1, hn2⟩, ⟨hr0, hr3⟩, hu3⟩ := id hD
  refine lv_aload_n hx hb dX6_isFixed_0 rfl (lv_at hl 0 rfl) ?_
  refine lv_iload_n hx hb dX6_isFixed_1 rfl (lv_at hl 1 rfl) ?_
  exact xk_V (a := eP E 0) S lk_X6_78 (cx_X6_requireRole l E I A K x0 nr nu hE hD hfl kb) ⟨Nat.le_of_ble_eq_true rfl, Nat.le_of_ble_eq_true rfl⟩ (rc_w hK hP 0 (by decide) (cK_lo (by decide)) rfl) (bw_U hE hK hC hP hS) rfl hl.1 (Nat.le_of_ble_eq_true rfl) dX6_isFixed_2 rfl hout hlk ⟨Nat.le_of_ble_eq_true rfl, Nat.le_of_ble_eq_true rfl⟩ bl_w

set_option maxHeartbeats 1000000 in
set_option maxRecDepth 100000 in
theorem c_X6_luminance (l : Launch) (E : En) (I A : Nat → Nat → Int32) (K : Nat → Nat → Int64) (nr nu : Nat) (r : Nat) (sc : Nat) (hE : Ev cN E) (hD : DOk I A 0 nr nu) (k1 : r < nr) (k2 : sc < 2) : Met l yX6_luminance (wz yX6_luminance cX6_luminance 3 (some .int)) (rmk 2 0 0 43) (va_Pc [.ref (eP E 0), .int (nI r), .int (nI sc)] (Bw cN E cK (I, A, K))) (qSi (fun zz => zz = pBri (A (dB 0 (2 + sc)) r))) 0 0 fr0 := by
  refine en_ofW RX6 rfl (by decide +kernel) (Nat.le_of_ble_eq_true rfl) ?_
  intro p e s m below meth c ls S hr hlk hnm hl hB
  have hx := S.1
  have hb := S.2.1
  obtain ⟨hK, hC, hP⟩ := hB
  have hS : va_S (cA cN E) s.heap s.heap [] := va_S.rf
  have hl : lv_has ls 3 [(0, .ref (eP E 0)), (1, .int (nI r)), (2, .int (nI sc))] := hl
  obtain ⟨⟨hn1, hn2⟩, ⟨hr0, hr3⟩, hu3⟩ := id hD
  refine lv_aload_n hx hb dX6_luminance_0 rfl (lv_at hl 0 rfl) ?_
  refine lv_iload_n hx hb dX6_luminance_1 rfl (lv_at hl 1 rfl) ?_
  refine cn_sv (ck_V (a := eP E 0) S lk_X6_78 (c_X6_requireRole l E I A K r nr nu hE hD k1) ⟨rfl, rfl⟩ ⟨Nat.le_of_ble_eq_true rfl, Nat.le_of_ble_eq_true rfl⟩ bl_w (rc_w hK hP 0 (by decide) (cK_lo (by decide)) rfl) (bw_U hE hK hC hP hS) rfl hl.1 (Nat.le_of_ble_eq_true rfl) ⟨Nat.le_refl _, Nat.le_refl _⟩ dX6_luminance_2 rfl) ?_
  refine lv_aload_n hx hb dX6_luminance_5 rfl (lv_at hl 0 rfl) ?_
  refine lv_iload_n hx hb dX6_luminance_6 rfl (lv_at hl 2 rfl) ?_
  refine cn_sv (ck_V (a := eP E 0) S lk_X6_82 (c_X6_requireScheme l E I A K sc nr nu hE hD k2) ⟨rfl, rfl⟩ ⟨Nat.le_of_ble_eq_true rfl, Nat.le_of_ble_eq_true rfl⟩ bl_w (rc_w hK hP 0 (by decide) (cK_lo (by decide)) rfl) (bw_U hE hK hC hP hS) rfl hl.1 (Nat.le_of_ble_eq_true rfl) ⟨Nat.le_refl _, Nat.le_refl _⟩ dX6_luminance_7 rfl) ?_
  refine lv_aload_n hx hb dX6_luminance_10 rfl (lv_at hl 0 rfl) ?_
  refine rw_getr (x := (I, A, K)) S hK hP 0 (by decide) (cK_lo (by decide)) fk_X6_25 rfl dX6_luminance_11 ?_
  refine rw_getr (x := (I, A, K)) S hK hP (dB 0 0) (dB_lt (by decide) (by decide)) (cK_D (by decide)) fk_X6_85 rfl dX6_luminance_14 ?_
  refine lv_iload_n hx hb dX6_luminance_17 rfl (lv_at hl 2 rfl) ?_
  refine rw_aald (x := (I, A, K)) (r := (dB 0 (2 + sc))) S hK hP (dB 0 1) (dB_lt (by decide) (by decide)) 5 (cK_D (by decide)) rfl rfl sc rfl (by omega) (by decide) rfl dX6_luminance_18 ?_
  refine lv_iload_n hx hb dX6_luminance_19 rfl (lv_at hl 1 rfl) ?_
  refine rw_iald (x := (I, A, K)) (v := A (dB 0 (2 + sc)) r) S hK hP (dB 0 (2 + sc)) (dB_lt (by decide) (by omega)) (cK_col (by omega)) r rfl (by omega) (by decide) rfl dX6_luminance_20 ?_
  refine cn_si (ck_S S lk_X6_93 (c_X0_luminanceOf l (A (dB 0 (2 + sc)) r)) ⟨rfl, rfl⟩ ⟨Nat.le_of_ble_eq_true rfl, Nat.le_of_ble_eq_true rfl⟩ bl_T t_U rfl hl.1 (Nat.le_of_ble_eq_true rfl) ⟨Nat.le_refl _, Nat.le_refl _⟩ dX6_luminance_21 rfl) (fun r1 g2 => ?_)
  obtain rfl : r1 = pBri (A (dB 0 (2 + sc)) r) := g2
  exact re_si (v := (pBri (A (dB 0 (2 + sc)) r))) hx hb hr hlk rfl dX6_luminance_24

set_option maxHeartbeats 1000000 in
set_option maxRecDepth 100000 in
theorem cx_X6_luminance_0 (l : Launch) (E : En) (I A : Nat → Nat → Int32) (K : Nat → Nat → Int64) (nr nu : Nat) (x0 : Int32) (x1 : Int32) (hE : Ev cN E) (hD : DOk I A 0 nr nu) (hfl : l.stackTraces = false) (kb : x0 < 0 ∨ nI nr ≤ x0) : vx_Met l yX6_luminance (wz yX6_luminance cX6_luminance 3 (some .int)) (rmk 7 1 6 116) (va_Pc [.ref (eP E 0), .int x0, .int x1] (Bw cN E cK (I, A, K))) qNo (xC "java/lang/IndexOutOfBoundsException") 1 6 fr0 := by
  refine en_ofX RX6 rfl (by decide +kernel) (Nat.le_of_ble_eq_true rfl) ?_
  intro p e s m below meth c ls S hr hlk hnm hout hl hB
  have hx := S.1
  have hb := S.2.1
  obtain ⟨hK, hC, hP⟩ := hB
  have hS : va_S (cA cN E) s.heap s.heap [] := va_S.rf
  have hl : lv_has ls 3 [(0, .ref (eP E 0)), (1, .int x0), (2, .int x1)] := hl
  obtain ⟨⟨hn1, hn2⟩, ⟨hr0, hr3⟩, hu3⟩ := id hD
  refine lv_aload_n hx hb dX6_luminance_0 rfl (lv_at hl 0 rfl) ?_
  refine lv_iload_n hx hb dX6_luminance_1 rfl (lv_at hl 1 rfl) ?_
  exact xk_V (a := eP E 0) S lk_X6_78 (cx_X6_requireRole l E I A K x0 nr nu hE hD hfl kb) ⟨Nat.le_of_ble_eq_true rfl, Nat.le_of_ble_eq_true rfl⟩ (rc_w hK hP 0 (by decide) (cK_lo (by decide)) rfl) (bw_U hE hK hC hP hS) rfl hl.1 (Nat.le_of_ble_eq_true rfl) dX6_luminance_2 rfl hout hlk ⟨Nat.le_of_ble_eq_true rfl, Nat.le_of_ble_eq_true rfl⟩ bl_w

set_option maxHeartbeats 1000000 in
set_option maxRecDepth 100000 in
theorem cx_X6_luminance_1 (l : Launch) (E : En) (I A : Nat → Nat → Int32) (K : Nat → Nat → Int64) (nr nu : Nat) (r : Nat) (x1 : Int32) (hE : Ev cN E) (hD : DOk I A 0 nr nu) (hfl : l.stackTraces = false) (k1 : r < nr) (kb : x1 < 0 ∨ 2 ≤ x1) : vx_Met l yX6_luminance (wz yX6_luminance cX6_luminance 3 (some .int)) (rmk 7 1 6 116) (va_Pc [.ref (eP E 0), .int (nI r), .int x1] (Bw cN E cK (I, A, K))) qNo (xC "java/lang/IndexOutOfBoundsException") 1 6 fr0 := by
  refine en_ofX RX6 rfl (by decide +kernel) (Nat.le_of_ble_eq_true rfl) ?_
  intro p e s m below meth c ls S hr hlk hnm hout hl hB
  have hx := S.1
  have hb := S.2.1
  obtain ⟨hK, hC, hP⟩ := hB
  have hS : va_S (cA cN E) s.heap s.heap [] := va_S.rf
  have hl : lv_has ls 3 [(0, .ref (eP E 0)), (1, .int (nI r)), (2, .int x1)] := hl
  obtain ⟨⟨hn1, hn2⟩, ⟨hr0, hr3⟩, hu3⟩ := id hD
  refine lv_aload_n hx hb dX6_luminance_0 rfl (lv_at hl 0 rfl) ?_
  refine lv_iload_n hx hb dX6_luminance_1 rfl (lv_at hl 1 rfl) ?_
  refine cn_sv (ck_V (a := eP E 0) S lk_X6_78 (c_X6_requireRole l E I A K r nr nu hE hD k1) ⟨rfl, rfl⟩ ⟨Nat.le_of_ble_eq_true rfl, Nat.le_of_ble_eq_true rfl⟩ bl_w (rc_w hK hP 0 (by decide) (cK_lo (by decide)) rfl) (bw_U hE hK hC hP hS) rfl hl.1 (Nat.le_of_ble_eq_true rfl) ⟨Nat.zero_le _, Nat.zero_le _⟩ dX6_luminance_2 rfl) ?_
  refine lv_aload_n hx hb dX6_luminance_5 rfl (lv_at hl 0 rfl) ?_
  refine lv_iload_n hx hb dX6_luminance_6 rfl (lv_at hl 2 rfl) ?_
  exact xk_V (a := eP E 0) S lk_X6_82 (cx_X6_requireScheme l E I A K x1 nr nu hE hD hfl kb) ⟨Nat.le_of_ble_eq_true rfl, Nat.le_of_ble_eq_true rfl⟩ (rc_w hK hP 0 (by decide) (cK_lo (by decide)) rfl) (bw_U hE hK hC hP hS) rfl hl.1 (Nat.le_of_ble_eq_true rfl) dX6_luminance_7 rfl hout hlk ⟨Nat.le_of_ble_eq_true rfl, Nat.le_of_ble_eq_true rfl⟩ bl_w

set_option maxHeartbeats 1000000 in
set_option maxRecDepth 100000 in
theorem c_X6_contrast (l : Launch) (E : En) (I A : Nat → Nat → Int32) (K : Nat → Nat → Int64) (nr nu : Nat) (r : Nat) (q : Nat) (sc : Nat) (hE : Ev cN E) (hD : DOk I A 0 nr nu) (k1 : r < nr) (k2 : q < nr) (k3 : sc < 2) : Met l yX6_contrast (wz yX6_contrast cX6_contrast 4 (some .int)) (rmk 3 0 0 67) (va_Pc [.ref (eP E 0), .int (nI r), .int (nI q), .int (nI sc)] (Bw cN E cK (I, A, K))) (qSi (fun zz => zz = cCon (A (dB 0 (2 + sc)) r) (A (dB 0 (2 + sc)) q))) 0 0 fr0 := by
  refine en_ofW RX6 rfl (by decide +kernel) (Nat.le_of_ble_eq_true rfl) ?_
  intro p e s m below meth c ls S hr hlk hnm hl hB
  have hx := S.1
  have hb := S.2.1
  obtain ⟨hK, hC, hP⟩ := hB
  have hS : va_S (cA cN E) s.heap s.heap [] := va_S.rf
  have hl : lv_has ls 4 [(0, .ref (eP E 0)), (1, .int (nI r)), (2, .int (nI q)), (3, .int (nI sc))] := hl
  obtain ⟨⟨hn1, hn2⟩, ⟨hr0, hr3⟩, hu3⟩ := id hD
  refine lv_aload_n hx hb dX6_contrast_0 rfl (lv_at hl 0 rfl) ?_
  refine lv_iload_n hx hb dX6_contrast_1 rfl (lv_at hl 1 rfl) ?_
  refine cn_sv (ck_V (a := eP E 0) S lk_X6_78 (c_X6_requireRole l E I A K r nr nu hE hD k1) ⟨rfl, rfl⟩ ⟨Nat.le_of_ble_eq_true rfl, Nat.le_of_ble_eq_true rfl⟩ bl_w (rc_w hK hP 0 (by decide) (cK_lo (by decide)) rfl) (bw_U hE hK hC hP hS) rfl hl.1 (Nat.le_of_ble_eq_true rfl) ⟨Nat.le_refl _, Nat.le_refl _⟩ dX6_contrast_2 rfl) ?_
  refine lv_aload_n hx hb dX6_contrast_5 rfl (lv_at hl 0 rfl) ?_
  refine lv_iload_n hx hb dX6_contrast_6 rfl (lv_at hl 2 rfl) ?_
  refine cn_sv (ck_V (a := eP E 0) S lk_X6_78 (c_X6_requireRole l E I A K q nr nu hE hD k2) ⟨rfl, rfl⟩ ⟨Nat.le_of_ble_eq_true rfl, Nat.le_of_ble_eq_true rfl⟩ bl_w (rc_w hK hP 0 (by decide) (cK_lo (by decide)) rfl) (bw_U hE hK hC hP hS) rfl hl.1 (Nat.le_of_ble_eq_true rfl) ⟨Nat.le_refl _, Nat.le_refl _⟩ dX6_contrast_7 rfl) ?_
  refine lv_aload_n hx hb dX6_contrast_10 rfl (lv_at hl 0 rfl) ?_
  refine lv_iload_n hx hb dX6_contrast_11 rfl (lv_at hl 3 rfl) ?_
  refine cn_sv (ck_V (a := eP E 0) S lk_X6_82 (c_X6_requireScheme l E I A K sc nr nu hE hD k3) ⟨rfl, rfl⟩ ⟨Nat.le_of_ble_eq_true rfl, Nat.le_of_ble_eq_true rfl⟩ bl_w (rc_w hK hP 0 (by decide) (cK_lo (by decide)) rfl) (bw_U hE hK hC hP hS) rfl hl.1 (Nat.le_of_ble_eq_true rfl) ⟨Nat.le_refl _, Nat.le_refl _⟩ dX6_contrast_12 rfl) ?_
  refine lv_aload_n hx hb dX6_contrast_15 rfl (lv_at hl 0 rfl) ?_
  refine rw_getr (x := (I, A, K)) S hK hP 0 (by decide) (cK_lo (by decide)) fk_X6_25 rfl dX6_contrast_16 ?_
  refine rw_getr (x := (I, A, K)) S hK hP (dB 0 0) (dB_lt (by decide) (by decide)) (cK_D (by decide)) fk_X6_85 rfl dX6_contrast_19 ?_
  refine lv_iload_n hx hb dX6_contrast_22 rfl (lv_at hl 3 rfl) ?_
  refine rw_aald (x := (I, A, K)) (r := (dB 0 (2 + sc))) S hK hP (dB 0 1) (dB_lt (by decide) (by decide)) 5 (cK_D (by decide)) rfl rfl sc rfl (by omega) (by decide) rfl dX6_contrast_23 ?_
  refine lv_iload_n hx hb dX6_contrast_24 rfl (lv_at hl 1 rfl) ?_
  refine rw_iald (x := (I, A, K)) (v := A (dB 0 (2 + sc)) r) S hK hP (dB 0 (2 + sc)) (dB_lt (by decide) (by omega)) (cK_col (by omega)) r rfl (by omega) (by decide) rfl dX6_contrast_25 ?_
  refine lv_aload_n hx hb dX6_contrast_26 rfl (lv_at hl 0 rfl) ?_
  refine rw_getr (x := (I, A, K)) S hK hP 0 (by decide) (cK_lo (by decide)) fk_X6_25 rfl dX6_contrast_27 ?_
  refine rw_getr (x := (I, A, K)) S hK hP (dB 0 0) (dB_lt (by decide) (by decide)) (cK_D (by decide)) fk_X6_85 rfl dX6_contrast_30 ?_
  refine lv_iload_n hx hb dX6_contrast_33 rfl (lv_at hl 3 rfl) ?_
  refine rw_aald (x := (I, A, K)) (r := (dB 0 (2 + sc))) S hK hP (dB 0 1) (dB_lt (by decide) (by decide)) 5 (cK_D (by decide)) rfl rfl sc rfl (by omega) (by decide) rfl dX6_contrast_34 ?_
  refine lv_iload_n hx hb dX6_contrast_35 rfl (lv_at hl 2 rfl) ?_
  refine rw_iald (x := (I, A, K)) (v := A (dB 0 (2 + sc)) q) S hK hP (dB 0 (2 + sc)) (dB_lt (by decide) (by omega)) (cK_col (by omega)) q rfl (by omega) (by decide) rfl dX6_contrast_36 ?_
  refine cn_si (ck_S S lk_X6_99 (c_X0_contrastOf l (A (dB 0 (2 + sc)) r) (A (dB 0 (2 + sc)) q)) ⟨rfl, rfl⟩ ⟨Nat.le_of_ble_eq_true rfl, Nat.le_of_ble_eq_true rfl⟩ bl_T t_U rfl hl.1 (Nat.le_of_ble_eq_true rfl) ⟨Nat.le_refl _, Nat.le_refl _⟩ dX6_contrast_37 rfl) (fun r1 g2 => ?_)
  obtain rfl : r1 = cCon (A (dB 0 (2 + sc)) r) (A (dB 0 (2 + sc)) q) := g2
  exact re_si (v := (cCon (A (dB 0 (2 + sc)) r) (A (dB 0 (2 + sc)) q))) hx hb hr hlk rfl dX6_contrast_40

set_option maxHeartbeats 1000000 in
set_option maxRecDepth 100000 in
theorem cx_X6_contrast_0 (l : Launch) (E : En) (I A : Nat → Nat → Int32) (K : Nat → Nat → Int64) (nr nu : Nat) (x0 : Int32) (x1 : Int32) (x2 : Int32) (hE : Ev cN E) (hD : DOk I A 0 nr nu) (hfl : l.stackTraces = false) (kb : x0 < 0 ∨ nI nr ≤ x0) : vx_Met l yX6_contrast (wz yX6_contrast cX6_contrast 4 (some .int)) (rmk 7 1 6 116) (va_Pc [.ref (eP E 0), .int x0, .int x1, .int x2] (Bw cN E cK (I, A, K))) qNo (xC "java/lang/IndexOutOfBoundsException") 1 6 fr0 := by
  refine en_ofX RX6 rfl (by decide +kernel) (Nat.le_of_ble_eq_true rfl) ?_
  intro p e s m below meth c ls S hr hlk hnm hout hl hB
  have hx := S.1
  have hb := S.2.1
  obtain ⟨hK, hC, hP⟩ := hB
  have hS : va_S (cA cN E) s.heap s.heap [] := va_S.rf
  have hl : lv_has ls 4 [(0, .ref (eP E 0)), (1, .int x0), (2, .int x1), (3, .int x2)] := hl
  obtain ⟨⟨hn1, hn2⟩, ⟨hr0, hr3⟩, hu3⟩ := id hD
  refine lv_aload_n hx hb dX6_contrast_0 rfl (lv_at hl 0 rfl) ?_
  refine lv_iload_n hx hb dX6_contrast_1 rfl (lv_at hl 1 rfl) ?_
  exact xk_V (a := eP E 0) S lk_X6_78 (cx_X6_requireRole l E I A K x0 nr nu hE hD hfl kb) ⟨Nat.le_of_ble_eq_true rfl, Nat.le_of_ble_eq_true rfl⟩ (rc_w hK hP 0 (by decide) (cK_lo (by decide)) rfl) (bw_U hE hK hC hP hS) rfl hl.1 (Nat.le_of_ble_eq_true rfl) dX6_contrast_2 rfl hout hlk ⟨Nat.le_of_ble_eq_true rfl, Nat.le_of_ble_eq_true rfl⟩ bl_w

set_option maxHeartbeats 1000000 in
set_option maxRecDepth 100000 in
theorem cx_X6_contrast_1 (l : Launch) (E : En) (I A : Nat → Nat → Int32) (K : Nat → Nat → Int64) (nr nu : Nat) (r : Nat) (x1 : Int32) (x2 : Int32) (hE : Ev cN E) (hD : DOk I A 0 nr nu) (hfl : l.stackTraces = false) (k1 : r < nr) (kb : x1 < 0 ∨ nI nr ≤ x1) : vx_Met l yX6_contrast (wz yX6_contrast cX6_contrast 4 (some .int)) (rmk 7 1 6 116) (va_Pc [.ref (eP E 0), .int (nI r), .int x1, .int x2] (Bw cN E cK (I, A, K))) qNo (xC "java/lang/IndexOutOfBoundsException") 1 6 fr0 := by
  refine en_ofX RX6 rfl (by decide +kernel) (Nat.le_of_ble_eq_true rfl) ?_
  intro p e s m below meth c ls S hr hlk hnm hout hl hB
  have hx := S.1
  have hb := S.2.1
  obtain ⟨hK, hC, hP⟩ := hB
  have hS : va_S (cA cN E) s.heap s.heap [] := va_S.rf
  have hl : lv_has ls 4 [(0, .ref (eP E 0)), (1, .int (nI r)), (2, .int x1), (3, .int x2)] := hl
  obtain ⟨⟨hn1, hn2⟩, ⟨hr0, hr3⟩, hu3⟩ := id hD
  refine lv_aload_n hx hb dX6_contrast_0 rfl (lv_at hl 0 rfl) ?_
  refine lv_iload_n hx hb dX6_contrast_1 rfl (lv_at hl 1 rfl) ?_
  refine cn_sv (ck_V (a := eP E 0) S lk_X6_78 (c_X6_requireRole l E I A K r nr nu hE hD k1) ⟨rfl, rfl⟩ ⟨Nat.le_of_ble_eq_true rfl, Nat.le_of_ble_eq_true rfl⟩ bl_w (rc_w hK hP 0 (by decide) (cK_lo (by decide)) rfl) (bw_U hE hK hC hP hS) rfl hl.1 (Nat.le_of_ble_eq_true rfl) ⟨Nat.zero_le _, Nat.zero_le _⟩ dX6_contrast_2 rfl) ?_
  refine lv_aload_n hx hb dX6_contrast_5 rfl (lv_at hl 0 rfl) ?_
  refine lv_iload_n hx hb dX6_contrast_6 rfl (lv_at hl 2 rfl) ?_
  exact xk_V (a := eP E 0) S lk_X6_78 (cx_X6_requireRole l E I A K x1 nr nu hE hD hfl kb) ⟨Nat.le_of_ble_eq_true rfl, Nat.le_of_ble_eq_true rfl⟩ (rc_w hK hP 0 (by decide) (cK_lo (by decide)) rfl) (bw_U hE hK hC hP hS) rfl hl.1 (Nat.le_of_ble_eq_true rfl) dX6_contrast_7 rfl hout hlk ⟨Nat.le_of_ble_eq_true rfl, Nat.le_of_ble_eq_true rfl⟩ bl_w

set_option maxHeartbeats 1000000 in
set_option maxRecDepth 100000 in
theorem cx_X6_contrast_2 (l : Launch) (E : En) (I A : Nat → Nat → Int32) (K : Nat → Nat → Int64) (nr nu : Nat) (r : Nat) (q : Nat) (x2 : Int32) (hE : Ev cN E) (hD : DOk I A 0 nr nu) (hfl : l.stackTraces = false) (k1 : r < nr) (k2 : q < nr) (kb : x2 < 0 ∨ 2 ≤ x2) : vx_Met l yX6_contrast (wz yX6_contrast cX6_contrast 4 (some .int)) (rmk 7 1 6 116) (va_Pc [.ref (eP E 0), .int (nI r), .int (nI q), .int x2] (Bw cN E cK (I, A, K))) qNo (xC "java/lang/IndexOutOfBoundsException") 1 6 fr0 := by
  refine en_ofX RX6 rfl (by decide +kernel) (Nat.le_of_ble_eq_true rfl) ?_
  intro p e s m below meth c ls S hr hlk hnm hout hl hB
  have hx := S.1
  have hb := S.2.1
  obtain ⟨hK, hC, hP⟩ := hB
  have hS : va_S (cA cN E) s.heap s.heap [] := va_S.rf
  have hl : lv_has ls 4 [(0, .ref (eP E 0)), (1, .int (nI r)), (2, .int (nI q)), (3, .int x2)] := hl
  obtain ⟨⟨hn1, hn2⟩, ⟨hr0, hr3⟩, hu3⟩ := id hD
  refine lv_aload_n hx hb dX6_contrast_0 rfl (lv_at hl 0 rfl) ?_
  refine lv_iload_n hx hb dX6_contrast_1 rfl (lv_at hl 1 rfl) ?_
  refine cn_sv (ck_V (a := eP E 0) S lk_X6_78 (c_X6_requireRole l E I A K r nr nu hE hD k1) ⟨rfl, rfl⟩ ⟨Nat.le_of_ble_eq_true rfl, Nat.le_of_ble_eq_true rfl⟩ bl_w (rc_w hK hP 0 (by decide) (cK_lo (by decide)) rfl) (bw_U hE hK hC hP hS) rfl hl.1 (Nat.le_of_ble_eq_true rfl) ⟨Nat.zero_le _, Nat.zero_le _⟩ dX6_contrast_2 rfl) ?_
  refine lv_aload_n hx hb dX6_contrast_5 rfl (lv_at hl 0 rfl) ?_
  refine lv_iload_n hx hb dX6_contrast_6 rfl (lv_at hl 2 rfl) ?_
  refine cn_sv (ck_V (a := eP E 0) S lk_X6_78 (c_X6_requireRole l E I A K q nr nu hE hD k2) ⟨rfl, rfl⟩ ⟨Nat.le_of_ble_eq_true rfl, Nat.le_of_ble_eq_true rfl⟩ bl_w (rc_w hK hP 0 (by decide) (cK_lo (by decide)) rfl) (bw_U hE hK hC hP hS) rfl hl.1 (Nat.le_of_ble_eq_true rfl) ⟨Nat.zero_le _, Nat.zero_le _⟩ dX6_contrast_7 rfl) ?_
  refine lv_aload_n hx hb dX6_contrast_10 rfl (lv_at hl 0 rfl) ?_
  refine lv_iload_n hx hb dX6_contrast_11 rfl (lv_at hl 3 rfl) ?_
  exact xk_V (a := eP E 0) S lk_X6_82 (cx_X6_requireScheme l E I A K x2 nr nu hE hD hfl kb) ⟨Nat.le_of_ble_eq_true rfl, Nat.le_of_ble_eq_true rfl⟩ (rc_w hK hP 0 (by decide) (cK_lo (by decide)) rfl) (bw_U hE hK hC hP hS) rfl hl.1 (Nat.le_of_ble_eq_true rfl) dX6_contrast_12 rfl hout hlk ⟨Nat.le_of_ble_eq_true rfl, Nat.le_of_ble_eq_true rfl⟩ bl_w

set_option maxHeartbeats 1000000 in
set_option maxRecDepth 100000 in
theorem c_X6_seen (l : Launch) (E : En) (I A : Nat → Nat → Int32) (K : Nat → Nat → Int64) (nr nu : Nat) (r : Nat) (sc : Nat) (t : Nat) (hE : Ev cN E) (hD : DOk I A 0 nr nu) (k1 : r < nr) (k2 : sc < 2) (k3 : t < 5) : Met l yX6_seen (wz yX6_seen cX6_seen 4 (some .int)) (rmk 3 0 0 66) (va_Pc [.ref (eP E 0), .int (nI r), .int (nI sc), .int (nI t)] (Bw cN E cK (I, A, K))) (qSi (fun zz => zz = cSeen t (A (dB 0 (2 + sc)) r))) 0 0 fr0 := by
  refine en_ofW RX6 rfl (by decide +kernel) (Nat.le_of_ble_eq_true rfl) ?_
  intro p e s m below meth c ls S hr hlk hnm hl hB
  have hx := S.1
  have hb := S.2.1
  obtain ⟨hK, hC, hP⟩ := hB
  have hS : va_S (cA cN E) s.heap s.heap [] := va_S.rf
  have hl : lv_has ls 4 [(0, .ref (eP E 0)), (1, .int (nI r)), (2, .int (nI sc)), (3, .int (nI t))] := hl
  obtain ⟨⟨hn1, hn2⟩, ⟨hr0, hr3⟩, hu3⟩ := id hD
  refine lv_aload_n hx hb dX6_seen_0 rfl (lv_at hl 0 rfl) ?_
  refine lv_iload_n hx hb dX6_seen_1 rfl (lv_at hl 1 rfl) ?_
  refine cn_sv (ck_V (a := eP E 0) S lk_X6_78 (c_X6_requireRole l E I A K r nr nu hE hD k1) ⟨rfl, rfl⟩ ⟨Nat.le_of_ble_eq_true rfl, Nat.le_of_ble_eq_true rfl⟩ bl_w (rc_w hK hP 0 (by decide) (cK_lo (by decide)) rfl) (bw_U hE hK hC hP hS) rfl hl.1 (Nat.le_of_ble_eq_true rfl) ⟨Nat.le_refl _, Nat.le_refl _⟩ dX6_seen_2 rfl) ?_
  refine lv_aload_n hx hb dX6_seen_5 rfl (lv_at hl 0 rfl) ?_
  refine lv_iload_n hx hb dX6_seen_6 rfl (lv_at hl 2 rfl) ?_
  refine cn_sv (ck_V (a := eP E 0) S lk_X6_82 (c_X6_requireScheme l E I A K sc nr nu hE hD k2) ⟨rfl, rfl⟩ ⟨Nat.le_of_ble_eq_true rfl, Nat.le_of_ble_eq_true rfl⟩ bl_w (rc_w hK hP 0 (by decide) (cK_lo (by decide)) rfl) (bw_U hE hK hC hP hS) rfl hl.1 (Nat.le_of_ble_eq_true rfl) ⟨Nat.le_refl _, Nat.le_refl _⟩ dX6_seen_7 rfl) ?_
  refine lv_aload_n hx hb dX6_seen_10 rfl (lv_at hl 0 rfl) ?_
  refine lv_iload_n hx hb dX6_seen_11 rfl (lv_at hl 3 rfl) ?_
  refine cn_sv (ck_V (a := eP E 0) S lk_X6_103 (c_X6_requireSight l E I A K t nr nu hE hD k3) ⟨rfl, rfl⟩ ⟨Nat.le_of_ble_eq_true rfl, Nat.le_of_ble_eq_true rfl⟩ bl_w (rc_w hK hP 0 (by decide) (cK_lo (by decide)) rfl) (bw_U hE hK hC hP hS) rfl hl.1 (Nat.le_of_ble_eq_true rfl) ⟨Nat.le_refl _, Nat.le_refl _⟩ dX6_seen_12 rfl) ?_
  refine lv_aload_n hx hb dX6_seen_15 rfl (lv_at hl 0 rfl) ?_
  refine rw_getr (x := (I, A, K)) S hK hP 0 (by decide) (cK_lo (by decide)) fk_X6_25 rfl dX6_seen_16 ?_
  refine rw_getr (x := (I, A, K)) S hK hP (dB 0 0) (dB_lt (by decide) (by decide)) (cK_D (by decide)) fk_X6_85 rfl dX6_seen_19 ?_
  refine lv_iload_n hx hb dX6_seen_22 rfl (lv_at hl 2 rfl) ?_
  refine rw_aald (x := (I, A, K)) (r := (dB 0 (2 + sc))) S hK hP (dB 0 1) (dB_lt (by decide) (by decide)) 5 (cK_D (by decide)) rfl rfl sc rfl (by omega) (by decide) rfl dX6_seen_23 ?_
  refine lv_iload_n hx hb dX6_seen_24 rfl (lv_at hl 1 rfl) ?_
  refine rw_iald (x := (I, A, K)) (v := A (dB 0 (2 + sc)) r) S hK hP (dB 0 (2 + sc)) (dB_lt (by decide) (by omega)) (cK_col (by omega)) r rfl (by omega) (by decide) rfl dX6_seen_25 ?_
  refine lv_iload_n hx hb dX6_seen_26 rfl (lv_at hl 3 rfl) ?_
  refine cn_si (ck_S S lk_X6_106 (c_X0_seenWith l E (A (dB 0 (2 + sc)) r) t k3) ⟨rfl, rfl⟩ ⟨Nat.le_of_ble_eq_true rfl, Nat.le_of_ble_eq_true rfl⟩ bl_s (bs_U hE hC hS) rfl hl.1 (Nat.le_of_ble_eq_true rfl) ⟨Nat.le_refl _, Nat.le_refl _⟩ dX6_seen_27 rfl) (fun r1 g2 => ?_)
  obtain rfl : r1 = cSeen t (A (dB 0 (2 + sc)) r) := g2
  exact re_si (v := (cSeen t (A (dB 0 (2 + sc)) r))) hx hb hr hlk rfl dX6_seen_30

set_option maxHeartbeats 1000000 in
set_option maxRecDepth 100000 in
theorem cx_X6_seen_0 (l : Launch) (E : En) (I A : Nat → Nat → Int32) (K : Nat → Nat → Int64) (nr nu : Nat) (x0 : Int32) (x1 : Int32) (x2 : Int32) (hE : Ev cN E) (hD : DOk I A 0 nr nu) (hfl : l.stackTraces = false) (kb : x0 < 0 ∨ nI nr ≤ x0) : vx_Met l yX6_seen (wz yX6_seen cX6_seen 4 (some .int)) (rmk 7 1 6 116) (va_Pc [.ref (eP E 0), .int x0, .int x1, .int x2] (Bw cN E cK (I, A, K))) qNo (xC "java/lang/IndexOutOfBoundsException") 1 6 fr0 := by
  refine en_ofX RX6 rfl (by decide +kernel) (Nat.le_of_ble_eq_true rfl) ?_
  intro p e s m below meth c ls S hr hlk hnm hout hl hB
  have hx := S.1
  have hb := S.2.1
  obtain ⟨hK, hC, hP⟩ := hB
  have hS : va_S (cA cN E) s.heap s.heap [] := va_S.rf
  have hl : lv_has ls 4 [(0, .ref (eP E 0)), (1, .int x0), (2, .int x1), (3, .int x2)] := hl
  obtain ⟨⟨hn1, hn2⟩, ⟨hr0, hr3⟩, hu3⟩ := id hD
  refine lv_aload_n hx hb dX6_seen_0 rfl (lv_at hl 0 rfl) ?_
  refine lv_iload_n hx hb dX6_seen_1 rfl (lv_at hl 1 rfl) ?_
  exact xk_V (a := eP E 0) S lk_X6_78 (cx_X6_requireRole l E I A K x0 nr nu hE hD hfl kb) ⟨Nat.le_of_ble_eq_true rfl, Nat.le_of_ble_eq_true rfl⟩ (rc_w hK hP 0 (by decide) (cK_lo (by decide)) rfl) (bw_U hE hK hC hP hS) rfl hl.1 (Nat.le_of_ble_eq_true rfl) dX6_seen_2 rfl hout hlk ⟨Nat.le_of_ble_eq_true rfl, Nat.le_of_ble_eq_true rfl⟩ bl_w

set_option maxHeartbeats 1000000 in
set_option maxRecDepth 100000 in
theorem cx_X6_seen_1 (l : Launch) (E : En) (I A : Nat → Nat → Int32) (K : Nat → Nat → Int64) (nr nu : Nat) (r : Nat) (x1 : Int32) (x2 : Int32) (hE : Ev cN E) (hD : DOk I A 0 nr nu) (hfl : l.stackTraces = false) (k1 : r < nr) (kb : x1 < 0 ∨ 2 ≤ x1) : vx_Met l yX6_seen (wz yX6_seen cX6_seen 4 (some .int)) (rmk 7 1 6 116) (va_Pc [.ref (eP E 0), .int (nI r), .int x1, .int x2] (Bw cN E cK (I, A, K))) qNo (xC "java/lang/IndexOutOfBoundsException") 1 6 fr0 := by
  refine en_ofX RX6 rfl (by decide +kernel) (Nat.le_of_ble_eq_true rfl) ?_
  intro p e s m below meth c ls S hr hlk hnm hout hl hB
  have hx := S.1
  have hb := S.2.1
  obtain ⟨hK, hC, hP⟩ := hB
  have hS : va_S (cA cN E) s.heap s.heap [] := va_S.rf
  have hl : lv_has ls 4 [(0, .ref (eP E 0)), (1, .int (nI r)), (2, .int x1), (3, .int x2)] := hl
  obtain ⟨⟨hn1, hn2⟩, ⟨hr0, hr3⟩, hu3⟩ := id hD
  refine lv_aload_n hx hb dX6_seen_0 rfl (lv_at hl 0 rfl) ?_
  refine lv_iload_n hx hb dX6_seen_1 rfl (lv_at hl 1 rfl) ?_
  refine cn_sv (ck_V (a := eP E 0) S lk_X6_78 (c_X6_requireRole l E I A K r nr nu hE hD k1) ⟨rfl, rfl⟩ ⟨Nat.le_of_ble_eq_true rfl, Nat.le_of_ble_eq_true rfl⟩ bl_w (rc_w hK hP 0 (by decide) (cK_lo (by decide)) rfl) (bw_U hE hK hC hP hS) rfl hl.1 (Nat.le_of_ble_eq_true rfl) ⟨Nat.zero_le _, Nat.zero_le _⟩ dX6_seen_2 rfl) ?_
  refine lv_aload_n hx hb dX6_seen_5 rfl (lv_at hl 0 rfl) ?_
  refine lv_iload_n hx hb dX6_seen_6 rfl (lv_at hl 2 rfl) ?_
  exact xk_V (a := eP E 0) S lk_X6_82 (cx_X6_requireScheme l E I A K x1 nr nu hE hD hfl kb) ⟨Nat.le_of_ble_eq_true rfl, Nat.le_of_ble_eq_true rfl⟩ (rc_w hK hP 0 (by decide) (cK_lo (by decide)) rfl) (bw_U hE hK hC hP hS) rfl hl.1 (Nat.le_of_ble_eq_true rfl) dX6_seen_7 rfl hout hlk ⟨Nat.le_of_ble_eq_true rfl, Nat.le_of_ble_eq_true rfl⟩ bl_w

set_option maxHeartbeats 1000000 in
set_option maxRecDepth 100000 in
theorem cx_X6_seen_2 (l : Launch) (E : En) (I A : Nat → Nat → Int32) (K : Nat → Nat → Int64) (nr nu : Nat) (r : Nat) (sc : Nat) (x2 : Int32) (hE : Ev cN E) (hD : DOk I A 0 nr nu) (hfl : l.stackTraces = false) (k1 : r < nr) (k2 : sc < 2) (kb : x2 < 0 ∨ 5 ≤ x2) : vx_Met l yX6_seen (wz yX6_seen cX6_seen 4 (some .int)) (rmk 7 1 6 116) (va_Pc [.ref (eP E 0), .int (nI r), .int (nI sc), .int x2] (Bw cN E cK (I, A, K))) qNo (xC "java/lang/IllegalArgumentException") 1 6 fr0 := by
  refine en_ofX RX6 rfl (by decide +kernel) (Nat.le_of_ble_eq_true rfl) ?_
  intro p e s m below meth c ls S hr hlk hnm hout hl hB
  have hx := S.1
  have hb := S.2.1
  obtain ⟨hK, hC, hP⟩ := hB
  have hS : va_S (cA cN E) s.heap s.heap [] := va_S.rf
  have hl : lv_has ls 4 [(0, .ref (eP E 0)), (1, .int (nI r)), (2, .int (nI sc)), (3, .int x2)] := hl
  obtain ⟨⟨hn1, hn2⟩, ⟨hr0, hr3⟩, hu3⟩ := id hD
  refine lv_aload_n hx hb dX6_seen_0 rfl (lv_at hl 0 rfl) ?_
  refine lv_iload_n hx hb dX6_seen_1 rfl (lv_at hl 1 rfl) ?_
  refine cn_sv (ck_V (a := eP E 0) S lk_X6_78 (c_X6_requireRole l E I A K r nr nu hE hD k1) ⟨rfl, rfl⟩ ⟨Nat.le_of_ble_eq_true rfl, Nat.le_of_ble_eq_true rfl⟩ bl_w (rc_w hK hP 0 (by decide) (cK_lo (by decide)) rfl) (bw_U hE hK hC hP hS) rfl hl.1 (Nat.le_of_ble_eq_true rfl) ⟨Nat.zero_le _, Nat.zero_le _⟩ dX6_seen_2 rfl) ?_
  refine lv_aload_n hx hb dX6_seen_5 rfl (lv_at hl 0 rfl) ?_
  refine lv_iload_n hx hb dX6_seen_6 rfl (lv_at hl 2 rfl) ?_
  refine cn_sv (ck_V (a := eP E 0) S lk_X6_82 (c_X6_requireScheme l E I A K sc nr nu hE hD k2) ⟨rfl, rfl⟩ ⟨Nat.le_of_ble_eq_true rfl, Nat.le_of_ble_eq_true rfl⟩ bl_w (rc_w hK hP 0 (by decide) (cK_lo (by decide)) rfl) (bw_U hE hK hC hP hS) rfl hl.1 (Nat.le_of_ble_eq_true rfl) ⟨Nat.zero_le _, Nat.zero_le _⟩ dX6_seen_7 rfl) ?_
  refine lv_aload_n hx hb dX6_seen_10 rfl (lv_at hl 0 rfl) ?_
  refine lv_iload_n hx hb dX6_seen_11 rfl (lv_at hl 3 rfl) ?_
  exact xk_V (a := eP E 0) S lk_X6_103 (cx_X6_requireSight l E I A K x2 nr nu hE hD hfl kb) ⟨Nat.le_of_ble_eq_true rfl, Nat.le_of_ble_eq_true rfl⟩ (rc_w hK hP 0 (by decide) (cK_lo (by decide)) rfl) (bw_U hE hK hC hP hS) rfl hl.1 (Nat.le_of_ble_eq_true rfl) dX6_seen_12 rfl hout hlk ⟨Nat.le_of_ble_eq_true rfl, Nat.le_of_ble_eq_true rfl⟩ bl_w

set_option maxHeartbeats 1000000 in
set_option maxRecDepth 100000 in
theorem c_X6_difference (l : Launch) (E : En) (I A : Nat → Nat → Int32) (K : Nat → Nat → Int64) (nr nu : Nat) (r : Nat) (q : Nat) (sc : Nat) (t : Nat) (hE : Ev cN E) (hD : DOk I A 0 nr nu) (k1 : r < nr) (k2 : q < nr) (k3 : sc < 2) (k4 : t < 5) : Met l yX6_difference (wz yX6_difference cX6_difference 5 (some .int)) (rmk 3 0 0 67) (va_Pc [.ref (eP E 0), .int (nI r), .int (nI q), .int (nI sc), .int (nI t)] (Bw cN E cK (I, A, K))) (qSi (fun zz => zz = cDif t (A (dB 0 (2 + sc)) r) (A (dB 0 (2 + sc)) q))) 0 0 fr0 := by
  refine en_ofW RX6 rfl (by decide +kernel) (Nat.le_of_ble_eq_true rfl) ?_
  intro p e s m below meth c ls S hr hlk hnm hl hB
  have hx := S.1
  have hb := S.2.1
  obtain ⟨hK, hC, hP⟩ := hB
  have hS : va_S (cA cN E) s.heap s.heap [] := va_S.rf
  have hl : lv_has ls 5 [(0, .ref (eP E 0)), (1, .int (nI r)), (2, .int (nI q)), (3, .int (nI sc)), (4, .int (nI t))] := hl
  obtain ⟨⟨hn1, hn2⟩, ⟨hr0, hr3⟩, hu3⟩ := id hD
  refine lv_aload_n hx hb dX6_difference_0 rfl (lv_at hl 0 rfl) ?_
  refine lv_iload_n hx hb dX6_difference_1 rfl (lv_at hl 1 rfl) ?_
  refine cn_sv (ck_V (a := eP E 0) S lk_X6_78 (c_X6_requireRole l E I A K r nr nu hE hD k1) ⟨rfl, rfl⟩ ⟨Nat.le_of_ble_eq_true rfl, Nat.le_of_ble_eq_true rfl⟩ bl_w (rc_w hK hP 0 (by decide) (cK_lo (by decide)) rfl) (bw_U hE hK hC hP hS) rfl hl.1 (Nat.le_of_ble_eq_true rfl) ⟨Nat.le_refl _, Nat.le_refl _⟩ dX6_difference_2 rfl) ?_
  refine lv_aload_n hx hb dX6_difference_5 rfl (lv_at hl 0 rfl) ?_
  refine lv_iload_n hx hb dX6_difference_6 rfl (lv_at hl 2 rfl) ?_
  refine cn_sv (ck_V (a := eP E 0) S lk_X6_78 (c_X6_requireRole l E I A K q nr nu hE hD k2) ⟨rfl, rfl⟩ ⟨Nat.le_of_ble_eq_true rfl, Nat.le_of_ble_eq_true rfl⟩ bl_w (rc_w hK hP 0 (by decide) (cK_lo (by decide)) rfl) (bw_U hE hK hC hP hS) rfl hl.1 (Nat.le_of_ble_eq_true rfl) ⟨Nat.le_refl _, Nat.le_refl _⟩ dX6_difference_7 rfl) ?_
  refine lv_aload_n hx hb dX6_difference_10 rfl (lv_at hl 0 rfl) ?_
  refine lv_iload_n hx hb dX6_difference_11 rfl (lv_at hl 3 rfl) ?_
  refine cn_sv (ck_V (a := eP E 0) S lk_X6_82 (c_X6_requireScheme l E I A K sc nr nu hE hD k3) ⟨rfl, rfl⟩ ⟨Nat.le_of_ble_eq_true rfl, Nat.le_of_ble_eq_true rfl⟩ bl_w (rc_w hK hP 0 (by decide) (cK_lo (by decide)) rfl) (bw_U hE hK hC hP hS) rfl hl.1 (Nat.le_of_ble_eq_true rfl) ⟨Nat.le_refl _, Nat.le_refl _⟩ dX6_difference_12 rfl) ?_
  refine lv_aload_n hx hb dX6_difference_15 rfl (lv_at hl 0 rfl) ?_
  refine lv_iload hx hb dX6_difference_16 (lv_at hl 4 rfl) ?_
  refine cn_sv (ck_V (a := eP E 0) S lk_X6_103 (c_X6_requireSight l E I A K t nr nu hE hD k4) ⟨rfl, rfl⟩ ⟨Nat.le_of_ble_eq_true rfl, Nat.le_of_ble_eq_true rfl⟩ bl_w (rc_w hK hP 0 (by decide) (cK_lo (by decide)) rfl) (bw_U hE hK hC hP hS) rfl hl.1 (Nat.le_of_ble_eq_true rfl) ⟨Nat.le_refl _, Nat.le_refl _⟩ dX6_difference_18 rfl) ?_
  refine lv_aload_n hx hb dX6_difference_21 rfl (lv_at hl 0 rfl) ?_
  refine rw_getr (x := (I, A, K)) S hK hP 0 (by decide) (cK_lo (by decide)) fk_X6_25 rfl dX6_difference_22 ?_
  refine rw_getr (x := (I, A, K)) S hK hP (dB 0 0) (dB_lt (by decide) (by decide)) (cK_D (by decide)) fk_X6_85 rfl dX6_difference_25 ?_
  refine lv_iload_n hx hb dX6_difference_28 rfl (lv_at hl 3 rfl) ?_
  refine rw_aald (x := (I, A, K)) (r := (dB 0 (2 + sc))) S hK hP (dB 0 1) (dB_lt (by decide) (by decide)) 5 (cK_D (by decide)) rfl rfl sc rfl (by omega) (by decide) rfl dX6_difference_29 ?_
  refine lv_iload_n hx hb dX6_difference_30 rfl (lv_at hl 1 rfl) ?_
  refine rw_iald (x := (I, A, K)) (v := A (dB 0 (2 + sc)) r) S hK hP (dB 0 (2 + sc)) (dB_lt (by decide) (by omega)) (cK_col (by omega)) r rfl (by omega) (by decide) rfl dX6_difference_31 ?_
  refine lv_aload_n hx hb dX6_difference_32 rfl (lv_at hl 0 rfl) ?_
  refine rw_getr (x := (I, A, K)) S hK hP 0 (by decide) (cK_lo (by decide)) fk_X6_25 rfl dX6_difference_33 ?_
  refine rw_getr (x := (I, A, K)) S hK hP (dB 0 0) (dB_lt (by decide) (by decide)) (cK_D (by decide)) fk_X6_85 rfl dX6_difference_36 ?_
  refine lv_iload_n hx hb dX6_difference_39 rfl (lv_at hl 3 rfl) ?_
  refine rw_aald (x := (I, A, K)) (r := (dB 0 (2 + sc))) S hK hP (dB 0 1) (dB_lt (by decide) (by decide)) 5 (cK_D (by decide)) rfl rfl sc rfl (by omega) (by decide) rfl dX6_difference_40 ?_
  refine lv_iload_n hx hb dX6_difference_41 rfl (lv_at hl 2 rfl) ?_
  refine rw_iald (x := (I, A, K)) (v := A (dB 0 (2 + sc)) q) S hK hP (dB 0 (2 + sc)) (dB_lt (by decide) (by omega)) (cK_col (by omega)) q rfl (by omega) (by decide) rfl dX6_difference_42 ?_
  refine lv_iload hx hb dX6_difference_43 (lv_at hl 4 rfl) ?_
  refine cn_si (ck_S S lk_X6_109 (c_X0_differenceOf l E (A (dB 0 (2 + sc)) r) (A (dB 0 (2 + sc)) q) t k4) ⟨rfl, rfl⟩ ⟨Nat.le_of_ble_eq_true rfl, Nat.le_of_ble_eq_true rfl⟩ bl_s (bs_U hE hC hS) rfl hl.1 (Nat.le_of_ble_eq_true rfl) ⟨Nat.le_refl _, Nat.le_refl _⟩ dX6_difference_45 rfl) (fun r1 g2 => ?_)
  obtain rfl : r1 = cDif t (A (dB 0 (2 + sc)) r) (A (dB 0 (2 + sc)) q) := g2
  exact re_si (v := (cDif t (A (dB 0 (2 + sc)) r) (A (dB 0 (2 + sc)) q))) hx hb hr hlk rfl dX6_difference_48

set_option maxHeartbeats 1000000 in
set_option maxRecDepth 100000 in
theorem cx_X6_difference_0 (l : Launch) (E : En) (I A : Nat → Nat → Int32) (K : Nat → Nat → Int64) (nr nu : Nat) (x0 : Int32) (x1 : Int32) (x2 : Int32) (x3 : Int32) (hE : Ev cN E) (hD : DOk I A 0 nr nu) (hfl : l.stackTraces = false) (kb : x0 < 0 ∨ nI nr ≤ x0) : vx_Met l yX6_difference (wz yX6_difference cX6_difference 5 (some .int)) (rmk 7 1 6 116) (va_Pc [.ref (eP E 0), .int x0, .int x1, .int x2, .int x3] (Bw cN E cK (I, A, K))) qNo (xC "java/lang/IndexOutOfBoundsException") 1 6 fr0 := by
  refine en_ofX RX6 rfl (by decide +kernel) (Nat.le_of_ble_eq_true rfl) ?_
  intro p e s m below meth c ls S hr hlk hnm hout hl hB
  have hx := S.1
  have hb := S.2.1
  obtain ⟨hK, hC, hP⟩ := hB
  have hS : va_S (cA cN E) s.heap s.heap [] := va_S.rf
  have hl : lv_has ls 5 [(0, .ref (eP E 0)), (1, .int x0), (2, .int x1), (3, .int x2), (4, .int x3)] := hl
  obtain ⟨⟨hn1, hn2⟩, ⟨hr0, hr3⟩, hu3⟩ := id hD
  refine lv_aload_n hx hb dX6_difference_0 rfl (lv_at hl 0 rfl) ?_
  refine lv_iload_n hx hb dX6_difference_1 rfl (lv_at hl 1 rfl) ?_
  exact xk_V (a := eP E 0) S lk_X6_78 (cx_X6_requireRole l E I A K x0 nr nu hE hD hfl kb) ⟨Nat.le_of_ble_eq_true rfl, Nat.le_of_ble_eq_true rfl⟩ (rc_w hK hP 0 (by decide) (cK_lo (by decide)) rfl) (bw_U hE hK hC hP hS) rfl hl.1 (Nat.le_of_ble_eq_true rfl) dX6_difference_2 rfl hout hlk ⟨Nat.le_of_ble_eq_true rfl, Nat.le_of_ble_eq_true rfl⟩ bl_w

set_option maxHeartbeats 1000000 in
set_option maxRecDepth 100000 in
theorem cx_X6_difference_1 (l : Launch) (E : En) (I A : Nat → Nat → Int32) (K : Nat → Nat → Int64) (nr nu : Nat) (r : Nat) (x1 : Int32) (x2 : Int32) (x3 : Int32) (hE : Ev cN E) (hD : DOk I A 0 nr nu) (hfl : l.stackTraces = false) (k1 : r < nr) (kb : x1 < 0 ∨ nI nr ≤ x1) : vx_Met l yX6_difference (wz yX6_difference cX6_difference 5 (some .int)) (rmk 7 1 6 116) (va_Pc [.ref (eP E 0), .int (nI r), .int x1, .int x2, .int x3] (Bw cN E cK (I, A, K))) qNo (xC "java/lang/IndexOutOfBoundsException") 1 6 fr0 := by
  refine en_ofX RX6 rfl (by decide +kernel) (Nat.le_of_ble_eq_true rfl) ?_
  intro p e s m below meth c ls S hr hlk hnm hout hl hB
  have hx := S.1
  have hb := S.2.1
  obtain ⟨hK, hC, hP⟩ := hB
  have hS : va_S (cA cN E) s.heap s.heap [] := va_S.rf
  have hl : lv_has ls 5 [(0, .ref (eP E 0)), (1, .int (nI r)), (2, .int x1), (3, .int x2), (4, .int x3)] := hl
  obtain ⟨⟨hn1, hn2⟩, ⟨hr0, hr3⟩, hu3⟩ := id hD
  refine lv_aload_n hx hb dX6_difference_0 rfl (lv_at hl 0 rfl) ?_
  refine lv_iload_n hx hb dX6_difference_1 rfl (lv_at hl 1 rfl) ?_
  refine cn_sv (ck_V (a := eP E 0) S lk_X6_78 (c_X6_requireRole l E I A K r nr nu hE hD k1) ⟨rfl, rfl⟩ ⟨Nat.le_of_ble_eq_true rfl, Nat.le_of_ble_eq_true rfl⟩ bl_w (rc_w hK hP 0 (by decide) (cK_lo (by decide)) rfl) (bw_U hE hK hC hP hS) rfl hl.1 (Nat.le_of_ble_eq_true rfl) ⟨Nat.zero_le _, Nat.zero_le _⟩ dX6_difference_2 rfl) ?_
  refine lv_aload_n hx hb dX6_difference_5 rfl (lv_at hl 0 rfl) ?_
  refine lv_iload_n hx hb dX6_difference_6 rfl (lv_at hl 2 rfl) ?_
  exact xk_V (a := eP E 0) S lk_X6_78 (cx_X6_requireRole l E I A K x1 nr nu hE hD hfl kb) ⟨Nat.le_of_ble_eq_true rfl, Nat.le_of_ble_eq_true rfl⟩ (rc_w hK hP 0 (by decide) (cK_lo (by decide)) rfl) (bw_U hE hK hC hP hS) rfl hl.1 (Nat.le_of_ble_eq_true rfl) dX6_difference_7 rfl hout hlk ⟨Nat.le_of_ble_eq_true rfl, Nat.le_of_ble_eq_true rfl⟩ bl_w

set_option maxHeartbeats 1000000 in
set_option maxRecDepth 100000 in
theorem cx_X6_difference_2 (l : Launch) (E : En) (I A : Nat → Nat → Int32) (K : Nat → Nat → Int64) (nr nu : Nat) (r : Nat) (q : Nat) (x2 : Int32) (x3 : Int32) (hE : Ev cN E) (hD : DOk I A 0 nr nu) (hfl : l.stackTraces = false) (k1 : r < nr) (k2 : q < nr) (kb : x2 < 0 ∨ 2 ≤ x2) : vx_Met l yX6_difference (wz yX6_difference cX6_difference 5 (some .int)) (rmk 7 1 6 116) (va_Pc [.ref (eP E 0), .int (nI r), .int (nI q), .int x2, .int x3] (Bw cN E cK (I, A, K))) qNo (xC "java/lang/IndexOutOfBoundsException") 1 6 fr0 := by
  refine en_ofX RX6 rfl (by decide +kernel) (Nat.le_of_ble_eq_true rfl) ?_
  intro p e s m below meth c ls S hr hlk hnm hout hl hB
  have hx := S.1
  have hb := S.2.1
  obtain ⟨hK, hC, hP⟩ := hB
  have hS : va_S (cA cN E) s.heap s.heap [] := va_S.rf
  have hl : lv_has ls 5 [(0, .ref (eP E 0)), (1, .int (nI r)), (2, .int (nI q)), (3, .int x2), (4, .int x3)] := hl
  obtain ⟨⟨hn1, hn2⟩, ⟨hr0, hr3⟩, hu3⟩ := id hD
  refine lv_aload_n hx hb dX6_difference_0 rfl (lv_at hl 0 rfl) ?_
  refine lv_iload_n hx hb dX6_difference_1 rfl (lv_at hl 1 rfl) ?_
  refine cn_sv (ck_V (a := eP E 0) S lk_X6_78 (c_X6_requireRole l E I A K r nr nu hE hD k1) ⟨rfl, rfl⟩ ⟨Nat.le_of_ble_eq_true rfl, Nat.le_of_ble_eq_true rfl⟩ bl_w (rc_w hK hP 0 (by decide) (cK_lo (by decide)) rfl) (bw_U hE hK hC hP hS) rfl hl.1 (Nat.le_of_ble_eq_true rfl) ⟨Nat.zero_le _, Nat.zero_le _⟩ dX6_difference_2 rfl) ?_
  refine lv_aload_n hx hb dX6_difference_5 rfl (lv_at hl 0 rfl) ?_
  refine lv_iload_n hx hb dX6_difference_6 rfl (lv_at hl 2 rfl) ?_
  refine cn_sv (ck_V (a := eP E 0) S lk_X6_78 (c_X6_requireRole l E I A K q nr nu hE hD k2) ⟨rfl, rfl⟩ ⟨Nat.le_of_ble_eq_true rfl, Nat.le_of_ble_eq_true rfl⟩ bl_w (rc_w hK hP 0 (by decide) (cK_lo (by decide)) rfl) (bw_U hE hK hC hP hS) rfl hl.1 (Nat.le_of_ble_eq_true rfl) ⟨Nat.zero_le _, Nat.zero_le _⟩ dX6_difference_7 rfl) ?_
  refine lv_aload_n hx hb dX6_difference_10 rfl (lv_at hl 0 rfl) ?_
  refine lv_iload_n hx hb dX6_difference_11 rfl (lv_at hl 3 rfl) ?_
  exact xk_V (a := eP E 0) S lk_X6_82 (cx_X6_requireScheme l E I A K x2 nr nu hE hD hfl kb) ⟨Nat.le_of_ble_eq_true rfl, Nat.le_of_ble_eq_true rfl⟩ (rc_w hK hP 0 (by decide) (cK_lo (by decide)) rfl) (bw_U hE hK hC hP hS) rfl hl.1 (Nat.le_of_ble_eq_true rfl) dX6_difference_12 rfl hout hlk ⟨Nat.le_of_ble_eq_true rfl, Nat.le_of_ble_eq_true rfl⟩ bl_w

set_option maxHeartbeats 1000000 in
set_option maxRecDepth 100000 in
theorem cx_X6_difference_3 (l : Launch) (E : En) (I A : Nat → Nat → Int32) (K : Nat → Nat → Int64) (nr nu : Nat) (r : Nat) (q : Nat) (sc : Nat) (x3 : Int32) (hE : Ev cN E) (hD : DOk I A 0 nr nu) (hfl : l.stackTraces = false) (k1 : r < nr) (k2 : q < nr) (k3 : sc < 2) (kb : x3 < 0 ∨ 5 ≤ x3) : vx_Met l yX6_difference (wz yX6_difference cX6_difference 5 (some .int)) (rmk 7 1 6 116) (va_Pc [.ref (eP E 0), .int (nI r), .int (nI q), .int (nI sc), .int x3] (Bw cN E cK (I, A, K))) qNo (xC "java/lang/IllegalArgumentException") 1 6 fr0 := by
  refine en_ofX RX6 rfl (by decide +kernel) (Nat.le_of_ble_eq_true rfl) ?_
  intro p e s m below meth c ls S hr hlk hnm hout hl hB
  have hx := S.1
  have hb := S.2.1
  obtain ⟨hK, hC, hP⟩ := hB
  have hS : va_S (cA cN E) s.heap s.heap [] := va_S.rf
  have hl : lv_has ls 5 [(0, .ref (eP E 0)), (1, .int (nI r)), (2, .int (nI q)), (3, .int (nI sc)), (4, .int x3)] := hl
  obtain ⟨⟨hn1, hn2⟩, ⟨hr0, hr3⟩, hu3⟩ := id hD
  refine lv_aload_n hx hb dX6_difference_0 rfl (lv_at hl 0 rfl) ?_
  refine lv_iload_n hx hb dX6_difference_1 rfl (lv_at hl 1 rfl) ?_
  refine cn_sv (ck_V (a := eP E 0) S lk_X6_78 (c_X6_requireRole l E I A K r nr nu hE hD k1) ⟨rfl, rfl⟩ ⟨Nat.le_of_ble_eq_true rfl, Nat.le_of_ble_eq_true rfl⟩ bl_w (rc_w hK hP 0 (by decide) (cK_lo (by decide)) rfl) (bw_U hE hK hC hP hS) rfl hl.1 (Nat.le_of_ble_eq_true rfl) ⟨Nat.zero_le _, Nat.zero_le _⟩ dX6_difference_2 rfl) ?_
  refine lv_aload_n hx hb dX6_difference_5 rfl (lv_at hl 0 rfl) ?_
  refine lv_iload_n hx hb dX6_difference_6 rfl (lv_at hl 2 rfl) ?_
  refine cn_sv (ck_V (a := eP E 0) S lk_X6_78 (c_X6_requireRole l E I A K q nr nu hE hD k2) ⟨rfl, rfl⟩ ⟨Nat.le_of_ble_eq_true rfl, Nat.le_of_ble_eq_true rfl⟩ bl_w (rc_w hK hP 0 (by decide) (cK_lo (by decide)) rfl) (bw_U hE hK hC hP hS) rfl hl.1 (Nat.le_of_ble_eq_true rfl) ⟨Nat.zero_le _, Nat.zero_le _⟩ dX6_difference_7 rfl) ?_
  refine lv_aload_n hx hb dX6_difference_10 rfl (lv_at hl 0 rfl) ?_
  refine lv_iload_n hx hb dX6_difference_11 rfl (lv_at hl 3 rfl) ?_
  refine cn_sv (ck_V (a := eP E 0) S lk_X6_82 (c_X6_requireScheme l E I A K sc nr nu hE hD k3) ⟨rfl, rfl⟩ ⟨Nat.le_of_ble_eq_true rfl, Nat.le_of_ble_eq_true rfl⟩ bl_w (rc_w hK hP 0 (by decide) (cK_lo (by decide)) rfl) (bw_U hE hK hC hP hS) rfl hl.1 (Nat.le_of_ble_eq_true rfl) ⟨Nat.zero_le _, Nat.zero_le _⟩ dX6_difference_12 rfl) ?_
  refine lv_aload_n hx hb dX6_difference_15 rfl (lv_at hl 0 rfl) ?_
  refine lv_iload hx hb dX6_difference_16 (lv_at hl 4 rfl) ?_
  exact xk_V (a := eP E 0) S lk_X6_103 (cx_X6_requireSight l E I A K x3 nr nu hE hD hfl kb) ⟨Nat.le_of_ble_eq_true rfl, Nat.le_of_ble_eq_true rfl⟩ (rc_w hK hP 0 (by decide) (cK_lo (by decide)) rfl) (bw_U hE hK hC hP hS) rfl hl.1 (Nat.le_of_ble_eq_true rfl) dX6_difference_18 rfl hout hlk ⟨Nat.le_of_ble_eq_true rfl, Nat.le_of_ble_eq_true rfl⟩ bl_w

set_option maxHeartbeats 1000000 in
set_option maxRecDepth 100000 in
theorem c_X6_nearest (l : Launch) (E : En) (I A : Nat → Nat → Int32) (K : Nat → Nat → Int64) (nr nu : Nat) (x : Int32) (sc : Nat) (hE : Ev cN E) (hD : DOk I A 0 nr nu) (k2 : sc < 2) (k1 : ¬ x < 0 ∧ ¬ 16777215 < x) : Met l yX6_nearest (wz yX6_nearest cX6_nearest 3 (some .int)) (rmk 4 0 0 93) (va_Pc [.ref (eP E 0), .int x, .int (nI sc)] (Bw cN E cK (I, A, K))) (qSi (fun zz => zz = (cNear A 0 sc x nr).1)) 0 0 fr0 := by
  refine en_ofW RX6 rfl (by decide +kernel) (Nat.le_of_ble_eq_true rfl) ?_
  intro p e s m below meth c ls S hr hlk hnm hl hB
  have hx := S.1
  have hb := S.2.1
  obtain ⟨hK, hC, hP⟩ := hB
  have hS : va_S (cA cN E) s.heap s.heap [] := va_S.rf
  have hl : lv_has ls 3 [(0, .ref (eP E 0)), (1, .int x), (2, .int (nI sc))] := hl
  obtain ⟨⟨hn1, hn2⟩, ⟨hr0, hr3⟩, hu3⟩ := id hD
  refine lv_aload_n hx hb dX6_nearest_0 rfl (lv_at hl 0 rfl) ?_
  refine lv_iload_n hx hb dX6_nearest_1 rfl (lv_at hl 2 rfl) ?_
  refine cn_sv (ck_V (a := eP E 0) S lk_X6_82 (c_X6_requireScheme l E I A K sc nr nu hE hD k2) ⟨rfl, rfl⟩ ⟨Nat.le_of_ble_eq_true rfl, Nat.le_of_ble_eq_true rfl⟩ bl_w (rc_w hK hP 0 (by decide) (cK_lo (by decide)) rfl) (bw_U hE hK hC hP hS) rfl hl.1 (Nat.le_of_ble_eq_true rfl) ⟨Nat.le_refl _, Nat.le_refl _⟩ dX6_nearest_2 rfl) ?_
  refine lv_aload_n hx hb dX6_nearest_5 rfl (lv_at hl 0 rfl) ?_
  refine lv_iload_n hx hb dX6_nearest_6 rfl (lv_at hl 1 rfl) ?_
  refine cn_sv (ck_V (a := eP E 0) S lk_X6_113 (c_X6_requireColour l E I A K x nr nu hE hD k1) ⟨rfl, rfl⟩ ⟨Nat.le_of_ble_eq_true rfl, Nat.le_of_ble_eq_true rfl⟩ bl_w (rc_w hK hP 0 (by decide) (cK_lo (by decide)) rfl) (bw_U hE hK hC hP hS) rfl hl.1 (Nat.le_of_ble_eq_true rfl) ⟨Nat.le_refl _, Nat.le_refl _⟩ dX6_nearest_7 rfl) ?_
  refine lv_aload_n hx hb dX6_nearest_10 rfl (lv_at hl 0 rfl) ?_
  refine rw_getr (x := (I, A, K)) S hK hP 0 (by decide) (cK_lo (by decide)) fk_X6_25 rfl dX6_nearest_11 ?_
  refine lv_iload_n hx hb dX6_nearest_14 rfl (lv_at hl 1 rfl) ?_
  refine lv_iload_n hx hb dX6_nearest_15 rfl (lv_at hl 2 rfl) ?_
  refine cn_si (ck_V (a := eP E (dB 0 0)) S lk_X6_116 (c_X1_nearestRole l E I A K x 0 nr nu sc hE (by decide) hD k2) ⟨rfl, rfl⟩ ⟨Nat.le_of_ble_eq_true rfl, Nat.le_of_ble_eq_true rfl⟩ bl_w (rc_w hK hP (dB 0 0) (dB_lt (by decide) (by decide)) (cK_D (by decide)) rfl) (bw_U hE hK hC hP hS) rfl hl.1 (Nat.le_of_ble_eq_true rfl) ⟨Nat.le_refl _, Nat.le_refl _⟩ dX6_nearest_16 rfl) (fun r1 g2 => ?_)
  obtain rfl : r1 = (cNear A 0 sc x nr).1 := g2
  exact re_si (v := ((cNear A 0 sc x nr).1)) hx hb hr hlk rfl dX6_nearest_19

set_option maxHeartbeats 1000000 in
set_option maxRecDepth 100000 in
theorem cx_X6_nearest_0 (l : Launch) (E : En) (I A : Nat → Nat → Int32) (K : Nat → Nat → Int64) (nr nu : Nat) (x0 : Int32) (x1 : Int32) (hE : Ev cN E) (hD : DOk I A 0 nr nu) (hfl : l.stackTraces = false) (kb : x1 < 0 ∨ 2 ≤ x1) : vx_Met l yX6_nearest (wz yX6_nearest cX6_nearest 3 (some .int)) (rmk 7 1 6 116) (va_Pc [.ref (eP E 0), .int x0, .int x1] (Bw cN E cK (I, A, K))) qNo (xC "java/lang/IndexOutOfBoundsException") 1 6 fr0 := by
  refine en_ofX RX6 rfl (by decide +kernel) (Nat.le_of_ble_eq_true rfl) ?_
  intro p e s m below meth c ls S hr hlk hnm hout hl hB
  have hx := S.1
  have hb := S.2.1
  obtain ⟨hK, hC, hP⟩ := hB
  have hS : va_S (cA cN E) s.heap s.heap [] := va_S.rf
  have hl : lv_has ls 3 [(0, .ref (eP E 0)), (1, .int x0), (2, .int x1)] := hl
  obtain ⟨⟨hn1, hn2⟩, ⟨hr0, hr3⟩, hu3⟩ := id hD
  refine lv_aload_n hx hb dX6_nearest_0 rfl (lv_at hl 0 rfl) ?_
  refine lv_iload_n hx hb dX6_nearest_1 rfl (lv_at hl 2 rfl) ?_
  exact xk_V (a := eP E 0) S lk_X6_82 (cx_X6_requireScheme l E I A K x1 nr nu hE hD hfl kb) ⟨Nat.le_of_ble_eq_true rfl, Nat.le_of_ble_eq_true rfl⟩ (rc_w hK hP 0 (by decide) (cK_lo (by decide)) rfl) (bw_U hE hK hC hP hS) rfl hl.1 (Nat.le_of_ble_eq_true rfl) dX6_nearest_2 rfl hout hlk ⟨Nat.le_of_ble_eq_true rfl, Nat.le_of_ble_eq_true rfl⟩ bl_w

set_option maxHeartbeats 1000000 in
set_option maxRecDepth 100000 in
theorem cx_X6_nearest_1 (l : Launch) (E : En) (I A : Nat → Nat → Int32) (K : Nat → Nat → Int64) (nr nu : Nat) (x0 : Int32) (sc : Nat) (hE : Ev cN E) (hD : DOk I A 0 nr nu) (hfl : l.stackTraces = false) (k2 : sc < 2) (kb : x0 < 0 ∨ 16777215 < x0) : vx_Met l yX6_nearest (wz yX6_nearest cX6_nearest 3 (some .int)) (rmk 7 1 6 116) (va_Pc [.ref (eP E 0), .int x0, .int (nI sc)] (Bw cN E cK (I, A, K))) qNo (xC "java/lang/IllegalArgumentException") 1 6 fr0 := by
  refine en_ofX RX6 rfl (by decide +kernel) (Nat.le_of_ble_eq_true rfl) ?_
  intro p e s m below meth c ls S hr hlk hnm hout hl hB
  have hx := S.1
  have hb := S.2.1
  obtain ⟨hK, hC, hP⟩ := hB
  have hS : va_S (cA cN E) s.heap s.heap [] := va_S.rf
  have hl : lv_has ls 3 [(0, .ref (eP E 0)), (1, .int x0), (2, .int (nI sc))] := hl
  obtain ⟨⟨hn1, hn2⟩, ⟨hr0, hr3⟩, hu3⟩ := id hD
  refine lv_aload_n hx hb dX6_nearest_0 rfl (lv_at hl 0 rfl) ?_
  refine lv_iload_n hx hb dX6_nearest_1 rfl (lv_at hl 2 rfl) ?_
  refine cn_sv (ck_V (a := eP E 0) S lk_X6_82 (c_X6_requireScheme l E I A K sc nr nu hE hD k2) ⟨rfl, rfl⟩ ⟨Nat.le_of_ble_eq_true rfl, Nat.le_of_ble_eq_true rfl⟩ bl_w (rc_w hK hP 0 (by decide) (cK_lo (by decide)) rfl) (bw_U hE hK hC hP hS) rfl hl.1 (Nat.le_of_ble_eq_true rfl) ⟨Nat.zero_le _, Nat.zero_le _⟩ dX6_nearest_2 rfl) ?_
  refine lv_aload_n hx hb dX6_nearest_5 rfl (lv_at hl 0 rfl) ?_
  refine lv_iload_n hx hb dX6_nearest_6 rfl (lv_at hl 1 rfl) ?_
  exact xk_V (a := eP E 0) S lk_X6_113 (cx_X6_requireColour l E I A K x0 nr nu hE hD hfl kb) ⟨Nat.le_of_ble_eq_true rfl, Nat.le_of_ble_eq_true rfl⟩ (rc_w hK hP 0 (by decide) (cK_lo (by decide)) rfl) (bw_U hE hK hC hP hS) rfl hl.1 (Nat.le_of_ble_eq_true rfl) dX6_nearest_7 rfl hout hlk ⟨Nat.le_of_ble_eq_true rfl, Nat.le_of_ble_eq_true rfl⟩ bl_w

set_option maxHeartbeats 1000000 in
set_option maxRecDepth 100000 in
theorem c_X6_need (l : Launch) (E : En) (I A : Nat → Nat → Int32) (K : Nat → Nat → Int64) (nr nu : Nat) (u : Nat) (sc : Nat) (hE : Ev cN E) (hD : DOk I A 0 nr nu) (k1 : u < nu) (k2 : sc < 2) : Met l yX6_need (wz yX6_need cX6_need 3 (some .int)) (rmk 1 0 0 21) (va_Pc [.ref (eP E 0), .int (nI u), .int (nI sc)] (Bw cN E cK (I, A, K))) (qSi (fun zz => zz = cNd A 0 u sc)) 0 0 fr0 := by
  refine en_ofW RX6 rfl (by decide +kernel) (Nat.le_of_ble_eq_true rfl) ?_
  intro p e s m below meth c ls S hr hlk hnm hl hB
  have hx := S.1
  have hb := S.2.1
  obtain ⟨hK, hC, hP⟩ := hB
  have hS : va_S (cA cN E) s.heap s.heap [] := va_S.rf
  have hl : lv_has ls 3 [(0, .ref (eP E 0)), (1, .int (nI u)), (2, .int (nI sc))] := hl
  obtain ⟨⟨hn1, hn2⟩, ⟨hr0, hr3⟩, hu3⟩ := id hD
  refine lv_aload_n hx hb dX6_need_0 rfl (lv_at hl 0 rfl) ?_
  refine lv_iload_n hx hb dX6_need_1 rfl (lv_at hl 1 rfl) ?_
  refine cn_sv (ck_V (a := eP E 0) S lk_X6_119 (c_X6_requireRule l E I A K u nr nu hE hD k1) ⟨rfl, rfl⟩ ⟨Nat.le_of_ble_eq_true rfl, Nat.le_of_ble_eq_true rfl⟩ bl_w (rc_w hK hP 0 (by decide) (cK_lo (by decide)) rfl) (bw_U hE hK hC hP hS) rfl hl.1 (Nat.le_of_ble_eq_true rfl) ⟨Nat.le_refl _, Nat.le_refl _⟩ dX6_need_2 rfl) ?_
  refine lv_aload_n hx hb dX6_need_5 rfl (lv_at hl 0 rfl) ?_
  refine lv_iload_n hx hb dX6_need_6 rfl (lv_at hl 2 rfl) ?_
  refine cn_sv (ck_V (a := eP E 0) S lk_X6_82 (c_X6_requireScheme l E I A K sc nr nu hE hD k2) ⟨rfl, rfl⟩ ⟨Nat.le_of_ble_eq_true rfl, Nat.le_of_ble_eq_true rfl⟩ bl_w (rc_w hK hP 0 (by decide) (cK_lo (by decide)) rfl) (bw_U hE hK hC hP hS) rfl hl.1 (Nat.le_of_ble_eq_true rfl) ⟨Nat.le_refl _, Nat.le_refl _⟩ dX6_need_7 rfl) ?_
  refine lv_aload_n hx hb dX6_need_10 rfl (lv_at hl 0 rfl) ?_
  refine rw_getr (x := (I, A, K)) S hK hP 0 (by decide) (cK_lo (by decide)) fk_X6_25 rfl dX6_need_11 ?_
  refine rw_getr (x := (I, A, K)) S hK hP (dB 0 0) (dB_lt (by decide) (by decide)) (cK_D (by decide)) fk_X6_122 rfl dX6_need_14 ?_
  refine lv_iload_n hx hb dX6_need_17 rfl (lv_at hl 2 rfl) ?_
  refine rw_aald (x := (I, A, K)) (r := (dB 0 (9 + sc))) S hK hP (dB 0 8) (dB_lt (by decide) (by decide)) 5 (cK_D (by decide)) rfl rfl sc rfl (by omega) (by decide) rfl dX6_need_18 ?_
  refine lv_iload_n hx hb dX6_need_19 rfl (lv_at hl 1 rfl) ?_
  refine rw_iald (x := (I, A, K)) (v := A (dB 0 (9 + sc)) u) S hK hP (dB 0 (9 + sc)) (dB_lt (by decide) (by omega)) (cK_need (by omega)) u rfl (by omega) (by decide) rfl dX6_need_20 ?_
  exact re_si (v := A (dB 0 (9 + sc)) u) hx hb hr hlk rfl dX6_need_21

set_option maxHeartbeats 1000000 in
set_option maxRecDepth 100000 in
theorem cx_X6_need_0 (l : Launch) (E : En) (I A : Nat → Nat → Int32) (K : Nat → Nat → Int64) (nr nu : Nat) (x0 : Int32) (x1 : Int32) (hE : Ev cN E) (hD : DOk I A 0 nr nu) (hfl : l.stackTraces = false) (kb : x0 < 0 ∨ nI nu ≤ x0) : vx_Met l yX6_need (wz yX6_need cX6_need 3 (some .int)) (rmk 7 1 6 116) (va_Pc [.ref (eP E 0), .int x0, .int x1] (Bw cN E cK (I, A, K))) qNo (xC "java/lang/IndexOutOfBoundsException") 1 6 fr0 := by
  refine en_ofX RX6 rfl (by decide +kernel) (Nat.le_of_ble_eq_true rfl) ?_
  intro p e s m below meth c ls S hr hlk hnm hout hl hB
  have hx := S.1
  have hb := S.2.1
  obtain ⟨hK, hC, hP⟩ := hB
  have hS : va_S (cA cN E) s.heap s.heap [] := va_S.rf
  have hl : lv_has ls 3 [(0, .ref (eP E 0)), (1, .int x0), (2, .int x1)] := hl
  obtain ⟨⟨hn1, hn2⟩, ⟨hr0, hr3⟩, hu3⟩ := id hD
  refine lv_aload_n hx hb dX6_need_0 rfl (lv_at hl 0 rfl) ?_
  refine lv_iload_n hx hb dX6_need_1 rfl (lv_at hl 1 rfl) ?_
  exact xk_V (a := eP E 0) S lk_X6_119 (cx_X6_requireRule l E I A K x0 nr nu hE hD hfl kb) ⟨Nat.le_of_ble_eq_true rfl, Nat.le_of_ble_eq_true rfl⟩ (rc_w hK hP 0 (by decide) (cK_lo (by decide)) rfl) (bw_U hE hK hC hP hS) rfl hl.1 (Nat.le_of_ble_eq_true rfl) dX6_need_2 rfl hout hlk ⟨Nat.le_of_ble_eq_true rfl, Nat.le_of_ble_eq_true rfl⟩ bl_w

set_option maxHeartbeats 1000000 in
set_option maxRecDepth 100000 in
theorem cx_X6_need_1 (l : Launch) (E : En) (I A : Nat → Nat → Int32) (K : Nat → Nat → Int64) (nr nu : Nat) (u : Nat) (x1 : Int32) (hE : Ev cN E) (hD : DOk I A 0 nr nu) (hfl : l.stackTraces = false) (k1 : u < nu) (kb : x1 < 0 ∨ 2 ≤ x1) : vx_Met l yX6_need (wz yX6_need cX6_need 3 (some .int)) (rmk 7 1 6 116) (va_Pc [.ref (eP E 0), .int (nI u), .int x1] (Bw cN E cK (I, A, K))) qNo (xC "java/lang/IndexOutOfBoundsException") 1 6 fr0 := by
  refine en_ofX RX6 rfl (by decide +kernel) (Nat.le_of_ble_eq_true rfl) ?_
  intro p e s m below meth c ls S hr hlk hnm hout hl hB
  have hx := S.1
  have hb := S.2.1
  obtain ⟨hK, hC, hP⟩ := hB
  have hS : va_S (cA cN E) s.heap s.heap [] := va_S.rf
  have hl : lv_has ls 3 [(0, .ref (eP E 0)), (1, .int (nI u)), (2, .int x1)] := hl
  obtain ⟨⟨hn1, hn2⟩, ⟨hr0, hr3⟩, hu3⟩ := id hD
  refine lv_aload_n hx hb dX6_need_0 rfl (lv_at hl 0 rfl) ?_
  refine lv_iload_n hx hb dX6_need_1 rfl (lv_at hl 1 rfl) ?_
  refine cn_sv (ck_V (a := eP E 0) S lk_X6_119 (c_X6_requireRule l E I A K u nr nu hE hD k1) ⟨rfl, rfl⟩ ⟨Nat.le_of_ble_eq_true rfl, Nat.le_of_ble_eq_true rfl⟩ bl_w (rc_w hK hP 0 (by decide) (cK_lo (by decide)) rfl) (bw_U hE hK hC hP hS) rfl hl.1 (Nat.le_of_ble_eq_true rfl) ⟨Nat.zero_le _, Nat.zero_le _⟩ dX6_need_2 rfl) ?_
  refine lv_aload_n hx hb dX6_need_5 rfl (lv_at hl 0 rfl) ?_
  refine lv_iload_n hx hb dX6_need_6 rfl (lv_at hl 2 rfl) ?_
  exact xk_V (a := eP E 0) S lk_X6_82 (cx_X6_requireScheme l E I A K x1 nr nu hE hD hfl kb) ⟨Nat.le_of_ble_eq_true rfl, Nat.le_of_ble_eq_true rfl⟩ (rc_w hK hP 0 (by decide) (cK_lo (by decide)) rfl) (bw_U hE hK hC hP hS) rfl hl.1 (Nat.le_of_ble_eq_true rfl) dX6_need_7 rfl hout hlk ⟨Nat.le_of_ble_eq_true rfl, Nat.le_of_ble_eq_true rfl⟩ bl_w

set_option maxHeartbeats 1000000 in
set_option maxRecDepth 100000 in
theorem c_X6_value (l : Launch) (E : En) (I A : Nat → Nat → Int32) (K : Nat → Nat → Int64) (nr nu : Nat) (u : Nat) (sc : Nat) (hE : Ev cN E) (hD : DOk I A 0 nr nu) (k1 : u < nu) (k2 : sc < 2) : Met l yX6_value (wz yX6_value cX6_value 3 (some .int)) (rmk 4 0 0 91) (va_Pc [.ref (eP E 0), .int (nI u), .int (nI sc)] (Bw cN E cK (I, A, K))) (qSi (fun zz => zz = cVal A 0 u sc)) 0 0 fr0 := by
  refine en_ofW RX6 rfl (by decide +kernel) (Nat.le_of_ble_eq_true rfl) ?_
  intro p e s m below meth c ls S hr hlk hnm hl hB
  have hx := S.1
  have hb := S.2.1
  obtain ⟨hK, hC, hP⟩ := hB
  have hS : va_S (cA cN E) s.heap s.heap [] := va_S.rf
  have hl : lv_has ls 3 [(0, .ref (eP E 0)), (1, .int (nI u)), (2, .int (nI sc))] := hl
  obtain ⟨⟨hn1, hn2⟩, ⟨hr0, hr3⟩, hu3⟩ := id hD
  refine lv_aload_n hx hb dX6_value_0 rfl (lv_at hl 0 rfl) ?_
  refine lv_iload_n hx hb dX6_value_1 rfl (lv_at hl 1 rfl) ?_
  refine cn_sv (ck_V (a := eP E 0) S lk_X6_119 (c_X6_requireRule l E I A K u nr nu hE hD k1) ⟨rfl, rfl⟩ ⟨Nat.le_of_ble_eq_true rfl, Nat.le_of_ble_eq_true rfl⟩ bl_w (rc_w hK hP 0 (by decide) (cK_lo (by decide)) rfl) (bw_U hE hK hC hP hS) rfl hl.1 (Nat.le_of_ble_eq_true rfl) ⟨Nat.le_refl _, Nat.le_refl _⟩ dX6_value_2 rfl) ?_
  refine lv_aload_n hx hb dX6_value_5 rfl (lv_at hl 0 rfl) ?_
  refine lv_iload_n hx hb dX6_value_6 rfl (lv_at hl 2 rfl) ?_
  refine cn_sv (ck_V (a := eP E 0) S lk_X6_82 (c_X6_requireScheme l E I A K sc nr nu hE hD k2) ⟨rfl, rfl⟩ ⟨Nat.le_of_ble_eq_true rfl, Nat.le_of_ble_eq_true rfl⟩ bl_w (rc_w hK hP 0 (by decide) (cK_lo (by decide)) rfl) (bw_U hE hK hC hP hS) rfl hl.1 (Nat.le_of_ble_eq_true rfl) ⟨Nat.le_refl _, Nat.le_refl _⟩ dX6_value_7 rfl) ?_
  refine lv_aload_n hx hb dX6_value_10 rfl (lv_at hl 0 rfl) ?_
  refine rw_getr (x := (I, A, K)) S hK hP 0 (by decide) (cK_lo (by decide)) fk_X6_25 rfl dX6_value_11 ?_
  refine lv_iload_n hx hb dX6_value_14 rfl (lv_at hl 1 rfl) ?_
  refine lv_iload_n hx hb dX6_value_15 rfl (lv_at hl 2 rfl) ?_
  refine cn_si (ck_V (a := eP E (dB 0 0)) S lk_X6_125 (c_X1_ruleValue l E I A K 0 nr nu u sc hE (by decide) hD k1 k2) ⟨rfl, rfl⟩ ⟨Nat.le_of_ble_eq_true rfl, Nat.le_of_ble_eq_true rfl⟩ bl_w (rc_w hK hP (dB 0 0) (dB_lt (by decide) (by decide)) (cK_D (by decide)) rfl) (bw_U hE hK hC hP hS) rfl hl.1 (Nat.le_of_ble_eq_true rfl) ⟨Nat.le_refl _, Nat.le_refl _⟩ dX6_value_16 rfl) (fun r1 g2 => ?_)
  obtain rfl : r1 = cVal A 0 u sc := g2
  exact re_si (v := (cVal A 0 u sc)) hx hb hr hlk rfl dX6_value_19

set_option maxHeartbeats 1000000 in
set_option maxRecDepth 100000 in
theorem cx_X6_value_0 (l : Launch) (E : En) (I A : Nat → Nat → Int32) (K : Nat → Nat → Int64) (nr nu : Nat) (x0 : Int32) (x1 : Int32) (hE : Ev cN E) (hD : DOk I A 0 nr nu) (hfl : l.stackTraces = false) (kb : x0 < 0 ∨ nI nu ≤ x0) : vx_Met l yX6_value (wz yX6_value cX6_value 3 (some .int)) (rmk 7 1 6 116) (va_Pc [.ref (eP E 0), .int x0, .int x1] (Bw cN E cK (I, A, K))) qNo (xC "java/lang/IndexOutOfBoundsException") 1 6 fr0 := by
  refine en_ofX RX6 rfl (by decide +kernel) (Nat.le_of_ble_eq_true rfl) ?_
  intro p e s m below meth c ls S hr hlk hnm hout hl hB
  have hx := S.1
  have hb := S.2.1
  obtain ⟨hK, hC, hP⟩ := hB
  have hS : va_S (cA cN E) s.heap s.heap [] := va_S.rf
  have hl : lv_has ls 3 [(0, .ref (eP E 0)), (1, .int x0), (2, .int x1)] := hl
  obtain ⟨⟨hn1, hn2⟩, ⟨hr0, hr3⟩, hu3⟩ := id hD
  refine lv_aload_n hx hb dX6_value_0 rfl (lv_at hl 0 rfl) ?_
  refine lv_iload_n hx hb dX6_value_1 rfl (lv_at hl 1 rfl) ?_
  exact xk_V (a := eP E 0) S lk_X6_119 (cx_X6_requireRule l E I A K x0 nr nu hE hD hfl kb) ⟨Nat.le_of_ble_eq_true rfl, Nat.le_of_ble_eq_true rfl⟩ (rc_w hK hP 0 (by decide) (cK_lo (by decide)) rfl) (bw_U hE hK hC hP hS) rfl hl.1 (Nat.le_of_ble_eq_true rfl) dX6_value_2 rfl hout hlk ⟨Nat.le_of_ble_eq_true rfl, Nat.le_of_ble_eq_true rfl⟩ bl_w

set_option maxHeartbeats 1000000 in
set_option maxRecDepth 100000 in
theorem cx_X6_value_1 (l : Launch) (E : En) (I A : Nat → Nat → Int32) (K : Nat → Nat → Int64) (nr nu : Nat) (u : Nat) (x1 : Int32) (hE : Ev cN E) (hD : DOk I A 0 nr nu) (hfl : l.stackTraces = false) (k1 : u < nu) (kb : x1 < 0 ∨ 2 ≤ x1) : vx_Met l yX6_value (wz yX6_value cX6_value 3 (some .int)) (rmk 7 1 6 116) (va_Pc [.ref (eP E 0), .int (nI u), .int x1] (Bw cN E cK (I, A, K))) qNo (xC "java/lang/IndexOutOfBoundsException") 1 6 fr0 := by
  refine en_ofX RX6 rfl (by decide +kernel) (Nat.le_of_ble_eq_true rfl) ?_
  intro p e s m below meth c ls S hr hlk hnm hout hl hB
  have hx := S.1
  have hb := S.2.1
  obtain ⟨hK, hC, hP⟩ := hB
  have hS : va_S (cA cN E) s.heap s.heap [] := va_S.rf
  have hl : lv_has ls 3 [(0, .ref (eP E 0)), (1, .int (nI u)), (2, .int x1)] := hl
  obtain ⟨⟨hn1, hn2⟩, ⟨hr0, hr3⟩, hu3⟩ := id hD
  refine lv_aload_n hx hb dX6_value_0 rfl (lv_at hl 0 rfl) ?_
  refine lv_iload_n hx hb dX6_value_1 rfl (lv_at hl 1 rfl) ?_
  refine cn_sv (ck_V (a := eP E 0) S lk_X6_119 (c_X6_requireRule l E I A K u nr nu hE hD k1) ⟨rfl, rfl⟩ ⟨Nat.le_of_ble_eq_true rfl, Nat.le_of_ble_eq_true rfl⟩ bl_w (rc_w hK hP 0 (by decide) (cK_lo (by decide)) rfl) (bw_U hE hK hC hP hS) rfl hl.1 (Nat.le_of_ble_eq_true rfl) ⟨Nat.zero_le _, Nat.zero_le _⟩ dX6_value_2 rfl) ?_
  refine lv_aload_n hx hb dX6_value_5 rfl (lv_at hl 0 rfl) ?_
  refine lv_iload_n hx hb dX6_value_6 rfl (lv_at hl 2 rfl) ?_
  exact xk_V (a := eP E 0) S lk_X6_82 (cx_X6_requireScheme l E I A K x1 nr nu hE hD hfl kb) ⟨Nat.le_of_ble_eq_true rfl, Nat.le_of_ble_eq_true rfl⟩ (rc_w hK hP 0 (by decide) (cK_lo (by decide)) rfl) (bw_U hE hK hC hP hS) rfl hl.1 (Nat.le_of_ble_eq_true rfl) dX6_value_7 rfl hout hlk ⟨Nat.le_of_ble_eq_true rfl, Nat.le_of_ble_eq_true rfl⟩ bl_w

set_option maxHeartbeats 1000000 in
set_option maxRecDepth 100000 in
theorem c_X6_smallestMargin (l : Launch) (E : En) (I A : Nat → Nat → Int32) (K : Nat → Nat → Int64) (nr nu : Nat) (sc : Nat) (hE : Ev cN E) (hD : DOk I A 0 nr nu) (k1 : sc < 2) : Met l yX6_smallestMargin (wz yX6_smallestMargin cX6_smallestMargin 2 (some .int)) (rmk 5 0 0 114) (va_Pc [.ref (eP E 0), .int (nI sc)] (Bw cN E cK (I, A, K))) (qSi (fun zz => zz = cMar A 0 sc nu)) 0 0 fr0 := by
  refine en_ofW RX6 rfl (by decide +kernel) (Nat.le_of_ble_eq_true rfl) ?_
  intro p e s m below meth c ls S hr hlk hnm hl hB
  have hx := S.1
  have hb := S.2.1
  obtain ⟨hK, hC, hP⟩ := hB
  have hS : va_S (cA cN E) s.heap s.heap [] := va_S.rf
  have hl : lv_has ls 2 [(0, .ref (eP E 0)), (1, .int (nI sc))] := hl
  obtain ⟨⟨hn1, hn2⟩, ⟨hr0, hr3⟩, hu3⟩ := id hD
  refine lv_aload_n hx hb dX6_smallestMargin_0 rfl (lv_at hl 0 rfl) ?_
  refine lv_iload_n hx hb dX6_smallestMargin_1 rfl (lv_at hl 1 rfl) ?_
  refine cn_sv (ck_V (a := eP E 0) S lk_X6_82 (c_X6_requireScheme l E I A K sc nr nu hE hD k1) ⟨rfl, rfl⟩ ⟨Nat.le_of_ble_eq_true rfl, Nat.le_of_ble_eq_true rfl⟩ bl_w (rc_w hK hP 0 (by decide) (cK_lo (by decide)) rfl) (bw_U hE hK hC hP hS) rfl hl.1 (Nat.le_of_ble_eq_true rfl) ⟨Nat.le_refl _, Nat.le_refl _⟩ dX6_smallestMargin_2 rfl) ?_
  refine lv_aload_n hx hb dX6_smallestMargin_5 rfl (lv_at hl 0 rfl) ?_
  refine rw_getr (x := (I, A, K)) S hK hP 0 (by decide) (cK_lo (by decide)) fk_X6_25 rfl dX6_smallestMargin_6 ?_
  refine lv_iload_n hx hb dX6_smallestMargin_9 rfl (lv_at hl 1 rfl) ?_
  refine cn_si (ck_V (a := eP E (dB 0 0)) S lk_X6_139 (c_X1_leastMargin l E I A K 0 nr nu sc hE (by decide) hD k1) ⟨rfl, rfl⟩ ⟨Nat.le_of_ble_eq_true rfl, Nat.le_of_ble_eq_true rfl⟩ bl_w (rc_w hK hP (dB 0 0) (dB_lt (by decide) (by decide)) (cK_D (by decide)) rfl) (bw_U hE hK hC hP hS) rfl hl.1 (Nat.le_of_ble_eq_true rfl) ⟨Nat.le_refl _, Nat.le_refl _⟩ dX6_smallestMargin_10 rfl) (fun r1 g2 => ?_)
  obtain rfl : r1 = cMar A 0 sc nu := g2
  exact re_si (v := (cMar A 0 sc nu)) hx hb hr hlk rfl dX6_smallestMargin_13

set_option maxHeartbeats 1000000 in
set_option maxRecDepth 100000 in
theorem cx_X6_smallestMargin_0 (l : Launch) (E : En) (I A : Nat → Nat → Int32) (K : Nat → Nat → Int64) (nr nu : Nat) (x0 : Int32) (hE : Ev cN E) (hD : DOk I A 0 nr nu) (hfl : l.stackTraces = false) (kb : x0 < 0 ∨ 2 ≤ x0) : vx_Met l yX6_smallestMargin (wz yX6_smallestMargin cX6_smallestMargin 2 (some .int)) (rmk 7 1 6 116) (va_Pc [.ref (eP E 0), .int x0] (Bw cN E cK (I, A, K))) qNo (xC "java/lang/IndexOutOfBoundsException") 1 6 fr0 := by
  refine en_ofX RX6 rfl (by decide +kernel) (Nat.le_of_ble_eq_true rfl) ?_
  intro p e s m below meth c ls S hr hlk hnm hout hl hB
  have hx := S.1
  have hb := S.2.1
  obtain ⟨hK, hC, hP⟩ := hB
  have hS : va_S (cA cN E) s.heap s.heap [] := va_S.rf
  have hl : lv_has ls 2 [(0, .ref (eP E 0)), (1, .int x0)] := hl
  obtain ⟨⟨hn1, hn2⟩, ⟨hr0, hr3⟩, hu3⟩ := id hD
  refine lv_aload_n hx hb dX6_smallestMargin_0 rfl (lv_at hl 0 rfl) ?_
  refine lv_iload_n hx hb dX6_smallestMargin_1 rfl (lv_at hl 1 rfl) ?_
  exact xk_V (a := eP E 0) S lk_X6_82 (cx_X6_requireScheme l E I A K x0 nr nu hE hD hfl kb) ⟨Nat.le_of_ble_eq_true rfl, Nat.le_of_ble_eq_true rfl⟩ (rc_w hK hP 0 (by decide) (cK_lo (by decide)) rfl) (bw_U hE hK hC hP hS) rfl hl.1 (Nat.le_of_ble_eq_true rfl) dX6_smallestMargin_2 rfl hout hlk ⟨Nat.le_of_ble_eq_true rfl, Nat.le_of_ble_eq_true rfl⟩ bl_w

def cBS (A : Nat → Nat → Int32) (u sc nu : Nat) : Int32 := if cKept A 0 u sc = 0 then (match cBest A 0 u sc nu with | none => 9999 | some ch => cAmt (nI ch)) else 0
def cSR (A : Nat → Nat → Int32) (u sc nu : Nat) : Int32 := if cKept A 0 u sc = 0 then (match cBest A 0 u sc nu with | none => -1 | some ch => nI (cRole A 0 u ch)) else -1
theorem cBS_n {A : Nat → Nat → Int32} {u sc nu : Nat} (h : cKept A 0 u sc = 0) (q : cBest A 0 u sc nu = none) : cBS A u sc nu = 9999 := (if_pos h).trans (by rw [q])
theorem cBS_y {A : Nat → Nat → Int32} {u sc nu ch : Nat} (h : cKept A 0 u sc = 0) (q : cBest A 0 u sc nu = some ch) : cBS A u sc nu = cAmt (nI ch) := (if_pos h).trans (by rw [q])
theorem cSR_n {A : Nat → Nat → Int32} {u sc nu : Nat} (h : cKept A 0 u sc = 0) (q : cBest A 0 u sc nu = none) : cSR A u sc nu = -1 := (if_pos h).trans (by rw [q])
theorem cSR_y {A : Nat → Nat → Int32} {u sc nu ch : Nat} (h : cKept A 0 u sc = 0) (q : cBest A 0 u sc nu = some ch) : cSR A u sc nu = nI (cRole A 0 u ch) := (if_pos h).trans (by rw [q])
set_option maxHeartbeats 1000000 in
set_option maxRecDepth 100000 in
theorem c_X6_bestShift (l : Launch) (E : En) (I A : Nat → Nat → Int32) (K : Nat → Nat → Int64) (nr nu : Nat) (u : Nat) (sc : Nat) (hE : Ev cN E) (hD : DOk I A 0 nr nu) (k1 : u < nu) (k2 : sc < 2) : Met l yX6_bestShift (wz yX6_bestShift cX6_bestShift 4 (some .int)) (rmk 6 0 0 141) (va_Pc [.ref (eP E 0), .int (nI u), .int (nI sc)] (Bw cN E cK (I, A, K))) (qWi cN E cK (fun zz uu => zz = cBS A u sc nu ∧ uu = (I, A, K))) 0 0 (cA cN E) := by
  refine en_ofW RX6 rfl (by decide +kernel) (Nat.le_of_ble_eq_true rfl) ?_
  intro p e s m below meth c ls S hr hlk hnm hl hB
  have hx := S.1
  have hb := S.2.1
  obtain ⟨hK, hC, hP⟩ := hB
  have hS : va_S (cA cN E) s.heap s.heap [] := va_S.rf
  have hl : lv_has ls 4 [(0, .ref (eP E 0)), (1, .int (nI u)), (2, .int (nI sc))] := hl
  obtain ⟨⟨hn1, hn2⟩, ⟨hr0, hr3⟩, hu3⟩ := id hD
  refine lv_aload_n hx hb dX6_bestShift_0 rfl (lv_at hl 0 rfl) ?_
  refine lv_iload_n hx hb dX6_bestShift_1 rfl (lv_at hl 1 rfl) ?_
  refine cn_sv (ck_V (a := eP E 0) S lk_X6_119 (c_X6_requireRule l E I A K u nr nu hE hD k1) ⟨rfl, rfl⟩ ⟨Nat.le_of_ble_eq_true rfl, Nat.le_of_ble_eq_true rfl⟩ bl_w (rc_w hK hP 0 (by decide) (cK_lo (by decide)) rfl) (bw_U hE hK hC hP hS) rfl hl.1 (Nat.le_of_ble_eq_true rfl) ⟨Nat.le_refl _, Nat.le_refl _⟩ dX6_bestShift_2 rfl) ?_
  refine lv_aload_n hx hb dX6_bestShift_5 rfl (lv_at hl 0 rfl) ?_
  refine lv_iload_n hx hb dX6_bestShift_6 rfl (lv_at hl 2 rfl) ?_
  refine cn_sv (ck_V (a := eP E 0) S lk_X6_82 (c_X6_requireScheme l E I A K sc nr nu hE hD k2) ⟨rfl, rfl⟩ ⟨Nat.le_of_ble_eq_true rfl, Nat.le_of_ble_eq_true rfl⟩ bl_w (rc_w hK hP 0 (by decide) (cK_lo (by decide)) rfl) (bw_U hE hK hC hP hS) rfl hl.1 (Nat.le_of_ble_eq_true rfl) ⟨Nat.le_refl _, Nat.le_refl _⟩ dX6_bestShift_7 rfl) ?_
  refine lv_aload_n hx hb dX6_bestShift_10 rfl (lv_at hl 0 rfl) ?_
  refine rw_getr (x := (I, A, K)) S hK hP 0 (by decide) (cK_lo (by decide)) fk_X6_25 rfl dX6_bestShift_11 ?_
  refine lv_iload_n hx hb dX6_bestShift_14 rfl (lv_at hl 1 rfl) ?_
  refine lv_iload_n hx hb dX6_bestShift_15 rfl (lv_at hl 2 rfl) ?_
  refine cn_si (ck_V (a := eP E (dB 0 0)) S lk_X6_142 (c_X1_isKept l E I A K 0 nr nu u sc hE (by decide) hD k1 k2) ⟨rfl, rfl⟩ ⟨Nat.le_of_ble_eq_true rfl, Nat.le_of_ble_eq_true rfl⟩ bl_w (rc_w hK hP (dB 0 0) (dB_lt (by decide) (by decide)) (cK_D (by decide)) rfl) (bw_U hE hK hC hP hS) rfl hl.1 (Nat.le_of_ble_eq_true rfl) ⟨Nat.le_refl _, Nat.le_refl _⟩ dX6_bestShift_16 rfl) (fun r1 g2 => ?_)
  obtain rfl : r1 = cKept A 0 u sc := g2
  refine lv_if_eq (tgt := 24) hx hb dX6_bestShift_19 (by decide) (fun h19 => ?_) (fun h19 => ?_)
  · refine lv_aload_n hx hb dX6_bestShift_24 rfl (lv_at hl 0 rfl) ?_
    refine rw_getr (x := (I, A, K)) S hK hP 0 (by decide) (cK_lo (by decide)) fk_X6_25 rfl dX6_bestShift_25 ?_
    refine lv_iload_n hx hb dX6_bestShift_28 rfl (lv_at hl 1 rfl) ?_
    refine lv_iload_n hx hb dX6_bestShift_29 rfl (lv_at hl 2 rfl) ?_
    refine cn_wi (ck_V (a := eP E (dB 0 0)) S lk_X6_146 (c_X1_bestChoice l E I A K 0 nr nu u sc hE (by decide) hD k1 k2) ⟨rfl, rfl⟩ ⟨Nat.le_of_ble_eq_true rfl, Nat.le_of_ble_eq_true rfl⟩ bl_w (rc_w hK hP (dB 0 0) (dB_lt (by decide) (by decide)) (cK_D (by decide)) rfl) (bw_U hE hK hC hP hS) rfl hl.1 (Nat.le_of_ble_eq_true rfl) ⟨Nat.le_refl _, Nat.le_refl _⟩ dX6_bestShift_30 rfl) hS (fun r3 u4 H locs g5 hP hS => ?_)
    obtain ⟨rfl, rfl⟩ : r3 = optI (cBest A 0 u sc nu) ∧ u4 = (I, A, K) := g5
    have hP : Wp cN E cK (I, A, K) H := hP
    rcases hq : cBest A 0 u sc nu with _ | ch
    · refine tp_i (y := (-1)) rfl ?_
      refine lv_istore_n (lv' := [(3, .int (-1)), (0, .ref (eP E 0)), (1, .int (nI u)), (2, .int (nI sc))]) hx hb dX6_bestShift_33 rfl hl (by decide) rfl (fun ls hl => ?_)
      refine lv_iload_n hx hb dX6_bestShift_34 rfl (lv_at hl 0 rfl) ?_
      refine lv_if_ge (tgt := 44) hx hb dX6_bestShift_35 (by decide) (fun h35 => absurd h35 (by decide)) (fun h35 => ?_)
      refine lv_sipush (v := 9999) hx hb dX6_bestShift_38 (by decide) ?_
      refine lv_goto (tgt := 48) hx hb dX6_bestShift_41 (by decide) ?_
      exact re_wi (x := (I, A, K)) (v := 9999) hx hb hr hlk hP hS ⟨(cBS_n h19 hq).symm, rfl⟩ dX6_bestShift_48
    · refine tp_i (y := nI ch) rfl ?_
      obtain ⟨-, hc2, -⟩ := ffn_some hq
      have hc3 : ch < 1020 := by omega
      refine lv_istore_n (lv' := [(3, .int (nI ch)), (0, .ref (eP E 0)), (1, .int (nI u)), (2, .int (nI sc))]) hx hb dX6_bestShift_33 rfl hl (by decide) rfl (fun ls hl => ?_)
      refine lv_iload_n hx hb dX6_bestShift_34 rfl (lv_at hl 0 rfl) ?_
      refine lv_if_ge (tgt := 44) hx hb dX6_bestShift_35 (by decide) (fun h35 => ?_) (fun h35 => absurd (nI_pos' (by omega)) h35)
      refine lv_iload_n hx hb dX6_bestShift_44 rfl (lv_at hl 0 rfl) ?_
      refine cn_si (ck_S S lk_X6_149 (c_X1_choiceAmount l (nI ch)) ⟨rfl, rfl⟩ ⟨Nat.le_of_ble_eq_true rfl, Nat.le_of_ble_eq_true rfl⟩ bl_T t_U rfl hl.1 (Nat.le_of_ble_eq_true rfl) ⟨Nat.le_refl _, Nat.le_refl _⟩ dX6_bestShift_45 rfl) (fun r6 g7 => ?_)
      obtain rfl : r6 = cAmt (nI ch) := g7
      exact re_wi (x := (I, A, K)) (v := (cAmt (nI ch))) hx hb hr hlk hP hS ⟨(cBS_y h19 hq).symm, rfl⟩ dX6_bestShift_48
  · refine lv_iconst (v := 0) hx hb dX6_bestShift_22 (by decide) ?_
    exact re_wi (x := (I, A, K)) (v := 0) hx hb hr hlk hP hS ⟨(if_neg h19).symm, rfl⟩ dX6_bestShift_23

set_option maxHeartbeats 1000000 in
set_option maxRecDepth 100000 in
theorem cx_X6_bestShift_0 (l : Launch) (E : En) (I A : Nat → Nat → Int32) (K : Nat → Nat → Int64) (nr nu : Nat) (x0 : Int32) (x1 : Int32) (hE : Ev cN E) (hD : DOk I A 0 nr nu) (hfl : l.stackTraces = false) (kb : x0 < 0 ∨ nI nu ≤ x0) : vx_Met l yX6_bestShift (wz yX6_bestShift cX6_bestShift 4 (some .int)) (rmk 7 1 6 116) (va_Pc [.ref (eP E 0), .int x0, .int x1] (Bw cN E cK (I, A, K))) qNo (xC "java/lang/IndexOutOfBoundsException") 1 6 fr0 := by
  refine en_ofX RX6 rfl (by decide +kernel) (Nat.le_of_ble_eq_true rfl) ?_
  intro p e s m below meth c ls S hr hlk hnm hout hl hB
  have hx := S.1
  have hb := S.2.1
  obtain ⟨hK, hC, hP⟩ := hB
  have hS : va_S (cA cN E) s.heap s.heap [] := va_S.rf
  have hl : lv_has ls 4 [(0, .ref (eP E 0)), (1, .int x0), (2, .int x1)] := hl
  obtain ⟨⟨hn1, hn2⟩, ⟨hr0, hr3⟩, hu3⟩ := id hD
  refine lv_aload_n hx hb dX6_bestShift_0 rfl (lv_at hl 0 rfl) ?_
  refine lv_iload_n hx hb dX6_bestShift_1 rfl (lv_at hl 1 rfl) ?_
  exact xk_V (a := eP E 0) S lk_X6_119 (cx_X6_requireRule l E I A K x0 nr nu hE hD hfl kb) ⟨Nat.le_of_ble_eq_true rfl, Nat.le_of_ble_eq_true rfl⟩ (rc_w hK hP 0 (by decide) (cK_lo (by decide)) rfl) (bw_U hE hK hC hP hS) rfl hl.1 (Nat.le_of_ble_eq_true rfl) dX6_bestShift_2 rfl hout hlk ⟨Nat.le_of_ble_eq_true rfl, Nat.le_of_ble_eq_true rfl⟩ bl_w

set_option maxHeartbeats 1000000 in
set_option maxRecDepth 100000 in
theorem cx_X6_bestShift_1 (l : Launch) (E : En) (I A : Nat → Nat → Int32) (K : Nat → Nat → Int64) (nr nu : Nat) (u : Nat) (x1 : Int32) (hE : Ev cN E) (hD : DOk I A 0 nr nu) (hfl : l.stackTraces = false) (k1 : u < nu) (kb : x1 < 0 ∨ 2 ≤ x1) : vx_Met l yX6_bestShift (wz yX6_bestShift cX6_bestShift 4 (some .int)) (rmk 7 1 6 116) (va_Pc [.ref (eP E 0), .int (nI u), .int x1] (Bw cN E cK (I, A, K))) qNo (xC "java/lang/IndexOutOfBoundsException") 1 6 fr0 := by
  refine en_ofX RX6 rfl (by decide +kernel) (Nat.le_of_ble_eq_true rfl) ?_
  intro p e s m below meth c ls S hr hlk hnm hout hl hB
  have hx := S.1
  have hb := S.2.1
  obtain ⟨hK, hC, hP⟩ := hB
  have hS : va_S (cA cN E) s.heap s.heap [] := va_S.rf
  have hl : lv_has ls 4 [(0, .ref (eP E 0)), (1, .int (nI u)), (2, .int x1)] := hl
  obtain ⟨⟨hn1, hn2⟩, ⟨hr0, hr3⟩, hu3⟩ := id hD
  refine lv_aload_n hx hb dX6_bestShift_0 rfl (lv_at hl 0 rfl) ?_
  refine lv_iload_n hx hb dX6_bestShift_1 rfl (lv_at hl 1 rfl) ?_
  refine cn_sv (ck_V (a := eP E 0) S lk_X6_119 (c_X6_requireRule l E I A K u nr nu hE hD k1) ⟨rfl, rfl⟩ ⟨Nat.le_of_ble_eq_true rfl, Nat.le_of_ble_eq_true rfl⟩ bl_w (rc_w hK hP 0 (by decide) (cK_lo (by decide)) rfl) (bw_U hE hK hC hP hS) rfl hl.1 (Nat.le_of_ble_eq_true rfl) ⟨Nat.zero_le _, Nat.zero_le _⟩ dX6_bestShift_2 rfl) ?_
  refine lv_aload_n hx hb dX6_bestShift_5 rfl (lv_at hl 0 rfl) ?_
  refine lv_iload_n hx hb dX6_bestShift_6 rfl (lv_at hl 2 rfl) ?_
  exact xk_V (a := eP E 0) S lk_X6_82 (cx_X6_requireScheme l E I A K x1 nr nu hE hD hfl kb) ⟨Nat.le_of_ble_eq_true rfl, Nat.le_of_ble_eq_true rfl⟩ (rc_w hK hP 0 (by decide) (cK_lo (by decide)) rfl) (bw_U hE hK hC hP hS) rfl hl.1 (Nat.le_of_ble_eq_true rfl) dX6_bestShift_7 rfl hout hlk ⟨Nat.le_of_ble_eq_true rfl, Nat.le_of_ble_eq_true rfl⟩ bl_w

set_option maxHeartbeats 1000000 in
set_option maxRecDepth 100000 in
theorem c_X6_shiftRole (l : Launch) (E : En) (I A : Nat → Nat → Int32) (K : Nat → Nat → Int64) (nr nu : Nat) (u : Nat) (sc : Nat) (hE : Ev cN E) (hD : DOk I A 0 nr nu) (k1 : u < nu) (k2 : sc < 2) : Met l yX6_shiftRole (wz yX6_shiftRole cX6_shiftRole 4 (some .int)) (rmk 6 0 0 141) (va_Pc [.ref (eP E 0), .int (nI u), .int (nI sc)] (Bw cN E cK (I, A, K))) (qWi cN E cK (fun zz uu => zz = cSR A u sc nu ∧ uu = (I, A, K))) 0 0 (cA cN E) := by
  refine en_ofW RX6 rfl (by decide +kernel) (Nat.le_of_ble_eq_true rfl) ?_
  intro p e s m below meth c ls S hr hlk hnm hl hB
  have hx := S.1
  have hb := S.2.1
  obtain ⟨hK, hC, hP⟩ := hB
  have hS : va_S (cA cN E) s.heap s.heap [] := va_S.rf
  have hl : lv_has ls 4 [(0, .ref (eP E 0)), (1, .int (nI u)), (2, .int (nI sc))] := hl
  obtain ⟨⟨hn1, hn2⟩, ⟨hr0, hr3⟩, hu3⟩ := id hD
  refine lv_aload_n hx hb dX6_shiftRole_0 rfl (lv_at hl 0 rfl) ?_
  refine lv_iload_n hx hb dX6_shiftRole_1 rfl (lv_at hl 1 rfl) ?_
  refine cn_sv (ck_V (a := eP E 0) S lk_X6_119 (c_X6_requireRule l E I A K u nr nu hE hD k1) ⟨rfl, rfl⟩ ⟨Nat.le_of_ble_eq_true rfl, Nat.le_of_ble_eq_true rfl⟩ bl_w (rc_w hK hP 0 (by decide) (cK_lo (by decide)) rfl) (bw_U hE hK hC hP hS) rfl hl.1 (Nat.le_of_ble_eq_true rfl) ⟨Nat.le_refl _, Nat.le_refl _⟩ dX6_shiftRole_2 rfl) ?_
  refine lv_aload_n hx hb dX6_shiftRole_5 rfl (lv_at hl 0 rfl) ?_
  refine lv_iload_n hx hb dX6_shiftRole_6 rfl (lv_at hl 2 rfl) ?_
  refine cn_sv (ck_V (a := eP E 0) S lk_X6_82 (c_X6_requireScheme l E I A K sc nr nu hE hD k2) ⟨rfl, rfl⟩ ⟨Nat.le_of_ble_eq_true rfl, Nat.le_of_ble_eq_true rfl⟩ bl_w (rc_w hK hP 0 (by decide) (cK_lo (by decide)) rfl) (bw_U hE hK hC hP hS) rfl hl.1 (Nat.le_of_ble_eq_true rfl) ⟨Nat.le_refl _, Nat.le_refl _⟩ dX6_shiftRole_7 rfl) ?_
  refine lv_aload_n hx hb dX6_shiftRole_10 rfl (lv_at hl 0 rfl) ?_
  refine rw_getr (x := (I, A, K)) S hK hP 0 (by decide) (cK_lo (by decide)) fk_X6_25 rfl dX6_shiftRole_11 ?_
  refine lv_iload_n hx hb dX6_shiftRole_14 rfl (lv_at hl 1 rfl) ?_
  refine lv_iload_n hx hb dX6_shiftRole_15 rfl (lv_at hl 2 rfl) ?_
  refine cn_si (ck_V (a := eP E (dB 0 0)) S lk_X6_142 (c_X1_isKept l E I A K 0 nr nu u sc hE (by decide) hD k1 k2) ⟨rfl, rfl⟩ ⟨Nat.le_of_ble_eq_true rfl, Nat.le_of_ble_eq_true rfl⟩ bl_w (rc_w hK hP (dB 0 0) (dB_lt (by decide) (by decide)) (cK_D (by decide)) rfl) (bw_U hE hK hC hP hS) rfl hl.1 (Nat.le_of_ble_eq_true rfl) ⟨Nat.le_refl _, Nat.le_refl _⟩ dX6_shiftRole_16 rfl) (fun r1 g2 => ?_)
  obtain rfl : r1 = cKept A 0 u sc := g2
  refine lv_if_eq (tgt := 24) hx hb dX6_shiftRole_19 (by decide) (fun h19 => ?_) (fun h19 => ?_)
  · refine lv_aload_n hx hb dX6_shiftRole_24 rfl (lv_at hl 0 rfl) ?_
    refine rw_getr (x := (I, A, K)) S hK hP 0 (by decide) (cK_lo (by decide)) fk_X6_25 rfl dX6_shiftRole_25 ?_
    refine lv_iload_n hx hb dX6_shiftRole_28 rfl (lv_at hl 1 rfl) ?_
    refine lv_iload_n hx hb dX6_shiftRole_29 rfl (lv_at hl 2 rfl) ?_
    refine cn_wi (ck_V (a := eP E (dB 0 0)) S lk_X6_146 (c_X1_bestChoice l E I A K 0 nr nu u sc hE (by decide) hD k1 k2) ⟨rfl, rfl⟩ ⟨Nat.le_of_ble_eq_true rfl, Nat.le_of_ble_eq_true rfl⟩ bl_w (rc_w hK hP (dB 0 0) (dB_lt (by decide) (by decide)) (cK_D (by decide)) rfl) (bw_U hE hK hC hP hS) rfl hl.1 (Nat.le_of_ble_eq_true rfl) ⟨Nat.le_refl _, Nat.le_refl _⟩ dX6_shiftRole_30 rfl) hS (fun r3 u4 H locs g5 hP hS => ?_)
    obtain ⟨rfl, rfl⟩ : r3 = optI (cBest A 0 u sc nu) ∧ u4 = (I, A, K) := g5
    have hP : Wp cN E cK (I, A, K) H := hP
    rcases hq : cBest A 0 u sc nu with _ | ch
    · refine tp_i (y := (-1)) rfl ?_
      refine lv_istore_n (lv' := [(3, .int (-1)), (0, .ref (eP E 0)), (1, .int (nI u)), (2, .int (nI sc))]) hx hb dX6_shiftRole_33 rfl hl (by decide) rfl (fun ls hl => ?_)
      refine lv_iload_n hx hb dX6_shiftRole_34 rfl (lv_at hl 0 rfl) ?_
      refine lv_if_ge (tgt := 42) hx hb dX6_shiftRole_35 (by decide) (fun h35 => absurd h35 (by decide)) (fun h35 => ?_)
      refine lv_iconst (v := (-1)) hx hb dX6_shiftRole_38 (by decide) ?_
      refine lv_goto (tgt := 51) hx hb dX6_shiftRole_39 (by decide) ?_
      exact re_wi (x := (I, A, K)) (v := (-1)) hx hb hr hlk hP hS ⟨(cSR_n h19 hq).symm, rfl⟩ dX6_shiftRole_51
    · refine tp_i (y := nI ch) rfl ?_
      obtain ⟨-, hc2, -⟩ := ffn_some hq
      have hc3 : ch < 1020 := by omega
      refine lv_istore_n (lv' := [(3, .int (nI ch)), (0, .ref (eP E 0)), (1, .int (nI u)), (2, .int (nI sc))]) hx hb dX6_shiftRole_33 rfl hl (by decide) rfl (fun ls hl => ?_)
      refine lv_iload_n hx hb dX6_shiftRole_34 rfl (lv_at hl 0 rfl) ?_
      refine lv_if_ge (tgt := 42) hx hb dX6_shiftRole_35 (by decide) (fun h35 => ?_) (fun h35 => absurd (nI_pos' (by omega)) h35)
      refine lv_aload_n hx hb dX6_shiftRole_42 rfl (lv_at hl 1 rfl) ?_
      refine rw_getr (x := (I, A, K)) S hK hP 0 (by decide) (cK_lo (by decide)) fk_X6_25 rfl dX6_shiftRole_43 ?_
      refine lv_iload_n hx hb dX6_shiftRole_46 rfl (lv_at hl 2 rfl) ?_
      refine lv_iload_n hx hb dX6_shiftRole_47 rfl (lv_at hl 0 rfl) ?_
      refine cn_si (ck_V (a := eP E (dB 0 0)) S lk_X6_152 (c_X1_choiceRole l E I A K 0 nr nu u ch hE (by decide) hD k1 hc3) ⟨rfl, rfl⟩ ⟨Nat.le_of_ble_eq_true rfl, Nat.le_of_ble_eq_true rfl⟩ bl_w (rc_w hK hP (dB 0 0) (dB_lt (by decide) (by decide)) (cK_D (by decide)) rfl) (bw_U hE hK hC hP hS) rfl hl.1 (Nat.le_of_ble_eq_true rfl) ⟨Nat.le_refl _, Nat.le_refl _⟩ dX6_shiftRole_48 rfl) (fun r6 g7 => ?_)
      obtain rfl : r6 = nI (cRole A 0 u ch) := g7
      exact re_wi (x := (I, A, K)) (v := (nI (cRole A 0 u ch))) hx hb hr hlk hP hS ⟨(cSR_y h19 hq).symm, rfl⟩ dX6_shiftRole_51
  · refine lv_iconst (v := (-1)) hx hb dX6_shiftRole_22 (by decide) ?_
    exact re_wi (x := (I, A, K)) (v := (-1)) hx hb hr hlk hP hS ⟨(if_neg h19).symm, rfl⟩ dX6_shiftRole_23

set_option maxHeartbeats 1000000 in
set_option maxRecDepth 100000 in
theorem cx_X6_shiftRole_0 (l : Launch) (E : En) (I A : Nat → Nat → Int32) (K : Nat → Nat → Int64) (nr nu : Nat) (x0 : Int32) (x1 : Int32) (hE : Ev cN E) (hD : DOk I A 0 nr nu) (hfl : l.stackTraces = false) (kb : x0 < 0 ∨ nI nu ≤ x0) : vx_Met l yX6_shiftRole (wz yX6_shiftRole cX6_shiftRole 4 (some .int)) (rmk 7 1 6 116) (va_Pc [.ref (eP E 0), .int x0, .int x1] (Bw cN E cK (I, A, K))) qNo (xC "java/lang/IndexOutOfBoundsException") 1 6 fr0 := by
  refine en_ofX RX6 rfl (by decide +kernel) (Nat.le_of_ble_eq_true rfl) ?_
  intro p e s m below meth c ls S hr hlk hnm hout hl hB
  have hx := S.1
  have hb := S.2.1
  obtain ⟨hK, hC, hP⟩ := hB
  have hS : va_S (cA cN E) s.heap s.heap [] := va_S.rf
  have hl : lv_has ls 4 [(0, .ref (eP E 0)), (1, .int x0), (2, .int x1)] := hl
  obtain ⟨⟨hn1, hn2⟩, ⟨hr0, hr3⟩, hu3⟩ := id hD
  refine lv_aload_n hx hb dX6_shiftRole_0 rfl (lv_at hl 0 rfl) ?_
  refine lv_iload_n hx hb dX6_shiftRole_1 rfl (lv_at hl 1 rfl) ?_
  exact xk_V (a := eP E 0) S lk_X6_119 (cx_X6_requireRule l E I A K x0 nr nu hE hD hfl kb) ⟨Nat.le_of_ble_eq_true rfl, Nat.le_of_ble_eq_true rfl⟩ (rc_w hK hP 0 (by decide) (cK_lo (by decide)) rfl) (bw_U hE hK hC hP hS) rfl hl.1 (Nat.le_of_ble_eq_true rfl) dX6_shiftRole_2 rfl hout hlk ⟨Nat.le_of_ble_eq_true rfl, Nat.le_of_ble_eq_true rfl⟩ bl_w

set_option maxHeartbeats 1000000 in
set_option maxRecDepth 100000 in
theorem cx_X6_shiftRole_1 (l : Launch) (E : En) (I A : Nat → Nat → Int32) (K : Nat → Nat → Int64) (nr nu : Nat) (u : Nat) (x1 : Int32) (hE : Ev cN E) (hD : DOk I A 0 nr nu) (hfl : l.stackTraces = false) (k1 : u < nu) (kb : x1 < 0 ∨ 2 ≤ x1) : vx_Met l yX6_shiftRole (wz yX6_shiftRole cX6_shiftRole 4 (some .int)) (rmk 7 1 6 116) (va_Pc [.ref (eP E 0), .int (nI u), .int x1] (Bw cN E cK (I, A, K))) qNo (xC "java/lang/IndexOutOfBoundsException") 1 6 fr0 := by
  refine en_ofX RX6 rfl (by decide +kernel) (Nat.le_of_ble_eq_true rfl) ?_
  intro p e s m below meth c ls S hr hlk hnm hout hl hB
  have hx := S.1
  have hb := S.2.1
  obtain ⟨hK, hC, hP⟩ := hB
  have hS : va_S (cA cN E) s.heap s.heap [] := va_S.rf
  have hl : lv_has ls 4 [(0, .ref (eP E 0)), (1, .int (nI u)), (2, .int x1)] := hl
  obtain ⟨⟨hn1, hn2⟩, ⟨hr0, hr3⟩, hu3⟩ := id hD
  refine lv_aload_n hx hb dX6_shiftRole_0 rfl (lv_at hl 0 rfl) ?_
  refine lv_iload_n hx hb dX6_shiftRole_1 rfl (lv_at hl 1 rfl) ?_
  refine cn_sv (ck_V (a := eP E 0) S lk_X6_119 (c_X6_requireRule l E I A K u nr nu hE hD k1) ⟨rfl, rfl⟩ ⟨Nat.le_of_ble_eq_true rfl, Nat.le_of_ble_eq_true rfl⟩ bl_w (rc_w hK hP 0 (by decide) (cK_lo (by decide)) rfl) (bw_U hE hK hC hP hS) rfl hl.1 (Nat.le_of_ble_eq_true rfl) ⟨Nat.zero_le _, Nat.zero_le _⟩ dX6_shiftRole_2 rfl) ?_
  refine lv_aload_n hx hb dX6_shiftRole_5 rfl (lv_at hl 0 rfl) ?_
  refine lv_iload_n hx hb dX6_shiftRole_6 rfl (lv_at hl 2 rfl) ?_
  exact xk_V (a := eP E 0) S lk_X6_82 (cx_X6_requireScheme l E I A K x1 nr nu hE hD hfl kb) ⟨Nat.le_of_ble_eq_true rfl, Nat.le_of_ble_eq_true rfl⟩ (rc_w hK hP 0 (by decide) (cK_lo (by decide)) rfl) (bw_U hE hK hC hP hS) rfl hl.1 (Nat.le_of_ble_eq_true rfl) dX6_shiftRole_7 rfl hout hlk ⟨Nat.le_of_ble_eq_true rfl, Nat.le_of_ble_eq_true rfl⟩ bl_w

