theorem up2_up {α : Type} {f : Nat → Nat → α} {q j : Nat} {v w : α} : up2 (up2 f q j v) q j w = up2 f q j w := by
  funext a b
  simp only [up2_at]
  by_cases h : a = q ∧ b = j <;> simp [h]
theorem rIn_y {x lo hi : Int32} (h1 : ¬ x < lo) (h2 : ¬ hi < x) : rIn x lo hi = 1 := by
  unfold rIn
  rw [if_neg h1, if_neg h2]
theorem rIn_n {x lo hi : Int32} (h : x < lo ∨ hi < x) : rIn x lo hi = 0 := by
  unfold rIn
  rcases h with h | h
  · rw [if_pos h]
  · by_cases g : x < lo
    · rw [if_pos g]
    · rw [if_neg g, if_pos h]
theorem rIn_r {r n : Nat} (h : r < n) (hn : n ≤ 12) : rIn (nI r) 0 (nI n - 1) = 1 := by
  obtain ⟨k, rfl⟩ : ∃ k, n = k + 1 := ⟨n - 1, by omega⟩
  rw [nI_pred]
  exact rIn_y (nI_pos (by omega)) (nI_nlt (by omega) (by omega))
theorem rIn_b {x : Int32} {n : Nat} (h : x < 0 ∨ nI n ≤ x) (hn : n ≤ 12) : rIn x 0 (nI n - 1) = 0 := by
  refine rIn_n ?_
  rcases h with h | h
  · exact Or.inl h
  · right
    cases n with
    | zero => exact Int32.lt_of_lt_of_le (by decide) h
    | succ k =>
      rw [nI_pred]
      exact Int32.lt_of_lt_of_le (nI_lt (by omega) (by omega)) h
set_option maxHeartbeats 1000000 in
set_option maxRecDepth 100000 in
theorem c_X7_fails_n (l : Launch) (E : En) (I A : Nat → Nat → Int32) (K : Nat → Nat → Int64) (ex : Int32) (hE : Ev mN E) (h0 : I 0 0 = 0) : Met l yX7_fails (wz yX7_fails cX7_fails 3 (some .boolean)) (rmk 0 0 0 0) (va_Pc [.ref (eP E 0), .int 0, .int ex] (Bw mN E mK (I, A, K))) (qWi mN E mK (fun zz uu => zz = 0 ∧ uu = (I, A, K))) 0 0 (cA mN E) := by
  refine en_ofW RX7 rfl (by decide +kernel) (Nat.le_of_ble_eq_true rfl) ?_
  intro p e s m below meth c ls S hr hlk hnm hl hB
  have hx := S.1
  have hb := S.2.1
  obtain ⟨hK, hC, hP⟩ := hB
  have hS : va_S (cA mN E) s.heap s.heap [] := va_S.rf
  have hl : lv_has ls 3 [(0, .ref (eP E 0)), (1, .int 0), (2, .int ex)] := hl
  refine lv_iload_n hx hb dX7_fails_0 rfl (lv_at hl 1 rfl) ?_
  refine lv_if_eq (tgt := 16) hx hb dX7_fails_1 (by decide) (fun h1 => ?_) (fun h1 => absurd (by decide) h1)
  refine lv_aload_n hx hb dX7_fails_16 rfl (lv_at hl 0 rfl) ?_
  refine rw_geti (x := (I, A, K)) (v := 0) S hK hP 0 (by decide) rfl fk_X7_35 rfl h0 dX7_fails_17 ?_
  refine lv_if_eq (tgt := 27) hx hb dX7_fails_20 (by decide) (fun h20 => ?_) (fun h20 => absurd (by decide) h20)
  refine lv_iconst (v := 0) hx hb dX7_fails_27 (by decide) ?_
  exact re_wz (x := (I, A, K)) (v := 0) hx hb hr hlk rfl hP hS ⟨rfl, rfl⟩ dX7_fails_28

set_option maxHeartbeats 1000000 in
set_option maxRecDepth 100000 in
theorem c_X7_fails_b (l : Launch) (E : En) (I A : Nat → Nat → Int32) (K : Nat → Nat → Int64) (ex : Int32) (hE : Ev mN E) (h0 : I 0 0 = 0) (hxc : ¬ ex = 0) : Met l yX7_fails (wz yX7_fails cX7_fails 3 (some .boolean)) (rmk 0 0 0 0) (va_Pc [.ref (eP E 0), .int 1, .int ex] (Bw mN E mK (I, A, K))) (qWi mN E mK (fun zz uu => zz = 1 ∧ uu = (up2 I 0 0 ex, A, K))) 0 0 (cA mN E) := by
  refine en_ofW RX7 rfl (by decide +kernel) (Nat.le_of_ble_eq_true rfl) ?_
  intro p e s m below meth c ls S hr hlk hnm hl hB
  have hx := S.1
  have hb := S.2.1
  obtain ⟨hK, hC, hP⟩ := hB
  have hS : va_S (cA mN E) s.heap s.heap [] := va_S.rf
  have hl : lv_has ls 3 [(0, .ref (eP E 0)), (1, .int 1), (2, .int ex)] := hl
  refine lv_iload_n hx hb dX7_fails_0 rfl (lv_at hl 1 rfl) ?_
  refine lv_if_eq (tgt := 16) hx hb dX7_fails_1 (by decide) (fun h1 => absurd h1 (by decide)) (fun h1 => ?_)
  refine lv_aload_n hx hb dX7_fails_4 rfl (lv_at hl 0 rfl) ?_
  refine rw_geti (x := (I, A, K)) (v := 0) S hK hP 0 (by decide) rfl fk_X7_35 rfl h0 dX7_fails_5 ?_
  refine lv_if_ne (tgt := 16) hx hb dX7_fails_8 (by decide) (fun h8 => absurd h8 (by decide)) (fun h8 => ?_)
  refine lv_aload_n hx hb dX7_fails_11 rfl (lv_at hl 0 rfl) ?_
  refine lv_iload_n hx hb dX7_fails_12 rfl (lv_at hl 2 rfl) ?_
  refine rw_puti (x := (I, A, K)) (v := ex) S hE hK hP hS 0 (by decide) rfl fk_X7_35 rfl tyX7_ok nmX7 ⟨rfl, by decide +kernel⟩ dX7_fails_13 (fun H locs hP hS => ?_)
  have hP : Wp mN E mK ((up2 I 0 0 ex), A, K) H := hP
  refine lv_aload_n hx hb dX7_fails_16 rfl (lv_at hl 0 rfl) ?_
  refine rw_geti (x := ((up2 I 0 0 ex), A, K)) (v := ex) S hK hP 0 (by decide) rfl fk_X7_35 rfl (up2_eq (f := I) (q := 0) (j := 0) (v := ex)) dX7_fails_17 ?_
  refine lv_if_eq (tgt := 27) hx hb dX7_fails_20 (by decide) (fun h20 => absurd h20 hxc) (fun h20 => ?_)
  refine lv_iconst (v := 1) hx hb dX7_fails_23 (by decide) ?_
  refine lv_goto (tgt := 28) hx hb dX7_fails_24 (by decide) ?_
  exact re_wz (x := ((up2 I 0 0 ex), A, K)) (v := 1) hx hb hr hlk rfl hP hS ⟨rfl, rfl⟩ dX7_fails_28

set_option maxHeartbeats 1000000 in
set_option maxRecDepth 100000 in
theorem c_X7_noRole_n (l : Launch) (E : En) (I A : Nat → Nat → Int32) (K : Nat → Nat → Int64) (r : Nat) (nr nu : Nat) (hE : Ev mN E) (hM : MOk A nr nu) (h0 : I 0 0 = 0) (kr : r < nr) : Met l yX7_noRole (wz yX7_noRole cX7_noRole 2 (some .boolean)) (rmk 1 0 0 22) (va_Pc [.ref (eP E 0), .int (nI r)] (Bw mN E mK (I, A, K))) (qWi mN E mK (fun zz uu => zz = 0 ∧ uu = (I, A, K))) 0 0 (cA mN E) := by
  refine en_ofW RX7 rfl (by decide +kernel) (Nat.le_of_ble_eq_true rfl) ?_
  intro p e s m below meth c ls S hr hlk hnm hl hB
  have hx := S.1
  have hb := S.2.1
  obtain ⟨hK, hC, hP⟩ := hB
  have hS : va_S (cA mN E) s.heap s.heap [] := va_S.rf
  have hl : lv_has ls 2 [(0, .ref (eP E 0)), (1, .int (nI r))] := hl
  obtain ⟨⟨hn1, hn2⟩, ⟨hr0, hr1⟩, hu3, hcv⟩ := id hM
  refine lv_aload_n hx hb dX7_noRole_0 rfl (lv_at hl 0 rfl) ?_
  refine lv_iload_n hx hb dX7_noRole_1 rfl (lv_at hl 1 rfl) ?_
  refine lv_iconst (v := 0) hx hb dX7_noRole_2 (by decide) ?_
  refine lv_aload_n hx hb dX7_noRole_3 rfl (lv_at hl 0 rfl) ?_
  refine rw_getr (x := (I, A, K)) S hK hP 0 (by decide) rfl fk_X7_17 rfl dX7_noRole_4 ?_
  refine lv_iconst (v := 0) hx hb dX7_noRole_7 (by decide) ?_
  refine rw_iald (x := (I, A, K)) (v := nI nr) S hK hP 2 (by decide) rfl 0 rfl (by decide) (by decide) hr0 dX7_noRole_8 ?_
  refine lv_iconst (v := 1) hx hb dX7_noRole_9 (by decide) ?_
  refine lv_isub hx hb dX7_noRole_10 ?_
  refine cn_si (ck_S S lk_X7_58 (c_X7_in l (nI r) 0 ((nI nr) - 1)) ⟨rfl, rfl⟩ ⟨Nat.le_of_ble_eq_true rfl, Nat.le_of_ble_eq_true rfl⟩ bl_T t_U rfl hl.1 (Nat.le_of_ble_eq_true rfl) ⟨Nat.le_refl _, Nat.le_refl _⟩ dX7_noRole_11 rfl) (fun r1 g2 => ?_)
  obtain rfl : r1 = rIn (nI r) 0 ((nI nr) - 1) := g2
  refine tp_i (y := 1) (rIn_r kr (by omega)) ?_
  refine lv_if_ne (tgt := 21) hx hb dX7_noRole_14 (by decide) (fun h14 => ?_) (fun h14 => absurd h14 (by decide))
  refine lv_iconst (v := 0) hx hb dX7_noRole_21 (by decide) ?_
  refine lv_iconst (v := 1) hx hb dX7_noRole_22 (by decide) ?_
  refine cn_wi (ck_V (a := eP E 0) S lk_X7_159 (c_X7_fails_n l E I A K 1 hE h0) ⟨rfl, rfl⟩ ⟨Nat.le_of_ble_eq_true rfl, Nat.le_of_ble_eq_true rfl⟩ bl_w (rc_w hK hP 0 (by decide) rfl rfl) (bw_U hE hK hC hP hS) rfl hl.1 (Nat.le_of_ble_eq_true rfl) ⟨Nat.le_refl _, Nat.le_refl _⟩ dX7_noRole_23 rfl) hS (fun r3 u4 H locs g5 hP hS => ?_)
  obtain ⟨rfl, rfl⟩ : r3 = 0 ∧ u4 = (I, A, K) := g5
  have hP : Wp mN E mK (I, A, K) H := hP
  exact re_wz (x := (I, A, K)) (v := 0) hx hb hr hlk rfl hP hS ⟨rfl, rfl⟩ dX7_noRole_26

set_option maxHeartbeats 1000000 in
set_option maxRecDepth 100000 in
theorem c_X7_noRole_b (l : Launch) (E : En) (I A : Nat → Nat → Int32) (K : Nat → Nat → Int64) (x : Int32) (nr nu : Nat) (hE : Ev mN E) (hM : MOk A nr nu) (h0 : I 0 0 = 0) (hbad : x < 0 ∨ nI nr ≤ x) : Met l yX7_noRole (wz yX7_noRole cX7_noRole 2 (some .boolean)) (rmk 1 0 0 22) (va_Pc [.ref (eP E 0), .int x] (Bw mN E mK (I, A, K))) (qWi mN E mK (fun zz uu => zz = 1 ∧ uu = ((up2 I 0 0 1), A, K))) 0 0 (cA mN E) := by
  refine en_ofW RX7 rfl (by decide +kernel) (Nat.le_of_ble_eq_true rfl) ?_
  intro p e s m below meth c ls S hr hlk hnm hl hB
  have hx := S.1
  have hb := S.2.1
  obtain ⟨hK, hC, hP⟩ := hB
  have hS : va_S (cA mN E) s.heap s.heap [] := va_S.rf
  have hl : lv_has ls 2 [(0, .ref (eP E 0)), (1, .int x)] := hl
  obtain ⟨⟨hn1, hn2⟩, ⟨hr0, hr1⟩, hu3, hcv⟩ := id hM
  refine lv_aload_n hx hb dX7_noRole_0 rfl (lv_at hl 0 rfl) ?_
  refine lv_iload_n hx hb dX7_noRole_1 rfl (lv_at hl 1 rfl) ?_
  refine lv_iconst (v := 0) hx hb dX7_noRole_2 (by decide) ?_
  refine lv_aload_n hx hb dX7_noRole_3 rfl (lv_at hl 0 rfl) ?_
  refine rw_getr (x := (I, A, K)) S hK hP 0 (by decide) rfl fk_X7_17 rfl dX7_noRole_4 ?_
  refine lv_iconst (v := 0) hx hb dX7_noRole_7 (by decide) ?_
  refine rw_iald (x := (I, A, K)) (v := nI nr) S hK hP 2 (by decide) rfl 0 rfl (by decide) (by decide) hr0 dX7_noRole_8 ?_
  refine lv_iconst (v := 1) hx hb dX7_noRole_9 (by decide) ?_
  refine lv_isub hx hb dX7_noRole_10 ?_
  refine cn_si (ck_S S lk_X7_58 (c_X7_in l x 0 ((nI nr) - 1)) ⟨rfl, rfl⟩ ⟨Nat.le_of_ble_eq_true rfl, Nat.le_of_ble_eq_true rfl⟩ bl_T t_U rfl hl.1 (Nat.le_of_ble_eq_true rfl) ⟨Nat.le_refl _, Nat.le_refl _⟩ dX7_noRole_11 rfl) (fun r1 g2 => ?_)
  obtain rfl : r1 = rIn x 0 ((nI nr) - 1) := g2
  refine tp_i (y := 0) (rIn_b hbad (by omega)) ?_
  refine lv_if_ne (tgt := 21) hx hb dX7_noRole_14 (by decide) (fun h14 => absurd h14 (by decide)) (fun h14 => ?_)
  refine lv_iconst (v := 1) hx hb dX7_noRole_17 (by decide) ?_
  refine lv_goto (tgt := 22) hx hb dX7_noRole_18 (by decide) ?_
  refine lv_iconst (v := 1) hx hb dX7_noRole_22 (by decide) ?_
  refine cn_wi (ck_V (a := eP E 0) S lk_X7_159 (c_X7_fails_b l E I A K 1 hE h0 (by decide)) ⟨rfl, rfl⟩ ⟨Nat.le_of_ble_eq_true rfl, Nat.le_of_ble_eq_true rfl⟩ bl_w (rc_w hK hP 0 (by decide) rfl rfl) (bw_U hE hK hC hP hS) rfl hl.1 (Nat.le_of_ble_eq_true rfl) ⟨Nat.le_refl _, Nat.le_refl _⟩ dX7_noRole_23 rfl) hS (fun r3 u4 H locs g5 hP hS => ?_)
  obtain ⟨rfl, rfl⟩ : r3 = 1 ∧ u4 = ((up2 I 0 0 1), A, K) := g5
  have hP : Wp mN E mK ((up2 I 0 0 1), A, K) H := hP
  exact re_wz (x := ((up2 I 0 0 1), A, K)) (v := 1) hx hb hr hlk rfl hP hS ⟨rfl, rfl⟩ dX7_noRole_26

set_option maxHeartbeats 1000000 in
set_option maxRecDepth 100000 in
theorem c_X7_noScheme_n (l : Launch) (E : En) (I A : Nat → Nat → Int32) (K : Nat → Nat → Int64) (sc : Nat) (hE : Ev mN E) (h0 : I 0 0 = 0) (hsc : sc < 2) : Met l yX7_noScheme (wz yX7_noScheme cX7_noScheme 2 (some .boolean)) (rmk 1 0 0 22) (va_Pc [.ref (eP E 0), .int (nI sc)] (Bw mN E mK (I, A, K))) (qWi mN E mK (fun zz uu => zz = 0 ∧ uu = (I, A, K))) 0 0 (cA mN E) := by
  refine en_ofW RX7 rfl (by decide +kernel) (Nat.le_of_ble_eq_true rfl) ?_
  intro p e s m below meth c ls S hr hlk hnm hl hB
  have hx := S.1
  have hb := S.2.1
  obtain ⟨hK, hC, hP⟩ := hB
  have hS : va_S (cA mN E) s.heap s.heap [] := va_S.rf
  have hl : lv_has ls 2 [(0, .ref (eP E 0)), (1, .int (nI sc))] := hl
  refine lv_aload_n hx hb dX7_noScheme_0 rfl (lv_at hl 0 rfl) ?_
  refine lv_iload_n hx hb dX7_noScheme_1 rfl (lv_at hl 1 rfl) ?_
  refine lv_iconst (v := 0) hx hb dX7_noScheme_2 (by decide) ?_
  refine lv_iconst (v := 1) hx hb dX7_noScheme_3 (by decide) ?_
  refine cn_si (ck_S S lk_X7_58 (c_X7_in l (nI sc) 0 1) ⟨rfl, rfl⟩ ⟨Nat.le_of_ble_eq_true rfl, Nat.le_of_ble_eq_true rfl⟩ bl_T t_U rfl hl.1 (Nat.le_of_ble_eq_true rfl) ⟨Nat.le_refl _, Nat.le_refl _⟩ dX7_noScheme_4 rfl) (fun r1 g2 => ?_)
  obtain rfl : r1 = rIn (nI sc) 0 1 := g2
  refine tp_i (y := 1) (rIn_r (n := 2) hsc (by decide)) ?_
  refine lv_if_ne (tgt := 14) hx hb dX7_noScheme_7 (by decide) (fun h7 => ?_) (fun h7 => absurd h7 (by decide))
  refine lv_iconst (v := 0) hx hb dX7_noScheme_14 (by decide) ?_
  refine lv_iconst (v := 1) hx hb dX7_noScheme_15 (by decide) ?_
  refine cn_wi (ck_V (a := eP E 0) S lk_X7_159 (c_X7_fails_n l E I A K 1 hE h0) ⟨rfl, rfl⟩ ⟨Nat.le_of_ble_eq_true rfl, Nat.le_of_ble_eq_true rfl⟩ bl_w (rc_w hK hP 0 (by decide) rfl rfl) (bw_U hE hK hC hP hS) rfl hl.1 (Nat.le_of_ble_eq_true rfl) ⟨Nat.le_refl _, Nat.le_refl _⟩ dX7_noScheme_16 rfl) hS (fun r3 u4 H locs g5 hP hS => ?_)
  obtain ⟨rfl, rfl⟩ : r3 = 0 ∧ u4 = (I, A, K) := g5
  have hP : Wp mN E mK (I, A, K) H := hP
  exact re_wz (x := (I, A, K)) (v := 0) hx hb hr hlk rfl hP hS ⟨rfl, rfl⟩ dX7_noScheme_19

set_option maxHeartbeats 1000000 in
set_option maxRecDepth 100000 in
theorem c_X7_noScheme_b (l : Launch) (E : En) (I A : Nat → Nat → Int32) (K : Nat → Nat → Int64) (x : Int32) (hE : Ev mN E) (h0 : I 0 0 = 0) (hbad : x < 0 ∨ 2 ≤ x) : Met l yX7_noScheme (wz yX7_noScheme cX7_noScheme 2 (some .boolean)) (rmk 1 0 0 22) (va_Pc [.ref (eP E 0), .int x] (Bw mN E mK (I, A, K))) (qWi mN E mK (fun zz uu => zz = 1 ∧ uu = ((up2 I 0 0 1), A, K))) 0 0 (cA mN E) := by
  refine en_ofW RX7 rfl (by decide +kernel) (Nat.le_of_ble_eq_true rfl) ?_
  intro p e s m below meth c ls S hr hlk hnm hl hB
  have hx := S.1
  have hb := S.2.1
  obtain ⟨hK, hC, hP⟩ := hB
  have hS : va_S (cA mN E) s.heap s.heap [] := va_S.rf
  have hl : lv_has ls 2 [(0, .ref (eP E 0)), (1, .int x)] := hl
  refine lv_aload_n hx hb dX7_noScheme_0 rfl (lv_at hl 0 rfl) ?_
  refine lv_iload_n hx hb dX7_noScheme_1 rfl (lv_at hl 1 rfl) ?_
  refine lv_iconst (v := 0) hx hb dX7_noScheme_2 (by decide) ?_
  refine lv_iconst (v := 1) hx hb dX7_noScheme_3 (by decide) ?_
  refine cn_si (ck_S S lk_X7_58 (c_X7_in l x 0 1) ⟨rfl, rfl⟩ ⟨Nat.le_of_ble_eq_true rfl, Nat.le_of_ble_eq_true rfl⟩ bl_T t_U rfl hl.1 (Nat.le_of_ble_eq_true rfl) ⟨Nat.le_refl _, Nat.le_refl _⟩ dX7_noScheme_4 rfl) (fun r1 g2 => ?_)
  obtain rfl : r1 = rIn x 0 1 := g2
  refine tp_i (y := 0) (rIn_b (n := 2) hbad (by decide)) ?_
  refine lv_if_ne (tgt := 14) hx hb dX7_noScheme_7 (by decide) (fun h7 => absurd h7 (by decide)) (fun h7 => ?_)
  refine lv_iconst (v := 1) hx hb dX7_noScheme_10 (by decide) ?_
  refine lv_goto (tgt := 15) hx hb dX7_noScheme_11 (by decide) ?_
  refine lv_iconst (v := 1) hx hb dX7_noScheme_15 (by decide) ?_
  refine cn_wi (ck_V (a := eP E 0) S lk_X7_159 (c_X7_fails_b l E I A K 1 hE h0 (by decide)) ⟨rfl, rfl⟩ ⟨Nat.le_of_ble_eq_true rfl, Nat.le_of_ble_eq_true rfl⟩ bl_w (rc_w hK hP 0 (by decide) rfl rfl) (bw_U hE hK hC hP hS) rfl hl.1 (Nat.le_of_ble_eq_true rfl) ⟨Nat.le_refl _, Nat.le_refl _⟩ dX7_noScheme_16 rfl) hS (fun r3 u4 H locs g5 hP hS => ?_)
  obtain ⟨rfl, rfl⟩ : r3 = 1 ∧ u4 = ((up2 I 0 0 1), A, K) := g5
  have hP : Wp mN E mK ((up2 I 0 0 1), A, K) H := hP
  exact re_wz (x := ((up2 I 0 0 1), A, K)) (v := 1) hx hb hr hlk rfl hP hS ⟨rfl, rfl⟩ dX7_noScheme_19

set_option maxHeartbeats 1000000 in
set_option maxRecDepth 100000 in
theorem c_X7_noSight_n (l : Launch) (E : En) (I A : Nat → Nat → Int32) (K : Nat → Nat → Int64) (t : Nat) (hE : Ev mN E) (h0 : I 0 0 = 0) (ht : t < 5) : Met l yX7_noSight (wz yX7_noSight cX7_noSight 2 (some .boolean)) (rmk 1 0 0 22) (va_Pc [.ref (eP E 0), .int (nI t)] (Bw mN E mK (I, A, K))) (qWi mN E mK (fun zz uu => zz = 0 ∧ uu = (I, A, K))) 0 0 (cA mN E) := by
  refine en_ofW RX7 rfl (by decide +kernel) (Nat.le_of_ble_eq_true rfl) ?_
  intro p e s m below meth c ls S hr hlk hnm hl hB
  have hx := S.1
  have hb := S.2.1
  obtain ⟨hK, hC, hP⟩ := hB
  have hS : va_S (cA mN E) s.heap s.heap [] := va_S.rf
  have hl : lv_has ls 2 [(0, .ref (eP E 0)), (1, .int (nI t))] := hl
  refine lv_aload_n hx hb dX7_noSight_0 rfl (lv_at hl 0 rfl) ?_
  refine lv_iload_n hx hb dX7_noSight_1 rfl (lv_at hl 1 rfl) ?_
  refine lv_iconst (v := 0) hx hb dX7_noSight_2 (by decide) ?_
  refine lv_iconst (v := 4) hx hb dX7_noSight_3 (by decide) ?_
  refine cn_si (ck_S S lk_X7_58 (c_X7_in l (nI t) 0 4) ⟨rfl, rfl⟩ ⟨Nat.le_of_ble_eq_true rfl, Nat.le_of_ble_eq_true rfl⟩ bl_T t_U rfl hl.1 (Nat.le_of_ble_eq_true rfl) ⟨Nat.le_refl _, Nat.le_refl _⟩ dX7_noSight_4 rfl) (fun r1 g2 => ?_)
  obtain rfl : r1 = rIn (nI t) 0 4 := g2
  refine tp_i (y := 1) (rIn_r (n := 5) ht (by decide)) ?_
  refine lv_if_ne (tgt := 14) hx hb dX7_noSight_7 (by decide) (fun h7 => ?_) (fun h7 => absurd h7 (by decide))
  refine lv_iconst (v := 0) hx hb dX7_noSight_14 (by decide) ?_
  refine lv_iconst (v := 2) hx hb dX7_noSight_15 (by decide) ?_
  refine cn_wi (ck_V (a := eP E 0) S lk_X7_159 (c_X7_fails_n l E I A K 2 hE h0) ⟨rfl, rfl⟩ ⟨Nat.le_of_ble_eq_true rfl, Nat.le_of_ble_eq_true rfl⟩ bl_w (rc_w hK hP 0 (by decide) rfl rfl) (bw_U hE hK hC hP hS) rfl hl.1 (Nat.le_of_ble_eq_true rfl) ⟨Nat.le_refl _, Nat.le_refl _⟩ dX7_noSight_16 rfl) hS (fun r3 u4 H locs g5 hP hS => ?_)
  obtain ⟨rfl, rfl⟩ : r3 = 0 ∧ u4 = (I, A, K) := g5
  have hP : Wp mN E mK (I, A, K) H := hP
  exact re_wz (x := (I, A, K)) (v := 0) hx hb hr hlk rfl hP hS ⟨rfl, rfl⟩ dX7_noSight_19

set_option maxHeartbeats 1000000 in
set_option maxRecDepth 100000 in
theorem c_X7_noSight_b (l : Launch) (E : En) (I A : Nat → Nat → Int32) (K : Nat → Nat → Int64) (x : Int32) (hE : Ev mN E) (h0 : I 0 0 = 0) (hbad : x < 0 ∨ 5 ≤ x) : Met l yX7_noSight (wz yX7_noSight cX7_noSight 2 (some .boolean)) (rmk 1 0 0 22) (va_Pc [.ref (eP E 0), .int x] (Bw mN E mK (I, A, K))) (qWi mN E mK (fun zz uu => zz = 1 ∧ uu = ((up2 I 0 0 2), A, K))) 0 0 (cA mN E) := by
  refine en_ofW RX7 rfl (by decide +kernel) (Nat.le_of_ble_eq_true rfl) ?_
  intro p e s m below meth c ls S hr hlk hnm hl hB
  have hx := S.1
  have hb := S.2.1
  obtain ⟨hK, hC, hP⟩ := hB
  have hS : va_S (cA mN E) s.heap s.heap [] := va_S.rf
  have hl : lv_has ls 2 [(0, .ref (eP E 0)), (1, .int x)] := hl
  refine lv_aload_n hx hb dX7_noSight_0 rfl (lv_at hl 0 rfl) ?_
  refine lv_iload_n hx hb dX7_noSight_1 rfl (lv_at hl 1 rfl) ?_
  refine lv_iconst (v := 0) hx hb dX7_noSight_2 (by decide) ?_
  refine lv_iconst (v := 4) hx hb dX7_noSight_3 (by decide) ?_
  refine cn_si (ck_S S lk_X7_58 (c_X7_in l x 0 4) ⟨rfl, rfl⟩ ⟨Nat.le_of_ble_eq_true rfl, Nat.le_of_ble_eq_true rfl⟩ bl_T t_U rfl hl.1 (Nat.le_of_ble_eq_true rfl) ⟨Nat.le_refl _, Nat.le_refl _⟩ dX7_noSight_4 rfl) (fun r1 g2 => ?_)
  obtain rfl : r1 = rIn x 0 4 := g2
  refine tp_i (y := 0) (rIn_b (n := 5) hbad (by decide)) ?_
  refine lv_if_ne (tgt := 14) hx hb dX7_noSight_7 (by decide) (fun h7 => absurd h7 (by decide)) (fun h7 => ?_)
  refine lv_iconst (v := 1) hx hb dX7_noSight_10 (by decide) ?_
  refine lv_goto (tgt := 15) hx hb dX7_noSight_11 (by decide) ?_
  refine lv_iconst (v := 2) hx hb dX7_noSight_15 (by decide) ?_
  refine cn_wi (ck_V (a := eP E 0) S lk_X7_159 (c_X7_fails_b l E I A K 2 hE h0 (by decide)) ⟨rfl, rfl⟩ ⟨Nat.le_of_ble_eq_true rfl, Nat.le_of_ble_eq_true rfl⟩ bl_w (rc_w hK hP 0 (by decide) rfl rfl) (bw_U hE hK hC hP hS) rfl hl.1 (Nat.le_of_ble_eq_true rfl) ⟨Nat.le_refl _, Nat.le_refl _⟩ dX7_noSight_16 rfl) hS (fun r3 u4 H locs g5 hP hS => ?_)
  obtain ⟨rfl, rfl⟩ : r3 = 1 ∧ u4 = ((up2 I 0 0 2), A, K) := g5
  have hP : Wp mN E mK ((up2 I 0 0 2), A, K) H := hP
  exact re_wz (x := ((up2 I 0 0 2), A, K)) (v := 1) hx hb hr hlk rfl hP hS ⟨rfl, rfl⟩ dX7_noSight_19

set_option maxHeartbeats 1000000 in
set_option maxRecDepth 100000 in
theorem c_X7_noColour_n (l : Launch) (E : En) (I A : Nat → Nat → Int32) (K : Nat → Nat → Int64) (x : Int32) (hE : Ev mN E) (h0 : I 0 0 = 0) (hc : ¬ x < 0 ∧ ¬ 16777215 < x) : Met l yX7_noColour (wz yX7_noColour cX7_noColour 2 (some .boolean)) (rmk 1 0 0 22) (va_Pc [.ref (eP E 0), .int x] (Bw mN E mK (I, A, K))) (qWi mN E mK (fun zz uu => zz = 0 ∧ uu = (I, A, K))) 0 0 (cA mN E) := by
  refine en_ofW RX7 rfl (by decide +kernel) (Nat.le_of_ble_eq_true rfl) ?_
  intro p e s m below meth c ls S hr hlk hnm hl hB
  have hx := S.1
  have hb := S.2.1
  obtain ⟨hK, hC, hP⟩ := hB
  have hS : va_S (cA mN E) s.heap s.heap [] := va_S.rf
  have hl : lv_has ls 2 [(0, .ref (eP E 0)), (1, .int x)] := hl
  refine lv_aload_n hx hb dX7_noColour_0 rfl (lv_at hl 0 rfl) ?_
  refine lv_iload_n hx hb dX7_noColour_1 rfl (lv_at hl 1 rfl) ?_
  refine lv_iconst (v := 0) hx hb dX7_noColour_2 (by decide) ?_
  refine lv_ldcw (v := 16777215) hx hb S.2.2.2.1 (S.2.2.2.2 _ kc_X7_273) dX7_noColour_3 ?_
  refine cn_si (ck_S S lk_X7_58 (c_X7_in l x 0 16777215) ⟨rfl, rfl⟩ ⟨Nat.le_of_ble_eq_true rfl, Nat.le_of_ble_eq_true rfl⟩ bl_T t_U rfl hl.1 (Nat.le_of_ble_eq_true rfl) ⟨Nat.le_refl _, Nat.le_refl _⟩ dX7_noColour_6 rfl) (fun r1 g2 => ?_)
  obtain rfl : r1 = rIn x 0 16777215 := g2
  refine tp_i (y := 1) (rIn_y hc.1 hc.2) ?_
  refine lv_if_ne (tgt := 16) hx hb dX7_noColour_9 (by decide) (fun h9 => ?_) (fun h9 => absurd h9 (by decide))
  refine lv_iconst (v := 0) hx hb dX7_noColour_16 (by decide) ?_
  refine lv_iconst (v := 2) hx hb dX7_noColour_17 (by decide) ?_
  refine cn_wi (ck_V (a := eP E 0) S lk_X7_159 (c_X7_fails_n l E I A K 2 hE h0) ⟨rfl, rfl⟩ ⟨Nat.le_of_ble_eq_true rfl, Nat.le_of_ble_eq_true rfl⟩ bl_w (rc_w hK hP 0 (by decide) rfl rfl) (bw_U hE hK hC hP hS) rfl hl.1 (Nat.le_of_ble_eq_true rfl) ⟨Nat.le_refl _, Nat.le_refl _⟩ dX7_noColour_18 rfl) hS (fun r3 u4 H locs g5 hP hS => ?_)
  obtain ⟨rfl, rfl⟩ : r3 = 0 ∧ u4 = (I, A, K) := g5
  have hP : Wp mN E mK (I, A, K) H := hP
  exact re_wz (x := (I, A, K)) (v := 0) hx hb hr hlk rfl hP hS ⟨rfl, rfl⟩ dX7_noColour_21

set_option maxHeartbeats 1000000 in
set_option maxRecDepth 100000 in
theorem c_X7_noColour_b (l : Launch) (E : En) (I A : Nat → Nat → Int32) (K : Nat → Nat → Int64) (x : Int32) (hE : Ev mN E) (h0 : I 0 0 = 0) (hbad : x < 0 ∨ 16777215 < x) : Met l yX7_noColour (wz yX7_noColour cX7_noColour 2 (some .boolean)) (rmk 1 0 0 22) (va_Pc [.ref (eP E 0), .int x] (Bw mN E mK (I, A, K))) (qWi mN E mK (fun zz uu => zz = 1 ∧ uu = ((up2 I 0 0 2), A, K))) 0 0 (cA mN E) := by
  refine en_ofW RX7 rfl (by decide +kernel) (Nat.le_of_ble_eq_true rfl) ?_
  intro p e s m below meth c ls S hr hlk hnm hl hB
  have hx := S.1
  have hb := S.2.1
  obtain ⟨hK, hC, hP⟩ := hB
  have hS : va_S (cA mN E) s.heap s.heap [] := va_S.rf
  have hl : lv_has ls 2 [(0, .ref (eP E 0)), (1, .int x)] := hl
  refine lv_aload_n hx hb dX7_noColour_0 rfl (lv_at hl 0 rfl) ?_
  refine lv_iload_n hx hb dX7_noColour_1 rfl (lv_at hl 1 rfl) ?_
  refine lv_iconst (v := 0) hx hb dX7_noColour_2 (by decide) ?_
  refine lv_ldcw (v := 16777215) hx hb S.2.2.2.1 (S.2.2.2.2 _ kc_X7_273) dX7_noColour_3 ?_
  refine cn_si (ck_S S lk_X7_58 (c_X7_in l x 0 16777215) ⟨rfl, rfl⟩ ⟨Nat.le_of_ble_eq_true rfl, Nat.le_of_ble_eq_true rfl⟩ bl_T t_U rfl hl.1 (Nat.le_of_ble_eq_true rfl) ⟨Nat.le_refl _, Nat.le_refl _⟩ dX7_noColour_6 rfl) (fun r1 g2 => ?_)
  obtain rfl : r1 = rIn x 0 16777215 := g2
  refine tp_i (y := 0) (rIn_n hbad) ?_
  refine lv_if_ne (tgt := 16) hx hb dX7_noColour_9 (by decide) (fun h9 => absurd h9 (by decide)) (fun h9 => ?_)
  refine lv_iconst (v := 1) hx hb dX7_noColour_12 (by decide) ?_
  refine lv_goto (tgt := 17) hx hb dX7_noColour_13 (by decide) ?_
  refine lv_iconst (v := 2) hx hb dX7_noColour_17 (by decide) ?_
  refine cn_wi (ck_V (a := eP E 0) S lk_X7_159 (c_X7_fails_b l E I A K 2 hE h0 (by decide)) ⟨rfl, rfl⟩ ⟨Nat.le_of_ble_eq_true rfl, Nat.le_of_ble_eq_true rfl⟩ bl_w (rc_w hK hP 0 (by decide) rfl rfl) (bw_U hE hK hC hP hS) rfl hl.1 (Nat.le_of_ble_eq_true rfl) ⟨Nat.le_refl _, Nat.le_refl _⟩ dX7_noColour_18 rfl) hS (fun r3 u4 H locs g5 hP hS => ?_)
  obtain ⟨rfl, rfl⟩ : r3 = 1 ∧ u4 = ((up2 I 0 0 2), A, K) := g5
  have hP : Wp mN E mK ((up2 I 0 0 2), A, K) H := hP
  exact re_wz (x := ((up2 I 0 0 2), A, K)) (v := 1) hx hb hr hlk rfl hP hS ⟨rfl, rfl⟩ dX7_noColour_21

set_option maxHeartbeats 1000000 in
set_option maxRecDepth 100000 in
theorem c_X7_noRule_n (l : Launch) (E : En) (I A : Nat → Nat → Int32) (K : Nat → Nat → Int64) (u sc : Nat) (nr nu : Nat) (hE : Ev mN E) (hM : MOk A nr nu) (h0 : I 0 0 = 0) (hu : u < nu) (hsc : sc < 2) : Met l yX7_noRule (wz yX7_noRule cX7_noRule 3 (some .boolean)) (rmk 2 0 0 43) (va_Pc [.ref (eP E 0), .int (nI u), .int (nI sc)] (Bw mN E mK (I, A, K))) (qWi mN E mK (fun zz uu => zz = 0 ∧ uu = (I, A, K))) 0 0 (cA mN E) := by
  refine en_ofW RX7 rfl (by decide +kernel) (Nat.le_of_ble_eq_true rfl) ?_
  intro p e s m below meth c ls S hr hlk hnm hl hB
  have hx := S.1
  have hb := S.2.1
  obtain ⟨hK, hC, hP⟩ := hB
  have hS : va_S (cA mN E) s.heap s.heap [] := va_S.rf
  have hl : lv_has ls 3 [(0, .ref (eP E 0)), (1, .int (nI u)), (2, .int (nI sc))] := hl
  obtain ⟨⟨hn1, hn2⟩, ⟨hr0, hr1⟩, hu3, hcv⟩ := id hM
  refine lv_aload_n hx hb dX7_noRule_0 rfl (lv_at hl 0 rfl) ?_
  refine lv_iload_n hx hb dX7_noRule_1 rfl (lv_at hl 1 rfl) ?_
  refine lv_iconst (v := 0) hx hb dX7_noRule_2 (by decide) ?_
  refine lv_aload_n hx hb dX7_noRule_3 rfl (lv_at hl 0 rfl) ?_
  refine rw_getr (x := (I, A, K)) S hK hP 0 (by decide) rfl fk_X7_17 rfl dX7_noRule_4 ?_
  refine lv_iconst (v := 1) hx hb dX7_noRule_7 (by decide) ?_
  refine rw_iald (x := (I, A, K)) (v := nI nu) S hK hP 2 (by decide) rfl 1 rfl (by decide) (by decide) hr1 dX7_noRule_8 ?_
  refine lv_iconst (v := 1) hx hb dX7_noRule_9 (by decide) ?_
  refine lv_isub hx hb dX7_noRule_10 ?_
  refine cn_si (ck_S S lk_X7_58 (c_X7_in l (nI u) 0 ((nI nu) - 1)) ⟨rfl, rfl⟩ ⟨Nat.le_of_ble_eq_true rfl, Nat.le_of_ble_eq_true rfl⟩ bl_T t_U rfl hl.1 (Nat.le_of_ble_eq_true rfl) ⟨Nat.le_refl _, Nat.le_refl _⟩ dX7_noRule_11 rfl) (fun r1 g2 => ?_)
  obtain rfl : r1 = rIn (nI u) 0 ((nI nu) - 1) := g2
  refine tp_i (y := 1) (rIn_r hu (by omega)) ?_
  refine lv_if_ne (tgt := 21) hx hb dX7_noRule_14 (by decide) (fun h14 => ?_) (fun h14 => absurd h14 (by decide))
  refine lv_iconst (v := 0) hx hb dX7_noRule_21 (by decide) ?_
  refine lv_iconst (v := 1) hx hb dX7_noRule_22 (by decide) ?_
  refine cn_wi (ck_V (a := eP E 0) S lk_X7_159 (c_X7_fails_n l E I A K 1 hE h0) ⟨rfl, rfl⟩ ⟨Nat.le_of_ble_eq_true rfl, Nat.le_of_ble_eq_true rfl⟩ bl_w (rc_w hK hP 0 (by decide) rfl rfl) (bw_U hE hK hC hP hS) rfl hl.1 (Nat.le_of_ble_eq_true rfl) ⟨Nat.le_refl _, Nat.le_refl _⟩ dX7_noRule_23 rfl) hS (fun r3 u4 H locs g5 hP hS => ?_)
  obtain ⟨rfl, rfl⟩ : r3 = 0 ∧ u4 = (I, A, K) := g5
  have hP : Wp mN E mK (I, A, K) H := hP
  refine lv_if_ne (tgt := 37) hx hb dX7_noRule_26 (by decide) (fun h26 => absurd h26 (by decide)) (fun h26 => ?_)
  refine lv_aload_n hx hb dX7_noRule_29 rfl (lv_at hl 0 rfl) ?_
  refine lv_iload_n hx hb dX7_noRule_30 rfl (lv_at hl 2 rfl) ?_
  refine cn_wi (ck_V (a := eP E 0) S lk_X7_264 (c_X7_noScheme_n l E I A K sc hE h0 hsc) ⟨rfl, rfl⟩ ⟨Nat.le_of_ble_eq_true rfl, Nat.le_of_ble_eq_true rfl⟩ bl_w (rc_w hK hP 0 (by decide) rfl rfl) (bw_U hE hK hC hP hS) rfl hl.1 (Nat.le_of_ble_eq_true rfl) ⟨Nat.le_refl _, Nat.le_refl _⟩ dX7_noRule_31 rfl) hS (fun r6 u7 H locs g8 hP hS => ?_)
  obtain ⟨rfl, rfl⟩ : r6 = 0 ∧ u7 = (I, A, K) := g8
  have hP : Wp mN E mK (I, A, K) H := hP
  refine lv_if_eq (tgt := 41) hx hb dX7_noRule_34 (by decide) (fun h34 => ?_) (fun h34 => absurd (by decide) h34)
  refine lv_iconst (v := 0) hx hb dX7_noRule_41 (by decide) ?_
  exact re_wz (x := (I, A, K)) (v := 0) hx hb hr hlk rfl hP hS ⟨rfl, rfl⟩ dX7_noRule_42

set_option maxHeartbeats 1000000 in
set_option maxRecDepth 100000 in
theorem c_X7_noRule_b (l : Launch) (E : En) (I A : Nat → Nat → Int32) (K : Nat → Nat → Int64) (x y : Int32) (nr nu : Nat) (hE : Ev mN E) (hM : MOk A nr nu) (h0 : I 0 0 = 0) (hbad : x < 0 ∨ nI nu ≤ x) : Met l yX7_noRule (wz yX7_noRule cX7_noRule 3 (some .boolean)) (rmk 1 0 0 22) (va_Pc [.ref (eP E 0), .int x, .int y] (Bw mN E mK (I, A, K))) (qWi mN E mK (fun zz uu => zz = 1 ∧ uu = ((up2 I 0 0 1), A, K))) 0 0 (cA mN E) := by
  refine en_ofW RX7 rfl (by decide +kernel) (Nat.le_of_ble_eq_true rfl) ?_
  intro p e s m below meth c ls S hr hlk hnm hl hB
  have hx := S.1
  have hb := S.2.1
  obtain ⟨hK, hC, hP⟩ := hB
  have hS : va_S (cA mN E) s.heap s.heap [] := va_S.rf
  have hl : lv_has ls 3 [(0, .ref (eP E 0)), (1, .int x), (2, .int y)] := hl
  obtain ⟨⟨hn1, hn2⟩, ⟨hr0, hr1⟩, hu3, hcv⟩ := id hM
  refine lv_aload_n hx hb dX7_noRule_0 rfl (lv_at hl 0 rfl) ?_
  refine lv_iload_n hx hb dX7_noRule_1 rfl (lv_at hl 1 rfl) ?_
  refine lv_iconst (v := 0) hx hb dX7_noRule_2 (by decide) ?_
  refine lv_aload_n hx hb dX7_noRule_3 rfl (lv_at hl 0 rfl) ?_
  refine rw_getr (x := (I, A, K)) S hK hP 0 (by decide) rfl fk_X7_17 rfl dX7_noRule_4 ?_
  refine lv_iconst (v := 1) hx hb dX7_noRule_7 (by decide) ?_
  refine rw_iald (x := (I, A, K)) (v := nI nu) S hK hP 2 (by decide) rfl 1 rfl (by decide) (by decide) hr1 dX7_noRule_8 ?_
  refine lv_iconst (v := 1) hx hb dX7_noRule_9 (by decide) ?_
  refine lv_isub hx hb dX7_noRule_10 ?_
  refine cn_si (ck_S S lk_X7_58 (c_X7_in l x 0 ((nI nu) - 1)) ⟨rfl, rfl⟩ ⟨Nat.le_of_ble_eq_true rfl, Nat.le_of_ble_eq_true rfl⟩ bl_T t_U rfl hl.1 (Nat.le_of_ble_eq_true rfl) ⟨Nat.le_refl _, Nat.le_refl _⟩ dX7_noRule_11 rfl) (fun r1 g2 => ?_)
  obtain rfl : r1 = rIn x 0 ((nI nu) - 1) := g2
  refine tp_i (y := 0) (rIn_b hbad (by omega)) ?_
  refine lv_if_ne (tgt := 21) hx hb dX7_noRule_14 (by decide) (fun h14 => absurd h14 (by decide)) (fun h14 => ?_)
  refine lv_iconst (v := 1) hx hb dX7_noRule_17 (by decide) ?_
  refine lv_goto (tgt := 22) hx hb dX7_noRule_18 (by decide) ?_
  refine lv_iconst (v := 1) hx hb dX7_noRule_22 (by decide) ?_
  refine cn_wi (ck_V (a := eP E 0) S lk_X7_159 (c_X7_fails_b l E I A K 1 hE h0 (by decide)) ⟨rfl, rfl⟩ ⟨Nat.le_of_ble_eq_true rfl, Nat.le_of_ble_eq_true rfl⟩ bl_w (rc_w hK hP 0 (by decide) rfl rfl) (bw_U hE hK hC hP hS) rfl hl.1 (Nat.le_of_ble_eq_true rfl) ⟨Nat.le_refl _, Nat.le_refl _⟩ dX7_noRule_23 rfl) hS (fun r3 u4 H locs g5 hP hS => ?_)
  obtain ⟨rfl, rfl⟩ : r3 = 1 ∧ u4 = ((up2 I 0 0 1), A, K) := g5
  have hP : Wp mN E mK ((up2 I 0 0 1), A, K) H := hP
  refine lv_if_ne (tgt := 37) hx hb dX7_noRule_26 (by decide) (fun h26 => ?_) (fun h26 => absurd h26 (by decide))
  refine lv_iconst (v := 1) hx hb dX7_noRule_37 (by decide) ?_
  refine lv_goto (tgt := 42) hx hb dX7_noRule_38 (by decide) ?_
  exact re_wz (x := ((up2 I 0 0 1), A, K)) (v := 1) hx hb hr hlk rfl hP hS ⟨rfl, rfl⟩ dX7_noRule_42

set_option maxHeartbeats 1000000 in
set_option maxRecDepth 100000 in
theorem c_X7_noRule_c (l : Launch) (E : En) (I A : Nat → Nat → Int32) (K : Nat → Nat → Int64) (u : Nat) (x : Int32) (nr nu : Nat) (hE : Ev mN E) (hM : MOk A nr nu) (h0 : I 0 0 = 0) (hu : u < nu) (hbad : x < 0 ∨ 2 ≤ x) : Met l yX7_noRule (wz yX7_noRule cX7_noRule 3 (some .boolean)) (rmk 2 0 0 43) (va_Pc [.ref (eP E 0), .int (nI u), .int x] (Bw mN E mK (I, A, K))) (qWi mN E mK (fun zz uu => zz = 1 ∧ uu = ((up2 I 0 0 1), A, K))) 0 0 (cA mN E) := by
  refine en_ofW RX7 rfl (by decide +kernel) (Nat.le_of_ble_eq_true rfl) ?_
  intro p e s m below meth c ls S hr hlk hnm hl hB
  have hx := S.1
  have hb := S.2.1
  obtain ⟨hK, hC, hP⟩ := hB
  have hS : va_S (cA mN E) s.heap s.heap [] := va_S.rf
  have hl : lv_has ls 3 [(0, .ref (eP E 0)), (1, .int (nI u)), (2, .int x)] := hl
  obtain ⟨⟨hn1, hn2⟩, ⟨hr0, hr1⟩, hu3, hcv⟩ := id hM
  refine lv_aload_n hx hb dX7_noRule_0 rfl (lv_at hl 0 rfl) ?_
  refine lv_iload_n hx hb dX7_noRule_1 rfl (lv_at hl 1 rfl) ?_
  refine lv_iconst (v := 0) hx hb dX7_noRule_2 (by decide) ?_
  refine lv_aload_n hx hb dX7_noRule_3 rfl (lv_at hl 0 rfl) ?_
  refine rw_getr (x := (I, A, K)) S hK hP 0 (by decide) rfl fk_X7_17 rfl dX7_noRule_4 ?_
  refine lv_iconst (v := 1) hx hb dX7_noRule_7 (by decide) ?_
  refine rw_iald (x := (I, A, K)) (v := nI nu) S hK hP 2 (by decide) rfl 1 rfl (by decide) (by decide) hr1 dX7_noRule_8 ?_
  refine lv_iconst (v := 1) hx hb dX7_noRule_9 (by decide) ?_
  refine lv_isub hx hb dX7_noRule_10 ?_
  refine cn_si (ck_S S lk_X7_58 (c_X7_in l (nI u) 0 ((nI nu) - 1)) ⟨rfl, rfl⟩ ⟨Nat.le_of_ble_eq_true rfl, Nat.le_of_ble_eq_true rfl⟩ bl_T t_U rfl hl.1 (Nat.le_of_ble_eq_true rfl) ⟨Nat.le_refl _, Nat.le_refl _⟩ dX7_noRule_11 rfl) (fun r1 g2 => ?_)
  obtain rfl : r1 = rIn (nI u) 0 ((nI nu) - 1) := g2
  refine tp_i (y := 1) (rIn_r hu (by omega)) ?_
  refine lv_if_ne (tgt := 21) hx hb dX7_noRule_14 (by decide) (fun h14 => ?_) (fun h14 => absurd h14 (by decide))
  refine lv_iconst (v := 0) hx hb dX7_noRule_21 (by decide) ?_
  refine lv_iconst (v := 1) hx hb dX7_noRule_22 (by decide) ?_
  refine cn_wi (ck_V (a := eP E 0) S lk_X7_159 (c_X7_fails_n l E I A K 1 hE h0) ⟨rfl, rfl⟩ ⟨Nat.le_of_ble_eq_true rfl, Nat.le_of_ble_eq_true rfl⟩ bl_w (rc_w hK hP 0 (by decide) rfl rfl) (bw_U hE hK hC hP hS) rfl hl.1 (Nat.le_of_ble_eq_true rfl) ⟨Nat.le_refl _, Nat.le_refl _⟩ dX7_noRule_23 rfl) hS (fun r3 u4 H locs g5 hP hS => ?_)
  obtain ⟨rfl, rfl⟩ : r3 = 0 ∧ u4 = (I, A, K) := g5
  have hP : Wp mN E mK (I, A, K) H := hP
  refine lv_if_ne (tgt := 37) hx hb dX7_noRule_26 (by decide) (fun h26 => absurd h26 (by decide)) (fun h26 => ?_)
  refine lv_aload_n hx hb dX7_noRule_29 rfl (lv_at hl 0 rfl) ?_
  refine lv_iload_n hx hb dX7_noRule_30 rfl (lv_at hl 2 rfl) ?_
  refine cn_wi (ck_V (a := eP E 0) S lk_X7_264 (c_X7_noScheme_b l E I A K x hE h0 hbad) ⟨rfl, rfl⟩ ⟨Nat.le_of_ble_eq_true rfl, Nat.le_of_ble_eq_true rfl⟩ bl_w (rc_w hK hP 0 (by decide) rfl rfl) (bw_U hE hK hC hP hS) rfl hl.1 (Nat.le_of_ble_eq_true rfl) ⟨Nat.le_refl _, Nat.le_refl _⟩ dX7_noRule_31 rfl) hS (fun r6 u7 H locs g8 hP hS => ?_)
  obtain ⟨rfl, rfl⟩ : r6 = 1 ∧ u7 = ((up2 I 0 0 1), A, K) := g8
  have hP : Wp mN E mK ((up2 I 0 0 1), A, K) H := hP
  refine lv_if_eq (tgt := 41) hx hb dX7_noRule_34 (by decide) (fun h34 => absurd h34 (by decide)) (fun h34 => ?_)
  refine lv_iconst (v := 1) hx hb dX7_noRule_37 (by decide) ?_
  refine lv_goto (tgt := 42) hx hb dX7_noRule_38 (by decide) ?_
  exact re_wz (x := ((up2 I 0 0 1), A, K)) (v := 1) hx hb hr hlk rfl hP hS ⟨rfl, rfl⟩ dX7_noRule_42

