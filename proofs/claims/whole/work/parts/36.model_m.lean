theorem mW_12 {I A : Nat → Nat → Int32} {T : Nat → Int32} {n : Nat} {z : Tz} {b : Nat} {v : Int32} (hb : b = 12 ∨ b = 13 ∨ b = 14) (h : mW I A T n z) : mW (up2 I 0 b v) A T n z := by
  have e3 : up2 I 0 b v 0 3 = I 0 3 := up2_j (by omega)
  have e4 : up2 I 0 b v 0 4 = I 0 4 := up2_j (by omega)
  have e5 : up2 I 0 b v 0 5 = I 0 5 := up2_j (by omega)
  have e6 : up2 I 0 b v 0 6 = I 0 6 := up2_j (by omega)
  unfold mW at *
  rw [e3, e4, e5, e6]
  exact h
theorem mW_er2 {I J A : Nat → Nat → Int32} {T : Nat → Int32} {n : Nat} {z : Tz} {k : Int32} (h : mW I A T n z) (h0 : z.1 = 0) (hk : ¬ k = 0) (e3 : J 0 3 = I 0 3) (e5 : J 0 5 = k) (e6 : J 0 6 = nI (tkB T n z.2)) : mW J A T n (zF k z) := by
  obtain ⟨⟨h1, h2, h3⟩, h4, h5, h6⟩ := h
  have e : (zF k z).1 = k := if_pos h0
  exact ⟨⟨e3.trans h1, h2, h3⟩, e5.trans e.symm, fun g => absurd (e.symm.trans g) hk, fun _ => e6, fun g => absurd (e.symm.trans g) hk⟩
theorem zS_b {A : Nat → Nat → Int32} {T : Nat → Int32} {n ch : Nat} {z : Tz} (hT : mT A T n) (h0 : z.1 = 0) (hc : ch < 128) (hcs : isDg (nI ch) = false ∧ isLt (nI ch) = false) : (mBv A n (tkB T n z.2) = nI ch ↔ zS T n (nI ch) z = true) := by
  rw [mBv_eq hT hc]
  constructor
  · intro g
    obtain ⟨k1, -, -⟩ := tk_3 (T := T) (n := n) (p := z.2) g.1 (by rw [g.2]; exact ne_t hcs.1) (by rw [g.2]; exact ne_t hcs.2)
    exact decide_eq_true ⟨h0, k1, g.2⟩
  · intro g
    have q := of_decide_eq_true g
    exact ⟨tkK_lt (by rw [q.2.1]; decide), q.2.2⟩
theorem zS_e {T : Nat → Int32} {n ch : Nat} {z : Tz} (hcs : isDg (nI ch) = false ∧ isLt (nI ch) = false) (h : zS T n (nI ch) z = true) : tkE T n z.2 = tkB T n z.2 + 1 ∧ tkB T n z.2 < n := by
  have q := of_decide_eq_true h
  have hl : tkB T n z.2 < n := tkK_lt (by rw [q.2.1]; decide)
  exact ⟨(tk_3 hl (by rw [q.2.2]; exact ne_t hcs.1) (by rw [q.2.2]; exact ne_t hcs.2)).2.1, hl⟩
theorem zNS_t {T : Nat → Int32} {n : Nat} {w : Int32} {z : Tz} (h : zS T n w z = true) : zNS T n w z = zA T n z := if_pos h
theorem zNS_f {T : Nat → Int32} {n : Nat} {w : Int32} {z : Tz} (h : zS T n w z = false) : zNS T n w z = zF (-2) z := if_neg (ne_t h)
theorem mDv {A : Nat → Nat → Int32} {T : Nat → Int32} {n k : Nat} (hT : mT A T n) (hk : k < n) (h : isDg (T k) = true) : mBv A n k = T k := by
  unfold mBv
  rw [if_pos hk, (hT.2 k hk).1]
  obtain ⟨b, hb, h1, h2⟩ := (hT.2 k hk).2
  rcases h2 with ⟨-, h3⟩ | ⟨-, h4⟩
  · rw [h1, h3]
  · exact absurd (rIn_n (Or.inl (Int32.lt_of_lt_of_le h4 (by decide : (0 : Int32) ≤ 48)))) (of_decide_eq_true h)
theorem rMin_i {x : Int32} : rMin 1000000 x = iMin x 1000000 := rfl
set_option maxHeartbeats 1000000 in
set_option maxRecDepth 100000 in
theorem c_X7_expect (l : Launch) (E : En) (I A : Nat → Nat → Int32) (K : Nat → Nat → Int64) (T : Nat → Int32) (n : Nat) (z : Tz) (ch : Nat) (hE : Ev mN E) (hW : mW I A T n z) (hch : ch < 128) (hcs : isDg (nI ch) = false ∧ isLt (nI ch) = false) : Met l yX7_expect (wz yX7_expect cX7_expect 2 none) (rmk 2 0 0 41) (va_Pc [.ref (eP E 0), .int (nI ch)] (Bw mN E mK (I, A, K))) (qWv mN E mK (fun uu => ∃ J, mW J A T n (zNS T n (nI ch) z) ∧ rP I J ∧ uu = (J, A, K))) 0 0 (cA mN E) := by
  refine en_ofW RX7 rfl (by decide +kernel) (Nat.le_of_ble_eq_true rfl) ?_
  intro p e s m below meth c ls S hr hlk hnm hl hB
  have hx := S.1
  have hb := S.2.1
  obtain ⟨hK, hC, hP⟩ := hB
  have hS : va_S (cA mN E) s.heap s.heap [] := va_S.rf
  have hl : lv_has ls 2 [(0, .ref (eP E 0)), (1, .int (nI ch))] := hl
  obtain ⟨⟨hn3, hTT, hzn⟩, h5c, h5p, h5e⟩ := id hW
  have hn7 := hTT.1
  have hBn := tkB_le (T := T) hzn
  refine lv_aload_n hx hb dX7_expect_0 rfl (lv_at hl 0 rfl) ?_
  refine cn_si (ck_V (a := eP E 0) S lk_X7_62 (c_X7_isGood l E I A K hE) ⟨rfl, rfl⟩ ⟨Nat.le_of_ble_eq_true rfl, Nat.le_of_ble_eq_true rfl⟩ bl_w (rc_w hK hP 0 (by decide) rfl rfl) (bw_U hE hK hC hP hS) rfl hl.1 (Nat.le_of_ble_eq_true rfl) ⟨Nat.le_refl _, Nat.le_refl _⟩ dX7_expect_1 rfl) (fun r1 g2 => ?_)
  obtain rfl : r1 = bI (decide (I 0 5 = 0)) := g2
  refine lv_if_ne (tgt := 8) hx hb dX7_expect_4 (by decide) (fun h4 => ?_) (fun h4 => ?_)
  · have h0 : z.1 = 0 := h5c.symm.trans (of_decide_eq_true (bI_t h4))
    refine lv_aload_n hx hb dX7_expect_8 rfl (lv_at hl 0 rfl) ?_
    obtain ⟨pos, hpos, hpn, hpB⟩ := h5p h0
    refine cn_wi (ck_V (a := eP E 0) S lk_X7_66 (c_X7_next l E I A K T n pos hE hn3 hTT hpos hpn) ⟨rfl, rfl⟩ ⟨Nat.le_of_ble_eq_true rfl, Nat.le_of_ble_eq_true rfl⟩ bl_w (rc_w hK hP 0 (by decide) rfl rfl) (bw_U hE hK hC hP hS) rfl hl.1 (Nat.le_of_ble_eq_true rfl) ⟨Nat.le_refl _, Nat.le_refl _⟩ dX7_expect_9 rfl) hS (fun r3 u4 H locs g5 hP hS => ?_)
    obtain ⟨rfl, rfl⟩ : r3 = (mBv A n (tkB T n pos)) ∧ u4 = ((up2 I 0 4 (nI (tkB T n pos))), A, K) := g5
    have hP : Wp mN E mK ((up2 I 0 4 (nI (tkB T n pos))), A, K) H := hP
    rw [hpB] at hP
    have hP : Wp mN E mK ((up2 I 0 4 (nI (tkB T n z.2))), A, K) H := hP
    refine tp_i (y := mBv A n (tkB T n z.2)) (by rw [hpB]) ?_
    refine lv_iload_n hx hb dX7_expect_12 rfl (lv_at hl 1 rfl) ?_
    refine lv_icmp_ne (tgt := 29) hx hb dX7_expect_13 (by decide) (fun h13 => ?_) (fun h13 => ?_)
    · have hzs : zS T n (nI ch) z = false := Bool.eq_false_iff.mpr (fun g => h13 ((zS_b hTT h0 hch hcs).mpr g))
      refine lv_aload_n hx hb dX7_expect_29 rfl (lv_at hl 0 rfl) ?_
      refine lv_bipush (v := (-2)) hx hb dX7_expect_30 (by decide) ?_
      refine lv_aload_n hx hb dX7_expect_32 rfl (lv_at hl 0 rfl) ?_
      refine rw_geti (x := ((up2 I 0 4 (nI (tkB T n z.2))), A, K)) (v := (nI (tkB T n z.2))) S hK hP 0 (by decide) rfl fk_X7_45 rfl (up2_eq (f := I) (q := 0) (j := 4) (v := (nI (tkB T n z.2)))) dX7_expect_33 ?_
      refine cn_wv (ck_V (a := eP E 0) S lk_X7_79 (c_X7_report l E (up2 I 0 4 (nI (tkB T n z.2))) A K (-2) (nI (tkB T n z.2)) hE) ⟨rfl, rfl⟩ ⟨Nat.le_of_ble_eq_true rfl, Nat.le_of_ble_eq_true rfl⟩ bl_w (rc_w hK hP 0 (by decide) rfl rfl) (bw_U hE hK hC hP hS) rfl hl.1 (Nat.le_of_ble_eq_true rfl) ⟨Nat.le_refl _, Nat.le_refl _⟩ dX7_expect_36 rfl) hS (fun u7 H locs g8 hP hS => ?_)
      obtain rfl : u7 = ((if (up2 I 0 4 (nI (tkB T n z.2))) 0 5 = 0 then up2 (up2 (up2 I 0 4 (nI (tkB T n z.2))) 0 5 (-2)) 0 6 (nI (tkB T n z.2)) else (up2 I 0 4 (nI (tkB T n z.2)))), A, K) := g8
      have hP : Wp mN E mK ((if (up2 I 0 4 (nI (tkB T n z.2))) 0 5 = 0 then up2 (up2 (up2 I 0 4 (nI (tkB T n z.2))) 0 5 (-2)) 0 6 (nI (tkB T n z.2)) else (up2 I 0 4 (nI (tkB T n z.2)))), A, K) H := hP
      rw [if_pos (show (up2 I 0 4 (nI (tkB T n z.2))) 0 5 = 0 from h5c.trans h0)] at hP
      have hP : Wp mN E mK ((up2 (up2 (up2 I 0 4 (nI (tkB T n z.2))) 0 5 (-2)) 0 6 (nI (tkB T n z.2))), A, K) H := hP
      exact re_wv (x := ((up2 (up2 (up2 I 0 4 (nI (tkB T n z.2))) 0 5 (-2)) 0 6 (nI (tkB T n z.2))), A, K)) hx hb hr hlk hP hS ⟨_, (by rw [zNS_f hzs]; exact mW_er2 hW h0 (by decide) rfl rfl up2_eq), rP_u (rP_u (rP_u rP_rf (Or.inl rfl)) (Or.inr (Or.inl rfl))) (Or.inr (Or.inr (Or.inl rfl))), rfl⟩ dX7_expect_39
    · have hzs : zS T n (nI ch) z = true := (zS_b hTT h0 hch hcs).mp h13
      refine lv_aload_n hx hb dX7_expect_16 rfl (lv_at hl 0 rfl) ?_
      refine lv_dup hx hb dX7_expect_17 rfl ?_
      refine rw_geti (x := ((up2 I 0 4 (nI (tkB T n z.2))), A, K)) (v := (nI (tkB T n z.2))) S hK hP 0 (by decide) rfl fk_X7_45 rfl (up2_eq (f := I) (q := 0) (j := 4) (v := (nI (tkB T n z.2)))) dX7_expect_18 ?_
      refine lv_iconst (v := 1) hx hb dX7_expect_21 (by decide) ?_
      refine lv_iadd hx hb dX7_expect_22 ?_
      refine tp_i (y := nI ((tkB T n z.2) + 1)) (nI_add (tkB T n z.2) 1) ?_
      refine rw_puti (x := ((up2 I 0 4 (nI (tkB T n z.2))), A, K)) (v := (nI ((tkB T n z.2) + 1))) S hE hK hP hS 0 (by decide) rfl fk_X7_45 rfl tyX7_ok nmX7 ⟨rfl, by decide +kernel⟩ dX7_expect_23 (fun H locs hP hS => ?_)
      have hP : Wp mN E mK ((up2 (up2 I 0 4 (nI (tkB T n z.2))) 0 4 (nI ((tkB T n z.2) + 1))), A, K) H := hP
      rw [up2_up] at hP
      have hP : Wp mN E mK ((up2 I 0 4 (nI (tkB T n z.2 + 1))), A, K) H := hP
      refine lv_goto (tgt := 39) hx hb dX7_expect_26 (by decide) ?_
      exact re_wv (x := ((up2 I 0 4 (nI (tkB T n z.2 + 1))), A, K)) hx hb hr hlk hP hS ⟨_, (by rw [zNS_t hzs, zA_0 h0]; exact mW_pos hW h0 (q := tkB T n z.2 + 1) (y := (0, tkE T n z.2)) (by have := (zS_e hcs hzs).2; omega) rfl (tkE_le hzn) (by show _ = tkB T n (tkE T n z.2); rw [(zS_e hcs hzs).1])), rP_u rP_rf (Or.inl rfl), rfl⟩ dX7_expect_39
  · have h0 : ¬ z.1 = 0 := fun g => absurd (decide_eq_true (h5c.trans g)) (by rw [bI_f h4]; decide)
    exact re_wv (x := (I, A, K)) hx hb hr hlk hP hS ⟨_, (by rw [zNS_f (decide_eq_false (fun q => h0 q.1))]; exact mW_bad hW h0), rP_rf, rfl⟩ dX7_expect_7

theorem dg_of {T : Nat → Int32} {n p : Nat} (h : tkK T n p = 1) : tkB T n p < n ∧ isDg (T (tkB T n p)) = true := by
  have hl : tkB T n p < n := tkK_lt (by rw [h]; decide)
  refine ⟨hl, Classical.byContradiction (fun g => ?_)⟩
  by_cases q : isLt (T (tkB T n p)) = true
  · exact absurd ((tk_2 hl g q).1.symm.trans h) (by decide)
  · exact absurd ((tk_3 hl g q).1.symm.trans h) (by decide)
theorem rIn_0 {v lo hi : Int32} (h : rIn v lo hi = 0) : v < lo ∨ hi < v := by
  unfold rIn at h
  by_cases g : v < lo
  · exact Or.inl g
  · rw [if_neg g] at h
    by_cases q : hi < v
    · exact Or.inr q
    · rw [if_neg q] at h
      exact absurd h (by decide)
theorem rIn_1 {v lo hi : Int32} (h : ¬ rIn v lo hi = 0) : ¬ v < lo ∧ ¬ hi < v := ⟨fun g => h (rIn_n (Or.inl g)), fun g => h (rIn_n (Or.inr g))⟩
theorem zNz_i {T : Nat → Int32} {n : Nat} {lo hi : Int32} {z : Tz} (h : zN T n z = true) (g : ¬ tkV T n z.2 < lo ∧ ¬ hi < tkV T n z.2) : zNz T n lo hi z = zA T n z := by
  unfold zNz
  rw [if_pos h, if_neg g.1, if_neg g.2]
theorem zNv_i {T : Nat → Int32} {n : Nat} {lo hi : Int32} {z : Tz} (h : zN T n z = true) (g : ¬ tkV T n z.2 < lo ∧ ¬ hi < tkV T n z.2) : zNv T n lo hi z = tkV T n z.2 := by
  unfold zNv
  rw [if_pos h, if_neg g.1, if_neg g.2]
theorem zNz_e {T : Nat → Int32} {n : Nat} {lo hi : Int32} {z : Tz} (h : zN T n z = true) (g : tkV T n z.2 < lo ∨ hi < tkV T n z.2) : zNz T n lo hi z = zF (-3) z := by
  unfold zNz
  rw [if_pos h]
  by_cases q : tkV T n z.2 < lo
  · rw [if_pos q]
  · rw [if_neg q, if_pos (g.resolve_left q)]
theorem zNz_f {T : Nat → Int32} {n : Nat} {lo hi : Int32} {z : Tz} (h : zN T n z = false) : zNz T n lo hi z = zF (-2) z := if_neg (ne_t h)
theorem nvf_s {T : Nat → Int32} {q R : Nat} {v : Int32} (h : q < R) : nvf T (R - q) q v = nvf T (R - (q + 1)) (q + 1) (iMin (10 * v + T q - 48) 1000000) := by
  rw [show R - q = R - (q + 1) + 1 by omega]
  rfl
set_option maxHeartbeats 1000000 in
set_option maxRecDepth 100000 in
theorem c_X7_number (l : Launch) (E : En) (I A : Nat → Nat → Int32) (K : Nat → Nat → Int64) (T : Nat → Int32) (n : Nat) (z : Tz) (lo hi : Int32) (hE : Ev mN E) (hW : mW I A T n z) : Met l yX7_number (wz yX7_number cX7_number 4 (some .int)) (rmk 2 0 0 42) (va_Pc [.ref (eP E 0), .int lo, .int hi] (Bw mN E mK (I, A, K))) (qWi mN E mK (fun zz uu => ∃ J, mW J A T n (zNz T n lo hi z) ∧ rP I J ∧ (zN T n z = true → J 0 12 = nI (tkB T n z.2)) ∧ ((zNz T n lo hi z).1 = 0 → zz = zNv T n lo hi z) ∧ uu = (J, A, K))) 0 0 (cA mN E) := by
  refine en_ofW RX7 rfl (by decide +kernel) (Nat.le_of_ble_eq_true rfl) ?_
  intro p e s m below meth c ls S hr hlk hnm hl hB
  have hx := S.1
  have hb := S.2.1
  obtain ⟨hK, hC, hP⟩ := hB
  have hS : va_S (cA mN E) s.heap s.heap [] := va_S.rf
  have hl : lv_has ls 4 [(0, .ref (eP E 0)), (1, .int lo), (2, .int hi)] := hl
  obtain ⟨⟨hn3, hTT, hzn⟩, h5c, h5p, h5e⟩ := id hW
  have hn7 := hTT.1
  have hBn := tkB_le (T := T) hzn
  refine lv_aload_n hx hb dX7_number_0 rfl (lv_at hl 0 rfl) ?_
  refine cn_si (ck_V (a := eP E 0) S lk_X7_62 (c_X7_isGood l E I A K hE) ⟨rfl, rfl⟩ ⟨Nat.le_of_ble_eq_true rfl, Nat.le_of_ble_eq_true rfl⟩ bl_w (rc_w hK hP 0 (by decide) rfl rfl) (bw_U hE hK hC hP hS) rfl hl.1 (Nat.le_of_ble_eq_true rfl) ⟨Nat.le_refl _, Nat.le_refl _⟩ dX7_number_1 rfl) (fun r1 g2 => ?_)
  obtain rfl : r1 = bI (decide (I 0 5 = 0)) := g2
  refine lv_if_ne (tgt := 9) hx hb dX7_number_4 (by decide) (fun h4 => ?_) (fun h4 => ?_)
  · have h0 : z.1 = 0 := h5c.symm.trans (of_decide_eq_true (bI_t h4))
    refine lv_aload_n hx hb dX7_number_9 rfl (lv_at hl 0 rfl) ?_
    obtain ⟨pos, hpos, hpn, hpB⟩ := h5p h0
    refine cn_wi (ck_V (a := eP E 0) S lk_X7_66 (c_X7_next l E I A K T n pos hE hn3 hTT hpos hpn) ⟨rfl, rfl⟩ ⟨Nat.le_of_ble_eq_true rfl, Nat.le_of_ble_eq_true rfl⟩ bl_w (rc_w hK hP 0 (by decide) rfl rfl) (bw_U hE hK hC hP hS) rfl hl.1 (Nat.le_of_ble_eq_true rfl) ⟨Nat.le_refl _, Nat.le_refl _⟩ dX7_number_10 rfl) hS (fun r3 u4 H locs g5 hP hS => ?_)
    obtain ⟨rfl, rfl⟩ : r3 = (mBv A n (tkB T n pos)) ∧ u4 = ((up2 I 0 4 (nI (tkB T n pos))), A, K) := g5
    have hP : Wp mN E mK ((up2 I 0 4 (nI (tkB T n pos))), A, K) H := hP
    rw [hpB] at hP
    have hP : Wp mN E mK ((up2 I 0 4 (nI (tkB T n z.2))), A, K) H := hP
    refine tp_i (y := mBv A n (tkB T n z.2)) (by rw [hpB]) ?_
    refine cn_si (ck_S S lk_X7_83 (c_X7_isDigit l (mBv A n (tkB T n z.2))) ⟨rfl, rfl⟩ ⟨Nat.le_of_ble_eq_true rfl, Nat.le_of_ble_eq_true rfl⟩ bl_T t_U rfl hl.1 (Nat.le_of_ble_eq_true rfl) ⟨Nat.le_refl _, Nat.le_refl _⟩ dX7_number_13 rfl) (fun r6 g7 => ?_)
    obtain rfl : r6 = rIn (mBv A n (tkB T n z.2)) 48 57 := g7
    refine lv_if_ne (tgt := 31) hx hb dX7_number_16 (by decide) (fun h16 => ?_) (fun h16 => ?_)
    · have hdz : tkB T n z.2 < n ∧ isDg (T (tkB T n z.2)) = true := Classical.byContradiction (fun g => h16 ((mDg hTT).mpr g))
      have htk := tk_1 hdz.1 hdz.2
      have hzN : zN T n z = true := decide_eq_true ⟨h0, htk.1⟩
      have hWj := mW_12 (b := 12) (v := nI (tkB T n z.2)) (Or.inl rfl) (mW_pos hW h0 hBn h0 hzn (tkB_B hzn))
      refine lv_aload_n hx hb dX7_number_31 rfl (lv_at hl 0 rfl) ?_
      refine lv_aload_n hx hb dX7_number_32 rfl (lv_at hl 0 rfl) ?_
      refine rw_geti (x := ((up2 I 0 4 (nI (tkB T n z.2))), A, K)) (v := (nI (tkB T n z.2))) S hK hP 0 (by decide) rfl fk_X7_45 rfl (up2_eq (f := I) (q := 0) (j := 4) (v := (nI (tkB T n z.2)))) dX7_number_33 ?_
      refine rw_puti (x := ((up2 I 0 4 (nI (tkB T n z.2))), A, K)) (v := (nI (tkB T n z.2))) S hE hK hP hS 0 (by decide) rfl fk_X7_87 rfl tyX7_ok nmX7 ⟨rfl, by decide +kernel⟩ dX7_number_36 (fun H locs hP hS => ?_)
      have hP : Wp mN E mK ((up2 (up2 I 0 4 (nI (tkB T n z.2))) 0 12 (nI (tkB T n z.2))), A, K) H := hP
      refine lv_iconst (v := 0) hx hb dX7_number_39 (by decide) ?_
      refine lv_istore_n (lv' := [(3, .int 0), (0, .ref (eP E 0)), (1, .int lo), (2, .int hi)]) hx hb dX7_number_40 rfl hl (by decide) rfl (fun ls hl => ?_)
      have HL : ∀ (cnt q : Nat) (v : Int32), q + cnt = n → run isDg T n q = run isDg T n (tkB T n z.2) → nvf T (run isDg T n (tkB T n z.2) - q) q v = tkV T n z.2 → ∀ (H : Heap) (locs : List Loc), Wp mN E mK ((up2 (up2 (up2 I 0 4 (nI (tkB T n z.2))) 0 12 (nI (tkB T n z.2))) 0 4 (nI q)), A, K) H → va_S (cA mN E) s.heap H locs → ∀ ls : Array Slot, lv_has ls 4 [(3, .int v), (0, .ref (eP E 0)), (1, .int lo), (2, .int hi)] → W p l e (rmk 2 0 0 42) s m ([.ref (eP E 0), .int lo, .int hi] : List Value).toArray below meth c H locs 0 0 (MQ below (qWi mN E mK (fun zz uu => ∃ J, mW J A T n (zNz T n lo hi z) ∧ rP I J ∧ (zN T n z = true → J 0 12 = nI (tkB T n z.2)) ∧ ((zNz T n lo hi z).1 = 0 → zz = zNv T n lo hi z) ∧ uu = (J, A, K))) ([.ref (eP E 0), .int lo, .int hi] : List Value).toArray s 0 0 (cA mN E)) (F0 m 41 ls []) := by
        intro cnt
        induction cnt with
        | zero =>
          intro q v hq hv hw H locs hP hS ls hl
          refine lv_aload_n hx hb dX7_number_41 rfl (lv_at hl 1 rfl) ?_
          refine lv_aload_n hx hb dX7_number_42 rfl (lv_at hl 1 rfl) ?_
          refine rw_geti (x := ((up2 (up2 (up2 I 0 4 (nI (tkB T n z.2))) 0 12 (nI (tkB T n z.2))) 0 4 (nI q)), A, K)) (v := (nI q)) S hK hP 0 (by decide) rfl fk_X7_45 rfl (up2_eq (f := (up2 (up2 I 0 4 (nI (tkB T n z.2))) 0 12 (nI (tkB T n z.2)))) (q := 0) (j := 4) (v := (nI q))) dX7_number_43 ?_
          refine cn_si (ck_V (a := eP E 0) S lk_X7_48 (c_X7_byteAt l E (up2 (up2 (up2 I 0 4 (nI (tkB T n z.2))) 0 12 (nI (tkB T n z.2))) 0 4 (nI q)) A K n q hE hn3 hn7 (by omega)) ⟨rfl, rfl⟩ ⟨Nat.le_of_ble_eq_true rfl, Nat.le_of_ble_eq_true rfl⟩ bl_w (rc_w hK hP 0 (by decide) rfl rfl) (bw_U hE hK hC hP hS) rfl hl.1 (Nat.le_of_ble_eq_true rfl) ⟨Nat.le_refl _, Nat.le_refl _⟩ dX7_number_46 rfl) (fun r8 g9 => ?_)
          obtain rfl : r8 = mBv A n q := g9
          refine cn_si (ck_S S lk_X7_83 (c_X7_isDigit l (mBv A n q)) ⟨rfl, rfl⟩ ⟨Nat.le_of_ble_eq_true rfl, Nat.le_of_ble_eq_true rfl⟩ bl_T t_U rfl hl.1 (Nat.le_of_ble_eq_true rfl) ⟨Nat.le_refl _, Nat.le_refl _⟩ dX7_number_49 rfl) (fun r10 g11 => ?_)
          obtain rfl : r10 = rIn (mBv A n q) 48 57 := g11
          refine lv_if_eq (tgt := 90) hx hb dX7_number_52 (by decide) (fun h52 => ?_) (fun h52 => ?_)
          · have hqs : run isDg T n q = q := run_n ((mDg hTT).mp h52)
            have hqR : run isDg T n (tkB T n z.2) = q := hv.symm.trans hqs
            rw [hqR, Nat.sub_self] at hw
            have hvk : v = tkV T n z.2 := hw
            have hqE : q = tkE T n z.2 := by rw [htk.2.1, hqR]
            rw [hqE] at hP
            rw [hvk] at hl
            have hP : Wp mN E mK ((up2 (up2 (up2 I 0 4 (nI (tkB T n z.2))) 0 12 (nI (tkB T n z.2))) 0 4 (nI (tkE T n z.2))), A, K) H := hP
            have hl : lv_has ls 4 [(3, .int (tkV T n z.2)), (0, .ref (eP E 0)), (1, .int lo), (2, .int hi)] := hl
            refine lv_iload_n hx hb dX7_number_90 rfl (lv_at hl 0 rfl) ?_
            refine lv_iload_n hx hb dX7_number_91 rfl (lv_at hl 2 rfl) ?_
            refine lv_iload_n hx hb dX7_number_92 rfl (lv_at hl 3 rfl) ?_
            refine cn_si (ck_S S lk_X7_58 (c_X7_in l (tkV T n z.2) lo hi) ⟨rfl, rfl⟩ ⟨Nat.le_of_ble_eq_true rfl, Nat.le_of_ble_eq_true rfl⟩ bl_T t_U rfl hl.1 (Nat.le_of_ble_eq_true rfl) ⟨Nat.le_refl _, Nat.le_refl _⟩ dX7_number_93 rfl) (fun r12 g13 => ?_)
            obtain rfl : r12 = rIn (tkV T n z.2) lo hi := g13
            refine lv_if_ne (tgt := 109) hx hb dX7_number_96 (by decide) (fun h96 => ?_) (fun h96 => ?_)
            · refine lv_iload_n hx hb dX7_number_109 rfl (lv_at hl 0 rfl) ?_
              exact re_wi (x := ((up2 (up2 (up2 I 0 4 (nI (tkB T n z.2))) 0 12 (nI (tkB T n z.2))) 0 4 (nI (tkE T n z.2))), A, K)) (v := (tkV T n z.2)) hx hb hr hlk hP hS (by rw [zNz_i hzN (rIn_1 h96), zNv_i hzN (rIn_1 h96), zA_0 h0]; exact ⟨_, mW_pos hWj h0 (q := tkE T n z.2) (y := (0, tkE T n z.2)) (tkE_le hzn) rfl (tkE_le hzn) rfl, (rP_u (rP_u (rP_u rP_rf (Or.inl rfl)) (Or.inr (Or.inr (Or.inr rfl)))) (Or.inl rfl)), fun _ => rfl, fun _ => rfl, rfl⟩) dX7_number_110
            · refine lv_aload_n hx hb dX7_number_99 rfl (lv_at hl 1 rfl) ?_
              refine lv_bipush (v := (-3)) hx hb dX7_number_100 (by decide) ?_
              refine lv_aload_n hx hb dX7_number_102 rfl (lv_at hl 1 rfl) ?_
              refine rw_geti (x := ((up2 (up2 (up2 I 0 4 (nI (tkB T n z.2))) 0 12 (nI (tkB T n z.2))) 0 4 (nI (tkE T n z.2))), A, K)) (v := nI (tkB T n z.2)) S hK hP 0 (by decide) rfl fk_X7_87 rfl ((up2_j (f := (up2 (up2 I 0 4 (nI (tkB T n z.2))) 0 12 (nI (tkB T n z.2)))) (q := 0) (j := 4) (a := 0) (b := 12) (v := (nI (tkE T n z.2))) (by decide)).trans (rfl : (up2 (up2 I 0 4 (nI (tkB T n z.2))) 0 12 (nI (tkB T n z.2))) 0 12 = nI (tkB T n z.2))) dX7_number_103 ?_
              refine cn_wv (ck_V (a := eP E 0) S lk_X7_79 (c_X7_report l E (up2 (up2 (up2 I 0 4 (nI (tkB T n z.2))) 0 12 (nI (tkB T n z.2))) 0 4 (nI (tkE T n z.2))) A K (-3) (nI (tkB T n z.2)) hE) ⟨rfl, rfl⟩ ⟨Nat.le_of_ble_eq_true rfl, Nat.le_of_ble_eq_true rfl⟩ bl_w (rc_w hK hP 0 (by decide) rfl rfl) (bw_U hE hK hC hP hS) rfl hl.1 (Nat.le_of_ble_eq_true rfl) ⟨Nat.le_refl _, Nat.le_refl _⟩ dX7_number_106 rfl) hS (fun u15 H locs g16 hP hS => ?_)
              obtain rfl : u15 = ((if (up2 (up2 (up2 I 0 4 (nI (tkB T n z.2))) 0 12 (nI (tkB T n z.2))) 0 4 (nI (tkE T n z.2))) 0 5 = 0 then up2 (up2 (up2 (up2 (up2 I 0 4 (nI (tkB T n z.2))) 0 12 (nI (tkB T n z.2))) 0 4 (nI (tkE T n z.2))) 0 5 (-3)) 0 6 (nI (tkB T n z.2)) else (up2 (up2 (up2 I 0 4 (nI (tkB T n z.2))) 0 12 (nI (tkB T n z.2))) 0 4 (nI (tkE T n z.2)))), A, K) := g16
              have hP : Wp mN E mK ((if (up2 (up2 (up2 I 0 4 (nI (tkB T n z.2))) 0 12 (nI (tkB T n z.2))) 0 4 (nI (tkE T n z.2))) 0 5 = 0 then up2 (up2 (up2 (up2 (up2 I 0 4 (nI (tkB T n z.2))) 0 12 (nI (tkB T n z.2))) 0 4 (nI (tkE T n z.2))) 0 5 (-3)) 0 6 (nI (tkB T n z.2)) else (up2 (up2 (up2 I 0 4 (nI (tkB T n z.2))) 0 12 (nI (tkB T n z.2))) 0 4 (nI (tkE T n z.2)))), A, K) H := hP
              rw [if_pos (show (up2 (up2 (up2 I 0 4 (nI (tkB T n z.2))) 0 12 (nI (tkB T n z.2))) 0 4 (nI (tkE T n z.2))) 0 5 = 0 from h5c.trans h0)] at hP
              have hP : Wp mN E mK ((up2 (up2 (up2 (up2 (up2 I 0 4 (nI (tkB T n z.2))) 0 12 (nI (tkB T n z.2))) 0 4 (nI (tkE T n z.2))) 0 5 (-3)) 0 6 (nI (tkB T n z.2))), A, K) H := hP
              refine lv_iload_n hx hb dX7_number_109 rfl (lv_at hl 0 rfl) ?_
              exact re_wi (x := ((up2 (up2 (up2 (up2 (up2 I 0 4 (nI (tkB T n z.2))) 0 12 (nI (tkB T n z.2))) 0 4 (nI (tkE T n z.2))) 0 5 (-3)) 0 6 (nI (tkB T n z.2))), A, K)) (v := (tkV T n z.2)) hx hb hr hlk hP hS (by rw [zNz_e hzN (rIn_0 h96)]; exact ⟨(up2 (up2 (up2 (up2 (up2 I 0 4 (nI (tkB T n z.2))) 0 12 (nI (tkB T n z.2))) 0 4 (nI (tkE T n z.2))) 0 5 (-3)) 0 6 (nI (tkB T n z.2))), mW_er2 (J := (up2 (up2 (up2 (up2 (up2 I 0 4 (nI (tkB T n z.2))) 0 12 (nI (tkB T n z.2))) 0 4 (nI (tkE T n z.2))) 0 5 (-3)) 0 6 (nI (tkB T n z.2)))) hW h0 (by decide) rfl rfl up2_eq, rP_u (rP_u (rP_u (rP_u (rP_u rP_rf (Or.inl rfl)) (Or.inr (Or.inr (Or.inr rfl)))) (Or.inl rfl)) (Or.inr (Or.inl rfl))) (Or.inr (Or.inr (Or.inl rfl))), fun _ => rfl, fun g => absurd ((if_pos h0).symm.trans g : (-3 : Int32) = 0) (by decide), rfl⟩) dX7_number_110
          · exact absurd (fun g => by have := g.1; omega) (fun g => h52 ((mDg hTT).mpr g))
        | succ cnt ih =>
          intro q v hq hv hw H locs hP hS ls hl
          refine lv_aload_n hx hb dX7_number_41 rfl (lv_at hl 1 rfl) ?_
          refine lv_aload_n hx hb dX7_number_42 rfl (lv_at hl 1 rfl) ?_
          refine rw_geti (x := ((up2 (up2 (up2 I 0 4 (nI (tkB T n z.2))) 0 12 (nI (tkB T n z.2))) 0 4 (nI q)), A, K)) (v := (nI q)) S hK hP 0 (by decide) rfl fk_X7_45 rfl (up2_eq (f := (up2 (up2 I 0 4 (nI (tkB T n z.2))) 0 12 (nI (tkB T n z.2)))) (q := 0) (j := 4) (v := (nI q))) dX7_number_43 ?_
          refine cn_si (ck_V (a := eP E 0) S lk_X7_48 (c_X7_byteAt l E (up2 (up2 (up2 I 0 4 (nI (tkB T n z.2))) 0 12 (nI (tkB T n z.2))) 0 4 (nI q)) A K n q hE hn3 hn7 (by omega)) ⟨rfl, rfl⟩ ⟨Nat.le_of_ble_eq_true rfl, Nat.le_of_ble_eq_true rfl⟩ bl_w (rc_w hK hP 0 (by decide) rfl rfl) (bw_U hE hK hC hP hS) rfl hl.1 (Nat.le_of_ble_eq_true rfl) ⟨Nat.le_refl _, Nat.le_refl _⟩ dX7_number_46 rfl) (fun r17 g18 => ?_)
          obtain rfl : r17 = mBv A n q := g18
          refine cn_si (ck_S S lk_X7_83 (c_X7_isDigit l (mBv A n q)) ⟨rfl, rfl⟩ ⟨Nat.le_of_ble_eq_true rfl, Nat.le_of_ble_eq_true rfl⟩ bl_T t_U rfl hl.1 (Nat.le_of_ble_eq_true rfl) ⟨Nat.le_refl _, Nat.le_refl _⟩ dX7_number_49 rfl) (fun r19 g20 => ?_)
          obtain rfl : r19 = rIn (mBv A n q) 48 57 := g20
          refine lv_if_eq (tgt := 90) hx hb dX7_number_52 (by decide) (fun h52 => ?_) (fun h52 => ?_)
          · have hqs : run isDg T n q = q := run_n ((mDg hTT).mp h52)
            have hqR : run isDg T n (tkB T n z.2) = q := hv.symm.trans hqs
            rw [hqR, Nat.sub_self] at hw
            have hvk : v = tkV T n z.2 := hw
            have hqE : q = tkE T n z.2 := by rw [htk.2.1, hqR]
            rw [hqE] at hP
            rw [hvk] at hl
            have hP : Wp mN E mK ((up2 (up2 (up2 I 0 4 (nI (tkB T n z.2))) 0 12 (nI (tkB T n z.2))) 0 4 (nI (tkE T n z.2))), A, K) H := hP
            have hl : lv_has ls 4 [(3, .int (tkV T n z.2)), (0, .ref (eP E 0)), (1, .int lo), (2, .int hi)] := hl
            refine lv_iload_n hx hb dX7_number_90 rfl (lv_at hl 0 rfl) ?_
            refine lv_iload_n hx hb dX7_number_91 rfl (lv_at hl 2 rfl) ?_
            refine lv_iload_n hx hb dX7_number_92 rfl (lv_at hl 3 rfl) ?_
            refine cn_si (ck_S S lk_X7_58 (c_X7_in l (tkV T n z.2) lo hi) ⟨rfl, rfl⟩ ⟨Nat.le_of_ble_eq_true rfl, Nat.le_of_ble_eq_true rfl⟩ bl_T t_U rfl hl.1 (Nat.le_of_ble_eq_true rfl) ⟨Nat.le_refl _, Nat.le_refl _⟩ dX7_number_93 rfl) (fun r21 g22 => ?_)
            obtain rfl : r21 = rIn (tkV T n z.2) lo hi := g22
            refine lv_if_ne (tgt := 109) hx hb dX7_number_96 (by decide) (fun h96 => ?_) (fun h96 => ?_)
            · refine lv_iload_n hx hb dX7_number_109 rfl (lv_at hl 0 rfl) ?_
              exact re_wi (x := ((up2 (up2 (up2 I 0 4 (nI (tkB T n z.2))) 0 12 (nI (tkB T n z.2))) 0 4 (nI (tkE T n z.2))), A, K)) (v := (tkV T n z.2)) hx hb hr hlk hP hS (by rw [zNz_i hzN (rIn_1 h96), zNv_i hzN (rIn_1 h96), zA_0 h0]; exact ⟨_, mW_pos hWj h0 (q := tkE T n z.2) (y := (0, tkE T n z.2)) (tkE_le hzn) rfl (tkE_le hzn) rfl, (rP_u (rP_u (rP_u rP_rf (Or.inl rfl)) (Or.inr (Or.inr (Or.inr rfl)))) (Or.inl rfl)), fun _ => rfl, fun _ => rfl, rfl⟩) dX7_number_110
            · refine lv_aload_n hx hb dX7_number_99 rfl (lv_at hl 1 rfl) ?_
              refine lv_bipush (v := (-3)) hx hb dX7_number_100 (by decide) ?_
              refine lv_aload_n hx hb dX7_number_102 rfl (lv_at hl 1 rfl) ?_
              refine rw_geti (x := ((up2 (up2 (up2 I 0 4 (nI (tkB T n z.2))) 0 12 (nI (tkB T n z.2))) 0 4 (nI (tkE T n z.2))), A, K)) (v := nI (tkB T n z.2)) S hK hP 0 (by decide) rfl fk_X7_87 rfl ((up2_j (f := (up2 (up2 I 0 4 (nI (tkB T n z.2))) 0 12 (nI (tkB T n z.2)))) (q := 0) (j := 4) (a := 0) (b := 12) (v := (nI (tkE T n z.2))) (by decide)).trans (rfl : (up2 (up2 I 0 4 (nI (tkB T n z.2))) 0 12 (nI (tkB T n z.2))) 0 12 = nI (tkB T n z.2))) dX7_number_103 ?_
              refine cn_wv (ck_V (a := eP E 0) S lk_X7_79 (c_X7_report l E (up2 (up2 (up2 I 0 4 (nI (tkB T n z.2))) 0 12 (nI (tkB T n z.2))) 0 4 (nI (tkE T n z.2))) A K (-3) (nI (tkB T n z.2)) hE) ⟨rfl, rfl⟩ ⟨Nat.le_of_ble_eq_true rfl, Nat.le_of_ble_eq_true rfl⟩ bl_w (rc_w hK hP 0 (by decide) rfl rfl) (bw_U hE hK hC hP hS) rfl hl.1 (Nat.le_of_ble_eq_true rfl) ⟨Nat.le_refl _, Nat.le_refl _⟩ dX7_number_106 rfl) hS (fun u24 H locs g25 hP hS => ?_)
              obtain rfl : u24 = ((if (up2 (up2 (up2 I 0 4 (nI (tkB T n z.2))) 0 12 (nI (tkB T n z.2))) 0 4 (nI (tkE T n z.2))) 0 5 = 0 then up2 (up2 (up2 (up2 (up2 I 0 4 (nI (tkB T n z.2))) 0 12 (nI (tkB T n z.2))) 0 4 (nI (tkE T n z.2))) 0 5 (-3)) 0 6 (nI (tkB T n z.2)) else (up2 (up2 (up2 I 0 4 (nI (tkB T n z.2))) 0 12 (nI (tkB T n z.2))) 0 4 (nI (tkE T n z.2)))), A, K) := g25
              have hP : Wp mN E mK ((if (up2 (up2 (up2 I 0 4 (nI (tkB T n z.2))) 0 12 (nI (tkB T n z.2))) 0 4 (nI (tkE T n z.2))) 0 5 = 0 then up2 (up2 (up2 (up2 (up2 I 0 4 (nI (tkB T n z.2))) 0 12 (nI (tkB T n z.2))) 0 4 (nI (tkE T n z.2))) 0 5 (-3)) 0 6 (nI (tkB T n z.2)) else (up2 (up2 (up2 I 0 4 (nI (tkB T n z.2))) 0 12 (nI (tkB T n z.2))) 0 4 (nI (tkE T n z.2)))), A, K) H := hP
              rw [if_pos (show (up2 (up2 (up2 I 0 4 (nI (tkB T n z.2))) 0 12 (nI (tkB T n z.2))) 0 4 (nI (tkE T n z.2))) 0 5 = 0 from h5c.trans h0)] at hP
              have hP : Wp mN E mK ((up2 (up2 (up2 (up2 (up2 I 0 4 (nI (tkB T n z.2))) 0 12 (nI (tkB T n z.2))) 0 4 (nI (tkE T n z.2))) 0 5 (-3)) 0 6 (nI (tkB T n z.2))), A, K) H := hP
              refine lv_iload_n hx hb dX7_number_109 rfl (lv_at hl 0 rfl) ?_
              exact re_wi (x := ((up2 (up2 (up2 (up2 (up2 I 0 4 (nI (tkB T n z.2))) 0 12 (nI (tkB T n z.2))) 0 4 (nI (tkE T n z.2))) 0 5 (-3)) 0 6 (nI (tkB T n z.2))), A, K)) (v := (tkV T n z.2)) hx hb hr hlk hP hS (by rw [zNz_e hzN (rIn_0 h96)]; exact ⟨(up2 (up2 (up2 (up2 (up2 I 0 4 (nI (tkB T n z.2))) 0 12 (nI (tkB T n z.2))) 0 4 (nI (tkE T n z.2))) 0 5 (-3)) 0 6 (nI (tkB T n z.2))), mW_er2 (J := (up2 (up2 (up2 (up2 (up2 I 0 4 (nI (tkB T n z.2))) 0 12 (nI (tkB T n z.2))) 0 4 (nI (tkE T n z.2))) 0 5 (-3)) 0 6 (nI (tkB T n z.2)))) hW h0 (by decide) rfl rfl up2_eq, rP_u (rP_u (rP_u (rP_u (rP_u rP_rf (Or.inl rfl)) (Or.inr (Or.inr (Or.inr rfl)))) (Or.inl rfl)) (Or.inr (Or.inl rfl))) (Or.inr (Or.inr (Or.inl rfl))), fun _ => rfl, fun g => absurd ((if_pos h0).symm.trans g : (-3 : Int32) = 0) (by decide), rfl⟩) dX7_number_110
          · have hdg : q < n ∧ isDg (T q) = true := Classical.byContradiction (fun g => h52 ((mDg hTT).mpr g))
            refine lv_ldc (v := 1000000) hx hb S.2.2.2.1 (S.2.2.2.2 _ kc_X7_90) dX7_number_55 ?_
            refine lv_bipush (v := 10) hx hb dX7_number_57 (by decide) ?_
            refine lv_iload_n hx hb dX7_number_59 rfl (lv_at hl 0 rfl) ?_
            refine lv_imul hx hb dX7_number_60 ?_
            refine lv_aload_n hx hb dX7_number_61 rfl (lv_at hl 1 rfl) ?_
            refine lv_aload_n hx hb dX7_number_62 rfl (lv_at hl 1 rfl) ?_
            refine rw_geti (x := ((up2 (up2 (up2 I 0 4 (nI (tkB T n z.2))) 0 12 (nI (tkB T n z.2))) 0 4 (nI q)), A, K)) (v := (nI q)) S hK hP 0 (by decide) rfl fk_X7_45 rfl (up2_eq (f := (up2 (up2 I 0 4 (nI (tkB T n z.2))) 0 12 (nI (tkB T n z.2)))) (q := 0) (j := 4) (v := (nI q))) dX7_number_63 ?_
            refine cn_si (ck_V (a := eP E 0) S lk_X7_48 (c_X7_byteAt l E (up2 (up2 (up2 I 0 4 (nI (tkB T n z.2))) 0 12 (nI (tkB T n z.2))) 0 4 (nI q)) A K n q hE hn3 hn7 (by omega)) ⟨rfl, rfl⟩ ⟨Nat.le_of_ble_eq_true rfl, Nat.le_of_ble_eq_true rfl⟩ bl_w (rc_w hK hP 0 (by decide) rfl rfl) (bw_U hE hK hC hP hS) rfl hl.1 (Nat.le_of_ble_eq_true rfl) ⟨Nat.le_refl _, Nat.le_refl _⟩ dX7_number_66 rfl) (fun r26 g27 => ?_)
            obtain rfl : r26 = mBv A n q := g27
            refine lv_iadd hx hb dX7_number_69 ?_
            refine lv_bipush (v := 48) hx hb dX7_number_70 (by decide) ?_
            refine lv_isub hx hb dX7_number_72 ?_
            refine cn_si (ck_S S lk_X7_91 (c_X7_min l 1000000 (((10 * v) + (mBv A n q)) - 48)) ⟨rfl, rfl⟩ ⟨Nat.le_of_ble_eq_true rfl, Nat.le_of_ble_eq_true rfl⟩ bl_T t_U rfl hl.1 (Nat.le_of_ble_eq_true rfl) ⟨Nat.le_refl _, Nat.le_refl _⟩ dX7_number_73 rfl) (fun r28 g29 => ?_)
            obtain rfl : r28 = rMin 1000000 (((10 * v) + (mBv A n q)) - 48) := g29
            refine tp_i (y := iMin (10 * v + T q - 48) 1000000) (by rw [mDv hTT hdg.1 hdg.2]; rfl) ?_
            refine lv_istore_n (lv' := [(3, .int (iMin (10 * v + T q - 48) 1000000)), (0, .ref (eP E 0)), (1, .int lo), (2, .int hi)]) hx hb dX7_number_76 rfl hl (by decide) rfl (fun ls hl => ?_)
            refine lv_aload_n hx hb dX7_number_77 rfl (lv_at hl 1 rfl) ?_
            refine lv_dup hx hb dX7_number_78 rfl ?_
            refine rw_geti (x := ((up2 (up2 (up2 I 0 4 (nI (tkB T n z.2))) 0 12 (nI (tkB T n z.2))) 0 4 (nI q)), A, K)) (v := (nI q)) S hK hP 0 (by decide) rfl fk_X7_45 rfl (up2_eq (f := (up2 (up2 I 0 4 (nI (tkB T n z.2))) 0 12 (nI (tkB T n z.2)))) (q := 0) (j := 4) (v := (nI q))) dX7_number_79 ?_
            refine lv_iconst (v := 1) hx hb dX7_number_82 (by decide) ?_
            refine lv_iadd hx hb dX7_number_83 ?_
            refine tp_i (y := nI (q + 1)) (nI_add q 1) ?_
            refine rw_puti (x := ((up2 (up2 (up2 I 0 4 (nI (tkB T n z.2))) 0 12 (nI (tkB T n z.2))) 0 4 (nI q)), A, K)) (v := (nI (q + 1))) S hE hK hP hS 0 (by decide) rfl fk_X7_45 rfl tyX7_ok nmX7 ⟨rfl, by decide +kernel⟩ dX7_number_84 (fun H locs hP hS => ?_)
            have hP : Wp mN E mK ((up2 (up2 (up2 (up2 I 0 4 (nI (tkB T n z.2))) 0 12 (nI (tkB T n z.2))) 0 4 (nI q)) 0 4 (nI (q + 1))), A, K) H := hP
            refine lv_goto (tgt := 41) hx hb dX7_number_87 (by decide) ?_
            rw [up2_up] at hP
            exact ih (q + 1) _ (by omega) ((run_y hdg.1 hdg.2).symm.trans hv) (by rw [← hw]; exact (nvf_s (by have := run_ge (f := isDg) (T := T) (n := n) (p := q + 1); rw [← hv, run_y hdg.1 hdg.2]; omega)).symm) _ _ hP hS ls (lv_sub hl [0, 1, 2, 3] rfl)
      rw [← up2_same (f := (up2 (up2 I 0 4 (nI (tkB T n z.2))) 0 12 (nI (tkB T n z.2)))) (q := 0) (j := 4) (v := nI (tkB T n z.2)) rfl] at hP
      exact HL (n - tkB T n z.2) (tkB T n z.2) 0 (by omega) rfl (by rw [htk.2.2]) _ _ hP hS ls (lv_sub hl [0, 1, 2, 3] rfl)
    · have hzN : zN T n z = false := decide_eq_false (fun q => (mDg hTT).mp h16 (dg_of q.2))
      refine lv_aload_n hx hb dX7_number_19 rfl (lv_at hl 0 rfl) ?_
      refine lv_bipush (v := (-2)) hx hb dX7_number_20 (by decide) ?_
      refine lv_aload_n hx hb dX7_number_22 rfl (lv_at hl 0 rfl) ?_
      refine rw_geti (x := ((up2 I 0 4 (nI (tkB T n z.2))), A, K)) (v := (nI (tkB T n z.2))) S hK hP 0 (by decide) rfl fk_X7_45 rfl (up2_eq (f := I) (q := 0) (j := 4) (v := (nI (tkB T n z.2)))) dX7_number_23 ?_
      refine cn_wv (ck_V (a := eP E 0) S lk_X7_79 (c_X7_report l E (up2 I 0 4 (nI (tkB T n z.2))) A K (-2) (nI (tkB T n z.2)) hE) ⟨rfl, rfl⟩ ⟨Nat.le_of_ble_eq_true rfl, Nat.le_of_ble_eq_true rfl⟩ bl_w (rc_w hK hP 0 (by decide) rfl rfl) (bw_U hE hK hC hP hS) rfl hl.1 (Nat.le_of_ble_eq_true rfl) ⟨Nat.le_refl _, Nat.le_refl _⟩ dX7_number_26 rfl) hS (fun u31 H locs g32 hP hS => ?_)
      obtain rfl : u31 = ((if (up2 I 0 4 (nI (tkB T n z.2))) 0 5 = 0 then up2 (up2 (up2 I 0 4 (nI (tkB T n z.2))) 0 5 (-2)) 0 6 (nI (tkB T n z.2)) else (up2 I 0 4 (nI (tkB T n z.2)))), A, K) := g32
      have hP : Wp mN E mK ((if (up2 I 0 4 (nI (tkB T n z.2))) 0 5 = 0 then up2 (up2 (up2 I 0 4 (nI (tkB T n z.2))) 0 5 (-2)) 0 6 (nI (tkB T n z.2)) else (up2 I 0 4 (nI (tkB T n z.2)))), A, K) H := hP
      rw [if_pos (show (up2 I 0 4 (nI (tkB T n z.2))) 0 5 = 0 from h5c.trans h0)] at hP
      have hP : Wp mN E mK ((up2 (up2 (up2 I 0 4 (nI (tkB T n z.2))) 0 5 (-2)) 0 6 (nI (tkB T n z.2))), A, K) H := hP
      refine lv_iconst (v := 0) hx hb dX7_number_29 (by decide) ?_
      exact re_wi (x := ((up2 (up2 (up2 I 0 4 (nI (tkB T n z.2))) 0 5 (-2)) 0 6 (nI (tkB T n z.2))), A, K)) (v := 0) hx hb hr hlk hP hS (by rw [zNz_f hzN, hzN]; exact ⟨(up2 (up2 (up2 I 0 4 (nI (tkB T n z.2))) 0 5 (-2)) 0 6 (nI (tkB T n z.2))), mW_er2 (J := (up2 (up2 (up2 I 0 4 (nI (tkB T n z.2))) 0 5 (-2)) 0 6 (nI (tkB T n z.2)))) hW h0 (by decide) rfl rfl up2_eq, rP_u (rP_u (rP_u rP_rf (Or.inl rfl)) (Or.inr (Or.inl rfl))) (Or.inr (Or.inr (Or.inl rfl))), fun g => absurd g (by decide), fun g => absurd ((if_pos h0).symm.trans g : (-2 : Int32) = 0) (by decide), rfl⟩) dX7_number_30
  · have h0 : ¬ z.1 = 0 := fun g => absurd (decide_eq_true (h5c.trans g)) (by rw [bI_f h4]; decide)
    refine lv_iconst (v := 0) hx hb dX7_number_7 (by decide) ?_
    exact re_wi (x := (I, A, K)) (v := 0) hx hb hr hlk hP hS (by have hzN : zN T n z = false := decide_eq_false (fun q => h0 q.1); rw [zNz_f hzN, hzN]; exact ⟨_, mW_bad hW h0, rP_rf, fun g => absurd g (by decide), fun g => absurd (zMo_F (by decide) g) h0, rfl⟩) dX7_number_8

