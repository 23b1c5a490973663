def rQ (I J : Nat → Nat → Int32) : Prop := ∀ a b, ¬ (a = 0 ∧ (b = 4 ∨ b = 5 ∨ b = 6 ∨ b = 12 ∨ b = 13)) → J a b = I a b
theorem rQ_of {I J : Nat → Nat → Int32} (h : rP I J) : rQ I J := fun a b q => h a b (fun g => q ⟨g.1, by omega⟩)
theorem rQ_u {I J : Nat → Nat → Int32} {b : Nat} {v : Int32} (h : rQ I J) (hb : b = 4 ∨ b = 5 ∨ b = 6 ∨ b = 12 ∨ b = 13) : rQ I (up2 J 0 b v) := by
  intro a c hc
  rw [up2_at, if_neg (fun q => hc ⟨q.1, by rw [q.2]; exact hb⟩)]
  exact h a c hc
theorem rQ_tr {I J L : Nat → Nat → Int32} (h : rQ I J) (g : rQ J L) : rQ I L := fun a b q => (g a b q).trans (h a b q)
theorem rP_of {I J : Nat → Nat → Int32} (h : rQ I J) (e : J 0 13 = I 0 13) : rP I J := by
  intro a b q
  by_cases g : a = 0 ∧ b = 13
  · rw [g.1, g.2]
    exact e
  · exact h a b (fun r => q ⟨r.1, by omega⟩)
theorem gB_rf {I A J : Nat → Nat → Int32} {T : Nat → Int32} {n : Nat} {y : Tz} (h : mW J A T n y) (g : rP I J) : gB I A T n y J A := ⟨⟨h, g⟩, fun _ _ => rfl, fun _ _ _ => rfl⟩
theorem zPW_z {T : Nat → Int32} {n : Nat} {w : List Int32} {z : Tz} (h : zW T n w z = true) : zPW T n w z = zA T n z := zPW_t h
theorem zS_k {T : Nat → Int32} {n : Nat} {ch : Int32} {z : Tz} (h : zS T n ch z = true) : zN T n z = false ∧ ∀ w, zW T n w z = false := by
  have q := of_decide_eq_true h
  exact ⟨decide_eq_false (fun g => absurd (q.2.1.symm.trans g.2) (by decide)), fun w => decide_eq_false (fun g => absurd (q.2.1.symm.trans g.2.1) (by decide))⟩
theorem zN_d {A : Nat → Nat → Int32} {T : Nat → Int32} {n : Nat} {z : Tz} (hT : mT A T n) (h0 : z.1 = 0) : (rIn (mBv A n (tkB T n z.2)) 48 57 = 0 ↔ zN T n z = false) := by
  rw [mDg hT]
  constructor
  · intro h
    exact decide_eq_false (fun g => h (dg_of g.2))
  · intro h g
    exact absurd (decide_eq_true (⟨h0, (tk_1 g.1 g.2).1⟩ : z.1 = 0 ∧ tkK T n z.2 = 1)) (by unfold zN at h; rw [h]; decide)
theorem tw_16 : tw 16 = tw 7 := by decide +kernel
theorem tw_9 : tw 9 = tw 8 := by decide +kernel
set_option maxHeartbeats 1000000 in
set_option maxRecDepth 100000 in
theorem c_X7_expect_bad (l : Launch) (E : En) (I A : Nat → Nat → Int32) (K : Nat → Nat → Int64) (c0 : Int32) (hE : Ev mN E) (h05 : ¬ I 0 5 = 0) : Met l yX7_expect (wz yX7_expect cX7_expect 2 none) (rmk 1 0 0 20) (va_Pc [.ref (eP E 0), .int c0] (Bw mN E mK (I, A, K))) (qWv mN E mK (fun uu => uu = (I, A, K))) 0 0 (cA mN E) := by
  refine en_ofW RX7 rfl (by decide +kernel) (Nat.le_of_ble_eq_true rfl) ?_
  intro p e s m below meth c ls S hr hlk hnm hl hB
  have hx := S.1
  have hb := S.2.1
  obtain ⟨hK, hC, hP⟩ := hB
  have hS : va_S (cA mN E) s.heap s.heap [] := va_S.rf
  have hl : lv_has ls 2 [(0, .ref (eP E 0)), (1, .int c0)] := hl
  refine lv_aload_n hx hb dX7_expect_0 rfl (lv_at hl 0 rfl) ?_
  refine cn_si (ck_V (a := eP E 0) S lk_X7_62 (c_X7_isGood l E I A K hE) ⟨rfl, rfl⟩ ⟨Nat.le_of_ble_eq_true rfl, Nat.le_of_ble_eq_true rfl⟩ bl_w (rc_w hK hP 0 (by decide) rfl rfl) (bw_U hE hK hC hP hS) rfl hl.1 (Nat.le_of_ble_eq_true rfl) ⟨Nat.le_refl _, Nat.le_refl _⟩ dX7_expect_1 rfl) (fun r1 g2 => ?_)
  obtain rfl : r1 = bI (decide (I 0 5 = 0)) := g2
  refine lv_if_ne (tgt := 8) hx hb dX7_expect_4 (by decide) (fun h4 => absurd h4 (fun g => g (show bI (decide (I 0 5 = 0)) = 0 from by rw [decide_eq_false h05]; rfl))) (fun h4 => ?_)
  exact re_wv (x := (I, A, K)) hx hb hr hlk hP hS rfl dX7_expect_7

theorem zNz_g {T : Nat → Int32} {n : Nat} {lo hi : Int32} {z : Tz} (h : zN T n z = true) (g : (zNz T n lo hi z).1 = 0) : zNz T n lo hi z = zA T n z := by
  have h0 : z.1 = 0 := (of_decide_eq_true h).1
  unfold zNz at *
  rw [if_pos h] at g ⊢
  by_cases q : tkV T n z.2 < lo
  · rw [if_pos q] at g
    exact absurd ((if_pos h0).symm.trans g : (-3 : Int32) = 0) (by decide)
  · rw [if_neg q] at g ⊢
    by_cases r : hi < tkV T n z.2
    · rw [if_pos r] at g
      exact absurd ((if_pos h0).symm.trans g : (-3 : Int32) = 0) (by decide)
    · rw [if_neg r]
set_option maxHeartbeats 1000000 in
set_option maxRecDepth 100000 in
theorem c_X7_factor_0 (l : Launch) (E : En) (I A : Nat → Nat → Int32) (K : Nat → Nat → Int64) (T : Nat → Int32) (n : Nat) (z : Tz) (N : Nat) (hE : Ev mN E) (hW : mW I A T n z) (h13 : I 0 13 = 4) (h0 : z.1 = 0) (hN : A 3 3 = nI N) (hNb : 2 * N ≤ 3 * z.2) : Met l yX7_factor (wz yX7_factor cX7_factor 4 none) (rmk 5 0 0 115) (va_Pc [.ref (eP E 0)] (Bw mN E mK (I, A, K))) (qWv mN E mK (fun uu => ∃ J B, gP I A T n N z (zFd T n 0 0 0 z).2 (fun am sc => (zFd T n am sc 0 z).1) J B ∧ uu = (J, B, K))) 0 0 (cA mN E) := by
  refine en_ofW RX7 rfl (by decide +kernel) (Nat.le_of_ble_eq_true rfl) ?_
  intro p e s m below meth c ls S hr hlk hnm hl hB
  have hx := S.1
  have hb := S.2.1
  obtain ⟨hK, hC, hP⟩ := hB
  have hS : va_S (cA mN E) s.heap s.heap [] := va_S.rf
  have hl : lv_has ls 4 [(0, .ref (eP E 0))] := hl
  obtain ⟨⟨hn3, hTT, hzn⟩, h5c, h5p, h5e⟩ := id hW
  have hn7 := hTT.1
  have hBn := tkB_le (T := T) hzn
  have hzl : z.2 ≤ 700 := Nat.le_trans hzn hn7
  refine lv_aload_n hx hb dX7_factor_0 rfl (lv_at hl 0 rfl) ?_
  refine cn_si (ck_V (a := eP E 0) S lk_X7_62 (c_X7_isGood l E I A K hE) ⟨rfl, rfl⟩ ⟨Nat.le_of_ble_eq_true rfl, Nat.le_of_ble_eq_true rfl⟩ bl_w (rc_w hK hP 0 (by decide) rfl rfl) (bw_U hE hK hC hP hS) rfl hl.1 (Nat.le_of_ble_eq_true rfl) ⟨Nat.le_refl _, Nat.le_refl _⟩ dX7_factor_1 rfl) (fun r1 g2 => ?_)
  obtain rfl : r1 = bI (decide (I 0 5 = 0)) := g2
  refine lv_if_ne (tgt := 8) hx hb dX7_factor_4 (by decide) (fun h4 => ?_) (fun h4 => absurd h4 (show ¬ bI (decide (I 0 5 = 0)) = 0 from by rw [decide_eq_true (h5c.trans h0)]; decide))
  refine lv_aload_n hx hb dX7_factor_8 rfl (lv_at hl 0 rfl) ?_
  refine cn_wi (ck_V (a := eP E 0) S lk_X7_66 (c_X7_nextW l E I A K T n z hE hW h0) ⟨rfl, rfl⟩ ⟨Nat.le_of_ble_eq_true rfl, Nat.le_of_ble_eq_true rfl⟩ bl_w (rc_w hK hP 0 (by decide) rfl rfl) (bw_U hE hK hC hP hS) rfl hl.1 (Nat.le_of_ble_eq_true rfl) ⟨Nat.le_refl _, Nat.le_refl _⟩ dX7_factor_9 rfl) hS (fun r3 u4 H locs g5 hP hS => ?_)
  obtain ⟨rfl, rfl⟩ : r3 = (mBv A n (tkB T n z.2)) ∧ u4 = ((up2 I 0 4 (nI (tkB T n z.2))), A, K) := g5
  have hP : Wp mN E mK ((up2 I 0 4 (nI (tkB T n z.2))), A, K) H := hP
  refine lv_istore_n (lv' := [(1, .int (mBv A n (tkB T n z.2))), (0, .ref (eP E 0))]) hx hb dX7_factor_12 rfl hl (by decide) rfl (fun ls hl => ?_)
  refine lv_iload_n hx hb dX7_factor_13 rfl (lv_at hl 0 rfl) ?_
  refine lv_bipush (v := 40) hx hb dX7_factor_14 (by decide) ?_
  refine lv_icmp_ne (tgt := 78) hx hb dX7_factor_16 (by decide) (fun h16 => ?_) (fun h16 => ?_)
  · have q4 : zS T n 40 z = false := Bool.eq_false_iff.mpr (fun g => h16 ((zS_b (ch := 40) hTT h0 (by decide) (by decide)).mpr g))
    refine lv_iload_n hx hb dX7_factor_78 rfl (lv_at hl 0 rfl) ?_
    refine cn_si (ck_S S lk_X7_83 (c_X7_isDigit l (mBv A n (tkB T n z.2))) ⟨rfl, rfl⟩ ⟨Nat.le_of_ble_eq_true rfl, Nat.le_of_ble_eq_true rfl⟩ bl_T t_U rfl hl.1 (Nat.le_of_ble_eq_true rfl) ⟨Nat.le_refl _, Nat.le_refl _⟩ dX7_factor_79 rfl) (fun r6 g7 => ?_)
    obtain rfl : r6 = rIn (mBv A n (tkB T n z.2)) 48 57 := g7
    refine lv_if_eq (tgt := 89) hx hb dX7_factor_82 (by decide) (fun h82 => ?_) (fun h82 => ?_)
    · have q1 : zN T n z = false := (zN_d hTT h0).mp h82
      refine lv_aload_n hx hb dX7_factor_89 rfl (lv_at hl 1 rfl) ?_
      refine va_ldcS (q := eS E 16) (tx := "size") hx hb S.2.2.2.1 (tr_16 hC.1.2.1) dX7_factor_90 ?_
      refine cn_wi (ck_V (a := eP E 0) S lk_X7_107 (c_X7_takeWord l E (up2 I 0 4 (nI (tkB T n z.2))) A K T n z 16 hE (mW_nx hW h0) (by decide)) ⟨rfl, rfl⟩ ⟨Nat.le_of_ble_eq_true rfl, Nat.le_of_ble_eq_true rfl⟩ bl_w (rc_w hK hP 0 (by decide) rfl rfl) (bw_U hE hK hC hP hS) rfl hl.1 (Nat.le_of_ble_eq_true rfl) ⟨Nat.le_refl _, Nat.le_refl _⟩ dX7_factor_92 rfl) hS (fun r8 u9 H locs g10 hP hS => ?_)
      obtain ⟨rfl, J11, hW11, hp11, rfl⟩ : r8 = bI (zW T n (tw 16) z) ∧ (∃ oj, mW oj A T n (zPW T n (tw 16) z) ∧ rP (up2 I 0 4 (nI (tkB T n z.2))) oj ∧ u9 = (oj, A, K)) := g10
      have hP : Wp mN E mK (J11, A, K) H := hP
      refine lv_if_eq (tgt := 102) hx hb dX7_factor_95 (by decide) (fun h95 => ?_) (fun h95 => ?_)
      · have q2 : zW T n (tw 7) z = false := by rw [← tw_16]; exact bI_f h95
        rw [tw_16, zPW_f q2] at hW11
        have hr2 := rP_tr (rP_u rP_rf (Or.inl rfl)) hp11
        refine lv_aload_n hx hb dX7_factor_102 rfl (lv_at hl 1 rfl) ?_
        refine va_ldcS (q := eS E 9) (tx := "scheme") hx hb S.2.2.2.1 (tr_9 hC.1.2.1) dX7_factor_103 ?_
        refine cn_wi (ck_V (a := eP E 0) S lk_X7_107 (c_X7_takeWord l E J11 A K T n z 9 hE hW11 (by decide)) ⟨rfl, rfl⟩ ⟨Nat.le_of_ble_eq_true rfl, Nat.le_of_ble_eq_true rfl⟩ bl_w (rc_w hK hP 0 (by decide) rfl rfl) (bw_U hE hK hC hP hS) rfl hl.1 (Nat.le_of_ble_eq_true rfl) ⟨Nat.le_refl _, Nat.le_refl _⟩ dX7_factor_105 rfl) hS (fun r12 u13 H locs g14 hP hS => ?_)
        obtain ⟨rfl, J15, hW15, hp15, rfl⟩ : r12 = bI (zW T n (tw 9) z) ∧ (∃ oj, mW oj A T n (zPW T n (tw 9) z) ∧ rP J11 oj ∧ u13 = (oj, A, K)) := g14
        have hP : Wp mN E mK (J15, A, K) H := hP
        refine lv_if_eq (tgt := 115) hx hb dX7_factor_108 (by decide) (fun h108 => ?_) (fun h108 => ?_)
        · have q3 : zW T n (tw 8) z = false := by rw [← tw_9]; exact bI_f h108
          rw [tw_9, zPW_f q3] at hW15
          have hr3 := rP_tr hr2 hp15
          refine lv_iconst (v := (-1)) hx hb dX7_factor_115 (by decide) ?_
          refine lv_istore_n (lv' := [(2, .int (-1)), (1, .int (mBv A n (tkB T n z.2))), (0, .ref (eP E 0))]) hx hb dX7_factor_116 rfl hl (by decide) rfl (fun ls hl => ?_)
          refine lv_iload_n hx hb dX7_factor_117 rfl (lv_at hl 0 rfl) ?_
          refine lv_if_ge (tgt := 132) hx hb dX7_factor_118 (by decide) (fun h118 => absurd h118 (by decide)) (fun h118 => ?_)
          refine lv_aload_n hx hb dX7_factor_121 rfl (lv_at hl 2 rfl) ?_
          refine lv_iconst (v := 0) hx hb dX7_factor_122 (by decide) ?_
          refine lv_sipush (v := 9999) hx hb dX7_factor_123 (by decide) ?_
          refine cn_wi (ck_V (a := eP E 0) S lk_X7_113 (c_X7_number l E J15 A K T n z 0 9999 hE hW15) ⟨rfl, rfl⟩ ⟨Nat.le_of_ble_eq_true rfl, Nat.le_of_ble_eq_true rfl⟩ bl_w (rc_w hK hP 0 (by decide) rfl rfl) (bw_U hE hK hC hP hS) rfl hl.1 (Nat.le_of_ble_eq_true rfl) ⟨Nat.le_refl _, Nat.le_refl _⟩ dX7_factor_126 rfl) hS (fun r16 u17 H locs g18 hP hS => ?_)
          obtain ⟨J19, hW19, hp19, hn19, hv19, rfl⟩ : ∃ oj, mW oj A T n (zNz T n 0 9999 z) ∧ rP J15 oj ∧ (zN T n z = true → oj 0 12 = nI (tkB T n z.2)) ∧ ((zNz T n 0 9999 z).1 = 0 → r16 = zNv T n 0 9999 z) ∧ u17 = (oj, A, K) := g18
          have hP : Wp mN E mK (J19, A, K) H := hP
          have hrN := rP_tr hr3 hp19
          by_cases hz9 : (zNz T n 0 9999 z).1 = 0
          · refine tp_i (y := zNv T n 0 9999 z) (hv19 hz9) ?_
            refine lv_goto (tgt := 133) hx hb dX7_factor_129 (by decide) ?_
            refine lv_istore_n (lv' := [(3, .int (zNv T n 0 9999 z)), (2, .int (-1)), (1, .int (mBv A n (tkB T n z.2))), (0, .ref (eP E 0))]) hx hb dX7_factor_133 rfl hl (by decide) rfl (fun ls hl => ?_)
            refine lv_aload_n hx hb dX7_factor_134 rfl (lv_at hl 3 rfl) ?_
            refine lv_iload_n hx hb dX7_factor_135 rfl (lv_at hl 1 rfl) ?_
            refine lv_if_ge (tgt := 143) hx hb dX7_factor_136 (by decide) (fun h136 => absurd h136 (by decide)) (fun h136 => ?_)
            refine lv_iconst (v := 0) hx hb dX7_factor_139 (by decide) ?_
            refine lv_goto (tgt := 144) hx hb dX7_factor_140 (by decide) ?_
            refine cn_wv (ck_V (a := eP E 0) S lk_X7_116 (c_X7_emit l E J19 A K 0 N hE (hW19.2.1.trans hz9) hN (by omega)) ⟨rfl, rfl⟩ ⟨Nat.le_of_ble_eq_true rfl, Nat.le_of_ble_eq_true rfl⟩ bl_w (rc_w hK hP 0 (by decide) rfl rfl) (bw_U hE hK hC hP hS) rfl hl.1 (Nat.le_of_ble_eq_true rfl) ⟨Nat.le_refl _, Nat.le_refl _⟩ dX7_factor_144 rfl) hS (fun u21 H locs g22 hP hS => ?_)
            obtain rfl : u21 = (J19, (mEm A N 0), K) := g22
            have hP : Wp mN E mK (J19, (mEm A N 0), K) H := hP
            refine lv_aload_n hx hb dX7_factor_147 rfl (lv_at hl 3 rfl) ?_
            refine lv_iload_n hx hb dX7_factor_148 rfl (lv_at hl 0 rfl) ?_
            refine cn_wv (ck_V (a := eP E 0) S lk_X7_116 (c_X7_emit l E J19 (mEm A N 0) K (zNv T n 0 9999 z) (N + 1) hE (hW19.2.1.trans hz9) mEm_3 (by omega)) ⟨rfl, rfl⟩ ⟨Nat.le_of_ble_eq_true rfl, Nat.le_of_ble_eq_true rfl⟩ bl_w (rc_w hK hP 0 (by decide) rfl rfl) (bw_U hE hK hC hP hS) rfl hl.1 (Nat.le_of_ble_eq_true rfl) ⟨Nat.le_refl _, Nat.le_refl _⟩ dX7_factor_149 rfl) hS (fun u24 H locs g25 hP hS => ?_)
            obtain rfl : u24 = (J19, (mEm (mEm A N 0) (N + 1) (zNv T n 0 9999 z)), K) := g25
            have hP : Wp mN E mK (J19, (mEm (mEm A N 0) (N + 1) (zNv T n 0 9999 z)), K) H := hP
            exact re_wv (x := (J19, (mEm (mEm A N 0) (N + 1) (zNv T n 0 9999 z)), K)) hx hb hr hlk hP hS (absurd hz9 (by rw [zNz_f q1]; exact fun g => absurd ((if_pos h0).symm.trans g : (-2 : Int32) = 0) (by decide))) dX7_factor_152
          · refine lv_goto (tgt := 133) hx hb dX7_factor_129 (by decide) ?_
            refine lv_istore_n (lv' := [(3, .int r16), (2, .int (-1)), (1, .int (mBv A n (tkB T n z.2))), (0, .ref (eP E 0))]) hx hb dX7_factor_133 rfl hl (by decide) rfl (fun ls hl => ?_)
            refine lv_aload_n hx hb dX7_factor_134 rfl (lv_at hl 3 rfl) ?_
            refine lv_iload_n hx hb dX7_factor_135 rfl (lv_at hl 1 rfl) ?_
            refine lv_if_ge (tgt := 143) hx hb dX7_factor_136 (by decide) (fun h136 => absurd h136 (by decide)) (fun h136 => ?_)
            refine lv_iconst (v := 0) hx hb dX7_factor_139 (by decide) ?_
            refine lv_goto (tgt := 144) hx hb dX7_factor_140 (by decide) ?_
            refine cn_wv (ck_V (a := eP E 0) S lk_X7_116 (c_X7_emit_bad l E J19 A K 0 hE (fun g => hz9 (hW19.2.1.symm.trans g))) ⟨rfl, rfl⟩ ⟨Nat.le_of_ble_eq_true rfl, Nat.le_of_ble_eq_true rfl⟩ bl_w (rc_w hK hP 0 (by decide) rfl rfl) (bw_U hE hK hC hP hS) rfl hl.1 (Nat.le_of_ble_eq_true rfl) ⟨Nat.le_refl _, Nat.le_refl _⟩ dX7_factor_144 rfl) hS (fun u27 H locs g28 hP hS => ?_)
            obtain rfl : u27 = (J19, A, K) := g28
            have hP : Wp mN E mK (J19, A, K) H := hP
            refine lv_aload_n hx hb dX7_factor_147 rfl (lv_at hl 3 rfl) ?_
            refine lv_iload_n hx hb dX7_factor_148 rfl (lv_at hl 0 rfl) ?_
            refine cn_wv (ck_V (a := eP E 0) S lk_X7_116 (c_X7_emit_bad l E J19 A K r16 hE (fun g => hz9 (hW19.2.1.symm.trans g))) ⟨rfl, rfl⟩ ⟨Nat.le_of_ble_eq_true rfl, Nat.le_of_ble_eq_true rfl⟩ bl_w (rc_w hK hP 0 (by decide) rfl rfl) (bw_U hE hK hC hP hS) rfl hl.1 (Nat.le_of_ble_eq_true rfl) ⟨Nat.le_refl _, Nat.le_refl _⟩ dX7_factor_149 rfl) hS (fun u30 H locs g31 hP hS => ?_)
            obtain rfl : u30 = (J19, A, K) := g31
            have hP : Wp mN E mK (J19, A, K) H := hP
            exact re_wv (x := (J19, A, K)) hx hb hr hlk hP hS (by rw [show (zFd T n 0 0 0 z).2 = zF (-2) z from congrArg Prod.snd (zFd_0.trans (zFc_4 q1 q2 q3 q4)), ← zNz_f (lo := 0) (hi := 9999) q1]; exact ⟨J19, A, gP_bad hz9 (gB_rf hW19 hrN), rfl⟩) dX7_factor_152
        · have q3 : zW T n (tw 8) z = true := by rw [← tw_9]; exact bI_t h108
          rw [tw_9, zPW_t q3] at hW15
          have hr3 := rP_tr hr2 hp15
          refine lv_iconst (v := 1) hx hb dX7_factor_111 (by decide) ?_
          refine lv_goto (tgt := 116) hx hb dX7_factor_112 (by decide) ?_
          refine lv_istore_n (lv' := [(2, .int 1), (1, .int (mBv A n (tkB T n z.2))), (0, .ref (eP E 0))]) hx hb dX7_factor_116 rfl hl (by decide) rfl (fun ls hl => ?_)
          refine lv_iload_n hx hb dX7_factor_117 rfl (lv_at hl 0 rfl) ?_
          refine lv_if_ge (tgt := 132) hx hb dX7_factor_118 (by decide) (fun h118 => ?_) (fun h118 => absurd (by decide) h118)
          refine lv_iload_n hx hb dX7_factor_132 rfl (lv_at hl 0 rfl) ?_
          refine lv_istore_n (lv' := [(3, .int 1), (2, .int 1), (1, .int (mBv A n (tkB T n z.2))), (0, .ref (eP E 0))]) hx hb dX7_factor_133 rfl hl (by decide) rfl (fun ls hl => ?_)
          refine lv_aload_n hx hb dX7_factor_134 rfl (lv_at hl 3 rfl) ?_
          refine lv_iload_n hx hb dX7_factor_135 rfl (lv_at hl 1 rfl) ?_
          refine lv_if_ge (tgt := 143) hx hb dX7_factor_136 (by decide) (fun h136 => ?_) (fun h136 => absurd (by decide) h136)
          refine lv_iconst (v := 1) hx hb dX7_factor_143 (by decide) ?_
          refine cn_wv (ck_V (a := eP E 0) S lk_X7_116 (c_X7_emit l E J15 A K 1 N hE (hW15.2.1.trans h0) hN (by omega)) ⟨rfl, rfl⟩ ⟨Nat.le_of_ble_eq_true rfl, Nat.le_of_ble_eq_true rfl⟩ bl_w (rc_w hK hP 0 (by decide) rfl rfl) (bw_U hE hK hC hP hS) rfl hl.1 (Nat.le_of_ble_eq_true rfl) ⟨Nat.le_refl _, Nat.le_refl _⟩ dX7_factor_144 rfl) hS (fun u33 H locs g34 hP hS => ?_)
          obtain rfl : u33 = (J15, (mEm A N 1), K) := g34
          have hP : Wp mN E mK (J15, (mEm A N 1), K) H := hP
          refine lv_aload_n hx hb dX7_factor_147 rfl (lv_at hl 3 rfl) ?_
          refine lv_iload_n hx hb dX7_factor_148 rfl (lv_at hl 0 rfl) ?_
          refine cn_wv (ck_V (a := eP E 0) S lk_X7_116 (c_X7_emit l E J15 (mEm A N 1) K 1 (N + 1) hE (hW15.2.1.trans h0) mEm_3 (by omega)) ⟨rfl, rfl⟩ ⟨Nat.le_of_ble_eq_true rfl, Nat.le_of_ble_eq_true rfl⟩ bl_w (rc_w hK hP 0 (by decide) rfl rfl) (bw_U hE hK hC hP hS) rfl hl.1 (Nat.le_of_ble_eq_true rfl) ⟨Nat.le_refl _, Nat.le_refl _⟩ dX7_factor_149 rfl) hS (fun u36 H locs g37 hP hS => ?_)
          obtain rfl : u36 = (J15, (mEm (mEm A N 1) (N + 1) 1), K) := g37
          have hP : Wp mN E mK (J15, (mEm (mEm A N 1) (N + 1) 1), K) H := hP
          exact re_wv (x := (J15, (mEm (mEm A N 1) (N + 1) 1), K)) hx hb hr hlk hP hS (by rw [(show (zFd T n 0 0 0 z).2 = zA T n z from congrArg Prod.snd (zFd_0.trans (zFc_3 q1 q2 q3)))]; exact ⟨J15, (mEm (mEm A N 1) (N + 1) 1), ⟨gB_em (gB_em (gB_rf hW15 hr3)), fun _ => ⟨N + 2, gM_f (fun am sc => (show (zFd T n am sc 0 z).1 = _ from congrArg Prod.fst (zFd_0.trans (zFc_3 q1 q2 q3))).symm) (gM_at hN (by show z.2 + 1 ≤ (if z.1 = 0 then tkE T n z.2 else z.2); rw [if_pos h0]; exact tkE_gt (by rw [(of_decide_eq_true q3).2.1]; decide)) (fun code g1 g2 => sg_v1 g1 g2))⟩⟩, rfl⟩) dX7_factor_152
      · have q2 : zW T n (tw 7) z = true := by rw [← tw_16]; exact bI_t h95
        rw [tw_16, zPW_t q2] at hW11
        have hr2 := rP_tr (rP_u rP_rf (Or.inl rfl)) hp11
        refine lv_iconst (v := 0) hx hb dX7_factor_98 (by decide) ?_
        refine lv_goto (tgt := 116) hx hb dX7_factor_99 (by decide) ?_
        refine lv_istore_n (lv' := [(2, .int 0), (1, .int (mBv A n (tkB T n z.2))), (0, .ref (eP E 0))]) hx hb dX7_factor_116 rfl hl (by decide) rfl (fun ls hl => ?_)
        refine lv_iload_n hx hb dX7_factor_117 rfl (lv_at hl 0 rfl) ?_
        refine lv_if_ge (tgt := 132) hx hb dX7_factor_118 (by decide) (fun h118 => ?_) (fun h118 => absurd (by decide) h118)
        refine lv_iload_n hx hb dX7_factor_132 rfl (lv_at hl 0 rfl) ?_
        refine lv_istore_n (lv' := [(3, .int 0), (2, .int 0), (1, .int (mBv A n (tkB T n z.2))), (0, .ref (eP E 0))]) hx hb dX7_factor_133 rfl hl (by decide) rfl (fun ls hl => ?_)
        refine lv_aload_n hx hb dX7_factor_134 rfl (lv_at hl 3 rfl) ?_
        refine lv_iload_n hx hb dX7_factor_135 rfl (lv_at hl 1 rfl) ?_
        refine lv_if_ge (tgt := 143) hx hb dX7_factor_136 (by decide) (fun h136 => ?_) (fun h136 => absurd (by decide) h136)
        refine lv_iconst (v := 1) hx hb dX7_factor_143 (by decide) ?_
        refine cn_wv (ck_V (a := eP E 0) S lk_X7_116 (c_X7_emit l E J11 A K 1 N hE (hW11.2.1.trans h0) hN (by omega)) ⟨rfl, rfl⟩ ⟨Nat.le_of_ble_eq_true rfl, Nat.le_of_ble_eq_true rfl⟩ bl_w (rc_w hK hP 0 (by decide) rfl rfl) (bw_U hE hK hC hP hS) rfl hl.1 (Nat.le_of_ble_eq_true rfl) ⟨Nat.le_refl _, Nat.le_refl _⟩ dX7_factor_144 rfl) hS (fun u39 H locs g40 hP hS => ?_)
        obtain rfl : u39 = (J11, (mEm A N 1), K) := g40
        have hP : Wp mN E mK (J11, (mEm A N 1), K) H := hP
        refine lv_aload_n hx hb dX7_factor_147 rfl (lv_at hl 3 rfl) ?_
        refine lv_iload_n hx hb dX7_factor_148 rfl (lv_at hl 0 rfl) ?_
        refine cn_wv (ck_V (a := eP E 0) S lk_X7_116 (c_X7_emit l E J11 (mEm A N 1) K 0 (N + 1) hE (hW11.2.1.trans h0) mEm_3 (by omega)) ⟨rfl, rfl⟩ ⟨Nat.le_of_ble_eq_true rfl, Nat.le_of_ble_eq_true rfl⟩ bl_w (rc_w hK hP 0 (by decide) rfl rfl) (bw_U hE hK hC hP hS) rfl hl.1 (Nat.le_of_ble_eq_true rfl) ⟨Nat.le_refl _, Nat.le_refl _⟩ dX7_factor_149 rfl) hS (fun u42 H locs g43 hP hS => ?_)
        obtain rfl : u42 = (J11, (mEm (mEm A N 1) (N + 1) 0), K) := g43
        have hP : Wp mN E mK (J11, (mEm (mEm A N 1) (N + 1) 0), K) H := hP
        exact re_wv (x := (J11, (mEm (mEm A N 1) (N + 1) 0), K)) hx hb hr hlk hP hS (by rw [(show (zFd T n 0 0 0 z).2 = zA T n z from congrArg Prod.snd (zFd_0.trans (zFc_2 q1 q2)))]; exact ⟨J11, (mEm (mEm A N 1) (N + 1) 0), ⟨gB_em (gB_em (gB_rf hW11 hr2)), fun _ => ⟨N + 2, gM_f (fun am sc => (show (zFd T n am sc 0 z).1 = _ from congrArg Prod.fst (zFd_0.trans (zFc_2 q1 q2))).symm) (gM_at hN (by show z.2 + 1 ≤ (if z.1 = 0 then tkE T n z.2 else z.2); rw [if_pos h0]; exact tkE_gt (by rw [(of_decide_eq_true q2).2.1]; decide)) (fun code g1 g2 => sg_v0 g1 g2))⟩⟩, rfl⟩) dX7_factor_152
    · have q1 : zN T n z = true := (Bool.eq_false_or_eq_true (zN T n z)).elim id (fun g => absurd ((zN_d hTT h0).mpr g) h82)
      refine lv_iconst (v := (-1)) hx hb dX7_factor_85 (by decide) ?_
      refine lv_goto (tgt := 116) hx hb dX7_factor_86 (by decide) ?_
      refine lv_istore_n (lv' := [(2, .int (-1)), (1, .int (mBv A n (tkB T n z.2))), (0, .ref (eP E 0))]) hx hb dX7_factor_116 rfl hl (by decide) rfl (fun ls hl => ?_)
      refine lv_iload_n hx hb dX7_factor_117 rfl (lv_at hl 0 rfl) ?_
      refine lv_if_ge (tgt := 132) hx hb dX7_factor_118 (by decide) (fun h118 => absurd h118 (by decide)) (fun h118 => ?_)
      refine lv_aload_n hx hb dX7_factor_121 rfl (lv_at hl 2 rfl) ?_
      refine lv_iconst (v := 0) hx hb dX7_factor_122 (by decide) ?_
      refine lv_sipush (v := 9999) hx hb dX7_factor_123 (by decide) ?_
      refine cn_wi (ck_V (a := eP E 0) S lk_X7_113 (c_X7_number l E (up2 I 0 4 (nI (tkB T n z.2))) A K T n z 0 9999 hE (mW_nx hW h0)) ⟨rfl, rfl⟩ ⟨Nat.le_of_ble_eq_true rfl, Nat.le_of_ble_eq_true rfl⟩ bl_w (rc_w hK hP 0 (by decide) rfl rfl) (bw_U hE hK hC hP hS) rfl hl.1 (Nat.le_of_ble_eq_true rfl) ⟨Nat.le_refl _, Nat.le_refl _⟩ dX7_factor_126 rfl) hS (fun r44 u45 H locs g46 hP hS => ?_)
      obtain ⟨J47, hW47, hp47, hn47, hv47, rfl⟩ : ∃ oj, mW oj A T n (zNz T n 0 9999 z) ∧ rP (up2 I 0 4 (nI (tkB T n z.2))) oj ∧ (zN T n z = true → oj 0 12 = nI (tkB T n z.2)) ∧ ((zNz T n 0 9999 z).1 = 0 → r44 = zNv T n 0 9999 z) ∧ u45 = (oj, A, K) := g46
      have hP : Wp mN E mK (J47, A, K) H := hP
      have hrN := rP_tr (rP_u rP_rf (Or.inl rfl)) hp47
      by_cases hz9 : (zNz T n 0 9999 z).1 = 0
      · refine tp_i (y := zNv T n 0 9999 z) (hv47 hz9) ?_
        refine lv_goto (tgt := 133) hx hb dX7_factor_129 (by decide) ?_
        refine lv_istore_n (lv' := [(3, .int (zNv T n 0 9999 z)), (2, .int (-1)), (1, .int (mBv A n (tkB T n z.2))), (0, .ref (eP E 0))]) hx hb dX7_factor_133 rfl hl (by decide) rfl (fun ls hl => ?_)
        refine lv_aload_n hx hb dX7_factor_134 rfl (lv_at hl 3 rfl) ?_
        refine lv_iload_n hx hb dX7_factor_135 rfl (lv_at hl 1 rfl) ?_
        refine lv_if_ge (tgt := 143) hx hb dX7_factor_136 (by decide) (fun h136 => absurd h136 (by decide)) (fun h136 => ?_)
        refine lv_iconst (v := 0) hx hb dX7_factor_139 (by decide) ?_
        refine lv_goto (tgt := 144) hx hb dX7_factor_140 (by decide) ?_
        refine cn_wv (ck_V (a := eP E 0) S lk_X7_116 (c_X7_emit l E J47 A K 0 N hE (hW47.2.1.trans hz9) hN (by omega)) ⟨rfl, rfl⟩ ⟨Nat.le_of_ble_eq_true rfl, Nat.le_of_ble_eq_true rfl⟩ bl_w (rc_w hK hP 0 (by decide) rfl rfl) (bw_U hE hK hC hP hS) rfl hl.1 (Nat.le_of_ble_eq_true rfl) ⟨Nat.le_refl _, Nat.le_refl _⟩ dX7_factor_144 rfl) hS (fun u49 H locs g50 hP hS => ?_)
        obtain rfl : u49 = (J47, (mEm A N 0), K) := g50
        have hP : Wp mN E mK (J47, (mEm A N 0), K) H := hP
        refine lv_aload_n hx hb dX7_factor_147 rfl (lv_at hl 3 rfl) ?_
        refine lv_iload_n hx hb dX7_factor_148 rfl (lv_at hl 0 rfl) ?_
        refine cn_wv (ck_V (a := eP E 0) S lk_X7_116 (c_X7_emit l E J47 (mEm A N 0) K (zNv T n 0 9999 z) (N + 1) hE (hW47.2.1.trans hz9) mEm_3 (by omega)) ⟨rfl, rfl⟩ ⟨Nat.le_of_ble_eq_true rfl, Nat.le_of_ble_eq_true rfl⟩ bl_w (rc_w hK hP 0 (by decide) rfl rfl) (bw_U hE hK hC hP hS) rfl hl.1 (Nat.le_of_ble_eq_true rfl) ⟨Nat.le_refl _, Nat.le_refl _⟩ dX7_factor_149 rfl) hS (fun u52 H locs g53 hP hS => ?_)
        obtain rfl : u52 = (J47, (mEm (mEm A N 0) (N + 1) (zNv T n 0 9999 z)), K) := g53
        have hP : Wp mN E mK (J47, (mEm (mEm A N 0) (N + 1) (zNv T n 0 9999 z)), K) H := hP
        exact re_wv (x := (J47, (mEm (mEm A N 0) (N + 1) (zNv T n 0 9999 z)), K)) hx hb hr hlk hP hS (by rw [(show (zFd T n 0 0 0 z).2 = zNz T n 0 9999 z from congrArg Prod.snd (zFd_0.trans (zFc_1 q1)))]; exact ⟨J47, (mEm (mEm A N 0) (N + 1) (zNv T n 0 9999 z)), ⟨gB_em (gB_em (gB_rf hW47 hrN)), fun _ => ⟨N + 2, gM_f (fun am sc => (show (zFd T n am sc 0 z).1 = _ from congrArg Prod.fst (zFd_0.trans (zFc_1 q1))).symm) (gM_at hN (by rw [zNz_g q1 hz9]; show z.2 + 1 ≤ (if z.1 = 0 then tkE T n z.2 else z.2); rw [if_pos h0]; exact tkE_gt (by rw [(of_decide_eq_true q1).2]; decide)) (fun code g1 g2 => sg_lit g1 g2))⟩⟩, rfl⟩) dX7_factor_152
      · refine lv_goto (tgt := 133) hx hb dX7_factor_129 (by decide) ?_
        refine lv_istore_n (lv' := [(3, .int r44), (2, .int (-1)), (1, .int (mBv A n (tkB T n z.2))), (0, .ref (eP E 0))]) hx hb dX7_factor_133 rfl hl (by decide) rfl (fun ls hl => ?_)
        refine lv_aload_n hx hb dX7_factor_134 rfl (lv_at hl 3 rfl) ?_
        refine lv_iload_n hx hb dX7_factor_135 rfl (lv_at hl 1 rfl) ?_
        refine lv_if_ge (tgt := 143) hx hb dX7_factor_136 (by decide) (fun h136 => absurd h136 (by decide)) (fun h136 => ?_)
        refine lv_iconst (v := 0) hx hb dX7_factor_139 (by decide) ?_
        refine lv_goto (tgt := 144) hx hb dX7_factor_140 (by decide) ?_
        refine cn_wv (ck_V (a := eP E 0) S lk_X7_116 (c_X7_emit_bad l E J47 A K 0 hE (fun g => hz9 (hW47.2.1.symm.trans g))) ⟨rfl, rfl⟩ ⟨Nat.le_of_ble_eq_true rfl, Nat.le_of_ble_eq_true rfl⟩ bl_w (rc_w hK hP 0 (by decide) rfl rfl) (bw_U hE hK hC hP hS) rfl hl.1 (Nat.le_of_ble_eq_true rfl) ⟨Nat.le_refl _, Nat.le_refl _⟩ dX7_factor_144 rfl) hS (fun u55 H locs g56 hP hS => ?_)
        obtain rfl : u55 = (J47, A, K) := g56
        have hP : Wp mN E mK (J47, A, K) H := hP
        refine lv_aload_n hx hb dX7_factor_147 rfl (lv_at hl 3 rfl) ?_
        refine lv_iload_n hx hb dX7_factor_148 rfl (lv_at hl 0 rfl) ?_
        refine cn_wv (ck_V (a := eP E 0) S lk_X7_116 (c_X7_emit_bad l E J47 A K r44 hE (fun g => hz9 (hW47.2.1.symm.trans g))) ⟨rfl, rfl⟩ ⟨Nat.le_of_ble_eq_true rfl, Nat.le_of_ble_eq_true rfl⟩ bl_w (rc_w hK hP 0 (by decide) rfl rfl) (bw_U hE hK hC hP hS) rfl hl.1 (Nat.le_of_ble_eq_true rfl) ⟨Nat.le_refl _, Nat.le_refl _⟩ dX7_factor_149 rfl) hS (fun u58 H locs g59 hP hS => ?_)
        obtain rfl : u58 = (J47, A, K) := g59
        have hP : Wp mN E mK (J47, A, K) H := hP
        exact re_wv (x := (J47, A, K)) hx hb hr hlk hP hS (by rw [show (zFd T n 0 0 0 z).2 = zNz T n 0 9999 z from congrArg Prod.snd (zFd_0.trans (zFc_1 q1))]; exact ⟨J47, A, gP_bad hz9 (gB_rf hW47 hrN), rfl⟩) dX7_factor_152
  · have q4 : zS T n 40 z = true := (zS_b (ch := 40) hTT h0 (by decide) (by decide)).mp h16
    obtain ⟨q1, qw⟩ := zS_k q4
    refine lv_aload_n hx hb dX7_factor_19 rfl (lv_at hl 1 rfl) ?_
    refine rw_geti (x := ((up2 I 0 4 (nI (tkB T n z.2))), A, K)) (v := 4) S hK hP 0 (by decide) rfl fk_X7_95 rfl ((up2_j (f := I) (q := 0) (j := 4) (a := 0) (b := 13) (v := (nI (tkB T n z.2))) (by decide)).trans h13) dX7_factor_20 ?_
    refine lv_iconst (v := 4) hx hb dX7_factor_23 (by decide) ?_
    refine lv_icmp_ne (tgt := 37) hx hb dX7_factor_24 (by decide) (fun h24 => absurd h24 (by decide)) (fun h24 => ?_)
    refine lv_aload_n hx hb dX7_factor_27 rfl (lv_at hl 1 rfl) ?_
    refine lv_bipush (v := (-5)) hx hb dX7_factor_28 (by decide) ?_
    refine lv_aload_n hx hb dX7_factor_30 rfl (lv_at hl 1 rfl) ?_
    refine rw_geti (x := ((up2 I 0 4 (nI (tkB T n z.2))), A, K)) (v := (nI (tkB T n z.2))) S hK hP 0 (by decide) rfl fk_X7_45 rfl (up2_eq (f := I) (q := 0) (j := 4) (v := (nI (tkB T n z.2)))) dX7_factor_31 ?_
    refine cn_wv (ck_V (a := eP E 0) S lk_X7_79 (c_X7_report l E (up2 I 0 4 (nI (tkB T n z.2))) A K (-5) (nI (tkB T n z.2)) hE) ⟨rfl, rfl⟩ ⟨Nat.le_of_ble_eq_true rfl, Nat.le_of_ble_eq_true rfl⟩ bl_w (rc_w hK hP 0 (by decide) rfl rfl) (bw_U hE hK hC hP hS) rfl hl.1 (Nat.le_of_ble_eq_true rfl) ⟨Nat.le_refl _, Nat.le_refl _⟩ dX7_factor_34 rfl) hS (fun u61 H locs g62 hP hS => ?_)
    obtain rfl : u61 = ((if (up2 I 0 4 (nI (tkB T n z.2))) 0 5 = 0 then up2 (up2 (up2 I 0 4 (nI (tkB T n z.2))) 0 5 (-5)) 0 6 (nI (tkB T n z.2)) else (up2 I 0 4 (nI (tkB T n z.2)))), A, K) := g62
    have hP : Wp mN E mK ((if (up2 I 0 4 (nI (tkB T n z.2))) 0 5 = 0 then up2 (up2 (up2 I 0 4 (nI (tkB T n z.2))) 0 5 (-5)) 0 6 (nI (tkB T n z.2)) else (up2 I 0 4 (nI (tkB T n z.2)))), A, K) H := hP
    rw [if_pos (show (up2 I 0 4 (nI (tkB T n z.2))) 0 5 = 0 from h5c.trans h0)] at hP
    have hP : Wp mN E mK ((up2 (up2 (up2 I 0 4 (nI (tkB T n z.2))) 0 5 (-5)) 0 6 (nI (tkB T n z.2))), A, K) H := hP
    refine lv_aload_n hx hb dX7_factor_37 rfl (lv_at hl 1 rfl) ?_
    refine lv_dup hx hb dX7_factor_38 rfl ?_
    refine rw_geti (x := ((up2 (up2 (up2 I 0 4 (nI (tkB T n z.2))) 0 5 (-5)) 0 6 (nI (tkB T n z.2))), A, K)) (v := (nI (tkB T n z.2))) S hK hP 0 (by decide) rfl fk_X7_45 rfl ((up2_j (f := (up2 (up2 I 0 4 (nI (tkB T n z.2))) 0 5 (-5))) (q := 0) (j := 6) (a := 0) (b := 4) (v := (nI (tkB T n z.2))) (by decide)).trans ((up2_j (f := (up2 I 0 4 (nI (tkB T n z.2)))) (q := 0) (j := 5) (a := 0) (b := 4) (v := (-5)) (by decide)).trans (up2_eq (f := I) (q := 0) (j := 4) (v := (nI (tkB T n z.2)))))) dX7_factor_39 ?_
    refine lv_iconst (v := 1) hx hb dX7_factor_42 (by decide) ?_
    refine lv_iadd hx hb dX7_factor_43 ?_
    refine tp_i (y := nI ((tkB T n z.2) + 1)) (nI_add (tkB T n z.2) 1) ?_
    refine rw_puti (x := ((up2 (up2 (up2 I 0 4 (nI (tkB T n z.2))) 0 5 (-5)) 0 6 (nI (tkB T n z.2))), A, K)) (v := (nI ((tkB T n z.2) + 1))) S hE hK hP hS 0 (by decide) rfl fk_X7_45 rfl tyX7_ok nmX7 ⟨rfl, by decide +kernel⟩ dX7_factor_44 (fun H locs hP hS => ?_)
    have hP : Wp mN E mK ((up2 (up2 (up2 (up2 I 0 4 (nI (tkB T n z.2))) 0 5 (-5)) 0 6 (nI (tkB T n z.2))) 0 4 (nI ((tkB T n z.2) + 1))), A, K) H := hP
    refine lv_aload_n hx hb dX7_factor_47 rfl (lv_at hl 1 rfl) ?_
    refine lv_dup hx hb dX7_factor_48 rfl ?_
    refine rw_geti (x := ((up2 (up2 (up2 (up2 I 0 4 (nI (tkB T n z.2))) 0 5 (-5)) 0 6 (nI (tkB T n z.2))) 0 4 (nI ((tkB T n z.2) + 1))), A, K)) (v := 4) S hK hP 0 (by decide) rfl fk_X7_95 rfl ((up2_j (f := (up2 (up2 (up2 I 0 4 (nI (tkB T n z.2))) 0 5 (-5)) 0 6 (nI (tkB T n z.2)))) (q := 0) (j := 4) (a := 0) (b := 13) (v := (nI ((tkB T n z.2) + 1))) (by decide)).trans ((up2_j (f := (up2 (up2 I 0 4 (nI (tkB T n z.2))) 0 5 (-5))) (q := 0) (j := 6) (a := 0) (b := 13) (v := (nI (tkB T n z.2))) (by decide)).trans ((up2_j (f := (up2 I 0 4 (nI (tkB T n z.2)))) (q := 0) (j := 5) (a := 0) (b := 13) (v := (-5)) (by decide)).trans ((up2_j (f := I) (q := 0) (j := 4) (a := 0) (b := 13) (v := (nI (tkB T n z.2))) (by decide)).trans h13)))) dX7_factor_49 ?_
    refine lv_iconst (v := 1) hx hb dX7_factor_52 (by decide) ?_
    refine lv_iadd hx hb dX7_factor_53 ?_
    refine tp_i (y := 5) rfl ?_
    refine rw_puti (x := ((up2 (up2 (up2 (up2 I 0 4 (nI (tkB T n z.2))) 0 5 (-5)) 0 6 (nI (tkB T n z.2))) 0 4 (nI ((tkB T n z.2) + 1))), A, K)) (v := 5) S hE hK hP hS 0 (by decide) rfl fk_X7_95 rfl tyX7_ok nmX7 ⟨rfl, by decide +kernel⟩ dX7_factor_54 (fun H locs hP hS => ?_)
    have hP : Wp mN E mK ((up2 (up2 (up2 (up2 (up2 I 0 4 (nI (tkB T n z.2))) 0 5 (-5)) 0 6 (nI (tkB T n z.2))) 0 4 (nI ((tkB T n z.2) + 1))) 0 13 5), A, K) H := hP
    refine lv_aload_n hx hb dX7_factor_57 rfl (lv_at hl 1 rfl) ?_
    refine cn_wv (ck_V (a := eP E 0) S lk_X7_98 (c_X7_sum_bad l E (up2 (up2 (up2 (up2 (up2 I 0 4 (nI (tkB T n z.2))) 0 5 (-5)) 0 6 (nI (tkB T n z.2))) 0 4 (nI ((tkB T n z.2) + 1))) 0 13 5) A K hE (show ¬ ((-5 : Int32) = 0) by decide)) ⟨rfl, rfl⟩ ⟨Nat.le_of_ble_eq_true rfl, Nat.le_of_ble_eq_true rfl⟩ bl_w (rc_w hK hP 0 (by decide) rfl rfl) (bw_U hE hK hC hP hS) rfl hl.1 (Nat.le_of_ble_eq_true rfl) ⟨Nat.le_refl _, Nat.le_refl _⟩ dX7_factor_58 rfl) hS (fun u64 H locs g65 hP hS => ?_)
    obtain rfl : u64 = ((up2 (up2 (up2 (up2 (up2 I 0 4 (nI (tkB T n z.2))) 0 5 (-5)) 0 6 (nI (tkB T n z.2))) 0 4 (nI ((tkB T n z.2) + 1))) 0 13 5), A, K) := g65
    have hP : Wp mN E mK ((up2 (up2 (up2 (up2 (up2 I 0 4 (nI (tkB T n z.2))) 0 5 (-5)) 0 6 (nI (tkB T n z.2))) 0 4 (nI ((tkB T n z.2) + 1))) 0 13 5), A, K) H := hP
    refine lv_aload_n hx hb dX7_factor_61 rfl (lv_at hl 1 rfl) ?_
    refine lv_bipush (v := 41) hx hb dX7_factor_62 (by decide) ?_
    refine cn_wv (ck_V (a := eP E 0) S lk_X7_101 (c_X7_expect_bad l E (up2 (up2 (up2 (up2 (up2 I 0 4 (nI (tkB T n z.2))) 0 5 (-5)) 0 6 (nI (tkB T n z.2))) 0 4 (nI ((tkB T n z.2) + 1))) 0 13 5) A K 41 hE (show ¬ ((-5 : Int32) = 0) by decide)) ⟨rfl, rfl⟩ ⟨Nat.le_of_ble_eq_true rfl, Nat.le_of_ble_eq_true rfl⟩ bl_w (rc_w hK hP 0 (by decide) rfl rfl) (bw_U hE hK hC hP hS) rfl hl.1 (Nat.le_of_ble_eq_true rfl) ⟨Nat.le_refl _, Nat.le_refl _⟩ dX7_factor_64 rfl) hS (fun u67 H locs g68 hP hS => ?_)
    obtain rfl : u67 = ((up2 (up2 (up2 (up2 (up2 I 0 4 (nI (tkB T n z.2))) 0 5 (-5)) 0 6 (nI (tkB T n z.2))) 0 4 (nI ((tkB T n z.2) + 1))) 0 13 5), A, K) := g68
    have hP : Wp mN E mK ((up2 (up2 (up2 (up2 (up2 I 0 4 (nI (tkB T n z.2))) 0 5 (-5)) 0 6 (nI (tkB T n z.2))) 0 4 (nI ((tkB T n z.2) + 1))) 0 13 5), A, K) H := hP
    refine lv_aload_n hx hb dX7_factor_67 rfl (lv_at hl 1 rfl) ?_
    refine lv_dup hx hb dX7_factor_68 rfl ?_
    refine rw_geti (x := ((up2 (up2 (up2 (up2 (up2 I 0 4 (nI (tkB T n z.2))) 0 5 (-5)) 0 6 (nI (tkB T n z.2))) 0 4 (nI ((tkB T n z.2) + 1))) 0 13 5), A, K)) (v := 5) S hK hP 0 (by decide) rfl fk_X7_95 rfl (up2_eq (f := (up2 (up2 (up2 (up2 I 0 4 (nI (tkB T n z.2))) 0 5 (-5)) 0 6 (nI (tkB T n z.2))) 0 4 (nI ((tkB T n z.2) + 1)))) (q := 0) (j := 13) (v := 5)) dX7_factor_69 ?_
    refine lv_iconst (v := 1) hx hb dX7_factor_72 (by decide) ?_
    refine lv_isub hx hb dX7_factor_73 ?_
    refine tp_i (y := 4) rfl ?_
    refine rw_puti (x := ((up2 (up2 (up2 (up2 (up2 I 0 4 (nI (tkB T n z.2))) 0 5 (-5)) 0 6 (nI (tkB T n z.2))) 0 4 (nI ((tkB T n z.2) + 1))) 0 13 5), A, K)) (v := 4) S hE hK hP hS 0 (by decide) rfl fk_X7_95 rfl tyX7_ok nmX7 ⟨rfl, by decide +kernel⟩ dX7_factor_74 (fun H locs hP hS => ?_)
    have hP : Wp mN E mK ((up2 (up2 (up2 (up2 (up2 (up2 I 0 4 (nI (tkB T n z.2))) 0 5 (-5)) 0 6 (nI (tkB T n z.2))) 0 4 (nI ((tkB T n z.2) + 1))) 0 13 5) 0 13 4), A, K) H := hP
    exact re_wv (x := ((up2 (up2 (up2 (up2 (up2 (up2 I 0 4 (nI (tkB T n z.2))) 0 5 (-5)) 0 6 (nI (tkB T n z.2))) 0 4 (nI ((tkB T n z.2) + 1))) 0 13 5) 0 13 4), A, K)) hx hb hr hlk hP hS (by have e5 : (zFd T n 0 0 0 z).2 = zF (-5) z := congrArg Prod.snd (zFd_0.trans (zFc_5 q1 (qw _) (qw _) q4)); exact ⟨(up2 (up2 (up2 (up2 (up2 (up2 I 0 4 (nI (tkB T n z.2))) 0 5 (-5)) 0 6 (nI (tkB T n z.2))) 0 4 (nI ((tkB T n z.2) + 1))) 0 13 5) 0 13 4), A, ⟨gB_rf (by rw [e5]; exact mW_er2 (J := (up2 (up2 (up2 (up2 (up2 (up2 I 0 4 (nI (tkB T n z.2))) 0 5 (-5)) 0 6 (nI (tkB T n z.2))) 0 4 (nI ((tkB T n z.2) + 1))) 0 13 5) 0 13 4)) hW h0 (by decide) rfl rfl rfl) (rP_of (rQ_u (rQ_u (rQ_u (rQ_u (rQ_u (rQ_u (rQ_of rP_rf) (by decide)) (by decide)) (by decide)) (by decide)) (by decide)) (by decide)) h13.symm), fun g => absurd (by rw [e5] at g; exact (if_pos h0).symm.trans g : (-5 : Int32) = 0) (by decide)⟩, rfl⟩) dX7_factor_77

