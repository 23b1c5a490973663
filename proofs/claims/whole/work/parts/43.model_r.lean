theorem gM_par {A B : Nat → Nat → Int32} {T : Nat → Int32} {n N M : Nat} {z y : Tz} {w : Int32} {f : Int32 → Int32 → Int32} (h : gM A N (zA T n z) y f B M) : gM A N z (zNS T n w y) f B M := by
  obtain ⟨a, b, c, d⟩ := h
  have h1 := zGe_A (T := T) (n := n) (z := z)
  have h2 := zGe_S (T := T) (n := n) (w := w) (z := y)
  exact ⟨a, by omega, c, d⟩
set_option maxHeartbeats 1000000 in
set_option maxRecDepth 100000 in
theorem c_X7_factor_1 (l : Launch) (E : En) (I A : Nat → Nat → Int32) (K : Nat → Nat → Int64) (T : Nat → Int32) (n : Nat) (z : Tz) (N : Nat) (hE : Ev mN E) (hW : mW I A T n z) (h13 : I 0 13 = 3) (h0 : z.1 = 0) (hN : A 3 3 = nI N) (hNb : 2 * N ≤ 3 * z.2) : Met l yX7_factor (wz yX7_factor cX7_factor 4 none) (rmk 8 0 0 180) (va_Pc [.ref (eP E 0)] (Bw mN E mK (I, A, K))) (qWv mN E mK (fun uu => ∃ J B, gP I A T n N z (zFd T n 0 0 1 z).2 (fun am sc => (zFd T n am sc 1 z).1) J B ∧ uu = (J, B, K))) 0 0 (cA mN E) := by
  refine en_ofW RX7 rfl (by decide +kernel) (Nat.le_of_ble_eq_true rfl) ?_
  intro p e s m below meth c ls S hr hlk hnm hl hB
  have hx := S.1
  have hb := S.2.1
  obtain ⟨hK, hC, hP⟩ := hB
  have hS : va_S (cA mN E) s.heap s.heap [] := va_S.rf
  have hl : lv_has ls 4 [(0, .ref (eP E 0))] := hl
  obtain ⟨⟨hn3, hTT, hzn⟩, h5c, h5p, h5e⟩ := id hW
  have hn7 := hTT.1
  have hBn := tkB_le (T := T) hzn
  have hzl : z.2 ≤ 700 := Nat.le_trans hzn hn7
  refine lv_aload_n hx hb dX7_factor_0 rfl (lv_at hl 0 rfl) ?_
  refine cn_si (ck_V (a := eP E 0) S lk_X7_62 (c_X7_isGood l E I A K hE) ⟨rfl, rfl⟩ ⟨Nat.le_of_ble_eq_true rfl, Nat.le_of_ble_eq_true rfl⟩ bl_w (rc_w hK hP 0 (by decide) rfl rfl) (bw_U hE hK hC hP hS) rfl hl.1 (Nat.le_of_ble_eq_true rfl) ⟨Nat.le_refl _, Nat.le_refl _⟩ dX7_factor_1 rfl) (fun r1 g2 => ?_)
  obtain rfl : r1 = bI (decide (I 0 5 = 0)) := g2
  refine lv_if_ne (tgt := 8) hx hb dX7_factor_4 (by decide) (fun h4 => ?_) (fun h4 => absurd h4 (show ¬ bI (decide (I 0 5 = 0)) = 0 from by rw [decide_eq_true (h5c.trans h0)]; decide))
  refine lv_aload_n hx hb dX7_factor_8 rfl (lv_at hl 0 rfl) ?_
  refine cn_wi (ck_V (a := eP E 0) S lk_X7_66 (c_X7_nextW l E I A K T n z hE hW h0) ⟨rfl, rfl⟩ ⟨Nat.le_of_ble_eq_true rfl, Nat.le_of_ble_eq_true rfl⟩ bl_w (rc_w hK hP 0 (by decide) rfl rfl) (bw_U hE hK hC hP hS) rfl hl.1 (Nat.le_of_ble_eq_true rfl) ⟨Nat.le_refl _, Nat.le_refl _⟩ dX7_factor_9 rfl) hS (fun r3 u4 H locs g5 hP hS => ?_)
  obtain ⟨rfl, rfl⟩ : r3 = (mBv A n (tkB T n z.2)) ∧ u4 = ((up2 I 0 4 (nI (tkB T n z.2))), A, K) := g5
  have hP : Wp mN E mK ((up2 I 0 4 (nI (tkB T n z.2))), A, K) H := hP
  refine lv_istore_n (lv' := [(1, .int (mBv A n (tkB T n z.2))), (0, .ref (eP E 0))]) hx hb dX7_factor_12 rfl hl (by decide) rfl (fun ls hl => ?_)
  refine lv_iload_n hx hb dX7_factor_13 rfl (lv_at hl 0 rfl) ?_
  refine lv_bipush (v := 40) hx hb dX7_factor_14 (by decide) ?_
  refine lv_icmp_ne (tgt := 78) hx hb dX7_factor_16 (by decide) (fun h16 => ?_) (fun h16 => ?_)
  · have q4 : zS T n 40 z = false := Bool.eq_false_iff.mpr (fun g => h16 ((zS_b (ch := 40) hTT h0 (by decide) (by decide)).mpr g))
    refine lv_iload_n hx hb dX7_factor_78 rfl (lv_at hl 0 rfl) ?_
    refine cn_si (ck_S S lk_X7_83 (c_X7_isDigit l (mBv A n (tkB T n z.2))) ⟨rfl, rfl⟩ ⟨Nat.le_of_ble_eq_true rfl, Nat.le_of_ble_eq_true rfl⟩ bl_T t_U rfl hl.1 (Nat.le_of_ble_eq_true rfl) ⟨Nat.le_refl _, Nat.le_refl _⟩ dX7_factor_79 rfl) (fun r6 g7 => ?_)
    obtain rfl : r6 = rIn (mBv A n (tkB T n z.2)) 48 57 := g7
    refine lv_if_eq (tgt := 89) hx hb dX7_factor_82 (by decide) (fun h82 => ?_) (fun h82 => ?_)
    · have q1 : zN T n z = false := (zN_d hTT h0).mp h82
      refine lv_aload_n hx hb dX7_factor_89 rfl (lv_at hl 1 rfl) ?_
      refine va_ldcS (q := eS E 16) (tx := "size") hx hb S.2.2.2.1 (tr_16 hC.1.2.1) dX7_factor_90 ?_
      refine cn_wi (ck_V (a := eP E 0) S lk_X7_107 (c_X7_takeWord l E (up2 I 0 4 (nI (tkB T n z.2))) A K T n z 16 hE (mW_nx hW h0) (by decide)) ⟨rfl, rfl⟩ ⟨Nat.le_of_ble_eq_true rfl, Nat.le_of_ble_eq_true rfl⟩ bl_w (rc_w hK hP 0 (by decide) rfl rfl) (bw_U hE hK hC hP hS) rfl hl.1 (Nat.le_of_ble_eq_true rfl) ⟨Nat.le_refl _, Nat.le_refl _⟩ dX7_factor_92 rfl) hS (fun r8 u9 H locs g10 hP hS => ?_)
      obtain ⟨rfl, J11, hW11, hp11, rfl⟩ : r8 = bI (zW T n (tw 16) z) ∧ (∃ oj, mW oj A T n (zPW T n (tw 16) z) ∧ rP (up2 I 0 4 (nI (tkB T n z.2))) oj ∧ u9 = (oj, A, K)) := g10
      have hP : Wp mN E mK (J11, A, K) H := hP
      refine lv_if_eq (tgt := 102) hx hb dX7_factor_95 (by decide) (fun h95 => ?_) (fun h95 => ?_)
      · have q2 : zW T n (tw 7) z = false := by rw [← tw_16]; exact bI_f h95
        rw [tw_16, zPW_f q2] at hW11
        have hr2 := rP_tr (rP_u rP_rf (Or.inl rfl)) hp11
        refine lv_aload_n hx hb dX7_factor_102 rfl (lv_at hl 1 rfl) ?_
        refine va_ldcS (q := eS E 9) (tx := "scheme") hx hb S.2.2.2.1 (tr_9 hC.1.2.1) dX7_factor_103 ?_
        refine cn_wi (ck_V (a := eP E 0) S lk_X7_107 (c_X7_takeWord l E J11 A K T n z 9 hE hW11 (by decide)) ⟨rfl, rfl⟩ ⟨Nat.le_of_ble_eq_true rfl, Nat.le_of_ble_eq_true rfl⟩ bl_w (rc_w hK hP 0 (by decide) rfl rfl) (bw_U hE hK hC hP hS) rfl hl.1 (Nat.le_of_ble_eq_true rfl) ⟨Nat.le_refl _, Nat.le_refl _⟩ dX7_factor_105 rfl) hS (fun r12 u13 H locs g14 hP hS => ?_)
        obtain ⟨rfl, J15, hW15, hp15, rfl⟩ : r12 = bI (zW T n (tw 9) z) ∧ (∃ oj, mW oj A T n (zPW T n (tw 9) z) ∧ rP J11 oj ∧ u13 = (oj, A, K)) := g14
        have hP : Wp mN E mK (J15, A, K) H := hP
        refine lv_if_eq (tgt := 115) hx hb dX7_factor_108 (by decide) (fun h108 => ?_) (fun h108 => ?_)
        · have q3 : zW T n (tw 8) z = false := by rw [← tw_9]; exact bI_f h108
          rw [tw_9, zPW_f q3] at hW15
          have hr3 := rP_tr hr2 hp15
          refine lv_iconst (v := (-1)) hx hb dX7_factor_115 (by decide) ?_
          refine lv_istore_n (lv' := [(2, .int (-1)), (1, .int (mBv A n (tkB T n z.2))), (0, .ref (eP E 0))]) hx hb dX7_factor_116 rfl hl (by decide) rfl (fun ls hl => ?_)
          refine lv_iload_n hx hb dX7_factor_117 rfl (lv_at hl 0 rfl) ?_
          refine lv_if_ge (tgt := 132) hx hb dX7_factor_118 (by decide) (fun h118 => absurd h118 (by decide)) (fun h118 => ?_)
          refine lv_aload_n hx hb dX7_factor_121 rfl (lv_at hl 2 rfl) ?_
          refine lv_iconst (v := 0) hx hb dX7_factor_122 (by decide) ?_
          refine lv_sipush (v := 9999) hx hb dX7_factor_123 (by decide) ?_
          refine cn_wi (ck_V (a := eP E 0) S lk_X7_113 (c_X7_number l E J15 A K T n z 0 9999 hE hW15) ⟨rfl, rfl⟩ ⟨Nat.le_of_ble_eq_true rfl, Nat.le_of_ble_eq_true rfl⟩ bl_w (rc_w hK hP 0 (by decide) rfl rfl) (bw_U hE hK hC hP hS) rfl hl.1 (Nat.le_of_ble_eq_true rfl) ⟨Nat.le_refl _, Nat.le_refl _⟩ dX7_factor_126 rfl) hS (fun r16 u17 H locs g18 hP hS => ?_)
          obtain ⟨J19, hW19, hp19, hn19, hv19, rfl⟩ : ∃ oj, mW oj A T n (zNz T n 0 9999 z) ∧ rP J15 oj ∧ (zN T n z = true → oj 0 12 = nI (tkB T n z.2)) ∧ ((zNz T n 0 9999 z).1 = 0 → r16 = zNv T n 0 9999 z) ∧ u17 = (oj, A, K) := g18
          have hP : Wp mN E mK (J19, A, K) H := hP
          have hrN := rP_tr hr3 hp19
          by_cases hz9 : (zNz T n 0 9999 z).1 = 0
          · refine tp_i (y := zNv T n 0 9999 z) (hv19 hz9) ?_
            refine lv_goto (tgt := 133) hx hb dX7_factor_129 (by decide) ?_
            refine lv_istore_n (lv' := [(3, .int (zNv T n 0 9999 z)), (2, .int (-1)), (1, .int (mBv A n (tkB T n z.2))), (0, .ref (eP E 0))]) hx hb dX7_factor_133 rfl hl (by decide) rfl (fun ls hl => ?_)
            refine lv_aload_n hx hb dX7_factor_134 rfl (lv_at hl 3 rfl) ?_
            refine lv_iload_n hx hb dX7_factor_135 rfl (lv_at hl 1 rfl) ?_
            refine lv_if_ge (tgt := 143) hx hb dX7_factor_136 (by decide) (fun h136 => absurd h136 (by decide)) (fun h136 => ?_)
            refine lv_iconst (v := 0) hx hb dX7_factor_139 (by decide) ?_
            refine lv_goto (tgt := 144) hx hb dX7_factor_140 (by decide) ?_
            refine cn_wv (ck_V (a := eP E 0) S lk_X7_116 (c_X7_emit l E J19 A K 0 N hE (hW19.2.1.trans hz9) hN (by omega)) ⟨rfl, rfl⟩ ⟨Nat.le_of_ble_eq_true rfl, Nat.le_of_ble_eq_true rfl⟩ bl_w (rc_w hK hP 0 (by decide) rfl rfl) (bw_U hE hK hC hP hS) rfl hl.1 (Nat.le_of_ble_eq_true rfl) ⟨Nat.le_refl _, Nat.le_refl _⟩ dX7_factor_144 rfl) hS (fun u21 H locs g22 hP hS => ?_)
            obtain rfl : u21 = (J19, (mEm A N 0), K) := g22
            have hP : Wp mN E mK (J19, (mEm A N 0), K) H := hP
            refine lv_aload_n hx hb dX7_factor_147 rfl (lv_at hl 3 rfl) ?_
            refine lv_iload_n hx hb dX7_factor_148 rfl (lv_at hl 0 rfl) ?_
            refine cn_wv (ck_V (a := eP E 0) S lk_X7_116 (c_X7_emit l E J19 (mEm A N 0) K (zNv T n 0 9999 z) (N + 1) hE (hW19.2.1.trans hz9) mEm_3 (by omega)) ⟨rfl, rfl⟩ ⟨Nat.le_of_ble_eq_true rfl, Nat.le_of_ble_eq_true rfl⟩ bl_w (rc_w hK hP 0 (by decide) rfl rfl) (bw_U hE hK hC hP hS) rfl hl.1 (Nat.le_of_ble_eq_true rfl) ⟨Nat.le_refl _, Nat.le_refl _⟩ dX7_factor_149 rfl) hS (fun u24 H locs g25 hP hS => ?_)
            obtain rfl : u24 = (J19, (mEm (mEm A N 0) (N + 1) (zNv T n 0 9999 z)), K) := g25
            have hP : Wp mN E mK (J19, (mEm (mEm A N 0) (N + 1) (zNv T n 0 9999 z)), K) H := hP
            exact re_wv (x := (J19, (mEm (mEm A N 0) (N + 1) (zNv T n 0 9999 z)), K)) hx hb hr hlk hP hS (absurd hz9 (by rw [zNz_f q1]; exact fun g => absurd ((if_pos h0).symm.trans g : (-2 : Int32) = 0) (by decide))) dX7_factor_152
          · refine lv_goto (tgt := 133) hx hb dX7_factor_129 (by decide) ?_
            refine lv_istore_n (lv' := [(3, .int r16), (2, .int (-1)), (1, .int (mBv A n (tkB T n z.2))), (0, .ref (eP E 0))]) hx hb dX7_factor_133 rfl hl (by decide) rfl (fun ls hl => ?_)
            refine lv_aload_n hx hb dX7_factor_134 rfl (lv_at hl 3 rfl) ?_
            refine lv_iload_n hx hb dX7_factor_135 rfl (lv_at hl 1 rfl) ?_
            refine lv_if_ge (tgt := 143) hx hb dX7_factor_136 (by decide) (fun h136 => absurd h136 (by decide)) (fun h136 => ?_)
            refine lv_iconst (v := 0) hx hb dX7_factor_139 (by decide) ?_
            refine lv_goto (tgt := 144) hx hb dX7_factor_140 (by decide) ?_
            refine cn_wv (ck_V (a := eP E 0) S lk_X7_116 (c_X7_emit_bad l E J19 A K 0 hE (fun g => hz9 (hW19.2.1.symm.trans g))) ⟨rfl, rfl⟩ ⟨Nat.le_of_ble_eq_true rfl, Nat.le_of_ble_eq_true rfl⟩ bl_w (rc_w hK hP 0 (by decide) rfl rfl) (bw_U hE hK hC hP hS) rfl hl.1 (Nat.le_of_ble_eq_true rfl) ⟨Nat.le_refl _, Nat.le_refl _⟩ dX7_factor_144 rfl) hS (fun u27 H locs g28 hP hS => ?_)
            obtain rfl : u27 = (J19, A, K) := g28
            have hP : Wp mN E mK (J19, A, K) H := hP
            refine lv_aload_n hx hb dX7_factor_147 rfl (lv_at hl 3 rfl) ?_
            refine lv_iload_n hx hb dX7_factor_148 rfl (lv_at hl 0 rfl) ?_
            refine cn_wv (ck_V (a := eP E 0) S lk_X7_116 (c_X7_emit_bad l E J19 A K r16 hE (fun g => hz9 (hW19.2.1.symm.trans g))) ⟨rfl, rfl⟩ ⟨Nat.le_of_ble_eq_true rfl, Nat.le_of_ble_eq_true rfl⟩ bl_w (rc_w hK hP 0 (by decide) rfl rfl) (bw_U hE hK hC hP hS) rfl hl.1 (Nat.le_of_ble_eq_true rfl) ⟨Nat.le_refl _, Nat.le_refl _⟩ dX7_factor_149 rfl) hS (fun u30 H locs g31 hP hS => ?_)
            obtain rfl : u30 = (J19, A, K) := g31
            have hP : Wp mN E mK (J19, A, K) H := hP
            exact re_wv (x := (J19, A, K)) hx hb hr hlk hP hS (by rw [show (zFd T n 0 0 1 z).2 = zF (-2) z from congrArg Prod.snd ((zFd_s (D := 0)).trans (zFc_4 q1 q2 q3 q4)), ← zNz_f (lo := 0) (hi := 9999) q1]; exact ⟨J19, A, gP_bad hz9 (gB_rf hW19 hrN), rfl⟩) dX7_factor_152
        · have q3 : zW T n (tw 8) z = true := by rw [← tw_9]; exact bI_t h108
          rw [tw_9, zPW_t q3] at hW15
          have hr3 := rP_tr hr2 hp15
          refine lv_iconst (v := 1) hx hb dX7_factor_111 (by decide) ?_
          refine lv_goto (tgt := 116) hx hb dX7_factor_112 (by decide) ?_
          refine lv_istore_n (lv' := [(2, .int 1), (1, .int (mBv A n (tkB T n z.2))), (0, .ref (eP E 0))]) hx hb dX7_factor_116 rfl hl (by decide) rfl (fun ls hl => ?_)
          refine lv_iload_n hx hb dX7_factor_117 rfl (lv_at hl 0 rfl) ?_
          refine lv_if_ge (tgt := 132) hx hb dX7_factor_118 (by decide) (fun h118 => ?_) (fun h118 => absurd (by decide) h118)
          refine lv_iload_n hx hb dX7_factor_132 rfl (lv_at hl 0 rfl) ?_
          refine lv_istore_n (lv' := [(3, .int 1), (2, .int 1), (1, .int (mBv A n (tkB T n z.2))), (0, .ref (eP E 0))]) hx hb dX7_factor_133 rfl hl (by decide) rfl (fun ls hl => ?_)
          refine lv_aload_n hx hb dX7_factor_134 rfl (lv_at hl 3 rfl) ?_
          refine lv_iload_n hx hb dX7_factor_135 rfl (lv_at hl 1 rfl) ?_
          refine lv_if_ge (tgt := 143) hx hb dX7_factor_136 (by decide) (fun h136 => ?_) (fun h136 => absurd (by decide) h136)
          refine lv_iconst (v := 1) hx hb dX7_factor_143 (by decide) ?_
          refine cn_wv (ck_V (a := eP E 0) S lk_X7_116 (c_X7_emit l E J15 A K 1 N hE (hW15.2.1.trans h0) hN (by omega)) ⟨rfl, rfl⟩ ⟨Nat.le_of_ble_eq_true rfl, Nat.le_of_ble_eq_true rfl⟩ bl_w (rc_w hK hP 0 (by decide) rfl rfl) (bw_U hE hK hC hP hS) rfl hl.1 (Nat.le_of_ble_eq_true rfl) ⟨Nat.le_refl _, Nat.le_refl _⟩ dX7_factor_144 rfl) hS (fun u33 H locs g34 hP hS => ?_)
          obtain rfl : u33 = (J15, (mEm A N 1), K) := g34
          have hP : Wp mN E mK (J15, (mEm A N 1), K) H := hP
          refine lv_aload_n hx hb dX7_factor_147 rfl (lv_at hl 3 rfl) ?_
          refine lv_iload_n hx hb dX7_factor_148 rfl (lv_at hl 0 rfl) ?_
          refine cn_wv (ck_V (a := eP E 0) S lk_X7_116 (c_X7_emit l E J15 (mEm A N 1) K 1 (N + 1) hE (hW15.2.1.trans h0) mEm_3 (by omega)) ⟨rfl, rfl⟩ ⟨Nat.le_of_ble_eq_true rfl, Nat.le_of_ble_eq_true rfl⟩ bl_w (rc_w hK hP 0 (by decide) rfl rfl) (bw_U hE hK hC hP hS) rfl hl.1 (Nat.le_of_ble_eq_true rfl) ⟨Nat.le_refl _, Nat.le_refl _⟩ dX7_factor_149 rfl) hS (fun u36 H locs g37 hP hS => ?_)
          obtain rfl : u36 = (J15, (mEm (mEm A N 1) (N + 1) 1), K) := g37
          have hP : Wp mN E mK (J15, (mEm (mEm A N 1) (N + 1) 1), K) H := hP
          exact re_wv (x := (J15, (mEm (mEm A N 1) (N + 1) 1), K)) hx hb hr hlk hP hS (by rw [(show (zFd T n 0 0 1 z).2 = zA T n z from congrArg Prod.snd ((zFd_s (D := 0)).trans (zFc_3 q1 q2 q3)))]; exact ⟨J15, (mEm (mEm A N 1) (N + 1) 1), ⟨gB_em (gB_em (gB_rf hW15 hr3)), fun _ => ⟨N + 2, gM_f (fun am sc => (show (zFd T n am sc 1 z).1 = _ from congrArg Prod.fst ((zFd_s (D := 0)).trans (zFc_3 q1 q2 q3))).symm) (gM_at hN (by show z.2 + 1 ≤ (if z.1 = 0 then tkE T n z.2 else z.2); rw [if_pos h0]; exact tkE_gt (by rw [(of_decide_eq_true q3).2.1]; decide)) (fun code g1 g2 => sg_v1 g1 g2))⟩⟩, rfl⟩) dX7_factor_152
      · have q2 : zW T n (tw 7) z = true := by rw [← tw_16]; exact bI_t h95
        rw [tw_16, zPW_t q2] at hW11
        have hr2 := rP_tr (rP_u rP_rf (Or.inl rfl)) hp11
        refine lv_iconst (v := 0) hx hb dX7_factor_98 (by decide) ?_
        refine lv_goto (tgt := 116) hx hb dX7_factor_99 (by decide) ?_
        refine lv_istore_n (lv' := [(2, .int 0), (1, .int (mBv A n (tkB T n z.2))), (0, .ref (eP E 0))]) hx hb dX7_factor_116 rfl hl (by decide) rfl (fun ls hl => ?_)
        refine lv_iload_n hx hb dX7_factor_117 rfl (lv_at hl 0 rfl) ?_
        refine lv_if_ge (tgt := 132) hx hb dX7_factor_118 (by decide) (fun h118 => ?_) (fun h118 => absurd (by decide) h118)
        refine lv_iload_n hx hb dX7_factor_132 rfl (lv_at hl 0 rfl) ?_
        refine lv_istore_n (lv' := [(3, .int 0), (2, .int 0), (1, .int (mBv A n (tkB T n z.2))), (0, .ref (eP E 0))]) hx hb dX7_factor_133 rfl hl (by decide) rfl (fun ls hl => ?_)
        refine lv_aload_n hx hb dX7_factor_134 rfl (lv_at hl 3 rfl) ?_
        refine lv_iload_n hx hb dX7_factor_135 rfl (lv_at hl 1 rfl) ?_
        refine lv_if_ge (tgt := 143) hx hb dX7_factor_136 (by decide) (fun h136 => ?_) (fun h136 => absurd (by decide) h136)
        refine lv_iconst (v := 1) hx hb dX7_factor_143 (by decide) ?_
        refine cn_wv (ck_V (a := eP E 0) S lk_X7_116 (c_X7_emit l E J11 A K 1 N hE (hW11.2.1.trans h0) hN (by omega)) ⟨rfl, rfl⟩ ⟨Nat.le_of_ble_eq_true rfl, Nat.le_of_ble_eq_true rfl⟩ bl_w (rc_w hK hP 0 (by decide) rfl rfl) (bw_U hE hK hC hP hS) rfl hl.1 (Nat.le_of_ble_eq_true rfl) ⟨Nat.le_refl _, Nat.le_refl _⟩ dX7_factor_144 rfl) hS (fun u39 H locs g40 hP hS => ?_)
        obtain rfl : u39 = (J11, (mEm A N 1), K) := g40
        have hP : Wp mN E mK (J11, (mEm A N 1), K) H := hP
        refine lv_aload_n hx hb dX7_factor_147 rfl (lv_at hl 3 rfl) ?_
        refine lv_iload_n hx hb dX7_factor_148 rfl (lv_at hl 0 rfl) ?_
        refine cn_wv (ck_V (a := eP E 0) S lk_X7_116 (c_X7_emit l E J11 (mEm A N 1) K 0 (N + 1) hE (hW11.2.1.trans h0) mEm_3 (by omega)) ⟨rfl, rfl⟩ ⟨Nat.le_of_ble_eq_true rfl, Nat.le_of_ble_eq_true rfl⟩ bl_w (rc_w hK hP 0 (by decide) rfl rfl) (bw_U hE hK hC hP hS) rfl hl.1 (Nat.le_of_ble_eq_true rfl) ⟨Nat.le_refl _, Nat.le_refl _⟩ dX7_factor_149 rfl) hS (fun u42 H locs g43 hP hS => ?_)
        obtain rfl : u42 = (J11, (mEm (mEm A N 1) (N + 1) 0), K) := g43
        have hP : Wp mN E mK (J11, (mEm (mEm A N 1) (N + 1) 0), K) H := hP
        exact re_wv (x := (J11, (mEm (mEm A N 1) (N + 1) 0), K)) hx hb hr hlk hP hS (by rw [(show (zFd T n 0 0 1 z).2 = zA T n z from congrArg Prod.snd ((zFd_s (D := 0)).trans (zFc_2 q1 q2)))]; exact ⟨J11, (mEm (mEm A N 1) (N + 1) 0), ⟨gB_em (gB_em (gB_rf hW11 hr2)), fun _ => ⟨N + 2, gM_f (fun am sc => (show (zFd T n am sc 1 z).1 = _ from congrArg Prod.fst ((zFd_s (D := 0)).trans (zFc_2 q1 q2))).symm) (gM_at hN (by show z.2 + 1 ≤ (if z.1 = 0 then tkE T n z.2 else z.2); rw [if_pos h0]; exact tkE_gt (by rw [(of_decide_eq_true q2).2.1]; decide)) (fun code g1 g2 => sg_v0 g1 g2))⟩⟩, rfl⟩) dX7_factor_152
    · have q1 : zN T n z = true := (Bool.eq_false_or_eq_true (zN T n z)).elim id (fun g => absurd ((zN_d hTT h0).mpr g) h82)
      refine lv_iconst (v := (-1)) hx hb dX7_factor_85 (by decide) ?_
      refine lv_goto (tgt := 116) hx hb dX7_factor_86 (by decide) ?_
      refine lv_istore_n (lv' := [(2, .int (-1)), (1, .int (mBv A n (tkB T n z.2))), (0, .ref (eP E 0))]) hx hb dX7_factor_116 rfl hl (by decide) rfl (fun ls hl => ?_)
      refine lv_iload_n hx hb dX7_factor_117 rfl (lv_at hl 0 rfl) ?_
      refine lv_if_ge (tgt := 132) hx hb dX7_factor_118 (by decide) (fun h118 => absurd h118 (by decide)) (fun h118 => ?_)
      refine lv_aload_n hx hb dX7_factor_121 rfl (lv_at hl 2 rfl) ?_
      refine lv_iconst (v := 0) hx hb dX7_factor_122 (by decide) ?_
      refine lv_sipush (v := 9999) hx hb dX7_factor_123 (by decide) ?_
      refine cn_wi (ck_V (a := eP E 0) S lk_X7_113 (c_X7_number l E (up2 I 0 4 (nI (tkB T n z.2))) A K T n z 0 9999 hE (mW_nx hW h0)) ⟨rfl, rfl⟩ ⟨Nat.le_of_ble_eq_true rfl, Nat.le_of_ble_eq_true rfl⟩ bl_w (rc_w hK hP 0 (by decide) rfl rfl) (bw_U hE hK hC hP hS) rfl hl.1 (Nat.le_of_ble_eq_true rfl) ⟨Nat.le_refl _, Nat.le_refl _⟩ dX7_factor_126 rfl) hS (fun r44 u45 H locs g46 hP hS => ?_)
      obtain ⟨J47, hW47, hp47, hn47, hv47, rfl⟩ : ∃ oj, mW oj A T n (zNz T n 0 9999 z) ∧ rP (up2 I 0 4 (nI (tkB T n z.2))) oj ∧ (zN T n z = true → oj 0 12 = nI (tkB T n z.2)) ∧ ((zNz T n 0 9999 z).1 = 0 → r44 = zNv T n 0 9999 z) ∧ u45 = (oj, A, K) := g46
      have hP : Wp mN E mK (J47, A, K) H := hP
      have hrN := rP_tr (rP_u rP_rf (Or.inl rfl)) hp47
      by_cases hz9 : (zNz T n 0 9999 z).1 = 0
      · refine tp_i (y := zNv T n 0 9999 z) (hv47 hz9) ?_
        refine lv_goto (tgt := 133) hx hb dX7_factor_129 (by decide) ?_
        refine lv_istore_n (lv' := [(3, .int (zNv T n 0 9999 z)), (2, .int (-1)), (1, .int (mBv A n (tkB T n z.2))), (0, .ref (eP E 0))]) hx hb dX7_factor_133 rfl hl (by decide) rfl (fun ls hl => ?_)
        refine lv_aload_n hx hb dX7_factor_134 rfl (lv_at hl 3 rfl) ?_
        refine lv_iload_n hx hb dX7_factor_135 rfl (lv_at hl 1 rfl) ?_
        refine lv_if_ge (tgt := 143) hx hb dX7_factor_136 (by decide) (fun h136 => absurd h136 (by decide)) (fun h136 => ?_)
        refine lv_iconst (v := 0) hx hb dX7_factor_139 (by decide) ?_
        refine lv_goto (tgt := 144) hx hb dX7_factor_140 (by decide) ?_
        refine cn_wv (ck_V (a := eP E 0) S lk_X7_116 (c_X7_emit l E J47 A K 0 N hE (hW47.2.1.trans hz9) hN (by omega)) ⟨rfl, rfl⟩ ⟨Nat.le_of_ble_eq_true rfl, Nat.le_of_ble_eq_true rfl⟩ bl_w (rc_w hK hP 0 (by decide) rfl rfl) (bw_U hE hK hC hP hS) rfl hl.1 (Nat.le_of_ble_eq_true rfl) ⟨Nat.le_refl _, Nat.le_refl _⟩ dX7_factor_144 rfl) hS (fun u49 H locs g50 hP hS => ?_)
        obtain rfl : u49 = (J47, (mEm A N 0), K) := g50
        have hP : Wp mN E mK (J47, (mEm A N 0), K) H := hP
        refine lv_aload_n hx hb dX7_factor_147 rfl (lv_at hl 3 rfl) ?_
        refine lv_iload_n hx hb dX7_factor_148 rfl (lv_at hl 0 rfl) ?_
        refine cn_wv (ck_V (a := eP E 0) S lk_X7_116 (c_X7_emit l E J47 (mEm A N 0) K (zNv T n 0 9999 z) (N + 1) hE (hW47.2.1.trans hz9) mEm_3 (by omega)) ⟨rfl, rfl⟩ ⟨Nat.le_of_ble_eq_true rfl, Nat.le_of_ble_eq_true rfl⟩ bl_w (rc_w hK hP 0 (by decide) rfl rfl) (bw_U hE hK hC hP hS) rfl hl.1 (Nat.le_of_ble_eq_true rfl) ⟨Nat.le_refl _, Nat.le_refl _⟩ dX7_factor_149 rfl) hS (fun u52 H locs g53 hP hS => ?_)
        obtain rfl : u52 = (J47, (mEm (mEm A N 0) (N + 1) (zNv T n 0 9999 z)), K) := g53
        have hP : Wp mN E mK (J47, (mEm (mEm A N 0) (N + 1) (zNv T n 0 9999 z)), K) H := hP
        exact re_wv (x := (J47, (mEm (mEm A N 0) (N + 1) (zNv T n 0 9999 z)), K)) hx hb hr hlk hP hS (by rw [(show (zFd T n 0 0 1 z).2 = zNz T n 0 9999 z from congrArg Prod.snd ((zFd_s (D := 0)).trans (zFc_1 q1)))]; exact ⟨J47, (mEm (mEm A N 0) (N + 1) (zNv T n 0 9999 z)), ⟨gB_em (gB_em (gB_rf hW47 hrN)), fun _ => ⟨N + 2, gM_f (fun am sc => (show (zFd T n am sc 1 z).1 = _ from congrArg Prod.fst ((zFd_s (D := 0)).trans (zFc_1 q1))).symm) (gM_at hN (by rw [zNz_g q1 hz9]; show z.2 + 1 ≤ (if z.1 = 0 then tkE T n z.2 else z.2); rw [if_pos h0]; exact tkE_gt (by rw [(of_decide_eq_true q1).2]; decide)) (fun code g1 g2 => sg_lit g1 g2))⟩⟩, rfl⟩) dX7_factor_152
      · refine lv_goto (tgt := 133) hx hb dX7_factor_129 (by decide) ?_
        refine lv_istore_n (lv' := [(3, .int r44), (2, .int (-1)), (1, .int (mBv A n (tkB T n z.2))), (0, .ref (eP E 0))]) hx hb dX7_factor_133 rfl hl (by decide) rfl (fun ls hl => ?_)
        refine lv_aload_n hx hb dX7_factor_134 rfl (lv_at hl 3 rfl) ?_
        refine lv_iload_n hx hb dX7_factor_135 rfl (lv_at hl 1 rfl) ?_
        refine lv_if_ge (tgt := 143) hx hb dX7_factor_136 (by decide) (fun h136 => absurd h136 (by decide)) (fun h136 => ?_)
        refine lv_iconst (v := 0) hx hb dX7_factor_139 (by decide) ?_
        refine lv_goto (tgt := 144) hx hb dX7_factor_140 (by decide) ?_
        refine cn_wv (ck_V (a := eP E 0) S lk_X7_116 (c_X7_emit_bad l E J47 A K 0 hE (fun g => hz9 (hW47.2.1.symm.trans g))) ⟨rfl, rfl⟩ ⟨Nat.le_of_ble_eq_true rfl, Nat.le_of_ble_eq_true rfl⟩ bl_w (rc_w hK hP 0 (by decide) rfl rfl) (bw_U hE hK hC hP hS) rfl hl.1 (Nat.le_of_ble_eq_true rfl) ⟨Nat.le_refl _, Nat.le_refl _⟩ dX7_factor_144 rfl) hS (fun u55 H locs g56 hP hS => ?_)
        obtain rfl : u55 = (J47, A, K) := g56
        have hP : Wp mN E mK (J47, A, K) H := hP
        refine lv_aload_n hx hb dX7_factor_147 rfl (lv_at hl 3 rfl) ?_
        refine lv_iload_n hx hb dX7_factor_148 rfl (lv_at hl 0 rfl) ?_
        refine cn_wv (ck_V (a := eP E 0) S lk_X7_116 (c_X7_emit_bad l E J47 A K r44 hE (fun g => hz9 (hW47.2.1.symm.trans g))) ⟨rfl, rfl⟩ ⟨Nat.le_of_ble_eq_true rfl, Nat.le_of_ble_eq_true rfl⟩ bl_w (rc_w hK hP 0 (by decide) rfl rfl) (bw_U hE hK hC hP hS) rfl hl.1 (Nat.le_of_ble_eq_true rfl) ⟨Nat.le_refl _, Nat.le_refl _⟩ dX7_factor_149 rfl) hS (fun u58 H locs g59 hP hS => ?_)
        obtain rfl : u58 = (J47, A, K) := g59
        have hP : Wp mN E mK (J47, A, K) H := hP
        exact re_wv (x := (J47, A, K)) hx hb hr hlk hP hS (by rw [show (zFd T n 0 0 1 z).2 = zNz T n 0 9999 z from congrArg Prod.snd ((zFd_s (D := 0)).trans (zFc_1 q1))]; exact ⟨J47, A, gP_bad hz9 (gB_rf hW47 hrN), rfl⟩) dX7_factor_152
  · have q4 : zS T n 40 z = true := (zS_b (ch := 40) hTT h0 (by decide) (by decide)).mp h16
    obtain ⟨q1, qw⟩ := zS_k q4
    refine lv_aload_n hx hb dX7_factor_19 rfl (lv_at hl 1 rfl) ?_
    refine rw_geti (x := ((up2 I 0 4 (nI (tkB T n z.2))), A, K)) (v := 3) S hK hP 0 (by decide) rfl fk_X7_95 rfl ((up2_j (f := I) (q := 0) (j := 4) (a := 0) (b := 13) (v := (nI (tkB T n z.2))) (by decide)).trans h13) dX7_factor_20 ?_
    refine lv_iconst (v := 4) hx hb dX7_factor_23 (by decide) ?_
    refine lv_icmp_ne (tgt := 37) hx hb dX7_factor_24 (by decide) (fun h24 => ?_) (fun h24 => absurd h24 (by decide))
    refine lv_aload_n hx hb dX7_factor_37 rfl (lv_at hl 1 rfl) ?_
    refine lv_dup hx hb dX7_factor_38 rfl ?_
    refine rw_geti (x := ((up2 I 0 4 (nI (tkB T n z.2))), A, K)) (v := (nI (tkB T n z.2))) S hK hP 0 (by decide) rfl fk_X7_45 rfl (up2_eq (f := I) (q := 0) (j := 4) (v := (nI (tkB T n z.2)))) dX7_factor_39 ?_
    refine lv_iconst (v := 1) hx hb dX7_factor_42 (by decide) ?_
    refine lv_iadd hx hb dX7_factor_43 ?_
    refine tp_i (y := nI ((tkB T n z.2) + 1)) (nI_add (tkB T n z.2) 1) ?_
    refine rw_puti (x := ((up2 I 0 4 (nI (tkB T n z.2))), A, K)) (v := (nI ((tkB T n z.2) + 1))) S hE hK hP hS 0 (by decide) rfl fk_X7_45 rfl tyX7_ok nmX7 ⟨rfl, by decide +kernel⟩ dX7_factor_44 (fun H locs hP hS => ?_)
    have hP : Wp mN E mK ((up2 (up2 I 0 4 (nI (tkB T n z.2))) 0 4 (nI ((tkB T n z.2) + 1))), A, K) H := hP
    refine lv_aload_n hx hb dX7_factor_47 rfl (lv_at hl 1 rfl) ?_
    refine lv_dup hx hb dX7_factor_48 rfl ?_
    refine rw_geti (x := ((up2 (up2 I 0 4 (nI (tkB T n z.2))) 0 4 (nI ((tkB T n z.2) + 1))), A, K)) (v := 3) S hK hP 0 (by decide) rfl fk_X7_95 rfl ((up2_j (f := (up2 I 0 4 (nI (tkB T n z.2)))) (q := 0) (j := 4) (a := 0) (b := 13) (v := (nI ((tkB T n z.2) + 1))) (by decide)).trans ((up2_j (f := I) (q := 0) (j := 4) (a := 0) (b := 13) (v := (nI (tkB T n z.2))) (by decide)).trans h13)) dX7_factor_49 ?_
    refine lv_iconst (v := 1) hx hb dX7_factor_52 (by decide) ?_
    refine lv_iadd hx hb dX7_factor_53 ?_
    refine tp_i (y := 4) rfl ?_
    refine rw_puti (x := ((up2 (up2 I 0 4 (nI (tkB T n z.2))) 0 4 (nI ((tkB T n z.2) + 1))), A, K)) (v := 4) S hE hK hP hS 0 (by decide) rfl fk_X7_95 rfl tyX7_ok nmX7 ⟨rfl, by decide +kernel⟩ dX7_factor_54 (fun H locs hP hS => ?_)
    have hP : Wp mN E mK ((up2 (up2 (up2 I 0 4 (nI (tkB T n z.2))) 0 4 (nI ((tkB T n z.2) + 1))) 0 13 4), A, K) H := hP
    refine lv_aload_n hx hb dX7_factor_57 rfl (lv_at hl 1 rfl) ?_
    rw [up2_up] at hP
    have hP : Wp mN E mK ((up2 (up2 I 0 4 (nI (tkB T n z.2 + 1))) 0 13 4), A, K) H := hP
    have hsg := mW_sg (ch := 40) hW (by decide) q4
    have hWs := mW_12 (b := 13) (v := 4) (Or.inr (Or.inl rfl)) hsg.1
    refine cn_wv (ck_V (a := eP E 0) S lk_X7_98 (c_X7_sum_0 l E (up2 (up2 I 0 4 (nI (tkB T n z.2 + 1))) 0 13 4) A K T n (zA T n z) N hE hWs rfl hsg.2.2 hN (by have := hsg.2.1; omega)) ⟨rfl, rfl⟩ ⟨Nat.le_of_ble_eq_true rfl, Nat.le_of_ble_eq_true rfl⟩ bl_w (rc_w hK hP 0 (by decide) rfl rfl) (bw_U hE hK hC hP hS) rfl hl.1 (Nat.le_of_ble_eq_true rfl) ⟨Nat.le_refl _, Nat.le_refl _⟩ dX7_factor_58 rfl) hS (fun u61 H locs g62 hP hS => ?_)
    obtain ⟨J63, B63, hg63, rfl⟩ : ∃ oj ob, gP (up2 (up2 I 0 4 (nI (tkB T n z.2 + 1))) 0 13 4) A T n N (zA T n z) (zSu T n 0 0 0 (zA T n z)).2 (fun am sc => (zSu T n am sc 0 (zA T n z)).1) oj ob ∧ u61 = (oj, ob, K) := g62
    have hP : Wp mN E mK (J63, B63, K) H := hP
    refine lv_aload_n hx hb dX7_factor_61 rfl (lv_at hl 1 rfl) ?_
    refine lv_bipush (v := 41) hx hb dX7_factor_62 (by decide) ?_
    refine cn_wv (ck_V (a := eP E 0) S lk_X7_101 (c_X7_expect l E J63 B63 K T n ((zSu T n 0 0 0 (zA T n z)).2) 41 hE hg63.1.1.1 (by decide) (by decide)) ⟨rfl, rfl⟩ ⟨Nat.le_of_ble_eq_true rfl, Nat.le_of_ble_eq_true rfl⟩ bl_w (rc_w hK hP 0 (by decide) rfl rfl) (bw_U hE hK hC hP hS) rfl hl.1 (Nat.le_of_ble_eq_true rfl) ⟨Nat.le_refl _, Nat.le_refl _⟩ dX7_factor_64 rfl) hS (fun u65 H locs g66 hP hS => ?_)
    obtain ⟨J67, hW67, hp67, rfl⟩ : ∃ oj, mW oj B63 T n (zNS T n (nI 41) ((zSu T n 0 0 0 (zA T n z)).2)) ∧ rP J63 oj ∧ u65 = (oj, B63, K) := g66
    have hP : Wp mN E mK (J67, B63, K) H := hP
    have e13 : J67 0 13 = 4 := (hp67 0 13 (by decide)).trans (hg63.1.1.2 0 13 (by decide))
    refine lv_aload_n hx hb dX7_factor_67 rfl (lv_at hl 1 rfl) ?_
    refine lv_dup hx hb dX7_factor_68 rfl ?_
    refine rw_geti (x := (J67, B63, K)) (v := 4) S hK hP 0 (by decide) rfl fk_X7_95 rfl e13 dX7_factor_69 ?_
    refine lv_iconst (v := 1) hx hb dX7_factor_72 (by decide) ?_
    refine lv_isub hx hb dX7_factor_73 ?_
    refine tp_i (y := 3) rfl ?_
    refine rw_puti (x := (J67, B63, K)) (v := 3) S hE hK hP hS 0 (by decide) rfl fk_X7_95 rfl tyX7_ok nmX7 ⟨rfl, by decide +kernel⟩ dX7_factor_74 (fun H locs hP hS => ?_)
    have hP : Wp mN E mK ((up2 J67 0 13 3), B63, K) H := hP
    exact re_wv (x := ((up2 J67 0 13 3), B63, K)) hx hb hr hlk hP hS (by have e6 : ∀ am sc, zFd T n am sc 1 z = ((zSu T n am sc 0 (zA T n z)).1, zNS T n 41 (zSu T n am sc 0 (zA T n z)).2) := fun am sc => (zFd_s (D := 0)).trans (zFc_6 q1 (qw _) (qw _) q4); exact ⟨_, B63, (by rw [show (zFd T n 0 0 1 z).2 = zNS T n 41 (zSu T n 0 0 0 (zA T n z)).2 from congrArg Prod.snd (e6 0 0)]; exact ⟨⟨⟨mW_12 (Or.inr (Or.inl rfl)) hW67, rP_of (rQ_tr (rQ_u (rQ_u (rQ_of rP_rf) (by decide)) (by decide)) (rQ_tr (rQ_of hg63.1.1.2) (rQ_u (rQ_of hp67) (by decide)))) h13.symm⟩, hg63.1.2⟩, fun g => (hg63.2 (zMo_NS g)).elim (fun M hM => ⟨M, gM_f (fun am sc => (congrArg Prod.fst (e6 am sc)).symm) (gM_par hM)⟩)⟩), rfl⟩) dX7_factor_77

set_option maxHeartbeats 1000000 in
set_option maxRecDepth 100000 in
theorem c_X7_term_1 (l : Launch) (E : En) (I A : Nat → Nat → Int32) (K : Nat → Nat → Int64) (T : Nat → Int32) (n : Nat) (z : Tz) (N : Nat) (hE : Ev mN E) (hW : mW I A T n z) (h13 : I 0 13 = 3) (h0 : z.1 = 0) (hN : A 3 3 = nI N) (hNb : 2 * N ≤ 3 * z.2) : Met l yX7_term (wz yX7_term cX7_term 2 none) (rmk 9 0 0 203) (va_Pc [.ref (eP E 0)] (Bw mN E mK (I, A, K))) (qWv mN E mK (fun uu => ∃ J B, gP I A T n N z (zTd T n 0 0 1 z).2 (fun am sc => (zTd T n am sc 1 z).1) J B ∧ uu = (J, B, K))) 0 0 (cA mN E) := by
  refine en_ofW RX7 rfl (by decide +kernel) (Nat.le_of_ble_eq_true rfl) ?_
  intro p e s m below meth c ls S hr hlk hnm hl hB
  have hx := S.1
  have hb := S.2.1
  obtain ⟨hK, hC, hP⟩ := hB
  have hS : va_S (cA mN E) s.heap s.heap [] := va_S.rf
  have hl : lv_has ls 2 [(0, .ref (eP E 0))] := hl
  obtain ⟨⟨hn3, hTT, hzn⟩, h5c, h5p, h5e⟩ := id hW
  have hn7 := hTT.1
  have hBn := tkB_le (T := T) hzn
  have hzl : z.2 ≤ 700 := Nat.le_trans hzn hn7
  refine lv_aload_n hx hb dX7_term_0 rfl (lv_at hl 0 rfl) ?_
  refine cn_wv (ck_V (a := eP E 0) S lk_X7_119 (c_X7_factor_1 l E I A K T n z N hE hW h13 h0 hN hNb) ⟨rfl, rfl⟩ ⟨Nat.le_of_ble_eq_true rfl, Nat.le_of_ble_eq_true rfl⟩ bl_w (rc_w hK hP 0 (by decide) rfl rfl) (bw_U hE hK hC hP hS) rfl hl.1 (Nat.le_of_ble_eq_true rfl) ⟨Nat.le_refl _, Nat.le_refl _⟩ dX7_term_1 rfl) hS (fun u2 H locs g3 hP hS => ?_)
  obtain ⟨J4, B4, hg4, rfl⟩ : ∃ oj ob, gP I A T n N z (zFd T n 0 0 1 z).2 (fun am sc => (zFd T n am sc 1 z).1) oj ob ∧ u2 = (oj, ob, K) := g3
  have hP : Wp mN E mK (J4, B4, K) H := hP
  have HL : ∀ (cnt : Nat) (za : Tz) (f : Int32 → Int32 → Int32) (J B : Nat → Nat → Int32), n - za.2 ≤ cnt → gP I A T n N z za f J B → (∀ am sc, vR am → vR sc → vR (f am sc)) → (∀ am sc, zTl T n (zFd T n am sc 1) cnt (f am sc, za) = zTd T n am sc 1 z) → ∀ (H : Heap) (locs : List Loc), Wp mN E mK (J, B, K) H → va_S (cA mN E) s.heap H locs → ∀ ls : Array Slot, lv_has ls 2 [(0, .ref (eP E 0))] → W p l e (rmk 9 0 0 203) s m ([.ref (eP E 0)] : List Value).toArray below meth c H locs 0 0 (MQ below (qWv mN E mK (fun uu => ∃ J B, gP I A T n N z (zTd T n 0 0 1 z).2 (fun am sc => (zTd T n am sc 1 z).1) J B ∧ uu = (J, B, K))) ([.ref (eP E 0)] : List Value).toArray s 0 0 (cA mN E)) (F0 m 4 ls []) := by
    intro cnt
    induction cnt with
    | zero =>
      intro za f J B hm hg hfv hv H locs hP hS ls hl
      have hWa := hg.1.1.1
      have h5a : J 0 5 = za.1 := hWa.2.1
      have hzan := hWa.1.2.2
      have hTa := hWa.1.2.1
      refine lv_aload_n hx hb dX7_term_4 rfl (lv_at hl 0 rfl) ?_
      refine cn_si (ck_V (a := eP E 0) S lk_X7_62 (c_X7_isGood l E J B K hE) ⟨rfl, rfl⟩ ⟨Nat.le_of_ble_eq_true rfl, Nat.le_of_ble_eq_true rfl⟩ bl_w (rc_w hK hP 0 (by decide) rfl rfl) (bw_U hE hK hC hP hS) rfl hl.1 (Nat.le_of_ble_eq_true rfl) ⟨Nat.le_refl _, Nat.le_refl _⟩ dX7_term_5 rfl) (fun r5 g6 => ?_)
      obtain rfl : r5 = bI (decide (J 0 5 = 0)) := g6
      refine lv_if_eq (tgt := 74) hx hb dX7_term_8 (by decide) (fun h8 => ?_) (fun h8 => ?_)
      · have hnz : ¬ za.1 = 0 := fun g => absurd (decide_eq_true (h5a.trans g)) (by rw [bI_f h8]; decide)
        exact re_wv (x := (J, B, K)) hx hb hr hlk hP hS ⟨J, B, gP_eq (fun am sc => (zTl_x (zS_c hnz) (zS_c hnz) _).symm.trans (hv am sc)) hg, rfl⟩ dX7_term_74
      · have h0a : za.1 = 0 := h5a.symm.trans (of_decide_eq_true (bI_t h8))
        refine lv_aload_n hx hb dX7_term_11 rfl (lv_at hl 0 rfl) ?_
        refine cn_wi (ck_V (a := eP E 0) S lk_X7_66 (c_X7_nextW l E J B K T n za hE hWa h0a) ⟨rfl, rfl⟩ ⟨Nat.le_of_ble_eq_true rfl, Nat.le_of_ble_eq_true rfl⟩ bl_w (rc_w hK hP 0 (by decide) rfl rfl) (bw_U hE hK hC hP hS) rfl hl.1 (Nat.le_of_ble_eq_true rfl) ⟨Nat.le_refl _, Nat.le_refl _⟩ dX7_term_12 rfl) hS (fun r7 u8 H locs g9 hP hS => ?_)
        obtain ⟨rfl, rfl⟩ : r7 = (mBv B n (tkB T n za.2)) ∧ u8 = ((up2 J 0 4 (nI (tkB T n za.2))), B, K) := g9
        have hP : Wp mN E mK ((up2 J 0 4 (nI (tkB T n za.2))), B, K) H := hP
        refine lv_bipush (v := 42) hx hb dX7_term_15 (by decide) ?_
        refine lv_icmp_eq (tgt := 29) hx hb dX7_term_17 (by decide) (fun h17 => ?_) (fun h17 => ?_)
        · have q1 : zS T n 42 za = true := (zS_b (ch := 42) hTa h0a (by decide) (by decide)).mp h17
          have hsg := mW_sg (ch := 42) hWa (by decide) q1
          exact absurd (zS_e (ch := 42) (by decide) q1).2 (by have := tkB_ge (T := T) (n := n) (p := za.2); omega)
        · have q1 : zS T n 42 za = false := Bool.eq_false_iff.mpr (fun g => h17 ((zS_b (ch := 42) hTa h0a (by decide) (by decide)).mpr g))
          refine lv_aload_n hx hb dX7_term_20 rfl (lv_at hl 0 rfl) ?_
          refine cn_wi (ck_V (a := eP E 0) S lk_X7_66 (c_X7_nextW l E (up2 J 0 4 (nI (tkB T n za.2))) B K T n za hE (mW_nx hWa h0a) h0a) ⟨rfl, rfl⟩ ⟨Nat.le_of_ble_eq_true rfl, Nat.le_of_ble_eq_true rfl⟩ bl_w (rc_w hK hP 0 (by decide) rfl rfl) (bw_U hE hK hC hP hS) rfl hl.1 (Nat.le_of_ble_eq_true rfl) ⟨Nat.le_refl _, Nat.le_refl _⟩ dX7_term_21 rfl) hS (fun r10 u11 H locs g12 hP hS => ?_)
          obtain ⟨rfl, rfl⟩ : r10 = (mBv B n (tkB T n za.2)) ∧ u11 = ((up2 (up2 J 0 4 (nI (tkB T n za.2))) 0 4 (nI (tkB T n za.2))), B, K) := g12
          have hP : Wp mN E mK ((up2 (up2 J 0 4 (nI (tkB T n za.2))) 0 4 (nI (tkB T n za.2))), B, K) H := hP
          rw [up2_up] at hP
          have hP : Wp mN E mK ((up2 J 0 4 (nI (tkB T n za.2))), B, K) H := hP
          refine lv_bipush (v := 47) hx hb dX7_term_24 (by decide) ?_
          refine lv_icmp_ne (tgt := 74) hx hb dX7_term_26 (by decide) (fun h26 => ?_) (fun h26 => ?_)
          · have q2 : zS T n 47 za = false := Bool.eq_false_iff.mpr (fun g => h26 ((zS_b (ch := 47) hTa h0a (by decide) (by decide)).mpr g))
            exact re_wv (x := ((up2 J 0 4 (nI (tkB T n za.2))), B, K)) hx hb hr hlk hP hS ⟨_, B, gP_eq (fun am sc => (zTl_x q1 q2 _).symm.trans (hv am sc)) ⟨gB_u hg.1 h0a, hg.2⟩, rfl⟩ dX7_term_74
          · have q2 : zS T n 47 za = true := (zS_b (ch := 47) hTa h0a (by decide) (by decide)).mp h26
            have hsg := mW_sg (ch := 47) hWa (by decide) q2
            exact absurd (zS_e (ch := 47) (by decide) q2).2 (by have := tkB_ge (T := T) (n := n) (p := za.2); omega)
    | succ cnt ih =>
      intro za f J B hm hg hfv hv H locs hP hS ls hl
      have hWa := hg.1.1.1
      have h5a : J 0 5 = za.1 := hWa.2.1
      have hzan := hWa.1.2.2
      have hTa := hWa.1.2.1
      refine lv_aload_n hx hb dX7_term_4 rfl (lv_at hl 0 rfl) ?_
      refine cn_si (ck_V (a := eP E 0) S lk_X7_62 (c_X7_isGood l E J B K hE) ⟨rfl, rfl⟩ ⟨Nat.le_of_ble_eq_true rfl, Nat.le_of_ble_eq_true rfl⟩ bl_w (rc_w hK hP 0 (by decide) rfl rfl) (bw_U hE hK hC hP hS) rfl hl.1 (Nat.le_of_ble_eq_true rfl) ⟨Nat.le_refl _, Nat.le_refl _⟩ dX7_term_5 rfl) (fun r13 g14 => ?_)
      obtain rfl : r13 = bI (decide (J 0 5 = 0)) := g14
      refine lv_if_eq (tgt := 74) hx hb dX7_term_8 (by decide) (fun h8 => ?_) (fun h8 => ?_)
      · have hnz : ¬ za.1 = 0 := fun g => absurd (decide_eq_true (h5a.trans g)) (by rw [bI_f h8]; decide)
        exact re_wv (x := (J, B, K)) hx hb hr hlk hP hS ⟨J, B, gP_eq (fun am sc => (zTl_x (zS_c hnz) (zS_c hnz) _).symm.trans (hv am sc)) hg, rfl⟩ dX7_term_74
      · have h0a : za.1 = 0 := h5a.symm.trans (of_decide_eq_true (bI_t h8))
        refine lv_aload_n hx hb dX7_term_11 rfl (lv_at hl 0 rfl) ?_
        refine cn_wi (ck_V (a := eP E 0) S lk_X7_66 (c_X7_nextW l E J B K T n za hE hWa h0a) ⟨rfl, rfl⟩ ⟨Nat.le_of_ble_eq_true rfl, Nat.le_of_ble_eq_true rfl⟩ bl_w (rc_w hK hP 0 (by decide) rfl rfl) (bw_U hE hK hC hP hS) rfl hl.1 (Nat.le_of_ble_eq_true rfl) ⟨Nat.le_refl _, Nat.le_refl _⟩ dX7_term_12 rfl) hS (fun r15 u16 H locs g17 hP hS => ?_)
        obtain ⟨rfl, rfl⟩ : r15 = (mBv B n (tkB T n za.2)) ∧ u16 = ((up2 J 0 4 (nI (tkB T n za.2))), B, K) := g17
        have hP : Wp mN E mK ((up2 J 0 4 (nI (tkB T n za.2))), B, K) H := hP
        refine lv_bipush (v := 42) hx hb dX7_term_15 (by decide) ?_
        refine lv_icmp_eq (tgt := 29) hx hb dX7_term_17 (by decide) (fun h17 => ?_) (fun h17 => ?_)
        · have q1 : zS T n 42 za = true := (zS_b (ch := 42) hTa h0a (by decide) (by decide)).mp h17
          have hsg := mW_sg (ch := 42) hWa (by decide) q1
          refine lv_aload_n hx hb dX7_term_29 rfl (lv_at hl 0 rfl) ?_
          refine cn_wi (ck_V (a := eP E 0) S lk_X7_66 (c_X7_nextW l E (up2 J 0 4 (nI (tkB T n za.2))) B K T n za hE (mW_nx hWa h0a) h0a) ⟨rfl, rfl⟩ ⟨Nat.le_of_ble_eq_true rfl, Nat.le_of_ble_eq_true rfl⟩ bl_w (rc_w hK hP 0 (by decide) rfl rfl) (bw_U hE hK hC hP hS) rfl hl.1 (Nat.le_of_ble_eq_true rfl) ⟨Nat.le_refl _, Nat.le_refl _⟩ dX7_term_30 rfl) hS (fun r18 u19 H locs g20 hP hS => ?_)
          obtain ⟨rfl, rfl⟩ : r18 = (mBv B n (tkB T n za.2)) ∧ u19 = ((up2 (up2 J 0 4 (nI (tkB T n za.2))) 0 4 (nI (tkB T n za.2))), B, K) := g20
          have hP : Wp mN E mK ((up2 (up2 J 0 4 (nI (tkB T n za.2))) 0 4 (nI (tkB T n za.2))), B, K) H := hP
          rw [up2_up] at hP
          have hP : Wp mN E mK ((up2 J 0 4 (nI (tkB T n za.2))), B, K) H := hP
          refine lv_bipush (v := 42) hx hb dX7_term_33 (by decide) ?_
          refine lv_icmp_ne (tgt := 42) hx hb dX7_term_35 (by decide) (fun h35 => absurd h35 (fun g => g h17)) (fun h35 => ?_)
          refine lv_iconst (v := 1) hx hb dX7_term_38 (by decide) ?_
          refine lv_goto (tgt := 43) hx hb dX7_term_39 (by decide) ?_
          refine lv_istore_n (lv' := [(1, .int 1), (0, .ref (eP E 0))]) hx hb dX7_term_43 rfl hl (by decide) rfl (fun ls hl => ?_)
          refine lv_aload_n hx hb dX7_term_44 rfl (lv_at hl 1 rfl) ?_
          refine lv_dup hx hb dX7_term_45 rfl ?_
          refine rw_geti (x := ((up2 J 0 4 (nI (tkB T n za.2))), B, K)) (v := (nI (tkB T n za.2))) S hK hP 0 (by decide) rfl fk_X7_45 rfl (up2_eq (f := J) (q := 0) (j := 4) (v := (nI (tkB T n za.2)))) dX7_term_46 ?_
          refine lv_iconst (v := 1) hx hb dX7_term_49 (by decide) ?_
          refine lv_iadd hx hb dX7_term_50 ?_
          refine tp_i (y := nI ((tkB T n za.2) + 1)) (nI_add (tkB T n za.2) 1) ?_
          refine rw_puti (x := ((up2 J 0 4 (nI (tkB T n za.2))), B, K)) (v := (nI ((tkB T n za.2) + 1))) S hE hK hP hS 0 (by decide) rfl fk_X7_45 rfl tyX7_ok nmX7 ⟨rfl, by decide +kernel⟩ dX7_term_51 (fun H locs hP hS => ?_)
          have hP : Wp mN E mK ((up2 (up2 J 0 4 (nI (tkB T n za.2))) 0 4 (nI ((tkB T n za.2) + 1))), B, K) H := hP
          rw [up2_up] at hP
          have hP : Wp mN E mK ((up2 J 0 4 (nI (tkB T n za.2 + 1))), B, K) H := hP
          obtain ⟨M, hM⟩ := hg.2 h0a
          refine lv_aload_n hx hb dX7_term_54 rfl (lv_at hl 1 rfl) ?_
          refine cn_wv (ck_V (a := eP E 0) S lk_X7_119 (c_X7_factor_1 l E (up2 J 0 4 (nI (tkB T n za.2 + 1))) B K T n (zA T n za) M hE hsg.1 ((hg.1.1.2 0 13 (by decide)).trans h13) hsg.2.2 hM.1 (by have := hM.2.1; have := hsg.2.1; omega)) ⟨rfl, rfl⟩ ⟨Nat.le_of_ble_eq_true rfl, Nat.le_of_ble_eq_true rfl⟩ bl_w (rc_w hK hP 0 (by decide) rfl rfl) (bw_U hE hK hC hP hS) rfl hl.1 (Nat.le_of_ble_eq_true rfl) ⟨Nat.le_refl _, Nat.le_refl _⟩ dX7_term_55 rfl) hS (fun u22 H locs g23 hP hS => ?_)
          obtain ⟨J24, B24, hg24, rfl⟩ : ∃ oj ob, gP (up2 J 0 4 (nI (tkB T n za.2 + 1))) B T n M (zA T n za) (zFd T n 0 0 1 (zA T n za)).2 (fun am sc => (zFd T n am sc 1 (zA T n za)).1) oj ob ∧ u22 = (oj, ob, K) := g23
          have hP : Wp mN E mK (J24, B24, K) H := hP
          by_cases hz9 : (zFd T n 0 0 1 (zA T n za)).2.1 = 0
          · obtain ⟨M2, hM2⟩ := hg24.2 hz9
            refine lv_aload_n hx hb dX7_term_58 rfl (lv_at hl 1 rfl) ?_
            refine lv_iload_n hx hb dX7_term_59 rfl (lv_at hl 0 rfl) ?_
            refine lv_if_eq (tgt := 67) hx hb dX7_term_60 (by decide) (fun h60 => absurd h60 (by decide)) (fun h60 => ?_)
            refine lv_iconst (v := 4) hx hb dX7_term_63 (by decide) ?_
            refine lv_goto (tgt := 68) hx hb dX7_term_64 (by decide) ?_
            refine cn_wv (ck_V (a := eP E 0) S lk_X7_116 (c_X7_emit l E J24 B24 K 4 M2 hE (hg24.1.1.1.2.1.trans hz9) hM2.1 (by have := hM.2.1; have := hM2.2.1; have := hsg.2.1; have := hg24.1.1.1.1.2.2; omega)) ⟨rfl, rfl⟩ ⟨Nat.le_of_ble_eq_true rfl, Nat.le_of_ble_eq_true rfl⟩ bl_w (rc_w hK hP 0 (by decide) rfl rfl) (bw_U hE hK hC hP hS) rfl hl.1 (Nat.le_of_ble_eq_true rfl) ⟨Nat.le_refl _, Nat.le_refl _⟩ dX7_term_68 rfl) hS (fun u26 H locs g27 hP hS => ?_)
            obtain rfl : u26 = (J24, (mEm B24 M2 4), K) := g27
            have hP : Wp mN E mK (J24, (mEm B24 M2 4), K) H := hP
            refine lv_goto (tgt := 4) hx hb dX7_term_71 (by decide) ?_
            exact ih _ (fun am sc => cProd (f am sc) (zFd T n am sc 1 (zA T n za)).1) _ _ (by have h9 := hsg.2.1; have h8 := zGe_Fd (T := T) (n := n) (sz := 0) (sc := 0) 1 (zA T n za); omega) (⟨gB_tr hg.1 (rP_u rP_rf (Or.inl rfl)) (gB_em hg24.1), fun _ => ⟨_, gM_op hM hsg.2.1 hM2 (by decide) (fun am sc h1 h2 => op_mul.1)⟩⟩) (fun am sc h1 h2 => op_mul.2) (fun am sc => (show zTl T n (zFd T n am sc 1) cnt (cProd (f am sc) (zFd T n am sc 1 (zA T n za)).1, (zFd T n 0 0 1 (zA T n za)).2) = _ from (by rw [zFd_i (a := 0) (b := 0) am sc 1 (zA T n za)]; exact (zTl_m q1).symm.trans (hv am sc)))) _ _ hP hS ls (lv_sub hl [1] rfl)
          · refine lv_aload_n hx hb dX7_term_58 rfl (lv_at hl 1 rfl) ?_
            refine lv_iload_n hx hb dX7_term_59 rfl (lv_at hl 0 rfl) ?_
            refine lv_if_eq (tgt := 67) hx hb dX7_term_60 (by decide) (fun h60 => absurd h60 (by decide)) (fun h60 => ?_)
            refine lv_iconst (v := 4) hx hb dX7_term_63 (by decide) ?_
            refine lv_goto (tgt := 68) hx hb dX7_term_64 (by decide) ?_
            refine cn_wv (ck_V (a := eP E 0) S lk_X7_116 (c_X7_emit_bad l E J24 B24 K 4 hE (fun g => hz9 (hg24.1.1.1.2.1.symm.trans g))) ⟨rfl, rfl⟩ ⟨Nat.le_of_ble_eq_true rfl, Nat.le_of_ble_eq_true rfl⟩ bl_w (rc_w hK hP 0 (by decide) rfl rfl) (bw_U hE hK hC hP hS) rfl hl.1 (Nat.le_of_ble_eq_true rfl) ⟨Nat.le_refl _, Nat.le_refl _⟩ dX7_term_68 rfl) hS (fun u29 H locs g30 hP hS => ?_)
            obtain rfl : u29 = (J24, B24, K) := g30
            have hP : Wp mN E mK (J24, B24, K) H := hP
            refine lv_goto (tgt := 4) hx hb dX7_term_71 (by decide) ?_
            exact ih _ (fun am sc => cProd (f am sc) (zFd T n am sc 1 (zA T n za)).1) _ _ (by have h9 := hsg.2.1; have h8 := zGe_Fd (T := T) (n := n) (sz := 0) (sc := 0) 1 (zA T n za); omega) (gP_bad hz9 (gB_tr hg.1 (rP_u rP_rf (Or.inl rfl)) hg24.1)) (fun am sc h1 h2 => op_mul.2) (fun am sc => (show zTl T n (zFd T n am sc 1) cnt (cProd (f am sc) (zFd T n am sc 1 (zA T n za)).1, (zFd T n 0 0 1 (zA T n za)).2) = _ from (by rw [zFd_i (a := 0) (b := 0) am sc 1 (zA T n za)]; exact (zTl_m q1).symm.trans (hv am sc)))) _ _ hP hS ls (lv_sub hl [1] rfl)
        · have q1 : zS T n 42 za = false := Bool.eq_false_iff.mpr (fun g => h17 ((zS_b (ch := 42) hTa h0a (by decide) (by decide)).mpr g))
          refine lv_aload_n hx hb dX7_term_20 rfl (lv_at hl 0 rfl) ?_
          refine cn_wi (ck_V (a := eP E 0) S lk_X7_66 (c_X7_nextW l E (up2 J 0 4 (nI (tkB T n za.2))) B K T n za hE (mW_nx hWa h0a) h0a) ⟨rfl, rfl⟩ ⟨Nat.le_of_ble_eq_true rfl, Nat.le_of_ble_eq_true rfl⟩ bl_w (rc_w hK hP 0 (by decide) rfl rfl) (bw_U hE hK hC hP hS) rfl hl.1 (Nat.le_of_ble_eq_true rfl) ⟨Nat.le_refl _, Nat.le_refl _⟩ dX7_term_21 rfl) hS (fun r31 u32 H locs g33 hP hS => ?_)
          obtain ⟨rfl, rfl⟩ : r31 = (mBv B n (tkB T n za.2)) ∧ u32 = ((up2 (up2 J 0 4 (nI (tkB T n za.2))) 0 4 (nI (tkB T n za.2))), B, K) := g33
          have hP : Wp mN E mK ((up2 (up2 J 0 4 (nI (tkB T n za.2))) 0 4 (nI (tkB T n za.2))), B, K) H := hP
          rw [up2_up] at hP
          have hP : Wp mN E mK ((up2 J 0 4 (nI (tkB T n za.2))), B, K) H := hP
          refine lv_bipush (v := 47) hx hb dX7_term_24 (by decide) ?_
          refine lv_icmp_ne (tgt := 74) hx hb dX7_term_26 (by decide) (fun h26 => ?_) (fun h26 => ?_)
          · have q2 : zS T n 47 za = false := Bool.eq_false_iff.mpr (fun g => h26 ((zS_b (ch := 47) hTa h0a (by decide) (by decide)).mpr g))
            exact re_wv (x := ((up2 J 0 4 (nI (tkB T n za.2))), B, K)) hx hb hr hlk hP hS ⟨_, B, gP_eq (fun am sc => (zTl_x q1 q2 _).symm.trans (hv am sc)) ⟨gB_u hg.1 h0a, hg.2⟩, rfl⟩ dX7_term_74
          · have q2 : zS T n 47 za = true := (zS_b (ch := 47) hTa h0a (by decide) (by decide)).mp h26
            have hsg := mW_sg (ch := 47) hWa (by decide) q2
            refine lv_aload_n hx hb dX7_term_29 rfl (lv_at hl 0 rfl) ?_
            refine cn_wi (ck_V (a := eP E 0) S lk_X7_66 (c_X7_nextW l E (up2 J 0 4 (nI (tkB T n za.2))) B K T n za hE (mW_nx hWa h0a) h0a) ⟨rfl, rfl⟩ ⟨Nat.le_of_ble_eq_true rfl, Nat.le_of_ble_eq_true rfl⟩ bl_w (rc_w hK hP 0 (by decide) rfl rfl) (bw_U hE hK hC hP hS) rfl hl.1 (Nat.le_of_ble_eq_true rfl) ⟨Nat.le_refl _, Nat.le_refl _⟩ dX7_term_30 rfl) hS (fun r34 u35 H locs g36 hP hS => ?_)
            obtain ⟨rfl, rfl⟩ : r34 = (mBv B n (tkB T n za.2)) ∧ u35 = ((up2 (up2 J 0 4 (nI (tkB T n za.2))) 0 4 (nI (tkB T n za.2))), B, K) := g36
            have hP : Wp mN E mK ((up2 (up2 J 0 4 (nI (tkB T n za.2))) 0 4 (nI (tkB T n za.2))), B, K) H := hP
            rw [up2_up] at hP
            have hP : Wp mN E mK ((up2 J 0 4 (nI (tkB T n za.2))), B, K) H := hP
            refine lv_bipush (v := 42) hx hb dX7_term_33 (by decide) ?_
            refine lv_icmp_ne (tgt := 42) hx hb dX7_term_35 (by decide) (fun h35 => ?_) (fun h35 => absurd h35 (show ¬ mBv B n (tkB T n za.2) = 42 from h17))
            refine lv_iconst (v := 0) hx hb dX7_term_42 (by decide) ?_
            refine lv_istore_n (lv' := [(1, .int 0), (0, .ref (eP E 0))]) hx hb dX7_term_43 rfl hl (by decide) rfl (fun ls hl => ?_)
            refine lv_aload_n hx hb dX7_term_44 rfl (lv_at hl 1 rfl) ?_
            refine lv_dup hx hb dX7_term_45 rfl ?_
            refine rw_geti (x := ((up2 J 0 4 (nI (tkB T n za.2))), B, K)) (v := (nI (tkB T n za.2))) S hK hP 0 (by decide) rfl fk_X7_45 rfl (up2_eq (f := J) (q := 0) (j := 4) (v := (nI (tkB T n za.2)))) dX7_term_46 ?_
            refine lv_iconst (v := 1) hx hb dX7_term_49 (by decide) ?_
            refine lv_iadd hx hb dX7_term_50 ?_
            refine tp_i (y := nI ((tkB T n za.2) + 1)) (nI_add (tkB T n za.2) 1) ?_
            refine rw_puti (x := ((up2 J 0 4 (nI (tkB T n za.2))), B, K)) (v := (nI ((tkB T n za.2) + 1))) S hE hK hP hS 0 (by decide) rfl fk_X7_45 rfl tyX7_ok nmX7 ⟨rfl, by decide +kernel⟩ dX7_term_51 (fun H locs hP hS => ?_)
            have hP : Wp mN E mK ((up2 (up2 J 0 4 (nI (tkB T n za.2))) 0 4 (nI ((tkB T n za.2) + 1))), B, K) H := hP
            rw [up2_up] at hP
            have hP : Wp mN E mK ((up2 J 0 4 (nI (tkB T n za.2 + 1))), B, K) H := hP
            obtain ⟨M, hM⟩ := hg.2 h0a
            refine lv_aload_n hx hb dX7_term_54 rfl (lv_at hl 1 rfl) ?_
            refine cn_wv (ck_V (a := eP E 0) S lk_X7_119 (c_X7_factor_1 l E (up2 J 0 4 (nI (tkB T n za.2 + 1))) B K T n (zA T n za) M hE hsg.1 ((hg.1.1.2 0 13 (by decide)).trans h13) hsg.2.2 hM.1 (by have := hM.2.1; have := hsg.2.1; omega)) ⟨rfl, rfl⟩ ⟨Nat.le_of_ble_eq_true rfl, Nat.le_of_ble_eq_true rfl⟩ bl_w (rc_w hK hP 0 (by decide) rfl rfl) (bw_U hE hK hC hP hS) rfl hl.1 (Nat.le_of_ble_eq_true rfl) ⟨Nat.le_refl _, Nat.le_refl _⟩ dX7_term_55 rfl) hS (fun u38 H locs g39 hP hS => ?_)
            obtain ⟨J40, B40, hg40, rfl⟩ : ∃ oj ob, gP (up2 J 0 4 (nI (tkB T n za.2 + 1))) B T n M (zA T n za) (zFd T n 0 0 1 (zA T n za)).2 (fun am sc => (zFd T n am sc 1 (zA T n za)).1) oj ob ∧ u38 = (oj, ob, K) := g39
            have hP : Wp mN E mK (J40, B40, K) H := hP
            by_cases hz9 : (zFd T n 0 0 1 (zA T n za)).2.1 = 0
            · obtain ⟨M2, hM2⟩ := hg40.2 hz9
              refine lv_aload_n hx hb dX7_term_58 rfl (lv_at hl 1 rfl) ?_
              refine lv_iload_n hx hb dX7_term_59 rfl (lv_at hl 0 rfl) ?_
              refine lv_if_eq (tgt := 67) hx hb dX7_term_60 (by decide) (fun h60 => ?_) (fun h60 => absurd (by decide) h60)
              refine lv_iconst (v := 5) hx hb dX7_term_67 (by decide) ?_
              refine cn_wv (ck_V (a := eP E 0) S lk_X7_116 (c_X7_emit l E J40 B40 K 5 M2 hE (hg40.1.1.1.2.1.trans hz9) hM2.1 (by have := hM.2.1; have := hM2.2.1; have := hsg.2.1; have := hg40.1.1.1.1.2.2; omega)) ⟨rfl, rfl⟩ ⟨Nat.le_of_ble_eq_true rfl, Nat.le_of_ble_eq_true rfl⟩ bl_w (rc_w hK hP 0 (by decide) rfl rfl) (bw_U hE hK hC hP hS) rfl hl.1 (Nat.le_of_ble_eq_true rfl) ⟨Nat.le_refl _, Nat.le_refl _⟩ dX7_term_68 rfl) hS (fun u42 H locs g43 hP hS => ?_)
              obtain rfl : u42 = (J40, (mEm B40 M2 5), K) := g43
              have hP : Wp mN E mK (J40, (mEm B40 M2 5), K) H := hP
              refine lv_goto (tgt := 4) hx hb dX7_term_71 (by decide) ?_
              exact ih _ (fun am sc => cQuo (f am sc) (zFd T n am sc 1 (zA T n za)).1) _ _ (by have h9 := hsg.2.1; have h8 := zGe_Fd (T := T) (n := n) (sz := 0) (sc := 0) 1 (zA T n za); omega) (⟨gB_tr hg.1 (rP_u rP_rf (Or.inl rfl)) (gB_em hg40.1), fun _ => ⟨_, gM_op hM hsg.2.1 hM2 (by decide) (fun am sc h1 h2 => (op_div (hfv am sc h1 h2) (vR_Fd h1 h2 1 _)).1)⟩⟩) (fun am sc h1 h2 => (op_div (hfv am sc h1 h2) (vR_Fd h1 h2 1 _)).2) (fun am sc => (show zTl T n (zFd T n am sc 1) cnt (cQuo (f am sc) (zFd T n am sc 1 (zA T n za)).1, (zFd T n 0 0 1 (zA T n za)).2) = _ from (by rw [zFd_i (a := 0) (b := 0) am sc 1 (zA T n za)]; exact (zTl_d q1 q2).symm.trans (hv am sc)))) _ _ hP hS ls (lv_sub hl [1] rfl)
            · refine lv_aload_n hx hb dX7_term_58 rfl (lv_at hl 1 rfl) ?_
              refine lv_iload_n hx hb dX7_term_59 rfl (lv_at hl 0 rfl) ?_
              refine lv_if_eq (tgt := 67) hx hb dX7_term_60 (by decide) (fun h60 => ?_) (fun h60 => absurd (by decide) h60)
              refine lv_iconst (v := 5) hx hb dX7_term_67 (by decide) ?_
              refine cn_wv (ck_V (a := eP E 0) S lk_X7_116 (c_X7_emit_bad l E J40 B40 K 5 hE (fun g => hz9 (hg40.1.1.1.2.1.symm.trans g))) ⟨rfl, rfl⟩ ⟨Nat.le_of_ble_eq_true rfl, Nat.le_of_ble_eq_true rfl⟩ bl_w (rc_w hK hP 0 (by decide) rfl rfl) (bw_U hE hK hC hP hS) rfl hl.1 (Nat.le_of_ble_eq_true rfl) ⟨Nat.le_refl _, Nat.le_refl _⟩ dX7_term_68 rfl) hS (fun u45 H locs g46 hP hS => ?_)
              obtain rfl : u45 = (J40, B40, K) := g46
              have hP : Wp mN E mK (J40, B40, K) H := hP
              refine lv_goto (tgt := 4) hx hb dX7_term_71 (by decide) ?_
              exact ih _ (fun am sc => cQuo (f am sc) (zFd T n am sc 1 (zA T n za)).1) _ _ (by have h9 := hsg.2.1; have h8 := zGe_Fd (T := T) (n := n) (sz := 0) (sc := 0) 1 (zA T n za); omega) (gP_bad hz9 (gB_tr hg.1 (rP_u rP_rf (Or.inl rfl)) hg40.1)) (fun am sc h1 h2 => (op_div (hfv am sc h1 h2) (vR_Fd h1 h2 1 _)).2) (fun am sc => (show zTl T n (zFd T n am sc 1) cnt (cQuo (f am sc) (zFd T n am sc 1 (zA T n za)).1, (zFd T n 0 0 1 (zA T n za)).2) = _ from (by rw [zFd_i (a := 0) (b := 0) am sc 1 (zA T n za)]; exact (zTl_d q1 q2).symm.trans (hv am sc)))) _ _ hP hS ls (lv_sub hl [1] rfl)
  exact HL 700 _ (fun am sc => (zFd T n am sc 1 z).1) _ _ (by omega) hg4 (fun am sc h1 h2 => vR_Fd h1 h2 1 z) (fun am sc => (congrArg (zTl T n (zFd T n am sc 1) 700) (show ((zFd T n am sc 1 z).1, (zFd T n 0 0 1 z).2) = zFd T n am sc 1 z from by rw [zFd_i am sc 1 z])).trans zTd_e.symm) _ _ hP hS ls (lv_sub hl [0] rfl)

set_option maxHeartbeats 1000000 in
set_option maxRecDepth 100000 in
theorem c_X7_sum_1 (l : Launch) (E : En) (I A : Nat → Nat → Int32) (K : Nat → Nat → Int64) (T : Nat → Int32) (n : Nat) (z : Tz) (N : Nat) (hE : Ev mN E) (hW : mW I A T n z) (h13 : I 0 13 = 3) (h0 : z.1 = 0) (hN : A 3 3 = nI N) (hNb : 2 * N ≤ 3 * z.2) : Met l yX7_sum (wz yX7_sum cX7_sum 2 none) (rmk 10 0 0 224) (va_Pc [.ref (eP E 0)] (Bw mN E mK (I, A, K))) (qWv mN E mK (fun uu => ∃ J B, gP I A T n N z (zSu T n 0 0 1 z).2 (fun am sc => (zSu T n am sc 1 z).1) J B ∧ uu = (J, B, K))) 0 0 (cA mN E) := by
  refine en_ofW RX7 rfl (by decide +kernel) (Nat.le_of_ble_eq_true rfl) ?_
  intro p e s m below meth c ls S hr hlk hnm hl hB
  have hx := S.1
  have hb := S.2.1
  obtain ⟨hK, hC, hP⟩ := hB
  have hS : va_S (cA mN E) s.heap s.heap [] := va_S.rf
  have hl : lv_has ls 2 [(0, .ref (eP E 0))] := hl
  obtain ⟨⟨hn3, hTT, hzn⟩, h5c, h5p, h5e⟩ := id hW
  have hn7 := hTT.1
  have hBn := tkB_le (T := T) hzn
  have hzl : z.2 ≤ 700 := Nat.le_trans hzn hn7
  refine lv_aload_n hx hb dX7_sum_0 rfl (lv_at hl 0 rfl) ?_
  refine cn_wv (ck_V (a := eP E 0) S lk_X7_122 (c_X7_term_1 l E I A K T n z N hE hW h13 h0 hN hNb) ⟨rfl, rfl⟩ ⟨Nat.le_of_ble_eq_true rfl, Nat.le_of_ble_eq_true rfl⟩ bl_w (rc_w hK hP 0 (by decide) rfl rfl) (bw_U hE hK hC hP hS) rfl hl.1 (Nat.le_of_ble_eq_true rfl) ⟨Nat.le_refl _, Nat.le_refl _⟩ dX7_sum_1 rfl) hS (fun u2 H locs g3 hP hS => ?_)
  obtain ⟨J4, B4, hg4, rfl⟩ : ∃ oj ob, gP I A T n N z (zTd T n 0 0 1 z).2 (fun am sc => (zTd T n am sc 1 z).1) oj ob ∧ u2 = (oj, ob, K) := g3
  have hP : Wp mN E mK (J4, B4, K) H := hP
  have HL : ∀ (cnt : Nat) (za : Tz) (f : Int32 → Int32 → Int32) (J B : Nat → Nat → Int32), n - za.2 ≤ cnt → gP I A T n N z za f J B → (∀ am sc, vR am → vR sc → vR (f am sc)) → (∀ am sc, zSl T n (zTd T n am sc 1) cnt (f am sc, za) = zSu T n am sc 1 z) → ∀ (H : Heap) (locs : List Loc), Wp mN E mK (J, B, K) H → va_S (cA mN E) s.heap H locs → ∀ ls : Array Slot, lv_has ls 2 [(0, .ref (eP E 0))] → W p l e (rmk 10 0 0 224) s m ([.ref (eP E 0)] : List Value).toArray below meth c H locs 0 0 (MQ below (qWv mN E mK (fun uu => ∃ J B, gP I A T n N z (zSu T n 0 0 1 z).2 (fun am sc => (zSu T n am sc 1 z).1) J B ∧ uu = (J, B, K))) ([.ref (eP E 0)] : List Value).toArray s 0 0 (cA mN E)) (F0 m 4 ls []) := by
    intro cnt
    induction cnt with
    | zero =>
      intro za f J B hm hg hfv hv H locs hP hS ls hl
      have hWa := hg.1.1.1
      have h5a : J 0 5 = za.1 := hWa.2.1
      have hzan := hWa.1.2.2
      have hTa := hWa.1.2.1
      refine lv_aload_n hx hb dX7_sum_4 rfl (lv_at hl 0 rfl) ?_
      refine cn_si (ck_V (a := eP E 0) S lk_X7_62 (c_X7_isGood l E J B K hE) ⟨rfl, rfl⟩ ⟨Nat.le_of_ble_eq_true rfl, Nat.le_of_ble_eq_true rfl⟩ bl_w (rc_w hK hP 0 (by decide) rfl rfl) (bw_U hE hK hC hP hS) rfl hl.1 (Nat.le_of_ble_eq_true rfl) ⟨Nat.le_refl _, Nat.le_refl _⟩ dX7_sum_5 rfl) (fun r5 g6 => ?_)
      obtain rfl : r5 = bI (decide (J 0 5 = 0)) := g6
      refine lv_if_eq (tgt := 74) hx hb dX7_sum_8 (by decide) (fun h8 => ?_) (fun h8 => ?_)
      · have hnz : ¬ za.1 = 0 := fun g => absurd (decide_eq_true (h5a.trans g)) (by rw [bI_f h8]; decide)
        exact re_wv (x := (J, B, K)) hx hb hr hlk hP hS ⟨J, B, gP_eq (fun am sc => (zSl_x (zS_c hnz) (zS_c hnz) _).symm.trans (hv am sc)) hg, rfl⟩ dX7_sum_74
      · have h0a : za.1 = 0 := h5a.symm.trans (of_decide_eq_true (bI_t h8))
        refine lv_aload_n hx hb dX7_sum_11 rfl (lv_at hl 0 rfl) ?_
        refine cn_wi (ck_V (a := eP E 0) S lk_X7_66 (c_X7_nextW l E J B K T n za hE hWa h0a) ⟨rfl, rfl⟩ ⟨Nat.le_of_ble_eq_true rfl, Nat.le_of_ble_eq_true rfl⟩ bl_w (rc_w hK hP 0 (by decide) rfl rfl) (bw_U hE hK hC hP hS) rfl hl.1 (Nat.le_of_ble_eq_true rfl) ⟨Nat.le_refl _, Nat.le_refl _⟩ dX7_sum_12 rfl) hS (fun r7 u8 H locs g9 hP hS => ?_)
        obtain ⟨rfl, rfl⟩ : r7 = (mBv B n (tkB T n za.2)) ∧ u8 = ((up2 J 0 4 (nI (tkB T n za.2))), B, K) := g9
        have hP : Wp mN E mK ((up2 J 0 4 (nI (tkB T n za.2))), B, K) H := hP
        refine lv_bipush (v := 43) hx hb dX7_sum_15 (by decide) ?_
        refine lv_icmp_eq (tgt := 29) hx hb dX7_sum_17 (by decide) (fun h17 => ?_) (fun h17 => ?_)
        · have q1 : zS T n 43 za = true := (zS_b (ch := 43) hTa h0a (by decide) (by decide)).mp h17
          have hsg := mW_sg (ch := 43) hWa (by decide) q1
          exact absurd (zS_e (ch := 43) (by decide) q1).2 (by have := tkB_ge (T := T) (n := n) (p := za.2); omega)
        · have q1 : zS T n 43 za = false := Bool.eq_false_iff.mpr (fun g => h17 ((zS_b (ch := 43) hTa h0a (by decide) (by decide)).mpr g))
          refine lv_aload_n hx hb dX7_sum_20 rfl (lv_at hl 0 rfl) ?_
          refine cn_wi (ck_V (a := eP E 0) S lk_X7_66 (c_X7_nextW l E (up2 J 0 4 (nI (tkB T n za.2))) B K T n za hE (mW_nx hWa h0a) h0a) ⟨rfl, rfl⟩ ⟨Nat.le_of_ble_eq_true rfl, Nat.le_of_ble_eq_true rfl⟩ bl_w (rc_w hK hP 0 (by decide) rfl rfl) (bw_U hE hK hC hP hS) rfl hl.1 (Nat.le_of_ble_eq_true rfl) ⟨Nat.le_refl _, Nat.le_refl _⟩ dX7_sum_21 rfl) hS (fun r10 u11 H locs g12 hP hS => ?_)
          obtain ⟨rfl, rfl⟩ : r10 = (mBv B n (tkB T n za.2)) ∧ u11 = ((up2 (up2 J 0 4 (nI (tkB T n za.2))) 0 4 (nI (tkB T n za.2))), B, K) := g12
          have hP : Wp mN E mK ((up2 (up2 J 0 4 (nI (tkB T n za.2))) 0 4 (nI (tkB T n za.2))), B, K) H := hP
          rw [up2_up] at hP
          have hP : Wp mN E mK ((up2 J 0 4 (nI (tkB T n za.2))), B, K) H := hP
          refine lv_bipush (v := 45) hx hb dX7_sum_24 (by decide) ?_
          refine lv_icmp_ne (tgt := 74) hx hb dX7_sum_26 (by decide) (fun h26 => ?_) (fun h26 => ?_)
          · have q2 : zS T n 45 za = false := Bool.eq_false_iff.mpr (fun g => h26 ((zS_b (ch := 45) hTa h0a (by decide) (by decide)).mpr g))
            exact re_wv (x := ((up2 J 0 4 (nI (tkB T n za.2))), B, K)) hx hb hr hlk hP hS ⟨_, B, gP_eq (fun am sc => (zSl_x q1 q2 _).symm.trans (hv am sc)) ⟨gB_u hg.1 h0a, hg.2⟩, rfl⟩ dX7_sum_74
          · have q2 : zS T n 45 za = true := (zS_b (ch := 45) hTa h0a (by decide) (by decide)).mp h26
            have hsg := mW_sg (ch := 45) hWa (by decide) q2
            exact absurd (zS_e (ch := 45) (by decide) q2).2 (by have := tkB_ge (T := T) (n := n) (p := za.2); omega)
    | succ cnt ih =>
      intro za f J B hm hg hfv hv H locs hP hS ls hl
      have hWa := hg.1.1.1
      have h5a : J 0 5 = za.1 := hWa.2.1
      have hzan := hWa.1.2.2
      have hTa := hWa.1.2.1
      refine lv_aload_n hx hb dX7_sum_4 rfl (lv_at hl 0 rfl) ?_
      refine cn_si (ck_V (a := eP E 0) S lk_X7_62 (c_X7_isGood l E J B K hE) ⟨rfl, rfl⟩ ⟨Nat.le_of_ble_eq_true rfl, Nat.le_of_ble_eq_true rfl⟩ bl_w (rc_w hK hP 0 (by decide) rfl rfl) (bw_U hE hK hC hP hS) rfl hl.1 (Nat.le_of_ble_eq_true rfl) ⟨Nat.le_refl _, Nat.le_refl _⟩ dX7_sum_5 rfl) (fun r13 g14 => ?_)
      obtain rfl : r13 = bI (decide (J 0 5 = 0)) := g14
      refine lv_if_eq (tgt := 74) hx hb dX7_sum_8 (by decide) (fun h8 => ?_) (fun h8 => ?_)
      · have hnz : ¬ za.1 = 0 := fun g => absurd (decide_eq_true (h5a.trans g)) (by rw [bI_f h8]; decide)
        exact re_wv (x := (J, B, K)) hx hb hr hlk hP hS ⟨J, B, gP_eq (fun am sc => (zSl_x (zS_c hnz) (zS_c hnz) _).symm.trans (hv am sc)) hg, rfl⟩ dX7_sum_74
      · have h0a : za.1 = 0 := h5a.symm.trans (of_decide_eq_true (bI_t h8))
        refine lv_aload_n hx hb dX7_sum_11 rfl (lv_at hl 0 rfl) ?_
        refine cn_wi (ck_V (a := eP E 0) S lk_X7_66 (c_X7_nextW l E J B K T n za hE hWa h0a) ⟨rfl, rfl⟩ ⟨Nat.le_of_ble_eq_true rfl, Nat.le_of_ble_eq_true rfl⟩ bl_w (rc_w hK hP 0 (by decide) rfl rfl) (bw_U hE hK hC hP hS) rfl hl.1 (Nat.le_of_ble_eq_true rfl) ⟨Nat.le_refl _, Nat.le_refl _⟩ dX7_sum_12 rfl) hS (fun r15 u16 H locs g17 hP hS => ?_)
        obtain ⟨rfl, rfl⟩ : r15 = (mBv B n (tkB T n za.2)) ∧ u16 = ((up2 J 0 4 (nI (tkB T n za.2))), B, K) := g17
        have hP : Wp mN E mK ((up2 J 0 4 (nI (tkB T n za.2))), B, K) H := hP
        refine lv_bipush (v := 43) hx hb dX7_sum_15 (by decide) ?_
        refine lv_icmp_eq (tgt := 29) hx hb dX7_sum_17 (by decide) (fun h17 => ?_) (fun h17 => ?_)
        · have q1 : zS T n 43 za = true := (zS_b (ch := 43) hTa h0a (by decide) (by decide)).mp h17
          have hsg := mW_sg (ch := 43) hWa (by decide) q1
          refine lv_aload_n hx hb dX7_sum_29 rfl (lv_at hl 0 rfl) ?_
          refine cn_wi (ck_V (a := eP E 0) S lk_X7_66 (c_X7_nextW l E (up2 J 0 4 (nI (tkB T n za.2))) B K T n za hE (mW_nx hWa h0a) h0a) ⟨rfl, rfl⟩ ⟨Nat.le_of_ble_eq_true rfl, Nat.le_of_ble_eq_true rfl⟩ bl_w (rc_w hK hP 0 (by decide) rfl rfl) (bw_U hE hK hC hP hS) rfl hl.1 (Nat.le_of_ble_eq_true rfl) ⟨Nat.le_refl _, Nat.le_refl _⟩ dX7_sum_30 rfl) hS (fun r18 u19 H locs g20 hP hS => ?_)
          obtain ⟨rfl, rfl⟩ : r18 = (mBv B n (tkB T n za.2)) ∧ u19 = ((up2 (up2 J 0 4 (nI (tkB T n za.2))) 0 4 (nI (tkB T n za.2))), B, K) := g20
          have hP : Wp mN E mK ((up2 (up2 J 0 4 (nI (tkB T n za.2))) 0 4 (nI (tkB T n za.2))), B, K) H := hP
          rw [up2_up] at hP
          have hP : Wp mN E mK ((up2 J 0 4 (nI (tkB T n za.2))), B, K) H := hP
          refine lv_bipush (v := 43) hx hb dX7_sum_33 (by decide) ?_
          refine lv_icmp_ne (tgt := 42) hx hb dX7_sum_35 (by decide) (fun h35 => absurd h35 (fun g => g h17)) (fun h35 => ?_)
          refine lv_iconst (v := 1) hx hb dX7_sum_38 (by decide) ?_
          refine lv_goto (tgt := 43) hx hb dX7_sum_39 (by decide) ?_
          refine lv_istore_n (lv' := [(1, .int 1), (0, .ref (eP E 0))]) hx hb dX7_sum_43 rfl hl (by decide) rfl (fun ls hl => ?_)
          refine lv_aload_n hx hb dX7_sum_44 rfl (lv_at hl 1 rfl) ?_
          refine lv_dup hx hb dX7_sum_45 rfl ?_
          refine rw_geti (x := ((up2 J 0 4 (nI (tkB T n za.2))), B, K)) (v := (nI (tkB T n za.2))) S hK hP 0 (by decide) rfl fk_X7_45 rfl (up2_eq (f := J) (q := 0) (j := 4) (v := (nI (tkB T n za.2)))) dX7_sum_46 ?_
          refine lv_iconst (v := 1) hx hb dX7_sum_49 (by decide) ?_
          refine lv_iadd hx hb dX7_sum_50 ?_
          refine tp_i (y := nI ((tkB T n za.2) + 1)) (nI_add (tkB T n za.2) 1) ?_
          refine rw_puti (x := ((up2 J 0 4 (nI (tkB T n za.2))), B, K)) (v := (nI ((tkB T n za.2) + 1))) S hE hK hP hS 0 (by decide) rfl fk_X7_45 rfl tyX7_ok nmX7 ⟨rfl, by decide +kernel⟩ dX7_sum_51 (fun H locs hP hS => ?_)
          have hP : Wp mN E mK ((up2 (up2 J 0 4 (nI (tkB T n za.2))) 0 4 (nI ((tkB T n za.2) + 1))), B, K) H := hP
          rw [up2_up] at hP
          have hP : Wp mN E mK ((up2 J 0 4 (nI (tkB T n za.2 + 1))), B, K) H := hP
          obtain ⟨M, hM⟩ := hg.2 h0a
          refine lv_aload_n hx hb dX7_sum_54 rfl (lv_at hl 1 rfl) ?_
          refine cn_wv (ck_V (a := eP E 0) S lk_X7_122 (c_X7_term_1 l E (up2 J 0 4 (nI (tkB T n za.2 + 1))) B K T n (zA T n za) M hE hsg.1 ((hg.1.1.2 0 13 (by decide)).trans h13) hsg.2.2 hM.1 (by have := hM.2.1; have := hsg.2.1; omega)) ⟨rfl, rfl⟩ ⟨Nat.le_of_ble_eq_true rfl, Nat.le_of_ble_eq_true rfl⟩ bl_w (rc_w hK hP 0 (by decide) rfl rfl) (bw_U hE hK hC hP hS) rfl hl.1 (Nat.le_of_ble_eq_true rfl) ⟨Nat.le_refl _, Nat.le_refl _⟩ dX7_sum_55 rfl) hS (fun u22 H locs g23 hP hS => ?_)
          obtain ⟨J24, B24, hg24, rfl⟩ : ∃ oj ob, gP (up2 J 0 4 (nI (tkB T n za.2 + 1))) B T n M (zA T n za) (zTd T n 0 0 1 (zA T n za)).2 (fun am sc => (zTd T n am sc 1 (zA T n za)).1) oj ob ∧ u22 = (oj, ob, K) := g23
          have hP : Wp mN E mK (J24, B24, K) H := hP
          by_cases hz9 : (zTd T n 0 0 1 (zA T n za)).2.1 = 0
          · obtain ⟨M2, hM2⟩ := hg24.2 hz9
            refine lv_aload_n hx hb dX7_sum_58 rfl (lv_at hl 1 rfl) ?_
            refine lv_iload_n hx hb dX7_sum_59 rfl (lv_at hl 0 rfl) ?_
            refine lv_if_eq (tgt := 67) hx hb dX7_sum_60 (by decide) (fun h60 => absurd h60 (by decide)) (fun h60 => ?_)
            refine lv_iconst (v := 2) hx hb dX7_sum_63 (by decide) ?_
            refine lv_goto (tgt := 68) hx hb dX7_sum_64 (by decide) ?_
            refine cn_wv (ck_V (a := eP E 0) S lk_X7_116 (c_X7_emit l E J24 B24 K 2 M2 hE (hg24.1.1.1.2.1.trans hz9) hM2.1 (by have := hM.2.1; have := hM2.2.1; have := hsg.2.1; have := hg24.1.1.1.1.2.2; omega)) ⟨rfl, rfl⟩ ⟨Nat.le_of_ble_eq_true rfl, Nat.le_of_ble_eq_true rfl⟩ bl_w (rc_w hK hP 0 (by decide) rfl rfl) (bw_U hE hK hC hP hS) rfl hl.1 (Nat.le_of_ble_eq_true rfl) ⟨Nat.le_refl _, Nat.le_refl _⟩ dX7_sum_68 rfl) hS (fun u26 H locs g27 hP hS => ?_)
            obtain rfl : u26 = (J24, (mEm B24 M2 2), K) := g27
            have hP : Wp mN E mK (J24, (mEm B24 M2 2), K) H := hP
            refine lv_goto (tgt := 4) hx hb dX7_sum_71 (by decide) ?_
            exact ih _ (fun am sc => pLim (f am sc + (zTd T n am sc 1 (zA T n za)).1) (-1000000) 1000000) _ _ (by have h9 := hsg.2.1; have h8 := zGe_Td (T := T) (n := n) (sz := 0) (sc := 0) 1 (zA T n za); omega) (⟨gB_tr hg.1 (rP_u rP_rf (Or.inl rfl)) (gB_em hg24.1), fun _ => ⟨_, gM_op hM hsg.2.1 hM2 (by decide) (fun am sc h1 h2 => (op_add (hfv am sc h1 h2) (vR_Td h1 h2 1 _)).1)⟩⟩) (fun am sc h1 h2 => vR_lim) (fun am sc => (show zSl T n (zTd T n am sc 1) cnt (pLim (f am sc + (zTd T n am sc 1 (zA T n za)).1) (-1000000) 1000000, (zTd T n 0 0 1 (zA T n za)).2) = _ from (by rw [zTd_i (a := 0) (b := 0) am sc 1 (zA T n za)]; exact (zSl_m q1).symm.trans (hv am sc)))) _ _ hP hS ls (lv_sub hl [1] rfl)
          · refine lv_aload_n hx hb dX7_sum_58 rfl (lv_at hl 1 rfl) ?_
            refine lv_iload_n hx hb dX7_sum_59 rfl (lv_at hl 0 rfl) ?_
            refine lv_if_eq (tgt := 67) hx hb dX7_sum_60 (by decide) (fun h60 => absurd h60 (by decide)) (fun h60 => ?_)
            refine lv_iconst (v := 2) hx hb dX7_sum_63 (by decide) ?_
            refine lv_goto (tgt := 68) hx hb dX7_sum_64 (by decide) ?_
            refine cn_wv (ck_V (a := eP E 0) S lk_X7_116 (c_X7_emit_bad l E J24 B24 K 2 hE (fun g => hz9 (hg24.1.1.1.2.1.symm.trans g))) ⟨rfl, rfl⟩ ⟨Nat.le_of_ble_eq_true rfl, Nat.le_of_ble_eq_true rfl⟩ bl_w (rc_w hK hP 0 (by decide) rfl rfl) (bw_U hE hK hC hP hS) rfl hl.1 (Nat.le_of_ble_eq_true rfl) ⟨Nat.le_refl _, Nat.le_refl _⟩ dX7_sum_68 rfl) hS (fun u29 H locs g30 hP hS => ?_)
            obtain rfl : u29 = (J24, B24, K) := g30
            have hP : Wp mN E mK (J24, B24, K) H := hP
            refine lv_goto (tgt := 4) hx hb dX7_sum_71 (by decide) ?_
            exact ih _ (fun am sc => pLim (f am sc + (zTd T n am sc 1 (zA T n za)).1) (-1000000) 1000000) _ _ (by have h9 := hsg.2.1; have h8 := zGe_Td (T := T) (n := n) (sz := 0) (sc := 0) 1 (zA T n za); omega) (gP_bad hz9 (gB_tr hg.1 (rP_u rP_rf (Or.inl rfl)) hg24.1)) (fun am sc h1 h2 => vR_lim) (fun am sc => (show zSl T n (zTd T n am sc 1) cnt (pLim (f am sc + (zTd T n am sc 1 (zA T n za)).1) (-1000000) 1000000, (zTd T n 0 0 1 (zA T n za)).2) = _ from (by rw [zTd_i (a := 0) (b := 0) am sc 1 (zA T n za)]; exact (zSl_m q1).symm.trans (hv am sc)))) _ _ hP hS ls (lv_sub hl [1] rfl)
        · have q1 : zS T n 43 za = false := Bool.eq_false_iff.mpr (fun g => h17 ((zS_b (ch := 43) hTa h0a (by decide) (by decide)).mpr g))
          refine lv_aload_n hx hb dX7_sum_20 rfl (lv_at hl 0 rfl) ?_
          refine cn_wi (ck_V (a := eP E 0) S lk_X7_66 (c_X7_nextW l E (up2 J 0 4 (nI (tkB T n za.2))) B K T n za hE (mW_nx hWa h0a) h0a) ⟨rfl, rfl⟩ ⟨Nat.le_of_ble_eq_true rfl, Nat.le_of_ble_eq_true rfl⟩ bl_w (rc_w hK hP 0 (by decide) rfl rfl) (bw_U hE hK hC hP hS) rfl hl.1 (Nat.le_of_ble_eq_true rfl) ⟨Nat.le_refl _, Nat.le_refl _⟩ dX7_sum_21 rfl) hS (fun r31 u32 H locs g33 hP hS => ?_)
          obtain ⟨rfl, rfl⟩ : r31 = (mBv B n (tkB T n za.2)) ∧ u32 = ((up2 (up2 J 0 4 (nI (tkB T n za.2))) 0 4 (nI (tkB T n za.2))), B, K) := g33
          have hP : Wp mN E mK ((up2 (up2 J 0 4 (nI (tkB T n za.2))) 0 4 (nI (tkB T n za.2))), B, K) H := hP
          rw [up2_up] at hP
          have hP : Wp mN E mK ((up2 J 0 4 (nI (tkB T n za.2))), B, K) H := hP
          refine lv_bipush (v := 45) hx hb dX7_sum_24 (by decide) ?_
          refine lv_icmp_ne (tgt := 74) hx hb dX7_sum_26 (by decide) (fun h26 => ?_) (fun h26 => ?_)
          · have q2 : zS T n 45 za = false := Bool.eq_false_iff.mpr (fun g => h26 ((zS_b (ch := 45) hTa h0a (by decide) (by decide)).mpr g))
            exact re_wv (x := ((up2 J 0 4 (nI (tkB T n za.2))), B, K)) hx hb hr hlk hP hS ⟨_, B, gP_eq (fun am sc => (zSl_x q1 q2 _).symm.trans (hv am sc)) ⟨gB_u hg.1 h0a, hg.2⟩, rfl⟩ dX7_sum_74
          · have q2 : zS T n 45 za = true := (zS_b (ch := 45) hTa h0a (by decide) (by decide)).mp h26
            have hsg := mW_sg (ch := 45) hWa (by decide) q2
            refine lv_aload_n hx hb dX7_sum_29 rfl (lv_at hl 0 rfl) ?_
            refine cn_wi (ck_V (a := eP E 0) S lk_X7_66 (c_X7_nextW l E (up2 J 0 4 (nI (tkB T n za.2))) B K T n za hE (mW_nx hWa h0a) h0a) ⟨rfl, rfl⟩ ⟨Nat.le_of_ble_eq_true rfl, Nat.le_of_ble_eq_true rfl⟩ bl_w (rc_w hK hP 0 (by decide) rfl rfl) (bw_U hE hK hC hP hS) rfl hl.1 (Nat.le_of_ble_eq_true rfl) ⟨Nat.le_refl _, Nat.le_refl _⟩ dX7_sum_30 rfl) hS (fun r34 u35 H locs g36 hP hS => ?_)
            obtain ⟨rfl, rfl⟩ : r34 = (mBv B n (tkB T n za.2)) ∧ u35 = ((up2 (up2 J 0 4 (nI (tkB T n za.2))) 0 4 (nI (tkB T n za.2))), B, K) := g36
            have hP : Wp mN E mK ((up2 (up2 J 0 4 (nI (tkB T n za.2))) 0 4 (nI (tkB T n za.2))), B, K) H := hP
            rw [up2_up] at hP
            have hP : Wp mN E mK ((up2 J 0 4 (nI (tkB T n za.2))), B, K) H := hP
            refine lv_bipush (v := 43) hx hb dX7_sum_33 (by decide) ?_
            refine lv_icmp_ne (tgt := 42) hx hb dX7_sum_35 (by decide) (fun h35 => ?_) (fun h35 => absurd h35 (show ¬ mBv B n (tkB T n za.2) = 43 from h17))
            refine lv_iconst (v := 0) hx hb dX7_sum_42 (by decide) ?_
            refine lv_istore_n (lv' := [(1, .int 0), (0, .ref (eP E 0))]) hx hb dX7_sum_43 rfl hl (by decide) rfl (fun ls hl => ?_)
            refine lv_aload_n hx hb dX7_sum_44 rfl (lv_at hl 1 rfl) ?_
            refine lv_dup hx hb dX7_sum_45 rfl ?_
            refine rw_geti (x := ((up2 J 0 4 (nI (tkB T n za.2))), B, K)) (v := (nI (tkB T n za.2))) S hK hP 0 (by decide) rfl fk_X7_45 rfl (up2_eq (f := J) (q := 0) (j := 4) (v := (nI (tkB T n za.2)))) dX7_sum_46 ?_
            refine lv_iconst (v := 1) hx hb dX7_sum_49 (by decide) ?_
            refine lv_iadd hx hb dX7_sum_50 ?_
            refine tp_i (y := nI ((tkB T n za.2) + 1)) (nI_add (tkB T n za.2) 1) ?_
            refine rw_puti (x := ((up2 J 0 4 (nI (tkB T n za.2))), B, K)) (v := (nI ((tkB T n za.2) + 1))) S hE hK hP hS 0 (by decide) rfl fk_X7_45 rfl tyX7_ok nmX7 ⟨rfl, by decide +kernel⟩ dX7_sum_51 (fun H locs hP hS => ?_)
            have hP : Wp mN E mK ((up2 (up2 J 0 4 (nI (tkB T n za.2))) 0 4 (nI ((tkB T n za.2) + 1))), B, K) H := hP
            rw [up2_up] at hP
            have hP : Wp mN E mK ((up2 J 0 4 (nI (tkB T n za.2 + 1))), B, K) H := hP
            obtain ⟨M, hM⟩ := hg.2 h0a
            refine lv_aload_n hx hb dX7_sum_54 rfl (lv_at hl 1 rfl) ?_
            refine cn_wv (ck_V (a := eP E 0) S lk_X7_122 (c_X7_term_1 l E (up2 J 0 4 (nI (tkB T n za.2 + 1))) B K T n (zA T n za) M hE hsg.1 ((hg.1.1.2 0 13 (by decide)).trans h13) hsg.2.2 hM.1 (by have := hM.2.1; have := hsg.2.1; omega)) ⟨rfl, rfl⟩ ⟨Nat.le_of_ble_eq_true rfl, Nat.le_of_ble_eq_true rfl⟩ bl_w (rc_w hK hP 0 (by decide) rfl rfl) (bw_U hE hK hC hP hS) rfl hl.1 (Nat.le_of_ble_eq_true rfl) ⟨Nat.le_refl _, Nat.le_refl _⟩ dX7_sum_55 rfl) hS (fun u38 H locs g39 hP hS => ?_)
            obtain ⟨J40, B40, hg40, rfl⟩ : ∃ oj ob, gP (up2 J 0 4 (nI (tkB T n za.2 + 1))) B T n M (zA T n za) (zTd T n 0 0 1 (zA T n za)).2 (fun am sc => (zTd T n am sc 1 (zA T n za)).1) oj ob ∧ u38 = (oj, ob, K) := g39
            have hP : Wp mN E mK (J40, B40, K) H := hP
            by_cases hz9 : (zTd T n 0 0 1 (zA T n za)).2.1 = 0
            · obtain ⟨M2, hM2⟩ := hg40.2 hz9
              refine lv_aload_n hx hb dX7_sum_58 rfl (lv_at hl 1 rfl) ?_
              refine lv_iload_n hx hb dX7_sum_59 rfl (lv_at hl 0 rfl) ?_
              refine lv_if_eq (tgt := 67) hx hb dX7_sum_60 (by decide) (fun h60 => ?_) (fun h60 => absurd (by decide) h60)
              refine lv_iconst (v := 3) hx hb dX7_sum_67 (by decide) ?_
              refine cn_wv (ck_V (a := eP E 0) S lk_X7_116 (c_X7_emit l E J40 B40 K 3 M2 hE (hg40.1.1.1.2.1.trans hz9) hM2.1 (by have := hM.2.1; have := hM2.2.1; have := hsg.2.1; have := hg40.1.1.1.1.2.2; omega)) ⟨rfl, rfl⟩ ⟨Nat.le_of_ble_eq_true rfl, Nat.le_of_ble_eq_true rfl⟩ bl_w (rc_w hK hP 0 (by decide) rfl rfl) (bw_U hE hK hC hP hS) rfl hl.1 (Nat.le_of_ble_eq_true rfl) ⟨Nat.le_refl _, Nat.le_refl _⟩ dX7_sum_68 rfl) hS (fun u42 H locs g43 hP hS => ?_)
              obtain rfl : u42 = (J40, (mEm B40 M2 3), K) := g43
              have hP : Wp mN E mK (J40, (mEm B40 M2 3), K) H := hP
              refine lv_goto (tgt := 4) hx hb dX7_sum_71 (by decide) ?_
              exact ih _ (fun am sc => pLim (f am sc - (zTd T n am sc 1 (zA T n za)).1) (-1000000) 1000000) _ _ (by have h9 := hsg.2.1; have h8 := zGe_Td (T := T) (n := n) (sz := 0) (sc := 0) 1 (zA T n za); omega) (⟨gB_tr hg.1 (rP_u rP_rf (Or.inl rfl)) (gB_em hg40.1), fun _ => ⟨_, gM_op hM hsg.2.1 hM2 (by decide) (fun am sc h1 h2 => (op_sub (hfv am sc h1 h2) (vR_Td h1 h2 1 _)).1)⟩⟩) (fun am sc h1 h2 => vR_lim) (fun am sc => (show zSl T n (zTd T n am sc 1) cnt (pLim (f am sc - (zTd T n am sc 1 (zA T n za)).1) (-1000000) 1000000, (zTd T n 0 0 1 (zA T n za)).2) = _ from (by rw [zTd_i (a := 0) (b := 0) am sc 1 (zA T n za)]; exact (zSl_d q1 q2).symm.trans (hv am sc)))) _ _ hP hS ls (lv_sub hl [1] rfl)
            · refine lv_aload_n hx hb dX7_sum_58 rfl (lv_at hl 1 rfl) ?_
              refine lv_iload_n hx hb dX7_sum_59 rfl (lv_at hl 0 rfl) ?_
              refine lv_if_eq (tgt := 67) hx hb dX7_sum_60 (by decide) (fun h60 => ?_) (fun h60 => absurd (by decide) h60)
              refine lv_iconst (v := 3) hx hb dX7_sum_67 (by decide) ?_
              refine cn_wv (ck_V (a := eP E 0) S lk_X7_116 (c_X7_emit_bad l E J40 B40 K 3 hE (fun g => hz9 (hg40.1.1.1.2.1.symm.trans g))) ⟨rfl, rfl⟩ ⟨Nat.le_of_ble_eq_true rfl, Nat.le_of_ble_eq_true rfl⟩ bl_w (rc_w hK hP 0 (by decide) rfl rfl) (bw_U hE hK hC hP hS) rfl hl.1 (Nat.le_of_ble_eq_true rfl) ⟨Nat.le_refl _, Nat.le_refl _⟩ dX7_sum_68 rfl) hS (fun u45 H locs g46 hP hS => ?_)
              obtain rfl : u45 = (J40, B40, K) := g46
              have hP : Wp mN E mK (J40, B40, K) H := hP
              refine lv_goto (tgt := 4) hx hb dX7_sum_71 (by decide) ?_
              exact ih _ (fun am sc => pLim (f am sc - (zTd T n am sc 1 (zA T n za)).1) (-1000000) 1000000) _ _ (by have h9 := hsg.2.1; have h8 := zGe_Td (T := T) (n := n) (sz := 0) (sc := 0) 1 (zA T n za); omega) (gP_bad hz9 (gB_tr hg.1 (rP_u rP_rf (Or.inl rfl)) hg40.1)) (fun am sc h1 h2 => vR_lim) (fun am sc => (show zSl T n (zTd T n am sc 1) cnt (pLim (f am sc - (zTd T n am sc 1 (zA T n za)).1) (-1000000) 1000000, (zTd T n 0 0 1 (zA T n za)).2) = _ from (by rw [zTd_i (a := 0) (b := 0) am sc 1 (zA T n za)]; exact (zSl_d q1 q2).symm.trans (hv am sc)))) _ _ hP hS ls (lv_sub hl [1] rfl)
  exact HL 700 _ (fun am sc => (zTd T n am sc 1 z).1) _ _ (by omega) hg4 (fun am sc h1 h2 => vR_Td h1 h2 1 z) (fun am sc => (congrArg (zSl T n (zTd T n am sc 1) 700) (show ((zTd T n am sc 1 z).1, (zTd T n 0 0 1 z).2) = zTd T n am sc 1 z from by rw [zTd_i am sc 1 z])).trans zSu_e.symm) _ _ hP hS ls (lv_sub hl [0] rfl)

set_option maxHeartbeats 1000000 in
set_option maxRecDepth 100000 in
theorem c_X7_factor_2 (l : Launch) (E : En) (I A : Nat → Nat → Int32) (K : Nat → Nat → Int64) (T : Nat → Int32) (n : Nat) (z : Tz) (N : Nat) (hE : Ev mN E) (hW : mW I A T n z) (h13 : I 0 13 = 2) (h0 : z.1 = 0) (hN : A 3 3 = nI N) (hNb : 2 * N ≤ 3 * z.2) : Met l yX7_factor (wz yX7_factor cX7_factor 4 none) (rmk 11 0 0 245) (va_Pc [.ref (eP E 0)] (Bw mN E mK (I, A, K))) (qWv mN E mK (fun uu => ∃ J B, gP I A T n N z (zFd T n 0 0 2 z).2 (fun am sc => (zFd T n am sc 2 z).1) J B ∧ uu = (J, B, K))) 0 0 (cA mN E) := by
  refine en_ofW RX7 rfl (by decide +kernel) (Nat.le_of_ble_eq_true rfl) ?_
  intro p e s m below meth c ls S hr hlk hnm hl hB
  have hx := S.1
  have hb := S.2.1
  obtain ⟨hK, hC, hP⟩ := hB
  have hS : va_S (cA mN E) s.heap s.heap [] := va_S.rf
  have hl : lv_has ls 4 [(0, .ref (eP E 0))] := hl
  obtain ⟨⟨hn3, hTT, hzn⟩, h5c, h5p, h5e⟩ := id hW
  have hn7 := hTT.1
  have hBn := tkB_le (T := T) hzn
  have hzl : z.2 ≤ 700 := Nat.le_trans hzn hn7
  refine lv_aload_n hx hb dX7_factor_0 rfl (lv_at hl 0 rfl) ?_
  refine cn_si (ck_V (a := eP E 0) S lk_X7_62 (c_X7_isGood l E I A K hE) ⟨rfl, rfl⟩ ⟨Nat.le_of_ble_eq_true rfl, Nat.le_of_ble_eq_true rfl⟩ bl_w (rc_w hK hP 0 (by decide) rfl rfl) (bw_U hE hK hC hP hS) rfl hl.1 (Nat.le_of_ble_eq_true rfl) ⟨Nat.le_refl _, Nat.le_refl _⟩ dX7_factor_1 rfl) (fun r1 g2 => ?_)
  obtain rfl : r1 = bI (decide (I 0 5 = 0)) := g2
  refine lv_if_ne (tgt := 8) hx hb dX7_factor_4 (by decide) (fun h4 => ?_) (fun h4 => absurd h4 (show ¬ bI (decide (I 0 5 = 0)) = 0 from by rw [decide_eq_true (h5c.trans h0)]; decide))
  refine lv_aload_n hx hb dX7_factor_8 rfl (lv_at hl 0 rfl) ?_
  refine cn_wi (ck_V (a := eP E 0) S lk_X7_66 (c_X7_nextW l E I A K T n z hE hW h0) ⟨rfl, rfl⟩ ⟨Nat.le_of_ble_eq_true rfl, Nat.le_of_ble_eq_true rfl⟩ bl_w (rc_w hK hP 0 (by decide) rfl rfl) (bw_U hE hK hC hP hS) rfl hl.1 (Nat.le_of_ble_eq_true rfl) ⟨Nat.le_refl _, Nat.le_refl _⟩ dX7_factor_9 rfl) hS (fun r3 u4 H locs g5 hP hS => ?_)
  obtain ⟨rfl, rfl⟩ : r3 = (mBv A n (tkB T n z.2)) ∧ u4 = ((up2 I 0 4 (nI (tkB T n z.2))), A, K) := g5
  have hP : Wp mN E mK ((up2 I 0 4 (nI (tkB T n z.2))), A, K) H := hP
  refine lv_istore_n (lv' := [(1, .int (mBv A n (tkB T n z.2))), (0, .ref (eP E 0))]) hx hb dX7_factor_12 rfl hl (by decide) rfl (fun ls hl => ?_)
  refine lv_iload_n hx hb dX7_factor_13 rfl (lv_at hl 0 rfl) ?_
  refine lv_bipush (v := 40) hx hb dX7_factor_14 (by decide) ?_
  refine lv_icmp_ne (tgt := 78) hx hb dX7_factor_16 (by decide) (fun h16 => ?_) (fun h16 => ?_)
  · have q4 : zS T n 40 z = false := Bool.eq_false_iff.mpr (fun g => h16 ((zS_b (ch := 40) hTT h0 (by decide) (by decide)).mpr g))
    refine lv_iload_n hx hb dX7_factor_78 rfl (lv_at hl 0 rfl) ?_
    refine cn_si (ck_S S lk_X7_83 (c_X7_isDigit l (mBv A n (tkB T n z.2))) ⟨rfl, rfl⟩ ⟨Nat.le_of_ble_eq_true rfl, Nat.le_of_ble_eq_true rfl⟩ bl_T t_U rfl hl.1 (Nat.le_of_ble_eq_true rfl) ⟨Nat.le_refl _, Nat.le_refl _⟩ dX7_factor_79 rfl) (fun r6 g7 => ?_)
    obtain rfl : r6 = rIn (mBv A n (tkB T n z.2)) 48 57 := g7
    refine lv_if_eq (tgt := 89) hx hb dX7_factor_82 (by decide) (fun h82 => ?_) (fun h82 => ?_)
    · have q1 : zN T n z = false := (zN_d hTT h0).mp h82
      refine lv_aload_n hx hb dX7_factor_89 rfl (lv_at hl 1 rfl) ?_
      refine va_ldcS (q := eS E 16) (tx := "size") hx hb S.2.2.2.1 (tr_16 hC.1.2.1) dX7_factor_90 ?_
      refine cn_wi (ck_V (a := eP E 0) S lk_X7_107 (c_X7_takeWord l E (up2 I 0 4 (nI (tkB T n z.2))) A K T n z 16 hE (mW_nx hW h0) (by decide)) ⟨rfl, rfl⟩ ⟨Nat.le_of_ble_eq_true rfl, Nat.le_of_ble_eq_true rfl⟩ bl_w (rc_w hK hP 0 (by decide) rfl rfl) (bw_U hE hK hC hP hS) rfl hl.1 (Nat.le_of_ble_eq_true rfl) ⟨Nat.le_refl _, Nat.le_refl _⟩ dX7_factor_92 rfl) hS (fun r8 u9 H locs g10 hP hS => ?_)
      obtain ⟨rfl, J11, hW11, hp11, rfl⟩ : r8 = bI (zW T n (tw 16) z) ∧ (∃ oj, mW oj A T n (zPW T n (tw 16) z) ∧ rP (up2 I 0 4 (nI (tkB T n z.2))) oj ∧ u9 = (oj, A, K)) := g10
      have hP : Wp mN E mK (J11, A, K) H := hP
      refine lv_if_eq (tgt := 102) hx hb dX7_factor_95 (by decide) (fun h95 => ?_) (fun h95 => ?_)
      · have q2 : zW T n (tw 7) z = false := by rw [← tw_16]; exact bI_f h95
        rw [tw_16, zPW_f q2] at hW11
        have hr2 := rP_tr (rP_u rP_rf (Or.inl rfl)) hp11
        refine lv_aload_n hx hb dX7_factor_102 rfl (lv_at hl 1 rfl) ?_
        refine va_ldcS (q := eS E 9) (tx := "scheme") hx hb S.2.2.2.1 (tr_9 hC.1.2.1) dX7_factor_103 ?_
        refine cn_wi (ck_V (a := eP E 0) S lk_X7_107 (c_X7_takeWord l E J11 A K T n z 9 hE hW11 (by decide)) ⟨rfl, rfl⟩ ⟨Nat.le_of_ble_eq_true rfl, Nat.le_of_ble_eq_true rfl⟩ bl_w (rc_w hK hP 0 (by decide) rfl rfl) (bw_U hE hK hC hP hS) rfl hl.1 (Nat.le_of_ble_eq_true rfl) ⟨Nat.le_refl _, Nat.le_refl _⟩ dX7_factor_105 rfl) hS (fun r12 u13 H locs g14 hP hS => ?_)
        obtain ⟨rfl, J15, hW15, hp15, rfl⟩ : r12 = bI (zW T n (tw 9) z) ∧ (∃ oj, mW oj A T n (zPW T n (tw 9) z) ∧ rP J11 oj ∧ u13 = (oj, A, K)) := g14
        have hP : Wp mN E mK (J15, A, K) H := hP
        refine lv_if_eq (tgt := 115) hx hb dX7_factor_108 (by decide) (fun h108 => ?_) (fun h108 => ?_)
        · have q3 : zW T n (tw 8) z = false := by rw [← tw_9]; exact bI_f h108
          rw [tw_9, zPW_f q3] at hW15
          have hr3 := rP_tr hr2 hp15
          refine lv_iconst (v := (-1)) hx hb dX7_factor_115 (by decide) ?_
          refine lv_istore_n (lv' := [(2, .int (-1)), (1, .int (mBv A n (tkB T n z.2))), (0, .ref (eP E 0))]) hx hb dX7_factor_116 rfl hl (by decide) rfl (fun ls hl => ?_)
          refine lv_iload_n hx hb dX7_factor_117 rfl (lv_at hl 0 rfl) ?_
          refine lv_if_ge (tgt := 132) hx hb dX7_factor_118 (by decide) (fun h118 => absurd h118 (by decide)) (fun h118 => ?_)
          refine lv_aload_n hx hb dX7_factor_121 rfl (lv_at hl 2 rfl) ?_
          refine lv_iconst (v := 0) hx hb dX7_factor_122 (by decide) ?_
          refine lv_sipush (v := 9999) hx hb dX7_factor_123 (by decide) ?_
          refine cn_wi (ck_V (a := eP E 0) S lk_X7_113 (c_X7_number l E J15 A K T n z 0 9999 hE hW15) ⟨rfl, rfl⟩ ⟨Nat.le_of_ble_eq_true rfl, Nat.le_of_ble_eq_true rfl⟩ bl_w (rc_w hK hP 0 (by decide) rfl rfl) (bw_U hE hK hC hP hS) rfl hl.1 (Nat.le_of_ble_eq_true rfl) ⟨Nat.le_refl _, Nat.le_refl _⟩ dX7_factor_126 rfl) hS (fun r16 u17 H locs g18 hP hS => ?_)
          obtain ⟨J19, hW19, hp19, hn19, hv19, rfl⟩ : ∃ oj, mW oj A T n (zNz T n 0 9999 z) ∧ rP J15 oj ∧ (zN T n z = true → oj 0 12 = nI (tkB T n z.2)) ∧ ((zNz T n 0 9999 z).1 = 0 → r16 = zNv T n 0 9999 z) ∧ u17 = (oj, A, K) := g18
          have hP : Wp mN E mK (J19, A, K) H := hP
          have hrN := rP_tr hr3 hp19
          by_cases hz9 : (zNz T n 0 9999 z).1 = 0
          · refine tp_i (y := zNv T n 0 9999 z) (hv19 hz9) ?_
            refine lv_goto (tgt := 133) hx hb dX7_factor_129 (by decide) ?_
            refine lv_istore_n (lv' := [(3, .int (zNv T n 0 9999 z)), (2, .int (-1)), (1, .int (mBv A n (tkB T n z.2))), (0, .ref (eP E 0))]) hx hb dX7_factor_133 rfl hl (by decide) rfl (fun ls hl => ?_)
            refine lv_aload_n hx hb dX7_factor_134 rfl (lv_at hl 3 rfl) ?_
            refine lv_iload_n hx hb dX7_factor_135 rfl (lv_at hl 1 rfl) ?_
            refine lv_if_ge (tgt := 143) hx hb dX7_factor_136 (by decide) (fun h136 => absurd h136 (by decide)) (fun h136 => ?_)
            refine lv_iconst (v := 0) hx hb dX7_factor_139 (by decide) ?_
            refine lv_goto (tgt := 144) hx hb dX7_factor_140 (by decide) ?_
            refine cn_wv (ck_V (a := eP E 0) S lk_X7_116 (c_X7_emit l E J19 A K 0 N hE (hW19.2.1.trans hz9) hN (by omega)) ⟨rfl, rfl⟩ ⟨Nat.le_of_ble_eq_true rfl, Nat.le_of_ble_eq_true rfl⟩ bl_w (rc_w hK hP 0 (by decide) rfl rfl) (bw_U hE hK hC hP hS) rfl hl.1 (Nat.le_of_ble_eq_true rfl) ⟨Nat.le_refl _, Nat.le_refl _⟩ dX7_factor_144 rfl) hS (fun u21 H locs g22 hP hS => ?_)
            obtain rfl : u21 = (J19, (mEm A N 0), K) := g22
            have hP : Wp mN E mK (J19, (mEm A N 0), K) H := hP
            refine lv_aload_n hx hb dX7_factor_147 rfl (lv_at hl 3 rfl) ?_
            refine lv_iload_n hx hb dX7_factor_148 rfl (lv_at hl 0 rfl) ?_
            refine cn_wv (ck_V (a := eP E 0) S lk_X7_116 (c_X7_emit l E J19 (mEm A N 0) K (zNv T n 0 9999 z) (N + 1) hE (hW19.2.1.trans hz9) mEm_3 (by omega)) ⟨rfl, rfl⟩ ⟨Nat.le_of_ble_eq_true rfl, Nat.le_of_ble_eq_true rfl⟩ bl_w (rc_w hK hP 0 (by decide) rfl rfl) (bw_U hE hK hC hP hS) rfl hl.1 (Nat.le_of_ble_eq_true rfl) ⟨Nat.le_refl _, Nat.le_refl _⟩ dX7_factor_149 rfl) hS (fun u24 H locs g25 hP hS => ?_)
            obtain rfl : u24 = (J19, (mEm (mEm A N 0) (N + 1) (zNv T n 0 9999 z)), K) := g25
            have hP : Wp mN E mK (J19, (mEm (mEm A N 0) (N + 1) (zNv T n 0 9999 z)), K) H := hP
            exact re_wv (x := (J19, (mEm (mEm A N 0) (N + 1) (zNv T n 0 9999 z)), K)) hx hb hr hlk hP hS (absurd hz9 (by rw [zNz_f q1]; exact fun g => absurd ((if_pos h0).symm.trans g : (-2 : Int32) = 0) (by decide))) dX7_factor_152
          · refine lv_goto (tgt := 133) hx hb dX7_factor_129 (by decide) ?_
            refine lv_istore_n (lv' := [(3, .int r16), (2, .int (-1)), (1, .int (mBv A n (tkB T n z.2))), (0, .ref (eP E 0))]) hx hb dX7_factor_133 rfl hl (by decide) rfl (fun ls hl => ?_)
            refine lv_aload_n hx hb dX7_factor_134 rfl (lv_at hl 3 rfl) ?_
            refine lv_iload_n hx hb dX7_factor_135 rfl (lv_at hl 1 rfl) ?_
            refine lv_if_ge (tgt := 143) hx hb dX7_factor_136 (by decide) (fun h136 => absurd h136 (by decide)) (fun h136 => ?_)
            refine lv_iconst (v := 0) hx hb dX7_factor_139 (by decide) ?_
            refine lv_goto (tgt := 144) hx hb dX7_factor_140 (by decide) ?_
            refine cn_wv (ck_V (a := eP E 0) S lk_X7_116 (c_X7_emit_bad l E J19 A K 0 hE (fun g => hz9 (hW19.2.1.symm.trans g))) ⟨rfl, rfl⟩ ⟨Nat.le_of_ble_eq_true rfl, Nat.le_of_ble_eq_true rfl⟩ bl_w (rc_w hK hP 0 (by decide) rfl rfl) (bw_U hE hK hC hP hS) rfl hl.1 (Nat.le_of_ble_eq_true rfl) ⟨Nat.le_refl _, Nat.le_refl _⟩ dX7_factor_144 rfl) hS (fun u27 H locs g28 hP hS => ?_)
            obtain rfl : u27 = (J19, A, K) := g28
            have hP : Wp mN E mK (J19, A, K) H := hP
            refine lv_aload_n hx hb dX7_factor_147 rfl (lv_at hl 3 rfl) ?_
            refine lv_iload_n hx hb dX7_factor_148 rfl (lv_at hl 0 rfl) ?_
            refine cn_wv (ck_V (a := eP E 0) S lk_X7_116 (c_X7_emit_bad l E J19 A K r16 hE (fun g => hz9 (hW19.2.1.symm.trans g))) ⟨rfl, rfl⟩ ⟨Nat.le_of_ble_eq_true rfl, Nat.le_of_ble_eq_true rfl⟩ bl_w (rc_w hK hP 0 (by decide) rfl rfl) (bw_U hE hK hC hP hS) rfl hl.1 (Nat.le_of_ble_eq_true rfl) ⟨Nat.le_refl _, Nat.le_refl _⟩ dX7_factor_149 rfl) hS (fun u30 H locs g31 hP hS => ?_)
            obtain rfl : u30 = (J19, A, K) := g31
            have hP : Wp mN E mK (J19, A, K) H := hP
            exact re_wv (x := (J19, A, K)) hx hb hr hlk hP hS (by rw [show (zFd T n 0 0 2 z).2 = zF (-2) z from congrArg Prod.snd ((zFd_s (D := 1)).trans (zFc_4 q1 q2 q3 q4)), ← zNz_f (lo := 0) (hi := 9999) q1]; exact ⟨J19, A, gP_bad hz9 (gB_rf hW19 hrN), rfl⟩) dX7_factor_152
        · have q3 : zW T n (tw 8) z = true := by rw [← tw_9]; exact bI_t h108
          rw [tw_9, zPW_t q3] at hW15
          have hr3 := rP_tr hr2 hp15
          refine lv_iconst (v := 1) hx hb dX7_factor_111 (by decide) ?_
          refine lv_goto (tgt := 116) hx hb dX7_factor_112 (by decide) ?_
          refine lv_istore_n (lv' := [(2, .int 1), (1, .int (mBv A n (tkB T n z.2))), (0, .ref (eP E 0))]) hx hb dX7_factor_116 rfl hl (by decide) rfl (fun ls hl => ?_)
          refine lv_iload_n hx hb dX7_factor_117 rfl (lv_at hl 0 rfl) ?_
          refine lv_if_ge (tgt := 132) hx hb dX7_factor_118 (by decide) (fun h118 => ?_) (fun h118 => absurd (by decide) h118)
          refine lv_iload_n hx hb dX7_factor_132 rfl (lv_at hl 0 rfl) ?_
          refine lv_istore_n (lv' := [(3, .int 1), (2, .int 1), (1, .int (mBv A n (tkB T n z.2))), (0, .ref (eP E 0))]) hx hb dX7_factor_133 rfl hl (by decide) rfl (fun ls hl => ?_)
          refine lv_aload_n hx hb dX7_factor_134 rfl (lv_at hl 3 rfl) ?_
          refine lv_iload_n hx hb dX7_factor_135 rfl (lv_at hl 1 rfl) ?_
          refine lv_if_ge (tgt := 143) hx hb dX7_factor_136 (by decide) (fun h136 => ?_) (fun h136 => absurd (by decide) h136)
          refine lv_iconst (v := 1) hx hb dX7_factor_143 (by decide) ?_
          refine cn_wv (ck_V (a := eP E 0) S lk_X7_116 (c_X7_emit l E J15 A K 1 N hE (hW15.2.1.trans h0) hN (by omega)) ⟨rfl, rfl⟩ ⟨Nat.le_of_ble_eq_true rfl, Nat.le_of_ble_eq_true rfl⟩ bl_w (rc_w hK hP 0 (by decide) rfl rfl) (bw_U hE hK hC hP hS) rfl hl.1 (Nat.le_of_ble_eq_true rfl) ⟨Nat.le_refl _, Nat.le_refl _⟩ dX7_factor_144 rfl) hS (fun u33 H locs g34 hP hS => ?_)
          obtain rfl : u33 = (J15, (mEm A N 1), K) := g34
          have hP : Wp mN E mK (J15, (mEm A N 1), K) H := hP
          refine lv_aload_n hx hb dX7_factor_147 rfl (lv_at hl 3 rfl) ?_
          refine lv_iload_n hx hb dX7_factor_148 rfl (lv_at hl 0 rfl) ?_
          refine cn_wv (ck_V (a := eP E 0) S lk_X7_116 (c_X7_emit l E J15 (mEm A N 1) K 1 (N + 1) hE (hW15.2.1.trans h0) mEm_3 (by omega)) ⟨rfl, rfl⟩ ⟨Nat.le_of_ble_eq_true rfl, Nat.le_of_ble_eq_true rfl⟩ bl_w (rc_w hK hP 0 (by decide) rfl rfl) (bw_U hE hK hC hP hS) rfl hl.1 (Nat.le_of_ble_eq_true rfl) ⟨Nat.le_refl _, Nat.le_refl _⟩ dX7_factor_149 rfl) hS (fun u36 H locs g37 hP hS => ?_)
          obtain rfl : u36 = (J15, (mEm (mEm A N 1) (N + 1) 1), K) := g37
          have hP : Wp mN E mK (J15, (mEm (mEm A N 1) (N + 1) 1), K) H := hP
          exact re_wv (x := (J15, (mEm (mEm A N 1) (N + 1) 1), K)) hx hb hr hlk hP hS (by rw [(show (zFd T n 0 0 2 z).2 = zA T n z from congrArg Prod.snd ((zFd_s (D := 1)).trans (zFc_3 q1 q2 q3)))]; exact ⟨J15, (mEm (mEm A N 1) (N + 1) 1), ⟨gB_em (gB_em (gB_rf hW15 hr3)), fun _ => ⟨N + 2, gM_f (fun am sc => (show (zFd T n am sc 2 z).1 = _ from congrArg Prod.fst ((zFd_s (D := 1)).trans (zFc_3 q1 q2 q3))).symm) (gM_at hN (by show z.2 + 1 ≤ (if z.1 = 0 then tkE T n z.2 else z.2); rw [if_pos h0]; exact tkE_gt (by rw [(of_decide_eq_true q3).2.1]; decide)) (fun code g1 g2 => sg_v1 g1 g2))⟩⟩, rfl⟩) dX7_factor_152
      · have q2 : zW T n (tw 7) z = true := by rw [← tw_16]; exact bI_t h95
        rw [tw_16, zPW_t q2] at hW11
        have hr2 := rP_tr (rP_u rP_rf (Or.inl rfl)) hp11
        refine lv_iconst (v := 0) hx hb dX7_factor_98 (by decide) ?_
        refine lv_goto (tgt := 116) hx hb dX7_factor_99 (by decide) ?_
        refine lv_istore_n (lv' := [(2, .int 0), (1, .int (mBv A n (tkB T n z.2))), (0, .ref (eP E 0))]) hx hb dX7_factor_116 rfl hl (by decide) rfl (fun ls hl => ?_)
        refine lv_iload_n hx hb dX7_factor_117 rfl (lv_at hl 0 rfl) ?_
        refine lv_if_ge (tgt := 132) hx hb dX7_factor_118 (by decide) (fun h118 => ?_) (fun h118 => absurd (by decide) h118)
        refine lv_iload_n hx hb dX7_factor_132 rfl (lv_at hl 0 rfl) ?_
        refine lv_istore_n (lv' := [(3, .int 0), (2, .int 0), (1, .int (mBv A n (tkB T n z.2))), (0, .ref (eP E 0))]) hx hb dX7_factor_133 rfl hl (by decide) rfl (fun ls hl => ?_)
        refine lv_aload_n hx hb dX7_factor_134 rfl (lv_at hl 3 rfl) ?_
        refine lv_iload_n hx hb dX7_factor_135 rfl (lv_at hl 1 rfl) ?_
        refine lv_if_ge (tgt := 143) hx hb dX7_factor_136 (by decide) (fun h136 => ?_) (fun h136 => absurd (by decide) h136)
        refine lv_iconst (v := 1) hx hb dX7_factor_143 (by decide) ?_
        refine cn_wv (ck_V (a := eP E 0) S lk_X7_116 (c_X7_emit l E J11 A K 1 N hE (hW11.2.1.trans h0) hN (by omega)) ⟨rfl, rfl⟩ ⟨Nat.le_of_ble_eq_true rfl, Nat.le_of_ble_eq_true rfl⟩ bl_w (rc_w hK hP 0 (by decide) rfl rfl) (bw_U hE hK hC hP hS) rfl hl.1 (Nat.le_of_ble_eq_true rfl) ⟨Nat.le_refl _, Nat.le_refl _⟩ dX7_factor_144 rfl) hS (fun u39 H locs g40 hP hS => ?_)
        obtain rfl : u39 = (J11, (mEm A N 1), K) := g40
        have hP : Wp mN E mK (J11, (mEm A N 1), K) H := hP
        refine lv_aload_n hx hb dX7_factor_147 rfl (lv_at hl 3 rfl) ?_
        refine lv_iload_n hx hb dX7_factor_148 rfl (lv_at hl 0 rfl) ?_
        refine cn_wv (ck_V (a := eP E 0) S lk_X7_116 (c_X7_emit l E J11 (mEm A N 1) K 0 (N + 1) hE (hW11.2.1.trans h0) mEm_3 (by omega)) ⟨rfl, rfl⟩ ⟨Nat.le_of_ble_eq_true rfl, Nat.le_of_ble_eq_true rfl⟩ bl_w (rc_w hK hP 0 (by decide) rfl rfl) (bw_U hE hK hC hP hS) rfl hl.1 (Nat.le_of_ble_eq_true rfl) ⟨Nat.le_refl _, Nat.le_refl _⟩ dX7_factor_149 rfl) hS (fun u42 H locs g43 hP hS => ?_)
        obtain rfl : u42 = (J11, (mEm (mEm A N 1) (N + 1) 0), K) := g43
        have hP : Wp mN E mK (J11, (mEm (mEm A N 1) (N + 1) 0), K) H := hP
        exact re_wv (x := (J11, (mEm (mEm A N 1) (N + 1) 0), K)) hx hb hr hlk hP hS (by rw [(show (zFd T n 0 0 2 z).2 = zA T n z from congrArg Prod.snd ((zFd_s (D := 1)).trans (zFc_2 q1 q2)))]; exact ⟨J11, (mEm (mEm A N 1) (N + 1) 0), ⟨gB_em (gB_em (gB_rf hW11 hr2)), fun _ => ⟨N + 2, gM_f (fun am sc => (show (zFd T n am sc 2 z).1 = _ from congrArg Prod.fst ((zFd_s (D := 1)).trans (zFc_2 q1 q2))).symm) (gM_at hN (by show z.2 + 1 ≤ (if z.1 = 0 then tkE T n z.2 else z.2); rw [if_pos h0]; exact tkE_gt (by rw [(of_decide_eq_true q2).2.1]; decide)) (fun code g1 g2 => sg_v0 g1 g2))⟩⟩, rfl⟩) dX7_factor_152
    · have q1 : zN T n z = true := (Bool.eq_false_or_eq_true (zN T n z)).elim id (fun g => absurd ((zN_d hTT h0).mpr g) h82)
      refine lv_iconst (v := (-1)) hx hb dX7_factor_85 (by decide) ?_
      refine lv_goto (tgt := 116) hx hb dX7_factor_86 (by decide) ?_
      refine lv_istore_n (lv' := [(2, .int (-1)), (1, .int (mBv A n (tkB T n z.2))), (0, .ref (eP E 0))]) hx hb dX7_factor_116 rfl hl (by decide) rfl (fun ls hl => ?_)
      refine lv_iload_n hx hb dX7_factor_117 rfl (lv_at hl 0 rfl) ?_
      refine lv_if_ge (tgt := 132) hx hb dX7_factor_118 (by decide) (fun h118 => absurd h118 (by decide)) (fun h118 => ?_)
      refine lv_aload_n hx hb dX7_factor_121 rfl (lv_at hl 2 rfl) ?_
      refine lv_iconst (v := 0) hx hb dX7_factor_122 (by decide) ?_
      refine lv_sipush (v := 9999) hx hb dX7_factor_123 (by decide) ?_
      refine cn_wi (ck_V (a := eP E 0) S lk_X7_113 (c_X7_number l E (up2 I 0 4 (nI (tkB T n z.2))) A K T n z 0 9999 hE (mW_nx hW h0)) ⟨rfl, rfl⟩ ⟨Nat.le_of_ble_eq_true rfl, Nat.le_of_ble_eq_true rfl⟩ bl_w (rc_w hK hP 0 (by decide) rfl rfl) (bw_U hE hK hC hP hS) rfl hl.1 (Nat.le_of_ble_eq_true rfl) ⟨Nat.le_refl _, Nat.le_refl _⟩ dX7_factor_126 rfl) hS (fun r44 u45 H locs g46 hP hS => ?_)
      obtain ⟨J47, hW47, hp47, hn47, hv47, rfl⟩ : ∃ oj, mW oj A T n (zNz T n 0 9999 z) ∧ rP (up2 I 0 4 (nI (tkB T n z.2))) oj ∧ (zN T n z = true → oj 0 12 = nI (tkB T n z.2)) ∧ ((zNz T n 0 9999 z).1 = 0 → r44 = zNv T n 0 9999 z) ∧ u45 = (oj, A, K) := g46
      have hP : Wp mN E mK (J47, A, K) H := hP
      have hrN := rP_tr (rP_u rP_rf (Or.inl rfl)) hp47
      by_cases hz9 : (zNz T n 0 9999 z).1 = 0
      · refine tp_i (y := zNv T n 0 9999 z) (hv47 hz9) ?_
        refine lv_goto (tgt := 133) hx hb dX7_factor_129 (by decide) ?_
        refine lv_istore_n (lv' := [(3, .int (zNv T n 0 9999 z)), (2, .int (-1)), (1, .int (mBv A n (tkB T n z.2))), (0, .ref (eP E 0))]) hx hb dX7_factor_133 rfl hl (by decide) rfl (fun ls hl => ?_)
        refine lv_aload_n hx hb dX7_factor_134 rfl (lv_at hl 3 rfl) ?_
        refine lv_iload_n hx hb dX7_factor_135 rfl (lv_at hl 1 rfl) ?_
        refine lv_if_ge (tgt := 143) hx hb dX7_factor_136 (by decide) (fun h136 => absurd h136 (by decide)) (fun h136 => ?_)
        refine lv_iconst (v := 0) hx hb dX7_factor_139 (by decide) ?_
        refine lv_goto (tgt := 144) hx hb dX7_factor_140 (by decide) ?_
        refine cn_wv (ck_V (a := eP E 0) S lk_X7_116 (c_X7_emit l E J47 A K 0 N hE (hW47.2.1.trans hz9) hN (by omega)) ⟨rfl, rfl⟩ ⟨Nat.le_of_ble_eq_true rfl, Nat.le_of_ble_eq_true rfl⟩ bl_w (rc_w hK hP 0 (by decide) rfl rfl) (bw_U hE hK hC hP hS) rfl hl.1 (Nat.le_of_ble_eq_true rfl) ⟨Nat.le_refl _, Nat.le_refl _⟩ dX7_factor_144 rfl) hS (fun u49 H locs g50 hP hS => ?_)
        obtain rfl : u49 = (J47, (mEm A N 0), K) := g50
        have hP : Wp mN E mK (J47, (mEm A N 0), K) H := hP
        refine lv_aload_n hx hb dX7_factor_147 rfl (lv_at hl 3 rfl) ?_
        refine lv_iload_n hx hb dX7_factor_148 rfl (lv_at hl 0 rfl) ?_
        refine cn_wv (ck_V (a := eP E 0) S lk_X7_116 (c_X7_emit l E J47 (mEm A N 0) K (zNv T n 0 9999 z) (N + 1) hE (hW47.2.1.trans hz9) mEm_3 (by omega)) ⟨rfl, rfl⟩ ⟨Nat.le_of_ble_eq_true rfl, Nat.le_of_ble_eq_true rfl⟩ bl_w (rc_w hK hP 0 (by decide) rfl rfl) (bw_U hE hK hC hP hS) rfl hl.1 (Nat.le_of_ble_eq_true rfl) ⟨Nat.le_refl _, Nat.le_refl _⟩ dX7_factor_149 rfl) hS (fun u52 H locs g53 hP hS => ?_)
        obtain rfl : u52 = (J47, (mEm (mEm A N 0) (N + 1) (zNv T n 0 9999 z)), K) := g53
        have hP : Wp mN E mK (J47, (mEm (mEm A N 0) (N + 1) (zNv T n 0 9999 z)), K) H := hP
        exact re_wv (x := (J47, (mEm (mEm A N 0) (N + 1) (zNv T n 0 9999 z)), K)) hx hb hr hlk hP hS (by rw [(show (zFd T n 0 0 2 z).2 = zNz T n 0 9999 z from congrArg Prod.snd ((zFd_s (D := 1)).trans (zFc_1 q1)))]; exact ⟨J47, (mEm (mEm A N 0) (N + 1) (zNv T n 0 9999 z)), ⟨gB_em (gB_em (gB_rf hW47 hrN)), fun _ => ⟨N + 2, gM_f (fun am sc => (show (zFd T n am sc 2 z).1 = _ from congrArg Prod.fst ((zFd_s (D := 1)).trans (zFc_1 q1))).symm) (gM_at hN (by rw [zNz_g q1 hz9]; show z.2 + 1 ≤ (if z.1 = 0 then tkE T n z.2 else z.2); rw [if_pos h0]; exact tkE_gt (by rw [(of_decide_eq_true q1).2]; decide)) (fun code g1 g2 => sg_lit g1 g2))⟩⟩, rfl⟩) dX7_factor_152
      · refine lv_goto (tgt := 133) hx hb dX7_factor_129 (by decide) ?_
        refine lv_istore_n (lv' := [(3, .int r44), (2, .int (-1)), (1, .int (mBv A n (tkB T n z.2))), (0, .ref (eP E 0))]) hx hb dX7_factor_133 rfl hl (by decide) rfl (fun ls hl => ?_)
        refine lv_aload_n hx hb dX7_factor_134 rfl (lv_at hl 3 rfl) ?_
        refine lv_iload_n hx hb dX7_factor_135 rfl (lv_at hl 1 rfl) ?_
        refine lv_if_ge (tgt := 143) hx hb dX7_factor_136 (by decide) (fun h136 => absurd h136 (by decide)) (fun h136 => ?_)
        refine lv_iconst (v := 0) hx hb dX7_factor_139 (by decide) ?_
        refine lv_goto (tgt := 144) hx hb dX7_factor_140 (by decide) ?_
        refine cn_wv (ck_V (a := eP E 0) S lk_X7_116 (c_X7_emit_bad l E J47 A K 0 hE (fun g => hz9 (hW47.2.1.symm.trans g))) ⟨rfl, rfl⟩ ⟨Nat.le_of_ble_eq_true rfl, Nat.le_of_ble_eq_true rfl⟩ bl_w (rc_w hK hP 0 (by decide) rfl rfl) (bw_U hE hK hC hP hS) rfl hl.1 (Nat.le_of_ble_eq_true rfl) ⟨Nat.le_refl _, Nat.le_refl _⟩ dX7_factor_144 rfl) hS (fun u55 H locs g56 hP hS => ?_)
        obtain rfl : u55 = (J47, A, K) := g56
        have hP : Wp mN E mK (J47, A, K) H := hP
        refine lv_aload_n hx hb dX7_factor_147 rfl (lv_at hl 3 rfl) ?_
        refine lv_iload_n hx hb dX7_factor_148 rfl (lv_at hl 0 rfl) ?_
        refine cn_wv (ck_V (a := eP E 0) S lk_X7_116 (c_X7_emit_bad l E J47 A K r44 hE (fun g => hz9 (hW47.2.1.symm.trans g))) ⟨rfl, rfl⟩ ⟨Nat.le_of_ble_eq_true rfl, Nat.le_of_ble_eq_true rfl⟩ bl_w (rc_w hK hP 0 (by decide) rfl rfl) (bw_U hE hK hC hP hS) rfl hl.1 (Nat.le_of_ble_eq_true rfl) ⟨Nat.le_refl _, Nat.le_refl _⟩ dX7_factor_149 rfl) hS (fun u58 H locs g59 hP hS => ?_)
        obtain rfl : u58 = (J47, A, K) := g59
        have hP : Wp mN E mK (J47, A, K) H := hP
        exact re_wv (x := (J47, A, K)) hx hb hr hlk hP hS (by rw [show (zFd T n 0 0 2 z).2 = zNz T n 0 9999 z from congrArg Prod.snd ((zFd_s (D := 1)).trans (zFc_1 q1))]; exact ⟨J47, A, gP_bad hz9 (gB_rf hW47 hrN), rfl⟩) dX7_factor_152
  · have q4 : zS T n 40 z = true := (zS_b (ch := 40) hTT h0 (by decide) (by decide)).mp h16
    obtain ⟨q1, qw⟩ := zS_k q4
    refine lv_aload_n hx hb dX7_factor_19 rfl (lv_at hl 1 rfl) ?_
    refine rw_geti (x := ((up2 I 0 4 (nI (tkB T n z.2))), A, K)) (v := 2) S hK hP 0 (by decide) rfl fk_X7_95 rfl ((up2_j (f := I) (q := 0) (j := 4) (a := 0) (b := 13) (v := (nI (tkB T n z.2))) (by decide)).trans h13) dX7_factor_20 ?_
    refine lv_iconst (v := 4) hx hb dX7_factor_23 (by decide) ?_
    refine lv_icmp_ne (tgt := 37) hx hb dX7_factor_24 (by decide) (fun h24 => ?_) (fun h24 => absurd h24 (by decide))
    refine lv_aload_n hx hb dX7_factor_37 rfl (lv_at hl 1 rfl) ?_
    refine lv_dup hx hb dX7_factor_38 rfl ?_
    refine rw_geti (x := ((up2 I 0 4 (nI (tkB T n z.2))), A, K)) (v := (nI (tkB T n z.2))) S hK hP 0 (by decide) rfl fk_X7_45 rfl (up2_eq (f := I) (q := 0) (j := 4) (v := (nI (tkB T n z.2)))) dX7_factor_39 ?_
    refine lv_iconst (v := 1) hx hb dX7_factor_42 (by decide) ?_
    refine lv_iadd hx hb dX7_factor_43 ?_
    refine tp_i (y := nI ((tkB T n z.2) + 1)) (nI_add (tkB T n z.2) 1) ?_
    refine rw_puti (x := ((up2 I 0 4 (nI (tkB T n z.2))), A, K)) (v := (nI ((tkB T n z.2) + 1))) S hE hK hP hS 0 (by decide) rfl fk_X7_45 rfl tyX7_ok nmX7 ⟨rfl, by decide +kernel⟩ dX7_factor_44 (fun H locs hP hS => ?_)
    have hP : Wp mN E mK ((up2 (up2 I 0 4 (nI (tkB T n z.2))) 0 4 (nI ((tkB T n z.2) + 1))), A, K) H := hP
    refine lv_aload_n hx hb dX7_factor_47 rfl (lv_at hl 1 rfl) ?_
    refine lv_dup hx hb dX7_factor_48 rfl ?_
    refine rw_geti (x := ((up2 (up2 I 0 4 (nI (tkB T n z.2))) 0 4 (nI ((tkB T n z.2) + 1))), A, K)) (v := 2) S hK hP 0 (by decide) rfl fk_X7_95 rfl ((up2_j (f := (up2 I 0 4 (nI (tkB T n z.2)))) (q := 0) (j := 4) (a := 0) (b := 13) (v := (nI ((tkB T n z.2) + 1))) (by decide)).trans ((up2_j (f := I) (q := 0) (j := 4) (a := 0) (b := 13) (v := (nI (tkB T n z.2))) (by decide)).trans h13)) dX7_factor_49 ?_
    refine lv_iconst (v := 1) hx hb dX7_factor_52 (by decide) ?_
    refine lv_iadd hx hb dX7_factor_53 ?_
    refine tp_i (y := 3) rfl ?_
    refine rw_puti (x := ((up2 (up2 I 0 4 (nI (tkB T n z.2))) 0 4 (nI ((tkB T n z.2) + 1))), A, K)) (v := 3) S hE hK hP hS 0 (by decide) rfl fk_X7_95 rfl tyX7_ok nmX7 ⟨rfl, by decide +kernel⟩ dX7_factor_54 (fun H locs hP hS => ?_)
    have hP : Wp mN E mK ((up2 (up2 (up2 I 0 4 (nI (tkB T n z.2))) 0 4 (nI ((tkB T n z.2) + 1))) 0 13 3), A, K) H := hP
    refine lv_aload_n hx hb dX7_factor_57 rfl (lv_at hl 1 rfl) ?_
    rw [up2_up] at hP
    have hP : Wp mN E mK ((up2 (up2 I 0 4 (nI (tkB T n z.2 + 1))) 0 13 3), A, K) H := hP
    have hsg := mW_sg (ch := 40) hW (by decide) q4
    have hWs := mW_12 (b := 13) (v := 3) (Or.inr (Or.inl rfl)) hsg.1
    refine cn_wv (ck_V (a := eP E 0) S lk_X7_98 (c_X7_sum_1 l E (up2 (up2 I 0 4 (nI (tkB T n z.2 + 1))) 0 13 3) A K T n (zA T n z) N hE hWs rfl hsg.2.2 hN (by have := hsg.2.1; omega)) ⟨rfl, rfl⟩ ⟨Nat.le_of_ble_eq_true rfl, Nat.le_of_ble_eq_true rfl⟩ bl_w (rc_w hK hP 0 (by decide) rfl rfl) (bw_U hE hK hC hP hS) rfl hl.1 (Nat.le_of_ble_eq_true rfl) ⟨Nat.le_refl _, Nat.le_refl _⟩ dX7_factor_58 rfl) hS (fun u61 H locs g62 hP hS => ?_)
    obtain ⟨J63, B63, hg63, rfl⟩ : ∃ oj ob, gP (up2 (up2 I 0 4 (nI (tkB T n z.2 + 1))) 0 13 3) A T n N (zA T n z) (zSu T n 0 0 1 (zA T n z)).2 (fun am sc => (zSu T n am sc 1 (zA T n z)).1) oj ob ∧ u61 = (oj, ob, K) := g62
    have hP : Wp mN E mK (J63, B63, K) H := hP
    refine lv_aload_n hx hb dX7_factor_61 rfl (lv_at hl 1 rfl) ?_
    refine lv_bipush (v := 41) hx hb dX7_factor_62 (by decide) ?_
    refine cn_wv (ck_V (a := eP E 0) S lk_X7_101 (c_X7_expect l E J63 B63 K T n ((zSu T n 0 0 1 (zA T n z)).2) 41 hE hg63.1.1.1 (by decide) (by decide)) ⟨rfl, rfl⟩ ⟨Nat.le_of_ble_eq_true rfl, Nat.le_of_ble_eq_true rfl⟩ bl_w (rc_w hK hP 0 (by decide) rfl rfl) (bw_U hE hK hC hP hS) rfl hl.1 (Nat.le_of_ble_eq_true rfl) ⟨Nat.le_refl _, Nat.le_refl _⟩ dX7_factor_64 rfl) hS (fun u65 H locs g66 hP hS => ?_)
    obtain ⟨J67, hW67, hp67, rfl⟩ : ∃ oj, mW oj B63 T n (zNS T n (nI 41) ((zSu T n 0 0 1 (zA T n z)).2)) ∧ rP J63 oj ∧ u65 = (oj, B63, K) := g66
    have hP : Wp mN E mK (J67, B63, K) H := hP
    have e13 : J67 0 13 = 3 := (hp67 0 13 (by decide)).trans (hg63.1.1.2 0 13 (by decide))
    refine lv_aload_n hx hb dX7_factor_67 rfl (lv_at hl 1 rfl) ?_
    refine lv_dup hx hb dX7_factor_68 rfl ?_
    refine rw_geti (x := (J67, B63, K)) (v := 3) S hK hP 0 (by decide) rfl fk_X7_95 rfl e13 dX7_factor_69 ?_
    refine lv_iconst (v := 1) hx hb dX7_factor_72 (by decide) ?_
    refine lv_isub hx hb dX7_factor_73 ?_
    refine tp_i (y := 2) rfl ?_
    refine rw_puti (x := (J67, B63, K)) (v := 2) S hE hK hP hS 0 (by decide) rfl fk_X7_95 rfl tyX7_ok nmX7 ⟨rfl, by decide +kernel⟩ dX7_factor_74 (fun H locs hP hS => ?_)
    have hP : Wp mN E mK ((up2 J67 0 13 2), B63, K) H := hP
    exact re_wv (x := ((up2 J67 0 13 2), B63, K)) hx hb hr hlk hP hS (by have e6 : ∀ am sc, zFd T n am sc 2 z = ((zSu T n am sc 1 (zA T n z)).1, zNS T n 41 (zSu T n am sc 1 (zA T n z)).2) := fun am sc => (zFd_s (D := 1)).trans (zFc_6 q1 (qw _) (qw _) q4); exact ⟨_, B63, (by rw [show (zFd T n 0 0 2 z).2 = zNS T n 41 (zSu T n 0 0 1 (zA T n z)).2 from congrArg Prod.snd (e6 0 0)]; exact ⟨⟨⟨mW_12 (Or.inr (Or.inl rfl)) hW67, rP_of (rQ_tr (rQ_u (rQ_u (rQ_of rP_rf) (by decide)) (by decide)) (rQ_tr (rQ_of hg63.1.1.2) (rQ_u (rQ_of hp67) (by decide)))) h13.symm⟩, hg63.1.2⟩, fun g => (hg63.2 (zMo_NS g)).elim (fun M hM => ⟨M, gM_f (fun am sc => (congrArg Prod.fst (e6 am sc)).symm) (gM_par hM)⟩)⟩), rfl⟩) dX7_factor_77

set_option maxHeartbeats 1000000 in
set_option maxRecDepth 100000 in
theorem c_X7_term_2 (l : Launch) (E : En) (I A : Nat → Nat → Int32) (K : Nat → Nat → Int64) (T : Nat → Int32) (n : Nat) (z : Tz) (N : Nat) (hE : Ev mN E) (hW : mW I A T n z) (h13 : I 0 13 = 2) (h0 : z.1 = 0) (hN : A 3 3 = nI N) (hNb : 2 * N ≤ 3 * z.2) : Met l yX7_term (wz yX7_term cX7_term 2 none) (rmk 12 0 0 268) (va_Pc [.ref (eP E 0)] (Bw mN E mK (I, A, K))) (qWv mN E mK (fun uu => ∃ J B, gP I A T n N z (zTd T n 0 0 2 z).2 (fun am sc => (zTd T n am sc 2 z).1) J B ∧ uu = (J, B, K))) 0 0 (cA mN E) := by
  refine en_ofW RX7 rfl (by decide +kernel) (Nat.le_of_ble_eq_true rfl) ?_
  intro p e s m below meth c ls S hr hlk hnm hl hB
  have hx := S.1
  have hb := S.2.1
  obtain ⟨hK, hC, hP⟩ := hB
  have hS : va_S (cA mN E) s.heap s.heap [] := va_S.rf
  have hl : lv_has ls 2 [(0, .ref (eP E 0))] := hl
  obtain ⟨⟨hn3, hTT, hzn⟩, h5c, h5p, h5e⟩ := id hW
  have hn7 := hTT.1
  have hBn := tkB_le (T := T) hzn
  have hzl : z.2 ≤ 700 := Nat.le_trans hzn hn7
  refine lv_aload_n hx hb dX7_term_0 rfl (lv_at hl 0 rfl) ?_
  refine cn_wv (ck_V (a := eP E 0) S lk_X7_119 (c_X7_factor_2 l E I A K T n z N hE hW h13 h0 hN hNb) ⟨rfl, rfl⟩ ⟨Nat.le_of_ble_eq_true rfl, Nat.le_of_ble_eq_true rfl⟩ bl_w (rc_w hK hP 0 (by decide) rfl rfl) (bw_U hE hK hC hP hS) rfl hl.1 (Nat.le_of_ble_eq_true rfl) ⟨Nat.le_refl _, Nat.le_refl _⟩ dX7_term_1 rfl) hS (fun u2 H locs g3 hP hS => ?_)
  obtain ⟨J4, B4, hg4, rfl⟩ : ∃ oj ob, gP I A T n N z (zFd T n 0 0 2 z).2 (fun am sc => (zFd T n am sc 2 z).1) oj ob ∧ u2 = (oj, ob, K) := g3
  have hP : Wp mN E mK (J4, B4, K) H := hP
  have HL : ∀ (cnt : Nat) (za : Tz) (f : Int32 → Int32 → Int32) (J B : Nat → Nat → Int32), n - za.2 ≤ cnt → gP I A T n N z za f J B → (∀ am sc, vR am → vR sc → vR (f am sc)) → (∀ am sc, zTl T n (zFd T n am sc 2) cnt (f am sc, za) = zTd T n am sc 2 z) → ∀ (H : Heap) (locs : List Loc), Wp mN E mK (J, B, K) H → va_S (cA mN E) s.heap H locs → ∀ ls : Array Slot, lv_has ls 2 [(0, .ref (eP E 0))] → W p l e (rmk 12 0 0 268) s m ([.ref (eP E 0)] : List Value).toArray below meth c H locs 0 0 (MQ below (qWv mN E mK (fun uu => ∃ J B, gP I A T n N z (zTd T n 0 0 2 z).2 (fun am sc => (zTd T n am sc 2 z).1) J B ∧ uu = (J, B, K))) ([.ref (eP E 0)] : List Value).toArray s 0 0 (cA mN E)) (F0 m 4 ls []) := by
    intro cnt
    induction cnt with
    | zero =>
      intro za f J B hm hg hfv hv H locs hP hS ls hl
      have hWa := hg.1.1.1
      have h5a : J 0 5 = za.1 := hWa.2.1
      have hzan := hWa.1.2.2
      have hTa := hWa.1.2.1
      refine lv_aload_n hx hb dX7_term_4 rfl (lv_at hl 0 rfl) ?_
      refine cn_si (ck_V (a := eP E 0) S lk_X7_62 (c_X7_isGood l E J B K hE) ⟨rfl, rfl⟩ ⟨Nat.le_of_ble_eq_true rfl, Nat.le_of_ble_eq_true rfl⟩ bl_w (rc_w hK hP 0 (by decide) rfl rfl) (bw_U hE hK hC hP hS) rfl hl.1 (Nat.le_of_ble_eq_true rfl) ⟨Nat.le_refl _, Nat.le_refl _⟩ dX7_term_5 rfl) (fun r5 g6 => ?_)
      obtain rfl : r5 = bI (decide (J 0 5 = 0)) := g6
      refine lv_if_eq (tgt := 74) hx hb dX7_term_8 (by decide) (fun h8 => ?_) (fun h8 => ?_)
      · have hnz : ¬ za.1 = 0 := fun g => absurd (decide_eq_true (h5a.trans g)) (by rw [bI_f h8]; decide)
        exact re_wv (x := (J, B, K)) hx hb hr hlk hP hS ⟨J, B, gP_eq (fun am sc => (zTl_x (zS_c hnz) (zS_c hnz) _).symm.trans (hv am sc)) hg, rfl⟩ dX7_term_74
      · have h0a : za.1 = 0 := h5a.symm.trans (of_decide_eq_true (bI_t h8))
        refine lv_aload_n hx hb dX7_term_11 rfl (lv_at hl 0 rfl) ?_
        refine cn_wi (ck_V (a := eP E 0) S lk_X7_66 (c_X7_nextW l E J B K T n za hE hWa h0a) ⟨rfl, rfl⟩ ⟨Nat.le_of_ble_eq_true rfl, Nat.le_of_ble_eq_true rfl⟩ bl_w (rc_w hK hP 0 (by decide) rfl rfl) (bw_U hE hK hC hP hS) rfl hl.1 (Nat.le_of_ble_eq_true rfl) ⟨Nat.le_refl _, Nat.le_refl _⟩ dX7_term_12 rfl) hS (fun r7 u8 H locs g9 hP hS => ?_)
        obtain ⟨rfl, rfl⟩ : r7 = (mBv B n (tkB T n za.2)) ∧ u8 = ((up2 J 0 4 (nI (tkB T n za.2))), B, K) := g9
        have hP : Wp mN E mK ((up2 J 0 4 (nI (tkB T n za.2))), B, K) H := hP
        refine lv_bipush (v := 42) hx hb dX7_term_15 (by decide) ?_
        refine lv_icmp_eq (tgt := 29) hx hb dX7_term_17 (by decide) (fun h17 => ?_) (fun h17 => ?_)
        · have q1 : zS T n 42 za = true := (zS_b (ch := 42) hTa h0a (by decide) (by decide)).mp h17
          have hsg := mW_sg (ch := 42) hWa (by decide) q1
          exact absurd (zS_e (ch := 42) (by decide) q1).2 (by have := tkB_ge (T := T) (n := n) (p := za.2); omega)
        · have q1 : zS T n 42 za = false := Bool.eq_false_iff.mpr (fun g => h17 ((zS_b (ch := 42) hTa h0a (by decide) (by decide)).mpr g))
          refine lv_aload_n hx hb dX7_term_20 rfl (lv_at hl 0 rfl) ?_
          refine cn_wi (ck_V (a := eP E 0) S lk_X7_66 (c_X7_nextW l E (up2 J 0 4 (nI (tkB T n za.2))) B K T n za hE (mW_nx hWa h0a) h0a) ⟨rfl, rfl⟩ ⟨Nat.le_of_ble_eq_true rfl, Nat.le_of_ble_eq_true rfl⟩ bl_w (rc_w hK hP 0 (by decide) rfl rfl) (bw_U hE hK hC hP hS) rfl hl.1 (Nat.le_of_ble_eq_true rfl) ⟨Nat.le_refl _, Nat.le_refl _⟩ dX7_term_21 rfl) hS (fun r10 u11 H locs g12 hP hS => ?_)
          obtain ⟨rfl, rfl⟩ : r10 = (mBv B n (tkB T n za.2)) ∧ u11 = ((up2 (up2 J 0 4 (nI (tkB T n za.2))) 0 4 (nI (tkB T n za.2))), B, K) := g12
          have hP : Wp mN E mK ((up2 (up2 J 0 4 (nI (tkB T n za.2))) 0 4 (nI (tkB T n za.2))), B, K) H := hP
          rw [up2_up] at hP
          have hP : Wp mN E mK ((up2 J 0 4 (nI (tkB T n za.2))), B, K) H := hP
          refine lv_bipush (v := 47) hx hb dX7_term_24 (by decide) ?_
          refine lv_icmp_ne (tgt := 74) hx hb dX7_term_26 (by decide) (fun h26 => ?_) (fun h26 => ?_)
          · have q2 : zS T n 47 za = false := Bool.eq_false_iff.mpr (fun g => h26 ((zS_b (ch := 47) hTa h0a (by decide) (by decide)).mpr g))
            exact re_wv (x := ((up2 J 0 4 (nI (tkB T n za.2))), B, K)) hx hb hr hlk hP hS ⟨_, B, gP_eq (fun am sc => (zTl_x q1 q2 _).symm.trans (hv am sc)) ⟨gB_u hg.1 h0a, hg.2⟩, rfl⟩ dX7_term_74
          · have q2 : zS T n 47 za = true := (zS_b (ch := 47) hTa h0a (by decide) (by decide)).mp h26
            have hsg := mW_sg (ch := 47) hWa (by decide) q2
            exact absurd (zS_e (ch := 47) (by decide) q2).2 (by have := tkB_ge (T := T) (n := n) (p := za.2); omega)
    | succ cnt ih =>
      intro za f J B hm hg hfv hv H locs hP hS ls hl
      have hWa := hg.1.1.1
      have h5a : J 0 5 = za.1 := hWa.2.1
      have hzan := hWa.1.2.2
      have hTa := hWa.1.2.1
      refine lv_aload_n hx hb dX7_term_4 rfl (lv_at hl 0 rfl) ?_
      refine cn_si (ck_V (a := eP E 0) S lk_X7_62 (c_X7_isGood l E J B K hE) ⟨rfl, rfl⟩ ⟨Nat.le_of_ble_eq_true rfl, Nat.le_of_ble_eq_true rfl⟩ bl_w (rc_w hK hP 0 (by decide) rfl rfl) (bw_U hE hK hC hP hS) rfl hl.1 (Nat.le_of_ble_eq_true rfl) ⟨Nat.le_refl _, Nat.le_refl _⟩ dX7_term_5 rfl) (fun r13 g14 => ?_)
      obtain rfl : r13 = bI (decide (J 0 5 = 0)) := g14
      refine lv_if_eq (tgt := 74) hx hb dX7_term_8 (by decide) (fun h8 => ?_) (fun h8 => ?_)
      · have hnz : ¬ za.1 = 0 := fun g => absurd (decide_eq_true (h5a.trans g)) (by rw [bI_f h8]; decide)
        exact re_wv (x := (J, B, K)) hx hb hr hlk hP hS ⟨J, B, gP_eq (fun am sc => (zTl_x (zS_c hnz) (zS_c hnz) _).symm.trans (hv am sc)) hg, rfl⟩ dX7_term_74
      · have h0a : za.1 = 0 := h5a.symm.trans (of_decide_eq_true (bI_t h8))
        refine lv_aload_n hx hb dX7_term_11 rfl (lv_at hl 0 rfl) ?_
        refine cn_wi (ck_V (a := eP E 0) S lk_X7_66 (c_X7_nextW l E J B K T n za hE hWa h0a) ⟨rfl, rfl⟩ ⟨Nat.le_of_ble_eq_true rfl, Nat.le_of_ble_eq_true rfl⟩ bl_w (rc_w hK hP 0 (by decide) rfl rfl) (bw_U hE hK hC hP hS) rfl hl.1 (Nat.le_of_ble_eq_true rfl) ⟨Nat.le_refl _, Nat.le_refl _⟩ dX7_term_12 rfl) hS (fun r15 u16 H locs g17 hP hS => ?_)
        obtain ⟨rfl, rfl⟩ : r15 = (mBv B n (tkB T n za.2)) ∧ u16 = ((up2 J 0 4 (nI (tkB T n za.2))), B, K) := g17
        have hP : Wp mN E mK ((up2 J 0 4 (nI (tkB T n za.2))), B, K) H := hP
        refine lv_bipush (v := 42) hx hb dX7_term_15 (by decide) ?_
        refine lv_icmp_eq (tgt := 29) hx hb dX7_term_17 (by decide) (fun h17 => ?_) (fun h17 => ?_)
        · have q1 : zS T n 42 za = true := (zS_b (ch := 42) hTa h0a (by decide) (by decide)).mp h17
          have hsg := mW_sg (ch := 42) hWa (by decide) q1
          refine lv_aload_n hx hb dX7_term_29 rfl (lv_at hl 0 rfl) ?_
          refine cn_wi (ck_V (a := eP E 0) S lk_X7_66 (c_X7_nextW l E (up2 J 0 4 (nI (tkB T n za.2))) B K T n za hE (mW_nx hWa h0a) h0a) ⟨rfl, rfl⟩ ⟨Nat.le_of_ble_eq_true rfl, Nat.le_of_ble_eq_true rfl⟩ bl_w (rc_w hK hP 0 (by decide) rfl rfl) (bw_U hE hK hC hP hS) rfl hl.1 (Nat.le_of_ble_eq_true rfl) ⟨Nat.le_refl _, Nat.le_refl _⟩ dX7_term_30 rfl) hS (fun r18 u19 H locs g20 hP hS => ?_)
          obtain ⟨rfl, rfl⟩ : r18 = (mBv B n (tkB T n za.2)) ∧ u19 = ((up2 (up2 J 0 4 (nI (tkB T n za.2))) 0 4 (nI (tkB T n za.2))), B, K) := g20
          have hP : Wp mN E mK ((up2 (up2 J 0 4 (nI (tkB T n za.2))) 0 4 (nI (tkB T n za.2))), B, K) H := hP
          rw [up2_up] at hP
          have hP : Wp mN E mK ((up2 J 0 4 (nI (tkB T n za.2))), B, K) H := hP
          refine lv_bipush (v := 42) hx hb dX7_term_33 (by decide) ?_
          refine lv_icmp_ne (tgt := 42) hx hb dX7_term_35 (by decide) (fun h35 => absurd h35 (fun g => g h17)) (fun h35 => ?_)
          refine lv_iconst (v := 1) hx hb dX7_term_38 (by decide) ?_
          refine lv_goto (tgt := 43) hx hb dX7_term_39 (by decide) ?_
          refine lv_istore_n (lv' := [(1, .int 1), (0, .ref (eP E 0))]) hx hb dX7_term_43 rfl hl (by decide) rfl (fun ls hl => ?_)
          refine lv_aload_n hx hb dX7_term_44 rfl (lv_at hl 1 rfl) ?_
          refine lv_dup hx hb dX7_term_45 rfl ?_
          refine rw_geti (x := ((up2 J 0 4 (nI (tkB T n za.2))), B, K)) (v := (nI (tkB T n za.2))) S hK hP 0 (by decide) rfl fk_X7_45 rfl (up2_eq (f := J) (q := 0) (j := 4) (v := (nI (tkB T n za.2)))) dX7_term_46 ?_
          refine lv_iconst (v := 1) hx hb dX7_term_49 (by decide) ?_
          refine lv_iadd hx hb dX7_term_50 ?_
          refine tp_i (y := nI ((tkB T n za.2) + 1)) (nI_add (tkB T n za.2) 1) ?_
          refine rw_puti (x := ((up2 J 0 4 (nI (tkB T n za.2))), B, K)) (v := (nI ((tkB T n za.2) + 1))) S hE hK hP hS 0 (by decide) rfl fk_X7_45 rfl tyX7_ok nmX7 ⟨rfl, by decide +kernel⟩ dX7_term_51 (fun H locs hP hS => ?_)
          have hP : Wp mN E mK ((up2 (up2 J 0 4 (nI (tkB T n za.2))) 0 4 (nI ((tkB T n za.2) + 1))), B, K) H := hP
          rw [up2_up] at hP
          have hP : Wp mN E mK ((up2 J 0 4 (nI (tkB T n za.2 + 1))), B, K) H := hP
          obtain ⟨M, hM⟩ := hg.2 h0a
          refine lv_aload_n hx hb dX7_term_54 rfl (lv_at hl 1 rfl) ?_
          refine cn_wv (ck_V (a := eP E 0) S lk_X7_119 (c_X7_factor_2 l E (up2 J 0 4 (nI (tkB T n za.2 + 1))) B K T n (zA T n za) M hE hsg.1 ((hg.1.1.2 0 13 (by decide)).trans h13) hsg.2.2 hM.1 (by have := hM.2.1; have := hsg.2.1; omega)) ⟨rfl, rfl⟩ ⟨Nat.le_of_ble_eq_true rfl, Nat.le_of_ble_eq_true rfl⟩ bl_w (rc_w hK hP 0 (by decide) rfl rfl) (bw_U hE hK hC hP hS) rfl hl.1 (Nat.le_of_ble_eq_true rfl) ⟨Nat.le_refl _, Nat.le_refl _⟩ dX7_term_55 rfl) hS (fun u22 H locs g23 hP hS => ?_)
          obtain ⟨J24, B24, hg24, rfl⟩ : ∃ oj ob, gP (up2 J 0 4 (nI (tkB T n za.2 + 1))) B T n M (zA T n za) (zFd T n 0 0 2 (zA T n za)).2 (fun am sc => (zFd T n am sc 2 (zA T n za)).1) oj ob ∧ u22 = (oj, ob, K) := g23
          have hP : Wp mN E mK (J24, B24, K) H := hP
          by_cases hz9 : (zFd T n 0 0 2 (zA T n za)).2.1 = 0
          · obtain ⟨M2, hM2⟩ := hg24.2 hz9
            refine lv_aload_n hx hb dX7_term_58 rfl (lv_at hl 1 rfl) ?_
            refine lv_iload_n hx hb dX7_term_59 rfl (lv_at hl 0 rfl) ?_
            refine lv_if_eq (tgt := 67) hx hb dX7_term_60 (by decide) (fun h60 => absurd h60 (by decide)) (fun h60 => ?_)
            refine lv_iconst (v := 4) hx hb dX7_term_63 (by decide) ?_
            refine lv_goto (tgt := 68) hx hb dX7_term_64 (by decide) ?_
            refine cn_wv (ck_V (a := eP E 0) S lk_X7_116 (c_X7_emit l E J24 B24 K 4 M2 hE (hg24.1.1.1.2.1.trans hz9) hM2.1 (by have := hM.2.1; have := hM2.2.1; have := hsg.2.1; have := hg24.1.1.1.1.2.2; omega)) ⟨rfl, rfl⟩ ⟨Nat.le_of_ble_eq_true rfl, Nat.le_of_ble_eq_true rfl⟩ bl_w (rc_w hK hP 0 (by decide) rfl rfl) (bw_U hE hK hC hP hS) rfl hl.1 (Nat.le_of_ble_eq_true rfl) ⟨Nat.le_refl _, Nat.le_refl _⟩ dX7_term_68 rfl) hS (fun u26 H locs g27 hP hS => ?_)
            obtain rfl : u26 = (J24, (mEm B24 M2 4), K) := g27
            have hP : Wp mN E mK (J24, (mEm B24 M2 4), K) H := hP
            refine lv_goto (tgt := 4) hx hb dX7_term_71 (by decide) ?_
            exact ih _ (fun am sc => cProd (f am sc) (zFd T n am sc 2 (zA T n za)).1) _ _ (by have h9 := hsg.2.1; have h8 := zGe_Fd (T := T) (n := n) (sz := 0) (sc := 0) 2 (zA T n za); omega) (⟨gB_tr hg.1 (rP_u rP_rf (Or.inl rfl)) (gB_em hg24.1), fun _ => ⟨_, gM_op hM hsg.2.1 hM2 (by decide) (fun am sc h1 h2 => op_mul.1)⟩⟩) (fun am sc h1 h2 => op_mul.2) (fun am sc => (show zTl T n (zFd T n am sc 2) cnt (cProd (f am sc) (zFd T n am sc 2 (zA T n za)).1, (zFd T n 0 0 2 (zA T n za)).2) = _ from (by rw [zFd_i (a := 0) (b := 0) am sc 2 (zA T n za)]; exact (zTl_m q1).symm.trans (hv am sc)))) _ _ hP hS ls (lv_sub hl [1] rfl)
          · refine lv_aload_n hx hb dX7_term_58 rfl (lv_at hl 1 rfl) ?_
            refine lv_iload_n hx hb dX7_term_59 rfl (lv_at hl 0 rfl) ?_
            refine lv_if_eq (tgt := 67) hx hb dX7_term_60 (by decide) (fun h60 => absurd h60 (by decide)) (fun h60 => ?_)
            refine lv_iconst (v := 4) hx hb dX7_term_63 (by decide) ?_
            refine lv_goto (tgt := 68) hx hb dX7_term_64 (by decide) ?_
            refine cn_wv (ck_V (a := eP E 0) S lk_X7_116 (c_X7_emit_bad l E J24 B24 K 4 hE (fun g => hz9 (hg24.1.1.1.2.1.symm.trans g))) ⟨rfl, rfl⟩ ⟨Nat.le_of_ble_eq_true rfl, Nat.le_of_ble_eq_true rfl⟩ bl_w (rc_w hK hP 0 (by decide) rfl rfl) (bw_U hE hK hC hP hS) rfl hl.1 (Nat.le_of_ble_eq_true rfl) ⟨Nat.le_refl _, Nat.le_refl _⟩ dX7_term_68 rfl) hS (fun u29 H locs g30 hP hS => ?_)
            obtain rfl : u29 = (J24, B24, K) := g30
            have hP : Wp mN E mK (J24, B24, K) H := hP
            refine lv_goto (tgt := 4) hx hb dX7_term_71 (by decide) ?_
            exact ih _ (fun am sc => cProd (f am sc) (zFd T n am sc 2 (zA T n za)).1) _ _ (by have h9 := hsg.2.1; have h8 := zGe_Fd (T := T) (n := n) (sz := 0) (sc := 0) 2 (zA T n za); omega) (gP_bad hz9 (gB_tr hg.1 (rP_u rP_rf (Or.inl rfl)) hg24.1)) (fun am sc h1 h2 => op_mul.2) (fun am sc => (show zTl T n (zFd T n am sc 2) cnt (cProd (f am sc) (zFd T n am sc 2 (zA T n za)).1, (zFd T n 0 0 2 (zA T n za)).2) = _ from (by rw [zFd_i (a := 0) (b := 0) am sc 2 (zA T n za)]; exact (zTl_m q1).symm.trans (hv am sc)))) _ _ hP hS ls (lv_sub hl [1] rfl)
        · have q1 : zS T n 42 za = false := Bool.eq_false_iff.mpr (fun g => h17 ((zS_b (ch := 42) hTa h0a (by decide) (by decide)).mpr g))
          refine lv_aload_n hx hb dX7_term_20 rfl (lv_at hl 0 rfl) ?_
          refine cn_wi (ck_V (a := eP E 0) S lk_X7_66 (c_X7_nextW l E (up2 J 0 4 (nI (tkB T n za.2))) B K T n za hE (mW_nx hWa h0a) h0a) ⟨rfl, rfl⟩ ⟨Nat.le_of_ble_eq_true rfl, Nat.le_of_ble_eq_true rfl⟩ bl_w (rc_w hK hP 0 (by decide) rfl rfl) (bw_U hE hK hC hP hS) rfl hl.1 (Nat.le_of_ble_eq_true rfl) ⟨Nat.le_refl _, Nat.le_refl _⟩ dX7_term_21 rfl) hS (fun r31 u32 H locs g33 hP hS => ?_)
          obtain ⟨rfl, rfl⟩ : r31 = (mBv B n (tkB T n za.2)) ∧ u32 = ((up2 (up2 J 0 4 (nI (tkB T n za.2))) 0 4 (nI (tkB T n za.2))), B, K) := g33
          have hP : Wp mN E mK ((up2 (up2 J 0 4 (nI (tkB T n za.2))) 0 4 (nI (tkB T n za.2))), B, K) H := hP
          rw [up2_up] at hP
          have hP : Wp mN E mK ((up2 J 0 4 (nI (tkB T n za.2))), B, K) H := hP
          refine lv_bipush (v := 47) hx hb dX7_term_24 (by decide) ?_
          refine lv_icmp_ne (tgt := 74) hx hb dX7_term_26 (by decide) (fun h26 => ?_) (fun h26 => ?_)
          · have q2 : zS T n 47 za = false := Bool.eq_false_iff.mpr (fun g => h26 ((zS_b (ch := 47) hTa h0a (by decide) (by decide)).mpr g))
            exact re_wv (x := ((up2 J 0 4 (nI (tkB T n za.2))), B, K)) hx hb hr hlk hP hS ⟨_, B, gP_eq (fun am sc => (zTl_x q1 q2 _).symm.trans (hv am sc)) ⟨gB_u hg.1 h0a, hg.2⟩, rfl⟩ dX7_term_74
          · have q2 : zS T n 47 za = true := (zS_b (ch := 47) hTa h0a (by decide) (by decide)).mp h26
            have hsg := mW_sg (ch := 47) hWa (by decide) q2
            refine lv_aload_n hx hb dX7_term_29 rfl (lv_at hl 0 rfl) ?_
            refine cn_wi (ck_V (a := eP E 0) S lk_X7_66 (c_X7_nextW l E (up2 J 0 4 (nI (tkB T n za.2))) B K T n za hE (mW_nx hWa h0a) h0a) ⟨rfl, rfl⟩ ⟨Nat.le_of_ble_eq_true rfl, Nat.le_of_ble_eq_true rfl⟩ bl_w (rc_w hK hP 0 (by decide) rfl rfl) (bw_U hE hK hC hP hS) rfl hl.1 (Nat.le_of_ble_eq_true rfl) ⟨Nat.le_refl _, Nat.le_refl _⟩ dX7_term_30 rfl) hS (fun r34 u35 H locs g36 hP hS => ?_)
            obtain ⟨rfl, rfl⟩ : r34 = (mBv B n (tkB T n za.2)) ∧ u35 = ((up2 (up2 J 0 4 (nI (tkB T n za.2))) 0 4 (nI (tkB T n za.2))), B, K) := g36
            have hP : Wp mN E mK ((up2 (up2 J 0 4 (nI (tkB T n za.2))) 0 4 (nI (tkB T n za.2))), B, K) H := hP
            rw [up2_up] at hP
            have hP : Wp mN E mK ((up2 J 0 4 (nI (tkB T n za.2))), B, K) H := hP
            refine lv_bipush (v := 42) hx hb dX7_term_33 (by decide) ?_
            refine lv_icmp_ne (tgt := 42) hx hb dX7_term_35 (by decide) (fun h35 => ?_) (fun h35 => absurd h35 (show ¬ mBv B n (tkB T n za.2) = 42 from h17))
            refine lv_iconst (v := 0) hx hb dX7_term_42 (by decide) ?_
            refine lv_istore_n (lv' := [(1, .int 0), (0, .ref (eP E 0))]) hx hb dX7_term_43 rfl hl (by decide) rfl (fun ls hl => ?_)
            refine lv_aload_n hx hb dX7_term_44 rfl (lv_at hl 1 rfl) ?_
            refine lv_dup hx hb dX7_term_45 rfl ?_
            refine rw_geti (x := ((up2 J 0 4 (nI (tkB T n za.2))), B, K)) (v := (nI (tkB T n za.2))) S hK hP 0 (by decide) rfl fk_X7_45 rfl (up2_eq (f := J) (q := 0) (j := 4) (v := (nI (tkB T n za.2)))) dX7_term_46 ?_
            refine lv_iconst (v := 1) hx hb dX7_term_49 (by decide) ?_
            refine lv_iadd hx hb dX7_term_50 ?_
            refine tp_i (y := nI ((tkB T n za.2) + 1)) (nI_add (tkB T n za.2) 1) ?_
            refine rw_puti (x := ((up2 J 0 4 (nI (tkB T n za.2))), B, K)) (v := (nI ((tkB T n za.2) + 1))) S hE hK hP hS 0 (by decide) rfl fk_X7_45 rfl tyX7_ok nmX7 ⟨rfl, by decide +kernel⟩ dX7_term_51 (fun H locs hP hS => ?_)
            have hP : Wp mN E mK ((up2 (up2 J 0 4 (nI (tkB T n za.2))) 0 4 (nI ((tkB T n za.2) + 1))), B, K) H := hP
            rw [up2_up] at hP
            have hP : Wp mN E mK ((up2 J 0 4 (nI (tkB T n za.2 + 1))), B, K) H := hP
            obtain ⟨M, hM⟩ := hg.2 h0a
            refine lv_aload_n hx hb dX7_term_54 rfl (lv_at hl 1 rfl) ?_
            refine cn_wv (ck_V (a := eP E 0) S lk_X7_119 (c_X7_factor_2 l E (up2 J 0 4 (nI (tkB T n za.2 + 1))) B K T n (zA T n za) M hE hsg.1 ((hg.1.1.2 0 13 (by decide)).trans h13) hsg.2.2 hM.1 (by have := hM.2.1; have := hsg.2.1; omega)) ⟨rfl, rfl⟩ ⟨Nat.le_of_ble_eq_true rfl, Nat.le_of_ble_eq_true rfl⟩ bl_w (rc_w hK hP 0 (by decide) rfl rfl) (bw_U hE hK hC hP hS) rfl hl.1 (Nat.le_of_ble_eq_true rfl) ⟨Nat.le_refl _, Nat.le_refl _⟩ dX7_term_55 rfl) hS (fun u38 H locs g39 hP hS => ?_)
            obtain ⟨J40, B40, hg40, rfl⟩ : ∃ oj ob, gP (up2 J 0 4 (nI (tkB T n za.2 + 1))) B T n M (zA T n za) (zFd T n 0 0 2 (zA T n za)).2 (fun am sc => (zFd T n am sc 2 (zA T n za)).1) oj ob ∧ u38 = (oj, ob, K) := g39
            have hP : Wp mN E mK (J40, B40, K) H := hP
            by_cases hz9 : (zFd T n 0 0 2 (zA T n za)).2.1 = 0
            · obtain ⟨M2, hM2⟩ := hg40.2 hz9
              refine lv_aload_n hx hb dX7_term_58 rfl (lv_at hl 1 rfl) ?_
              refine lv_iload_n hx hb dX7_term_59 rfl (lv_at hl 0 rfl) ?_
              refine lv_if_eq (tgt := 67) hx hb dX7_term_60 (by decide) (fun h60 => ?_) (fun h60 => absurd (by decide) h60)
              refine lv_iconst (v := 5) hx hb dX7_term_67 (by decide) ?_
              refine cn_wv (ck_V (a := eP E 0) S lk_X7_116 (c_X7_emit l E J40 B40 K 5 M2 hE (hg40.1.1.1.2.1.trans hz9) hM2.1 (by have := hM.2.1; have := hM2.2.1; have := hsg.2.1; have := hg40.1.1.1.1.2.2; omega)) ⟨rfl, rfl⟩ ⟨Nat.le_of_ble_eq_true rfl, Nat.le_of_ble_eq_true rfl⟩ bl_w (rc_w hK hP 0 (by decide) rfl rfl) (bw_U hE hK hC hP hS) rfl hl.1 (Nat.le_of_ble_eq_true rfl) ⟨Nat.le_refl _, Nat.le_refl _⟩ dX7_term_68 rfl) hS (fun u42 H locs g43 hP hS => ?_)
              obtain rfl : u42 = (J40, (mEm B40 M2 5), K) := g43
              have hP : Wp mN E mK (J40, (mEm B40 M2 5), K) H := hP
              refine lv_goto (tgt := 4) hx hb dX7_term_71 (by decide) ?_
              exact ih _ (fun am sc => cQuo (f am sc) (zFd T n am sc 2 (zA T n za)).1) _ _ (by have h9 := hsg.2.1; have h8 := zGe_Fd (T := T) (n := n) (sz := 0) (sc := 0) 2 (zA T n za); omega) (⟨gB_tr hg.1 (rP_u rP_rf (Or.inl rfl)) (gB_em hg40.1), fun _ => ⟨_, gM_op hM hsg.2.1 hM2 (by decide) (fun am sc h1 h2 => (op_div (hfv am sc h1 h2) (vR_Fd h1 h2 2 _)).1)⟩⟩) (fun am sc h1 h2 => (op_div (hfv am sc h1 h2) (vR_Fd h1 h2 2 _)).2) (fun am sc => (show zTl T n (zFd T n am sc 2) cnt (cQuo (f am sc) (zFd T n am sc 2 (zA T n za)).1, (zFd T n 0 0 2 (zA T n za)).2) = _ from (by rw [zFd_i (a := 0) (b := 0) am sc 2 (zA T n za)]; exact (zTl_d q1 q2).symm.trans (hv am sc)))) _ _ hP hS ls (lv_sub hl [1] rfl)
            · refine lv_aload_n hx hb dX7_term_58 rfl (lv_at hl 1 rfl) ?_
              refine lv_iload_n hx hb dX7_term_59 rfl (lv_at hl 0 rfl) ?_
              refine lv_if_eq (tgt := 67) hx hb dX7_term_60 (by decide) (fun h60 => ?_) (fun h60 => absurd (by decide) h60)
              refine lv_iconst (v := 5) hx hb dX7_term_67 (by decide) ?_
              refine cn_wv (ck_V (a := eP E 0) S lk_X7_116 (c_X7_emit_bad l E J40 B40 K 5 hE (fun g => hz9 (hg40.1.1.1.2.1.symm.trans g))) ⟨rfl, rfl⟩ ⟨Nat.le_of_ble_eq_true rfl, Nat.le_of_ble_eq_true rfl⟩ bl_w (rc_w hK hP 0 (by decide) rfl rfl) (bw_U hE hK hC hP hS) rfl hl.1 (Nat.le_of_ble_eq_true rfl) ⟨Nat.le_refl _, Nat.le_refl _⟩ dX7_term_68 rfl) hS (fun u45 H locs g46 hP hS => ?_)
              obtain rfl : u45 = (J40, B40, K) := g46
              have hP : Wp mN E mK (J40, B40, K) H := hP
              refine lv_goto (tgt := 4) hx hb dX7_term_71 (by decide) ?_
              exact ih _ (fun am sc => cQuo (f am sc) (zFd T n am sc 2 (zA T n za)).1) _ _ (by have h9 := hsg.2.1; have h8 := zGe_Fd (T := T) (n := n) (sz := 0) (sc := 0) 2 (zA T n za); omega) (gP_bad hz9 (gB_tr hg.1 (rP_u rP_rf (Or.inl rfl)) hg40.1)) (fun am sc h1 h2 => (op_div (hfv am sc h1 h2) (vR_Fd h1 h2 2 _)).2) (fun am sc => (show zTl T n (zFd T n am sc 2) cnt (cQuo (f am sc) (zFd T n am sc 2 (zA T n za)).1, (zFd T n 0 0 2 (zA T n za)).2) = _ from (by rw [zFd_i (a := 0) (b := 0) am sc 2 (zA T n za)]; exact (zTl_d q1 q2).symm.trans (hv am sc)))) _ _ hP hS ls (lv_sub hl [1] rfl)
  exact HL 700 _ (fun am sc => (zFd T n am sc 2 z).1) _ _ (by omega) hg4 (fun am sc h1 h2 => vR_Fd h1 h2 2 z) (fun am sc => (congrArg (zTl T n (zFd T n am sc 2) 700) (show ((zFd T n am sc 2 z).1, (zFd T n 0 0 2 z).2) = zFd T n am sc 2 z from by rw [zFd_i am sc 2 z])).trans zTd_e.symm) _ _ hP hS ls (lv_sub hl [0] rfl)

set_option maxHeartbeats 1000000 in
set_option maxRecDepth 100000 in
theorem c_X7_sum_2 (l : Launch) (E : En) (I A : Nat → Nat → Int32) (K : Nat → Nat → Int64) (T : Nat → Int32) (n : Nat) (z : Tz) (N : Nat) (hE : Ev mN E) (hW : mW I A T n z) (h13 : I 0 13 = 2) (h0 : z.1 = 0) (hN : A 3 3 = nI N) (hNb : 2 * N ≤ 3 * z.2) : Met l yX7_sum (wz yX7_sum cX7_sum 2 none) (rmk 13 0 0 289) (va_Pc [.ref (eP E 0)] (Bw mN E mK (I, A, K))) (qWv mN E mK (fun uu => ∃ J B, gP I A T n N z (zSu T n 0 0 2 z).2 (fun am sc => (zSu T n am sc 2 z).1) J B ∧ uu = (J, B, K))) 0 0 (cA mN E) := by
  refine en_ofW RX7 rfl (by decide +kernel) (Nat.le_of_ble_eq_true rfl) ?_
  intro p e s m below meth c ls S hr hlk hnm hl hB
  have hx := S.1
  have hb := S.2.1
  obtain ⟨hK, hC, hP⟩ := hB
  have hS : va_S (cA mN E) s.heap s.heap [] := va_S.rf
  have hl : lv_has ls 2 [(0, .ref (eP E 0))] := hl
  obtain ⟨⟨hn3, hTT, hzn⟩, h5c, h5p, h5e⟩ := id hW
  have hn7 := hTT.1
  have hBn := tkB_le (T := T) hzn
  have hzl : z.2 ≤ 700 := Nat.le_trans hzn hn7
  refine lv_aload_n hx hb dX7_sum_0 rfl (lv_at hl 0 rfl) ?_
  refine cn_wv (ck_V (a := eP E 0) S lk_X7_122 (c_X7_term_2 l E I A K T n z N hE hW h13 h0 hN hNb) ⟨rfl, rfl⟩ ⟨Nat.le_of_ble_eq_true rfl, Nat.le_of_ble_eq_true rfl⟩ bl_w (rc_w hK hP 0 (by decide) rfl rfl) (bw_U hE hK hC hP hS) rfl hl.1 (Nat.le_of_ble_eq_true rfl) ⟨Nat.le_refl _, Nat.le_refl _⟩ dX7_sum_1 rfl) hS (fun u2 H locs g3 hP hS => ?_)
  obtain ⟨J4, B4, hg4, rfl⟩ : ∃ oj ob, gP I A T n N z (zTd T n 0 0 2 z).2 (fun am sc => (zTd T n am sc 2 z).1) oj ob ∧ u2 = (oj, ob, K) := g3
  have hP : Wp mN E mK (J4, B4, K) H := hP
  have HL : ∀ (cnt : Nat) (za : Tz) (f : Int32 → Int32 → Int32) (J B : Nat → Nat → Int32), n - za.2 ≤ cnt → gP I A T n N z za f J B → (∀ am sc, vR am → vR sc → vR (f am sc)) → (∀ am sc, zSl T n (zTd T n am sc 2) cnt (f am sc, za) = zSu T n am sc 2 z) → ∀ (H : Heap) (locs : List Loc), Wp mN E mK (J, B, K) H → va_S (cA mN E) s.heap H locs → ∀ ls : Array Slot, lv_has ls 2 [(0, .ref (eP E 0))] → W p l e (rmk 13 0 0 289) s m ([.ref (eP E 0)] : List Value).toArray below meth c H locs 0 0 (MQ below (qWv mN E mK (fun uu => ∃ J B, gP I A T n N z (zSu T n 0 0 2 z).2 (fun am sc => (zSu T n am sc 2 z).1) J B ∧ uu = (J, B, K))) ([.ref (eP E 0)] : List Value).toArray s 0 0 (cA mN E)) (F0 m 4 ls []) := by
    intro cnt
    induction cnt with
    | zero =>
      intro za f J B hm hg hfv hv H locs hP hS ls hl
      have hWa := hg.1.1.1
      have h5a : J 0 5 = za.1 := hWa.2.1
      have hzan := hWa.1.2.2
      have hTa := hWa.1.2.1
      refine lv_aload_n hx hb dX7_sum_4 rfl (lv_at hl 0 rfl) ?_
      refine cn_si (ck_V (a := eP E 0) S lk_X7_62 (c_X7_isGood l E J B K hE) ⟨rfl, rfl⟩ ⟨Nat.le_of_ble_eq_true rfl, Nat.le_of_ble_eq_true rfl⟩ bl_w (rc_w hK hP 0 (by decide) rfl rfl) (bw_U hE hK hC hP hS) rfl hl.1 (Nat.le_of_ble_eq_true rfl) ⟨Nat.le_refl _, Nat.le_refl _⟩ dX7_sum_5 rfl) (fun r5 g6 => ?_)
      obtain rfl : r5 = bI (decide (J 0 5 = 0)) := g6
      refine lv_if_eq (tgt := 74) hx hb dX7_sum_8 (by decide) (fun h8 => ?_) (fun h8 => ?_)
      · have hnz : ¬ za.1 = 0 := fun g => absurd (decide_eq_true (h5a.trans g)) (by rw [bI_f h8]; decide)
        exact re_wv (x := (J, B, K)) hx hb hr hlk hP hS ⟨J, B, gP_eq (fun am sc => (zSl_x (zS_c hnz) (zS_c hnz) _).symm.trans (hv am sc)) hg, rfl⟩ dX7_sum_74
      · have h0a : za.1 = 0 := h5a.symm.trans (of_decide_eq_true (bI_t h8))
        refine lv_aload_n hx hb dX7_sum_11 rfl (lv_at hl 0 rfl) ?_
        refine cn_wi (ck_V (a := eP E 0) S lk_X7_66 (c_X7_nextW l E J B K T n za hE hWa h0a) ⟨rfl, rfl⟩ ⟨Nat.le_of_ble_eq_true rfl, Nat.le_of_ble_eq_true rfl⟩ bl_w (rc_w hK hP 0 (by decide) rfl rfl) (bw_U hE hK hC hP hS) rfl hl.1 (Nat.le_of_ble_eq_true rfl) ⟨Nat.le_refl _, Nat.le_refl _⟩ dX7_sum_12 rfl) hS (fun r7 u8 H locs g9 hP hS => ?_)
        obtain ⟨rfl, rfl⟩ : r7 = (mBv B n (tkB T n za.2)) ∧ u8 = ((up2 J 0 4 (nI (tkB T n za.2))), B, K) := g9
        have hP : Wp mN E mK ((up2 J 0 4 (nI (tkB T n za.2))), B, K) H := hP
        refine lv_bipush (v := 43) hx hb dX7_sum_15 (by decide) ?_
        refine lv_icmp_eq (tgt := 29) hx hb dX7_sum_17 (by decide) (fun h17 => ?_) (fun h17 => ?_)
        · have q1 : zS T n 43 za = true := (zS_b (ch := 43) hTa h0a (by decide) (by decide)).mp h17
          have hsg := mW_sg (ch := 43) hWa (by decide) q1
          exact absurd (zS_e (ch := 43) (by decide) q1).2 (by have := tkB_ge (T := T) (n := n) (p := za.2); omega)
        · have q1 : zS T n 43 za = false := Bool.eq_false_iff.mpr (fun g => h17 ((zS_b (ch := 43) hTa h0a (by decide) (by decide)).mpr g))
          refine lv_aload_n hx hb dX7_sum_20 rfl (lv_at hl 0 rfl) ?_
          refine cn_wi (ck_V (a := eP E 0) S lk_X7_66 (c_X7_nextW l E (up2 J 0 4 (nI (tkB T n za.2))) B K T n za hE (mW_nx hWa h0a) h0a) ⟨rfl, rfl⟩ ⟨Nat.le_of_ble_eq_true rfl, Nat.le_of_ble_eq_true rfl⟩ bl_w (rc_w hK hP 0 (by decide) rfl rfl) (bw_U hE hK hC hP hS) rfl hl.1 (Nat.le_of_ble_eq_true rfl) ⟨Nat.le_refl _, Nat.le_refl _⟩ dX7_sum_21 rfl) hS (fun r10 u11 H locs g12 hP hS => ?_)
          obtain ⟨rfl, rfl⟩ : r10 = (mBv B n (tkB T n za.2)) ∧ u11 = ((up2 (up2 J 0 4 (nI (tkB T n za.2))) 0 4 (nI (tkB T n za.2))), B, K) := g12
          have hP : Wp mN E mK ((up2 (up2 J 0 4 (nI (tkB T n za.2))) 0 4 (nI (tkB T n za.2))), B, K) H := hP
          rw [up2_up] at hP
          have hP : Wp mN E mK ((up2 J 0 4 (nI (tkB T n za.2))), B, K) H := hP
          refine lv_bipush (v := 45) hx hb dX7_sum_24 (by decide) ?_
          refine lv_icmp_ne (tgt := 74) hx hb dX7_sum_26 (by decide) (fun h26 => ?_) (fun h26 => ?_)
          · have q2 : zS T n 45 za = false := Bool.eq_false_iff.mpr (fun g => h26 ((zS_b (ch := 45) hTa h0a (by decide) (by decide)).mpr g))
            exact re_wv (x := ((up2 J 0 4 (nI (tkB T n za.2))), B, K)) hx hb hr hlk hP hS ⟨_, B, gP_eq (fun am sc => (zSl_x q1 q2 _).symm.trans (hv am sc)) ⟨gB_u hg.1 h0a, hg.2⟩, rfl⟩ dX7_sum_74
          · have q2 : zS T n 45 za = true := (zS_b (ch := 45) hTa h0a (by decide) (by decide)).mp h26
            have hsg := mW_sg (ch := 45) hWa (by decide) q2
            exact absurd (zS_e (ch := 45) (by decide) q2).2 (by have := tkB_ge (T := T) (n := n) (p := za.2); omega)
    | succ cnt ih =>
      intro za f J B hm hg hfv hv H locs hP hS ls hl
      have hWa := hg.1.1.1
      have h5a : J 0 5 = za.1 := hWa.2.1
      have hzan := hWa.1.2.2
      have hTa := hWa.1.2.1
      refine lv_aload_n hx hb dX7_sum_4 rfl (lv_at hl 0 rfl) ?_
      refine cn_si (ck_V (a := eP E 0) S lk_X7_62 (c_X7_isGood l E J B K hE) ⟨rfl, rfl⟩ ⟨Nat.le_of_ble_eq_true rfl, Nat.le_of_ble_eq_true rfl⟩ bl_w (rc_w hK hP 0 (by decide) rfl rfl) (bw_U hE hK hC hP hS) rfl hl.1 (Nat.le_of_ble_eq_true rfl) ⟨Nat.le_refl _, Nat.le_refl _⟩ dX7_sum_5 rfl) (fun r13 g14 => ?_)
      obtain rfl : r13 = bI (decide (J 0 5 = 0)) := g14
      refine lv_if_eq (tgt := 74) hx hb dX7_sum_8 (by decide) (fun h8 => ?_) (fun h8 => ?_)
      · have hnz : ¬ za.1 = 0 := fun g => absurd (decide_eq_true (h5a.trans g)) (by rw [bI_f h8]; decide)
        exact re_wv (x := (J, B, K)) hx hb hr hlk hP hS ⟨J, B, gP_eq (fun am sc => (zSl_x (zS_c hnz) (zS_c hnz) _).symm.trans (hv am sc)) hg, rfl⟩ dX7_sum_74
      · have h0a : za.1 = 0 := h5a.symm.trans (of_decide_eq_true (bI_t h8))
        refine lv_aload_n hx hb dX7_sum_11 rfl (lv_at hl 0 rfl) ?_
        refine cn_wi (ck_V (a := eP E 0) S lk_X7_66 (c_X7_nextW l E J B K T n za hE hWa h0a) ⟨rfl, rfl⟩ ⟨Nat.le_of_ble_eq_true rfl, Nat.le_of_ble_eq_true rfl⟩ bl_w (rc_w hK hP 0 (by decide) rfl rfl) (bw_U hE hK hC hP hS) rfl hl.1 (Nat.le_of_ble_eq_true rfl) ⟨Nat.le_refl _, Nat.le_refl _⟩ dX7_sum_12 rfl) hS (fun r15 u16 H locs g17 hP hS => ?_)
        obtain ⟨rfl, rfl⟩ : r15 = (mBv B n (tkB T n za.2)) ∧ u16 = ((up2 J 0 4 (nI (tkB T n za.2))), B, K) := g17
        have hP : Wp mN E mK ((up2 J 0 4 (nI (tkB T n za.2))), B, K) H := hP
        refine lv_bipush (v := 43) hx hb dX7_sum_15 (by decide) ?_
        refine lv_icmp_eq (tgt := 29) hx hb dX7_sum_17 (by decide) (fun h17 => ?_) (fun h17 => ?_)
        · have q1 : zS T n 43 za = true := (zS_b (ch := 43) hTa h0a (by decide) (by decide)).mp h17
          have hsg := mW_sg (ch := 43) hWa (by decide) q1
          refine lv_aload_n hx hb dX7_sum_29 rfl (lv_at hl 0 rfl) ?_
          refine cn_wi (ck_V (a := eP E 0) S lk_X7_66 (c_X7_nextW l E (up2 J 0 4 (nI (tkB T n za.2))) B K T n za hE (mW_nx hWa h0a) h0a) ⟨rfl, rfl⟩ ⟨Nat.le_of_ble_eq_true rfl, Nat.le_of_ble_eq_true rfl⟩ bl_w (rc_w hK hP 0 (by decide) rfl rfl) (bw_U hE hK hC hP hS) rfl hl.1 (Nat.le_of_ble_eq_true rfl) ⟨Nat.le_refl _, Nat.le_refl _⟩ dX7_sum_30 rfl) hS (fun r18 u19 H locs g20 hP hS => ?_)
          obtain ⟨rfl, rfl⟩ : r18 = (mBv B n (tkB T n za.2)) ∧ u19 = ((up2 (up2 J 0 4 (nI (tkB T n za.2))) 0 4 (nI (tkB T n za.2))), B, K) := g20
          have hP : Wp mN E mK ((up2 (up2 J 0 4 (nI (tkB T n za.2))) 0 4 (nI (tkB T n za.2))), B, K) H := hP
          rw [up2_up] at hP
          have hP : Wp mN E mK ((up2 J 0 4 (nI (tkB T n za.2))), B, K) H := hP
          refine lv_bipush (v := 43) hx hb dX7_sum_33 (by decide) ?_
          refine lv_icmp_ne (tgt := 42) hx hb dX7_sum_35 (by decide) (fun h35 => absurd h35 (fun g => g h17)) (fun h35 => ?_)
          refine lv_iconst (v := 1) hx hb dX7_sum_38 (by decide) ?_
          refine lv_goto (tgt := 43) hx hb dX7_sum_39 (by decide) ?_
          refine lv_istore_n (lv' := [(1, .int 1), (0, .ref (eP E 0))]) hx hb dX7_sum_43 rfl hl (by decide) rfl (fun ls hl => ?_)
          refine lv_aload_n hx hb dX7_sum_44 rfl (lv_at hl 1 rfl) ?_
          refine lv_dup hx hb dX7_sum_45 rfl ?_
          refine rw_geti (x := ((up2 J 0 4 (nI (tkB T n za.2))), B, K)) (v := (nI (tkB T n za.2))) S hK hP 0 (by decide) rfl fk_X7_45 rfl (up2_eq (f := J) (q := 0) (j := 4) (v := (nI (tkB T n za.2)))) dX7_sum_46 ?_
          refine lv_iconst (v := 1) hx hb dX7_sum_49 (by decide) ?_
          refine lv_iadd hx hb dX7_sum_50 ?_
          refine tp_i (y := nI ((tkB T n za.2) + 1)) (nI_add (tkB T n za.2) 1) ?_
          refine rw_puti (x := ((up2 J 0 4 (nI (tkB T n za.2))), B, K)) (v := (nI ((tkB T n za.2) + 1))) S hE hK hP hS 0 (by decide) rfl fk_X7_45 rfl tyX7_ok nmX7 ⟨rfl, by decide +kernel⟩ dX7_sum_51 (fun H locs hP hS => ?_)
          have hP : Wp mN E mK ((up2 (up2 J 0 4 (nI (tkB T n za.2))) 0 4 (nI ((tkB T n za.2) + 1))), B, K) H := hP
          rw [up2_up] at hP
          have hP : Wp mN E mK ((up2 J 0 4 (nI (tkB T n za.2 + 1))), B, K) H := hP
          obtain ⟨M, hM⟩ := hg.2 h0a
          refine lv_aload_n hx hb dX7_sum_54 rfl (lv_at hl 1 rfl) ?_
          refine cn_wv (ck_V (a := eP E 0) S lk_X7_122 (c_X7_term_2 l E (up2 J 0 4 (nI (tkB T n za.2 + 1))) B K T n (zA T n za) M hE hsg.1 ((hg.1.1.2 0 13 (by decide)).trans h13) hsg.2.2 hM.1 (by have := hM.2.1; have := hsg.2.1; omega)) ⟨rfl, rfl⟩ ⟨Nat.le_of_ble_eq_true rfl, Nat.le_of_ble_eq_true rfl⟩ bl_w (rc_w hK hP 0 (by decide) rfl rfl) (bw_U hE hK hC hP hS) rfl hl.1 (Nat.le_of_ble_eq_true rfl) ⟨Nat.le_refl _, Nat.le_refl _⟩ dX7_sum_55 rfl) hS (fun u22 H locs g23 hP hS => ?_)
          obtain ⟨J24, B24, hg24, rfl⟩ : ∃ oj ob, gP (up2 J 0 4 (nI (tkB T n za.2 + 1))) B T n M (zA T n za) (zTd T n 0 0 2 (zA T n za)).2 (fun am sc => (zTd T n am sc 2 (zA T n za)).1) oj ob ∧ u22 = (oj, ob, K) := g23
          have hP : Wp mN E mK (J24, B24, K) H := hP
          by_cases hz9 : (zTd T n 0 0 2 (zA T n za)).2.1 = 0
          · obtain ⟨M2, hM2⟩ := hg24.2 hz9
            refine lv_aload_n hx hb dX7_sum_58 rfl (lv_at hl 1 rfl) ?_
            refine lv_iload_n hx hb dX7_sum_59 rfl (lv_at hl 0 rfl) ?_
            refine lv_if_eq (tgt := 67) hx hb dX7_sum_60 (by decide) (fun h60 => absurd h60 (by decide)) (fun h60 => ?_)
            refine lv_iconst (v := 2) hx hb dX7_sum_63 (by decide) ?_
            refine lv_goto (tgt := 68) hx hb dX7_sum_64 (by decide) ?_
            refine cn_wv (ck_V (a := eP E 0) S lk_X7_116 (c_X7_emit l E J24 B24 K 2 M2 hE (hg24.1.1.1.2.1.trans hz9) hM2.1 (by have := hM.2.1; have := hM2.2.1; have := hsg.2.1; have := hg24.1.1.1.1.2.2; omega)) ⟨rfl, rfl⟩ ⟨Nat.le_of_ble_eq_true rfl, Nat.le_of_ble_eq_true rfl⟩ bl_w (rc_w hK hP 0 (by decide) rfl rfl) (bw_U hE hK hC hP hS) rfl hl.1 (Nat.le_of_ble_eq_true rfl) ⟨Nat.le_refl _, Nat.le_refl _⟩ dX7_sum_68 rfl) hS (fun u26 H locs g27 hP hS => ?_)
            obtain rfl : u26 = (J24, (mEm B24 M2 2), K) := g27
            have hP : Wp mN E mK (J24, (mEm B24 M2 2), K) H := hP
            refine lv_goto (tgt := 4) hx hb dX7_sum_71 (by decide) ?_
            exact ih _ (fun am sc => pLim (f am sc + (zTd T n am sc 2 (zA T n za)).1) (-1000000) 1000000) _ _ (by have h9 := hsg.2.1; have h8 := zGe_Td (T := T) (n := n) (sz := 0) (sc := 0) 2 (zA T n za); omega) (⟨gB_tr hg.1 (rP_u rP_rf (Or.inl rfl)) (gB_em hg24.1), fun _ => ⟨_, gM_op hM hsg.2.1 hM2 (by decide) (fun am sc h1 h2 => (op_add (hfv am sc h1 h2) (vR_Td h1 h2 2 _)).1)⟩⟩) (fun am sc h1 h2 => vR_lim) (fun am sc => (show zSl T n (zTd T n am sc 2) cnt (pLim (f am sc + (zTd T n am sc 2 (zA T n za)).1) (-1000000) 1000000, (zTd T n 0 0 2 (zA T n za)).2) = _ from (by rw [zTd_i (a := 0) (b := 0) am sc 2 (zA T n za)]; exact (zSl_m q1).symm.trans (hv am sc)))) _ _ hP hS ls (lv_sub hl [1] rfl)
          · refine lv_aload_n hx hb dX7_sum_58 rfl (lv_at hl 1 rfl) ?_
            refine lv_iload_n hx hb dX7_sum_59 rfl (lv_at hl 0 rfl) ?_
            refine lv_if_eq (tgt := 67) hx hb dX7_sum_60 (by decide) (fun h60 => absurd h60 (by decide)) (fun h60 => ?_)
            refine lv_iconst (v := 2) hx hb dX7_sum_63 (by decide) ?_
            refine lv_goto (tgt := 68) hx hb dX7_sum_64 (by decide) ?_
            refine cn_wv (ck_V (a := eP E 0) S lk_X7_116 (c_X7_emit_bad l E J24 B24 K 2 hE (fun g => hz9 (hg24.1.1.1.2.1.symm.trans g))) ⟨rfl, rfl⟩ ⟨Nat.le_of_ble_eq_true rfl, Nat.le_of_ble_eq_true rfl⟩ bl_w (rc_w hK hP 0 (by decide) rfl rfl) (bw_U hE hK hC hP hS) rfl hl.1 (Nat.le_of_ble_eq_true rfl) ⟨Nat.le_refl _, Nat.le_refl _⟩ dX7_sum_68 rfl) hS (fun u29 H locs g30 hP hS => ?_)
            obtain rfl : u29 = (J24, B24, K) := g30
            have hP : Wp mN E mK (J24, B24, K) H := hP
            refine lv_goto (tgt := 4) hx hb dX7_sum_71 (by decide) ?_
            exact ih _ (fun am sc => pLim (f am sc + (zTd T n am sc 2 (zA T n za)).1) (-1000000) 1000000) _ _ (by have h9 := hsg.2.1; have h8 := zGe_Td (T := T) (n := n) (sz := 0) (sc := 0) 2 (zA T n za); omega) (gP_bad hz9 (gB_tr hg.1 (rP_u rP_rf (Or.inl rfl)) hg24.1)) (fun am sc h1 h2 => vR_lim) (fun am sc => (show zSl T n (zTd T n am sc 2) cnt (pLim (f am sc + (zTd T n am sc 2 (zA T n za)).1) (-1000000) 1000000, (zTd T n 0 0 2 (zA T n za)).2) = _ from (by rw [zTd_i (a := 0) (b := 0) am sc 2 (zA T n za)]; exact (zSl_m q1).symm.trans (hv am sc)))) _ _ hP hS ls (lv_sub hl [1] rfl)
        · have q1 : zS T n 43 za = false := Bool.eq_false_iff.mpr (fun g => h17 ((zS_b (ch := 43) hTa h0a (by decide) (by decide)).mpr g))
          refine lv_aload_n hx hb dX7_sum_20 rfl (lv_at hl 0 rfl) ?_
          refine cn_wi (ck_V (a := eP E 0) S lk_X7_66 (c_X7_nextW l E (up2 J 0 4 (nI (tkB T n za.2))) B K T n za hE (mW_nx hWa h0a) h0a) ⟨rfl, rfl⟩ ⟨Nat.le_of_ble_eq_true rfl, Nat.le_of_ble_eq_true rfl⟩ bl_w (rc_w hK hP 0 (by decide) rfl rfl) (bw_U hE hK hC hP hS) rfl hl.1 (Nat.le_of_ble_eq_true rfl) ⟨Nat.le_refl _, Nat.le_refl _⟩ dX7_sum_21 rfl) hS (fun r31 u32 H locs g33 hP hS => ?_)
          obtain ⟨rfl, rfl⟩ : r31 = (mBv B n (tkB T n za.2)) ∧ u32 = ((up2 (up2 J 0 4 (nI (tkB T n za.2))) 0 4 (nI (tkB T n za.2))), B, K) := g33
          have hP : Wp mN E mK ((up2 (up2 J 0 4 (nI (tkB T n za.2))) 0 4 (nI (tkB T n za.2))), B, K) H := hP
          rw [up2_up] at hP
          have hP : Wp mN E mK ((up2 J 0 4 (nI (tkB T n za.2))), B, K) H := hP
          refine lv_bipush (v := 45) hx hb dX7_sum_24 (by decide) ?_
          refine lv_icmp_ne (tgt := 74) hx hb dX7_sum_26 (by decide) (fun h26 => ?_) (fun h26 => ?_)
          · have q2 : zS T n 45 za = false := Bool.eq_false_iff.mpr (fun g => h26 ((zS_b (ch := 45) hTa h0a (by decide) (by decide)).mpr g))
            exact re_wv (x := ((up2 J 0 4 (nI (tkB T n za.2))), B, K)) hx hb hr hlk hP hS ⟨_, B, gP_eq (fun am sc => (zSl_x q1 q2 _).symm.trans (hv am sc)) ⟨gB_u hg.1 h0a, hg.2⟩, rfl⟩ dX7_sum_74
          · have q2 : zS T n 45 za = true := (zS_b (ch := 45) hTa h0a (by decide) (by decide)).mp h26
            have hsg := mW_sg (ch := 45) hWa (by decide) q2
            refine lv_aload_n hx hb dX7_sum_29 rfl (lv_at hl 0 rfl) ?_
            refine cn_wi (ck_V (a := eP E 0) S lk_X7_66 (c_X7_nextW l E (up2 J 0 4 (nI (tkB T n za.2))) B K T n za hE (mW_nx hWa h0a) h0a) ⟨rfl, rfl⟩ ⟨Nat.le_of_ble_eq_true rfl, Nat.le_of_ble_eq_true rfl⟩ bl_w (rc_w hK hP 0 (by decide) rfl rfl) (bw_U hE hK hC hP hS) rfl hl.1 (Nat.le_of_ble_eq_true rfl) ⟨Nat.le_refl _, Nat.le_refl _⟩ dX7_sum_30 rfl) hS (fun r34 u35 H locs g36 hP hS => ?_)
            obtain ⟨rfl, rfl⟩ : r34 = (mBv B n (tkB T n za.2)) ∧ u35 = ((up2 (up2 J 0 4 (nI (tkB T n za.2))) 0 4 (nI (tkB T n za.2))), B, K) := g36
            have hP : Wp mN E mK ((up2 (up2 J 0 4 (nI (tkB T n za.2))) 0 4 (nI (tkB T n za.2))), B, K) H := hP
            rw [up2_up] at hP
            have hP : Wp mN E mK ((up2 J 0 4 (nI (tkB T n za.2))), B, K) H := hP
            refine lv_bipush (v := 43) hx hb dX7_sum_33 (by decide) ?_
            refine lv_icmp_ne (tgt := 42) hx hb dX7_sum_35 (by decide) (fun h35 => ?_) (fun h35 => absurd h35 (show ¬ mBv B n (tkB T n za.2) = 43 from h17))
            refine lv_iconst (v := 0) hx hb dX7_sum_42 (by decide) ?_
            refine lv_istore_n (lv' := [(1, .int 0), (0, .ref (eP E 0))]) hx hb dX7_sum_43 rfl hl (by decide) rfl (fun ls hl => ?_)
            refine lv_aload_n hx hb dX7_sum_44 rfl (lv_at hl 1 rfl) ?_
            refine lv_dup hx hb dX7_sum_45 rfl ?_
            refine rw_geti (x := ((up2 J 0 4 (nI (tkB T n za.2))), B, K)) (v := (nI (tkB T n za.2))) S hK hP 0 (by decide) rfl fk_X7_45 rfl (up2_eq (f := J) (q := 0) (j := 4) (v := (nI (tkB T n za.2)))) dX7_sum_46 ?_
            refine lv_iconst (v := 1) hx hb dX7_sum_49 (by decide) ?_
            refine lv_iadd hx hb dX7_sum_50 ?_
            refine tp_i (y := nI ((tkB T n za.2) + 1)) (nI_add (tkB T n za.2) 1) ?_
            refine rw_puti (x := ((up2 J 0 4 (nI (tkB T n za.2))), B, K)) (v := (nI ((tkB T n za.2) + 1))) S hE hK hP hS 0 (by decide) rfl fk_X7_45 rfl tyX7_ok nmX7 ⟨rfl, by decide +kernel⟩ dX7_sum_51 (fun H locs hP hS => ?_)
            have hP : Wp mN E mK ((up2 (up2 J 0 4 (nI (tkB T n za.2))) 0 4 (nI ((tkB T n za.2) + 1))), B, K) H := hP
            rw [up2_up] at hP
            have hP : Wp mN E mK ((up2 J 0 4 (nI (tkB T n za.2 + 1))), B, K) H := hP
            obtain ⟨M, hM⟩ := hg.2 h0a
            refine lv_aload_n hx hb dX7_sum_54 rfl (lv_at hl 1 rfl) ?_
            refine cn_wv (ck_V (a := eP E 0) S lk_X7_122 (c_X7_term_2 l E (up2 J 0 4 (nI (tkB T n za.2 + 1))) B K T n (zA T n za) M hE hsg.1 ((hg.1.1.2 0 13 (by decide)).trans h13) hsg.2.2 hM.1 (by have := hM.2.1; have := hsg.2.1; omega)) ⟨rfl, rfl⟩ ⟨Nat.le_of_ble_eq_true rfl, Nat.le_of_ble_eq_true rfl⟩ bl_w (rc_w hK hP 0 (by decide) rfl rfl) (bw_U hE hK hC hP hS) rfl hl.1 (Nat.le_of_ble_eq_true rfl) ⟨Nat.le_refl _, Nat.le_refl _⟩ dX7_sum_55 rfl) hS (fun u38 H locs g39 hP hS => ?_)
            obtain ⟨J40, B40, hg40, rfl⟩ : ∃ oj ob, gP (up2 J 0 4 (nI (tkB T n za.2 + 1))) B T n M (zA T n za) (zTd T n 0 0 2 (zA T n za)).2 (fun am sc => (zTd T n am sc 2 (zA T n za)).1) oj ob ∧ u38 = (oj, ob, K) := g39
            have hP : Wp mN E mK (J40, B40, K) H := hP
            by_cases hz9 : (zTd T n 0 0 2 (zA T n za)).2.1 = 0
            · obtain ⟨M2, hM2⟩ := hg40.2 hz9
              refine lv_aload_n hx hb dX7_sum_58 rfl (lv_at hl 1 rfl) ?_
              refine lv_iload_n hx hb dX7_sum_59 rfl (lv_at hl 0 rfl) ?_
              refine lv_if_eq (tgt := 67) hx hb dX7_sum_60 (by decide) (fun h60 => ?_) (fun h60 => absurd (by decide) h60)
              refine lv_iconst (v := 3) hx hb dX7_sum_67 (by decide) ?_
              refine cn_wv (ck_V (a := eP E 0) S lk_X7_116 (c_X7_emit l E J40 B40 K 3 M2 hE (hg40.1.1.1.2.1.trans hz9) hM2.1 (by have := hM.2.1; have := hM2.2.1; have := hsg.2.1; have := hg40.1.1.1.1.2.2; omega)) ⟨rfl, rfl⟩ ⟨Nat.le_of_ble_eq_true rfl, Nat.le_of_ble_eq_true rfl⟩ bl_w (rc_w hK hP 0 (by decide) rfl rfl) (bw_U hE hK hC hP hS) rfl hl.1 (Nat.le_of_ble_eq_true rfl) ⟨Nat.le_refl _, Nat.le_refl _⟩ dX7_sum_68 rfl) hS (fun u42 H locs g43 hP hS => ?_)
              obtain rfl : u42 = (J40, (mEm B40 M2 3), K) := g43
              have hP : Wp mN E mK (J40, (mEm B40 M2 3), K) H := hP
              refine lv_goto (tgt := 4) hx hb dX7_sum_71 (by decide) ?_
              exact ih _ (fun am sc => pLim (f am sc - (zTd T n am sc 2 (zA T n za)).1) (-1000000) 1000000) _ _ (by have h9 := hsg.2.1; have h8 := zGe_Td (T := T) (n := n) (sz := 0) (sc := 0) 2 (zA T n za); omega) (⟨gB_tr hg.1 (rP_u rP_rf (Or.inl rfl)) (gB_em hg40.1), fun _ => ⟨_, gM_op hM hsg.2.1 hM2 (by decide) (fun am sc h1 h2 => (op_sub (hfv am sc h1 h2) (vR_Td h1 h2 2 _)).1)⟩⟩) (fun am sc h1 h2 => vR_lim) (fun am sc => (show zSl T n (zTd T n am sc 2) cnt (pLim (f am sc - (zTd T n am sc 2 (zA T n za)).1) (-1000000) 1000000, (zTd T n 0 0 2 (zA T n za)).2) = _ from (by rw [zTd_i (a := 0) (b := 0) am sc 2 (zA T n za)]; exact (zSl_d q1 q2).symm.trans (hv am sc)))) _ _ hP hS ls (lv_sub hl [1] rfl)
            · refine lv_aload_n hx hb dX7_sum_58 rfl (lv_at hl 1 rfl) ?_
              refine lv_iload_n hx hb dX7_sum_59 rfl (lv_at hl 0 rfl) ?_
              refine lv_if_eq (tgt := 67) hx hb dX7_sum_60 (by decide) (fun h60 => ?_) (fun h60 => absurd (by decide) h60)
              refine lv_iconst (v := 3) hx hb dX7_sum_67 (by decide) ?_
              refine cn_wv (ck_V (a := eP E 0) S lk_X7_116 (c_X7_emit_bad l E J40 B40 K 3 hE (fun g => hz9 (hg40.1.1.1.2.1.symm.trans g))) ⟨rfl, rfl⟩ ⟨Nat.le_of_ble_eq_true rfl, Nat.le_of_ble_eq_true rfl⟩ bl_w (rc_w hK hP 0 (by decide) rfl rfl) (bw_U hE hK hC hP hS) rfl hl.1 (Nat.le_of_ble_eq_true rfl) ⟨Nat.le_refl _, Nat.le_refl _⟩ dX7_sum_68 rfl) hS (fun u45 H locs g46 hP hS => ?_)
              obtain rfl : u45 = (J40, B40, K) := g46
              have hP : Wp mN E mK (J40, B40, K) H := hP
              refine lv_goto (tgt := 4) hx hb dX7_sum_71 (by decide) ?_
              exact ih _ (fun am sc => pLim (f am sc - (zTd T n am sc 2 (zA T n za)).1) (-1000000) 1000000) _ _ (by have h9 := hsg.2.1; have h8 := zGe_Td (T := T) (n := n) (sz := 0) (sc := 0) 2 (zA T n za); omega) (gP_bad hz9 (gB_tr hg.1 (rP_u rP_rf (Or.inl rfl)) hg40.1)) (fun am sc h1 h2 => vR_lim) (fun am sc => (show zSl T n (zTd T n am sc 2) cnt (pLim (f am sc - (zTd T n am sc 2 (zA T n za)).1) (-1000000) 1000000, (zTd T n 0 0 2 (zA T n za)).2) = _ from (by rw [zTd_i (a := 0) (b := 0) am sc 2 (zA T n za)]; exact (zSl_d q1 q2).symm.trans (hv am sc)))) _ _ hP hS ls (lv_sub hl [1] rfl)
  exact HL 700 _ (fun am sc => (zTd T n am sc 2 z).1) _ _ (by omega) hg4 (fun am sc h1 h2 => vR_Td h1 h2 2 z) (fun am sc => (congrArg (zSl T n (zTd T n am sc 2) 700) (show ((zTd T n am sc 2 z).1, (zTd T n 0 0 2 z).2) = zTd T n am sc 2 z from by rw [zTd_i am sc 2 z])).trans zSu_e.symm) _ _ hP hS ls (lv_sub hl [0] rfl)

set_option maxHeartbeats 1000000 in
set_option maxRecDepth 100000 in
theorem c_X7_factor_3 (l : Launch) (E : En) (I A : Nat → Nat → Int32) (K : Nat → Nat → Int64) (T : Nat → Int32) (n : Nat) (z : Tz) (N : Nat) (hE : Ev mN E) (hW : mW I A T n z) (h13 : I 0 13 = 1) (h0 : z.1 = 0) (hN : A 3 3 = nI N) (hNb : 2 * N ≤ 3 * z.2) : Met l yX7_factor (wz yX7_factor cX7_factor 4 none) (rmk 14 0 0 310) (va_Pc [.ref (eP E 0)] (Bw mN E mK (I, A, K))) (qWv mN E mK (fun uu => ∃ J B, gP I A T n N z (zFd T n 0 0 3 z).2 (fun am sc => (zFd T n am sc 3 z).1) J B ∧ uu = (J, B, K))) 0 0 (cA mN E) := by
  refine en_ofW RX7 rfl (by decide +kernel) (Nat.le_of_ble_eq_true rfl) ?_
  intro p e s m below meth c ls S hr hlk hnm hl hB
  have hx := S.1
  have hb := S.2.1
  obtain ⟨hK, hC, hP⟩ := hB
  have hS : va_S (cA mN E) s.heap s.heap [] := va_S.rf
  have hl : lv_has ls 4 [(0, .ref (eP E 0))] := hl
  obtain ⟨⟨hn3, hTT, hzn⟩, h5c, h5p, h5e⟩ := id hW
  have hn7 := hTT.1
  have hBn := tkB_le (T := T) hzn
  have hzl : z.2 ≤ 700 := Nat.le_trans hzn hn7
  refine lv_aload_n hx hb dX7_factor_0 rfl (lv_at hl 0 rfl) ?_
  refine cn_si (ck_V (a := eP E 0) S lk_X7_62 (c_X7_isGood l E I A K hE) ⟨rfl, rfl⟩ ⟨Nat.le_of_ble_eq_true rfl, Nat.le_of_ble_eq_true rfl⟩ bl_w (rc_w hK hP 0 (by decide) rfl rfl) (bw_U hE hK hC hP hS) rfl hl.1 (Nat.le_of_ble_eq_true rfl) ⟨Nat.le_refl _, Nat.le_refl _⟩ dX7_factor_1 rfl) (fun r1 g2 => ?_)
  obtain rfl : r1 = bI (decide (I 0 5 = 0)) := g2
  refine lv_if_ne (tgt := 8) hx hb dX7_factor_4 (by decide) (fun h4 => ?_) (fun h4 => absurd h4 (show ¬ bI (decide (I 0 5 = 0)) = 0 from by rw [decide_eq_true (h5c.trans h0)]; decide))
  refine lv_aload_n hx hb dX7_factor_8 rfl (lv_at hl 0 rfl) ?_
  refine cn_wi (ck_V (a := eP E 0) S lk_X7_66 (c_X7_nextW l E I A K T n z hE hW h0) ⟨rfl, rfl⟩ ⟨Nat.le_of_ble_eq_true rfl, Nat.le_of_ble_eq_true rfl⟩ bl_w (rc_w hK hP 0 (by decide) rfl rfl) (bw_U hE hK hC hP hS) rfl hl.1 (Nat.le_of_ble_eq_true rfl) ⟨Nat.le_refl _, Nat.le_refl _⟩ dX7_factor_9 rfl) hS (fun r3 u4 H locs g5 hP hS => ?_)
  obtain ⟨rfl, rfl⟩ : r3 = (mBv A n (tkB T n z.2)) ∧ u4 = ((up2 I 0 4 (nI (tkB T n z.2))), A, K) := g5
  have hP : Wp mN E mK ((up2 I 0 4 (nI (tkB T n z.2))), A, K) H := hP
  refine lv_istore_n (lv' := [(1, .int (mBv A n (tkB T n z.2))), (0, .ref (eP E 0))]) hx hb dX7_factor_12 rfl hl (by decide) rfl (fun ls hl => ?_)
  refine lv_iload_n hx hb dX7_factor_13 rfl (lv_at hl 0 rfl) ?_
  refine lv_bipush (v := 40) hx hb dX7_factor_14 (by decide) ?_
  refine lv_icmp_ne (tgt := 78) hx hb dX7_factor_16 (by decide) (fun h16 => ?_) (fun h16 => ?_)
  · have q4 : zS T n 40 z = false := Bool.eq_false_iff.mpr (fun g => h16 ((zS_b (ch := 40) hTT h0 (by decide) (by decide)).mpr g))
    refine lv_iload_n hx hb dX7_factor_78 rfl (lv_at hl 0 rfl) ?_
    refine cn_si (ck_S S lk_X7_83 (c_X7_isDigit l (mBv A n (tkB T n z.2))) ⟨rfl, rfl⟩ ⟨Nat.le_of_ble_eq_true rfl, Nat.le_of_ble_eq_true rfl⟩ bl_T t_U rfl hl.1 (Nat.le_of_ble_eq_true rfl) ⟨Nat.le_refl _, Nat.le_refl _⟩ dX7_factor_79 rfl) (fun r6 g7 => ?_)
    obtain rfl : r6 = rIn (mBv A n (tkB T n z.2)) 48 57 := g7
    refine lv_if_eq (tgt := 89) hx hb dX7_factor_82 (by decide) (fun h82 => ?_) (fun h82 => ?_)
    · have q1 : zN T n z = false := (zN_d hTT h0).mp h82
      refine lv_aload_n hx hb dX7_factor_89 rfl (lv_at hl 1 rfl) ?_
      refine va_ldcS (q := eS E 16) (tx := "size") hx hb S.2.2.2.1 (tr_16 hC.1.2.1) dX7_factor_90 ?_
      refine cn_wi (ck_V (a := eP E 0) S lk_X7_107 (c_X7_takeWord l E (up2 I 0 4 (nI (tkB T n z.2))) A K T n z 16 hE (mW_nx hW h0) (by decide)) ⟨rfl, rfl⟩ ⟨Nat.le_of_ble_eq_true rfl, Nat.le_of_ble_eq_true rfl⟩ bl_w (rc_w hK hP 0 (by decide) rfl rfl) (bw_U hE hK hC hP hS) rfl hl.1 (Nat.le_of_ble_eq_true rfl) ⟨Nat.le_refl _, Nat.le_refl _⟩ dX7_factor_92 rfl) hS (fun r8 u9 H locs g10 hP hS => ?_)
      obtain ⟨rfl, J11, hW11, hp11, rfl⟩ : r8 = bI (zW T n (tw 16) z) ∧ (∃ oj, mW oj A T n (zPW T n (tw 16) z) ∧ rP (up2 I 0 4 (nI (tkB T n z.2))) oj ∧ u9 = (oj, A, K)) := g10
      have hP : Wp mN E mK (J11, A, K) H := hP
      refine lv_if_eq (tgt := 102) hx hb dX7_factor_95 (by decide) (fun h95 => ?_) (fun h95 => ?_)
      · have q2 : zW T n (tw 7) z = false := by rw [← tw_16]; exact bI_f h95
        rw [tw_16, zPW_f q2] at hW11
        have hr2 := rP_tr (rP_u rP_rf (Or.inl rfl)) hp11
        refine lv_aload_n hx hb dX7_factor_102 rfl (lv_at hl 1 rfl) ?_
        refine va_ldcS (q := eS E 9) (tx := "scheme") hx hb S.2.2.2.1 (tr_9 hC.1.2.1) dX7_factor_103 ?_
        refine cn_wi (ck_V (a := eP E 0) S lk_X7_107 (c_X7_takeWord l E J11 A K T n z 9 hE hW11 (by decide)) ⟨rfl, rfl⟩ ⟨Nat.le_of_ble_eq_true rfl, Nat.le_of_ble_eq_true rfl⟩ bl_w (rc_w hK hP 0 (by decide) rfl rfl) (bw_U hE hK hC hP hS) rfl hl.1 (Nat.le_of_ble_eq_true rfl) ⟨Nat.le_refl _, Nat.le_refl _⟩ dX7_factor_105 rfl) hS (fun r12 u13 H locs g14 hP hS => ?_)
        obtain ⟨rfl, J15, hW15, hp15, rfl⟩ : r12 = bI (zW T n (tw 9) z) ∧ (∃ oj, mW oj A T n (zPW T n (tw 9) z) ∧ rP J11 oj ∧ u13 = (oj, A, K)) := g14
        have hP : Wp mN E mK (J15, A, K) H := hP
        refine lv_if_eq (tgt := 115) hx hb dX7_factor_108 (by decide) (fun h108 => ?_) (fun h108 => ?_)
        · have q3 : zW T n (tw 8) z = false := by rw [← tw_9]; exact bI_f h108
          rw [tw_9, zPW_f q3] at hW15
          have hr3 := rP_tr hr2 hp15
          refine lv_iconst (v := (-1)) hx hb dX7_factor_115 (by decide) ?_
          refine lv_istore_n (lv' := [(2, .int (-1)), (1, .int (mBv A n (tkB T n z.2))), (0, .ref (eP E 0))]) hx hb dX7_factor_116 rfl hl (by decide) rfl (fun ls hl => ?_)
          refine lv_iload_n hx hb dX7_factor_117 rfl (lv_at hl 0 rfl) ?_
          refine lv_if_ge (tgt := 132) hx hb dX7_factor_118 (by decide) (fun h118 => absurd h118 (by decide)) (fun h118 => ?_)
          refine lv_aload_n hx hb dX7_factor_121 rfl (lv_at hl 2 rfl) ?_
          refine lv_iconst (v := 0) hx hb dX7_factor_122 (by decide) ?_
          refine lv_sipush (v := 9999) hx hb dX7_factor_123 (by decide) ?_
          refine cn_wi (ck_V (a := eP E 0) S lk_X7_113 (c_X7_number l E J15 A K T n z 0 9999 hE hW15) ⟨rfl, rfl⟩ ⟨Nat.le_of_ble_eq_true rfl, Nat.le_of_ble_eq_true rfl⟩ bl_w (rc_w hK hP 0 (by decide) rfl rfl) (bw_U hE hK hC hP hS) rfl hl.1 (Nat.le_of_ble_eq_true rfl) ⟨Nat.le_refl _, Nat.le_refl _⟩ dX7_factor_126 rfl) hS (fun r16 u17 H locs g18 hP hS => ?_)
          obtain ⟨J19, hW19, hp19, hn19, hv19, rfl⟩ : ∃ oj, mW oj A T n (zNz T n 0 9999 z) ∧ rP J15 oj ∧ (zN T n z = true → oj 0 12 = nI (tkB T n z.2)) ∧ ((zNz T n 0 9999 z).1 = 0 → r16 = zNv T n 0 9999 z) ∧ u17 = (oj, A, K) := g18
          have hP : Wp mN E mK (J19, A, K) H := hP
          have hrN := rP_tr hr3 hp19
          by_cases hz9 : (zNz T n 0 9999 z).1 = 0
          · refine tp_i (y := zNv T n 0 9999 z) (hv19 hz9) ?_
            refine lv_goto (tgt := 133) hx hb dX7_factor_129 (by decide) ?_
            refine lv_istore_n (lv' := [(3, .int (zNv T n 0 9999 z)), (2, .int (-1)), (1, .int (mBv A n (tkB T n z.2))), (0, .ref (eP E 0))]) hx hb dX7_factor_133 rfl hl (by decide) rfl (fun ls hl => ?_)
            refine lv_aload_n hx hb dX7_factor_134 rfl (lv_at hl 3 rfl) ?_
            refine lv_iload_n hx hb dX7_factor_135 rfl (lv_at hl 1 rfl) ?_
            refine lv_if_ge (tgt := 143) hx hb dX7_factor_136 (by decide) (fun h136 => absurd h136 (by decide)) (fun h136 => ?_)
            refine lv_iconst (v := 0) hx hb dX7_factor_139 (by decide) ?_
            refine lv_goto (tgt := 144) hx hb dX7_factor_140 (by decide) ?_
            refine cn_wv (ck_V (a := eP E 0) S lk_X7_116 (c_X7_emit l E J19 A K 0 N hE (hW19.2.1.trans hz9) hN (by omega)) ⟨rfl, rfl⟩ ⟨Nat.le_of_ble_eq_true rfl, Nat.le_of_ble_eq_true rfl⟩ bl_w (rc_w hK hP 0 (by decide) rfl rfl) (bw_U hE hK hC hP hS) rfl hl.1 (Nat.le_of_ble_eq_true rfl) ⟨Nat.le_refl _, Nat.le_refl _⟩ dX7_factor_144 rfl) hS (fun u21 H locs g22 hP hS => ?_)
            obtain rfl : u21 = (J19, (mEm A N 0), K) := g22
            have hP : Wp mN E mK (J19, (mEm A N 0), K) H := hP
            refine lv_aload_n hx hb dX7_factor_147 rfl (lv_at hl 3 rfl) ?_
            refine lv_iload_n hx hb dX7_factor_148 rfl (lv_at hl 0 rfl) ?_
            refine cn_wv (ck_V (a := eP E 0) S lk_X7_116 (c_X7_emit l E J19 (mEm A N 0) K (zNv T n 0 9999 z) (N + 1) hE (hW19.2.1.trans hz9) mEm_3 (by omega)) ⟨rfl, rfl⟩ ⟨Nat.le_of_ble_eq_true rfl, Nat.le_of_ble_eq_true rfl⟩ bl_w (rc_w hK hP 0 (by decide) rfl rfl) (bw_U hE hK hC hP hS) rfl hl.1 (Nat.le_of_ble_eq_true rfl) ⟨Nat.le_refl _, Nat.le_refl _⟩ dX7_factor_149 rfl) hS (fun u24 H locs g25 hP hS => ?_)
            obtain rfl : u24 = (J19, (mEm (mEm A N 0) (N + 1) (zNv T n 0 9999 z)), K) := g25
            have hP : Wp mN E mK (J19, (mEm (mEm A N 0) (N + 1) (zNv T n 0 9999 z)), K) H := hP
            exact re_wv (x := (J19, (mEm (mEm A N 0) (N + 1) (zNv T n 0 9999 z)), K)) hx hb hr hlk hP hS (absurd hz9 (by rw [zNz_f q1]; exact fun g => absurd ((if_pos h0).symm.trans g : (-2 : Int32) = 0) (by decide))) dX7_factor_152
          · refine lv_goto (tgt := 133) hx hb dX7_factor_129 (by decide) ?_
            refine lv_istore_n (lv' := [(3, .int r16), (2, .int (-1)), (1, .int (mBv A n (tkB T n z.2))), (0, .ref (eP E 0))]) hx hb dX7_factor_133 rfl hl (by decide) rfl (fun ls hl => ?_)
            refine lv_aload_n hx hb dX7_factor_134 rfl (lv_at hl 3 rfl) ?_
            refine lv_iload_n hx hb dX7_factor_135 rfl (lv_at hl 1 rfl) ?_
            refine lv_if_ge (tgt := 143) hx hb dX7_factor_136 (by decide) (fun h136 => absurd h136 (by decide)) (fun h136 => ?_)
            refine lv_iconst (v := 0) hx hb dX7_factor_139 (by decide) ?_
            refine lv_goto (tgt := 144) hx hb dX7_factor_140 (by decide) ?_
            refine cn_wv (ck_V (a := eP E 0) S lk_X7_116 (c_X7_emit_bad l E J19 A K 0 hE (fun g => hz9 (hW19.2.1.symm.trans g))) ⟨rfl, rfl⟩ ⟨Nat.le_of_ble_eq_true rfl, Nat.le_of_ble_eq_true rfl⟩ bl_w (rc_w hK hP 0 (by decide) rfl rfl) (bw_U hE hK hC hP hS) rfl hl.1 (Nat.le_of_ble_eq_true rfl) ⟨Nat.le_refl _, Nat.le_refl _⟩ dX7_factor_144 rfl) hS (fun u27 H locs g28 hP hS => ?_)
            obtain rfl : u27 = (J19, A, K) := g28
            have hP : Wp mN E mK (J19, A, K) H := hP
            refine lv_aload_n hx hb dX7_factor_147 rfl (lv_at hl 3 rfl) ?_
            refine lv_iload_n hx hb dX7_factor_148 rfl (lv_at hl 0 rfl) ?_
            refine cn_wv (ck_V (a := eP E 0) S lk_X7_116 (c_X7_emit_bad l E J19 A K r16 hE (fun g => hz9 (hW19.2.1.symm.trans g))) ⟨rfl, rfl⟩ ⟨Nat.le_of_ble_eq_true rfl, Nat.le_of_ble_eq_true rfl⟩ bl_w (rc_w hK hP 0 (by decide) rfl rfl) (bw_U hE hK hC hP hS) rfl hl.1 (Nat.le_of_ble_eq_true rfl) ⟨Nat.le_refl _, Nat.le_refl _⟩ dX7_factor_149 rfl) hS (fun u30 H locs g31 hP hS => ?_)
            obtain rfl : u30 = (J19, A, K) := g31
            have hP : Wp mN E mK (J19, A, K) H := hP
            exact re_wv (x := (J19, A, K)) hx hb hr hlk hP hS (by rw [show (zFd T n 0 0 3 z).2 = zF (-2) z from congrArg Prod.snd ((zFd_s (D := 2)).trans (zFc_4 q1 q2 q3 q4)), ← zNz_f (lo := 0) (hi := 9999) q1]; exact ⟨J19, A, gP_bad hz9 (gB_rf hW19 hrN), rfl⟩) dX7_factor_152
        · have q3 : zW T n (tw 8) z = true := by rw [← tw_9]; exact bI_t h108
          rw [tw_9, zPW_t q3] at hW15
          have hr3 := rP_tr hr2 hp15
          refine lv_iconst (v := 1) hx hb dX7_factor_111 (by decide) ?_
          refine lv_goto (tgt := 116) hx hb dX7_factor_112 (by decide) ?_
          refine lv_istore_n (lv' := [(2, .int 1), (1, .int (mBv A n (tkB T n z.2))), (0, .ref (eP E 0))]) hx hb dX7_factor_116 rfl hl (by decide) rfl (fun ls hl => ?_)
          refine lv_iload_n hx hb dX7_factor_117 rfl (lv_at hl 0 rfl) ?_
          refine lv_if_ge (tgt := 132) hx hb dX7_factor_118 (by decide) (fun h118 => ?_) (fun h118 => absurd (by decide) h118)
          refine lv_iload_n hx hb dX7_factor_132 rfl (lv_at hl 0 rfl) ?_
          refine lv_istore_n (lv' := [(3, .int 1), (2, .int 1), (1, .int (mBv A n (tkB T n z.2))), (0, .ref (eP E 0))]) hx hb dX7_factor_133 rfl hl (by decide) rfl (fun ls hl => ?_)
          refine lv_aload_n hx hb dX7_factor_134 rfl (lv_at hl 3 rfl) ?_
          refine lv_iload_n hx hb dX7_factor_135 rfl (lv_at hl 1 rfl) ?_
          refine lv_if_ge (tgt := 143) hx hb dX7_factor_136 (by decide) (fun h136 => ?_) (fun h136 => absurd (by decide) h136)
          refine lv_iconst (v := 1) hx hb dX7_factor_143 (by decide) ?_
          refine cn_wv (ck_V (a := eP E 0) S lk_X7_116 (c_X7_emit l E J15 A K 1 N hE (hW15.2.1.trans h0) hN (by omega)) ⟨rfl, rfl⟩ ⟨Nat.le_of_ble_eq_true rfl, Nat.le_of_ble_eq_true rfl⟩ bl_w (rc_w hK hP 0 (by decide) rfl rfl) (bw_U hE hK hC hP hS) rfl hl.1 (Nat.le_of_ble_eq_true rfl) ⟨Nat.le_refl _, Nat.le_refl _⟩ dX7_factor_144 rfl) hS (fun u33 H locs g34 hP hS => ?_)
          obtain rfl : u33 = (J15, (mEm A N 1), K) := g34
          have hP : Wp mN E mK (J15, (mEm A N 1), K) H := hP
          refine lv_aload_n hx hb dX7_factor_147 rfl (lv_at hl 3 rfl) ?_
          refine lv_iload_n hx hb dX7_factor_148 rfl (lv_at hl 0 rfl) ?_
          refine cn_wv (ck_V (a := eP E 0) S lk_X7_116 (c_X7_emit l E J15 (mEm A N 1) K 1 (N + 1) hE (hW15.2.1.trans h0) mEm_3 (by omega)) ⟨rfl, rfl⟩ ⟨Nat.le_of_ble_eq_true rfl, Nat.le_of_ble_eq_true rfl⟩ bl_w (rc_w hK hP 0 (by decide) rfl rfl) (bw_U hE hK hC hP hS) rfl hl.1 (Nat.le_of_ble_eq_true rfl) ⟨Nat.le_refl _, Nat.le_refl _⟩ dX7_factor_149 rfl) hS (fun u36 H locs g37 hP hS => ?_)
          obtain rfl : u36 = (J15, (mEm (mEm A N 1) (N + 1) 1), K) := g37
          have hP : Wp mN E mK (J15, (mEm (mEm A N 1) (N + 1) 1), K) H := hP
          exact re_wv (x := (J15, (mEm (mEm A N 1) (N + 1) 1), K)) hx hb hr hlk hP hS (by rw [(show (zFd T n 0 0 3 z).2 = zA T n z from congrArg Prod.snd ((zFd_s (D := 2)).trans (zFc_3 q1 q2 q3)))]; exact ⟨J15, (mEm (mEm A N 1) (N + 1) 1), ⟨gB_em (gB_em (gB_rf hW15 hr3)), fun _ => ⟨N + 2, gM_f (fun am sc => (show (zFd T n am sc 3 z).1 = _ from congrArg Prod.fst ((zFd_s (D := 2)).trans (zFc_3 q1 q2 q3))).symm) (gM_at hN (by show z.2 + 1 ≤ (if z.1 = 0 then tkE T n z.2 else z.2); rw [if_pos h0]; exact tkE_gt (by rw [(of_decide_eq_true q3).2.1]; decide)) (fun code g1 g2 => sg_v1 g1 g2))⟩⟩, rfl⟩) dX7_factor_152
      · have q2 : zW T n (tw 7) z = true := by rw [← tw_16]; exact bI_t h95
        rw [tw_16, zPW_t q2] at hW11
        have hr2 := rP_tr (rP_u rP_rf (Or.inl rfl)) hp11
        refine lv_iconst (v := 0) hx hb dX7_factor_98 (by decide) ?_
        refine lv_goto (tgt := 116) hx hb dX7_factor_99 (by decide) ?_
        refine lv_istore_n (lv' := [(2, .int 0), (1, .int (mBv A n (tkB T n z.2))), (0, .ref (eP E 0))]) hx hb dX7_factor_116 rfl hl (by decide) rfl (fun ls hl => ?_)
        refine lv_iload_n hx hb dX7_factor_117 rfl (lv_at hl 0 rfl) ?_
        refine lv_if_ge (tgt := 132) hx hb dX7_factor_118 (by decide) (fun h118 => ?_) (fun h118 => absurd (by decide) h118)
        refine lv_iload_n hx hb dX7_factor_132 rfl (lv_at hl 0 rfl) ?_
        refine lv_istore_n (lv' := [(3, .int 0), (2, .int 0), (1, .int (mBv A n (tkB T n z.2))), (0, .ref (eP E 0))]) hx hb dX7_factor_133 rfl hl (by decide) rfl (fun ls hl => ?_)
        refine lv_aload_n hx hb dX7_factor_134 rfl (lv_at hl 3 rfl) ?_
        refine lv_iload_n hx hb dX7_factor_135 rfl (lv_at hl 1 rfl) ?_
        refine lv_if_ge (tgt := 143) hx hb dX7_factor_136 (by decide) (fun h136 => ?_) (fun h136 => absurd (by decide) h136)
        refine lv_iconst (v := 1) hx hb dX7_factor_143 (by decide) ?_
        refine cn_wv (ck_V (a := eP E 0) S lk_X7_116 (c_X7_emit l E J11 A K 1 N hE (hW11.2.1.trans h0) hN (by omega)) ⟨rfl, rfl⟩ ⟨Nat.le_of_ble_eq_true rfl, Nat.le_of_ble_eq_true rfl⟩ bl_w (rc_w hK hP 0 (by decide) rfl rfl) (bw_U hE hK hC hP hS) rfl hl.1 (Nat.le_of_ble_eq_true rfl) ⟨Nat.le_refl _, Nat.le_refl _⟩ dX7_factor_144 rfl) hS (fun u39 H locs g40 hP hS => ?_)
        obtain rfl : u39 = (J11, (mEm A N 1), K) := g40
        have hP : Wp mN E mK (J11, (mEm A N 1), K) H := hP
        refine lv_aload_n hx hb dX7_factor_147 rfl (lv_at hl 3 rfl) ?_
        refine lv_iload_n hx hb dX7_factor_148 rfl (lv_at hl 0 rfl) ?_
        refine cn_wv (ck_V (a := eP E 0) S lk_X7_116 (c_X7_emit l E J11 (mEm A N 1) K 0 (N + 1) hE (hW11.2.1.trans h0) mEm_3 (by omega)) ⟨rfl, rfl⟩ ⟨Nat.le_of_ble_eq_true rfl, Nat.le_of_ble_eq_true rfl⟩ bl_w (rc_w hK hP 0 (by decide) rfl rfl) (bw_U hE hK hC hP hS) rfl hl.1 (Nat.le_of_ble_eq_true rfl) ⟨Nat.le_refl _, Nat.le_refl _⟩ dX7_factor_149 rfl) hS (fun u42 H locs g43 hP hS => ?_)
        obtain rfl : u42 = (J11, (mEm (mEm A N 1) (N + 1) 0), K) := g43
        have hP : Wp mN E mK (J11, (mEm (mEm A N 1) (N + 1) 0), K) H := hP
        exact re_wv (x := (J11, (mEm (mEm A N 1) (N + 1) 0), K)) hx hb hr hlk hP hS (by rw [(show (zFd T n 0 0 3 z).2 = zA T n z from congrArg Prod.snd ((zFd_s (D := 2)).trans (zFc_2 q1 q2)))]; exact ⟨J11, (mEm (mEm A N 1) (N + 1) 0), ⟨gB_em (gB_em (gB_rf hW11 hr2)), fun _ => ⟨N + 2, gM_f (fun am sc => (show (zFd T n am sc 3 z).1 = _ from congrArg Prod.fst ((zFd_s (D := 2)).trans (zFc_2 q1 q2))).symm) (gM_at hN (by show z.2 + 1 ≤ (if z.1 = 0 then tkE T n z.2 else z.2); rw [if_pos h0]; exact tkE_gt (by rw [(of_decide_eq_true q2).2.1]; decide)) (fun code g1 g2 => sg_v0 g1 g2))⟩⟩, rfl⟩) dX7_factor_152
    · have q1 : zN T n z = true := (Bool.eq_false_or_eq_true (zN T n z)).elim id (fun g => absurd ((zN_d hTT h0).mpr g) h82)
      refine lv_iconst (v := (-1)) hx hb dX7_factor_85 (by decide) ?_
      refine lv_goto (tgt := 116) hx hb dX7_factor_86 (by decide) ?_
      refine lv_istore_n (lv' := [(2, .int (-1)), (1, .int (mBv A n (tkB T n z.2))), (0, .ref (eP E 0))]) hx hb dX7_factor_116 rfl hl (by decide) rfl (fun ls hl => ?_)
      refine lv_iload_n hx hb dX7_factor_117 rfl (lv_at hl 0 rfl) ?_
      refine lv_if_ge (tgt := 132) hx hb dX7_factor_118 (by decide) (fun h118 => absurd h118 (by decide)) (fun h118 => ?_)
      refine lv_aload_n hx hb dX7_factor_121 rfl (lv_at hl 2 rfl) ?_
      refine lv_iconst (v := 0) hx hb dX7_factor_122 (by decide) ?_
      refine lv_sipush (v := 9999) hx hb dX7_factor_123 (by decide) ?_
      refine cn_wi (ck_V (a := eP E 0) S lk_X7_113 (c_X7_number l E (up2 I 0 4 (nI (tkB T n z.2))) A K T n z 0 9999 hE (mW_nx hW h0)) ⟨rfl, rfl⟩ ⟨Nat.le_of_ble_eq_true rfl, Nat.le_of_ble_eq_true rfl⟩ bl_w (rc_w hK hP 0 (by decide) rfl rfl) (bw_U hE hK hC hP hS) rfl hl.1 (Nat.le_of_ble_eq_true rfl) ⟨Nat.le_refl _, Nat.le_refl _⟩ dX7_factor_126 rfl) hS (fun r44 u45 H locs g46 hP hS => ?_)
      obtain ⟨J47, hW47, hp47, hn47, hv47, rfl⟩ : ∃ oj, mW oj A T n (zNz T n 0 9999 z) ∧ rP (up2 I 0 4 (nI (tkB T n z.2))) oj ∧ (zN T n z = true → oj 0 12 = nI (tkB T n z.2)) ∧ ((zNz T n 0 9999 z).1 = 0 → r44 = zNv T n 0 9999 z) ∧ u45 = (oj, A, K) := g46
      have hP : Wp mN E mK (J47, A, K) H := hP
      have hrN := rP_tr (rP_u rP_rf (Or.inl rfl)) hp47
      by_cases hz9 : (zNz T n 0 9999 z).1 = 0
      · refine tp_i (y := zNv T n 0 9999 z) (hv47 hz9) ?_
        refine lv_goto (tgt := 133) hx hb dX7_factor_129 (by decide) ?_
        refine lv_istore_n (lv' := [(3, .int (zNv T n 0 9999 z)), (2, .int (-1)), (1, .int (mBv A n (tkB T n z.2))), (0, .ref (eP E 0))]) hx hb dX7_factor_133 rfl hl (by decide) rfl (fun ls hl => ?_)
        refine lv_aload_n hx hb dX7_factor_134 rfl (lv_at hl 3 rfl) ?_
        refine lv_iload_n hx hb dX7_factor_135 rfl (lv_at hl 1 rfl) ?_
        refine lv_if_ge (tgt := 143) hx hb dX7_factor_136 (by decide) (fun h136 => absurd h136 (by decide)) (fun h136 => ?_)
        refine lv_iconst (v := 0) hx hb dX7_factor_139 (by decide) ?_
        refine lv_goto (tgt := 144) hx hb dX7_factor_140 (by decide) ?_
        refine cn_wv (ck_V (a := eP E 0) S lk_X7_116 (c_X7_emit l E J47 A K 0 N hE (hW47.2.1.trans hz9) hN (by omega)) ⟨rfl, rfl⟩ ⟨Nat.le_of_ble_eq_true rfl, Nat.le_of_ble_eq_true rfl⟩ bl_w (rc_w hK hP 0 (by decide) rfl rfl) (bw_U hE hK hC hP hS) rfl hl.1 (Nat.le_of_ble_eq_true rfl) ⟨Nat.le_refl _, Nat.le_refl _⟩ dX7_factor_144 rfl) hS (fun u49 H locs g50 hP hS => ?_)
        obtain rfl : u49 = (J47, (mEm A N 0), K) := g50
        have hP : Wp mN E mK (J47, (mEm A N 0), K) H := hP
        refine lv_aload_n hx hb dX7_factor_147 rfl (lv_at hl 3 rfl) ?_
        refine lv_iload_n hx hb dX7_factor_148 rfl (lv_at hl 0 rfl) ?_
        refine cn_wv (ck_V (a := eP E 0) S lk_X7_116 (c_X7_emit l E J47 (mEm A N 0) K (zNv T n 0 9999 z) (N + 1) hE (hW47.2.1.trans hz9) mEm_3 (by omega)) ⟨rfl, rfl⟩ ⟨Nat.le_of_ble_eq_true rfl, Nat.le_of_ble_eq_true rfl⟩ bl_w (rc_w hK hP 0 (by decide) rfl rfl) (bw_U hE hK hC hP hS) rfl hl.1 (Nat.le_of_ble_eq_true rfl) ⟨Nat.le_refl _, Nat.le_refl _⟩ dX7_factor_149 rfl) hS (fun u52 H locs g53 hP hS => ?_)
        obtain rfl : u52 = (J47, (mEm (mEm A N 0) (N + 1) (zNv T n 0 9999 z)), K) := g53
        have hP : Wp mN E mK (J47, (mEm (mEm A N 0) (N + 1) (zNv T n 0 9999 z)), K) H := hP
        exact re_wv (x := (J47, (mEm (mEm A N 0) (N + 1) (zNv T n 0 9999 z)), K)) hx hb hr hlk hP hS (by rw [(show (zFd T n 0 0 3 z).2 = zNz T n 0 9999 z from congrArg Prod.snd ((zFd_s (D := 2)).trans (zFc_1 q1)))]; exact ⟨J47, (mEm (mEm A N 0) (N + 1) (zNv T n 0 9999 z)), ⟨gB_em (gB_em (gB_rf hW47 hrN)), fun _ => ⟨N + 2, gM_f (fun am sc => (show (zFd T n am sc 3 z).1 = _ from congrArg Prod.fst ((zFd_s (D := 2)).trans (zFc_1 q1))).symm) (gM_at hN (by rw [zNz_g q1 hz9]; show z.2 + 1 ≤ (if z.1 = 0 then tkE T n z.2 else z.2); rw [if_pos h0]; exact tkE_gt (by rw [(of_decide_eq_true q1).2]; decide)) (fun code g1 g2 => sg_lit g1 g2))⟩⟩, rfl⟩) dX7_factor_152
      · refine lv_goto (tgt := 133) hx hb dX7_factor_129 (by decide) ?_
        refine lv_istore_n (lv' := [(3, .int r44), (2, .int (-1)), (1, .int (mBv A n (tkB T n z.2))), (0, .ref (eP E 0))]) hx hb dX7_factor_133 rfl hl (by decide) rfl (fun ls hl => ?_)
        refine lv_aload_n hx hb dX7_factor_134 rfl (lv_at hl 3 rfl) ?_
        refine lv_iload_n hx hb dX7_factor_135 rfl (lv_at hl 1 rfl) ?_
        refine lv_if_ge (tgt := 143) hx hb dX7_factor_136 (by decide) (fun h136 => absurd h136 (by decide)) (fun h136 => ?_)
        refine lv_iconst (v := 0) hx hb dX7_factor_139 (by decide) ?_
        refine lv_goto (tgt := 144) hx hb dX7_factor_140 (by decide) ?_
        refine cn_wv (ck_V (a := eP E 0) S lk_X7_116 (c_X7_emit_bad l E J47 A K 0 hE (fun g => hz9 (hW47.2.1.symm.trans g))) ⟨rfl, rfl⟩ ⟨Nat.le_of_ble_eq_true rfl, Nat.le_of_ble_eq_true rfl⟩ bl_w (rc_w hK hP 0 (by decide) rfl rfl) (bw_U hE hK hC hP hS) rfl hl.1 (Nat.le_of_ble_eq_true rfl) ⟨Nat.le_refl _, Nat.le_refl _⟩ dX7_factor_144 rfl) hS (fun u55 H locs g56 hP hS => ?_)
        obtain rfl : u55 = (J47, A, K) := g56
        have hP : Wp mN E mK (J47, A, K) H := hP
        refine lv_aload_n hx hb dX7_factor_147 rfl (lv_at hl 3 rfl) ?_
        refine lv_iload_n hx hb dX7_factor_148 rfl (lv_at hl 0 rfl) ?_
        refine cn_wv (ck_V (a := eP E 0) S lk_X7_116 (c_X7_emit_bad l E J47 A K r44 hE (fun g => hz9 (hW47.2.1.symm.trans g))) ⟨rfl, rfl⟩ ⟨Nat.le_of_ble_eq_true rfl, Nat.le_of_ble_eq_true rfl⟩ bl_w (rc_w hK hP 0 (by decide) rfl rfl) (bw_U hE hK hC hP hS) rfl hl.1 (Nat.le_of_ble_eq_true rfl) ⟨Nat.le_refl _, Nat.le_refl _⟩ dX7_factor_149 rfl) hS (fun u58 H locs g59 hP hS => ?_)
        obtain rfl : u58 = (J47, A, K) := g59
        have hP : Wp mN E mK (J47, A, K) H := hP
        exact re_wv (x := (J47, A, K)) hx hb hr hlk hP hS (by rw [show (zFd T n 0 0 3 z).2 = zNz T n 0 9999 z from congrArg Prod.snd ((zFd_s (D := 2)).trans (zFc_1 q1))]; exact ⟨J47, A, gP_bad hz9 (gB_rf hW47 hrN), rfl⟩) dX7_factor_152
  · have q4 : zS T n 40 z = true := (zS_b (ch := 40) hTT h0 (by decide) (by decide)).mp h16
    obtain ⟨q1, qw⟩ := zS_k q4
    refine lv_aload_n hx hb dX7_factor_19 rfl (lv_at hl 1 rfl) ?_
    refine rw_geti (x := ((up2 I 0 4 (nI (tkB T n z.2))), A, K)) (v := 1) S hK hP 0 (by decide) rfl fk_X7_95 rfl ((up2_j (f := I) (q := 0) (j := 4) (a := 0) (b := 13) (v := (nI (tkB T n z.2))) (by decide)).trans h13) dX7_factor_20 ?_
    refine lv_iconst (v := 4) hx hb dX7_factor_23 (by decide) ?_
    refine lv_icmp_ne (tgt := 37) hx hb dX7_factor_24 (by decide) (fun h24 => ?_) (fun h24 => absurd h24 (by decide))
    refine lv_aload_n hx hb dX7_factor_37 rfl (lv_at hl 1 rfl) ?_
    refine lv_dup hx hb dX7_factor_38 rfl ?_
    refine rw_geti (x := ((up2 I 0 4 (nI (tkB T n z.2))), A, K)) (v := (nI (tkB T n z.2))) S hK hP 0 (by decide) rfl fk_X7_45 rfl (up2_eq (f := I) (q := 0) (j := 4) (v := (nI (tkB T n z.2)))) dX7_factor_39 ?_
    refine lv_iconst (v := 1) hx hb dX7_factor_42 (by decide) ?_
    refine lv_iadd hx hb dX7_factor_43 ?_
    refine tp_i (y := nI ((tkB T n z.2) + 1)) (nI_add (tkB T n z.2) 1) ?_
    refine rw_puti (x := ((up2 I 0 4 (nI (tkB T n z.2))), A, K)) (v := (nI ((tkB T n z.2) + 1))) S hE hK hP hS 0 (by decide) rfl fk_X7_45 rfl tyX7_ok nmX7 ⟨rfl, by decide +kernel⟩ dX7_factor_44 (fun H locs hP hS => ?_)
    have hP : Wp mN E mK ((up2 (up2 I 0 4 (nI (tkB T n z.2))) 0 4 (nI ((tkB T n z.2) + 1))), A, K) H := hP
    refine lv_aload_n hx hb dX7_factor_47 rfl (lv_at hl 1 rfl) ?_
    refine lv_dup hx hb dX7_factor_48 rfl ?_
    refine rw_geti (x := ((up2 (up2 I 0 4 (nI (tkB T n z.2))) 0 4 (nI ((tkB T n z.2) + 1))), A, K)) (v := 1) S hK hP 0 (by decide) rfl fk_X7_95 rfl ((up2_j (f := (up2 I 0 4 (nI (tkB T n z.2)))) (q := 0) (j := 4) (a := 0) (b := 13) (v := (nI ((tkB T n z.2) + 1))) (by decide)).trans ((up2_j (f := I) (q := 0) (j := 4) (a := 0) (b := 13) (v := (nI (tkB T n z.2))) (by decide)).trans h13)) dX7_factor_49 ?_
    refine lv_iconst (v := 1) hx hb dX7_factor_52 (by decide) ?_
    refine lv_iadd hx hb dX7_factor_53 ?_
    refine tp_i (y := 2) rfl ?_
    refine rw_puti (x := ((up2 (up2 I 0 4 (nI (tkB T n z.2))) 0 4 (nI ((tkB T n z.2) + 1))), A, K)) (v := 2) S hE hK hP hS 0 (by decide) rfl fk_X7_95 rfl tyX7_ok nmX7 ⟨rfl, by decide +kernel⟩ dX7_factor_54 (fun H locs hP hS => ?_)
    have hP : Wp mN E mK ((up2 (up2 (up2 I 0 4 (nI (tkB T n z.2))) 0 4 (nI ((tkB T n z.2) + 1))) 0 13 2), A, K) H := hP
    refine lv_aload_n hx hb dX7_factor_57 rfl (lv_at hl 1 rfl) ?_
    rw [up2_up] at hP
    have hP : Wp mN E mK ((up2 (up2 I 0 4 (nI (tkB T n z.2 + 1))) 0 13 2), A, K) H := hP
    have hsg := mW_sg (ch := 40) hW (by decide) q4
    have hWs := mW_12 (b := 13) (v := 2) (Or.inr (Or.inl rfl)) hsg.1
    refine cn_wv (ck_V (a := eP E 0) S lk_X7_98 (c_X7_sum_2 l E (up2 (up2 I 0 4 (nI (tkB T n z.2 + 1))) 0 13 2) A K T n (zA T n z) N hE hWs rfl hsg.2.2 hN (by have := hsg.2.1; omega)) ⟨rfl, rfl⟩ ⟨Nat.le_of_ble_eq_true rfl, Nat.le_of_ble_eq_true rfl⟩ bl_w (rc_w hK hP 0 (by decide) rfl rfl) (bw_U hE hK hC hP hS) rfl hl.1 (Nat.le_of_ble_eq_true rfl) ⟨Nat.le_refl _, Nat.le_refl _⟩ dX7_factor_58 rfl) hS (fun u61 H locs g62 hP hS => ?_)
    obtain ⟨J63, B63, hg63, rfl⟩ : ∃ oj ob, gP (up2 (up2 I 0 4 (nI (tkB T n z.2 + 1))) 0 13 2) A T n N (zA T n z) (zSu T n 0 0 2 (zA T n z)).2 (fun am sc => (zSu T n am sc 2 (zA T n z)).1) oj ob ∧ u61 = (oj, ob, K) := g62
    have hP : Wp mN E mK (J63, B63, K) H := hP
    refine lv_aload_n hx hb dX7_factor_61 rfl (lv_at hl 1 rfl) ?_
    refine lv_bipush (v := 41) hx hb dX7_factor_62 (by decide) ?_
    refine cn_wv (ck_V (a := eP E 0) S lk_X7_101 (c_X7_expect l E J63 B63 K T n ((zSu T n 0 0 2 (zA T n z)).2) 41 hE hg63.1.1.1 (by decide) (by decide)) ⟨rfl, rfl⟩ ⟨Nat.le_of_ble_eq_true rfl, Nat.le_of_ble_eq_true rfl⟩ bl_w (rc_w hK hP 0 (by decide) rfl rfl) (bw_U hE hK hC hP hS) rfl hl.1 (Nat.le_of_ble_eq_true rfl) ⟨Nat.le_refl _, Nat.le_refl _⟩ dX7_factor_64 rfl) hS (fun u65 H locs g66 hP hS => ?_)
    obtain ⟨J67, hW67, hp67, rfl⟩ : ∃ oj, mW oj B63 T n (zNS T n (nI 41) ((zSu T n 0 0 2 (zA T n z)).2)) ∧ rP J63 oj ∧ u65 = (oj, B63, K) := g66
    have hP : Wp mN E mK (J67, B63, K) H := hP
    have e13 : J67 0 13 = 2 := (hp67 0 13 (by decide)).trans (hg63.1.1.2 0 13 (by decide))
    refine lv_aload_n hx hb dX7_factor_67 rfl (lv_at hl 1 rfl) ?_
    refine lv_dup hx hb dX7_factor_68 rfl ?_
    refine rw_geti (x := (J67, B63, K)) (v := 2) S hK hP 0 (by decide) rfl fk_X7_95 rfl e13 dX7_factor_69 ?_
    refine lv_iconst (v := 1) hx hb dX7_factor_72 (by decide) ?_
    refine lv_isub hx hb dX7_factor_73 ?_
    refine tp_i (y := 1) rfl ?_
    refine rw_puti (x := (J67, B63, K)) (v := 1) S hE hK hP hS 0 (by decide) rfl fk_X7_95 rfl tyX7_ok nmX7 ⟨rfl, by decide +kernel⟩ dX7_factor_74 (fun H locs hP hS => ?_)
    have hP : Wp mN E mK ((up2 J67 0 13 1), B63, K) H := hP
    exact re_wv (x := ((up2 J67 0 13 1), B63, K)) hx hb hr hlk hP hS (by have e6 : ∀ am sc, zFd T n am sc 3 z = ((zSu T n am sc 2 (zA T n z)).1, zNS T n 41 (zSu T n am sc 2 (zA T n z)).2) := fun am sc => (zFd_s (D := 2)).trans (zFc_6 q1 (qw _) (qw _) q4); exact ⟨_, B63, (by rw [show (zFd T n 0 0 3 z).2 = zNS T n 41 (zSu T n 0 0 2 (zA T n z)).2 from congrArg Prod.snd (e6 0 0)]; exact ⟨⟨⟨mW_12 (Or.inr (Or.inl rfl)) hW67, rP_of (rQ_tr (rQ_u (rQ_u (rQ_of rP_rf) (by decide)) (by decide)) (rQ_tr (rQ_of hg63.1.1.2) (rQ_u (rQ_of hp67) (by decide)))) h13.symm⟩, hg63.1.2⟩, fun g => (hg63.2 (zMo_NS g)).elim (fun M hM => ⟨M, gM_f (fun am sc => (congrArg Prod.fst (e6 am sc)).symm) (gM_par hM)⟩)⟩), rfl⟩) dX7_factor_77

set_option maxHeartbeats 1000000 in
set_option maxRecDepth 100000 in
theorem c_X7_term_3 (l : Launch) (E : En) (I A : Nat → Nat → Int32) (K : Nat → Nat → Int64) (T : Nat → Int32) (n : Nat) (z : Tz) (N : Nat) (hE : Ev mN E) (hW : mW I A T n z) (h13 : I 0 13 = 1) (h0 : z.1 = 0) (hN : A 3 3 = nI N) (hNb : 2 * N ≤ 3 * z.2) : Met l yX7_term (wz yX7_term cX7_term 2 none) (rmk 15 0 0 333) (va_Pc [.ref (eP E 0)] (Bw mN E mK (I, A, K))) (qWv mN E mK (fun uu => ∃ J B, gP I A T n N z (zTd T n 0 0 3 z).2 (fun am sc => (zTd T n am sc 3 z).1) J B ∧ uu = (J, B, K))) 0 0 (cA mN E) := by
  refine en_ofW RX7 rfl (by decide +kernel) (Nat.le_of_ble_eq_true rfl) ?_
  intro p e s m below meth c ls S hr hlk hnm hl hB
  have hx := S.1
  have hb := S.2.1
  obtain ⟨hK, hC, hP⟩ := hB
  have hS : va_S (cA mN E) s.heap s.heap [] := va_S.rf
  have hl : lv_has ls 2 [(0, .ref (eP E 0))] := hl
  obtain ⟨⟨hn3, hTT, hzn⟩, h5c, h5p, h5e⟩ := id hW
  have hn7 := hTT.1
  have hBn := tkB_le (T := T) hzn
  have hzl : z.2 ≤ 700 := Nat.le_trans hzn hn7
  refine lv_aload_n hx hb dX7_term_0 rfl (lv_at hl 0 rfl) ?_
  refine cn_wv (ck_V (a := eP E 0) S lk_X7_119 (c_X7_factor_3 l E I A K T n z N hE hW h13 h0 hN hNb) ⟨rfl, rfl⟩ ⟨Nat.le_of_ble_eq_true rfl, Nat.le_of_ble_eq_true rfl⟩ bl_w (rc_w hK hP 0 (by decide) rfl rfl) (bw_U hE hK hC hP hS) rfl hl.1 (Nat.le_of_ble_eq_true rfl) ⟨Nat.le_refl _, Nat.le_refl _⟩ dX7_term_1 rfl) hS (fun u2 H locs g3 hP hS => ?_)
  obtain ⟨J4, B4, hg4, rfl⟩ : ∃ oj ob, gP I A T n N z (zFd T n 0 0 3 z).2 (fun am sc => (zFd T n am sc 3 z).1) oj ob ∧ u2 = (oj, ob, K) := g3
  have hP : Wp mN E mK (J4, B4, K) H := hP
  have HL : ∀ (cnt : Nat) (za : Tz) (f : Int32 → Int32 → Int32) (J B : Nat → Nat → Int32), n - za.2 ≤ cnt → gP I A T n N z za f J B → (∀ am sc, vR am → vR sc → vR (f am sc)) → (∀ am sc, zTl T n (zFd T n am sc 3) cnt (f am sc, za) = zTd T n am sc 3 z) → ∀ (H : Heap) (locs : List Loc), Wp mN E mK (J, B, K) H → va_S (cA mN E) s.heap H locs → ∀ ls : Array Slot, lv_has ls 2 [(0, .ref (eP E 0))] → W p l e (rmk 15 0 0 333) s m ([.ref (eP E 0)] : List Value).toArray below meth c H locs 0 0 (MQ below (qWv mN E mK (fun uu => ∃ J B, gP I A T n N z (zTd T n 0 0 3 z).2 (fun am sc => (zTd T n am sc 3 z).1) J B ∧ uu = (J, B, K))) ([.ref (eP E 0)] : List Value).toArray s 0 0 (cA mN E)) (F0 m 4 ls []) := by
    intro cnt
    induction cnt with
    | zero =>
      intro za f J B hm hg hfv hv H locs hP hS ls hl
      have hWa := hg.1.1.1
      have h5a : J 0 5 = za.1 := hWa.2.1
      have hzan := hWa.1.2.2
      have hTa := hWa.1.2.1
      refine lv_aload_n hx hb dX7_term_4 rfl (lv_at hl 0 rfl) ?_
      refine cn_si (ck_V (a := eP E 0) S lk_X7_62 (c_X7_isGood l E J B K hE) ⟨rfl, rfl⟩ ⟨Nat.le_of_ble_eq_true rfl, Nat.le_of_ble_eq_true rfl⟩ bl_w (rc_w hK hP 0 (by decide) rfl rfl) (bw_U hE hK hC hP hS) rfl hl.1 (Nat.le_of_ble_eq_true rfl) ⟨Nat.le_refl _, Nat.le_refl _⟩ dX7_term_5 rfl) (fun r5 g6 => ?_)
      obtain rfl : r5 = bI (decide (J 0 5 = 0)) := g6
      refine lv_if_eq (tgt := 74) hx hb dX7_term_8 (by decide) (fun h8 => ?_) (fun h8 => ?_)
      · have hnz : ¬ za.1 = 0 := fun g => absurd (decide_eq_true (h5a.trans g)) (by rw [bI_f h8]; decide)
        exact re_wv (x := (J, B, K)) hx hb hr hlk hP hS ⟨J, B, gP_eq (fun am sc => (zTl_x (zS_c hnz) (zS_c hnz) _).symm.trans (hv am sc)) hg, rfl⟩ dX7_term_74
      · have h0a : za.1 = 0 := h5a.symm.trans (of_decide_eq_true (bI_t h8))
        refine lv_aload_n hx hb dX7_term_11 rfl (lv_at hl 0 rfl) ?_
        refine cn_wi (ck_V (a := eP E 0) S lk_X7_66 (c_X7_nextW l E J B K T n za hE hWa h0a) ⟨rfl, rfl⟩ ⟨Nat.le_of_ble_eq_true rfl, Nat.le_of_ble_eq_true rfl⟩ bl_w (rc_w hK hP 0 (by decide) rfl rfl) (bw_U hE hK hC hP hS) rfl hl.1 (Nat.le_of_ble_eq_true rfl) ⟨Nat.le_refl _, Nat.le_refl _⟩ dX7_term_12 rfl) hS (fun r7 u8 H locs g9 hP hS => ?_)
        obtain ⟨rfl, rfl⟩ : r7 = (mBv B n (tkB T n za.2)) ∧ u8 = ((up2 J 0 4 (nI (tkB T n za.2))), B, K) := g9
        have hP : Wp mN E mK ((up2 J 0 4 (nI (tkB T n za.2))), B, K) H := hP
        refine lv_bipush (v := 42) hx hb dX7_term_15 (by decide) ?_
        refine lv_icmp_eq (tgt := 29) hx hb dX7_term_17 (by decide) (fun h17 => ?_) (fun h17 => ?_)
        · have q1 : zS T n 42 za = true := (zS_b (ch := 42) hTa h0a (by decide) (by decide)).mp h17
          have hsg := mW_sg (ch := 42) hWa (by decide) q1
          exact absurd (zS_e (ch := 42) (by decide) q1).2 (by have := tkB_ge (T := T) (n := n) (p := za.2); omega)
        · have q1 : zS T n 42 za = false := Bool.eq_false_iff.mpr (fun g => h17 ((zS_b (ch := 42) hTa h0a (by decide) (by decide)).mpr g))
          refine lv_aload_n hx hb dX7_term_20 rfl (lv_at hl 0 rfl) ?_
          refine cn_wi (ck_V (a := eP E 0) S lk_X7_66 (c_X7_nextW l E (up2 J 0 4 (nI (tkB T n za.2))) B K T n za hE (mW_nx hWa h0a) h0a) ⟨rfl, rfl⟩ ⟨Nat.le_of_ble_eq_true rfl, Nat.le_of_ble_eq_true rfl⟩ bl_w (rc_w hK hP 0 (by decide) rfl rfl) (bw_U hE hK hC hP hS) rfl hl.1 (Nat.le_of_ble_eq_true rfl) ⟨Nat.le_refl _, Nat.le_refl _⟩ dX7_term_21 rfl) hS (fun r10 u11 H locs g12 hP hS => ?_)
          obtain ⟨rfl, rfl⟩ : r10 = (mBv B n (tkB T n za.2)) ∧ u11 = ((up2 (up2 J 0 4 (nI (tkB T n za.2))) 0 4 (nI (tkB T n za.2))), B, K) := g12
          have hP : Wp mN E mK ((up2 (up2 J 0 4 (nI (tkB T n za.2))) 0 4 (nI (tkB T n za.2))), B, K) H := hP
          rw [up2_up] at hP
          have hP : Wp mN E mK ((up2 J 0 4 (nI (tkB T n za.2))), B, K) H := hP
          refine lv_bipush (v := 47) hx hb dX7_term_24 (by decide) ?_
          refine lv_icmp_ne (tgt := 74) hx hb dX7_term_26 (by decide) (fun h26 => ?_) (fun h26 => ?_)
          · have q2 : zS T n 47 za = false := Bool.eq_false_iff.mpr (fun g => h26 ((zS_b (ch := 47) hTa h0a (by decide) (by decide)).mpr g))
            exact re_wv (x := ((up2 J 0 4 (nI (tkB T n za.2))), B, K)) hx hb hr hlk hP hS ⟨_, B, gP_eq (fun am sc => (zTl_x q1 q2 _).symm.trans (hv am sc)) ⟨gB_u hg.1 h0a, hg.2⟩, rfl⟩ dX7_term_74
          · have q2 : zS T n 47 za = true := (zS_b (ch := 47) hTa h0a (by decide) (by decide)).mp h26
            have hsg := mW_sg (ch := 47) hWa (by decide) q2
            exact absurd (zS_e (ch := 47) (by decide) q2).2 (by have := tkB_ge (T := T) (n := n) (p := za.2); omega)
    | succ cnt ih =>
      intro za f J B hm hg hfv hv H locs hP hS ls hl
      have hWa := hg.1.1.1
      have h5a : J 0 5 = za.1 := hWa.2.1
      have hzan := hWa.1.2.2
      have hTa := hWa.1.2.1
      refine lv_aload_n hx hb dX7_term_4 rfl (lv_at hl 0 rfl) ?_
      refine cn_si (ck_V (a := eP E 0) S lk_X7_62 (c_X7_isGood l E J B K hE) ⟨rfl, rfl⟩ ⟨Nat.le_of_ble_eq_true rfl, Nat.le_of_ble_eq_true rfl⟩ bl_w (rc_w hK hP 0 (by decide) rfl rfl) (bw_U hE hK hC hP hS) rfl hl.1 (Nat.le_of_ble_eq_true rfl) ⟨Nat.le_refl _, Nat.le_refl _⟩ dX7_term_5 rfl) (fun r13 g14 => ?_)
      obtain rfl : r13 = bI (decide (J 0 5 = 0)) := g14
      refine lv_if_eq (tgt := 74) hx hb dX7_term_8 (by decide) (fun h8 => ?_) (fun h8 => ?_)
      · have hnz : ¬ za.1 = 0 := fun g => absurd (decide_eq_true (h5a.trans g)) (by rw [bI_f h8]; decide)
        exact re_wv (x := (J, B, K)) hx hb hr hlk hP hS ⟨J, B, gP_eq (fun am sc => (zTl_x (zS_c hnz) (zS_c hnz) _).symm.trans (hv am sc)) hg, rfl⟩ dX7_term_74
      · have h0a : za.1 = 0 := h5a.symm.trans (of_decide_eq_true (bI_t h8))
        refine lv_aload_n hx hb dX7_term_11 rfl (lv_at hl 0 rfl) ?_
        refine cn_wi (ck_V (a := eP E 0) S lk_X7_66 (c_X7_nextW l E J B K T n za hE hWa h0a) ⟨rfl, rfl⟩ ⟨Nat.le_of_ble_eq_true rfl, Nat.le_of_ble_eq_true rfl⟩ bl_w (rc_w hK hP 0 (by decide) rfl rfl) (bw_U hE hK hC hP hS) rfl hl.1 (Nat.le_of_ble_eq_true rfl) ⟨Nat.le_refl _, Nat.le_refl _⟩ dX7_term_12 rfl) hS (fun r15 u16 H locs g17 hP hS => ?_)
        obtain ⟨rfl, rfl⟩ : r15 = (mBv B n (tkB T n za.2)) ∧ u16 = ((up2 J 0 4 (nI (tkB T n za.2))), B, K) := g17
        have hP : Wp mN E mK ((up2 J 0 4 (nI (tkB T n za.2))), B, K) H := hP
        refine lv_bipush (v := 42) hx hb dX7_term_15 (by decide) ?_
        refine lv_icmp_eq (tgt := 29) hx hb dX7_term_17 (by decide) (fun h17 => ?_) (fun h17 => ?_)
        · have q1 : zS T n 42 za = true := (zS_b (ch := 42) hTa h0a (by decide) (by decide)).mp h17
          have hsg := mW_sg (ch := 42) hWa (by decide) q1
          refine lv_aload_n hx hb dX7_term_29 rfl (lv_at hl 0 rfl) ?_
          refine cn_wi (ck_V (a := eP E 0) S lk_X7_66 (c_X7_nextW l E (up2 J 0 4 (nI (tkB T n za.2))) B K T n za hE (mW_nx hWa h0a) h0a) ⟨rfl, rfl⟩ ⟨Nat.le_of_ble_eq_true rfl, Nat.le_of_ble_eq_true rfl⟩ bl_w (rc_w hK hP 0 (by decide) rfl rfl) (bw_U hE hK hC hP hS) rfl hl.1 (Nat.le_of_ble_eq_true rfl) ⟨Nat.le_refl _, Nat.le_refl _⟩ dX7_term_30 rfl) hS (fun r18 u19 H locs g20 hP hS => ?_)
          obtain ⟨rfl, rfl⟩ : r18 = (mBv B n (tkB T n za.2)) ∧ u19 = ((up2 (up2 J 0 4 (nI (tkB T n za.2))) 0 4 (nI (tkB T n za.2))), B, K) := g20
          have hP : Wp mN E mK ((up2 (up2 J 0 4 (nI (tkB T n za.2))) 0 4 (nI (tkB T n za.2))), B, K) H := hP
          rw [up2_up] at hP
          have hP : Wp mN E mK ((up2 J 0 4 (nI (tkB T n za.2))), B, K) H := hP
          refine lv_bipush (v := 42) hx hb dX7_term_33 (by decide) ?_
          refine lv_icmp_ne (tgt := 42) hx hb dX7_term_35 (by decide) (fun h35 => absurd h35 (fun g => g h17)) (fun h35 => ?_)
          refine lv_iconst (v := 1) hx hb dX7_term_38 (by decide) ?_
          refine lv_goto (tgt := 43) hx hb dX7_term_39 (by decide) ?_
          refine lv_istore_n (lv' := [(1, .int 1), (0, .ref (eP E 0))]) hx hb dX7_term_43 rfl hl (by decide) rfl (fun ls hl => ?_)
          refine lv_aload_n hx hb dX7_term_44 rfl (lv_at hl 1 rfl) ?_
          refine lv_dup hx hb dX7_term_45 rfl ?_
          refine rw_geti (x := ((up2 J 0 4 (nI (tkB T n za.2))), B, K)) (v := (nI (tkB T n za.2))) S hK hP 0 (by decide) rfl fk_X7_45 rfl (up2_eq (f := J) (q := 0) (j := 4) (v := (nI (tkB T n za.2)))) dX7_term_46 ?_
          refine lv_iconst (v := 1) hx hb dX7_term_49 (by decide) ?_
          refine lv_iadd hx hb dX7_term_50 ?_
          refine tp_i (y := nI ((tkB T n za.2) + 1)) (nI_add (tkB T n za.2) 1) ?_
          refine rw_puti (x := ((up2 J 0 4 (nI (tkB T n za.2))), B, K)) (v := (nI ((tkB T n za.2) + 1))) S hE hK hP hS 0 (by decide) rfl fk_X7_45 rfl tyX7_ok nmX7 ⟨rfl, by decide +kernel⟩ dX7_term_51 (fun H locs hP hS => ?_)
          have hP : Wp mN E mK ((up2 (up2 J 0 4 (nI (tkB T n za.2))) 0 4 (nI ((tkB T n za.2) + 1))), B, K) H := hP
          rw [up2_up] at hP
          have hP : Wp mN E mK ((up2 J 0 4 (nI (tkB T n za.2 + 1))), B, K) H := hP
          obtain ⟨M, hM⟩ := hg.2 h0a
          refine lv_aload_n hx hb dX7_term_54 rfl (lv_at hl 1 rfl) ?_
          refine cn_wv (ck_V (a := eP E 0) S lk_X7_119 (c_X7_factor_3 l E (up2 J 0 4 (nI (tkB T n za.2 + 1))) B K T n (zA T n za) M hE hsg.1 ((hg.1.1.2 0 13 (by decide)).trans h13) hsg.2.2 hM.1 (by have := hM.2.1; have := hsg.2.1; omega)) ⟨rfl, rfl⟩ ⟨Nat.le_of_ble_eq_true rfl, Nat.le_of_ble_eq_true rfl⟩ bl_w (rc_w hK hP 0 (by decide) rfl rfl) (bw_U hE hK hC hP hS) rfl hl.1 (Nat.le_of_ble_eq_true rfl) ⟨Nat.le_refl _, Nat.le_refl _⟩ dX7_term_55 rfl) hS (fun u22 H locs g23 hP hS => ?_)
          obtain ⟨J24, B24, hg24, rfl⟩ : ∃ oj ob, gP (up2 J 0 4 (nI (tkB T n za.2 + 1))) B T n M (zA T n za) (zFd T n 0 0 3 (zA T n za)).2 (fun am sc => (zFd T n am sc 3 (zA T n za)).1) oj ob ∧ u22 = (oj, ob, K) := g23
          have hP : Wp mN E mK (J24, B24, K) H := hP
          by_cases hz9 : (zFd T n 0 0 3 (zA T n za)).2.1 = 0
          · obtain ⟨M2, hM2⟩ := hg24.2 hz9
            refine lv_aload_n hx hb dX7_term_58 rfl (lv_at hl 1 rfl) ?_
            refine lv_iload_n hx hb dX7_term_59 rfl (lv_at hl 0 rfl) ?_
            refine lv_if_eq (tgt := 67) hx hb dX7_term_60 (by decide) (fun h60 => absurd h60 (by decide)) (fun h60 => ?_)
            refine lv_iconst (v := 4) hx hb dX7_term_63 (by decide) ?_
            refine lv_goto (tgt := 68) hx hb dX7_term_64 (by decide) ?_
            refine cn_wv (ck_V (a := eP E 0) S lk_X7_116 (c_X7_emit l E J24 B24 K 4 M2 hE (hg24.1.1.1.2.1.trans hz9) hM2.1 (by have := hM.2.1; have := hM2.2.1; have := hsg.2.1; have := hg24.1.1.1.1.2.2; omega)) ⟨rfl, rfl⟩ ⟨Nat.le_of_ble_eq_true rfl, Nat.le_of_ble_eq_true rfl⟩ bl_w (rc_w hK hP 0 (by decide) rfl rfl) (bw_U hE hK hC hP hS) rfl hl.1 (Nat.le_of_ble_eq_true rfl) ⟨Nat.le_refl _, Nat.le_refl _⟩ dX7_term_68 rfl) hS (fun u26 H locs g27 hP hS => ?_)
            obtain rfl : u26 = (J24, (mEm B24 M2 4), K) := g27
            have hP : Wp mN E mK (J24, (mEm B24 M2 4), K) H := hP
            refine lv_goto (tgt := 4) hx hb dX7_term_71 (by decide) ?_
            exact ih _ (fun am sc => cProd (f am sc) (zFd T n am sc 3 (zA T n za)).1) _ _ (by have h9 := hsg.2.1; have h8 := zGe_Fd (T := T) (n := n) (sz := 0) (sc := 0) 3 (zA T n za); omega) (⟨gB_tr hg.1 (rP_u rP_rf (Or.inl rfl)) (gB_em hg24.1), fun _ => ⟨_, gM_op hM hsg.2.1 hM2 (by decide) (fun am sc h1 h2 => op_mul.1)⟩⟩) (fun am sc h1 h2 => op_mul.2) (fun am sc => (show zTl T n (zFd T n am sc 3) cnt (cProd (f am sc) (zFd T n am sc 3 (zA T n za)).1, (zFd T n 0 0 3 (zA T n za)).2) = _ from (by rw [zFd_i (a := 0) (b := 0) am sc 3 (zA T n za)]; exact (zTl_m q1).symm.trans (hv am sc)))) _ _ hP hS ls (lv_sub hl [1] rfl)
          · refine lv_aload_n hx hb dX7_term_58 rfl (lv_at hl 1 rfl) ?_
            refine lv_iload_n hx hb dX7_term_59 rfl (lv_at hl 0 rfl) ?_
            refine lv_if_eq (tgt := 67) hx hb dX7_term_60 (by decide) (fun h60 => absurd h60 (by decide)) (fun h60 => ?_)
            refine lv_iconst (v := 4) hx hb dX7_term_63 (by decide) ?_
            refine lv_goto (tgt := 68) hx hb dX7_term_64 (by decide) ?_
            refine cn_wv (ck_V (a := eP E 0) S lk_X7_116 (c_X7_emit_bad l E J24 B24 K 4 hE (fun g => hz9 (hg24.1.1.1.2.1.symm.trans g))) ⟨rfl, rfl⟩ ⟨Nat.le_of_ble_eq_true rfl, Nat.le_of_ble_eq_true rfl⟩ bl_w (rc_w hK hP 0 (by decide) rfl rfl) (bw_U hE hK hC hP hS) rfl hl.1 (Nat.le_of_ble_eq_true rfl) ⟨Nat.le_refl _, Nat.le_refl _⟩ dX7_term_68 rfl) hS (fun u29 H locs g30 hP hS => ?_)
            obtain rfl : u29 = (J24, B24, K) := g30
            have hP : Wp mN E mK (J24, B24, K) H := hP
            refine lv_goto (tgt := 4) hx hb dX7_term_71 (by decide) ?_
            exact ih _ (fun am sc => cProd (f am sc) (zFd T n am sc 3 (zA T n za)).1) _ _ (by have h9 := hsg.2.1; have h8 := zGe_Fd (T := T) (n := n) (sz := 0) (sc := 0) 3 (zA T n za); omega) (gP_bad hz9 (gB_tr hg.1 (rP_u rP_rf (Or.inl rfl)) hg24.1)) (fun am sc h1 h2 => op_mul.2) (fun am sc => (show zTl T n (zFd T n am sc 3) cnt (cProd (f am sc) (zFd T n am sc 3 (zA T n za)).1, (zFd T n 0 0 3 (zA T n za)).2) = _ from (by rw [zFd_i (a := 0) (b := 0) am sc 3 (zA T n za)]; exact (zTl_m q1).symm.trans (hv am sc)))) _ _ hP hS ls (lv_sub hl [1] rfl)
        · have q1 : zS T n 42 za = false := Bool.eq_false_iff.mpr (fun g => h17 ((zS_b (ch := 42) hTa h0a (by decide) (by decide)).mpr g))
          refine lv_aload_n hx hb dX7_term_20 rfl (lv_at hl 0 rfl) ?_
          refine cn_wi (ck_V (a := eP E 0) S lk_X7_66 (c_X7_nextW l E (up2 J 0 4 (nI (tkB T n za.2))) B K T n za hE (mW_nx hWa h0a) h0a) ⟨rfl, rfl⟩ ⟨Nat.le_of_ble_eq_true rfl, Nat.le_of_ble_eq_true rfl⟩ bl_w (rc_w hK hP 0 (by decide) rfl rfl) (bw_U hE hK hC hP hS) rfl hl.1 (Nat.le_of_ble_eq_true rfl) ⟨Nat.le_refl _, Nat.le_refl _⟩ dX7_term_21 rfl) hS (fun r31 u32 H locs g33 hP hS => ?_)
          obtain ⟨rfl, rfl⟩ : r31 = (mBv B n (tkB T n za.2)) ∧ u32 = ((up2 (up2 J 0 4 (nI (tkB T n za.2))) 0 4 (nI (tkB T n za.2))), B, K) := g33
          have hP : Wp mN E mK ((up2 (up2 J 0 4 (nI (tkB T n za.2))) 0 4 (nI (tkB T n za.2))), B, K) H := hP
          rw [up2_up] at hP
          have hP : Wp mN E mK ((up2 J 0 4 (nI (tkB T n za.2))), B, K) H := hP
          refine lv_bipush (v := 47) hx hb dX7_term_24 (by decide) ?_
          refine lv_icmp_ne (tgt := 74) hx hb dX7_term_26 (by decide) (fun h26 => ?_) (fun h26 => ?_)
          · have q2 : zS T n 47 za = false := Bool.eq_false_iff.mpr (fun g => h26 ((zS_b (ch := 47) hTa h0a (by decide) (by decide)).mpr g))
            exact re_wv (x := ((up2 J 0 4 (nI (tkB T n za.2))), B, K)) hx hb hr hlk hP hS ⟨_, B, gP_eq (fun am sc => (zTl_x q1 q2 _).symm.trans (hv am sc)) ⟨gB_u hg.1 h0a, hg.2⟩, rfl⟩ dX7_term_74
          · have q2 : zS T n 47 za = true := (zS_b (ch := 47) hTa h0a (by decide) (by decide)).mp h26
            have hsg := mW_sg (ch := 47) hWa (by decide) q2
            refine lv_aload_n hx hb dX7_term_29 rfl (lv_at hl 0 rfl) ?_
            refine cn_wi (ck_V (a := eP E 0) S lk_X7_66 (c_X7_nextW l E (up2 J 0 4 (nI (tkB T n za.2))) B K T n za hE (mW_nx hWa h0a) h0a) ⟨rfl, rfl⟩ ⟨Nat.le_of_ble_eq_true rfl, Nat.le_of_ble_eq_true rfl⟩ bl_w (rc_w hK hP 0 (by decide) rfl rfl) (bw_U hE hK hC hP hS) rfl hl.1 (Nat.le_of_ble_eq_true rfl) ⟨Nat.le_refl _, Nat.le_refl _⟩ dX7_term_30 rfl) hS (fun r34 u35 H locs g36 hP hS => ?_)
            obtain ⟨rfl, rfl⟩ : r34 = (mBv B n (tkB T n za.2)) ∧ u35 = ((up2 (up2 J 0 4 (nI (tkB T n za.2))) 0 4 (nI (tkB T n za.2))), B, K) := g36
            have hP : Wp mN E mK ((up2 (up2 J 0 4 (nI (tkB T n za.2))) 0 4 (nI (tkB T n za.2))), B, K) H := hP
            rw [up2_up] at hP
            have hP : Wp mN E mK ((up2 J 0 4 (nI (tkB T n za.2))), B, K) H := hP
            refine lv_bipush (v := 42) hx hb dX7_term_33 (by decide) ?_
            refine lv_icmp_ne (tgt := 42) hx hb dX7_term_35 (by decide) (fun h35 => ?_) (fun h35 => absurd h35 (show ¬ mBv B n (tkB T n za.2) = 42 from h17))
            refine lv_iconst (v := 0) hx hb dX7_term_42 (by decide) ?_
            refine lv_istore_n (lv' := [(1, .int 0), (0, .ref (eP E 0))]) hx hb dX7_term_43 rfl hl (by decide) rfl (fun ls hl => ?_)
            refine lv_aload_n hx hb dX7_term_44 rfl (lv_at hl 1 rfl) ?_
            refine lv_dup hx hb dX7_term_45 rfl ?_
            refine rw_geti (x := ((up2 J 0 4 (nI (tkB T n za.2))), B, K)) (v := (nI (tkB T n za.2))) S hK hP 0 (by decide) rfl fk_X7_45 rfl (up2_eq (f := J) (q := 0) (j := 4) (v := (nI (tkB T n za.2)))) dX7_term_46 ?_
            refine lv_iconst (v := 1) hx hb dX7_term_49 (by decide) ?_
            refine lv_iadd hx hb dX7_term_50 ?_
            refine tp_i (y := nI ((tkB T n za.2) + 1)) (nI_add (tkB T n za.2) 1) ?_
            refine rw_puti (x := ((up2 J 0 4 (nI (tkB T n za.2))), B, K)) (v := (nI ((tkB T n za.2) + 1))) S hE hK hP hS 0 (by decide) rfl fk_X7_45 rfl tyX7_ok nmX7 ⟨rfl, by decide +kernel⟩ dX7_term_51 (fun H locs hP hS => ?_)
            have hP : Wp mN E mK ((up2 (up2 J 0 4 (nI (tkB T n za.2))) 0 4 (nI ((tkB T n za.2) + 1))), B, K) H := hP
            rw [up2_up] at hP
            have hP : Wp mN E mK ((up2 J 0 4 (nI (tkB T n za.2 + 1))), B, K) H := hP
            obtain ⟨M, hM⟩ := hg.2 h0a
            refine lv_aload_n hx hb dX7_term_54 rfl (lv_at hl 1 rfl) ?_
            refine cn_wv (ck_V (a := eP E 0) S lk_X7_119 (c_X7_factor_3 l E (up2 J 0 4 (nI (tkB T n za.2 + 1))) B K T n (zA T n za) M hE hsg.1 ((hg.1.1.2 0 13 (by decide)).trans h13) hsg.2.2 hM.1 (by have := hM.2.1; have := hsg.2.1; omega)) ⟨rfl, rfl⟩ ⟨Nat.le_of_ble_eq_true rfl, Nat.le_of_ble_eq_true rfl⟩ bl_w (rc_w hK hP 0 (by decide) rfl rfl) (bw_U hE hK hC hP hS) rfl hl.1 (Nat.le_of_ble_eq_true rfl) ⟨Nat.le_refl _, Nat.le_refl _⟩ dX7_term_55 rfl) hS (fun u38 H locs g39 hP hS => ?_)
            obtain ⟨J40, B40, hg40, rfl⟩ : ∃ oj ob, gP (up2 J 0 4 (nI (tkB T n za.2 + 1))) B T n M (zA T n za) (zFd T n 0 0 3 (zA T n za)).2 (fun am sc => (zFd T n am sc 3 (zA T n za)).1) oj ob ∧ u38 = (oj, ob, K) := g39
            have hP : Wp mN E mK (J40, B40, K) H := hP
            by_cases hz9 : (zFd T n 0 0 3 (zA T n za)).2.1 = 0
            · obtain ⟨M2, hM2⟩ := hg40.2 hz9
              refine lv_aload_n hx hb dX7_term_58 rfl (lv_at hl 1 rfl) ?_
              refine lv_iload_n hx hb dX7_term_59 rfl (lv_at hl 0 rfl) ?_
              refine lv_if_eq (tgt := 67) hx hb dX7_term_60 (by decide) (fun h60 => ?_) (fun h60 => absurd (by decide) h60)
              refine lv_iconst (v := 5) hx hb dX7_term_67 (by decide) ?_
              refine cn_wv (ck_V (a := eP E 0) S lk_X7_116 (c_X7_emit l E J40 B40 K 5 M2 hE (hg40.1.1.1.2.1.trans hz9) hM2.1 (by have := hM.2.1; have := hM2.2.1; have := hsg.2.1; have := hg40.1.1.1.1.2.2; omega)) ⟨rfl, rfl⟩ ⟨Nat.le_of_ble_eq_true rfl, Nat.le_of_ble_eq_true rfl⟩ bl_w (rc_w hK hP 0 (by decide) rfl rfl) (bw_U hE hK hC hP hS) rfl hl.1 (Nat.le_of_ble_eq_true rfl) ⟨Nat.le_refl _, Nat.le_refl _⟩ dX7_term_68 rfl) hS (fun u42 H locs g43 hP hS => ?_)
              obtain rfl : u42 = (J40, (mEm B40 M2 5), K) := g43
              have hP : Wp mN E mK (J40, (mEm B40 M2 5), K) H := hP
              refine lv_goto (tgt := 4) hx hb dX7_term_71 (by decide) ?_
              exact ih _ (fun am sc => cQuo (f am sc) (zFd T n am sc 3 (zA T n za)).1) _ _ (by have h9 := hsg.2.1; have h8 := zGe_Fd (T := T) (n := n) (sz := 0) (sc := 0) 3 (zA T n za); omega) (⟨gB_tr hg.1 (rP_u rP_rf (Or.inl rfl)) (gB_em hg40.1), fun _ => ⟨_, gM_op hM hsg.2.1 hM2 (by decide) (fun am sc h1 h2 => (op_div (hfv am sc h1 h2) (vR_Fd h1 h2 3 _)).1)⟩⟩) (fun am sc h1 h2 => (op_div (hfv am sc h1 h2) (vR_Fd h1 h2 3 _)).2) (fun am sc => (show zTl T n (zFd T n am sc 3) cnt (cQuo (f am sc) (zFd T n am sc 3 (zA T n za)).1, (zFd T n 0 0 3 (zA T n za)).2) = _ from (by rw [zFd_i (a := 0) (b := 0) am sc 3 (zA T n za)]; exact (zTl_d q1 q2).symm.trans (hv am sc)))) _ _ hP hS ls (lv_sub hl [1] rfl)
            · refine lv_aload_n hx hb dX7_term_58 rfl (lv_at hl 1 rfl) ?_
              refine lv_iload_n hx hb dX7_term_59 rfl (lv_at hl 0 rfl) ?_
              refine lv_if_eq (tgt := 67) hx hb dX7_term_60 (by decide) (fun h60 => ?_) (fun h60 => absurd (by decide) h60)
              refine lv_iconst (v := 5) hx hb dX7_term_67 (by decide) ?_
              refine cn_wv (ck_V (a := eP E 0) S lk_X7_116 (c_X7_emit_bad l E J40 B40 K 5 hE (fun g => hz9 (hg40.1.1.1.2.1.symm.trans g))) ⟨rfl, rfl⟩ ⟨Nat.le_of_ble_eq_true rfl, Nat.le_of_ble_eq_true rfl⟩ bl_w (rc_w hK hP 0 (by decide) rfl rfl) (bw_U hE hK hC hP hS) rfl hl.1 (Nat.le_of_ble_eq_true rfl) ⟨Nat.le_refl _, Nat.le_refl _⟩ dX7_term_68 rfl) hS (fun u45 H locs g46 hP hS => ?_)
              obtain rfl : u45 = (J40, B40, K) := g46
              have hP : Wp mN E mK (J40, B40, K) H := hP
              refine lv_goto (tgt := 4) hx hb dX7_term_71 (by decide) ?_
              exact ih _ (fun am sc => cQuo (f am sc) (zFd T n am sc 3 (zA T n za)).1) _ _ (by have h9 := hsg.2.1; have h8 := zGe_Fd (T := T) (n := n) (sz := 0) (sc := 0) 3 (zA T n za); omega) (gP_bad hz9 (gB_tr hg.1 (rP_u rP_rf (Or.inl rfl)) hg40.1)) (fun am sc h1 h2 => (op_div (hfv am sc h1 h2) (vR_Fd h1 h2 3 _)).2) (fun am sc => (show zTl T n (zFd T n am sc 3) cnt (cQuo (f am sc) (zFd T n am sc 3 (zA T n za)).1, (zFd T n 0 0 3 (zA T n za)).2) = _ from (by rw [zFd_i (a := 0) (b := 0) am sc 3 (zA T n za)]; exact (zTl_d q1 q2).symm.trans (hv am sc)))) _ _ hP hS ls (lv_sub hl [1] rfl)
  exact HL 700 _ (fun am sc => (zFd T n am sc 3 z).1) _ _ (by omega) hg4 (fun am sc h1 h2 => vR_Fd h1 h2 3 z) (fun am sc => (congrArg (zTl T n (zFd T n am sc 3) 700) (show ((zFd T n am sc 3 z).1, (zFd T n 0 0 3 z).2) = zFd T n am sc 3 z from by rw [zFd_i am sc 3 z])).trans zTd_e.symm) _ _ hP hS ls (lv_sub hl [0] rfl)

set_option maxHeartbeats 1000000 in
set_option maxRecDepth 100000 in
theorem c_X7_sum_3 (l : Launch) (E : En) (I A : Nat → Nat → Int32) (K : Nat → Nat → Int64) (T : Nat → Int32) (n : Nat) (z : Tz) (N : Nat) (hE : Ev mN E) (hW : mW I A T n z) (h13 : I 0 13 = 1) (h0 : z.1 = 0) (hN : A 3 3 = nI N) (hNb : 2 * N ≤ 3 * z.2) : Met l yX7_sum (wz yX7_sum cX7_sum 2 none) (rmk 16 0 0 354) (va_Pc [.ref (eP E 0)] (Bw mN E mK (I, A, K))) (qWv mN E mK (fun uu => ∃ J B, gP I A T n N z (zSu T n 0 0 3 z).2 (fun am sc => (zSu T n am sc 3 z).1) J B ∧ uu = (J, B, K))) 0 0 (cA mN E) := by
  refine en_ofW RX7 rfl (by decide +kernel) (Nat.le_of_ble_eq_true rfl) ?_
  intro p e s m below meth c ls S hr hlk hnm hl hB
  have hx := S.1
  have hb := S.2.1
  obtain ⟨hK, hC, hP⟩ := hB
  have hS : va_S (cA mN E) s.heap s.heap [] := va_S.rf
  have hl : lv_has ls 2 [(0, .ref (eP E 0))] := hl
  obtain ⟨⟨hn3, hTT, hzn⟩, h5c, h5p, h5e⟩ := id hW
  have hn7 := hTT.1
  have hBn := tkB_le (T := T) hzn
  have hzl : z.2 ≤ 700 := Nat.le_trans hzn hn7
  refine lv_aload_n hx hb dX7_sum_0 rfl (lv_at hl 0 rfl) ?_
  refine cn_wv (ck_V (a := eP E 0) S lk_X7_122 (c_X7_term_3 l E I A K T n z N hE hW h13 h0 hN hNb) ⟨rfl, rfl⟩ ⟨Nat.le_of_ble_eq_true rfl, Nat.le_of_ble_eq_true rfl⟩ bl_w (rc_w hK hP 0 (by decide) rfl rfl) (bw_U hE hK hC hP hS) rfl hl.1 (Nat.le_of_ble_eq_true rfl) ⟨Nat.le_refl _, Nat.le_refl _⟩ dX7_sum_1 rfl) hS (fun u2 H locs g3 hP hS => ?_)
  obtain ⟨J4, B4, hg4, rfl⟩ : ∃ oj ob, gP I A T n N z (zTd T n 0 0 3 z).2 (fun am sc => (zTd T n am sc 3 z).1) oj ob ∧ u2 = (oj, ob, K) := g3
  have hP : Wp mN E mK (J4, B4, K) H := hP
  have HL : ∀ (cnt : Nat) (za : Tz) (f : Int32 → Int32 → Int32) (J B : Nat → Nat → Int32), n - za.2 ≤ cnt → gP I A T n N z za f J B → (∀ am sc, vR am → vR sc → vR (f am sc)) → (∀ am sc, zSl T n (zTd T n am sc 3) cnt (f am sc, za) = zSu T n am sc 3 z) → ∀ (H : Heap) (locs : List Loc), Wp mN E mK (J, B, K) H → va_S (cA mN E) s.heap H locs → ∀ ls : Array Slot, lv_has ls 2 [(0, .ref (eP E 0))] → W p l e (rmk 16 0 0 354) s m ([.ref (eP E 0)] : List Value).toArray below meth c H locs 0 0 (MQ below (qWv mN E mK (fun uu => ∃ J B, gP I A T n N z (zSu T n 0 0 3 z).2 (fun am sc => (zSu T n am sc 3 z).1) J B ∧ uu = (J, B, K))) ([.ref (eP E 0)] : List Value).toArray s 0 0 (cA mN E)) (F0 m 4 ls []) := by
    intro cnt
    induction cnt with
    | zero =>
      intro za f J B hm hg hfv hv H locs hP hS ls hl
      have hWa := hg.1.1.1
      have h5a : J 0 5 = za.1 := hWa.2.1
      have hzan := hWa.1.2.2
      have hTa := hWa.1.2.1
      refine lv_aload_n hx hb dX7_sum_4 rfl (lv_at hl 0 rfl) ?_
      refine cn_si (ck_V (a := eP E 0) S lk_X7_62 (c_X7_isGood l E J B K hE) ⟨rfl, rfl⟩ ⟨Nat.le_of_ble_eq_true rfl, Nat.le_of_ble_eq_true rfl⟩ bl_w (rc_w hK hP 0 (by decide) rfl rfl) (bw_U hE hK hC hP hS) rfl hl.1 (Nat.le_of_ble_eq_true rfl) ⟨Nat.le_refl _, Nat.le_refl _⟩ dX7_sum_5 rfl) (fun r5 g6 => ?_)
      obtain rfl : r5 = bI (decide (J 0 5 = 0)) := g6
      refine lv_if_eq (tgt := 74) hx hb dX7_sum_8 (by decide) (fun h8 => ?_) (fun h8 => ?_)
      · have hnz : ¬ za.1 = 0 := fun g => absurd (decide_eq_true (h5a.trans g)) (by rw [bI_f h8]; decide)
        exact re_wv (x := (J, B, K)) hx hb hr hlk hP hS ⟨J, B, gP_eq (fun am sc => (zSl_x (zS_c hnz) (zS_c hnz) _).symm.trans (hv am sc)) hg, rfl⟩ dX7_sum_74
      · have h0a : za.1 = 0 := h5a.symm.trans (of_decide_eq_true (bI_t h8))
        refine lv_aload_n hx hb dX7_sum_11 rfl (lv_at hl 0 rfl) ?_
        refine cn_wi (ck_V (a := eP E 0) S lk_X7_66 (c_X7_nextW l E J B K T n za hE hWa h0a) ⟨rfl, rfl⟩ ⟨Nat.le_of_ble_eq_true rfl, Nat.le_of_ble_eq_true rfl⟩ bl_w (rc_w hK hP 0 (by decide) rfl rfl) (bw_U hE hK hC hP hS) rfl hl.1 (Nat.le_of_ble_eq_true rfl) ⟨Nat.le_refl _, Nat.le_refl _⟩ dX7_sum_12 rfl) hS (fun r7 u8 H locs g9 hP hS => ?_)
        obtain ⟨rfl, rfl⟩ : r7 = (mBv B n (tkB T n za.2)) ∧ u8 = ((up2 J 0 4 (nI (tkB T n za.2))), B, K) := g9
        have hP : Wp mN E mK ((up2 J 0 4 (nI (tkB T n za.2))), B, K) H := hP
        refine lv_bipush (v := 43) hx hb dX7_sum_15 (by decide) ?_
        refine lv_icmp_eq (tgt := 29) hx hb dX7_sum_17 (by decide) (fun h17 => ?_) (fun h17 => ?_)
        · have q1 : zS T n 43 za = true := (zS_b (ch := 43) hTa h0a (by decide) (by decide)).mp h17
          have hsg := mW_sg (ch := 43) hWa (by decide) q1
          exact absurd (zS_e (ch := 43) (by decide) q1).2 (by have := tkB_ge (T := T) (n := n) (p := za.2); omega)
        · have q1 : zS T n 43 za = false := Bool.eq_false_iff.mpr (fun g => h17 ((zS_b (ch := 43) hTa h0a (by decide) (by decide)).mpr g))
          refine lv_aload_n hx hb dX7_sum_20 rfl (lv_at hl 0 rfl) ?_
          refine cn_wi (ck_V (a := eP E 0) S lk_X7_66 (c_X7_nextW l E (up2 J 0 4 (nI (tkB T n za.2))) B K T n za hE (mW_nx hWa h0a) h0a) ⟨rfl, rfl⟩ ⟨Nat.le_of_ble_eq_true rfl, Nat.le_of_ble_eq_true rfl⟩ bl_w (rc_w hK hP 0 (by decide) rfl rfl) (bw_U hE hK hC hP hS) rfl hl.1 (Nat.le_of_ble_eq_true rfl) ⟨Nat.le_refl _, Nat.le_refl _⟩ dX7_sum_21 rfl) hS (fun r10 u11 H locs g12 hP hS => ?_)
          obtain ⟨rfl, rfl⟩ : r10 = (mBv B n (tkB T n za.2)) ∧ u11 = ((up2 (up2 J 0 4 (nI (tkB T n za.2))) 0 4 (nI (tkB T n za.2))), B, K) := g12
          have hP : Wp mN E mK ((up2 (up2 J 0 4 (nI (tkB T n za.2))) 0 4 (nI (tkB T n za.2))), B, K) H := hP
          rw [up2_up] at hP
          have hP : Wp mN E mK ((up2 J 0 4 (nI (tkB T n za.2))), B, K) H := hP
          refine lv_bipush (v := 45) hx hb dX7_sum_24 (by decide) ?_
          refine lv_icmp_ne (tgt := 74) hx hb dX7_sum_26 (by decide) (fun h26 => ?_) (fun h26 => ?_)
          · have q2 : zS T n 45 za = false := Bool.eq_false_iff.mpr (fun g => h26 ((zS_b (ch := 45) hTa h0a (by decide) (by decide)).mpr g))
            exact re_wv (x := ((up2 J 0 4 (nI (tkB T n za.2))), B, K)) hx hb hr hlk hP hS ⟨_, B, gP_eq (fun am sc => (zSl_x q1 q2 _).symm.trans (hv am sc)) ⟨gB_u hg.1 h0a, hg.2⟩, rfl⟩ dX7_sum_74
          · have q2 : zS T n 45 za = true := (zS_b (ch := 45) hTa h0a (by decide) (by decide)).mp h26
            have hsg := mW_sg (ch := 45) hWa (by decide) q2
            exact absurd (zS_e (ch := 45) (by decide) q2).2 (by have := tkB_ge (T := T) (n := n) (p := za.2); omega)
    | succ cnt ih =>
      intro za f J B hm hg hfv hv H locs hP hS ls hl
      have hWa := hg.1.1.1
      have h5a : J 0 5 = za.1 := hWa.2.1
      have hzan := hWa.1.2.2
      have hTa := hWa.1.2.1
      refine lv_aload_n hx hb dX7_sum_4 rfl (lv_at hl 0 rfl) ?_
      refine cn_si (ck_V (a := eP E 0) S lk_X7_62 (c_X7_isGood l E J B K hE) ⟨rfl, rfl⟩ ⟨Nat.le_of_ble_eq_true rfl, Nat.le_of_ble_eq_true rfl⟩ bl_w (rc_w hK hP 0 (by decide) rfl rfl) (bw_U hE hK hC hP hS) rfl hl.1 (Nat.le_of_ble_eq_true rfl) ⟨Nat.le_refl _, Nat.le_refl _⟩ dX7_sum_5 rfl) (fun r13 g14 => ?_)
      obtain rfl : r13 = bI (decide (J 0 5 = 0)) := g14
      refine lv_if_eq (tgt := 74) hx hb dX7_sum_8 (by decide) (fun h8 => ?_) (fun h8 => ?_)
      · have hnz : ¬ za.1 = 0 := fun g => absurd (decide_eq_true (h5a.trans g)) (by rw [bI_f h8]; decide)
        exact re_wv (x := (J, B, K)) hx hb hr hlk hP hS ⟨J, B, gP_eq (fun am sc => (zSl_x (zS_c hnz) (zS_c hnz) _).symm.trans (hv am sc)) hg, rfl⟩ dX7_sum_74
      · have h0a : za.1 = 0 := h5a.symm.trans (of_decide_eq_true (bI_t h8))
        refine lv_aload_n hx hb dX7_sum_11 rfl (lv_at hl 0 rfl) ?_
        refine cn_wi (ck_V (a := eP E 0) S lk_X7_66 (c_X7_nextW l E J B K T n za hE hWa h0a) ⟨rfl, rfl⟩ ⟨Nat.le_of_ble_eq_true rfl, Nat.le_of_ble_eq_true rfl⟩ bl_w (rc_w hK hP 0 (by decide) rfl rfl) (bw_U hE hK hC hP hS) rfl hl.1 (Nat.le_of_ble_eq_true rfl) ⟨Nat.le_refl _, Nat.le_refl _⟩ dX7_sum_12 rfl) hS (fun r15 u16 H locs g17 hP hS => ?_)
        obtain ⟨rfl, rfl⟩ : r15 = (mBv B n (tkB T n za.2)) ∧ u16 = ((up2 J 0 4 (nI (tkB T n za.2))), B, K) := g17
        have hP : Wp mN E mK ((up2 J 0 4 (nI (tkB T n za.2))), B, K) H := hP
        refine lv_bipush (v := 43) hx hb dX7_sum_15 (by decide) ?_
        refine lv_icmp_eq (tgt := 29) hx hb dX7_sum_17 (by decide) (fun h17 => ?_) (fun h17 => ?_)
        · have q1 : zS T n 43 za = true := (zS_b (ch := 43) hTa h0a (by decide) (by decide)).mp h17
          have hsg := mW_sg (ch := 43) hWa (by decide) q1
          refine lv_aload_n hx hb dX7_sum_29 rfl (lv_at hl 0 rfl) ?_
          refine cn_wi (ck_V (a := eP E 0) S lk_X7_66 (c_X7_nextW l E (up2 J 0 4 (nI (tkB T n za.2))) B K T n za hE (mW_nx hWa h0a) h0a) ⟨rfl, rfl⟩ ⟨Nat.le_of_ble_eq_true rfl, Nat.le_of_ble_eq_true rfl⟩ bl_w (rc_w hK hP 0 (by decide) rfl rfl) (bw_U hE hK hC hP hS) rfl hl.1 (Nat.le_of_ble_eq_true rfl) ⟨Nat.le_refl _, Nat.le_refl _⟩ dX7_sum_30 rfl) hS (fun r18 u19 H locs g20 hP hS => ?_)
          obtain ⟨rfl, rfl⟩ : r18 = (mBv B n (tkB T n za.2)) ∧ u19 = ((up2 (up2 J 0 4 (nI (tkB T n za.2))) 0 4 (nI (tkB T n za.2))), B, K) := g20
          have hP : Wp mN E mK ((up2 (up2 J 0 4 (nI (tkB T n za.2))) 0 4 (nI (tkB T n za.2))), B, K) H := hP
          rw [up2_up] at hP
          have hP : Wp mN E mK ((up2 J 0 4 (nI (tkB T n za.2))), B, K) H := hP
          refine lv_bipush (v := 43) hx hb dX7_sum_33 (by decide) ?_
          refine lv_icmp_ne (tgt := 42) hx hb dX7_sum_35 (by decide) (fun h35 => absurd h35 (fun g => g h17)) (fun h35 => ?_)
          refine lv_iconst (v := 1) hx hb dX7_sum_38 (by decide) ?_
          refine lv_goto (tgt := 43) hx hb dX7_sum_39 (by decide) ?_
          refine lv_istore_n (lv' := [(1, .int 1), (0, .ref (eP E 0))]) hx hb dX7_sum_43 rfl hl (by decide) rfl (fun ls hl => ?_)
          refine lv_aload_n hx hb dX7_sum_44 rfl (lv_at hl 1 rfl) ?_
          refine lv_dup hx hb dX7_sum_45 rfl ?_
          refine rw_geti (x := ((up2 J 0 4 (nI (tkB T n za.2))), B, K)) (v := (nI (tkB T n za.2))) S hK hP 0 (by decide) rfl fk_X7_45 rfl (up2_eq (f := J) (q := 0) (j := 4) (v := (nI (tkB T n za.2)))) dX7_sum_46 ?_
          refine lv_iconst (v := 1) hx hb dX7_sum_49 (by decide) ?_
          refine lv_iadd hx hb dX7_sum_50 ?_
          refine tp_i (y := nI ((tkB T n za.2) + 1)) (nI_add (tkB T n za.2) 1) ?_
          refine rw_puti (x := ((up2 J 0 4 (nI (tkB T n za.2))), B, K)) (v := (nI ((tkB T n za.2) + 1))) S hE hK hP hS 0 (by decide) rfl fk_X7_45 rfl tyX7_ok nmX7 ⟨rfl, by decide +kernel⟩ dX7_sum_51 (fun H locs hP hS => ?_)
          have hP : Wp mN E mK ((up2 (up2 J 0 4 (nI (tkB T n za.2))) 0 4 (nI ((tkB T n za.2) + 1))), B, K) H := hP
          rw [up2_up] at hP
          have hP : Wp mN E mK ((up2 J 0 4 (nI (tkB T n za.2 + 1))), B, K) H := hP
          obtain ⟨M, hM⟩ := hg.2 h0a
          refine lv_aload_n hx hb dX7_sum_54 rfl (lv_at hl 1 rfl) ?_
          refine cn_wv (ck_V (a := eP E 0) S lk_X7_122 (c_X7_term_3 l E (up2 J 0 4 (nI (tkB T n za.2 + 1))) B K T n (zA T n za) M hE hsg.1 ((hg.1.1.2 0 13 (by decide)).trans h13) hsg.2.2 hM.1 (by have := hM.2.1; have := hsg.2.1; omega)) ⟨rfl, rfl⟩ ⟨Nat.le_of_ble_eq_true rfl, Nat.le_of_ble_eq_true rfl⟩ bl_w (rc_w hK hP 0 (by decide) rfl rfl) (bw_U hE hK hC hP hS) rfl hl.1 (Nat.le_of_ble_eq_true rfl) ⟨Nat.le_refl _, Nat.le_refl _⟩ dX7_sum_55 rfl) hS (fun u22 H locs g23 hP hS => ?_)
          obtain ⟨J24, B24, hg24, rfl⟩ : ∃ oj ob, gP (up2 J 0 4 (nI (tkB T n za.2 + 1))) B T n M (zA T n za) (zTd T n 0 0 3 (zA T n za)).2 (fun am sc => (zTd T n am sc 3 (zA T n za)).1) oj ob ∧ u22 = (oj, ob, K) := g23
          have hP : Wp mN E mK (J24, B24, K) H := hP
          by_cases hz9 : (zTd T n 0 0 3 (zA T n za)).2.1 = 0
          · obtain ⟨M2, hM2⟩ := hg24.2 hz9
            refine lv_aload_n hx hb dX7_sum_58 rfl (lv_at hl 1 rfl) ?_
            refine lv_iload_n hx hb dX7_sum_59 rfl (lv_at hl 0 rfl) ?_
            refine lv_if_eq (tgt := 67) hx hb dX7_sum_60 (by decide) (fun h60 => absurd h60 (by decide)) (fun h60 => ?_)
            refine lv_iconst (v := 2) hx hb dX7_sum_63 (by decide) ?_
            refine lv_goto (tgt := 68) hx hb dX7_sum_64 (by decide) ?_
            refine cn_wv (ck_V (a := eP E 0) S lk_X7_116 (c_X7_emit l E J24 B24 K 2 M2 hE (hg24.1.1.1.2.1.trans hz9) hM2.1 (by have := hM.2.1; have := hM2.2.1; have := hsg.2.1; have := hg24.1.1.1.1.2.2; omega)) ⟨rfl, rfl⟩ ⟨Nat.le_of_ble_eq_true rfl, Nat.le_of_ble_eq_true rfl⟩ bl_w (rc_w hK hP 0 (by decide) rfl rfl) (bw_U hE hK hC hP hS) rfl hl.1 (Nat.le_of_ble_eq_true rfl) ⟨Nat.le_refl _, Nat.le_refl _⟩ dX7_sum_68 rfl) hS (fun u26 H locs g27 hP hS => ?_)
            obtain rfl : u26 = (J24, (mEm B24 M2 2), K) := g27
            have hP : Wp mN E mK (J24, (mEm B24 M2 2), K) H := hP
            refine lv_goto (tgt := 4) hx hb dX7_sum_71 (by decide) ?_
            exact ih _ (fun am sc => pLim (f am sc + (zTd T n am sc 3 (zA T n za)).1) (-1000000) 1000000) _ _ (by have h9 := hsg.2.1; have h8 := zGe_Td (T := T) (n := n) (sz := 0) (sc := 0) 3 (zA T n za); omega) (⟨gB_tr hg.1 (rP_u rP_rf (Or.inl rfl)) (gB_em hg24.1), fun _ => ⟨_, gM_op hM hsg.2.1 hM2 (by decide) (fun am sc h1 h2 => (op_add (hfv am sc h1 h2) (vR_Td h1 h2 3 _)).1)⟩⟩) (fun am sc h1 h2 => vR_lim) (fun am sc => (show zSl T n (zTd T n am sc 3) cnt (pLim (f am sc + (zTd T n am sc 3 (zA T n za)).1) (-1000000) 1000000, (zTd T n 0 0 3 (zA T n za)).2) = _ from (by rw [zTd_i (a := 0) (b := 0) am sc 3 (zA T n za)]; exact (zSl_m q1).symm.trans (hv am sc)))) _ _ hP hS ls (lv_sub hl [1] rfl)
          · refine lv_aload_n hx hb dX7_sum_58 rfl (lv_at hl 1 rfl) ?_
            refine lv_iload_n hx hb dX7_sum_59 rfl (lv_at hl 0 rfl) ?_
            refine lv_if_eq (tgt := 67) hx hb dX7_sum_60 (by decide) (fun h60 => absurd h60 (by decide)) (fun h60 => ?_)
            refine lv_iconst (v := 2) hx hb dX7_sum_63 (by decide) ?_
            refine lv_goto (tgt := 68) hx hb dX7_sum_64 (by decide) ?_
            refine cn_wv (ck_V (a := eP E 0) S lk_X7_116 (c_X7_emit_bad l E J24 B24 K 2 hE (fun g => hz9 (hg24.1.1.1.2.1.symm.trans g))) ⟨rfl, rfl⟩ ⟨Nat.le_of_ble_eq_true rfl, Nat.le_of_ble_eq_true rfl⟩ bl_w (rc_w hK hP 0 (by decide) rfl rfl) (bw_U hE hK hC hP hS) rfl hl.1 (Nat.le_of_ble_eq_true rfl) ⟨Nat.le_refl _, Nat.le_refl _⟩ dX7_sum_68 rfl) hS (fun u29 H locs g30 hP hS => ?_)
            obtain rfl : u29 = (J24, B24, K) := g30
            have hP : Wp mN E mK (J24, B24, K) H := hP
            refine lv_goto (tgt := 4) hx hb dX7_sum_71 (by decide) ?_
            exact ih _ (fun am sc => pLim (f am sc + (zTd T n am sc 3 (zA T n za)).1) (-1000000) 1000000) _ _ (by have h9 := hsg.2.1; have h8 := zGe_Td (T := T) (n := n) (sz := 0) (sc := 0) 3 (zA T n za); omega) (gP_bad hz9 (gB_tr hg.1 (rP_u rP_rf (Or.inl rfl)) hg24.1)) (fun am sc h1 h2 => vR_lim) (fun am sc => (show zSl T n (zTd T n am sc 3) cnt (pLim (f am sc + (zTd T n am sc 3 (zA T n za)).1) (-1000000) 1000000, (zTd T n 0 0 3 (zA T n za)).2) = _ from (by rw [zTd_i (a := 0) (b := 0) am sc 3 (zA T n za)]; exact (zSl_m q1).symm.trans (hv am sc)))) _ _ hP hS ls (lv_sub hl [1] rfl)
        · have q1 : zS T n 43 za = false := Bool.eq_false_iff.mpr (fun g => h17 ((zS_b (ch := 43) hTa h0a (by decide) (by decide)).mpr g))
          refine lv_aload_n hx hb dX7_sum_20 rfl (lv_at hl 0 rfl) ?_
          refine cn_wi (ck_V (a := eP E 0) S lk_X7_66 (c_X7_nextW l E (up2 J 0 4 (nI (tkB T n za.2))) B K T n za hE (mW_nx hWa h0a) h0a) ⟨rfl, rfl⟩ ⟨Nat.le_of_ble_eq_true rfl, Nat.le_of_ble_eq_true rfl⟩ bl_w (rc_w hK hP 0 (by decide) rfl rfl) (bw_U hE hK hC hP hS) rfl hl.1 (Nat.le_of_ble_eq_true rfl) ⟨Nat.le_refl _, Nat.le_refl _⟩ dX7_sum_21 rfl) hS (fun r31 u32 H locs g33 hP hS => ?_)
          obtain ⟨rfl, rfl⟩ : r31 = (mBv B n (tkB T n za.2)) ∧ u32 = ((up2 (up2 J 0 4 (nI (tkB T n za.2))) 0 4 (nI (tkB T n za.2))), B, K) := g33
          have hP : Wp mN E mK ((up2 (up2 J 0 4 (nI (tkB T n za.2))) 0 4 (nI (tkB T n za.2))), B, K) H := hP
          rw [up2_up] at hP
          have hP : Wp mN E mK ((up2 J 0 4 (nI (tkB T n za.2))), B, K) H := hP
          refine lv_bipush (v := 45) hx hb dX7_sum_24 (by decide) ?_
          refine lv_icmp_ne (tgt := 74) hx hb dX7_sum_26 (by decide) (fun h26 => ?_) (fun h26 => ?_)
          · have q2 : zS T n 45 za = false := Bool.eq_false_iff.mpr (fun g => h26 ((zS_b (ch := 45) hTa h0a (by decide) (by decide)).mpr g))
            exact re_wv (x := ((up2 J 0 4 (nI (tkB T n za.2))), B, K)) hx hb hr hlk hP hS ⟨_, B, gP_eq (fun am sc => (zSl_x q1 q2 _).symm.trans (hv am sc)) ⟨gB_u hg.1 h0a, hg.2⟩, rfl⟩ dX7_sum_74
          · have q2 : zS T n 45 za = true := (zS_b (ch := 45) hTa h0a (by decide) (by decide)).mp h26
            have hsg := mW_sg (ch := 45) hWa (by decide) q2
            refine lv_aload_n hx hb dX7_sum_29 rfl (lv_at hl 0 rfl) ?_
            refine cn_wi (ck_V (a := eP E 0) S lk_X7_66 (c_X7_nextW l E (up2 J 0 4 (nI (tkB T n za.2))) B K T n za hE (mW_nx hWa h0a) h0a) ⟨rfl, rfl⟩ ⟨Nat.le_of_ble_eq_true rfl, Nat.le_of_ble_eq_true rfl⟩ bl_w (rc_w hK hP 0 (by decide) rfl rfl) (bw_U hE hK hC hP hS) rfl hl.1 (Nat.le_of_ble_eq_true rfl) ⟨Nat.le_refl _, Nat.le_refl _⟩ dX7_sum_30 rfl) hS (fun r34 u35 H locs g36 hP hS => ?_)
            obtain ⟨rfl, rfl⟩ : r34 = (mBv B n (tkB T n za.2)) ∧ u35 = ((up2 (up2 J 0 4 (nI (tkB T n za.2))) 0 4 (nI (tkB T n za.2))), B, K) := g36
            have hP : Wp mN E mK ((up2 (up2 J 0 4 (nI (tkB T n za.2))) 0 4 (nI (tkB T n za.2))), B, K) H := hP
            rw [up2_up] at hP
            have hP : Wp mN E mK ((up2 J 0 4 (nI (tkB T n za.2))), B, K) H := hP
            refine lv_bipush (v := 43) hx hb dX7_sum_33 (by decide) ?_
            refine lv_icmp_ne (tgt := 42) hx hb dX7_sum_35 (by decide) (fun h35 => ?_) (fun h35 => absurd h35 (show ¬ mBv B n (tkB T n za.2) = 43 from h17))
            refine lv_iconst (v := 0) hx hb dX7_sum_42 (by decide) ?_
            refine lv_istore_n (lv' := [(1, .int 0), (0, .ref (eP E 0))]) hx hb dX7_sum_43 rfl hl (by decide) rfl (fun ls hl => ?_)
            refine lv_aload_n hx hb dX7_sum_44 rfl (lv_at hl 1 rfl) ?_
            refine lv_dup hx hb dX7_sum_45 rfl ?_
            refine rw_geti (x := ((up2 J 0 4 (nI (tkB T n za.2))), B, K)) (v := (nI (tkB T n za.2))) S hK hP 0 (by decide) rfl fk_X7_45 rfl (up2_eq (f := J) (q := 0) (j := 4) (v := (nI (tkB T n za.2)))) dX7_sum_46 ?_
            refine lv_iconst (v := 1) hx hb dX7_sum_49 (by decide) ?_
            refine lv_iadd hx hb dX7_sum_50 ?_
            refine tp_i (y := nI ((tkB T n za.2) + 1)) (nI_add (tkB T n za.2) 1) ?_
            refine rw_puti (x := ((up2 J 0 4 (nI (tkB T n za.2))), B, K)) (v := (nI ((tkB T n za.2) + 1))) S hE hK hP hS 0 (by decide) rfl fk_X7_45 rfl tyX7_ok nmX7 ⟨rfl, by decide +kernel⟩ dX7_sum_51 (fun H locs hP hS => ?_)
            have hP : Wp mN E mK ((up2 (up2 J 0 4 (nI (tkB T n za.2))) 0 4 (nI ((tkB T n za.2) + 1))), B, K) H := hP
            rw [up2_up] at hP
            have hP : Wp mN E mK ((up2 J 0 4 (nI (tkB T n za.2 + 1))), B, K) H := hP
            obtain ⟨M, hM⟩ := hg.2 h0a
            refine lv_aload_n hx hb dX7_sum_54 rfl (lv_at hl 1 rfl) ?_
            refine cn_wv (ck_V (a := eP E 0) S lk_X7_122 (c_X7_term_3 l E (up2 J 0 4 (nI (tkB T n za.2 + 1))) B K T n (zA T n za) M hE hsg.1 ((hg.1.1.2 0 13 (by decide)).trans h13) hsg.2.2 hM.1 (by have := hM.2.1; have := hsg.2.1; omega)) ⟨rfl, rfl⟩ ⟨Nat.le_of_ble_eq_true rfl, Nat.le_of_ble_eq_true rfl⟩ bl_w (rc_w hK hP 0 (by decide) rfl rfl) (bw_U hE hK hC hP hS) rfl hl.1 (Nat.le_of_ble_eq_true rfl) ⟨Nat.le_refl _, Nat.le_refl _⟩ dX7_sum_55 rfl) hS (fun u38 H locs g39 hP hS => ?_)
            obtain ⟨J40, B40, hg40, rfl⟩ : ∃ oj ob, gP (up2 J 0 4 (nI (tkB T n za.2 + 1))) B T n M (zA T n za) (zTd T n 0 0 3 (zA T n za)).2 (fun am sc => (zTd T n am sc 3 (zA T n za)).1) oj ob ∧ u38 = (oj, ob, K) := g39
            have hP : Wp mN E mK (J40, B40, K) H := hP
            by_cases hz9 : (zTd T n 0 0 3 (zA T n za)).2.1 = 0
            · obtain ⟨M2, hM2⟩ := hg40.2 hz9
              refine lv_aload_n hx hb dX7_sum_58 rfl (lv_at hl 1 rfl) ?_
              refine lv_iload_n hx hb dX7_sum_59 rfl (lv_at hl 0 rfl) ?_
              refine lv_if_eq (tgt := 67) hx hb dX7_sum_60 (by decide) (fun h60 => ?_) (fun h60 => absurd (by decide) h60)
              refine lv_iconst (v := 3) hx hb dX7_sum_67 (by decide) ?_
              refine cn_wv (ck_V (a := eP E 0) S lk_X7_116 (c_X7_emit l E J40 B40 K 3 M2 hE (hg40.1.1.1.2.1.trans hz9) hM2.1 (by have := hM.2.1; have := hM2.2.1; have := hsg.2.1; have := hg40.1.1.1.1.2.2; omega)) ⟨rfl, rfl⟩ ⟨Nat.le_of_ble_eq_true rfl, Nat.le_of_ble_eq_true rfl⟩ bl_w (rc_w hK hP 0 (by decide) rfl rfl) (bw_U hE hK hC hP hS) rfl hl.1 (Nat.le_of_ble_eq_true rfl) ⟨Nat.le_refl _, Nat.le_refl _⟩ dX7_sum_68 rfl) hS (fun u42 H locs g43 hP hS => ?_)
              obtain rfl : u42 = (J40, (mEm B40 M2 3), K) := g43
              have hP : Wp mN E mK (J40, (mEm B40 M2 3), K) H := hP
              refine lv_goto (tgt := 4) hx hb dX7_sum_71 (by decide) ?_
              exact ih _ (fun am sc => pLim (f am sc - (zTd T n am sc 3 (zA T n za)).1) (-1000000) 1000000) _ _ (by have h9 := hsg.2.1; have h8 := zGe_Td (T := T) (n := n) (sz := 0) (sc := 0) 3 (zA T n za); omega) (⟨gB_tr hg.1 (rP_u rP_rf (Or.inl rfl)) (gB_em hg40.1), fun _ => ⟨_, gM_op hM hsg.2.1 hM2 (by decide) (fun am sc h1 h2 => (op_sub (hfv am sc h1 h2) (vR_Td h1 h2 3 _)).1)⟩⟩) (fun am sc h1 h2 => vR_lim) (fun am sc => (show zSl T n (zTd T n am sc 3) cnt (pLim (f am sc - (zTd T n am sc 3 (zA T n za)).1) (-1000000) 1000000, (zTd T n 0 0 3 (zA T n za)).2) = _ from (by rw [zTd_i (a := 0) (b := 0) am sc 3 (zA T n za)]; exact (zSl_d q1 q2).symm.trans (hv am sc)))) _ _ hP hS ls (lv_sub hl [1] rfl)
            · refine lv_aload_n hx hb dX7_sum_58 rfl (lv_at hl 1 rfl) ?_
              refine lv_iload_n hx hb dX7_sum_59 rfl (lv_at hl 0 rfl) ?_
              refine lv_if_eq (tgt := 67) hx hb dX7_sum_60 (by decide) (fun h60 => ?_) (fun h60 => absurd (by decide) h60)
              refine lv_iconst (v := 3) hx hb dX7_sum_67 (by decide) ?_
              refine cn_wv (ck_V (a := eP E 0) S lk_X7_116 (c_X7_emit_bad l E J40 B40 K 3 hE (fun g => hz9 (hg40.1.1.1.2.1.symm.trans g))) ⟨rfl, rfl⟩ ⟨Nat.le_of_ble_eq_true rfl, Nat.le_of_ble_eq_true rfl⟩ bl_w (rc_w hK hP 0 (by decide) rfl rfl) (bw_U hE hK hC hP hS) rfl hl.1 (Nat.le_of_ble_eq_true rfl) ⟨Nat.le_refl _, Nat.le_refl _⟩ dX7_sum_68 rfl) hS (fun u45 H locs g46 hP hS => ?_)
              obtain rfl : u45 = (J40, B40, K) := g46
              have hP : Wp mN E mK (J40, B40, K) H := hP
              refine lv_goto (tgt := 4) hx hb dX7_sum_71 (by decide) ?_
              exact ih _ (fun am sc => pLim (f am sc - (zTd T n am sc 3 (zA T n za)).1) (-1000000) 1000000) _ _ (by have h9 := hsg.2.1; have h8 := zGe_Td (T := T) (n := n) (sz := 0) (sc := 0) 3 (zA T n za); omega) (gP_bad hz9 (gB_tr hg.1 (rP_u rP_rf (Or.inl rfl)) hg40.1)) (fun am sc h1 h2 => vR_lim) (fun am sc => (show zSl T n (zTd T n am sc 3) cnt (pLim (f am sc - (zTd T n am sc 3 (zA T n za)).1) (-1000000) 1000000, (zTd T n 0 0 3 (zA T n za)).2) = _ from (by rw [zTd_i (a := 0) (b := 0) am sc 3 (zA T n za)]; exact (zSl_d q1 q2).symm.trans (hv am sc)))) _ _ hP hS ls (lv_sub hl [1] rfl)
  exact HL 700 _ (fun am sc => (zTd T n am sc 3 z).1) _ _ (by omega) hg4 (fun am sc h1 h2 => vR_Td h1 h2 3 z) (fun am sc => (congrArg (zSl T n (zTd T n am sc 3) 700) (show ((zTd T n am sc 3 z).1, (zTd T n 0 0 3 z).2) = zTd T n am sc 3 z from by rw [zTd_i am sc 3 z])).trans zSu_e.symm) _ _ hP hS ls (lv_sub hl [0] rfl)

set_option maxHeartbeats 1000000 in
set_option maxRecDepth 100000 in
theorem c_X7_factor_4 (l : Launch) (E : En) (I A : Nat → Nat → Int32) (K : Nat → Nat → Int64) (T : Nat → Int32) (n : Nat) (z : Tz) (N : Nat) (hE : Ev mN E) (hW : mW I A T n z) (h13 : I 0 13 = 0) (h0 : z.1 = 0) (hN : A 3 3 = nI N) (hNb : 2 * N ≤ 3 * z.2) : Met l yX7_factor (wz yX7_factor cX7_factor 4 none) (rmk 17 0 0 375) (va_Pc [.ref (eP E 0)] (Bw mN E mK (I, A, K))) (qWv mN E mK (fun uu => ∃ J B, gP I A T n N z (zFd T n 0 0 4 z).2 (fun am sc => (zFd T n am sc 4 z).1) J B ∧ uu = (J, B, K))) 0 0 (cA mN E) := by
  refine en_ofW RX7 rfl (by decide +kernel) (Nat.le_of_ble_eq_true rfl) ?_
  intro p e s m below meth c ls S hr hlk hnm hl hB
  have hx := S.1
  have hb := S.2.1
  obtain ⟨hK, hC, hP⟩ := hB
  have hS : va_S (cA mN E) s.heap s.heap [] := va_S.rf
  have hl : lv_has ls 4 [(0, .ref (eP E 0))] := hl
  obtain ⟨⟨hn3, hTT, hzn⟩, h5c, h5p, h5e⟩ := id hW
  have hn7 := hTT.1
  have hBn := tkB_le (T := T) hzn
  have hzl : z.2 ≤ 700 := Nat.le_trans hzn hn7
  refine lv_aload_n hx hb dX7_factor_0 rfl (lv_at hl 0 rfl) ?_
  refine cn_si (ck_V (a := eP E 0) S lk_X7_62 (c_X7_isGood l E I A K hE) ⟨rfl, rfl⟩ ⟨Nat.le_of_ble_eq_true rfl, Nat.le_of_ble_eq_true rfl⟩ bl_w (rc_w hK hP 0 (by decide) rfl rfl) (bw_U hE hK hC hP hS) rfl hl.1 (Nat.le_of_ble_eq_true rfl) ⟨Nat.le_refl _, Nat.le_refl _⟩ dX7_factor_1 rfl) (fun r1 g2 => ?_)
  obtain rfl : r1 = bI (decide (I 0 5 = 0)) := g2
  refine lv_if_ne (tgt := 8) hx hb dX7_factor_4 (by decide) (fun h4 => ?_) (fun h4 => absurd h4 (show ¬ bI (decide (I 0 5 = 0)) = 0 from by rw [decide_eq_true (h5c.trans h0)]; decide))
  refine lv_aload_n hx hb dX7_factor_8 rfl (lv_at hl 0 rfl) ?_
  refine cn_wi (ck_V (a := eP E 0) S lk_X7_66 (c_X7_nextW l E I A K T n z hE hW h0) ⟨rfl, rfl⟩ ⟨Nat.le_of_ble_eq_true rfl, Nat.le_of_ble_eq_true rfl⟩ bl_w (rc_w hK hP 0 (by decide) rfl rfl) (bw_U hE hK hC hP hS) rfl hl.1 (Nat.le_of_ble_eq_true rfl) ⟨Nat.le_refl _, Nat.le_refl _⟩ dX7_factor_9 rfl) hS (fun r3 u4 H locs g5 hP hS => ?_)
  obtain ⟨rfl, rfl⟩ : r3 = (mBv A n (tkB T n z.2)) ∧ u4 = ((up2 I 0 4 (nI (tkB T n z.2))), A, K) := g5
  have hP : Wp mN E mK ((up2 I 0 4 (nI (tkB T n z.2))), A, K) H := hP
  refine lv_istore_n (lv' := [(1, .int (mBv A n (tkB T n z.2))), (0, .ref (eP E 0))]) hx hb dX7_factor_12 rfl hl (by decide) rfl (fun ls hl => ?_)
  refine lv_iload_n hx hb dX7_factor_13 rfl (lv_at hl 0 rfl) ?_
  refine lv_bipush (v := 40) hx hb dX7_factor_14 (by decide) ?_
  refine lv_icmp_ne (tgt := 78) hx hb dX7_factor_16 (by decide) (fun h16 => ?_) (fun h16 => ?_)
  · have q4 : zS T n 40 z = false := Bool.eq_false_iff.mpr (fun g => h16 ((zS_b (ch := 40) hTT h0 (by decide) (by decide)).mpr g))
    refine lv_iload_n hx hb dX7_factor_78 rfl (lv_at hl 0 rfl) ?_
    refine cn_si (ck_S S lk_X7_83 (c_X7_isDigit l (mBv A n (tkB T n z.2))) ⟨rfl, rfl⟩ ⟨Nat.le_of_ble_eq_true rfl, Nat.le_of_ble_eq_true rfl⟩ bl_T t_U rfl hl.1 (Nat.le_of_ble_eq_true rfl) ⟨Nat.le_refl _, Nat.le_refl _⟩ dX7_factor_79 rfl) (fun r6 g7 => ?_)
    obtain rfl : r6 = rIn (mBv A n (tkB T n z.2)) 48 57 := g7
    refine lv_if_eq (tgt := 89) hx hb dX7_factor_82 (by decide) (fun h82 => ?_) (fun h82 => ?_)
    · have q1 : zN T n z = false := (zN_d hTT h0).mp h82
      refine lv_aload_n hx hb dX7_factor_89 rfl (lv_at hl 1 rfl) ?_
      refine va_ldcS (q := eS E 16) (tx := "size") hx hb S.2.2.2.1 (tr_16 hC.1.2.1) dX7_factor_90 ?_
      refine cn_wi (ck_V (a := eP E 0) S lk_X7_107 (c_X7_takeWord l E (up2 I 0 4 (nI (tkB T n z.2))) A K T n z 16 hE (mW_nx hW h0) (by decide)) ⟨rfl, rfl⟩ ⟨Nat.le_of_ble_eq_true rfl, Nat.le_of_ble_eq_true rfl⟩ bl_w (rc_w hK hP 0 (by decide) rfl rfl) (bw_U hE hK hC hP hS) rfl hl.1 (Nat.le_of_ble_eq_true rfl) ⟨Nat.le_refl _, Nat.le_refl _⟩ dX7_factor_92 rfl) hS (fun r8 u9 H locs g10 hP hS => ?_)
      obtain ⟨rfl, J11, hW11, hp11, rfl⟩ : r8 = bI (zW T n (tw 16) z) ∧ (∃ oj, mW oj A T n (zPW T n (tw 16) z) ∧ rP (up2 I 0 4 (nI (tkB T n z.2))) oj ∧ u9 = (oj, A, K)) := g10
      have hP : Wp mN E mK (J11, A, K) H := hP
      refine lv_if_eq (tgt := 102) hx hb dX7_factor_95 (by decide) (fun h95 => ?_) (fun h95 => ?_)
      · have q2 : zW T n (tw 7) z = false := by rw [← tw_16]; exact bI_f h95
        rw [tw_16, zPW_f q2] at hW11
        have hr2 := rP_tr (rP_u rP_rf (Or.inl rfl)) hp11
        refine lv_aload_n hx hb dX7_factor_102 rfl (lv_at hl 1 rfl) ?_
        refine va_ldcS (q := eS E 9) (tx := "scheme") hx hb S.2.2.2.1 (tr_9 hC.1.2.1) dX7_factor_103 ?_
        refine cn_wi (ck_V (a := eP E 0) S lk_X7_107 (c_X7_takeWord l E J11 A K T n z 9 hE hW11 (by decide)) ⟨rfl, rfl⟩ ⟨Nat.le_of_ble_eq_true rfl, Nat.le_of_ble_eq_true rfl⟩ bl_w (rc_w hK hP 0 (by decide) rfl rfl) (bw_U hE hK hC hP hS) rfl hl.1 (Nat.le_of_ble_eq_true rfl) ⟨Nat.le_refl _, Nat.le_refl _⟩ dX7_factor_105 rfl) hS (fun r12 u13 H locs g14 hP hS => ?_)
        obtain ⟨rfl, J15, hW15, hp15, rfl⟩ : r12 = bI (zW T n (tw 9) z) ∧ (∃ oj, mW oj A T n (zPW T n (tw 9) z) ∧ rP J11 oj ∧ u13 = (oj, A, K)) := g14
        have hP : Wp mN E mK (J15, A, K) H := hP
        refine lv_if_eq (tgt := 115) hx hb dX7_factor_108 (by decide) (fun h108 => ?_) (fun h108 => ?_)
        · have q3 : zW T n (tw 8) z = false := by rw [← tw_9]; exact bI_f h108
          rw [tw_9, zPW_f q3] at hW15
          have hr3 := rP_tr hr2 hp15
          refine lv_iconst (v := (-1)) hx hb dX7_factor_115 (by decide) ?_
          refine lv_istore_n (lv' := [(2, .int (-1)), (1, .int (mBv A n (tkB T n z.2))), (0, .ref (eP E 0))]) hx hb dX7_factor_116 rfl hl (by decide) rfl (fun ls hl => ?_)
          refine lv_iload_n hx hb dX7_factor_117 rfl (lv_at hl 0 rfl) ?_
          refine lv_if_ge (tgt := 132) hx hb dX7_factor_118 (by decide) (fun h118 => absurd h118 (by decide)) (fun h118 => ?_)
          refine lv_aload_n hx hb dX7_factor_121 rfl (lv_at hl 2 rfl) ?_
          refine lv_iconst (v := 0) hx hb dX7_factor_122 (by decide) ?_
          refine lv_sipush (v := 9999) hx hb dX7_factor_123 (by decide) ?_
          refine cn_wi (ck_V (a := eP E 0) S lk_X7_113 (c_X7_number l E J15 A K T n z 0 9999 hE hW15) ⟨rfl, rfl⟩ ⟨Nat.le_of_ble_eq_true rfl, Nat.le_of_ble_eq_true rfl⟩ bl_w (rc_w hK hP 0 (by decide) rfl rfl) (bw_U hE hK hC hP hS) rfl hl.1 (Nat.le_of_ble_eq_true rfl) ⟨Nat.le_refl _, Nat.le_refl _⟩ dX7_factor_126 rfl) hS (fun r16 u17 H locs g18 hP hS => ?_)
          obtain ⟨J19, hW19, hp19, hn19, hv19, rfl⟩ : ∃ oj, mW oj A T n (zNz T n 0 9999 z) ∧ rP J15 oj ∧ (zN T n z = true → oj 0 12 = nI (tkB T n z.2)) ∧ ((zNz T n 0 9999 z).1 = 0 → r16 = zNv T n 0 9999 z) ∧ u17 = (oj, A, K) := g18
          have hP : Wp mN E mK (J19, A, K) H := hP
          have hrN := rP_tr hr3 hp19
          by_cases hz9 : (zNz T n 0 9999 z).1 = 0
          · refine tp_i (y := zNv T n 0 9999 z) (hv19 hz9) ?_
            refine lv_goto (tgt := 133) hx hb dX7_factor_129 (by decide) ?_
            refine lv_istore_n (lv' := [(3, .int (zNv T n 0 9999 z)), (2, .int (-1)), (1, .int (mBv A n (tkB T n z.2))), (0, .ref (eP E 0))]) hx hb dX7_factor_133 rfl hl (by decide) rfl (fun ls hl => ?_)
            refine lv_aload_n hx hb dX7_factor_134 rfl (lv_at hl 3 rfl) ?_
            refine lv_iload_n hx hb dX7_factor_135 rfl (lv_at hl 1 rfl) ?_
            refine lv_if_ge (tgt := 143) hx hb dX7_factor_136 (by decide) (fun h136 => absurd h136 (by decide)) (fun h136 => ?_)
            refine lv_iconst (v := 0) hx hb dX7_factor_139 (by decide) ?_
            refine lv_goto (tgt := 144) hx hb dX7_factor_140 (by decide) ?_
            refine cn_wv (ck_V (a := eP E 0) S lk_X7_116 (c_X7_emit l E J19 A K 0 N hE (hW19.2.1.trans hz9) hN (by omega)) ⟨rfl, rfl⟩ ⟨Nat.le_of_ble_eq_true rfl, Nat.le_of_ble_eq_true rfl⟩ bl_w (rc_w hK hP 0 (by decide) rfl rfl) (bw_U hE hK hC hP hS) rfl hl.1 (Nat.le_of_ble_eq_true rfl) ⟨Nat.le_refl _, Nat.le_refl _⟩ dX7_factor_144 rfl) hS (fun u21 H locs g22 hP hS => ?_)
            obtain rfl : u21 = (J19, (mEm A N 0), K) := g22
            have hP : Wp mN E mK (J19, (mEm A N 0), K) H := hP
            refine lv_aload_n hx hb dX7_factor_147 rfl (lv_at hl 3 rfl) ?_
            refine lv_iload_n hx hb dX7_factor_148 rfl (lv_at hl 0 rfl) ?_
            refine cn_wv (ck_V (a := eP E 0) S lk_X7_116 (c_X7_emit l E J19 (mEm A N 0) K (zNv T n 0 9999 z) (N + 1) hE (hW19.2.1.trans hz9) mEm_3 (by omega)) ⟨rfl, rfl⟩ ⟨Nat.le_of_ble_eq_true rfl, Nat.le_of_ble_eq_true rfl⟩ bl_w (rc_w hK hP 0 (by decide) rfl rfl) (bw_U hE hK hC hP hS) rfl hl.1 (Nat.le_of_ble_eq_true rfl) ⟨Nat.le_refl _, Nat.le_refl _⟩ dX7_factor_149 rfl) hS (fun u24 H locs g25 hP hS => ?_)
            obtain rfl : u24 = (J19, (mEm (mEm A N 0) (N + 1) (zNv T n 0 9999 z)), K) := g25
            have hP : Wp mN E mK (J19, (mEm (mEm A N 0) (N + 1) (zNv T n 0 9999 z)), K) H := hP
            exact re_wv (x := (J19, (mEm (mEm A N 0) (N + 1) (zNv T n 0 9999 z)), K)) hx hb hr hlk hP hS (absurd hz9 (by rw [zNz_f q1]; exact fun g => absurd ((if_pos h0).symm.trans g : (-2 : Int32) = 0) (by decide))) dX7_factor_152
          · refine lv_goto (tgt := 133) hx hb dX7_factor_129 (by decide) ?_
            refine lv_istore_n (lv' := [(3, .int r16), (2, .int (-1)), (1, .int (mBv A n (tkB T n z.2))), (0, .ref (eP E 0))]) hx hb dX7_factor_133 rfl hl (by decide) rfl (fun ls hl => ?_)
            refine lv_aload_n hx hb dX7_factor_134 rfl (lv_at hl 3 rfl) ?_
            refine lv_iload_n hx hb dX7_factor_135 rfl (lv_at hl 1 rfl) ?_
            refine lv_if_ge (tgt := 143) hx hb dX7_factor_136 (by decide) (fun h136 => absurd h136 (by decide)) (fun h136 => ?_)
            refine lv_iconst (v := 0) hx hb dX7_factor_139 (by decide) ?_
            refine lv_goto (tgt := 144) hx hb dX7_factor_140 (by decide) ?_
            refine cn_wv (ck_V (a := eP E 0) S lk_X7_116 (c_X7_emit_bad l E J19 A K 0 hE (fun g => hz9 (hW19.2.1.symm.trans g))) ⟨rfl, rfl⟩ ⟨Nat.le_of_ble_eq_true rfl, Nat.le_of_ble_eq_true rfl⟩ bl_w (rc_w hK hP 0 (by decide) rfl rfl) (bw_U hE hK hC hP hS) rfl hl.1 (Nat.le_of_ble_eq_true rfl) ⟨Nat.le_refl _, Nat.le_refl _⟩ dX7_factor_144 rfl) hS (fun u27 H locs g28 hP hS => ?_)
            obtain rfl : u27 = (J19, A, K) := g28
            have hP : Wp mN E mK (J19, A, K) H := hP
            refine lv_aload_n hx hb dX7_factor_147 rfl (lv_at hl 3 rfl) ?_
            refine lv_iload_n hx hb dX7_factor_148 rfl (lv_at hl 0 rfl) ?_
            refine cn_wv (ck_V (a := eP E 0) S lk_X7_116 (c_X7_emit_bad l E J19 A K r16 hE (fun g => hz9 (hW19.2.1.symm.trans g))) ⟨rfl, rfl⟩ ⟨Nat.le_of_ble_eq_true rfl, Nat.le_of_ble_eq_true rfl⟩ bl_w (rc_w hK hP 0 (by decide) rfl rfl) (bw_U hE hK hC hP hS) rfl hl.1 (Nat.le_of_ble_eq_true rfl) ⟨Nat.le_refl _, Nat.le_refl _⟩ dX7_factor_149 rfl) hS (fun u30 H locs g31 hP hS => ?_)
            obtain rfl : u30 = (J19, A, K) := g31
            have hP : Wp mN E mK (J19, A, K) H := hP
            exact re_wv (x := (J19, A, K)) hx hb hr hlk hP hS (by rw [show (zFd T n 0 0 4 z).2 = zF (-2) z from congrArg Prod.snd ((zFd_s (D := 3)).trans (zFc_4 q1 q2 q3 q4)), ← zNz_f (lo := 0) (hi := 9999) q1]; exact ⟨J19, A, gP_bad hz9 (gB_rf hW19 hrN), rfl⟩) dX7_factor_152
        · have q3 : zW T n (tw 8) z = true := by rw [← tw_9]; exact bI_t h108
          rw [tw_9, zPW_t q3] at hW15
          have hr3 := rP_tr hr2 hp15
          refine lv_iconst (v := 1) hx hb dX7_factor_111 (by decide) ?_
          refine lv_goto (tgt := 116) hx hb dX7_factor_112 (by decide) ?_
          refine lv_istore_n (lv' := [(2, .int 1), (1, .int (mBv A n (tkB T n z.2))), (0, .ref (eP E 0))]) hx hb dX7_factor_116 rfl hl (by decide) rfl (fun ls hl => ?_)
          refine lv_iload_n hx hb dX7_factor_117 rfl (lv_at hl 0 rfl) ?_
          refine lv_if_ge (tgt := 132) hx hb dX7_factor_118 (by decide) (fun h118 => ?_) (fun h118 => absurd (by decide) h118)
          refine lv_iload_n hx hb dX7_factor_132 rfl (lv_at hl 0 rfl) ?_
          refine lv_istore_n (lv' := [(3, .int 1), (2, .int 1), (1, .int (mBv A n (tkB T n z.2))), (0, .ref (eP E 0))]) hx hb dX7_factor_133 rfl hl (by decide) rfl (fun ls hl => ?_)
          refine lv_aload_n hx hb dX7_factor_134 rfl (lv_at hl 3 rfl) ?_
          refine lv_iload_n hx hb dX7_factor_135 rfl (lv_at hl 1 rfl) ?_
          refine lv_if_ge (tgt := 143) hx hb dX7_factor_136 (by decide) (fun h136 => ?_) (fun h136 => absurd (by decide) h136)
          refine lv_iconst (v := 1) hx hb dX7_factor_143 (by decide) ?_
          refine cn_wv (ck_V (a := eP E 0) S lk_X7_116 (c_X7_emit l E J15 A K 1 N hE (hW15.2.1.trans h0) hN (by omega)) ⟨rfl, rfl⟩ ⟨Nat.le_of_ble_eq_true rfl, Nat.le_of_ble_eq_true rfl⟩ bl_w (rc_w hK hP 0 (by decide) rfl rfl) (bw_U hE hK hC hP hS) rfl hl.1 (Nat.le_of_ble_eq_true rfl) ⟨Nat.le_refl _, Nat.le_refl _⟩ dX7_factor_144 rfl) hS (fun u33 H locs g34 hP hS => ?_)
          obtain rfl : u33 = (J15, (mEm A N 1), K) := g34
          have hP : Wp mN E mK (J15, (mEm A N 1), K) H := hP
          refine lv_aload_n hx hb dX7_factor_147 rfl (lv_at hl 3 rfl) ?_
          refine lv_iload_n hx hb dX7_factor_148 rfl (lv_at hl 0 rfl) ?_
          refine cn_wv (ck_V (a := eP E 0) S lk_X7_116 (c_X7_emit l E J15 (mEm A N 1) K 1 (N + 1) hE (hW15.2.1.trans h0) mEm_3 (by omega)) ⟨rfl, rfl⟩ ⟨Nat.le_of_ble_eq_true rfl, Nat.le_of_ble_eq_true rfl⟩ bl_w (rc_w hK hP 0 (by decide) rfl rfl) (bw_U hE hK hC hP hS) rfl hl.1 (Nat.le_of_ble_eq_true rfl) ⟨Nat.le_refl _, Nat.le_refl _⟩ dX7_factor_149 rfl) hS (fun u36 H locs g37 hP hS => ?_)
          obtain rfl : u36 = (J15, (mEm (mEm A N 1) (N + 1) 1), K) := g37
          have hP : Wp mN E mK (J15, (mEm (mEm A N 1) (N + 1) 1), K) H := hP
          exact re_wv (x := (J15, (mEm (mEm A N 1) (N + 1) 1), K)) hx hb hr hlk hP hS (by rw [(show (zFd T n 0 0 4 z).2 = zA T n z from congrArg Prod.snd ((zFd_s (D := 3)).trans (zFc_3 q1 q2 q3)))]; exact ⟨J15, (mEm (mEm A N 1) (N + 1) 1), ⟨gB_em (gB_em (gB_rf hW15 hr3)), fun _ => ⟨N + 2, gM_f (fun am sc => (show (zFd T n am sc 4 z).1 = _ from congrArg Prod.fst ((zFd_s (D := 3)).trans (zFc_3 q1 q2 q3))).symm) (gM_at hN (by show z.2 + 1 ≤ (if z.1 = 0 then tkE T n z.2 else z.2); rw [if_pos h0]; exact tkE_gt (by rw [(of_decide_eq_true q3).2.1]; decide)) (fun code g1 g2 => sg_v1 g1 g2))⟩⟩, rfl⟩) dX7_factor_152
      · have q2 : zW T n (tw 7) z = true := by rw [← tw_16]; exact bI_t h95
        rw [tw_16, zPW_t q2] at hW11
        have hr2 := rP_tr (rP_u rP_rf (Or.inl rfl)) hp11
        refine lv_iconst (v := 0) hx hb dX7_factor_98 (by decide) ?_
        refine lv_goto (tgt := 116) hx hb dX7_factor_99 (by decide) ?_
        refine lv_istore_n (lv' := [(2, .int 0), (1, .int (mBv A n (tkB T n z.2))), (0, .ref (eP E 0))]) hx hb dX7_factor_116 rfl hl (by decide) rfl (fun ls hl => ?_)
        refine lv_iload_n hx hb dX7_factor_117 rfl (lv_at hl 0 rfl) ?_
        refine lv_if_ge (tgt := 132) hx hb dX7_factor_118 (by decide) (fun h118 => ?_) (fun h118 => absurd (by decide) h118)
        refine lv_iload_n hx hb dX7_factor_132 rfl (lv_at hl 0 rfl) ?_
        refine lv_istore_n (lv' := [(3, .int 0), (2, .int 0), (1, .int (mBv A n (tkB T n z.2))), (0, .ref (eP E 0))]) hx hb dX7_factor_133 rfl hl (by decide) rfl (fun ls hl => ?_)
        refine lv_aload_n hx hb dX7_factor_134 rfl (lv_at hl 3 rfl) ?_
        refine lv_iload_n hx hb dX7_factor_135 rfl (lv_at hl 1 rfl) ?_
        refine lv_if_ge (tgt := 143) hx hb dX7_factor_136 (by decide) (fun h136 => ?_) (fun h136 => absurd (by decide) h136)
        refine lv_iconst (v := 1) hx hb dX7_factor_143 (by decide) ?_
        refine cn_wv (ck_V (a := eP E 0) S lk_X7_116 (c_X7_emit l E J11 A K 1 N hE (hW11.2.1.trans h0) hN (by omega)) ⟨rfl, rfl⟩ ⟨Nat.le_of_ble_eq_true rfl, Nat.le_of_ble_eq_true rfl⟩ bl_w (rc_w hK hP 0 (by decide) rfl rfl) (bw_U hE hK hC hP hS) rfl hl.1 (Nat.le_of_ble_eq_true rfl) ⟨Nat.le_refl _, Nat.le_refl _⟩ dX7_factor_144 rfl) hS (fun u39 H locs g40 hP hS => ?_)
        obtain rfl : u39 = (J11, (mEm A N 1), K) := g40
        have hP : Wp mN E mK (J11, (mEm A N 1), K) H := hP
        refine lv_aload_n hx hb dX7_factor_147 rfl (lv_at hl 3 rfl) ?_
        refine lv_iload_n hx hb dX7_factor_148 rfl (lv_at hl 0 rfl) ?_
        refine cn_wv (ck_V (a := eP E 0) S lk_X7_116 (c_X7_emit l E J11 (mEm A N 1) K 0 (N + 1) hE (hW11.2.1.trans h0) mEm_3 (by omega)) ⟨rfl, rfl⟩ ⟨Nat.le_of_ble_eq_true rfl, Nat.le_of_ble_eq_true rfl⟩ bl_w (rc_w hK hP 0 (by decide) rfl rfl) (bw_U hE hK hC hP hS) rfl hl.1 (Nat.le_of_ble_eq_true rfl) ⟨Nat.le_refl _, Nat.le_refl _⟩ dX7_factor_149 rfl) hS (fun u42 H locs g43 hP hS => ?_)
        obtain rfl : u42 = (J11, (mEm (mEm A N 1) (N + 1) 0), K) := g43
        have hP : Wp mN E mK (J11, (mEm (mEm A N 1) (N + 1) 0), K) H := hP
        exact re_wv (x := (J11, (mEm (mEm A N 1) (N + 1) 0), K)) hx hb hr hlk hP hS (by rw [(show (zFd T n 0 0 4 z).2 = zA T n z from congrArg Prod.snd ((zFd_s (D := 3)).trans (zFc_2 q1 q2)))]; exact ⟨J11, (mEm (mEm A N 1) (N + 1) 0), ⟨gB_em (gB_em (gB_rf hW11 hr2)), fun _ => ⟨N + 2, gM_f (fun am sc => (show (zFd T n am sc 4 z).1 = _ from congrArg Prod.fst ((zFd_s (D := 3)).trans (zFc_2 q1 q2))).symm) (gM_at hN (by show z.2 + 1 ≤ (if z.1 = 0 then tkE T n z.2 else z.2); rw [if_pos h0]; exact tkE_gt (by rw [(of_decide_eq_true q2).2.1]; decide)) (fun code g1 g2 => sg_v0 g1 g2))⟩⟩, rfl⟩) dX7_factor_152
    · have q1 : zN T n z = true := (Bool.eq_false_or_eq_true (zN T n z)).elim id (fun g => absurd ((zN_d hTT h0).mpr g) h82)
      refine lv_iconst (v := (-1)) hx hb dX7_factor_85 (by decide) ?_
      refine lv_goto (tgt := 116) hx hb dX7_factor_86 (by decide) ?_
      refine lv_istore_n (lv' := [(2, .int (-1)), (1, .int (mBv A n (tkB T n z.2))), (0, .ref (eP E 0))]) hx hb dX7_factor_116 rfl hl (by decide) rfl (fun ls hl => ?_)
      refine lv_iload_n hx hb dX7_factor_117 rfl (lv_at hl 0 rfl) ?_
      refine lv_if_ge (tgt := 132) hx hb dX7_factor_118 (by decide) (fun h118 => absurd h118 (by decide)) (fun h118 => ?_)
      refine lv_aload_n hx hb dX7_factor_121 rfl (lv_at hl 2 rfl) ?_
      refine lv_iconst (v := 0) hx hb dX7_factor_122 (by decide) ?_
      refine lv_sipush (v := 9999) hx hb dX7_factor_123 (by decide) ?_
      refine cn_wi (ck_V (a := eP E 0) S lk_X7_113 (c_X7_number l E (up2 I 0 4 (nI (tkB T n z.2))) A K T n z 0 9999 hE (mW_nx hW h0)) ⟨rfl, rfl⟩ ⟨Nat.le_of_ble_eq_true rfl, Nat.le_of_ble_eq_true rfl⟩ bl_w (rc_w hK hP 0 (by decide) rfl rfl) (bw_U hE hK hC hP hS) rfl hl.1 (Nat.le_of_ble_eq_true rfl) ⟨Nat.le_refl _, Nat.le_refl _⟩ dX7_factor_126 rfl) hS (fun r44 u45 H locs g46 hP hS => ?_)
      obtain ⟨J47, hW47, hp47, hn47, hv47, rfl⟩ : ∃ oj, mW oj A T n (zNz T n 0 9999 z) ∧ rP (up2 I 0 4 (nI (tkB T n z.2))) oj ∧ (zN T n z = true → oj 0 12 = nI (tkB T n z.2)) ∧ ((zNz T n 0 9999 z).1 = 0 → r44 = zNv T n 0 9999 z) ∧ u45 = (oj, A, K) := g46
      have hP : Wp mN E mK (J47, A, K) H := hP
      have hrN := rP_tr (rP_u rP_rf (Or.inl rfl)) hp47
      by_cases hz9 : (zNz T n 0 9999 z).1 = 0
      · refine tp_i (y := zNv T n 0 9999 z) (hv47 hz9) ?_
        refine lv_goto (tgt := 133) hx hb dX7_factor_129 (by decide) ?_
        refine lv_istore_n (lv' := [(3, .int (zNv T n 0 9999 z)), (2, .int (-1)), (1, .int (mBv A n (tkB T n z.2))), (0, .ref (eP E 0))]) hx hb dX7_factor_133 rfl hl (by decide) rfl (fun ls hl => ?_)
        refine lv_aload_n hx hb dX7_factor_134 rfl (lv_at hl 3 rfl) ?_
        refine lv_iload_n hx hb dX7_factor_135 rfl (lv_at hl 1 rfl) ?_
        refine lv_if_ge (tgt := 143) hx hb dX7_factor_136 (by decide) (fun h136 => absurd h136 (by decide)) (fun h136 => ?_)
        refine lv_iconst (v := 0) hx hb dX7_factor_139 (by decide) ?_
        refine lv_goto (tgt := 144) hx hb dX7_factor_140 (by decide) ?_
        refine cn_wv (ck_V (a := eP E 0) S lk_X7_116 (c_X7_emit l E J47 A K 0 N hE (hW47.2.1.trans hz9) hN (by omega)) ⟨rfl, rfl⟩ ⟨Nat.le_of_ble_eq_true rfl, Nat.le_of_ble_eq_true rfl⟩ bl_w (rc_w hK hP 0 (by decide) rfl rfl) (bw_U hE hK hC hP hS) rfl hl.1 (Nat.le_of_ble_eq_true rfl) ⟨Nat.le_refl _, Nat.le_refl _⟩ dX7_factor_144 rfl) hS (fun u49 H locs g50 hP hS => ?_)
        obtain rfl : u49 = (J47, (mEm A N 0), K) := g50
        have hP : Wp mN E mK (J47, (mEm A N 0), K) H := hP
        refine lv_aload_n hx hb dX7_factor_147 rfl (lv_at hl 3 rfl) ?_
        refine lv_iload_n hx hb dX7_factor_148 rfl (lv_at hl 0 rfl) ?_
        refine cn_wv (ck_V (a := eP E 0) S lk_X7_116 (c_X7_emit l E J47 (mEm A N 0) K (zNv T n 0 9999 z) (N + 1) hE (hW47.2.1.trans hz9) mEm_3 (by omega)) ⟨rfl, rfl⟩ ⟨Nat.le_of_ble_eq_true rfl, Nat.le_of_ble_eq_true rfl⟩ bl_w (rc_w hK hP 0 (by decide) rfl rfl) (bw_U hE hK hC hP hS) rfl hl.1 (Nat.le_of_ble_eq_true rfl) ⟨Nat.le_refl _, Nat.le_refl _⟩ dX7_factor_149 rfl) hS (fun u52 H locs g53 hP hS => ?_)
        obtain rfl : u52 = (J47, (mEm (mEm A N 0) (N + 1) (zNv T n 0 9999 z)), K) := g53
        have hP : Wp mN E mK (J47, (mEm (mEm A N 0) (N + 1) (zNv T n 0 9999 z)), K) H := hP
        exact re_wv (x := (J47, (mEm (mEm A N 0) (N + 1) (zNv T n 0 9999 z)), K)) hx hb hr hlk hP hS (by rw [(show (zFd T n 0 0 4 z).2 = zNz T n 0 9999 z from congrArg Prod.snd ((zFd_s (D := 3)).trans (zFc_1 q1)))]; exact ⟨J47, (mEm (mEm A N 0) (N + 1) (zNv T n 0 9999 z)), ⟨gB_em (gB_em (gB_rf hW47 hrN)), fun _ => ⟨N + 2, gM_f (fun am sc => (show (zFd T n am sc 4 z).1 = _ from congrArg Prod.fst ((zFd_s (D := 3)).trans (zFc_1 q1))).symm) (gM_at hN (by rw [zNz_g q1 hz9]; show z.2 + 1 ≤ (if z.1 = 0 then tkE T n z.2 else z.2); rw [if_pos h0]; exact tkE_gt (by rw [(of_decide_eq_true q1).2]; decide)) (fun code g1 g2 => sg_lit g1 g2))⟩⟩, rfl⟩) dX7_factor_152
      · refine lv_goto (tgt := 133) hx hb dX7_factor_129 (by decide) ?_
        refine lv_istore_n (lv' := [(3, .int r44), (2, .int (-1)), (1, .int (mBv A n (tkB T n z.2))), (0, .ref (eP E 0))]) hx hb dX7_factor_133 rfl hl (by decide) rfl (fun ls hl => ?_)
        refine lv_aload_n hx hb dX7_factor_134 rfl (lv_at hl 3 rfl) ?_
        refine lv_iload_n hx hb dX7_factor_135 rfl (lv_at hl 1 rfl) ?_
        refine lv_if_ge (tgt := 143) hx hb dX7_factor_136 (by decide) (fun h136 => absurd h136 (by decide)) (fun h136 => ?_)
        refine lv_iconst (v := 0) hx hb dX7_factor_139 (by decide) ?_
        refine lv_goto (tgt := 144) hx hb dX7_factor_140 (by decide) ?_
        refine cn_wv (ck_V (a := eP E 0) S lk_X7_116 (c_X7_emit_bad l E J47 A K 0 hE (fun g => hz9 (hW47.2.1.symm.trans g))) ⟨rfl, rfl⟩ ⟨Nat.le_of_ble_eq_true rfl, Nat.le_of_ble_eq_true rfl⟩ bl_w (rc_w hK hP 0 (by decide) rfl rfl) (bw_U hE hK hC hP hS) rfl hl.1 (Nat.le_of_ble_eq_true rfl) ⟨Nat.le_refl _, Nat.le_refl _⟩ dX7_factor_144 rfl) hS (fun u55 H locs g56 hP hS => ?_)
        obtain rfl : u55 = (J47, A, K) := g56
        have hP : Wp mN E mK (J47, A, K) H := hP
        refine lv_aload_n hx hb dX7_factor_147 rfl (lv_at hl 3 rfl) ?_
        refine lv_iload_n hx hb dX7_factor_148 rfl (lv_at hl 0 rfl) ?_
        refine cn_wv (ck_V (a := eP E 0) S lk_X7_116 (c_X7_emit_bad l E J47 A K r44 hE (fun g => hz9 (hW47.2.1.symm.trans g))) ⟨rfl, rfl⟩ ⟨Nat.le_of_ble_eq_true rfl, Nat.le_of_ble_eq_true rfl⟩ bl_w (rc_w hK hP 0 (by decide) rfl rfl) (bw_U hE hK hC hP hS) rfl hl.1 (Nat.le_of_ble_eq_true rfl) ⟨Nat.le_refl _, Nat.le_refl _⟩ dX7_factor_149 rfl) hS (fun u58 H locs g59 hP hS => ?_)
        obtain rfl : u58 = (J47, A, K) := g59
        have hP : Wp mN E mK (J47, A, K) H := hP
        exact re_wv (x := (J47, A, K)) hx hb hr hlk hP hS (by rw [show (zFd T n 0 0 4 z).2 = zNz T n 0 9999 z from congrArg Prod.snd ((zFd_s (D := 3)).trans (zFc_1 q1))]; exact ⟨J47, A, gP_bad hz9 (gB_rf hW47 hrN), rfl⟩) dX7_factor_152
  · have q4 : zS T n 40 z = true := (zS_b (ch := 40) hTT h0 (by decide) (by decide)).mp h16
    obtain ⟨q1, qw⟩ := zS_k q4
    refine lv_aload_n hx hb dX7_factor_19 rfl (lv_at hl 1 rfl) ?_
    refine rw_geti (x := ((up2 I 0 4 (nI (tkB T n z.2))), A, K)) (v := 0) S hK hP 0 (by decide) rfl fk_X7_95 rfl ((up2_j (f := I) (q := 0) (j := 4) (a := 0) (b := 13) (v := (nI (tkB T n z.2))) (by decide)).trans h13) dX7_factor_20 ?_
    refine lv_iconst (v := 4) hx hb dX7_factor_23 (by decide) ?_
    refine lv_icmp_ne (tgt := 37) hx hb dX7_factor_24 (by decide) (fun h24 => ?_) (fun h24 => absurd h24 (by decide))
    refine lv_aload_n hx hb dX7_factor_37 rfl (lv_at hl 1 rfl) ?_
    refine lv_dup hx hb dX7_factor_38 rfl ?_
    refine rw_geti (x := ((up2 I 0 4 (nI (tkB T n z.2))), A, K)) (v := (nI (tkB T n z.2))) S hK hP 0 (by decide) rfl fk_X7_45 rfl (up2_eq (f := I) (q := 0) (j := 4) (v := (nI (tkB T n z.2)))) dX7_factor_39 ?_
    refine lv_iconst (v := 1) hx hb dX7_factor_42 (by decide) ?_
    refine lv_iadd hx hb dX7_factor_43 ?_
    refine tp_i (y := nI ((tkB T n z.2) + 1)) (nI_add (tkB T n z.2) 1) ?_
    refine rw_puti (x := ((up2 I 0 4 (nI (tkB T n z.2))), A, K)) (v := (nI ((tkB T n z.2) + 1))) S hE hK hP hS 0 (by decide) rfl fk_X7_45 rfl tyX7_ok nmX7 ⟨rfl, by decide +kernel⟩ dX7_factor_44 (fun H locs hP hS => ?_)
    have hP : Wp mN E mK ((up2 (up2 I 0 4 (nI (tkB T n z.2))) 0 4 (nI ((tkB T n z.2) + 1))), A, K) H := hP
    refine lv_aload_n hx hb dX7_factor_47 rfl (lv_at hl 1 rfl) ?_
    refine lv_dup hx hb dX7_factor_48 rfl ?_
    refine rw_geti (x := ((up2 (up2 I 0 4 (nI (tkB T n z.2))) 0 4 (nI ((tkB T n z.2) + 1))), A, K)) (v := 0) S hK hP 0 (by decide) rfl fk_X7_95 rfl ((up2_j (f := (up2 I 0 4 (nI (tkB T n z.2)))) (q := 0) (j := 4) (a := 0) (b := 13) (v := (nI ((tkB T n z.2) + 1))) (by decide)).trans ((up2_j (f := I) (q := 0) (j := 4) (a := 0) (b := 13) (v := (nI (tkB T n z.2))) (by decide)).trans h13)) dX7_factor_49 ?_
    refine lv_iconst (v := 1) hx hb dX7_factor_52 (by decide) ?_
    refine lv_iadd hx hb dX7_factor_53 ?_
    refine tp_i (y := 1) rfl ?_
    refine rw_puti (x := ((up2 (up2 I 0 4 (nI (tkB T n z.2))) 0 4 (nI ((tkB T n z.2) + 1))), A, K)) (v := 1) S hE hK hP hS 0 (by decide) rfl fk_X7_95 rfl tyX7_ok nmX7 ⟨rfl, by decide +kernel⟩ dX7_factor_54 (fun H locs hP hS => ?_)
    have hP : Wp mN E mK ((up2 (up2 (up2 I 0 4 (nI (tkB T n z.2))) 0 4 (nI ((tkB T n z.2) + 1))) 0 13 1), A, K) H := hP
    refine lv_aload_n hx hb dX7_factor_57 rfl (lv_at hl 1 rfl) ?_
    rw [up2_up] at hP
    have hP : Wp mN E mK ((up2 (up2 I 0 4 (nI (tkB T n z.2 + 1))) 0 13 1), A, K) H := hP
    have hsg := mW_sg (ch := 40) hW (by decide) q4
    have hWs := mW_12 (b := 13) (v := 1) (Or.inr (Or.inl rfl)) hsg.1
    refine cn_wv (ck_V (a := eP E 0) S lk_X7_98 (c_X7_sum_3 l E (up2 (up2 I 0 4 (nI (tkB T n z.2 + 1))) 0 13 1) A K T n (zA T n z) N hE hWs rfl hsg.2.2 hN (by have := hsg.2.1; omega)) ⟨rfl, rfl⟩ ⟨Nat.le_of_ble_eq_true rfl, Nat.le_of_ble_eq_true rfl⟩ bl_w (rc_w hK hP 0 (by decide) rfl rfl) (bw_U hE hK hC hP hS) rfl hl.1 (Nat.le_of_ble_eq_true rfl) ⟨Nat.le_refl _, Nat.le_refl _⟩ dX7_factor_58 rfl) hS (fun u61 H locs g62 hP hS => ?_)
    obtain ⟨J63, B63, hg63, rfl⟩ : ∃ oj ob, gP (up2 (up2 I 0 4 (nI (tkB T n z.2 + 1))) 0 13 1) A T n N (zA T n z) (zSu T n 0 0 3 (zA T n z)).2 (fun am sc => (zSu T n am sc 3 (zA T n z)).1) oj ob ∧ u61 = (oj, ob, K) := g62
    have hP : Wp mN E mK (J63, B63, K) H := hP
    refine lv_aload_n hx hb dX7_factor_61 rfl (lv_at hl 1 rfl) ?_
    refine lv_bipush (v := 41) hx hb dX7_factor_62 (by decide) ?_
    refine cn_wv (ck_V (a := eP E 0) S lk_X7_101 (c_X7_expect l E J63 B63 K T n ((zSu T n 0 0 3 (zA T n z)).2) 41 hE hg63.1.1.1 (by decide) (by decide)) ⟨rfl, rfl⟩ ⟨Nat.le_of_ble_eq_true rfl, Nat.le_of_ble_eq_true rfl⟩ bl_w (rc_w hK hP 0 (by decide) rfl rfl) (bw_U hE hK hC hP hS) rfl hl.1 (Nat.le_of_ble_eq_true rfl) ⟨Nat.le_refl _, Nat.le_refl _⟩ dX7_factor_64 rfl) hS (fun u65 H locs g66 hP hS => ?_)
    obtain ⟨J67, hW67, hp67, rfl⟩ : ∃ oj, mW oj B63 T n (zNS T n (nI 41) ((zSu T n 0 0 3 (zA T n z)).2)) ∧ rP J63 oj ∧ u65 = (oj, B63, K) := g66
    have hP : Wp mN E mK (J67, B63, K) H := hP
    have e13 : J67 0 13 = 1 := (hp67 0 13 (by decide)).trans (hg63.1.1.2 0 13 (by decide))
    refine lv_aload_n hx hb dX7_factor_67 rfl (lv_at hl 1 rfl) ?_
    refine lv_dup hx hb dX7_factor_68 rfl ?_
    refine rw_geti (x := (J67, B63, K)) (v := 1) S hK hP 0 (by decide) rfl fk_X7_95 rfl e13 dX7_factor_69 ?_
    refine lv_iconst (v := 1) hx hb dX7_factor_72 (by decide) ?_
    refine lv_isub hx hb dX7_factor_73 ?_
    refine tp_i (y := 0) rfl ?_
    refine rw_puti (x := (J67, B63, K)) (v := 0) S hE hK hP hS 0 (by decide) rfl fk_X7_95 rfl tyX7_ok nmX7 ⟨rfl, by decide +kernel⟩ dX7_factor_74 (fun H locs hP hS => ?_)
    have hP : Wp mN E mK ((up2 J67 0 13 0), B63, K) H := hP
    exact re_wv (x := ((up2 J67 0 13 0), B63, K)) hx hb hr hlk hP hS (by have e6 : ∀ am sc, zFd T n am sc 4 z = ((zSu T n am sc 3 (zA T n z)).1, zNS T n 41 (zSu T n am sc 3 (zA T n z)).2) := fun am sc => (zFd_s (D := 3)).trans (zFc_6 q1 (qw _) (qw _) q4); exact ⟨_, B63, (by rw [show (zFd T n 0 0 4 z).2 = zNS T n 41 (zSu T n 0 0 3 (zA T n z)).2 from congrArg Prod.snd (e6 0 0)]; exact ⟨⟨⟨mW_12 (Or.inr (Or.inl rfl)) hW67, rP_of (rQ_tr (rQ_u (rQ_u (rQ_of rP_rf) (by decide)) (by decide)) (rQ_tr (rQ_of hg63.1.1.2) (rQ_u (rQ_of hp67) (by decide)))) h13.symm⟩, hg63.1.2⟩, fun g => (hg63.2 (zMo_NS g)).elim (fun M hM => ⟨M, gM_f (fun am sc => (congrArg Prod.fst (e6 am sc)).symm) (gM_par hM)⟩)⟩), rfl⟩) dX7_factor_77

set_option maxHeartbeats 1000000 in
set_option maxRecDepth 100000 in
theorem c_X7_term_4 (l : Launch) (E : En) (I A : Nat → Nat → Int32) (K : Nat → Nat → Int64) (T : Nat → Int32) (n : Nat) (z : Tz) (N : Nat) (hE : Ev mN E) (hW : mW I A T n z) (h13 : I 0 13 = 0) (h0 : z.1 = 0) (hN : A 3 3 = nI N) (hNb : 2 * N ≤ 3 * z.2) : Met l yX7_term (wz yX7_term cX7_term 2 none) (rmk 18 0 0 398) (va_Pc [.ref (eP E 0)] (Bw mN E mK (I, A, K))) (qWv mN E mK (fun uu => ∃ J B, gP I A T n N z (zTd T n 0 0 4 z).2 (fun am sc => (zTd T n am sc 4 z).1) J B ∧ uu = (J, B, K))) 0 0 (cA mN E) := by
  refine en_ofW RX7 rfl (by decide +kernel) (Nat.le_of_ble_eq_true rfl) ?_
  intro p e s m below meth c ls S hr hlk hnm hl hB
  have hx := S.1
  have hb := S.2.1
  obtain ⟨hK, hC, hP⟩ := hB
  have hS : va_S (cA mN E) s.heap s.heap [] := va_S.rf
  have hl : lv_has ls 2 [(0, .ref (eP E 0))] := hl
  obtain ⟨⟨hn3, hTT, hzn⟩, h5c, h5p, h5e⟩ := id hW
  have hn7 := hTT.1
  have hBn := tkB_le (T := T) hzn
  have hzl : z.2 ≤ 700 := Nat.le_trans hzn hn7
  refine lv_aload_n hx hb dX7_term_0 rfl (lv_at hl 0 rfl) ?_
  refine cn_wv (ck_V (a := eP E 0) S lk_X7_119 (c_X7_factor_4 l E I A K T n z N hE hW h13 h0 hN hNb) ⟨rfl, rfl⟩ ⟨Nat.le_of_ble_eq_true rfl, Nat.le_of_ble_eq_true rfl⟩ bl_w (rc_w hK hP 0 (by decide) rfl rfl) (bw_U hE hK hC hP hS) rfl hl.1 (Nat.le_of_ble_eq_true rfl) ⟨Nat.le_refl _, Nat.le_refl _⟩ dX7_term_1 rfl) hS (fun u2 H locs g3 hP hS => ?_)
  obtain ⟨J4, B4, hg4, rfl⟩ : ∃ oj ob, gP I A T n N z (zFd T n 0 0 4 z).2 (fun am sc => (zFd T n am sc 4 z).1) oj ob ∧ u2 = (oj, ob, K) := g3
  have hP : Wp mN E mK (J4, B4, K) H := hP
  have HL : ∀ (cnt : Nat) (za : Tz) (f : Int32 → Int32 → Int32) (J B : Nat → Nat → Int32), n - za.2 ≤ cnt → gP I A T n N z za f J B → (∀ am sc, vR am → vR sc → vR (f am sc)) → (∀ am sc, zTl T n (zFd T n am sc 4) cnt (f am sc, za) = zTd T n am sc 4 z) → ∀ (H : Heap) (locs : List Loc), Wp mN E mK (J, B, K) H → va_S (cA mN E) s.heap H locs → ∀ ls : Array Slot, lv_has ls 2 [(0, .ref (eP E 0))] → W p l e (rmk 18 0 0 398) s m ([.ref (eP E 0)] : List Value).toArray below meth c H locs 0 0 (MQ below (qWv mN E mK (fun uu => ∃ J B, gP I A T n N z (zTd T n 0 0 4 z).2 (fun am sc => (zTd T n am sc 4 z).1) J B ∧ uu = (J, B, K))) ([.ref (eP E 0)] : List Value).toArray s 0 0 (cA mN E)) (F0 m 4 ls []) := by
    intro cnt
    induction cnt with
    | zero =>
      intro za f J B hm hg hfv hv H locs hP hS ls hl
      have hWa := hg.1.1.1
      have h5a : J 0 5 = za.1 := hWa.2.1
      have hzan := hWa.1.2.2
      have hTa := hWa.1.2.1
      refine lv_aload_n hx hb dX7_term_4 rfl (lv_at hl 0 rfl) ?_
      refine cn_si (ck_V (a := eP E 0) S lk_X7_62 (c_X7_isGood l E J B K hE) ⟨rfl, rfl⟩ ⟨Nat.le_of_ble_eq_true rfl, Nat.le_of_ble_eq_true rfl⟩ bl_w (rc_w hK hP 0 (by decide) rfl rfl) (bw_U hE hK hC hP hS) rfl hl.1 (Nat.le_of_ble_eq_true rfl) ⟨Nat.le_refl _, Nat.le_refl _⟩ dX7_term_5 rfl) (fun r5 g6 => ?_)
      obtain rfl : r5 = bI (decide (J 0 5 = 0)) := g6
      refine lv_if_eq (tgt := 74) hx hb dX7_term_8 (by decide) (fun h8 => ?_) (fun h8 => ?_)
      · have hnz : ¬ za.1 = 0 := fun g => absurd (decide_eq_true (h5a.trans g)) (by rw [bI_f h8]; decide)
        exact re_wv (x := (J, B, K)) hx hb hr hlk hP hS ⟨J, B, gP_eq (fun am sc => (zTl_x (zS_c hnz) (zS_c hnz) _).symm.trans (hv am sc)) hg, rfl⟩ dX7_term_74
      · have h0a : za.1 = 0 := h5a.symm.trans (of_decide_eq_true (bI_t h8))
        refine lv_aload_n hx hb dX7_term_11 rfl (lv_at hl 0 rfl) ?_
        refine cn_wi (ck_V (a := eP E 0) S lk_X7_66 (c_X7_nextW l E J B K T n za hE hWa h0a) ⟨rfl, rfl⟩ ⟨Nat.le_of_ble_eq_true rfl, Nat.le_of_ble_eq_true rfl⟩ bl_w (rc_w hK hP 0 (by decide) rfl rfl) (bw_U hE hK hC hP hS) rfl hl.1 (Nat.le_of_ble_eq_true rfl) ⟨Nat.le_refl _, Nat.le_refl _⟩ dX7_term_12 rfl) hS (fun r7 u8 H locs g9 hP hS => ?_)
        obtain ⟨rfl, rfl⟩ : r7 = (mBv B n (tkB T n za.2)) ∧ u8 = ((up2 J 0 4 (nI (tkB T n za.2))), B, K) := g9
        have hP : Wp mN E mK ((up2 J 0 4 (nI (tkB T n za.2))), B, K) H := hP
        refine lv_bipush (v := 42) hx hb dX7_term_15 (by decide) ?_
        refine lv_icmp_eq (tgt := 29) hx hb dX7_term_17 (by decide) (fun h17 => ?_) (fun h17 => ?_)
        · have q1 : zS T n 42 za = true := (zS_b (ch := 42) hTa h0a (by decide) (by decide)).mp h17
          have hsg := mW_sg (ch := 42) hWa (by decide) q1
          exact absurd (zS_e (ch := 42) (by decide) q1).2 (by have := tkB_ge (T := T) (n := n) (p := za.2); omega)
        · have q1 : zS T n 42 za = false := Bool.eq_false_iff.mpr (fun g => h17 ((zS_b (ch := 42) hTa h0a (by decide) (by decide)).mpr g))
          refine lv_aload_n hx hb dX7_term_20 rfl (lv_at hl 0 rfl) ?_
          refine cn_wi (ck_V (a := eP E 0) S lk_X7_66 (c_X7_nextW l E (up2 J 0 4 (nI (tkB T n za.2))) B K T n za hE (mW_nx hWa h0a) h0a) ⟨rfl, rfl⟩ ⟨Nat.le_of_ble_eq_true rfl, Nat.le_of_ble_eq_true rfl⟩ bl_w (rc_w hK hP 0 (by decide) rfl rfl) (bw_U hE hK hC hP hS) rfl hl.1 (Nat.le_of_ble_eq_true rfl) ⟨Nat.le_refl _, Nat.le_refl _⟩ dX7_term_21 rfl) hS (fun r10 u11 H locs g12 hP hS => ?_)
          obtain ⟨rfl, rfl⟩ : r10 = (mBv B n (tkB T n za.2)) ∧ u11 = ((up2 (up2 J 0 4 (nI (tkB T n za.2))) 0 4 (nI (tkB T n za.2))), B, K) := g12
          have hP : Wp mN E mK ((up2 (up2 J 0 4 (nI (tkB T n za.2))) 0 4 (nI (tkB T n za.2))), B, K) H := hP
          rw [up2_up] at hP
          have hP : Wp mN E mK ((up2 J 0 4 (nI (tkB T n za.2))), B, K) H := hP
          refine lv_bipush (v := 47) hx hb dX7_term_24 (by decide) ?_
          refine lv_icmp_ne (tgt := 74) hx hb dX7_term_26 (by decide) (fun h26 => ?_) (fun h26 => ?_)
          · have q2 : zS T n 47 za = false := Bool.eq_false_iff.mpr (fun g => h26 ((zS_b (ch := 47) hTa h0a (by decide) (by decide)).mpr g))
            exact re_wv (x := ((up2 J 0 4 (nI (tkB T n za.2))), B, K)) hx hb hr hlk hP hS ⟨_, B, gP_eq (fun am sc => (zTl_x q1 q2 _).symm.trans (hv am sc)) ⟨gB_u hg.1 h0a, hg.2⟩, rfl⟩ dX7_term_74
          · have q2 : zS T n 47 za = true := (zS_b (ch := 47) hTa h0a (by decide) (by decide)).mp h26
            have hsg := mW_sg (ch := 47) hWa (by decide) q2
            exact absurd (zS_e (ch := 47) (by decide) q2).2 (by have := tkB_ge (T := T) (n := n) (p := za.2); omega)
    | succ cnt ih =>
      intro za f J B hm hg hfv hv H locs hP hS ls hl
      have hWa := hg.1.1.1
      have h5a : J 0 5 = za.1 := hWa.2.1
      have hzan := hWa.1.2.2
      have hTa := hWa.1.2.1
      refine lv_aload_n hx hb dX7_term_4 rfl (lv_at hl 0 rfl) ?_
      refine cn_si (ck_V (a := eP E 0) S lk_X7_62 (c_X7_isGood l E J B K hE) ⟨rfl, rfl⟩ ⟨Nat.le_of_ble_eq_true rfl, Nat.le_of_ble_eq_true rfl⟩ bl_w (rc_w hK hP 0 (by decide) rfl rfl) (bw_U hE hK hC hP hS) rfl hl.1 (Nat.le_of_ble_eq_true rfl) ⟨Nat.le_refl _, Nat.le_refl _⟩ dX7_term_5 rfl) (fun r13 g14 => ?_)
      obtain rfl : r13 = bI (decide (J 0 5 = 0)) := g14
      refine lv_if_eq (tgt := 74) hx hb dX7_term_8 (by decide) (fun h8 => ?_) (fun h8 => ?_)
      · have hnz : ¬ za.1 = 0 := fun g => absurd (decide_eq_true (h5a.trans g)) (by rw [bI_f h8]; decide)
        exact re_wv (x := (J, B, K)) hx hb hr hlk hP hS ⟨J, B, gP_eq (fun am sc => (zTl_x (zS_c hnz) (zS_c hnz) _).symm.trans (hv am sc)) hg, rfl⟩ dX7_term_74
      · have h0a : za.1 = 0 := h5a.symm.trans (of_decide_eq_true (bI_t h8))
        refine lv_aload_n hx hb dX7_term_11 rfl (lv_at hl 0 rfl) ?_
        refine cn_wi (ck_V (a := eP E 0) S lk_X7_66 (c_X7_nextW l E J B K T n za hE hWa h0a) ⟨rfl, rfl⟩ ⟨Nat.le_of_ble_eq_true rfl, Nat.le_of_ble_eq_true rfl⟩ bl_w (rc_w hK hP 0 (by decide) rfl rfl) (bw_U hE hK hC hP hS) rfl hl.1 (Nat.le_of_ble_eq_true rfl) ⟨Nat.le_refl _, Nat.le_refl _⟩ dX7_term_12 rfl) hS (fun r15 u16 H locs g17 hP hS => ?_)
        obtain ⟨rfl, rfl⟩ : r15 = (mBv B n (tkB T n za.2)) ∧ u16 = ((up2 J 0 4 (nI (tkB T n za.2))), B, K) := g17
        have hP : Wp mN E mK ((up2 J 0 4 (nI (tkB T n za.2))), B, K) H := hP
        refine lv_bipush (v := 42) hx hb dX7_term_15 (by decide) ?_
        refine lv_icmp_eq (tgt := 29) hx hb dX7_term_17 (by decide) (fun h17 => ?_) (fun h17 => ?_)
        · have q1 : zS T n 42 za = true := (zS_b (ch := 42) hTa h0a (by decide) (by decide)).mp h17
          have hsg := mW_sg (ch := 42) hWa (by decide) q1
          refine lv_aload_n hx hb dX7_term_29 rfl (lv_at hl 0 rfl) ?_
          refine cn_wi (ck_V (a := eP E 0) S lk_X7_66 (c_X7_nextW l E (up2 J 0 4 (nI (tkB T n za.2))) B K T n za hE (mW_nx hWa h0a) h0a) ⟨rfl, rfl⟩ ⟨Nat.le_of_ble_eq_true rfl, Nat.le_of_ble_eq_true rfl⟩ bl_w (rc_w hK hP 0 (by decide) rfl rfl) (bw_U hE hK hC hP hS) rfl hl.1 (Nat.le_of_ble_eq_true rfl) ⟨Nat.le_refl _, Nat.le_refl _⟩ dX7_term_30 rfl) hS (fun r18 u19 H locs g20 hP hS => ?_)
          obtain ⟨rfl, rfl⟩ : r18 = (mBv B n (tkB T n za.2)) ∧ u19 = ((up2 (up2 J 0 4 (nI (tkB T n za.2))) 0 4 (nI (tkB T n za.2))), B, K) := g20
          have hP : Wp mN E mK ((up2 (up2 J 0 4 (nI (tkB T n za.2))) 0 4 (nI (tkB T n za.2))), B, K) H := hP
          rw [up2_up] at hP
          have hP : Wp mN E mK ((up2 J 0 4 (nI (tkB T n za.2))), B, K) H := hP
          refine lv_bipush (v := 42) hx hb dX7_term_33 (by decide) ?_
          refine lv_icmp_ne (tgt := 42) hx hb dX7_term_35 (by decide) (fun h35 => absurd h35 (fun g => g h17)) (fun h35 => ?_)
          refine lv_iconst (v := 1) hx hb dX7_term_38 (by decide) ?_
          refine lv_goto (tgt := 43) hx hb dX7_term_39 (by decide) ?_
          refine lv_istore_n (lv' := [(1, .int 1), (0, .ref (eP E 0))]) hx hb dX7_term_43 rfl hl (by decide) rfl (fun ls hl => ?_)
          refine lv_aload_n hx hb dX7_term_44 rfl (lv_at hl 1 rfl) ?_
          refine lv_dup hx hb dX7_term_45 rfl ?_
          refine rw_geti (x := ((up2 J 0 4 (nI (tkB T n za.2))), B, K)) (v := (nI (tkB T n za.2))) S hK hP 0 (by decide) rfl fk_X7_45 rfl (up2_eq (f := J) (q := 0) (j := 4) (v := (nI (tkB T n za.2)))) dX7_term_46 ?_
          refine lv_iconst (v := 1) hx hb dX7_term_49 (by decide) ?_
          refine lv_iadd hx hb dX7_term_50 ?_
          refine tp_i (y := nI ((tkB T n za.2) + 1)) (nI_add (tkB T n za.2) 1) ?_
          refine rw_puti (x := ((up2 J 0 4 (nI (tkB T n za.2))), B, K)) (v := (nI ((tkB T n za.2) + 1))) S hE hK hP hS 0 (by decide) rfl fk_X7_45 rfl tyX7_ok nmX7 ⟨rfl, by decide +kernel⟩ dX7_term_51 (fun H locs hP hS => ?_)
          have hP : Wp mN E mK ((up2 (up2 J 0 4 (nI (tkB T n za.2))) 0 4 (nI ((tkB T n za.2) + 1))), B, K) H := hP
          rw [up2_up] at hP
          have hP : Wp mN E mK ((up2 J 0 4 (nI (tkB T n za.2 + 1))), B, K) H := hP
          obtain ⟨M, hM⟩ := hg.2 h0a
          refine lv_aload_n hx hb dX7_term_54 rfl (lv_at hl 1 rfl) ?_
          refine cn_wv (ck_V (a := eP E 0) S lk_X7_119 (c_X7_factor_4 l E (up2 J 0 4 (nI (tkB T n za.2 + 1))) B K T n (zA T n za) M hE hsg.1 ((hg.1.1.2 0 13 (by decide)).trans h13) hsg.2.2 hM.1 (by have := hM.2.1; have := hsg.2.1; omega)) ⟨rfl, rfl⟩ ⟨Nat.le_of_ble_eq_true rfl, Nat.le_of_ble_eq_true rfl⟩ bl_w (rc_w hK hP 0 (by decide) rfl rfl) (bw_U hE hK hC hP hS) rfl hl.1 (Nat.le_of_ble_eq_true rfl) ⟨Nat.le_refl _, Nat.le_refl _⟩ dX7_term_55 rfl) hS (fun u22 H locs g23 hP hS => ?_)
          obtain ⟨J24, B24, hg24, rfl⟩ : ∃ oj ob, gP (up2 J 0 4 (nI (tkB T n za.2 + 1))) B T n M (zA T n za) (zFd T n 0 0 4 (zA T n za)).2 (fun am sc => (zFd T n am sc 4 (zA T n za)).1) oj ob ∧ u22 = (oj, ob, K) := g23
          have hP : Wp mN E mK (J24, B24, K) H := hP
          by_cases hz9 : (zFd T n 0 0 4 (zA T n za)).2.1 = 0
          · obtain ⟨M2, hM2⟩ := hg24.2 hz9
            refine lv_aload_n hx hb dX7_term_58 rfl (lv_at hl 1 rfl) ?_
            refine lv_iload_n hx hb dX7_term_59 rfl (lv_at hl 0 rfl) ?_
            refine lv_if_eq (tgt := 67) hx hb dX7_term_60 (by decide) (fun h60 => absurd h60 (by decide)) (fun h60 => ?_)
            refine lv_iconst (v := 4) hx hb dX7_term_63 (by decide) ?_
            refine lv_goto (tgt := 68) hx hb dX7_term_64 (by decide) ?_
            refine cn_wv (ck_V (a := eP E 0) S lk_X7_116 (c_X7_emit l E J24 B24 K 4 M2 hE (hg24.1.1.1.2.1.trans hz9) hM2.1 (by have := hM.2.1; have := hM2.2.1; have := hsg.2.1; have := hg24.1.1.1.1.2.2; omega)) ⟨rfl, rfl⟩ ⟨Nat.le_of_ble_eq_true rfl, Nat.le_of_ble_eq_true rfl⟩ bl_w (rc_w hK hP 0 (by decide) rfl rfl) (bw_U hE hK hC hP hS) rfl hl.1 (Nat.le_of_ble_eq_true rfl) ⟨Nat.le_refl _, Nat.le_refl _⟩ dX7_term_68 rfl) hS (fun u26 H locs g27 hP hS => ?_)
            obtain rfl : u26 = (J24, (mEm B24 M2 4), K) := g27
            have hP : Wp mN E mK (J24, (mEm B24 M2 4), K) H := hP
            refine lv_goto (tgt := 4) hx hb dX7_term_71 (by decide) ?_
            exact ih _ (fun am sc => cProd (f am sc) (zFd T n am sc 4 (zA T n za)).1) _ _ (by have h9 := hsg.2.1; have h8 := zGe_Fd (T := T) (n := n) (sz := 0) (sc := 0) 4 (zA T n za); omega) (⟨gB_tr hg.1 (rP_u rP_rf (Or.inl rfl)) (gB_em hg24.1), fun _ => ⟨_, gM_op hM hsg.2.1 hM2 (by decide) (fun am sc h1 h2 => op_mul.1)⟩⟩) (fun am sc h1 h2 => op_mul.2) (fun am sc => (show zTl T n (zFd T n am sc 4) cnt (cProd (f am sc) (zFd T n am sc 4 (zA T n za)).1, (zFd T n 0 0 4 (zA T n za)).2) = _ from (by rw [zFd_i (a := 0) (b := 0) am sc 4 (zA T n za)]; exact (zTl_m q1).symm.trans (hv am sc)))) _ _ hP hS ls (lv_sub hl [1] rfl)
          · refine lv_aload_n hx hb dX7_term_58 rfl (lv_at hl 1 rfl) ?_
            refine lv_iload_n hx hb dX7_term_59 rfl (lv_at hl 0 rfl) ?_
            refine lv_if_eq (tgt := 67) hx hb dX7_term_60 (by decide) (fun h60 => absurd h60 (by decide)) (fun h60 => ?_)
            refine lv_iconst (v := 4) hx hb dX7_term_63 (by decide) ?_
            refine lv_goto (tgt := 68) hx hb dX7_term_64 (by decide) ?_
            refine cn_wv (ck_V (a := eP E 0) S lk_X7_116 (c_X7_emit_bad l E J24 B24 K 4 hE (fun g => hz9 (hg24.1.1.1.2.1.symm.trans g))) ⟨rfl, rfl⟩ ⟨Nat.le_of_ble_eq_true rfl, Nat.le_of_ble_eq_true rfl⟩ bl_w (rc_w hK hP 0 (by decide) rfl rfl) (bw_U hE hK hC hP hS) rfl hl.1 (Nat.le_of_ble_eq_true rfl) ⟨Nat.le_refl _, Nat.le_refl _⟩ dX7_term_68 rfl) hS (fun u29 H locs g30 hP hS => ?_)
            obtain rfl : u29 = (J24, B24, K) := g30
            have hP : Wp mN E mK (J24, B24, K) H := hP
            refine lv_goto (tgt := 4) hx hb dX7_term_71 (by decide) ?_
            exact ih _ (fun am sc => cProd (f am sc) (zFd T n am sc 4 (zA T n za)).1) _ _ (by have h9 := hsg.2.1; have h8 := zGe_Fd (T := T) (n := n) (sz := 0) (sc := 0) 4 (zA T n za); omega) (gP_bad hz9 (gB_tr hg.1 (rP_u rP_rf (Or.inl rfl)) hg24.1)) (fun am sc h1 h2 => op_mul.2) (fun am sc => (show zTl T n (zFd T n am sc 4) cnt (cProd (f am sc) (zFd T n am sc 4 (zA T n za)).1, (zFd T n 0 0 4 (zA T n za)).2) = _ from (by rw [zFd_i (a := 0) (b := 0) am sc 4 (zA T n za)]; exact (zTl_m q1).symm.trans (hv am sc)))) _ _ hP hS ls (lv_sub hl [1] rfl)
        · have q1 : zS T n 42 za = false := Bool.eq_false_iff.mpr (fun g => h17 ((zS_b (ch := 42) hTa h0a (by decide) (by decide)).mpr g))
          refine lv_aload_n hx hb dX7_term_20 rfl (lv_at hl 0 rfl) ?_
          refine cn_wi (ck_V (a := eP E 0) S lk_X7_66 (c_X7_nextW l E (up2 J 0 4 (nI (tkB T n za.2))) B K T n za hE (mW_nx hWa h0a) h0a) ⟨rfl, rfl⟩ ⟨Nat.le_of_ble_eq_true rfl, Nat.le_of_ble_eq_true rfl⟩ bl_w (rc_w hK hP 0 (by decide) rfl rfl) (bw_U hE hK hC hP hS) rfl hl.1 (Nat.le_of_ble_eq_true rfl) ⟨Nat.le_refl _, Nat.le_refl _⟩ dX7_term_21 rfl) hS (fun r31 u32 H locs g33 hP hS => ?_)
          obtain ⟨rfl, rfl⟩ : r31 = (mBv B n (tkB T n za.2)) ∧ u32 = ((up2 (up2 J 0 4 (nI (tkB T n za.2))) 0 4 (nI (tkB T n za.2))), B, K) := g33
          have hP : Wp mN E mK ((up2 (up2 J 0 4 (nI (tkB T n za.2))) 0 4 (nI (tkB T n za.2))), B, K) H := hP
          rw [up2_up] at hP
          have hP : Wp mN E mK ((up2 J 0 4 (nI (tkB T n za.2))), B, K) H := hP
          refine lv_bipush (v := 47) hx hb dX7_term_24 (by decide) ?_
          refine lv_icmp_ne (tgt := 74) hx hb dX7_term_26 (by decide) (fun h26 => ?_) (fun h26 => ?_)
          · have q2 : zS T n 47 za = false := Bool.eq_false_iff.mpr (fun g => h26 ((zS_b (ch := 47) hTa h0a (by decide) (by decide)).mpr g))
            exact re_wv (x := ((up2 J 0 4 (nI (tkB T n za.2))), B, K)) hx hb hr hlk hP hS ⟨_, B, gP_eq (fun am sc => (zTl_x q1 q2 _).symm.trans (hv am sc)) ⟨gB_u hg.1 h0a, hg.2⟩, rfl⟩ dX7_term_74
          · have q2 : zS T n 47 za = true := (zS_b (ch := 47) hTa h0a (by decide) (by decide)).mp h26
            have hsg := mW_sg (ch := 47) hWa (by decide) q2
            refine lv_aload_n hx hb dX7_term_29 rfl (lv_at hl 0 rfl) ?_
            refine cn_wi (ck_V (a := eP E 0) S lk_X7_66 (c_X7_nextW l E (up2 J 0 4 (nI (tkB T n za.2))) B K T n za hE (mW_nx hWa h0a) h0a) ⟨rfl, rfl⟩ ⟨Nat.le_of_ble_eq_true rfl, Nat.le_of_ble_eq_true rfl⟩ bl_w (rc_w hK hP 0 (by decide) rfl rfl) (bw_U hE hK hC hP hS) rfl hl.1 (Nat.le_of_ble_eq_true rfl) ⟨Nat.le_refl _, Nat.le_refl _⟩ dX7_term_30 rfl) hS (fun r34 u35 H locs g36 hP hS => ?_)
            obtain ⟨rfl, rfl⟩ : r34 = (mBv B n (tkB T n za.2)) ∧ u35 = ((up2 (up2 J 0 4 (nI (tkB T n za.2))) 0 4 (nI (tkB T n za.2))), B, K) := g36
            have hP : Wp mN E mK ((up2 (up2 J 0 4 (nI (tkB T n za.2))) 0 4 (nI (tkB T n za.2))), B, K) H := hP
            rw [up2_up] at hP
            have hP : Wp mN E mK ((up2 J 0 4 (nI (tkB T n za.2))), B, K) H := hP
            refine lv_bipush (v := 42) hx hb dX7_term_33 (by decide) ?_
            refine lv_icmp_ne (tgt := 42) hx hb dX7_term_35 (by decide) (fun h35 => ?_) (fun h35 => absurd h35 (show ¬ mBv B n (tkB T n za.2) = 42 from h17))
            refine lv_iconst (v := 0) hx hb dX7_term_42 (by decide) ?_
            refine lv_istore_n (lv' := [(1, .int 0), (0, .ref (eP E 0))]) hx hb dX7_term_43 rfl hl (by decide) rfl (fun ls hl => ?_)
            refine lv_aload_n hx hb dX7_term_44 rfl (lv_at hl 1 rfl) ?_
            refine lv_dup hx hb dX7_term_45 rfl ?_
            refine rw_geti (x := ((up2 J 0 4 (nI (tkB T n za.2))), B, K)) (v := (nI (tkB T n za.2))) S hK hP 0 (by decide) rfl fk_X7_45 rfl (up2_eq (f := J) (q := 0) (j := 4) (v := (nI (tkB T n za.2)))) dX7_term_46 ?_
            refine lv_iconst (v := 1) hx hb dX7_term_49 (by decide) ?_
            refine lv_iadd hx hb dX7_term_50 ?_
            refine tp_i (y := nI ((tkB T n za.2) + 1)) (nI_add (tkB T n za.2) 1) ?_
            refine rw_puti (x := ((up2 J 0 4 (nI (tkB T n za.2))), B, K)) (v := (nI ((tkB T n za.2) + 1))) S hE hK hP hS 0 (by decide) rfl fk_X7_45 rfl tyX7_ok nmX7 ⟨rfl, by decide +kernel⟩ dX7_term_51 (fun H locs hP hS => ?_)
            have hP : Wp mN E mK ((up2 (up2 J 0 4 (nI (tkB T n za.2))) 0 4 (nI ((tkB T n za.2) + 1))), B, K) H := hP
            rw [up2_up] at hP
            have hP : Wp mN E mK ((up2 J 0 4 (nI (tkB T n za.2 + 1))), B, K) H := hP
            obtain ⟨M, hM⟩ := hg.2 h0a
            refine lv_aload_n hx hb dX7_term_54 rfl (lv_at hl 1 rfl) ?_
            refine cn_wv (ck_V (a := eP E 0) S lk_X7_119 (c_X7_factor_4 l E (up2 J 0 4 (nI (tkB T n za.2 + 1))) B K T n (zA T n za) M hE hsg.1 ((hg.1.1.2 0 13 (by decide)).trans h13) hsg.2.2 hM.1 (by have := hM.2.1; have := hsg.2.1; omega)) ⟨rfl, rfl⟩ ⟨Nat.le_of_ble_eq_true rfl, Nat.le_of_ble_eq_true rfl⟩ bl_w (rc_w hK hP 0 (by decide) rfl rfl) (bw_U hE hK hC hP hS) rfl hl.1 (Nat.le_of_ble_eq_true rfl) ⟨Nat.le_refl _, Nat.le_refl _⟩ dX7_term_55 rfl) hS (fun u38 H locs g39 hP hS => ?_)
            obtain ⟨J40, B40, hg40, rfl⟩ : ∃ oj ob, gP (up2 J 0 4 (nI (tkB T n za.2 + 1))) B T n M (zA T n za) (zFd T n 0 0 4 (zA T n za)).2 (fun am sc => (zFd T n am sc 4 (zA T n za)).1) oj ob ∧ u38 = (oj, ob, K) := g39
            have hP : Wp mN E mK (J40, B40, K) H := hP
            by_cases hz9 : (zFd T n 0 0 4 (zA T n za)).2.1 = 0
            · obtain ⟨M2, hM2⟩ := hg40.2 hz9
              refine lv_aload_n hx hb dX7_term_58 rfl (lv_at hl 1 rfl) ?_
              refine lv_iload_n hx hb dX7_term_59 rfl (lv_at hl 0 rfl) ?_
              refine lv_if_eq (tgt := 67) hx hb dX7_term_60 (by decide) (fun h60 => ?_) (fun h60 => absurd (by decide) h60)
              refine lv_iconst (v := 5) hx hb dX7_term_67 (by decide) ?_
              refine cn_wv (ck_V (a := eP E 0) S lk_X7_116 (c_X7_emit l E J40 B40 K 5 M2 hE (hg40.1.1.1.2.1.trans hz9) hM2.1 (by have := hM.2.1; have := hM2.2.1; have := hsg.2.1; have := hg40.1.1.1.1.2.2; omega)) ⟨rfl, rfl⟩ ⟨Nat.le_of_ble_eq_true rfl, Nat.le_of_ble_eq_true rfl⟩ bl_w (rc_w hK hP 0 (by decide) rfl rfl) (bw_U hE hK hC hP hS) rfl hl.1 (Nat.le_of_ble_eq_true rfl) ⟨Nat.le_refl _, Nat.le_refl _⟩ dX7_term_68 rfl) hS (fun u42 H locs g43 hP hS => ?_)
              obtain rfl : u42 = (J40, (mEm B40 M2 5), K) := g43
              have hP : Wp mN E mK (J40, (mEm B40 M2 5), K) H := hP
              refine lv_goto (tgt := 4) hx hb dX7_term_71 (by decide) ?_
              exact ih _ (fun am sc => cQuo (f am sc) (zFd T n am sc 4 (zA T n za)).1) _ _ (by have h9 := hsg.2.1; have h8 := zGe_Fd (T := T) (n := n) (sz := 0) (sc := 0) 4 (zA T n za); omega) (⟨gB_tr hg.1 (rP_u rP_rf (Or.inl rfl)) (gB_em hg40.1), fun _ => ⟨_, gM_op hM hsg.2.1 hM2 (by decide) (fun am sc h1 h2 => (op_div (hfv am sc h1 h2) (vR_Fd h1 h2 4 _)).1)⟩⟩) (fun am sc h1 h2 => (op_div (hfv am sc h1 h2) (vR_Fd h1 h2 4 _)).2) (fun am sc => (show zTl T n (zFd T n am sc 4) cnt (cQuo (f am sc) (zFd T n am sc 4 (zA T n za)).1, (zFd T n 0 0 4 (zA T n za)).2) = _ from (by rw [zFd_i (a := 0) (b := 0) am sc 4 (zA T n za)]; exact (zTl_d q1 q2).symm.trans (hv am sc)))) _ _ hP hS ls (lv_sub hl [1] rfl)
            · refine lv_aload_n hx hb dX7_term_58 rfl (lv_at hl 1 rfl) ?_
              refine lv_iload_n hx hb dX7_term_59 rfl (lv_at hl 0 rfl) ?_
              refine lv_if_eq (tgt := 67) hx hb dX7_term_60 (by decide) (fun h60 => ?_) (fun h60 => absurd (by decide) h60)
              refine lv_iconst (v := 5) hx hb dX7_term_67 (by decide) ?_
              refine cn_wv (ck_V (a := eP E 0) S lk_X7_116 (c_X7_emit_bad l E J40 B40 K 5 hE (fun g => hz9 (hg40.1.1.1.2.1.symm.trans g))) ⟨rfl, rfl⟩ ⟨Nat.le_of_ble_eq_true rfl, Nat.le_of_ble_eq_true rfl⟩ bl_w (rc_w hK hP 0 (by decide) rfl rfl) (bw_U hE hK hC hP hS) rfl hl.1 (Nat.le_of_ble_eq_true rfl) ⟨Nat.le_refl _, Nat.le_refl _⟩ dX7_term_68 rfl) hS (fun u45 H locs g46 hP hS => ?_)
              obtain rfl : u45 = (J40, B40, K) := g46
              have hP : Wp mN E mK (J40, B40, K) H := hP
              refine lv_goto (tgt := 4) hx hb dX7_term_71 (by decide) ?_
              exact ih _ (fun am sc => cQuo (f am sc) (zFd T n am sc 4 (zA T n za)).1) _ _ (by have h9 := hsg.2.1; have h8 := zGe_Fd (T := T) (n := n) (sz := 0) (sc := 0) 4 (zA T n za); omega) (gP_bad hz9 (gB_tr hg.1 (rP_u rP_rf (Or.inl rfl)) hg40.1)) (fun am sc h1 h2 => (op_div (hfv am sc h1 h2) (vR_Fd h1 h2 4 _)).2) (fun am sc => (show zTl T n (zFd T n am sc 4) cnt (cQuo (f am sc) (zFd T n am sc 4 (zA T n za)).1, (zFd T n 0 0 4 (zA T n za)).2) = _ from (by rw [zFd_i (a := 0) (b := 0) am sc 4 (zA T n za)]; exact (zTl_d q1 q2).symm.trans (hv am sc)))) _ _ hP hS ls (lv_sub hl [1] rfl)
  exact HL 700 _ (fun am sc => (zFd T n am sc 4 z).1) _ _ (by omega) hg4 (fun am sc h1 h2 => vR_Fd h1 h2 4 z) (fun am sc => (congrArg (zTl T n (zFd T n am sc 4) 700) (show ((zFd T n am sc 4 z).1, (zFd T n 0 0 4 z).2) = zFd T n am sc 4 z from by rw [zFd_i am sc 4 z])).trans zTd_e.symm) _ _ hP hS ls (lv_sub hl [0] rfl)

set_option maxHeartbeats 1000000 in
set_option maxRecDepth 100000 in
theorem c_X7_sum_4 (l : Launch) (E : En) (I A : Nat → Nat → Int32) (K : Nat → Nat → Int64) (T : Nat → Int32) (n : Nat) (z : Tz) (N : Nat) (hE : Ev mN E) (hW : mW I A T n z) (h13 : I 0 13 = 0) (h0 : z.1 = 0) (hN : A 3 3 = nI N) (hNb : 2 * N ≤ 3 * z.2) : Met l yX7_sum (wz yX7_sum cX7_sum 2 none) (rmk 19 0 0 419) (va_Pc [.ref (eP E 0)] (Bw mN E mK (I, A, K))) (qWv mN E mK (fun uu => ∃ J B, gP I A T n N z (zSu T n 0 0 4 z).2 (fun am sc => (zSu T n am sc 4 z).1) J B ∧ uu = (J, B, K))) 0 0 (cA mN E) := by
  refine en_ofW RX7 rfl (by decide +kernel) (Nat.le_of_ble_eq_true rfl) ?_
  intro p e s m below meth c ls S hr hlk hnm hl hB
  have hx := S.1
  have hb := S.2.1
  obtain ⟨hK, hC, hP⟩ := hB
  have hS : va_S (cA mN E) s.heap s.heap [] := va_S.rf
  have hl : lv_has ls 2 [(0, .ref (eP E 0))] := hl
  obtain ⟨⟨hn3, hTT, hzn⟩, h5c, h5p, h5e⟩ := id hW
  have hn7 := hTT.1
  have hBn := tkB_le (T := T) hzn
  have hzl : z.2 ≤ 700 := Nat.le_trans hzn hn7
  refine lv_aload_n hx hb dX7_sum_0 rfl (lv_at hl 0 rfl) ?_
  refine cn_wv (ck_V (a := eP E 0) S lk_X7_122 (c_X7_term_4 l E I A K T n z N hE hW h13 h0 hN hNb) ⟨rfl, rfl⟩ ⟨Nat.le_of_ble_eq_true rfl, Nat.le_of_ble_eq_true rfl⟩ bl_w (rc_w hK hP 0 (by decide) rfl rfl) (bw_U hE hK hC hP hS) rfl hl.1 (Nat.le_of_ble_eq_true rfl) ⟨Nat.le_refl _, Nat.le_refl _⟩ dX7_sum_1 rfl) hS (fun u2 H locs g3 hP hS => ?_)
  obtain ⟨J4, B4, hg4, rfl⟩ : ∃ oj ob, gP I A T n N z (zTd T n 0 0 4 z).2 (fun am sc => (zTd T n am sc 4 z).1) oj ob ∧ u2 = (oj, ob, K) := g3
  have hP : Wp mN E mK (J4, B4, K) H := hP
  have HL : ∀ (cnt : Nat) (za : Tz) (f : Int32 → Int32 → Int32) (J B : Nat → Nat → Int32), n - za.2 ≤ cnt → gP I A T n N z za f J B → (∀ am sc, vR am → vR sc → vR (f am sc)) → (∀ am sc, zSl T n (zTd T n am sc 4) cnt (f am sc, za) = zSu T n am sc 4 z) → ∀ (H : Heap) (locs : List Loc), Wp mN E mK (J, B, K) H → va_S (cA mN E) s.heap H locs → ∀ ls : Array Slot, lv_has ls 2 [(0, .ref (eP E 0))] → W p l e (rmk 19 0 0 419) s m ([.ref (eP E 0)] : List Value).toArray below meth c H locs 0 0 (MQ below (qWv mN E mK (fun uu => ∃ J B, gP I A T n N z (zSu T n 0 0 4 z).2 (fun am sc => (zSu T n am sc 4 z).1) J B ∧ uu = (J, B, K))) ([.ref (eP E 0)] : List Value).toArray s 0 0 (cA mN E)) (F0 m 4 ls []) := by
    intro cnt
    induction cnt with
    | zero =>
      intro za f J B hm hg hfv hv H locs hP hS ls hl
      have hWa := hg.1.1.1
      have h5a : J 0 5 = za.1 := hWa.2.1
      have hzan := hWa.1.2.2
      have hTa := hWa.1.2.1
      refine lv_aload_n hx hb dX7_sum_4 rfl (lv_at hl 0 rfl) ?_
      refine cn_si (ck_V (a := eP E 0) S lk_X7_62 (c_X7_isGood l E J B K hE) ⟨rfl, rfl⟩ ⟨Nat.le_of_ble_eq_true rfl, Nat.le_of_ble_eq_true rfl⟩ bl_w (rc_w hK hP 0 (by decide) rfl rfl) (bw_U hE hK hC hP hS) rfl hl.1 (Nat.le_of_ble_eq_true rfl) ⟨Nat.le_refl _, Nat.le_refl _⟩ dX7_sum_5 rfl) (fun r5 g6 => ?_)
      obtain rfl : r5 = bI (decide (J 0 5 = 0)) := g6
      refine lv_if_eq (tgt := 74) hx hb dX7_sum_8 (by decide) (fun h8 => ?_) (fun h8 => ?_)
      · have hnz : ¬ za.1 = 0 := fun g => absurd (decide_eq_true (h5a.trans g)) (by rw [bI_f h8]; decide)
        exact re_wv (x := (J, B, K)) hx hb hr hlk hP hS ⟨J, B, gP_eq (fun am sc => (zSl_x (zS_c hnz) (zS_c hnz) _).symm.trans (hv am sc)) hg, rfl⟩ dX7_sum_74
      · have h0a : za.1 = 0 := h5a.symm.trans (of_decide_eq_true (bI_t h8))
        refine lv_aload_n hx hb dX7_sum_11 rfl (lv_at hl 0 rfl) ?_
        refine cn_wi (ck_V (a := eP E 0) S lk_X7_66 (c_X7_nextW l E J B K T n za hE hWa h0a) ⟨rfl, rfl⟩ ⟨Nat.le_of_ble_eq_true rfl, Nat.le_of_ble_eq_true rfl⟩ bl_w (rc_w hK hP 0 (by decide) rfl rfl) (bw_U hE hK hC hP hS) rfl hl.1 (Nat.le_of_ble_eq_true rfl) ⟨Nat.le_refl _, Nat.le_refl _⟩ dX7_sum_12 rfl) hS (fun r7 u8 H locs g9 hP hS => ?_)
        obtain ⟨rfl, rfl⟩ : r7 = (mBv B n (tkB T n za.2)) ∧ u8 = ((up2 J 0 4 (nI (tkB T n za.2))), B, K) := g9
        have hP : Wp mN E mK ((up2 J 0 4 (nI (tkB T n za.2))), B, K) H := hP
        refine lv_bipush (v := 43) hx hb dX7_sum_15 (by decide) ?_
        refine lv_icmp_eq (tgt := 29) hx hb dX7_sum_17 (by decide) (fun h17 => ?_) (fun h17 => ?_)
        · have q1 : zS T n 43 za = true := (zS_b (ch := 43) hTa h0a (by decide) (by decide)).mp h17
          have hsg := mW_sg (ch := 43) hWa (by decide) q1
          exact absurd (zS_e (ch := 43) (by decide) q1).2 (by have := tkB_ge (T := T) (n := n) (p := za.2); omega)
        · have q1 : zS T n 43 za = false := Bool.eq_false_iff.mpr (fun g => h17 ((zS_b (ch := 43) hTa h0a (by decide) (by decide)).mpr g))
          refine lv_aload_n hx hb dX7_sum_20 rfl (lv_at hl 0 rfl) ?_
          refine cn_wi (ck_V (a := eP E 0) S lk_X7_66 (c_X7_nextW l E (up2 J 0 4 (nI (tkB T n za.2))) B K T n za hE (mW_nx hWa h0a) h0a) ⟨rfl, rfl⟩ ⟨Nat.le_of_ble_eq_true rfl, Nat.le_of_ble_eq_true rfl⟩ bl_w (rc_w hK hP 0 (by decide) rfl rfl) (bw_U hE hK hC hP hS) rfl hl.1 (Nat.le_of_ble_eq_true rfl) ⟨Nat.le_refl _, Nat.le_refl _⟩ dX7_sum_21 rfl) hS (fun r10 u11 H locs g12 hP hS => ?_)
          obtain ⟨rfl, rfl⟩ : r10 = (mBv B n (tkB T n za.2)) ∧ u11 = ((up2 (up2 J 0 4 (nI (tkB T n za.2))) 0 4 (nI (tkB T n za.2))), B, K) := g12
          have hP : Wp mN E mK ((up2 (up2 J 0 4 (nI (tkB T n za.2))) 0 4 (nI (tkB T n za.2))), B, K) H := hP
          rw [up2_up] at hP
          have hP : Wp mN E mK ((up2 J 0 4 (nI (tkB T n za.2))), B, K) H := hP
          refine lv_bipush (v := 45) hx hb dX7_sum_24 (by decide) ?_
          refine lv_icmp_ne (tgt := 74) hx hb dX7_sum_26 (by decide) (fun h26 => ?_) (fun h26 => ?_)
          · have q2 : zS T n 45 za = false := Bool.eq_false_iff.mpr (fun g => h26 ((zS_b (ch := 45) hTa h0a (by decide) (by decide)).mpr g))
            exact re_wv (x := ((up2 J 0 4 (nI (tkB T n za.2))), B, K)) hx hb hr hlk hP hS ⟨_, B, gP_eq (fun am sc => (zSl_x q1 q2 _).symm.trans (hv am sc)) ⟨gB_u hg.1 h0a, hg.2⟩, rfl⟩ dX7_sum_74
          · have q2 : zS T n 45 za = true := (zS_b (ch := 45) hTa h0a (by decide) (by decide)).mp h26
            have hsg := mW_sg (ch := 45) hWa (by decide) q2
            exact absurd (zS_e (ch := 45) (by decide) q2).2 (by have := tkB_ge (T := T) (n := n) (p := za.2); omega)
    | succ cnt ih =>
      intro za f J B hm hg hfv hv H locs hP hS ls hl
      have hWa := hg.1.1.1
      have h5a : J 0 5 = za.1 := hWa.2.1
      have hzan := hWa.1.2.2
      have hTa := hWa.1.2.1
      refine lv_aload_n hx hb dX7_sum_4 rfl (lv_at hl 0 rfl) ?_
      refine cn_si (ck_V (a := eP E 0) S lk_X7_62 (c_X7_isGood l E J B K hE) ⟨rfl, rfl⟩ ⟨Nat.le_of_ble_eq_true rfl, Nat.le_of_ble_eq_true rfl⟩ bl_w (rc_w hK hP 0 (by decide) rfl rfl) (bw_U hE hK hC hP hS) rfl hl.1 (Nat.le_of_ble_eq_true rfl) ⟨Nat.le_refl _, Nat.le_refl _⟩ dX7_sum_5 rfl) (fun r13 g14 => ?_)
      obtain rfl : r13 = bI (decide (J 0 5 = 0)) := g14
      refine lv_if_eq (tgt := 74) hx hb dX7_sum_8 (by decide) (fun h8 => ?_) (fun h8 => ?_)
      · have hnz : ¬ za.1 = 0 := fun g => absurd (decide_eq_true (h5a.trans g)) (by rw [bI_f h8]; decide)
        exact re_wv (x := (J, B, K)) hx hb hr hlk hP hS ⟨J, B, gP_eq (fun am sc => (zSl_x (zS_c hnz) (zS_c hnz) _).symm.trans (hv am sc)) hg, rfl⟩ dX7_sum_74
      · have h0a : za.1 = 0 := h5a.symm.trans (of_decide_eq_true (bI_t h8))
        refine lv_aload_n hx hb dX7_sum_11 rfl (lv_at hl 0 rfl) ?_
        refine cn_wi (ck_V (a := eP E 0) S lk_X7_66 (c_X7_nextW l E J B K T n za hE hWa h0a) ⟨rfl, rfl⟩ ⟨Nat.le_of_ble_eq_true rfl, Nat.le_of_ble_eq_true rfl⟩ bl_w (rc_w hK hP 0 (by decide) rfl rfl) (bw_U hE hK hC hP hS) rfl hl.1 (Nat.le_of_ble_eq_true rfl) ⟨Nat.le_refl _, Nat.le_refl _⟩ dX7_sum_12 rfl) hS (fun r15 u16 H locs g17 hP hS => ?_)
        obtain ⟨rfl, rfl⟩ : r15 = (mBv B n (tkB T n za.2)) ∧ u16 = ((up2 J 0 4 (nI (tkB T n za.2))), B, K) := g17
        have hP : Wp mN E mK ((up2 J 0 4 (nI (tkB T n za.2))), B, K) H := hP
        refine lv_bipush (v := 43) hx hb dX7_sum_15 (by decide) ?_
        refine lv_icmp_eq (tgt := 29) hx hb dX7_sum_17 (by decide) (fun h17 => ?_) (fun h17 => ?_)
        · have q1 : zS T n 43 za = true := (zS_b (ch := 43) hTa h0a (by decide) (by decide)).mp h17
          have hsg := mW_sg (ch := 43) hWa (by decide) q1
          refine lv_aload_n hx hb dX7_sum_29 rfl (lv_at hl 0 rfl) ?_
          refine cn_wi (ck_V (a := eP E 0) S lk_X7_66 (c_X7_nextW l E (up2 J 0 4 (nI (tkB T n za.2))) B K T n za hE (mW_nx hWa h0a) h0a) ⟨rfl, rfl⟩ ⟨Nat.le_of_ble_eq_true rfl, Nat.le_of_ble_eq_true rfl⟩ bl_w (rc_w hK hP 0 (by decide) rfl rfl) (bw_U hE hK hC hP hS) rfl hl.1 (Nat.le_of_ble_eq_true rfl) ⟨Nat.le_refl _, Nat.le_refl _⟩ dX7_sum_30 rfl) hS (fun r18 u19 H locs g20 hP hS => ?_)
          obtain ⟨rfl, rfl⟩ : r18 = (mBv B n (tkB T n za.2)) ∧ u19 = ((up2 (up2 J 0 4 (nI (tkB T n za.2))) 0 4 (nI (tkB T n za.2))), B, K) := g20
          have hP : Wp mN E mK ((up2 (up2 J 0 4 (nI (tkB T n za.2))) 0 4 (nI (tkB T n za.2))), B, K) H := hP
          rw [up2_up] at hP
          have hP : Wp mN E mK ((up2 J 0 4 (nI (tkB T n za.2))), B, K) H := hP
          refine lv_bipush (v := 43) hx hb dX7_sum_33 (by decide) ?_
          refine lv_icmp_ne (tgt := 42) hx hb dX7_sum_35 (by decide) (fun h35 => absurd h35 (fun g => g h17)) (fun h35 => ?_)
          refine lv_iconst (v := 1) hx hb dX7_sum_38 (by decide) ?_
          refine lv_goto (tgt := 43) hx hb dX7_sum_39 (by decide) ?_
          refine lv_istore_n (lv' := [(1, .int 1), (0, .ref (eP E 0))]) hx hb dX7_sum_43 rfl hl (by decide) rfl (fun ls hl => ?_)
          refine lv_aload_n hx hb dX7_sum_44 rfl (lv_at hl 1 rfl) ?_
          refine lv_dup hx hb dX7_sum_45 rfl ?_
          refine rw_geti (x := ((up2 J 0 4 (nI (tkB T n za.2))), B, K)) (v := (nI (tkB T n za.2))) S hK hP 0 (by decide) rfl fk_X7_45 rfl (up2_eq (f := J) (q := 0) (j := 4) (v := (nI (tkB T n za.2)))) dX7_sum_46 ?_
          refine lv_iconst (v := 1) hx hb dX7_sum_49 (by decide) ?_
          refine lv_iadd hx hb dX7_sum_50 ?_
          refine tp_i (y := nI ((tkB T n za.2) + 1)) (nI_add (tkB T n za.2) 1) ?_
          refine rw_puti (x := ((up2 J 0 4 (nI (tkB T n za.2))), B, K)) (v := (nI ((tkB T n za.2) + 1))) S hE hK hP hS 0 (by decide) rfl fk_X7_45 rfl tyX7_ok nmX7 ⟨rfl, by decide +kernel⟩ dX7_sum_51 (fun H locs hP hS => ?_)
          have hP : Wp mN E mK ((up2 (up2 J 0 4 (nI (tkB T n za.2))) 0 4 (nI ((tkB T n za.2) + 1))), B, K) H := hP
          rw [up2_up] at hP
          have hP : Wp mN E mK ((up2 J 0 4 (nI (tkB T n za.2 + 1))), B, K) H := hP
          obtain ⟨M, hM⟩ := hg.2 h0a
          refine lv_aload_n hx hb dX7_sum_54 rfl (lv_at hl 1 rfl) ?_
          refine cn_wv (ck_V (a := eP E 0) S lk_X7_122 (c_X7_term_4 l E (up2 J 0 4 (nI (tkB T n za.2 + 1))) B K T n (zA T n za) M hE hsg.1 ((hg.1.1.2 0 13 (by decide)).trans h13) hsg.2.2 hM.1 (by have := hM.2.1; have := hsg.2.1; omega)) ⟨rfl, rfl⟩ ⟨Nat.le_of_ble_eq_true rfl, Nat.le_of_ble_eq_true rfl⟩ bl_w (rc_w hK hP 0 (by decide) rfl rfl) (bw_U hE hK hC hP hS) rfl hl.1 (Nat.le_of_ble_eq_true rfl) ⟨Nat.le_refl _, Nat.le_refl _⟩ dX7_sum_55 rfl) hS (fun u22 H locs g23 hP hS => ?_)
          obtain ⟨J24, B24, hg24, rfl⟩ : ∃ oj ob, gP (up2 J 0 4 (nI (tkB T n za.2 + 1))) B T n M (zA T n za) (zTd T n 0 0 4 (zA T n za)).2 (fun am sc => (zTd T n am sc 4 (zA T n za)).1) oj ob ∧ u22 = (oj, ob, K) := g23
          have hP : Wp mN E mK (J24, B24, K) H := hP
          by_cases hz9 : (zTd T n 0 0 4 (zA T n za)).2.1 = 0
          · obtain ⟨M2, hM2⟩ := hg24.2 hz9
            refine lv_aload_n hx hb dX7_sum_58 rfl (lv_at hl 1 rfl) ?_
            refine lv_iload_n hx hb dX7_sum_59 rfl (lv_at hl 0 rfl) ?_
            refine lv_if_eq (tgt := 67) hx hb dX7_sum_60 (by decide) (fun h60 => absurd h60 (by decide)) (fun h60 => ?_)
            refine lv_iconst (v := 2) hx hb dX7_sum_63 (by decide) ?_
            refine lv_goto (tgt := 68) hx hb dX7_sum_64 (by decide) ?_
            refine cn_wv (ck_V (a := eP E 0) S lk_X7_116 (c_X7_emit l E J24 B24 K 2 M2 hE (hg24.1.1.1.2.1.trans hz9) hM2.1 (by have := hM.2.1; have := hM2.2.1; have := hsg.2.1; have := hg24.1.1.1.1.2.2; omega)) ⟨rfl, rfl⟩ ⟨Nat.le_of_ble_eq_true rfl, Nat.le_of_ble_eq_true rfl⟩ bl_w (rc_w hK hP 0 (by decide) rfl rfl) (bw_U hE hK hC hP hS) rfl hl.1 (Nat.le_of_ble_eq_true rfl) ⟨Nat.le_refl _, Nat.le_refl _⟩ dX7_sum_68 rfl) hS (fun u26 H locs g27 hP hS => ?_)
            obtain rfl : u26 = (J24, (mEm B24 M2 2), K) := g27
            have hP : Wp mN E mK (J24, (mEm B24 M2 2), K) H := hP
            refine lv_goto (tgt := 4) hx hb dX7_sum_71 (by decide) ?_
            exact ih _ (fun am sc => pLim (f am sc + (zTd T n am sc 4 (zA T n za)).1) (-1000000) 1000000) _ _ (by have h9 := hsg.2.1; have h8 := zGe_Td (T := T) (n := n) (sz := 0) (sc := 0) 4 (zA T n za); omega) (⟨gB_tr hg.1 (rP_u rP_rf (Or.inl rfl)) (gB_em hg24.1), fun _ => ⟨_, gM_op hM hsg.2.1 hM2 (by decide) (fun am sc h1 h2 => (op_add (hfv am sc h1 h2) (vR_Td h1 h2 4 _)).1)⟩⟩) (fun am sc h1 h2 => vR_lim) (fun am sc => (show zSl T n (zTd T n am sc 4) cnt (pLim (f am sc + (zTd T n am sc 4 (zA T n za)).1) (-1000000) 1000000, (zTd T n 0 0 4 (zA T n za)).2) = _ from (by rw [zTd_i (a := 0) (b := 0) am sc 4 (zA T n za)]; exact (zSl_m q1).symm.trans (hv am sc)))) _ _ hP hS ls (lv_sub hl [1] rfl)
          · refine lv_aload_n hx hb dX7_sum_58 rfl (lv_at hl 1 rfl) ?_
            refine lv_iload_n hx hb dX7_sum_59 rfl (lv_at hl 0 rfl) ?_
            refine lv_if_eq (tgt := 67) hx hb dX7_sum_60 (by decide) (fun h60 => absurd h60 (by decide)) (fun h60 => ?_)
            refine lv_iconst (v := 2) hx hb dX7_sum_63 (by decide) ?_
            refine lv_goto (tgt := 68) hx hb dX7_sum_64 (by decide) ?_
            refine cn_wv (ck_V (a := eP E 0) S lk_X7_116 (c_X7_emit_bad l E J24 B24 K 2 hE (fun g => hz9 (hg24.1.1.1.2.1.symm.trans g))) ⟨rfl, rfl⟩ ⟨Nat.le_of_ble_eq_true rfl, Nat.le_of_ble_eq_true rfl⟩ bl_w (rc_w hK hP 0 (by decide) rfl rfl) (bw_U hE hK hC hP hS) rfl hl.1 (Nat.le_of_ble_eq_true rfl) ⟨Nat.le_refl _, Nat.le_refl _⟩ dX7_sum_68 rfl) hS (fun u29 H locs g30 hP hS => ?_)
            obtain rfl : u29 = (J24, B24, K) := g30
            have hP : Wp mN E mK (J24, B24, K) H := hP
            refine lv_goto (tgt := 4) hx hb dX7_sum_71 (by decide) ?_
            exact ih _ (fun am sc => pLim (f am sc + (zTd T n am sc 4 (zA T n za)).1) (-1000000) 1000000) _ _ (by have h9 := hsg.2.1; have h8 := zGe_Td (T := T) (n := n) (sz := 0) (sc := 0) 4 (zA T n za); omega) (gP_bad hz9 (gB_tr hg.1 (rP_u rP_rf (Or.inl rfl)) hg24.1)) (fun am sc h1 h2 => vR_lim) (fun am sc => (show zSl T n (zTd T n am sc 4) cnt (pLim (f am sc + (zTd T n am sc 4 (zA T n za)).1) (-1000000) 1000000, (zTd T n 0 0 4 (zA T n za)).2) = _ from (by rw [zTd_i (a := 0) (b := 0) am sc 4 (zA T n za)]; exact (zSl_m q1).symm.trans (hv am sc)))) _ _ hP hS ls (lv_sub hl [1] rfl)
        · have q1 : zS T n 43 za = false := Bool.eq_false_iff.mpr (fun g => h17 ((zS_b (ch := 43) hTa h0a (by decide) (by decide)).mpr g))
          refine lv_aload_n hx hb dX7_sum_20 rfl (lv_at hl 0 rfl) ?_
          refine cn_wi (ck_V (a := eP E 0) S lk_X7_66 (c_X7_nextW l E (up2 J 0 4 (nI (tkB T n za.2))) B K T n za hE (mW_nx hWa h0a) h0a) ⟨rfl, rfl⟩ ⟨Nat.le_of_ble_eq_true rfl, Nat.le_of_ble_eq_true rfl⟩ bl_w (rc_w hK hP 0 (by decide) rfl rfl) (bw_U hE hK hC hP hS) rfl hl.1 (Nat.le_of_ble_eq_true rfl) ⟨Nat.le_refl _, Nat.le_refl _⟩ dX7_sum_21 rfl) hS (fun r31 u32 H locs g33 hP hS => ?_)
          obtain ⟨rfl, rfl⟩ : r31 = (mBv B n (tkB T n za.2)) ∧ u32 = ((up2 (up2 J 0 4 (nI (tkB T n za.2))) 0 4 (nI (tkB T n za.2))), B, K) := g33
          have hP : Wp mN E mK ((up2 (up2 J 0 4 (nI (tkB T n za.2))) 0 4 (nI (tkB T n za.2))), B, K) H := hP
          rw [up2_up] at hP
          have hP : Wp mN E mK ((up2 J 0 4 (nI (tkB T n za.2))), B, K) H := hP
          refine lv_bipush (v := 45) hx hb dX7_sum_24 (by decide) ?_
          refine lv_icmp_ne (tgt := 74) hx hb dX7_sum_26 (by decide) (fun h26 => ?_) (fun h26 => ?_)
          · have q2 : zS T n 45 za = false := Bool.eq_false_iff.mpr (fun g => h26 ((zS_b (ch := 45) hTa h0a (by decide) (by decide)).mpr g))
            exact re_wv (x := ((up2 J 0 4 (nI (tkB T n za.2))), B, K)) hx hb hr hlk hP hS ⟨_, B, gP_eq (fun am sc => (zSl_x q1 q2 _).symm.trans (hv am sc)) ⟨gB_u hg.1 h0a, hg.2⟩, rfl⟩ dX7_sum_74
          · have q2 : zS T n 45 za = true := (zS_b (ch := 45) hTa h0a (by decide) (by decide)).mp h26
            have hsg := mW_sg (ch := 45) hWa (by decide) q2
            refine lv_aload_n hx hb dX7_sum_29 rfl (lv_at hl 0 rfl) ?_
            refine cn_wi (ck_V (a := eP E 0) S lk_X7_66 (c_X7_nextW l E (up2 J 0 4 (nI (tkB T n za.2))) B K T n za hE (mW_nx hWa h0a) h0a) ⟨rfl, rfl⟩ ⟨Nat.le_of_ble_eq_true rfl, Nat.le_of_ble_eq_true rfl⟩ bl_w (rc_w hK hP 0 (by decide) rfl rfl) (bw_U hE hK hC hP hS) rfl hl.1 (Nat.le_of_ble_eq_true rfl) ⟨Nat.le_refl _, Nat.le_refl _⟩ dX7_sum_30 rfl) hS (fun r34 u35 H locs g36 hP hS => ?_)
            obtain ⟨rfl, rfl⟩ : r34 = (mBv B n (tkB T n za.2)) ∧ u35 = ((up2 (up2 J 0 4 (nI (tkB T n za.2))) 0 4 (nI (tkB T n za.2))), B, K) := g36
            have hP : Wp mN E mK ((up2 (up2 J 0 4 (nI (tkB T n za.2))) 0 4 (nI (tkB T n za.2))), B, K) H := hP
            rw [up2_up] at hP
            have hP : Wp mN E mK ((up2 J 0 4 (nI (tkB T n za.2))), B, K) H := hP
            refine lv_bipush (v := 43) hx hb dX7_sum_33 (by decide) ?_
            refine lv_icmp_ne (tgt := 42) hx hb dX7_sum_35 (by decide) (fun h35 => ?_) (fun h35 => absurd h35 (show ¬ mBv B n (tkB T n za.2) = 43 from h17))
            refine lv_iconst (v := 0) hx hb dX7_sum_42 (by decide) ?_
            refine lv_istore_n (lv' := [(1, .int 0), (0, .ref (eP E 0))]) hx hb dX7_sum_43 rfl hl (by decide) rfl (fun ls hl => ?_)
            refine lv_aload_n hx hb dX7_sum_44 rfl (lv_at hl 1 rfl) ?_
            refine lv_dup hx hb dX7_sum_45 rfl ?_
            refine rw_geti (x := ((up2 J 0 4 (nI (tkB T n za.2))), B, K)) (v := (nI (tkB T n za.2))) S hK hP 0 (by decide) rfl fk_X7_45 rfl (up2_eq (f := J) (q := 0) (j := 4) (v := (nI (tkB T n za.2)))) dX7_sum_46 ?_
            refine lv_iconst (v := 1) hx hb dX7_sum_49 (by decide) ?_
            refine lv_iadd hx hb dX7_sum_50 ?_
            refine tp_i (y := nI ((tkB T n za.2) + 1)) (nI_add (tkB T n za.2) 1) ?_
            refine rw_puti (x := ((up2 J 0 4 (nI (tkB T n za.2))), B, K)) (v := (nI ((tkB T n za.2) + 1))) S hE hK hP hS 0 (by decide) rfl fk_X7_45 rfl tyX7_ok nmX7 ⟨rfl, by decide +kernel⟩ dX7_sum_51 (fun H locs hP hS => ?_)
            have hP : Wp mN E mK ((up2 (up2 J 0 4 (nI (tkB T n za.2))) 0 4 (nI ((tkB T n za.2) + 1))), B, K) H := hP
            rw [up2_up] at hP
            have hP : Wp mN E mK ((up2 J 0 4 (nI (tkB T n za.2 + 1))), B, K) H := hP
            obtain ⟨M, hM⟩ := hg.2 h0a
            refine lv_aload_n hx hb dX7_sum_54 rfl (lv_at hl 1 rfl) ?_
            refine cn_wv (ck_V (a := eP E 0) S lk_X7_122 (c_X7_term_4 l E (up2 J 0 4 (nI (tkB T n za.2 + 1))) B K T n (zA T n za) M hE hsg.1 ((hg.1.1.2 0 13 (by decide)).trans h13) hsg.2.2 hM.1 (by have := hM.2.1; have := hsg.2.1; omega)) ⟨rfl, rfl⟩ ⟨Nat.le_of_ble_eq_true rfl, Nat.le_of_ble_eq_true rfl⟩ bl_w (rc_w hK hP 0 (by decide) rfl rfl) (bw_U hE hK hC hP hS) rfl hl.1 (Nat.le_of_ble_eq_true rfl) ⟨Nat.le_refl _, Nat.le_refl _⟩ dX7_sum_55 rfl) hS (fun u38 H locs g39 hP hS => ?_)
            obtain ⟨J40, B40, hg40, rfl⟩ : ∃ oj ob, gP (up2 J 0 4 (nI (tkB T n za.2 + 1))) B T n M (zA T n za) (zTd T n 0 0 4 (zA T n za)).2 (fun am sc => (zTd T n am sc 4 (zA T n za)).1) oj ob ∧ u38 = (oj, ob, K) := g39
            have hP : Wp mN E mK (J40, B40, K) H := hP
            by_cases hz9 : (zTd T n 0 0 4 (zA T n za)).2.1 = 0
            · obtain ⟨M2, hM2⟩ := hg40.2 hz9
              refine lv_aload_n hx hb dX7_sum_58 rfl (lv_at hl 1 rfl) ?_
              refine lv_iload_n hx hb dX7_sum_59 rfl (lv_at hl 0 rfl) ?_
              refine lv_if_eq (tgt := 67) hx hb dX7_sum_60 (by decide) (fun h60 => ?_) (fun h60 => absurd (by decide) h60)
              refine lv_iconst (v := 3) hx hb dX7_sum_67 (by decide) ?_
              refine cn_wv (ck_V (a := eP E 0) S lk_X7_116 (c_X7_emit l E J40 B40 K 3 M2 hE (hg40.1.1.1.2.1.trans hz9) hM2.1 (by have := hM.2.1; have := hM2.2.1; have := hsg.2.1; have := hg40.1.1.1.1.2.2; omega)) ⟨rfl, rfl⟩ ⟨Nat.le_of_ble_eq_true rfl, Nat.le_of_ble_eq_true rfl⟩ bl_w (rc_w hK hP 0 (by decide) rfl rfl) (bw_U hE hK hC hP hS) rfl hl.1 (Nat.le_of_ble_eq_true rfl) ⟨Nat.le_refl _, Nat.le_refl _⟩ dX7_sum_68 rfl) hS (fun u42 H locs g43 hP hS => ?_)
              obtain rfl : u42 = (J40, (mEm B40 M2 3), K) := g43
              have hP : Wp mN E mK (J40, (mEm B40 M2 3), K) H := hP
              refine lv_goto (tgt := 4) hx hb dX7_sum_71 (by decide) ?_
              exact ih _ (fun am sc => pLim (f am sc - (zTd T n am sc 4 (zA T n za)).1) (-1000000) 1000000) _ _ (by have h9 := hsg.2.1; have h8 := zGe_Td (T := T) (n := n) (sz := 0) (sc := 0) 4 (zA T n za); omega) (⟨gB_tr hg.1 (rP_u rP_rf (Or.inl rfl)) (gB_em hg40.1), fun _ => ⟨_, gM_op hM hsg.2.1 hM2 (by decide) (fun am sc h1 h2 => (op_sub (hfv am sc h1 h2) (vR_Td h1 h2 4 _)).1)⟩⟩) (fun am sc h1 h2 => vR_lim) (fun am sc => (show zSl T n (zTd T n am sc 4) cnt (pLim (f am sc - (zTd T n am sc 4 (zA T n za)).1) (-1000000) 1000000, (zTd T n 0 0 4 (zA T n za)).2) = _ from (by rw [zTd_i (a := 0) (b := 0) am sc 4 (zA T n za)]; exact (zSl_d q1 q2).symm.trans (hv am sc)))) _ _ hP hS ls (lv_sub hl [1] rfl)
            · refine lv_aload_n hx hb dX7_sum_58 rfl (lv_at hl 1 rfl) ?_
              refine lv_iload_n hx hb dX7_sum_59 rfl (lv_at hl 0 rfl) ?_
              refine lv_if_eq (tgt := 67) hx hb dX7_sum_60 (by decide) (fun h60 => ?_) (fun h60 => absurd (by decide) h60)
              refine lv_iconst (v := 3) hx hb dX7_sum_67 (by decide) ?_
              refine cn_wv (ck_V (a := eP E 0) S lk_X7_116 (c_X7_emit_bad l E J40 B40 K 3 hE (fun g => hz9 (hg40.1.1.1.2.1.symm.trans g))) ⟨rfl, rfl⟩ ⟨Nat.le_of_ble_eq_true rfl, Nat.le_of_ble_eq_true rfl⟩ bl_w (rc_w hK hP 0 (by decide) rfl rfl) (bw_U hE hK hC hP hS) rfl hl.1 (Nat.le_of_ble_eq_true rfl) ⟨Nat.le_refl _, Nat.le_refl _⟩ dX7_sum_68 rfl) hS (fun u45 H locs g46 hP hS => ?_)
              obtain rfl : u45 = (J40, B40, K) := g46
              have hP : Wp mN E mK (J40, B40, K) H := hP
              refine lv_goto (tgt := 4) hx hb dX7_sum_71 (by decide) ?_
              exact ih _ (fun am sc => pLim (f am sc - (zTd T n am sc 4 (zA T n za)).1) (-1000000) 1000000) _ _ (by have h9 := hsg.2.1; have h8 := zGe_Td (T := T) (n := n) (sz := 0) (sc := 0) 4 (zA T n za); omega) (gP_bad hz9 (gB_tr hg.1 (rP_u rP_rf (Or.inl rfl)) hg40.1)) (fun am sc h1 h2 => vR_lim) (fun am sc => (show zSl T n (zTd T n am sc 4) cnt (pLim (f am sc - (zTd T n am sc 4 (zA T n za)).1) (-1000000) 1000000, (zTd T n 0 0 4 (zA T n za)).2) = _ from (by rw [zTd_i (a := 0) (b := 0) am sc 4 (zA T n za)]; exact (zSl_d q1 q2).symm.trans (hv am sc)))) _ _ hP hS ls (lv_sub hl [1] rfl)
  exact HL 700 _ (fun am sc => (zTd T n am sc 4 z).1) _ _ (by omega) hg4 (fun am sc h1 h2 => vR_Td h1 h2 4 z) (fun am sc => (congrArg (zSl T n (zTd T n am sc 4) 700) (show ((zTd T n am sc 4 z).1, (zTd T n 0 0 4 z).2) = zTd T n am sc 4 z from by rw [zTd_i am sc 4 z])).trans zSu_e.symm) _ _ hP hS ls (lv_sub hl [0] rfl)

