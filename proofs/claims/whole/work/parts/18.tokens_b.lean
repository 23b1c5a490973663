set_option maxHeartbeats 1000000 in
set_option maxRecDepth 100000 in
theorem c_X5_isDigit (l : Launch) (x : Int32)  : Met l yX5_isDigit (wz yX5_isDigit cX5_isDigit 1 (some .boolean)) (rmk 0 0 0 0) (va_Pc [.int x] (fun _ => True)) (qSi (fun zz => zz = rIn x 48 57)) 0 0 fr0 := by
  refine en_ofW RX5 rfl (by decide +kernel) (Nat.le_of_ble_eq_true rfl) ?_
  intro p e s m below meth c ls S hr hlk hnm hl hB
  have hx := S.1
  have hb := S.2.1
  have hl : lv_has ls 1 [(0, .int x)] := hl
  refine lv_iload_n hx hb dX5_isDigit_0 rfl (lv_at hl 0 rfl) ?_
  refine lv_bipush (v := 48) hx hb dX5_isDigit_1 (by decide) ?_
  refine lv_icmp_lt (tgt := 16) hx hb dX5_isDigit_3 (by decide) (fun h3 => ?_) (fun h3 => ?_)
  · refine lv_iconst (v := 0) hx hb dX5_isDigit_16 (by decide) ?_
    exact re_sz (v := 0) hx hb hr hlk rfl (by simp [rIn, h3, (n_le h3)]) dX5_isDigit_17
  · refine lv_iload_n hx hb dX5_isDigit_6 rfl (lv_at hl 0 rfl) ?_
    refine lv_bipush (v := 57) hx hb dX5_isDigit_7 (by decide) ?_
    refine lv_icmp_gt (tgt := 16) hx hb dX5_isDigit_9 (by decide) (fun h9 => ?_) (fun h9 => ?_)
    · refine lv_iconst (v := 0) hx hb dX5_isDigit_16 (by decide) ?_
      exact re_sz (v := 0) hx hb hr hlk rfl (by simp [rIn, h3, (l_le h3), h9, (n_le h9)]) dX5_isDigit_17
    · refine lv_iconst (v := 1) hx hb dX5_isDigit_12 (by decide) ?_
      refine lv_goto (tgt := 17) hx hb dX5_isDigit_13 (by decide) ?_
      exact re_sz (v := 1) hx hb hr hlk rfl (by simp [rIn, h3, (l_le h3), h9, (l_le h9)]) dX5_isDigit_17

set_option maxHeartbeats 1000000 in
set_option maxRecDepth 100000 in
theorem c_X5_isLetter (l : Launch) (x : Int32)  : Met l yX5_isLetter (wz yX5_isLetter cX5_isLetter 1 (some .boolean)) (rmk 0 0 0 0) (va_Pc [.int x] (fun _ => True)) (qSi (fun zz => zz = rIn x 97 122)) 0 0 fr0 := by
  refine en_ofW RX5 rfl (by decide +kernel) (Nat.le_of_ble_eq_true rfl) ?_
  intro p e s m below meth c ls S hr hlk hnm hl hB
  have hx := S.1
  have hb := S.2.1
  have hl : lv_has ls 1 [(0, .int x)] := hl
  refine lv_iload_n hx hb dX5_isLetter_0 rfl (lv_at hl 0 rfl) ?_
  refine lv_bipush (v := 97) hx hb dX5_isLetter_1 (by decide) ?_
  refine lv_icmp_lt (tgt := 16) hx hb dX5_isLetter_3 (by decide) (fun h3 => ?_) (fun h3 => ?_)
  · refine lv_iconst (v := 0) hx hb dX5_isLetter_16 (by decide) ?_
    exact re_sz (v := 0) hx hb hr hlk rfl (by simp [rIn, h3, (n_le h3)]) dX5_isLetter_17
  · refine lv_iload_n hx hb dX5_isLetter_6 rfl (lv_at hl 0 rfl) ?_
    refine lv_bipush (v := 122) hx hb dX5_isLetter_7 (by decide) ?_
    refine lv_icmp_gt (tgt := 16) hx hb dX5_isLetter_9 (by decide) (fun h9 => ?_) (fun h9 => ?_)
    · refine lv_iconst (v := 0) hx hb dX5_isLetter_16 (by decide) ?_
      exact re_sz (v := 0) hx hb hr hlk rfl (by simp [rIn, h3, (l_le h3), h9, (n_le h9)]) dX5_isLetter_17
    · refine lv_iconst (v := 1) hx hb dX5_isLetter_12 (by decide) ?_
      refine lv_goto (tgt := 17) hx hb dX5_isLetter_13 (by decide) ?_
      exact re_sz (v := 1) hx hb hr hlk rfl (by simp [rIn, h3, (l_le h3), h9, (l_le h9)]) dX5_isLetter_17

set_option maxHeartbeats 1000000 in
set_option maxRecDepth 100000 in
theorem c_X5_advance (l : Launch) (E : En) (I A : Nat → Nat → Int32) (K : Nat → Nat → Int64) (T : Nat → Int32) (n q : Nat) (hE : Ev cN E) (hT : A 1 = T) (hq : q ≤ n ∧ n ≤ 700) (h1 : I 3 1 = nI n) (h40 : I 3 6 = 0 → I 3 4 = nI q) : Met l yX5_advance (wz yX5_advance cX5_advance 1 none) (rmk 1 0 0 30) (va_Pc [.ref (eP E 3)] (Bw cN E cK (I, A, K))) (qWv cN E cK (fun uu => uu = (if I 3 6 = 0 then tkW I T n (0, q) else I, A, K))) 0 0 (cA cN E) := by
  refine en_ofW RX5 rfl (by decide +kernel) (Nat.le_of_ble_eq_true rfl) ?_
  intro p e s m below meth c ls S hr hlk hnm hl hB
  have hx := S.1
  have hb := S.2.1
  obtain ⟨hK, hC, hP⟩ := hB
  have hS : va_S (cA cN E) s.heap s.heap [] := va_S.rf
  have hl : lv_has ls 1 [(0, .ref (eP E 3))] := hl
  have hq1 := tkB_le (T := T) hq.1
  have hqB := tkB_ge (T := T) (n := n) (p := q)
  refine lv_aload_n hx hb dX5_advance_0 rfl (lv_at hl 0 rfl) ?_
  refine rw_geti (x := (I, A, K)) (v := I 3 6) S hK hP 3 (by decide) (cK_lo (by decide)) fk_X5_27 rfl rfl dX5_advance_1 ?_
  refine lv_if_eq (tgt := 8) hx hb dX5_advance_4 (by decide) (fun h4 => ?_) (fun h4 => ?_)
  · have h40 := h40 h4
    have h6 : I 3 6 = 0 := h4
    rw [← tkS_self (I := I)] at hP
    rw [h40] at hP
    have hP : Wp cN E cK ((tkS I (I 3 2) (I 3 3) (nI q) (I 3 5)), A, K) s.heap := hP
    refine lv_aload_n hx hb dX5_advance_8 rfl (lv_at hl 0 rfl) ?_
    refine lv_aload_n hx hb dX5_advance_9 rfl (lv_at hl 0 rfl) ?_
    refine rw_geti (x := ((tkS I (I 3 2) (I 3 3) (nI q) (I 3 5)), A, K)) (v := (nI q)) S hK hP 3 (by decide) (cK_lo (by decide)) fk_X5_21 rfl rfl dX5_advance_10 ?_
    refine rw_puti (x := ((tkS I (I 3 2) (I 3 3) (nI q) (I 3 5)), A, K)) (v := (nI q)) S hE hK hP hS 3 (by decide) (cK_lo (by decide)) fk_X5_18 rfl tyX5_ok nmX5 ⟨rfl, by decide +kernel⟩ dX5_advance_13 (fun H locs hP hS => ?_)
    have hP : Wp cN E cK (up2 (tkS I (I 3 2) (I 3 3) (nI q) (I 3 5)) 3 3 (nI q), A, K) H := hP
    rw [tkS_3] at hP
    have hP : Wp cN E cK ((tkS I (I 3 2) (nI q) (nI q) (I 3 5)), A, K) H := hP
    have R54 : ∀ (H : Heap) (locs : List Loc), Wp cN E cK ((tkS I (I 3 2) (nI (tkB T n q)) (nI q) (I 3 5)), A, K) H → va_S (cA cN E) s.heap H locs → ∀ ls : Array Slot, lv_has ls 1 [(0, .ref (eP E 3))] → W p l e (rmk 1 0 0 30) s m ([.ref (eP E 3)] : List Value).toArray below meth c H locs 0 0 (MQ below (qWv cN E cK (fun uu => uu = (if I 3 6 = 0 then tkW I T n (0, q) else I, A, K))) ([.ref (eP E 3)] : List Value).toArray s 0 0 (cA cN E)) (F0 m 54 ls []) := by
      intro H locs hP hS ls hl
      refine lv_aload_n hx hb dX5_advance_54 rfl (lv_at hl 0 rfl) ?_
      refine lv_aload_n hx hb dX5_advance_55 rfl (lv_at hl 0 rfl) ?_
      refine rw_geti (x := ((tkS I (I 3 2) (nI (tkB T n q)) (nI q) (I 3 5)), A, K)) (v := (nI (tkB T n q))) S hK hP 3 (by decide) (cK_lo (by decide)) fk_X5_18 rfl rfl dX5_advance_56 ?_
      refine rw_puti (x := ((tkS I (I 3 2) (nI (tkB T n q)) (nI q) (I 3 5)), A, K)) (v := (nI (tkB T n q))) S hE hK hP hS 3 (by decide) (cK_lo (by decide)) fk_X5_21 rfl tyX5_ok nmX5 ⟨rfl, by decide +kernel⟩ dX5_advance_59 (fun H locs hP hS => ?_)
      have hP : Wp cN E cK (up2 (tkS I (I 3 2) (nI (tkB T n q)) (nI q) (I 3 5)) 3 4 (nI (tkB T n q)), A, K) H := hP
      rw [tkS_4] at hP
      have hP : Wp cN E cK ((tkS I (I 3 2) (nI (tkB T n q)) (nI (tkB T n q)) (I 3 5)), A, K) H := hP
      refine lv_aload_n hx hb dX5_advance_62 rfl (lv_at hl 0 rfl) ?_
      refine lv_iconst (v := 0) hx hb dX5_advance_63 (by decide) ?_
      refine rw_puti (x := ((tkS I (I 3 2) (nI (tkB T n q)) (nI (tkB T n q)) (I 3 5)), A, K)) (v := 0) S hE hK hP hS 3 (by decide) (cK_lo (by decide)) fk_X5_24 rfl tyX5_ok nmX5 ⟨rfl, by decide +kernel⟩ dX5_advance_64 (fun H locs hP hS => ?_)
      have hP : Wp cN E cK (up2 (tkS I (I 3 2) (nI (tkB T n q)) (nI (tkB T n q)) (I 3 5)) 3 5 0, A, K) H := hP
      rw [tkS_5] at hP
      have hP : Wp cN E cK ((tkS I (I 3 2) (nI (tkB T n q)) (nI (tkB T n q)) 0), A, K) H := hP
      refine lv_aload_n hx hb dX5_advance_67 rfl (lv_at hl 0 rfl) ?_
      refine rw_geti (x := ((tkS I (I 3 2) (nI (tkB T n q)) (nI (tkB T n q)) 0), A, K)) (v := (nI (tkB T n q))) S hK hP 3 (by decide) (cK_lo (by decide)) fk_X5_18 rfl rfl dX5_advance_68 ?_
      refine lv_aload_n hx hb dX5_advance_71 rfl (lv_at hl 0 rfl) ?_
      refine rw_geti (x := ((tkS I (I 3 2) (nI (tkB T n q)) (nI (tkB T n q)) 0), A, K)) (v := I 3 1) S hK hP 3 (by decide) (cK_lo (by decide)) fk_X5_9 rfl rfl dX5_advance_72 ?_
      refine lv_icmp_lt (tgt := 86) hx hb dX5_advance_75 (by decide) (fun h75 => ?_) (fun h75 => ?_)
      · have hlt : tkB T n q < n := (nI_ltI (by omega) (by omega)).mp (by rw [← h1]; exact h75)
        refine lv_aload_n hx hb dX5_advance_86 rfl (lv_at hl 0 rfl) ?_
        refine rw_getr (x := ((tkS I (I 3 2) (nI (tkB T n q)) (nI (tkB T n q)) 0), A, K)) S hK hP 3 (by decide) (cK_lo (by decide)) fk_X5_30 rfl dX5_advance_87 ?_
        refine lv_aload_n hx hb dX5_advance_90 rfl (lv_at hl 0 rfl) ?_
        refine rw_geti (x := ((tkS I (I 3 2) (nI (tkB T n q)) (nI (tkB T n q)) 0), A, K)) (v := (nI (tkB T n q))) S hK hP 3 (by decide) (cK_lo (by decide)) fk_X5_18 rfl rfl dX5_advance_91 ?_
        refine rw_bald (x := ((tkS I (I 3 2) (nI (tkB T n q)) (nI (tkB T n q)) 0), A, K)) (v := T (tkB T n q)) S hK hP 1 (by decide) (cK_lo (by decide)) (tkB T n q) rfl (by omega) (by decide) (congrFun hT _) dX5_advance_94 ?_
        refine cn_si (ck_S S lk_X5_46 (c_X5_isDigit l (T (tkB T n q))) ⟨rfl, rfl⟩ ⟨Nat.le_of_ble_eq_true rfl, Nat.le_of_ble_eq_true rfl⟩ bl_T t_U rfl hl.1 (Nat.le_of_ble_eq_true rfl) ⟨Nat.le_refl _, Nat.le_refl _⟩ dX5_advance_95 rfl) (fun r1 g2 => ?_)
        obtain rfl : r1 = rIn (T (tkB T n q)) 48 57 := g2
        refine lv_if_eq (tgt := 174) hx hb dX5_advance_98 (by decide) (fun h98 => ?_) (fun h98 => ?_)
        · have hdg : ¬ isDg (T (tkB T n q)) = true := by simp [isDg, h98]
          refine lv_aload_n hx hb dX5_advance_174 rfl (lv_at hl 0 rfl) ?_
          refine rw_getr (x := ((tkS I (I 3 2) (nI (tkB T n q)) (nI (tkB T n q)) 0), A, K)) S hK hP 3 (by decide) (cK_lo (by decide)) fk_X5_30 rfl dX5_advance_175 ?_
          refine lv_aload_n hx hb dX5_advance_178 rfl (lv_at hl 0 rfl) ?_
          refine rw_geti (x := ((tkS I (I 3 2) (nI (tkB T n q)) (nI (tkB T n q)) 0), A, K)) (v := (nI (tkB T n q))) S hK hP 3 (by decide) (cK_lo (by decide)) fk_X5_18 rfl rfl dX5_advance_179 ?_
          refine rw_bald (x := ((tkS I (I 3 2) (nI (tkB T n q)) (nI (tkB T n q)) 0), A, K)) (v := T (tkB T n q)) S hK hP 1 (by decide) (cK_lo (by decide)) (tkB T n q) rfl (by omega) (by decide) (congrFun hT _) dX5_advance_182 ?_
          refine cn_si (ck_S S lk_X5_51 (c_X5_isLetter l (T (tkB T n q))) ⟨rfl, rfl⟩ ⟨Nat.le_of_ble_eq_true rfl, Nat.le_of_ble_eq_true rfl⟩ bl_T t_U rfl hl.1 (Nat.le_of_ble_eq_true rfl) ⟨Nat.le_refl _, Nat.le_refl _⟩ dX5_advance_183 rfl) (fun r3 g4 => ?_)
          obtain rfl : r3 = rIn (T (tkB T n q)) 97 122 := g4
          refine lv_if_eq (tgt := 233) hx hb dX5_advance_186 (by decide) (fun h186 => ?_) (fun h186 => ?_)
          · have hlt2 : ¬ isLt (T (tkB T n q)) = true := by simp [isLt, h186]
            refine lv_aload_n hx hb dX5_advance_233 rfl (lv_at hl 0 rfl) ?_
            refine lv_iconst (v := 3) hx hb dX5_advance_234 (by decide) ?_
            refine rw_puti (x := ((tkS I (I 3 2) (nI (tkB T n q)) (nI (tkB T n q)) 0), A, K)) (v := 3) S hE hK hP hS 3 (by decide) (cK_lo (by decide)) fk_X5_15 rfl tyX5_ok nmX5 ⟨rfl, by decide +kernel⟩ dX5_advance_235 (fun H locs hP hS => ?_)
            have hP : Wp cN E cK (up2 (tkS I (I 3 2) (nI (tkB T n q)) (nI (tkB T n q)) 0) 3 2 3, A, K) H := hP
            rw [tkS_2] at hP
            have hP : Wp cN E cK ((tkS I 3 (nI (tkB T n q)) (nI (tkB T n q)) 0), A, K) H := hP
            refine lv_aload_n hx hb dX5_advance_238 rfl (lv_at hl 0 rfl) ?_
            refine lv_aload_n hx hb dX5_advance_239 rfl (lv_at hl 0 rfl) ?_
            refine rw_geti (x := ((tkS I 3 (nI (tkB T n q)) (nI (tkB T n q)) 0), A, K)) (v := (nI (tkB T n q))) S hK hP 3 (by decide) (cK_lo (by decide)) fk_X5_18 rfl rfl dX5_advance_240 ?_
            refine lv_iconst (v := 1) hx hb dX5_advance_243 (by decide) ?_
            refine lv_iadd hx hb dX5_advance_244 ?_
            refine tp_i (y := nI (tkB T n q + 1)) (nI_1 _) ?_
            refine rw_puti (x := ((tkS I 3 (nI (tkB T n q)) (nI (tkB T n q)) 0), A, K)) (v := (nI (tkB T n q + 1))) S hE hK hP hS 3 (by decide) (cK_lo (by decide)) fk_X5_21 rfl tyX5_ok nmX5 ⟨rfl, by decide +kernel⟩ dX5_advance_245 (fun H locs hP hS => ?_)
            have hP : Wp cN E cK (up2 (tkS I 3 (nI (tkB T n q)) (nI (tkB T n q)) 0) 3 4 (nI (tkB T n q + 1)), A, K) H := hP
            rw [tkS_4] at hP
            have hP : Wp cN E cK ((tkS I 3 (nI (tkB T n q)) (nI (tkB T n q + 1)) 0), A, K) H := hP
            obtain ⟨k1, k2, k3⟩ := tk_3 hlt hdg hlt2
            have hfin := tkW_of (q := q) h1 h6 (rfl : nI (tkB T n q) = nI (tkB T n q)) (k := 3) (e := (nI (tkB T n q + 1))) (v := 0) ⟨k1.symm, by rw [k2], k3.symm⟩
            rw [hfin] at hP
            exact re_wv (x := ((tkW I T n (0, q)), A, K)) hx hb hr hlk hP hS (by rw [if_pos h6]) dX5_advance_248
          · have hlt2 : isLt (T (tkB T n q)) = true := by simp [isLt, h186]
            refine lv_aload_n hx hb dX5_advance_189 rfl (lv_at hl 0 rfl) ?_
            refine lv_iconst (v := 2) hx hb dX5_advance_190 (by decide) ?_
            refine rw_puti (x := ((tkS I (I 3 2) (nI (tkB T n q)) (nI (tkB T n q)) 0), A, K)) (v := 2) S hE hK hP hS 3 (by decide) (cK_lo (by decide)) fk_X5_15 rfl tyX5_ok nmX5 ⟨rfl, by decide +kernel⟩ dX5_advance_191 (fun H locs hP hS => ?_)
            have hP : Wp cN E cK (up2 (tkS I (I 3 2) (nI (tkB T n q)) (nI (tkB T n q)) 0) 3 2 2, A, K) H := hP
            rw [tkS_2] at hP
            have hP : Wp cN E cK ((tkS I 2 (nI (tkB T n q)) (nI (tkB T n q)) 0), A, K) H := hP
            have HD : ∀ (k e1 : Nat), e1 + k = n → run isLt T n e1 = run isLt T n (tkB T n q) → ∀ (H : Heap) (locs : List Loc), Wp cN E cK ((tkS I 2 (nI (tkB T n q)) (nI e1) 0), A, K) H → va_S (cA cN E) s.heap H locs → ∀ ls : Array Slot, lv_has ls 1 [(0, .ref (eP E 3))] → W p l e (rmk 1 0 0 30) s m ([.ref (eP E 3)] : List Value).toArray below meth c H locs 0 0 (MQ below (qWv cN E cK (fun uu => uu = (if I 3 6 = 0 then tkW I T n (0, q) else I, A, K))) ([.ref (eP E 3)] : List Value).toArray s 0 0 (cA cN E)) (F0 m 194 ls []) := by
              intro k
              induction k with
              | zero =>
                intro e1 hs hv H locs hP hS ls hl
                have hs1 : e1 = n := by omega
                have hre : run isLt T n e1 = e1 := run_end (by omega)
                refine lv_aload_n hx hb dX5_advance_194 rfl (lv_at hl 0 rfl) ?_
                refine rw_geti (x := ((tkS I 2 (nI (tkB T n q)) (nI e1) 0), A, K)) (v := (nI e1)) S hK hP 3 (by decide) (cK_lo (by decide)) fk_X5_21 rfl rfl dX5_advance_195 ?_
                refine lv_aload_n hx hb dX5_advance_198 rfl (lv_at hl 0 rfl) ?_
                refine rw_geti (x := ((tkS I 2 (nI (tkB T n q)) (nI e1) 0), A, K)) (v := I 3 1) S hK hP 3 (by decide) (cK_lo (by decide)) fk_X5_9 rfl rfl dX5_advance_199 ?_
                refine lv_icmp_ge (tgt := 248) hx hb dX5_advance_202 (by decide) (fun h202 => ?_) (fun h202 => absurd (by rw [h1, hs1]; exact Int32.le_refl _) h202)
                rw [hre] at hv
                obtain ⟨k1, k2, k3⟩ := tk_2 hlt hdg hlt2
                have hfin := tkW_of (q := q) h1 h6 (rfl : nI (tkB T n q) = nI (tkB T n q)) (k := 2) (e := nI e1) (v := 0) ⟨k1.symm, by rw [k2, hv], k3.symm⟩
                rw [hfin] at hP
                exact re_wv (x := ((tkW I T n (0, q)), A, K)) hx hb hr hlk hP hS (by rw [if_pos h6]) dX5_advance_248
              | succ k ih =>
                intro e1 hs hv H locs hP hS ls hl
                have hs1 : e1 < n := by omega
                refine lv_aload_n hx hb dX5_advance_194 rfl (lv_at hl 0 rfl) ?_
                refine rw_geti (x := ((tkS I 2 (nI (tkB T n q)) (nI e1) 0), A, K)) (v := (nI e1)) S hK hP 3 (by decide) (cK_lo (by decide)) fk_X5_21 rfl rfl dX5_advance_195 ?_
                refine lv_aload_n hx hb dX5_advance_198 rfl (lv_at hl 0 rfl) ?_
                refine rw_geti (x := ((tkS I 2 (nI (tkB T n q)) (nI e1) 0), A, K)) (v := I 3 1) S hK hP 3 (by decide) (cK_lo (by decide)) fk_X5_9 rfl rfl dX5_advance_199 ?_
                refine lv_icmp_ge (tgt := 248) hx hb dX5_advance_202 (by decide) (fun h202 => absurd h202 (by rw [h1]; exact nI_ge hs1 (by omega))) (fun h202 => ?_)
                refine lv_aload_n hx hb dX5_advance_205 rfl (lv_at hl 0 rfl) ?_
                refine rw_getr (x := ((tkS I 2 (nI (tkB T n q)) (nI e1) 0), A, K)) S hK hP 3 (by decide) (cK_lo (by decide)) fk_X5_30 rfl dX5_advance_206 ?_
                refine lv_aload_n hx hb dX5_advance_209 rfl (lv_at hl 0 rfl) ?_
                refine rw_geti (x := ((tkS I 2 (nI (tkB T n q)) (nI e1) 0), A, K)) (v := (nI e1)) S hK hP 3 (by decide) (cK_lo (by decide)) fk_X5_21 rfl rfl dX5_advance_210 ?_
                refine rw_bald (x := ((tkS I 2 (nI (tkB T n q)) (nI e1) 0), A, K)) (v := T (e1)) S hK hP 1 (by decide) (cK_lo (by decide)) e1 rfl (by omega) (by decide) (congrFun hT _) dX5_advance_213 ?_
                refine cn_si (ck_S S lk_X5_51 (c_X5_isLetter l (T (e1))) ⟨rfl, rfl⟩ ⟨Nat.le_of_ble_eq_true rfl, Nat.le_of_ble_eq_true rfl⟩ bl_T t_U rfl hl.1 (Nat.le_of_ble_eq_true rfl) ⟨Nat.le_refl _, Nat.le_refl _⟩ dX5_advance_214 rfl) (fun r5 g6 => ?_)
                obtain rfl : r5 = rIn (T (e1)) 97 122 := g6
                refine lv_if_eq (tgt := 248) hx hb dX5_advance_217 (by decide) (fun h217 => ?_) (fun h217 => ?_)
                · have hre : run isLt T n e1 = e1 := run_no (by simp [isLt, h217])
                  rw [hre] at hv
                  obtain ⟨k1, k2, k3⟩ := tk_2 hlt hdg hlt2
                  have hfin := tkW_of (q := q) h1 h6 (rfl : nI (tkB T n q) = nI (tkB T n q)) (k := 2) (e := nI e1) (v := 0) ⟨k1.symm, by rw [k2, hv], k3.symm⟩
                  rw [hfin] at hP
                  exact re_wv (x := ((tkW I T n (0, q)), A, K)) hx hb hr hlk hP hS (by rw [if_pos h6]) dX5_advance_248
                · have hy : isLt (T e1) = true := by simp [isLt, h217]
                  have hre := run_y hs1 hy
                  refine lv_aload_n hx hb dX5_advance_220 rfl (lv_at hl 0 rfl) ?_
                  refine lv_dup hx hb dX5_advance_221 rfl ?_
                  refine rw_geti (x := ((tkS I 2 (nI (tkB T n q)) (nI e1) 0), A, K)) (v := (nI e1)) S hK hP 3 (by decide) (cK_lo (by decide)) fk_X5_21 rfl rfl dX5_advance_222 ?_
                  refine lv_iconst (v := 1) hx hb dX5_advance_225 (by decide) ?_
                  refine lv_iadd hx hb dX5_advance_226 ?_
                  refine tp_i (y := nI (e1 + 1)) (nI_1 e1) ?_
                  refine rw_puti (x := ((tkS I 2 (nI (tkB T n q)) (nI e1) 0), A, K)) (v := (nI (e1 + 1))) S hE hK hP hS 3 (by decide) (cK_lo (by decide)) fk_X5_21 rfl tyX5_ok nmX5 ⟨rfl, by decide +kernel⟩ dX5_advance_227 (fun H locs hP hS => ?_)
                  have hP : Wp cN E cK (up2 (tkS I 2 (nI (tkB T n q)) (nI e1) 0) 3 4 (nI (e1 + 1)), A, K) H := hP
                  rw [tkS_4] at hP
                  have hP : Wp cN E cK ((tkS I 2 (nI (tkB T n q)) (nI (e1 + 1)) 0), A, K) H := hP
                  refine lv_goto (tgt := 194) hx hb dX5_advance_230 (by decide) ?_
                  exact ih (e1 + 1) (by omega) (by rw [← hre]; exact hv) _ _ hP hS ls (lv_sub hl [0] rfl)
            exact HD (n - tkB T n q) (tkB T n q) (by omega) rfl _ _ hP hS ls (lv_sub hl [0] rfl)
        · have hdg : isDg (T (tkB T n q)) = true := by simp [isDg, h98]
          refine lv_aload_n hx hb dX5_advance_101 rfl (lv_at hl 0 rfl) ?_
          refine lv_iconst (v := 1) hx hb dX5_advance_102 (by decide) ?_
          refine rw_puti (x := ((tkS I (I 3 2) (nI (tkB T n q)) (nI (tkB T n q)) 0), A, K)) (v := 1) S hE hK hP hS 3 (by decide) (cK_lo (by decide)) fk_X5_15 rfl tyX5_ok nmX5 ⟨rfl, by decide +kernel⟩ dX5_advance_103 (fun H locs hP hS => ?_)
          have hP : Wp cN E cK (up2 (tkS I (I 3 2) (nI (tkB T n q)) (nI (tkB T n q)) 0) 3 2 1, A, K) H := hP
          rw [tkS_2] at hP
          have hP : Wp cN E cK ((tkS I 1 (nI (tkB T n q)) (nI (tkB T n q)) 0), A, K) H := hP
          have HD : ∀ (k e1 : Nat) (v1 : Int32), e1 + k = n → run isDg T n e1 = run isDg T n (tkB T n q) → nvf T (run isDg T n e1 - e1) e1 v1 = nvf T (run isDg T n (tkB T n q) - tkB T n q) (tkB T n q) 0 → ∀ (H : Heap) (locs : List Loc), Wp cN E cK ((tkS I 1 (nI (tkB T n q)) (nI e1) v1), A, K) H → va_S (cA cN E) s.heap H locs → ∀ ls : Array Slot, lv_has ls 1 [(0, .ref (eP E 3))] → W p l e (rmk 1 0 0 30) s m ([.ref (eP E 3)] : List Value).toArray below meth c H locs 0 0 (MQ below (qWv cN E cK (fun uu => uu = (if I 3 6 = 0 then tkW I T n (0, q) else I, A, K))) ([.ref (eP E 3)] : List Value).toArray s 0 0 (cA cN E)) (F0 m 106 ls []) := by
            intro k
            induction k with
            | zero =>
              intro e1 v1 hs hv hw H locs hP hS ls hl
              have hs1 : e1 = n := by omega
              have hre : run isDg T n e1 = e1 := run_end (by omega)
              refine lv_aload_n hx hb dX5_advance_106 rfl (lv_at hl 0 rfl) ?_
              refine rw_geti (x := ((tkS I 1 (nI (tkB T n q)) (nI e1) v1), A, K)) (v := (nI e1)) S hK hP 3 (by decide) (cK_lo (by decide)) fk_X5_21 rfl rfl dX5_advance_107 ?_
              refine lv_aload_n hx hb dX5_advance_110 rfl (lv_at hl 0 rfl) ?_
              refine rw_geti (x := ((tkS I 1 (nI (tkB T n q)) (nI e1) v1), A, K)) (v := I 3 1) S hK hP 3 (by decide) (cK_lo (by decide)) fk_X5_9 rfl rfl dX5_advance_111 ?_
              refine lv_icmp_ge (tgt := 248) hx hb dX5_advance_114 (by decide) (fun h114 => ?_) (fun h114 => absurd (by rw [h1, hs1]; exact Int32.le_refl _) h114)
              rw [hre] at hv hw
              rw [Nat.sub_self] at hw
              obtain ⟨k1, k2, k3⟩ := tk_1 hlt hdg
              have hfin := tkW_of (q := q) h1 h6 (rfl : nI (tkB T n q) = nI (tkB T n q)) (k := 1) (e := nI e1) (v := v1) ⟨k1.symm, by rw [k2, hv], by rw [k3, ← hw]; rfl⟩
              rw [hfin] at hP
              exact re_wv (x := ((tkW I T n (0, q)), A, K)) hx hb hr hlk hP hS (by rw [if_pos h6]) dX5_advance_248
            | succ k ih =>
              intro e1 v1 hs hv hw H locs hP hS ls hl
              have hs1 : e1 < n := by omega
              refine lv_aload_n hx hb dX5_advance_106 rfl (lv_at hl 0 rfl) ?_
              refine rw_geti (x := ((tkS I 1 (nI (tkB T n q)) (nI e1) v1), A, K)) (v := (nI e1)) S hK hP 3 (by decide) (cK_lo (by decide)) fk_X5_21 rfl rfl dX5_advance_107 ?_
              refine lv_aload_n hx hb dX5_advance_110 rfl (lv_at hl 0 rfl) ?_
              refine rw_geti (x := ((tkS I 1 (nI (tkB T n q)) (nI e1) v1), A, K)) (v := I 3 1) S hK hP 3 (by decide) (cK_lo (by decide)) fk_X5_9 rfl rfl dX5_advance_111 ?_
              refine lv_icmp_ge (tgt := 248) hx hb dX5_advance_114 (by decide) (fun h114 => absurd h114 (by rw [h1]; exact nI_ge hs1 (by omega))) (fun h114 => ?_)
              refine lv_aload_n hx hb dX5_advance_117 rfl (lv_at hl 0 rfl) ?_
              refine rw_getr (x := ((tkS I 1 (nI (tkB T n q)) (nI e1) v1), A, K)) S hK hP 3 (by decide) (cK_lo (by decide)) fk_X5_30 rfl dX5_advance_118 ?_
              refine lv_aload_n hx hb dX5_advance_121 rfl (lv_at hl 0 rfl) ?_
              refine rw_geti (x := ((tkS I 1 (nI (tkB T n q)) (nI e1) v1), A, K)) (v := (nI e1)) S hK hP 3 (by decide) (cK_lo (by decide)) fk_X5_21 rfl rfl dX5_advance_122 ?_
              refine rw_bald (x := ((tkS I 1 (nI (tkB T n q)) (nI e1) v1), A, K)) (v := T (e1)) S hK hP 1 (by decide) (cK_lo (by decide)) e1 rfl (by omega) (by decide) (congrFun hT _) dX5_advance_125 ?_
              refine cn_si (ck_S S lk_X5_46 (c_X5_isDigit l (T (e1))) ⟨rfl, rfl⟩ ⟨Nat.le_of_ble_eq_true rfl, Nat.le_of_ble_eq_true rfl⟩ bl_T t_U rfl hl.1 (Nat.le_of_ble_eq_true rfl) ⟨Nat.le_refl _, Nat.le_refl _⟩ dX5_advance_126 rfl) (fun r7 g8 => ?_)
              obtain rfl : r7 = rIn (T (e1)) 48 57 := g8
              refine lv_if_eq (tgt := 248) hx hb dX5_advance_129 (by decide) (fun h129 => ?_) (fun h129 => ?_)
              · have hre : run isDg T n e1 = e1 := run_no (by simp [isDg, h129])
                rw [hre] at hv hw
                rw [Nat.sub_self] at hw
                obtain ⟨k1, k2, k3⟩ := tk_1 hlt hdg
                have hfin := tkW_of (q := q) h1 h6 (rfl : nI (tkB T n q) = nI (tkB T n q)) (k := 1) (e := nI e1) (v := v1) ⟨k1.symm, by rw [k2, hv], by rw [k3, ← hw]; rfl⟩
                rw [hfin] at hP
                exact re_wv (x := ((tkW I T n (0, q)), A, K)) hx hb hr hlk hP hS (by rw [if_pos h6]) dX5_advance_248
              · have hy : isDg (T e1) = true := by simp [isDg, h129]
                have hre := run_y hs1 hy
                have hge := run_ge (f := isDg) (T := T) (n := n) (p := e1 + 1)
                refine lv_aload_n hx hb dX5_advance_132 rfl (lv_at hl 0 rfl) ?_
                refine lv_bipush (v := 10) hx hb dX5_advance_133 (by decide) ?_
                refine lv_aload_n hx hb dX5_advance_135 rfl (lv_at hl 0 rfl) ?_
                refine rw_geti (x := ((tkS I 1 (nI (tkB T n q)) (nI e1) v1), A, K)) (v := v1) S hK hP 3 (by decide) (cK_lo (by decide)) fk_X5_24 rfl rfl dX5_advance_136 ?_
                refine lv_imul hx hb dX5_advance_139 ?_
                refine lv_aload_n hx hb dX5_advance_140 rfl (lv_at hl 0 rfl) ?_
                refine rw_getr (x := ((tkS I 1 (nI (tkB T n q)) (nI e1) v1), A, K)) S hK hP 3 (by decide) (cK_lo (by decide)) fk_X5_30 rfl dX5_advance_141 ?_
                refine lv_aload_n hx hb dX5_advance_144 rfl (lv_at hl 0 rfl) ?_
                refine rw_geti (x := ((tkS I 1 (nI (tkB T n q)) (nI e1) v1), A, K)) (v := (nI e1)) S hK hP 3 (by decide) (cK_lo (by decide)) fk_X5_21 rfl rfl dX5_advance_145 ?_
                refine rw_bald (x := ((tkS I 1 (nI (tkB T n q)) (nI e1) v1), A, K)) (v := T (e1)) S hK hP 1 (by decide) (cK_lo (by decide)) e1 rfl (by omega) (by decide) (congrFun hT _) dX5_advance_148 ?_
                refine lv_iadd hx hb dX5_advance_149 ?_
                refine lv_bipush (v := 48) hx hb dX5_advance_150 (by decide) ?_
                refine lv_isub hx hb dX5_advance_152 ?_
                refine lv_ldc (v := 1000000) hx hb S.2.2.2.1 (S.2.2.2.2 _ kc_X5_50) dX5_advance_153 ?_
                refine va_mmin hx hb (S.2.2.1.trans hl.1.symm) S.2.2.2.1 (S.2.2.2.2 _ km_X5_34) (S.2.2.2.2 _ ms_min) (S.2.2.2.2 _ mi_Math) (S.2.2.2.2 _ mc_min) (Nat.le_of_ble_eq_true rfl) (Nat.le_of_ble_eq_true rfl) (Nat.zero_le _) (Nat.zero_le _) dX5_advance_155 ?_
                refine W.eq (g2 := F0 m 158 ls [.int (iMin (((10 * v1) + (T (e1))) - 48) 1000000), .ref (eP E 3)]) rfl ?_
                refine rw_puti (x := ((tkS I 1 (nI (tkB T n q)) (nI e1) v1), A, K)) (v := (iMin (((10 * v1) + (T (e1))) - 48) 1000000)) S hE hK hP hS 3 (by decide) (cK_lo (by decide)) fk_X5_24 rfl tyX5_ok nmX5 ⟨rfl, by decide +kernel⟩ dX5_advance_158 (fun H locs hP hS => ?_)
                have hP : Wp cN E cK (up2 (tkS I 1 (nI (tkB T n q)) (nI e1) v1) 3 5 (iMin (((10 * v1) + (T (e1))) - 48) 1000000), A, K) H := hP
                rw [tkS_5] at hP
                have hP : Wp cN E cK ((tkS I 1 (nI (tkB T n q)) (nI e1) (iMin (((10 * v1) + (T (e1))) - 48) 1000000)), A, K) H := hP
                refine lv_aload_n hx hb dX5_advance_161 rfl (lv_at hl 0 rfl) ?_
                refine lv_dup hx hb dX5_advance_162 rfl ?_
                refine rw_geti (x := ((tkS I 1 (nI (tkB T n q)) (nI e1) (iMin (((10 * v1) + (T (e1))) - 48) 1000000)), A, K)) (v := (nI e1)) S hK hP 3 (by decide) (cK_lo (by decide)) fk_X5_21 rfl rfl dX5_advance_163 ?_
                refine lv_iconst (v := 1) hx hb dX5_advance_166 (by decide) ?_
                refine lv_iadd hx hb dX5_advance_167 ?_
                refine tp_i (y := nI (e1 + 1)) (nI_1 e1) ?_
                refine rw_puti (x := ((tkS I 1 (nI (tkB T n q)) (nI e1) (iMin (((10 * v1) + (T (e1))) - 48) 1000000)), A, K)) (v := (nI (e1 + 1))) S hE hK hP hS 3 (by decide) (cK_lo (by decide)) fk_X5_21 rfl tyX5_ok nmX5 ⟨rfl, by decide +kernel⟩ dX5_advance_168 (fun H locs hP hS => ?_)
                have hP : Wp cN E cK (up2 (tkS I 1 (nI (tkB T n q)) (nI e1) (iMin (((10 * v1) + (T (e1))) - 48) 1000000)) 3 4 (nI (e1 + 1)), A, K) H := hP
                rw [tkS_4] at hP
                have hP : Wp cN E cK ((tkS I 1 (nI (tkB T n q)) (nI (e1 + 1)) (iMin (((10 * v1) + (T (e1))) - 48) 1000000)), A, K) H := hP
                refine lv_goto (tgt := 106) hx hb dX5_advance_171 (by decide) ?_
                exact ih (e1 + 1) _ (by omega) (by rw [← hre]; exact hv) (by rw [← hw, hre, show run isDg T n (e1 + 1) - e1 = run isDg T n (e1 + 1) - (e1 + 1) + 1 by omega]; rfl) _ _ hP hS ls (lv_sub hl [0] rfl)
          exact HD (n - tkB T n q) (tkB T n q) _ (by omega) rfl rfl _ _ hP hS ls (lv_sub hl [0] rfl)
      · have hle : n ≤ tkB T n q := Nat.not_lt.mp (fun g => h75 (by rw [h1]; exact nI_lt g (by omega)))
        refine lv_aload_n hx hb dX5_advance_78 rfl (lv_at hl 0 rfl) ?_
        refine lv_iconst (v := 0) hx hb dX5_advance_79 (by decide) ?_
        refine rw_puti (x := ((tkS I (I 3 2) (nI (tkB T n q)) (nI (tkB T n q)) 0), A, K)) (v := 0) S hE hK hP hS 3 (by decide) (cK_lo (by decide)) fk_X5_15 rfl tyX5_ok nmX5 ⟨rfl, by decide +kernel⟩ dX5_advance_80 (fun H locs hP hS => ?_)
        have hP : Wp cN E cK (up2 (tkS I (I 3 2) (nI (tkB T n q)) (nI (tkB T n q)) 0) 3 2 0, A, K) H := hP
        rw [tkS_2] at hP
        have hP : Wp cN E cK ((tkS I 0 (nI (tkB T n q)) (nI (tkB T n q)) 0), A, K) H := hP
        refine lv_goto (tgt := 248) hx hb dX5_advance_83 (by decide) ?_
        obtain ⟨k1, k2, k3⟩ := tk_0 hle
        have hfin := tkW_of (q := q) h1 h6 (rfl : nI (tkB T n q) = nI (tkB T n q)) (k := 0) (e := (nI (tkB T n q))) (v := 0) ⟨k1.symm, by rw [k2], k3.symm⟩
        rw [hfin] at hP
        exact re_wv (x := ((tkW I T n (0, q)), A, K)) hx hb hr hlk hP hS (by rw [if_pos h6]) dX5_advance_248
    have HL : ∀ (k s1 : Nat), s1 + k = n → run isSp T n s1 = tkB T n q → ∀ (H : Heap) (locs : List Loc), Wp cN E cK ((tkS I (I 3 2) (nI s1) (nI q) (I 3 5)), A, K) H → va_S (cA cN E) s.heap H locs → ∀ ls : Array Slot, lv_has ls 1 [(0, .ref (eP E 3))] → W p l e (rmk 1 0 0 30) s m ([.ref (eP E 3)] : List Value).toArray below meth c H locs 0 0 (MQ below (qWv cN E cK (fun uu => uu = (if I 3 6 = 0 then tkW I T n (0, q) else I, A, K))) ([.ref (eP E 3)] : List Value).toArray s 0 0 (cA cN E)) (F0 m 16 ls []) := by
      intro k
      induction k with
      | zero =>
        intro s1 hs hv H locs hP hS ls hl
        have hs1 : s1 = n := by omega
        subst hs1
        have hv2 : tkB T s1 q = s1 := hv.symm.trans (run_end (Nat.le_refl _))
        refine lv_aload_n hx hb dX5_advance_16 rfl (lv_at hl 0 rfl) ?_
        refine rw_geti (x := ((tkS I (I 3 2) (nI s1) (nI q) (I 3 5)), A, K)) (v := (nI s1)) S hK hP 3 (by decide) (cK_lo (by decide)) fk_X5_18 rfl rfl dX5_advance_17 ?_
        refine lv_aload_n hx hb dX5_advance_20 rfl (lv_at hl 0 rfl) ?_
        refine rw_geti (x := ((tkS I (I 3 2) (nI s1) (nI q) (I 3 5)), A, K)) (v := I 3 1) S hK hP 3 (by decide) (cK_lo (by decide)) fk_X5_9 rfl rfl dX5_advance_21 ?_
        refine lv_icmp_ge (tgt := 54) hx hb dX5_advance_24 (by decide) (fun h24 => ?_) (fun h24 => absurd (by rw [h1]; exact Int32.le_refl _) h24)
        exact R54 _ _ (by rw [hv2]; exact hP) hS ls (lv_sub hl [0] rfl)
      | succ k ih =>
        intro s1 hs hv H locs hP hS ls hl
        have hs1 : s1 < n := by omega
        refine lv_aload_n hx hb dX5_advance_16 rfl (lv_at hl 0 rfl) ?_
        refine rw_geti (x := ((tkS I (I 3 2) (nI s1) (nI q) (I 3 5)), A, K)) (v := (nI s1)) S hK hP 3 (by decide) (cK_lo (by decide)) fk_X5_18 rfl rfl dX5_advance_17 ?_
        refine lv_aload_n hx hb dX5_advance_20 rfl (lv_at hl 0 rfl) ?_
        refine rw_geti (x := ((tkS I (I 3 2) (nI s1) (nI q) (I 3 5)), A, K)) (v := I 3 1) S hK hP 3 (by decide) (cK_lo (by decide)) fk_X5_9 rfl rfl dX5_advance_21 ?_
        refine lv_icmp_ge (tgt := 54) hx hb dX5_advance_24 (by decide) (fun h24 => absurd h24 (by rw [h1]; exact nI_ge hs1 (by omega))) (fun h24 => ?_)
        refine lv_aload_n hx hb dX5_advance_27 rfl (lv_at hl 0 rfl) ?_
        refine rw_getr (x := ((tkS I (I 3 2) (nI s1) (nI q) (I 3 5)), A, K)) S hK hP 3 (by decide) (cK_lo (by decide)) fk_X5_30 rfl dX5_advance_28 ?_
        refine lv_aload_n hx hb dX5_advance_31 rfl (lv_at hl 0 rfl) ?_
        refine rw_geti (x := ((tkS I (I 3 2) (nI s1) (nI q) (I 3 5)), A, K)) (v := (nI s1)) S hK hP 3 (by decide) (cK_lo (by decide)) fk_X5_18 rfl rfl dX5_advance_32 ?_
        refine rw_bald (x := ((tkS I (I 3 2) (nI s1) (nI q) (I 3 5)), A, K)) (v := T (s1)) S hK hP 1 (by decide) (cK_lo (by decide)) s1 rfl (by omega) (by decide) (congrFun hT _) dX5_advance_35 ?_
        refine lv_bipush (v := 32) hx hb dX5_advance_36 (by decide) ?_
        refine lv_icmp_ne (tgt := 54) hx hb dX5_advance_38 (by decide) (fun h38 => ?_) (fun h38 => ?_)
        · have hv2 : tkB T n q = s1 := hv.symm.trans (run_no (by simp [isSp]; exact h38))
          exact R54 _ _ (by rw [hv2]; exact hP) hS ls (lv_sub hl [0] rfl)
        · refine lv_aload_n hx hb dX5_advance_41 rfl (lv_at hl 0 rfl) ?_
          refine lv_dup hx hb dX5_advance_42 rfl ?_
          refine rw_geti (x := ((tkS I (I 3 2) (nI s1) (nI q) (I 3 5)), A, K)) (v := (nI s1)) S hK hP 3 (by decide) (cK_lo (by decide)) fk_X5_18 rfl rfl dX5_advance_43 ?_
          refine lv_iconst (v := 1) hx hb dX5_advance_46 (by decide) ?_
          refine lv_iadd hx hb dX5_advance_47 ?_
          refine tp_i (y := nI (s1 + 1)) (nI_1 s1) ?_
          refine rw_puti (x := ((tkS I (I 3 2) (nI s1) (nI q) (I 3 5)), A, K)) (v := (nI (s1 + 1))) S hE hK hP hS 3 (by decide) (cK_lo (by decide)) fk_X5_18 rfl tyX5_ok nmX5 ⟨rfl, by decide +kernel⟩ dX5_advance_48 (fun H locs hP hS => ?_)
          have hP : Wp cN E cK (up2 (tkS I (I 3 2) (nI s1) (nI q) (I 3 5)) 3 3 (nI (s1 + 1)), A, K) H := hP
          rw [tkS_3] at hP
          have hP : Wp cN E cK ((tkS I (I 3 2) (nI (s1 + 1)) (nI q) (I 3 5)), A, K) H := hP
          refine lv_goto (tgt := 16) hx hb dX5_advance_51 (by decide) ?_
          exact ih (s1 + 1) (by omega) ((run_y hs1 (by simp [isSp, h38])).symm.trans hv) _ _ hP hS ls (lv_sub hl [0] rfl)
    exact HL (n - q) q (by omega) rfl _ _ hP hS ls (lv_sub hl [0] rfl)
  · exact re_wv (x := (I, A, K)) hx hb hr hlk hP hS (by rw [if_neg h4]) dX5_advance_7

set_option maxHeartbeats 1000000 in
set_option maxRecDepth 100000 in
theorem c_X5_open (l : Launch) (E : En) (I A : Nat → Nat → Int32) (K : Nat → Nat → Int64) (k : Nat) (hE : Ev cN E) (hk : k ≤ 700) : Met l yX5_open (wz yX5_open cX5_open 2 none) (rmk 2 0 0 50) (va_Pc [.ref (eP E 3), .int (nI k)] (Bw cN E cK (I, A, K))) (qWv cN E cK (fun uu => uu = (tkW I (A 1) k (0, 0), A, K))) 0 0 (cA cN E) := by
  refine en_ofW RX5 rfl (by decide +kernel) (Nat.le_of_ble_eq_true rfl) ?_
  intro p e s m below meth c ls S hr hlk hnm hl hB
  have hx := S.1
  have hb := S.2.1
  obtain ⟨hK, hC, hP⟩ := hB
  have hS : va_S (cA cN E) s.heap s.heap [] := va_S.rf
  have hl : lv_has ls 2 [(0, .ref (eP E 3)), (1, .int (nI k))] := hl
  refine lv_aload_n hx hb dX5_open_0 rfl (lv_at hl 0 rfl) ?_
  refine lv_iload_n hx hb dX5_open_1 rfl (lv_at hl 1 rfl) ?_
  refine lv_aload_n hx hb dX5_open_2 rfl (lv_at hl 0 rfl) ?_
  refine rw_getr (x := (I, A, K)) S hK hP 3 (by decide) (cK_lo (by decide)) fk_X5_30 rfl dX5_open_3 ?_
  refine rw_alen (x := (I, A, K)) (r := (0, 700)) S hK hP 1 (by decide) (cK_lo (by decide)) rfl dX5_open_6 ?_
  refine va_mmin hx hb (S.2.2.1.trans hl.1.symm) S.2.2.2.1 (S.2.2.2.2 _ km_X5_34) (S.2.2.2.2 _ ms_min) (S.2.2.2.2 _ mi_Math) (S.2.2.2.2 _ mc_min) (Nat.le_of_ble_eq_true rfl) (Nat.le_of_ble_eq_true rfl) (Nat.zero_le _) (Nat.zero_le _) dX5_open_7 ?_
  refine W.eq (g2 := F0 m 10 ls [.int (iMin (nI k) (nI 700)), .ref (eP E 3)]) rfl ?_
  refine tp_i (y := nI k) (by rw [iMin_nI (b := 700) (by omega) (by decide), Nat.min_eq_left hk]) ?_
  refine rw_puti (x := (I, A, K)) (v := (nI k)) S hE hK hP hS 3 (by decide) (cK_lo (by decide)) fk_X5_9 rfl tyX5_ok nmX5 ⟨rfl, by decide +kernel⟩ dX5_open_10 (fun H locs hP hS => ?_)
  have hP : Wp cN E cK ((up2 I 3 1 (nI k)), A, K) H := hP
  refine lv_aload_n hx hb dX5_open_13 rfl (lv_at hl 0 rfl) ?_
  refine lv_iconst (v := 0) hx hb dX5_open_14 (by decide) ?_
  refine rw_puti (x := ((up2 I 3 1 (nI k)), A, K)) (v := 0) S hE hK hP hS 3 (by decide) (cK_lo (by decide)) fk_X5_21 rfl tyX5_ok nmX5 ⟨rfl, by decide +kernel⟩ dX5_open_15 (fun H locs hP hS => ?_)
  have hP : Wp cN E cK ((up2 (up2 I 3 1 (nI k)) 3 4 0), A, K) H := hP
  refine lv_aload_n hx hb dX5_open_18 rfl (lv_at hl 0 rfl) ?_
  refine lv_iconst (v := 0) hx hb dX5_open_19 (by decide) ?_
  refine rw_puti (x := ((up2 (up2 I 3 1 (nI k)) 3 4 0), A, K)) (v := 0) S hE hK hP hS 3 (by decide) (cK_lo (by decide)) fk_X5_27 rfl tyX5_ok nmX5 ⟨rfl, by decide +kernel⟩ dX5_open_20 (fun H locs hP hS => ?_)
  have hP : Wp cN E cK ((up2 (up2 (up2 I 3 1 (nI k)) 3 4 0) 3 6 0), A, K) H := hP
  refine lv_aload_n hx hb dX5_open_23 rfl (lv_at hl 0 rfl) ?_
  refine cn_wv (ck_V (a := eP E 3) S lk_X5_40 (c_X5_advance l E (up2 (up2 (up2 I 3 1 (nI k)) 3 4 0) 3 6 0) A K (A 1) k 0 hE rfl (⟨Nat.zero_le _, hk⟩) rfl (fun _ => rfl)) ⟨rfl, rfl⟩ ⟨Nat.le_of_ble_eq_true rfl, Nat.le_of_ble_eq_true rfl⟩ bl_w (rc_w hK hP 3 (by decide) (cK_lo (by decide)) rfl) (bw_U hE hK hC hP hS) rfl hl.1 (Nat.le_of_ble_eq_true rfl) ⟨Nat.le_refl _, Nat.le_refl _⟩ dX5_open_24 rfl) hS (fun u2 H locs g3 hP hS => ?_)
  obtain rfl : u2 = ((if (up2 (up2 (up2 I 3 1 (nI k)) 3 4 0) 3 6 0) 3 6 = 0 then tkW (up2 (up2 (up2 I 3 1 (nI k)) 3 4 0) 3 6 0) (A 1) k (0, 0) else (up2 (up2 (up2 I 3 1 (nI k)) 3 4 0) 3 6 0)), A, K) := g3
  have hP : Wp cN E cK ((if (up2 (up2 (up2 I 3 1 (nI k)) 3 4 0) 3 6 0) 3 6 = 0 then tkW (up2 (up2 (up2 I 3 1 (nI k)) 3 4 0) 3 6 0) (A 1) k (0, 0) else (up2 (up2 (up2 I 3 1 (nI k)) 3 4 0) 3 6 0)), A, K) H := hP
  rw [if_pos (show up2 (up2 (up2 I 3 1 (nI k)) 3 4 0) 3 6 0 3 6 = 0 from rfl), tkW_op] at hP
  exact re_wv (x := ((tkW I (A 1) k (0, 0)), A, K)) hx hb hr hlk hP hS rfl dX5_open_27

set_option maxHeartbeats 1000000 in
set_option maxRecDepth 100000 in
theorem c_X5_reopen (l : Launch) (E : En) (I A : Nat → Nat → Int32) (K : Nat → Nat → Int64) (T : Nat → Int32) (n q : Nat) (z : Tz) (hE : Ev cN E) (hT : A 1 = T) (hz : zOk n z) (hq : q ≤ n) (h0 : z.1 = 0) : Met l yX5_reopen (wz yX5_reopen cX5_reopen 2 none) (rmk 2 0 0 50) (va_Pc [.ref (eP E 3), .int (nI q)] (Bw cN E cK (tkW I T n z, A, K))) (qWv cN E cK (fun uu => uu = (tkW I T n (0, q), A, K))) 0 0 (cA cN E) := by
  refine en_ofW RX5 rfl (by decide +kernel) (Nat.le_of_ble_eq_true rfl) ?_
  intro p e s m below meth c ls S hr hlk hnm hl hB
  have hx := S.1
  have hb := S.2.1
  obtain ⟨hK, hC, hP⟩ := hB
  have hS : va_S (cA cN E) s.heap s.heap [] := va_S.rf
  have hl : lv_has ls 2 [(0, .ref (eP E 3)), (1, .int (nI q))] := hl
  obtain ⟨hz1, hz2⟩ := id hz
  refine lv_aload_n hx hb dX5_reopen_0 rfl (lv_at hl 0 rfl) ?_
  refine lv_iload_n hx hb dX5_reopen_1 rfl (lv_at hl 1 rfl) ?_
  refine lv_iconst (v := 0) hx hb dX5_reopen_2 (by decide) ?_
  refine va_mmax hx hb (S.2.2.1.trans hl.1.symm) S.2.2.2.1 (S.2.2.2.2 _ km_X5_43) (S.2.2.2.2 _ ms_max) (S.2.2.2.2 _ mi_Math) (S.2.2.2.2 _ mc_max) (Nat.le_of_ble_eq_true rfl) (Nat.le_of_ble_eq_true rfl) (Nat.zero_le _) (Nat.zero_le _) dX5_reopen_3 ?_
  refine W.eq (g2 := F0 m 6 ls [.int (iMax (nI q) 0), .ref (eP E 3)]) rfl ?_
  refine tp_i (y := nI q) (by rw [show (0 : Int32) = nI 0 from rfl, iMax_nI (by omega) (by decide), Nat.max_eq_left (Nat.zero_le _)]) ?_
  refine rw_puti (x := ((tkW I T n z), A, K)) (v := (nI q)) S hE hK hP hS 3 (by decide) (cK_lo (by decide)) fk_X5_21 rfl tyX5_ok nmX5 ⟨rfl, by decide +kernel⟩ dX5_reopen_6 (fun H locs hP hS => ?_)
  have hP : Wp cN E cK ((up2 (tkW I T n z) 3 4 (nI q)), A, K) H := hP
  refine lv_aload_n hx hb dX5_reopen_9 rfl (lv_at hl 0 rfl) ?_
  refine cn_wv (ck_V (a := eP E 3) S lk_X5_40 (c_X5_advance l E (up2 (tkW I T n z) 3 4 (nI q)) A K T n q hE hT (⟨hq, hz2⟩) rfl (fun _ => rfl)) ⟨rfl, rfl⟩ ⟨Nat.le_of_ble_eq_true rfl, Nat.le_of_ble_eq_true rfl⟩ bl_w (rc_w hK hP 3 (by decide) (cK_lo (by decide)) rfl) (bw_U hE hK hC hP hS) rfl hl.1 (Nat.le_of_ble_eq_true rfl) ⟨Nat.le_refl _, Nat.le_refl _⟩ dX5_reopen_10 rfl) hS (fun u2 H locs g3 hP hS => ?_)
  obtain rfl : u2 = ((if (up2 (tkW I T n z) 3 4 (nI q)) 3 6 = 0 then tkW (up2 (tkW I T n z) 3 4 (nI q)) T n (0, q) else (up2 (tkW I T n z) 3 4 (nI q))), A, K) := g3
  have hP : Wp cN E cK ((if (up2 (tkW I T n z) 3 4 (nI q)) 3 6 = 0 then tkW (up2 (tkW I T n z) 3 4 (nI q)) T n (0, q) else (up2 (tkW I T n z) 3 4 (nI q))), A, K) H := hP
  rw [if_pos (show up2 (tkW I T n z) 3 4 (nI q) 3 6 = 0 from h0), tkW_re] at hP
  exact re_wv (x := ((tkW I T n (0, q)), A, K)) hx hb hr hlk hP hS rfl dX5_reopen_13

theorem c_X5_adv (l : Launch) (E : En) (I A : Nat → Nat → Int32) (K : Nat → Nat → Int64) (T : Nat → Int32) (n : Nat) (z : Tz) (hE : Ev cN E) (hT : A 1 = T) (hz : zOk n z) : Met l yX5_advance (wz yX5_advance cX5_advance 1 none) (rmk 1 0 0 30) (va_Pc [.ref (eP E 3)] (Bw cN E cK (tkW I T n z, A, K))) (qWv cN E cK (fun uu => uu = (tkW I T n (zA T n z), A, K))) 0 0 (cA cN E) := by
  rw [← tkW_A]
  exact c_X5_advance l E (tkW I T n z) A K T n (tkE T n z.2) hE hT ⟨tkE_le hz.1, hz.2⟩ rfl (fun _ => rfl)
set_option maxHeartbeats 1000000 in
set_option maxRecDepth 100000 in
theorem c_X5_isNumber (l : Launch) (E : En) (I A : Nat → Nat → Int32) (K : Nat → Nat → Int64) (T : Nat → Int32) (n : Nat) (z : Tz) (hE : Ev cN E) (hT : A 1 = T) (hz : zOk n z) : Met l yX5_isNumber (wz yX5_isNumber cX5_isNumber 1 (some .boolean)) (rmk 0 0 0 0) (va_Pc [.ref (eP E 3)] (Bw cN E cK (tkW I T n z, A, K))) (qSi (fun zz => zz = bI (zN T n z))) 0 0 fr0 := by
  refine en_ofW RX5 rfl (by decide +kernel) (Nat.le_of_ble_eq_true rfl) ?_
  intro p e s m below meth c ls S hr hlk hnm hl hB
  have hx := S.1
  have hb := S.2.1
  obtain ⟨hK, hC, hP⟩ := hB
  have hS : va_S (cA cN E) s.heap s.heap [] := va_S.rf
  have hl : lv_has ls 1 [(0, .ref (eP E 3))] := hl
  obtain ⟨hz1, hz2⟩ := id hz
  refine lv_aload_n hx hb dX5_isNumber_0 rfl (lv_at hl 0 rfl) ?_
  refine rw_geti (x := ((tkW I T n z), A, K)) (v := (if z.1 = 0 then tkK T n z.2 else 0)) S hK hP 3 (by decide) (cK_lo (by decide)) fk_X5_15 rfl rfl dX5_isNumber_1 ?_
  refine lv_iconst (v := 1) hx hb dX5_isNumber_4 (by decide) ?_
  refine lv_icmp_ne (tgt := 12) hx hb dX5_isNumber_5 (by decide) (fun h5 => ?_) (fun h5 => ?_)
  · refine lv_iconst (v := 0) hx hb dX5_isNumber_12 (by decide) ?_
    exact re_sz (v := 0) hx hb hr hlk rfl (bI_n (tk_nis h5)) dX5_isNumber_13
  · refine lv_iconst (v := 1) hx hb dX5_isNumber_8 (by decide) ?_
    refine lv_goto (tgt := 13) hx hb dX5_isNumber_9 (by decide) ?_
    exact re_sz (v := 1) hx hb hr hlk rfl (bI_y (tk_is (by decide) h5)) dX5_isNumber_13

set_option maxHeartbeats 1000000 in
set_option maxRecDepth 100000 in
theorem c_X5_hasMore (l : Launch) (E : En) (I A : Nat → Nat → Int32) (K : Nat → Nat → Int64) (T : Nat → Int32) (n : Nat) (z : Tz) (hE : Ev cN E) (hT : A 1 = T) (hz : zOk n z) : Met l yX5_hasMore (wz yX5_hasMore cX5_hasMore 1 (some .boolean)) (rmk 0 0 0 0) (va_Pc [.ref (eP E 3)] (Bw cN E cK (tkW I T n z, A, K))) (qSi (fun zz => zz = bI (zM T n z))) 0 0 fr0 := by
  refine en_ofW RX5 rfl (by decide +kernel) (Nat.le_of_ble_eq_true rfl) ?_
  intro p e s m below meth c ls S hr hlk hnm hl hB
  have hx := S.1
  have hb := S.2.1
  obtain ⟨hK, hC, hP⟩ := hB
  have hS : va_S (cA cN E) s.heap s.heap [] := va_S.rf
  have hl : lv_has ls 1 [(0, .ref (eP E 3))] := hl
  obtain ⟨hz1, hz2⟩ := id hz
  refine lv_aload_n hx hb dX5_hasMore_0 rfl (lv_at hl 0 rfl) ?_
  refine rw_geti (x := ((tkW I T n z), A, K)) (v := (if z.1 = 0 then tkK T n z.2 else 0)) S hK hP 3 (by decide) (cK_lo (by decide)) fk_X5_15 rfl rfl dX5_hasMore_1 ?_
  refine lv_if_eq (tgt := 11) hx hb dX5_hasMore_4 (by decide) (fun h4 => ?_) (fun h4 => ?_)
  · refine lv_iconst (v := 0) hx hb dX5_hasMore_11 (by decide) ?_
    exact re_sz (v := 0) hx hb hr hlk rfl (bI_n (tk_nisM h4)) dX5_hasMore_12
  · refine lv_iconst (v := 1) hx hb dX5_hasMore_7 (by decide) ?_
    refine lv_goto (tgt := 12) hx hb dX5_hasMore_8 (by decide) ?_
    exact re_sz (v := 1) hx hb hr hlk rfl (bI_y (tk_isM h4)) dX5_hasMore_12

set_option maxHeartbeats 1000000 in
set_option maxRecDepth 100000 in
theorem c_X5_currentNumber (l : Launch) (E : En) (I A : Nat → Nat → Int32) (K : Nat → Nat → Int64) (T : Nat → Int32) (n : Nat) (z : Tz) (hE : Ev cN E) (hT : A 1 = T) (hz : zOk n z) : Met l yX5_currentNumber (wz yX5_currentNumber cX5_currentNumber 1 (some .int)) (rmk 0 0 0 0) (va_Pc [.ref (eP E 3)] (Bw cN E cK (tkW I T n z, A, K))) (qSi (fun zz => zz = tkV T n z.2)) 0 0 fr0 := by
  refine en_ofW RX5 rfl (by decide +kernel) (Nat.le_of_ble_eq_true rfl) ?_
  intro p e s m below meth c ls S hr hlk hnm hl hB
  have hx := S.1
  have hb := S.2.1
  obtain ⟨hK, hC, hP⟩ := hB
  have hS : va_S (cA cN E) s.heap s.heap [] := va_S.rf
  have hl : lv_has ls 1 [(0, .ref (eP E 3))] := hl
  obtain ⟨hz1, hz2⟩ := id hz
  refine lv_aload_n hx hb dX5_currentNumber_0 rfl (lv_at hl 0 rfl) ?_
  refine rw_geti (x := ((tkW I T n z), A, K)) (v := (tkV T n z.2)) S hK hP 3 (by decide) (cK_lo (by decide)) fk_X5_24 rfl rfl dX5_currentNumber_1 ?_
  exact re_si (v := (tkV T n z.2)) hx hb hr hlk rfl dX5_currentNumber_4

set_option maxHeartbeats 1000000 in
set_option maxRecDepth 100000 in
theorem c_X5_currentStart (l : Launch) (E : En) (I A : Nat → Nat → Int32) (K : Nat → Nat → Int64) (T : Nat → Int32) (n : Nat) (z : Tz) (hE : Ev cN E) (hT : A 1 = T) (hz : zOk n z) : Met l yX5_currentStart (wz yX5_currentStart cX5_currentStart 1 (some .int)) (rmk 0 0 0 0) (va_Pc [.ref (eP E 3)] (Bw cN E cK (tkW I T n z, A, K))) (qSi (fun zz => zz = nI (tkB T n z.2))) 0 0 fr0 := by
  refine en_ofW RX5 rfl (by decide +kernel) (Nat.le_of_ble_eq_true rfl) ?_
  intro p e s m below meth c ls S hr hlk hnm hl hB
  have hx := S.1
  have hb := S.2.1
  obtain ⟨hK, hC, hP⟩ := hB
  have hS : va_S (cA cN E) s.heap s.heap [] := va_S.rf
  have hl : lv_has ls 1 [(0, .ref (eP E 3))] := hl
  obtain ⟨hz1, hz2⟩ := id hz
  refine lv_aload_n hx hb dX5_currentStart_0 rfl (lv_at hl 0 rfl) ?_
  refine rw_geti (x := ((tkW I T n z), A, K)) (v := nI (tkB T n z.2)) S hK hP 3 (by decide) (cK_lo (by decide)) fk_X5_18 rfl rfl dX5_currentStart_1 ?_
  exact re_si (v := nI (tkB T n z.2)) hx hb hr hlk rfl dX5_currentStart_4

set_option maxHeartbeats 1000000 in
set_option maxRecDepth 100000 in
theorem c_X5_currentEnd (l : Launch) (E : En) (I A : Nat → Nat → Int32) (K : Nat → Nat → Int64) (T : Nat → Int32) (n : Nat) (z : Tz) (hE : Ev cN E) (hT : A 1 = T) (hz : zOk n z) : Met l yX5_currentEnd (wz yX5_currentEnd cX5_currentEnd 1 (some .int)) (rmk 0 0 0 0) (va_Pc [.ref (eP E 3)] (Bw cN E cK (tkW I T n z, A, K))) (qSi (fun zz => zz = nI (tkE T n z.2))) 0 0 fr0 := by
  refine en_ofW RX5 rfl (by decide +kernel) (Nat.le_of_ble_eq_true rfl) ?_
  intro p e s m below meth c ls S hr hlk hnm hl hB
  have hx := S.1
  have hb := S.2.1
  obtain ⟨hK, hC, hP⟩ := hB
  have hS : va_S (cA cN E) s.heap s.heap [] := va_S.rf
  have hl : lv_has ls 1 [(0, .ref (eP E 3))] := hl
  obtain ⟨hz1, hz2⟩ := id hz
  refine lv_aload_n hx hb dX5_currentEnd_0 rfl (lv_at hl 0 rfl) ?_
  refine rw_geti (x := ((tkW I T n z), A, K)) (v := nI (tkE T n z.2)) S hK hP 3 (by decide) (cK_lo (by decide)) fk_X5_21 rfl rfl dX5_currentEnd_1 ?_
  exact re_si (v := nI (tkE T n z.2)) hx hb hr hlk rfl dX5_currentEnd_4

set_option maxHeartbeats 1000000 in
set_option maxRecDepth 100000 in
theorem c_X5_firstError (l : Launch) (E : En) (I A : Nat → Nat → Int32) (K : Nat → Nat → Int64) (T : Nat → Int32) (n : Nat) (z : Tz) (hE : Ev cN E) (hT : A 1 = T) (hz : zOk n z) : Met l yX5_firstError (wz yX5_firstError cX5_firstError 1 (some .int)) (rmk 0 0 0 0) (va_Pc [.ref (eP E 3)] (Bw cN E cK (tkW I T n z, A, K))) (qSi (fun zz => zz = z.1)) 0 0 fr0 := by
  refine en_ofW RX5 rfl (by decide +kernel) (Nat.le_of_ble_eq_true rfl) ?_
  intro p e s m below meth c ls S hr hlk hnm hl hB
  have hx := S.1
  have hb := S.2.1
  obtain ⟨hK, hC, hP⟩ := hB
  have hS : va_S (cA cN E) s.heap s.heap [] := va_S.rf
  have hl : lv_has ls 1 [(0, .ref (eP E 3))] := hl
  obtain ⟨hz1, hz2⟩ := id hz
  refine lv_aload_n hx hb dX5_firstError_0 rfl (lv_at hl 0 rfl) ?_
  refine rw_geti (x := ((tkW I T n z), A, K)) (v := z.1) S hK hP 3 (by decide) (cK_lo (by decide)) fk_X5_27 rfl rfl dX5_firstError_1 ?_
  exact re_si (v := z.1) hx hb hr hlk rfl dX5_firstError_4

set_option maxHeartbeats 1000000 in
set_option maxRecDepth 100000 in
theorem c_X5_fail (l : Launch) (E : En) (I A : Nat → Nat → Int32) (K : Nat → Nat → Int64) (T : Nat → Int32) (n : Nat) (z : Tz) (k : Int32) (hE : Ev cN E) (hT : A 1 = T) (hz : zOk n z) (hk : ¬ k = 0) : Met l yX5_fail (wz yX5_fail cX5_fail 2 none) (rmk 0 0 0 0) (va_Pc [.ref (eP E 3), .int k] (Bw cN E cK (tkW I T n z, A, K))) (qWv cN E cK (fun uu => uu = (tkW I T n (zF k z), A, K))) 0 0 (cA cN E) := by
  refine en_ofW RX5 rfl (by decide +kernel) (Nat.le_of_ble_eq_true rfl) ?_
  intro p e s m below meth c ls S hr hlk hnm hl hB
  have hx := S.1
  have hb := S.2.1
  obtain ⟨hK, hC, hP⟩ := hB
  have hS : va_S (cA cN E) s.heap s.heap [] := va_S.rf
  have hl : lv_has ls 2 [(0, .ref (eP E 3)), (1, .int k)] := hl
  obtain ⟨hz1, hz2⟩ := id hz
  refine lv_aload_n hx hb dX5_fail_0 rfl (lv_at hl 0 rfl) ?_
  refine rw_geti (x := ((tkW I T n z), A, K)) (v := z.1) S hK hP 3 (by decide) (cK_lo (by decide)) fk_X5_27 rfl rfl dX5_fail_1 ?_
  refine lv_if_ne (tgt := 17) hx hb dX5_fail_4 (by decide) (fun h4 => ?_) (fun h4 => ?_)
  · rw [tkW_zF2 (k := k) h4] at hP
    exact re_wv (x := ((tkW I T n (zF k z)), A, K)) hx hb hr hlk hP hS rfl dX5_fail_17
  · refine lv_aload_n hx hb dX5_fail_7 rfl (lv_at hl 0 rfl) ?_
    refine lv_iload_n hx hb dX5_fail_8 rfl (lv_at hl 1 rfl) ?_
    refine rw_puti (x := ((tkW I T n z), A, K)) (v := k) S hE hK hP hS 3 (by decide) (cK_lo (by decide)) fk_X5_27 rfl tyX5_ok nmX5 ⟨rfl, by decide +kernel⟩ dX5_fail_9 (fun H locs hP hS => ?_)
    have hP : Wp cN E cK ((up2 (tkW I T n z) 3 6 k), A, K) H := hP
    refine lv_aload_n hx hb dX5_fail_12 rfl (lv_at hl 0 rfl) ?_
    refine lv_iconst (v := 0) hx hb dX5_fail_13 (by decide) ?_
    refine rw_puti (x := ((up2 (tkW I T n z) 3 6 k), A, K)) (v := 0) S hE hK hP hS 3 (by decide) (cK_lo (by decide)) fk_X5_15 rfl tyX5_ok nmX5 ⟨rfl, by decide +kernel⟩ dX5_fail_14 (fun H locs hP hS => ?_)
    have hP : Wp cN E cK ((up2 (up2 (tkW I T n z) 3 6 k) 3 2 0), A, K) H := hP
    rw [tkW_zF h4 hk] at hP
    exact re_wv (x := ((tkW I T n (zF k z)), A, K)) hx hb hr hlk hP hS rfl dX5_fail_17

set_option maxHeartbeats 1000000 in
set_option maxRecDepth 100000 in
theorem c_X5_isSign (l : Launch) (E : En) (I A : Nat → Nat → Int32) (K : Nat → Nat → Int64) (T : Nat → Int32) (n : Nat) (z : Tz) (ch : Int32) (hE : Ev cN E) (hT : A 1 = T) (hz : zOk n z) : Met l yX5_isSign (wz yX5_isSign cX5_isSign 2 (some .boolean)) (rmk 0 0 0 0) (va_Pc [.ref (eP E 3), .int ch] (Bw cN E cK (tkW I T n z, A, K))) (qSi (fun zz => zz = bI (zS T n ch z))) 0 0 fr0 := by
  refine en_ofW RX5 rfl (by decide +kernel) (Nat.le_of_ble_eq_true rfl) ?_
  intro p e s m below meth c ls S hr hlk hnm hl hB
  have hx := S.1
  have hb := S.2.1
  obtain ⟨hK, hC, hP⟩ := hB
  have hS : va_S (cA cN E) s.heap s.heap [] := va_S.rf
  have hl : lv_has ls 2 [(0, .ref (eP E 3)), (1, .int ch)] := hl
  obtain ⟨hz1, hz2⟩ := id hz
  refine lv_aload_n hx hb dX5_isSign_0 rfl (lv_at hl 0 rfl) ?_
  refine rw_geti (x := ((tkW I T n z), A, K)) (v := (if z.1 = 0 then tkK T n z.2 else 0)) S hK hP 3 (by decide) (cK_lo (by decide)) fk_X5_15 rfl rfl dX5_isSign_1 ?_
  refine lv_iconst (v := 3) hx hb dX5_isSign_4 (by decide) ?_
  refine lv_icmp_ne (tgt := 25) hx hb dX5_isSign_5 (by decide) (fun h5 => ?_) (fun h5 => ?_)
  · refine lv_iconst (v := 0) hx hb dX5_isSign_25 (by decide) ?_
    exact re_sz (v := 0) hx hb hr hlk rfl (bI_n (fun q => tk_nis h5 ⟨q.1, q.2.1⟩)) dX5_isSign_26
  · have hk3 := tk_is (by decide) h5
    have hlt := tkK_lt (T := T) (n := n) (p := z.2) (by rw [hk3.2]; decide)
    refine lv_aload_n hx hb dX5_isSign_8 rfl (lv_at hl 0 rfl) ?_
    refine rw_getr (x := ((tkW I T n z), A, K)) S hK hP 3 (by decide) (cK_lo (by decide)) fk_X5_30 rfl dX5_isSign_9 ?_
    refine lv_aload_n hx hb dX5_isSign_12 rfl (lv_at hl 0 rfl) ?_
    refine rw_geti (x := ((tkW I T n z), A, K)) (v := nI (tkB T n z.2)) S hK hP 3 (by decide) (cK_lo (by decide)) fk_X5_18 rfl rfl dX5_isSign_13 ?_
    refine rw_bald (x := ((tkW I T n z), A, K)) (v := T (tkB T n z.2)) S hK hP 1 (by decide) (cK_lo (by decide)) (tkB T n z.2) rfl (by omega) (by decide) (congrFun hT _) dX5_isSign_16 ?_
    refine lv_iload_n hx hb dX5_isSign_17 rfl (lv_at hl 1 rfl) ?_
    refine lv_icmp_ne (tgt := 25) hx hb dX5_isSign_18 (by decide) (fun h18 => ?_) (fun h18 => ?_)
    · refine lv_iconst (v := 0) hx hb dX5_isSign_25 (by decide) ?_
      exact re_sz (v := 0) hx hb hr hlk rfl (bI_n (fun q => h18 q.2.2)) dX5_isSign_26
    · refine lv_iconst (v := 1) hx hb dX5_isSign_21 (by decide) ?_
      refine lv_goto (tgt := 26) hx hb dX5_isSign_22 (by decide) ?_
      exact re_sz (v := 1) hx hb hr hlk rfl (bI_y ⟨hk3.1, hk3.2, h18⟩) dX5_isSign_26

set_option maxHeartbeats 1000000 in
set_option maxRecDepth 100000 in
theorem c_X5_isWord (l : Launch) (E : En) (I A : Nat → Nat → Int32) (K : Nat → Nat → Int64) (T : Nat → Int32) (n : Nat) (z : Tz) (i : Nat) (hE : Ev cN E) (hT : A 1 = T) (hz : zOk n z) (hi : i < 17) : Met l yX5_isWord (wz yX5_isWord cX5_isWord 3 (some .boolean)) (rmk 4 0 0 93) (va_Pc [.ref (eP E 3), .ref (eS E i)] (Bw cN E cK (tkW I T n z, A, K))) (qSi (fun zz => zz = bI (zW T n (tw i) z))) 0 0 fr0 := by
  refine en_ofW RX5 rfl (by decide +kernel) (Nat.le_of_ble_eq_true rfl) ?_
  intro p e s m below meth c ls S hr hlk hnm hl hB
  have hx := S.1
  have hb := S.2.1
  obtain ⟨hK, hC, hP⟩ := hB
  have hS : va_S (cA cN E) s.heap s.heap [] := va_S.rf
  have hl : lv_has ls 3 [(0, .ref (eP E 3)), (1, .ref (eS E i))] := hl
  obtain ⟨hz1, hz2⟩ := id hz
  obtain ⟨tx, hit⟩ := tx_of hi
  have htw := tw_of hit
  have htl := tx_len hit
  have hEB := tkE_ge (T := T) (n := n) (p := z.2)
  have hEn := tkE_le (T := T) hz1
  refine lv_aload_n hx hb dX5_isWord_0 rfl (lv_at hl 0 rfl) ?_
  refine rw_geti (x := ((tkW I T n z), A, K)) (v := (if z.1 = 0 then tkK T n z.2 else 0)) S hK hP 3 (by decide) (cK_lo (by decide)) fk_X5_15 rfl rfl dX5_isWord_1 ?_
  refine lv_iconst (v := 2) hx hb dX5_isWord_4 (by decide) ?_
  refine lv_icmp_ne (tgt := 24) hx hb dX5_isWord_5 (by decide) (fun h5 => ?_) (fun h5 => ?_)
  · refine lv_iconst (v := 0) hx hb dX5_isWord_24 (by decide) ?_
    exact re_sz (v := 0) hx hb hr hlk rfl (by rw [htw]; exact bI_n (fun q => tk_nis h5 ⟨q.1, q.2.1⟩)) dX5_isWord_25
  · have hk3 := tk_is (by decide) h5
    refine lv_aload_n hx hb dX5_isWord_8 rfl (lv_at hl 0 rfl) ?_
    refine rw_geti (x := ((tkW I T n z), A, K)) (v := nI (tkE T n z.2)) S hK hP 3 (by decide) (cK_lo (by decide)) fk_X5_21 rfl rfl dX5_isWord_9 ?_
    refine lv_aload_n hx hb dX5_isWord_12 rfl (lv_at hl 0 rfl) ?_
    refine rw_geti (x := ((tkW I T n z), A, K)) (v := nI (tkB T n z.2)) S hK hP 3 (by decide) (cK_lo (by decide)) fk_X5_18 rfl rfl dX5_isWord_13 ?_
    refine lv_isub hx hb dX5_isWord_16 ?_
    refine tp_i (y := nI (tkE T n z.2 - tkB T n z.2)) (pk_sub hEB) ?_
    refine lv_aload_n hx hb dX5_isWord_17 rfl (lv_at hl 1 rfl) ?_
    refine cn_si (ck_V (a := eS E i) S lk_X5_54 (c_J0_length_8abf5 l E i tx hit) ⟨rfl, rfl⟩ ⟨Nat.le_of_ble_eq_true rfl, Nat.le_of_ble_eq_true rfl⟩ bl_s (rc_s hE hC hS hit) (bs_U hE hC hS) rfl hl.1 (Nat.le_of_ble_eq_true rfl) ⟨Nat.le_refl _, Nat.le_refl _⟩ dX5_isWord_18 rfl) (fun r1 g2 => ?_)
    obtain rfl : r1 = nI tx.2.2.2.length := g2
    refine lv_icmp_eq (tgt := 26) hx hb dX5_isWord_21 (by decide) (fun h21 => ?_) (fun h21 => ?_)
    · have hlen := (nI_eq (by omega) (by omega)).mp h21
      refine lv_iconst (v := 0) hx hb dX5_isWord_26 (by decide) ?_
      refine lv_istore_n (lv' := [(2, .int 0), (0, .ref (eP E 3)), (1, .ref (eS E i))]) hx hb dX5_isWord_27 rfl hl (by decide) rfl (fun ls hl => ?_)
      have HL : ∀ (cnt k : Nat), k + cnt = tx.2.2.2.length → (∀ j, j < k → T (tkB T n z.2 + j) = tx.2.2.2.getD j 0) → ∀ ls : Array Slot, lv_has ls 3 [(2, .int (nI k)), (0, .ref (eP E 3)), (1, .ref (eS E i))] → W p l e (rmk 4 0 0 93) s m ([.ref (eP E 3), .ref (eS E i)] : List Value).toArray below meth c s.heap [] 0 0 (MQ below (qSi (fun zz => zz = bI (zW T n (tw i) z))) ([.ref (eP E 3), .ref (eS E i)] : List Value).toArray s 0 0 fr0) (F0 m 28 ls []) := by
        intro cnt
        induction cnt with
        | zero =>
          intro k hi hv ls hl
          have hiN : k = tx.2.2.2.length := by omega
          rw [hiN] at hl
          refine lv_iload_n hx hb dX5_isWord_28 rfl (lv_at hl 0 rfl) ?_
          refine lv_aload_n hx hb dX5_isWord_29 rfl (lv_at hl 2 rfl) ?_
          refine cn_si (ck_V (a := eS E i) S lk_X5_54 (c_J0_length_8abf5 l E i tx hit) ⟨rfl, rfl⟩ ⟨Nat.le_of_ble_eq_true rfl, Nat.le_of_ble_eq_true rfl⟩ bl_s (rc_s hE hC hS hit) (bs_U hE hC hS) rfl hl.1 (Nat.le_of_ble_eq_true rfl) ⟨Nat.le_refl _, Nat.le_refl _⟩ dX5_isWord_30 rfl) (fun r3 g4 => ?_)
          obtain rfl : r3 = nI tx.2.2.2.length := g4
          refine lv_icmp_ge (tgt := 63) hx hb dX5_isWord_33 (by decide) (fun h33 => ?_) (fun h33 => absurd (Int32.le_refl _) h33)
          refine lv_iconst (v := 1) hx hb dX5_isWord_63 (by decide) ?_
          exact re_sz (v := 1) hx hb hr hlk rfl (by rw [htw]; exact bI_y ⟨hk3.1, hk3.2, hlen, fun j hj => hv j (by omega)⟩) dX5_isWord_64
        | succ cnt ih =>
          intro k hi hv ls hl
          have hlt : k < tx.2.2.2.length := by omega
          refine lv_iload_n hx hb dX5_isWord_28 rfl (lv_at hl 0 rfl) ?_
          refine lv_aload_n hx hb dX5_isWord_29 rfl (lv_at hl 2 rfl) ?_
          refine cn_si (ck_V (a := eS E i) S lk_X5_54 (c_J0_length_8abf5 l E i tx hit) ⟨rfl, rfl⟩ ⟨Nat.le_of_ble_eq_true rfl, Nat.le_of_ble_eq_true rfl⟩ bl_s (rc_s hE hC hS hit) (bs_U hE hC hS) rfl hl.1 (Nat.le_of_ble_eq_true rfl) ⟨Nat.le_refl _, Nat.le_refl _⟩ dX5_isWord_30 rfl) (fun r5 g6 => ?_)
          obtain rfl : r5 = nI tx.2.2.2.length := g6
          refine lv_icmp_ge (tgt := 63) hx hb dX5_isWord_33 (by decide) (fun h33 => absurd h33 (nI_ge hlt (by omega))) (fun h33 => ?_)
          refine lv_aload_n hx hb dX5_isWord_36 rfl (lv_at hl 1 rfl) ?_
          refine rw_getr (x := ((tkW I T n z), A, K)) S hK hP 3 (by decide) (cK_lo (by decide)) fk_X5_30 rfl dX5_isWord_37 ?_
          refine lv_aload_n hx hb dX5_isWord_40 rfl (lv_at hl 1 rfl) ?_
          refine rw_geti (x := ((tkW I T n z), A, K)) (v := nI (tkB T n z.2)) S hK hP 3 (by decide) (cK_lo (by decide)) fk_X5_18 rfl rfl dX5_isWord_41 ?_
          refine lv_iload_n hx hb dX5_isWord_44 rfl (lv_at hl 0 rfl) ?_
          refine lv_iadd hx hb dX5_isWord_45 ?_
          refine tp_i (y := nI (tkB T n z.2 + k)) (nI_add _ _) ?_
          refine rw_bald (x := ((tkW I T n z), A, K)) (v := T (tkB T n z.2 + k)) S hK hP 1 (by decide) (cK_lo (by decide)) (tkB T n z.2 + k) rfl (by omega) (by decide) (congrFun hT _) dX5_isWord_46 ?_
          refine lv_aload_n hx hb dX5_isWord_47 rfl (lv_at hl 2 rfl) ?_
          refine lv_iload_n hx hb dX5_isWord_48 rfl (lv_at hl 0 rfl) ?_
          refine cn_si (ck_V (a := eS E i) S lk_X5_59 (c_J0_charAt_5068e l E i tx k hit hlt) ⟨rfl, rfl⟩ ⟨Nat.le_of_ble_eq_true rfl, Nat.le_of_ble_eq_true rfl⟩ bl_s (rc_s hE hC hS hit) (bs_U hE hC hS) rfl hl.1 (Nat.le_of_ble_eq_true rfl) ⟨Nat.le_refl _, Nat.le_refl _⟩ dX5_isWord_49 rfl) (fun r7 g8 => ?_)
          obtain rfl : r7 = tx.2.2.2.getD k 0 := g8
          refine lv_icmp_eq (tgt := 57) hx hb dX5_isWord_52 (by decide) (fun h52 => ?_) (fun h52 => ?_)
          · refine lv_iinc (v := nI (k + 1)) (lv' := [(2, .int (nI (k + 1))), (0, .ref (eP E 3)), (1, .ref (eS E i))]) hx hb dX5_isWord_57 hl (k := 0) rfl (nI_1 _) (by decide) rfl (fun ls hl => ?_)
            refine lv_goto (tgt := 28) hx hb dX5_isWord_60 (by decide) ?_
            exact ih (k + 1) (by omega) (fun j hj => (show j < k ∨ j = k by omega).elim (hv j) (fun q => by rw [q]; exact h52)) ls (lv_sub hl [0, 1, 2] rfl)
          · refine lv_iconst (v := 0) hx hb dX5_isWord_55 (by decide) ?_
            exact re_sz (v := 0) hx hb hr hlk rfl (by rw [htw]; exact bI_n (fun q => h52 (q.2.2.2 k hlt))) dX5_isWord_56
      exact HL tx.2.2.2.length 0 (by omega) (fun j h => absurd h (Nat.not_lt_zero _)) ls (lv_sub hl [0, 1, 2] rfl)
    · have hlen : ¬ tkE T n z.2 - tkB T n z.2 = tx.2.2.2.length := fun q => h21 (by rw [q])
      refine lv_iconst (v := 0) hx hb dX5_isWord_24 (by decide) ?_
      exact re_sz (v := 0) hx hb hr hlk rfl (by rw [htw]; exact bI_n (fun q => hlen q.2.2.1)) dX5_isWord_25

set_option maxHeartbeats 1000000 in
set_option maxRecDepth 100000 in
theorem c_X5_passWord (l : Launch) (E : En) (I A : Nat → Nat → Int32) (K : Nat → Nat → Int64) (T : Nat → Int32) (n : Nat) (z : Tz) (i : Nat) (hE : Ev cN E) (hT : A 1 = T) (hz : zOk n z) (hi : i < 17) : Met l yX5_passWord (wz yX5_passWord cX5_passWord 3 (some .boolean)) (rmk 5 0 0 115) (va_Pc [.ref (eP E 3), .ref (eS E i)] (Bw cN E cK (tkW I T n z, A, K))) (qWi cN E cK (fun zz uu => zz = bI (zW T n (tw i) z) ∧ uu = (tkW I T n (zPW T n (tw i) z), A, K))) 0 0 (cA cN E) := by
  refine en_ofW RX5 rfl (by decide +kernel) (Nat.le_of_ble_eq_true rfl) ?_
  intro p e s m below meth c ls S hr hlk hnm hl hB
  have hx := S.1
  have hb := S.2.1
  obtain ⟨hK, hC, hP⟩ := hB
  have hS : va_S (cA cN E) s.heap s.heap [] := va_S.rf
  have hl : lv_has ls 3 [(0, .ref (eP E 3)), (1, .ref (eS E i))] := hl
  obtain ⟨hz1, hz2⟩ := id hz
  refine lv_aload_n hx hb dX5_passWord_0 rfl (lv_at hl 0 rfl) ?_
  refine lv_aload_n hx hb dX5_passWord_1 rfl (lv_at hl 1 rfl) ?_
  refine cn_si (ck_V (a := eP E 3) S lk_X5_63 (c_X5_isWord l E I A K T n z i hE hT hz hi) ⟨rfl, rfl⟩ ⟨Nat.le_of_ble_eq_true rfl, Nat.le_of_ble_eq_true rfl⟩ bl_w (rc_w hK hP 3 (by decide) (cK_lo (by decide)) rfl) (bw_U hE hK hC hP hS) rfl hl.1 (Nat.le_of_ble_eq_true rfl) ⟨Nat.le_refl _, Nat.le_refl _⟩ dX5_passWord_2 rfl) (fun r1 g2 => ?_)
  obtain rfl : r1 = bI (zW T n (tw i) z) := g2
  refine lv_istore_n (lv' := [(2, .int (bI (zW T n (tw i) z))), (0, .ref (eP E 3)), (1, .ref (eS E i))]) hx hb dX5_passWord_5 rfl hl (by decide) rfl (fun ls hl => ?_)
  refine lv_iload_n hx hb dX5_passWord_6 rfl (lv_at hl 0 rfl) ?_
  refine lv_if_eq (tgt := 14) hx hb dX5_passWord_7 (by decide) (fun h7 => ?_) (fun h7 => ?_)
  · refine lv_iload_n hx hb dX5_passWord_14 rfl (lv_at hl 0 rfl) ?_
    exact re_wz (x := ((tkW I T n z), A, K)) (v := (bI (zW T n (tw i) z))) hx hb hr hlk (bI_nar _) hP hS ⟨rfl, by unfold zPW; rw [bI_f h7]; rfl⟩ dX5_passWord_15
  · refine lv_aload_n hx hb dX5_passWord_10 rfl (lv_at hl 1 rfl) ?_
    refine cn_wv (ck_V (a := eP E 3) S lk_X5_40 (c_X5_adv l E I A K T n z hE hT hz) ⟨rfl, rfl⟩ ⟨Nat.le_of_ble_eq_true rfl, Nat.le_of_ble_eq_true rfl⟩ bl_w (rc_w hK hP 3 (by decide) (cK_lo (by decide)) rfl) (bw_U hE hK hC hP hS) rfl hl.1 (Nat.le_of_ble_eq_true rfl) ⟨Nat.le_refl _, Nat.le_refl _⟩ dX5_passWord_11 rfl) hS (fun u4 H locs g5 hP hS => ?_)
    obtain rfl : u4 = (tkW I T n (zA T n z), A, K) := g5
    have hP : Wp cN E cK ((tkW I T n ((zA T n z))), A, K) H := hP
    refine lv_iload_n hx hb dX5_passWord_14 rfl (lv_at hl 0 rfl) ?_
    exact re_wz (x := ((tkW I T n ((zA T n z))), A, K)) (v := (bI (zW T n (tw i) z))) hx hb hr hlk (bI_nar _) hP hS ⟨rfl, by unfold zPW; rw [bI_t h7]; rfl⟩ dX5_passWord_15

set_option maxHeartbeats 1000000 in
set_option maxRecDepth 100000 in
theorem c_X5_passSign (l : Launch) (E : En) (I A : Nat → Nat → Int32) (K : Nat → Nat → Int64) (T : Nat → Int32) (n : Nat) (z : Tz) (ch : Int32) (hE : Ev cN E) (hT : A 1 = T) (hz : zOk n z) : Met l yX5_passSign (wz yX5_passSign cX5_passSign 3 (some .boolean)) (rmk 2 0 0 50) (va_Pc [.ref (eP E 3), .int ch] (Bw cN E cK (tkW I T n z, A, K))) (qWi cN E cK (fun zz uu => zz = bI (zS T n ch z) ∧ uu = (tkW I T n (zPS T n ch z), A, K))) 0 0 (cA cN E) := by
  refine en_ofW RX5 rfl (by decide +kernel) (Nat.le_of_ble_eq_true rfl) ?_
  intro p e s m below meth c ls S hr hlk hnm hl hB
  have hx := S.1
  have hb := S.2.1
  obtain ⟨hK, hC, hP⟩ := hB
  have hS : va_S (cA cN E) s.heap s.heap [] := va_S.rf
  have hl : lv_has ls 3 [(0, .ref (eP E 3)), (1, .int ch)] := hl
  obtain ⟨hz1, hz2⟩ := id hz
  refine lv_aload_n hx hb dX5_passSign_0 rfl (lv_at hl 0 rfl) ?_
  refine lv_iload_n hx hb dX5_passSign_1 rfl (lv_at hl 1 rfl) ?_
  refine cn_si (ck_V (a := eP E 3) S lk_X5_67 (c_X5_isSign l E I A K T n z ch hE hT hz) ⟨rfl, rfl⟩ ⟨Nat.le_of_ble_eq_true rfl, Nat.le_of_ble_eq_true rfl⟩ bl_w (rc_w hK hP 3 (by decide) (cK_lo (by decide)) rfl) (bw_U hE hK hC hP hS) rfl hl.1 (Nat.le_of_ble_eq_true rfl) ⟨Nat.le_refl _, Nat.le_refl _⟩ dX5_passSign_2 rfl) (fun r1 g2 => ?_)
  obtain rfl : r1 = bI (zS T n ch z) := g2
  refine lv_istore_n (lv' := [(2, .int (bI (zS T n ch z))), (0, .ref (eP E 3)), (1, .int ch)]) hx hb dX5_passSign_5 rfl hl (by decide) rfl (fun ls hl => ?_)
  refine lv_iload_n hx hb dX5_passSign_6 rfl (lv_at hl 0 rfl) ?_
  refine lv_if_eq (tgt := 14) hx hb dX5_passSign_7 (by decide) (fun h7 => ?_) (fun h7 => ?_)
  · refine lv_iload_n hx hb dX5_passSign_14 rfl (lv_at hl 0 rfl) ?_
    exact re_wz (x := ((tkW I T n z), A, K)) (v := (bI (zS T n ch z))) hx hb hr hlk (bI_nar _) hP hS ⟨rfl, by unfold zPS; rw [bI_f h7]; rfl⟩ dX5_passSign_15
  · refine lv_aload_n hx hb dX5_passSign_10 rfl (lv_at hl 1 rfl) ?_
    refine cn_wv (ck_V (a := eP E 3) S lk_X5_40 (c_X5_adv l E I A K T n z hE hT hz) ⟨rfl, rfl⟩ ⟨Nat.le_of_ble_eq_true rfl, Nat.le_of_ble_eq_true rfl⟩ bl_w (rc_w hK hP 3 (by decide) (cK_lo (by decide)) rfl) (bw_U hE hK hC hP hS) rfl hl.1 (Nat.le_of_ble_eq_true rfl) ⟨Nat.le_refl _, Nat.le_refl _⟩ dX5_passSign_11 rfl) hS (fun u4 H locs g5 hP hS => ?_)
    obtain rfl : u4 = (tkW I T n (zA T n z), A, K) := g5
    have hP : Wp cN E cK ((tkW I T n ((zA T n z))), A, K) H := hP
    refine lv_iload_n hx hb dX5_passSign_14 rfl (lv_at hl 0 rfl) ?_
    exact re_wz (x := ((tkW I T n ((zA T n z))), A, K)) (v := (bI (zS T n ch z))) hx hb hr hlk (bI_nar _) hP hS ⟨rfl, by unfold zPS; rw [bI_t h7]; rfl⟩ dX5_passSign_15

set_option maxHeartbeats 1000000 in
set_option maxRecDepth 100000 in
theorem c_X5_needWord (l : Launch) (E : En) (I A : Nat → Nat → Int32) (K : Nat → Nat → Int64) (T : Nat → Int32) (n : Nat) (z : Tz) (i : Nat) (hE : Ev cN E) (hT : A 1 = T) (hz : zOk n z) (hi : i < 17) : Met l yX5_needWord (wz yX5_needWord cX5_needWord 2 none) (rmk 6 0 0 137) (va_Pc [.ref (eP E 3), .ref (eS E i)] (Bw cN E cK (tkW I T n z, A, K))) (qWv cN E cK (fun uu => uu = (tkW I T n (zNW T n (tw i) z), A, K))) 0 0 (cA cN E) := by
  refine en_ofW RX5 rfl (by decide +kernel) (Nat.le_of_ble_eq_true rfl) ?_
  intro p e s m below meth c ls S hr hlk hnm hl hB
  have hx := S.1
  have hb := S.2.1
  obtain ⟨hK, hC, hP⟩ := hB
  have hS : va_S (cA cN E) s.heap s.heap [] := va_S.rf
  have hl : lv_has ls 2 [(0, .ref (eP E 3)), (1, .ref (eS E i))] := hl
  obtain ⟨hz1, hz2⟩ := id hz
  refine lv_aload_n hx hb dX5_needWord_0 rfl (lv_at hl 0 rfl) ?_
  refine lv_aload_n hx hb dX5_needWord_1 rfl (lv_at hl 1 rfl) ?_
  refine cn_wi (ck_V (a := eP E 3) S lk_X5_71 (c_X5_passWord l E I A K T n z i hE hT hz hi) ⟨rfl, rfl⟩ ⟨Nat.le_of_ble_eq_true rfl, Nat.le_of_ble_eq_true rfl⟩ bl_w (rc_w hK hP 3 (by decide) (cK_lo (by decide)) rfl) (bw_U hE hK hC hP hS) rfl hl.1 (Nat.le_of_ble_eq_true rfl) ⟨Nat.le_refl _, Nat.le_refl _⟩ dX5_needWord_2 rfl) hS (fun r1 u2 H locs g3 hP hS => ?_)
  obtain ⟨rfl, rfl⟩ : r1 = bI (zW T n (tw i) z) ∧ u2 = (tkW I T n (zPW T n (tw i) z), A, K) := g3
  have hP : Wp cN E cK ((tkW I T n ((zPW T n (tw i) z))), A, K) H := hP
  refine lv_if_ne (tgt := 14) hx hb dX5_needWord_5 (by decide) (fun h5 => ?_) (fun h5 => ?_)
  · exact re_wv (x := ((tkW I T n ((zPW T n (tw i) z))), A, K)) hx hb hr hlk hP hS (by unfold zNW zPW; rw [bI_t h5]; rfl) dX5_needWord_14
  · refine lv_aload_n hx hb dX5_needWord_8 rfl (lv_at hl 0 rfl) ?_
    refine lv_bipush (v := (-2)) hx hb dX5_needWord_9 (by decide) ?_
    refine cn_wv (ck_V (a := eP E 3) S lk_X5_74 (c_X5_fail l E I A K T n ((zPW T n (tw i) z)) (-2) hE hT (zOk_PW hz) (by decide)) ⟨rfl, rfl⟩ ⟨Nat.le_of_ble_eq_true rfl, Nat.le_of_ble_eq_true rfl⟩ bl_w (rc_w hK hP 3 (by decide) (cK_lo (by decide)) rfl) (bw_U hE hK hC hP hS) rfl hl.1 (Nat.le_of_ble_eq_true rfl) ⟨Nat.le_refl _, Nat.le_refl _⟩ dX5_needWord_11 rfl) hS (fun u5 H locs g6 hP hS => ?_)
    obtain rfl : u5 = (tkW I T n (zF (-2) ((zPW T n (tw i) z))), A, K) := g6
    have hP : Wp cN E cK ((tkW I T n ((zF (-2) ((zPW T n (tw i) z))))), A, K) H := hP
    exact re_wv (x := ((tkW I T n ((zF (-2) ((zPW T n (tw i) z))))), A, K)) hx hb hr hlk hP hS (by unfold zNW zPW; rw [bI_f h5]; rfl) dX5_needWord_14

set_option maxHeartbeats 1000000 in
set_option maxRecDepth 100000 in
theorem c_X5_needSign (l : Launch) (E : En) (I A : Nat → Nat → Int32) (K : Nat → Nat → Int64) (T : Nat → Int32) (n : Nat) (z : Tz) (ch : Int32) (hE : Ev cN E) (hT : A 1 = T) (hz : zOk n z) : Met l yX5_needSign (wz yX5_needSign cX5_needSign 2 none) (rmk 3 0 0 72) (va_Pc [.ref (eP E 3), .int ch] (Bw cN E cK (tkW I T n z, A, K))) (qWv cN E cK (fun uu => uu = (tkW I T n (zNS T n ch z), A, K))) 0 0 (cA cN E) := by
  refine en_ofW RX5 rfl (by decide +kernel) (Nat.le_of_ble_eq_true rfl) ?_
  intro p e s m below meth c ls S hr hlk hnm hl hB
  have hx := S.1
  have hb := S.2.1
  obtain ⟨hK, hC, hP⟩ := hB
  have hS : va_S (cA cN E) s.heap s.heap [] := va_S.rf
  have hl : lv_has ls 2 [(0, .ref (eP E 3)), (1, .int ch)] := hl
  obtain ⟨hz1, hz2⟩ := id hz
  refine lv_aload_n hx hb dX5_needSign_0 rfl (lv_at hl 0 rfl) ?_
  refine lv_iload_n hx hb dX5_needSign_1 rfl (lv_at hl 1 rfl) ?_
  refine cn_wi (ck_V (a := eP E 3) S lk_X5_78 (c_X5_passSign l E I A K T n z ch hE hT hz) ⟨rfl, rfl⟩ ⟨Nat.le_of_ble_eq_true rfl, Nat.le_of_ble_eq_true rfl⟩ bl_w (rc_w hK hP 3 (by decide) (cK_lo (by decide)) rfl) (bw_U hE hK hC hP hS) rfl hl.1 (Nat.le_of_ble_eq_true rfl) ⟨Nat.le_refl _, Nat.le_refl _⟩ dX5_needSign_2 rfl) hS (fun r1 u2 H locs g3 hP hS => ?_)
  obtain ⟨rfl, rfl⟩ : r1 = bI (zS T n ch z) ∧ u2 = (tkW I T n (zPS T n ch z), A, K) := g3
  have hP : Wp cN E cK ((tkW I T n ((zPS T n ch z))), A, K) H := hP
  refine lv_if_ne (tgt := 14) hx hb dX5_needSign_5 (by decide) (fun h5 => ?_) (fun h5 => ?_)
  · exact re_wv (x := ((tkW I T n ((zPS T n ch z))), A, K)) hx hb hr hlk hP hS (by unfold zNS zPS; rw [bI_t h5]; rfl) dX5_needSign_14
  · refine lv_aload_n hx hb dX5_needSign_8 rfl (lv_at hl 0 rfl) ?_
    refine lv_bipush (v := (-2)) hx hb dX5_needSign_9 (by decide) ?_
    refine cn_wv (ck_V (a := eP E 3) S lk_X5_74 (c_X5_fail l E I A K T n ((zPS T n ch z)) (-2) hE hT (zOk_PS hz) (by decide)) ⟨rfl, rfl⟩ ⟨Nat.le_of_ble_eq_true rfl, Nat.le_of_ble_eq_true rfl⟩ bl_w (rc_w hK hP 3 (by decide) (cK_lo (by decide)) rfl) (bw_U hE hK hC hP hS) rfl hl.1 (Nat.le_of_ble_eq_true rfl) ⟨Nat.le_refl _, Nat.le_refl _⟩ dX5_needSign_11 rfl) hS (fun u5 H locs g6 hP hS => ?_)
    obtain rfl : u5 = (tkW I T n (zF (-2) ((zPS T n ch z))), A, K) := g6
    have hP : Wp cN E cK ((tkW I T n ((zF (-2) ((zPS T n ch z))))), A, K) H := hP
    exact re_wv (x := ((tkW I T n ((zF (-2) ((zPS T n ch z))))), A, K)) hx hb hr hlk hP hS (by unfold zNS zPS; rw [bI_f h5]; rfl) dX5_needSign_14

set_option maxHeartbeats 1000000 in
set_option maxRecDepth 100000 in
theorem c_X5_needNumber (l : Launch) (E : En) (I A : Nat → Nat → Int32) (K : Nat → Nat → Int64) (T : Nat → Int32) (n : Nat) (z : Tz) (lo hi : Int32) (hE : Ev cN E) (hT : A 1 = T) (hz : zOk n z) : Met l yX5_needNumber (wz yX5_needNumber cX5_needNumber 4 (some .int)) (rmk 2 0 0 50) (va_Pc [.ref (eP E 3), .int lo, .int hi] (Bw cN E cK (tkW I T n z, A, K))) (qWi cN E cK (fun zz uu => zz = zNv T n lo hi z ∧ uu = (tkW I T n (zNz T n lo hi z), A, K))) 0 0 (cA cN E) := by
  refine en_ofW RX5 rfl (by decide +kernel) (Nat.le_of_ble_eq_true rfl) ?_
  intro p e s m below meth c ls S hr hlk hnm hl hB
  have hx := S.1
  have hb := S.2.1
  obtain ⟨hK, hC, hP⟩ := hB
  have hS : va_S (cA cN E) s.heap s.heap [] := va_S.rf
  have hl : lv_has ls 4 [(0, .ref (eP E 3)), (1, .int lo), (2, .int hi)] := hl
  obtain ⟨hz1, hz2⟩ := id hz
  refine lv_aload_n hx hb dX5_needNumber_0 rfl (lv_at hl 0 rfl) ?_
  refine rw_geti (x := ((tkW I T n z), A, K)) (v := (if z.1 = 0 then tkK T n z.2 else 0)) S hK hP 3 (by decide) (cK_lo (by decide)) fk_X5_15 rfl rfl dX5_needNumber_1 ?_
  refine lv_iconst (v := 1) hx hb dX5_needNumber_4 (by decide) ?_
  refine lv_icmp_eq (tgt := 16) hx hb dX5_needNumber_5 (by decide) (fun h5 => ?_) (fun h5 => ?_)
  · have hzn : zN T n z = true := decide_eq_true (tk_is (by decide) h5)
    refine lv_aload_n hx hb dX5_needNumber_16 rfl (lv_at hl 0 rfl) ?_
    refine rw_geti (x := ((tkW I T n z), A, K)) (v := (tkV T n z.2)) S hK hP 3 (by decide) (cK_lo (by decide)) fk_X5_24 rfl rfl dX5_needNumber_17 ?_
    refine lv_istore_n (lv' := [(3, .int (tkV T n z.2)), (0, .ref (eP E 3)), (1, .int lo), (2, .int hi)]) hx hb dX5_needNumber_20 rfl hl (by decide) rfl (fun ls hl => ?_)
    refine lv_iload_n hx hb dX5_needNumber_21 rfl (lv_at hl 0 rfl) ?_
    refine lv_iload_n hx hb dX5_needNumber_22 rfl (lv_at hl 2 rfl) ?_
    refine lv_icmp_lt (tgt := 31) hx hb dX5_needNumber_23 (by decide) (fun h23 => ?_) (fun h23 => ?_)
    · refine lv_aload_n hx hb dX5_needNumber_31 rfl (lv_at hl 1 rfl) ?_
      refine lv_bipush (v := (-3)) hx hb dX5_needNumber_32 (by decide) ?_
      refine cn_wv (ck_V (a := eP E 3) S lk_X5_74 (c_X5_fail l E I A K T n z (-3) hE hT hz (by decide)) ⟨rfl, rfl⟩ ⟨Nat.le_of_ble_eq_true rfl, Nat.le_of_ble_eq_true rfl⟩ bl_w (rc_w hK hP 3 (by decide) (cK_lo (by decide)) rfl) (bw_U hE hK hC hP hS) rfl hl.1 (Nat.le_of_ble_eq_true rfl) ⟨Nat.le_refl _, Nat.le_refl _⟩ dX5_needNumber_34 rfl) hS (fun u2 H locs g3 hP hS => ?_)
      obtain rfl : u2 = (tkW I T n (zF (-3) z), A, K) := g3
      have hP : Wp cN E cK ((tkW I T n ((zF (-3) z))), A, K) H := hP
      refine lv_iload_n hx hb dX5_needNumber_37 rfl (lv_at hl 2 rfl) ?_
      exact re_wi (x := ((tkW I T n ((zF (-3) z))), A, K)) (v := lo) hx hb hr hlk hP hS ⟨by unfold zNv; rw [if_pos hzn, if_pos h23], by unfold zNz; rw [if_pos hzn, if_pos h23]⟩ dX5_needNumber_38
    · refine lv_iload_n hx hb dX5_needNumber_26 rfl (lv_at hl 0 rfl) ?_
      refine lv_iload_n hx hb dX5_needNumber_27 rfl (lv_at hl 3 rfl) ?_
      refine lv_icmp_le (tgt := 39) hx hb dX5_needNumber_28 (by decide) (fun h28 => ?_) (fun h28 => ?_)
      · refine lv_aload_n hx hb dX5_needNumber_39 rfl (lv_at hl 1 rfl) ?_
        refine cn_wv (ck_V (a := eP E 3) S lk_X5_40 (c_X5_adv l E I A K T n z hE hT hz) ⟨rfl, rfl⟩ ⟨Nat.le_of_ble_eq_true rfl, Nat.le_of_ble_eq_true rfl⟩ bl_w (rc_w hK hP 3 (by decide) (cK_lo (by decide)) rfl) (bw_U hE hK hC hP hS) rfl hl.1 (Nat.le_of_ble_eq_true rfl) ⟨Nat.le_refl _, Nat.le_refl _⟩ dX5_needNumber_40 rfl) hS (fun u5 H locs g6 hP hS => ?_)
        obtain rfl : u5 = (tkW I T n (zA T n z), A, K) := g6
        have hP : Wp cN E cK ((tkW I T n ((zA T n z))), A, K) H := hP
        refine lv_iload_n hx hb dX5_needNumber_43 rfl (lv_at hl 0 rfl) ?_
        exact re_wi (x := ((tkW I T n ((zA T n z))), A, K)) (v := (tkV T n z.2)) hx hb hr hlk hP hS ⟨by unfold zNv; rw [if_pos hzn, if_neg h23, if_neg (n_lt h28)], by unfold zNz; rw [if_pos hzn, if_neg h23, if_neg (n_lt h28)]⟩ dX5_needNumber_44
      · have hgt : hi < tkV T n z.2 := l_lt h28
        refine lv_aload_n hx hb dX5_needNumber_31 rfl (lv_at hl 1 rfl) ?_
        refine lv_bipush (v := (-3)) hx hb dX5_needNumber_32 (by decide) ?_
        refine cn_wv (ck_V (a := eP E 3) S lk_X5_74 (c_X5_fail l E I A K T n z (-3) hE hT hz (by decide)) ⟨rfl, rfl⟩ ⟨Nat.le_of_ble_eq_true rfl, Nat.le_of_ble_eq_true rfl⟩ bl_w (rc_w hK hP 3 (by decide) (cK_lo (by decide)) rfl) (bw_U hE hK hC hP hS) rfl hl.1 (Nat.le_of_ble_eq_true rfl) ⟨Nat.le_refl _, Nat.le_refl _⟩ dX5_needNumber_34 rfl) hS (fun u8 H locs g9 hP hS => ?_)
        obtain rfl : u8 = (tkW I T n (zF (-3) z), A, K) := g9
        have hP : Wp cN E cK ((tkW I T n ((zF (-3) z))), A, K) H := hP
        refine lv_iload_n hx hb dX5_needNumber_37 rfl (lv_at hl 2 rfl) ?_
        exact re_wi (x := ((tkW I T n ((zF (-3) z))), A, K)) (v := lo) hx hb hr hlk hP hS ⟨by unfold zNv; rw [if_pos hzn, if_neg h23, if_pos hgt], by unfold zNz; rw [if_pos hzn, if_neg h23, if_pos hgt]⟩ dX5_needNumber_38
  · have hzn : ¬ zN T n z = true := fun q => tk_nis h5 (of_decide_eq_true q)
    refine lv_aload_n hx hb dX5_needNumber_8 rfl (lv_at hl 0 rfl) ?_
    refine lv_bipush (v := (-2)) hx hb dX5_needNumber_9 (by decide) ?_
    refine cn_wv (ck_V (a := eP E 3) S lk_X5_74 (c_X5_fail l E I A K T n z (-2) hE hT hz (by decide)) ⟨rfl, rfl⟩ ⟨Nat.le_of_ble_eq_true rfl, Nat.le_of_ble_eq_true rfl⟩ bl_w (rc_w hK hP 3 (by decide) (cK_lo (by decide)) rfl) (bw_U hE hK hC hP hS) rfl hl.1 (Nat.le_of_ble_eq_true rfl) ⟨Nat.le_refl _, Nat.le_refl _⟩ dX5_needNumber_11 rfl) hS (fun u11 H locs g12 hP hS => ?_)
    obtain rfl : u11 = (tkW I T n (zF (-2) z), A, K) := g12
    have hP : Wp cN E cK ((tkW I T n ((zF (-2) z))), A, K) H := hP
    refine lv_iload_n hx hb dX5_needNumber_14 rfl (lv_at hl 1 rfl) ?_
    exact re_wi (x := ((tkW I T n ((zF (-2) z))), A, K)) (v := lo) hx hb hr hlk hP hS ⟨by unfold zNv; rw [if_neg hzn], by unfold zNz; rw [if_neg hzn]⟩ dX5_needNumber_15

