/-- the need of a text of a size in a scheme -/
def zNd (T : Nat → Int32) (n : Nat) (fp : Option Nat) (sz sc : Int32) : Int32 := match fp with
  | none => 450
  | some q => pLim (zSu T n sz sc 4 (0, q)).1 100 2100
def zSt (T : Nat → Int32) (n : Nat) (fp : Option Nat) (A : Nat → Nat → Int32) : Nat → Nat → Nat → Int32 := lfo (fun u B => if A (dB 1 7) u = -1 then up2 (up2 B (dB 1 9) u (zNd T n fp (A 5 u) 0)) (dB 1 10) u (zNd T n fp (A 5 u) 1) else B) A
theorem zSt_ne {T : Nat → Int32} {n : Nat} {fp : Option Nat} {A : Nat → Nat → Int32} {a : Nat} (h9 : a ≠ dB 1 9) (h10 : a ≠ dB 1 10) : ∀ k, zSt T n fp A k a = A a
  | 0 => rfl
  | k + 1 => by
    show (if A (dB 1 7) k = -1 then up2 (up2 (zSt T n fp A k) (dB 1 9) k (zNd T n fp (A 5 k) 0)) (dB 1 10) k (zNd T n fp (A 5 k) 1) else zSt T n fp A k) a = A a
    split
    · rw [up2_row h10, up2_row h9, zSt_ne h9 h10 k]
    · exact zSt_ne h9 h10 k
theorem zSt_v {T : Nat → Int32} {n : Nat} {fp : Option Nat} {A : Nat → Nat → Int32} {a i j k : Nat} {v : Int32} (h9 : a ≠ dB 1 9) (h10 : a ≠ dB 1 10) : up2 (zSt T n fp A k) (dB 1 9) i v a j = A a j := by rw [up2_q h9, zSt_ne h9 h10]
theorem zSt_y {T : Nat → Int32} {n : Nat} {fp : Option Nat} {A : Nat → Nat → Int32} {k : Nat} (h : A (dB 1 7) k = -1) : zSt T n fp A (k + 1) = up2 (up2 (zSt T n fp A k) (dB 1 9) k (zNd T n fp (A 5 k) 0)) (dB 1 10) k (zNd T n fp (A 5 k) 1) := if_pos h
theorem zSt_n {T : Nat → Int32} {n : Nat} {fp : Option Nat} {A : Nat → Nat → Int32} {k : Nat} (h : ¬ A (dB 1 7) k = -1) : zSt T n fp A (k + 1) = zSt T n fp A k := if_neg h
/-- the floor's size and scheme of the latest sum -/
def fS (I : Nat → Nat → Int32) (a b : Int32) : Nat → Nat → Int32 := up2 (up2 I 4 2 a) 4 3 b
theorem fS_self {I : Nat → Nat → Int32} : fS I (I 4 2) (I 4 3) = I := by
  funext i j
  unfold fS
  rw [up2_at, up2_at]
  by_cases h3 : i = 4 ∧ j = 3
  · rw [if_pos h3, h3.1, h3.2]
  · rw [if_neg h3]
    by_cases h2 : i = 4 ∧ j = 2
    · rw [if_pos h2, h2.1, h2.2]
    · rw [if_neg h2]
theorem fS_fS {I : Nat → Nat → Int32} {a b c d : Int32} : up2 (up2 (fS I a b) 4 2 c) 4 3 d = fS I c d := by
  funext i j
  unfold fS
  simp only [up2_at]
  by_cases h3 : i = 4 ∧ j = 3
  · simp [h3]
  · by_cases h2 : i = 4 ∧ j = 2 <;> simp [h2, h3]
theorem fS_ne {I : Nat → Nat → Int32} {a b : Int32} {i : Nat} (h : i ≠ 4) : fS I a b i = I i := by
  unfold fS
  rw [up2_row h, up2_row h]
theorem optI_n {fp : Option Nat} (h : fp = none) : optI fp = -1 := by rw [h]; rfl
set_option maxHeartbeats 1000000 in
set_option maxRecDepth 100000 in
theorem c_X2_textNeed (l : Launch) (E : En) (I A : Nat → Nat → Int32) (K : Nat → Nat → Int64) (T : Nat → Int32) (n : Nat) (z : Tz) (sz sc : Int32) (fp : Option Nat) (hE : Ev cN E) (hT : A 1 = T) (hz : zOk n z) (h0 : z.1 = 0) (hfp : I 4 1 = optI fp) (hfq : ∀ q, fp = some q → q ≤ n) (hfo : fOk T n fp) : Met l yX2_textNeed (wz yX2_textNeed cX2_textNeed 3 (some .int)) (rmk 21 0 0 477) (va_Pc [.ref (eP E 4), .int sz, .int sc] (Bw cN E cK (tkW I T n z, A, K))) (qWi cN E cK (fun zz uu => zz = zNd T n fp sz sc ∧ ∃ a b y, (zOk n y ∧ y.1 = 0) ∧ uu = (tkW (fS I a b) T n y, A, K))) 0 0 (cA cN E) := by
  refine en_ofW RX2 rfl (by decide +kernel) (Nat.le_of_ble_eq_true rfl) ?_
  intro p e s m below meth c ls S hr hlk hnm hl hB
  have hx := S.1
  have hb := S.2.1
  obtain ⟨hK, hC, hP⟩ := hB
  have hS : va_S (cA cN E) s.heap s.heap [] := va_S.rf
  have hl : lv_has ls 3 [(0, .ref (eP E 4)), (1, .int sz), (2, .int sc)] := hl
  obtain ⟨hz1, hz2⟩ := id hz
  rcases fp with _ | q
  · have hI1 : I 4 1 = (-1) := hfp
    refine lv_aload_n hx hb dX2_textNeed_0 rfl (lv_at hl 0 rfl) ?_
    refine rw_geti (x := ((tkW I T n z), A, K)) (v := (-1)) S hK hP 4 (by decide) (cK_lo (by decide)) fk_X2_11 rfl ((tkW_ne (I := I) (T := T) (n := n) (z := z) (a := 4) (b := 1) (by decide)).trans hI1) dX2_textNeed_1 ?_
    refine lv_iconst (v := (-1)) hx hb dX2_textNeed_4 (by decide) ?_
    refine lv_icmp_ne (tgt := 12) hx hb dX2_textNeed_5 (by decide) (fun h5 => absurd h5 (by decide)) (fun h5 => ?_)
    refine lv_sipush (v := 450) hx hb dX2_textNeed_8 (by decide) ?_
    exact re_wi (x := ((tkW I T n z), A, K)) (v := 450) hx hb hr hlk hP hS ⟨rfl, I 4 2, I 4 3, z, ⟨hz, h0⟩, by rw [fS_self]⟩ dX2_textNeed_11
  · have hI1 : I 4 1 = nI q := hfp
    have hq := hfq q rfl
    refine lv_aload_n hx hb dX2_textNeed_0 rfl (lv_at hl 0 rfl) ?_
    refine rw_geti (x := ((tkW I T n z), A, K)) (v := nI q) S hK hP 4 (by decide) (cK_lo (by decide)) fk_X2_11 rfl ((tkW_ne (I := I) (T := T) (n := n) (z := z) (a := 4) (b := 1) (by decide)).trans hI1) dX2_textNeed_1 ?_
    refine lv_iconst (v := (-1)) hx hb dX2_textNeed_4 (by decide) ?_
    refine lv_icmp_ne (tgt := 12) hx hb dX2_textNeed_5 (by decide) (fun h5 => ?_) (fun h5 => absurd h5 (show ¬ nI q = -1 from fun e => nI_pos (n := q) (by omega) (by rw [e]; decide)))
    refine lv_aload_n hx hb dX2_textNeed_12 rfl (lv_at hl 0 rfl) ?_
    refine lv_iload_n hx hb dX2_textNeed_13 rfl (lv_at hl 1 rfl) ?_
    refine rw_puti (x := ((tkW I T n z), A, K)) (v := sz) S hE hK hP hS 4 (by decide) (cK_lo (by decide)) fk_X2_15 rfl tyX2_ok nmX2 ⟨rfl, by decide +kernel⟩ dX2_textNeed_14 (fun H locs hP hS => ?_)
    have hP : Wp cN E cK (up2 (tkW I T n z) 4 2 sz, A, K) H := hP
    rw [tkW_up (by decide)] at hP
    have hP : Wp cN E cK ((tkW (up2 I 4 2 sz) T n z), A, K) H := hP
    refine lv_aload_n hx hb dX2_textNeed_17 rfl (lv_at hl 0 rfl) ?_
    refine lv_iload_n hx hb dX2_textNeed_18 rfl (lv_at hl 2 rfl) ?_
    refine rw_puti (x := ((tkW (up2 I 4 2 sz) T n z), A, K)) (v := sc) S hE hK hP hS 4 (by decide) (cK_lo (by decide)) fk_X2_18 rfl tyX2_ok nmX2 ⟨rfl, by decide +kernel⟩ dX2_textNeed_19 (fun H locs hP hS => ?_)
    have hP : Wp cN E cK (up2 (tkW (up2 I 4 2 sz) T n z) 4 3 sc, A, K) H := hP
    rw [tkW_up (by decide)] at hP
    have hP : Wp cN E cK ((tkW (up2 (up2 I 4 2 sz) 4 3 sc) T n z), A, K) H := hP
    refine lv_aload_n hx hb dX2_textNeed_22 rfl (lv_at hl 0 rfl) ?_
    refine rw_getr (x := ((tkW (up2 (up2 I 4 2 sz) 4 3 sc) T n z), A, K)) S hK hP 4 (by decide) (cK_lo (by decide)) fk_X2_21 rfl dX2_textNeed_23 ?_
    refine lv_aload_n hx hb dX2_textNeed_26 rfl (lv_at hl 0 rfl) ?_
    refine rw_geti (x := ((tkW (up2 (up2 I 4 2 sz) 4 3 sc) T n z), A, K)) (v := nI q) S hK hP 4 (by decide) (cK_lo (by decide)) fk_X2_11 rfl ((tkW_ne (I := (up2 (up2 I 4 2 sz) 4 3 sc)) (T := T) (n := n) (z := z) (a := 4) (b := 1) (by decide)).trans ((up2_j (f := (up2 I 4 2 sz)) (q := 4) (j := 3) (a := 4) (b := 1) (v := sc) (by decide)).trans ((up2_j (f := I) (q := 4) (j := 2) (a := 4) (b := 1) (v := sz) (by decide)).trans hI1))) dX2_textNeed_27 ?_
    refine cn_wv (ck_V (a := eP E 3) S lk_X2_38 (c_X5_reopen l E (up2 (up2 I 4 2 sz) 4 3 sc) A K T n q z hE hT hz hq h0) ⟨rfl, rfl⟩ ⟨Nat.le_of_ble_eq_true rfl, Nat.le_of_ble_eq_true rfl⟩ bl_w (rc_w hK hP 3 (by decide) (cK_lo (by decide)) rfl) (bw_U hE hK hC hP hS) rfl hl.1 (Nat.le_of_ble_eq_true rfl) ⟨Nat.le_refl _, Nat.le_refl _⟩ dX2_textNeed_30 rfl) hS (fun u2 H locs g3 hP hS => ?_)
    obtain rfl : u2 = (tkW (up2 (up2 I 4 2 sz) 4 3 sc) T n (0, q), A, K) := g3
    have hP : Wp cN E cK ((tkW (up2 (up2 I 4 2 sz) 4 3 sc) T n (0, q)), A, K) H := hP
    refine lv_aload_n hx hb dX2_textNeed_33 rfl (lv_at hl 0 rfl) ?_
    refine lv_iconst (v := 0) hx hb dX2_textNeed_34 (by decide) ?_
    refine cn_wi (ck_V (a := eP E 4) S lk_X2_34 (c_X2_sum_4 l E (up2 (up2 I 4 2 sz) 4 3 sc) A K T n (0, q) hE hT (⟨hq, hz2⟩ : zOk n (0, q))) ⟨rfl, rfl⟩ ⟨Nat.le_of_ble_eq_true rfl, Nat.le_of_ble_eq_true rfl⟩ bl_w (rc_w hK hP 4 (by decide) (cK_lo (by decide)) rfl) (bw_U hE hK hC hP hS) rfl hl.1 (Nat.le_of_ble_eq_true rfl) ⟨Nat.le_refl _, Nat.le_refl _⟩ dX2_textNeed_35 rfl) hS (fun r4 u5 H locs g6 hP hS => ?_)
    obtain ⟨rfl, rfl⟩ : r4 = (zSu T n ((up2 (up2 I 4 2 sz) 4 3 sc) 4 2) ((up2 (up2 I 4 2 sz) 4 3 sc) 4 3) 4 (0, q)).1 ∧ u5 = (tkW (up2 (up2 I 4 2 sz) 4 3 sc) T n (zSu T n ((up2 (up2 I 4 2 sz) 4 3 sc) 4 2) ((up2 (up2 I 4 2 sz) 4 3 sc) 4 3) 4 (0, q)).2, A, K) := g6
    have hP : Wp cN E cK ((tkW (up2 (up2 I 4 2 sz) 4 3 sc) T n ((zSu T n ((up2 (up2 I 4 2 sz) 4 3 sc) 4 2) ((up2 (up2 I 4 2 sz) 4 3 sc) 4 3) 4 (0, q)).2)), A, K) H := hP
    have hP : Wp cN E cK (tkW (fS I sz sc) T n (zSu T n sz sc 4 (0, q)).2, A, K) H := hP
    refine tp_i (y := (zSu T n sz sc 4 (0, q)).1) rfl ?_
    refine lv_bipush (v := 100) hx hb dX2_textNeed_38 (by decide) ?_
    refine lv_sipush (v := 2100) hx hb dX2_textNeed_40 (by decide) ?_
    refine cn_si (ck_N S ln_X6_limited hC.1.1.2.2.2.1 (c_X6_limited l ((zSu T n sz sc 4 (0, q)).1) 100 2100) ⟨rfl, rfl⟩ ⟨Nat.le_of_ble_eq_true rfl, Nat.le_of_ble_eq_true rfl⟩ bl_T t_U rfl hl.1 (Nat.le_of_ble_eq_true rfl) ⟨Nat.le_refl _, Nat.le_refl _⟩ dX2_textNeed_43 rfl) (fun r7 g8 => ?_)
    obtain rfl : r7 = pLim ((zSu T n sz sc 4 (0, q)).1) 100 2100 := g8
    exact re_wi (x := ((tkW (fS I sz sc) T n (zSu T n sz sc 4 (0, q)).2), A, K)) (v := (pLim ((zSu T n sz sc 4 (0, q)).1) 100 2100)) hx hb hr hlk hP hS ⟨rfl, sz, sc, _, ⟨zOk_Su 4 _ ⟨hq, hz2⟩, (congrArg Prod.fst (zSu_i 0 0 4 _)).trans (hfo q rfl)⟩, rfl⟩ dX2_textNeed_46

theorem fS_2 {I : Nat → Nat → Int32} {a b c d : Int32} : fS (fS I a b) c d = fS I c d := by
  show up2 (up2 (fS I a b) 4 2 c) 4 3 d = fS I c d
  exact fS_fS
set_option maxHeartbeats 1000000 in
set_option maxRecDepth 100000 in
theorem c_X4_setTextNeeds (l : Launch) (E : En) (I A : Nat → Nat → Int32) (K : Nat → Nat → Int64) (T : Nat → Int32) (n : Nat) (z : Tz) (nu : Nat) (fp : Option Nat) (hE : Ev cN E) (hT : A 1 = T) (hz : zOk n z) (h0 : z.1 = 0) (hfp : I 4 1 = optI fp) (hfq : ∀ q, fp = some q → q ≤ n) (hfo : fOk T n fp) (hr3 : I (dB 1 0) 3 = nI nu) (hnu : nu ≤ 12) : Met l yX4_setTextNeeds (wz yX4_setTextNeeds cX4_setTextNeeds 3 none) (rmk 22 0 0 499) (va_Pc [.ref (eP E 2), .ref (eP E (dB 1 0))] (Bw cN E cK (tkW I T n z, A, K))) (qWv cN E cK (fun uu => ∃ a b y, (zOk n y ∧ y.1 = 0) ∧ uu = (tkW (fS I a b) T n y, zSt T n fp A nu, K))) 0 0 (cA cN E) := by
  refine en_ofW RX4 rfl (by decide +kernel) (Nat.le_of_ble_eq_true rfl) ?_
  intro p e s m below meth c ls S hr hlk hnm hl hB
  have hx := S.1
  have hb := S.2.1
  obtain ⟨hK, hC, hP⟩ := hB
  have hS : va_S (cA cN E) s.heap s.heap [] := va_S.rf
  have hl : lv_has ls 3 [(0, .ref (eP E 2)), (1, .ref (eP E (dB 1 0)))] := hl
  obtain ⟨hz1, hz2⟩ := id hz
  rw [← fS_self (I := I)] at hP
  have hP : Wp cN E cK ((tkW (fS I (I 4 2) (I 4 3)) T n z), A, K) s.heap := hP
  refine lv_iconst (v := 0) hx hb dX4_setTextNeeds_0 (by decide) ?_
  refine lv_istore_n (lv' := [(2, .int 0), (0, .ref (eP E 2)), (1, .ref (eP E (dB 1 0)))]) hx hb dX4_setTextNeeds_1 rfl hl (by decide) rfl (fun ls hl => ?_)
  have HL : ∀ (cnt i : Nat) (a b : Int32) (y : Tz), i + cnt = nu → (zOk n y ∧ y.1 = 0) → ∀ (H : Heap) (locs : List Loc), Wp cN E cK ((tkW (fS I a b) T n y), (zSt T n fp A i), K) H → va_S (cA cN E) s.heap H locs → ∀ ls : Array Slot, lv_has ls 3 [(2, .int (nI i)), (0, .ref (eP E 2)), (1, .ref (eP E (dB 1 0)))] → W p l e (rmk 22 0 0 499) s m ([.ref (eP E 2), .ref (eP E (dB 1 0))] : List Value).toArray below meth c H locs 0 0 (MQ below (qWv cN E cK (fun uu => ∃ a b y, (zOk n y ∧ y.1 = 0) ∧ uu = (tkW (fS I a b) T n y, zSt T n fp A nu, K))) ([.ref (eP E 2), .ref (eP E (dB 1 0))] : List Value).toArray s 0 0 (cA cN E)) (F0 m 2 ls []) := by
    intro cnt
    induction cnt with
    | zero =>
      intro i a b y hi hy H locs hP hS ls hl
      have hiN : i = nu := by omega
      rw [hiN] at hl
      try rw [hiN] at hP
      refine lv_iload_n hx hb dX4_setTextNeeds_2 rfl (lv_at hl 0 rfl) ?_
      refine lv_aload_n hx hb dX4_setTextNeeds_3 rfl (lv_at hl 2 rfl) ?_
      refine rw_geti (x := ((tkW (fS I a b) T n y), (zSt T n fp A nu), K)) (v := nI nu) S hK hP (dB 1 0) (dB_lt (by decide) (by decide)) (cK_D (by decide)) fk_X4_135 rfl ((tkW_ne (I := (fS I a b)) (T := T) (n := n) (z := y) (a := (dB 1 0)) (b := 3) (dB_nlo (by decide))).trans ((congrFun (fS_ne (dB_nlo (by decide))) 3).trans hr3)) dX4_setTextNeeds_4 ?_
      refine lv_icmp_ge (tgt := 70) hx hb dX4_setTextNeeds_7 (by decide) (fun h7 => ?_) (fun h7 => absurd (Int32.le_refl _) h7)
      exact re_wv (x := ((tkW (fS I a b) T n y), (zSt T n fp A nu), K)) hx hb hr hlk hP hS ⟨_, _, _, hy, rfl⟩ dX4_setTextNeeds_70
    | succ cnt ih =>
      intro i a b y hi hy H locs hP hS ls hl
      have hlt : i < nu := by omega
      refine lv_iload_n hx hb dX4_setTextNeeds_2 rfl (lv_at hl 0 rfl) ?_
      refine lv_aload_n hx hb dX4_setTextNeeds_3 rfl (lv_at hl 2 rfl) ?_
      refine rw_geti (x := ((tkW (fS I a b) T n y), (zSt T n fp A i), K)) (v := nI nu) S hK hP (dB 1 0) (dB_lt (by decide) (by decide)) (cK_D (by decide)) fk_X4_135 rfl ((tkW_ne (I := (fS I a b)) (T := T) (n := n) (z := y) (a := (dB 1 0)) (b := 3) (dB_nlo (by decide))).trans ((congrFun (fS_ne (dB_nlo (by decide))) 3).trans hr3)) dX4_setTextNeeds_4 ?_
      refine lv_icmp_ge (tgt := 70) hx hb dX4_setTextNeeds_7 (by decide) (fun h7 => absurd h7 (nI_ge hlt (by omega))) (fun h7 => ?_)
      refine lv_aload_n hx hb dX4_setTextNeeds_10 rfl (lv_at hl 2 rfl) ?_
      refine rw_getr (x := ((tkW (fS I a b) T n y), (zSt T n fp A i), K)) S hK hP (dB 1 0) (dB_lt (by decide) (by decide)) (cK_D (by decide)) fk_X4_148 rfl dX4_setTextNeeds_11 ?_
      refine lv_iload_n hx hb dX4_setTextNeeds_14 rfl (lv_at hl 0 rfl) ?_
      refine rw_iald (x := ((tkW (fS I a b) T n y), (zSt T n fp A i), K)) (v := A (dB 1 7) i) S hK hP (dB 1 7) (dB_lt (by decide) (by decide)) (cK_D (by decide)) i rfl (by omega) (by decide) (congrFun (zSt_ne (by decide) (by decide) i) i) dX4_setTextNeeds_15 ?_
      refine lv_iconst (v := (-1)) hx hb dX4_setTextNeeds_16 (by decide) ?_
      refine lv_icmp_ne (tgt := 64) hx hb dX4_setTextNeeds_17 (by decide) (fun h17 => ?_) (fun h17 => ?_)
      · refine lv_iinc (v := nI (i + 1)) (lv' := [(2, .int (nI (i + 1))), (0, .ref (eP E 2)), (1, .ref (eP E (dB 1 0)))]) hx hb dX4_setTextNeeds_64 hl (k := 0) rfl (nI_1 _) (by decide) rfl (fun ls hl => ?_)
        refine lv_goto (tgt := 2) hx hb dX4_setTextNeeds_67 (by decide) ?_
        rw [← zSt_n h17] at hP
        exact ih (i + 1) _ _ _ (by omega) hy _ _ hP hS ls (lv_sub hl [0, 1, 2] rfl)
      · refine lv_aload_n hx hb dX4_setTextNeeds_20 rfl (lv_at hl 2 rfl) ?_
        refine rw_getr (x := ((tkW (fS I a b) T n y), (zSt T n fp A i), K)) S hK hP (dB 1 0) (dB_lt (by decide) (by decide)) (cK_D (by decide)) fk_X4_151 rfl dX4_setTextNeeds_21 ?_
        refine lv_iconst (v := 0) hx hb dX4_setTextNeeds_24 (by decide) ?_
        refine rw_aald (x := ((tkW (fS I a b) T n y), (zSt T n fp A i), K)) (r := (dB 1 9)) S hK hP (dB 1 8) (dB_lt (by decide) (by decide)) 5 (cK_D (by decide)) rfl rfl 0 rfl (by decide) (by decide) rfl dX4_setTextNeeds_25 ?_
        refine lv_iload_n hx hb dX4_setTextNeeds_26 rfl (lv_at hl 0 rfl) ?_
        refine lv_aload_n hx hb dX4_setTextNeeds_27 rfl (lv_at hl 1 rfl) ?_
        refine rw_getr (x := ((tkW (fS I a b) T n y), (zSt T n fp A i), K)) S hK hP 2 (by decide) (cK_lo (by decide)) fk_X4_33 rfl dX4_setTextNeeds_28 ?_
        refine lv_aload_n hx hb dX4_setTextNeeds_31 rfl (lv_at hl 1 rfl) ?_
        refine rw_getr (x := ((tkW (fS I a b) T n y), (zSt T n fp A i), K)) S hK hP 2 (by decide) (cK_lo (by decide)) fk_X4_9 rfl dX4_setTextNeeds_32 ?_
        refine lv_iload_n hx hb dX4_setTextNeeds_35 rfl (lv_at hl 0 rfl) ?_
        refine rw_iald (x := ((tkW (fS I a b) T n y), (zSt T n fp A i), K)) (v := A 5 i) S hK hP 5 (by decide) (cK_lo (by decide)) i rfl (by omega) (by decide) (congrFun (zSt_ne (by decide) (by decide) i) i) dX4_setTextNeeds_36 ?_
        refine lv_iconst (v := 0) hx hb dX4_setTextNeeds_37 (by decide) ?_
        refine cn_wi (ck_V (a := eP E 4) S lk_X4_155 (c_X2_textNeed l E (fS I a b) (zSt T n fp A i) K T n y (A 5 i) 0 fp hE ((zSt_ne (by decide) (by decide) i).trans hT) hy.1 hy.2 hfp hfq hfo) ⟨rfl, rfl⟩ ⟨Nat.le_of_ble_eq_true rfl, Nat.le_of_ble_eq_true rfl⟩ bl_w (rc_w hK hP 4 (by decide) (cK_lo (by decide)) rfl) (bw_U hE hK hC hP hS) rfl hl.1 (Nat.le_of_ble_eq_true rfl) ⟨Nat.le_refl _, Nat.le_refl _⟩ dX4_setTextNeeds_38 rfl) hS (fun r1 u2 H locs g3 hP hS => ?_)
        obtain ⟨rfl, a4, b4, y4, ⟨hy4, h0y4⟩, rfl⟩ : r1 = zNd T n fp (A 5 i) 0 ∧ (∃ oa ob oy, (zOk n oy ∧ oy.1 = 0) ∧ u2 = (tkW (fS (fS I a b) oa ob) T n oy, (zSt T n fp A i), K)) := g3
        have hP : Wp cN E cK ((tkW (fS (fS I a b) a4 b4) T n y4), (zSt T n fp A i), K) H := hP
        refine rw_iast (x := ((tkW (fS (fS I a b) a4 b4) T n y4), (zSt T n fp A i), K)) (v := (zNd T n fp (A 5 i) 0)) S hE hK hP hS (dB 1 9) (dB_lt (by decide) (by decide)) (cK_D (by decide)) i rfl (by omega) (by decide) dX4_setTextNeeds_41 (fun H locs hP hS => ?_)
        have hP : Wp cN E cK ((tkW (fS (fS I a b) a4 b4) T n y4), (up2 (zSt T n fp A i) (dB 1 9) i (zNd T n fp (A 5 i) 0)), K) H := hP
        refine lv_aload_n hx hb dX4_setTextNeeds_42 rfl (lv_at hl 2 rfl) ?_
        refine rw_getr (x := ((tkW (fS (fS I a b) a4 b4) T n y4), (up2 (zSt T n fp A i) (dB 1 9) i (zNd T n fp (A 5 i) 0)), K)) S hK hP (dB 1 0) (dB_lt (by decide) (by decide)) (cK_D (by decide)) fk_X4_151 rfl dX4_setTextNeeds_43 ?_
        refine lv_iconst (v := 1) hx hb dX4_setTextNeeds_46 (by decide) ?_
        refine rw_aald (x := ((tkW (fS (fS I a b) a4 b4) T n y4), (up2 (zSt T n fp A i) (dB 1 9) i (zNd T n fp (A 5 i) 0)), K)) (r := (dB 1 10)) S hK hP (dB 1 8) (dB_lt (by decide) (by decide)) 5 (cK_D (by decide)) rfl rfl 1 rfl (by decide) (by decide) rfl dX4_setTextNeeds_47 ?_
        refine lv_iload_n hx hb dX4_setTextNeeds_48 rfl (lv_at hl 0 rfl) ?_
        refine lv_aload_n hx hb dX4_setTextNeeds_49 rfl (lv_at hl 1 rfl) ?_
        refine rw_getr (x := ((tkW (fS (fS I a b) a4 b4) T n y4), (up2 (zSt T n fp A i) (dB 1 9) i (zNd T n fp (A 5 i) 0)), K)) S hK hP 2 (by decide) (cK_lo (by decide)) fk_X4_33 rfl dX4_setTextNeeds_50 ?_
        refine lv_aload_n hx hb dX4_setTextNeeds_53 rfl (lv_at hl 1 rfl) ?_
        refine rw_getr (x := ((tkW (fS (fS I a b) a4 b4) T n y4), (up2 (zSt T n fp A i) (dB 1 9) i (zNd T n fp (A 5 i) 0)), K)) S hK hP 2 (by decide) (cK_lo (by decide)) fk_X4_9 rfl dX4_setTextNeeds_54 ?_
        refine lv_iload_n hx hb dX4_setTextNeeds_57 rfl (lv_at hl 0 rfl) ?_
        refine rw_iald (x := ((tkW (fS (fS I a b) a4 b4) T n y4), (up2 (zSt T n fp A i) (dB 1 9) i (zNd T n fp (A 5 i) 0)), K)) (v := A 5 i) S hK hP 5 (by decide) (cK_lo (by decide)) i rfl (by omega) (by decide) (zSt_v (a := 5) (i := i) (j := i) (k := i) (v := zNd T n fp (A 5 i) 0) (by decide) (by decide)) dX4_setTextNeeds_58 ?_
        refine lv_iconst (v := 1) hx hb dX4_setTextNeeds_59 (by decide) ?_
        refine cn_wi (ck_V (a := eP E 4) S lk_X4_155 (c_X2_textNeed l E (fS (fS I a b) a4 b4) (up2 (zSt T n fp A i) (dB 1 9) i (zNd T n fp (A 5 i) 0)) K T n y4 (A 5 i) 1 fp hE (((up2_row (by decide)).trans (zSt_ne (by decide) (by decide) i)).trans hT) hy4 h0y4 hfp hfq hfo) ⟨rfl, rfl⟩ ⟨Nat.le_of_ble_eq_true rfl, Nat.le_of_ble_eq_true rfl⟩ bl_w (rc_w hK hP 4 (by decide) (cK_lo (by decide)) rfl) (bw_U hE hK hC hP hS) rfl hl.1 (Nat.le_of_ble_eq_true rfl) ⟨Nat.le_refl _, Nat.le_refl _⟩ dX4_setTextNeeds_60 rfl) hS (fun r5 u6 H locs g7 hP hS => ?_)
        obtain ⟨rfl, a8, b8, y8, ⟨hy8, h0y8⟩, rfl⟩ : r5 = zNd T n fp (A 5 i) 1 ∧ (∃ oa ob oy, (zOk n oy ∧ oy.1 = 0) ∧ u6 = (tkW (fS (fS (fS I a b) a4 b4) oa ob) T n oy, (up2 (zSt T n fp A i) (dB 1 9) i (zNd T n fp (A 5 i) 0)), K)) := g7
        have hP : Wp cN E cK ((tkW (fS (fS (fS I a b) a4 b4) a8 b8) T n y8), (up2 (zSt T n fp A i) (dB 1 9) i (zNd T n fp (A 5 i) 0)), K) H := hP
        refine rw_iast (x := ((tkW (fS (fS (fS I a b) a4 b4) a8 b8) T n y8), (up2 (zSt T n fp A i) (dB 1 9) i (zNd T n fp (A 5 i) 0)), K)) (v := (zNd T n fp (A 5 i) 1)) S hE hK hP hS (dB 1 10) (dB_lt (by decide) (by decide)) (cK_D (by decide)) i rfl (by omega) (by decide) dX4_setTextNeeds_63 (fun H locs hP hS => ?_)
        have hP : Wp cN E cK ((tkW (fS (fS (fS I a b) a4 b4) a8 b8) T n y8), (up2 (up2 (zSt T n fp A i) (dB 1 9) i (zNd T n fp (A 5 i) 0)) (dB 1 10) i (zNd T n fp (A 5 i) 1)), K) H := hP
        refine lv_iinc (v := nI (i + 1)) (lv' := [(2, .int (nI (i + 1))), (0, .ref (eP E 2)), (1, .ref (eP E (dB 1 0)))]) hx hb dX4_setTextNeeds_64 hl (k := 0) rfl (nI_1 _) (by decide) rfl (fun ls hl => ?_)
        refine lv_goto (tgt := 2) hx hb dX4_setTextNeeds_67 (by decide) ?_
        rw [fS_2, ← zSt_y h17] at hP
        exact ih (i + 1) _ _ _ (by omega) ⟨hy8, h0y8⟩ _ _ hP hS ls (lv_sub hl [0, 1, 2] rfl)
  exact HL nu 0 (I 4 2) (I 4 3) z (by omega) ⟨hz, h0⟩ _ _ hP hS ls (lv_sub hl [0, 1, 2] rfl)

