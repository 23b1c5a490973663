/-- a byte: what the model keeps of it is its low eight bits -/
def bt (c : Int32) : Prop := ∃ b : Nat, b < 256 ∧ c &&& 255 = nI b ∧ ((b < 128 ∧ c = nI b) ∨ (128 ≤ b ∧ c < 0))
theorem bt_eq {c : Int32} {k : Nat} (h : bt c) (hk : k < 128) : (c &&& 255 = nI k ↔ c = nI k) := by
  obtain ⟨b, hb, h1, h2⟩ := h
  rw [h1]
  rcases h2 with ⟨h3, rfl⟩ | ⟨h3, h4⟩
  · exact Iff.rfl
  · constructor
    · intro e
      have := (nI_eq (by omega) (by omega)).mp e
      omega
    · intro e
      rw [e] at h4
      exact absurd h4 (nI_pos (by omega))
theorem rIn_bt {c : Int32} {lo hi : Nat} (h : bt c) (hl : lo < 128) (hh : hi < 128) : rIn (c &&& 255) (nI lo) (nI hi) = rIn c (nI lo) (nI hi) := by
  obtain ⟨b, hb, h1, h2⟩ := h
  rw [h1]
  rcases h2 with ⟨h3, rfl⟩ | ⟨h3, h4⟩
  · rfl
  · rw [rIn_n (Or.inr (nI_lt (a := hi) (b := b) (by omega) (by omega)))]
    rw [rIn_n (Or.inl (Int32.lt_of_lt_of_le h4 (nI_pos' (by omega))))]
def mBv (A : Nat → Nat → Int32) (n k : Nat) : Int32 := if k < n then A 1 k else -1
/-- the model's buffer holds the text -/
def mT (A : Nat → Nat → Int32) (T : Nat → Int32) (n : Nat) : Prop := n ≤ 700 ∧ ∀ k, k < n → A 1 k = T k &&& 255 ∧ bt (T k)
theorem mBv_eq {A : Nat → Nat → Int32} {T : Nat → Int32} {n k c : Nat} (h : mT A T n) (hc : c < 128) : (mBv A n k = nI c ↔ k < n ∧ T k = nI c) := by
  unfold mBv
  by_cases hk : k < n
  · rw [if_pos hk, (h.2 k hk).1, bt_eq (h.2 k hk).2 hc]
    exact ⟨fun e => ⟨hk, e⟩, fun e => e.2⟩
  · rw [if_neg hk]
    exact ⟨fun e => absurd (show nI c < 0 by rw [← e]; decide) (nI_pos (by omega)), fun e => absurd e.1 hk⟩
theorem mBv_in {A : Nat → Nat → Int32} {T : Nat → Int32} {n k : Nat} {lo hi : Nat} (h : mT A T n) (hl : lo < 128) (hh : hi < 128) : (rIn (mBv A n k) (nI lo) (nI hi) = 0 ↔ ¬ (k < n ∧ ¬ rIn (T k) (nI lo) (nI hi) = 0)) := by
  unfold mBv
  by_cases hk : k < n
  · rw [if_pos hk, (h.2 k hk).1, rIn_bt (h.2 k hk).2 hl hh]
    exact ⟨fun e q => q.2 e, fun e => Classical.byContradiction (fun q => e ⟨hk, q⟩)⟩
  · rw [if_neg hk, rIn_n (Or.inl (Int32.lt_of_lt_of_le (by decide : (-1 : Int32) < 0) (nI_pos' (by omega))))]
    exact ⟨fun _ q => hk q.1, fun _ => rfl⟩
theorem mSp {A : Nat → Nat → Int32} {T : Nat → Int32} {n k : Nat} (h : mT A T n) : (mBv A n k = 32 ↔ k < n ∧ isSp (T k) = true) := by
  rw [show (32 : Int32) = nI 32 from rfl, mBv_eq h (by decide)]
  unfold isSp
  rw [decide_eq_true_iff]
  exact Iff.rfl
theorem mDg {A : Nat → Nat → Int32} {T : Nat → Int32} {n k : Nat} (h : mT A T n) : (rIn (mBv A n k) 48 57 = 0 ↔ ¬ (k < n ∧ isDg (T k) = true)) := by
  rw [show (48 : Int32) = nI 48 from rfl, show (57 : Int32) = nI 57 from rfl, mBv_in h (by decide) (by decide)]
  unfold isDg
  rw [decide_eq_true_iff]
  exact Iff.rfl
theorem mLt {A : Nat → Nat → Int32} {T : Nat → Int32} {n k : Nat} (h : mT A T n) : (rIn (mBv A n k) 97 122 = 0 ↔ ¬ (k < n ∧ isLt (T k) = true)) := by
  rw [show (97 : Int32) = nI 97 from rfl, show (122 : Int32) = nI 122 from rfl, mBv_in h (by decide) (by decide)]
  unfold isLt
  rw [decide_eq_true_iff]
  exact Iff.rfl
set_option maxHeartbeats 1000000 in
set_option maxRecDepth 100000 in
theorem c_X7_byteAt (l : Launch) (E : En) (I A : Nat → Nat → Int32) (K : Nat → Nat → Int64) (n k : Nat) (hE : Ev mN E) (hn3 : I 0 3 = nI n) (hn7 : n ≤ 700) (hk : k < 2 ^ 30) : Met l yX7_byteAt (wz yX7_byteAt cX7_byteAt 2 (some .int)) (rmk 0 0 0 0) (va_Pc [.ref (eP E 0), .int (nI k)] (Bw mN E mK (I, A, K))) (qSi (fun zz => zz = mBv A n k)) 0 0 fr0 := by
  refine en_ofW RX7 rfl (by decide +kernel) (Nat.le_of_ble_eq_true rfl) ?_
  intro p e s m below meth c ls S hr hlk hnm hl hB
  have hx := S.1
  have hb := S.2.1
  obtain ⟨hK, hC, hP⟩ := hB
  have hS : va_S (cA mN E) s.heap s.heap [] := va_S.rf
  have hl : lv_has ls 2 [(0, .ref (eP E 0)), (1, .int (nI k))] := hl
  refine lv_iload_n hx hb dX7_byteAt_0 rfl (lv_at hl 1 rfl) ?_
  refine lv_aload_n hx hb dX7_byteAt_1 rfl (lv_at hl 0 rfl) ?_
  refine rw_geti (x := (I, A, K)) (v := nI n) S hK hP 0 (by decide) rfl fk_X7_42 rfl hn3 dX7_byteAt_2 ?_
  refine lv_icmp_ge (tgt := 17) hx hb dX7_byteAt_5 (by decide) (fun h5 => ?_) (fun h5 => ?_)
  · have hkn : ¬ k < n := fun g => nI_ge g (by omega) h5
    refine lv_iconst (v := (-1)) hx hb dX7_byteAt_17 (by decide) ?_
    exact re_si (v := (-1)) hx hb hr hlk (if_neg hkn).symm dX7_byteAt_18
  · have hkn : k < n := Nat.not_le.mp (fun g => h5 (nI_le g (by omega)))
    refine lv_aload_n hx hb dX7_byteAt_8 rfl (lv_at hl 0 rfl) ?_
    refine rw_getr (x := (I, A, K)) S hK hP 0 (by decide) rfl fk_X7_9 rfl dX7_byteAt_9 ?_
    refine lv_iload_n hx hb dX7_byteAt_12 rfl (lv_at hl 1 rfl) ?_
    refine rw_iald (x := (I, A, K)) (v := A 1 k) S hK hP 1 (by decide) rfl k rfl (by omega) (by decide) rfl dX7_byteAt_13 ?_
    refine lv_goto (tgt := 18) hx hb dX7_byteAt_14 (by decide) ?_
    exact re_si (v := A 1 k) hx hb hr hlk (if_pos hkn).symm dX7_byteAt_18

set_option maxHeartbeats 1000000 in
set_option maxRecDepth 100000 in
theorem c_X7_isGood (l : Launch) (E : En) (I A : Nat → Nat → Int32) (K : Nat → Nat → Int64)  (hE : Ev mN E) : Met l yX7_isGood (wz yX7_isGood cX7_isGood 1 (some .boolean)) (rmk 0 0 0 0) (va_Pc [.ref (eP E 0)] (Bw mN E mK (I, A, K))) (qSi (fun zz => zz = bI (decide (I 0 5 = 0)))) 0 0 fr0 := by
  refine en_ofW RX7 rfl (by decide +kernel) (Nat.le_of_ble_eq_true rfl) ?_
  intro p e s m below meth c ls S hr hlk hnm hl hB
  have hx := S.1
  have hb := S.2.1
  obtain ⟨hK, hC, hP⟩ := hB
  have hS : va_S (cA mN E) s.heap s.heap [] := va_S.rf
  have hl : lv_has ls 1 [(0, .ref (eP E 0))] := hl
  refine lv_aload_n hx hb dX7_isGood_0 rfl (lv_at hl 0 rfl) ?_
  refine rw_geti (x := (I, A, K)) (v := I 0 5) S hK hP 0 (by decide) rfl fk_X7_52 rfl rfl dX7_isGood_1 ?_
  refine lv_if_ne (tgt := 11) hx hb dX7_isGood_4 (by decide) (fun h4 => ?_) (fun h4 => ?_)
  · refine lv_iconst (v := 0) hx hb dX7_isGood_11 (by decide) ?_
    exact re_sz (v := 0) hx hb hr hlk rfl (bI_n h4) dX7_isGood_12
  · refine lv_iconst (v := 1) hx hb dX7_isGood_7 (by decide) ?_
    refine lv_goto (tgt := 12) hx hb dX7_isGood_8 (by decide) ?_
    exact re_sz (v := 1) hx hb hr hlk rfl (bI_y h4) dX7_isGood_12

set_option maxHeartbeats 1000000 in
set_option maxRecDepth 100000 in
theorem c_X7_report (l : Launch) (E : En) (I A : Nat → Nat → Int32) (K : Nat → Nat → Int64) (k off : Int32) (hE : Ev mN E) : Met l yX7_report (wz yX7_report cX7_report 3 none) (rmk 0 0 0 0) (va_Pc [.ref (eP E 0), .int k, .int off] (Bw mN E mK (I, A, K))) (qWv mN E mK (fun uu => uu = (if I 0 5 = 0 then up2 (up2 I 0 5 k) 0 6 off else I, A, K))) 0 0 (cA mN E) := by
  refine en_ofW RX7 rfl (by decide +kernel) (Nat.le_of_ble_eq_true rfl) ?_
  intro p e s m below meth c ls S hr hlk hnm hl hB
  have hx := S.1
  have hb := S.2.1
  obtain ⟨hK, hC, hP⟩ := hB
  have hS : va_S (cA mN E) s.heap s.heap [] := va_S.rf
  have hl : lv_has ls 3 [(0, .ref (eP E 0)), (1, .int k), (2, .int off)] := hl
  refine lv_aload_n hx hb dX7_report_0 rfl (lv_at hl 0 rfl) ?_
  refine rw_geti (x := (I, A, K)) (v := I 0 5) S hK hP 0 (by decide) rfl fk_X7_52 rfl rfl dX7_report_1 ?_
  refine lv_if_eq (tgt := 8) hx hb dX7_report_4 (by decide) (fun h4 => ?_) (fun h4 => ?_)
  · refine lv_aload_n hx hb dX7_report_8 rfl (lv_at hl 0 rfl) ?_
    refine lv_iload_n hx hb dX7_report_9 rfl (lv_at hl 1 rfl) ?_
    refine rw_puti (x := (I, A, K)) (v := k) S hE hK hP hS 0 (by decide) rfl fk_X7_52 rfl tyX7_ok nmX7 ⟨rfl, by decide +kernel⟩ dX7_report_10 (fun H locs hP hS => ?_)
    have hP : Wp mN E mK ((up2 I 0 5 k), A, K) H := hP
    refine lv_aload_n hx hb dX7_report_13 rfl (lv_at hl 0 rfl) ?_
    refine lv_iload_n hx hb dX7_report_14 rfl (lv_at hl 2 rfl) ?_
    refine rw_puti (x := ((up2 I 0 5 k), A, K)) (v := off) S hE hK hP hS 0 (by decide) rfl fk_X7_55 rfl tyX7_ok nmX7 ⟨rfl, by decide +kernel⟩ dX7_report_15 (fun H locs hP hS => ?_)
    have hP : Wp mN E mK ((up2 (up2 I 0 5 k) 0 6 off), A, K) H := hP
    exact re_wv (x := ((up2 (up2 I 0 5 k) 0 6 off), A, K)) hx hb hr hlk hP hS (by rw [if_pos h4]) dX7_report_18
  · exact re_wv (x := (I, A, K)) hx hb hr hlk hP hS (by rw [if_neg h4]) dX7_report_7

set_option maxHeartbeats 1000000 in
set_option maxRecDepth 100000 in
theorem c_X7_next (l : Launch) (E : En) (I A : Nat → Nat → Int32) (K : Nat → Nat → Int64) (T : Nat → Int32) (n pos : Nat) (hE : Ev mN E) (hn3 : I 0 3 = nI n) (hTT : mT A T n) (hpos : I 0 4 = nI pos) (hpn : pos ≤ n) : Met l yX7_next (wz yX7_next cX7_next 1 (some .int)) (rmk 1 0 0 21) (va_Pc [.ref (eP E 0)] (Bw mN E mK (I, A, K))) (qWi mN E mK (fun zz uu => zz = mBv A n (tkB T n pos) ∧ uu = (up2 I 0 4 (nI (tkB T n pos)), A, K))) 0 0 (cA mN E) := by
  refine en_ofW RX7 rfl (by decide +kernel) (Nat.le_of_ble_eq_true rfl) ?_
  intro p e s m below meth c ls S hr hlk hnm hl hB
  have hx := S.1
  have hb := S.2.1
  obtain ⟨hK, hC, hP⟩ := hB
  have hS : va_S (cA mN E) s.heap s.heap [] := va_S.rf
  have hl : lv_has ls 1 [(0, .ref (eP E 0))] := hl
  have hn7 := hTT.1
  have HL : ∀ (cnt q : Nat), q + cnt = n → run isSp T n q = tkB T n pos → ∀ (H : Heap) (locs : List Loc), Wp mN E mK (up2 I 0 4 (nI q), A, K) H → va_S (cA mN E) s.heap H locs → ∀ ls : Array Slot, lv_has ls 1 [(0, .ref (eP E 0))] → W p l e (rmk 1 0 0 21) s m ([.ref (eP E 0)] : List Value).toArray below meth c H locs 0 0 (MQ below (qWi mN E mK (fun zz uu => zz = mBv A n (tkB T n pos) ∧ uu = (up2 I 0 4 (nI (tkB T n pos)), A, K))) ([.ref (eP E 0)] : List Value).toArray s 0 0 (cA mN E)) (F0 m 0 ls []) := by
    intro cnt
    induction cnt with
    | zero =>
      intro q hq hv H locs hP hS ls hl
      refine lv_aload_n hx hb dX7_next_0 rfl (lv_at hl 0 rfl) ?_
      refine lv_aload_n hx hb dX7_next_1 rfl (lv_at hl 0 rfl) ?_
      refine rw_geti (x := ((up2 I 0 4 (nI q)), A, K)) (v := (nI q)) S hK hP 0 (by decide) rfl fk_X7_45 rfl (up2_eq (f := I) (q := 0) (j := 4) (v := (nI q))) dX7_next_2 ?_
      refine cn_si (ck_V (a := eP E 0) S lk_X7_48 (c_X7_byteAt l E (up2 I 0 4 (nI q)) A K n q hE hn3 hn7 (by have := tkB_le (T := T) hpn; omega)) ⟨rfl, rfl⟩ ⟨Nat.le_of_ble_eq_true rfl, Nat.le_of_ble_eq_true rfl⟩ bl_w (rc_w hK hP 0 (by decide) rfl rfl) (bw_U hE hK hC hP hS) rfl hl.1 (Nat.le_of_ble_eq_true rfl) ⟨Nat.le_refl _, Nat.le_refl _⟩ dX7_next_5 rfl) (fun r1 g2 => ?_)
      obtain rfl : r1 = mBv A n q := g2
      refine lv_bipush (v := 32) hx hb dX7_next_8 (by decide) ?_
      refine lv_icmp_ne (tgt := 26) hx hb dX7_next_10 (by decide) (fun h10 => ?_) (fun h10 => ?_)
      · have hqB : tkB T n pos = q := hv.symm.trans (run_n (fun g => h10 ((mSp hTT).mpr g)))
        rw [← hqB] at hP
        have hP : Wp mN E mK ((up2 I 0 4 (nI (tkB T n pos))), A, K) H := hP
        refine lv_aload_n hx hb dX7_next_26 rfl (lv_at hl 0 rfl) ?_
        refine lv_aload_n hx hb dX7_next_27 rfl (lv_at hl 0 rfl) ?_
        refine rw_geti (x := ((up2 I 0 4 (nI (tkB T n pos))), A, K)) (v := (nI (tkB T n pos))) S hK hP 0 (by decide) rfl fk_X7_45 rfl (up2_eq (f := I) (q := 0) (j := 4) (v := (nI (tkB T n pos)))) dX7_next_28 ?_
        refine cn_si (ck_V (a := eP E 0) S lk_X7_48 (c_X7_byteAt l E (up2 I 0 4 (nI (tkB T n pos))) A K n (tkB T n pos) hE hn3 hn7 (by have := tkB_le (T := T) hpn; omega)) ⟨rfl, rfl⟩ ⟨Nat.le_of_ble_eq_true rfl, Nat.le_of_ble_eq_true rfl⟩ bl_w (rc_w hK hP 0 (by decide) rfl rfl) (bw_U hE hK hC hP hS) rfl hl.1 (Nat.le_of_ble_eq_true rfl) ⟨Nat.le_refl _, Nat.le_refl _⟩ dX7_next_31 rfl) (fun r3 g4 => ?_)
        obtain rfl : r3 = mBv A n (tkB T n pos) := g4
        exact re_wi (x := ((up2 I 0 4 (nI (tkB T n pos))), A, K)) (v := (mBv A n (tkB T n pos))) hx hb hr hlk hP hS ⟨rfl, rfl⟩ dX7_next_34
      · exact absurd ((mSp hTT).mp h10).1 (by omega)
    | succ cnt ih =>
      intro q hq hv H locs hP hS ls hl
      refine lv_aload_n hx hb dX7_next_0 rfl (lv_at hl 0 rfl) ?_
      refine lv_aload_n hx hb dX7_next_1 rfl (lv_at hl 0 rfl) ?_
      refine rw_geti (x := ((up2 I 0 4 (nI q)), A, K)) (v := (nI q)) S hK hP 0 (by decide) rfl fk_X7_45 rfl (up2_eq (f := I) (q := 0) (j := 4) (v := (nI q))) dX7_next_2 ?_
      refine cn_si (ck_V (a := eP E 0) S lk_X7_48 (c_X7_byteAt l E (up2 I 0 4 (nI q)) A K n q hE hn3 hn7 (by have := tkB_le (T := T) hpn; omega)) ⟨rfl, rfl⟩ ⟨Nat.le_of_ble_eq_true rfl, Nat.le_of_ble_eq_true rfl⟩ bl_w (rc_w hK hP 0 (by decide) rfl rfl) (bw_U hE hK hC hP hS) rfl hl.1 (Nat.le_of_ble_eq_true rfl) ⟨Nat.le_refl _, Nat.le_refl _⟩ dX7_next_5 rfl) (fun r5 g6 => ?_)
      obtain rfl : r5 = mBv A n q := g6
      refine lv_bipush (v := 32) hx hb dX7_next_8 (by decide) ?_
      refine lv_icmp_ne (tgt := 26) hx hb dX7_next_10 (by decide) (fun h10 => ?_) (fun h10 => ?_)
      · have hqB : tkB T n pos = q := hv.symm.trans (run_n (fun g => h10 ((mSp hTT).mpr g)))
        rw [← hqB] at hP
        have hP : Wp mN E mK ((up2 I 0 4 (nI (tkB T n pos))), A, K) H := hP
        refine lv_aload_n hx hb dX7_next_26 rfl (lv_at hl 0 rfl) ?_
        refine lv_aload_n hx hb dX7_next_27 rfl (lv_at hl 0 rfl) ?_
        refine rw_geti (x := ((up2 I 0 4 (nI (tkB T n pos))), A, K)) (v := (nI (tkB T n pos))) S hK hP 0 (by decide) rfl fk_X7_45 rfl (up2_eq (f := I) (q := 0) (j := 4) (v := (nI (tkB T n pos)))) dX7_next_28 ?_
        refine cn_si (ck_V (a := eP E 0) S lk_X7_48 (c_X7_byteAt l E (up2 I 0 4 (nI (tkB T n pos))) A K n (tkB T n pos) hE hn3 hn7 (by have := tkB_le (T := T) hpn; omega)) ⟨rfl, rfl⟩ ⟨Nat.le_of_ble_eq_true rfl, Nat.le_of_ble_eq_true rfl⟩ bl_w (rc_w hK hP 0 (by decide) rfl rfl) (bw_U hE hK hC hP hS) rfl hl.1 (Nat.le_of_ble_eq_true rfl) ⟨Nat.le_refl _, Nat.le_refl _⟩ dX7_next_31 rfl) (fun r7 g8 => ?_)
        obtain rfl : r7 = mBv A n (tkB T n pos) := g8
        exact re_wi (x := ((up2 I 0 4 (nI (tkB T n pos))), A, K)) (v := (mBv A n (tkB T n pos))) hx hb hr hlk hP hS ⟨rfl, rfl⟩ dX7_next_34
      · refine lv_aload_n hx hb dX7_next_13 rfl (lv_at hl 0 rfl) ?_
        refine lv_dup hx hb dX7_next_14 rfl ?_
        refine rw_geti (x := ((up2 I 0 4 (nI q)), A, K)) (v := (nI q)) S hK hP 0 (by decide) rfl fk_X7_45 rfl (up2_eq (f := I) (q := 0) (j := 4) (v := (nI q))) dX7_next_15 ?_
        refine lv_iconst (v := 1) hx hb dX7_next_18 (by decide) ?_
        refine lv_iadd hx hb dX7_next_19 ?_
        refine tp_i (y := nI (q + 1)) (nI_add q 1) ?_
        refine rw_puti (x := ((up2 I 0 4 (nI q)), A, K)) (v := (nI (q + 1))) S hE hK hP hS 0 (by decide) rfl fk_X7_45 rfl tyX7_ok nmX7 ⟨rfl, by decide +kernel⟩ dX7_next_20 (fun H locs hP hS => ?_)
        have hP : Wp mN E mK ((up2 (up2 I 0 4 (nI q)) 0 4 (nI (q + 1))), A, K) H := hP
        refine lv_goto (tgt := 0) hx hb dX7_next_23 (by decide) ?_
        have hsp : q < n ∧ isSp (T q) = true := (mSp hTT).mp h10
        rw [up2_up] at hP
        exact ih (q + 1) (by omega) ((run_y hsp.1 hsp.2).symm.trans hv) _ _ hP hS ls (lv_sub hl [0] rfl)
  rw [← up2_same (f := I) (q := 0) (j := 4) hpos] at hP
  exact HL (n - pos) pos (by omega) rfl _ _ hP hS ls (lv_sub hl [0] rfl)

