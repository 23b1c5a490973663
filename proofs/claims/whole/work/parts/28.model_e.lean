/-- the found shift's fields alone may differ -/
def rF (I J : Nat → Nat → Int32) : Prop := ∀ a b, ¬ (a = 0 ∧ (b = 17 ∨ b = 18 ∨ b = 19)) → J a b = I a b
theorem rF_rf {I : Nat → Nat → Int32} : rF I I := fun _ _ _ => rfl
theorem rF_u {I J : Nat → Nat → Int32} {b : Nat} {v : Int32} (h : rF I J) (hb : b = 17 ∨ b = 18 ∨ b = 19) : rF I (up2 J 0 b v) := by
  intro a c hc
  rw [up2_at, if_neg (fun q => hc ⟨q.1, by rw [q.2]; exact hb⟩)]
  exact h a c hc
def mBs (A : Nat → Nat → Int32) (u s nu : Nat) : Int32 := if mVi A u s = 0 then 0 else match mBst A u s nu with | none => 9999 | some w => w.1
def mSr (A : Nat → Nat → Int32) (u s nu : Nat) : Int32 := if mVi A u s = 0 then -1 else match mBst A u s nu with | none => -1 | some w => nI w.2
section MB
variable {A : Nat → Nat → Int32} {u s nu : Nat} {w : Int32 × Nat}
theorem mBs_0 (h : mVi A u s = 0) : mBs A u s nu = 0 := if_pos h
theorem mBs_n (h : ¬ mVi A u s = 0) (q : mBst A u s nu = none) : mBs A u s nu = 9999 := by
  unfold mBs
  rw [if_neg h, q]
theorem mBs_y (h : ¬ mVi A u s = 0) (q : mBst A u s nu = some w) : mBs A u s nu = w.1 := by
  unfold mBs
  rw [if_neg h, q]
theorem mSr_0 (h : mVi A u s = 0) : mSr A u s nu = -1 := if_pos h
theorem mSr_n (h : ¬ mVi A u s = 0) (q : mBst A u s nu = none) : mSr A u s nu = -1 := by
  unfold mSr
  rw [if_neg h, q]
theorem mSr_y (h : ¬ mVi A u s = 0) (q : mBst A u s nu = some w) : mSr A u s nu = nI w.2 := by
  unfold mSr
  rw [if_neg h, q]
end MB
/-- the first violation that a shift mends -/
def mAn (A : Nat → Nat → Int32) (nu : Nat) : Nat → Nat → Option (Nat × (Int32 × Nat))
  | 0, _ => none
  | k + 1, i => if mVi A (i / 2) (i % 2) = 0 then mAn A nu k (i + 1) else match mBst A (i / 2) (i % 2) nu with | none => mAn A nu k (i + 1) | some w => some (i, w)
def mAny (A : Nat → Nat → Int32) (nu : Nat) : Option (Nat × (Int32 × Nat)) := mAn A nu (2 * nu) 0
section MA
variable {A : Nat → Nat → Int32} {nu k i : Nat} {w : Int32 × Nat}
theorem mAn_k (h : mVi A (i / 2) (i % 2) = 0) : mAn A nu (k + 1) i = mAn A nu k (i + 1) := if_pos h
theorem mAn_n (h : ¬ mVi A (i / 2) (i % 2) = 0) (q : mBst A (i / 2) (i % 2) nu = none) : mAn A nu (k + 1) i = mAn A nu k (i + 1) := by
  rw [mAn, if_neg h, q]
theorem mAn_y (h : ¬ mVi A (i / 2) (i % 2) = 0) (q : mBst A (i / 2) (i % 2) nu = some w) : mAn A nu (k + 1) i = some (i, w) := by
  rw [mAn, if_neg h, q]
end MA
set_option maxHeartbeats 1000000 in
set_option maxRecDepth 100000 in
theorem c_X7_bestShift (l : Launch) (E : En) (I A : Nat → Nat → Int32) (K : Nat → Nat → Int64) (nr nu : Nat) (u : Nat) (sc : Nat) (hE : Ev mN E) (hM : MOk A nr nu) (k0 : u < nu) (k1 : sc < 2) : Met l yX7_bestShift (wz yX7_bestShift cX7_bestShift 3 (some .int)) (rmk 9 0 0 209) (va_Pc [.ref (eP E 0), .int (nI u), .int (nI sc)] (Bw mN E mK (I, A, K))) (qWi mN E mK (fun zz uu => zz = mBs A u sc nu ∧ ∃ J, rF (up2 I 0 0 0) J ∧ uu = (J, A, K))) 0 0 (cA mN E) := by
  refine en_ofW RX7 rfl (by decide +kernel) (Nat.le_of_ble_eq_true rfl) ?_
  intro p e s m below meth c ls S hr hlk hnm hl hB
  have hx := S.1
  have hb := S.2.1
  obtain ⟨hK, hC, hP⟩ := hB
  have hS : va_S (cA mN E) s.heap s.heap [] := va_S.rf
  have hl : lv_has ls 3 [(0, .ref (eP E 0)), (1, .int (nI u)), (2, .int (nI sc))] := hl
  obtain ⟨⟨hn1, hn2⟩, ⟨hr0, hr1⟩, hu3, hcv⟩ := id hM
  refine lv_aload_n hx hb dX7_bestShift_0 rfl (lv_at hl 0 rfl) ?_
  refine lv_iconst (v := 0) hx hb dX7_bestShift_1 (by decide) ?_
  refine rw_puti (x := (I, A, K)) (v := 0) S hE hK hP hS 0 (by decide) rfl fk_X7_35 rfl tyX7_ok nmX7 ⟨rfl, by decide +kernel⟩ dX7_bestShift_2 (fun H locs hP hS => ?_)
  have hP : Wp mN E mK ((up2 I 0 0 0), A, K) H := hP
  refine lv_aload_n hx hb dX7_bestShift_5 rfl (lv_at hl 0 rfl) ?_
  refine lv_iload_n hx hb dX7_bestShift_6 rfl (lv_at hl 1 rfl) ?_
  refine lv_iload_n hx hb dX7_bestShift_7 rfl (lv_at hl 2 rfl) ?_
  refine cn_wi (ck_V (a := eP E 0) S lk_X7_277 (c_X7_noRule_n l E (up2 I 0 0 0) A K u sc nr nu hE hM rfl k0 k1) ⟨rfl, rfl⟩ ⟨Nat.le_of_ble_eq_true rfl, Nat.le_of_ble_eq_true rfl⟩ bl_w (rc_w hK hP 0 (by decide) rfl rfl) (bw_U hE hK hC hP hS) rfl hl.1 (Nat.le_of_ble_eq_true rfl) ⟨Nat.le_refl _, Nat.le_refl _⟩ dX7_bestShift_8 rfl) hS (fun r1 u2 H locs g3 hP hS => ?_)
  obtain ⟨rfl, rfl⟩ : r1 = 0 ∧ u2 = ((up2 I 0 0 0), A, K) := g3
  have hP : Wp mN E mK ((up2 I 0 0 0), A, K) H := hP
  refine lv_if_ne (tgt := 23) hx hb dX7_bestShift_11 (by decide) (fun h11 => absurd h11 (by decide)) (fun h11 => ?_)
  refine lv_aload_n hx hb dX7_bestShift_14 rfl (lv_at hl 0 rfl) ?_
  refine lv_iload_n hx hb dX7_bestShift_15 rfl (lv_at hl 1 rfl) ?_
  refine lv_iload_n hx hb dX7_bestShift_16 rfl (lv_at hl 2 rfl) ?_
  refine cn_si (ck_V (a := eP E 0) S lk_X7_238 (c_X7_isViolated l E (up2 I 0 0 0) A K u sc nr nu hE hM k0 k1) ⟨rfl, rfl⟩ ⟨Nat.le_of_ble_eq_true rfl, Nat.le_of_ble_eq_true rfl⟩ bl_w (rc_w hK hP 0 (by decide) rfl rfl) (bw_U hE hK hC hP hS) rfl hl.1 (Nat.le_of_ble_eq_true rfl) ⟨Nat.le_refl _, Nat.le_refl _⟩ dX7_bestShift_17 rfl) (fun r4 g5 => ?_)
  obtain rfl : r4 = mVi A u sc := g5
  refine lv_if_ne (tgt := 25) hx hb dX7_bestShift_20 (by decide) (fun h20 => ?_) (fun h20 => ?_)
  · refine lv_aload_n hx hb dX7_bestShift_25 rfl (lv_at hl 0 rfl) ?_
    refine lv_iload_n hx hb dX7_bestShift_26 rfl (lv_at hl 1 rfl) ?_
    refine lv_iload_n hx hb dX7_bestShift_27 rfl (lv_at hl 2 rfl) ?_
    refine cn_wi (ck_V (a := eP E 0) S lk_X7_261 (c_X7_findShift l E (up2 I 0 0 0) A K u sc nr nu hE hM k0 k1) ⟨rfl, rfl⟩ ⟨Nat.le_of_ble_eq_true rfl, Nat.le_of_ble_eq_true rfl⟩ bl_w (rc_w hK hP 0 (by decide) rfl rfl) (bw_U hE hK hC hP hS) rfl hl.1 (Nat.le_of_ble_eq_true rfl) ⟨Nat.le_refl _, Nat.le_refl _⟩ dX7_bestShift_28 rfl) hS (fun r6 u7 H locs g8 hP hS => ?_)
    obtain ⟨rfl, rfl⟩ : r6 = bI (isS (mBst A u sc nu)) ∧ u7 = (mPut (up2 I 0 0 0) (mBst A u sc nu), A, K) := g8
    have hP : Wp mN E mK ((mPut (up2 I 0 0 0) (mBst A u sc nu)), A, K) H := hP
    rcases hq : mBst A u sc nu with _ | w
    · refine tp_i (y := 0) rfl ?_
      rw [hq] at hP
      have hP : Wp mN E mK ((up2 I 0 0 0), A, K) H := hP
      refine lv_if_eq (tgt := 41) hx hb dX7_bestShift_31 (by decide) (fun h31 => ?_) (fun h31 => absurd (by decide) h31)
      refine lv_sipush (v := 9999) hx hb dX7_bestShift_41 (by decide) ?_
      exact re_wi (x := ((up2 I 0 0 0), A, K)) (v := 9999) hx hb hr hlk hP hS ⟨(mBs_n h20 hq).symm, _, rF_rf, rfl⟩ dX7_bestShift_44
    · refine tp_i (y := 1) rfl ?_
      rw [hq] at hP
      have hP : Wp mN E mK ((up2 (up2 (up2 I 0 0 0) 0 17 w.1) 0 18 (nI w.2)), A, K) H := hP
      refine lv_if_eq (tgt := 41) hx hb dX7_bestShift_31 (by decide) (fun h31 => absurd h31 (by decide)) (fun h31 => ?_)
      refine lv_aload_n hx hb dX7_bestShift_34 rfl (lv_at hl 0 rfl) ?_
      refine rw_geti (x := ((up2 (up2 (up2 I 0 0 0) 0 17 w.1) 0 18 (nI w.2)), A, K)) (v := w.1) S hK hP 0 (by decide) rfl fk_X7_248 rfl ((up2_j (f := (up2 (up2 I 0 0 0) 0 17 w.1)) (q := 0) (j := 18) (a := 0) (b := 17) (v := (nI w.2)) (by decide)).trans (up2_eq (f := (up2 I 0 0 0)) (q := 0) (j := 17) (v := w.1))) dX7_bestShift_35 ?_
      refine lv_goto (tgt := 44) hx hb dX7_bestShift_38 (by decide) ?_
      exact re_wi (x := ((up2 (up2 (up2 I 0 0 0) 0 17 w.1) 0 18 (nI w.2)), A, K)) (v := w.1) hx hb hr hlk hP hS ⟨(mBs_y h20 hq).symm, _, rF_u (rF_u rF_rf (Or.inl rfl)) (Or.inr (Or.inl rfl)), rfl⟩ dX7_bestShift_44
  · refine lv_iconst (v := 0) hx hb dX7_bestShift_23 (by decide) ?_
    exact re_wi (x := ((up2 I 0 0 0), A, K)) (v := 0) hx hb hr hlk hP hS ⟨(mBs_0 h20).symm, _, rF_rf, rfl⟩ dX7_bestShift_24

set_option maxHeartbeats 1000000 in
set_option maxRecDepth 100000 in
theorem c_X7_bestShift_b0 (l : Launch) (E : En) (I A : Nat → Nat → Int32) (K : Nat → Nat → Int64) (nr nu : Nat) (x0 : Int32) (x1 : Int32) (hE : Ev mN E) (hM : MOk A nr nu) (kb : x0 < 0 ∨ nI nu ≤ x0) : Met l yX7_bestShift (wz yX7_bestShift cX7_bestShift 3 (some .int)) (rmk 2 0 0 44) (va_Pc [.ref (eP E 0), .int x0, .int x1] (Bw mN E mK (I, A, K))) (qWi mN E mK (fun zz uu => uu = (up2 I 0 0 1, A, K))) 0 0 (cA mN E) := by
  refine en_ofW RX7 rfl (by decide +kernel) (Nat.le_of_ble_eq_true rfl) ?_
  intro p e s m below meth c ls S hr hlk hnm hl hB
  have hx := S.1
  have hb := S.2.1
  obtain ⟨hK, hC, hP⟩ := hB
  have hS : va_S (cA mN E) s.heap s.heap [] := va_S.rf
  have hl : lv_has ls 3 [(0, .ref (eP E 0)), (1, .int x0), (2, .int x1)] := hl
  obtain ⟨⟨hn1, hn2⟩, ⟨hr0, hr1⟩, hu3, hcv⟩ := id hM
  refine lv_aload_n hx hb dX7_bestShift_0 rfl (lv_at hl 0 rfl) ?_
  refine lv_iconst (v := 0) hx hb dX7_bestShift_1 (by decide) ?_
  refine rw_puti (x := (I, A, K)) (v := 0) S hE hK hP hS 0 (by decide) rfl fk_X7_35 rfl tyX7_ok nmX7 ⟨rfl, by decide +kernel⟩ dX7_bestShift_2 (fun H locs hP hS => ?_)
  have hP : Wp mN E mK ((up2 I 0 0 0), A, K) H := hP
  refine lv_aload_n hx hb dX7_bestShift_5 rfl (lv_at hl 0 rfl) ?_
  refine lv_iload_n hx hb dX7_bestShift_6 rfl (lv_at hl 1 rfl) ?_
  refine lv_iload_n hx hb dX7_bestShift_7 rfl (lv_at hl 2 rfl) ?_
  refine cn_wi (ck_V (a := eP E 0) S lk_X7_277 (c_X7_noRule_b l E (up2 I 0 0 0) A K x0 x1 nr nu hE hM rfl kb) ⟨rfl, rfl⟩ ⟨Nat.le_of_ble_eq_true rfl, Nat.le_of_ble_eq_true rfl⟩ bl_w (rc_w hK hP 0 (by decide) rfl rfl) (bw_U hE hK hC hP hS) rfl hl.1 (Nat.le_of_ble_eq_true rfl) ⟨Nat.le_refl _, Nat.le_refl _⟩ dX7_bestShift_8 rfl) hS (fun r1 u2 H locs g3 hP hS => ?_)
  obtain ⟨rfl, rfl⟩ : r1 = 1 ∧ u2 = ((up2 (up2 I 0 0 0) 0 0 1), A, K) := g3
  have hP : Wp mN E mK ((up2 (up2 I 0 0 0) 0 0 1), A, K) H := hP
  refine lv_if_ne (tgt := 23) hx hb dX7_bestShift_11 (by decide) (fun h11 => ?_) (fun h11 => absurd h11 (by decide))
  refine lv_iconst (v := 0) hx hb dX7_bestShift_23 (by decide) ?_
  exact re_wi (x := ((up2 (up2 I 0 0 0) 0 0 1), A, K)) (v := 0) hx hb hr hlk hP hS (by rw [up2_up]) dX7_bestShift_24

set_option maxHeartbeats 1000000 in
set_option maxRecDepth 100000 in
theorem c_X7_bestShift_b1 (l : Launch) (E : En) (I A : Nat → Nat → Int32) (K : Nat → Nat → Int64) (nr nu : Nat) (u : Nat) (x1 : Int32) (hE : Ev mN E) (hM : MOk A nr nu) (k0 : u < nu) (kb : x1 < 0 ∨ 2 ≤ x1) : Met l yX7_bestShift (wz yX7_bestShift cX7_bestShift 3 (some .int)) (rmk 3 0 0 65) (va_Pc [.ref (eP E 0), .int (nI u), .int x1] (Bw mN E mK (I, A, K))) (qWi mN E mK (fun zz uu => uu = (up2 I 0 0 1, A, K))) 0 0 (cA mN E) := by
  refine en_ofW RX7 rfl (by decide +kernel) (Nat.le_of_ble_eq_true rfl) ?_
  intro p e s m below meth c ls S hr hlk hnm hl hB
  have hx := S.1
  have hb := S.2.1
  obtain ⟨hK, hC, hP⟩ := hB
  have hS : va_S (cA mN E) s.heap s.heap [] := va_S.rf
  have hl : lv_has ls 3 [(0, .ref (eP E 0)), (1, .int (nI u)), (2, .int x1)] := hl
  obtain ⟨⟨hn1, hn2⟩, ⟨hr0, hr1⟩, hu3, hcv⟩ := id hM
  refine lv_aload_n hx hb dX7_bestShift_0 rfl (lv_at hl 0 rfl) ?_
  refine lv_iconst (v := 0) hx hb dX7_bestShift_1 (by decide) ?_
  refine rw_puti (x := (I, A, K)) (v := 0) S hE hK hP hS 0 (by decide) rfl fk_X7_35 rfl tyX7_ok nmX7 ⟨rfl, by decide +kernel⟩ dX7_bestShift_2 (fun H locs hP hS => ?_)
  have hP : Wp mN E mK ((up2 I 0 0 0), A, K) H := hP
  refine lv_aload_n hx hb dX7_bestShift_5 rfl (lv_at hl 0 rfl) ?_
  refine lv_iload_n hx hb dX7_bestShift_6 rfl (lv_at hl 1 rfl) ?_
  refine lv_iload_n hx hb dX7_bestShift_7 rfl (lv_at hl 2 rfl) ?_
  refine cn_wi (ck_V (a := eP E 0) S lk_X7_277 (c_X7_noRule_c l E (up2 I 0 0 0) A K u x1 nr nu hE hM rfl k0 kb) ⟨rfl, rfl⟩ ⟨Nat.le_of_ble_eq_true rfl, Nat.le_of_ble_eq_true rfl⟩ bl_w (rc_w hK hP 0 (by decide) rfl rfl) (bw_U hE hK hC hP hS) rfl hl.1 (Nat.le_of_ble_eq_true rfl) ⟨Nat.le_refl _, Nat.le_refl _⟩ dX7_bestShift_8 rfl) hS (fun r1 u2 H locs g3 hP hS => ?_)
  obtain ⟨rfl, rfl⟩ : r1 = 1 ∧ u2 = ((up2 (up2 I 0 0 0) 0 0 1), A, K) := g3
  have hP : Wp mN E mK ((up2 (up2 I 0 0 0) 0 0 1), A, K) H := hP
  refine lv_if_ne (tgt := 23) hx hb dX7_bestShift_11 (by decide) (fun h11 => ?_) (fun h11 => absurd h11 (by decide))
  refine lv_iconst (v := 0) hx hb dX7_bestShift_23 (by decide) ?_
  exact re_wi (x := ((up2 (up2 I 0 0 0) 0 0 1), A, K)) (v := 0) hx hb hr hlk hP hS (by rw [up2_up]) dX7_bestShift_24

set_option maxHeartbeats 1000000 in
set_option maxRecDepth 100000 in
theorem c_X7_shiftRole (l : Launch) (E : En) (I A : Nat → Nat → Int32) (K : Nat → Nat → Int64) (nr nu : Nat) (u : Nat) (sc : Nat) (hE : Ev mN E) (hM : MOk A nr nu) (k0 : u < nu) (k1 : sc < 2) : Met l yX7_shiftRole (wz yX7_shiftRole cX7_shiftRole 3 (some .int)) (rmk 9 0 0 209) (va_Pc [.ref (eP E 0), .int (nI u), .int (nI sc)] (Bw mN E mK (I, A, K))) (qWi mN E mK (fun zz uu => zz = mSr A u sc nu ∧ ∃ J, rF (up2 I 0 0 0) J ∧ uu = (J, A, K))) 0 0 (cA mN E) := by
  refine en_ofW RX7 rfl (by decide +kernel) (Nat.le_of_ble_eq_true rfl) ?_
  intro p e s m below meth c ls S hr hlk hnm hl hB
  have hx := S.1
  have hb := S.2.1
  obtain ⟨hK, hC, hP⟩ := hB
  have hS : va_S (cA mN E) s.heap s.heap [] := va_S.rf
  have hl : lv_has ls 3 [(0, .ref (eP E 0)), (1, .int (nI u)), (2, .int (nI sc))] := hl
  obtain ⟨⟨hn1, hn2⟩, ⟨hr0, hr1⟩, hu3, hcv⟩ := id hM
  refine lv_aload_n hx hb dX7_shiftRole_0 rfl (lv_at hl 0 rfl) ?_
  refine lv_iconst (v := 0) hx hb dX7_shiftRole_1 (by decide) ?_
  refine rw_puti (x := (I, A, K)) (v := 0) S hE hK hP hS 0 (by decide) rfl fk_X7_35 rfl tyX7_ok nmX7 ⟨rfl, by decide +kernel⟩ dX7_shiftRole_2 (fun H locs hP hS => ?_)
  have hP : Wp mN E mK ((up2 I 0 0 0), A, K) H := hP
  refine lv_aload_n hx hb dX7_shiftRole_5 rfl (lv_at hl 0 rfl) ?_
  refine lv_iload_n hx hb dX7_shiftRole_6 rfl (lv_at hl 1 rfl) ?_
  refine lv_iload_n hx hb dX7_shiftRole_7 rfl (lv_at hl 2 rfl) ?_
  refine cn_wi (ck_V (a := eP E 0) S lk_X7_277 (c_X7_noRule_n l E (up2 I 0 0 0) A K u sc nr nu hE hM rfl k0 k1) ⟨rfl, rfl⟩ ⟨Nat.le_of_ble_eq_true rfl, Nat.le_of_ble_eq_true rfl⟩ bl_w (rc_w hK hP 0 (by decide) rfl rfl) (bw_U hE hK hC hP hS) rfl hl.1 (Nat.le_of_ble_eq_true rfl) ⟨Nat.le_refl _, Nat.le_refl _⟩ dX7_shiftRole_8 rfl) hS (fun r1 u2 H locs g3 hP hS => ?_)
  obtain ⟨rfl, rfl⟩ : r1 = 0 ∧ u2 = ((up2 I 0 0 0), A, K) := g3
  have hP : Wp mN E mK ((up2 I 0 0 0), A, K) H := hP
  refine lv_if_eq (tgt := 16) hx hb dX7_shiftRole_11 (by decide) (fun h11 => ?_) (fun h11 => absurd (by decide) h11)
  refine lv_aload_n hx hb dX7_shiftRole_16 rfl (lv_at hl 0 rfl) ?_
  refine lv_iload_n hx hb dX7_shiftRole_17 rfl (lv_at hl 1 rfl) ?_
  refine lv_iload_n hx hb dX7_shiftRole_18 rfl (lv_at hl 2 rfl) ?_
  refine cn_si (ck_V (a := eP E 0) S lk_X7_238 (c_X7_isViolated l E (up2 I 0 0 0) A K u sc nr nu hE hM k0 k1) ⟨rfl, rfl⟩ ⟨Nat.le_of_ble_eq_true rfl, Nat.le_of_ble_eq_true rfl⟩ bl_w (rc_w hK hP 0 (by decide) rfl rfl) (bw_U hE hK hC hP hS) rfl hl.1 (Nat.le_of_ble_eq_true rfl) ⟨Nat.le_refl _, Nat.le_refl _⟩ dX7_shiftRole_19 rfl) (fun r4 g5 => ?_)
  obtain rfl : r4 = mVi A u sc := g5
  refine lv_if_eq (tgt := 41) hx hb dX7_shiftRole_22 (by decide) (fun h22 => ?_) (fun h22 => ?_)
  · refine lv_iconst (v := (-1)) hx hb dX7_shiftRole_41 (by decide) ?_
    exact re_wi (x := ((up2 I 0 0 0), A, K)) (v := (-1)) hx hb hr hlk hP hS ⟨(mSr_0 h22).symm, _, rF_rf, rfl⟩ dX7_shiftRole_42
  · refine lv_aload_n hx hb dX7_shiftRole_25 rfl (lv_at hl 0 rfl) ?_
    refine lv_iload_n hx hb dX7_shiftRole_26 rfl (lv_at hl 1 rfl) ?_
    refine lv_iload_n hx hb dX7_shiftRole_27 rfl (lv_at hl 2 rfl) ?_
    refine cn_wi (ck_V (a := eP E 0) S lk_X7_261 (c_X7_findShift l E (up2 I 0 0 0) A K u sc nr nu hE hM k0 k1) ⟨rfl, rfl⟩ ⟨Nat.le_of_ble_eq_true rfl, Nat.le_of_ble_eq_true rfl⟩ bl_w (rc_w hK hP 0 (by decide) rfl rfl) (bw_U hE hK hC hP hS) rfl hl.1 (Nat.le_of_ble_eq_true rfl) ⟨Nat.le_refl _, Nat.le_refl _⟩ dX7_shiftRole_28 rfl) hS (fun r6 u7 H locs g8 hP hS => ?_)
    obtain ⟨rfl, rfl⟩ : r6 = bI (isS (mBst A u sc nu)) ∧ u7 = (mPut (up2 I 0 0 0) (mBst A u sc nu), A, K) := g8
    have hP : Wp mN E mK ((mPut (up2 I 0 0 0) (mBst A u sc nu)), A, K) H := hP
    rcases hq : mBst A u sc nu with _ | w
    · refine tp_i (y := 0) rfl ?_
      rw [hq] at hP
      have hP : Wp mN E mK ((up2 I 0 0 0), A, K) H := hP
      refine lv_if_eq (tgt := 41) hx hb dX7_shiftRole_31 (by decide) (fun h31 => ?_) (fun h31 => absurd (by decide) h31)
      refine lv_iconst (v := (-1)) hx hb dX7_shiftRole_41 (by decide) ?_
      exact re_wi (x := ((up2 I 0 0 0), A, K)) (v := (-1)) hx hb hr hlk hP hS ⟨(mSr_n h22 hq).symm, _, rF_rf, rfl⟩ dX7_shiftRole_42
    · refine tp_i (y := 1) rfl ?_
      rw [hq] at hP
      have hP : Wp mN E mK ((up2 (up2 (up2 I 0 0 0) 0 17 w.1) 0 18 (nI w.2)), A, K) H := hP
      refine lv_if_eq (tgt := 41) hx hb dX7_shiftRole_31 (by decide) (fun h31 => absurd h31 (by decide)) (fun h31 => ?_)
      refine lv_aload_n hx hb dX7_shiftRole_34 rfl (lv_at hl 0 rfl) ?_
      refine rw_geti (x := ((up2 (up2 (up2 I 0 0 0) 0 17 w.1) 0 18 (nI w.2)), A, K)) (v := (nI w.2)) S hK hP 0 (by decide) rfl fk_X7_251 rfl (up2_eq (f := (up2 (up2 I 0 0 0) 0 17 w.1)) (q := 0) (j := 18) (v := (nI w.2))) dX7_shiftRole_35 ?_
      refine lv_goto (tgt := 42) hx hb dX7_shiftRole_38 (by decide) ?_
      exact re_wi (x := ((up2 (up2 (up2 I 0 0 0) 0 17 w.1) 0 18 (nI w.2)), A, K)) (v := (nI w.2)) hx hb hr hlk hP hS ⟨(mSr_y h22 hq).symm, _, rF_u (rF_u rF_rf (Or.inl rfl)) (Or.inr (Or.inl rfl)), rfl⟩ dX7_shiftRole_42

set_option maxHeartbeats 1000000 in
set_option maxRecDepth 100000 in
theorem c_X7_shiftRole_b0 (l : Launch) (E : En) (I A : Nat → Nat → Int32) (K : Nat → Nat → Int64) (nr nu : Nat) (x0 : Int32) (x1 : Int32) (hE : Ev mN E) (hM : MOk A nr nu) (kb : x0 < 0 ∨ nI nu ≤ x0) : Met l yX7_shiftRole (wz yX7_shiftRole cX7_shiftRole 3 (some .int)) (rmk 2 0 0 44) (va_Pc [.ref (eP E 0), .int x0, .int x1] (Bw mN E mK (I, A, K))) (qWi mN E mK (fun zz uu => uu = (up2 I 0 0 1, A, K))) 0 0 (cA mN E) := by
  refine en_ofW RX7 rfl (by decide +kernel) (Nat.le_of_ble_eq_true rfl) ?_
  intro p e s m below meth c ls S hr hlk hnm hl hB
  have hx := S.1
  have hb := S.2.1
  obtain ⟨hK, hC, hP⟩ := hB
  have hS : va_S (cA mN E) s.heap s.heap [] := va_S.rf
  have hl : lv_has ls 3 [(0, .ref (eP E 0)), (1, .int x0), (2, .int x1)] := hl
  obtain ⟨⟨hn1, hn2⟩, ⟨hr0, hr1⟩, hu3, hcv⟩ := id hM
  refine lv_aload_n hx hb dX7_shiftRole_0 rfl (lv_at hl 0 rfl) ?_
  refine lv_iconst (v := 0) hx hb dX7_shiftRole_1 (by decide) ?_
  refine rw_puti (x := (I, A, K)) (v := 0) S hE hK hP hS 0 (by decide) rfl fk_X7_35 rfl tyX7_ok nmX7 ⟨rfl, by decide +kernel⟩ dX7_shiftRole_2 (fun H locs hP hS => ?_)
  have hP : Wp mN E mK ((up2 I 0 0 0), A, K) H := hP
  refine lv_aload_n hx hb dX7_shiftRole_5 rfl (lv_at hl 0 rfl) ?_
  refine lv_iload_n hx hb dX7_shiftRole_6 rfl (lv_at hl 1 rfl) ?_
  refine lv_iload_n hx hb dX7_shiftRole_7 rfl (lv_at hl 2 rfl) ?_
  refine cn_wi (ck_V (a := eP E 0) S lk_X7_277 (c_X7_noRule_b l E (up2 I 0 0 0) A K x0 x1 nr nu hE hM rfl kb) ⟨rfl, rfl⟩ ⟨Nat.le_of_ble_eq_true rfl, Nat.le_of_ble_eq_true rfl⟩ bl_w (rc_w hK hP 0 (by decide) rfl rfl) (bw_U hE hK hC hP hS) rfl hl.1 (Nat.le_of_ble_eq_true rfl) ⟨Nat.le_refl _, Nat.le_refl _⟩ dX7_shiftRole_8 rfl) hS (fun r1 u2 H locs g3 hP hS => ?_)
  obtain ⟨rfl, rfl⟩ : r1 = 1 ∧ u2 = ((up2 (up2 I 0 0 0) 0 0 1), A, K) := g3
  have hP : Wp mN E mK ((up2 (up2 I 0 0 0) 0 0 1), A, K) H := hP
  refine lv_if_eq (tgt := 16) hx hb dX7_shiftRole_11 (by decide) (fun h11 => absurd h11 (by decide)) (fun h11 => ?_)
  refine lv_iconst (v := 0) hx hb dX7_shiftRole_14 (by decide) ?_
  exact re_wi (x := ((up2 (up2 I 0 0 0) 0 0 1), A, K)) (v := 0) hx hb hr hlk hP hS (by rw [up2_up]) dX7_shiftRole_15

set_option maxHeartbeats 1000000 in
set_option maxRecDepth 100000 in
theorem c_X7_shiftRole_b1 (l : Launch) (E : En) (I A : Nat → Nat → Int32) (K : Nat → Nat → Int64) (nr nu : Nat) (u : Nat) (x1 : Int32) (hE : Ev mN E) (hM : MOk A nr nu) (k0 : u < nu) (kb : x1 < 0 ∨ 2 ≤ x1) : Met l yX7_shiftRole (wz yX7_shiftRole cX7_shiftRole 3 (some .int)) (rmk 3 0 0 65) (va_Pc [.ref (eP E 0), .int (nI u), .int x1] (Bw mN E mK (I, A, K))) (qWi mN E mK (fun zz uu => uu = (up2 I 0 0 1, A, K))) 0 0 (cA mN E) := by
  refine en_ofW RX7 rfl (by decide +kernel) (Nat.le_of_ble_eq_true rfl) ?_
  intro p e s m below meth c ls S hr hlk hnm hl hB
  have hx := S.1
  have hb := S.2.1
  obtain ⟨hK, hC, hP⟩ := hB
  have hS : va_S (cA mN E) s.heap s.heap [] := va_S.rf
  have hl : lv_has ls 3 [(0, .ref (eP E 0)), (1, .int (nI u)), (2, .int x1)] := hl
  obtain ⟨⟨hn1, hn2⟩, ⟨hr0, hr1⟩, hu3, hcv⟩ := id hM
  refine lv_aload_n hx hb dX7_shiftRole_0 rfl (lv_at hl 0 rfl) ?_
  refine lv_iconst (v := 0) hx hb dX7_shiftRole_1 (by decide) ?_
  refine rw_puti (x := (I, A, K)) (v := 0) S hE hK hP hS 0 (by decide) rfl fk_X7_35 rfl tyX7_ok nmX7 ⟨rfl, by decide +kernel⟩ dX7_shiftRole_2 (fun H locs hP hS => ?_)
  have hP : Wp mN E mK ((up2 I 0 0 0), A, K) H := hP
  refine lv_aload_n hx hb dX7_shiftRole_5 rfl (lv_at hl 0 rfl) ?_
  refine lv_iload_n hx hb dX7_shiftRole_6 rfl (lv_at hl 1 rfl) ?_
  refine lv_iload_n hx hb dX7_shiftRole_7 rfl (lv_at hl 2 rfl) ?_
  refine cn_wi (ck_V (a := eP E 0) S lk_X7_277 (c_X7_noRule_c l E (up2 I 0 0 0) A K u x1 nr nu hE hM rfl k0 kb) ⟨rfl, rfl⟩ ⟨Nat.le_of_ble_eq_true rfl, Nat.le_of_ble_eq_true rfl⟩ bl_w (rc_w hK hP 0 (by decide) rfl rfl) (bw_U hE hK hC hP hS) rfl hl.1 (Nat.le_of_ble_eq_true rfl) ⟨Nat.le_refl _, Nat.le_refl _⟩ dX7_shiftRole_8 rfl) hS (fun r1 u2 H locs g3 hP hS => ?_)
  obtain ⟨rfl, rfl⟩ : r1 = 1 ∧ u2 = ((up2 (up2 I 0 0 0) 0 0 1), A, K) := g3
  have hP : Wp mN E mK ((up2 (up2 I 0 0 0) 0 0 1), A, K) H := hP
  refine lv_if_eq (tgt := 16) hx hb dX7_shiftRole_11 (by decide) (fun h11 => absurd h11 (by decide)) (fun h11 => ?_)
  refine lv_iconst (v := 0) hx hb dX7_shiftRole_14 (by decide) ?_
  exact re_wi (x := ((up2 (up2 I 0 0 0) 0 0 1), A, K)) (v := 0) hx hb hr hlk hP hS (by rw [up2_up]) dX7_shiftRole_15

set_option maxHeartbeats 1000000 in
set_option maxRecDepth 100000 in
theorem c_X7_findAny (l : Launch) (E : En) (I A : Nat → Nat → Int32) (K : Nat → Nat → Int64) (nr nu : Nat) (hE : Ev mN E) (hM : MOk A nr nu) : Met l yX7_findAny (wz yX7_findAny cX7_findAny 2 (some .boolean)) (rmk 9 0 0 209) (va_Pc [.ref (eP E 0)] (Bw mN E mK (I, A, K))) (qWi mN E mK (fun zz uu => zz = bI (isS (mAny A nu)) ∧ ∃ J, rF I J ∧ (∀ k w, mAny A nu = some (k, w) → J 0 17 = w.1 ∧ J 0 18 = nI w.2 ∧ J 0 19 = nI (k % 2)) ∧ uu = (J, A, K))) 0 0 (cA mN E) := by
  refine en_ofW RX7 rfl (by decide +kernel) (Nat.le_of_ble_eq_true rfl) ?_
  intro p e s m below meth c ls S hr hlk hnm hl hB
  have hx := S.1
  have hb := S.2.1
  obtain ⟨hK, hC, hP⟩ := hB
  have hS : va_S (cA mN E) s.heap s.heap [] := va_S.rf
  have hl : lv_has ls 2 [(0, .ref (eP E 0))] := hl
  obtain ⟨⟨hn1, hn2⟩, ⟨hr0, hr1⟩, hu3, hcv⟩ := id hM
  refine lv_iconst (v := 0) hx hb dX7_findAny_0 (by decide) ?_
  refine lv_istore_n (lv' := [(1, .int 0), (0, .ref (eP E 0))]) hx hb dX7_findAny_1 rfl hl (by decide) rfl (fun ls hl => ?_)
  have HL : ∀ (cnt i : Nat) (J : Nat → Nat → Int32), i + cnt = (2 * nu) → rF I J → mAn A nu cnt i = mAny A nu → ∀ (H : Heap) (locs : List Loc), Wp mN E mK (J, A, K) H → va_S (cA mN E) s.heap H locs → ∀ ls : Array Slot, lv_has ls 2 [(1, .int (nI i)), (0, .ref (eP E 0))] → W p l e (rmk 9 0 0 209) s m ([.ref (eP E 0)] : List Value).toArray below meth c H locs 0 0 (MQ below (qWi mN E mK (fun zz uu => zz = bI (isS (mAny A nu)) ∧ ∃ J, rF I J ∧ (∀ k w, mAny A nu = some (k, w) → J 0 17 = w.1 ∧ J 0 18 = nI w.2 ∧ J 0 19 = nI (k % 2)) ∧ uu = (J, A, K))) ([.ref (eP E 0)] : List Value).toArray s 0 0 (cA mN E)) (F0 m 2 ls []) := by
    intro cnt
    induction cnt with
    | zero =>
      intro i J hi hJ hv H locs hP hS ls hl
      have hiN : i = (2 * nu) := by omega
      rw [hiN] at hl
      try rw [hiN] at hP
      refine lv_iload_n hx hb dX7_findAny_2 rfl (lv_at hl 0 rfl) ?_
      refine lv_iconst (v := 2) hx hb dX7_findAny_3 (by decide) ?_
      refine lv_aload_n hx hb dX7_findAny_4 rfl (lv_at hl 1 rfl) ?_
      refine rw_getr (x := (J, A, K)) S hK hP 0 (by decide) rfl fk_X7_17 rfl dX7_findAny_5 ?_
      refine lv_iconst (v := 1) hx hb dX7_findAny_8 (by decide) ?_
      refine rw_iald (x := (J, A, K)) (v := nI nu) S hK hP 2 (by decide) rfl 1 rfl (by decide) (by decide) hr1 dX7_findAny_9 ?_
      refine lv_imul hx hb dX7_findAny_10 ?_
      refine tp_i (y := nI (2 * nu)) (pk_mul 2 nu) ?_
      refine lv_icmp_ge (tgt := 55) hx hb dX7_findAny_11 (by decide) (fun h11 => ?_) (fun h11 => absurd (Int32.le_refl _) h11)
      refine lv_iconst (v := 0) hx hb dX7_findAny_55 (by decide) ?_
      exact re_wz (x := (J, A, K)) (v := 0) hx hb hr hlk rfl hP hS (by rw [show mAny A nu = none from hv.symm]; exact ⟨rfl, _, hJ, (fun k w2 h => by cases h), rfl⟩) dX7_findAny_56
    | succ cnt ih =>
      intro i J hi hJ hv H locs hP hS ls hl
      have hlt : i < (2 * nu) := by omega
      refine lv_iload_n hx hb dX7_findAny_2 rfl (lv_at hl 0 rfl) ?_
      refine lv_iconst (v := 2) hx hb dX7_findAny_3 (by decide) ?_
      refine lv_aload_n hx hb dX7_findAny_4 rfl (lv_at hl 1 rfl) ?_
      refine rw_getr (x := (J, A, K)) S hK hP 0 (by decide) rfl fk_X7_17 rfl dX7_findAny_5 ?_
      refine lv_iconst (v := 1) hx hb dX7_findAny_8 (by decide) ?_
      refine rw_iald (x := (J, A, K)) (v := nI nu) S hK hP 2 (by decide) rfl 1 rfl (by decide) (by decide) hr1 dX7_findAny_9 ?_
      refine lv_imul hx hb dX7_findAny_10 ?_
      refine tp_i (y := nI (2 * nu)) (pk_mul 2 nu) ?_
      refine lv_icmp_ge (tgt := 55) hx hb dX7_findAny_11 (by decide) (fun h11 => absurd h11 (nI_ge hlt (by omega))) (fun h11 => ?_)
      refine lv_aload_n hx hb dX7_findAny_14 rfl (lv_at hl 1 rfl) ?_
      refine lv_iload_n hx hb dX7_findAny_15 rfl (lv_at hl 0 rfl) ?_
      refine lv_iconst (v := 2) hx hb dX7_findAny_16 (by decide) ?_
      refine lv_irem hx hb dX7_findAny_17 (by decide) ?_
      refine tp_i (y := nI (i % 2)) (pk_rem (by omega) (by decide) (by decide)) ?_
      refine rw_puti (x := (J, A, K)) (v := (nI (i % 2))) S hE hK hP hS 0 (by decide) rfl fk_X7_258 rfl tyX7_ok nmX7 ⟨rfl, by decide +kernel⟩ dX7_findAny_18 (fun H locs hP hS => ?_)
      have hP : Wp mN E mK ((up2 J 0 19 (nI (i % 2))), A, K) H := hP
      refine lv_aload_n hx hb dX7_findAny_21 rfl (lv_at hl 1 rfl) ?_
      refine lv_iload_n hx hb dX7_findAny_22 rfl (lv_at hl 0 rfl) ?_
      refine lv_iconst (v := 2) hx hb dX7_findAny_23 (by decide) ?_
      refine lv_idiv hx hb dX7_findAny_24 (by decide) ?_
      refine tp_i (y := nI (i / 2)) (pk_div (by omega) (by decide) (by decide)) ?_
      refine lv_iload_n hx hb dX7_findAny_25 rfl (lv_at hl 0 rfl) ?_
      refine lv_iconst (v := 2) hx hb dX7_findAny_26 (by decide) ?_
      refine lv_irem hx hb dX7_findAny_27 (by decide) ?_
      refine tp_i (y := nI (i % 2)) (pk_rem (by omega) (by decide) (by decide)) ?_
      refine cn_si (ck_V (a := eP E 0) S lk_X7_238 (c_X7_isViolated l E (up2 J 0 19 (nI (i % 2))) A K (i / 2) (i % 2) nr nu hE hM (by omega) (by omega)) ⟨rfl, rfl⟩ ⟨Nat.le_of_ble_eq_true rfl, Nat.le_of_ble_eq_true rfl⟩ bl_w (rc_w hK hP 0 (by decide) rfl rfl) (bw_U hE hK hC hP hS) rfl hl.1 (Nat.le_of_ble_eq_true rfl) ⟨Nat.le_refl _, Nat.le_refl _⟩ dX7_findAny_28 rfl) (fun r1 g2 => ?_)
      obtain rfl : r1 = mVi A (i / 2) (i % 2) := g2
      refine lv_if_eq (tgt := 49) hx hb dX7_findAny_31 (by decide) (fun h31 => ?_) (fun h31 => ?_)
      · refine lv_iinc (v := nI (i + 1)) (lv' := [(1, .int (nI (i + 1))), (0, .ref (eP E 0))]) hx hb dX7_findAny_49 hl (k := 0) rfl (nI_1 _) (by decide) rfl (fun ls hl => ?_)
        refine lv_goto (tgt := 2) hx hb dX7_findAny_52 (by decide) ?_
        exact ih (i + 1) _ (by omega) (rF_u hJ (Or.inr (Or.inr rfl))) ((mAn_k h31).symm.trans hv) _ _ hP hS ls (lv_sub hl [0, 1] rfl)
      · refine lv_aload_n hx hb dX7_findAny_34 rfl (lv_at hl 1 rfl) ?_
        refine lv_iload_n hx hb dX7_findAny_35 rfl (lv_at hl 0 rfl) ?_
        refine lv_iconst (v := 2) hx hb dX7_findAny_36 (by decide) ?_
        refine lv_idiv hx hb dX7_findAny_37 (by decide) ?_
        refine tp_i (y := nI (i / 2)) (pk_div (by omega) (by decide) (by decide)) ?_
        refine lv_iload_n hx hb dX7_findAny_38 rfl (lv_at hl 0 rfl) ?_
        refine lv_iconst (v := 2) hx hb dX7_findAny_39 (by decide) ?_
        refine lv_irem hx hb dX7_findAny_40 (by decide) ?_
        refine tp_i (y := nI (i % 2)) (pk_rem (by omega) (by decide) (by decide)) ?_
        refine cn_wi (ck_V (a := eP E 0) S lk_X7_261 (c_X7_findShift l E (up2 J 0 19 (nI (i % 2))) A K (i / 2) (i % 2) nr nu hE hM (by omega) (by omega)) ⟨rfl, rfl⟩ ⟨Nat.le_of_ble_eq_true rfl, Nat.le_of_ble_eq_true rfl⟩ bl_w (rc_w hK hP 0 (by decide) rfl rfl) (bw_U hE hK hC hP hS) rfl hl.1 (Nat.le_of_ble_eq_true rfl) ⟨Nat.le_refl _, Nat.le_refl _⟩ dX7_findAny_41 rfl) hS (fun r3 u4 H locs g5 hP hS => ?_)
        obtain ⟨rfl, rfl⟩ : r3 = bI (isS (mBst A (i / 2) (i % 2) nu)) ∧ u4 = (mPut (up2 J 0 19 (nI (i % 2))) (mBst A (i / 2) (i % 2) nu), A, K) := g5
        have hP : Wp mN E mK ((mPut (up2 J 0 19 (nI (i % 2))) (mBst A (i / 2) (i % 2) nu)), A, K) H := hP
        rcases hq : mBst A (i / 2) (i % 2) nu with _ | w
        · refine tp_i (y := 0) rfl ?_
          rw [hq] at hP
          have hP : Wp mN E mK ((up2 J 0 19 (nI (i % 2))), A, K) H := hP
          refine lv_if_eq (tgt := 49) hx hb dX7_findAny_44 (by decide) (fun h44 => ?_) (fun h44 => absurd (by decide) h44)
          refine lv_iinc (v := nI (i + 1)) (lv' := [(1, .int (nI (i + 1))), (0, .ref (eP E 0))]) hx hb dX7_findAny_49 hl (k := 0) rfl (nI_1 _) (by decide) rfl (fun ls hl => ?_)
          refine lv_goto (tgt := 2) hx hb dX7_findAny_52 (by decide) ?_
          exact ih (i + 1) _ (by omega) (rF_u hJ (Or.inr (Or.inr rfl))) ((mAn_n h31 hq).symm.trans hv) _ _ hP hS ls (lv_sub hl [0, 1] rfl)
        · refine tp_i (y := 1) rfl ?_
          rw [hq] at hP
          have hP : Wp mN E mK ((up2 (up2 (up2 J 0 19 (nI (i % 2))) 0 17 w.1) 0 18 (nI w.2)), A, K) H := hP
          refine lv_if_eq (tgt := 49) hx hb dX7_findAny_44 (by decide) (fun h44 => absurd h44 (by decide)) (fun h44 => ?_)
          refine lv_iconst (v := 1) hx hb dX7_findAny_47 (by decide) ?_
          exact re_wz (x := ((up2 (up2 (up2 J 0 19 (nI (i % 2))) 0 17 w.1) 0 18 (nI w.2)), A, K)) (v := 1) hx hb hr hlk rfl hP hS (by rw [show mAny A nu = some (i, w) from hv.symm.trans (mAn_y h31 hq)]; exact ⟨rfl, _, rF_u (rF_u (rF_u hJ (Or.inr (Or.inr rfl))) (Or.inl rfl)) (Or.inr (Or.inl rfl)), (fun k w2 h => by cases h; exact ⟨rfl, rfl, rfl⟩), rfl⟩) dX7_findAny_48
  exact HL (2 * nu) 0 I (by omega) rF_rf rfl _ _ hP hS ls (lv_sub hl [0, 1] rfl)

