section CH
variable {I A I' B A1 B1 J : Nat → Nat → Int32} {bl nx kp nr nu r s : Nat}
/-- a change of colours, with the state before it kept -/
theorem cpl_ch (h : cplX I A I' B bl nx kp nr nu) (fa : fA (cCpy A (2 + nx) 0) A1) (fb : fB (mRem B kp) B1) (hv : vM A1 B1 nr nu) (h2 : J 0 2 = I' 0 2) (h7 : J 0 7 = I' 0 7) (h11 : J 0 11 = nI (min (kp + 1) 8)) : cpl (hKeI I 0 nx kp) A1 J B1 :=
  cpl_of (cpl_keep h (fun d hd k h1 h2 => fa _ (dB_ne h2 (by decide) (Or.inl (by omega))) (dB_ne h2 (by decide) (Or.inl (by omega)))) ((fa 1 (by decide) (by decide)).trans (cCpy_lo (by decide))) (fun a h1 h2 => fb a (by omega)) ((fb 1 (by decide)).trans (mRem_ne h.2.2.1.1.2 (by decide))) hv h2 h7 h11)
theorem vM_setF (h : vM A B nr nu) (hr : r < nr) {b : Bool} : vM (up2 A (dB 0 4) r (bI b)) (up2 B 2 (4 + 3 * r + 2) (bI b)) nr nu := by
  obtain ⟨⟨h1, ⟨h2, h3⟩, h4, h5⟩, h6⟩ := h
  have hrow : ∀ k, k < 11 → k ≠ 4 → up2 A (dB 0 4) r (bI b) (dB 0 k) = A (dB 0 k) := fun k hk hne => up2_row (dB_ne hk (by decide) (Or.inr hne))
  have hB : ∀ j, j ≠ 4 + 3 * r + 2 → up2 B 2 (4 + 3 * r + 2) (bI b) 2 j = B 2 j := fun j hb => up2_j hb
  refine ⟨⟨h1, ⟨(hB 0 (by omega)).trans h2, (hB 1 (by omega)).trans h3⟩, fun q hq => ?_, fun u hu => ?_⟩, fun u hu t ht => ?_⟩
  · obtain ⟨⟨g1, g2, g3⟩, ⟨g4, g5⟩, g6⟩ := h4 q hq
    rw [hrow 2 (by decide) (by decide), hrow 3 (by decide) (by decide), hB (4 + 3 * q) (by omega), hB (4 + 3 * q + 1) (by omega)]
    by_cases e : q = r
    · subst e
      rw [up2_eq, up2_eq]
      exact ⟨⟨g1, g2, rfl⟩, ⟨g4, g5⟩, b, rfl⟩
    · rw [hB (4 + 3 * q + 2) (by omega), show up2 A (dB 0 4) r (bI b) (dB 0 4) q = A (dB 0 4) q from up2_j e]
      exact ⟨⟨g1, g2, g3⟩, ⟨g4, g5⟩, g6⟩
  · obtain ⟨⟨g1, g2, g3⟩, g4, g5, g6⟩ := h5 u hu
    rw [hrow 5 (by decide) (by omega), hrow 6 (by decide) (by omega), hrow 7 (by decide) (by omega), hB (34 + 4 * u) (by omega), hB (34 + 4 * u + 1) (by omega), hB (34 + 4 * u + 2) (by omega)]
    refine ⟨⟨g1, g2, g3⟩, g4, g5, fun t ht => ?_⟩
    rw [hrow (9 + t) (by omega) (by omega)]
    exact nOk_e (fun j hj => hB j (by omega)) (g6 t ht)
  · rw [hrow (9 + t) (by omega) (by omega), show up2 B 2 (4 + 3 * r + 2) (bI b) 14 = B 14 from up2_row (by decide)]
    exact h6 u hu t ht
theorem up_th {f : Nat → Nat → Int32} {v w : Int32} {j : Nat} (h1 : j ≠ 11) (h2 : j ≠ 0) : up2 (up2 f 0 0 v) 0 11 w 0 j = f 0 j := (up2_j h1).trans (up2_j h2)
theorem up_t0 {f : Nat → Nat → Int32} {v w : Int32} : up2 (up2 f 0 0 v) 0 11 w 0 0 = v := (up2_j (by decide)).trans up2_eq
theorem up_t2 {f : Nat → Nat → Int32} {v w : Int32} {j : Nat} (h1 : j ≠ 2) (h2 : j ≠ 0) : up2 (up2 f 0 0 v) 0 2 w 0 j = f 0 j := (up2_j h1).trans (up2_j h2)
theorem nI0 {k : Nat} (h : k = 0) : nI k = 0 := by rw [h]; rfl
theorem kp_0 {x : Nat} : nI x = nI x := rfl
end CH
theorem ix_k {x : Int32} (h : ¬ (x < 1 ∨ 6 < x)) : ∃ k, (1 ≤ k ∧ k ≤ 6) ∧ x = nI k := by
  obtain ⟨h1, h2⟩ := not_or.mp h
  have h0 : ¬ x < 0 := fun q => h1 (Int32.lt_of_lt_of_le q (by decide))
  obtain ⟨j, hj, rfl⟩ := nI_of h0
  refine ⟨j, ⟨?_, ?_⟩, rfl⟩
  · exact Nat.not_lt.mp (fun q => h1 (by rw [show j = 0 by omega]; decide))
  · exact Nat.not_lt.mp (fun q => h2 (show nI 6 < nI j from nI_lt q (by omega)))
set_option maxHeartbeats 1000000 in
theorem pr_setColour (l : Launch) (hfl : l.stackTraces = false) (E1 E2 : En) (I A : Nat → Nat → Int32) (K : Nat → Nat → Int64) (I' B : Nat → Nat → Int32) (K' : Nat → Nat → Int64) (x0 x1 x2 : Int32) (hE1 : Ev 119 E1) (hE2 : Ev mN E2) (hc : cpl I A I' B) : PrH l yL_setColour cL_setColour 6 hh_setColour E1 [.ref (eP E1 0), .int x0, .int x1, .int x2, .ref (eP E1 118)] (I, A, K) yX7_setColour cX7_setColour 5 (some .int) E2 [.ref (eP E2 0), .int x0, .int x1, .int x2] (I', B, K') (fun w => w.toInt64) := by
  obtain ⟨bl, nx, kp, nr, nu, h⟩ := hc
  obtain ⟨hD, hM, hv, hnr, hnu⟩ := cpl_ok h
  rcases ix_r x0 (n := nr) (by omega) with ⟨r, g0, rfl⟩ | kb
  · rcases ix_2 x1 with ⟨sc, g1, rfl⟩ | kb
    · rcases ix_c x2 with g2 | kb
      · refine ph_ok (h_setColour l E1 I A K (nI r) (nI sc) (x2) _ hE1 (ma_wi (c_X6_setColour l E1 I A K nr nu r sc x2 nx kp (ev_c hE1) hD g0 g1 g2 h.2.2.1.2.1 h.2.2.1.2.2.1 h.2.2.1.1.1 h.2.2.1.1.2) ⟨by decide, by decide⟩)) (ma_wi (c_X7_setColour l E2 I' B K' nr nu r sc x2 kp hE2 hM g0 g1 g2 h.2.2.1.2.2.2 h.2.2.1.1.2) ⟨by decide, by decide⟩) (fun rr u w v hu hw => ?_)
        obtain ⟨rfl, rfl⟩ := hu
        obtain ⟨rfl, rfl⟩ := hw
        refine ⟨?_, (up_t0 (f := I') (v := 0) (w := nI (min (kp + 1) 8))), ?_⟩
        · exact (congrFun (cCpy_D (by omega) (by omega)) r).trans (vM_col hv g0 g1).symm
        · exact cpl_ch (J := up2 (up2 I' 0 0 0) 0 11 (nI (min (kp + 1) 8))) h (fA_up g1) fB_up (vM_set (vM_keep h.2.2.1.1.2 hv) g0 g1 (vC_g g2)) (up_th (by decide) (by decide)) (up_th (by decide) (by decide)) up2_eq
      · exact ph_bad (by decide) (hx_setColour_1 l E1 I A K (nI r) (nI sc) (x2) hE1 (mx_of (cx_X6_setColour_2 l E1 I A K nr nu r sc x2 (ev_c hE1) hD hfl g0 g1 kb) ⟨by decide, by decide⟩)) (ma_wi (c_X7_setColour_b2 l E2 I' B K' nr nu r sc x2 hE2 hM g0 g1 kb) ⟨by decide, by decide⟩) h
    · exact ph_bad (by decide) (hx_setColour_0 l E1 I A K (nI r) (x1) (x2) hE1 (mx_of (cx_X6_setColour_1 l E1 I A K nr nu r x1 x2 (ev_c hE1) hD hfl g0 kb) ⟨by decide, by decide⟩)) (ma_wi (c_X7_setColour_b1 l E2 I' B K' nr nu r x1 x2 hE2 hM g0 kb) ⟨by decide, by decide⟩) h
  · exact ph_bad (by decide) (hx_setColour_0 l E1 I A K (x0) (x1) (x2) hE1 (mx_of (cx_X6_setColour_0 l E1 I A K nr nu x0 x1 x2 (ev_c hE1) hD hfl kb) ⟨by decide, by decide⟩)) (ma_wi (c_X7_setColour_b0 l E2 I' B K' nr nu x0 x1 x2 hE2 hM kb) ⟨by decide, by decide⟩) h
set_option maxHeartbeats 1000000 in
theorem pr_setFixed (l : Launch) (hfl : l.stackTraces = false) (E1 E2 : En) (I A : Nat → Nat → Int32) (K : Nat → Nat → Int64) (I' B : Nat → Nat → Int32) (K' : Nat → Nat → Int64) (x0 x1 : Int32) (hb : x1 = 0 ∨ x1 = 1) (hE1 : Ev 119 E1) (hE2 : Ev mN E2) (hc : cpl I A I' B) : PrH l yL_setFixed cL_setFixed 5 hh_setFixed E1 [.ref (eP E1 0), .int x0, .int x1, .ref (eP E1 118)] (I, A, K) yX7_setFixed cX7_setFixed 4 (some .boolean) E2 [.ref (eP E2 0), .int x0, .int x1] (I', B, K') bL := by
  obtain ⟨bl, nx, kp, nr, nu, h⟩ := hc
  obtain ⟨hD, hM, hv, hnr, hnu⟩ := cpl_ok h
  obtain ⟨b, hb⟩ : ∃ b, x1 = bI b := by
    rcases hb with q | q
    · exact ⟨false, q⟩
    · exact ⟨true, q⟩
  have e1 : vp_nar .boolean x1 = bI b := by rw [hb]; exact nar_b b
  have e2 : (if x1 = 0 then 0 else 1) = bI b := by rw [hb]; cases b <;> rfl
  rcases ix_r x0 (n := nr) (by omega) with ⟨r, g0, rfl⟩ | kb
  · refine ph_ok (h_setFixed l E1 I A K (nI r) (x1) _ hE1 (ma_wi (c_X6_setFixed l E1 I A K nr nu r x1 nx kp (ev_c hE1) hD g0 h.2.2.1.2.1 h.2.2.1.2.2.1 h.2.2.1.1.1 h.2.2.1.1.2 (fx_01 hv g0)) ⟨by decide, by decide⟩)) (ma_wi (c_X7_setFixed l E2 I' B K' nr nu r x1 kp hE2 hM g0 h.2.2.1.2.2.2 h.2.2.1.1.2) ⟨by decide, by decide⟩) (fun rr u w v hu hw => ?_)
    obtain ⟨rfl, rfl⟩ := hu
    obtain ⟨rfl, rfl⟩ := hw
    refine ⟨?_, (up_t0 (f := I') (v := 0) (w := nI (min (kp + 1) 8))), ?_⟩
    · exact (congrFun (cCpy_D (by omega) (by omega)) r).trans (fx_eq hv g0)
    · show cpl _ (up2 (cCpy A (2 + nx) 0) (dB 0 4) r (vp_nar .boolean x1)) _ (up2 (mRem B kp) 2 (4 + 3 * r + 2) (if x1 = 0 then 0 else 1))
      rw [e1, e2]
      exact cpl_of (cpl_keep (J := up2 (up2 I' 0 0 0) 0 11 (nI (min (kp + 1) 8))) h (fun d hd k h1 h2 => up2_row (dB_ne h2 (by decide) (Or.inl (by omega)))) ((up2_row (by decide)).trans (cCpy_lo (by decide))) (fun a h1 h2 => up2_row (by omega)) ((up2_row (by decide)).trans (mRem_ne h.2.2.1.1.2 (by decide))) (vM_setF (vM_keep h.2.2.1.1.2 hv) g0) (up_th (by decide) (by decide)) (up_th (by decide) (by decide)) up2_eq)
  · exact ph_bad (by decide) (hx_setFixed_0 l E1 I A K (x0) (x1) hE1 (mx_of (cx_X6_setFixed_0 l E1 I A K nr nu x0 x1 (ev_c hE1) hD hfl kb) ⟨by decide, by decide⟩)) (ma_wi (c_X7_setFixed_b0 l E2 I' B K' nr nu x0 x1 hE2 hM kb) ⟨by decide, by decide⟩) h
set_option maxHeartbeats 1000000 in
theorem pr_shift (l : Launch) (hfl : l.stackTraces = false) (E1 E2 : En) (I A : Nat → Nat → Int32) (K : Nat → Nat → Int64) (I' B : Nat → Nat → Int32) (K' : Nat → Nat → Int64) (x0 x1 x2 : Int32) (hE1 : Ev 119 E1) (hE2 : Ev mN E2) (hc : cpl I A I' B) : PrH l yL_shift cL_shift 6 hh_shift E1 [.ref (eP E1 0), .int x0, .int x1, .int x2, .ref (eP E1 118)] (I, A, K) yX7_shift cX7_shift 4 (some .int) E2 [.ref (eP E2 0), .int x0, .int x1, .int x2] (I', B, K') (fun w => w.toInt64) := by
  obtain ⟨bl, nx, kp, nr, nu, h⟩ := hc
  obtain ⟨hD, hM, hv, hnr, hnu⟩ := cpl_ok h
  rcases ix_r x0 (n := nr) (by omega) with ⟨r, g0, rfl⟩ | kb
  · rcases ix_2 x1 with ⟨sc, g1, rfl⟩ | kb
    · by_cases q1 : x2 < -255 ∨ 255 < x2
      · have kb := q1
        exact ph_bad (by decide) (hx_shift_1 l E1 I A K (nI r) (nI sc) x2 hE1 (mx_of (cx_X6_shift_2 l E1 I A K nr nu r sc x2 (ev_c hE1) hD hfl g0 g1 kb) ⟨by decide, by decide⟩)) (ma_wi (c_X7_shift_b2 l E2 I' B K' nr nu r sc x2 hE2 hM g0 g1 kb) ⟨by decide, by decide⟩) h
      · have g2 : ¬ x2 < -255 ∧ ¬ 255 < x2 := not_or.mp q1
        by_cases kb : A (dB 0 4) r = 0
        · have hq := vM_shd (am := x2) (vM_keep (nx := nx) h.2.2.1.1.2 hv) g0 g1
          refine ph_ok (h_shift l E1 I A K (nI r) (nI sc) x2 _ hE1 (ma_wi (c_X6_shift l E1 I A K nr nu r sc x2 nx kp (ev_c hE1) hD g0 g1 h.2.2.1.2.1 h.2.2.1.2.2.1 h.2.2.1.1.1 h.2.2.1.1.2 g2.1 g2.2 kb) ⟨by decide, by decide⟩)) (ma_wi (c_X7_shift l E2 I' B K' nr nu r sc x2 kp hE2 hM g0 g1 g2 ((vM_fix hv g0).mpr kb) h.2.2.1.2.2.2 h.2.2.1.1.2) ⟨by decide, by decide⟩) (fun rr u w v hu hw => ?_)
          obtain ⟨rfl, rfl⟩ := hu
          obtain ⟨rfl, rfl⟩ := hw
          refine ⟨?_, (up_t0 (f := I') (v := 0) (w := nI (min (kp + 1) 8))), ?_⟩
          · exact (up2_eq.symm.trans (vM_col hq g0 g1).symm)
          · exact cpl_ch (J := up2 (up2 I' 0 0 0) 0 11 (nI (min (kp + 1) 8))) h (fA_up g1) fB_up hq (up_th (by decide) (by decide)) (up_th (by decide) (by decide)) up2_eq
        · exact ph_bad (by decide) (hx_shift_2 l E1 I A K (nI r) (nI sc) x2 hE1 (mx_of (cx_X6_shift_3 l E1 I A K nr nu r sc x2 (ev_c hE1) hD hfl g0 g1 g2.1 g2.2 kb) ⟨by decide, by decide⟩)) (ma_wi (c_X7_shift_b3 l E2 I' B K' nr nu r sc x2 hE2 hM g0 g1 g2 (Classical.not_not.mp (fun q => kb ((vM_fix hv g0).mp q)))) ⟨by decide, by decide⟩) h
    · exact ph_bad (by decide) (hx_shift_0 l E1 I A K (nI r) x1 x2 hE1 (mx_of (cx_X6_shift_1 l E1 I A K nr nu r x1 x2 (ev_c hE1) hD hfl g0 kb) ⟨by decide, by decide⟩)) (ma_wi (c_X7_shift_b1 l E2 I' B K' nr nu r x1 x2 hE2 hM g0 kb) ⟨by decide, by decide⟩) h
  · exact ph_bad (by decide) (hx_shift_0 l E1 I A K x0 x1 x2 hE1 (mx_of (cx_X6_shift_0 l E1 I A K nr nu x0 x1 x2 (ev_c hE1) hD hfl kb) ⟨by decide, by decide⟩)) (ma_wi (c_X7_shift_b0 l E2 I' B K' nr nu x0 x1 x2 hE2 hM kb) ⟨by decide, by decide⟩) h
set_option maxHeartbeats 1000000 in
theorem pr_repair (l : Launch) (hfl : l.stackTraces = false) (E1 E2 : En) (I A : Nat → Nat → Int32) (K : Nat → Nat → Int64) (I' B : Nat → Nat → Int32) (K' : Nat → Nat → Int64) (x0 : Int32) (hE1 : Ev 119 E1) (hE2 : Ev mN E2) (hc : cpl I A I' B) : PrH l yL_repair cL_repair 4 hh_repair E1 [.ref (eP E1 0), .int x0, .ref (eP E1 118)] (I, A, K) yX7_repair cX7_repair 3 (some .int) E2 [.ref (eP E2 0), .int x0] (I', B, K') (fun w => w.toInt64) := by
  obtain ⟨bl, nx, kp, nr, nu, h⟩ := hc
  obtain ⟨hD, hM, hv, hnr, hnu⟩ := cpl_ok h
  by_cases kb : x0 < 1 ∨ 6 < x0
  · exact ph_bad (by decide) (hx_repair_0 l E1 I A K x0 hE1 (mx_of (cx_X6_repair_0 l E1 I A K nr nu x0 (ev_c hE1) hD hfl kb) ⟨by decide, by decide⟩)) (ma_wi (c_X7_repair_b0 l E2 I' B K' x0 nr nu hE2 hM kb) ⟨by decide, by decide⟩) h
  · obtain ⟨k, hk, rfl⟩ := ix_k kb
    obtain ⟨q1, q2, q3, q4⟩ := vM_rep k _ _ (vM_keep (nx := nx) h.2.2.1.1.2 hv)
    refine ph_ok (h_repair l E1 I A K (nI k) _ hE1 (ma_wi (c_X6_repair l E1 I A K k nr nu nx kp (ev_c hE1) hD h.2.2.1.2.1 h.2.2.1.2.2.1 h.2.2.1.1.1 h.2.2.1.1.2 hk.1 hk.2) ⟨by decide, by decide⟩)) (ma_wi (c_X7_repair l E2 I' B K' nr nu k kp hE2 hM hk h.2.2.1.2.2.2 h.2.2.1.1.2) ⟨by decide, by decide⟩) (fun rr u w v hu hw => ?_)
    obtain ⟨rfl, rfl⟩ := hu
    obtain ⟨rfl, J, hJ, rfl⟩ := hw
    refine ⟨congrArg nI q1.symm, (hJ 0 0 (by decide)).trans (up_t0 (f := I') (v := 0) (w := nI (min (kp + 1) 8))), ?_⟩
    exact cpl_ch h q3 q4 q2 ((hJ 0 2 (by decide)).trans (up_th (by decide) (by decide))) ((hJ 0 7 (by decide)).trans (up_th (by decide) (by decide))) ((hJ 0 11 (by decide)).trans up2_eq)
set_option maxHeartbeats 1000000 in
theorem pr_load (l : Launch) (hfl : l.stackTraces = false) (E1 E2 : En) (I A : Nat → Nat → Int32) (K : Nat → Nat → Int64) (I' B : Nat → Nat → Int32) (K' : Nat → Nat → Int64) (x0 : Int32) (hE1 : Ev 119 E1) (hE2 : Ev mN E2) (hc : cpl I A I' B) : PrH l yL_load cL_load 4 hh_load E1 [.ref (eP E1 0), .int x0, .ref (eP E1 118)] (I, A, K) yX7_load cX7_load 3 (some .int) E2 [.ref (eP E2 0), .int x0] (I', B, K') (fun w => w.toInt64) := by
  obtain ⟨bl, nx, kp, nr, nu, h⟩ := hc
  obtain ⟨hD, hM, hv, hnr, hnu⟩ := cpl_ok h
  rcases ix_r x0 (n := bl + 1) (by have := h.1.2.2.1; omega) with ⟨k, hk1, rfl⟩ | kb
  · have hk : k ≤ bl := Nat.lt_succ_iff.mp hk1
    refine ph_ok (h_load l E1 I A K (nI k) _ hE1 (ma_wi (c_X6_load l E1 I A K k bl nx kp (ev_c hE1) h.1.1 hk h.1.2.2.1 h.2.2.1.2.1 h.2.2.1.2.2.1 h.2.2.1.1.1 h.2.2.1.1.2) ⟨by decide, by decide⟩)) (ma_wi (c_X7_load l E2 I' B K' (A 1) k bl kp A hE2 h.1.2.1 hk h.1.2.2.1 ⟨Nat.le_trans hk h.1.2.2.1, fun j hj => h.1.2.2.2 j (Nat.lt_of_lt_of_le hj hk)⟩ h.2.2.1.2.2.2 h.2.2.1.1.2) ⟨by decide, by decide⟩) (fun rr u w v hu hw => ?_)
    obtain ⟨J, C, hr, hu⟩ := hu
    obtain ⟨L, Bm, hq, hs, hB, hw⟩ := hw
    have h00 : L 0 0 = 0 := hs 0 0 (by decide)
    rcases hu with ⟨e1, rfl, rfl⟩ | ⟨e1, rfl, rfl⟩
    · rcases hw with ⟨e2, rfl, rfl⟩ | ⟨e2, rfl, ok, rfl⟩
      · exact ⟨rfl, (show up2 L 0 7 (L 0 6) 0 0 = 0 from (up2_j (by decide)).trans h00), cpl_of (cpl_read h hr hq hs hB)⟩
      · exact absurd e2 e1
    · rcases hw with ⟨e2, rfl, rfl⟩ | ⟨e2, rfl, ok, rfl⟩
      · exact absurd e1 e2
      · exact ⟨rfl, (show up2 (up2 L 0 7 (L 0 6)) 0 11 (nI (min (kp + 1) 8)) 0 0 = 0 from (up2_j (by decide)).trans ((up2_j (by decide)).trans h00)), cpl_of (cpl_load h hr e1 hq hs hB)⟩
  · have kb : x0 < 0 ∨ nI bl < x0 := by
      rcases kb with q | q
      · exact Or.inl q
      · exact Or.inr (Int32.lt_of_lt_of_le (nI_lt (Nat.lt_succ_self bl) (by have := h.1.2.2.1; omega)) q)
    exact ph_bad (by decide) (hx_load_0 l E1 I A K x0 hE1 (mx_of (cx_X6_load_0 l E1 I A K bl x0 (ev_c hE1) hfl h.1.1 kb) ⟨by decide, by decide⟩)) (ma_wi (c_X7_load_b0 l E2 I' B K' x0 bl hE2 h.1.2.1 kb) ⟨by decide, by decide⟩) h
theorem pr_append (l : Launch) (E1 E2 : En) (I A : Nat → Nat → Int32) (K : Nat → Nat → Int64) (I' B : Nat → Nat → Int32) (K' : Nat → Nat → Int64) (w0 w1 w2 w3 w4 : Int32) (hE1 : Ev 119 E1) (hE2 : Ev mN E2) (hc : cpl I A I' B) : PrD l yX6_append cX6_append 6 (some .int) E1 [.ref (eP E1 0), .int w0, .int w1, .int w2, .int w3, .int w4] (I, A, K) yX7_append cX7_append 8 (some .int) E2 [.ref (eP E2 0), .int w0, .int w1, .int w2, .int w3, .int w4] (I', B, K') := by
  obtain ⟨bl, nx, kp, nr, nu, h⟩ := hc
  obtain ⟨hD, hM, hv, hnr, hnu⟩ := cpl_ok h
  refine ⟨_, _, ma_wi (c_X6_append l E1 I A K w0 w1 w2 w3 w4 bl (ev_c hE1) h.1.1 h.1.2.2.1) ⟨by decide, by decide⟩, ma_wi (c_X7_append l E2 I' B K' w0 w1 w2 w3 w4 bl hE2 h.1.2.1 h.1.2.2.1) ⟨by decide, by decide⟩, fun z u w v hu hw => ?_⟩
  rcases hu with ⟨e1, rfl, rfl⟩ | ⟨e1, rfl, rfl⟩
  · rcases hw with ⟨e2, rfl, rfl⟩ | ⟨e2, rfl, rfl⟩
    · exact ⟨rfl, cpl_of (cpl_app (J := up2 (up2 I' 0 0 0) 0 2 (nI (bl + 20))) h e1 up2_eq (up_t2 (by decide) (by decide)) (up_t2 (by decide) (by decide)))⟩
    · omega
  · rcases hw with ⟨e2, rfl, rfl⟩ | ⟨e2, rfl, rfl⟩
    · omega
    · exact ⟨rfl, cpl_of (cpl_th h)⟩
theorem pr_swapSchemes (l : Launch) (E1 E2 : En) (I A : Nat → Nat → Int32) (K : Nat → Nat → Int64) (I' B : Nat → Nat → Int32) (K' : Nat → Nat → Int64) (hE1 : Ev 119 E1) (hE2 : Ev mN E2) (hc : cpl I A I' B) : PrD l yX6_swapSchemes cX6_swapSchemes 1 (some .int) E1 [.ref (eP E1 0)] (I, A, K) yX7_swapSchemes cX7_swapSchemes 3 (some .int) E2 [.ref (eP E2 0)] (I', B, K') := by
  obtain ⟨bl, nx, kp, nr, nu, h⟩ := hc
  obtain ⟨hD, hM, hv, hnr, hnu⟩ := cpl_ok h
  obtain ⟨q1, q2, q3⟩ := vM_exc (vM_keep (nx := nx) h.2.2.1.1.2 hv) nr (Nat.le_refl _)
  refine ⟨_, _, ma_wi (c_X6_swapSchemes l E1 I A K nr nu nx kp (ev_c hE1) hD h.2.2.1.2.1 h.2.2.1.2.2.1 h.2.2.1.1.1 h.2.2.1.1.2) ⟨by decide, by decide⟩, ma_wi (c_X7_swapSchemes l E2 I' B K' nr nu kp hE2 hM h.2.2.1.2.2.2 h.2.2.1.1.2) ⟨by decide, by decide⟩, fun z u w v hu hw => ?_⟩
  obtain ⟨rfl, rfl⟩ := hu
  obtain ⟨rfl, rfl⟩ := hw
  refine ⟨?_, ?_⟩
  · rw [vM_vio q1 (by decide) nu (Nat.le_refl _), vM_vio q1 (by decide) nu (Nat.le_refl _)]
  · exact cpl_ch (J := up2 (up2 I' 0 0 0) 0 11 (nI (min (kp + 1) 8))) h q2 q3 q1 (up_th (by decide) (by decide)) (up_th (by decide) (by decide)) up2_eq
theorem pr_undo (l : Launch) (E1 E2 : En) (I A : Nat → Nat → Int32) (K : Nat → Nat → Int64) (I' B : Nat → Nat → Int32) (K' : Nat → Nat → Int64) (hE1 : Ev 119 E1) (hE2 : Ev mN E2) (hc : cpl I A I' B) : PrD l yX6_undo cX6_undo 1 (some .int) E1 [.ref (eP E1 0)] (I, A, K) yX7_undo cX7_undo 1 (some .int) E2 [.ref (eP E2 0)] (I', B, K') := by
  obtain ⟨bl, nx, kp, nr, nu, h⟩ := hc
  obtain ⟨hD, hM, hv, hnr, hnu⟩ := cpl_ok h
  by_cases hk : kp = 0
  · subst hk
    refine ⟨_, _, ma_wi (c_X6_undo l E1 I A K nx 0 (ev_c hE1) h.2.2.1.2.1 h.2.2.1.2.2.1 h.2.2.1.1.1 h.2.2.1.1.2) ⟨by decide, by decide⟩, ma_wi (c_X7_undo_0 l E2 I' B K' hE2 h.2.2.1.2.2.2) ⟨by decide, by decide⟩, fun z u w v hu hw => ?_⟩
    obtain ⟨rfl, rfl⟩ := hw
    rcases hu with ⟨-, rfl, rfl⟩ | ⟨e1, -, -⟩
    · exact ⟨rfl, cpl_of (cpl_th h)⟩
    · omega
  · obtain ⟨k, rfl⟩ : ∃ k, kp = k + 1 := ⟨kp - 1, by omega⟩
    obtain ⟨nr', nu', wn, g1, g2, g3, g4⟩ := cpl_undo (J := up2 (up2 I' 0 0 0) 0 11 (nI k)) h
    refine ⟨_, _, ma_wi (c_X6_undo l E1 I A K nx (k + 1) (ev_c hE1) h.2.2.1.2.1 h.2.2.1.2.2.1 h.2.2.1.1.1 h.2.2.1.1.2) ⟨by decide, by decide⟩, ma_wi (c_X7_undo l E2 I' B K' k nu' wn hE2 h.2.2.1.2.2.2 (by have := h.2.2.1.1.2; omega) g1 g2 g3) ⟨by decide, by decide⟩, fun z u w v hu hw => ?_⟩
    obtain ⟨rfl, ok, rfl⟩ := hw
    rcases hu with ⟨e1, -, -⟩ | ⟨e1, rfl, rfl⟩
    · omega
    · exact ⟨rfl, cpl_of (g4 (up_th (by decide) (by decide)) (up_th (by decide) (by decide)) up2_eq)⟩
