theorem ix_r (x : Int32) {n : Nat} (hn : n < 2 ^ 20) : (∃ r, r < n ∧ x = nI r) ∨ (x < 0 ∨ nI n ≤ x) := by
  by_cases hx : x < 0
  · exact Or.inr (Or.inl hx)
  · obtain ⟨j, hj, rfl⟩ := nI_of hx
    by_cases g : j < n
    · exact Or.inl ⟨j, g, rfl⟩
    · exact Or.inr (Or.inr (by rw [Int32.le_iff_toInt_le, nI_toInt (by omega), nI_toInt (by omega)]; omega))
theorem ix_2 (x : Int32) : (∃ r, r < 2 ∧ x = nI r) ∨ (x < 0 ∨ 2 ≤ x) := ix_r x (n := 2) (by decide)
theorem ix_5 (x : Int32) : (∃ r, r < 5 ∧ x = nI r) ∨ (x < 0 ∨ 5 ≤ x) := ix_r x (n := 5) (by decide)
theorem ix_c (x : Int32) : (¬ x < 0 ∧ ¬ 16777215 < x) ∨ (x < 0 ∨ 16777215 < x) := by
  by_cases h : x < 0
  · exact Or.inr (Or.inl h)
  · by_cases g : 16777215 < x
    · exact Or.inr (Or.inr g)
    · exact Or.inl ⟨h, g⟩
theorem vC_g {x : Int32} (h : ¬ x < 0 ∧ ¬ 16777215 < x) : vC x := ⟨Int32.not_lt.mp h.1, Int32.not_lt.mp h.2⟩
/-- a helper of the law and the model's method: the same code, and where it is 0 the same answer -/
def PrH (l : Launch) (yH : MethodName) (cH : ByteArray) (mH : Nat) (hh : List (Nat × Nat × Nat × Nat)) (E1 : En) (avH : List Value) (x : St) (yM : MethodName) (cM : ByteArray) (mM : Nat) (rM : Option FieldType) (E2 : En) (avM : List Value) (y : St) (T : Int32 → Int64) : Prop :=
  ∃ (pH pM : Int32 → St → Prop), Mh l yH cH mH hh E1 avH x pH ∧ Ma l yM cM mM rM mN E2 mK avM y pM ∧ ∀ z u w v, pH z u → pM w v → v.1 0 0 = z ∧ cpl u.1 u.2.1 v.1 v.2.1 ∧ (z = 0 → u.2.2 118 0 = T w)
/-- a method of the component and the model's -/
def PrD (l : Launch) (yC : MethodName) (cC : ByteArray) (mC : Nat) (rC : Option FieldType) (E1 : En) (avC : List Value) (x : St) (yM : MethodName) (cM : ByteArray) (mM : Nat) (rM : Option FieldType) (E2 : En) (avM : List Value) (y : St) : Prop :=
  ∃ (pC pM : Int32 → St → Prop), Ma l yC cC mC rC cN E1 cK avC x pC ∧ Ma l yM cM mM rM mN E2 mK avM y pM ∧ ∀ z u w v, pC z u → pM w v → z = w ∧ cpl u.1 u.2.1 v.1 v.2.1
def bL (r : Int32) : Int64 := if r = 0 then 0 else 1
section PR
variable {l : Launch} {yH yM yC : MethodName} {cH cM cC : ByteArray} {mH mM mC : Nat} {rM rC : Option FieldType} {hh : List (Nat × Nat × Nat × Nat)} {E1 E2 : En} {avH avM avC : List Value} {I A I' B : Nat → Nat → Int32} {K K' : Nat → Nat → Int64} {T : Int32 → Int64} {bl nx kp nr nu : Nat}
theorem cpl_th {v : Int32} (h : cplX I A I' B bl nx kp nr nu) : cplX I A (up2 I' 0 0 v) B bl nx kp nr nu := cpl_I h (up2_j (by decide)) (up2_j (by decide)) (up2_j (by decide))
theorem cpl_of (h : cplX I A I' B bl nx kp nr nu) : cpl I A I' B := ⟨bl, nx, kp, nr, nu, h⟩
theorem cpl_ok (h : cplX I A I' B bl nx kp nr nu) : DOk I A 0 nr nu ∧ MOk B nr nu ∧ vM A B nr nu ∧ nr ≤ 10 ∧ nu ≤ 12 := ⟨cD_DOk h.2.2.2.1.2.2.1 h.2.2.2.1.1 h.2.2.2.1.2.1, vM_MOk h.2.2.2.1.2.2, h.2.2.2.1.2.2, h.2.2.2.1.2.2.1.1.1, h.2.2.2.1.2.2.1.1.2⟩
theorem ph_bad {k : Int32} (hk : ¬ k = 0) (h1 : Mh l yH cH mH hh E1 avH (I, A, K) (fun zz uu => zz = k ∧ uu = (I, A, K))) (h2 : Ma l yM cM mM rM mN E2 mK avM (I', B, K') (fun _ uu => uu = (up2 I' 0 0 k, B, K'))) (h : cplX I A I' B bl nx kp nr nu) : PrH l yH cH mH hh E1 avH (I, A, K) yM cM mM rM E2 avM (I', B, K') T := by
  refine ⟨_, _, h1, h2, fun z u w v hu hv => ?_⟩
  obtain ⟨rfl, rfl⟩ := hu
  subst hv
  exact ⟨(show up2 I' 0 0 _ 0 0 = _ from up2_eq), cpl_of (cpl_th h), fun q => absurd q hk⟩
theorem ph_ok {pc pM : Int32 → St → Prop} (h1 : Mh l yH cH mH hh E1 avH (I, A, K) (fun zz uu => zz = 0 ∧ ∃ r u, pc r u ∧ uu = (u.1, u.2.1, up2 (va_up u.2.2 118 (K 118)) 118 0 (T r)))) (h2 : Ma l yM cM mM rM mN E2 mK avM (I', B, K') pM) (h : ∀ r u w v, pc r u → pM w v → r = w ∧ v.1 0 0 = 0 ∧ cpl u.1 u.2.1 v.1 v.2.1) : PrH l yH cH mH hh E1 avH (I, A, K) yM cM mM rM E2 avM (I', B, K') T := by
  refine ⟨_, _, h1, h2, fun z u w v hu hv => ?_⟩
  obtain ⟨rfl, r, u0, hp, rfl⟩ := hu
  obtain ⟨rfl, g1, g2⟩ := h _ _ _ _ hp hv
  exact ⟨g1, g2, fun _ => (show up2 (va_up u0.2.2 118 (K 118)) 118 0 _ 118 0 = _ from up2_eq)⟩
theorem ph_q {a b : Int32} (h1 : Mh l yH cH mH hh E1 avH (I, A, K) (fun zz uu => zz = 0 ∧ ∃ r u, (fun (zz : Int32) (uu : St) => zz = a ∧ uu = (I, A, K)) r u ∧ uu = (u.1, u.2.1, up2 (va_up u.2.2 118 (K 118)) 118 0 (T r)))) (h2 : Ma l yM cM mM rM mN E2 mK avM (I', B, K') (fun zz uu => zz = b ∧ uu = (up2 I' 0 0 0, B, K'))) (h : cplX I A I' B bl nx kp nr nu) (e : a = b) : PrH l yH cH mH hh E1 avH (I, A, K) yM cM mM rM E2 avM (I', B, K') T := by
  refine ph_ok h1 h2 (fun r u w v hu hv => ?_)
  obtain ⟨rfl, rfl⟩ := hu
  obtain ⟨rfl, rfl⟩ := hv
  exact ⟨e, (show up2 I' 0 0 _ 0 0 = _ from up2_eq), cpl_of (cpl_th h)⟩
theorem cpl_rF {J : Nat → Nat → Int32} (h : cplX I A I' B bl nx kp nr nu) (hr : rF (up2 I' 0 0 0) J) : cplX I A J B bl nx kp nr nu := cpl_I (cpl_th (v := 0) h) (hr _ _ (by decide)) (hr _ _ (by decide)) (hr _ _ (by decide))
theorem ph_qF {a b : Int32} (h1 : Mh l yH cH mH hh E1 avH (I, A, K) (fun zz uu => zz = 0 ∧ ∃ r u, (fun (zz : Int32) (uu : St) => zz = a ∧ uu = (I, A, K)) r u ∧ uu = (u.1, u.2.1, up2 (va_up u.2.2 118 (K 118)) 118 0 (T r)))) (h2 : Ma l yM cM mM rM mN E2 mK avM (I', B, K') (fun zz uu => zz = b ∧ ∃ J, rF (up2 I' 0 0 0) J ∧ uu = (J, B, K'))) (h : cplX I A I' B bl nx kp nr nu) (e : a = b) : PrH l yH cH mH hh E1 avH (I, A, K) yM cM mM rM E2 avM (I', B, K') T := by
  refine ph_ok h1 h2 (fun r u w v hu hv => ?_)
  obtain ⟨rfl, rfl⟩ := hu
  obtain ⟨rfl, J, hJ, rfl⟩ := hv
  exact ⟨e, (hJ _ _ (by decide)).trans up2_eq, cpl_of (cpl_rF h hJ)⟩
theorem pd_q {a b : Int32} (h1 : Ma l yC cC mC rC cN E1 cK avC (I, A, K) (fun zz uu => zz = a ∧ uu = (I, A, K))) (h2 : Ma l yM cM mM rM mN E2 mK avM (I', B, K') (fun zz uu => zz = b ∧ uu = (up2 I' 0 0 0, B, K'))) (h : cplX I A I' B bl nx kp nr nu) (e : a = b) : PrD l yC cC mC rC E1 avC (I, A, K) yM cM mM rM E2 avM (I', B, K') := by
  refine ⟨_, _, h1, h2, fun z u w v hu hv => ?_⟩
  obtain ⟨rfl, rfl⟩ := hu
  obtain ⟨rfl, rfl⟩ := hv
  exact ⟨e, cpl_of (cpl_th h)⟩
end PR
theorem fx_01 {A B : Nat → Nat → Int32} {nr nu r : Nat} (h : vM A B nr nu) (hr : r < nr) : A (dB 0 4) r = 0 ∨ A (dB 0 4) r = 1 := by
  obtain ⟨-, -, ⟨b, hb⟩⟩ := h.1.2.2.1 r hr
  rw [hb]
  cases b
  · exact Or.inl rfl
  · exact Or.inr rfl
theorem fx_eq {A B : Nat → Nat → Int32} {nr nu r : Nat} (h : vM A B nr nu) (hr : r < nr) : A (dB 0 4) r = (if B 2 (4 + 3 * r + 2) = 1 then 1 else 0) := by
  obtain ⟨⟨-, -, g3⟩, -, ⟨b, hb⟩⟩ := h.1.2.2.1 r hr
  rw [g3, hb]
  cases b <;> rfl
set_option maxHeartbeats 1000000 in
theorem pr_colour (l : Launch) (hfl : l.stackTraces = false) (E1 E2 : En) (I A : Nat → Nat → Int32) (K : Nat → Nat → Int64) (I' B : Nat → Nat → Int32) (K' : Nat → Nat → Int64) (x0 x1 : Int32) (hE1 : Ev 119 E1) (hE2 : Ev mN E2) (hc : cpl I A I' B) : PrH l yL_colour cL_colour 5 hh_colour E1 [.ref (eP E1 0), .int x0, .int x1, .ref (eP E1 118)] (I, A, K) yX7_colour cX7_colour 3 (some .int) E2 [.ref (eP E2 0), .int x0, .int x1] (I', B, K') (fun w => w.toInt64) := by
  obtain ⟨bl, nx, kp, nr, nu, h⟩ := hc
  obtain ⟨hD, hM, hv, hnr, hnu⟩ := cpl_ok h
  rcases ix_r x0 (n := nr) (by omega) with ⟨r, g0, rfl⟩ | kb
  · rcases ix_2 x1 with ⟨sc, g1, rfl⟩ | kb
    · exact ph_q (h_colour l E1 I A K (nI r) (nI sc) _ hE1 (ma_si (c_X6_colour l E1 I A K nr nu r sc (ev_c hE1) hD g0 g1) ⟨by decide, by decide⟩)) (ma_wi (c_X7_colour l E2 I' B K' nr nu r sc hE2 hM g0 g1) ⟨by decide, by decide⟩) h (vM_col hv g0 g1).symm
    · exact ph_bad (by decide) (hx_colour_0 l E1 I A K (nI r) (x1) hE1 (mx_of (cx_X6_colour_1 l E1 I A K nr nu r x1 (ev_c hE1) hD hfl g0 kb) ⟨by decide, by decide⟩)) (ma_wi (c_X7_colour_b1 l E2 I' B K' nr nu r x1 hE2 hM g0 kb) ⟨by decide, by decide⟩) h
  · exact ph_bad (by decide) (hx_colour_0 l E1 I A K (x0) (x1) hE1 (mx_of (cx_X6_colour_0 l E1 I A K nr nu x0 x1 (ev_c hE1) hD hfl kb) ⟨by decide, by decide⟩)) (ma_wi (c_X7_colour_b0 l E2 I' B K' nr nu x0 x1 hE2 hM kb) ⟨by decide, by decide⟩) h
set_option maxHeartbeats 1000000 in
theorem pr_isFixed (l : Launch) (hfl : l.stackTraces = false) (E1 E2 : En) (I A : Nat → Nat → Int32) (K : Nat → Nat → Int64) (I' B : Nat → Nat → Int32) (K' : Nat → Nat → Int64) (x0 : Int32) (hE1 : Ev 119 E1) (hE2 : Ev mN E2) (hc : cpl I A I' B) : PrH l yL_isFixed cL_isFixed 4 hh_isFixed E1 [.ref (eP E1 0), .int x0, .ref (eP E1 118)] (I, A, K) yX7_isFixed cX7_isFixed 2 (some .boolean) E2 [.ref (eP E2 0), .int x0] (I', B, K') bL := by
  obtain ⟨bl, nx, kp, nr, nu, h⟩ := hc
  obtain ⟨hD, hM, hv, hnr, hnu⟩ := cpl_ok h
  rcases ix_r x0 (n := nr) (by omega) with ⟨r, g0, rfl⟩ | kb
  · exact ph_q (h_isFixed l E1 I A K (nI r) _ hE1 (ma_si (c_X6_isFixed l E1 I A K nr nu r (ev_c hE1) hD g0 (fx_01 hv g0)) ⟨by decide, by decide⟩)) (ma_wi (c_X7_isFixed l E2 I' B K' nr nu r hE2 hM g0) ⟨by decide, by decide⟩) h (fx_eq hv g0)
  · exact ph_bad (by decide) (hx_isFixed_0 l E1 I A K (x0) hE1 (mx_of (cx_X6_isFixed_0 l E1 I A K nr nu x0 (ev_c hE1) hD hfl kb) ⟨by decide, by decide⟩)) (ma_wi (c_X7_isFixed_b0 l E2 I' B K' nr nu x0 hE2 hM kb) ⟨by decide, by decide⟩) h
set_option maxHeartbeats 1000000 in
theorem pr_luminance (l : Launch) (hfl : l.stackTraces = false) (E1 E2 : En) (I A : Nat → Nat → Int32) (K : Nat → Nat → Int64) (I' B : Nat → Nat → Int32) (K' : Nat → Nat → Int64) (x0 x1 : Int32) (hE1 : Ev 119 E1) (hE2 : Ev mN E2) (hc : cpl I A I' B) : PrH l yL_luminance cL_luminance 5 hh_luminance E1 [.ref (eP E1 0), .int x0, .int x1, .ref (eP E1 118)] (I, A, K) yX7_luminance cX7_luminance 3 (some .int) E2 [.ref (eP E2 0), .int x0, .int x1] (I', B, K') (fun w => w.toInt64) := by
  obtain ⟨bl, nx, kp, nr, nu, h⟩ := hc
  obtain ⟨hD, hM, hv, hnr, hnu⟩ := cpl_ok h
  rcases ix_r x0 (n := nr) (by omega) with ⟨r, g0, rfl⟩ | kb
  · rcases ix_2 x1 with ⟨sc, g1, rfl⟩ | kb
    · exact ph_q (h_luminance l E1 I A K (nI r) (nI sc) _ hE1 (ma_si (c_X6_luminance l E1 I A K nr nu r sc (ev_c hE1) hD g0 g1) ⟨by decide, by decide⟩)) (ma_wi (c_X7_luminance l E2 I' B K' nr nu r sc hE2 hM g0 g1) ⟨by decide, by decide⟩) h (congrArg pBri (vM_col hv g0 g1).symm)
    · exact ph_bad (by decide) (hx_luminance_0 l E1 I A K (nI r) (x1) hE1 (mx_of (cx_X6_luminance_1 l E1 I A K nr nu r x1 (ev_c hE1) hD hfl g0 kb) ⟨by decide, by decide⟩)) (ma_wi (c_X7_luminance_b1 l E2 I' B K' nr nu r x1 hE2 hM g0 kb) ⟨by decide, by decide⟩) h
  · exact ph_bad (by decide) (hx_luminance_0 l E1 I A K (x0) (x1) hE1 (mx_of (cx_X6_luminance_0 l E1 I A K nr nu x0 x1 (ev_c hE1) hD hfl kb) ⟨by decide, by decide⟩)) (ma_wi (c_X7_luminance_b0 l E2 I' B K' nr nu x0 x1 hE2 hM kb) ⟨by decide, by decide⟩) h
set_option maxHeartbeats 1000000 in
theorem pr_contrast (l : Launch) (hfl : l.stackTraces = false) (E1 E2 : En) (I A : Nat → Nat → Int32) (K : Nat → Nat → Int64) (I' B : Nat → Nat → Int32) (K' : Nat → Nat → Int64) (x0 x1 x2 : Int32) (hE1 : Ev 119 E1) (hE2 : Ev mN E2) (hc : cpl I A I' B) : PrH l yL_contrast cL_contrast 6 hh_contrast E1 [.ref (eP E1 0), .int x0, .int x1, .int x2, .ref (eP E1 118)] (I, A, K) yX7_contrast cX7_contrast 4 (some .int) E2 [.ref (eP E2 0), .int x0, .int x1, .int x2] (I', B, K') (fun w => w.toInt64) := by
  obtain ⟨bl, nx, kp, nr, nu, h⟩ := hc
  obtain ⟨hD, hM, hv, hnr, hnu⟩ := cpl_ok h
  rcases ix_r x0 (n := nr) (by omega) with ⟨r, g0, rfl⟩ | kb
  · rcases ix_r x1 (n := nr) (by omega) with ⟨q, g1, rfl⟩ | kb
    · rcases ix_2 x2 with ⟨sc, g2, rfl⟩ | kb
      · exact ph_q (h_contrast l E1 I A K (nI r) (nI q) (nI sc) _ hE1 (ma_si (c_X6_contrast l E1 I A K nr nu r q sc (ev_c hE1) hD g0 g1 g2) ⟨by decide, by decide⟩)) (ma_wi (c_X7_contrast l E2 I' B K' nr nu r q sc hE2 hM g0 g1 g2) ⟨by decide, by decide⟩) h (by rw [vM_col hv g0 g2, vM_col hv g1 g2]; exact con_eq (vM_vC hv g0 g2) (vM_vC hv g1 g2))
      · exact ph_bad (by decide) (hx_contrast_0 l E1 I A K (nI r) (nI q) (x2) hE1 (mx_of (cx_X6_contrast_2 l E1 I A K nr nu r q x2 (ev_c hE1) hD hfl g0 g1 kb) ⟨by decide, by decide⟩)) (ma_wi (c_X7_contrast_b2 l E2 I' B K' nr nu r q x2 hE2 hM g0 g1 kb) ⟨by decide, by decide⟩) h
    · exact ph_bad (by decide) (hx_contrast_0 l E1 I A K (nI r) (x1) (x2) hE1 (mx_of (cx_X6_contrast_1 l E1 I A K nr nu r x1 x2 (ev_c hE1) hD hfl g0 kb) ⟨by decide, by decide⟩)) (ma_wi (c_X7_contrast_b1 l E2 I' B K' nr nu r x1 x2 hE2 hM g0 kb) ⟨by decide, by decide⟩) h
  · exact ph_bad (by decide) (hx_contrast_0 l E1 I A K (x0) (x1) (x2) hE1 (mx_of (cx_X6_contrast_0 l E1 I A K nr nu x0 x1 x2 (ev_c hE1) hD hfl kb) ⟨by decide, by decide⟩)) (ma_wi (c_X7_contrast_b0 l E2 I' B K' nr nu x0 x1 x2 hE2 hM kb) ⟨by decide, by decide⟩) h
set_option maxHeartbeats 1000000 in
theorem pr_seen (l : Launch) (hfl : l.stackTraces = false) (E1 E2 : En) (I A : Nat → Nat → Int32) (K : Nat → Nat → Int64) (I' B : Nat → Nat → Int32) (K' : Nat → Nat → Int64) (x0 x1 x2 : Int32) (hE1 : Ev 119 E1) (hE2 : Ev mN E2) (hc : cpl I A I' B) : PrH l yL_seen cL_seen 6 hh_seen E1 [.ref (eP E1 0), .int x0, .int x1, .int x2, .ref (eP E1 118)] (I, A, K) yX7_seen cX7_seen 4 (some .int) E2 [.ref (eP E2 0), .int x0, .int x1, .int x2] (I', B, K') (fun w => w.toInt64) := by
  obtain ⟨bl, nx, kp, nr, nu, h⟩ := hc
  obtain ⟨hD, hM, hv, hnr, hnu⟩ := cpl_ok h
  rcases ix_r x0 (n := nr) (by omega) with ⟨r, g0, rfl⟩ | kb
  · rcases ix_2 x1 with ⟨sc, g1, rfl⟩ | kb
    · rcases ix_5 x2 with ⟨t, g2, rfl⟩ | kb
      · exact ph_q (h_seen l E1 I A K (nI r) (nI sc) (nI t) _ hE1 (ma_si (c_X6_seen l E1 I A K nr nu r sc t (ev_c hE1) hD g0 g1 g2) ⟨by decide, by decide⟩)) (ma_wi (c_X7_seen l E2 I' B K' nr nu r sc t hE2 hM g0 g1 g2) ⟨by decide, by decide⟩) h (by rw [vM_col hv g0 g1]; exact seen_eq g2 (vM_vC hv g0 g1))
      · exact ph_bad (by decide) (hx_seen_1 l E1 I A K (nI r) (nI sc) (x2) hE1 (mx_of (cx_X6_seen_2 l E1 I A K nr nu r sc x2 (ev_c hE1) hD hfl g0 g1 kb) ⟨by decide, by decide⟩)) (ma_wi (c_X7_seen_b2 l E2 I' B K' nr nu r sc x2 hE2 hM g0 g1 kb) ⟨by decide, by decide⟩) h
    · exact ph_bad (by decide) (hx_seen_0 l E1 I A K (nI r) (x1) (x2) hE1 (mx_of (cx_X6_seen_1 l E1 I A K nr nu r x1 x2 (ev_c hE1) hD hfl g0 kb) ⟨by decide, by decide⟩)) (ma_wi (c_X7_seen_b1 l E2 I' B K' nr nu r x1 x2 hE2 hM g0 kb) ⟨by decide, by decide⟩) h
  · exact ph_bad (by decide) (hx_seen_0 l E1 I A K (x0) (x1) (x2) hE1 (mx_of (cx_X6_seen_0 l E1 I A K nr nu x0 x1 x2 (ev_c hE1) hD hfl kb) ⟨by decide, by decide⟩)) (ma_wi (c_X7_seen_b0 l E2 I' B K' nr nu x0 x1 x2 hE2 hM kb) ⟨by decide, by decide⟩) h
set_option maxHeartbeats 1000000 in
theorem pr_difference (l : Launch) (hfl : l.stackTraces = false) (E1 E2 : En) (I A : Nat → Nat → Int32) (K : Nat → Nat → Int64) (I' B : Nat → Nat → Int32) (K' : Nat → Nat → Int64) (x0 x1 x2 x3 : Int32) (hE1 : Ev 119 E1) (hE2 : Ev mN E2) (hc : cpl I A I' B) : PrH l yL_difference cL_difference 7 hh_difference E1 [.ref (eP E1 0), .int x0, .int x1, .int x2, .int x3, .ref (eP E1 118)] (I, A, K) yX7_difference cX7_difference 5 (some .int) E2 [.ref (eP E2 0), .int x0, .int x1, .int x2, .int x3] (I', B, K') (fun w => w.toInt64) := by
  obtain ⟨bl, nx, kp, nr, nu, h⟩ := hc
  obtain ⟨hD, hM, hv, hnr, hnu⟩ := cpl_ok h
  rcases ix_r x0 (n := nr) (by omega) with ⟨r, g0, rfl⟩ | kb
  · rcases ix_r x1 (n := nr) (by omega) with ⟨q, g1, rfl⟩ | kb
    · rcases ix_2 x2 with ⟨sc, g2, rfl⟩ | kb
      · rcases ix_5 x3 with ⟨t, g3, rfl⟩ | kb
        · exact ph_q (h_difference l E1 I A K (nI r) (nI q) (nI sc) (nI t) _ hE1 (ma_si (c_X6_difference l E1 I A K nr nu r q sc t (ev_c hE1) hD g0 g1 g2 g3) ⟨by decide, by decide⟩)) (ma_wi (c_X7_difference l E2 I' B K' nr nu r q sc t hE2 hM g0 g1 g2 g3) ⟨by decide, by decide⟩) h (by rw [vM_col hv g0 g2, vM_col hv g1 g2]; exact dif_eq g3 (vM_vC hv g0 g2) (vM_vC hv g1 g2))
        · exact ph_bad (by decide) (hx_difference_1 l E1 I A K (nI r) (nI q) (nI sc) (x3) hE1 (mx_of (cx_X6_difference_3 l E1 I A K nr nu r q sc x3 (ev_c hE1) hD hfl g0 g1 g2 kb) ⟨by decide, by decide⟩)) (ma_wi (c_X7_difference_b3 l E2 I' B K' nr nu r q sc x3 hE2 hM g0 g1 g2 kb) ⟨by decide, by decide⟩) h
      · exact ph_bad (by decide) (hx_difference_0 l E1 I A K (nI r) (nI q) (x2) (x3) hE1 (mx_of (cx_X6_difference_2 l E1 I A K nr nu r q x2 x3 (ev_c hE1) hD hfl g0 g1 kb) ⟨by decide, by decide⟩)) (ma_wi (c_X7_difference_b2 l E2 I' B K' nr nu r q x2 x3 hE2 hM g0 g1 kb) ⟨by decide, by decide⟩) h
    · exact ph_bad (by decide) (hx_difference_0 l E1 I A K (nI r) (x1) (x2) (x3) hE1 (mx_of (cx_X6_difference_1 l E1 I A K nr nu r x1 x2 x3 (ev_c hE1) hD hfl g0 kb) ⟨by decide, by decide⟩)) (ma_wi (c_X7_difference_b1 l E2 I' B K' nr nu r x1 x2 x3 hE2 hM g0 kb) ⟨by decide, by decide⟩) h
  · exact ph_bad (by decide) (hx_difference_0 l E1 I A K (x0) (x1) (x2) (x3) hE1 (mx_of (cx_X6_difference_0 l E1 I A K nr nu x0 x1 x2 x3 (ev_c hE1) hD hfl kb) ⟨by decide, by decide⟩)) (ma_wi (c_X7_difference_b0 l E2 I' B K' nr nu x0 x1 x2 x3 hE2 hM kb) ⟨by decide, by decide⟩) h
set_option maxHeartbeats 1000000 in
theorem pr_nearest (l : Launch) (hfl : l.stackTraces = false) (E1 E2 : En) (I A : Nat → Nat → Int32) (K : Nat → Nat → Int64) (I' B : Nat → Nat → Int32) (K' : Nat → Nat → Int64) (x0 x1 : Int32) (hE1 : Ev 119 E1) (hE2 : Ev mN E2) (hc : cpl I A I' B) : PrH l yL_nearest cL_nearest 5 hh_nearest E1 [.ref (eP E1 0), .int x0, .int x1, .ref (eP E1 118)] (I, A, K) yX7_nearest cX7_nearest 7 (some .int) E2 [.ref (eP E2 0), .int x0, .int x1] (I', B, K') (fun w => w.toInt64) := by
  obtain ⟨bl, nx, kp, nr, nu, h⟩ := hc
  obtain ⟨hD, hM, hv, hnr, hnu⟩ := cpl_ok h
  rcases ix_2 x1 with ⟨sc, g1, rfl⟩ | kb
  · rcases ix_c x0 with g0 | kb
    · exact ph_q (h_nearest l E1 I A K (x0) (nI sc) _ hE1 (ma_si (c_X6_nearest l E1 I A K nr nu x0 sc (ev_c hE1) hD g1 g0) ⟨by decide, by decide⟩)) (ma_wi (c_X7_nearest l E2 I' B K' nr nu x0 sc hE2 hM g1 g0) ⟨by decide, by decide⟩) h (vM_nr hv g1 (vC_g g0)).symm
    · exact ph_bad (by decide) (hx_nearest_1 l E1 I A K (x0) (nI sc) hE1 (mx_of (cx_X6_nearest_1 l E1 I A K nr nu x0 sc (ev_c hE1) hD hfl g1 kb) ⟨by decide, by decide⟩)) (ma_wi (c_X7_nearest_b1 l E2 I' B K' nr nu x0 sc hE2 hM g1 kb) ⟨by decide, by decide⟩) h
  · exact ph_bad (by decide) (hx_nearest_0 l E1 I A K (x0) (x1) hE1 (mx_of (cx_X6_nearest_0 l E1 I A K nr nu x0 x1 (ev_c hE1) hD hfl kb) ⟨by decide, by decide⟩)) (ma_wi (c_X7_nearest_b0 l E2 I' B K' nr nu x0 x1 hE2 hM kb) ⟨by decide, by decide⟩) h
set_option maxHeartbeats 1000000 in
theorem pr_need (l : Launch) (hfl : l.stackTraces = false) (E1 E2 : En) (I A : Nat → Nat → Int32) (K : Nat → Nat → Int64) (I' B : Nat → Nat → Int32) (K' : Nat → Nat → Int64) (x0 x1 : Int32) (hE1 : Ev 119 E1) (hE2 : Ev mN E2) (hc : cpl I A I' B) : PrH l yL_need cL_need 5 hh_need E1 [.ref (eP E1 0), .int x0, .int x1, .ref (eP E1 118)] (I, A, K) yX7_need cX7_need 3 (some .int) E2 [.ref (eP E2 0), .int x0, .int x1] (I', B, K') (fun w => w.toInt64) := by
  obtain ⟨bl, nx, kp, nr, nu, h⟩ := hc
  obtain ⟨hD, hM, hv, hnr, hnu⟩ := cpl_ok h
  rcases ix_r x0 (n := nu) (by omega) with ⟨u, g0, rfl⟩ | kb
  · rcases ix_2 x1 with ⟨sc, g1, rfl⟩ | kb
    · exact ph_q (h_need l E1 I A K (nI u) (nI sc) _ hE1 (ma_si (c_X6_need l E1 I A K nr nu u sc (ev_c hE1) hD g0 g1) ⟨by decide, by decide⟩)) (ma_wi (c_X7_need l E2 I' B K' nr nu u sc hE2 hM g0 g1) ⟨by decide, by decide⟩) h (vM_nd hv g0 g1).symm
    · exact ph_bad (by decide) (hx_need_0 l E1 I A K (nI u) (x1) hE1 (mx_of (cx_X6_need_1 l E1 I A K nr nu u x1 (ev_c hE1) hD hfl g0 kb) ⟨by decide, by decide⟩)) (ma_wi (c_X7_need_b1 l E2 I' B K' nr nu u x1 hE2 hM g0 kb) ⟨by decide, by decide⟩) h
  · exact ph_bad (by decide) (hx_need_0 l E1 I A K (x0) (x1) hE1 (mx_of (cx_X6_need_0 l E1 I A K nr nu x0 x1 (ev_c hE1) hD hfl kb) ⟨by decide, by decide⟩)) (ma_wi (c_X7_need_b0 l E2 I' B K' nr nu x0 x1 hE2 hM kb) ⟨by decide, by decide⟩) h
set_option maxHeartbeats 1000000 in
theorem pr_value (l : Launch) (hfl : l.stackTraces = false) (E1 E2 : En) (I A : Nat → Nat → Int32) (K : Nat → Nat → Int64) (I' B : Nat → Nat → Int32) (K' : Nat → Nat → Int64) (x0 x1 : Int32) (hE1 : Ev 119 E1) (hE2 : Ev mN E2) (hc : cpl I A I' B) : PrH l yL_value cL_value 5 hh_value E1 [.ref (eP E1 0), .int x0, .int x1, .ref (eP E1 118)] (I, A, K) yX7_value cX7_value 3 (some .int) E2 [.ref (eP E2 0), .int x0, .int x1] (I', B, K') (fun w => w.toInt64) := by
  obtain ⟨bl, nx, kp, nr, nu, h⟩ := hc
  obtain ⟨hD, hM, hv, hnr, hnu⟩ := cpl_ok h
  rcases ix_r x0 (n := nu) (by omega) with ⟨u, g0, rfl⟩ | kb
  · rcases ix_2 x1 with ⟨sc, g1, rfl⟩ | kb
    · exact ph_q (h_value l E1 I A K (nI u) (nI sc) _ hE1 (ma_si (c_X6_value l E1 I A K nr nu u sc (ev_c hE1) hD g0 g1) ⟨by decide, by decide⟩)) (ma_wi (c_X7_value l E2 I' B K' nr nu u sc hE2 hM g0 g1) ⟨by decide, by decide⟩) h (vM_val hv g0 g1).symm
    · exact ph_bad (by decide) (hx_value_0 l E1 I A K (nI u) (x1) hE1 (mx_of (cx_X6_value_1 l E1 I A K nr nu u x1 (ev_c hE1) hD hfl g0 kb) ⟨by decide, by decide⟩)) (ma_wi (c_X7_value_b1 l E2 I' B K' nr nu u x1 hE2 hM g0 kb) ⟨by decide, by decide⟩) h
  · exact ph_bad (by decide) (hx_value_0 l E1 I A K (x0) (x1) hE1 (mx_of (cx_X6_value_0 l E1 I A K nr nu x0 x1 (ev_c hE1) hD hfl kb) ⟨by decide, by decide⟩)) (ma_wi (c_X7_value_b0 l E2 I' B K' nr nu x0 x1 hE2 hM kb) ⟨by decide, by decide⟩) h
set_option maxHeartbeats 1000000 in
theorem pr_smallestMargin (l : Launch) (hfl : l.stackTraces = false) (E1 E2 : En) (I A : Nat → Nat → Int32) (K : Nat → Nat → Int64) (I' B : Nat → Nat → Int32) (K' : Nat → Nat → Int64) (x0 : Int32) (hE1 : Ev 119 E1) (hE2 : Ev mN E2) (hc : cpl I A I' B) : PrH l yL_smallestMargin cL_smallestMargin 4 hh_smallestMargin E1 [.ref (eP E1 0), .int x0, .ref (eP E1 118)] (I, A, K) yX7_smallestMargin cX7_smallestMargin 4 (some .int) E2 [.ref (eP E2 0), .int x0] (I', B, K') (fun w => w.toInt64) := by
  obtain ⟨bl, nx, kp, nr, nu, h⟩ := hc
  obtain ⟨hD, hM, hv, hnr, hnu⟩ := cpl_ok h
  rcases ix_2 x0 with ⟨sc, g0, rfl⟩ | kb
  · exact ph_q (h_smallestMargin l E1 I A K (nI sc) _ hE1 (ma_si (c_X6_smallestMargin l E1 I A K nr nu sc (ev_c hE1) hD g0) ⟨by decide, by decide⟩)) (ma_wi (c_X7_smallestMargin l E2 I' B K' nr nu sc hE2 hM g0) ⟨by decide, by decide⟩) h (vM_mar hv g0 nu (Nat.le_refl _)).symm
  · exact ph_bad (by decide) (hx_smallestMargin_0 l E1 I A K (x0) hE1 (mx_of (cx_X6_smallestMargin_0 l E1 I A K nr nu x0 (ev_c hE1) hD hfl kb) ⟨by decide, by decide⟩)) (ma_wi (c_X7_smallestMargin_b0 l E2 I' B K' nr nu x0 hE2 hM kb) ⟨by decide, by decide⟩) h
set_option maxHeartbeats 1000000 in
theorem pr_bestShift (l : Launch) (hfl : l.stackTraces = false) (E1 E2 : En) (I A : Nat → Nat → Int32) (K : Nat → Nat → Int64) (I' B : Nat → Nat → Int32) (K' : Nat → Nat → Int64) (x0 x1 : Int32) (hE1 : Ev 119 E1) (hE2 : Ev mN E2) (hc : cpl I A I' B) : PrH l yL_bestShift cL_bestShift 5 hh_bestShift E1 [.ref (eP E1 0), .int x0, .int x1, .ref (eP E1 118)] (I, A, K) yX7_bestShift cX7_bestShift 3 (some .int) E2 [.ref (eP E2 0), .int x0, .int x1] (I', B, K') (fun w => w.toInt64) := by
  obtain ⟨bl, nx, kp, nr, nu, h⟩ := hc
  obtain ⟨hD, hM, hv, hnr, hnu⟩ := cpl_ok h
  rcases ix_r x0 (n := nu) (by omega) with ⟨u, g0, rfl⟩ | kb
  · rcases ix_2 x1 with ⟨sc, g1, rfl⟩ | kb
    · exact ph_qF (h_bestShift l E1 I A K (nI u) (nI sc) _ hE1 (ma_wi (c_X6_bestShift l E1 I A K nr nu u sc (ev_c hE1) hD g0 g1) ⟨by decide, by decide⟩)) (ma_wi (c_X7_bestShift l E2 I' B K' nr nu u sc hE2 hM g0 g1) ⟨by decide, by decide⟩) h (vM_bs hv g0 g1).symm
    · exact ph_bad (by decide) (hx_bestShift_0 l E1 I A K (nI u) (x1) hE1 (mx_of (cx_X6_bestShift_1 l E1 I A K nr nu u x1 (ev_c hE1) hD hfl g0 kb) ⟨by decide, by decide⟩)) (ma_wi (c_X7_bestShift_b1 l E2 I' B K' nr nu u x1 hE2 hM g0 kb) ⟨by decide, by decide⟩) h
  · exact ph_bad (by decide) (hx_bestShift_0 l E1 I A K (x0) (x1) hE1 (mx_of (cx_X6_bestShift_0 l E1 I A K nr nu x0 x1 (ev_c hE1) hD hfl kb) ⟨by decide, by decide⟩)) (ma_wi (c_X7_bestShift_b0 l E2 I' B K' nr nu x0 x1 hE2 hM kb) ⟨by decide, by decide⟩) h
set_option maxHeartbeats 1000000 in
theorem pr_shiftRole (l : Launch) (hfl : l.stackTraces = false) (E1 E2 : En) (I A : Nat → Nat → Int32) (K : Nat → Nat → Int64) (I' B : Nat → Nat → Int32) (K' : Nat → Nat → Int64) (x0 x1 : Int32) (hE1 : Ev 119 E1) (hE2 : Ev mN E2) (hc : cpl I A I' B) : PrH l yL_shiftRole cL_shiftRole 5 hh_shiftRole E1 [.ref (eP E1 0), .int x0, .int x1, .ref (eP E1 118)] (I, A, K) yX7_shiftRole cX7_shiftRole 3 (some .int) E2 [.ref (eP E2 0), .int x0, .int x1] (I', B, K') (fun w => w.toInt64) := by
  obtain ⟨bl, nx, kp, nr, nu, h⟩ := hc
  obtain ⟨hD, hM, hv, hnr, hnu⟩ := cpl_ok h
  rcases ix_r x0 (n := nu) (by omega) with ⟨u, g0, rfl⟩ | kb
  · rcases ix_2 x1 with ⟨sc, g1, rfl⟩ | kb
    · exact ph_qF (h_shiftRole l E1 I A K (nI u) (nI sc) _ hE1 (ma_wi (c_X6_shiftRole l E1 I A K nr nu u sc (ev_c hE1) hD g0 g1) ⟨by decide, by decide⟩)) (ma_wi (c_X7_shiftRole l E2 I' B K' nr nu u sc hE2 hM g0 g1) ⟨by decide, by decide⟩) h (vM_sr hv g0 g1).symm
    · exact ph_bad (by decide) (hx_shiftRole_0 l E1 I A K (nI u) (x1) hE1 (mx_of (cx_X6_shiftRole_1 l E1 I A K nr nu u x1 (ev_c hE1) hD hfl g0 kb) ⟨by decide, by decide⟩)) (ma_wi (c_X7_shiftRole_b1 l E2 I' B K' nr nu u x1 hE2 hM g0 kb) ⟨by decide, by decide⟩) h
  · exact ph_bad (by decide) (hx_shiftRole_0 l E1 I A K (x0) (x1) hE1 (mx_of (cx_X6_shiftRole_0 l E1 I A K nr nu x0 x1 (ev_c hE1) hD hfl kb) ⟨by decide, by decide⟩)) (ma_wi (c_X7_shiftRole_b0 l E2 I' B K' nr nu x0 x1 hE2 hM kb) ⟨by decide, by decide⟩) h
set_option maxHeartbeats 1000000 in
theorem pr_violation (l : Launch) (hfl : l.stackTraces = false) (E1 E2 : En) (I A : Nat → Nat → Int32) (K : Nat → Nat → Int64) (I' B : Nat → Nat → Int32) (K' : Nat → Nat → Int64) (x0 : Int32) (hE1 : Ev 119 E1) (hE2 : Ev mN E2) (hc : cpl I A I' B) : PrH l yL_violation cL_violation 4 hh_violation E1 [.ref (eP E1 0), .int x0, .ref (eP E1 118)] (I, A, K) yX7_violation cX7_violation 4 (some .int) E2 [.ref (eP E2 0), .int x0] (I', B, K') (fun w => w.toInt64) := by
  obtain ⟨bl, nx, kp, nr, nu, h⟩ := hc
  obtain ⟨hD, hM, hv, hnr, hnu⟩ := cpl_ok h
  rcases vM_violation hv x0 with ⟨pl, p1, p2, p3, p4, p5⟩ | ⟨p1, p2⟩
  · exact ph_q (h_violation l E1 I A K x0 _ hE1 (ma_si (c_X6_violation l E1 I A K x0 nr nu pl (ev_c hE1) hD p2 p1) ⟨by decide, by decide⟩)) (ma_wi (c_X7_violation l E2 I' B K' x0 nr nu pl hE2 hM ⟨p4, p5⟩ p3 p1) ⟨by decide, by decide⟩) h rfl
  · exact ph_bad (by decide) (hx_violation_0 l E1 I A K x0 hE1 (mx_of (cx_X6_violation l E1 I A K x0 nr nu (ev_c hE1) hD hfl p1) ⟨by decide, by decide⟩)) (ma_wi (c_X7_violation_b0 l E2 I' B K' x0 nr nu hE2 hM p2) ⟨by decide, by decide⟩) h
theorem pr_errorOffset (l : Launch) (E1 E2 : En) (I A : Nat → Nat → Int32) (K : Nat → Nat → Int64) (I' B : Nat → Nat → Int32) (K' : Nat → Nat → Int64) (hE1 : Ev 119 E1) (hE2 : Ev mN E2) (hc : cpl I A I' B) : PrD l yX6_errorOffset cX6_errorOffset 1 (some .int) E1 [.ref (eP E1 0)] (I, A, K) yX7_errorOffset cX7_errorOffset 1 (some .int) E2 [.ref (eP E2 0)] (I', B, K') := by
  obtain ⟨bl, nx, kp, nr, nu, h⟩ := hc
  obtain ⟨hD, hM, hv, hnr, hnu⟩ := cpl_ok h
  exact pd_q (ma_si (c_X6_errorOffset l E1 I A K) ⟨by decide, by decide⟩) (ma_wi (c_X7_errorOffset l E2 I' B K' hE2) ⟨by decide, by decide⟩) h h.2.1
theorem pr_roleCount (l : Launch) (E1 E2 : En) (I A : Nat → Nat → Int32) (K : Nat → Nat → Int64) (I' B : Nat → Nat → Int32) (K' : Nat → Nat → Int64) (hE1 : Ev 119 E1) (hE2 : Ev mN E2) (hc : cpl I A I' B) : PrD l yX6_roleCount cX6_roleCount 1 (some .int) E1 [.ref (eP E1 0)] (I, A, K) yX7_roleCount cX7_roleCount 1 (some .int) E2 [.ref (eP E2 0)] (I', B, K') := by
  obtain ⟨bl, nx, kp, nr, nu, h⟩ := hc
  obtain ⟨hD, hM, hv, hnr, hnu⟩ := cpl_ok h
  exact pd_q (ma_si (c_X6_roleCount l E1 I A K nr nu (ev_c hE1) hD) ⟨by decide, by decide⟩) (ma_wi (c_X7_roleCount l E2 I' B K' nr nu hE2 hM) ⟨by decide, by decide⟩) h rfl
theorem pr_ruleCount (l : Launch) (E1 E2 : En) (I A : Nat → Nat → Int32) (K : Nat → Nat → Int64) (I' B : Nat → Nat → Int32) (K' : Nat → Nat → Int64) (hE1 : Ev 119 E1) (hE2 : Ev mN E2) (hc : cpl I A I' B) : PrD l yX6_ruleCount cX6_ruleCount 1 (some .int) E1 [.ref (eP E1 0)] (I, A, K) yX7_ruleCount cX7_ruleCount 1 (some .int) E2 [.ref (eP E2 0)] (I', B, K') := by
  obtain ⟨bl, nx, kp, nr, nu, h⟩ := hc
  obtain ⟨hD, hM, hv, hnr, hnu⟩ := cpl_ok h
  exact pd_q (ma_si (c_X6_ruleCount l E1 I A K nr nu (ev_c hE1) hD) ⟨by decide, by decide⟩) (ma_wi (c_X7_ruleCount l E2 I' B K' nr nu hE2 hM) ⟨by decide, by decide⟩) h rfl
theorem pr_violations (l : Launch) (E1 E2 : En) (I A : Nat → Nat → Int32) (K : Nat → Nat → Int64) (I' B : Nat → Nat → Int32) (K' : Nat → Nat → Int64) (hE1 : Ev 119 E1) (hE2 : Ev mN E2) (hc : cpl I A I' B) : PrD l yX6_violations cX6_violations 1 (some .int) E1 [.ref (eP E1 0)] (I, A, K) yX7_violations cX7_violations 1 (some .int) E2 [.ref (eP E2 0)] (I', B, K') := by
  obtain ⟨bl, nx, kp, nr, nu, h⟩ := hc
  obtain ⟨hD, hM, hv, hnr, hnu⟩ := cpl_ok h
  exact pd_q (ma_si (c_X6_violations l E1 I A K nr nu (ev_c hE1) hD) ⟨by decide, by decide⟩) (ma_wi (c_X7_violations l E2 I' B K' nr nu hE2 hM) ⟨by decide, by decide⟩) h (by rw [vM_vio hv (by decide) nu (Nat.le_refl _), vM_vio hv (by decide) nu (Nat.le_refl _)])
