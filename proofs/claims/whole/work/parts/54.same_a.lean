/-! the two sides reckon the same -/
theorem lim_held (v : Int32) : pLim v 0 255 = pHeld v := by
  unfold pLim pHeld rMax rMin
  by_cases h1 : v < 0
  · rw [if_pos h1, if_neg (fun h => absurd (Int32.lt_trans h h1) (by decide)), if_pos h1]
  · by_cases h2 : 255 < v
    · rw [if_neg h1, if_pos h2, if_neg (by decide)]
    · rw [if_neg h1, if_neg h2, if_neg h1]
theorem lim_n {k : Nat} (h : k < 256) : pLim (nI k) 0 255 = nI k := by
  unfold pLim
  rw [if_neg (nI_pos (by omega))]
  exact if_neg (nI_nlt (b := k) (a := 255) (by omega) (by decide))
theorem ch_n (j : Nat) (x : Int32) : ∃ k : Nat, k < 256 ∧ cCh j x = nI k := by
  unfold cCh
  rw [lim_held]
  exact pHeld_n _
theorem ch_r {j : Nat} {f g h x : Int32} (h1 : sfF j = f) (h2 : sfF (j + 1) = g) (h3 : sfF (j + 2) = h) : cCh j x = rCh f g h x := by
  unfold cCh rCh
  rw [lim_held, h1, h2, h3]
theorem shf_eq (c d : Int32) : cShf c d = rShf c d := by
  unfold cShf rShf
  rw [lim_held, lim_held, lim_held]
theorem mix_c {r g b : Nat} (hr : r < 256) (hg : g < 256) (hb : b < 256) : pRed (pMix (nI r) (nI g) (nI b)) = nI r ∧ pGreen (pMix (nI r) (nI g) (nI b)) = nI g ∧ pBlue (pMix (nI r) (nI g) (nI b)) = nI b := by
  rw [pMix_n, pRed_n (by omega), pGreen_n (by omega), pBlue_n (by omega)]
  exact ⟨by congr 1; omega, by congr 1; omega, by congr 1; omega⟩
theorem ap_n {a b : Nat} (ha : a < 2 ^ 30) (hb : b < 2 ^ 30) : iAbs (nI a - nI b) = rApart (nI a) (nI b) := by
  unfold iAbs rApart
  by_cases h : b ≤ a
  · rw [pk_sub h, if_pos (nI_pos' (by omega))]
    by_cases h2 : b < a
    · rw [if_pos (nI_lt h2 (by omega))]
    · obtain rfl : b = a := by omega
      rw [if_neg (nI_nlt (Nat.le_refl _) (by omega)), pk_sub (Nat.le_refl _)]
  · rw [if_neg (fun q => absurd (pk_sneg hb (show a < b by omega)) (Int32.not_lt.mpr q)), if_neg (nI_nlt (by omega) (by omega)), Int32.zero_sub, Int32.neg_sub]
theorem mix_id {c : Int32} (h : vC c) : pMix (pRed c) (pGreen c) (pBlue c) = c := by
  obtain ⟨k, hk, rfl⟩ := vC_of h
  rw [pRed_n (by omega), pGreen_n (by omega), pBlue_n (by omega), pMix_n]
  congr 1
  omega
theorem ch_1000 {j a k : Nat} {c : Int32} (ha : a < 256) (h : sfF j * pRed c + sfF (j + 1) * pGreen c + sfF (j + 2) * pBlue c = nI (1000 * a)) : cCh j c = nI a := by
  unfold cCh
  rw [h, show (1000 : Int32) = nI 1000 from rfl, pk_div (by omega) (by decide) (by decide), show 1000 * a / 1000 = a by omega, lim_n ha]
theorem seen_0 {c : Int32} (h : vC c) : cSeen 0 c = c := by
  obtain ⟨k, hk, rfl⟩ := vC_of h
  have e1 : pRed (nI k) = nI (k / 65536) := pRed_n (by omega)
  have e2 : pGreen (nI k) = nI (k / 256 % 256) := pGreen_n (by omega)
  have e3 : pBlue (nI k) = nI (k % 256) := pBlue_n (by omega)
  have a1 : cCh (9 * 0) (nI k) = nI (k / 65536) := ch_1000 (k := 0) (by omega) (by
    rw [e1, e2, e3, show sfF (9 * 0) = nI 1000 from rfl, show sfF (9 * 0 + 1) = nI 0 from rfl, show sfF (9 * 0 + 2) = nI 0 from rfl]
    simp only [pk_mul, nI_add]
    congr 1
    omega)
  have a2 : cCh (9 * 0 + 3) (nI k) = nI (k / 256 % 256) := ch_1000 (k := 0) (by omega) (by
    rw [e1, e2, e3, show sfF (9 * 0 + 3) = nI 0 from rfl, show sfF (9 * 0 + 3 + 1) = nI 1000 from rfl, show sfF (9 * 0 + 3 + 2) = nI 0 from rfl]
    simp only [pk_mul, nI_add]
    congr 1
    omega)
  have a3 : cCh (9 * 0 + 6) (nI k) = nI (k % 256) := ch_1000 (k := 0) (by omega) (by
    rw [e1, e2, e3, show sfF (9 * 0 + 6) = nI 0 from rfl, show sfF (9 * 0 + 6 + 1) = nI 0 from rfl, show sfF (9 * 0 + 6 + 2) = nI 1000 from rfl]
    simp only [pk_mul, nI_add]
    congr 1
    omega)
  unfold cSeen
  rw [a1, a2, a3, ← e1, ← e2, ← e3]
  exact mix_id h
theorem seen_eq {t : Nat} {c : Int32} (ht : t < 5) (hc : vC c) : cSeen t c = rSeen c (nI t) := by
  rcases (show t = 0 ∨ t = 1 ∨ t = 2 ∨ t = 3 ∨ t = 4 by omega) with rfl | rfl | rfl | rfl | rfl
  · rw [seen_0 hc]
    rfl
  · unfold cSeen
    rw [ch_r (j := 9 * 1) (f := 152) (g := 1053) (h := -205) rfl rfl rfl, ch_r (j := 9 * 1 + 3) (f := 115) (g := 786) (h := 99) rfl rfl rfl, ch_r (j := 9 * 1 + 6) (f := -4) (g := -48) (h := 1052) rfl rfl rfl]
    rfl
  · unfold cSeen
    rw [ch_r (j := 9 * 2) (f := 367) (g := 861) (h := -228) rfl rfl rfl, ch_r (j := 9 * 2 + 3) (f := 280) (g := 673) (h := 47) rfl rfl rfl, ch_r (j := 9 * 2 + 6) (f := -12) (g := 43) (h := 969) rfl rfl rfl]
    rfl
  · unfold cSeen
    rw [ch_r (j := 9 * 3) (f := 1256) (g := -77) (h := -179) rfl rfl rfl, ch_r (j := 9 * 3 + 3) (f := -78) (g := 930) (h := 148) rfl rfl rfl, ch_r (j := 9 * 3 + 6) (f := 5) (g := 691) (h := 304) rfl rfl rfl]
    rfl
  · unfold cSeen
    rw [ch_r (j := 9 * 4) (f := 299) (g := 587) (h := 114) rfl rfl rfl, ch_r (j := 9 * 4 + 3) (f := 299) (g := 587) (h := 114) rfl rfl rfl, ch_r (j := 9 * 4 + 6) (f := 299) (g := 587) (h := 114) rfl rfl rfl]
    rfl
theorem dif_eq {t : Nat} {a b : Int32} (ht : t < 5) (ha : vC a) (hb : vC b) : cDif t a b = rDif (rSeen a (nI t)) (rSeen b (nI t)) := by
  rw [← seen_eq ht ha, ← seen_eq ht hb]
  unfold cSeen cDif
  obtain ⟨a1, h1, e1⟩ := ch_n (9 * t) a
  obtain ⟨a2, h2, e2⟩ := ch_n (9 * t + 3) a
  obtain ⟨a3, h3, e3⟩ := ch_n (9 * t + 6) a
  obtain ⟨b1, g1, f1⟩ := ch_n (9 * t) b
  obtain ⟨b2, g2, f2⟩ := ch_n (9 * t + 3) b
  obtain ⟨b3, g3, f3⟩ := ch_n (9 * t + 6) b
  rw [e1, e2, e3, f1, f2, f3]
  obtain ⟨p1, p2, p3⟩ := mix_c h1 h2 h3
  obtain ⟨q1, q2, q3⟩ := mix_c g1 g2 g3
  unfold rDif
  rw [p1, p2, p3, q1, q2, q3, ap_n (by omega) (by omega), ap_n (by omega) (by omega), ap_n (by omega) (by omega)]
theorem dif_0 {a b : Int32} (ha : vC a) (hb : vC b) : cDif 0 a b = rDif a b := dif_eq (t := 0) (by decide) ha hb
theorem iMin_n {a b : Nat} (ha : a < 2 ^ 31) (hb : b < 2 ^ 31) : iMin (nI a) (nI b) = nI (min a b) := by
  unfold iMin
  by_cases h : b < a
  · rw [if_pos (nI_lt h ha), Nat.min_eq_right (by omega)]
  · rw [if_neg (nI_nlt (by omega) hb), Nat.min_eq_left (by omega)]
theorem iMax_n {a b : Nat} (ha : a < 2 ^ 31) (hb : b < 2 ^ 31) : iMax (nI a) (nI b) = nI (max a b) := by
  unfold iMax
  by_cases h : a < b
  · rw [if_pos (nI_lt h hb), Nat.max_eq_right (by omega)]
  · rw [if_neg (nI_nlt (by omega) ha), Nat.max_eq_left (by omega)]
theorem con_eq {a b : Int32} (ha : vC a) (hb : vC b) : cCon a b = rCon a b := by
  obtain ⟨j, hj, rfl⟩ := vC_of ha
  obtain ⟨k, hk, rfl⟩ := vC_of hb
  have h1 := bN_lt hj
  have h2 := bN_lt hk
  unfold cCon rCon
  rw [pBri_n hj, pBri_n hk, show (3251 : Int32) = nI 3251 from rfl, nI_add, nI_add, iMin_n (by omega) (by omega), iMax_n (by omega) (by omega), rMin_n (by omega) (by omega), rMax_n (by omega) (by omega), nI_add, nI_add, if_neg (nI_nle (by omega) (by omega))]
  rw [show min (bN j + 3251) (bN k + 3251) = min (bN j) (bN k) + 3251 by omega, show max (bN j + 3251) (bN k + 3251) = max (bN j) (bN k) + 3251 by omega]
