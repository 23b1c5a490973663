/-! copies -/
theorem cpR_at {A : Nat → Nat → Int32} {p q n b : Nat} (h : b < n) : cpR A p q n q b = A p b := by
  unfold cpR va_up va_cpy
  rw [if_pos rfl, if_pos ⟨Nat.zero_le _, by omega⟩, Nat.zero_add, Nat.sub_zero]
theorem cFix_at {A : Nat → Nat → Int32} {d e : Nat} (h : e ≠ d) : ∀ n b, cFix A d e n (dB d 4) b = if b < n then vp_nar .boolean (A (dB e 4) b) else A (dB d 4) b
  | 0, b => by
    rw [if_neg (Nat.not_lt_zero b)]
    rfl
  | n + 1, b => by
    show up2 (cFix A d e n) (dB d 4) n (vp_nar .boolean (cFix A d e n (dB e 4) n)) (dB d 4) b = _
    rw [up2_at, cFix_ne (dB_ne (by decide) (by decide) (Or.inl h)) n]
    by_cases hb : b = n
    · subst hb
      rw [if_pos ⟨rfl, rfl⟩, if_pos (by omega)]
    · rw [if_neg (fun q => hb q.2), cFix_at h n b]
      by_cases g : b < n
      · rw [if_pos g, if_pos (by omega)]
      · rw [if_neg g, if_neg (by omega)]
section CC
variable {A : Nat → Nat → Int32} {d e b : Nat}
theorem cc_2 (h : d ≠ e) (hb : b < 10) : cCpy A d e (dB d 2) b = A (dB e 2) b := by
  unfold cCpy cCp1
  rw [cpR_ne (dB_ne (by decide) (by decide) (Or.inr (by decide))), cpR_ne (dB_ne (by decide) (by decide) (Or.inr (by decide))), cpR_ne (dB_ne (by decide) (by decide) (Or.inr (by decide))), cFix_ne (dB_ne (by decide) (by decide) (Or.inr (by decide))), cpR_ne (dB_ne (by decide) (by decide) (Or.inr (by decide))), cpR_ne (dB_ne (by decide) (by decide) (Or.inr (by decide))), cpR_ne (dB_ne (by decide) (by decide) (Or.inr (by decide))), cpR_at hb]
theorem cc_3 (h : d ≠ e) (hb : b < 10) : cCpy A d e (dB d 3) b = A (dB e 3) b := by
  unfold cCpy cCp1
  rw [cpR_ne (dB_ne (by decide) (by decide) (Or.inr (by decide))), cpR_ne (dB_ne (by decide) (by decide) (Or.inr (by decide))), cpR_ne (dB_ne (by decide) (by decide) (Or.inr (by decide))), cFix_ne (dB_ne (by decide) (by decide) (Or.inr (by decide))), cpR_ne (dB_ne (by decide) (by decide) (Or.inr (by decide))), cpR_at hb, cpR_ne (dB_ne (by decide) (by decide) (Or.inl (Ne.symm h))), cpR_ne (dB_ne (by decide) (by decide) (Or.inl (Ne.symm h)))]
theorem cc_5 (h : d ≠ e) (hb : b < 12) : cCpy A d e (dB d 5) b = A (dB e 5) b := by
  unfold cCpy cCp1
  rw [cpR_ne (dB_ne (by decide) (by decide) (Or.inr (by decide))), cpR_ne (dB_ne (by decide) (by decide) (Or.inr (by decide))), cpR_at hb, cFix_ne (dB_ne (by decide) (by decide) (Or.inl (Ne.symm h))), cpR_ne (dB_ne (by decide) (by decide) (Or.inl (Ne.symm h))), cpR_ne (dB_ne (by decide) (by decide) (Or.inl (Ne.symm h))), cpR_ne (dB_ne (by decide) (by decide) (Or.inl (Ne.symm h))), cpR_ne (dB_ne (by decide) (by decide) (Or.inl (Ne.symm h)))]
theorem cc_6 (h : d ≠ e) (hb : b < 12) : cCpy A d e (dB d 6) b = A (dB e 6) b := by
  unfold cCpy cCp1
  rw [cpR_ne (dB_ne (by decide) (by decide) (Or.inr (by decide))), cpR_at hb, cpR_ne (dB_ne (by decide) (by decide) (Or.inl (Ne.symm h))), cFix_ne (dB_ne (by decide) (by decide) (Or.inl (Ne.symm h))), cpR_ne (dB_ne (by decide) (by decide) (Or.inl (Ne.symm h))), cpR_ne (dB_ne (by decide) (by decide) (Or.inl (Ne.symm h))), cpR_ne (dB_ne (by decide) (by decide) (Or.inl (Ne.symm h))), cpR_ne (dB_ne (by decide) (by decide) (Or.inl (Ne.symm h)))]
theorem cc_7 (h : d ≠ e) (hb : b < 12) : cCpy A d e (dB d 7) b = A (dB e 7) b := by
  unfold cCpy cCp1
  rw [cpR_at hb, cpR_ne (dB_ne (by decide) (by decide) (Or.inl (Ne.symm h))), cpR_ne (dB_ne (by decide) (by decide) (Or.inl (Ne.symm h))), cFix_ne (dB_ne (by decide) (by decide) (Or.inl (Ne.symm h))), cpR_ne (dB_ne (by decide) (by decide) (Or.inl (Ne.symm h))), cpR_ne (dB_ne (by decide) (by decide) (Or.inl (Ne.symm h))), cpR_ne (dB_ne (by decide) (by decide) (Or.inl (Ne.symm h))), cpR_ne (dB_ne (by decide) (by decide) (Or.inl (Ne.symm h)))]
theorem cc_9 (h : d ≠ e) (hb : b < 12) : cCpy A d e (dB d 9) b = A (dB e 9) b := by
  unfold cCpy cCp1
  rw [cpR_ne (dB_ne (by decide) (by decide) (Or.inr (by decide))), cpR_ne (dB_ne (by decide) (by decide) (Or.inr (by decide))), cpR_ne (dB_ne (by decide) (by decide) (Or.inr (by decide))), cFix_ne (dB_ne (by decide) (by decide) (Or.inr (by decide))), cpR_ne (dB_ne (by decide) (by decide) (Or.inr (by decide))), cpR_ne (dB_ne (by decide) (by decide) (Or.inr (by decide))), cpR_at hb, cpR_ne (dB_ne (by decide) (by decide) (Or.inl (Ne.symm h)))]
theorem cc_10 (h : d ≠ e) (hb : b < 12) : cCpy A d e (dB d 10) b = A (dB e 10) b := by
  unfold cCpy cCp1
  rw [cpR_ne (dB_ne (by decide) (by decide) (Or.inr (by decide))), cpR_ne (dB_ne (by decide) (by decide) (Or.inr (by decide))), cpR_ne (dB_ne (by decide) (by decide) (Or.inr (by decide))), cFix_ne (dB_ne (by decide) (by decide) (Or.inr (by decide))), cpR_at hb, cpR_ne (dB_ne (by decide) (by decide) (Or.inl (Ne.symm h))), cpR_ne (dB_ne (by decide) (by decide) (Or.inl (Ne.symm h))), cpR_ne (dB_ne (by decide) (by decide) (Or.inl (Ne.symm h)))]
theorem cc_4 (h : d ≠ e) (hb : b < 10) : cCpy A d e (dB d 4) b = vp_nar .boolean (A (dB e 4) b) := by
  unfold cCpy cCp1
  rw [cpR_ne (dB_ne (by decide) (by decide) (Or.inr (by decide))), cpR_ne (dB_ne (by decide) (by decide) (Or.inr (by decide))), cpR_ne (dB_ne (by decide) (by decide) (Or.inr (by decide))), cFix_at (Ne.symm h), if_pos hb, cpR_ne (dB_ne (by decide) (by decide) (Or.inl (Ne.symm h))), cpR_ne (dB_ne (by decide) (by decide) (Or.inl (Ne.symm h))), cpR_ne (dB_ne (by decide) (by decide) (Or.inl (Ne.symm h))), cpR_ne (dB_ne (by decide) (by decide) (Or.inl (Ne.symm h)))]
theorem cc_nd (h : d ≠ e) {s : Nat} (hs : s < 2) (hb : b < 12) : cCpy A d e (dB d (9 + s)) b = A (dB e (9 + s)) b := by
  rcases (show s = 0 ∨ s = 1 by omega) with rfl | rfl
  · exact cc_9 h hb
  · exact cc_10 h hb
end CC
section CP
variable {I A B I' : Nat → Nat → Int32} {D : Nat → Int32} {d e nr nu : Nat}
theorem cD_row {D' : Nat → Int32} (hD : ∀ b, b < 1282 → D' b = D b) (h : cD A d D nr nu) : cD A d D' nr nu := by
  obtain ⟨h1, ⟨h2, h3⟩, h4, h5⟩ := h
  refine ⟨h1, ⟨(hD 0 (by decide)).trans h2, (hD 1 (by decide)).trans h3⟩, fun r hr => ?_, fun u hu => ?_⟩
  · rw [hD (4 + 3 * r) (by omega), hD (4 + 3 * r + 1) (by omega), hD (4 + 3 * r + 2) (by omega)]
    exact h4 r hr
  · obtain ⟨g1, g2, g3, g4⟩ := h5 u hu
    rw [hD (34 + 4 * u) (by omega), hD (34 + 4 * u + 1) (by omega), hD (34 + 4 * u + 2) (by omega)]
    exact ⟨g1, g2, g3, fun s hs => nOk_x hD (by omega) (g4 s hs)⟩
theorem cD_A {A' : Nat → Nat → Int32} (hA : ∀ k, 2 ≤ k → k < 11 → A' (dB d k) = A (dB d k)) (h : cD A d D nr nu) : cD A' d D nr nu := by
  obtain ⟨h1, h2, h4, h5⟩ := h
  refine ⟨h1, h2, fun r hr => ?_, fun u hu => ?_⟩
  · rw [hA 2 (by decide) (by decide), hA 3 (by decide) (by decide), hA 4 (by decide) (by decide)]
    exact h4 r hr
  · obtain ⟨g1, g2, g3, g4⟩ := h5 u hu
    rw [hA 5 (by decide) (by decide), hA 6 (by decide) (by decide), hA 7 (by decide) (by decide)]
    exact ⟨g1, g2, g3, fun s hs => by rw [hA (9 + s) (by omega) (by omega)]; exact g4 s hs⟩
theorem cD_cp (h : cD A e D nr nu) (hne : d ≠ e) : cD (cCpy A d e) d D nr nu := by
  obtain ⟨h1, h2, h4, h5⟩ := h
  refine ⟨h1, h2, fun r hr => ?_, fun u hu => ?_⟩
  · obtain ⟨⟨g1, g2, g3⟩, g4, ⟨b, hb⟩⟩ := h4 r hr
    rw [cc_2 hne (by omega), cc_3 hne (by omega), cc_4 hne (by omega), hb, nar_b]
    exact ⟨⟨g1, g2, by rw [g3, hb]⟩, g4, b, rfl⟩
  · obtain ⟨g1, g2, g3, g4⟩ := h5 u hu
    rw [cc_5 hne (by omega), cc_6 hne (by omega), cc_7 hne (by omega)]
    exact ⟨g1, g2, g3, fun s hs => by rw [cc_nd hne hs (by omega)]; exact g4 s hs⟩
theorem cD_ne {e2 : Nat} (h : cD A d D nr nu) (hne : d ≠ e) : cD (cCpy A e e2) d D nr nu := cD_A (fun k h1 h2 => cCpy_D h2 hne) h
/-- a design of the component and a row of data of the model, with their numbers -/
def dsg (I A : Nat → Nat → Int32) (d : Nat) (D : Nat → Int32) : Prop := ∃ nr nu, I (dB d 0) 0 = nI nr ∧ I (dB d 0) 3 = nI nu ∧ cD A d D nr nu
/-- the component and the model agree -/
def cplX (I A I' B : Nat → Nat → Int32) (bl nx kp nr nu : Nat) : Prop := (I 0 5 = nI bl ∧ I' 0 2 = nI bl ∧ mT B (A 1) bl) ∧ I 0 6 = I' 0 7 ∧ ((nx < 8 ∧ kp ≤ 8) ∧ I 6 1 = nI nx ∧ I 6 2 = nI kp ∧ I' 0 11 = nI kp) ∧ (I (dB 0 0) 0 = nI nr ∧ I (dB 0 0) 3 = nI nu ∧ vM A B nr nu) ∧ ∀ j, j < kp → dsg I A (2 + (nx + 8 - kp + j) % 8) (B (5 + j))
def cpl (I A I' B : Nat → Nat → Int32) : Prop := ∃ bl nx kp nr nu, cplX I A I' B bl nx kp nr nu
theorem mT_0 {A : Nat → Nat → Int32} {T : Nat → Int32} : mT A T 0 := ⟨Nat.zero_le _, fun k hk => absurd hk (Nat.not_lt_zero k)⟩
theorem cpl_0 : cpl cI0 (fun _ _ => 0) mI0 (fun _ _ => 0) := ⟨0, 0, 0, 0, 0, ⟨rfl, rfl, mT_0⟩, rfl, ⟨⟨by decide, by decide⟩, rfl, rfl, rfl⟩, ⟨rfl, rfl, ⟨⟨by decide, by decide⟩, ⟨rfl, rfl⟩, fun r hr => absurd hr (Nat.not_lt_zero r), fun u hu => absurd hu (Nat.not_lt_zero u)⟩, fun u hu => absurd hu (Nat.not_lt_zero u)⟩, fun j hj => absurd hj (Nat.not_lt_zero j)⟩
/-- the model's fields that count may be as they were -/
theorem cpl_I {bl nx kp : Nat} {J : Nat → Nat → Int32} (h : cplX I A I' B bl nx kp nr nu) (h2 : J 0 2 = I' 0 2) (h7 : J 0 7 = I' 0 7) (h11 : J 0 11 = I' 0 11) : cplX I A J B bl nx kp nr nu := by
  obtain ⟨⟨a1, a2, a3⟩, a4, ⟨a5, a6, a7, a8⟩, a9, a10⟩ := h
  exact ⟨⟨a1, h2.trans a2, a3⟩, a4.trans h7.symm, ⟨a5, a6, a7, h11.trans a8⟩, a9, a10⟩
theorem mSh_at {B : Nat → Nat → Int32} : ∀ n, n ≤ 7 → ∀ j b, j < 8 → b < 1282 → mSh B n (5 + j) b = if j < n then B (5 + j + 1) b else B (5 + j) b
  | 0, _, j, b, _, _ => by
    rw [if_neg (Nat.not_lt_zero j)]
    rfl
  | n + 1, hn, j, b, hj, hb => by
    show mCp (mSh B n) (5 + (n + 1)) (5 + n) 1282 (5 + j) b = _
    rw [mCp_at (by omega)]
    by_cases g : j = n
    · subst g
      rw [if_pos ⟨rfl, hb⟩, if_pos (by omega), mSh_at j (by omega) (j + 1) b (by omega) hb, if_neg (by omega)]
      rfl
    · rw [if_neg (fun q => g (by omega)), mSh_at n (by omega) j b hj hb]
      by_cases g2 : j < n
      · rw [if_pos g2, if_pos (by omega)]
      · rw [if_neg g2, if_neg (by omega)]
/-- the design is kept on both sides, then changed -/
theorem cpl_keep {bl nx kp : Nat} {A1 B1 J : Nat → Nat → Int32} (h : cplX I A I' B bl nx kp nr nu) (hA : ∀ d, 2 ≤ d → ∀ k, 2 ≤ k → k < 11 → A1 (dB d k) = cCpy A (2 + nx) 0 (dB d k)) (hA1 : A1 1 = A 1) (hB : ∀ a, 5 ≤ a → a ≤ 12 → B1 a = mRem B kp a) (hB1 : B1 1 = B 1) (hv : vM A1 B1 nr nu) (h2 : J 0 2 = I' 0 2) (h7 : J 0 7 = I' 0 7) (h11 : J 0 11 = nI (min (kp + 1) 8)) : cplX (hKeI I 0 nx kp) A1 J B1 bl ((nx + 1) % 8) (min (kp + 1) 8) nr nu := by
  obtain ⟨⟨a1, a2, a3⟩, a4, ⟨⟨a5, a5b⟩, a6, a7, a8⟩, ⟨a9, a9b, a9c⟩, a10⟩ := h
  have e05 : hKeI I 0 nx kp 0 5 = I 0 5 := by
    unfold hKeI
    rw [up2_q (by decide), up2_q (by decide), cCpI_lo (by decide)]
  have e06 : hKeI I 0 nx kp 0 6 = I 0 6 := by
    unfold hKeI
    rw [up2_q (by decide), up2_q (by decide), cCpI_lo (by decide)]
  refine ⟨⟨e05.trans a1, h2.trans a2, ?_⟩, e06.trans (a4.trans h7.symm), ⟨⟨Nat.mod_lt _ (by decide), Nat.min_le_right _ _⟩, ?_, up2_eq, h11⟩, ⟨(hKeI_D (by omega)).trans a9, (hKeI_D (by omega)).trans a9b, hv⟩, fun j hj => ?_⟩
  · rw [hA1]
    exact mT_ext hB1 a3
  · unfold hKeI
    rw [up2_j (by decide), up2_eq]
  · -- the j-th kept
    have hnew : ∀ j, j < 8 → (∀ b, b < 1282 → mRem B kp (5 + j) b = B 2 b) → dsg (hKeI I 0 nx kp) A1 (2 + nx) (B1 (5 + j)) := by
      intro j hj hb
      refine ⟨nr, nu, ?_, ?_, ?_⟩
      · unfold hKeI cCpI
        rw [up2_q (dB_nlo (by decide)), up2_q (dB_nlo (by decide)), up2_j (by decide), up2_eq]
        exact a9
      · unfold hKeI cCpI
        rw [up2_q (dB_nlo (by decide)), up2_q (dB_nlo (by decide)), up2_eq]
        exact a9b
      · refine cD_A (A := cCpy A (2 + nx) 0) (fun k k1 k2 => hA _ (by omega) k k1 k2) (cD_row (D := B 2) (fun b hb2 => ?_) (cD_cp a9c.1 (by omega)))
        rw [hB _ (by omega) (by omega)]
        exact hb b hb2
    have hold : ∀ i j, i < kp → j < 8 → (nx + 8 - kp + i) % 8 ≠ nx → (∀ b, b < 1282 → mRem B kp (5 + j) b = B (5 + i) b) → dsg (hKeI I 0 nx kp) A1 (2 + (nx + 8 - kp + i) % 8) (B1 (5 + j)) := by
      intro i j hi hj hne hb
      obtain ⟨nr', nu', g1, g2, g3⟩ := a10 i hi
      refine ⟨nr', nu', (hKeI_D (by omega)).trans g1, (hKeI_D (by omega)).trans g2, ?_⟩
      refine cD_A (A := cCpy A (2 + nx) 0) (fun k k1 k2 => hA _ (by omega) k k1 k2) (cD_row (D := B (5 + i)) (fun b hb2 => ?_) (cD_ne g3 (by omega)))
      rw [hB _ (by omega) (by omega)]
      exact hb b hb2
    by_cases h8 : kp = 8
    · subst h8
      have hj : j < 8 := by omega
      have hm : mRem B 8 = mCp (mSh B 7) 2 12 1282 := if_pos rfl
      by_cases hl : j = 7
      · subst hl
        rw [show ((nx + 1) % 8 + 8 - min (8 + 1) 8 + 7) % 8 = nx by omega]
        refine hnew 7 (by decide) (fun b hb => ?_)
        rw [hm, mCp_q (by decide) hb, mSh_ne (by decide) 7 (by decide)]
      · rw [show ((nx + 1) % 8 + 8 - min (8 + 1) 8 + j) % 8 = (nx + 8 - 8 + (j + 1)) % 8 by omega]
        refine hold (j + 1) j (by omega) hj (by omega) (fun b hb => ?_)
        rw [hm, mCp_ne (by decide) (by omega), mSh_at 7 (by decide) j b hj hb, if_pos (by omega)]
        rfl
    · have hm : mRem B kp = mCp B 2 (5 + kp) 1282 := if_neg h8
      by_cases hl : j = kp
      · subst hl
        rw [show ((nx + 1) % 8 + 8 - min (j + 1) 8 + j) % 8 = nx by omega]
        refine hnew j (by omega) (fun b hb => ?_)
        rw [hm, mCp_q (by omega) hb]
      · rw [show ((nx + 1) % 8 + 8 - min (kp + 1) 8 + j) % 8 = (nx + 8 - kp + j) % 8 by omega]
        refine hold j j (by omega) (by omega) (by omega) (fun b hb => ?_)
        rw [hm, mCp_ne (by omega) (by omega)]
theorem vM_keep {nx kp : Nat} (hk : kp ≤ 8) (h : vM A B nr nu) : vM (cCpy A (2 + nx) 0) (mRem B kp) nr nu := by
  refine ⟨?_, fun u hu s hs => ?_⟩
  · rw [mRem_ne hk (by decide)]
    exact cD_ne h.1 (by omega)
  · rw [mRem_ne hk (by decide), cCpy_D (by omega) (by omega)]
    exact h.2 u hu s hs
/-- undo -/
theorem cpl_undo {bl nx k : Nat} {J : Nat → Nat → Int32} (h : cplX I A I' B bl nx (k + 1) nr nu) : ∃ nr' nu' wn, nu' ≤ 12 ∧ B (5 + k) 1 = nI nu' ∧ (∀ u, u < nu' → ∀ sc, sc < 2 → nOk (B (5 + k)) u sc (wn (2 * u + sc))) ∧ (J 0 2 = I' 0 2 → J 0 7 = I' 0 7 → J 0 11 = nI k → cplX (hTaI I 0 nx (k + 1)) (cCpy A 0 (2 + (nx + 7) % 8)) J (mLay (mCp B (5 + k) 2 1282) wn (2 * nu')) bl ((nx + 7) % 8) k nr' nu') := by
  obtain ⟨⟨a1, a2, a3⟩, a4, ⟨⟨a5, a5b⟩, a6, a7, a8⟩, -, a10⟩ := h
  obtain ⟨nr', nu', g1, g2, g3⟩ := a10 k (by omega)
  rw [show (nx + 8 - (k + 1) + k) % 8 = (nx + 7) % 8 by omega] at g1 g2 g3
  refine ⟨nr', nu', fun x => A (dB (2 + (nx + 7) % 8) (9 + x % 2)) (x / 2), g3.1.2, g3.2.1.2, fun u hu sc hsc => ?_, fun h2 h7 h11 => ?_⟩
  · obtain ⟨-, -, -, g4⟩ := g3.2.2.2 u hu
    have := g4 sc hsc
    show nOk _ u sc (A (dB (2 + (nx + 7) % 8) (9 + (2 * u + sc) % 2)) ((2 * u + sc) / 2))
    rw [show (2 * u + sc) % 2 = sc by omega, show (2 * u + sc) / 2 = u by omega]
    exact this
  · have hlo : ∀ q j, q < 8 → ¬ (q = 6 ∧ (j = 1 ∨ j = 2)) → hTaI I 0 nx (k + 1) q j = I q j := by
      intro q j hq hn
      unfold hTaI
      rw [cCpI_lo hq, up2_at, if_neg (fun g => hn ⟨g.1, Or.inl g.2⟩), up2_at, if_neg (fun g => hn ⟨g.1, Or.inr g.2⟩)]
    have hD : ∀ e j, e ≠ 0 → hTaI I 0 nx (k + 1) (dB e 0) j = I (dB e 0) j := by
      intro e j he
      unfold hTaI cCpI
      rw [up2_q (dB_ne (by decide) (by decide) (Or.inl he)), up2_q (dB_ne (by decide) (by decide) (Or.inl he)), up2_q (dB_nlo (by decide)), up2_q (dB_nlo (by decide))]
    have hM2 : ∀ b, b < 1282 → mLay (mCp B (5 + k) 2 1282) (fun x => A (dB (2 + (nx + 7) % 8) (9 + x % 2)) (x / 2)) (2 * nu') 2 b = B (5 + k) b := by
      intro b hb
      rw [mLay_ne (by decide), mCp_q (by omega) hb]
    refine ⟨⟨(hlo 0 5 (by decide) (by omega)).trans a1, h2.trans a2, ?_⟩, (hlo 0 6 (by decide) (by omega)).trans (a4.trans h7.symm), ⟨⟨Nat.mod_lt _ (by decide), by omega⟩, ?_, ?_, h11⟩, ⟨?_, ?_, ?_, fun u hu s hs => ?_⟩, fun j hj => ?_⟩
    · rw [cCpy_lo (by decide)]
      refine mT_ext ?_ a3
      rw [mLay_ne (by decide), mCp_ne (by omega) (by decide)]
    · unfold hTaI
      rw [cCpI_lo (by decide), up2_eq]
    · unfold hTaI
      rw [cCpI_lo (by decide), up2_j (by decide), up2_eq]
      rfl
    · unfold hTaI cCpI
      rw [up2_j (by decide), up2_eq, up2_q (dB_nlo (by decide)), up2_q (dB_nlo (by decide))]
      exact g1
    · unfold hTaI cCpI
      rw [up2_eq, up2_q (dB_nlo (by decide)), up2_q (dB_nlo (by decide))]
      exact g2
    · exact cD_row (D := B (5 + k)) hM2 (cD_cp g3 (by omega))
    · have hn12 := g3.1.2
      rw [cc_nd (by omega) hs (by omega), mLay_at, if_pos ⟨rfl, by omega⟩, show (2 * u + s) % 2 = s by omega, show (2 * u + s) / 2 = u by omega]
    · obtain ⟨nr2, nu2, q1, q2, q3⟩ := a10 j (by omega)
      rw [show ((nx + 7) % 8 + 8 - k + j) % 8 = (nx + 8 - (k + 1) + j) % 8 by omega]
      refine ⟨nr2, nu2, (hD _ _ (by omega)).trans q1, (hD _ _ (by omega)).trans q2, cD_row (D := B (5 + j)) (fun b hb => ?_) (cD_ne q3 (by omega))⟩
      rw [mLay_ne (by omega), mCp_ne (by omega) (by omega)]
end CP
