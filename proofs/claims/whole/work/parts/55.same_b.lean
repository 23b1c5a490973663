/-- a design holds what a row of the model's data holds -/
def cD (A : Nat → Nat → Int32) (d : Nat) (D : Nat → Int32) (nr nu : Nat) : Prop := (nr ≤ 10 ∧ nu ≤ 12) ∧ (D 0 = nI nr ∧ D 1 = nI nu) ∧ (∀ r, r < nr → (D (4 + 3 * r) = A (dB d 2) r ∧ D (4 + 3 * r + 1) = A (dB d 3) r ∧ D (4 + 3 * r + 2) = A (dB d 4) r) ∧ (vC (A (dB d 2) r) ∧ vC (A (dB d 3) r)) ∧ ∃ b, A (dB d 4) r = bI b) ∧ ∀ u, u < nu → (D (34 + 4 * u) = A (dB d 7) u + 1 ∧ D (34 + 4 * u + 1) = A (dB d 5) u ∧ D (34 + 4 * u + 2) = A (dB d 6) u) ∧ ((∃ i, i < nr ∧ A (dB d 5) u = nI i) ∧ ∃ i, i < nr ∧ A (dB d 6) u = nI i) ∧ (A (dB d 7) u = -1 ∨ ∃ t, t < 5 ∧ A (dB d 7) u = nI t) ∧ ∀ s, s < 2 → nOk D u s (A (dB d (9 + s)) u)
def vM (A B : Nat → Nat → Int32) (nr nu : Nat) : Prop := cD A 0 (B 2) nr nu ∧ ∀ u, u < nu → ∀ s, s < 2 → B 14 (2 * u + s) = A (dB 0 (9 + s)) u
theorem nOk_e {D B : Nat → Int32} {u sc : Nat} {v : Int32} (e : ∀ b, ¬ (4 ≤ b ∧ b < 34) → B b = D b) (h : nOk D u sc v) : nOk B u sc v := by
  unfold nOk at *
  rw [e (34 + 4 * u) (by omega), e (34 + 4 * u + 3) (by omega), e 2 (by omega), e 3 (by omega)]
  rcases h with h | ⟨h1, h | ⟨h2, M, f, h3, h4, h5, h6⟩⟩
  · exact Or.inl h
  · exact Or.inr ⟨h1, Or.inl h⟩
  · exact Or.inr ⟨h1, Or.inr ⟨h2, M, f, h3, h4, sg_ext (fun x _ hx => e (82 + x) (by omega)) h5, h6⟩⟩
section CD
variable {I A B : Nat → Nat → Int32} {D : Nat → Int32} {d nr nu : Nat}
theorem cD_DOk (h : cD A d D nr nu) (h0 : I (dB d 0) 0 = nI nr) (h3 : I (dB d 0) 3 = nI nu) : DOk I A d nr nu := by
  obtain ⟨h1, -, -, h4⟩ := h
  refine ⟨h1, ⟨h0, h3⟩, fun u hu => ?_⟩
  obtain ⟨-, ⟨⟨i, hi, ei⟩, ⟨j, hj, ej⟩⟩, ht, -⟩ := h4 u hu
  unfold dF dG dT
  rw [ei, ej, nI_clamp (by omega), nI_clamp (by omega)]
  refine ⟨⟨rfl, hi⟩, ⟨rfl, hj⟩, ht.elim Or.inl (fun ⟨t, ht, et⟩ => Or.inr ?_)⟩
  rw [et, nI_clamp (by omega)]
  exact ⟨rfl, ht⟩
theorem vM_col (h : vM A B nr nu) {r s : Nat} (hr : r < nr) (hs : s < 2) : mCol B r s = A (dB 0 (2 + s)) r := by
  obtain ⟨⟨⟨g1, g2, -⟩, -⟩, -⟩ := And.intro (h.1.2.2.1 r hr) True.intro
  rcases (show s = 0 ∨ s = 1 by omega) with rfl | rfl
  · exact g1
  · exact g2
theorem vM_vC (h : vM A B nr nu) {r s : Nat} (hr : r < nr) (hs : s < 2) : vC (A (dB 0 (2 + s)) r) := by
  obtain ⟨-, ⟨g1, g2⟩, -⟩ := h.1.2.2.1 r hr
  rcases (show s = 0 ∨ s = 1 by omega) with rfl | rfl
  · exact g1
  · exact g2
theorem vM_F (h : vM A B nr nu) {u : Nat} (hu : u < nu) : mF B u = dF A 0 u ∧ dF A 0 u < nr ∧ mG B u = dG A 0 u ∧ dG A 0 u < nr := by
  obtain ⟨⟨-, g1, g2⟩, ⟨⟨i, hi, ei⟩, ⟨j, hj, ej⟩⟩, -⟩ := h.1.2.2.2 u hu
  have hn := h.1.1.1
  unfold mF mG dF dG
  rw [g1, g2, ei, ej, nI_clamp (by omega), nI_clamp (by omega)]
  exact ⟨rfl, hi, rfl, hj⟩
theorem vM_MOk (h : vM A B nr nu) : MOk B nr nu := by
  refine ⟨h.1.1, h.1.2.1, fun u hu => ?_, fun r hr s hs => ?_⟩
  · obtain ⟨⟨-, g1, g2⟩, ⟨⟨i, hi, ei⟩, ⟨j, hj, ej⟩⟩, -⟩ := h.1.2.2.2 u hu
    have hn := h.1.1.1
    unfold mF mG
    rw [g1, g2, ei, ej, nI_clamp (by omega), nI_clamp (by omega)]
    exact ⟨⟨rfl, hi⟩, rfl, hj⟩
  · rw [vM_col h hr hs]
    exact vM_vC h hr hs
theorem vM_S (h : vM A B nr nu) {u : Nat} (hu : u < nu) : mS B u = A (dB 0 7) u := by
  obtain ⟨⟨g0, -, -⟩, -⟩ := h.1.2.2.2 u hu
  unfold mS
  rw [g0]
  exact Int32.add_sub_cancel _ _
theorem vM_val (h : vM A B nr nu) {u s : Nat} (hu : u < nu) (hs : s < 2) : mVal B u s = cVal A 0 u s := by
  obtain ⟨f1, f2, f3, f4⟩ := vM_F h hu
  unfold mVal cVal
  rw [vM_S h hu, f1, f3, vM_col h f2 hs, vM_col h f4 hs]
  obtain ⟨-, -, ht, -⟩ := h.1.2.2.2 u hu
  by_cases g : A (dB 0 7) u = -1
  · rw [if_pos g, if_pos g, con_eq (vM_vC h f2 hs) (vM_vC h f4 hs)]
  · rw [if_neg g, if_neg g]
    obtain ⟨t, ht, et⟩ := ht.resolve_left g
    have e : dT A 0 u = t := by
      unfold dT
      rw [et, nI_clamp (by omega)]
    rw [e, et, dif_eq ht (vM_vC h f2 hs) (vM_vC h f4 hs)]
theorem vM_nd (h : vM A B nr nu) {u s : Nat} (hu : u < nu) (hs : s < 2) : mNd B u s = cNd A 0 u s := h.2 u hu s hs
theorem vM_vi (h : vM A B nr nu) {u s : Nat} (hu : u < nu) (hs : s < 2) : mVi B u s = if cVal A 0 u s < cNd A 0 u s then 1 else 0 := by
  unfold mVi
  rw [vM_val h hu hs, vM_nd h hu hs]
  by_cases g : cVal A 0 u s < cNd A 0 u s
  · rw [if_pos g, if_neg (Int32.not_le.mpr g)]
  · rw [if_neg g, if_pos (Int32.not_lt.mp g)]
theorem vM_kept (h : vM A B nr nu) {u s : Nat} (hu : u < nu) (hs : s < 2) : (mVi B u s = 0 ↔ ¬ cKept A 0 u s = 0) := by
  rw [vM_vi h hu hs]
  unfold cKept
  by_cases g : cVal A 0 u s < cNd A 0 u s
  · rw [if_pos g, if_pos g]
    exact ⟨fun q => absurd q (by decide), fun q => absurd rfl q⟩
  · rw [if_neg g, if_neg g]
    exact ⟨fun _ => by decide, fun _ => rfl⟩
theorem vM_vio (h : vM A B nr nu) {s : Nat} (hs : s < 2) : ∀ n, n ≤ nu → mVio B s n = cVio A 0 s n
  | 0, _ => rfl
  | n + 1, hn => by
    show mVio B s n + mVi B n s = if cVal A 0 n s < cNd A 0 n s then cVio A 0 s n + 1 else cVio A 0 s n
    rw [vM_vio h hs n (by omega), vM_vi h (by omega) hs]
    by_cases g : cVal A 0 n s < cNd A 0 n s
    · rw [if_pos g, if_pos g]
    · rw [if_neg g, if_neg g]
      exact Int32.add_zero _
theorem mn_eq (x y : Int32) : iMin x y = rMin x y := by
  unfold iMin rMin
  by_cases h1 : y < x
  · rw [if_pos h1, if_neg (Int32.not_lt.mpr (Int32.le_of_lt h1))]
  · by_cases h2 : x < y
    · rw [if_neg h1, if_pos h2]
    · rw [if_neg h1, if_neg h2]
      exact Int32.le_antisymm (Int32.not_lt.mp h1) (Int32.not_lt.mp h2)
theorem vM_mar (h : vM A B nr nu) {s : Nat} (hs : s < 2) : ∀ n, n ≤ nu → mMar B s n = cMar A 0 s n := by
  intro n
  induction n with
  | zero => intro _; exact (show mMar B s 0 = (9999 : Int32) from rfl).trans (show (9999 : Int32) = cMar A 0 s 0 from rfl)
  | succ n ih =>
    intro hn
    show rMin (mMar B s n) (mVal B n s - mNd B n s) = iMin (cMar A 0 s n) (cVal A 0 n s - cNd A 0 n s)
    rw [ih (by omega), vM_val h (by omega) hs, vM_nd h (by omega) hs, mn_eq]
theorem dif_lt {a b : Int32} (ha : vC a) (hb : vC b) : rDif a b < 2296 := by
  obtain ⟨j, hj, rfl⟩ := vC_of ha
  obtain ⟨k, hk, rfl⟩ := vC_of hb
  have ap : ∀ x y : Nat, x < 256 → y < 256 → ∃ z, z < 256 ∧ rApart (nI x) (nI y) = nI z := by
    intro x y hx hy
    unfold rApart
    by_cases h : y < x
    · rw [if_pos (nI_lt h (by omega)), pk_sub (by omega)]
      exact ⟨_, by omega, rfl⟩
    · rw [if_neg (nI_nlt (by omega) (by omega)), pk_sub (by omega)]
      exact ⟨_, by omega, rfl⟩
  unfold rDif
  rw [pRed_n (by omega), pRed_n (by omega), pGreen_n (by omega), pGreen_n (by omega), pBlue_n (by omega), pBlue_n (by omega)]
  obtain ⟨x, hx, ex⟩ := ap (j / 65536) (k / 65536) (by omega) (by omega)
  obtain ⟨y, hy, ey⟩ := ap (j / 256 % 256) (k / 256 % 256) (by omega) (by omega)
  obtain ⟨z, hz, ez⟩ := ap (j % 256) (k % 256) (by omega) (by omega)
  rw [ex, ey, ez, show (3 : Int32) = nI 3 from rfl, show (4 : Int32) = nI 4 from rfl, show (2 : Int32) = nI 2 from rfl]
  simp only [pk_mul, nI_add]
  exact nI_lt (b := 2296) (by omega) (by decide)
theorem vM_near (h : vM A B nr nu) {s : Nat} {x : Int32} (hs : s < 2) (hx : vC x) : ∀ n, n ≤ nr → (n = 0 ∨ (cNear A 0 s x n = mNr B s x n ∧ ¬ (mNr B s x n).1 = -1))
  | 0, _ => Or.inl rfl
  | n + 1, hn => by
    right
    have hc := vM_col h (r := n) (s := s) (by omega) hs
    have hv := vM_vC h (r := n) (s := s) (by omega) hs
    have hne : ¬ nI n = -1 := fun e => nI_pos (n := n) (by have := h.1.1.1; omega) (by rw [e]; decide)
    rw [cNear_s, mNr_s, hc, dif_0 hv hx]
    rcases vM_near h hs hx n (by omega) with rfl | ⟨h1, h2⟩
    · rw [show cNear A 0 s x 0 = (-1, 2296) from rfl, show mNr B s x 0 = (-1, 0) from rfl, if_pos (dif_lt hv hx), if_pos rfl]
      exact ⟨rfl, hne⟩
    · rw [h1, if_neg h2]
      by_cases g : rDif (A (dB 0 (2 + s)) n) x < (mNr B s x n).2
      · rw [if_pos g]
        exact ⟨rfl, hne⟩
      · rw [if_neg g]
        exact ⟨rfl, h2⟩
theorem vM_nr (h : vM A B nr nu) {s : Nat} {x : Int32} (hs : s < 2) (hx : vC x) : (mNr B s x nr).1 = (cNear A 0 s x nr).1 := by
  rcases vM_near h hs hx nr (Nat.le_refl _) with rfl | ⟨h1, -⟩
  · rfl
  · rw [h1]
theorem vM_ckR (h : vM A B nr nu) : ∀ n, n ≤ nr → mCkR B n = cCkR A 0 n := by
  intro n
  induction n with
  | zero => intro _; exact (show mCkR B 0 = (0 : Int64) from rfl).trans (show (0 : Int64) = cCkR A 0 0 from rfl)
  | succ n ih =>
    intro hn
    obtain ⟨⟨g1, g2, g3⟩, -, ⟨b, hb⟩⟩ := h.1.2.2.1 n (by omega)
    show 31 * (31 * (31 * mCkR B n + (B 2 (4 + 3 * n + 0)).toInt64) + (B 2 (4 + 3 * n + 1)).toInt64) + (B 2 (4 + 3 * n + 2)).toInt64 = 31 * (31 * (31 * cCkR A 0 n + (A (dB 0 2) n).toInt64) + (A (dB 0 3) n).toInt64) + (if A (dB 0 4) n = 0 then (0 : Int32) else 1).toInt64
    rw [ih (by omega), Nat.add_zero, g1, g2, g3, hb]
    cases b <;> rfl
theorem vM_ckU (h : vM A B nr nu) {a : Int64} : ∀ n, n ≤ nu → mCkU B a n = cCkU A 0 a n := by
  intro n
  induction n with
  | zero => intro _; exact (show mCkU B a 0 = a from rfl).trans (show a = cCkU A 0 a 0 from rfl)
  | succ n ih =>
    intro hn
    show 31 * (31 * mCkU B a n + (mVal B n 0).toInt64) + (mVal B n 1).toInt64 = 31 * (31 * cCkU A 0 a n + (cVal A 0 n 0).toInt64) + (cVal A 0 n 1).toInt64
    rw [ih (by omega), vM_val h (by omega) (by decide), vM_val h (by omega) (by decide)]
/-- one colour changed on both sides -/
theorem vM_set (h : vM A B nr nu) {r s : Nat} {x : Int32} (hr : r < nr) (hs : s < 2) (hx : vC x) : vM (up2 A (dB 0 (2 + s)) r x) (up2 B 2 (4 + 3 * r + s) x) nr nu := by
  obtain ⟨⟨h1, ⟨h2, h3⟩, h4, h5⟩, h6⟩ := h
  have hrow : ∀ k, k < 11 → k ≠ 2 + s → up2 A (dB 0 (2 + s)) r x (dB 0 k) = A (dB 0 k) := fun k hk hne => up2_row (dB_ne hk (by omega) (Or.inr hne))
  have hB : ∀ b, b ≠ 4 + 3 * r + s → up2 B 2 (4 + 3 * r + s) x 2 b = B 2 b := fun b hb => up2_j hb
  refine ⟨⟨h1, ⟨(hB 0 (by omega)).trans h2, (hB 1 (by omega)).trans h3⟩, fun q hq => ?_, fun u hu => ?_⟩, fun u hu t ht => ?_⟩
  · obtain ⟨⟨g1, g2, g3⟩, ⟨g4, g5⟩, g6⟩ := h4 q hq
    rcases (show s = 0 ∨ s = 1 by omega) with rfl | rfl
    · rw [hrow 3 (by decide) (by decide), hrow 4 (by decide) (by decide), hB (4 + 3 * q + 1) (by omega), hB (4 + 3 * q + 2) (by omega)]
      by_cases e : q = r
      · subst e
        rw [show 4 + 3 * q + 0 = 4 + 3 * q from rfl, show dB 0 (2 + 0) = dB 0 2 from rfl, up2_eq, up2_eq]
        exact ⟨⟨rfl, g2, g3⟩, ⟨hx, g5⟩, g6⟩
      · rw [hB (4 + 3 * q) (by omega), show up2 A (dB 0 (2 + 0)) r x (dB 0 2) q = A (dB 0 2) q from up2_j e]
        exact ⟨⟨g1, g2, g3⟩, ⟨g4, g5⟩, g6⟩
    · rw [hrow 2 (by decide) (by decide), hrow 4 (by decide) (by decide), hB (4 + 3 * q) (by omega), hB (4 + 3 * q + 2) (by omega)]
      by_cases e : q = r
      · subst e
        rw [show dB 0 (2 + 1) = dB 0 3 from rfl, up2_eq, up2_eq]
        exact ⟨⟨g1, rfl, g3⟩, ⟨g4, hx⟩, g6⟩
      · rw [hB (4 + 3 * q + 1) (by omega), show up2 A (dB 0 (2 + 1)) r x (dB 0 3) q = A (dB 0 3) q from up2_j e]
        exact ⟨⟨g1, g2, g3⟩, ⟨g4, g5⟩, g6⟩
  · obtain ⟨⟨g1, g2, g3⟩, g4, g5, g6⟩ := h5 u hu
    rw [hrow 5 (by decide) (by omega), hrow 6 (by decide) (by omega), hrow 7 (by decide) (by omega), hB (34 + 4 * u) (by omega), hB (34 + 4 * u + 1) (by omega), hB (34 + 4 * u + 2) (by omega)]
    refine ⟨⟨g1, g2, g3⟩, g4, g5, fun t ht => ?_⟩
    rw [hrow (9 + t) (by omega) (by omega)]
    exact nOk_e (fun b hb => hB b (by omega)) (g6 t ht)
  · rw [hrow (9 + t) (by omega) (by omega), show up2 B 2 (4 + 3 * r + s) x 14 = B 14 from up2_row (by decide)]
    exact h6 u hu t ht
end CD
