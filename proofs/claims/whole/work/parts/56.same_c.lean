/-! the search on both sides -/
theorem amt_n {k : Nat} (h : k < 2 ^ 20) : cAmt (nI k) = if k / 2 % 2 = 0 then nI (k / 4 + 1) else -nI (k / 4 + 1) := by
  unfold cAmt
  have e1 : nI k / nI 2 = nI (k / 2) := pk_div (by omega) (by decide) (by decide)
  have e2 : nI (k / 2) - nI (k / 2) / nI 2 * nI 2 = nI (k / 2 % 2) := pk_rem (by omega) (by decide) (by decide)
  have e3 : nI k / nI 4 = nI (k / 4) := pk_div (by omega) (by decide) (by decide)
  rw [show (4 : Int32) = nI 4 from rfl, show (2 : Int32) = nI 2 from rfl, show (1 : Int32) = nI 1 from rfl, e1, e2, e3, nI_add]
  by_cases g : k / 2 % 2 = 0
  · rw [if_pos g, g, if_pos nI_0]
  · rw [if_neg g, if_neg (nI_ne0 (by omega) (by omega))]
section BS
variable {A B : Nat → Nat → Int32} {nr nu u s : Nat}
theorem vM_role (h : vM A B nr nu) (hu : u < nu) (ch : Nat) : cRole A 0 u ch < nr ∧ cRole A 0 u ch = if ch % 2 = 0 then mF B u else mG B u := by
  obtain ⟨f1, f2, f3, f4⟩ := vM_F h hu
  unfold cRole
  by_cases g : ch % 2 = 0
  · rw [if_pos g, if_pos g, f1]
    exact ⟨f2, rfl⟩
  · rw [if_neg g, if_neg g, f3]
    exact ⟨f4, rfl⟩
theorem vM_shd (h : vM A B nr nu) {r : Nat} {am : Int32} (hr : r < nr) (hs : s < 2) : vM (up2 A (dB 0 (2 + s)) r (cShf (A (dB 0 (2 + s)) r) am)) (mShd B r s am) nr nu := by
  have e := vM_col h hr hs
  unfold mCol at e
  unfold mShd
  rw [e, shf_eq]
  exact vM_set h hr hs (vC_shf _ _)
theorem vM_fix (h : vM A B nr nu) {r : Nat} (hr : r < nr) : (¬ B 2 (4 + 3 * r + 2) = 1 ↔ A (dB 0 4) r = 0) := by
  obtain ⟨⟨-, -, g3⟩, -, ⟨b, hb⟩⟩ := h.1.2.2.1 r hr
  rw [g3, hb]
  cases b
  · exact ⟨fun _ => rfl, fun _ => by decide⟩
  · exact ⟨fun q => absurd rfl q, fun q => absurd q (by decide)⟩
theorem vM_try (h : vM A B nr nu) (hu : u < nu) (hs : s < 2) (ch : Nat) : mTry B u s nu (cRole A 0 u ch) (cAmt (nI ch)) (mVio B s nu) = cTry A 0 u s nu ch := by
  obtain ⟨hr, -⟩ := vM_role h hu ch
  have h2 := vM_shd h hr hs (am := cAmt (nI ch))
  unfold mTry cTry
  have e1 := vM_fix h hr
  have e2 := vM_kept h2 hu hs
  have e3 := vM_vio h2 hs nu (Nat.le_refl _)
  have e4 := vM_vio h hs nu (Nat.le_refl _)
  rw [e3, e4]
  unfold cShd
  exact decide_eq_decide.mpr (and_congr e1 (and_congr e2 Iff.rfl))
def chW (A : Nat → Nat → Int32) (u ch : Nat) : Int32 × Nat := (cAmt (nI ch), cRole A 0 u ch)
theorem vM_fnd (h : vM A B nr nu) (hu : u < nu) (hs : s < 2) : ∀ k d, d + k = 256 → 1 ≤ d → mFnd B u s nu k d = (ffn (cTry A 0 u s nu) (4 * k) (4 * (d - 1))).map (chW A u)
  | 0, d, _, _ => rfl
  | k + 1, d, hd, hd1 => by
    obtain ⟨c, rfl⟩ : ∃ c, d = c + 1 := ⟨d - 1, by omega⟩
    have t := fun j (hj : j < 4) => vM_try h hu hs (4 * c + j)
    have w0 : chW A u (4 * c) = (nI (c + 1), mF B u) := by
      unfold chW
      rw [amt_n (by omega), (vM_role h hu _).2, if_pos (by omega), if_pos (by omega), show 4 * c / 4 + 1 = c + 1 by omega]
    have w1 : chW A u (4 * c + 1) = (nI (c + 1), mG B u) := by
      unfold chW
      rw [amt_n (by omega), (vM_role h hu _).2, if_pos (by omega), if_neg (by omega), show (4 * c + 1) / 4 + 1 = c + 1 by omega]
    have w2 : chW A u (4 * c + 2) = (-nI (c + 1), mF B u) := by
      unfold chW
      rw [amt_n (by omega), (vM_role h hu _).2, if_neg (by omega), if_pos (by omega), show (4 * c + 2) / 4 + 1 = c + 1 by omega]
    have w3 : chW A u (4 * c + 3) = (-nI (c + 1), mG B u) := by
      unfold chW
      rw [amt_n (by omega), (vM_role h hu _).2, if_neg (by omega), if_neg (by omega), show (4 * c + 3) / 4 + 1 = c + 1 by omega]
    have t0 := t 0 (by decide)
    have t1 := t 1 (by decide)
    have t2 := t 2 (by decide)
    have t3 := t 3 (by decide)
    rw [Nat.add_zero] at t0
    rw [show cRole A 0 u (4 * c) = mF B u from congrArg Prod.snd w0, show cAmt (nI (4 * c)) = nI (c + 1) from congrArg Prod.fst w0] at t0
    rw [show cRole A 0 u (4 * c + 1) = mG B u from congrArg Prod.snd w1, show cAmt (nI (4 * c + 1)) = nI (c + 1) from congrArg Prod.fst w1] at t1
    rw [show cRole A 0 u (4 * c + 2) = mF B u from congrArg Prod.snd w2, show cAmt (nI (4 * c + 2)) = -nI (c + 1) from congrArg Prod.fst w2] at t2
    rw [show cRole A 0 u (4 * c + 3) = mG B u from congrArg Prod.snd w3, show cAmt (nI (4 * c + 3)) = -nI (c + 1) from congrArg Prod.fst w3] at t3
    rw [show 4 * (k + 1) = 4 * k + 1 + 1 + 1 + 1 by omega, show 4 * (c + 1 - 1) = 4 * c by omega, ffn_s, ffn_s, ffn_s, ffn_s]
    by_cases q0 : cTry A 0 u s nu (4 * c) = true
    · rw [if_pos q0, mFnd_1 (t0.trans q0), Option.map_some, w0]
    · have q0f := Bool.eq_false_iff.mpr q0
      rw [if_neg q0]
      by_cases q1 : cTry A 0 u s nu (4 * c + 1) = true
      · rw [if_pos q1, mFnd_2 (t0.trans q0f) (t1.trans q1), Option.map_some, w1]
      · have q1f := Bool.eq_false_iff.mpr q1
        rw [if_neg q1]
        by_cases q2 : cTry A 0 u s nu (4 * c + 1 + 1) = true
        · rw [if_pos q2, mFnd_3 (t0.trans q0f) (t1.trans q1f) (t2.trans q2), Option.map_some, w2]
        · have q2f := Bool.eq_false_iff.mpr q2
          rw [if_neg q2]
          by_cases q3 : cTry A 0 u s nu (4 * c + 1 + 1 + 1) = true
          · rw [if_pos q3, mFnd_4 (t0.trans q0f) (t1.trans q1f) (t2.trans q2f) (t3.trans q3), Option.map_some, w3]
          · rw [if_neg q3, mFnd_5 (t0.trans q0f) (t1.trans q1f) (t2.trans q2f) (t3.trans (Bool.eq_false_iff.mpr q3)), vM_fnd h hu hs k (c + 1 + 1) (by omega) (by omega)]
            rfl
theorem vM_bst (h : vM A B nr nu) (hu : u < nu) (hs : s < 2) : mBst B u s nu = (cBest A 0 u s nu).map (chW A u) := vM_fnd h hu hs 255 1 rfl (Nat.le_refl _)
theorem vM_bs (h : vM A B nr nu) (hu : u < nu) (hs : s < 2) : mBs B u s nu = cBS A u s nu := by
  unfold mBs cBS
  rw [vM_bst h hu hs]
  have hk := vM_kept h hu hs
  by_cases g : mVi B u s = 0
  · rw [if_pos g, if_neg (hk.mp g)]
  · rw [if_neg g, if_pos (Classical.byContradiction (fun q => g (hk.mpr q)))]
    cases cBest A 0 u s nu <;> rfl
theorem vM_sr (h : vM A B nr nu) (hu : u < nu) (hs : s < 2) : mSr B u s nu = cSR A u s nu := by
  unfold mSr cSR
  rw [vM_bst h hu hs]
  have hk := vM_kept h hu hs
  by_cases g : mVi B u s = 0
  · rw [if_pos g, if_neg (hk.mp g)]
  · rw [if_neg g, if_pos (Classical.byContradiction (fun q => g (hk.mpr q)))]
    cases cBest A 0 u s nu <;> rfl
/-- what a change of colours leaves alone -/
def fA (A A' : Nat → Nat → Int32) : Prop := ∀ a, a ≠ dB 0 2 → a ≠ dB 0 3 → A' a = A a
def fB (B B' : Nat → Nat → Int32) : Prop := ∀ a, a ≠ 2 → B' a = B a
theorem fA_up {r : Nat} {x : Int32} (hs : s < 2) : fA A (up2 A (dB 0 (2 + s)) r x) := by
  intro a h1 h2
  refine up2_row ?_
  rcases (show s = 0 ∨ s = 1 by omega) with rfl | rfl
  · exact h1
  · exact h2
theorem fB_up {j : Nat} {x : Int32} : fB B (up2 B 2 j x) := fun a h => up2_row h
theorem vM_any (h : vM A B nr nu) : ∀ k i, i + k = 2 * nu → (mAn B nu k i = none ∧ cMnd A 0 nu k i = (0, A)) ∨ ∃ j w, mAn B nu k i = some (j, w) ∧ (w.2 < nr ∧ j % 2 < 2) ∧ (cMnd A 0 nu k i).1 = 1 ∧ vM (cMnd A 0 nu k i).2 (mShd B w.2 (j % 2) w.1) nr nu ∧ fA A (cMnd A 0 nu k i).2
  | 0, i, _ => Or.inl ⟨rfl, rfl⟩
  | k + 1, i, hi => by
    have hu : i / 2 < nu := by omega
    have hs : i % 2 < 2 := by omega
    have hk := vM_kept h hu hs
    by_cases g : mVi B (i / 2) (i % 2) = 0
    · rw [mAn_k g, cMnd_k (hk.mp g)]
      exact vM_any h k (i + 1) (by omega)
    · have gc : cKept A 0 (i / 2) (i % 2) = 0 := Classical.byContradiction (fun q => g (hk.mpr q))
      have hb := vM_bst h hu hs
      cases hq : cBest A 0 (i / 2) (i % 2) nu with
      | none =>
        rw [hq] at hb
        rw [mAn_n g hb, cMnd_n gc hq]
        exact vM_any h k (i + 1) (by omega)
      | some ch =>
        rw [hq] at hb
        obtain ⟨hr, -⟩ := vM_role h hu ch
        right
        refine ⟨i, chW A (i / 2) ch, mAn_y g hb, ⟨hr, hs⟩, ?_⟩
        rw [cMnd_y gc hq]
        exact ⟨rfl, vM_shd h hr hs, fA_up hs⟩
theorem vM_rep : ∀ n A B, vM A B nr nu → (mRep nu n B).1 = (cRep nu n A).1 ∧ vM (cRep nu n A).2 (mRep nu n B).2 nr nu ∧ fA A (cRep nu n A).2 ∧ fB B (mRep nu n B).2
  | 0, A, B, h => ⟨rfl, h, fun _ _ _ => rfl, fun _ _ => rfl⟩
  | n + 1, A, B, h => by
    rcases vM_any h (2 * nu) 0 (by omega) with ⟨h1, h2⟩ | ⟨j, w, h1, -, h2, h3, h4⟩
    · rw [mRep_n h1, cRep_n (by rw [h2])]
      rw [h2]
      exact ⟨rfl, h, fun _ _ _ => rfl, fun _ _ => rfl⟩
    · rw [mRep_y h1, cRep_y (by rw [h2]; decide)]
      obtain ⟨g1, g2, g3, g4⟩ := vM_rep n _ _ h3
      exact ⟨congrArg (· + 1) g1, g2, fun a q1 q2 => (g3 a q1 q2).trans (h4 a q1 q2), fun a q => (g4 a q).trans (fB_up a q)⟩
end BS
