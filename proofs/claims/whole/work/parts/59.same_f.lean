/-! a reading leaves the other designs alone -/
def frz (A C : Nat → Nat → Int32) : Prop := ∀ a, a ≠ 5 → (a < 19 ∨ 29 < a) → C a = A a
theorem frz_tr {A B C : Nat → Nat → Int32} (h : frz A B) (g : frz B C) : frz A C := fun a h1 h2 => (g a h1 h2).trans (h a h1 h2)
section FR
variable {T : Nat → Int32} {n : Nat}
theorem fr_role (P : Ps) : frz P.2.2.2.1 (sRole T n P).2.2.2.1 := by
  obtain ⟨nr, nu, fp, A, z⟩ := P
  by_cases h : 10 ≤ nr
  · rw [sRole_f h]
    exact fun _ _ _ => rfl
  · by_cases g : (zR4 T n z).1 = 0
    · rw [sRole_y h g]
      exact fun a h1 h2 => cAdR_r (by omega)
    · rw [sRole_n h g]
      exact fun _ _ _ => rfl
theorem fr_rule (b : Bool) (P : Ps) : frz P.2.2.2.1 (sRule T n b P).2.2.2.1 := by
  obtain ⟨nr, nu, fp, A, z⟩ := P
  by_cases h : 12 ≤ nu
  · rw [sRule_f h]
    exact fun _ _ _ => rfl
  · by_cases g : (zU6 T n nr b z).1 = 0
    · rw [sRule_y h g]
      exact fun a h1 h2 => (cAdU_r (by omega)).trans (up2_row h1)
    · rw [sRule_n h g]
      exact fun _ _ _ => rfl
theorem fr_stm (P : Ps) : frz P.2.2.2.1 (sStm T n P).2.2.2.1 := by
  unfold sStm
  split
  · exact fr_role P
  · split
    · exact fr_rule true P
    · split
      · exact fr_rule false P
      · split
        · exact fun _ _ _ => rfl
        · exact fun _ _ _ => rfl
theorem fr_lp : ∀ k (P : Ps), frz P.2.2.2.1 (sLp T n k P).2.2.2.1
  | 0, P => fun _ _ _ => rfl
  | k + 1, P => by
    unfold sLp
    split
    · exact frz_tr (fr_stm P) (fr_lp k (sSt T n P))
    · exact fun _ _ _ => rfl
theorem fr_rd {A : Nat → Nat → Int32} : frz A (sRd T n A).2.2.2.1 := fr_lp 700 (0, 0, none, A, zNS T n 59 (zNW T n (tw 0) (0, 0)))
theorem zSt_9 {fp : Option Nat} {A : Nat → Nat → Int32} {u : Nat} : ∀ m, zSt T n fp A m (dB 1 9) u = if u < m ∧ A (dB 1 7) u = -1 then zNd T n fp (A 5 u) 0 else A (dB 1 9) u
  | 0 => by
    rw [if_neg (fun q => absurd q.1 (Nat.not_lt_zero u))]
    rfl
  | m + 1 => by
    have ih := zSt_9 (fp := fp) (A := A) (u := u) m
    by_cases h : A (dB 1 7) m = -1
    · rw [zSt_y h, up2_q (dB_ne (by decide) (by decide) (Or.inr (by decide))), up2_at]
      by_cases g : u = m
      · subst g
        rw [if_pos ⟨rfl, rfl⟩, if_pos ⟨Nat.lt_succ_self _, h⟩]
      · rw [if_neg (fun q => g q.2), ih]
        by_cases g2 : u < m ∧ A (dB 1 7) u = -1
        · rw [if_pos g2, if_pos ⟨by omega, g2.2⟩]
        · rw [if_neg g2, if_neg (fun q => g2 ⟨by omega, q.2⟩)]
    · rw [zSt_n h, ih]
      by_cases g2 : u < m ∧ A (dB 1 7) u = -1
      · rw [if_pos g2, if_pos ⟨by omega, g2.2⟩]
      · rw [if_neg g2, if_neg (fun q => g2 ⟨(show u < m ∨ u = m by omega).resolve_right (fun e => h (by rw [← e]; exact q.2)), q.2⟩)]
theorem zSt_10 {fp : Option Nat} {A : Nat → Nat → Int32} {u : Nat} : ∀ m, zSt T n fp A m (dB 1 10) u = if u < m ∧ A (dB 1 7) u = -1 then zNd T n fp (A 5 u) 1 else A (dB 1 10) u
  | 0 => by
    rw [if_neg (fun q => absurd q.1 (Nat.not_lt_zero u))]
    rfl
  | m + 1 => by
    have ih := zSt_10 (fp := fp) (A := A) (u := u) m
    by_cases h : A (dB 1 7) m = -1
    · rw [zSt_y h, up2_at]
      by_cases g : u = m
      · subst g
        rw [if_pos ⟨rfl, rfl⟩, if_pos ⟨Nat.lt_succ_self _, h⟩]
      · rw [if_neg (fun q => g q.2), up2_q (dB_ne (by decide) (by decide) (Or.inr (by decide))), ih]
        by_cases g2 : u < m ∧ A (dB 1 7) u = -1
        · rw [if_pos g2, if_pos ⟨by omega, g2.2⟩]
        · rw [if_neg g2, if_neg (fun q => g2 ⟨by omega, q.2⟩)]
    · rw [zSt_n h, ih]
      by_cases g2 : u < m ∧ A (dB 1 7) u = -1
      · rw [if_pos g2, if_pos ⟨by omega, g2.2⟩]
      · rw [if_neg g2, if_neg (fun q => g2 ⟨(show u < m ∨ u = m by omega).resolve_right (fun e => h (by rw [← e]; exact q.2)), q.2⟩)]
end FR
section LD
variable {I A B I' J C L Bm : Nat → Nat → Int32} {bl nx kp nr nu k : Nat}
/-- the design that was read, and the model's draft -/
theorem cD_ld {T : Nat → Int32} {P : Ps} (hD : qD P.1 P.2.1 P.2.2.2.1 Bm) (hF : qF T k P.2.2.1 L Bm) : cD (zSt T k P.2.2.1 P.2.2.2.1 P.2.1) 1 (Bm 3) P.1 P.2.1 ∧ ∀ u, u < P.2.1 → ∀ s, s < 2 → zSt T k P.2.2.1 P.2.2.2.1 P.2.1 (dB 1 (9 + s)) u = ldN T k P (2 * u + s) := by
  have hnd : ∀ u, u < P.2.1 → ∀ s, s < 2 → zSt T k P.2.2.1 P.2.2.2.1 P.2.1 (dB 1 (9 + s)) u = ldN T k P (2 * u + s) := by
    intro u hu s hs
    obtain ⟨-, -, hx⟩ := hD.2.2.2 u hu
    unfold ldN
    rw [show (2 * u + s) / 2 = u by omega, show (2 * u + s) % 2 = s by omega]
    rcases (show s = 0 ∨ s = 1 by omega) with rfl | rfl
    · rw [show dB 1 (9 + 0) = dB 1 9 from rfl, zSt_9, show P.2.2.2.1 (dB 1 7) u = P.2.2.2.1 26 u from rfl, show P.2.2.2.1 (dB 1 9) u = P.2.2.2.1 28 u from rfl]
      by_cases g : P.2.2.2.1 26 u = -1
      · rw [if_pos ⟨hu, g⟩, if_pos g]
        rfl
      · rw [if_neg (fun q => g q.2), if_neg g]
        exact (hx.resolve_left (fun q => g q.1)).2.1
    · rw [show dB 1 (9 + 1) = dB 1 10 from rfl, zSt_10, show P.2.2.2.1 (dB 1 7) u = P.2.2.2.1 26 u from rfl, show P.2.2.2.1 (dB 1 10) u = P.2.2.2.1 29 u from rfl]
      by_cases g : P.2.2.2.1 26 u = -1
      · rw [if_pos ⟨hu, g⟩, if_pos g]
        rfl
      · rw [if_neg (fun q => g q.2), if_neg g]
        exact (hx.resolve_left (fun q => g q.1)).2.2
  refine ⟨⟨hD.1, hD.2.1, fun r hr => ?_, fun u hu => ?_⟩, hnd⟩
  · rw [zSt_ne (a := dB 1 2) (by decide) (by decide), zSt_ne (a := dB 1 3) (by decide) (by decide), zSt_ne (a := dB 1 4) (by decide) (by decide)]
    exact hD.2.2.1 r hr
  · obtain ⟨⟨g0, g1, g2, g3⟩, g4, hx⟩ := hD.2.2.2 u hu
    rw [zSt_ne (a := dB 1 5) (by decide) (by decide), zSt_ne (a := dB 1 6) (by decide) (by decide), zSt_ne (a := dB 1 7) (by decide) (by decide)]
    refine ⟨⟨g0, g1, g2⟩, g4, hx.elim (fun q => Or.inl q.1) (fun q => Or.inr q.1), fun s hs => ?_⟩
    rw [hnd u hu s hs]
    exact nOk_ld hD hF hu hs
/-- a reading has ended, well or badly -/
theorem cpl_read (h : cplX I A I' B bl nx kp nr nu) (hr : rdP (up2 I 0 5 0) A k J C) (hq : qS (A 1) k (sRd (A 1) k A) L Bm) (hs : rS (mLd I' k) L) (hB : ∀ a, a ≠ 3 → Bm a = B a) : cplX (up2 J 0 6 (J 2 3)) C (up2 L 0 7 (L 0 6)) Bm 0 nx kp nr nu := by
  obtain ⟨-, a4, ⟨a5, a6, a7, a8⟩, ⟨a9, a9b, a9c⟩, a10⟩ := h
  obtain ⟨r1, r2, r3, r4⟩ := hr
  have hC : frz A C := by
    rw [r4]
    split
    · intro a h1 h2
      rw [zSt_ne (show a ≠ 28 by omega) (show a ≠ 29 by omega)]
      exact fr_rd a h1 h2
    · exact fr_rd
  have hJ : ∀ a, a ≠ 0 → a ≠ 2 → a ≠ 3 → a ≠ 4 → a ≠ 19 → ∀ j, up2 J 0 6 (J 2 3) a j = I a j := fun a h0 h2 h3 h4 h5 j => by
    rw [up2_q h0, r1 a h2 h3 h4 h5, up2_q h0]
  have hLk : ∀ b, ¬ (b = 4 ∨ b = 5 ∨ b = 6 ∨ b = 12 ∨ b = 14) → L 0 b = mLd I' k 0 b := fun b hb => hs 0 b (fun q => hb q.2)
  have hW := hq.1.1
  refine ⟨⟨?_, ?_, mT_0⟩, ?_, ⟨a5, (hJ 6 (by decide) (by decide) (by decide) (by decide) (by decide) 1).trans a6, (hJ 6 (by decide) (by decide) (by decide) (by decide) (by decide) 2).trans a7, ?_⟩, ⟨(hJ (dB 0 0) (by decide) (by decide) (by decide) (by decide) (by decide) 0).trans a9, (hJ (dB 0 0) (by decide) (by decide) (by decide) (by decide) (by decide) 3).trans a9b, ?_, fun u hu s hs2 => ?_⟩, fun j hj => ?_⟩
  · rw [up2_j (by decide), r1 0 (by decide) (by decide) (by decide) (by decide), up2_eq]
    rfl
  · rw [up2_j (by decide), hLk 2 (by omega)]
    rfl
  · rw [up2_eq, up2_eq, r2]
    by_cases g : (sRd (A 1) k A).2.2.2.2.1 = 0
    · rw [if_pos g]
      exact (hW.2.2.2.2 g).symm
    · rw [if_neg g]
      exact (hW.2.2.2.1 g).symm
  · rw [up2_j (by decide), hLk 11 (by omega)]
    exact a8
  · rw [hB 2 (by decide)]
    exact cD_A (fun q h1 h2 => hC _ (by unfold dB; omega) (by unfold dB; omega)) a9c.1
  · rw [hB 14 (by decide), hC (dB 0 (9 + s)) (by unfold dB; omega) (by unfold dB; omega)]
    exact a9c.2 u hu s hs2
  · obtain ⟨nr2, nu2, g1, g2, g3⟩ := a10 j hj
    refine ⟨nr2, nu2, (hJ _ (by unfold dB; omega) (by unfold dB; omega) (by unfold dB; omega) (by unfold dB; omega) (by unfold dB; omega) 0).trans g1, (hJ _ (by unfold dB; omega) (by unfold dB; omega) (by unfold dB; omega) (by unfold dB; omega) (by unfold dB; omega) 3).trans g2, ?_⟩
    rw [hB (5 + j) (by omega)]
    exact cD_A (fun q h1 h2 => hC _ (by unfold dB; omega) (by unfold dB; omega)) g3
/-- a new design in place of the old -/
theorem cpl_new {nr2 nu2 : Nat} {wn : Nat → Int32} (h : cplX I A I' B bl nx kp nr nu) (hd : cD A 1 (B 3) nr2 nu2) (h0 : I (dB 1 0) 0 = nI nr2) (h3 : I (dB 1 0) 3 = nI nu2) (hw : ∀ u, u < nu2 → ∀ s, s < 2 → A (dB 1 (9 + s)) u = wn (2 * u + s)) : cplX (cCpI I 0 1) (cCpy A 0 1) I' (mLay (mCp B 3 2 1282) wn (2 * nu2)) bl nx kp nr2 nu2 := by
  obtain ⟨⟨a1, a2, a3⟩, a4, ⟨a5, a6, a7, a8⟩, -, a10⟩ := h
  have hD : ∀ e j, e ≠ 0 → cCpI I 0 1 (dB e 0) j = I (dB e 0) j := by
    intro e j he
    unfold cCpI
    rw [up2_q (dB_ne (by decide) (by decide) (Or.inl he)), up2_q (dB_ne (by decide) (by decide) (Or.inl he))]
  refine ⟨⟨(cCpI_lo (by decide)).trans a1, a2, ?_⟩, (cCpI_lo (by decide)).trans a4, ⟨a5, (cCpI_lo (by decide)).trans a6, (cCpI_lo (by decide)).trans a7, a8⟩, ⟨?_, ?_, ?_, fun u hu s hs => ?_⟩, fun j hj => ?_⟩
  · rw [cCpy_lo (by decide)]
    refine mT_ext ?_ a3
    rw [mLay_ne (by decide), mCp_ne (by decide) (by decide)]
  · unfold cCpI
    rw [up2_j (by decide), up2_eq]
    exact h0
  · unfold cCpI
    rw [up2_eq]
    exact h3
  · refine cD_row (D := B 3) (fun b hb => ?_) (cD_cp hd (by decide))
    rw [mLay_ne (by decide), mCp_q (by decide) hb]
  · have hn12 := hd.1.2
    rw [cc_nd (by decide) hs (by omega), mLay_at, if_pos ⟨rfl, by omega⟩]
    exact (hw u hu s hs).symm
  · obtain ⟨nr3, nu3, q1, q2, q3⟩ := a10 j hj
    refine ⟨nr3, nu3, (hD _ _ (by omega)).trans q1, (hD _ _ (by omega)).trans q2, cD_row (D := B (5 + j)) (fun b hb => ?_) (cD_ne q3 (by omega))⟩
    rw [mLay_ne (by omega), mCp_ne (by decide) (by omega)]
/-- a good reading -/
theorem cpl_load (h : cplX I A I' B bl nx kp nr nu) (hr : rdP (up2 I 0 5 0) A k J C) (hg : (sRd (A 1) k A).2.2.2.2.1 = 0) (hq : qS (A 1) k (sRd (A 1) k A) L Bm) (hs : rS (mLd I' k) L) (hB : ∀ a, a ≠ 3 → Bm a = B a) : cplX (ldI J nx kp) (ldA C nx) (up2 (up2 L 0 7 (L 0 6)) 0 11 (nI (min (kp + 1) 8))) (mLay (mCp (mRem Bm kp) 3 2 1282) (ldN (A 1) k (sRd (A 1) k A)) (2 * (sRd (A 1) k A).2.1)) 0 ((nx + 1) % 8) (min (kp + 1) 8) (sRd (A 1) k A).1 (sRd (A 1) k A).2.1 := by
  have h1 := cpl_read h hr hq hs hB
  have hk8 := h1.2.2.1.1.2
  have hn8 := h1.2.2.1.1.1
  have h2 := cpl_keep (A1 := cCpy C (2 + nx) 0) (B1 := mRem Bm kp) (J := up2 (up2 L 0 7 (L 0 6)) 0 11 (nI (min (kp + 1) 8))) h1 (fun _ _ _ _ _ => rfl) (cCpy_lo (by decide)) (fun _ _ _ => rfl) (mRem_ne hk8 (by decide)) (vM_keep hk8 h1.2.2.2.1.2.2) (up2_j (by decide)) (up2_j (by decide)) up2_eq
  obtain ⟨r1, r2, ⟨r3, r3b⟩, r4⟩ := hr
  rw [if_pos hg] at r4
  obtain ⟨g1, g2⟩ := hq.2 hg
  obtain ⟨g3, g4⟩ := cD_ld g1 g2
  rw [← r4] at g3 g4
  have e0 : ∀ j, hKeI (up2 J 0 6 (J 2 3)) 0 nx kp (dB 1 0) j = J 19 j := fun j => by
    rw [hKeI_D (by omega), up2_q (by decide)]
    rfl
  refine cpl_new h2 ?_ ((e0 0).trans r3) ((e0 3).trans r3b) (fun u hu s hs2 => ?_)
  · rw [mRem_ne hk8 (by decide)]
    exact cD_ne g3 (by omega)
  · rw [cCpy_D (by omega) (by omega)]
    exact g4 u hu s hs2
end LD
