/-- violated rules of a scheme, up to n; violated places, up to n -/
def vN (A : Nat → Nat → Int32) (s : Nat) : Nat → Nat
  | 0 => 0
  | n + 1 => vN A s n + if cKept A 0 n s = 0 then 1 else 0
def vP (A : Nat → Nat → Int32) : Nat → Nat
  | 0 => 0
  | n + 1 => vP A n + if cKept A 0 (n / 2) (n % 2) = 0 then 1 else 0
section VP
variable {A B : Nat → Nat → Int32} {nr nu : Nat}
theorem vN_le {s : Nat} : ∀ n, vN A s n ≤ n
  | 0 => Nat.le_refl _
  | n + 1 => by
    have := vN_le (s := s) n
    show vN A s n + (if cKept A 0 n s = 0 then 1 else 0) ≤ n + 1
    split <;> omega
theorem vP_le : ∀ n, vP A n ≤ n
  | 0 => Nat.le_refl _
  | n + 1 => by
    have := vP_le n
    show vP A n + (if cKept A 0 (n / 2) (n % 2) = 0 then 1 else 0) ≤ n + 1
    split <;> omega
theorem vP_2 : ∀ n, vP A (2 * n) = vN A 0 n + vN A 1 n
  | 0 => rfl
  | n + 1 => by
    have ih := vP_2 n
    show vP A (2 * n) + (if cKept A 0 (2 * n / 2) (2 * n % 2) = 0 then 1 else 0) + (if cKept A 0 ((2 * n + 1) / 2) ((2 * n + 1) % 2) = 0 then 1 else 0) = (vN A 0 n + if cKept A 0 n 0 = 0 then 1 else 0) + (vN A 1 n + if cKept A 0 n 1 = 0 then 1 else 0)
    rw [show 2 * n / 2 = n by omega, show 2 * n % 2 = 0 by omega, show (2 * n + 1) / 2 = n by omega, show (2 * n + 1) % 2 = 1 by omega]
    omega
theorem vN_vio {s : Nat} : ∀ n, cVio A 0 s n = nI (vN A s n)
  | 0 => rfl
  | n + 1 => by
    show (if cVal A 0 n s < cNd A 0 n s then cVio A 0 s n + 1 else cVio A 0 s n) = nI (vN A s n + if cKept A 0 n s = 0 then 1 else 0)
    rw [vN_vio n]
    unfold cKept
    by_cases g : cVal A 0 n s < cNd A 0 n s
    · rw [if_pos g, if_pos g, if_pos rfl]
      exact nI_1 _
    · rw [if_neg g, if_neg g, if_neg (by decide), Nat.add_zero]
theorem vio_all : cVio A 0 0 nu + cVio A 0 1 nu = nI (vP A (2 * nu)) := by
  rw [vN_vio, vN_vio, nI_add, vP_2]
theorem vP_mono {i j : Nat} (h : i ≤ j) : vP A i ≤ vP A j := by
  induction j with
  | zero => rw [show i = 0 by omega]; exact Nat.le_refl _
  | succ j ih =>
    by_cases g : i = j + 1
    · rw [g]; exact Nat.le_refl _
    · exact Nat.le_trans (ih (by omega)) (Nat.le_add_right _ _)
/-- the x-th violated place -/
theorem cVP_n {x : Nat} (hx : x < 2 ^ 20) : ∀ n i, i + n < 2 ^ 20 → vP A i ≤ x → (vP A (i + n) ≤ x ∧ cVP A 0 (nI x) n i (nI (vP A i)) = -1) ∨ (x < vP A (i + n) ∧ ∃ pl, pl < i + n ∧ cVP A 0 (nI x) n i (nI (vP A i)) = nI pl)
  | 0, i, _, h => Or.inl ⟨h, rfl⟩
  | n + 1, i, hi, h => by
    rw [cVP_s]
    by_cases g : cKept A 0 (i / 2) (i % 2) = 0
    · have hs : vP A (i + 1) = vP A i + 1 := by
        show vP A i + (if cKept A 0 (i / 2) (i % 2) = 0 then 1 else 0) = _
        rw [if_pos g]
      rw [if_pos g]
      have hle := vP_le (A := A) i
      by_cases q : vP A i = x
      · rw [q, if_pos rfl]
        right
        refine ⟨?_, i, by omega, rfl⟩
        have := vP_mono (A := A) (i := i + 1) (j := i + (n + 1)) (by omega)
        omega
      · rw [if_neg (fun e => q ((nI_eq (by omega) (by omega)).mp e)), nI_1, ← hs, show i + (n + 1) = i + 1 + n by omega]
        exact cVP_n hx n (i + 1) (by omega) (by omega)
    · have hs : vP A (i + 1) = vP A i := by
        show vP A i + (if cKept A 0 (i / 2) (i % 2) = 0 then 1 else 0) = _
        rw [if_neg g, Nat.add_zero]
      rw [if_neg g, ← hs, show i + (n + 1) = i + 1 + n by omega]
      exact cVP_n hx n (i + 1) (by omega) (by omega)
theorem cVP_m {x : Int32} (hx : x < 0) : ∀ n i q, i + n < 2 ^ 20 → q ≤ i → cVP A 0 x n i (nI q) = -1
  | 0, _, _, _, _ => rfl
  | n + 1, i, q, hi, hq => by
    rw [cVP_s]
    by_cases g : cKept A 0 (i / 2) (i % 2) = 0
    · rw [if_pos g, if_neg (fun e => nI_pos (n := q) (by omega) (by rw [e]; exact hx)), nI_1]
      exact cVP_m hx n (i + 1) (q + 1) (by omega) (by omega)
    · rw [if_neg g]
      exact cVP_m hx n (i + 1) q (by omega) (by omega)
theorem mVP_n (h : vM A B nr nu) {x : Nat} (hx : x < 2 ^ 20) : ∀ n i, i + n = 2 * nu → vP A i ≤ x → x < vP A (i + n) → mVP B n i (nI (x - vP A i)) = cVP A 0 (nI x) n i (nI (vP A i))
  | 0, i, _, h1, h2 => absurd h2 (by rw [Nat.add_zero]; omega)
  | n + 1, i, hi, h1, h2 => by
    have hu : i / 2 < nu := by omega
    have hs : i % 2 < 2 := by omega
    have hn12 := h.1.1.2
    have hk := vM_kept h hu hs
    have hle := vP_le (A := A) i
    rw [cVP_s]
    by_cases g : cKept A 0 (i / 2) (i % 2) = 0
    · have gm : ¬ mVi B (i / 2) (i % 2) = 0 := fun q => hk.mp q g
      have e1 : vP A (i + 1) = vP A i + 1 := by
        show vP A i + (if cKept A 0 (i / 2) (i % 2) = 0 then 1 else 0) = _
        rw [if_pos g]
      rw [if_pos g]
      by_cases q : vP A i = x
      · rw [q, if_pos rfl, Nat.sub_self, mVP_e gm (by decide)]
      · rw [if_neg (fun e => q ((nI_eq (by omega) (by omega)).mp e)), mVP_m gm (nI_lt (a := 0) (by omega) (by omega)), nI_1, ← e1]
        have e2 : nI (x - vP A i) - 1 = nI (x - vP A (i + 1)) := by
          rw [show x - vP A i = (x - vP A (i + 1)) + 1 by omega]
          exact nI_pred _
        rw [e2]
        exact mVP_n h hx n (i + 1) (by omega) (by omega) (by rw [show i + 1 + n = i + (n + 1) by omega]; exact h2)
    · have gm : mVi B (i / 2) (i % 2) = 0 := hk.mpr g
      have e1 : vP A (i + 1) = vP A i := by
        show vP A i + (if cKept A 0 (i / 2) (i % 2) = 0 then 1 else 0) = _
        rw [if_neg g, Nat.add_zero]
      rw [if_neg g, mVP_k gm, Int32.sub_zero, ← e1]
      exact mVP_n h hx n (i + 1) (by omega) (by omega) (by rw [show i + 1 + n = i + (n + 1) by omega]; exact h2)
/-- either both sides name the same place, or both refuse -/
theorem vM_violation (h : vM A B nr nu) (x : Int32) : (∃ pl, pl < 1000 ∧ cVP A 0 x (2 * nu) 0 0 = nI pl ∧ mVP B (2 * nu) 0 x = nI pl ∧ ¬ x < 0 ∧ ¬ mVio B 0 nu + mVio B 1 nu - 1 < x) ∨ (cVP A 0 x (2 * nu) 0 0 = -1 ∧ (x < 0 ∨ mVio B 0 nu + mVio B 1 nu - 1 < x)) := by
  have hn12 := h.1.1.2
  have hv : mVio B 0 nu + mVio B 1 nu = nI (vP A (2 * nu)) := by
    rw [vM_vio h (by decide) nu (Nat.le_refl _), vM_vio h (by decide) nu (Nat.le_refl _)]
    exact vio_all
  have hle := vP_le (A := A) (2 * nu)
  by_cases hx : x < 0
  · exact Or.inr ⟨cVP_m hx (2 * nu) 0 0 (by omega) (Nat.le_refl _), Or.inl hx⟩
  · obtain ⟨j, hj, rfl⟩ := nI_of hx
    rw [hv]
    by_cases hb : j < 2 ^ 20
    · rcases cVP_n (A := A) hb (2 * nu) 0 (by omega) (Nat.zero_le _) with ⟨g1, g2⟩ | ⟨g1, pl, g2, g3⟩
      · rw [Nat.zero_add] at g1
        refine Or.inr ⟨g2, Or.inr ?_⟩
        cases hc : vP A (2 * nu) with
        | zero => exact Int32.lt_of_lt_of_le (show nI 0 - 1 < 0 by decide) (nI_pos' hj)
        | succ v =>
          rw [nI_pred]
          exact nI_lt (by omega) hj
      · rw [Nat.zero_add] at g1 g2
        refine Or.inl ⟨pl, by omega, g3, ?_, hx, ?_⟩
        · have := mVP_n h hb (2 * nu) 0 (by omega) (Nat.zero_le _) (by rw [Nat.zero_add]; exact g1)
          rw [show j - vP A 0 = j from Nat.sub_zero j] at this
          exact this.trans g3
        · obtain ⟨v, hv2⟩ : ∃ v, vP A (2 * nu) = v + 1 := ⟨vP A (2 * nu) - 1, by omega⟩
          rw [hv2, nI_pred]
          exact nI_nlt (by omega) (by omega)
    · right
      have hvp : ∀ n i q, i + n ≤ 2 * nu → q ≤ i → cVP A 0 (nI j) n i (nI q) = -1 := by
        intro n
        induction n with
        | zero => intro i q _ _; rfl
        | succ n ih =>
          intro i q hi hq
          rw [cVP_s]
          by_cases g : cKept A 0 (i / 2) (i % 2) = 0
          · rw [if_pos g, if_neg (fun e => absurd ((nI_eq (by omega) hj).mp e) (by omega)), nI_1]
            exact ih (i + 1) (q + 1) (by omega) (by omega)
          · rw [if_neg g]
            exact ih (i + 1) q (by omega) (by omega)
      refine ⟨hvp (2 * nu) 0 0 (by omega) (Nat.le_refl _), Or.inr ?_⟩
      cases hc : vP A (2 * nu) with
      | zero => exact Int32.lt_of_lt_of_le (show nI 0 - 1 < 0 by decide) (nI_pos' hj)
      | succ v =>
        rw [nI_pred]
        exact nI_lt (by omega) hj
/-- the schemes exchanged -/
theorem vM_exc (h : vM A B nr nu) : ∀ n, n ≤ nr → vM (cExc A 0 n) (mEx B n) nr nu ∧ fA A (cExc A 0 n) ∧ fB B (mEx B n)
  | 0, _ => ⟨h, fun _ _ _ => rfl, fun _ _ => rfl⟩
  | n + 1, hn => by
    obtain ⟨h1, h2, h3⟩ := vM_exc h n (by omega)
    have e0 := vM_col h1 (r := n) (s := 0) (by omega) (by decide)
    have e1 := vM_col h1 (r := n) (s := 1) (by omega) (by decide)
    have v0 := vM_vC h1 (r := n) (s := 0) (by omega) (by decide)
    have v1 := vM_vC h1 (r := n) (s := 1) (by omega) (by decide)
    have g1 := vM_set h1 (r := n) (s := 0) (by omega) (by decide) v1
    have g2 := vM_set g1 (r := n) (s := 1) (by omega) (by decide) v0
    have eA : cExc A 0 (n + 1) = up2 (up2 (cExc A 0 n) (dB 0 (2 + 0)) n (cExc A 0 n (dB 0 (2 + 1)) n)) (dB 0 (2 + 1)) n (cExc A 0 n (dB 0 (2 + 0)) n) := rfl
    have eB : mEx B (n + 1) = up2 (up2 (mEx B n) 2 (4 + 3 * n + 0) (cExc A 0 n (dB 0 (2 + 1)) n)) 2 (4 + 3 * n + 1) (cExc A 0 n (dB 0 (2 + 0)) n) := by
      rw [← e0, ← e1]
      rfl
    rw [eA, eB]
    refine ⟨g2, fun a q1 q2 => ?_, fun a q => ?_⟩
    · exact (fA_up (s := 1) (by decide) a q1 q2).trans ((fA_up (s := 0) (by decide) a q1 q2).trans (h2 a q1 q2))
    · exact (fB_up a q).trans ((fB_up a q).trans (h3 a q))
end VP
