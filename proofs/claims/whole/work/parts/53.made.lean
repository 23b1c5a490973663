/-! the worlds after the constructors -/
def gOf (g0 g1 : Nat → Nat) (G : Nat → Nat → Nat) (d : Nat) : Nat → Nat := if d = 0 then g0 else if d = 1 then g1 else G (d - 2)
def cPl (a b rd t f z h r : Nat) (gg : Nat → Nat → Nat) (q : Nat) : Nat := if q < 8 then ([a, b, rd, t, f, z, h, r] : List Nat).getD q 0 else gg ((q - 8) / 11) ((q - 8) % 11)
def cPos (q : Nat) : Nat := if q < 8 then ([0, 1, 2, 4, 5, 3, 28, 29] : List Nat).getD q 0 else if q < 30 then q - 2 else q
theorem cPos_inj {i j : Nat} (hi : i < 118) (hj : j < 118) (h : cPos i = cPos j) : i = j := by
  unfold cPos at h
  by_cases h1 : i < 8
  · by_cases h2 : j < 8
    · rw [if_pos h1, if_pos h2] at h
      rcases (show i = 0 ∨ i = 1 ∨ i = 2 ∨ i = 3 ∨ i = 4 ∨ i = 5 ∨ i = 6 ∨ i = 7 by omega) with rfl | rfl | rfl | rfl | rfl | rfl | rfl | rfl <;> rcases (show j = 0 ∨ j = 1 ∨ j = 2 ∨ j = 3 ∨ j = 4 ∨ j = 5 ∨ j = 6 ∨ j = 7 by omega) with rfl | rfl | rfl | rfl | rfl | rfl | rfl | rfl <;> first | rfl | exact absurd h (by decide)
    · rw [if_pos h1, if_neg h2] at h
      have h3 : ∀ q, q < 8 → ([0, 1, 2, 4, 5, 3, 28, 29] : List Nat).getD q 0 ≤ 5 ∨ ([0, 1, 2, 4, 5, 3, 28, 29] : List Nat).getD q 0 = 28 ∨ ([0, 1, 2, 4, 5, 3, 28, 29] : List Nat).getD q 0 = 29 := by decide
      have h4 := h3 i h1
      split at h <;> omega
  · by_cases h2 : j < 8
    · rw [if_neg h1, if_pos h2] at h
      have h3 : ∀ q, q < 8 → ([0, 1, 2, 4, 5, 3, 28, 29] : List Nat).getD q 0 ≤ 5 ∨ ([0, 1, 2, 4, 5, 3, 28, 29] : List Nat).getD q 0 = 28 ∨ ([0, 1, 2, 4, 5, 3, 28, 29] : List Nat).getD q 0 = 29 := by decide
      have h4 := h3 j h2
      split at h <;> omega
    · rw [if_neg h1, if_neg h2] at h
      split at h <;> split at h <;> omega
/-- the environment with the places at P -/
def enP (E : En) (P : Nat → Nat) : En := (E.1, E.2.1, E.2.2.1, P, E.2.2.2.2)
/-- a new component's fields -/
def cI0 : Nat → Nat → Int32 := up2 (up2 (up2 (fun _ _ => 0) 0 6 (-1)) 2 3 (-1)) 4 1 (-1)
def cX0 : St := (cI0, fun _ _ => 0, fun _ _ => 0)
theorem fm_at {E : En} {G : Nat → Nat → Nat} {k : Nat} (hk : k < 11) : ∀ n j, j < n → ((List.range n).flatMap (fun j => dWl E (G j)))[11 * j + k]? = some (G j k, dCt E (G j) k)
  | 0, j, h => absurd h (Nat.not_lt_zero j)
  | n + 1, j, h => by
    have hlen : ∀ n, ((List.range n).flatMap (fun j => dWl E (G j))).length = 11 * n := by
      intro n
      induction n with
      | zero => rfl
      | succ n ih =>
        rw [List.range_succ, List.flatMap_append, List.length_append, ih, List.flatMap_singleton]
        unfold dWl
        rw [fw_len]
        omega
    rw [List.range_succ, List.flatMap_append, List.flatMap_singleton]
    by_cases hj : j < n
    · rw [List.getElem?_append_left (by rw [hlen]; omega)]
      exact fm_at hk n j hj
    · obtain rfl : j = n := by omega
      rw [List.getElem?_append_right (by rw [hlen]; omega), hlen, show 11 * j + k - 11 * j = k by omega]
      exact fw_at hk
section CW
variable {E : En} {a b rd t f z h r : Nat} {g0 g1 : Nat → Nat} {G : Nat → Nat → Nat}
theorem cg_at {d k : Nat} (hd : d < 10) (hk : k < 11) : (cWl E a b rd t f z h r g0 g1 G)[cPos (dB d k)]? = some (gOf g0 g1 G d k, dCt E (gOf g0 g1 G d) k) := by
  unfold cPos dB
  rw [if_neg (by omega)]
  unfold cWl
  rcases (show d = 0 ∨ d = 1 ∨ 2 ≤ d by omega) with rfl | rfl | hd2
  · rw [if_pos (by omega), show 8 + 11 * 0 + k - 2 = 5 + k + 1 by omega, List.getElem?_cons_succ, List.getElem?_append_left (by simp [rWl, dWl, fw_len]; omega), List.getElem?_append_left (by simp [rWl, dWl, fw_len]; omega), List.getElem?_append_right (by simp [rWl])]
    rw [show 5 + k - (([(b, .inl (eT E 0, 700, .inl (fun _ => 0)))] : va_W) ++ rWl E rd b t f z).length = k by simp [rWl]]
    exact fw_at hk
  · rw [if_pos (by omega), show 8 + 11 * 1 + k - 2 = 16 + k + 1 by omega, List.getElem?_cons_succ, List.getElem?_append_left (by simp [rWl, dWl, fw_len]; omega), List.getElem?_append_right (by simp [rWl, dWl, fw_len])]
    rw [show 16 + k - ((([(b, .inl (eT E 0, 700, .inl (fun _ => 0)))] : va_W) ++ rWl E rd b t f z) ++ dWl E g0).length = k by simp [rWl, dWl, fw_len]]
    exact fw_at hk
  · rw [if_neg (by omega), show 8 + 11 * d + k = (27 + ((11 * (d - 2) + k) + 1 + 1)) + 1 by omega, List.getElem?_cons_succ, List.getElem?_append_right (by simp [rWl, dWl, fw_len])]
    rw [show 27 + ((11 * (d - 2) + k) + 1 + 1) - (((([(b, .inl (eT E 0, 700, .inl (fun _ => 0)))] : va_W) ++ rWl E rd b t f z) ++ dWl E g0) ++ dWl E g1).length = (11 * (d - 2) + k) + 1 + 1 by simp [rWl, dWl, fw_len]]
    unfold hWl
    rw [List.getElem?_cons_succ, List.getElem?_cons_succ, fm_at hk 8 (d - 2) (by omega)]
    unfold gOf
    rw [if_neg (by omega), if_neg (by omega)]
theorem cP_D {d k : Nat} {gg : Nat → Nat → Nat} (hk : k < 11) : cPl a b rd t f z h r gg (dB d k) = gg d k := by
  unfold cPl dB
  rw [if_neg (by omega), show (8 + 11 * d + k - 8) / 11 = d by omega, show (8 + 11 * d + k - 8) % 11 = k by omega]
theorem cI0_D {d k j : Nat} : cI0 (dB d k) j = 0 := by
  unfold cI0
  rw [up2_q (dB_nlo (by decide)), up2_q (dB_nlo (by decide)), up2_q (dB_nlo (by decide))]
theorem cl_D {d k : Nat} (hk : k < 11) : lay (enP E (cPl a b rd t f z h r (gOf g0 g1 G))) cK cX0 (dB d k) = dCt E (gOf g0 g1 G d) k := by
  have e2 : ∀ q : Nat, q + 2 ≤ 11 → (rfv (enP E (cPl a b rd t f z h r (gOf g0 g1 G))) 2 (fun j => dB d (q + j))) = (fun i => if i < 2 then some (gOf g0 g1 G d (q + i)) else none) := by
    intro q hq
    funext i
    unfold rfv
    by_cases hi : i < 2
    · rw [if_pos hi, if_pos hi]
      exact congrArg some (cP_D (by omega))
    · rw [if_neg hi, if_neg hi]
  unfold lay
  rw [cK_D hk]
  have eI : cX0.1 (dB d k) = fun _ => 0 := funext fun j => cI0_D
  rw [eI]
  have ep : ∀ j, j < 11 → eP (enP E (cPl a b rd t f z h r (gOf g0 g1 G))) (dB d j) = gOf g0 g1 G d j := fun j hj => cP_D hj
  rcases (show k = 0 ∨ k = 1 ∨ k = 2 ∨ k = 3 ∨ k = 4 ∨ k = 5 ∨ k = 6 ∨ k = 7 ∨ k = 8 ∨ k = 9 ∨ k = 10 by omega) with rfl | rfl | rfl | rfl | rfl | rfl | rfl | rfl | rfl | rfl | rfl
  · show (.inr (0, [.int 0, .ref (eP _ (dB d 1)), .ref (eP _ (dB d 4)), .int 0, .ref (eP _ (dB d 5)), .ref (eP _ (dB d 6)), .ref (eP _ (dB d 7)), .ref (eP _ (dB d 8))]) : va_E) = _
    rw [ep 1 (by decide), ep 4 (by decide), ep 5 (by decide), ep 6 (by decide), ep 7 (by decide), ep 8 (by decide)]
    rfl
  · show (.inl (eT E 5, 2, .inr (.inr (.inr (.inr (rfv _ 2 (fun j => dB d (2 + j))))))) : va_E) = _
    rw [e2 2 (by decide)]
    rfl
  · rfl
  · rfl
  · rfl
  · rfl
  · rfl
  · rfl
  · show (.inl (eT E 5, 2, .inr (.inr (.inr (.inr (rfv _ 2 (fun j => dB d (9 + j))))))) : va_E) = _
    rw [e2 9 (by decide)]
    rfl
  · rfl
  · rfl
theorem cq_at {q : Nat} (hq : q < cN) : (cWl E a b rd t f z h r g0 g1 G)[cPos q]? = some (cPl a b rd t f z h r (gOf g0 g1 G) q, lay (enP E (cPl a b rd t f z h r (gOf g0 g1 G))) cK cX0 q) := by
  have hq : q < 118 := hq
  by_cases h8 : q < 8
  · rcases (show q = 0 ∨ q = 1 ∨ q = 2 ∨ q = 3 ∨ q = 4 ∨ q = 5 ∨ q = 6 ∨ q = 7 by omega) with rfl | rfl | rfl | rfl | rfl | rfl | rfl | rfl
    · show some _ = some _
      have e0 : eP (enP E (cPl a b rd t f z h r (gOf g0 g1 G))) (dB 0 0) = g0 0 := cP_D (a := a) (b := b) (rd := rd) (t := t) (f := f) (z := z) (h := h) (r := r) (d := 0) (k := 0) (gg := gOf g0 g1 G) (by decide)
      have e1 : eP (enP E (cPl a b rd t f z h r (gOf g0 g1 G))) (dB 1 0) = g1 0 := cP_D (a := a) (b := b) (rd := rd) (t := t) (f := f) (z := z) (h := h) (r := r) (d := 1) (k := 0) (gg := gOf g0 g1 G) (by decide)
      show some (a, _) = some (a, (.inr (5, [.ref b, .ref rd, .ref (eP (enP E (cPl a b rd t f z h r (gOf g0 g1 G))) (dB 0 0)), .ref (eP (enP E (cPl a b rd t f z h r (gOf g0 g1 G))) (dB 1 0)), .ref h, .int 0, .int (-1)]) : va_E))
      rw [e0, e1]
    · rfl
    · rfl
    · rfl
    · rfl
    · rfl
    · rfl
    · show some (r, _) = some (r, (.inl (eT E 4, 8, .inr (.inr (.inr (.inr (rfv (enP E (cPl a b rd t f z h r (gOf g0 g1 G))) 8 (fun j => dB (2 + j) 0)))))) : va_E))
      have e : (rfv (enP E (cPl a b rd t f z h r (gOf g0 g1 G))) 8 (fun j => dB (2 + j) 0)) = (fun j => if j < 8 then some (G j 0) else none) := by
        funext j
        unfold rfv
        by_cases hj : j < 8
        · rw [if_pos hj, if_pos hj]
          have e2 : eP (enP E (cPl a b rd t f z h r (gOf g0 g1 G))) (dB (2 + j) 0) = gOf g0 g1 G (2 + j) 0 := cP_D (by decide)
          rw [e2]
          unfold gOf
          rw [if_neg (by omega), if_neg (by omega), Nat.add_sub_cancel_left]
        · rw [if_neg hj, if_neg hj]
      rw [e]
  · obtain ⟨d, k, hd, hk, rfl⟩ : ∃ d k, d < 10 ∧ k < 11 ∧ q = dB d k := ⟨(q - 8) / 11, (q - 8) % 11, by omega, by omega, by unfold dB; omega⟩
    rw [cg_at hd hk, cP_D hk, cl_D hk]
theorem cW_of {A : Nat → Prop} {H : Heap} (hP : va_P (eD E) vwCl (cWl E a b rd t f z h r g0 g1 G) H) (hD : va_D A (cWl E a b rd t f z h r g0 g1 G)) (hA : ∀ q, A q → eL E ≤ q) : Ev cN (enP E (cPl a b rd t f z h r (gOf g0 g1 G))) ∧ Wp cN (enP E (cPl a b rd t f z h r (gOf g0 g1 G))) cK cX0 H ∧ ∀ i, i < cN → A (cPl a b rd t f z h r (gOf g0 g1 G) i) := by
  refine ⟨⟨fun i j hi hj e => ?_, fun i hi => hA _ (hD.2 _ _ (cq_at hi))⟩, fun k q hk => ?_, fun i hi => hD.2 _ _ (cq_at hi)⟩
  · exact cPos_inj hi hj (hD.1 _ _ _ _ (cq_at hi) (cq_at hj) e)
  · obtain ⟨h1, rfl⟩ := fw_get hk
    exact hP _ _ (cq_at h1)
end CW
/-! the model's world -/
def mPl (a b da dr hi st ne : Nat) (r : Nat → Nat) (q : Nat) : Nat := ([a, b, da, dr, hi, r 0, r 1, r 2, r 3, r 4, r 5, r 6, r 7, st, ne] : List Nat).getD q 0
def mI0 : Nat → Nat → Int32 := up2 (fun _ _ => 0) 0 7 (-1)
def mX0 : St := (mI0, fun _ _ => 0, fun _ _ => 0)
section MW
variable {E : En} {a b da dr hi st ne : Nat} {r : Nat → Nat}
theorem mq_at {q : Nat} (hq : q < mN) : (mWl E a b da dr hi st ne r)[q]? = some (mPl a b da dr hi st ne r q, lay (enP E (mPl a b da dr hi st ne r)) mK mX0 q) := by
  have hq : q < 15 := hq
  rcases (show q = 0 ∨ q = 1 ∨ q = 2 ∨ q = 3 ∨ q = 4 ∨ q = 5 ∨ q = 6 ∨ q = 7 ∨ q = 8 ∨ q = 9 ∨ q = 10 ∨ q = 11 ∨ q = 12 ∨ q = 13 ∨ q = 14 by omega) with rfl | rfl | rfl | rfl | rfl | rfl | rfl | rfl | rfl | rfl | rfl | rfl | rfl | rfl | rfl
  · rfl
  · rfl
  · rfl
  · rfl
  · show some (hi, _) = some (hi, (.inl (eT E 5, 8, .inr (.inr (.inr (.inr (rfv (enP E (mPl a b da dr hi st ne r)) 8 (fun j => 5 + j)))))) : va_E))
    have e : (rfv (enP E (mPl a b da dr hi st ne r)) 8 (fun j => 5 + j)) = (fun i => if i < 8 then some (r i) else none) := by
      funext j
      unfold rfv
      by_cases hj : j < 8
      · rw [if_pos hj, if_pos hj]
        rcases (show j = 0 ∨ j = 1 ∨ j = 2 ∨ j = 3 ∨ j = 4 ∨ j = 5 ∨ j = 6 ∨ j = 7 by omega) with rfl | rfl | rfl | rfl | rfl | rfl | rfl | rfl <;> rfl
      · rw [if_neg hj, if_neg hj]
    rw [e]
  all_goals rfl
theorem mW_of {A : Nat → Prop} {H : Heap} (hP : va_P (eD E) vwCl (mWl E a b da dr hi st ne r) H) (hD : va_D A (mWl E a b da dr hi st ne r)) (hA : ∀ q, A q → eL E ≤ q) : Ev mN (enP E (mPl a b da dr hi st ne r)) ∧ Wp mN (enP E (mPl a b da dr hi st ne r)) mK mX0 H ∧ ∀ i, i < mN → A (mPl a b da dr hi st ne r i) := by
  refine ⟨⟨fun i j hi hj e => hD.1 _ _ _ _ (mq_at hi) (mq_at hj) e, fun i hi => hA _ (hD.2 _ _ (mq_at hi))⟩, fun k q hk => ?_, fun i hi => hD.2 _ _ (mq_at hi)⟩
  obtain ⟨h1, rfl⟩ := fw_get hk
  exact hP _ _ (mq_at h1)
end MW
