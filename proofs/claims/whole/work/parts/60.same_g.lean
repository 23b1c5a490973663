/-! bytes -/
theorem b8 (x : Int32) : x.toInt8.toInt32 &&& 255 = x &&& 255 ∧ bt x.toInt8.toInt32 := by
  have hc : x.toInt8.toInt32.toInt = x.toInt.bmod 256 := by
    rw [Int8.toInt_toInt32, Int32.toInt_toInt8]
  have h1 : x.toInt = (x.toBitVec.toNat : Int).bmod 4294967296 := BitVec.toInt_eq_toNat_bmod x.toBitVec
  have h2 : x.toInt8.toInt32.toInt = (x.toInt8.toInt32.toBitVec.toNat : Int).bmod 4294967296 := BitVec.toInt_eq_toNat_bmod x.toInt8.toInt32.toBitVec
  have l1 : x.toBitVec.toNat < 4294967296 := x.toBitVec.isLt
  have l2 : x.toInt8.toInt32.toBitVec.toNat < 4294967296 := x.toInt8.toInt32.toBitVec.isLt
  rw [pk_and x 8 (by decide), pk_and x.toInt8.toInt32 8 (by decide)]
  generalize hN : x.toInt8.toInt32.toBitVec.toNat = N at h2 l2 ⊢
  generalize hM : x.toBitVec.toNat = M at h1 l1 ⊢
  have e : N % 2 ^ 8 = M % 2 ^ 8 := by
    rw [h1] at hc
    rw [hc] at h2
    unfold Int.bmod at h2
    simp only at h2
    split at h2 <;> split at h2 <;> split at h2 <;> omega
  refine ⟨by rw [e], M % 256, Nat.mod_lt _ (by decide), by rw [pk_and x.toInt8.toInt32 8 (by decide), hN, e], ?_⟩
  have hv : x.toInt8.toInt32.toInt = if M % 256 < 128 then (M % 256 : Int) else (M % 256 : Int) - 256 := by
    rw [hc, h1]
    unfold Int.bmod
    simp only
    split <;> split <;> split <;> omega
  by_cases g : M % 256 < 128
  · left
    refine ⟨g, Int32.toInt_inj.mp ?_⟩
    rw [hv, if_pos g, nI_toInt (by omega)]
    omega
  · right
    refine ⟨by omega, Int32.lt_iff_toInt_lt.mpr ?_⟩
    rw [hv, if_neg g]
    show _ < (0 : Int)
    omega
theorem cPut_at {A : Nat → Nat → Int32} {n j : Nat} {v : Int32} : cPut A n v 1 j = if j = n + 3 then v.toInt8.toInt32 else if j = n + 2 then bsh v 8 else if j = n + 1 then bsh v 16 else if j = n then bsh v 24 else A 1 j := by
  unfold cPut
  simp only [up2_at, true_and]
theorem cPut_ne {A : Nat → Nat → Int32} {n a : Nat} {v : Int32} (h : a ≠ 1) : cPut A n v a = A a := by
  unfold cPut
  rw [up2_row h, up2_row h, up2_row h, up2_row h]
theorem cApp_ne {A : Nat → Nat → Int32} {n a : Nat} {w0 w1 w2 w3 w4 : Int32} (h : a ≠ 1) : cApp A n w0 w1 w2 w3 w4 a = A a := by
  unfold cApp
  rw [cPut_ne h, cPut_ne h, cPut_ne h, cPut_ne h, cPut_ne h]
theorem shr_0 (x : Int32) : x >>> ((0 : Int32) &&& 31) = x := by
  refine Int32.toInt_inj.mp ?_
  rw [pk_shr x ((0 : Int32) &&& 31) 0 (by decide), Int.shiftRight_zero]
/-- the r-th byte of a word -/
def wB (v : Int32) (r : Nat) : Int32 := (v >>> (nI (24 - 8 * r) &&& 31)).toInt8.toInt32
theorem cPut_in {A : Nat → Nat → Int32} {n r : Nat} {v : Int32} (hr : r < 4) : cPut A n v 1 (n + r) = wB v r := by
  rw [cPut_at]
  rcases (show r = 0 ∨ r = 1 ∨ r = 2 ∨ r = 3 by omega) with rfl | rfl | rfl | rfl
  · rw [if_neg (by omega), if_neg (by omega), if_neg (by omega), if_pos (by omega)]
    rfl
  · rw [if_neg (by omega), if_neg (by omega), if_pos rfl]
    rfl
  · rw [if_neg (by omega), if_pos rfl]
    rfl
  · rw [if_pos rfl]
    show v.toInt8.toInt32 = (v >>> ((0 : Int32) &&& 31)).toInt8.toInt32
    rw [shr_0]
theorem cPut_out {A : Nat → Nat → Int32} {n j : Nat} {v : Int32} (h : j < n ∨ n + 4 ≤ j) : cPut A n v 1 j = A 1 j := by
  rw [cPut_at, if_neg (by omega), if_neg (by omega), if_neg (by omega), if_neg (by omega)]
theorem cApp_in {A : Nat → Nat → Int32} {n i : Nat} {w0 w1 w2 w3 w4 : Int32} (hi : i < 20) : cApp A n w0 w1 w2 w3 w4 1 (n + i) = wB (mWs w0 w1 w2 w3 w4 i) (i % 4) := by
  have hw : ∀ i, i < 20 → mWs w0 w1 w2 w3 w4 i = if i < 4 then w0 else if i < 8 then w1 else if i < 12 then w2 else if i < 16 then w3 else w4 := by
    intro i hi
    unfold mWs
    have c : ∀ m : Nat, m < 100 → ((nI m ≤ nI i) ↔ m ≤ i) := fun m hm => nI_leI (by omega) (by omega)
    rw [show (4 : Int32) = nI 4 from rfl, show (8 : Int32) = nI 8 from rfl, show (12 : Int32) = nI 12 from rfl, show (16 : Int32) = nI 16 from rfl]
    simp only [c 4 (by decide), c 8 (by decide), c 12 (by decide), c 16 (by decide)]
    by_cases g1 : i < 4
    · rw [if_pos g1, if_neg (by omega)]
    · rw [if_neg g1, if_pos (by omega)]
      by_cases g2 : i < 8
      · rw [if_pos g2, if_neg (by omega)]
      · rw [if_neg g2, if_pos (by omega)]
        by_cases g3 : i < 12
        · rw [if_pos g3, if_neg (by omega)]
        · rw [if_neg g3, if_pos (by omega)]
          by_cases g4 : i < 16
          · rw [if_pos g4, if_neg (by omega)]
          · rw [if_neg g4, if_pos (by omega)]
  rw [hw i hi]
  unfold cApp
  by_cases g1 : i < 4
  · rw [if_pos g1, cPut_out (by omega), cPut_out (by omega), cPut_out (by omega), cPut_out (by omega), cPut_in (by omega), Nat.mod_eq_of_lt g1]
  · rw [if_neg g1]
    by_cases g2 : i < 8
    · rw [if_pos g2, cPut_out (by omega), cPut_out (by omega), cPut_out (by omega), show n + i = n + 4 + i % 4 by omega, cPut_in (by omega)]
    · rw [if_neg g2]
      by_cases g3 : i < 12
      · rw [if_pos g3, cPut_out (by omega), cPut_out (by omega), show n + i = n + 8 + i % 4 by omega, cPut_in (by omega)]
      · rw [if_neg g3]
        by_cases g4 : i < 16
        · rw [if_pos g4, cPut_out (by omega), show n + i = n + 12 + i % 4 by omega, cPut_in (by omega)]
        · rw [if_neg g4, show n + i = n + 16 + i % 4 by omega, cPut_in (by omega)]
theorem cApp_lt {A : Nat → Nat → Int32} {n j : Nat} {w0 w1 w2 w3 w4 : Int32} (hj : j < n) : cApp A n w0 w1 w2 w3 w4 1 j = A 1 j := by
  unfold cApp
  rw [cPut_out (by omega), cPut_out (by omega), cPut_out (by omega), cPut_out (by omega), cPut_out (by omega)]
theorem mApp_at {B : Nat → Nat → Int32} {n : Nat} {w0 w1 w2 w3 w4 : Int32} : ∀ m a j, mApp B n w0 w1 w2 w3 w4 m a j = if a = 1 ∧ n ≤ j ∧ j < n + m then mBy w0 w1 w2 w3 w4 (j - n) else B a j
  | 0, a, j => by
    rw [if_neg (by omega)]
    rfl
  | m + 1, a, j => by
    show up2 (mApp B n w0 w1 w2 w3 w4 m) 1 (n + m) (mBy w0 w1 w2 w3 w4 m) a j = _
    rw [up2_at, mApp_at m a j]
    by_cases g : a = 1 ∧ j = n + m
    · obtain ⟨rfl, rfl⟩ := g
      rw [if_pos ⟨rfl, rfl⟩, if_pos ⟨rfl, by omega, by omega⟩, show n + m - n = m by omega]
    · rw [if_neg g]
      by_cases g2 : a = 1 ∧ n ≤ j ∧ j < n + m
      · rw [if_pos g2, if_pos ⟨g2.1, g2.2.1, by omega⟩]
      · rw [if_neg g2, if_neg (fun q => g2 ⟨q.1, q.2.1, by have := fun e => g ⟨q.1, e⟩; omega⟩)]
theorem mApp_ne {B : Nat → Nat → Int32} {n m a : Nat} {w0 w1 w2 w3 w4 : Int32} (h : a ≠ 1) : mApp B n w0 w1 w2 w3 w4 m a = B a := by
  funext j
  rw [mApp_at, if_neg (fun q => h q.1)]
theorem cpl_app {I A I' B J : Nat → Nat → Int32} {bl nx kp nr nu : Nat} {w0 w1 w2 w3 w4 : Int32} (h : cplX I A I' B bl nx kp nr nu) (hb : bl + 20 ≤ 700) (h2 : J 0 2 = nI (bl + 20)) (h7 : J 0 7 = I' 0 7) (h11 : J 0 11 = I' 0 11) : cplX (up2 I 0 5 (nI (bl + 20))) (cApp A bl w0 w1 w2 w3 w4) J (mApp B bl w0 w1 w2 w3 w4 20) (bl + 20) nx kp nr nu := by
  obtain ⟨⟨a1, a2, a3⟩, a4, ⟨a5, a6, a7, a8⟩, ⟨a9, a9b, a9c⟩, a10⟩ := h
  refine ⟨⟨up2_eq, h2, hb, fun q hq => ?_⟩, (up2_j (by decide)).trans (a4.trans h7.symm), ⟨a5, (up2_q (by decide)).trans a6, (up2_q (by decide)).trans a7, h11.trans a8⟩, ⟨(up2_q (by decide)).trans a9, (up2_q (by decide)).trans a9b, ?_, fun u hu s hs => ?_⟩, fun j hj => ?_⟩
  · rw [mApp_at]
    by_cases g : q < bl
    · rw [if_neg (by omega), cApp_lt g]
      exact a3.2 q g
    · obtain ⟨i, hi, rfl⟩ : ∃ i, i < 20 ∧ q = bl + i := ⟨q - bl, by omega, by omega⟩
      rw [if_pos ⟨rfl, by omega, by omega⟩, show bl + i - bl = i by omega, cApp_in hi]
      unfold wB mBy
      obtain ⟨e1, e2⟩ := b8 (mWs w0 w1 w2 w3 w4 i >>> (nI (24 - 8 * (i % 4)) &&& 31))
      exact ⟨e1.symm, e2⟩
  · rw [mApp_ne (by decide)]
    exact cD_A (fun k k1 k2 => cApp_ne (dB_nlo (by decide))) a9c.1
  · rw [mApp_ne (by decide), cApp_ne (dB_nlo (by decide))]
    exact a9c.2 u hu s hs
  · obtain ⟨nr2, nu2, g1, g2, g3⟩ := a10 j hj
    refine ⟨nr2, nu2, (up2_q (dB_nlo (by decide))).trans g1, (up2_q (dB_nlo (by decide))).trans g2, ?_⟩
    rw [mApp_ne (by omega)]
    exact cD_A (fun k k1 k2 => cApp_ne (dB_nlo (by decide))) g3
