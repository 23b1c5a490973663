theorem mW_er3 {I J A : Nat → Nat → Int32} {T : Nat → Int32} {n : Nat} {y z : Tz} {k : Int32} (h : mW I A T n y) (hz : z.2 ≤ n) (h0 : z.1 = 0) (hk : ¬ k = 0) (e3 : J 0 3 = I 0 3) (e5 : J 0 5 = k) (e6 : J 0 6 = nI (tkB T n z.2)) : mW J A T n (zF k z) := by
  obtain ⟨⟨h1, h2, h3⟩, h4, h5, h6⟩ := h
  have e : (zF k z).1 = k := if_pos h0
  exact ⟨⟨e3.trans h1, h2, hz⟩, e5.trans e.symm, fun g => absurd (e.symm.trans g) hk, fun _ => e6⟩
theorem zF_b {k : Int32} {z : Tz} (h : ¬ z.1 = 0) : zF k z = z := by
  unfold zF
  rw [if_neg h]
theorem zNz_b {T : Nat → Int32} {n : Nat} {lo hi : Int32} {z : Tz} (h : ¬ z.1 = 0) : zNz T n lo hi z = z := by
  rw [zNz_f (decide_eq_false (fun q => h q.1)), zF_b h]
theorem zW_c {T : Nat → Int32} {n : Nat} {w : List Int32} {z : Tz} (h : ¬ z.1 = 0) : zW T n w z = false := decide_eq_false (fun q => h q.1)
theorem zPW_b {T : Nat → Int32} {n : Nat} {w : List Int32} {z : Tz} (h : ¬ z.1 = 0) : zPW T n w z = z := zPW_f (zW_c h)
theorem zA_b {T : Nat → Int32} {n : Nat} {z : Tz} (h : ¬ z.1 = 0) : zA T n z = z := by
  unfold zA
  rw [if_neg h]
theorem zNv_r {T : Nat → Int32} {n : Nat} {z : Tz} : ∃ k : Nat, k < 256 ∧ zNv T n 0 255 z = nI k := by
  unfold zNv
  split
  · split
    · exact ⟨0, by decide, rfl⟩
    · split
      · exact ⟨0, by decide, rfl⟩
      · rename_i h1 h2
        obtain ⟨j, hj, e⟩ := nI_of2 (x := tkV T n z.2) (M := 255) (n := 255) (by decide) h1 (Int32.not_lt.mp h2)
        exact ⟨j, by omega, e⟩
  · exact ⟨0, by decide, rfl⟩
theorem dark_eq {r g b : Int32} (hr : ∃ k : Nat, k < 256 ∧ r = nI k) (hg : ∃ k : Nat, k < 256 ∧ g = nI k) (hb : ∃ k : Nat, k < 256 ∧ b = nI k) : pMix (255 - r) (255 - g) (255 - b) = 16777215 - pMix r g b := by
  obtain ⟨i, hi, rfl⟩ := hr
  obtain ⟨j, hj, rfl⟩ := hg
  obtain ⟨k, hk, rfl⟩ := hb
  rw [show (255 : Int32) = nI 255 from rfl, show (16777215 : Int32) = nI 16777215 from rfl, pk_sub (a := 255) (b := i) (by omega), pk_sub (a := 255) (b := j) (by omega), pk_sub (a := 255) (b := k) (by omega), pMix_n, pMix_n, pk_sub (by omega)]
  congr 1
  omega
theorem vC_cv {T : Nat → Int32} {n : Nat} {z : Tz} : vC (zCv T n z) := vC_mix zNv_r zNv_r zNv_r
