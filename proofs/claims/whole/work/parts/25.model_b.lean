def mShd (A : Nat → Nat → Int32) (r s : Nat) (am : Int32) : Nat → Nat → Int32 := up2 A 2 (4 + 3 * r + s) (rShf (A 2 (4 + 3 * r + s)) am)
theorem mShd_back {A : Nat → Nat → Int32} {r s : Nat} {am : Int32} : up2 (mShd A r s am) 2 (4 + 3 * r + s) (A 2 (4 + 3 * r + s)) = A := up2_back
theorem rMax_n {a b : Nat} (ha : a < 2 ^ 31) (hb : b < 2 ^ 31) : rMax (nI a) (nI b) = nI (max a b) := by
  unfold rMax
  by_cases h : b < a
  · rw [if_pos (nI_lt h ha), Nat.max_eq_left (by omega)]
  · rw [if_neg (nI_nlt (by omega) hb), Nat.max_eq_right (by omega)]
theorem pHeld_n (v : Int32) : ∃ k : Nat, k < 256 ∧ pHeld v = nI k := by
  unfold pHeld rMax rMin
  by_cases h : 255 < v
  · rw [if_pos h]
    exact ⟨255, by decide, by decide⟩
  · rw [if_neg h]
    by_cases h0 : v < 0
    · rw [if_pos h0]
      exact ⟨0, by decide, rfl⟩
    · rw [if_neg h0]
      obtain ⟨j, hj, rfl⟩ := nI_of2 (x := v) (M := 255) (n := 255) (by decide) h0 (Int32.not_lt.mp h)
      exact ⟨j, by omega, rfl⟩
theorem pMix_n {r g b : Nat} : pMix (nI r) (nI g) (nI b) = nI (65536 * r + 256 * g + b) := by
  unfold pMix
  rw [show (65536 : Int32) = nI 65536 from rfl, show (256 : Int32) = nI 256 from rfl, pk_mul, pk_mul, nI_add, nI_add]
theorem vC_n {k : Nat} (h : k < 16777216) : vC (nI k) := ⟨nI_pos' (by omega), nI_le (b := 16777215) (by omega) (by decide)⟩
theorem vC_mix {r g b : Int32} (hr : ∃ k : Nat, k < 256 ∧ r = nI k) (hg : ∃ k : Nat, k < 256 ∧ g = nI k) (hb : ∃ k : Nat, k < 256 ∧ b = nI k) : vC (pMix r g b) := by
  obtain ⟨i, hi, rfl⟩ := hr
  obtain ⟨j, hj, rfl⟩ := hg
  obtain ⟨k, hk, rfl⟩ := hb
  rw [pMix_n]
  exact vC_n (by omega)
theorem vC_shf (c d : Int32) : vC (rShf c d) := vC_mix (pHeld_n _) (pHeld_n _) (pHeld_n _)
theorem MOk_col {A : Nat → Nat → Int32} {nr nu r s : Nat} {v : Int32} (hr : r < 10) (hs : s < 2) (hv : vC v) (h : MOk A nr nu) : MOk (up2 A 2 (4 + 3 * r + s) v) nr nu := by
  obtain ⟨h1, ⟨h2, h3⟩, h4, h5⟩ := h
  have e0 : up2 A 2 (4 + 3 * r + s) v 2 0 = A 2 0 := up2_j (by omega)
  have e1 : up2 A 2 (4 + 3 * r + s) v 2 1 = A 2 1 := up2_j (by omega)
  have e2 : ∀ u, up2 A 2 (4 + 3 * r + s) v 2 (34 + 4 * u + 1) = A 2 (34 + 4 * u + 1) := fun u => up2_j (by omega)
  have e3 : ∀ u, up2 A 2 (4 + 3 * r + s) v 2 (34 + 4 * u + 2) = A 2 (34 + 4 * u + 2) := fun u => up2_j (by omega)
  refine ⟨h1, ⟨e0.trans h2, e1.trans h3⟩, fun u hu => ?_, fun q hq t ht => ?_⟩
  · unfold mF mG
    rw [e2, e3]
    exact h4 u hu
  · unfold mCol
    by_cases e : 4 + 3 * q + t = 4 + 3 * r + s
    · rw [e, up2_eq]
      exact hv
    · rw [up2_j e]
      exact h5 q hq t ht
theorem MOk_shd {A : Nat → Nat → Int32} {nr nu r s : Nat} {am : Int32} (hr : r < 10) (hs : s < 2) (h : MOk A nr nu) : MOk (mShd A r s am) nr nu := MOk_col hr hs (vC_shf _ _) h
def mTry (A : Nat → Nat → Int32) (u s nu r : Nat) (am many : Int32) : Bool := decide (¬ A 2 (4 + 3 * r + 2) = 1 ∧ mVi (mShd A r s am) u s = 0 ∧ mVio (mShd A r s am) s nu < many)
def mPut (I : Nat → Nat → Int32) (q : Option (Int32 × Nat)) : Nat → Nat → Int32 := match q with
  | none => I
  | some w => up2 (up2 I 0 17 w.1) 0 18 (nI w.2)
def mIf (b : Bool) (am : Int32) (r : Nat) : Option (Int32 × Nat) := if b = true then some (am, r) else none
theorem mIf_t {b : Bool} {am : Int32} {r : Nat} (h : b = true) : mIf b am r = some (am, r) := if_pos h
theorem mIf_f {b : Bool} {am : Int32} {r : Nat} (h : b = false) : mIf b am r = none := if_neg (ne_t h)
/-- the shifts of an amount, both ways, of both roles -/
def mFnd (A : Nat → Nat → Int32) (u s nu : Nat) : Nat → Nat → Option (Int32 × Nat)
  | 0, _ => none
  | k + 1, d => if mTry A u s nu (mF A u) (nI d) (mVio A s nu) = true then some (nI d, mF A u) else if mTry A u s nu (mG A u) (nI d) (mVio A s nu) = true then some (nI d, mG A u) else if mTry A u s nu (mF A u) (-nI d) (mVio A s nu) = true then some (-nI d, mF A u) else if mTry A u s nu (mG A u) (-nI d) (mVio A s nu) = true then some (-nI d, mG A u) else mFnd A u s nu k (d + 1)
def mBst (A : Nat → Nat → Int32) (u s nu : Nat) : Option (Int32 × Nat) := mFnd A u s nu 255 1
section MF
variable {A : Nat → Nat → Int32} {u s nu k d : Nat}
theorem mFnd_1 (h1 : mTry A u s nu (mF A u) (nI d) (mVio A s nu) = true) : mFnd A u s nu (k + 1) d = some (nI d, mF A u) := by
  unfold mFnd
  rw [if_pos h1]
theorem mFnd_2 (h1 : mTry A u s nu (mF A u) (nI d) (mVio A s nu) = false) (h2 : mTry A u s nu (mG A u) (nI d) (mVio A s nu) = true) : mFnd A u s nu (k + 1) d = some (nI d, mG A u) := by
  unfold mFnd
  rw [if_neg (ne_t h1), if_pos h2]
theorem mFnd_3 (h1 : mTry A u s nu (mF A u) (nI d) (mVio A s nu) = false) (h2 : mTry A u s nu (mG A u) (nI d) (mVio A s nu) = false) (h3 : mTry A u s nu (mF A u) (-nI d) (mVio A s nu) = true) : mFnd A u s nu (k + 1) d = some (-nI d, mF A u) := by
  unfold mFnd
  rw [if_neg (ne_t h1), if_neg (ne_t h2), if_pos h3]
theorem mFnd_4 (h1 : mTry A u s nu (mF A u) (nI d) (mVio A s nu) = false) (h2 : mTry A u s nu (mG A u) (nI d) (mVio A s nu) = false) (h3 : mTry A u s nu (mF A u) (-nI d) (mVio A s nu) = false) (h4 : mTry A u s nu (mG A u) (-nI d) (mVio A s nu) = true) : mFnd A u s nu (k + 1) d = some (-nI d, mG A u) := by
  unfold mFnd
  rw [if_neg (ne_t h1), if_neg (ne_t h2), if_neg (ne_t h3), if_pos h4]
theorem mFnd_5 (h1 : mTry A u s nu (mF A u) (nI d) (mVio A s nu) = false) (h2 : mTry A u s nu (mG A u) (nI d) (mVio A s nu) = false) (h3 : mTry A u s nu (mF A u) (-nI d) (mVio A s nu) = false) (h4 : mTry A u s nu (mG A u) (-nI d) (mVio A s nu) = false) : mFnd A u s nu (k + 1) d = mFnd A u s nu k (d + 1) := by
  rw [mFnd, if_neg (ne_t h1), if_neg (ne_t h2), if_neg (ne_t h3), if_neg (ne_t h4)]
end MF
def isS {α : Type} (q : Option α) : Bool := match q with
  | none => false
  | some _ => true
set_option maxHeartbeats 1000000 in
set_option maxRecDepth 100000 in
theorem c_X7_mends (l : Launch) (E : En) (I A : Nat → Nat → Int32) (K : Nat → Nat → Int64) (u sc r : Nat) (am many : Int32) (nr nu : Nat) (hE : Ev mN E) (hM : MOk A nr nu) (hu : u < nu) (hsc : sc < 2) (hr : r < nr) : Met l yX7_mends (wz yX7_mends cX7_mends 9 (some .boolean)) (rmk 7 0 0 155) (va_Pc [.ref (eP E 0), .int (nI u), .int (nI sc), .int (nI r), .int am, .int many] (Bw mN E mK (I, A, K))) (qWi mN E mK (fun zz uu => zz = bI (mTry A u sc nu r am many) ∧ uu = (mPut I (mIf (mTry A u sc nu r am many) am r), A, K))) 0 0 (cA mN E) := by
  refine en_ofW RX7 rfl (by decide +kernel) (Nat.le_of_ble_eq_true rfl) ?_
  intro p e s m below meth c ls S hr hlk hnm hl hB
  have hx := S.1
  have hb := S.2.1
  obtain ⟨hK, hC, hP⟩ := hB
  have hS : va_S (cA mN E) s.heap s.heap [] := va_S.rf
  have hl : lv_has ls 9 [(0, .ref (eP E 0)), (1, .int (nI u)), (2, .int (nI sc)), (3, .int (nI r)), (4, .int am), (5, .int many)] := hl
  obtain ⟨⟨hn1, hn2⟩, ⟨hr0, hr1⟩, hu3, hcv⟩ := id hM
  refine lv_aload_n hx hb dX7_mends_0 rfl (lv_at hl 0 rfl) ?_
  refine rw_getr (x := (I, A, K)) S hK hP 0 (by decide) rfl fk_X7_17 rfl dX7_mends_1 ?_
  refine lv_iload_n hx hb dX7_mends_4 rfl (lv_at hl 3 rfl) ?_
  refine cn_si (ck_S S lk_X7_136 (c_X7_roleN l r) ⟨rfl, rfl⟩ ⟨Nat.le_of_ble_eq_true rfl, Nat.le_of_ble_eq_true rfl⟩ bl_T t_U rfl hl.1 (Nat.le_of_ble_eq_true rfl) ⟨Nat.le_refl _, Nat.le_refl _⟩ dX7_mends_5 rfl) (fun r1 g2 => ?_)
  obtain rfl : r1 = nI (4 + 3 * r) := g2
  refine lv_iconst (v := 2) hx hb dX7_mends_8 (by decide) ?_
  refine lv_iadd hx hb dX7_mends_9 ?_
  refine tp_i (y := nI ((4 + 3 * r) + 2)) (nI_add (4 + 3 * r) 2) ?_
  refine rw_iald (x := (I, A, K)) (v := A 2 ((4 + 3 * r) + 2)) S hK hP 2 (by decide) rfl ((4 + 3 * r) + 2) rfl (by omega) (by decide) rfl dX7_mends_10 ?_
  refine lv_iconst (v := 1) hx hb dX7_mends_11 (by decide) ?_
  refine lv_icmp_ne (tgt := 17) hx hb dX7_mends_12 (by decide) (fun h12 => ?_) (fun h12 => ?_)
  · refine lv_iload_n hx hb dX7_mends_17 rfl (lv_at hl 3 rfl) ?_
    refine cn_si (ck_S S lk_X7_136 (c_X7_roleN l r) ⟨rfl, rfl⟩ ⟨Nat.le_of_ble_eq_true rfl, Nat.le_of_ble_eq_true rfl⟩ bl_T t_U rfl hl.1 (Nat.le_of_ble_eq_true rfl) ⟨Nat.le_refl _, Nat.le_refl _⟩ dX7_mends_18 rfl) (fun r3 g4 => ?_)
    obtain rfl : r3 = nI (4 + 3 * r) := g4
    refine lv_iload_n hx hb dX7_mends_21 rfl (lv_at hl 2 rfl) ?_
    refine lv_iadd hx hb dX7_mends_22 ?_
    refine tp_i (y := nI ((4 + 3 * r) + sc)) (nI_add (4 + 3 * r) sc) ?_
    refine lv_istore (lv' := [(6, .int (nI ((4 + 3 * r) + sc))), (0, .ref (eP E 0)), (1, .int (nI u)), (2, .int (nI sc)), (3, .int (nI r)), (4, .int am), (5, .int many)]) hx hb dX7_mends_23 hl (by decide) rfl (fun ls hl => ?_)
    refine lv_aload_n hx hb dX7_mends_25 rfl (lv_at hl 1 rfl) ?_
    refine rw_getr (x := (I, A, K)) S hK hP 0 (by decide) rfl fk_X7_17 rfl dX7_mends_26 ?_
    refine lv_iload hx hb dX7_mends_29 (lv_at hl 0 rfl) ?_
    refine rw_iald (x := (I, A, K)) (v := A 2 ((4 + 3 * r) + sc)) S hK hP 2 (by decide) rfl ((4 + 3 * r) + sc) rfl (by omega) (by decide) rfl dX7_mends_31 ?_
    refine lv_istore (lv' := [(7, .int (A 2 ((4 + 3 * r) + sc))), (6, .int (nI ((4 + 3 * r) + sc))), (0, .ref (eP E 0)), (1, .int (nI u)), (2, .int (nI sc)), (3, .int (nI r)), (4, .int am), (5, .int many)]) hx hb dX7_mends_32 hl (by decide) rfl (fun ls hl => ?_)
    refine lv_aload_n hx hb dX7_mends_34 rfl (lv_at hl 2 rfl) ?_
    refine rw_getr (x := (I, A, K)) S hK hP 0 (by decide) rfl fk_X7_17 rfl dX7_mends_35 ?_
    refine lv_iload hx hb dX7_mends_38 (lv_at hl 1 rfl) ?_
    refine lv_iload hx hb dX7_mends_40 (lv_at hl 0 rfl) ?_
    refine lv_iload hx hb dX7_mends_42 (lv_at hl 6 rfl) ?_
    refine cn_si (ck_S S lk_X7_242 (c_X7_shifted l (A 2 ((4 + 3 * r) + sc)) am) ⟨rfl, rfl⟩ ⟨Nat.le_of_ble_eq_true rfl, Nat.le_of_ble_eq_true rfl⟩ bl_T t_U rfl hl.1 (Nat.le_of_ble_eq_true rfl) ⟨Nat.le_refl _, Nat.le_refl _⟩ dX7_mends_44 rfl) (fun r5 g6 => ?_)
    obtain rfl : r5 = rShf (A 2 ((4 + 3 * r) + sc)) am := g6
    refine rw_iast (x := (I, A, K)) (v := (rShf (A 2 ((4 + 3 * r) + sc)) am)) S hE hK hP hS 2 (by decide) rfl ((4 + 3 * r) + sc) rfl (by omega) (by decide) dX7_mends_47 (fun H locs hP hS => ?_)
    have hP : Wp mN E mK (I, (up2 A 2 ((4 + 3 * r) + sc) (rShf (A 2 ((4 + 3 * r) + sc)) am)), K) H := hP
    have hP : Wp mN E mK (I, (mShd A r sc am), K) H := hP
    have hM2 : MOk (mShd A r sc am) nr nu := MOk_shd (by omega) hsc hM
    refine lv_aload_n hx hb dX7_mends_48 rfl (lv_at hl 2 rfl) ?_
    refine lv_iload_n hx hb dX7_mends_49 rfl (lv_at hl 3 rfl) ?_
    refine lv_iload_n hx hb dX7_mends_50 rfl (lv_at hl 4 rfl) ?_
    refine cn_si (ck_V (a := eP E 0) S lk_X7_238 (c_X7_isViolated l E I (mShd A r sc am) K u sc nr nu hE hM2 hu hsc) ⟨rfl, rfl⟩ ⟨Nat.le_of_ble_eq_true rfl, Nat.le_of_ble_eq_true rfl⟩ bl_w (rc_w hK hP 0 (by decide) rfl rfl) (bw_U hE hK hC hP hS) rfl hl.1 (Nat.le_of_ble_eq_true rfl) ⟨Nat.le_refl _, Nat.le_refl _⟩ dX7_mends_51 rfl) (fun r7 g8 => ?_)
    obtain rfl : r7 = mVi (mShd A r sc am) u sc := g8
    refine lv_if_ne (tgt := 71) hx hb dX7_mends_54 (by decide) (fun h54 => ?_) (fun h54 => ?_)
    · refine lv_iconst (v := 0) hx hb dX7_mends_71 (by decide) ?_
      refine lv_istore (lv' := [(8, .int 0), (7, .int (A 2 ((4 + 3 * r) + sc))), (6, .int (nI ((4 + 3 * r) + sc))), (0, .ref (eP E 0)), (1, .int (nI u)), (2, .int (nI sc)), (3, .int (nI r)), (4, .int am), (5, .int many)]) hx hb dX7_mends_72 hl (by decide) rfl (fun ls hl => ?_)
      refine lv_aload_n hx hb dX7_mends_74 rfl (lv_at hl 3 rfl) ?_
      refine rw_getr (x := (I, (mShd A r sc am), K)) S hK hP 0 (by decide) rfl fk_X7_17 rfl dX7_mends_75 ?_
      refine lv_iload hx hb dX7_mends_78 (lv_at hl 2 rfl) ?_
      refine lv_iload hx hb dX7_mends_80 (lv_at hl 1 rfl) ?_
      refine rw_iast (x := (I, (mShd A r sc am), K)) (v := A 2 ((4 + 3 * r) + sc)) S hE hK hP hS 2 (by decide) rfl ((4 + 3 * r) + sc) rfl (by omega) (by decide) dX7_mends_82 (fun H locs hP hS => ?_)
      have hP : Wp mN E mK (I, (up2 (mShd A r sc am) 2 ((4 + 3 * r) + sc) (A 2 ((4 + 3 * r) + sc))), K) H := hP
      rw [mShd_back] at hP
      have hP : Wp mN E mK (I, A, K) H := hP
      refine lv_iload hx hb dX7_mends_83 (lv_at hl 0 rfl) ?_
      refine lv_if_eq (tgt := 99) hx hb dX7_mends_85 (by decide) (fun h85 => ?_) (fun h85 => absurd (by decide) h85)
      refine lv_iload hx hb dX7_mends_99 (lv_at hl 0 rfl) ?_
      exact re_wz (x := (I, A, K)) (v := 0) hx hb hr hlk rfl hP hS (by rw [show mTry A u sc nu r am many = false from decide_eq_false (fun q => h54 q.2.1)]; exact ⟨rfl, rfl⟩) dX7_mends_101
    · refine lv_aload_n hx hb dX7_mends_57 rfl (lv_at hl 2 rfl) ?_
      refine lv_iload_n hx hb dX7_mends_58 rfl (lv_at hl 4 rfl) ?_
      refine cn_si (ck_V (a := eP E 0) S lk_X7_245 (c_X7_violatedIn l E I (mShd A r sc am) K sc nr nu hE hM2 hsc) ⟨rfl, rfl⟩ ⟨Nat.le_of_ble_eq_true rfl, Nat.le_of_ble_eq_true rfl⟩ bl_w (rc_w hK hP 0 (by decide) rfl rfl) (bw_U hE hK hC hP hS) rfl hl.1 (Nat.le_of_ble_eq_true rfl) ⟨Nat.le_refl _, Nat.le_refl _⟩ dX7_mends_59 rfl) (fun r9 g10 => ?_)
      obtain rfl : r9 = mVio (mShd A r sc am) sc nu := g10
      refine lv_iload hx hb dX7_mends_62 (lv_at hl 7 rfl) ?_
      refine lv_icmp_ge (tgt := 71) hx hb dX7_mends_64 (by decide) (fun h64 => ?_) (fun h64 => ?_)
      · refine lv_iconst (v := 0) hx hb dX7_mends_71 (by decide) ?_
        refine lv_istore (lv' := [(8, .int 0), (7, .int (A 2 ((4 + 3 * r) + sc))), (6, .int (nI ((4 + 3 * r) + sc))), (0, .ref (eP E 0)), (1, .int (nI u)), (2, .int (nI sc)), (3, .int (nI r)), (4, .int am), (5, .int many)]) hx hb dX7_mends_72 hl (by decide) rfl (fun ls hl => ?_)
        refine lv_aload_n hx hb dX7_mends_74 rfl (lv_at hl 3 rfl) ?_
        refine rw_getr (x := (I, (mShd A r sc am), K)) S hK hP 0 (by decide) rfl fk_X7_17 rfl dX7_mends_75 ?_
        refine lv_iload hx hb dX7_mends_78 (lv_at hl 2 rfl) ?_
        refine lv_iload hx hb dX7_mends_80 (lv_at hl 1 rfl) ?_
        refine rw_iast (x := (I, (mShd A r sc am), K)) (v := A 2 ((4 + 3 * r) + sc)) S hE hK hP hS 2 (by decide) rfl ((4 + 3 * r) + sc) rfl (by omega) (by decide) dX7_mends_82 (fun H locs hP hS => ?_)
        have hP : Wp mN E mK (I, (up2 (mShd A r sc am) 2 ((4 + 3 * r) + sc) (A 2 ((4 + 3 * r) + sc))), K) H := hP
        rw [mShd_back] at hP
        have hP : Wp mN E mK (I, A, K) H := hP
        refine lv_iload hx hb dX7_mends_83 (lv_at hl 0 rfl) ?_
        refine lv_if_eq (tgt := 99) hx hb dX7_mends_85 (by decide) (fun h85 => ?_) (fun h85 => absurd (by decide) h85)
        refine lv_iload hx hb dX7_mends_99 (lv_at hl 0 rfl) ?_
        exact re_wz (x := (I, A, K)) (v := 0) hx hb hr hlk rfl hP hS (by rw [show mTry A u sc nu r am many = false from decide_eq_false (fun q => absurd q.2.2 (n_lt h64))]; exact ⟨rfl, rfl⟩) dX7_mends_101
      · refine lv_iconst (v := 1) hx hb dX7_mends_67 (by decide) ?_
        refine lv_goto (tgt := 72) hx hb dX7_mends_68 (by decide) ?_
        refine lv_istore (lv' := [(8, .int 1), (7, .int (A 2 ((4 + 3 * r) + sc))), (6, .int (nI ((4 + 3 * r) + sc))), (0, .ref (eP E 0)), (1, .int (nI u)), (2, .int (nI sc)), (3, .int (nI r)), (4, .int am), (5, .int many)]) hx hb dX7_mends_72 hl (by decide) rfl (fun ls hl => ?_)
        refine lv_aload_n hx hb dX7_mends_74 rfl (lv_at hl 3 rfl) ?_
        refine rw_getr (x := (I, (mShd A r sc am), K)) S hK hP 0 (by decide) rfl fk_X7_17 rfl dX7_mends_75 ?_
        refine lv_iload hx hb dX7_mends_78 (lv_at hl 2 rfl) ?_
        refine lv_iload hx hb dX7_mends_80 (lv_at hl 1 rfl) ?_
        refine rw_iast (x := (I, (mShd A r sc am), K)) (v := A 2 ((4 + 3 * r) + sc)) S hE hK hP hS 2 (by decide) rfl ((4 + 3 * r) + sc) rfl (by omega) (by decide) dX7_mends_82 (fun H locs hP hS => ?_)
        have hP : Wp mN E mK (I, (up2 (mShd A r sc am) 2 ((4 + 3 * r) + sc) (A 2 ((4 + 3 * r) + sc))), K) H := hP
        rw [mShd_back] at hP
        have hP : Wp mN E mK (I, A, K) H := hP
        refine lv_iload hx hb dX7_mends_83 (lv_at hl 0 rfl) ?_
        refine lv_if_eq (tgt := 99) hx hb dX7_mends_85 (by decide) (fun h85 => absurd h85 (by decide)) (fun h85 => ?_)
        refine lv_aload_n hx hb dX7_mends_88 rfl (lv_at hl 3 rfl) ?_
        refine lv_iload hx hb dX7_mends_89 (lv_at hl 7 rfl) ?_
        refine rw_puti (x := (I, A, K)) (v := am) S hE hK hP hS 0 (by decide) rfl fk_X7_248 rfl tyX7_ok nmX7 ⟨rfl, by decide +kernel⟩ dX7_mends_91 (fun H locs hP hS => ?_)
        have hP : Wp mN E mK ((up2 I 0 17 am), A, K) H := hP
        refine lv_aload_n hx hb dX7_mends_94 rfl (lv_at hl 3 rfl) ?_
        refine lv_iload_n hx hb dX7_mends_95 rfl (lv_at hl 6 rfl) ?_
        refine rw_puti (x := ((up2 I 0 17 am), A, K)) (v := nI r) S hE hK hP hS 0 (by decide) rfl fk_X7_251 rfl tyX7_ok nmX7 ⟨rfl, by decide +kernel⟩ dX7_mends_96 (fun H locs hP hS => ?_)
        have hP : Wp mN E mK ((up2 (up2 I 0 17 am) 0 18 (nI r)), A, K) H := hP
        refine lv_iload hx hb dX7_mends_99 (lv_at hl 0 rfl) ?_
        exact re_wz (x := ((up2 (up2 I 0 17 am) 0 18 (nI r)), A, K)) (v := 1) hx hb hr hlk rfl hP hS (by rw [show mTry A u sc nu r am many = true from decide_eq_true ⟨h12, h54, l_lt h64⟩]; exact ⟨rfl, rfl⟩) dX7_mends_101
  · refine lv_iconst (v := 0) hx hb dX7_mends_15 (by decide) ?_
    exact re_wz (x := (I, A, K)) (v := 0) hx hb hr hlk rfl hP hS (by rw [show mTry A u sc nu r am many = false from decide_eq_false (fun q => q.1 h12)]; exact ⟨rfl, rfl⟩) dX7_mends_16

set_option maxHeartbeats 1000000 in
set_option maxRecDepth 100000 in
theorem c_X7_findShift (l : Launch) (E : En) (I A : Nat → Nat → Int32) (K : Nat → Nat → Int64) (u sc nr nu : Nat) (hE : Ev mN E) (hM : MOk A nr nu) (hu : u < nu) (hsc : sc < 2) : Met l yX7_findShift (wz yX7_findShift cX7_findShift 7 (some .boolean)) (rmk 8 0 0 183) (va_Pc [.ref (eP E 0), .int (nI u), .int (nI sc)] (Bw mN E mK (I, A, K))) (qWi mN E mK (fun zz uu => zz = bI (isS (mBst A u sc nu)) ∧ uu = (mPut I (mBst A u sc nu), A, K))) 0 0 (cA mN E) := by
  refine en_ofW RX7 rfl (by decide +kernel) (Nat.le_of_ble_eq_true rfl) ?_
  intro p e s m below meth c ls S hr hlk hnm hl hB
  have hx := S.1
  have hb := S.2.1
  obtain ⟨hK, hC, hP⟩ := hB
  have hS : va_S (cA mN E) s.heap s.heap [] := va_S.rf
  have hl : lv_has ls 7 [(0, .ref (eP E 0)), (1, .int (nI u)), (2, .int (nI sc))] := hl
  obtain ⟨⟨hn1, hn2⟩, ⟨hr0, hr1⟩, hu3, hcv⟩ := id hM
  obtain ⟨⟨f1, f2⟩, ⟨g1, g2⟩⟩ := hu3 u hu
  refine lv_aload_n hx hb dX7_findShift_0 rfl (lv_at hl 0 rfl) ?_
  refine rw_getr (x := (I, A, K)) S hK hP 0 (by decide) rfl fk_X7_17 rfl dX7_findShift_1 ?_
  refine lv_iload_n hx hb dX7_findShift_4 rfl (lv_at hl 1 rfl) ?_
  refine cn_si (ck_S S lk_X7_139 (c_X7_ruleN l u) ⟨rfl, rfl⟩ ⟨Nat.le_of_ble_eq_true rfl, Nat.le_of_ble_eq_true rfl⟩ bl_T t_U rfl hl.1 (Nat.le_of_ble_eq_true rfl) ⟨Nat.le_refl _, Nat.le_refl _⟩ dX7_findShift_5 rfl) (fun r1 g2 => ?_)
  obtain rfl : r1 = nI (34 + 4 * u) := g2
  refine lv_iconst (v := 1) hx hb dX7_findShift_8 (by decide) ?_
  refine lv_iadd hx hb dX7_findShift_9 ?_
  refine tp_i (y := nI ((34 + 4 * u) + 1)) (nI_add (34 + 4 * u) 1) ?_
  refine rw_iald (x := (I, A, K)) (v := nI (mF A u)) S hK hP 2 (by decide) rfl ((34 + 4 * u) + 1) rfl (by omega) (by decide) f1 dX7_findShift_10 ?_
  refine lv_istore_n (lv' := [(3, .int (nI (mF A u))), (0, .ref (eP E 0)), (1, .int (nI u)), (2, .int (nI sc))]) hx hb dX7_findShift_11 rfl hl (by decide) rfl (fun ls hl => ?_)
  refine lv_aload_n hx hb dX7_findShift_12 rfl (lv_at hl 1 rfl) ?_
  refine rw_getr (x := (I, A, K)) S hK hP 0 (by decide) rfl fk_X7_17 rfl dX7_findShift_13 ?_
  refine lv_iload_n hx hb dX7_findShift_16 rfl (lv_at hl 2 rfl) ?_
  refine cn_si (ck_S S lk_X7_139 (c_X7_ruleN l u) ⟨rfl, rfl⟩ ⟨Nat.le_of_ble_eq_true rfl, Nat.le_of_ble_eq_true rfl⟩ bl_T t_U rfl hl.1 (Nat.le_of_ble_eq_true rfl) ⟨Nat.le_refl _, Nat.le_refl _⟩ dX7_findShift_17 rfl) (fun r3 g4 => ?_)
  obtain rfl : r3 = nI (34 + 4 * u) := g4
  refine lv_iconst (v := 2) hx hb dX7_findShift_20 (by decide) ?_
  refine lv_iadd hx hb dX7_findShift_21 ?_
  refine tp_i (y := nI ((34 + 4 * u) + 2)) (nI_add (34 + 4 * u) 2) ?_
  refine rw_iald (x := (I, A, K)) (v := nI (mG A u)) S hK hP 2 (by decide) rfl ((34 + 4 * u) + 2) rfl (by omega) (by decide) g1 dX7_findShift_22 ?_
  refine lv_istore (lv' := [(4, .int (nI (mG A u))), (3, .int (nI (mF A u))), (0, .ref (eP E 0)), (1, .int (nI u)), (2, .int (nI sc))]) hx hb dX7_findShift_23 hl (by decide) rfl (fun ls hl => ?_)
  refine lv_aload_n hx hb dX7_findShift_25 rfl (lv_at hl 2 rfl) ?_
  refine lv_iload_n hx hb dX7_findShift_26 rfl (lv_at hl 4 rfl) ?_
  refine cn_si (ck_V (a := eP E 0) S lk_X7_245 (c_X7_violatedIn l E I A K sc nr nu hE hM hsc) ⟨rfl, rfl⟩ ⟨Nat.le_of_ble_eq_true rfl, Nat.le_of_ble_eq_true rfl⟩ bl_w (rc_w hK hP 0 (by decide) rfl rfl) (bw_U hE hK hC hP hS) rfl hl.1 (Nat.le_of_ble_eq_true rfl) ⟨Nat.le_refl _, Nat.le_refl _⟩ dX7_findShift_27 rfl) (fun r5 g6 => ?_)
  obtain rfl : r5 = mVio A sc nu := g6
  refine lv_istore (lv' := [(5, .int (mVio A sc nu)), (4, .int (nI (mG A u))), (3, .int (nI (mF A u))), (0, .ref (eP E 0)), (1, .int (nI u)), (2, .int (nI sc))]) hx hb dX7_findShift_30 hl (by decide) rfl (fun ls hl => ?_)
  refine lv_iconst (v := 1) hx hb dX7_findShift_32 (by decide) ?_
  refine lv_istore (lv' := [(6, .int 1), (5, .int (mVio A sc nu)), (4, .int (nI (mG A u))), (3, .int (nI (mF A u))), (0, .ref (eP E 0)), (1, .int (nI u)), (2, .int (nI sc))]) hx hb dX7_findShift_33 hl (by decide) rfl (fun ls hl => ?_)
  have HL : ∀ (cnt d : Nat), d + cnt = 256 → mFnd A u sc nu cnt d = mBst A u sc nu → ∀ (H : Heap) (locs : List Loc), Wp mN E mK (I, A, K) H → va_S (cA mN E) s.heap H locs → ∀ ls : Array Slot, lv_has ls 7 [(6, .int (nI d)), (5, .int (mVio A sc nu)), (4, .int (nI (mG A u))), (3, .int (nI (mF A u))), (0, .ref (eP E 0)), (1, .int (nI u)), (2, .int (nI sc))] → W p l e (rmk 8 0 0 183) s m ([.ref (eP E 0), .int (nI u), .int (nI sc)] : List Value).toArray below meth c H locs 0 0 (MQ below (qWi mN E mK (fun zz uu => zz = bI (isS (mBst A u sc nu)) ∧ uu = (mPut I (mBst A u sc nu), A, K))) ([.ref (eP E 0), .int (nI u), .int (nI sc)] : List Value).toArray s 0 0 (cA mN E)) (F0 m 35 ls []) := by
    intro cnt
    induction cnt with
    | zero =>
      intro d hi hv H locs hP hS ls hl
      have hiN : d = 256 := by omega
      rw [hiN] at hl
      try rw [hiN] at hP
      refine lv_iload hx hb dX7_findShift_35 (lv_at hl 0 rfl) ?_
      refine lv_sipush (v := 255) hx hb dX7_findShift_37 (by decide) ?_
      refine lv_icmp_gt (tgt := 113) hx hb dX7_findShift_40 (by decide) (fun h40 => ?_) (fun h40 => absurd (by decide) h40)
      refine lv_iconst (v := 0) hx hb dX7_findShift_113 (by decide) ?_
      exact re_wz (x := (I, A, K)) (v := 0) hx hb hr hlk rfl hP hS (by rw [show mBst A u sc nu = none from hv.symm]; exact ⟨rfl, rfl⟩) dX7_findShift_114
    | succ cnt ih =>
      intro d hi hv H locs hP hS ls hl
      have hlt : d < 256 := by omega
      refine lv_iload hx hb dX7_findShift_35 (lv_at hl 0 rfl) ?_
      refine lv_sipush (v := 255) hx hb dX7_findShift_37 (by decide) ?_
      refine lv_icmp_gt (tgt := 113) hx hb dX7_findShift_40 (by decide) (fun h40 => absurd h40 (fun g => absurd g (nI_nlt (a := 255) (by omega) (by decide)))) (fun h40 => ?_)
      refine lv_aload_n hx hb dX7_findShift_43 rfl (lv_at hl 4 rfl) ?_
      refine lv_iload_n hx hb dX7_findShift_44 rfl (lv_at hl 5 rfl) ?_
      refine lv_iload_n hx hb dX7_findShift_45 rfl (lv_at hl 6 rfl) ?_
      refine lv_iload_n hx hb dX7_findShift_46 rfl (lv_at hl 3 rfl) ?_
      refine lv_iload hx hb dX7_findShift_47 (lv_at hl 0 rfl) ?_
      refine lv_iload hx hb dX7_findShift_49 (lv_at hl 1 rfl) ?_
      refine cn_wi (ck_V (a := eP E 0) S lk_X7_254 (c_X7_mends l E I A K u sc (mF A u) (nI d) (mVio A sc nu) nr nu hE hM hu hsc f2) ⟨rfl, rfl⟩ ⟨Nat.le_of_ble_eq_true rfl, Nat.le_of_ble_eq_true rfl⟩ bl_w (rc_w hK hP 0 (by decide) rfl rfl) (bw_U hE hK hC hP hS) rfl hl.1 (Nat.le_of_ble_eq_true rfl) ⟨Nat.le_refl _, Nat.le_refl _⟩ dX7_findShift_51 rfl) hS (fun r7 u8 H locs g9 hP hS => ?_)
      obtain ⟨rfl, rfl⟩ : r7 = bI (mTry A u sc nu (mF A u) (nI d) (mVio A sc nu)) ∧ u8 = (mPut I (mIf (mTry A u sc nu (mF A u) (nI d) (mVio A sc nu)) (nI d) (mF A u)), A, K) := g9
      have hP : Wp mN E mK ((mPut I (mIf (mTry A u sc nu (mF A u) (nI d) (mVio A sc nu)) (nI d) (mF A u))), A, K) H := hP
      refine lv_if_ne (tgt := 72) hx hb dX7_findShift_54 (by decide) (fun h54 => ?_) (fun h54 => ?_)
      · have q1 : mTry A u sc nu (mF A u) (nI d) (mVio A sc nu) = true := bI_t h54
        rw [mIf_t q1] at hP
        have hP : Wp mN E mK ((mPut I (some ((nI d), mF A u))), A, K) H := hP
        refine lv_iconst (v := 1) hx hb dX7_findShift_72 (by decide) ?_
        exact re_wz (x := ((mPut I (some ((nI d), mF A u))), A, K)) (v := 1) hx hb hr hlk rfl hP hS (by rw [show mBst A u sc nu = some (nI d, mF A u) from hv.symm.trans (mFnd_1 q1)]; exact ⟨rfl, rfl⟩) dX7_findShift_73
      · have q1 : mTry A u sc nu (mF A u) (nI d) (mVio A sc nu) = false := bI_f h54
        rw [mIf_f q1] at hP
        have hP : Wp mN E mK (I, A, K) H := hP
        refine lv_aload_n hx hb dX7_findShift_57 rfl (lv_at hl 4 rfl) ?_
        refine lv_iload_n hx hb dX7_findShift_58 rfl (lv_at hl 5 rfl) ?_
        refine lv_iload_n hx hb dX7_findShift_59 rfl (lv_at hl 6 rfl) ?_
        refine lv_iload hx hb dX7_findShift_60 (lv_at hl 2 rfl) ?_
        refine lv_iload hx hb dX7_findShift_62 (lv_at hl 0 rfl) ?_
        refine lv_iload hx hb dX7_findShift_64 (lv_at hl 1 rfl) ?_
        refine cn_wi (ck_V (a := eP E 0) S lk_X7_254 (c_X7_mends l E I A K u sc (mG A u) (nI d) (mVio A sc nu) nr nu hE hM hu hsc g2) ⟨rfl, rfl⟩ ⟨Nat.le_of_ble_eq_true rfl, Nat.le_of_ble_eq_true rfl⟩ bl_w (rc_w hK hP 0 (by decide) rfl rfl) (bw_U hE hK hC hP hS) rfl hl.1 (Nat.le_of_ble_eq_true rfl) ⟨Nat.le_refl _, Nat.le_refl _⟩ dX7_findShift_66 rfl) hS (fun r10 u11 H locs g12 hP hS => ?_)
        obtain ⟨rfl, rfl⟩ : r10 = bI (mTry A u sc nu (mG A u) (nI d) (mVio A sc nu)) ∧ u11 = (mPut I (mIf (mTry A u sc nu (mG A u) (nI d) (mVio A sc nu)) (nI d) (mG A u)), A, K) := g12
        have hP : Wp mN E mK ((mPut I (mIf (mTry A u sc nu (mG A u) (nI d) (mVio A sc nu)) (nI d) (mG A u))), A, K) H := hP
        refine lv_if_eq (tgt := 74) hx hb dX7_findShift_69 (by decide) (fun h69 => ?_) (fun h69 => ?_)
        · have q2 : mTry A u sc nu (mG A u) (nI d) (mVio A sc nu) = false := bI_f h69
          rw [mIf_f q2] at hP
          have hP : Wp mN E mK (I, A, K) H := hP
          refine lv_aload_n hx hb dX7_findShift_74 rfl (lv_at hl 4 rfl) ?_
          refine lv_iload_n hx hb dX7_findShift_75 rfl (lv_at hl 5 rfl) ?_
          refine lv_iload_n hx hb dX7_findShift_76 rfl (lv_at hl 6 rfl) ?_
          refine lv_iload_n hx hb dX7_findShift_77 rfl (lv_at hl 3 rfl) ?_
          refine lv_iload hx hb dX7_findShift_78 (lv_at hl 0 rfl) ?_
          refine lv_ineg hx hb dX7_findShift_80 ?_
          refine lv_iload hx hb dX7_findShift_81 (lv_at hl 1 rfl) ?_
          refine cn_wi (ck_V (a := eP E 0) S lk_X7_254 (c_X7_mends l E I A K u sc (mF A u) (-nI d) (mVio A sc nu) nr nu hE hM hu hsc f2) ⟨rfl, rfl⟩ ⟨Nat.le_of_ble_eq_true rfl, Nat.le_of_ble_eq_true rfl⟩ bl_w (rc_w hK hP 0 (by decide) rfl rfl) (bw_U hE hK hC hP hS) rfl hl.1 (Nat.le_of_ble_eq_true rfl) ⟨Nat.le_refl _, Nat.le_refl _⟩ dX7_findShift_83 rfl) hS (fun r13 u14 H locs g15 hP hS => ?_)
          obtain ⟨rfl, rfl⟩ : r13 = bI (mTry A u sc nu (mF A u) (-nI d) (mVio A sc nu)) ∧ u14 = (mPut I (mIf (mTry A u sc nu (mF A u) (-nI d) (mVio A sc nu)) (-nI d) (mF A u)), A, K) := g15
          have hP : Wp mN E mK ((mPut I (mIf (mTry A u sc nu (mF A u) (-nI d) (mVio A sc nu)) (-nI d) (mF A u))), A, K) H := hP
          refine lv_if_ne (tgt := 105) hx hb dX7_findShift_86 (by decide) (fun h86 => ?_) (fun h86 => ?_)
          · have q3 : mTry A u sc nu (mF A u) (-nI d) (mVio A sc nu) = true := bI_t h86
            rw [mIf_t q3] at hP
            have hP : Wp mN E mK ((mPut I (some ((-nI d), mF A u))), A, K) H := hP
            refine lv_iconst (v := 1) hx hb dX7_findShift_105 (by decide) ?_
            exact re_wz (x := ((mPut I (some ((-nI d), mF A u))), A, K)) (v := 1) hx hb hr hlk rfl hP hS (by rw [show mBst A u sc nu = some (-nI d, mF A u) from hv.symm.trans (mFnd_3 q1 q2 q3)]; exact ⟨rfl, rfl⟩) dX7_findShift_106
          · have q3 : mTry A u sc nu (mF A u) (-nI d) (mVio A sc nu) = false := bI_f h86
            rw [mIf_f q3] at hP
            have hP : Wp mN E mK (I, A, K) H := hP
            refine lv_aload_n hx hb dX7_findShift_89 rfl (lv_at hl 4 rfl) ?_
            refine lv_iload_n hx hb dX7_findShift_90 rfl (lv_at hl 5 rfl) ?_
            refine lv_iload_n hx hb dX7_findShift_91 rfl (lv_at hl 6 rfl) ?_
            refine lv_iload hx hb dX7_findShift_92 (lv_at hl 2 rfl) ?_
            refine lv_iload hx hb dX7_findShift_94 (lv_at hl 0 rfl) ?_
            refine lv_ineg hx hb dX7_findShift_96 ?_
            refine lv_iload hx hb dX7_findShift_97 (lv_at hl 1 rfl) ?_
            refine cn_wi (ck_V (a := eP E 0) S lk_X7_254 (c_X7_mends l E I A K u sc (mG A u) (-nI d) (mVio A sc nu) nr nu hE hM hu hsc g2) ⟨rfl, rfl⟩ ⟨Nat.le_of_ble_eq_true rfl, Nat.le_of_ble_eq_true rfl⟩ bl_w (rc_w hK hP 0 (by decide) rfl rfl) (bw_U hE hK hC hP hS) rfl hl.1 (Nat.le_of_ble_eq_true rfl) ⟨Nat.le_refl _, Nat.le_refl _⟩ dX7_findShift_99 rfl) hS (fun r16 u17 H locs g18 hP hS => ?_)
            obtain ⟨rfl, rfl⟩ : r16 = bI (mTry A u sc nu (mG A u) (-nI d) (mVio A sc nu)) ∧ u17 = (mPut I (mIf (mTry A u sc nu (mG A u) (-nI d) (mVio A sc nu)) (-nI d) (mG A u)), A, K) := g18
            have hP : Wp mN E mK ((mPut I (mIf (mTry A u sc nu (mG A u) (-nI d) (mVio A sc nu)) (-nI d) (mG A u))), A, K) H := hP
            refine lv_if_eq (tgt := 107) hx hb dX7_findShift_102 (by decide) (fun h102 => ?_) (fun h102 => ?_)
            · have q4 : mTry A u sc nu (mG A u) (-nI d) (mVio A sc nu) = false := bI_f h102
              rw [mIf_f q4] at hP
              have hP : Wp mN E mK (I, A, K) H := hP
              refine lv_iinc (v := nI (d + 1)) (lv' := [(6, .int (nI (d + 1))), (5, .int (mVio A sc nu)), (4, .int (nI (mG A u))), (3, .int (nI (mF A u))), (0, .ref (eP E 0)), (1, .int (nI u)), (2, .int (nI sc))]) hx hb dX7_findShift_107 hl (k := 0) rfl (nI_1 _) (by decide) rfl (fun ls hl => ?_)
              refine lv_goto (tgt := 35) hx hb dX7_findShift_110 (by decide) ?_
              exact ih (d + 1) (by omega) ((mFnd_5 q1 q2 q3 q4).symm.trans hv) _ _ hP hS ls (lv_sub hl [0, 1, 2, 3, 4, 5, 6] rfl)
            · have q4 : mTry A u sc nu (mG A u) (-nI d) (mVio A sc nu) = true := bI_t h102
              rw [mIf_t q4] at hP
              have hP : Wp mN E mK ((mPut I (some ((-nI d), mG A u))), A, K) H := hP
              refine lv_iconst (v := 1) hx hb dX7_findShift_105 (by decide) ?_
              exact re_wz (x := ((mPut I (some ((-nI d), mG A u))), A, K)) (v := 1) hx hb hr hlk rfl hP hS (by rw [show mBst A u sc nu = some (-nI d, mG A u) from hv.symm.trans (mFnd_4 q1 q2 q3 q4)]; exact ⟨rfl, rfl⟩) dX7_findShift_106
        · have q2 : mTry A u sc nu (mG A u) (nI d) (mVio A sc nu) = true := bI_t h69
          rw [mIf_t q2] at hP
          have hP : Wp mN E mK ((mPut I (some ((nI d), mG A u))), A, K) H := hP
          refine lv_iconst (v := 1) hx hb dX7_findShift_72 (by decide) ?_
          exact re_wz (x := ((mPut I (some ((nI d), mG A u))), A, K)) (v := 1) hx hb hr hlk rfl hP hS (by rw [show mBst A u sc nu = some (nI d, mG A u) from hv.symm.trans (mFnd_2 q1 q2)]; exact ⟨rfl, rfl⟩) dX7_findShift_73
  exact HL 255 1 (by omega) rfl _ _ hP hS ls (lv_sub hl [0, 1, 2, 3, 4, 5, 6] rfl)

