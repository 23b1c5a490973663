/-! the model: its data are one array, place 2; its needs place 14 -/
def vC (c : Int32) : Prop := 0 ≤ c ∧ c ≤ 16777215
def mCol (A : Nat → Nat → Int32) (r s : Nat) : Int32 := A 2 (4 + 3 * r + s)
def mF (A : Nat → Nat → Int32) (u : Nat) : Nat := (A 2 (34 + 4 * u + 1)).toNatClampNeg
def mG (A : Nat → Nat → Int32) (u : Nat) : Nat := (A 2 (34 + 4 * u + 2)).toNatClampNeg
def mS (A : Nat → Nat → Int32) (u : Nat) : Int32 := A 2 (34 + 4 * u) - 1
def MOk (A : Nat → Nat → Int32) (nr nu : Nat) : Prop := (nr ≤ 10 ∧ nu ≤ 12) ∧ (A 2 0 = nI nr ∧ A 2 1 = nI nu) ∧ (∀ u, u < nu → (A 2 (34 + 4 * u + 1) = nI (mF A u) ∧ mF A u < nr) ∧ (A 2 (34 + 4 * u + 2) = nI (mG A u) ∧ mG A u < nr)) ∧ ∀ r, r < nr → ∀ s, s < 2 → vC (mCol A r s)
theorem vC_of {c : Int32} (h : vC c) : ∃ k : Nat, k < 16777216 ∧ c = nI k := by
  obtain ⟨h0, h1⟩ := h
  obtain ⟨j, hj, rfl⟩ := nI_of2 (x := c) (M := 16777215) (n := 16777215) (by decide) (Int32.not_lt.mpr h0) h1
  exact ⟨j, by omega, rfl⟩
theorem pRed_n {k : Nat} (h : k < 2 ^ 31) : pRed (nI k) = nI (k / 65536) := pk_div (d := 65536) h (by decide) (by decide)
theorem pGreen_n {k : Nat} (h : k < 2 ^ 31) : pGreen (nI k) = nI (k / 256 % 256) := by
  unfold pGreen
  rw [show (nI k / 256 : Int32) = nI (k / 256) from pk_div (d := 256) h (by decide) (by decide)]
  exact pk_rem (d := 256) (by omega) (by decide) (by decide)
theorem pBlue_n {k : Nat} (h : k < 2 ^ 31) : pBlue (nI k) = nI (k % 256) := pk_rem (d := 256) h (by decide) (by decide)
def bN (k : Nat) : Nat := (2126 * (k / 65536) * (k / 65536) + 7152 * (k / 256 % 256) * (k / 256 % 256) + 722 * (k % 256) * (k % 256)) / 10000
theorem sq_le {a : Nat} (h : a < 256) : a * a ≤ 65025 := Nat.mul_le_mul (show a ≤ 255 by omega) (show a ≤ 255 by omega)
theorem bN_s {k : Nat} (h : k < 16777216) : 2126 * (k / 65536) * (k / 65536) + 7152 * (k / 256 % 256) * (k / 256 % 256) + 722 * (k % 256) * (k % 256) ≤ 650250000 := by
  have h1 := sq_le (show k / 65536 < 256 by omega)
  have h2 := sq_le (show k / 256 % 256 < 256 by omega)
  have h3 := sq_le (show k % 256 < 256 by omega)
  rw [Nat.mul_assoc, Nat.mul_assoc, Nat.mul_assoc]
  omega
theorem bN_lt {k : Nat} (h : k < 16777216) : bN k < 65026 := by
  have := bN_s h
  unfold bN
  omega
theorem pBri_n {k : Nat} (h : k < 16777216) : pBri (nI k) = nI (bN k) := by
  unfold pBri bN
  rw [pRed_n (by omega), pGreen_n (by omega), pBlue_n (by omega)]
  rw [show (2126 : Int32) = nI 2126 from rfl, show (7152 : Int32) = nI 7152 from rfl, show (722 : Int32) = nI 722 from rfl, show (10000 : Int32) = nI 10000 from rfl]
  simp only [pk_mul, nI_add]
  exact pk_div (Nat.lt_of_le_of_lt (bN_s h) (by decide)) (by decide) (by decide)
theorem rMin_n {a b : Nat} (ha : a < 2 ^ 31) (hb : b < 2 ^ 31) : rMin (nI a) (nI b) = nI (min a b) := by
  unfold rMin
  by_cases h : a < b
  · rw [if_pos (nI_lt h hb), Nat.min_eq_left (by omega)]
  · rw [if_neg (nI_nlt (by omega) ha), Nat.min_eq_right (by omega)]
theorem vC_nz {a b : Int32} (ha : vC a) (hb : vC b) : ¬ rMin (pBri a) (pBri b) + 3251 = 0 := by
  obtain ⟨j, hj, rfl⟩ := vC_of ha
  obtain ⟨k, hk, rfl⟩ := vC_of hb
  have h1 := bN_lt hj
  have h2 := bN_lt hk
  rw [pBri_n hj, pBri_n hk, rMin_n (by omega) (by omega)]
  have h3 : min (bN j) (bN k) < 65026 := by omega
  rw [show nI (min (bN j) (bN k)) + 3251 = nI (min (bN j) (bN k) + 3251) from nI_add _ 3251]
  exact nI_ne0 (by omega) (by omega)
def mVal (A : Nat → Nat → Int32) (u s : Nat) : Int32 := if mS A u = -1 then rCon (mCol A (mF A u) s) (mCol A (mG A u) s) else rDif (rSeen (mCol A (mF A u) s) (mS A u)) (rSeen (mCol A (mG A u) s) (mS A u))
def mNd (A : Nat → Nat → Int32) (u s : Nat) : Int32 := A 14 (2 * u + s)
def mVi (A : Nat → Nat → Int32) (u s : Nat) : Int32 := if mNd A u s ≤ mVal A u s then 0 else 1
theorem mVi_1 {A : Nat → Nat → Int32} {u s : Nat} (h : ¬ mVi A u s = 0) : mVi A u s = 1 := by
  unfold mVi at *
  split at h
  · exact absurd rfl h
  · rw [if_neg (by assumption)]
def mVio (A : Nat → Nat → Int32) (s : Nat) : Nat → Int32 := lfo (fun u a => a + mVi A u s) 0
theorem mVio_s {A : Nat → Nat → Int32} {s i : Nat} : mVio A s (i + 1) = mVio A s i + mVi A i s := rfl
theorem mi_role (r : Nat) : (4 : Int32) + 3 * nI r = nI (4 + 3 * r) := by
  rw [show (3 : Int32) = nI 3 from rfl, show (4 : Int32) = nI 4 from rfl, pk_mul, nI_add]
theorem mi_rule (r : Nat) : (34 : Int32) + 4 * nI r = nI (34 + 4 * r) := by
  rw [show (4 : Int32) = nI 4 from rfl, show (34 : Int32) = nI 34 from rfl, pk_mul, nI_add]
theorem c_X7_roleN (l : Launch) (r : Nat) : Met l yX7_role (wz yX7_role cX7_role 1 (some .int)) (rmk 0 0 0 0) (va_Pc [.int (nI r)] (fun _ => True)) (qSi (fun zz => zz = nI (4 + 3 * r))) 0 0 fr0 := by
  have h := c_X7_role l (nI r)
  rw [mi_role] at h
  exact h
theorem c_X7_ruleN (l : Launch) (u : Nat) : Met l yX7_rule (wz yX7_rule cX7_rule 1 (some .int)) (rmk 0 0 0 0) (va_Pc [.int (nI u)] (fun _ => True)) (qSi (fun zz => zz = nI (34 + 4 * u))) 0 0 fr0 := by
  have h := c_X7_rule l (nI u)
  rw [mi_rule] at h
  exact h
set_option maxHeartbeats 1000000 in
set_option maxRecDepth 100000 in
theorem c_X7_contrastOf (l : Launch) (x y : Int32) (hn : ¬ rMin (pBri x) (pBri y) + 3251 = 0) : Met l yX7_contrastOf (wz yX7_contrastOf cX7_contrastOf 2 (some .int)) (rmk 2 0 0 40) (va_Pc [.int x, .int y] (fun _ => True)) (qSi (fun zz => zz = rCon x y)) 0 0 fr0 := by
  refine en_ofW RX7 rfl (by decide +kernel) (Nat.le_of_ble_eq_true rfl) ?_
  intro p e s m below meth c ls S hr hlk hnm hl hB
  have hx := S.1
  have hb := S.2.1
  have hl : lv_has ls 2 [(0, .int x), (1, .int y)] := hl
  refine lv_bipush (v := 100) hx hb dX7_contrastOf_0 (by decide) ?_
  refine lv_iload_n hx hb dX7_contrastOf_2 rfl (lv_at hl 0 rfl) ?_
  refine cn_si (ck_S S lk_X7_185 (c_X7_bright l x) ⟨rfl, rfl⟩ ⟨Nat.le_of_ble_eq_true rfl, Nat.le_of_ble_eq_true rfl⟩ bl_T t_U rfl hl.1 (Nat.le_of_ble_eq_true rfl) ⟨Nat.le_refl _, Nat.le_refl _⟩ dX7_contrastOf_3 rfl) (fun r1 g2 => ?_)
  obtain rfl : r1 = pBri x := g2
  refine lv_iload_n hx hb dX7_contrastOf_6 rfl (lv_at hl 1 rfl) ?_
  refine cn_si (ck_S S lk_X7_185 (c_X7_bright l y) ⟨rfl, rfl⟩ ⟨Nat.le_of_ble_eq_true rfl, Nat.le_of_ble_eq_true rfl⟩ bl_T t_U rfl hl.1 (Nat.le_of_ble_eq_true rfl) ⟨Nat.le_refl _, Nat.le_refl _⟩ dX7_contrastOf_7 rfl) (fun r3 g4 => ?_)
  obtain rfl : r3 = pBri y := g4
  refine cn_si (ck_S S lk_X7_188 (c_X7_max l (pBri x) (pBri y)) ⟨rfl, rfl⟩ ⟨Nat.le_of_ble_eq_true rfl, Nat.le_of_ble_eq_true rfl⟩ bl_T t_U rfl hl.1 (Nat.le_of_ble_eq_true rfl) ⟨Nat.le_refl _, Nat.le_refl _⟩ dX7_contrastOf_10 rfl) (fun r5 g6 => ?_)
  obtain rfl : r5 = rMax (pBri x) (pBri y) := g6
  refine lv_sipush (v := 3251) hx hb dX7_contrastOf_13 (by decide) ?_
  refine lv_iadd hx hb dX7_contrastOf_16 ?_
  refine lv_imul hx hb dX7_contrastOf_17 ?_
  refine lv_iload_n hx hb dX7_contrastOf_18 rfl (lv_at hl 0 rfl) ?_
  refine cn_si (ck_S S lk_X7_185 (c_X7_bright l x) ⟨rfl, rfl⟩ ⟨Nat.le_of_ble_eq_true rfl, Nat.le_of_ble_eq_true rfl⟩ bl_T t_U rfl hl.1 (Nat.le_of_ble_eq_true rfl) ⟨Nat.le_refl _, Nat.le_refl _⟩ dX7_contrastOf_19 rfl) (fun r7 g8 => ?_)
  obtain rfl : r7 = pBri x := g8
  refine lv_iload_n hx hb dX7_contrastOf_22 rfl (lv_at hl 1 rfl) ?_
  refine cn_si (ck_S S lk_X7_185 (c_X7_bright l y) ⟨rfl, rfl⟩ ⟨Nat.le_of_ble_eq_true rfl, Nat.le_of_ble_eq_true rfl⟩ bl_T t_U rfl hl.1 (Nat.le_of_ble_eq_true rfl) ⟨Nat.le_refl _, Nat.le_refl _⟩ dX7_contrastOf_23 rfl) (fun r9 g10 => ?_)
  obtain rfl : r9 = pBri y := g10
  refine cn_si (ck_S S lk_X7_91 (c_X7_min l (pBri x) (pBri y)) ⟨rfl, rfl⟩ ⟨Nat.le_of_ble_eq_true rfl, Nat.le_of_ble_eq_true rfl⟩ bl_T t_U rfl hl.1 (Nat.le_of_ble_eq_true rfl) ⟨Nat.le_refl _, Nat.le_refl _⟩ dX7_contrastOf_26 rfl) (fun r11 g12 => ?_)
  obtain rfl : r11 = rMin (pBri x) (pBri y) := g12
  refine lv_sipush (v := 3251) hx hb dX7_contrastOf_29 (by decide) ?_
  refine lv_iadd hx hb dX7_contrastOf_32 ?_
  refine lv_idiv hx hb dX7_contrastOf_33 hn ?_
  exact re_si (v := ((100 * ((rMax (pBri x) (pBri y)) + 3251)) / ((rMin (pBri x) (pBri y)) + 3251))) hx hb hr hlk rfl dX7_contrastOf_34

set_option maxHeartbeats 1000000 in
set_option maxRecDepth 100000 in
theorem c_X7_colourOf (l : Launch) (E : En) (I A : Nat → Nat → Int32) (K : Nat → Nat → Int64) (r sc : Nat) (hE : Ev mN E) (hr10 : r < 10) (hsc : sc < 2) : Met l yX7_colourOf (wz yX7_colourOf cX7_colourOf 3 (some .int)) (rmk 1 0 0 20) (va_Pc [.ref (eP E 0), .int (nI r), .int (nI sc)] (Bw mN E mK (I, A, K))) (qSi (fun zz => zz = mCol A r sc)) 0 0 fr0 := by
  refine en_ofW RX7 rfl (by decide +kernel) (Nat.le_of_ble_eq_true rfl) ?_
  intro p e s m below meth c ls S hr hlk hnm hl hB
  have hx := S.1
  have hb := S.2.1
  obtain ⟨hK, hC, hP⟩ := hB
  have hS : va_S (cA mN E) s.heap s.heap [] := va_S.rf
  have hl : lv_has ls 3 [(0, .ref (eP E 0)), (1, .int (nI r)), (2, .int (nI sc))] := hl
  refine lv_aload_n hx hb dX7_colourOf_0 rfl (lv_at hl 0 rfl) ?_
  refine rw_getr (x := (I, A, K)) S hK hP 0 (by decide) rfl fk_X7_17 rfl dX7_colourOf_1 ?_
  refine lv_iload_n hx hb dX7_colourOf_4 rfl (lv_at hl 1 rfl) ?_
  refine cn_si (ck_S S lk_X7_136 (c_X7_roleN l r) ⟨rfl, rfl⟩ ⟨Nat.le_of_ble_eq_true rfl, Nat.le_of_ble_eq_true rfl⟩ bl_T t_U rfl hl.1 (Nat.le_of_ble_eq_true rfl) ⟨Nat.le_refl _, Nat.le_refl _⟩ dX7_colourOf_5 rfl) (fun r1 g2 => ?_)
  obtain rfl : r1 = nI (4 + 3 * r) := g2
  refine lv_iload_n hx hb dX7_colourOf_8 rfl (lv_at hl 2 rfl) ?_
  refine lv_iadd hx hb dX7_colourOf_9 ?_
  refine tp_i (y := nI ((4 + 3 * r) + sc)) (nI_add (4 + 3 * r) sc) ?_
  refine rw_iald (x := (I, A, K)) (v := A 2 ((4 + 3 * r) + sc)) S hK hP 2 (by decide) rfl ((4 + 3 * r) + sc) rfl (by omega) (by decide) rfl dX7_colourOf_10 ?_
  exact re_si (v := A 2 ((4 + 3 * r) + sc)) hx hb hr hlk rfl dX7_colourOf_11

set_option maxHeartbeats 1000000 in
set_option maxRecDepth 100000 in
theorem c_X7_needOf (l : Launch) (E : En) (I A : Nat → Nat → Int32) (K : Nat → Nat → Int64) (u sc : Nat) (hE : Ev mN E) (hu12 : u < 12) (hsc : sc < 2) : Met l yX7_needOf (wz yX7_needOf cX7_needOf 3 (some .int)) (rmk 0 0 0 0) (va_Pc [.ref (eP E 0), .int (nI u), .int (nI sc)] (Bw mN E mK (I, A, K))) (qSi (fun zz => zz = mNd A u sc)) 0 0 fr0 := by
  refine en_ofW RX7 rfl (by decide +kernel) (Nat.le_of_ble_eq_true rfl) ?_
  intro p e s m below meth c ls S hr hlk hnm hl hB
  have hx := S.1
  have hb := S.2.1
  obtain ⟨hK, hC, hP⟩ := hB
  have hS : va_S (cA mN E) s.heap s.heap [] := va_S.rf
  have hl : lv_has ls 3 [(0, .ref (eP E 0)), (1, .int (nI u)), (2, .int (nI sc))] := hl
  refine lv_aload_n hx hb dX7_needOf_0 rfl (lv_at hl 0 rfl) ?_
  refine rw_getr (x := (I, A, K)) S hK hP 0 (by decide) rfl fk_X7_32 rfl dX7_needOf_1 ?_
  refine lv_iconst (v := 2) hx hb dX7_needOf_4 (by decide) ?_
  refine lv_iload_n hx hb dX7_needOf_5 rfl (lv_at hl 1 rfl) ?_
  refine lv_imul hx hb dX7_needOf_6 ?_
  refine tp_i (y := nI (2 * u)) (pk_mul 2 u) ?_
  refine lv_iload_n hx hb dX7_needOf_7 rfl (lv_at hl 2 rfl) ?_
  refine lv_iadd hx hb dX7_needOf_8 ?_
  refine tp_i (y := nI ((2 * u) + sc)) (nI_add (2 * u) sc) ?_
  refine rw_iald (x := (I, A, K)) (v := A 14 ((2 * u) + sc)) S hK hP 14 (by decide) rfl ((2 * u) + sc) rfl (by omega) (by decide) rfl dX7_needOf_9 ?_
  exact re_si (v := A 14 ((2 * u) + sc)) hx hb hr hlk rfl dX7_needOf_10

set_option maxHeartbeats 1000000 in
set_option maxRecDepth 100000 in
theorem c_X7_valueOf (l : Launch) (E : En) (I A : Nat → Nat → Int32) (K : Nat → Nat → Int64) (u sc nr nu : Nat) (hE : Ev mN E) (hM : MOk A nr nu) (hu : u < nu) (hsc : sc < 2) : Met l yX7_valueOf (wz yX7_valueOf cX7_valueOf 6 (some .int)) (rmk 4 0 0 85) (va_Pc [.ref (eP E 0), .int (nI u), .int (nI sc)] (Bw mN E mK (I, A, K))) (qSi (fun zz => zz = mVal A u sc)) 0 0 fr0 := by
  refine en_ofW RX7 rfl (by decide +kernel) (Nat.le_of_ble_eq_true rfl) ?_
  intro p e s m below meth c ls S hr hlk hnm hl hB
  have hx := S.1
  have hb := S.2.1
  obtain ⟨hK, hC, hP⟩ := hB
  have hS : va_S (cA mN E) s.heap s.heap [] := va_S.rf
  have hl : lv_has ls 6 [(0, .ref (eP E 0)), (1, .int (nI u)), (2, .int (nI sc))] := hl
  obtain ⟨⟨hn1, hn2⟩, ⟨hr0, hr1⟩, hu3, hcv⟩ := id hM
  obtain ⟨⟨f1, f2⟩, ⟨g1, g2⟩⟩ := hu3 u hu
  refine lv_aload_n hx hb dX7_valueOf_0 rfl (lv_at hl 0 rfl) ?_
  refine lv_aload_n hx hb dX7_valueOf_1 rfl (lv_at hl 0 rfl) ?_
  refine rw_getr (x := (I, A, K)) S hK hP 0 (by decide) rfl fk_X7_17 rfl dX7_valueOf_2 ?_
  refine lv_iload_n hx hb dX7_valueOf_5 rfl (lv_at hl 1 rfl) ?_
  refine cn_si (ck_S S lk_X7_139 (c_X7_ruleN l u) ⟨rfl, rfl⟩ ⟨Nat.le_of_ble_eq_true rfl, Nat.le_of_ble_eq_true rfl⟩ bl_T t_U rfl hl.1 (Nat.le_of_ble_eq_true rfl) ⟨Nat.le_refl _, Nat.le_refl _⟩ dX7_valueOf_6 rfl) (fun r1 g2 => ?_)
  obtain rfl : r1 = nI (34 + 4 * u) := g2
  refine lv_iconst (v := 1) hx hb dX7_valueOf_9 (by decide) ?_
  refine lv_iadd hx hb dX7_valueOf_10 ?_
  refine tp_i (y := nI ((34 + 4 * u) + 1)) (nI_add (34 + 4 * u) 1) ?_
  refine rw_iald (x := (I, A, K)) (v := nI (mF A u)) S hK hP 2 (by decide) rfl ((34 + 4 * u) + 1) rfl (by omega) (by decide) f1 dX7_valueOf_11 ?_
  refine lv_iload_n hx hb dX7_valueOf_12 rfl (lv_at hl 2 rfl) ?_
  refine cn_si (ck_V (a := eP E 0) S lk_X7_220 (c_X7_colourOf l E I A K (mF A u) sc hE (by omega) hsc) ⟨rfl, rfl⟩ ⟨Nat.le_of_ble_eq_true rfl, Nat.le_of_ble_eq_true rfl⟩ bl_w (rc_w hK hP 0 (by decide) rfl rfl) (bw_U hE hK hC hP hS) rfl hl.1 (Nat.le_of_ble_eq_true rfl) ⟨Nat.le_refl _, Nat.le_refl _⟩ dX7_valueOf_13 rfl) (fun r3 g4 => ?_)
  obtain rfl : r3 = mCol A (mF A u) sc := g4
  refine lv_istore_n (lv' := [(3, .int (mCol A (mF A u) sc)), (0, .ref (eP E 0)), (1, .int (nI u)), (2, .int (nI sc))]) hx hb dX7_valueOf_16 rfl hl (by decide) rfl (fun ls hl => ?_)
  refine lv_aload_n hx hb dX7_valueOf_17 rfl (lv_at hl 1 rfl) ?_
  refine lv_aload_n hx hb dX7_valueOf_18 rfl (lv_at hl 1 rfl) ?_
  refine rw_getr (x := (I, A, K)) S hK hP 0 (by decide) rfl fk_X7_17 rfl dX7_valueOf_19 ?_
  refine lv_iload_n hx hb dX7_valueOf_22 rfl (lv_at hl 2 rfl) ?_
  refine cn_si (ck_S S lk_X7_139 (c_X7_ruleN l u) ⟨rfl, rfl⟩ ⟨Nat.le_of_ble_eq_true rfl, Nat.le_of_ble_eq_true rfl⟩ bl_T t_U rfl hl.1 (Nat.le_of_ble_eq_true rfl) ⟨Nat.le_refl _, Nat.le_refl _⟩ dX7_valueOf_23 rfl) (fun r5 g6 => ?_)
  obtain rfl : r5 = nI (34 + 4 * u) := g6
  refine lv_iconst (v := 2) hx hb dX7_valueOf_26 (by decide) ?_
  refine lv_iadd hx hb dX7_valueOf_27 ?_
  refine tp_i (y := nI ((34 + 4 * u) + 2)) (nI_add (34 + 4 * u) 2) ?_
  refine rw_iald (x := (I, A, K)) (v := nI (mG A u)) S hK hP 2 (by decide) rfl ((34 + 4 * u) + 2) rfl (by omega) (by decide) g1 dX7_valueOf_28 ?_
  refine lv_iload_n hx hb dX7_valueOf_29 rfl (lv_at hl 3 rfl) ?_
  refine cn_si (ck_V (a := eP E 0) S lk_X7_220 (c_X7_colourOf l E I A K (mG A u) sc hE (by omega) hsc) ⟨rfl, rfl⟩ ⟨Nat.le_of_ble_eq_true rfl, Nat.le_of_ble_eq_true rfl⟩ bl_w (rc_w hK hP 0 (by decide) rfl rfl) (bw_U hE hK hC hP hS) rfl hl.1 (Nat.le_of_ble_eq_true rfl) ⟨Nat.le_refl _, Nat.le_refl _⟩ dX7_valueOf_30 rfl) (fun r7 g8 => ?_)
  obtain rfl : r7 = mCol A (mG A u) sc := g8
  refine lv_istore (lv' := [(4, .int (mCol A (mG A u) sc)), (3, .int (mCol A (mF A u) sc)), (0, .ref (eP E 0)), (1, .int (nI u)), (2, .int (nI sc))]) hx hb dX7_valueOf_33 hl (by decide) rfl (fun ls hl => ?_)
  refine lv_aload_n hx hb dX7_valueOf_35 rfl (lv_at hl 2 rfl) ?_
  refine rw_getr (x := (I, A, K)) S hK hP 0 (by decide) rfl fk_X7_17 rfl dX7_valueOf_36 ?_
  refine lv_iload_n hx hb dX7_valueOf_39 rfl (lv_at hl 3 rfl) ?_
  refine cn_si (ck_S S lk_X7_139 (c_X7_ruleN l u) ⟨rfl, rfl⟩ ⟨Nat.le_of_ble_eq_true rfl, Nat.le_of_ble_eq_true rfl⟩ bl_T t_U rfl hl.1 (Nat.le_of_ble_eq_true rfl) ⟨Nat.le_refl _, Nat.le_refl _⟩ dX7_valueOf_40 rfl) (fun r9 g10 => ?_)
  obtain rfl : r9 = nI (34 + 4 * u) := g10
  refine rw_iald (x := (I, A, K)) (v := A 2 (34 + 4 * u)) S hK hP 2 (by decide) rfl (34 + 4 * u) rfl (by omega) (by decide) rfl dX7_valueOf_43 ?_
  refine lv_iconst (v := 1) hx hb dX7_valueOf_44 (by decide) ?_
  refine lv_isub hx hb dX7_valueOf_45 ?_
  refine lv_istore (lv' := [(5, .int ((A 2 (34 + 4 * u)) - 1)), (4, .int (mCol A (mG A u) sc)), (3, .int (mCol A (mF A u) sc)), (0, .ref (eP E 0)), (1, .int (nI u)), (2, .int (nI sc))]) hx hb dX7_valueOf_46 hl (by decide) rfl (fun ls hl => ?_)
  refine lv_iload hx hb dX7_valueOf_48 (lv_at hl 0 rfl) ?_
  refine lv_iconst (v := (-1)) hx hb dX7_valueOf_50 (by decide) ?_
  refine lv_icmp_ne (tgt := 63) hx hb dX7_valueOf_51 (by decide) (fun h51 => ?_) (fun h51 => ?_)
  · refine lv_iload_n hx hb dX7_valueOf_63 rfl (lv_at hl 2 rfl) ?_
    refine lv_iload hx hb dX7_valueOf_64 (lv_at hl 0 rfl) ?_
    refine cn_si (ck_S S lk_X7_226 (c_X7_seenAs l (mCol A (mF A u) sc) ((A 2 (34 + 4 * u)) - 1)) ⟨rfl, rfl⟩ ⟨Nat.le_of_ble_eq_true rfl, Nat.le_of_ble_eq_true rfl⟩ bl_T t_U rfl hl.1 (Nat.le_of_ble_eq_true rfl) ⟨Nat.le_refl _, Nat.le_refl _⟩ dX7_valueOf_66 rfl) (fun r11 g12 => ?_)
    obtain rfl : r11 = rSeen (mCol A (mF A u) sc) ((A 2 (34 + 4 * u)) - 1) := g12
    refine lv_iload hx hb dX7_valueOf_69 (lv_at hl 1 rfl) ?_
    refine lv_iload hx hb dX7_valueOf_71 (lv_at hl 0 rfl) ?_
    refine cn_si (ck_S S lk_X7_226 (c_X7_seenAs l (mCol A (mG A u) sc) ((A 2 (34 + 4 * u)) - 1)) ⟨rfl, rfl⟩ ⟨Nat.le_of_ble_eq_true rfl, Nat.le_of_ble_eq_true rfl⟩ bl_T t_U rfl hl.1 (Nat.le_of_ble_eq_true rfl) ⟨Nat.le_refl _, Nat.le_refl _⟩ dX7_valueOf_73 rfl) (fun r13 g14 => ?_)
    obtain rfl : r13 = rSeen (mCol A (mG A u) sc) ((A 2 (34 + 4 * u)) - 1) := g14
    refine cn_si (ck_S S lk_X7_229 (c_X7_differenceOf l (rSeen (mCol A (mF A u) sc) ((A 2 (34 + 4 * u)) - 1)) (rSeen (mCol A (mG A u) sc) ((A 2 (34 + 4 * u)) - 1))) ⟨rfl, rfl⟩ ⟨Nat.le_of_ble_eq_true rfl, Nat.le_of_ble_eq_true rfl⟩ bl_T t_U rfl hl.1 (Nat.le_of_ble_eq_true rfl) ⟨Nat.le_refl _, Nat.le_refl _⟩ dX7_valueOf_76 rfl) (fun r15 g16 => ?_)
    obtain rfl : r15 = rDif (rSeen (mCol A (mF A u) sc) ((A 2 (34 + 4 * u)) - 1)) (rSeen (mCol A (mG A u) sc) ((A 2 (34 + 4 * u)) - 1)) := g16
    exact re_si (v := (rDif (rSeen (mCol A (mF A u) sc) ((A 2 (34 + 4 * u)) - 1)) (rSeen (mCol A (mG A u) sc) ((A 2 (34 + 4 * u)) - 1)))) hx hb hr hlk ((if_neg h51).symm) dX7_valueOf_79
  · refine lv_iload_n hx hb dX7_valueOf_54 rfl (lv_at hl 2 rfl) ?_
    refine lv_iload hx hb dX7_valueOf_55 (lv_at hl 1 rfl) ?_
    refine cn_si (ck_S S lk_X7_223 (c_X7_contrastOf l (mCol A (mF A u) sc) (mCol A (mG A u) sc) (vC_nz (hcv _ f2 _ hsc) (hcv _ g2 _ hsc))) ⟨rfl, rfl⟩ ⟨Nat.le_of_ble_eq_true rfl, Nat.le_of_ble_eq_true rfl⟩ bl_T t_U rfl hl.1 (Nat.le_of_ble_eq_true rfl) ⟨Nat.le_refl _, Nat.le_refl _⟩ dX7_valueOf_57 rfl) (fun r17 g18 => ?_)
    obtain rfl : r17 = rCon (mCol A (mF A u) sc) (mCol A (mG A u) sc) := g18
    refine lv_goto (tgt := 79) hx hb dX7_valueOf_60 (by decide) ?_
    exact re_si (v := (rCon (mCol A (mF A u) sc) (mCol A (mG A u) sc))) hx hb hr hlk ((if_pos h51).symm) dX7_valueOf_79

set_option maxHeartbeats 1000000 in
set_option maxRecDepth 100000 in
theorem c_X7_isViolated (l : Launch) (E : En) (I A : Nat → Nat → Int32) (K : Nat → Nat → Int64) (u sc nr nu : Nat) (hE : Ev mN E) (hM : MOk A nr nu) (hu : u < nu) (hsc : sc < 2) : Met l yX7_isViolated (wz yX7_isViolated cX7_isViolated 3 (some .boolean)) (rmk 5 0 0 110) (va_Pc [.ref (eP E 0), .int (nI u), .int (nI sc)] (Bw mN E mK (I, A, K))) (qSi (fun zz => zz = mVi A u sc)) 0 0 fr0 := by
  refine en_ofW RX7 rfl (by decide +kernel) (Nat.le_of_ble_eq_true rfl) ?_
  intro p e s m below meth c ls S hr hlk hnm hl hB
  have hx := S.1
  have hb := S.2.1
  obtain ⟨hK, hC, hP⟩ := hB
  have hS : va_S (cA mN E) s.heap s.heap [] := va_S.rf
  have hl : lv_has ls 3 [(0, .ref (eP E 0)), (1, .int (nI u)), (2, .int (nI sc))] := hl
  obtain ⟨⟨hn1, hn2⟩, ⟨hr0, hr1⟩, hu3, hcv⟩ := id hM
  refine lv_aload_n hx hb dX7_isViolated_0 rfl (lv_at hl 0 rfl) ?_
  refine lv_iload_n hx hb dX7_isViolated_1 rfl (lv_at hl 1 rfl) ?_
  refine lv_iload_n hx hb dX7_isViolated_2 rfl (lv_at hl 2 rfl) ?_
  refine cn_si (ck_V (a := eP E 0) S lk_X7_232 (c_X7_valueOf l E I A K u sc nr nu hE hM hu hsc) ⟨rfl, rfl⟩ ⟨Nat.le_of_ble_eq_true rfl, Nat.le_of_ble_eq_true rfl⟩ bl_w (rc_w hK hP 0 (by decide) rfl rfl) (bw_U hE hK hC hP hS) rfl hl.1 (Nat.le_of_ble_eq_true rfl) ⟨Nat.le_refl _, Nat.le_refl _⟩ dX7_isViolated_3 rfl) (fun r1 g2 => ?_)
  obtain rfl : r1 = mVal A u sc := g2
  refine lv_aload_n hx hb dX7_isViolated_6 rfl (lv_at hl 0 rfl) ?_
  refine lv_iload_n hx hb dX7_isViolated_7 rfl (lv_at hl 1 rfl) ?_
  refine lv_iload_n hx hb dX7_isViolated_8 rfl (lv_at hl 2 rfl) ?_
  refine cn_si (ck_V (a := eP E 0) S lk_X7_235 (c_X7_needOf l E I A K u sc hE (by omega) hsc) ⟨rfl, rfl⟩ ⟨Nat.le_of_ble_eq_true rfl, Nat.le_of_ble_eq_true rfl⟩ bl_w (rc_w hK hP 0 (by decide) rfl rfl) (bw_U hE hK hC hP hS) rfl hl.1 (Nat.le_of_ble_eq_true rfl) ⟨Nat.le_refl _, Nat.le_refl _⟩ dX7_isViolated_9 rfl) (fun r3 g4 => ?_)
  obtain rfl : r3 = mNd A u sc := g4
  refine lv_icmp_ge (tgt := 19) hx hb dX7_isViolated_12 (by decide) (fun h12 => ?_) (fun h12 => ?_)
  · refine lv_iconst (v := 0) hx hb dX7_isViolated_19 (by decide) ?_
    exact re_sz (v := 0) hx hb hr hlk rfl (if_pos h12).symm dX7_isViolated_20
  · refine lv_iconst (v := 1) hx hb dX7_isViolated_15 (by decide) ?_
    refine lv_goto (tgt := 20) hx hb dX7_isViolated_16 (by decide) ?_
    exact re_sz (v := 1) hx hb hr hlk rfl (if_neg h12).symm dX7_isViolated_20

set_option maxHeartbeats 1000000 in
set_option maxRecDepth 100000 in
theorem c_X7_violatedIn (l : Launch) (E : En) (I A : Nat → Nat → Int32) (K : Nat → Nat → Int64) (sc nr nu : Nat) (hE : Ev mN E) (hM : MOk A nr nu) (hsc : sc < 2) : Met l yX7_violatedIn (wz yX7_violatedIn cX7_violatedIn 4 (some .int)) (rmk 6 0 0 132) (va_Pc [.ref (eP E 0), .int (nI sc)] (Bw mN E mK (I, A, K))) (qSi (fun zz => zz = mVio A sc nu)) 0 0 fr0 := by
  refine en_ofW RX7 rfl (by decide +kernel) (Nat.le_of_ble_eq_true rfl) ?_
  intro p e s m below meth c ls S hr hlk hnm hl hB
  have hx := S.1
  have hb := S.2.1
  obtain ⟨hK, hC, hP⟩ := hB
  have hS : va_S (cA mN E) s.heap s.heap [] := va_S.rf
  have hl : lv_has ls 4 [(0, .ref (eP E 0)), (1, .int (nI sc))] := hl
  obtain ⟨⟨hn1, hn2⟩, ⟨hr0, hr1⟩, hu3, hcv⟩ := id hM
  refine lv_iconst (v := 0) hx hb dX7_violatedIn_0 (by decide) ?_
  refine lv_istore_n (lv' := [(2, .int 0), (0, .ref (eP E 0)), (1, .int (nI sc))]) hx hb dX7_violatedIn_1 rfl hl (by decide) rfl (fun ls hl => ?_)
  refine lv_iconst (v := 0) hx hb dX7_violatedIn_2 (by decide) ?_
  refine lv_istore_n (lv' := [(3, .int 0), (2, .int 0), (0, .ref (eP E 0)), (1, .int (nI sc))]) hx hb dX7_violatedIn_3 rfl hl (by decide) rfl (fun ls hl => ?_)
  have HL : ∀ (n i : Nat), i + n = nu → ∀ ls : Array Slot, lv_has ls 4 [(3, .int (nI i)), (2, .int (mVio A sc i)), (0, .ref (eP E 0)), (1, .int (nI sc))] → W p l e (rmk 6 0 0 132) s m ([.ref (eP E 0), .int (nI sc)] : List Value).toArray below meth c s.heap [] 0 0 (MQ below (qSi (fun zz => zz = mVio A sc nu)) ([.ref (eP E 0), .int (nI sc)] : List Value).toArray s 0 0 fr0) (F0 m 4 ls []) := by
    intro n
    induction n with
    | zero =>
      intro i hi ls hl
      have hiN : i = nu := by omega
      rw [hiN] at hl
      refine lv_iload_n hx hb dX7_violatedIn_4 rfl (lv_at hl 0 rfl) ?_
      refine lv_aload_n hx hb dX7_violatedIn_5 rfl (lv_at hl 2 rfl) ?_
      refine rw_getr (x := (I, A, K)) S hK hP 0 (by decide) rfl fk_X7_17 rfl dX7_violatedIn_6 ?_
      refine lv_iconst (v := 1) hx hb dX7_violatedIn_9 (by decide) ?_
      refine rw_iald (x := (I, A, K)) (v := nI nu) S hK hP 2 (by decide) rfl 1 rfl (by decide) (by decide) hr1 dX7_violatedIn_10 ?_
      refine lv_icmp_ge (tgt := 37) hx hb dX7_violatedIn_11 (by decide) (fun h11 => ?_) (fun h11 => absurd (Int32.le_refl _) h11)
      refine lv_iload_n hx hb dX7_violatedIn_37 rfl (lv_at hl 1 rfl) ?_
      exact re_si (v := mVio A sc nu) hx hb hr hlk rfl dX7_violatedIn_38
    | succ n ih =>
      intro i hi ls hl
      have hlt : i < nu := by omega
      refine lv_iload_n hx hb dX7_violatedIn_4 rfl (lv_at hl 0 rfl) ?_
      refine lv_aload_n hx hb dX7_violatedIn_5 rfl (lv_at hl 2 rfl) ?_
      refine rw_getr (x := (I, A, K)) S hK hP 0 (by decide) rfl fk_X7_17 rfl dX7_violatedIn_6 ?_
      refine lv_iconst (v := 1) hx hb dX7_violatedIn_9 (by decide) ?_
      refine rw_iald (x := (I, A, K)) (v := nI nu) S hK hP 2 (by decide) rfl 1 rfl (by decide) (by decide) hr1 dX7_violatedIn_10 ?_
      refine lv_icmp_ge (tgt := 37) hx hb dX7_violatedIn_11 (by decide) (fun h11 => absurd h11 (nI_ge hlt (by omega))) (fun h11 => ?_)
      refine lv_iload_n hx hb dX7_violatedIn_14 rfl (lv_at hl 1 rfl) ?_
      refine lv_aload_n hx hb dX7_violatedIn_15 rfl (lv_at hl 2 rfl) ?_
      refine lv_iload_n hx hb dX7_violatedIn_16 rfl (lv_at hl 0 rfl) ?_
      refine lv_iload_n hx hb dX7_violatedIn_17 rfl (lv_at hl 3 rfl) ?_
      refine cn_si (ck_V (a := eP E 0) S lk_X7_238 (c_X7_isViolated l E I A K i sc nr nu hE hM hlt hsc) ⟨rfl, rfl⟩ ⟨Nat.le_of_ble_eq_true rfl, Nat.le_of_ble_eq_true rfl⟩ bl_w (rc_w hK hP 0 (by decide) rfl rfl) (bw_U hE hK hC hP hS) rfl hl.1 (Nat.le_of_ble_eq_true rfl) ⟨Nat.le_refl _, Nat.le_refl _⟩ dX7_violatedIn_18 rfl) (fun r1 g2 => ?_)
      obtain rfl : r1 = mVi A i sc := g2
      refine lv_if_eq (tgt := 28) hx hb dX7_violatedIn_21 (by decide) (fun h21 => ?_) (fun h21 => ?_)
      · refine lv_iconst (v := 0) hx hb dX7_violatedIn_28 (by decide) ?_
        refine lv_iadd hx hb dX7_violatedIn_29 ?_
        refine lv_istore_n (lv' := [(2, .int ((mVio A sc i) + 0)), (3, .int (nI i)), (0, .ref (eP E 0)), (1, .int (nI sc))]) hx hb dX7_violatedIn_30 rfl hl (by decide) rfl (fun ls hl => ?_)
        refine lv_iinc (v := nI (i + 1)) (lv' := [(3, .int (nI (i + 1))), (2, .int ((mVio A sc i) + 0)), (0, .ref (eP E 0)), (1, .int (nI sc))]) hx hb dX7_violatedIn_31 hl (k := 1) rfl (nI_1 _) (by decide) rfl (fun ls hl => ?_)
        refine lv_goto (tgt := 4) hx hb dX7_violatedIn_34 (by decide) ?_
        refine ih (i + 1) (by omega) ls ?_
        rw [show mVio A sc (i + 1) = ((mVio A sc i) + 0) from (by rw [mVio_s, h21])]
        exact lv_sub hl [0, 1, 2, 3] rfl
      · refine lv_iconst (v := 1) hx hb dX7_violatedIn_24 (by decide) ?_
        refine lv_goto (tgt := 29) hx hb dX7_violatedIn_25 (by decide) ?_
        refine lv_iadd hx hb dX7_violatedIn_29 ?_
        refine lv_istore_n (lv' := [(2, .int ((mVio A sc i) + 1)), (3, .int (nI i)), (0, .ref (eP E 0)), (1, .int (nI sc))]) hx hb dX7_violatedIn_30 rfl hl (by decide) rfl (fun ls hl => ?_)
        refine lv_iinc (v := nI (i + 1)) (lv' := [(3, .int (nI (i + 1))), (2, .int ((mVio A sc i) + 1)), (0, .ref (eP E 0)), (1, .int (nI sc))]) hx hb dX7_violatedIn_31 hl (k := 1) rfl (nI_1 _) (by decide) rfl (fun ls hl => ?_)
        refine lv_goto (tgt := 4) hx hb dX7_violatedIn_34 (by decide) ?_
        refine ih (i + 1) (by omega) ls ?_
        rw [show mVio A sc (i + 1) = ((mVio A sc i) + 1) from (by rw [mVio_s, mVi_1 h21])]
        exact lv_sub hl [0, 1, 2, 3] rfl
  exact HL nu 0 (by omega) ls (lv_sub hl [0, 1, 2, 3] rfl)

