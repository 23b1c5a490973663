/-! the words for a design's data -/
def lfo {α : Type} (f : Nat → α → α) (a : α) : Nat → α
  | 0 => a
  | n + 1 => f n (lfo f a n)
def dF (A : Nat → Nat → Int32) (d u : Nat) : Nat := (A (dB d 5) u).toNatClampNeg
def dG (A : Nat → Nat → Int32) (d u : Nat) : Nat := (A (dB d 6) u).toNatClampNeg
def dT (A : Nat → Nat → Int32) (d u : Nat) : Nat := (A (dB d 7) u).toNatClampNeg
def DOk (I A : Nat → Nat → Int32) (d nr nu : Nat) : Prop := (nr ≤ 10 ∧ nu ≤ 12) ∧ (I (dB d 0) 0 = nI nr ∧ I (dB d 0) 3 = nI nu) ∧ ∀ u, u < nu → (A (dB d 5) u = nI (dF A d u) ∧ dF A d u < nr) ∧ (A (dB d 6) u = nI (dG A d u) ∧ dG A d u < nr) ∧ (A (dB d 7) u = -1 ∨ (A (dB d 7) u = nI (dT A d u) ∧ dT A d u < 5))
def cVal (A : Nat → Nat → Int32) (d u sc : Nat) : Int32 := if A (dB d 7) u = -1 then cCon (A (dB d (2 + sc)) (dF A d u)) (A (dB d (2 + sc)) (dG A d u)) else cDif (dT A d u) (A (dB d (2 + sc)) (dF A d u)) (A (dB d (2 + sc)) (dG A d u))
def cNd (A : Nat → Nat → Int32) (d u sc : Nat) : Int32 := A (dB d (9 + sc)) u
def cKept (A : Nat → Nat → Int32) (d u sc : Nat) : Int32 := if cVal A d u sc < cNd A d u sc then 0 else 1
def cVio (A : Nat → Nat → Int32) (d sc : Nat) : Nat → Int32 := lfo (fun u a => if cVal A d u sc < cNd A d u sc then a + 1 else a) 0
def cMar (A : Nat → Nat → Int32) (d sc : Nat) : Nat → Int32 := lfo (fun u a => iMin a (cVal A d u sc - cNd A d u sc)) 9999
def cNear (A : Nat → Nat → Int32) (d sc : Nat) (x : Int32) : Nat → Int32 × Int32 := lfo (fun r a => if cDif 0 (A (dB d (2 + sc)) r) x < a.2 then (nI r, cDif 0 (A (dB d (2 + sc)) r) x) else a) (-1, 2296)
theorem cNear_s {A : Nat → Nat → Int32} {d sc : Nat} {x : Int32} {i : Nat} : cNear A d sc x (i + 1) = if cDif 0 (A (dB d (2 + sc)) i) x < (cNear A d sc x i).2 then (nI i, cDif 0 (A (dB d (2 + sc)) i) x) else cNear A d sc x i := rfl
theorem dK_col {d sc : Nat} (h : sc < 2) : dK d (2 + sc) = .inr (.inl (1, 10)) := by
  rcases (show sc = 0 ∨ sc = 1 by omega) with rfl | rfl <;> rfl
theorem dK_need {d sc : Nat} (h : sc < 2) : dK d (9 + sc) = .inr (.inl (1, 12)) := by
  rcases (show sc = 0 ∨ sc = 1 by omega) with rfl | rfl <;> rfl
theorem cK_col {d sc : Nat} (h : sc < 2) : cK (dB d (2 + sc)) = .inr (.inl (1, 10)) := (cK_D (by omega)).trans (dK_col h)
theorem cK_need {d sc : Nat} (h : sc < 2) : cK (dB d (9 + sc)) = .inr (.inl (1, 12)) := (cK_D (by omega)).trans (dK_need h)
set_option maxHeartbeats 1000000 in
set_option maxRecDepth 100000 in
theorem c_X1_ruleValue (l : Launch) (E : En) (I A : Nat → Nat → Int32) (K : Nat → Nat → Int64) (d nr nu u sc : Nat) (hE : Ev cN E) (hd : d < 10) (hD : DOk I A d nr nu) (hu : u < nu) (hsc : sc < 2) : Met l yX1_ruleValue (wz yX1_ruleValue cX1_ruleValue 5 (some .int)) (rmk 3 0 0 67) (va_Pc [.ref (eP E (dB d 0)), .int (nI u), .int (nI sc)] (Bw cN E cK (I, A, K))) (qSi (fun zz => zz = cVal A d u sc)) 0 0 fr0 := by
  refine en_ofW RX1 rfl (by decide +kernel) (Nat.le_of_ble_eq_true rfl) ?_
  intro p e s m below meth c ls S hr hlk hnm hl hB
  have hx := S.1
  have hb := S.2.1
  obtain ⟨hK, hC, hP⟩ := hB
  have hS : va_S (cA cN E) s.heap s.heap [] := va_S.rf
  have hl : lv_has ls 5 [(0, .ref (eP E (dB d 0))), (1, .int (nI u)), (2, .int (nI sc))] := hl
  obtain ⟨⟨hn1, hn2⟩, ⟨hr0, hr3⟩, hu3⟩ := id hD
  obtain ⟨⟨f1, f2⟩, ⟨g1, g2⟩, ht⟩ := hu3 u hu
  refine lv_aload_n hx hb dX1_ruleValue_0 rfl (lv_at hl 0 rfl) ?_
  refine rw_getr (x := (I, A, K)) S hK hP (dB d 0) (dB_lt hd (by decide)) (cK_D (by decide)) fk_X1_17 rfl dX1_ruleValue_1 ?_
  refine lv_iload_n hx hb dX1_ruleValue_4 rfl (lv_at hl 2 rfl) ?_
  refine rw_aald (x := (I, A, K)) (r := (dB d (2 + sc))) S hK hP (dB d 1) (dB_lt hd (by decide)) 5 (cK_D (by decide)) rfl rfl sc rfl (by omega) (by decide) rfl dX1_ruleValue_5 ?_
  refine lv_aload_n hx hb dX1_ruleValue_6 rfl (lv_at hl 0 rfl) ?_
  refine rw_getr (x := (I, A, K)) S hK hP (dB d 0) (dB_lt hd (by decide)) (cK_D (by decide)) fk_X1_27 rfl dX1_ruleValue_7 ?_
  refine lv_iload_n hx hb dX1_ruleValue_10 rfl (lv_at hl 1 rfl) ?_
  refine rw_iald (x := (I, A, K)) (v := A (dB d 5) u) S hK hP (dB d 5) (dB_lt hd (by decide)) (cK_D (by decide)) u rfl (by omega) (by decide) rfl dX1_ruleValue_11 ?_
  refine rw_iald (x := (I, A, K)) (v := A (dB d (2 + sc)) (dF A d u)) S hK hP (dB d (2 + sc)) (dB_lt hd (by omega)) (cK_col hsc) (dF A d u) f1 (by omega) (by decide) rfl dX1_ruleValue_12 ?_
  refine lv_istore_n (lv' := [(3, .int (A (dB d (2 + sc)) (dF A d u))), (0, .ref (eP E (dB d 0))), (1, .int (nI u)), (2, .int (nI sc))]) hx hb dX1_ruleValue_13 rfl hl (by decide) rfl (fun ls hl => ?_)
  refine lv_aload_n hx hb dX1_ruleValue_14 rfl (lv_at hl 1 rfl) ?_
  refine rw_getr (x := (I, A, K)) S hK hP (dB d 0) (dB_lt hd (by decide)) (cK_D (by decide)) fk_X1_17 rfl dX1_ruleValue_15 ?_
  refine lv_iload_n hx hb dX1_ruleValue_18 rfl (lv_at hl 3 rfl) ?_
  refine rw_aald (x := (I, A, K)) (r := (dB d (2 + sc))) S hK hP (dB d 1) (dB_lt hd (by decide)) 5 (cK_D (by decide)) rfl rfl sc rfl (by omega) (by decide) rfl dX1_ruleValue_19 ?_
  refine lv_aload_n hx hb dX1_ruleValue_20 rfl (lv_at hl 1 rfl) ?_
  refine rw_getr (x := (I, A, K)) S hK hP (dB d 0) (dB_lt hd (by decide)) (cK_D (by decide)) fk_X1_31 rfl dX1_ruleValue_21 ?_
  refine lv_iload_n hx hb dX1_ruleValue_24 rfl (lv_at hl 2 rfl) ?_
  refine rw_iald (x := (I, A, K)) (v := A (dB d 6) u) S hK hP (dB d 6) (dB_lt hd (by decide)) (cK_D (by decide)) u rfl (by omega) (by decide) rfl dX1_ruleValue_25 ?_
  refine rw_iald (x := (I, A, K)) (v := A (dB d (2 + sc)) (dG A d u)) S hK hP (dB d (2 + sc)) (dB_lt hd (by omega)) (cK_col hsc) (dG A d u) g1 (by omega) (by decide) rfl dX1_ruleValue_26 ?_
  refine lv_istore (lv' := [(4, .int (A (dB d (2 + sc)) (dG A d u))), (3, .int (A (dB d (2 + sc)) (dF A d u))), (0, .ref (eP E (dB d 0))), (1, .int (nI u)), (2, .int (nI sc))]) hx hb dX1_ruleValue_27 hl (by decide) rfl (fun ls hl => ?_)
  refine lv_aload_n hx hb dX1_ruleValue_29 rfl (lv_at hl 2 rfl) ?_
  refine rw_getr (x := (I, A, K)) S hK hP (dB d 0) (dB_lt hd (by decide)) (cK_D (by decide)) fk_X1_34 rfl dX1_ruleValue_30 ?_
  refine lv_iload_n hx hb dX1_ruleValue_33 rfl (lv_at hl 3 rfl) ?_
  refine rw_iald (x := (I, A, K)) (v := A (dB d 7) u) S hK hP (dB d 7) (dB_lt hd (by decide)) (cK_D (by decide)) u rfl (by omega) (by decide) rfl dX1_ruleValue_34 ?_
  refine lv_iconst (v := (-1)) hx hb dX1_ruleValue_35 (by decide) ?_
  refine lv_icmp_ne (tgt := 46) hx hb dX1_ruleValue_36 (by decide) (fun h36 => ?_) (fun h36 => ?_)
  · have ht2 := ht.resolve_left h36
    refine lv_iload_n hx hb dX1_ruleValue_46 rfl (lv_at hl 1 rfl) ?_
    refine lv_iload hx hb dX1_ruleValue_47 (lv_at hl 0 rfl) ?_
    refine lv_aload_n hx hb dX1_ruleValue_49 rfl (lv_at hl 2 rfl) ?_
    refine rw_getr (x := (I, A, K)) S hK hP (dB d 0) (dB_lt hd (by decide)) (cK_D (by decide)) fk_X1_34 rfl dX1_ruleValue_50 ?_
    refine lv_iload_n hx hb dX1_ruleValue_53 rfl (lv_at hl 3 rfl) ?_
    refine rw_iald (x := (I, A, K)) (v := nI (dT A d u)) S hK hP (dB d 7) (dB_lt hd (by decide)) (cK_D (by decide)) u rfl (by omega) (by decide) ht2.1 dX1_ruleValue_54 ?_
    refine cn_si (ck_S S lk_X1_46 (c_X0_differenceOf l E (A (dB d (2 + sc)) (dF A d u)) (A (dB d (2 + sc)) (dG A d u)) (dT A d u) ht2.2) ⟨rfl, rfl⟩ ⟨Nat.le_of_ble_eq_true rfl, Nat.le_of_ble_eq_true rfl⟩ bl_s (bs_U hE hC hS) rfl hl.1 (Nat.le_of_ble_eq_true rfl) ⟨Nat.le_refl _, Nat.le_refl _⟩ dX1_ruleValue_55 rfl) (fun r1 g2 => ?_)
    obtain rfl : r1 = cDif (dT A d u) (A (dB d (2 + sc)) (dF A d u)) (A (dB d (2 + sc)) (dG A d u)) := g2
    exact re_si (v := (cDif (dT A d u) (A (dB d (2 + sc)) (dF A d u)) (A (dB d (2 + sc)) (dG A d u)))) hx hb hr hlk (by simp [cVal, h36]) dX1_ruleValue_58
  · refine lv_iload_n hx hb dX1_ruleValue_39 rfl (lv_at hl 1 rfl) ?_
    refine lv_iload hx hb dX1_ruleValue_40 (lv_at hl 0 rfl) ?_
    refine cn_si (ck_S S lk_X1_52 (c_X0_contrastOf l (A (dB d (2 + sc)) (dF A d u)) (A (dB d (2 + sc)) (dG A d u))) ⟨rfl, rfl⟩ ⟨Nat.le_of_ble_eq_true rfl, Nat.le_of_ble_eq_true rfl⟩ bl_T t_U rfl hl.1 (Nat.le_of_ble_eq_true rfl) ⟨Nat.le_refl _, Nat.le_refl _⟩ dX1_ruleValue_42 rfl) (fun r3 g4 => ?_)
    obtain rfl : r3 = cCon (A (dB d (2 + sc)) (dF A d u)) (A (dB d (2 + sc)) (dG A d u)) := g4
    exact re_si (v := (cCon (A (dB d (2 + sc)) (dF A d u)) (A (dB d (2 + sc)) (dG A d u)))) hx hb hr hlk (by simp [cVal, h36]) dX1_ruleValue_45

set_option maxHeartbeats 1000000 in
set_option maxRecDepth 100000 in
theorem c_X1_isKept (l : Launch) (E : En) (I A : Nat → Nat → Int32) (K : Nat → Nat → Int64) (d nr nu u sc : Nat) (hE : Ev cN E) (hd : d < 10) (hD : DOk I A d nr nu) (hu : u < nu) (hsc : sc < 2) : Met l yX1_isKept (wz yX1_isKept cX1_isKept 3 (some .boolean)) (rmk 4 0 0 91) (va_Pc [.ref (eP E (dB d 0)), .int (nI u), .int (nI sc)] (Bw cN E cK (I, A, K))) (qSi (fun zz => zz = cKept A d u sc)) 0 0 fr0 := by
  refine en_ofW RX1 rfl (by decide +kernel) (Nat.le_of_ble_eq_true rfl) ?_
  intro p e s m below meth c ls S hr hlk hnm hl hB
  have hx := S.1
  have hb := S.2.1
  obtain ⟨hK, hC, hP⟩ := hB
  have hS : va_S (cA cN E) s.heap s.heap [] := va_S.rf
  have hl : lv_has ls 3 [(0, .ref (eP E (dB d 0))), (1, .int (nI u)), (2, .int (nI sc))] := hl
  obtain ⟨⟨hn1, hn2⟩, ⟨hr0, hr3⟩, hu3⟩ := id hD
  refine lv_aload_n hx hb dX1_isKept_0 rfl (lv_at hl 0 rfl) ?_
  refine lv_iload_n hx hb dX1_isKept_1 rfl (lv_at hl 1 rfl) ?_
  refine lv_iload_n hx hb dX1_isKept_2 rfl (lv_at hl 2 rfl) ?_
  refine cn_si (ck_V (a := eP E (dB d 0)) S lk_X1_56 (c_X1_ruleValue l E I A K d nr nu u sc hE hd hD hu hsc) ⟨rfl, rfl⟩ ⟨Nat.le_of_ble_eq_true rfl, Nat.le_of_ble_eq_true rfl⟩ bl_w (rc_w hK hP (dB d 0) (dB_lt hd (by decide)) (cK_D (by decide)) rfl) (bw_U hE hK hC hP hS) rfl hl.1 (Nat.le_of_ble_eq_true rfl) ⟨Nat.le_refl _, Nat.le_refl _⟩ dX1_isKept_3 rfl) (fun r1 g2 => ?_)
  obtain rfl : r1 = cVal A d u sc := g2
  refine lv_aload_n hx hb dX1_isKept_6 rfl (lv_at hl 0 rfl) ?_
  refine rw_getr (x := (I, A, K)) S hK hP (dB d 0) (dB_lt hd (by decide)) (cK_D (by decide)) fk_X1_37 rfl dX1_isKept_7 ?_
  refine lv_iload_n hx hb dX1_isKept_10 rfl (lv_at hl 2 rfl) ?_
  refine rw_aald (x := (I, A, K)) (r := (dB d (9 + sc))) S hK hP (dB d 8) (dB_lt hd (by decide)) 5 (cK_D (by decide)) rfl rfl sc rfl (by omega) (by decide) rfl dX1_isKept_11 ?_
  refine lv_iload_n hx hb dX1_isKept_12 rfl (lv_at hl 1 rfl) ?_
  refine rw_iald (x := (I, A, K)) (v := A (dB d (9 + sc)) u) S hK hP (dB d (9 + sc)) (dB_lt hd (by omega)) (cK_need hsc) u rfl (by omega) (by decide) rfl dX1_isKept_13 ?_
  refine lv_icmp_lt (tgt := 21) hx hb dX1_isKept_14 (by decide) (fun h14 => ?_) (fun h14 => ?_)
  · refine lv_iconst (v := 0) hx hb dX1_isKept_21 (by decide) ?_
    exact re_sz (v := 0) hx hb hr hlk rfl (by simp [cKept, cNd, h14, (n_le h14)]) dX1_isKept_22
  · refine lv_iconst (v := 1) hx hb dX1_isKept_17 (by decide) ?_
    refine lv_goto (tgt := 22) hx hb dX1_isKept_18 (by decide) ?_
    exact re_sz (v := 1) hx hb hr hlk rfl (by simp [cKept, cNd, h14, (l_le h14)]) dX1_isKept_22

set_option maxHeartbeats 1000000 in
set_option maxRecDepth 100000 in
theorem c_X1_violatedIn (l : Launch) (E : En) (I A : Nat → Nat → Int32) (K : Nat → Nat → Int64) (d nr nu sc : Nat) (hE : Ev cN E) (hd : d < 10) (hD : DOk I A d nr nu) (hsc : sc < 2) : Met l yX1_violatedIn (wz yX1_violatedIn cX1_violatedIn 4 (some .int)) (rmk 4 0 0 91) (va_Pc [.ref (eP E (dB d 0)), .int (nI sc)] (Bw cN E cK (I, A, K))) (qSi (fun zz => zz = cVio A d sc nu)) 0 0 fr0 := by
  refine en_ofW RX1 rfl (by decide +kernel) (Nat.le_of_ble_eq_true rfl) ?_
  intro p e s m below meth c ls S hr hlk hnm hl hB
  have hx := S.1
  have hb := S.2.1
  obtain ⟨hK, hC, hP⟩ := hB
  have hS : va_S (cA cN E) s.heap s.heap [] := va_S.rf
  have hl : lv_has ls 4 [(0, .ref (eP E (dB d 0))), (1, .int (nI sc))] := hl
  obtain ⟨⟨hn1, hn2⟩, ⟨hr0, hr3⟩, hu3⟩ := id hD
  refine lv_iconst (v := 0) hx hb dX1_violatedIn_0 (by decide) ?_
  refine lv_istore_n (lv' := [(2, .int 0), (0, .ref (eP E (dB d 0))), (1, .int (nI sc))]) hx hb dX1_violatedIn_1 rfl hl (by decide) rfl (fun ls hl => ?_)
  refine lv_iconst (v := 0) hx hb dX1_violatedIn_2 (by decide) ?_
  refine lv_istore_n (lv' := [(3, .int 0), (2, .int 0), (0, .ref (eP E (dB d 0))), (1, .int (nI sc))]) hx hb dX1_violatedIn_3 rfl hl (by decide) rfl (fun ls hl => ?_)
  have HL : ∀ (n i : Nat), i + n = nu → ∀ ls : Array Slot, lv_has ls 4 [(3, .int (nI i)), (2, .int (cVio A d sc i)), (0, .ref (eP E (dB d 0))), (1, .int (nI sc))] → W p l e (rmk 4 0 0 91) s m ([.ref (eP E (dB d 0)), .int (nI sc)] : List Value).toArray below meth c s.heap [] 0 0 (MQ below (qSi (fun zz => zz = cVio A d sc nu)) ([.ref (eP E (dB d 0)), .int (nI sc)] : List Value).toArray s 0 0 fr0) (F0 m 4 ls []) := by
    intro n
    induction n with
    | zero =>
      intro i hi ls hl
      have hiN : i = nu := by omega
      rw [hiN] at hl
      refine lv_iload_n hx hb dX1_violatedIn_4 rfl (lv_at hl 0 rfl) ?_
      refine lv_aload_n hx hb dX1_violatedIn_5 rfl (lv_at hl 2 rfl) ?_
      refine rw_geti (x := (I, A, K)) (v := nI nu) S hK hP (dB d 0) (dB_lt hd (by decide)) (cK_D (by decide)) fk_X1_24 rfl hr3 dX1_violatedIn_6 ?_
      refine lv_icmp_ge (tgt := 38) hx hb dX1_violatedIn_9 (by decide) (fun h9 => ?_) (fun h9 => absurd (Int32.le_refl _) h9)
      refine lv_iload_n hx hb dX1_violatedIn_38 rfl (lv_at hl 1 rfl) ?_
      exact re_si (v := cVio A d sc nu) hx hb hr hlk rfl dX1_violatedIn_39
    | succ n ih =>
      intro i hi ls hl
      have hlt : i < nu := by omega
      refine lv_iload_n hx hb dX1_violatedIn_4 rfl (lv_at hl 0 rfl) ?_
      refine lv_aload_n hx hb dX1_violatedIn_5 rfl (lv_at hl 2 rfl) ?_
      refine rw_geti (x := (I, A, K)) (v := nI nu) S hK hP (dB d 0) (dB_lt hd (by decide)) (cK_D (by decide)) fk_X1_24 rfl hr3 dX1_violatedIn_6 ?_
      refine lv_icmp_ge (tgt := 38) hx hb dX1_violatedIn_9 (by decide) (fun h9 => absurd h9 (nI_ge hlt (by omega))) (fun h9 => ?_)
      refine lv_aload_n hx hb dX1_violatedIn_12 rfl (lv_at hl 2 rfl) ?_
      refine lv_iload_n hx hb dX1_violatedIn_13 rfl (lv_at hl 0 rfl) ?_
      refine lv_iload_n hx hb dX1_violatedIn_14 rfl (lv_at hl 3 rfl) ?_
      refine cn_si (ck_V (a := eP E (dB d 0)) S lk_X1_56 (c_X1_ruleValue l E I A K d nr nu i sc hE hd hD hlt hsc) ⟨rfl, rfl⟩ ⟨Nat.le_of_ble_eq_true rfl, Nat.le_of_ble_eq_true rfl⟩ bl_w (rc_w hK hP (dB d 0) (dB_lt hd (by decide)) (cK_D (by decide)) rfl) (bw_U hE hK hC hP hS) rfl hl.1 (Nat.le_of_ble_eq_true rfl) ⟨Nat.le_refl _, Nat.le_refl _⟩ dX1_violatedIn_15 rfl) (fun r1 g2 => ?_)
      obtain rfl : r1 = cVal A d i sc := g2
      refine lv_aload_n hx hb dX1_violatedIn_18 rfl (lv_at hl 2 rfl) ?_
      refine rw_getr (x := (I, A, K)) S hK hP (dB d 0) (dB_lt hd (by decide)) (cK_D (by decide)) fk_X1_37 rfl dX1_violatedIn_19 ?_
      refine lv_iload_n hx hb dX1_violatedIn_22 rfl (lv_at hl 3 rfl) ?_
      refine rw_aald (x := (I, A, K)) (r := (dB d (9 + sc))) S hK hP (dB d 8) (dB_lt hd (by decide)) 5 (cK_D (by decide)) rfl rfl sc rfl (by omega) (by decide) rfl dX1_violatedIn_23 ?_
      refine lv_iload_n hx hb dX1_violatedIn_24 rfl (lv_at hl 0 rfl) ?_
      refine rw_iald (x := (I, A, K)) (v := A (dB d (9 + sc)) i) S hK hP (dB d (9 + sc)) (dB_lt hd (by omega)) (cK_need hsc) i rfl (by omega) (by decide) rfl dX1_violatedIn_25 ?_
      refine lv_icmp_ge (tgt := 32) hx hb dX1_violatedIn_26 (by decide) (fun h26 => ?_) (fun h26 => ?_)
      · refine lv_iinc (v := nI (i + 1)) (lv' := [(3, .int (nI (i + 1))), (2, .int (cVio A d sc i)), (0, .ref (eP E (dB d 0))), (1, .int (nI sc))]) hx hb dX1_violatedIn_32 hl (k := 0) rfl (nI_1 _) (by decide) rfl (fun ls hl => ?_)
        refine lv_goto (tgt := 4) hx hb dX1_violatedIn_35 (by decide) ?_
        refine ih (i + 1) (by omega) ls ?_
        rw [show cVio A d sc (i + 1) = cVio A d sc i from (by simp [cVio, lfo, cNd, h26, (n_lt h26)])]
        exact lv_sub hl [0, 1, 2, 3] rfl
      · refine lv_iinc (v := (cVio A d sc i) + 1) (lv' := [(2, .int ((cVio A d sc i) + 1)), (3, .int (nI i)), (0, .ref (eP E (dB d 0))), (1, .int (nI sc))]) hx hb dX1_violatedIn_29 hl (k := 1) rfl rfl (by decide) rfl (fun ls hl => ?_)
        refine lv_iinc (v := nI (i + 1)) (lv' := [(3, .int (nI (i + 1))), (2, .int ((cVio A d sc i) + 1)), (0, .ref (eP E (dB d 0))), (1, .int (nI sc))]) hx hb dX1_violatedIn_32 hl (k := 1) rfl (nI_1 _) (by decide) rfl (fun ls hl => ?_)
        refine lv_goto (tgt := 4) hx hb dX1_violatedIn_35 (by decide) ?_
        refine ih (i + 1) (by omega) ls ?_
        rw [show cVio A d sc (i + 1) = (cVio A d sc i) + 1 from (by simp [cVio, lfo, cNd, h26, (l_lt h26)])]
        exact lv_sub hl [0, 1, 2, 3] rfl
  exact HL nu 0 (by omega) ls (lv_sub hl [0, 1, 2, 3] rfl)

set_option maxHeartbeats 1000000 in
set_option maxRecDepth 100000 in
theorem c_X1_leastMargin (l : Launch) (E : En) (I A : Nat → Nat → Int32) (K : Nat → Nat → Int64) (d nr nu sc : Nat) (hE : Ev cN E) (hd : d < 10) (hD : DOk I A d nr nu) (hsc : sc < 2) : Met l yX1_leastMargin (wz yX1_leastMargin cX1_leastMargin 4 (some .int)) (rmk 4 0 0 91) (va_Pc [.ref (eP E (dB d 0)), .int (nI sc)] (Bw cN E cK (I, A, K))) (qSi (fun zz => zz = cMar A d sc nu)) 0 0 fr0 := by
  refine en_ofW RX1 rfl (by decide +kernel) (Nat.le_of_ble_eq_true rfl) ?_
  intro p e s m below meth c ls S hr hlk hnm hl hB
  have hx := S.1
  have hb := S.2.1
  obtain ⟨hK, hC, hP⟩ := hB
  have hS : va_S (cA cN E) s.heap s.heap [] := va_S.rf
  have hl : lv_has ls 4 [(0, .ref (eP E (dB d 0))), (1, .int (nI sc))] := hl
  obtain ⟨⟨hn1, hn2⟩, ⟨hr0, hr3⟩, hu3⟩ := id hD
  refine lv_sipush (v := 9999) hx hb dX1_leastMargin_0 (by decide) ?_
  refine lv_istore_n (lv' := [(2, .int 9999), (0, .ref (eP E (dB d 0))), (1, .int (nI sc))]) hx hb dX1_leastMargin_3 rfl hl (by decide) rfl (fun ls hl => ?_)
  refine lv_iconst (v := 0) hx hb dX1_leastMargin_4 (by decide) ?_
  refine lv_istore_n (lv' := [(3, .int 0), (2, .int 9999), (0, .ref (eP E (dB d 0))), (1, .int (nI sc))]) hx hb dX1_leastMargin_5 rfl hl (by decide) rfl (fun ls hl => ?_)
  have HL : ∀ (n i : Nat), i + n = nu → ∀ ls : Array Slot, lv_has ls 4 [(3, .int (nI i)), (2, .int (cMar A d sc i)), (0, .ref (eP E (dB d 0))), (1, .int (nI sc))] → W p l e (rmk 4 0 0 91) s m ([.ref (eP E (dB d 0)), .int (nI sc)] : List Value).toArray below meth c s.heap [] 0 0 (MQ below (qSi (fun zz => zz = cMar A d sc nu)) ([.ref (eP E (dB d 0)), .int (nI sc)] : List Value).toArray s 0 0 fr0) (F0 m 6 ls []) := by
    intro n
    induction n with
    | zero =>
      intro i hi ls hl
      have hiN : i = nu := by omega
      rw [hiN] at hl
      refine lv_iload_n hx hb dX1_leastMargin_6 rfl (lv_at hl 0 rfl) ?_
      refine lv_aload_n hx hb dX1_leastMargin_7 rfl (lv_at hl 2 rfl) ?_
      refine rw_geti (x := (I, A, K)) (v := nI nu) S hK hP (dB d 0) (dB_lt hd (by decide)) (cK_D (by decide)) fk_X1_24 rfl hr3 dX1_leastMargin_8 ?_
      refine lv_icmp_ge (tgt := 40) hx hb dX1_leastMargin_11 (by decide) (fun h11 => ?_) (fun h11 => absurd (Int32.le_refl _) h11)
      refine lv_iload_n hx hb dX1_leastMargin_40 rfl (lv_at hl 1 rfl) ?_
      exact re_si (v := cMar A d sc nu) hx hb hr hlk rfl dX1_leastMargin_41
    | succ n ih =>
      intro i hi ls hl
      have hlt : i < nu := by omega
      refine lv_iload_n hx hb dX1_leastMargin_6 rfl (lv_at hl 0 rfl) ?_
      refine lv_aload_n hx hb dX1_leastMargin_7 rfl (lv_at hl 2 rfl) ?_
      refine rw_geti (x := (I, A, K)) (v := nI nu) S hK hP (dB d 0) (dB_lt hd (by decide)) (cK_D (by decide)) fk_X1_24 rfl hr3 dX1_leastMargin_8 ?_
      refine lv_icmp_ge (tgt := 40) hx hb dX1_leastMargin_11 (by decide) (fun h11 => absurd h11 (nI_ge hlt (by omega))) (fun h11 => ?_)
      refine lv_iload_n hx hb dX1_leastMargin_14 rfl (lv_at hl 1 rfl) ?_
      refine lv_aload_n hx hb dX1_leastMargin_15 rfl (lv_at hl 2 rfl) ?_
      refine lv_iload_n hx hb dX1_leastMargin_16 rfl (lv_at hl 0 rfl) ?_
      refine lv_iload_n hx hb dX1_leastMargin_17 rfl (lv_at hl 3 rfl) ?_
      refine cn_si (ck_V (a := eP E (dB d 0)) S lk_X1_56 (c_X1_ruleValue l E I A K d nr nu i sc hE hd hD hlt hsc) ⟨rfl, rfl⟩ ⟨Nat.le_of_ble_eq_true rfl, Nat.le_of_ble_eq_true rfl⟩ bl_w (rc_w hK hP (dB d 0) (dB_lt hd (by decide)) (cK_D (by decide)) rfl) (bw_U hE hK hC hP hS) rfl hl.1 (Nat.le_of_ble_eq_true rfl) ⟨Nat.le_refl _, Nat.le_refl _⟩ dX1_leastMargin_18 rfl) (fun r1 g2 => ?_)
      obtain rfl : r1 = cVal A d i sc := g2
      refine lv_aload_n hx hb dX1_leastMargin_21 rfl (lv_at hl 2 rfl) ?_
      refine rw_getr (x := (I, A, K)) S hK hP (dB d 0) (dB_lt hd (by decide)) (cK_D (by decide)) fk_X1_37 rfl dX1_leastMargin_22 ?_
      refine lv_iload_n hx hb dX1_leastMargin_25 rfl (lv_at hl 3 rfl) ?_
      refine rw_aald (x := (I, A, K)) (r := (dB d (9 + sc))) S hK hP (dB d 8) (dB_lt hd (by decide)) 5 (cK_D (by decide)) rfl rfl sc rfl (by omega) (by decide) rfl dX1_leastMargin_26 ?_
      refine lv_iload_n hx hb dX1_leastMargin_27 rfl (lv_at hl 0 rfl) ?_
      refine rw_iald (x := (I, A, K)) (v := A (dB d (9 + sc)) i) S hK hP (dB d (9 + sc)) (dB_lt hd (by omega)) (cK_need hsc) i rfl (by omega) (by decide) rfl dX1_leastMargin_28 ?_
      refine lv_isub hx hb dX1_leastMargin_29 ?_
      refine va_mmin hx hb (S.2.2.1.trans hl.1.symm) S.2.2.2.1 (S.2.2.2.2 _ km_X1_59) (S.2.2.2.2 _ ms_min) (S.2.2.2.2 _ mi_Math) (S.2.2.2.2 _ mc_min) (Nat.le_of_ble_eq_true rfl) (Nat.le_of_ble_eq_true rfl) (Nat.zero_le _) (Nat.zero_le _) dX1_leastMargin_30 ?_
      refine W.eq (g2 := F0 m 33 ls [.int (iMin (cMar A d sc i) ((cVal A d i sc) - (A (dB d (9 + sc)) i)))]) rfl ?_
      refine lv_istore_n (lv' := [(2, .int (iMin (cMar A d sc i) ((cVal A d i sc) - (A (dB d (9 + sc)) i)))), (3, .int (nI i)), (0, .ref (eP E (dB d 0))), (1, .int (nI sc))]) hx hb dX1_leastMargin_33 rfl hl (by decide) rfl (fun ls hl => ?_)
      refine lv_iinc (v := nI (i + 1)) (lv' := [(3, .int (nI (i + 1))), (2, .int (iMin (cMar A d sc i) ((cVal A d i sc) - (A (dB d (9 + sc)) i)))), (0, .ref (eP E (dB d 0))), (1, .int (nI sc))]) hx hb dX1_leastMargin_34 hl (k := 1) rfl (nI_1 _) (by decide) rfl (fun ls hl => ?_)
      refine lv_goto (tgt := 6) hx hb dX1_leastMargin_37 (by decide) ?_
      refine ih (i + 1) (by omega) ls ?_
      rw [show cMar A d sc (i + 1) = (iMin (cMar A d sc i) ((cVal A d i sc) - (A (dB d (9 + sc)) i))) from rfl]
      exact lv_sub hl [0, 1, 2, 3] rfl
  exact HL nu 0 (by omega) ls (lv_sub hl [0, 1, 2, 3] rfl)

set_option maxHeartbeats 1000000 in
set_option maxRecDepth 100000 in
theorem c_X1_nearestRole (l : Launch) (E : En) (I A : Nat → Nat → Int32) (K : Nat → Nat → Int64) (x : Int32) (d nr nu sc : Nat) (hE : Ev cN E) (hd : d < 10) (hD : DOk I A d nr nu) (hsc : sc < 2) : Met l yX1_nearestRole (wz yX1_nearestRole cX1_nearestRole 7 (some .int)) (rmk 3 0 0 67) (va_Pc [.ref (eP E (dB d 0)), .int x, .int (nI sc)] (Bw cN E cK (I, A, K))) (qSi (fun zz => zz = (cNear A d sc x nr).1)) 0 0 fr0 := by
  refine en_ofW RX1 rfl (by decide +kernel) (Nat.le_of_ble_eq_true rfl) ?_
  intro p e s m below meth c ls S hr hlk hnm hl hB
  have hx := S.1
  have hb := S.2.1
  obtain ⟨hK, hC, hP⟩ := hB
  have hS : va_S (cA cN E) s.heap s.heap [] := va_S.rf
  have hl : lv_has ls 7 [(0, .ref (eP E (dB d 0))), (1, .int x), (2, .int (nI sc))] := hl
  obtain ⟨⟨hn1, hn2⟩, ⟨hr0, hr3⟩, hu3⟩ := id hD
  refine lv_iconst (v := (-1)) hx hb dX1_nearestRole_0 (by decide) ?_
  refine lv_istore_n (lv' := [(3, .int (-1)), (0, .ref (eP E (dB d 0))), (1, .int x), (2, .int (nI sc))]) hx hb dX1_nearestRole_1 rfl hl (by decide) rfl (fun ls hl => ?_)
  refine lv_sipush (v := 2296) hx hb dX1_nearestRole_2 (by decide) ?_
  refine lv_istore (lv' := [(4, .int 2296), (3, .int (-1)), (0, .ref (eP E (dB d 0))), (1, .int x), (2, .int (nI sc))]) hx hb dX1_nearestRole_5 hl (by decide) rfl (fun ls hl => ?_)
  refine lv_iconst (v := 0) hx hb dX1_nearestRole_7 (by decide) ?_
  refine lv_istore (lv' := [(5, .int 0), (4, .int 2296), (3, .int (-1)), (0, .ref (eP E (dB d 0))), (1, .int x), (2, .int (nI sc))]) hx hb dX1_nearestRole_8 hl (by decide) rfl (fun ls hl => ?_)
  have HL : ∀ (n i : Nat), i + n = nr → ∀ ls : Array Slot, lv_has ls 7 [(5, .int (nI i)), (4, .int ((cNear A d sc x i).2)), (3, .int ((cNear A d sc x i).1)), (0, .ref (eP E (dB d 0))), (1, .int x), (2, .int (nI sc))] → W p l e (rmk 3 0 0 67) s m ([.ref (eP E (dB d 0)), .int x, .int (nI sc)] : List Value).toArray below meth c s.heap [] 0 0 (MQ below (qSi (fun zz => zz = (cNear A d sc x nr).1)) ([.ref (eP E (dB d 0)), .int x, .int (nI sc)] : List Value).toArray s 0 0 fr0) (F0 m 10 ls []) := by
    intro n
    induction n with
    | zero =>
      intro i hi ls hl
      have hiN : i = nr := by omega
      rw [hiN] at hl
      refine lv_iload hx hb dX1_nearestRole_10 (lv_at hl 0 rfl) ?_
      refine lv_aload_n hx hb dX1_nearestRole_12 rfl (lv_at hl 3 rfl) ?_
      refine rw_geti (x := (I, A, K)) (v := nI nr) S hK hP (dB d 0) (dB_lt hd (by decide)) (cK_D (by decide)) fk_X1_9 rfl hr0 dX1_nearestRole_13 ?_
      refine lv_icmp_ge (tgt := 55) hx hb dX1_nearestRole_16 (by decide) (fun h16 => ?_) (fun h16 => absurd (Int32.le_refl _) h16)
      refine lv_iload_n hx hb dX1_nearestRole_55 rfl (lv_at hl 2 rfl) ?_
      exact re_si (v := (cNear A d sc x nr).1) hx hb hr hlk rfl dX1_nearestRole_56
    | succ n ih =>
      intro i hi ls hl
      have hlt : i < nr := by omega
      refine lv_iload hx hb dX1_nearestRole_10 (lv_at hl 0 rfl) ?_
      refine lv_aload_n hx hb dX1_nearestRole_12 rfl (lv_at hl 3 rfl) ?_
      refine rw_geti (x := (I, A, K)) (v := nI nr) S hK hP (dB d 0) (dB_lt hd (by decide)) (cK_D (by decide)) fk_X1_9 rfl hr0 dX1_nearestRole_13 ?_
      refine lv_icmp_ge (tgt := 55) hx hb dX1_nearestRole_16 (by decide) (fun h16 => absurd h16 (nI_ge hlt (by omega))) (fun h16 => ?_)
      refine lv_aload_n hx hb dX1_nearestRole_19 rfl (lv_at hl 3 rfl) ?_
      refine rw_getr (x := (I, A, K)) S hK hP (dB d 0) (dB_lt hd (by decide)) (cK_D (by decide)) fk_X1_17 rfl dX1_nearestRole_20 ?_
      refine lv_iload_n hx hb dX1_nearestRole_23 rfl (lv_at hl 5 rfl) ?_
      refine rw_aald (x := (I, A, K)) (r := (dB d (2 + sc))) S hK hP (dB d 1) (dB_lt hd (by decide)) 5 (cK_D (by decide)) rfl rfl sc rfl (by omega) (by decide) rfl dX1_nearestRole_24 ?_
      refine lv_iload hx hb dX1_nearestRole_25 (lv_at hl 0 rfl) ?_
      refine rw_iald (x := (I, A, K)) (v := A (dB d (2 + sc)) i) S hK hP (dB d (2 + sc)) (dB_lt hd (by omega)) (cK_col hsc) i rfl (by omega) (by decide) rfl dX1_nearestRole_27 ?_
      refine lv_iload_n hx hb dX1_nearestRole_28 rfl (lv_at hl 4 rfl) ?_
      refine lv_iconst (v := 0) hx hb dX1_nearestRole_29 (by decide) ?_
      refine cn_si (ck_S S lk_X1_46 (c_X0_differenceOf l E (A (dB d (2 + sc)) i) x 0 (by decide)) ⟨rfl, rfl⟩ ⟨Nat.le_of_ble_eq_true rfl, Nat.le_of_ble_eq_true rfl⟩ bl_s (bs_U hE hC hS) rfl hl.1 (Nat.le_of_ble_eq_true rfl) ⟨Nat.le_refl _, Nat.le_refl _⟩ dX1_nearestRole_30 rfl) (fun r1 g2 => ?_)
      obtain rfl : r1 = cDif 0 (A (dB d (2 + sc)) i) x := g2
      refine lv_istore (lv' := [(6, .int (cDif 0 (A (dB d (2 + sc)) i) x)), (5, .int (nI i)), (4, .int ((cNear A d sc x i).2)), (3, .int ((cNear A d sc x i).1)), (0, .ref (eP E (dB d 0))), (1, .int x), (2, .int (nI sc))]) hx hb dX1_nearestRole_33 hl (by decide) rfl (fun ls hl => ?_)
      refine lv_iload hx hb dX1_nearestRole_35 (lv_at hl 0 rfl) ?_
      refine lv_iload hx hb dX1_nearestRole_37 (lv_at hl 2 rfl) ?_
      refine lv_icmp_ge (tgt := 49) hx hb dX1_nearestRole_39 (by decide) (fun h39 => ?_) (fun h39 => ?_)
      · refine lv_iinc (v := nI (i + 1)) (lv' := [(5, .int (nI (i + 1))), (6, .int (cDif 0 (A (dB d (2 + sc)) i) x)), (4, .int ((cNear A d sc x i).2)), (3, .int ((cNear A d sc x i).1)), (0, .ref (eP E (dB d 0))), (1, .int x), (2, .int (nI sc))]) hx hb dX1_nearestRole_49 hl (k := 1) rfl (nI_1 _) (by decide) rfl (fun ls hl => ?_)
        refine lv_goto (tgt := 10) hx hb dX1_nearestRole_52 (by decide) ?_
        refine ih (i + 1) (by omega) ls ?_
        rw [show (cNear A d sc x (i + 1)).1 = (cNear A d sc x i).1 from (by rw [cNear_s, if_neg (n_lt h39)])]
        rw [show (cNear A d sc x (i + 1)).2 = (cNear A d sc x i).2 from (by rw [cNear_s, if_neg (n_lt h39)])]
        exact lv_sub hl [0, 2, 3, 4, 5, 6] rfl
      · refine lv_iload hx hb dX1_nearestRole_42 (lv_at hl 1 rfl) ?_
        refine lv_istore_n (lv' := [(3, .int (nI i)), (6, .int (cDif 0 (A (dB d (2 + sc)) i) x)), (5, .int (nI i)), (4, .int ((cNear A d sc x i).2)), (0, .ref (eP E (dB d 0))), (1, .int x), (2, .int (nI sc))]) hx hb dX1_nearestRole_44 rfl hl (by decide) rfl (fun ls hl => ?_)
        refine lv_iload hx hb dX1_nearestRole_45 (lv_at hl 1 rfl) ?_
        refine lv_istore (lv' := [(4, .int (cDif 0 (A (dB d (2 + sc)) i) x)), (3, .int (nI i)), (6, .int (cDif 0 (A (dB d (2 + sc)) i) x)), (5, .int (nI i)), (0, .ref (eP E (dB d 0))), (1, .int x), (2, .int (nI sc))]) hx hb dX1_nearestRole_47 hl (by decide) rfl (fun ls hl => ?_)
        refine lv_iinc (v := nI (i + 1)) (lv' := [(5, .int (nI (i + 1))), (4, .int (cDif 0 (A (dB d (2 + sc)) i) x)), (3, .int (nI i)), (6, .int (cDif 0 (A (dB d (2 + sc)) i) x)), (0, .ref (eP E (dB d 0))), (1, .int x), (2, .int (nI sc))]) hx hb dX1_nearestRole_49 hl (k := 3) rfl (nI_1 _) (by decide) rfl (fun ls hl => ?_)
        refine lv_goto (tgt := 10) hx hb dX1_nearestRole_52 (by decide) ?_
        refine ih (i + 1) (by omega) ls ?_
        rw [show (cNear A d sc x (i + 1)).1 = nI i from (by rw [cNear_s, if_pos (l_lt h39)])]
        rw [show (cNear A d sc x (i + 1)).2 = (cDif 0 (A (dB d (2 + sc)) i) x) from (by rw [cNear_s, if_pos (l_lt h39)])]
        exact lv_sub hl [0, 1, 2, 4, 5, 6] rfl
  exact HL nr 0 (by omega) ls (lv_sub hl [0, 1, 2, 3, 4, 5] rfl)

set_option maxHeartbeats 1000000 in
set_option maxRecDepth 100000 in
theorem c_X1_choiceRole (l : Launch) (E : En) (I A : Nat → Nat → Int32) (K : Nat → Nat → Int64) (d nr nu u ch : Nat) (hE : Ev cN E) (hd : d < 10) (hD : DOk I A d nr nu) (hu : u < nu) (hch : ch < 1020) : Met l yX1_choiceRole (wz yX1_choiceRole cX1_choiceRole 3 (some .int)) (rmk 0 0 0 0) (va_Pc [.ref (eP E (dB d 0)), .int (nI u), .int (nI ch)] (Bw cN E cK (I, A, K))) (qSi (fun zz => zz = nI (if ch % 2 = 0 then dF A d u else dG A d u))) 0 0 fr0 := by
  refine en_ofW RX1 rfl (by decide +kernel) (Nat.le_of_ble_eq_true rfl) ?_
  intro p e s m below meth c ls S hr hlk hnm hl hB
  have hx := S.1
  have hb := S.2.1
  obtain ⟨hK, hC, hP⟩ := hB
  have hS : va_S (cA cN E) s.heap s.heap [] := va_S.rf
  have hl : lv_has ls 3 [(0, .ref (eP E (dB d 0))), (1, .int (nI u)), (2, .int (nI ch))] := hl
  obtain ⟨⟨hn1, hn2⟩, ⟨hr0, hr3⟩, hu3⟩ := id hD
  obtain ⟨⟨f1, f2⟩, ⟨g1, g2⟩, ht⟩ := hu3 u hu
  refine lv_iload_n hx hb dX1_choiceRole_0 rfl (lv_at hl 2 rfl) ?_
  refine lv_iconst (v := 2) hx hb dX1_choiceRole_1 (by decide) ?_
  refine lv_irem hx hb dX1_choiceRole_2 (by decide) ?_
  refine tp_i (y := nI (ch % 2)) (pk_rem (by omega) (by decide) (by decide)) ?_
  refine lv_if_ne (tgt := 15) hx hb dX1_choiceRole_3 (by decide) (fun h3 => ?_) (fun h3 => ?_)
  · refine lv_aload_n hx hb dX1_choiceRole_15 rfl (lv_at hl 0 rfl) ?_
    refine rw_getr (x := (I, A, K)) S hK hP (dB d 0) (dB_lt hd (by decide)) (cK_D (by decide)) fk_X1_31 rfl dX1_choiceRole_16 ?_
    refine lv_iload_n hx hb dX1_choiceRole_19 rfl (lv_at hl 1 rfl) ?_
    refine rw_iald (x := (I, A, K)) (v := nI (dG A d u)) S hK hP (dB d 6) (dB_lt hd (by decide)) (cK_D (by decide)) u rfl (by omega) (by decide) g1 dX1_choiceRole_20 ?_
    exact re_si (v := nI (dG A d u)) hx hb hr hlk (by have q : ch % 2 < 2 := Nat.mod_lt _ (by decide); have q2 : nI (ch % 2) = 0 ↔ ch % 2 = 0 := nI_eq (b := 0) (by omega) (by decide); simp only [q2] at h3; simp [h3]) dX1_choiceRole_21
  · refine lv_aload_n hx hb dX1_choiceRole_6 rfl (lv_at hl 0 rfl) ?_
    refine rw_getr (x := (I, A, K)) S hK hP (dB d 0) (dB_lt hd (by decide)) (cK_D (by decide)) fk_X1_27 rfl dX1_choiceRole_7 ?_
    refine lv_iload_n hx hb dX1_choiceRole_10 rfl (lv_at hl 1 rfl) ?_
    refine rw_iald (x := (I, A, K)) (v := nI (dF A d u)) S hK hP (dB d 5) (dB_lt hd (by decide)) (cK_D (by decide)) u rfl (by omega) (by decide) f1 dX1_choiceRole_11 ?_
    refine lv_goto (tgt := 21) hx hb dX1_choiceRole_12 (by decide) ?_
    exact re_si (v := nI (dF A d u)) hx hb hr hlk (by have q : ch % 2 < 2 := Nat.mod_lt _ (by decide); have q2 : nI (ch % 2) = 0 ↔ ch % 2 = 0 := nI_eq (b := 0) (by omega) (by decide); simp only [q2] at h3; simp [h3]) dX1_choiceRole_21

