def cVP (A : Nat → Nat → Int32) (d : Nat) (x : Int32) : Nat → Nat → Int32 → Int32
  | 0, _, _ => -1
  | n + 1, i, q => if cKept A d (i / 2) (i % 2) = 0 then (if q = x then nI i else cVP A d x n (i + 1) (q + 1)) else cVP A d x n (i + 1) q
theorem cVP_s {A : Nat → Nat → Int32} {d : Nat} {x : Int32} {n i : Nat} {q : Int32} : cVP A d x (n + 1) i q = if cKept A d (i / 2) (i % 2) = 0 then (if q = x then nI i else cVP A d x n (i + 1) (q + 1)) else cVP A d x n (i + 1) q := rfl
def ffn (f : Nat → Bool) : Nat → Nat → Option Nat
  | 0, _ => none
  | n + 1, i => if f i = true then some i else ffn f n (i + 1)
theorem ffn_s {f : Nat → Bool} {n i : Nat} : ffn f (n + 1) i = if f i = true then some i else ffn f n (i + 1) := rfl
theorem ffn_some {f : Nat → Bool} : ∀ {n i k : Nat}, ffn f n i = some k → i ≤ k ∧ k < i + n ∧ f k = true
  | 0, _, _, h => by cases h
  | n + 1, i, k, h => by
    rw [ffn_s] at h
    by_cases hf : f i = true
    · rw [if_pos hf] at h
      cases h
      exact ⟨Nat.le_refl _, by omega, hf⟩
    · rw [if_neg hf] at h
      obtain ⟨a, b, c⟩ := ffn_some h
      exact ⟨by omega, by omega, c⟩
def optI (x : Option Nat) : Int32 := match x with
  | none => -1
  | some k => nI k
def cRole (A : Nat → Nat → Int32) (d u ch : Nat) : Nat := if ch % 2 = 0 then dF A d u else dG A d u
/-- the design's colours with a choice's shift made -/
def cShd (A : Nat → Nat → Int32) (d u sc ch : Nat) : Nat → Nat → Int32 := up2 A (dB d (2 + sc)) (cRole A d u ch) (cShf (A (dB d (2 + sc)) (cRole A d u ch)) (cAmt (nI ch)))
def cTry (A : Nat → Nat → Int32) (d u sc nu : Nat) (ch : Nat) : Bool := decide (A (dB d 4) (cRole A d u ch) = 0 ∧ ¬ cKept (cShd A d u sc ch) d u sc = 0 ∧ cVio (cShd A d u sc ch) d sc nu < cVio A d sc nu)
def cBest (A : Nat → Nat → Int32) (d u sc nu : Nat) : Option Nat := ffn (cTry A d u sc nu) 1020 0
def cMnd (A : Nat → Nat → Int32) (d nu : Nat) : Nat → Nat → Int32 × (Nat → Nat → Int32)
  | 0, _ => (0, A)
  | n + 1, i => if cKept A d (i / 2) (i % 2) = 0 then (match cBest A d (i / 2) (i % 2) nu with | some ch => (1, cShd A d (i / 2) (i % 2) ch) | none => cMnd A d nu n (i + 1)) else cMnd A d nu n (i + 1)
theorem cMnd_k {A : Nat → Nat → Int32} {d nu n i : Nat} (h : ¬ cKept A d (i / 2) (i % 2) = 0) : cMnd A d nu (n + 1) i = cMnd A d nu n (i + 1) := if_neg h
theorem cMnd_n {A : Nat → Nat → Int32} {d nu n i : Nat} (h : cKept A d (i / 2) (i % 2) = 0) (h2 : cBest A d (i / 2) (i % 2) nu = none) : cMnd A d nu (n + 1) i = cMnd A d nu n (i + 1) := (if_pos h).trans (by rw [h2])
theorem cMnd_y {A : Nat → Nat → Int32} {d nu n i ch : Nat} (h : cKept A d (i / 2) (i % 2) = 0) (h2 : cBest A d (i / 2) (i % 2) nu = some ch) : cMnd A d nu (n + 1) i = (1, cShd A d (i / 2) (i % 2) ch) := (if_pos h).trans (by rw [h2])
def cExc (A : Nat → Nat → Int32) (d : Nat) : Nat → Nat → Nat → Int32 := lfo (fun r B => up2 (up2 B (dB d 2) r (B (dB d 3) r)) (dB d 3) r (B (dB d 2) r)) A
def cFix (A : Nat → Nat → Int32) (d e : Nat) : Nat → Nat → Nat → Int32 := lfo (fun r B => up2 B (dB d 4) r (vp_nar .boolean (B (dB e 4) r))) A
theorem up2_back {A : Nat → Nat → Int32} {q r : Nat} {v : Int32} : up2 (up2 A q r v) q r (A q r) = A := by
  funext a b
  by_cases h : a = q
  · subst h
    by_cases hb : b = r <;> simp [up2, hb]
  · simp [up2, h]
theorem DOk_col {I A : Nat → Nat → Int32} {d e nr nu sc r : Nat} {v : Int32} (hsc : sc < 2) (h : DOk I A d nr nu) : DOk I (up2 A (dB e (2 + sc)) r v) d nr nu := by
  have e5 : ∀ u, up2 A (dB e (2 + sc)) r v (dB d 5) u = A (dB d 5) u := fun u => up2_q (dB_ne (by decide) (by omega) (Or.inr (by omega)))
  have e6 : ∀ u, up2 A (dB e (2 + sc)) r v (dB d 6) u = A (dB d 6) u := fun u => up2_q (dB_ne (by decide) (by omega) (Or.inr (by omega)))
  have e7 : ∀ u, up2 A (dB e (2 + sc)) r v (dB d 7) u = A (dB d 7) u := fun u => up2_q (dB_ne (by decide) (by omega) (Or.inr (by omega)))
  unfold DOk dF dG dT at *
  simp only [e5, e6, e7]
  exact h
theorem cRole_lt {I A : Nat → Nat → Int32} {d nr nu u ch : Nat} (h : DOk I A d nr nu) (hu : u < nu) : cRole A d u ch < nr := by
  obtain ⟨⟨-, f⟩, ⟨-, g⟩, -⟩ := h.2.2 u hu
  unfold cRole
  split
  · exact f
  · exact g
set_option maxHeartbeats 1000000 in
set_option maxRecDepth 100000 in
theorem c_X1_violationPlace (l : Launch) (E : En) (I A : Nat → Nat → Int32) (K : Nat → Nat → Int64) (x : Int32) (d nr nu : Nat) (hE : Ev cN E) (hd : d < 10) (hD : DOk I A d nr nu) : Met l yX1_violationPlace (wz yX1_violationPlace cX1_violationPlace 4 (some .int)) (rmk 5 0 0 113) (va_Pc [.ref (eP E (dB d 0)), .int x] (Bw cN E cK (I, A, K))) (qSi (fun zz => zz = cVP A d x (2 * nu) 0 0)) 0 0 fr0 := by
  refine en_ofW RX1 rfl (by decide +kernel) (Nat.le_of_ble_eq_true rfl) ?_
  intro p e s m below meth c ls S hr hlk hnm hl hB
  have hx := S.1
  have hb := S.2.1
  obtain ⟨hK, hC, hP⟩ := hB
  have hS : va_S (cA cN E) s.heap s.heap [] := va_S.rf
  have hl : lv_has ls 4 [(0, .ref (eP E (dB d 0))), (1, .int x)] := hl
  obtain ⟨⟨hn1, hn2⟩, ⟨hr0, hr3⟩, hu3⟩ := id hD
  refine lv_iconst (v := 0) hx hb dX1_violationPlace_0 (by decide) ?_
  refine lv_istore_n (lv' := [(2, .int 0), (0, .ref (eP E (dB d 0))), (1, .int x)]) hx hb dX1_violationPlace_1 rfl hl (by decide) rfl (fun ls hl => ?_)
  refine lv_iconst (v := 0) hx hb dX1_violationPlace_2 (by decide) ?_
  refine lv_istore_n (lv' := [(3, .int 0), (2, .int 0), (0, .ref (eP E (dB d 0))), (1, .int x)]) hx hb dX1_violationPlace_3 rfl hl (by decide) rfl (fun ls hl => ?_)
  have HL : ∀ (n i : Nat) (q : Int32), i + n = (2 * nu) → cVP A d x n i q = cVP A d x (2 * nu) 0 0 → ∀ ls : Array Slot, lv_has ls 4 [(3, .int (nI i)), (2, .int q), (0, .ref (eP E (dB d 0))), (1, .int x)] → W p l e (rmk 5 0 0 113) s m ([.ref (eP E (dB d 0)), .int x] : List Value).toArray below meth c s.heap [] 0 0 (MQ below (qSi (fun zz => zz = cVP A d x (2 * nu) 0 0)) ([.ref (eP E (dB d 0)), .int x] : List Value).toArray s 0 0 fr0) (F0 m 4 ls []) := by
    intro n
    induction n with
    | zero =>
      intro i q hi hv ls hl
      have hiN : i = (2 * nu) := by omega
      rw [hiN] at hl
      refine lv_iload_n hx hb dX1_violationPlace_4 rfl (lv_at hl 0 rfl) ?_
      refine lv_iconst (v := 2) hx hb dX1_violationPlace_5 (by decide) ?_
      refine lv_aload_n hx hb dX1_violationPlace_6 rfl (lv_at hl 2 rfl) ?_
      refine rw_geti (x := (I, A, K)) (v := nI nu) S hK hP (dB d 0) (dB_lt hd (by decide)) (cK_D (by decide)) fk_X1_24 rfl hr3 dX1_violationPlace_7 ?_
      refine lv_imul hx hb dX1_violationPlace_10 ?_
      refine tp_i (y := nI (2 * nu)) (pk_mul 2 nu) ?_
      refine lv_icmp_ge (tgt := 43) hx hb dX1_violationPlace_11 (by decide) (fun h11 => ?_) (fun h11 => absurd (Int32.le_refl _) h11)
      refine lv_iconst (v := (-1)) hx hb dX1_violationPlace_43 (by decide) ?_
      exact re_si (v := (-1)) hx hb hr hlk hv dX1_violationPlace_44
    | succ n ih =>
      intro i q hi hv ls hl
      have hlt : i < (2 * nu) := by omega
      refine lv_iload_n hx hb dX1_violationPlace_4 rfl (lv_at hl 0 rfl) ?_
      refine lv_iconst (v := 2) hx hb dX1_violationPlace_5 (by decide) ?_
      refine lv_aload_n hx hb dX1_violationPlace_6 rfl (lv_at hl 2 rfl) ?_
      refine rw_geti (x := (I, A, K)) (v := nI nu) S hK hP (dB d 0) (dB_lt hd (by decide)) (cK_D (by decide)) fk_X1_24 rfl hr3 dX1_violationPlace_7 ?_
      refine lv_imul hx hb dX1_violationPlace_10 ?_
      refine tp_i (y := nI (2 * nu)) (pk_mul 2 nu) ?_
      refine lv_icmp_ge (tgt := 43) hx hb dX1_violationPlace_11 (by decide) (fun h11 => absurd h11 (nI_ge hlt (by omega))) (fun h11 => ?_)
      refine lv_aload_n hx hb dX1_violationPlace_14 rfl (lv_at hl 2 rfl) ?_
      refine lv_iload_n hx hb dX1_violationPlace_15 rfl (lv_at hl 0 rfl) ?_
      refine lv_iconst (v := 2) hx hb dX1_violationPlace_16 (by decide) ?_
      refine lv_idiv hx hb dX1_violationPlace_17 (by decide) ?_
      refine tp_i (y := nI (i / 2)) (pk_div (by omega) (by decide) (by decide)) ?_
      refine lv_iload_n hx hb dX1_violationPlace_18 rfl (lv_at hl 0 rfl) ?_
      refine lv_iconst (v := 2) hx hb dX1_violationPlace_19 (by decide) ?_
      refine lv_irem hx hb dX1_violationPlace_20 (by decide) ?_
      refine tp_i (y := nI (i % 2)) (pk_rem (by omega) (by decide) (by decide)) ?_
      refine cn_si (ck_V (a := eP E (dB d 0)) S lk_X1_64 (c_X1_isKept l E I A K d nr nu (i / 2) (i % 2) hE hd hD (by omega) (by omega)) ⟨rfl, rfl⟩ ⟨Nat.le_of_ble_eq_true rfl, Nat.le_of_ble_eq_true rfl⟩ bl_w (rc_w hK hP (dB d 0) (dB_lt hd (by decide)) (cK_D (by decide)) rfl) (bw_U hE hK hC hP hS) rfl hl.1 (Nat.le_of_ble_eq_true rfl) ⟨Nat.le_refl _, Nat.le_refl _⟩ dX1_violationPlace_21 rfl) (fun r1 g2 => ?_)
      obtain rfl : r1 = cKept A d (i / 2) (i % 2) := g2
      refine lv_if_ne (tgt := 37) hx hb dX1_violationPlace_24 (by decide) (fun h24 => ?_) (fun h24 => ?_)
      · refine lv_iinc (v := nI (i + 1)) (lv' := [(3, .int (nI (i + 1))), (2, .int q), (0, .ref (eP E (dB d 0))), (1, .int x)]) hx hb dX1_violationPlace_37 hl (k := 0) rfl (nI_1 _) (by decide) rfl (fun ls hl => ?_)
        refine lv_goto (tgt := 4) hx hb dX1_violationPlace_40 (by decide) ?_
        exact ih (i + 1) q (by omega) (by rw [← hv, cVP_s, if_neg h24]) ls (lv_sub hl [0, 1, 2, 3] rfl)
      · refine lv_iload_n hx hb dX1_violationPlace_27 rfl (lv_at hl 1 rfl) ?_
        refine lv_iload_n hx hb dX1_violationPlace_28 rfl (lv_at hl 3 rfl) ?_
        refine lv_icmp_ne (tgt := 34) hx hb dX1_violationPlace_29 (by decide) (fun h29 => ?_) (fun h29 => ?_)
        · refine lv_iinc (v := q + 1) (lv' := [(2, .int (q + 1)), (3, .int (nI i)), (0, .ref (eP E (dB d 0))), (1, .int x)]) hx hb dX1_violationPlace_34 hl (k := 1) rfl rfl (by decide) rfl (fun ls hl => ?_)
          refine lv_iinc (v := nI (i + 1)) (lv' := [(3, .int (nI (i + 1))), (2, .int (q + 1)), (0, .ref (eP E (dB d 0))), (1, .int x)]) hx hb dX1_violationPlace_37 hl (k := 1) rfl (nI_1 _) (by decide) rfl (fun ls hl => ?_)
          refine lv_goto (tgt := 4) hx hb dX1_violationPlace_40 (by decide) ?_
          exact ih (i + 1) (q + 1) (by omega) (by rw [← hv, cVP_s, if_pos h24, if_neg h29]) ls (lv_sub hl [0, 1, 2, 3] rfl)
        · refine lv_iload_n hx hb dX1_violationPlace_32 rfl (lv_at hl 0 rfl) ?_
          exact re_si (v := nI i) hx hb hr hlk (by rw [← hv, cVP_s, if_pos h24, if_pos h29]) dX1_violationPlace_33
  exact HL (2 * nu) 0 0 (by omega) rfl ls (lv_sub hl [0, 1, 2, 3] rfl)

set_option maxHeartbeats 1000000 in
set_option maxRecDepth 100000 in
theorem c_X1_bestChoice (l : Launch) (E : En) (I A : Nat → Nat → Int32) (K : Nat → Nat → Int64) (d nr nu u sc : Nat) (hE : Ev cN E) (hd : d < 10) (hD : DOk I A d nr nu) (hu : u < nu) (hsc : sc < 2) : Met l yX1_bestChoice (wz yX1_bestChoice cX1_bestChoice 8 (some .int)) (rmk 5 0 0 114) (va_Pc [.ref (eP E (dB d 0)), .int (nI u), .int (nI sc)] (Bw cN E cK (I, A, K))) (qWi cN E cK (fun zz uu => zz = optI (cBest A d u sc nu) ∧ uu = (I, A, K))) 0 0 (cA cN E) := by
  refine en_ofW RX1 rfl (by decide +kernel) (Nat.le_of_ble_eq_true rfl) ?_
  intro p e s m below meth c ls S hr hlk hnm hl hB
  have hx := S.1
  have hb := S.2.1
  obtain ⟨hK, hC, hP⟩ := hB
  have hS : va_S (cA cN E) s.heap s.heap [] := va_S.rf
  have hl : lv_has ls 8 [(0, .ref (eP E (dB d 0))), (1, .int (nI u)), (2, .int (nI sc))] := hl
  obtain ⟨⟨hn1, hn2⟩, ⟨hr0, hr3⟩, hu3⟩ := id hD
  refine lv_aload_n hx hb dX1_bestChoice_0 rfl (lv_at hl 0 rfl) ?_
  refine lv_iload_n hx hb dX1_bestChoice_1 rfl (lv_at hl 2 rfl) ?_
  refine cn_si (ck_V (a := eP E (dB d 0)) S lk_X1_68 (c_X1_violatedIn l E I A K d nr nu sc hE hd hD hsc) ⟨rfl, rfl⟩ ⟨Nat.le_of_ble_eq_true rfl, Nat.le_of_ble_eq_true rfl⟩ bl_w (rc_w hK hP (dB d 0) (dB_lt hd (by decide)) (cK_D (by decide)) rfl) (bw_U hE hK hC hP hS) rfl hl.1 (Nat.le_of_ble_eq_true rfl) ⟨Nat.le_refl _, Nat.le_refl _⟩ dX1_bestChoice_2 rfl) (fun r1 g2 => ?_)
  obtain rfl : r1 = cVio A d sc nu := g2
  refine lv_istore_n (lv' := [(3, .int (cVio A d sc nu)), (0, .ref (eP E (dB d 0))), (1, .int (nI u)), (2, .int (nI sc))]) hx hb dX1_bestChoice_5 rfl hl (by decide) rfl (fun ls hl => ?_)
  refine lv_iconst (v := (-1)) hx hb dX1_bestChoice_6 (by decide) ?_
  refine lv_istore (lv' := [(4, .int (-1)), (3, .int (cVio A d sc nu)), (0, .ref (eP E (dB d 0))), (1, .int (nI u)), (2, .int (nI sc))]) hx hb dX1_bestChoice_7 hl (by decide) rfl (fun ls hl => ?_)
  refine lv_iconst (v := 0) hx hb dX1_bestChoice_9 (by decide) ?_
  refine lv_istore (lv' := [(5, .int 0), (4, .int (-1)), (3, .int (cVio A d sc nu)), (0, .ref (eP E (dB d 0))), (1, .int (nI u)), (2, .int (nI sc))]) hx hb dX1_bestChoice_10 hl (by decide) rfl (fun ls hl => ?_)
  have HL : ∀ (n i : Nat), i + n = 1020 → ffn (cTry A d u sc nu) n i = ffn (cTry A d u sc nu) 1020 0 → ∀ (H : Heap) (locs : List Loc), Wp cN E cK (I, A, K) H → va_S (cA cN E) s.heap H locs → ∀ ls : Array Slot, lv_has ls 8 [(5, .int (nI i)), (4, .int (-1)), (3, .int (cVio A d sc nu)), (0, .ref (eP E (dB d 0))), (1, .int (nI u)), (2, .int (nI sc))] → W p l e (rmk 5 0 0 114) s m ([.ref (eP E (dB d 0)), .int (nI u), .int (nI sc)] : List Value).toArray below meth c H locs 0 0 (MQ below (qWi cN E cK (fun zz uu => zz = optI (cBest A d u sc nu) ∧ uu = (I, A, K))) ([.ref (eP E (dB d 0)), .int (nI u), .int (nI sc)] : List Value).toArray s 0 0 (cA cN E)) (F0 m 12 ls []) := by
    intro n
    induction n with
    | zero =>
      intro i hi hv H locs hP hS ls hl
      have hiN : i = 1020 := by omega
      rw [hiN] at hl
      try rw [hiN] at hP
      refine lv_iload hx hb dX1_bestChoice_12 (lv_at hl 0 rfl) ?_
      refine lv_sipush (v := 1020) hx hb dX1_bestChoice_14 (by decide) ?_
      refine lv_icmp_ge (tgt := 113) hx hb dX1_bestChoice_17 (by decide) (fun h17 => ?_) (fun h17 => absurd (Int32.le_refl _) h17)
      refine lv_iload hx hb dX1_bestChoice_113 (lv_at hl 1 rfl) ?_
      exact re_wi (x := (I, A, K)) (v := (-1)) hx hb hr hlk hP hS ⟨(by unfold cBest; rw [← hv]; rfl), rfl⟩ dX1_bestChoice_115
    | succ n ih =>
      intro i hi hv H locs hP hS ls hl
      have hlt : i < 1020 := by omega
      refine lv_iload hx hb dX1_bestChoice_12 (lv_at hl 0 rfl) ?_
      refine lv_sipush (v := 1020) hx hb dX1_bestChoice_14 (by decide) ?_
      refine lv_icmp_ge (tgt := 113) hx hb dX1_bestChoice_17 (by decide) (fun h17 => absurd h17 (nI_ge (b := 1020) hlt (by decide))) (fun h17 => ?_)
      refine lv_iload hx hb dX1_bestChoice_20 (lv_at hl 1 rfl) ?_
      refine lv_if_ge (tgt := 113) hx hb dX1_bestChoice_22 (by decide) (fun h22 => absurd h22 (by decide)) (fun h22 => ?_)
      refine lv_aload_n hx hb dX1_bestChoice_25 rfl (lv_at hl 3 rfl) ?_
      refine lv_iload_n hx hb dX1_bestChoice_26 rfl (lv_at hl 4 rfl) ?_
      refine lv_iload hx hb dX1_bestChoice_27 (lv_at hl 0 rfl) ?_
      refine cn_si (ck_V (a := eP E (dB d 0)) S lk_X1_72 (c_X1_choiceRole l E I A K d nr nu u i hE hd hD hu hlt) ⟨rfl, rfl⟩ ⟨Nat.le_of_ble_eq_true rfl, Nat.le_of_ble_eq_true rfl⟩ bl_w (rc_w hK hP (dB d 0) (dB_lt hd (by decide)) (cK_D (by decide)) rfl) (bw_U hE hK hC hP hS) rfl hl.1 (Nat.le_of_ble_eq_true rfl) ⟨Nat.le_refl _, Nat.le_refl _⟩ dX1_bestChoice_29 rfl) (fun r3 g4 => ?_)
      obtain rfl : r3 = nI (cRole A d u i) := g4
      refine lv_istore (lv' := [(6, .int (nI (cRole A d u i))), (5, .int (nI i)), (4, .int (-1)), (3, .int (cVio A d sc nu)), (0, .ref (eP E (dB d 0))), (1, .int (nI u)), (2, .int (nI sc))]) hx hb dX1_bestChoice_32 hl (by decide) rfl (fun ls hl => ?_)
      refine lv_aload_n hx hb dX1_bestChoice_34 rfl (lv_at hl 4 rfl) ?_
      refine rw_getr (x := (I, A, K)) S hK hP (dB d 0) (dB_lt hd (by decide)) (cK_D (by decide)) fk_X1_20 rfl dX1_bestChoice_35 ?_
      refine lv_iload hx hb dX1_bestChoice_38 (lv_at hl 0 rfl) ?_
      refine rw_zald (x := (I, A, K)) (v := A (dB d 4) (cRole A d u i)) S hK hP (dB d 4) (dB_lt hd (by decide)) (cK_D (by decide)) (cRole A d u i) rfl (by have := cRole_lt (ch := i) hD hu; omega) (by decide) rfl dX1_bestChoice_40 ?_
      refine lv_if_ne (tgt := 107) hx hb dX1_bestChoice_41 (by decide) (fun h41 => ?_) (fun h41 => ?_)
      · refine lv_iinc (v := nI (i + 1)) (lv' := [(5, .int (nI (i + 1))), (6, .int (nI (cRole A d u i))), (4, .int (-1)), (3, .int (cVio A d sc nu)), (0, .ref (eP E (dB d 0))), (1, .int (nI u)), (2, .int (nI sc))]) hx hb dX1_bestChoice_107 hl (k := 1) rfl (nI_1 _) (by decide) rfl (fun ls hl => ?_)
        refine lv_goto (tgt := 12) hx hb dX1_bestChoice_110 (by decide) ?_
        have hnp : ¬ cTry A d u sc nu i = true := (fun q => h41 (of_decide_eq_true q).1)
        exact ih (i + 1) (by omega) (by rw [← hv, ffn_s, if_neg hnp]) _ _ hP hS ls (lv_sub hl [0, 2, 3, 4, 5, 6] rfl)
      · refine lv_aload_n hx hb dX1_bestChoice_44 rfl (lv_at hl 4 rfl) ?_
        refine rw_getr (x := (I, A, K)) S hK hP (dB d 0) (dB_lt hd (by decide)) (cK_D (by decide)) fk_X1_17 rfl dX1_bestChoice_45 ?_
        refine lv_iload_n hx hb dX1_bestChoice_48 rfl (lv_at hl 6 rfl) ?_
        refine rw_aald (x := (I, A, K)) (r := (dB d (2 + sc))) S hK hP (dB d 1) (dB_lt hd (by decide)) 5 (cK_D (by decide)) rfl rfl sc rfl (by omega) (by decide) rfl dX1_bestChoice_49 ?_
        refine lv_iload hx hb dX1_bestChoice_50 (lv_at hl 0 rfl) ?_
        refine rw_iald (x := (I, A, K)) (v := A (dB d (2 + sc)) (cRole A d u i)) S hK hP (dB d (2 + sc)) (dB_lt hd (by omega)) (cK_col hsc) (cRole A d u i) rfl (by have := cRole_lt (ch := i) hD hu; omega) (by decide) rfl dX1_bestChoice_52 ?_
        refine lv_istore (lv' := [(7, .int (A (dB d (2 + sc)) (cRole A d u i))), (6, .int (nI (cRole A d u i))), (5, .int (nI i)), (4, .int (-1)), (3, .int (cVio A d sc nu)), (0, .ref (eP E (dB d 0))), (1, .int (nI u)), (2, .int (nI sc))]) hx hb dX1_bestChoice_53 hl (by decide) rfl (fun ls hl => ?_)
        refine lv_aload_n hx hb dX1_bestChoice_55 rfl (lv_at hl 5 rfl) ?_
        refine rw_getr (x := (I, A, K)) S hK hP (dB d 0) (dB_lt hd (by decide)) (cK_D (by decide)) fk_X1_17 rfl dX1_bestChoice_56 ?_
        refine lv_iload_n hx hb dX1_bestChoice_59 rfl (lv_at hl 7 rfl) ?_
        refine rw_aald (x := (I, A, K)) (r := (dB d (2 + sc))) S hK hP (dB d 1) (dB_lt hd (by decide)) 5 (cK_D (by decide)) rfl rfl sc rfl (by omega) (by decide) rfl dX1_bestChoice_60 ?_
        refine lv_iload hx hb dX1_bestChoice_61 (lv_at hl 1 rfl) ?_
        refine lv_iload hx hb dX1_bestChoice_63 (lv_at hl 0 rfl) ?_
        refine lv_iload hx hb dX1_bestChoice_65 (lv_at hl 2 rfl) ?_
        refine cn_si (ck_S S lk_X1_75 (c_X1_choiceAmount l (nI i)) ⟨rfl, rfl⟩ ⟨Nat.le_of_ble_eq_true rfl, Nat.le_of_ble_eq_true rfl⟩ bl_T t_U rfl hl.1 (Nat.le_of_ble_eq_true rfl) ⟨Nat.le_refl _, Nat.le_refl _⟩ dX1_bestChoice_67 rfl) (fun r5 g6 => ?_)
        obtain rfl : r5 = cAmt (nI i) := g6
        refine cn_si (ck_S S lk_X1_78 (c_X0_shifted l E (A (dB d (2 + sc)) (cRole A d u i)) (cAmt (nI i))) ⟨rfl, rfl⟩ ⟨Nat.le_of_ble_eq_true rfl, Nat.le_of_ble_eq_true rfl⟩ bl_s (bs_U hE hC hS) rfl hl.1 (Nat.le_of_ble_eq_true rfl) ⟨Nat.le_refl _, Nat.le_refl _⟩ dX1_bestChoice_70 rfl) (fun r7 g8 => ?_)
        obtain rfl : r7 = cShf (A (dB d (2 + sc)) (cRole A d u i)) (cAmt (nI i)) := g8
        refine rw_iast (x := (I, A, K)) (v := (cShf (A (dB d (2 + sc)) (cRole A d u i)) (cAmt (nI i)))) S hE hK hP hS (dB d (2 + sc)) (dB_lt hd (by omega)) (cK_col hsc) (cRole A d u i) rfl (by have := cRole_lt (ch := i) hD hu; omega) (by decide) dX1_bestChoice_73 (fun H locs hP hS => ?_)
        have hP : Wp cN E cK (I, (up2 A (dB d (2 + sc)) (cRole A d u i) (cShf (A (dB d (2 + sc)) (cRole A d u i)) (cAmt (nI i)))), K) H := hP
        refine lv_aload_n hx hb dX1_bestChoice_74 rfl (lv_at hl 5 rfl) ?_
        refine lv_iload_n hx hb dX1_bestChoice_75 rfl (lv_at hl 6 rfl) ?_
        refine lv_iload_n hx hb dX1_bestChoice_76 rfl (lv_at hl 7 rfl) ?_
        refine cn_si (ck_V (a := eP E (dB d 0)) S lk_X1_64 (c_X1_isKept l E I (up2 A (dB d (2 + sc)) (cRole A d u i) (cShf (A (dB d (2 + sc)) (cRole A d u i)) (cAmt (nI i)))) K d nr nu u sc hE hd (DOk_col hsc hD) hu hsc) ⟨rfl, rfl⟩ ⟨Nat.le_of_ble_eq_true rfl, Nat.le_of_ble_eq_true rfl⟩ bl_w (rc_w hK hP (dB d 0) (dB_lt hd (by decide)) (cK_D (by decide)) rfl) (bw_U hE hK hC hP hS) rfl hl.1 (Nat.le_of_ble_eq_true rfl) ⟨Nat.le_refl _, Nat.le_refl _⟩ dX1_bestChoice_77 rfl) (fun r9 g10 => ?_)
        obtain rfl : r9 = cKept (up2 A (dB d (2 + sc)) (cRole A d u i) (cShf (A (dB d (2 + sc)) (cRole A d u i)) (cAmt (nI i)))) d u sc := g10
        refine lv_if_eq (tgt := 96) hx hb dX1_bestChoice_80 (by decide) (fun h80 => ?_) (fun h80 => ?_)
        · refine lv_aload_n hx hb dX1_bestChoice_96 rfl (lv_at hl 5 rfl) ?_
          refine rw_getr (x := (I, (up2 A (dB d (2 + sc)) (cRole A d u i) (cShf (A (dB d (2 + sc)) (cRole A d u i)) (cAmt (nI i)))), K)) S hK hP (dB d 0) (dB_lt hd (by decide)) (cK_D (by decide)) fk_X1_17 rfl dX1_bestChoice_97 ?_
          refine lv_iload_n hx hb dX1_bestChoice_100 rfl (lv_at hl 7 rfl) ?_
          refine rw_aald (x := (I, (up2 A (dB d (2 + sc)) (cRole A d u i) (cShf (A (dB d (2 + sc)) (cRole A d u i)) (cAmt (nI i)))), K)) (r := (dB d (2 + sc))) S hK hP (dB d 1) (dB_lt hd (by decide)) 5 (cK_D (by decide)) rfl rfl sc rfl (by omega) (by decide) rfl dX1_bestChoice_101 ?_
          refine lv_iload hx hb dX1_bestChoice_102 (lv_at hl 1 rfl) ?_
          refine lv_iload hx hb dX1_bestChoice_104 (lv_at hl 0 rfl) ?_
          refine rw_iast (x := (I, (up2 A (dB d (2 + sc)) (cRole A d u i) (cShf (A (dB d (2 + sc)) (cRole A d u i)) (cAmt (nI i)))), K)) (v := A (dB d (2 + sc)) (cRole A d u i)) S hE hK hP hS (dB d (2 + sc)) (dB_lt hd (by omega)) (cK_col hsc) (cRole A d u i) rfl (by have := cRole_lt (ch := i) hD hu; omega) (by decide) dX1_bestChoice_106 (fun H locs hP hS => ?_)
          have hP : Wp cN E cK (I, (up2 (up2 A (dB d (2 + sc)) (cRole A d u i) (cShf (A (dB d (2 + sc)) (cRole A d u i)) (cAmt (nI i)))) (dB d (2 + sc)) (cRole A d u i) (A (dB d (2 + sc)) (cRole A d u i))), K) H := hP
          rw [up2_back] at hP
          refine lv_iinc (v := nI (i + 1)) (lv' := [(5, .int (nI (i + 1))), (7, .int (A (dB d (2 + sc)) (cRole A d u i))), (6, .int (nI (cRole A d u i))), (4, .int (-1)), (3, .int (cVio A d sc nu)), (0, .ref (eP E (dB d 0))), (1, .int (nI u)), (2, .int (nI sc))]) hx hb dX1_bestChoice_107 hl (k := 2) rfl (nI_1 _) (by decide) rfl (fun ls hl => ?_)
          refine lv_goto (tgt := 12) hx hb dX1_bestChoice_110 (by decide) ?_
          have hnp : ¬ cTry A d u sc nu i = true := (fun q => (of_decide_eq_true q).2.1 h80)
          exact ih (i + 1) (by omega) (by rw [← hv, ffn_s, if_neg hnp]) _ _ hP hS ls (lv_sub hl [0, 3, 4, 5, 6, 7] rfl)
        · refine lv_aload_n hx hb dX1_bestChoice_83 rfl (lv_at hl 5 rfl) ?_
          refine lv_iload_n hx hb dX1_bestChoice_84 rfl (lv_at hl 7 rfl) ?_
          refine cn_si (ck_V (a := eP E (dB d 0)) S lk_X1_68 (c_X1_violatedIn l E I (up2 A (dB d (2 + sc)) (cRole A d u i) (cShf (A (dB d (2 + sc)) (cRole A d u i)) (cAmt (nI i)))) K d nr nu sc hE hd (DOk_col hsc hD) hsc) ⟨rfl, rfl⟩ ⟨Nat.le_of_ble_eq_true rfl, Nat.le_of_ble_eq_true rfl⟩ bl_w (rc_w hK hP (dB d 0) (dB_lt hd (by decide)) (cK_D (by decide)) rfl) (bw_U hE hK hC hP hS) rfl hl.1 (Nat.le_of_ble_eq_true rfl) ⟨Nat.le_refl _, Nat.le_refl _⟩ dX1_bestChoice_85 rfl) (fun r11 g12 => ?_)
          obtain rfl : r11 = cVio (up2 A (dB d (2 + sc)) (cRole A d u i) (cShf (A (dB d (2 + sc)) (cRole A d u i)) (cAmt (nI i)))) d sc nu := g12
          refine lv_iload_n hx hb dX1_bestChoice_88 rfl (lv_at hl 4 rfl) ?_
          refine lv_icmp_ge (tgt := 96) hx hb dX1_bestChoice_89 (by decide) (fun h89 => ?_) (fun h89 => ?_)
          · refine lv_aload_n hx hb dX1_bestChoice_96 rfl (lv_at hl 5 rfl) ?_
            refine rw_getr (x := (I, (up2 A (dB d (2 + sc)) (cRole A d u i) (cShf (A (dB d (2 + sc)) (cRole A d u i)) (cAmt (nI i)))), K)) S hK hP (dB d 0) (dB_lt hd (by decide)) (cK_D (by decide)) fk_X1_17 rfl dX1_bestChoice_97 ?_
            refine lv_iload_n hx hb dX1_bestChoice_100 rfl (lv_at hl 7 rfl) ?_
            refine rw_aald (x := (I, (up2 A (dB d (2 + sc)) (cRole A d u i) (cShf (A (dB d (2 + sc)) (cRole A d u i)) (cAmt (nI i)))), K)) (r := (dB d (2 + sc))) S hK hP (dB d 1) (dB_lt hd (by decide)) 5 (cK_D (by decide)) rfl rfl sc rfl (by omega) (by decide) rfl dX1_bestChoice_101 ?_
            refine lv_iload hx hb dX1_bestChoice_102 (lv_at hl 1 rfl) ?_
            refine lv_iload hx hb dX1_bestChoice_104 (lv_at hl 0 rfl) ?_
            refine rw_iast (x := (I, (up2 A (dB d (2 + sc)) (cRole A d u i) (cShf (A (dB d (2 + sc)) (cRole A d u i)) (cAmt (nI i)))), K)) (v := A (dB d (2 + sc)) (cRole A d u i)) S hE hK hP hS (dB d (2 + sc)) (dB_lt hd (by omega)) (cK_col hsc) (cRole A d u i) rfl (by have := cRole_lt (ch := i) hD hu; omega) (by decide) dX1_bestChoice_106 (fun H locs hP hS => ?_)
            have hP : Wp cN E cK (I, (up2 (up2 A (dB d (2 + sc)) (cRole A d u i) (cShf (A (dB d (2 + sc)) (cRole A d u i)) (cAmt (nI i)))) (dB d (2 + sc)) (cRole A d u i) (A (dB d (2 + sc)) (cRole A d u i))), K) H := hP
            rw [up2_back] at hP
            refine lv_iinc (v := nI (i + 1)) (lv' := [(5, .int (nI (i + 1))), (7, .int (A (dB d (2 + sc)) (cRole A d u i))), (6, .int (nI (cRole A d u i))), (4, .int (-1)), (3, .int (cVio A d sc nu)), (0, .ref (eP E (dB d 0))), (1, .int (nI u)), (2, .int (nI sc))]) hx hb dX1_bestChoice_107 hl (k := 2) rfl (nI_1 _) (by decide) rfl (fun ls hl => ?_)
            refine lv_goto (tgt := 12) hx hb dX1_bestChoice_110 (by decide) ?_
            have hnp : ¬ cTry A d u sc nu i = true := (fun q => absurd (of_decide_eq_true q).2.2 (n_lt h89))
            exact ih (i + 1) (by omega) (by rw [← hv, ffn_s, if_neg hnp]) _ _ hP hS ls (lv_sub hl [0, 3, 4, 5, 6, 7] rfl)
          · refine lv_iload hx hb dX1_bestChoice_92 (lv_at hl 2 rfl) ?_
            refine lv_istore (lv' := [(4, .int (nI i)), (7, .int (A (dB d (2 + sc)) (cRole A d u i))), (6, .int (nI (cRole A d u i))), (5, .int (nI i)), (3, .int (cVio A d sc nu)), (0, .ref (eP E (dB d 0))), (1, .int (nI u)), (2, .int (nI sc))]) hx hb dX1_bestChoice_94 hl (by decide) rfl (fun ls hl => ?_)
            refine lv_aload_n hx hb dX1_bestChoice_96 rfl (lv_at hl 5 rfl) ?_
            refine rw_getr (x := (I, (up2 A (dB d (2 + sc)) (cRole A d u i) (cShf (A (dB d (2 + sc)) (cRole A d u i)) (cAmt (nI i)))), K)) S hK hP (dB d 0) (dB_lt hd (by decide)) (cK_D (by decide)) fk_X1_17 rfl dX1_bestChoice_97 ?_
            refine lv_iload_n hx hb dX1_bestChoice_100 rfl (lv_at hl 7 rfl) ?_
            refine rw_aald (x := (I, (up2 A (dB d (2 + sc)) (cRole A d u i) (cShf (A (dB d (2 + sc)) (cRole A d u i)) (cAmt (nI i)))), K)) (r := (dB d (2 + sc))) S hK hP (dB d 1) (dB_lt hd (by decide)) 5 (cK_D (by decide)) rfl rfl sc rfl (by omega) (by decide) rfl dX1_bestChoice_101 ?_
            refine lv_iload hx hb dX1_bestChoice_102 (lv_at hl 2 rfl) ?_
            refine lv_iload hx hb dX1_bestChoice_104 (lv_at hl 1 rfl) ?_
            refine rw_iast (x := (I, (up2 A (dB d (2 + sc)) (cRole A d u i) (cShf (A (dB d (2 + sc)) (cRole A d u i)) (cAmt (nI i)))), K)) (v := A (dB d (2 + sc)) (cRole A d u i)) S hE hK hP hS (dB d (2 + sc)) (dB_lt hd (by omega)) (cK_col hsc) (cRole A d u i) rfl (by have := cRole_lt (ch := i) hD hu; omega) (by decide) dX1_bestChoice_106 (fun H locs hP hS => ?_)
            have hP : Wp cN E cK (I, (up2 (up2 A (dB d (2 + sc)) (cRole A d u i) (cShf (A (dB d (2 + sc)) (cRole A d u i)) (cAmt (nI i)))) (dB d (2 + sc)) (cRole A d u i) (A (dB d (2 + sc)) (cRole A d u i))), K) H := hP
            rw [up2_back] at hP
            refine lv_iinc (v := nI (i + 1)) (lv' := [(5, .int (nI (i + 1))), (4, .int (nI i)), (7, .int (A (dB d (2 + sc)) (cRole A d u i))), (6, .int (nI (cRole A d u i))), (3, .int (cVio A d sc nu)), (0, .ref (eP E (dB d 0))), (1, .int (nI u)), (2, .int (nI sc))]) hx hb dX1_bestChoice_107 hl (k := 3) rfl (nI_1 _) (by decide) rfl (fun ls hl => ?_)
            refine lv_goto (tgt := 12) hx hb dX1_bestChoice_110 (by decide) ?_
            refine lv_iload hx hb dX1_bestChoice_12 (lv_at hl 0 rfl) ?_
            refine lv_sipush (v := 1020) hx hb dX1_bestChoice_14 (by decide) ?_
            refine lv_icmp_ge (tgt := 113) hx hb dX1_bestChoice_17 (by decide) (fun h17 => ?_) (fun h17 => ?_)
            · refine lv_iload hx hb dX1_bestChoice_113 (lv_at hl 1 rfl) ?_
              exact re_wi (x := (I, A, K)) (v := nI i) hx hb hr hlk hP hS ⟨(by unfold cBest; rw [← hv, ffn_s, if_pos (show cTry A d u sc nu i = true from decide_eq_true ⟨h41, h80, l_lt h89⟩)]; rfl), rfl⟩ dX1_bestChoice_115
            · refine lv_iload hx hb dX1_bestChoice_20 (lv_at hl 1 rfl) ?_
              refine lv_if_ge (tgt := 113) hx hb dX1_bestChoice_22 (by decide) (fun h22 => ?_) (fun h22 => absurd (nI_pos' (by omega)) h22)
              refine lv_iload hx hb dX1_bestChoice_113 (lv_at hl 1 rfl) ?_
              exact re_wi (x := (I, A, K)) (v := nI i) hx hb hr hlk hP hS ⟨(by unfold cBest; rw [← hv, ffn_s, if_pos (show cTry A d u sc nu i = true from decide_eq_true ⟨h41, h80, l_lt h89⟩)]; rfl), rfl⟩ dX1_bestChoice_115
  exact HL 1020 0 (by omega) rfl _ _ hP hS ls (lv_sub hl [0, 1, 2, 3, 4, 5] rfl)

set_option maxHeartbeats 1000000 in
set_option maxRecDepth 100000 in
theorem c_X1_mendFirst (l : Launch) (E : En) (I A : Nat → Nat → Int32) (K : Nat → Nat → Int64) (d nr nu : Nat) (hE : Ev cN E) (hd : d < 10) (hD : DOk I A d nr nu) : Met l yX1_mendFirst (wz yX1_mendFirst cX1_mendFirst 6 (some .boolean)) (rmk 6 0 0 141) (va_Pc [.ref (eP E (dB d 0))] (Bw cN E cK (I, A, K))) (qWi cN E cK (fun zz uu => zz = (cMnd A d nu (2 * nu) 0).1 ∧ uu = (I, (cMnd A d nu (2 * nu) 0).2, K))) 0 0 (cA cN E) := by
  refine en_ofW RX1 rfl (by decide +kernel) (Nat.le_of_ble_eq_true rfl) ?_
  intro p e s m below meth c ls S hr hlk hnm hl hB
  have hx := S.1
  have hb := S.2.1
  obtain ⟨hK, hC, hP⟩ := hB
  have hS : va_S (cA cN E) s.heap s.heap [] := va_S.rf
  have hl : lv_has ls 6 [(0, .ref (eP E (dB d 0)))] := hl
  obtain ⟨⟨hn1, hn2⟩, ⟨hr0, hr3⟩, hu3⟩ := id hD
  refine lv_iconst (v := 0) hx hb dX1_mendFirst_0 (by decide) ?_
  refine lv_istore_n (lv' := [(1, .int 0), (0, .ref (eP E (dB d 0)))]) hx hb dX1_mendFirst_1 rfl hl (by decide) rfl (fun ls hl => ?_)
  have HL : ∀ (n i : Nat), i + n = (2 * nu) → cMnd A d nu n i = cMnd A d nu (2 * nu) 0 → ∀ (H : Heap) (locs : List Loc), Wp cN E cK (I, A, K) H → va_S (cA cN E) s.heap H locs → ∀ ls : Array Slot, lv_has ls 6 [(1, .int (nI i)), (0, .ref (eP E (dB d 0)))] → W p l e (rmk 6 0 0 141) s m ([.ref (eP E (dB d 0))] : List Value).toArray below meth c H locs 0 0 (MQ below (qWi cN E cK (fun zz uu => zz = (cMnd A d nu (2 * nu) 0).1 ∧ uu = (I, (cMnd A d nu (2 * nu) 0).2, K))) ([.ref (eP E (dB d 0))] : List Value).toArray s 0 0 (cA cN E)) (F0 m 2 ls []) := by
    intro n
    induction n with
    | zero =>
      intro i hi hv H locs hP hS ls hl
      have hiN : i = (2 * nu) := by omega
      rw [hiN] at hl
      try rw [hiN] at hP
      refine lv_iload_n hx hb dX1_mendFirst_2 rfl (lv_at hl 0 rfl) ?_
      refine lv_iconst (v := 2) hx hb dX1_mendFirst_3 (by decide) ?_
      refine lv_aload_n hx hb dX1_mendFirst_4 rfl (lv_at hl 1 rfl) ?_
      refine rw_geti (x := (I, A, K)) (v := nI nu) S hK hP (dB d 0) (dB_lt hd (by decide)) (cK_D (by decide)) fk_X1_24 rfl hr3 dX1_mendFirst_5 ?_
      refine lv_imul hx hb dX1_mendFirst_8 ?_
      refine tp_i (y := nI (2 * nu)) (pk_mul 2 nu) ?_
      refine lv_icmp_ge (tgt := 89) hx hb dX1_mendFirst_9 (by decide) (fun h9 => ?_) (fun h9 => absurd (Int32.le_refl _) h9)
      refine lv_iconst (v := 0) hx hb dX1_mendFirst_89 (by decide) ?_
      exact re_wz (x := (I, A, K)) (v := 0) hx hb hr hlk rfl hP hS ⟨(by rw [← hv]; rfl), (by rw [← hv]; rfl)⟩ dX1_mendFirst_90
    | succ n ih =>
      intro i hi hv H locs hP hS ls hl
      have hlt : i < (2 * nu) := by omega
      refine lv_iload_n hx hb dX1_mendFirst_2 rfl (lv_at hl 0 rfl) ?_
      refine lv_iconst (v := 2) hx hb dX1_mendFirst_3 (by decide) ?_
      refine lv_aload_n hx hb dX1_mendFirst_4 rfl (lv_at hl 1 rfl) ?_
      refine rw_geti (x := (I, A, K)) (v := nI nu) S hK hP (dB d 0) (dB_lt hd (by decide)) (cK_D (by decide)) fk_X1_24 rfl hr3 dX1_mendFirst_5 ?_
      refine lv_imul hx hb dX1_mendFirst_8 ?_
      refine tp_i (y := nI (2 * nu)) (pk_mul 2 nu) ?_
      refine lv_icmp_ge (tgt := 89) hx hb dX1_mendFirst_9 (by decide) (fun h9 => absurd h9 (nI_ge hlt (by omega))) (fun h9 => ?_)
      refine lv_iload_n hx hb dX1_mendFirst_12 rfl (lv_at hl 0 rfl) ?_
      refine lv_iconst (v := 2) hx hb dX1_mendFirst_13 (by decide) ?_
      refine lv_idiv hx hb dX1_mendFirst_14 (by decide) ?_
      refine tp_i (y := nI (i / 2)) (pk_div (by omega) (by decide) (by decide)) ?_
      refine lv_istore_n (lv' := [(2, .int (nI (i / 2))), (1, .int (nI i)), (0, .ref (eP E (dB d 0)))]) hx hb dX1_mendFirst_15 rfl hl (by decide) rfl (fun ls hl => ?_)
      refine lv_iload_n hx hb dX1_mendFirst_16 rfl (lv_at hl 1 rfl) ?_
      refine lv_iconst (v := 2) hx hb dX1_mendFirst_17 (by decide) ?_
      refine lv_irem hx hb dX1_mendFirst_18 (by decide) ?_
      refine tp_i (y := nI (i % 2)) (pk_rem (by omega) (by decide) (by decide)) ?_
      refine lv_istore_n (lv' := [(3, .int (nI (i % 2))), (2, .int (nI (i / 2))), (1, .int (nI i)), (0, .ref (eP E (dB d 0)))]) hx hb dX1_mendFirst_19 rfl hl (by decide) rfl (fun ls hl => ?_)
      refine lv_aload_n hx hb dX1_mendFirst_20 rfl (lv_at hl 3 rfl) ?_
      refine lv_iload_n hx hb dX1_mendFirst_21 rfl (lv_at hl 1 rfl) ?_
      refine lv_iload_n hx hb dX1_mendFirst_22 rfl (lv_at hl 0 rfl) ?_
      refine cn_si (ck_V (a := eP E (dB d 0)) S lk_X1_64 (c_X1_isKept l E I A K d nr nu (i / 2) (i % 2) hE hd hD (by omega) (by omega)) ⟨rfl, rfl⟩ ⟨Nat.le_of_ble_eq_true rfl, Nat.le_of_ble_eq_true rfl⟩ bl_w (rc_w hK hP (dB d 0) (dB_lt hd (by decide)) (cK_D (by decide)) rfl) (bw_U hE hK hC hP hS) rfl hl.1 (Nat.le_of_ble_eq_true rfl) ⟨Nat.le_refl _, Nat.le_refl _⟩ dX1_mendFirst_23 rfl) (fun r1 g2 => ?_)
      obtain rfl : r1 = cKept A d (i / 2) (i % 2) := g2
      refine lv_if_eq (tgt := 33) hx hb dX1_mendFirst_26 (by decide) (fun h26 => ?_) (fun h26 => ?_)
      · refine lv_aload_n hx hb dX1_mendFirst_33 rfl (lv_at hl 3 rfl) ?_
        refine lv_iload_n hx hb dX1_mendFirst_34 rfl (lv_at hl 1 rfl) ?_
        refine lv_iload_n hx hb dX1_mendFirst_35 rfl (lv_at hl 0 rfl) ?_
        refine cn_wi (ck_V (a := eP E (dB d 0)) S lk_X1_81 (c_X1_bestChoice l E I A K d nr nu (i / 2) (i % 2) hE hd hD (by omega) (by omega)) ⟨rfl, rfl⟩ ⟨Nat.le_of_ble_eq_true rfl, Nat.le_of_ble_eq_true rfl⟩ bl_w (rc_w hK hP (dB d 0) (dB_lt hd (by decide)) (cK_D (by decide)) rfl) (bw_U hE hK hC hP hS) rfl hl.1 (Nat.le_of_ble_eq_true rfl) ⟨Nat.le_refl _, Nat.le_refl _⟩ dX1_mendFirst_36 rfl) hS (fun r3 u4 H locs g5 hP hS => ?_)
        obtain ⟨rfl, rfl⟩ : r3 = optI (cBest A d (i / 2) (i % 2) nu) ∧ u4 = (I, A, K) := g5
        have hP : Wp cN E cK (I, A, K) H := hP
        rcases hq : cBest A d (i / 2) (i % 2) nu with _ | ch
        · refine tp_i (y := (-1)) rfl ?_
          refine lv_istore (lv' := [(4, .int (-1)), (3, .int (nI (i % 2))), (2, .int (nI (i / 2))), (1, .int (nI i)), (0, .ref (eP E (dB d 0)))]) hx hb dX1_mendFirst_39 hl (by decide) rfl (fun ls hl => ?_)
          refine lv_iload hx hb dX1_mendFirst_41 (lv_at hl 0 rfl) ?_
          refine lv_if_lt (tgt := 83) hx hb dX1_mendFirst_43 (by decide) (fun h43 => ?_) (fun h43 => absurd (by decide) h43)
          refine lv_iinc (v := nI (i + 1)) (lv' := [(1, .int (nI (i + 1))), (4, .int (-1)), (3, .int (nI (i % 2))), (2, .int (nI (i / 2))), (0, .ref (eP E (dB d 0)))]) hx hb dX1_mendFirst_83 hl (k := 3) rfl (nI_1 _) (by decide) rfl (fun ls hl => ?_)
          refine lv_goto (tgt := 2) hx hb dX1_mendFirst_86 (by decide) ?_
          exact ih (i + 1) (by omega) (by rw [← hv, cMnd_n h26 hq]) _ _ hP hS ls (lv_sub hl [0, 4] rfl)
        · refine tp_i (y := nI ch) rfl ?_
          obtain ⟨-, hc2, -⟩ := ffn_some hq
          have hc3 : ch < 1020 := by omega
          have hrl := cRole_lt (u := i / 2) (ch := ch) hD (by omega)
          refine lv_istore (lv' := [(4, .int (nI ch)), (3, .int (nI (i % 2))), (2, .int (nI (i / 2))), (1, .int (nI i)), (0, .ref (eP E (dB d 0)))]) hx hb dX1_mendFirst_39 hl (by decide) rfl (fun ls hl => ?_)
          refine lv_iload hx hb dX1_mendFirst_41 (lv_at hl 0 rfl) ?_
          refine lv_if_lt (tgt := 83) hx hb dX1_mendFirst_43 (by decide) (fun h43 => absurd h43 (nI_pos (by omega))) (fun h43 => ?_)
          refine lv_aload_n hx hb dX1_mendFirst_46 rfl (lv_at hl 4 rfl) ?_
          refine lv_iload_n hx hb dX1_mendFirst_47 rfl (lv_at hl 2 rfl) ?_
          refine lv_iload hx hb dX1_mendFirst_48 (lv_at hl 0 rfl) ?_
          refine cn_si (ck_V (a := eP E (dB d 0)) S lk_X1_72 (c_X1_choiceRole l E I A K d nr nu (i / 2) ch hE hd hD (by omega) hc3) ⟨rfl, rfl⟩ ⟨Nat.le_of_ble_eq_true rfl, Nat.le_of_ble_eq_true rfl⟩ bl_w (rc_w hK hP (dB d 0) (dB_lt hd (by decide)) (cK_D (by decide)) rfl) (bw_U hE hK hC hP hS) rfl hl.1 (Nat.le_of_ble_eq_true rfl) ⟨Nat.le_refl _, Nat.le_refl _⟩ dX1_mendFirst_50 rfl) (fun r6 g7 => ?_)
          obtain rfl : r6 = nI (cRole A d (i / 2) ch) := g7
          refine lv_istore (lv' := [(5, .int (nI (cRole A d (i / 2) ch))), (4, .int (nI ch)), (3, .int (nI (i % 2))), (2, .int (nI (i / 2))), (1, .int (nI i)), (0, .ref (eP E (dB d 0)))]) hx hb dX1_mendFirst_53 hl (by decide) rfl (fun ls hl => ?_)
          refine lv_aload_n hx hb dX1_mendFirst_55 rfl (lv_at hl 5 rfl) ?_
          refine rw_getr (x := (I, A, K)) S hK hP (dB d 0) (dB_lt hd (by decide)) (cK_D (by decide)) fk_X1_17 rfl dX1_mendFirst_56 ?_
          refine lv_iload_n hx hb dX1_mendFirst_59 rfl (lv_at hl 2 rfl) ?_
          refine rw_aald (x := (I, A, K)) (r := (dB d (2 + (i % 2)))) S hK hP (dB d 1) (dB_lt hd (by decide)) 5 (cK_D (by decide)) rfl rfl (i % 2) rfl (by omega) (by decide) rfl dX1_mendFirst_60 ?_
          refine lv_iload hx hb dX1_mendFirst_61 (lv_at hl 0 rfl) ?_
          refine lv_aload_n hx hb dX1_mendFirst_63 rfl (lv_at hl 5 rfl) ?_
          refine rw_getr (x := (I, A, K)) S hK hP (dB d 0) (dB_lt hd (by decide)) (cK_D (by decide)) fk_X1_17 rfl dX1_mendFirst_64 ?_
          refine lv_iload_n hx hb dX1_mendFirst_67 rfl (lv_at hl 2 rfl) ?_
          refine rw_aald (x := (I, A, K)) (r := (dB d (2 + (i % 2)))) S hK hP (dB d 1) (dB_lt hd (by decide)) 5 (cK_D (by decide)) rfl rfl (i % 2) rfl (by omega) (by decide) rfl dX1_mendFirst_68 ?_
          refine lv_iload hx hb dX1_mendFirst_69 (lv_at hl 0 rfl) ?_
          refine rw_iald (x := (I, A, K)) (v := A (dB d (2 + (i % 2))) (cRole A d (i / 2) ch)) S hK hP (dB d (2 + (i % 2))) (dB_lt hd (by omega)) (cK_col (by omega)) (cRole A d (i / 2) ch) rfl (by omega) (by decide) rfl dX1_mendFirst_71 ?_
          refine lv_iload hx hb dX1_mendFirst_72 (lv_at hl 1 rfl) ?_
          refine cn_si (ck_S S lk_X1_75 (c_X1_choiceAmount l (nI ch)) ⟨rfl, rfl⟩ ⟨Nat.le_of_ble_eq_true rfl, Nat.le_of_ble_eq_true rfl⟩ bl_T t_U rfl hl.1 (Nat.le_of_ble_eq_true rfl) ⟨Nat.le_refl _, Nat.le_refl _⟩ dX1_mendFirst_74 rfl) (fun r8 g9 => ?_)
          obtain rfl : r8 = cAmt (nI ch) := g9
          refine cn_si (ck_S S lk_X1_78 (c_X0_shifted l E (A (dB d (2 + (i % 2))) (cRole A d (i / 2) ch)) (cAmt (nI ch))) ⟨rfl, rfl⟩ ⟨Nat.le_of_ble_eq_true rfl, Nat.le_of_ble_eq_true rfl⟩ bl_s (bs_U hE hC hS) rfl hl.1 (Nat.le_of_ble_eq_true rfl) ⟨Nat.le_refl _, Nat.le_refl _⟩ dX1_mendFirst_77 rfl) (fun r10 g11 => ?_)
          obtain rfl : r10 = cShf (A (dB d (2 + (i % 2))) (cRole A d (i / 2) ch)) (cAmt (nI ch)) := g11
          refine rw_iast (x := (I, A, K)) (v := (cShf (A (dB d (2 + (i % 2))) (cRole A d (i / 2) ch)) (cAmt (nI ch)))) S hE hK hP hS (dB d (2 + (i % 2))) (dB_lt hd (by omega)) (cK_col (by omega)) (cRole A d (i / 2) ch) rfl (by omega) (by decide) dX1_mendFirst_80 (fun H locs hP hS => ?_)
          have hP : Wp cN E cK (I, (up2 A (dB d (2 + (i % 2))) (cRole A d (i / 2) ch) (cShf (A (dB d (2 + (i % 2))) (cRole A d (i / 2) ch)) (cAmt (nI ch)))), K) H := hP
          refine lv_iconst (v := 1) hx hb dX1_mendFirst_81 (by decide) ?_
          exact re_wz (x := (I, (up2 A (dB d (2 + (i % 2))) (cRole A d (i / 2) ch) (cShf (A (dB d (2 + (i % 2))) (cRole A d (i / 2) ch)) (cAmt (nI ch)))), K)) (v := 1) hx hb hr hlk rfl hP hS ⟨(by rw [← hv, cMnd_y h26 hq]), (by rw [← hv, cMnd_y h26 hq]; rfl)⟩ dX1_mendFirst_82
      · refine lv_iconst (v := (-1)) hx hb dX1_mendFirst_29 (by decide) ?_
        refine lv_goto (tgt := 39) hx hb dX1_mendFirst_30 (by decide) ?_
        refine lv_istore (lv' := [(4, .int (-1)), (3, .int (nI (i % 2))), (2, .int (nI (i / 2))), (1, .int (nI i)), (0, .ref (eP E (dB d 0)))]) hx hb dX1_mendFirst_39 hl (by decide) rfl (fun ls hl => ?_)
        refine lv_iload hx hb dX1_mendFirst_41 (lv_at hl 0 rfl) ?_
        refine lv_if_lt (tgt := 83) hx hb dX1_mendFirst_43 (by decide) (fun h43 => ?_) (fun h43 => absurd (by decide) h43)
        refine lv_iinc (v := nI (i + 1)) (lv' := [(1, .int (nI (i + 1))), (4, .int (-1)), (3, .int (nI (i % 2))), (2, .int (nI (i / 2))), (0, .ref (eP E (dB d 0)))]) hx hb dX1_mendFirst_83 hl (k := 3) rfl (nI_1 _) (by decide) rfl (fun ls hl => ?_)
        refine lv_goto (tgt := 2) hx hb dX1_mendFirst_86 (by decide) ?_
        exact ih (i + 1) (by omega) (by rw [← hv, cMnd_k h26]) _ _ hP hS ls (lv_sub hl [0, 4] rfl)
  exact HL (2 * nu) 0 (by omega) rfl _ _ hP hS ls (lv_sub hl [0, 1] rfl)

set_option maxHeartbeats 1000000 in
set_option maxRecDepth 100000 in
theorem c_X1_exchangeColours (l : Launch) (E : En) (I A : Nat → Nat → Int32) (K : Nat → Nat → Int64) (d nr nu : Nat) (hE : Ev cN E) (hd : d < 10) (hD : DOk I A d nr nu) : Met l yX1_exchangeColours (wz yX1_exchangeColours cX1_exchangeColours 3 none) (rmk 0 0 0 0) (va_Pc [.ref (eP E (dB d 0))] (Bw cN E cK (I, A, K))) (qWv cN E cK (fun uu => uu = (I, cExc A d nr, K))) 0 0 (cA cN E) := by
  refine en_ofW RX1 rfl (by decide +kernel) (Nat.le_of_ble_eq_true rfl) ?_
  intro p e s m below meth c ls S hr hlk hnm hl hB
  have hx := S.1
  have hb := S.2.1
  obtain ⟨hK, hC, hP⟩ := hB
  have hS : va_S (cA cN E) s.heap s.heap [] := va_S.rf
  have hl : lv_has ls 3 [(0, .ref (eP E (dB d 0)))] := hl
  obtain ⟨⟨hn1, hn2⟩, ⟨hr0, hr3⟩, hu3⟩ := id hD
  refine lv_iconst (v := 0) hx hb dX1_exchangeColours_0 (by decide) ?_
  refine lv_istore_n (lv' := [(1, .int 0), (0, .ref (eP E (dB d 0)))]) hx hb dX1_exchangeColours_1 rfl hl (by decide) rfl (fun ls hl => ?_)
  have HL : ∀ (n i : Nat), i + n = nr → ∀ (H : Heap) (locs : List Loc), Wp cN E cK (I, (cExc A d i), K) H → va_S (cA cN E) s.heap H locs → ∀ ls : Array Slot, lv_has ls 3 [(1, .int (nI i)), (0, .ref (eP E (dB d 0)))] → W p l e (rmk 0 0 0 0) s m ([.ref (eP E (dB d 0))] : List Value).toArray below meth c H locs 0 0 (MQ below (qWv cN E cK (fun uu => uu = (I, cExc A d nr, K))) ([.ref (eP E (dB d 0))] : List Value).toArray s 0 0 (cA cN E)) (F0 m 2 ls []) := by
    intro n
    induction n with
    | zero =>
      intro i hi H locs hP hS ls hl
      have hiN : i = nr := by omega
      rw [hiN] at hl
      try rw [hiN] at hP
      refine lv_iload_n hx hb dX1_exchangeColours_2 rfl (lv_at hl 0 rfl) ?_
      refine lv_aload_n hx hb dX1_exchangeColours_3 rfl (lv_at hl 1 rfl) ?_
      refine rw_geti (x := (I, (cExc A d nr), K)) (v := nI nr) S hK hP (dB d 0) (dB_lt hd (by decide)) (cK_D (by decide)) fk_X1_9 rfl hr0 dX1_exchangeColours_4 ?_
      refine lv_icmp_ge (tgt := 50) hx hb dX1_exchangeColours_7 (by decide) (fun h7 => ?_) (fun h7 => absurd (Int32.le_refl _) h7)
      exact re_wv (x := (I, (cExc A d nr), K)) hx hb hr hlk hP hS rfl dX1_exchangeColours_50
    | succ n ih =>
      intro i hi H locs hP hS ls hl
      have hlt : i < nr := by omega
      refine lv_iload_n hx hb dX1_exchangeColours_2 rfl (lv_at hl 0 rfl) ?_
      refine lv_aload_n hx hb dX1_exchangeColours_3 rfl (lv_at hl 1 rfl) ?_
      refine rw_geti (x := (I, (cExc A d i), K)) (v := nI nr) S hK hP (dB d 0) (dB_lt hd (by decide)) (cK_D (by decide)) fk_X1_9 rfl hr0 dX1_exchangeColours_4 ?_
      refine lv_icmp_ge (tgt := 50) hx hb dX1_exchangeColours_7 (by decide) (fun h7 => absurd h7 (nI_ge hlt (by omega))) (fun h7 => ?_)
      refine lv_aload_n hx hb dX1_exchangeColours_10 rfl (lv_at hl 1 rfl) ?_
      refine rw_getr (x := (I, (cExc A d i), K)) S hK hP (dB d 0) (dB_lt hd (by decide)) (cK_D (by decide)) fk_X1_17 rfl dX1_exchangeColours_11 ?_
      refine lv_iconst (v := 0) hx hb dX1_exchangeColours_14 (by decide) ?_
      refine rw_aald (x := (I, (cExc A d i), K)) (r := (dB d 2)) S hK hP (dB d 1) (dB_lt hd (by decide)) 5 (cK_D (by decide)) rfl rfl 0 rfl (by decide) (by decide) rfl dX1_exchangeColours_15 ?_
      refine lv_iload_n hx hb dX1_exchangeColours_16 rfl (lv_at hl 0 rfl) ?_
      refine rw_iald (x := (I, (cExc A d i), K)) (v := (cExc A d i) (dB d 2) i) S hK hP (dB d 2) (dB_lt hd (by decide)) (cK_D (by decide)) i rfl (by omega) (by decide) rfl dX1_exchangeColours_17 ?_
      refine lv_istore_n (lv' := [(2, .int ((cExc A d i) (dB d 2) i)), (1, .int (nI i)), (0, .ref (eP E (dB d 0)))]) hx hb dX1_exchangeColours_18 rfl hl (by decide) rfl (fun ls hl => ?_)
      refine lv_aload_n hx hb dX1_exchangeColours_19 rfl (lv_at hl 2 rfl) ?_
      refine rw_getr (x := (I, (cExc A d i), K)) S hK hP (dB d 0) (dB_lt hd (by decide)) (cK_D (by decide)) fk_X1_17 rfl dX1_exchangeColours_20 ?_
      refine lv_iconst (v := 0) hx hb dX1_exchangeColours_23 (by decide) ?_
      refine rw_aald (x := (I, (cExc A d i), K)) (r := (dB d 2)) S hK hP (dB d 1) (dB_lt hd (by decide)) 5 (cK_D (by decide)) rfl rfl 0 rfl (by decide) (by decide) rfl dX1_exchangeColours_24 ?_
      refine lv_iload_n hx hb dX1_exchangeColours_25 rfl (lv_at hl 1 rfl) ?_
      refine lv_aload_n hx hb dX1_exchangeColours_26 rfl (lv_at hl 2 rfl) ?_
      refine rw_getr (x := (I, (cExc A d i), K)) S hK hP (dB d 0) (dB_lt hd (by decide)) (cK_D (by decide)) fk_X1_17 rfl dX1_exchangeColours_27 ?_
      refine lv_iconst (v := 1) hx hb dX1_exchangeColours_30 (by decide) ?_
      refine rw_aald (x := (I, (cExc A d i), K)) (r := (dB d 3)) S hK hP (dB d 1) (dB_lt hd (by decide)) 5 (cK_D (by decide)) rfl rfl 1 rfl (by decide) (by decide) rfl dX1_exchangeColours_31 ?_
      refine lv_iload_n hx hb dX1_exchangeColours_32 rfl (lv_at hl 1 rfl) ?_
      refine rw_iald (x := (I, (cExc A d i), K)) (v := (cExc A d i) (dB d 3) i) S hK hP (dB d 3) (dB_lt hd (by decide)) (cK_D (by decide)) i rfl (by omega) (by decide) rfl dX1_exchangeColours_33 ?_
      refine rw_iast (x := (I, (cExc A d i), K)) (v := (cExc A d i) (dB d 3) i) S hE hK hP hS (dB d 2) (dB_lt hd (by decide)) (cK_D (by decide)) i rfl (by omega) (by decide) dX1_exchangeColours_34 (fun H locs hP hS => ?_)
      have hP : Wp cN E cK (I, (up2 (cExc A d i) (dB d 2) i ((cExc A d i) (dB d 3) i)), K) H := hP
      refine lv_aload_n hx hb dX1_exchangeColours_35 rfl (lv_at hl 2 rfl) ?_
      refine rw_getr (x := (I, (up2 (cExc A d i) (dB d 2) i ((cExc A d i) (dB d 3) i)), K)) S hK hP (dB d 0) (dB_lt hd (by decide)) (cK_D (by decide)) fk_X1_17 rfl dX1_exchangeColours_36 ?_
      refine lv_iconst (v := 1) hx hb dX1_exchangeColours_39 (by decide) ?_
      refine rw_aald (x := (I, (up2 (cExc A d i) (dB d 2) i ((cExc A d i) (dB d 3) i)), K)) (r := (dB d 3)) S hK hP (dB d 1) (dB_lt hd (by decide)) 5 (cK_D (by decide)) rfl rfl 1 rfl (by decide) (by decide) rfl dX1_exchangeColours_40 ?_
      refine lv_iload_n hx hb dX1_exchangeColours_41 rfl (lv_at hl 1 rfl) ?_
      refine lv_iload_n hx hb dX1_exchangeColours_42 rfl (lv_at hl 0 rfl) ?_
      refine rw_iast (x := (I, (up2 (cExc A d i) (dB d 2) i ((cExc A d i) (dB d 3) i)), K)) (v := (cExc A d i) (dB d 2) i) S hE hK hP hS (dB d 3) (dB_lt hd (by decide)) (cK_D (by decide)) i rfl (by omega) (by decide) dX1_exchangeColours_43 (fun H locs hP hS => ?_)
      have hP : Wp cN E cK (I, (up2 (up2 (cExc A d i) (dB d 2) i ((cExc A d i) (dB d 3) i)) (dB d 3) i ((cExc A d i) (dB d 2) i)), K) H := hP
      refine lv_iinc (v := nI (i + 1)) (lv' := [(1, .int (nI (i + 1))), (2, .int ((cExc A d i) (dB d 2) i)), (0, .ref (eP E (dB d 0)))]) hx hb dX1_exchangeColours_44 hl (k := 1) rfl (nI_1 _) (by decide) rfl (fun ls hl => ?_)
      refine lv_goto (tgt := 2) hx hb dX1_exchangeColours_47 (by decide) ?_
      exact ih (i + 1) (by omega) _ _ hP hS ls (lv_sub hl [0, 2] rfl)
  exact HL nr 0 (by omega) _ _ hP hS ls (lv_sub hl [0, 1] rfl)

set_option maxHeartbeats 1000000 in
set_option maxRecDepth 100000 in
theorem c_X1_clear (l : Launch) (E : En) (I A : Nat → Nat → Int32) (K : Nat → Nat → Int64) (d : Nat) (hE : Ev cN E) (hd : d < 10) : Met l yX1_clear (wz yX1_clear cX1_clear 1 none) (rmk 0 0 0 0) (va_Pc [.ref (eP E (dB d 0))] (Bw cN E cK (I, A, K))) (qWv cN E cK (fun uu => uu = (up2 (up2 I (dB d 0) 0 0) (dB d 0) 3 0, A, K))) 0 0 (cA cN E) := by
  refine en_ofW RX1 rfl (by decide +kernel) (Nat.le_of_ble_eq_true rfl) ?_
  intro p e s m below meth c ls S hr hlk hnm hl hB
  have hx := S.1
  have hb := S.2.1
  obtain ⟨hK, hC, hP⟩ := hB
  have hS : va_S (cA cN E) s.heap s.heap [] := va_S.rf
  have hl : lv_has ls 1 [(0, .ref (eP E (dB d 0)))] := hl
  refine lv_aload_n hx hb dX1_clear_0 rfl (lv_at hl 0 rfl) ?_
  refine lv_iconst (v := 0) hx hb dX1_clear_1 (by decide) ?_
  refine rw_puti (x := (I, A, K)) (v := 0) S hE hK hP hS (dB d 0) (dB_lt hd (by decide)) (cK_D (by decide)) fk_X1_9 rfl tyX1_ok nmX1 ⟨rfl, by decide +kernel⟩ dX1_clear_2 (fun H locs hP hS => ?_)
  have hP : Wp cN E cK ((up2 I (dB d 0) 0 0), A, K) H := hP
  refine lv_aload_n hx hb dX1_clear_5 rfl (lv_at hl 0 rfl) ?_
  refine lv_iconst (v := 0) hx hb dX1_clear_6 (by decide) ?_
  refine rw_puti (x := ((up2 I (dB d 0) 0 0), A, K)) (v := 0) S hE hK hP hS (dB d 0) (dB_lt hd (by decide)) (cK_D (by decide)) fk_X1_24 rfl tyX1_ok nmX1 ⟨rfl, by decide +kernel⟩ dX1_clear_7 (fun H locs hP hS => ?_)
  have hP : Wp cN E cK ((up2 (up2 I (dB d 0) 0 0) (dB d 0) 3 0), A, K) H := hP
  exact re_wv (x := ((up2 (up2 I (dB d 0) 0 0) (dB d 0) 3 0), A, K)) hx hb hr hlk hP hS rfl dX1_clear_10

def cAdR (A : Nat → Nat → Int32) (d nr : Nat) (li da fx : Int32) : Nat → Nat → Int32 := up2 (up2 (up2 A (dB d 2) nr li) (dB d 3) nr da) (dB d 4) nr (vp_nar .boolean fx)
def cAdU (A : Nat → Nat → Int32) (d nu : Nat) (f g t n : Int32) : Nat → Nat → Int32 := up2 (up2 (up2 (up2 (up2 A (dB d 5) nu f) (dB d 6) nu g) (dB d 7) nu t) (dB d 9) nu n) (dB d 10) nu n
set_option maxHeartbeats 1000000 in
set_option maxRecDepth 100000 in
theorem c_X1_addRole (l : Launch) (E : En) (I A : Nat → Nat → Int32) (K : Nat → Nat → Int64) (li da fx : Int32) (d nr : Nat) (hE : Ev cN E) (hd : d < 10) (hr0 : I (dB d 0) 0 = nI nr) (hn : nr < 10) : Met l yX1_addRole (wz yX1_addRole cX1_addRole 4 none) (rmk 0 0 0 0) (va_Pc [.ref (eP E (dB d 0)), .int li, .int da, .int fx] (Bw cN E cK (I, A, K))) (qWv cN E cK (fun uu => uu = (up2 I (dB d 0) 0 (nI (nr + 1)), cAdR A d nr li da fx, K))) 0 0 (cA cN E) := by
  refine en_ofW RX1 rfl (by decide +kernel) (Nat.le_of_ble_eq_true rfl) ?_
  intro p e s m below meth c ls S hr hlk hnm hl hB
  have hx := S.1
  have hb := S.2.1
  obtain ⟨hK, hC, hP⟩ := hB
  have hS : va_S (cA cN E) s.heap s.heap [] := va_S.rf
  have hl : lv_has ls 4 [(0, .ref (eP E (dB d 0))), (1, .int li), (2, .int da), (3, .int fx)] := hl
  refine lv_aload_n hx hb dX1_addRole_0 rfl (lv_at hl 0 rfl) ?_
  refine rw_geti (x := (I, A, K)) (v := nI nr) S hK hP (dB d 0) (dB_lt hd (by decide)) (cK_D (by decide)) fk_X1_9 rfl hr0 dX1_addRole_1 ?_
  refine lv_bipush (v := 10) hx hb dX1_addRole_4 (by decide) ?_
  refine lv_icmp_ge (tgt := 53) hx hb dX1_addRole_6 (by decide) (fun h6 => absurd h6 (nI_ge (b := 10) hn (by decide))) (fun h6 => ?_)
  refine lv_aload_n hx hb dX1_addRole_9 rfl (lv_at hl 0 rfl) ?_
  refine rw_getr (x := (I, A, K)) S hK hP (dB d 0) (dB_lt hd (by decide)) (cK_D (by decide)) fk_X1_17 rfl dX1_addRole_10 ?_
  refine lv_iconst (v := 0) hx hb dX1_addRole_13 (by decide) ?_
  refine rw_aald (x := (I, A, K)) (r := (dB d 2)) S hK hP (dB d 1) (dB_lt hd (by decide)) 5 (cK_D (by decide)) rfl rfl 0 rfl (by decide) (by decide) rfl dX1_addRole_14 ?_
  refine lv_aload_n hx hb dX1_addRole_15 rfl (lv_at hl 0 rfl) ?_
  refine rw_geti (x := (I, A, K)) (v := nI nr) S hK hP (dB d 0) (dB_lt hd (by decide)) (cK_D (by decide)) fk_X1_9 rfl hr0 dX1_addRole_16 ?_
  refine lv_iload_n hx hb dX1_addRole_19 rfl (lv_at hl 1 rfl) ?_
  refine rw_iast (x := (I, A, K)) (v := li) S hE hK hP hS (dB d 2) (dB_lt hd (by decide)) (cK_D (by decide)) nr rfl (by omega) (by decide) dX1_addRole_20 (fun H locs hP hS => ?_)
  have hP : Wp cN E cK (I, (up2 A (dB d 2) nr li), K) H := hP
  refine lv_aload_n hx hb dX1_addRole_21 rfl (lv_at hl 0 rfl) ?_
  refine rw_getr (x := (I, (up2 A (dB d 2) nr li), K)) S hK hP (dB d 0) (dB_lt hd (by decide)) (cK_D (by decide)) fk_X1_17 rfl dX1_addRole_22 ?_
  refine lv_iconst (v := 1) hx hb dX1_addRole_25 (by decide) ?_
  refine rw_aald (x := (I, (up2 A (dB d 2) nr li), K)) (r := (dB d 3)) S hK hP (dB d 1) (dB_lt hd (by decide)) 5 (cK_D (by decide)) rfl rfl 1 rfl (by decide) (by decide) rfl dX1_addRole_26 ?_
  refine lv_aload_n hx hb dX1_addRole_27 rfl (lv_at hl 0 rfl) ?_
  refine rw_geti (x := (I, (up2 A (dB d 2) nr li), K)) (v := nI nr) S hK hP (dB d 0) (dB_lt hd (by decide)) (cK_D (by decide)) fk_X1_9 rfl hr0 dX1_addRole_28 ?_
  refine lv_iload_n hx hb dX1_addRole_31 rfl (lv_at hl 2 rfl) ?_
  refine rw_iast (x := (I, (up2 A (dB d 2) nr li), K)) (v := da) S hE hK hP hS (dB d 3) (dB_lt hd (by decide)) (cK_D (by decide)) nr rfl (by omega) (by decide) dX1_addRole_32 (fun H locs hP hS => ?_)
  have hP : Wp cN E cK (I, (up2 (up2 A (dB d 2) nr li) (dB d 3) nr da), K) H := hP
  refine lv_aload_n hx hb dX1_addRole_33 rfl (lv_at hl 0 rfl) ?_
  refine rw_getr (x := (I, (up2 (up2 A (dB d 2) nr li) (dB d 3) nr da), K)) S hK hP (dB d 0) (dB_lt hd (by decide)) (cK_D (by decide)) fk_X1_20 rfl dX1_addRole_34 ?_
  refine lv_aload_n hx hb dX1_addRole_37 rfl (lv_at hl 0 rfl) ?_
  refine rw_geti (x := (I, (up2 (up2 A (dB d 2) nr li) (dB d 3) nr da), K)) (v := nI nr) S hK hP (dB d 0) (dB_lt hd (by decide)) (cK_D (by decide)) fk_X1_9 rfl hr0 dX1_addRole_38 ?_
  refine lv_iload_n hx hb dX1_addRole_41 rfl (lv_at hl 3 rfl) ?_
  refine rw_zast (x := (I, (up2 (up2 A (dB d 2) nr li) (dB d 3) nr da), K)) (v := fx) (w := vp_nar .boolean fx) S hE hK hP hS (dB d 4) (dB_lt hd (by decide)) (cK_D (by decide)) nr rfl (by omega) (by decide) rfl dX1_addRole_42 (fun H locs hP hS => ?_)
  have hP : Wp cN E cK (I, (up2 (up2 (up2 A (dB d 2) nr li) (dB d 3) nr da) (dB d 4) nr (vp_nar .boolean fx)), K) H := hP
  refine lv_aload_n hx hb dX1_addRole_43 rfl (lv_at hl 0 rfl) ?_
  refine lv_dup hx hb dX1_addRole_44 rfl ?_
  refine rw_geti (x := (I, (up2 (up2 (up2 A (dB d 2) nr li) (dB d 3) nr da) (dB d 4) nr (vp_nar .boolean fx)), K)) (v := nI nr) S hK hP (dB d 0) (dB_lt hd (by decide)) (cK_D (by decide)) fk_X1_9 rfl hr0 dX1_addRole_45 ?_
  refine lv_iconst (v := 1) hx hb dX1_addRole_48 (by decide) ?_
  refine lv_iadd hx hb dX1_addRole_49 ?_
  refine tp_i (y := nI (nr + 1)) (nI_1 nr) ?_
  refine rw_puti (x := (I, (up2 (up2 (up2 A (dB d 2) nr li) (dB d 3) nr da) (dB d 4) nr (vp_nar .boolean fx)), K)) (v := (nI (nr + 1))) S hE hK hP hS (dB d 0) (dB_lt hd (by decide)) (cK_D (by decide)) fk_X1_9 rfl tyX1_ok nmX1 ⟨rfl, by decide +kernel⟩ dX1_addRole_50 (fun H locs hP hS => ?_)
  have hP : Wp cN E cK ((up2 I (dB d 0) 0 (nI (nr + 1))), (up2 (up2 (up2 A (dB d 2) nr li) (dB d 3) nr da) (dB d 4) nr (vp_nar .boolean fx)), K) H := hP
  exact re_wv (x := ((up2 I (dB d 0) 0 (nI (nr + 1))), (up2 (up2 (up2 A (dB d 2) nr li) (dB d 3) nr da) (dB d 4) nr (vp_nar .boolean fx)), K)) hx hb hr hlk hP hS rfl dX1_addRole_53

set_option maxHeartbeats 1000000 in
set_option maxRecDepth 100000 in
theorem c_X1_addRule (l : Launch) (E : En) (I A : Nat → Nat → Int32) (K : Nat → Nat → Int64) (f g t q : Int32) (d nu : Nat) (hE : Ev cN E) (hd : d < 10) (hr3 : I (dB d 0) 3 = nI nu) (hn : nu < 12) : Met l yX1_addRule (wz yX1_addRule cX1_addRule 5 none) (rmk 0 0 0 0) (va_Pc [.ref (eP E (dB d 0)), .int f, .int g, .int t, .int q] (Bw cN E cK (I, A, K))) (qWv cN E cK (fun uu => uu = (up2 I (dB d 0) 3 (nI (nu + 1)), cAdU A d nu f g t q, K))) 0 0 (cA cN E) := by
  refine en_ofW RX1 rfl (by decide +kernel) (Nat.le_of_ble_eq_true rfl) ?_
  intro p e s m below meth c ls S hr hlk hnm hl hB
  have hx := S.1
  have hb := S.2.1
  obtain ⟨hK, hC, hP⟩ := hB
  have hS : va_S (cA cN E) s.heap s.heap [] := va_S.rf
  have hl : lv_has ls 5 [(0, .ref (eP E (dB d 0))), (1, .int f), (2, .int g), (3, .int t), (4, .int q)] := hl
  refine lv_aload_n hx hb dX1_addRule_0 rfl (lv_at hl 0 rfl) ?_
  refine rw_geti (x := (I, A, K)) (v := nI nu) S hK hP (dB d 0) (dB_lt hd (by decide)) (cK_D (by decide)) fk_X1_24 rfl hr3 dX1_addRule_1 ?_
  refine lv_bipush (v := 12) hx hb dX1_addRule_4 (by decide) ?_
  refine lv_icmp_ge (tgt := 75) hx hb dX1_addRule_6 (by decide) (fun h6 => absurd h6 (nI_ge (b := 12) hn (by decide))) (fun h6 => ?_)
  refine lv_aload_n hx hb dX1_addRule_9 rfl (lv_at hl 0 rfl) ?_
  refine rw_getr (x := (I, A, K)) S hK hP (dB d 0) (dB_lt hd (by decide)) (cK_D (by decide)) fk_X1_27 rfl dX1_addRule_10 ?_
  refine lv_aload_n hx hb dX1_addRule_13 rfl (lv_at hl 0 rfl) ?_
  refine rw_geti (x := (I, A, K)) (v := nI nu) S hK hP (dB d 0) (dB_lt hd (by decide)) (cK_D (by decide)) fk_X1_24 rfl hr3 dX1_addRule_14 ?_
  refine lv_iload_n hx hb dX1_addRule_17 rfl (lv_at hl 1 rfl) ?_
  refine rw_iast (x := (I, A, K)) (v := f) S hE hK hP hS (dB d 5) (dB_lt hd (by decide)) (cK_D (by decide)) nu rfl (by omega) (by decide) dX1_addRule_18 (fun H locs hP hS => ?_)
  have hP : Wp cN E cK (I, (up2 A (dB d 5) nu f), K) H := hP
  refine lv_aload_n hx hb dX1_addRule_19 rfl (lv_at hl 0 rfl) ?_
  refine rw_getr (x := (I, (up2 A (dB d 5) nu f), K)) S hK hP (dB d 0) (dB_lt hd (by decide)) (cK_D (by decide)) fk_X1_31 rfl dX1_addRule_20 ?_
  refine lv_aload_n hx hb dX1_addRule_23 rfl (lv_at hl 0 rfl) ?_
  refine rw_geti (x := (I, (up2 A (dB d 5) nu f), K)) (v := nI nu) S hK hP (dB d 0) (dB_lt hd (by decide)) (cK_D (by decide)) fk_X1_24 rfl hr3 dX1_addRule_24 ?_
  refine lv_iload_n hx hb dX1_addRule_27 rfl (lv_at hl 2 rfl) ?_
  refine rw_iast (x := (I, (up2 A (dB d 5) nu f), K)) (v := g) S hE hK hP hS (dB d 6) (dB_lt hd (by decide)) (cK_D (by decide)) nu rfl (by omega) (by decide) dX1_addRule_28 (fun H locs hP hS => ?_)
  have hP : Wp cN E cK (I, (up2 (up2 A (dB d 5) nu f) (dB d 6) nu g), K) H := hP
  refine lv_aload_n hx hb dX1_addRule_29 rfl (lv_at hl 0 rfl) ?_
  refine rw_getr (x := (I, (up2 (up2 A (dB d 5) nu f) (dB d 6) nu g), K)) S hK hP (dB d 0) (dB_lt hd (by decide)) (cK_D (by decide)) fk_X1_34 rfl dX1_addRule_30 ?_
  refine lv_aload_n hx hb dX1_addRule_33 rfl (lv_at hl 0 rfl) ?_
  refine rw_geti (x := (I, (up2 (up2 A (dB d 5) nu f) (dB d 6) nu g), K)) (v := nI nu) S hK hP (dB d 0) (dB_lt hd (by decide)) (cK_D (by decide)) fk_X1_24 rfl hr3 dX1_addRule_34 ?_
  refine lv_iload_n hx hb dX1_addRule_37 rfl (lv_at hl 3 rfl) ?_
  refine rw_iast (x := (I, (up2 (up2 A (dB d 5) nu f) (dB d 6) nu g), K)) (v := t) S hE hK hP hS (dB d 7) (dB_lt hd (by decide)) (cK_D (by decide)) nu rfl (by omega) (by decide) dX1_addRule_38 (fun H locs hP hS => ?_)
  have hP : Wp cN E cK (I, (up2 (up2 (up2 A (dB d 5) nu f) (dB d 6) nu g) (dB d 7) nu t), K) H := hP
  refine lv_aload_n hx hb dX1_addRule_39 rfl (lv_at hl 0 rfl) ?_
  refine rw_getr (x := (I, (up2 (up2 (up2 A (dB d 5) nu f) (dB d 6) nu g) (dB d 7) nu t), K)) S hK hP (dB d 0) (dB_lt hd (by decide)) (cK_D (by decide)) fk_X1_37 rfl dX1_addRule_40 ?_
  refine lv_iconst (v := 0) hx hb dX1_addRule_43 (by decide) ?_
  refine rw_aald (x := (I, (up2 (up2 (up2 A (dB d 5) nu f) (dB d 6) nu g) (dB d 7) nu t), K)) (r := (dB d 9)) S hK hP (dB d 8) (dB_lt hd (by decide)) 5 (cK_D (by decide)) rfl rfl 0 rfl (by decide) (by decide) rfl dX1_addRule_44 ?_
  refine lv_aload_n hx hb dX1_addRule_45 rfl (lv_at hl 0 rfl) ?_
  refine rw_geti (x := (I, (up2 (up2 (up2 A (dB d 5) nu f) (dB d 6) nu g) (dB d 7) nu t), K)) (v := nI nu) S hK hP (dB d 0) (dB_lt hd (by decide)) (cK_D (by decide)) fk_X1_24 rfl hr3 dX1_addRule_46 ?_
  refine lv_iload hx hb dX1_addRule_49 (lv_at hl 4 rfl) ?_
  refine rw_iast (x := (I, (up2 (up2 (up2 A (dB d 5) nu f) (dB d 6) nu g) (dB d 7) nu t), K)) (v := q) S hE hK hP hS (dB d 9) (dB_lt hd (by decide)) (cK_D (by decide)) nu rfl (by omega) (by decide) dX1_addRule_51 (fun H locs hP hS => ?_)
  have hP : Wp cN E cK (I, (up2 (up2 (up2 (up2 A (dB d 5) nu f) (dB d 6) nu g) (dB d 7) nu t) (dB d 9) nu q), K) H := hP
  refine lv_aload_n hx hb dX1_addRule_52 rfl (lv_at hl 0 rfl) ?_
  refine rw_getr (x := (I, (up2 (up2 (up2 (up2 A (dB d 5) nu f) (dB d 6) nu g) (dB d 7) nu t) (dB d 9) nu q), K)) S hK hP (dB d 0) (dB_lt hd (by decide)) (cK_D (by decide)) fk_X1_37 rfl dX1_addRule_53 ?_
  refine lv_iconst (v := 1) hx hb dX1_addRule_56 (by decide) ?_
  refine rw_aald (x := (I, (up2 (up2 (up2 (up2 A (dB d 5) nu f) (dB d 6) nu g) (dB d 7) nu t) (dB d 9) nu q), K)) (r := (dB d 10)) S hK hP (dB d 8) (dB_lt hd (by decide)) 5 (cK_D (by decide)) rfl rfl 1 rfl (by decide) (by decide) rfl dX1_addRule_57 ?_
  refine lv_aload_n hx hb dX1_addRule_58 rfl (lv_at hl 0 rfl) ?_
  refine rw_geti (x := (I, (up2 (up2 (up2 (up2 A (dB d 5) nu f) (dB d 6) nu g) (dB d 7) nu t) (dB d 9) nu q), K)) (v := nI nu) S hK hP (dB d 0) (dB_lt hd (by decide)) (cK_D (by decide)) fk_X1_24 rfl hr3 dX1_addRule_59 ?_
  refine lv_iload hx hb dX1_addRule_62 (lv_at hl 4 rfl) ?_
  refine rw_iast (x := (I, (up2 (up2 (up2 (up2 A (dB d 5) nu f) (dB d 6) nu g) (dB d 7) nu t) (dB d 9) nu q), K)) (v := q) S hE hK hP hS (dB d 10) (dB_lt hd (by decide)) (cK_D (by decide)) nu rfl (by omega) (by decide) dX1_addRule_64 (fun H locs hP hS => ?_)
  have hP : Wp cN E cK (I, (up2 (up2 (up2 (up2 (up2 A (dB d 5) nu f) (dB d 6) nu g) (dB d 7) nu t) (dB d 9) nu q) (dB d 10) nu q), K) H := hP
  refine lv_aload_n hx hb dX1_addRule_65 rfl (lv_at hl 0 rfl) ?_
  refine lv_dup hx hb dX1_addRule_66 rfl ?_
  refine rw_geti (x := (I, (up2 (up2 (up2 (up2 (up2 A (dB d 5) nu f) (dB d 6) nu g) (dB d 7) nu t) (dB d 9) nu q) (dB d 10) nu q), K)) (v := nI nu) S hK hP (dB d 0) (dB_lt hd (by decide)) (cK_D (by decide)) fk_X1_24 rfl hr3 dX1_addRule_67 ?_
  refine lv_iconst (v := 1) hx hb dX1_addRule_70 (by decide) ?_
  refine lv_iadd hx hb dX1_addRule_71 ?_
  refine tp_i (y := nI (nu + 1)) (nI_1 nu) ?_
  refine rw_puti (x := (I, (up2 (up2 (up2 (up2 (up2 A (dB d 5) nu f) (dB d 6) nu g) (dB d 7) nu t) (dB d 9) nu q) (dB d 10) nu q), K)) (v := (nI (nu + 1))) S hE hK hP hS (dB d 0) (dB_lt hd (by decide)) (cK_D (by decide)) fk_X1_24 rfl tyX1_ok nmX1 ⟨rfl, by decide +kernel⟩ dX1_addRule_72 (fun H locs hP hS => ?_)
  have hP : Wp cN E cK ((up2 I (dB d 0) 3 (nI (nu + 1))), (up2 (up2 (up2 (up2 (up2 A (dB d 5) nu f) (dB d 6) nu g) (dB d 7) nu t) (dB d 9) nu q) (dB d 10) nu q), K) H := hP
  exact re_wv (x := ((up2 I (dB d 0) 3 (nI (nu + 1))), (up2 (up2 (up2 (up2 (up2 A (dB d 5) nu f) (dB d 6) nu g) (dB d 7) nu t) (dB d 9) nu q) (dB d 10) nu q), K)) hx hb hr hlk hP hS rfl dX1_addRule_75

