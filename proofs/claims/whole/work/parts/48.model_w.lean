theorem tw_90 : tw 9 = tw 0 := by decide +kernel
section GE
variable {T : Nat → Int32} {n : Nat}
theorem zGe_PW {w : List Int32} {z : Tz} : z.2 ≤ (zPW T n w z).2 := by
  unfold zPW
  split
  · exact zGe_A
  · exact Nat.le_refl _
theorem zGe_R4 {z : Tz} : z.2 ≤ (zR4 T n z).2 := by
  have h1 : z.2 ≤ (zR2 T n z).2 := Nat.le_trans (Nat.le_trans (Nat.le_trans zGe_A zGe_N) zGe_N) zGe_N
  have h2 : (zR2 T n z).2 ≤ (zR3 T n z).2 := by
    unfold zR3
    split
    · exact Nat.le_trans (Nat.le_trans (Nat.le_trans zGe_A zGe_N) zGe_N) zGe_N
    · exact Nat.le_refl _
  exact Nat.le_trans (Nat.le_trans h1 h2) zGe_PW
theorem zGe_U6 {nr : Nat} {b : Bool} {z : Tz} : z.2 ≤ (zU6 T n nr b z).2 := by
  have h1 : z.2 ≤ (zU2 T n nr z).2 := Nat.le_trans zGe_A zGe_N
  have h2 : (zU2 T n nr z).2 ≤ (zU3 T n nr z).2 := by
    unfold zU3
    split
    · exact Nat.le_refl _
    · exact Nat.le_refl _
  have h3 : (zU3 T n nr z).2 ≤ (zU4 T n nr z).2 := zGe_N
  have h4 : (zU4 T n nr z).2 ≤ (zU5 T n nr b z).2 := by
    unfold zU5
    split
    · exact Nat.le_refl _
    · exact zGe_N
  exact Nat.le_trans (Nat.le_trans (Nat.le_trans (Nat.le_trans h1 h2) h3) h4) zGe_N
theorem zGe_role {P : Ps} : P.2.2.2.2.2 ≤ (sRole T n P).2.2.2.2.2 := by
  obtain ⟨nr, nu, fp, A, z⟩ := P
  by_cases h : 10 ≤ nr
  · rw [sRole_f h]
    exact Nat.le_refl z.2
  · by_cases g : (zR4 T n z).1 = 0
    · rw [sRole_y h g]
      show z.2 ≤ (zR4 T n z).2
      exact zGe_R4
    · rw [sRole_n h g]
      show z.2 ≤ (zR4 T n z).2
      exact zGe_R4
theorem zGe_rule {b : Bool} {P : Ps} : P.2.2.2.2.2 ≤ (sRule T n b P).2.2.2.2.2 := by
  obtain ⟨nr, nu, fp, A, z⟩ := P
  by_cases h : 12 ≤ nu
  · rw [sRule_f h]
    exact Nat.le_refl z.2
  · by_cases g : (zU6 T n nr b z).1 = 0
    · rw [sRule_y h g]
      show z.2 ≤ (zU6 T n nr b z).2
      exact zGe_U6
    · rw [sRule_n h g]
      show z.2 ≤ (zU6 T n nr b z).2
      exact zGe_U6
theorem zGe_flo {P : Ps} : P.2.2.2.2.2 ≤ (sFlo T n P).2.2.2.2.2 := Nat.le_trans (zGe_A (T := T) (n := n)) (zGe_Su 4 (zA T n P.2.2.2.2))
theorem zGe_stm {P : Ps} : P.2.2.2.2.2 ≤ (sStm T n P).2.2.2.2.2 := by
  unfold sStm
  split
  · exact zGe_role
  · split
    · exact zGe_rule
    · split
      · exact zGe_rule
      · split
        · exact zGe_flo
        · exact Nat.le_refl P.2.2.2.2.2
theorem zNS_gt {ch : Int32} {z : Tz} (h : (zNS T n ch z).1 = 0) : z.2 + 1 ≤ (zNS T n ch z).2 := by
  have h0 : z.1 = 0 := zMo_NS h
  by_cases q : zS T n ch z = true
  · rw [zNS_t q, zA_0 h0]
    exact tkE_gt (by rw [(of_decide_eq_true q).2.1]; decide)
  · rw [zNS_f (Bool.eq_false_iff.mpr q)] at h
    exact absurd ((if_pos h0).symm.trans h : (-2 : Int32) = 0) (by decide)
theorem sSt_gt {P : Ps} (h : (sSt T n P).2.2.2.2.1 = 0) : P.2.2.2.2.2 + 1 ≤ (sSt T n P).2.2.2.2.2 := by
  have h1 := zGe_stm (T := T) (n := n) (P := P)
  have h2 := zNS_gt (T := T) (n := n) (z := (sStm T n P).2.2.2.2) h
  exact Nat.le_trans (Nat.succ_le_succ h1) h2
theorem sLp_x {P : Ps} (h : zM T n P.2.2.2.2 = false) : ∀ k, sLp T n k P = P
  | 0 => rfl
  | k + 1 => sLp_e h
end GE
/-- the draft emptied -/
def mZr (A : Nat → Nat → Int32) : Nat → Nat → Nat → Int32 := lfo (fun k B => up2 B 3 k 0) A
theorem mZr_at {A : Nat → Nat → Int32} : ∀ n a b, mZr A n a b = if a = 3 ∧ b < n then 0 else A a b
  | 0, a, b => by
    rw [if_neg (fun h => by omega)]
    rfl
  | n + 1, a, b => by
    show up2 (mZr A n) 3 n 0 a b = _
    rw [up2_at, mZr_at n a b]
    by_cases ha : a = 3
    · by_cases hb : b = n
      · subst hb
        simp [ha]
      · by_cases hlt : b < n
        · have h2 : b < n + 1 := by omega
          simp [ha, hb, hlt, h2]
        · have h2 : ¬ b < n + 1 := by omega
          simp [ha, hb, hlt, h2]
    · simp [ha]
theorem mZr_ne {A : Nat → Nat → Int32} {n a : Nat} (h : a ≠ 3) : mZr A n a = A a := by
  funext b
  rw [mZr_at, if_neg (fun q => h q.1)]
/-- the fields at the start of a reading -/
def mLd (I : Nat → Nat → Int32) (k : Nat) : Nat → Nat → Int32 := up2 (up2 (up2 (up2 (up2 (up2 (up2 (up2 I 0 0 0) 0 2 0) 0 3 (nI k)) 0 4 0) 0 5 0) 0 6 (-1)) 0 13 0) 0 14 0
theorem mLd_at {I : Nat → Nat → Int32} {k : Nat} (a b : Nat) : mLd I k a b = if a = 0 ∧ b = 14 then 0 else if a = 0 ∧ b = 13 then 0 else if a = 0 ∧ b = 6 then -1 else if a = 0 ∧ b = 5 then 0 else if a = 0 ∧ b = 4 then 0 else if a = 0 ∧ b = 3 then nI k else if a = 0 ∧ b = 2 then 0 else if a = 0 ∧ b = 0 then 0 else I a b := by
  unfold mLd
  rw [up2_at, up2_at, up2_at, up2_at, up2_at, up2_at, up2_at, up2_at]
theorem mW_st {I A : Nat → Nat → Int32} {T : Nat → Int32} {k : Nat} (h : mT A T k) : mW (mLd I k) (mZr A 1282) T k (0, 0) := ⟨⟨rfl, mT_ext (mZr_ne (by decide)) h, Nat.zero_le _⟩, rfl, fun _ => ⟨0, rfl, Nat.zero_le _, rfl⟩, fun g => absurd rfl g, fun _ => rfl⟩
theorem qD_0 {C A : Nat → Nat → Int32} : qD 0 0 C (mZr A 1282) := by
  refine ⟨⟨by decide, by decide⟩, ⟨?_, ?_⟩, fun r hr => absurd hr (Nat.not_lt_zero r), fun u hu => absurd hu (Nat.not_lt_zero u)⟩
  · rw [mZr_at, if_pos ⟨rfl, by decide⟩]
    rfl
  · rw [mZr_at, if_pos ⟨rfl, by decide⟩]
    rfl
theorem qF_0 {T : Nat → Int32} {k : Nat} {I A J : Nat → Nat → Int32} (h : J 0 14 = 0) : qF T k none J (mZr A 1282) := by
  refine ⟨h, ?_, ?_⟩
  · rw [mZr_at, if_pos ⟨rfl, by decide⟩]
  · rw [mZr_at, if_pos ⟨rfl, by decide⟩]
/-- the needs after a load -/
def ldN (T : Nat → Int32) (n : Nat) (P : Ps) : Nat → Int32 := fun x => if P.2.2.2.1 26 (x / 2) = -1 then zNd T n P.2.2.1 (P.2.2.2.1 5 (x / 2)) (nI (x % 2)) else P.2.2.2.1 5 (x / 2)
theorem vR_n {k : Nat} (h : k ≤ 1000000) : vR (nI k) := by
  unfold vR
  rw [nI_toInt (by omega)]
  omega
theorem nOk_ld {T : Nat → Int32} {n : Nat} {P : Ps} {I B : Nat → Nat → Int32} (hD : qD P.1 P.2.1 P.2.2.2.1 B) (hF : qF T n P.2.2.1 I B) {u sc : Nat} (hu : u < P.2.1) (hs : sc < 2) : nOk (B 3) u sc (ldN T n P (2 * u + sc)) := by
  obtain ⟨-, -, -, h6⟩ := hD
  obtain ⟨⟨e0, e1, e2, e3⟩, -, hx⟩ := h6 u hu
  unfold ldN
  rw [show (2 * u + sc) / 2 = u by omega, show (2 * u + sc) % 2 = sc by omega]
  rcases hx with ⟨hm, k, hk, ek⟩ | ⟨⟨t, ht, et⟩, h28, h29⟩
  · rw [if_pos hm]
    refine Or.inr ⟨by rw [e0, hm]; decide, ?_⟩
    cases hfp : P.2.2.1 with
    | none =>
      rw [hfp] at hF
      exact Or.inl ⟨hF.2.1, rfl⟩
    | some q =>
      rw [hfp] at hF
      obtain ⟨-, h2, M, h3, h4, h5⟩ := hF
      refine Or.inr ⟨by rw [h2]; decide, M, _, h3, h4, h5, ?_, vR_n (by omega), ?_⟩
      · rw [e3, ek]
        exact vR_n (by omega)
      · rw [e3]
        rfl
  · have hne : ¬ P.2.2.2.1 26 u = -1 := by
      rw [et]
      exact fun g => nI_pos (n := t) (by omega) (by rw [g]; decide)
    rw [if_neg hne]
    refine Or.inl ⟨?_, e3.symm⟩
    rw [e0, et, show (nI t + 1 : Int32) = nI (t + 1) from nI_1 t]
    exact nI_lt (a := 0) (by omega) (by omega)
theorem nOk_cp {A B : Nat → Nat → Int32} {u sc : Nat} {v : Int32} (e : ∀ b, b < 1282 → B 2 b = A 3 b) (hu : u < 12) (h : nOk (A 3) u sc v) : nOk (B 2) u sc v := nOk_x e hu h
set_option maxHeartbeats 1000000 in
set_option maxRecDepth 100000 in
theorem c_X7_takeWord_p (l : Launch) (E : En) (I A : Nat → Nat → Int32) (K : Nat → Nat → Int64) (T : Nat → Int32) (n : Nat) (z : Tz) (i : Nat) (hE : Ev mN E) (hW : mW I A T n z) (ki : i < 17) : Met l yX7_takeWord (wz yX7_takeWord cX7_takeWord 3 (some .boolean)) (rmk 4 0 0 93) (va_Pc [.ref (eP E 0), .ref (eS E i)] (Bw mN E mK (I, A, K))) (qWi mN E mK (fun zz uu => zz = bI (zW T n (tw i) z) ∧ ∃ J, mW J A T n (zPW T n (tw i) z) ∧ rP I J ∧ (zW T n (tw i) z = false → z.1 = 0 → J 0 4 = nI (tkB T n z.2)) ∧ uu = (J, A, K))) 0 0 (cA mN E) := by
  refine en_ofW RX7 rfl (by decide +kernel) (Nat.le_of_ble_eq_true rfl) ?_
  intro p e s m below meth c ls S hr hlk hnm hl hB
  have hx := S.1
  have hb := S.2.1
  obtain ⟨hK, hC, hP⟩ := hB
  have hS : va_S (cA mN E) s.heap s.heap [] := va_S.rf
  have hl : lv_has ls 3 [(0, .ref (eP E 0)), (1, .ref (eS E i))] := hl
  obtain ⟨⟨hn3, hTT, hzn⟩, h5c, h5p, h5e⟩ := id hW
  have hn7 := hTT.1
  have hBn := tkB_le (T := T) hzn
  obtain ⟨tx, hit⟩ := tx_of ki
  have htw := tw_of hit
  have htl := tx_len hit
  refine lv_aload_n hx hb dX7_takeWord_0 rfl (lv_at hl 0 rfl) ?_
  refine cn_si (ck_V (a := eP E 0) S lk_X7_62 (c_X7_isGood l E I A K hE) ⟨rfl, rfl⟩ ⟨Nat.le_of_ble_eq_true rfl, Nat.le_of_ble_eq_true rfl⟩ bl_w (rc_w hK hP 0 (by decide) rfl rfl) (bw_U hE hK hC hP hS) rfl hl.1 (Nat.le_of_ble_eq_true rfl) ⟨Nat.le_refl _, Nat.le_refl _⟩ dX7_takeWord_1 rfl) (fun r1 g2 => ?_)
  obtain rfl : r1 = bI (decide (I 0 5 = 0)) := g2
  refine lv_if_ne (tgt := 9) hx hb dX7_takeWord_4 (by decide) (fun h4 => ?_) (fun h4 => ?_)
  · have h0 : z.1 = 0 := h5c.symm.trans (of_decide_eq_true (bI_t h4))
    refine lv_aload_n hx hb dX7_takeWord_9 rfl (lv_at hl 0 rfl) ?_
    obtain ⟨pos, hpos, hpn, hpB⟩ := h5p h0
    refine cn_wi (ck_V (a := eP E 0) S lk_X7_66 (c_X7_next l E I A K T n pos hE hn3 hTT hpos hpn) ⟨rfl, rfl⟩ ⟨Nat.le_of_ble_eq_true rfl, Nat.le_of_ble_eq_true rfl⟩ bl_w (rc_w hK hP 0 (by decide) rfl rfl) (bw_U hE hK hC hP hS) rfl hl.1 (Nat.le_of_ble_eq_true rfl) ⟨Nat.le_refl _, Nat.le_refl _⟩ dX7_takeWord_10 rfl) hS (fun r3 u4 H locs g5 hP hS => ?_)
    obtain ⟨rfl, rfl⟩ : r3 = (mBv A n (tkB T n pos)) ∧ u4 = ((up2 I 0 4 (nI (tkB T n pos))), A, K) := g5
    have hP : Wp mN E mK ((up2 I 0 4 (nI (tkB T n pos))), A, K) H := hP
    rw [hpB] at hP
    have hP : Wp mN E mK ((up2 I 0 4 (nI (tkB T n z.2))), A, K) H := hP
    refine tp_i (y := mBv A n (tkB T n z.2)) (by rw [hpB]) ?_
    refine lv_pop hx hb dX7_takeWord_13 rfl ?_
    refine lv_iconst (v := 0) hx hb dX7_takeWord_14 (by decide) ?_
    refine lv_istore_n (lv' := [(2, .int 0), (0, .ref (eP E 0)), (1, .ref (eS E i))]) hx hb dX7_takeWord_15 rfl hl (by decide) rfl (fun ls hl => ?_)
    have HL : ∀ (cnt k : Nat), k + cnt = tx.2.2.2.length → (∀ j, j < k → mBv A n (tkB T n z.2 + j) = tx.2.2.2.getD j 0) → ∀ (H : Heap) (locs : List Loc), Wp mN E mK ((up2 I 0 4 (nI (tkB T n z.2))), A, K) H → va_S (cA mN E) s.heap H locs → ∀ ls : Array Slot, lv_has ls 3 [(2, .int (nI k)), (0, .ref (eP E 0)), (1, .ref (eS E i))] → W p l e (rmk 4 0 0 93) s m ([.ref (eP E 0), .ref (eS E i)] : List Value).toArray below meth c H locs 0 0 (MQ below (qWi mN E mK (fun zz uu => zz = bI (zW T n (tw i) z) ∧ ∃ J, mW J A T n (zPW T n (tw i) z) ∧ rP I J ∧ (zW T n (tw i) z = false → z.1 = 0 → J 0 4 = nI (tkB T n z.2)) ∧ uu = (J, A, K))) ([.ref (eP E 0), .ref (eS E i)] : List Value).toArray s 0 0 (cA mN E)) (F0 m 16 ls []) := by
      intro cnt
      induction cnt with
      | zero =>
        intro k hi hv H locs hP hS ls hl
        have hiN : k = tx.2.2.2.length := by omega
        rw [hiN] at hl
        try rw [hiN] at hP
        refine lv_iload_n hx hb dX7_takeWord_16 rfl (lv_at hl 0 rfl) ?_
        refine lv_aload_n hx hb dX7_takeWord_17 rfl (lv_at hl 2 rfl) ?_
        refine cn_si (ck_V (a := eS E i) S lk_X7_70 (c_J0_length_8abf5 l E i tx hit) ⟨rfl, rfl⟩ ⟨Nat.le_of_ble_eq_true rfl, Nat.le_of_ble_eq_true rfl⟩ bl_s (rc_s hE hC hS hit) (bs_U hE hC hS) rfl hl.1 (Nat.le_of_ble_eq_true rfl) ⟨Nat.le_refl _, Nat.le_refl _⟩ dX7_takeWord_18 rfl) (fun r6 g7 => ?_)
        obtain rfl : r6 = nI tx.2.2.2.length := g7
        refine lv_icmp_ge (tgt := 48) hx hb dX7_takeWord_21 (by decide) (fun h21 => ?_) (fun h21 => absurd (Int32.le_refl _) h21)
        refine lv_iload_n hx hb dX7_takeWord_48 rfl (lv_at hl 0 rfl) ?_
        refine lv_aload_n hx hb dX7_takeWord_49 rfl (lv_at hl 2 rfl) ?_
        refine cn_si (ck_V (a := eS E i) S lk_X7_70 (c_J0_length_8abf5 l E i tx hit) ⟨rfl, rfl⟩ ⟨Nat.le_of_ble_eq_true rfl, Nat.le_of_ble_eq_true rfl⟩ bl_s (rc_s hE hC hS hit) (bs_U hE hC hS) rfl hl.1 (Nat.le_of_ble_eq_true rfl) ⟨Nat.le_refl _, Nat.le_refl _⟩ dX7_takeWord_50 rfl) (fun r8 g9 => ?_)
        obtain rfl : r8 = nI tx.2.2.2.length := g9
        refine lv_icmp_lt (tgt := 76) hx hb dX7_takeWord_53 (by decide) (fun h53 => absurd h53 (nI_nlt (Nat.le_refl _) (by omega))) (fun h53 => ?_)
        refine lv_aload_n hx hb dX7_takeWord_56 rfl (lv_at hl 1 rfl) ?_
        refine lv_aload_n hx hb dX7_takeWord_57 rfl (lv_at hl 1 rfl) ?_
        refine rw_geti (x := ((up2 I 0 4 (nI (tkB T n z.2))), A, K)) (v := (nI (tkB T n z.2))) S hK hP 0 (by decide) rfl fk_X7_45 rfl (up2_eq (f := I) (q := 0) (j := 4) (v := (nI (tkB T n z.2)))) dX7_takeWord_58 ?_
        refine lv_iload_n hx hb dX7_takeWord_61 rfl (lv_at hl 0 rfl) ?_
        refine lv_iadd hx hb dX7_takeWord_62 ?_
        refine tp_i (y := nI ((tkB T n z.2) + tx.2.2.2.length)) (nI_add (tkB T n z.2) tx.2.2.2.length) ?_
        refine cn_si (ck_V (a := eP E 0) S lk_X7_48 (c_X7_byteAt l E (up2 I 0 4 (nI (tkB T n z.2))) A K n ((tkB T n z.2) + tx.2.2.2.length) hE hn3 hn7 (by omega)) ⟨rfl, rfl⟩ ⟨Nat.le_of_ble_eq_true rfl, Nat.le_of_ble_eq_true rfl⟩ bl_w (rc_w hK hP 0 (by decide) rfl rfl) (bw_U hE hK hC hP hS) rfl hl.1 (Nat.le_of_ble_eq_true rfl) ⟨Nat.le_refl _, Nat.le_refl _⟩ dX7_takeWord_63 rfl) (fun r10 g11 => ?_)
        obtain rfl : r10 = mBv A n ((tkB T n z.2) + tx.2.2.2.length) := g11
        refine lv_bipush (v := 97) hx hb dX7_takeWord_66 (by decide) ?_
        refine lv_bipush (v := 122) hx hb dX7_takeWord_68 (by decide) ?_
        refine cn_si (ck_S S lk_X7_58 (c_X7_in l (mBv A n ((tkB T n z.2) + tx.2.2.2.length)) 97 122) ⟨rfl, rfl⟩ ⟨Nat.le_of_ble_eq_true rfl, Nat.le_of_ble_eq_true rfl⟩ bl_T t_U rfl hl.1 (Nat.le_of_ble_eq_true rfl) ⟨Nat.le_refl _, Nat.le_refl _⟩ dX7_takeWord_70 rfl) (fun r12 g13 => ?_)
        obtain rfl : r12 = rIn (mBv A n ((tkB T n z.2) + tx.2.2.2.length)) 97 122 := g13
        refine lv_if_eq (tgt := 78) hx hb dX7_takeWord_73 (by decide) (fun h73 => ?_) (fun h73 => ?_)
        · have hall : ∀ j, j < (tw i).length → mBv A n (tkB T n z.2 + j) = (tw i).getD j 0 := by rw [htw]; exact fun j hj => hv j (by omega)
          have hltn : ¬ (tkB T n z.2 + (tw i).length < n ∧ isLt (T (tkB T n z.2 + (tw i).length)) = true) := by rw [htw]; exact (mLt hTT).mp h73
          have hres := zW_m hTT ki h0 rfl hall hltn
          refine lv_aload_n hx hb dX7_takeWord_78 rfl (lv_at hl 1 rfl) ?_
          refine lv_dup hx hb dX7_takeWord_79 rfl ?_
          refine rw_geti (x := ((up2 I 0 4 (nI (tkB T n z.2))), A, K)) (v := (nI (tkB T n z.2))) S hK hP 0 (by decide) rfl fk_X7_45 rfl (up2_eq (f := I) (q := 0) (j := 4) (v := (nI (tkB T n z.2)))) dX7_takeWord_80 ?_
          refine lv_iload_n hx hb dX7_takeWord_83 rfl (lv_at hl 0 rfl) ?_
          refine lv_iadd hx hb dX7_takeWord_84 ?_
          refine tp_i (y := nI ((tkB T n z.2) + tx.2.2.2.length)) (nI_add (tkB T n z.2) tx.2.2.2.length) ?_
          refine rw_puti (x := ((up2 I 0 4 (nI (tkB T n z.2))), A, K)) (v := (nI ((tkB T n z.2) + tx.2.2.2.length))) S hE hK hP hS 0 (by decide) rfl fk_X7_45 rfl tyX7_ok nmX7 ⟨rfl, by decide +kernel⟩ dX7_takeWord_85 (fun H locs hP hS => ?_)
          have hP : Wp mN E mK ((up2 (up2 I 0 4 (nI (tkB T n z.2))) 0 4 (nI ((tkB T n z.2) + tx.2.2.2.length))), A, K) H := hP
          rw [up2_up] at hP
          have hP : Wp mN E mK ((up2 I 0 4 (nI (tkB T n z.2 + tx.2.2.2.length))), A, K) H := hP
          refine lv_iconst (v := 1) hx hb dX7_takeWord_88 (by decide) ?_
          exact re_wz (x := ((up2 I 0 4 (nI (tkB T n z.2 + tx.2.2.2.length))), A, K)) (v := 1) hx hb hr hlk rfl hP hS ⟨(by rw [hres.1]; rfl), _, (by rw [zPW_t hres.1, zA_0 h0]; exact mW_pos hW h0 (q := tkB T n z.2 + tx.2.2.2.length) (y := (0, tkE T n z.2)) (by have := hres.2; rw [htw] at this; rw [← this]; exact tkE_le hzn) rfl (tkE_le hzn) (by show _ = tkB T n (tkE T n z.2); rw [hres.2, htw])), rP_u rP_rf (Or.inl rfl), fun g _ => absurd (hres.1.symm.trans g) (by decide), rfl⟩ dX7_takeWord_89
        · have hall : ∀ j, j < (tw i).length → mBv A n (tkB T n z.2 + j) = (tw i).getD j 0 := by rw [htw]; exact fun j hj => hv j (by omega)
          have hlt2 : tkB T n z.2 + (tw i).length < n ∧ isLt (T (tkB T n z.2 + (tw i).length)) = true := by rw [htw]; exact Classical.byContradiction (fun g => h73 ((mLt hTT).mpr g))
          refine lv_iconst (v := 0) hx hb dX7_takeWord_76 (by decide) ?_
          exact re_wz (x := ((up2 I 0 4 (nI (tkB T n z.2))), A, K)) (v := 0) hx hb hr hlk rfl hP hS ⟨(by rw [zW_l hTT ki rfl hall hlt2]; rfl), _, (by rw [zPW_f (zW_l hTT ki rfl hall hlt2)]; exact (mW_pos hW h0 hBn h0 hzn (tkB_B hzn))), rP_u rP_rf (Or.inl rfl), fun _ _ => up2_eq, rfl⟩ dX7_takeWord_77
      | succ cnt ih =>
        intro k hi hv H locs hP hS ls hl
        have hlt : k < tx.2.2.2.length := by omega
        refine lv_iload_n hx hb dX7_takeWord_16 rfl (lv_at hl 0 rfl) ?_
        refine lv_aload_n hx hb dX7_takeWord_17 rfl (lv_at hl 2 rfl) ?_
        refine cn_si (ck_V (a := eS E i) S lk_X7_70 (c_J0_length_8abf5 l E i tx hit) ⟨rfl, rfl⟩ ⟨Nat.le_of_ble_eq_true rfl, Nat.le_of_ble_eq_true rfl⟩ bl_s (rc_s hE hC hS hit) (bs_U hE hC hS) rfl hl.1 (Nat.le_of_ble_eq_true rfl) ⟨Nat.le_refl _, Nat.le_refl _⟩ dX7_takeWord_18 rfl) (fun r14 g15 => ?_)
        obtain rfl : r14 = nI tx.2.2.2.length := g15
        refine lv_icmp_ge (tgt := 48) hx hb dX7_takeWord_21 (by decide) (fun h21 => absurd h21 (nI_ge hlt (by omega))) (fun h21 => ?_)
        refine lv_aload_n hx hb dX7_takeWord_24 rfl (lv_at hl 1 rfl) ?_
        refine lv_aload_n hx hb dX7_takeWord_25 rfl (lv_at hl 1 rfl) ?_
        refine rw_geti (x := ((up2 I 0 4 (nI (tkB T n z.2))), A, K)) (v := (nI (tkB T n z.2))) S hK hP 0 (by decide) rfl fk_X7_45 rfl (up2_eq (f := I) (q := 0) (j := 4) (v := (nI (tkB T n z.2)))) dX7_takeWord_26 ?_
        refine lv_iload_n hx hb dX7_takeWord_29 rfl (lv_at hl 0 rfl) ?_
        refine lv_iadd hx hb dX7_takeWord_30 ?_
        refine tp_i (y := nI ((tkB T n z.2) + k)) (nI_add (tkB T n z.2) k) ?_
        refine cn_si (ck_V (a := eP E 0) S lk_X7_48 (c_X7_byteAt l E (up2 I 0 4 (nI (tkB T n z.2))) A K n (tkB T n z.2 + k) hE hn3 hn7 (by omega)) ⟨rfl, rfl⟩ ⟨Nat.le_of_ble_eq_true rfl, Nat.le_of_ble_eq_true rfl⟩ bl_w (rc_w hK hP 0 (by decide) rfl rfl) (bw_U hE hK hC hP hS) rfl hl.1 (Nat.le_of_ble_eq_true rfl) ⟨Nat.le_refl _, Nat.le_refl _⟩ dX7_takeWord_31 rfl) (fun r16 g17 => ?_)
        obtain rfl : r16 = mBv A n (tkB T n z.2 + k) := g17
        refine lv_aload_n hx hb dX7_takeWord_34 rfl (lv_at hl 2 rfl) ?_
        refine lv_iload_n hx hb dX7_takeWord_35 rfl (lv_at hl 0 rfl) ?_
        refine cn_si (ck_V (a := eS E i) S lk_X7_75 (c_J0_charAt_5068e l E i tx k hit hlt) ⟨rfl, rfl⟩ ⟨Nat.le_of_ble_eq_true rfl, Nat.le_of_ble_eq_true rfl⟩ bl_s (rc_s hE hC hS hit) (bs_U hE hC hS) rfl hl.1 (Nat.le_of_ble_eq_true rfl) ⟨Nat.le_refl _, Nat.le_refl _⟩ dX7_takeWord_36 rfl) (fun r18 g19 => ?_)
        obtain rfl : r18 = tx.2.2.2.getD k 0 := g19
        refine lv_icmp_ne (tgt := 48) hx hb dX7_takeWord_39 (by decide) (fun h39 => ?_) (fun h39 => ?_)
        · refine lv_iload_n hx hb dX7_takeWord_48 rfl (lv_at hl 0 rfl) ?_
          refine lv_aload_n hx hb dX7_takeWord_49 rfl (lv_at hl 2 rfl) ?_
          refine cn_si (ck_V (a := eS E i) S lk_X7_70 (c_J0_length_8abf5 l E i tx hit) ⟨rfl, rfl⟩ ⟨Nat.le_of_ble_eq_true rfl, Nat.le_of_ble_eq_true rfl⟩ bl_s (rc_s hE hC hS hit) (bs_U hE hC hS) rfl hl.1 (Nat.le_of_ble_eq_true rfl) ⟨Nat.le_refl _, Nat.le_refl _⟩ dX7_takeWord_50 rfl) (fun r20 g21 => ?_)
          obtain rfl : r20 = nI tx.2.2.2.length := g21
          refine lv_icmp_lt (tgt := 76) hx hb dX7_takeWord_53 (by decide) (fun h53 => ?_) (fun h53 => absurd (nI_lt hlt (by omega)) h53)
          refine lv_iconst (v := 0) hx hb dX7_takeWord_76 (by decide) ?_
          exact re_wz (x := ((up2 I 0 4 (nI (tkB T n z.2))), A, K)) (v := 0) hx hb hr hlk rfl hP hS ⟨(by rw [zW_x hTT ki hzn rfl (by rw [htw]; exact hlt) (fun g => h39 (by rw [← htw]; exact g))]; rfl), _, (by rw [zPW_f (zW_x hTT ki hzn rfl (by rw [htw]; exact hlt) (fun g => h39 (by rw [← htw]; exact g)))]; exact (mW_pos hW h0 hBn h0 hzn (tkB_B hzn))), rP_u rP_rf (Or.inl rfl), fun _ _ => up2_eq, rfl⟩ dX7_takeWord_77
        · refine lv_iinc (v := nI (k + 1)) (lv' := [(2, .int (nI (k + 1))), (0, .ref (eP E 0)), (1, .ref (eS E i))]) hx hb dX7_takeWord_42 hl (k := 0) rfl (nI_1 _) (by decide) rfl (fun ls hl => ?_)
          refine lv_goto (tgt := 16) hx hb dX7_takeWord_45 (by decide) ?_
          exact ih (k + 1) (by omega) (fun j hj => (show j < k ∨ j = k by omega).elim (hv j) (fun q => by rw [q]; exact h39)) _ _ hP hS ls (lv_sub hl [0, 1, 2] rfl)
    exact HL tx.2.2.2.length 0 (by omega) (fun j h => absurd h (Nat.not_lt_zero _)) _ _ hP hS ls (lv_sub hl [0, 1, 2] rfl)
  · have h0 : ¬ z.1 = 0 := fun g => absurd (decide_eq_true (h5c.trans g)) (by rw [bI_f h4]; decide)
    refine lv_iconst (v := 0) hx hb dX7_takeWord_7 (by decide) ?_
    exact re_wz (x := (I, A, K)) (v := 0) hx hb hr hlk rfl hP hS ⟨(bI_n (fun q => h0 q.1)), _, (by rw [zPW_f (decide_eq_false (fun q => h0 q.1))]; exact hW), rP_rf, fun _ g => absurd g h0, rfl⟩ dX7_takeWord_8

theorem mBv_no {A : Nat → Nat → Int32} {T : Nat → Int32} {n j : Nat} (h : mT A T n) (hj : j < n) : ¬ mBv A n j = -1 := by
  unfold mBv
  rw [if_pos hj, (h.2 j hj).1]
  obtain ⟨b, hb, h1, -⟩ := (h.2 j hj).2
  rw [h1]
  exact fun g => nI_pos (n := b) (by omega) (by rw [g]; decide)
theorem tk_n0 {T : Nat → Int32} {n p : Nat} (h : tkB T n p < n) : ¬ tkK T n p = 0 := by
  by_cases hd : isDg (T (tkB T n p)) = true
  · rw [(tk_1 h hd).1]; decide
  · by_cases hq : isLt (T (tkB T n p)) = true
    · rw [(tk_2 h hd hq).1]; decide
    · rw [(tk_3 h hd hq).1]; decide
theorem sRd_e2 {T : Nat → Int32} {n : Nat} {A : Nat → Nat → Int32} : sLp T n 700 (0, 0, none, A, zNS T n 59 (zNW T n (tw 0) (0, 0))) = sRd T n A := rfl
set_option maxHeartbeats 1000000 in
set_option maxRecDepth 100000 in
theorem c_X7_load (l : Launch) (E : En) (I A : Nat → Nat → Int32) (K : Nat → Nat → Int64) (T : Nat → Int32) (k bl ud : Nat) (C : Nat → Nat → Int32) (hE : Ev mN E) (hil : I 0 2 = nI bl) (hkm : k ≤ bl) (hbl : bl ≤ 700) (hT : mT A T k) (hud : I 0 11 = nI ud) (hu8 : ud ≤ 8) : Met l yX7_load (wz yX7_load cX7_load 3 (some .int)) (rmk 21 0 0 461) (va_Pc [.ref (eP E 0), .int (nI k)] (Bw mN E mK (I, A, K))) (qWi mN E mK (fun zz uu => ∃ J B, qS T k (sRd T k C) J B ∧ rS (mLd I k) J ∧ (∀ a, a ≠ 3 → B a = A a) ∧ ((¬ (sRd T k C).2.2.2.2.1 = 0 ∧ zz = (sRd T k C).2.2.2.2.1 ∧ uu = (up2 J 0 7 (J 0 6), B, K)) ∨ ((sRd T k C).2.2.2.2.1 = 0 ∧ zz = nI (sRd T k C).2.1 ∧ ∃ ok, uu = (up2 (up2 J 0 7 (J 0 6)) 0 11 (nI (min (ud + 1) 8)), mLay (mCp (mRem B ud) 3 2 1282) (ldN T k (sRd T k C)) (2 * (sRd T k C).2.1), ok))))) 0 0 (cA mN E) := by
  refine en_ofW RX7 rfl (by decide +kernel) (Nat.le_of_ble_eq_true rfl) ?_
  intro p e s m below meth c ls S hr hlk hnm hl hB
  have hx := S.1
  have hb := S.2.1
  obtain ⟨hK, hC, hP⟩ := hB
  have hS : va_S (cA mN E) s.heap s.heap [] := va_S.rf
  have hl : lv_has ls 3 [(0, .ref (eP E 0)), (1, .int (nI k))] := hl
  refine lv_aload_n hx hb dX7_load_0 rfl (lv_at hl 0 rfl) ?_
  refine lv_iconst (v := 0) hx hb dX7_load_1 (by decide) ?_
  refine rw_puti (x := (I, A, K)) (v := 0) S hE hK hP hS 0 (by decide) rfl fk_X7_35 rfl tyX7_ok nmX7 ⟨rfl, by decide +kernel⟩ dX7_load_2 (fun H locs hP hS => ?_)
  have hP : Wp mN E mK ((up2 I 0 0 0), A, K) H := hP
  refine lv_aload_n hx hb dX7_load_5 rfl (lv_at hl 0 rfl) ?_
  refine lv_iload_n hx hb dX7_load_6 rfl (lv_at hl 1 rfl) ?_
  refine lv_iconst (v := 0) hx hb dX7_load_7 (by decide) ?_
  refine lv_aload_n hx hb dX7_load_8 rfl (lv_at hl 0 rfl) ?_
  refine rw_geti (x := ((up2 I 0 0 0), A, K)) (v := nI bl) S hK hP 0 (by decide) rfl fk_X7_39 rfl ((up2_j (f := I) (q := 0) (j := 0) (a := 0) (b := 2) (v := 0) (by decide)).trans hil) dX7_load_9 ?_
  refine cn_si (ck_S S lk_X7_58 (c_X7_in l (nI k) 0 (nI bl)) ⟨rfl, rfl⟩ ⟨Nat.le_of_ble_eq_true rfl, Nat.le_of_ble_eq_true rfl⟩ bl_T t_U rfl hl.1 (Nat.le_of_ble_eq_true rfl) ⟨Nat.le_refl _, Nat.le_refl _⟩ dX7_load_12 rfl) (fun r1 g2 => ?_)
  obtain rfl : r1 = rIn (nI k) 0 (nI bl) := g2
  refine tp_i (y := 1) (rIn_y (nI_pos (by omega)) (nI_nlt (by omega) (by omega))) ?_
  refine lv_if_ne (tgt := 22) hx hb dX7_load_15 (by decide) (fun h15 => ?_) (fun h15 => absurd h15 (by decide))
  refine lv_iconst (v := 0) hx hb dX7_load_22 (by decide) ?_
  refine lv_iconst (v := 1) hx hb dX7_load_23 (by decide) ?_
  refine cn_wi (ck_V (a := eP E 0) S lk_X7_159 (c_X7_fails_n l E (up2 I 0 0 0) A K 1 hE rfl) ⟨rfl, rfl⟩ ⟨Nat.le_of_ble_eq_true rfl, Nat.le_of_ble_eq_true rfl⟩ bl_w (rc_w hK hP 0 (by decide) rfl rfl) (bw_U hE hK hC hP hS) rfl hl.1 (Nat.le_of_ble_eq_true rfl) ⟨Nat.le_refl _, Nat.le_refl _⟩ dX7_load_24 rfl) hS (fun r3 u4 H locs g5 hP hS => ?_)
  obtain ⟨rfl, rfl⟩ : r3 = 0 ∧ u4 = ((up2 I 0 0 0), A, K) := g5
  have hP : Wp mN E mK ((up2 I 0 0 0), A, K) H := hP
  refine lv_if_eq (tgt := 32) hx hb dX7_load_27 (by decide) (fun h27 => ?_) (fun h27 => absurd (by decide) h27)
  refine lv_aload_n hx hb dX7_load_32 rfl (lv_at hl 0 rfl) ?_
  refine lv_iconst (v := 0) hx hb dX7_load_33 (by decide) ?_
  refine rw_puti (x := ((up2 I 0 0 0), A, K)) (v := 0) S hE hK hP hS 0 (by decide) rfl fk_X7_39 rfl tyX7_ok nmX7 ⟨rfl, by decide +kernel⟩ dX7_load_34 (fun H locs hP hS => ?_)
  have hP : Wp mN E mK ((up2 (up2 I 0 0 0) 0 2 0), A, K) H := hP
  refine lv_aload_n hx hb dX7_load_37 rfl (lv_at hl 0 rfl) ?_
  refine lv_iload_n hx hb dX7_load_38 rfl (lv_at hl 1 rfl) ?_
  refine rw_puti (x := ((up2 (up2 I 0 0 0) 0 2 0), A, K)) (v := nI k) S hE hK hP hS 0 (by decide) rfl fk_X7_42 rfl tyX7_ok nmX7 ⟨rfl, by decide +kernel⟩ dX7_load_39 (fun H locs hP hS => ?_)
  have hP : Wp mN E mK ((up2 (up2 (up2 I 0 0 0) 0 2 0) 0 3 (nI k)), A, K) H := hP
  refine lv_aload_n hx hb dX7_load_42 rfl (lv_at hl 0 rfl) ?_
  refine lv_iconst (v := 0) hx hb dX7_load_43 (by decide) ?_
  refine rw_puti (x := ((up2 (up2 (up2 I 0 0 0) 0 2 0) 0 3 (nI k)), A, K)) (v := 0) S hE hK hP hS 0 (by decide) rfl fk_X7_45 rfl tyX7_ok nmX7 ⟨rfl, by decide +kernel⟩ dX7_load_44 (fun H locs hP hS => ?_)
  have hP : Wp mN E mK ((up2 (up2 (up2 (up2 I 0 0 0) 0 2 0) 0 3 (nI k)) 0 4 0), A, K) H := hP
  refine lv_aload_n hx hb dX7_load_47 rfl (lv_at hl 0 rfl) ?_
  refine lv_iconst (v := 0) hx hb dX7_load_48 (by decide) ?_
  refine rw_puti (x := ((up2 (up2 (up2 (up2 I 0 0 0) 0 2 0) 0 3 (nI k)) 0 4 0), A, K)) (v := 0) S hE hK hP hS 0 (by decide) rfl fk_X7_52 rfl tyX7_ok nmX7 ⟨rfl, by decide +kernel⟩ dX7_load_49 (fun H locs hP hS => ?_)
  have hP : Wp mN E mK ((up2 (up2 (up2 (up2 (up2 I 0 0 0) 0 2 0) 0 3 (nI k)) 0 4 0) 0 5 0), A, K) H := hP
  refine lv_aload_n hx hb dX7_load_52 rfl (lv_at hl 0 rfl) ?_
  refine lv_iconst (v := (-1)) hx hb dX7_load_53 (by decide) ?_
  refine rw_puti (x := ((up2 (up2 (up2 (up2 (up2 I 0 0 0) 0 2 0) 0 3 (nI k)) 0 4 0) 0 5 0), A, K)) (v := (-1)) S hE hK hP hS 0 (by decide) rfl fk_X7_55 rfl tyX7_ok nmX7 ⟨rfl, by decide +kernel⟩ dX7_load_54 (fun H locs hP hS => ?_)
  have hP : Wp mN E mK ((up2 (up2 (up2 (up2 (up2 (up2 I 0 0 0) 0 2 0) 0 3 (nI k)) 0 4 0) 0 5 0) 0 6 (-1)), A, K) H := hP
  refine lv_aload_n hx hb dX7_load_57 rfl (lv_at hl 0 rfl) ?_
  refine lv_iconst (v := 0) hx hb dX7_load_58 (by decide) ?_
  refine rw_puti (x := ((up2 (up2 (up2 (up2 (up2 (up2 I 0 0 0) 0 2 0) 0 3 (nI k)) 0 4 0) 0 5 0) 0 6 (-1)), A, K)) (v := 0) S hE hK hP hS 0 (by decide) rfl fk_X7_95 rfl tyX7_ok nmX7 ⟨rfl, by decide +kernel⟩ dX7_load_59 (fun H locs hP hS => ?_)
  have hP : Wp mN E mK ((up2 (up2 (up2 (up2 (up2 (up2 (up2 I 0 0 0) 0 2 0) 0 3 (nI k)) 0 4 0) 0 5 0) 0 6 (-1)) 0 13 0), A, K) H := hP
  refine lv_aload_n hx hb dX7_load_62 rfl (lv_at hl 0 rfl) ?_
  refine lv_iconst (v := 0) hx hb dX7_load_63 (by decide) ?_
  refine rw_puti (x := ((up2 (up2 (up2 (up2 (up2 (up2 (up2 I 0 0 0) 0 2 0) 0 3 (nI k)) 0 4 0) 0 5 0) 0 6 (-1)) 0 13 0), A, K)) (v := 0) S hE hK hP hS 0 (by decide) rfl fk_X7_125 rfl tyX7_ok nmX7 ⟨rfl, by decide +kernel⟩ dX7_load_64 (fun H locs hP hS => ?_)
  have hP : Wp mN E mK ((up2 (up2 (up2 (up2 (up2 (up2 (up2 (up2 I 0 0 0) 0 2 0) 0 3 (nI k)) 0 4 0) 0 5 0) 0 6 (-1)) 0 13 0) 0 14 0), A, K) H := hP
  have hP : Wp mN E mK (mLd I k, A, K) H := hP
  refine lv_iconst (v := 0) hx hb dX7_load_67 (by decide) ?_
  refine lv_istore_n (lv' := [(2, .int 0), (0, .ref (eP E 0)), (1, .int (nI k))]) hx hb dX7_load_68 rfl hl (by decide) rfl (fun ls hl => ?_)
  have HL : ∀ (n i : Nat), i + n = 1282 → ∀ (H : Heap) (locs : List Loc), Wp mN E mK ((mLd I k), (mZr A i), K) H → va_S (cA mN E) s.heap H locs → ∀ ls : Array Slot, lv_has ls 3 [(2, .int (nI i)), (0, .ref (eP E 0)), (1, .int (nI k))] → W p l e (rmk 21 0 0 461) s m ([.ref (eP E 0), .int (nI k)] : List Value).toArray below meth c H locs 0 0 (MQ below (qWi mN E mK (fun zz uu => ∃ J B, qS T k (sRd T k C) J B ∧ rS (mLd I k) J ∧ (∀ a, a ≠ 3 → B a = A a) ∧ ((¬ (sRd T k C).2.2.2.2.1 = 0 ∧ zz = (sRd T k C).2.2.2.2.1 ∧ uu = (up2 J 0 7 (J 0 6), B, K)) ∨ ((sRd T k C).2.2.2.2.1 = 0 ∧ zz = nI (sRd T k C).2.1 ∧ ∃ ok, uu = (up2 (up2 J 0 7 (J 0 6)) 0 11 (nI (min (ud + 1) 8)), mLay (mCp (mRem B ud) 3 2 1282) (ldN T k (sRd T k C)) (2 * (sRd T k C).2.1), ok))))) ([.ref (eP E 0), .int (nI k)] : List Value).toArray s 0 0 (cA mN E)) (F0 m 69 ls []) := by
    intro n
    induction n with
    | zero =>
      intro i hi H locs hP hS ls hl
      have hiN : i = 1282 := by omega
      rw [hiN] at hl
      try rw [hiN] at hP
      refine lv_iload_n hx hb dX7_load_69 rfl (lv_at hl 0 rfl) ?_
      refine lv_sipush (v := 1282) hx hb dX7_load_70 (by decide) ?_
      refine lv_icmp_ge (tgt := 89) hx hb dX7_load_73 (by decide) (fun h73 => ?_) (fun h73 => absurd (Int32.le_refl _) h73)
      refine lv_aload_n hx hb dX7_load_89 rfl (lv_at hl 1 rfl) ?_
      refine va_ldcS (q := eS E 9) (tx := "scheme") hx hb S.2.2.2.1 (tr_9 hC.1.2.1) dX7_load_90 ?_
      refine cn_wi (ck_V (a := eP E 0) S lk_X7_107 (c_X7_takeWord_p l E (mLd I k) (mZr A 1282) K T k ((0, 0) : Tz) 9 hE (mW_st hT) (by decide)) ⟨rfl, rfl⟩ ⟨Nat.le_of_ble_eq_true rfl, Nat.le_of_ble_eq_true rfl⟩ bl_w (rc_w hK hP 0 (by decide) rfl rfl) (bw_U hE hK hC hP hS) rfl hl.1 (Nat.le_of_ble_eq_true rfl) ⟨Nat.le_refl _, Nat.le_refl _⟩ dX7_load_92 rfl) hS (fun r6 u7 H locs g8 hP hS => ?_)
      obtain ⟨hb9, J9, hW9, hp9, hq9, rfl⟩ : r6 = bI (zW T k (tw 9) ((0, 0) : Tz)) ∧ (∃ oj, mW oj (mZr A 1282) T k (zPW T k (tw 9) ((0, 0) : Tz)) ∧ rP (mLd I k) oj ∧ ((zW T k (tw 9) ((0, 0) : Tz)) = false → ((0, 0) : Tz).1 = 0 → oj 0 4 = nI (tkB T k ((0, 0) : Tz).2)) ∧ u7 = (oj, (mZr A 1282), K)) := g8
      refine tp_i (y := bI (zW T k (tw 9) ((0, 0) : Tz))) hb9 ?_
      have hP : Wp mN E mK (J9, (mZr A 1282), K) H := hP
      rw [tw_90] at hW9 hq9
      refine tp_i (y := bI (zW T k (tw 0) (0, 0))) (by rw [tw_90]) ?_
      have hs0 := rS_of hp9
      refine lv_if_ne (tgt := 108) hx hb dX7_load_95 (by decide) (fun h95 => ?_) (fun h95 => ?_)
      · have q0 : zW T k (tw 0) (0, 0) = true := bI_t h95
        have hWa : mW J9 (mZr A 1282) T k (zNW T k (tw 0) (0, 0)) := by unfold zNW; rw [if_pos q0]; rw [zPW_t q0] at hW9; exact hW9
        refine lv_aload_n hx hb dX7_load_108 rfl (lv_at hl 1 rfl) ?_
        refine lv_bipush (v := 59) hx hb dX7_load_109 (by decide) ?_
        refine cn_wv (ck_V (a := eP E 0) S lk_X7_101 (c_X7_expect l E J9 (mZr A 1282) K T k (zNW T k (tw 0) (0, 0)) 59 hE hWa (by decide) (by decide)) ⟨rfl, rfl⟩ ⟨Nat.le_of_ble_eq_true rfl, Nat.le_of_ble_eq_true rfl⟩ bl_w (rc_w hK hP 0 (by decide) rfl rfl) (bw_U hE hK hC hP hS) rfl hl.1 (Nat.le_of_ble_eq_true rfl) ⟨Nat.le_refl _, Nat.le_refl _⟩ dX7_load_111 rfl) hS (fun u11 H locs g12 hP hS => ?_)
        obtain ⟨J13, hW13, hp13, rfl⟩ : ∃ oj, mW oj (mZr A 1282) T k (zNS T k (nI 59) (zNW T k (tw 0) (0, 0))) ∧ rP J9 oj ∧ u11 = (oj, (mZr A 1282), K) := g12
        have hP : Wp mN E mK (J13, (mZr A 1282), K) H := hP
        have hsb := rS_tr hs0 (rS_of hp13)
        have HL : ∀ (cnt : Nat) (P : Ps) (J B : Nat → Nat → Int32), (P.2.2.2.2.1 = 0 → k - P.2.2.2.2.2 ≤ cnt) → qS T k P J B → sLp T k cnt P = sRd T k C → rS (mLd I k) J → (∀ a, a ≠ 3 → B a = A a) → ∀ (H : Heap) (locs : List Loc), Wp mN E mK (J, B, K) H → va_S (cA mN E) s.heap H locs → ∀ ls : Array Slot, lv_has ls 3 [(0, .ref (eP E 0)), (1, .int (nI k))] → W p l e (rmk 21 0 0 461) s m ([.ref (eP E 0), .int (nI k)] : List Value).toArray below meth c H locs 0 0 (MQ below (qWi mN E mK (fun zz uu => ∃ J B, qS T k (sRd T k C) J B ∧ rS (mLd I k) J ∧ (∀ a, a ≠ 3 → B a = A a) ∧ ((¬ (sRd T k C).2.2.2.2.1 = 0 ∧ zz = (sRd T k C).2.2.2.2.1 ∧ uu = (up2 J 0 7 (J 0 6), B, K)) ∨ ((sRd T k C).2.2.2.2.1 = 0 ∧ zz = nI (sRd T k C).2.1 ∧ ∃ ok, uu = (up2 (up2 J 0 7 (J 0 6)) 0 11 (nI (min (ud + 1) 8)), mLay (mCp (mRem B ud) 3 2 1282) (ldN T k (sRd T k C)) (2 * (sRd T k C).2.1), ok))))) ([.ref (eP E 0), .int (nI k)] : List Value).toArray s 0 0 (cA mN E)) (F0 m 114 ls []) := by
          intro cnt
          induction cnt with
          | zero =>
            intro P J B hct hq hv hsf haf H locs hP hS ls hl
            have hWP := hq.1.1
            have hTP := hWP.1.2.1
            refine lv_aload_n hx hb dX7_load_114 rfl (lv_at hl 0 rfl) ?_
            refine cn_si (ck_V (a := eP E 0) S lk_X7_62 (c_X7_isGood l E J B K hE) ⟨rfl, rfl⟩ ⟨Nat.le_of_ble_eq_true rfl, Nat.le_of_ble_eq_true rfl⟩ bl_w (rc_w hK hP 0 (by decide) rfl rfl) (bw_U hE hK hC hP hS) rfl hl.1 (Nat.le_of_ble_eq_true rfl) ⟨Nat.le_refl _, Nat.le_refl _⟩ dX7_load_115 rfl) (fun r14 g15 => ?_)
            obtain rfl : r14 = bI (decide (J 0 5 = 0)) := g15
            refine lv_if_eq (tgt := 136) hx hb dX7_load_118 (by decide) (fun h118 => ?_) (fun h118 => ?_)
            · have hbP : ¬ P.2.2.2.2.1 = 0 := fun g => absurd (decide_eq_true (hWP.2.1.trans g)) (by rw [bI_f h118]; decide)
              have hm : zM T k P.2.2.2.2 = false := decide_eq_false (fun q => hbP q.1)
              have hfin : P = sRd T k C := (sLp_x hm _).symm.trans hv
              subst hfin
              have hq3 := hq
              have hsf3 := hsf
              obtain ⟨L, hL⟩ : ∃ L, J = L := ⟨_, rfl⟩
              rw [hL] at hP hq3 hsf3
              have hP : Wp mN E mK (L, B, K) H := hP
              have hWL := hq3.1.1
              refine lv_aload_n hx hb dX7_load_136 rfl (lv_at hl 0 rfl) ?_
              refine lv_aload_n hx hb dX7_load_137 rfl (lv_at hl 0 rfl) ?_
              refine rw_geti (x := (L, B, K)) (v := L 0 6) S hK hP 0 (by decide) rfl fk_X7_55 rfl rfl dX7_load_138 ?_
              refine rw_puti (x := (L, B, K)) (v := L 0 6) S hE hK hP hS 0 (by decide) rfl fk_X7_13 rfl tyX7_ok nmX7 ⟨rfl, by decide +kernel⟩ dX7_load_141 (fun H locs hP hS => ?_)
              have hP : Wp mN E mK ((up2 L 0 7 (L 0 6)), B, K) H := hP
              refine lv_aload_n hx hb dX7_load_144 rfl (lv_at hl 0 rfl) ?_
              refine cn_si (ck_V (a := eP E 0) S lk_X7_62 (c_X7_isGood l E (up2 L 0 7 (L 0 6)) B K hE) ⟨rfl, rfl⟩ ⟨Nat.le_of_ble_eq_true rfl, Nat.le_of_ble_eq_true rfl⟩ bl_w (rc_w hK hP 0 (by decide) rfl rfl) (bw_U hE hK hC hP hS) rfl hl.1 (Nat.le_of_ble_eq_true rfl) ⟨Nat.le_refl _, Nat.le_refl _⟩ dX7_load_145 rfl) (fun r16 g17 => ?_)
              obtain rfl : r16 = bI (decide ((up2 L 0 7 (L 0 6)) 0 5 = 0)) := g17
              refine lv_if_ne (tgt := 156) hx hb dX7_load_148 (by decide) (fun h148 => absurd h148 (show ¬ ¬ bI (decide ((up2 L 0 7 (L 0 6)) 0 5 = 0)) = 0 from fun g => g (by rw [decide_eq_false (show ¬ (up2 L 0 7 (L 0 6)) 0 5 = 0 from fun q => hbP (hWL.2.1.symm.trans q))]; rfl))) (fun h148 => ?_)
              refine lv_aload_n hx hb dX7_load_151 rfl (lv_at hl 0 rfl) ?_
              refine rw_geti (x := ((up2 L 0 7 (L 0 6)), B, K)) (v := (sRd T k C).2.2.2.2.1) S hK hP 0 (by decide) rfl fk_X7_52 rfl ((up2_j (f := L) (q := 0) (j := 7) (a := 0) (b := 5) (v := L 0 6) (by decide)).trans hWL.2.1) dX7_load_152 ?_
              exact re_wi (x := ((up2 L 0 7 (L 0 6)), B, K)) (v := (sRd T k C).2.2.2.2.1) hx hb hr hlk hP hS ⟨L, B, hq3, hsf3, haf, Or.inl ⟨hbP, rfl, rfl⟩⟩ dX7_load_155
            · have h0P : P.2.2.2.2.1 = 0 := hWP.2.1.symm.trans (of_decide_eq_true (bI_t h118))
              refine lv_aload_n hx hb dX7_load_121 rfl (lv_at hl 0 rfl) ?_
              refine cn_wi (ck_V (a := eP E 0) S lk_X7_66 (c_X7_nextW l E J B K T k P.2.2.2.2 hE hWP h0P) ⟨rfl, rfl⟩ ⟨Nat.le_of_ble_eq_true rfl, Nat.le_of_ble_eq_true rfl⟩ bl_w (rc_w hK hP 0 (by decide) rfl rfl) (bw_U hE hK hC hP hS) rfl hl.1 (Nat.le_of_ble_eq_true rfl) ⟨Nat.le_refl _, Nat.le_refl _⟩ dX7_load_122 rfl) hS (fun r18 u19 H locs g20 hP hS => ?_)
              obtain ⟨rfl, rfl⟩ : r18 = (mBv B k (tkB T k P.2.2.2.2.2)) ∧ u19 = ((up2 J 0 4 (nI (tkB T k P.2.2.2.2.2))), B, K) := g20
              have hP : Wp mN E mK ((up2 J 0 4 (nI (tkB T k P.2.2.2.2.2))), B, K) H := hP
              refine lv_iconst (v := (-1)) hx hb dX7_load_125 (by decide) ?_
              refine lv_icmp_eq (tgt := 136) hx hb dX7_load_126 (by decide) (fun h126 => ?_) (fun h126 => ?_)
              · have hkB : ¬ tkB T k P.2.2.2.2.2 < k := fun g => mBv_no hTP g h126
                have hm : zM T k P.2.2.2.2 = false := decide_eq_false (fun q => q.2 (tk_0 (Nat.not_lt.mp hkB)).1)
                have hfin : P = sRd T k C := (sLp_x hm _).symm.trans hv
                subst hfin
                have hP : Wp mN E mK ((up2 J 0 4 (nI (tkB T k (sRd T k C).2.2.2.2.2))), B, K) H := hP
                have hq3 : qS T k (sRd T k C) (up2 J 0 4 (nI (tkB T k (sRd T k C).2.2.2.2.2))) B := ⟨⟨mW_nx hWP h0P, hq.1.2⟩, fun g => ⟨(hq.2 g).1, qF_ext rfl (fun _ _ => rfl) (hq.2 g).2⟩⟩
                have hsf3 := rS_u (b := 4) (v := nI (tkB T k (sRd T k C).2.2.2.2.2)) hsf (by omega)
                obtain ⟨L, hL⟩ : ∃ L, (up2 J 0 4 (nI (tkB T k (sRd T k C).2.2.2.2.2))) = L := ⟨_, rfl⟩
                rw [hL] at hP hq3 hsf3
                have hP : Wp mN E mK (L, B, K) H := hP
                have hWL := hq3.1.1
                refine lv_aload_n hx hb dX7_load_136 rfl (lv_at hl 0 rfl) ?_
                refine lv_aload_n hx hb dX7_load_137 rfl (lv_at hl 0 rfl) ?_
                refine rw_geti (x := (L, B, K)) (v := L 0 6) S hK hP 0 (by decide) rfl fk_X7_55 rfl rfl dX7_load_138 ?_
                refine rw_puti (x := (L, B, K)) (v := L 0 6) S hE hK hP hS 0 (by decide) rfl fk_X7_13 rfl tyX7_ok nmX7 ⟨rfl, by decide +kernel⟩ dX7_load_141 (fun H locs hP hS => ?_)
                have hP : Wp mN E mK ((up2 L 0 7 (L 0 6)), B, K) H := hP
                refine lv_aload_n hx hb dX7_load_144 rfl (lv_at hl 0 rfl) ?_
                refine cn_si (ck_V (a := eP E 0) S lk_X7_62 (c_X7_isGood l E (up2 L 0 7 (L 0 6)) B K hE) ⟨rfl, rfl⟩ ⟨Nat.le_of_ble_eq_true rfl, Nat.le_of_ble_eq_true rfl⟩ bl_w (rc_w hK hP 0 (by decide) rfl rfl) (bw_U hE hK hC hP hS) rfl hl.1 (Nat.le_of_ble_eq_true rfl) ⟨Nat.le_refl _, Nat.le_refl _⟩ dX7_load_145 rfl) (fun r21 g22 => ?_)
                obtain rfl : r21 = bI (decide ((up2 L 0 7 (L 0 6)) 0 5 = 0)) := g22
                refine lv_if_ne (tgt := 156) hx hb dX7_load_148 (by decide) (fun h148 => ?_) (fun h148 => absurd h148 (show ¬ bI (decide ((up2 L 0 7 (L 0 6)) 0 5 = 0)) = 0 from by rw [decide_eq_true (show (up2 L 0 7 (L 0 6)) 0 5 = 0 from hWL.2.1.trans h0P)]; decide))
                refine lv_aload_n hx hb dX7_load_156 rfl (lv_at hl 0 rfl) ?_
                refine cn_wv (ck_V (a := eP E 0) S lk_X7_166 (c_X7_remember l E (up2 L 0 7 (L 0 6)) B K ud hE ((up2_j (by decide)).trans ((hsf3 0 11 (by omega)).trans hud)) hu8) ⟨rfl, rfl⟩ ⟨Nat.le_of_ble_eq_true rfl, Nat.le_of_ble_eq_true rfl⟩ bl_w (rc_w hK hP 0 (by decide) rfl rfl) (bw_U hE hK hC hP hS) rfl hl.1 (Nat.le_of_ble_eq_true rfl) ⟨Nat.le_refl _, Nat.le_refl _⟩ dX7_load_157 rfl) hS (fun u24 H locs g25 hP hS => ?_)
                obtain rfl : u24 = ((up2 (up2 L 0 7 (L 0 6)) 0 11 (nI (min (ud + 1) 8))), (mRem B ud), K) := g25
                have hP : Wp mN E mK ((up2 (up2 L 0 7 (L 0 6)) 0 11 (nI (min (ud + 1) 8))), (mRem B ud), K) H := hP
                refine lv_aload_n hx hb dX7_load_160 rfl (lv_at hl 0 rfl) ?_
                refine rw_getr (x := ((up2 (up2 L 0 7 (L 0 6)) 0 11 (nI (min (ud + 1) 8))), (mRem B ud), K)) S hK hP 0 (by decide) rfl fk_X7_20 rfl dX7_load_161 ?_
                refine lv_aload_n hx hb dX7_load_164 rfl (lv_at hl 0 rfl) ?_
                refine rw_getr (x := ((up2 (up2 L 0 7 (L 0 6)) 0 11 (nI (min (ud + 1) 8))), (mRem B ud), K)) S hK hP 0 (by decide) rfl fk_X7_17 rfl dX7_load_165 ?_
                refine cn_wv (ck_S S lk_X7_169 (c_X7_copy l E (up2 (up2 L 0 7 (L 0 6)) 0 11 (nI (min (ud + 1) 8))) (mRem B ud) K 3 2 hE (by decide) (by decide) rfl rfl) ⟨rfl, rfl⟩ ⟨Nat.le_of_ble_eq_true rfl, Nat.le_of_ble_eq_true rfl⟩ bl_w (bw_U hE hK hC hP hS) rfl hl.1 (Nat.le_of_ble_eq_true rfl) ⟨Nat.le_refl _, Nat.le_refl _⟩ dX7_load_168 rfl) hS (fun u27 H locs g28 hP hS => ?_)
                obtain rfl : u27 = ((up2 (up2 L 0 7 (L 0 6)) 0 11 (nI (min (ud + 1) 8))), (mCp (mRem B ud) 3 2 1282), K) := g28
                have hP : Wp mN E mK ((up2 (up2 L 0 7 (L 0 6)) 0 11 (nI (min (ud + 1) 8))), (mCp (mRem B ud) 3 2 1282), K) H := hP
                refine lv_aload_n hx hb dX7_load_171 rfl (lv_at hl 0 rfl) ?_
                refine cn_wv (ck_V (a := eP E 0) S lk_X7_173 (c_X7_layNeeds l E (up2 (up2 L 0 7 (L 0 6)) 0 11 (nI (min (ud + 1) 8))) (mCp (mRem B ud) 3 2 1282) K ((sRd T k C).2.1) (ldN T k (sRd T k C)) hE ((hq3.2 h0P).1.1.2) (((fun b hb => (mCp_q (by decide) hb).trans (congrFun (mRem_ne hu8 (by decide)) b)) 1 (by decide)).trans (hq3.2 h0P).1.2.1.2) (fun u hu sc hsc => nOk_cp (fun b hb => (mCp_q (by decide) hb).trans (congrFun (mRem_ne hu8 (by decide)) b)) (by have := (hq3.2 h0P).1.1.2; omega) (nOk_ld (hq3.2 h0P).1 (hq3.2 h0P).2 hu hsc))) ⟨rfl, rfl⟩ ⟨Nat.le_of_ble_eq_true rfl, Nat.le_of_ble_eq_true rfl⟩ bl_w (rc_w hK hP 0 (by decide) rfl rfl) (bw_U hE hK hC hP hS) rfl hl.1 (Nat.le_of_ble_eq_true rfl) ⟨Nat.le_refl _, Nat.le_refl _⟩ dX7_load_172 rfl) hS (fun u30 H locs g31 hP hS => ?_)
                obtain ⟨K32, rfl⟩ : ∃ ok, u30 = ((up2 (up2 L 0 7 (L 0 6)) 0 11 (nI (min (ud + 1) 8))), (mLay (mCp (mRem B ud) 3 2 1282) (ldN T k (sRd T k C)) (2 * ((sRd T k C).2.1))), ok) := g31
                have hP : Wp mN E mK ((up2 (up2 L 0 7 (L 0 6)) 0 11 (nI (min (ud + 1) 8))), (mLay (mCp (mRem B ud) 3 2 1282) (ldN T k (sRd T k C)) (2 * ((sRd T k C).2.1))), K32) H := hP
                refine lv_aload_n hx hb dX7_load_175 rfl (lv_at hl 0 rfl) ?_
                refine rw_getr (x := ((up2 (up2 L 0 7 (L 0 6)) 0 11 (nI (min (ud + 1) 8))), (mLay (mCp (mRem B ud) 3 2 1282) (ldN T k (sRd T k C)) (2 * ((sRd T k C).2.1))), K32)) S hK hP 0 (by decide) rfl fk_X7_17 rfl dX7_load_176 ?_
                refine lv_iconst (v := 1) hx hb dX7_load_179 (by decide) ?_
                refine rw_iald (x := ((up2 (up2 L 0 7 (L 0 6)) 0 11 (nI (min (ud + 1) 8))), (mLay (mCp (mRem B ud) 3 2 1282) (ldN T k (sRd T k C)) (2 * ((sRd T k C).2.1))), K32)) (v := nI (sRd T k C).2.1) S hK hP 2 (by decide) rfl 1 rfl (by decide) (by decide) ((congrFun (mLay_ne (by decide)) 1).trans (((fun b hb => (mCp_q (by decide) hb).trans (congrFun (mRem_ne hu8 (by decide)) b)) 1 (by decide)).trans (hq3.2 h0P).1.2.1.2)) dX7_load_180 ?_
                exact re_wi (x := ((up2 (up2 L 0 7 (L 0 6)) 0 11 (nI (min (ud + 1) 8))), (mLay (mCp (mRem B ud) 3 2 1282) (ldN T k (sRd T k C)) (2 * ((sRd T k C).2.1))), K32)) (v := nI (sRd T k C).2.1) hx hb hr hlk hP hS ⟨L, B, hq3, hsf3, haf, Or.inr ⟨h0P, rfl, _, rfl⟩⟩ dX7_load_181
              · have hkB : tkB T k P.2.2.2.2.2 < k := Classical.byContradiction (fun g => h126 (if_neg g))
                have hm : zM T k P.2.2.2.2 = true := decide_eq_true ⟨h0P, tk_n0 hkB⟩
                exact absurd hkB (by have := hct h0P; have := tkB_ge (T := T) (n := k) (p := P.2.2.2.2.2); omega)
          | succ cnt ih =>
            intro P J B hct hq hv hsf haf H locs hP hS ls hl
            have hWP := hq.1.1
            have hTP := hWP.1.2.1
            refine lv_aload_n hx hb dX7_load_114 rfl (lv_at hl 0 rfl) ?_
            refine cn_si (ck_V (a := eP E 0) S lk_X7_62 (c_X7_isGood l E J B K hE) ⟨rfl, rfl⟩ ⟨Nat.le_of_ble_eq_true rfl, Nat.le_of_ble_eq_true rfl⟩ bl_w (rc_w hK hP 0 (by decide) rfl rfl) (bw_U hE hK hC hP hS) rfl hl.1 (Nat.le_of_ble_eq_true rfl) ⟨Nat.le_refl _, Nat.le_refl _⟩ dX7_load_115 rfl) (fun r33 g34 => ?_)
            obtain rfl : r33 = bI (decide (J 0 5 = 0)) := g34
            refine lv_if_eq (tgt := 136) hx hb dX7_load_118 (by decide) (fun h118 => ?_) (fun h118 => ?_)
            · have hbP : ¬ P.2.2.2.2.1 = 0 := fun g => absurd (decide_eq_true (hWP.2.1.trans g)) (by rw [bI_f h118]; decide)
              have hm : zM T k P.2.2.2.2 = false := decide_eq_false (fun q => hbP q.1)
              have hfin : P = sRd T k C := (sLp_x hm _).symm.trans hv
              subst hfin
              have hq3 := hq
              have hsf3 := hsf
              obtain ⟨L, hL⟩ : ∃ L, J = L := ⟨_, rfl⟩
              rw [hL] at hP hq3 hsf3
              have hP : Wp mN E mK (L, B, K) H := hP
              have hWL := hq3.1.1
              refine lv_aload_n hx hb dX7_load_136 rfl (lv_at hl 0 rfl) ?_
              refine lv_aload_n hx hb dX7_load_137 rfl (lv_at hl 0 rfl) ?_
              refine rw_geti (x := (L, B, K)) (v := L 0 6) S hK hP 0 (by decide) rfl fk_X7_55 rfl rfl dX7_load_138 ?_
              refine rw_puti (x := (L, B, K)) (v := L 0 6) S hE hK hP hS 0 (by decide) rfl fk_X7_13 rfl tyX7_ok nmX7 ⟨rfl, by decide +kernel⟩ dX7_load_141 (fun H locs hP hS => ?_)
              have hP : Wp mN E mK ((up2 L 0 7 (L 0 6)), B, K) H := hP
              refine lv_aload_n hx hb dX7_load_144 rfl (lv_at hl 0 rfl) ?_
              refine cn_si (ck_V (a := eP E 0) S lk_X7_62 (c_X7_isGood l E (up2 L 0 7 (L 0 6)) B K hE) ⟨rfl, rfl⟩ ⟨Nat.le_of_ble_eq_true rfl, Nat.le_of_ble_eq_true rfl⟩ bl_w (rc_w hK hP 0 (by decide) rfl rfl) (bw_U hE hK hC hP hS) rfl hl.1 (Nat.le_of_ble_eq_true rfl) ⟨Nat.le_refl _, Nat.le_refl _⟩ dX7_load_145 rfl) (fun r35 g36 => ?_)
              obtain rfl : r35 = bI (decide ((up2 L 0 7 (L 0 6)) 0 5 = 0)) := g36
              refine lv_if_ne (tgt := 156) hx hb dX7_load_148 (by decide) (fun h148 => absurd h148 (show ¬ ¬ bI (decide ((up2 L 0 7 (L 0 6)) 0 5 = 0)) = 0 from fun g => g (by rw [decide_eq_false (show ¬ (up2 L 0 7 (L 0 6)) 0 5 = 0 from fun q => hbP (hWL.2.1.symm.trans q))]; rfl))) (fun h148 => ?_)
              refine lv_aload_n hx hb dX7_load_151 rfl (lv_at hl 0 rfl) ?_
              refine rw_geti (x := ((up2 L 0 7 (L 0 6)), B, K)) (v := (sRd T k C).2.2.2.2.1) S hK hP 0 (by decide) rfl fk_X7_52 rfl ((up2_j (f := L) (q := 0) (j := 7) (a := 0) (b := 5) (v := L 0 6) (by decide)).trans hWL.2.1) dX7_load_152 ?_
              exact re_wi (x := ((up2 L 0 7 (L 0 6)), B, K)) (v := (sRd T k C).2.2.2.2.1) hx hb hr hlk hP hS ⟨L, B, hq3, hsf3, haf, Or.inl ⟨hbP, rfl, rfl⟩⟩ dX7_load_155
            · have h0P : P.2.2.2.2.1 = 0 := hWP.2.1.symm.trans (of_decide_eq_true (bI_t h118))
              refine lv_aload_n hx hb dX7_load_121 rfl (lv_at hl 0 rfl) ?_
              refine cn_wi (ck_V (a := eP E 0) S lk_X7_66 (c_X7_nextW l E J B K T k P.2.2.2.2 hE hWP h0P) ⟨rfl, rfl⟩ ⟨Nat.le_of_ble_eq_true rfl, Nat.le_of_ble_eq_true rfl⟩ bl_w (rc_w hK hP 0 (by decide) rfl rfl) (bw_U hE hK hC hP hS) rfl hl.1 (Nat.le_of_ble_eq_true rfl) ⟨Nat.le_refl _, Nat.le_refl _⟩ dX7_load_122 rfl) hS (fun r37 u38 H locs g39 hP hS => ?_)
              obtain ⟨rfl, rfl⟩ : r37 = (mBv B k (tkB T k P.2.2.2.2.2)) ∧ u38 = ((up2 J 0 4 (nI (tkB T k P.2.2.2.2.2))), B, K) := g39
              have hP : Wp mN E mK ((up2 J 0 4 (nI (tkB T k P.2.2.2.2.2))), B, K) H := hP
              refine lv_iconst (v := (-1)) hx hb dX7_load_125 (by decide) ?_
              refine lv_icmp_eq (tgt := 136) hx hb dX7_load_126 (by decide) (fun h126 => ?_) (fun h126 => ?_)
              · have hkB : ¬ tkB T k P.2.2.2.2.2 < k := fun g => mBv_no hTP g h126
                have hm : zM T k P.2.2.2.2 = false := decide_eq_false (fun q => q.2 (tk_0 (Nat.not_lt.mp hkB)).1)
                have hfin : P = sRd T k C := (sLp_x hm _).symm.trans hv
                subst hfin
                have hP : Wp mN E mK ((up2 J 0 4 (nI (tkB T k (sRd T k C).2.2.2.2.2))), B, K) H := hP
                have hq3 : qS T k (sRd T k C) (up2 J 0 4 (nI (tkB T k (sRd T k C).2.2.2.2.2))) B := ⟨⟨mW_nx hWP h0P, hq.1.2⟩, fun g => ⟨(hq.2 g).1, qF_ext rfl (fun _ _ => rfl) (hq.2 g).2⟩⟩
                have hsf3 := rS_u (b := 4) (v := nI (tkB T k (sRd T k C).2.2.2.2.2)) hsf (by omega)
                obtain ⟨L, hL⟩ : ∃ L, (up2 J 0 4 (nI (tkB T k (sRd T k C).2.2.2.2.2))) = L := ⟨_, rfl⟩
                rw [hL] at hP hq3 hsf3
                have hP : Wp mN E mK (L, B, K) H := hP
                have hWL := hq3.1.1
                refine lv_aload_n hx hb dX7_load_136 rfl (lv_at hl 0 rfl) ?_
                refine lv_aload_n hx hb dX7_load_137 rfl (lv_at hl 0 rfl) ?_
                refine rw_geti (x := (L, B, K)) (v := L 0 6) S hK hP 0 (by decide) rfl fk_X7_55 rfl rfl dX7_load_138 ?_
                refine rw_puti (x := (L, B, K)) (v := L 0 6) S hE hK hP hS 0 (by decide) rfl fk_X7_13 rfl tyX7_ok nmX7 ⟨rfl, by decide +kernel⟩ dX7_load_141 (fun H locs hP hS => ?_)
                have hP : Wp mN E mK ((up2 L 0 7 (L 0 6)), B, K) H := hP
                refine lv_aload_n hx hb dX7_load_144 rfl (lv_at hl 0 rfl) ?_
                refine cn_si (ck_V (a := eP E 0) S lk_X7_62 (c_X7_isGood l E (up2 L 0 7 (L 0 6)) B K hE) ⟨rfl, rfl⟩ ⟨Nat.le_of_ble_eq_true rfl, Nat.le_of_ble_eq_true rfl⟩ bl_w (rc_w hK hP 0 (by decide) rfl rfl) (bw_U hE hK hC hP hS) rfl hl.1 (Nat.le_of_ble_eq_true rfl) ⟨Nat.le_refl _, Nat.le_refl _⟩ dX7_load_145 rfl) (fun r40 g41 => ?_)
                obtain rfl : r40 = bI (decide ((up2 L 0 7 (L 0 6)) 0 5 = 0)) := g41
                refine lv_if_ne (tgt := 156) hx hb dX7_load_148 (by decide) (fun h148 => ?_) (fun h148 => absurd h148 (show ¬ bI (decide ((up2 L 0 7 (L 0 6)) 0 5 = 0)) = 0 from by rw [decide_eq_true (show (up2 L 0 7 (L 0 6)) 0 5 = 0 from hWL.2.1.trans h0P)]; decide))
                refine lv_aload_n hx hb dX7_load_156 rfl (lv_at hl 0 rfl) ?_
                refine cn_wv (ck_V (a := eP E 0) S lk_X7_166 (c_X7_remember l E (up2 L 0 7 (L 0 6)) B K ud hE ((up2_j (by decide)).trans ((hsf3 0 11 (by omega)).trans hud)) hu8) ⟨rfl, rfl⟩ ⟨Nat.le_of_ble_eq_true rfl, Nat.le_of_ble_eq_true rfl⟩ bl_w (rc_w hK hP 0 (by decide) rfl rfl) (bw_U hE hK hC hP hS) rfl hl.1 (Nat.le_of_ble_eq_true rfl) ⟨Nat.le_refl _, Nat.le_refl _⟩ dX7_load_157 rfl) hS (fun u43 H locs g44 hP hS => ?_)
                obtain rfl : u43 = ((up2 (up2 L 0 7 (L 0 6)) 0 11 (nI (min (ud + 1) 8))), (mRem B ud), K) := g44
                have hP : Wp mN E mK ((up2 (up2 L 0 7 (L 0 6)) 0 11 (nI (min (ud + 1) 8))), (mRem B ud), K) H := hP
                refine lv_aload_n hx hb dX7_load_160 rfl (lv_at hl 0 rfl) ?_
                refine rw_getr (x := ((up2 (up2 L 0 7 (L 0 6)) 0 11 (nI (min (ud + 1) 8))), (mRem B ud), K)) S hK hP 0 (by decide) rfl fk_X7_20 rfl dX7_load_161 ?_
                refine lv_aload_n hx hb dX7_load_164 rfl (lv_at hl 0 rfl) ?_
                refine rw_getr (x := ((up2 (up2 L 0 7 (L 0 6)) 0 11 (nI (min (ud + 1) 8))), (mRem B ud), K)) S hK hP 0 (by decide) rfl fk_X7_17 rfl dX7_load_165 ?_
                refine cn_wv (ck_S S lk_X7_169 (c_X7_copy l E (up2 (up2 L 0 7 (L 0 6)) 0 11 (nI (min (ud + 1) 8))) (mRem B ud) K 3 2 hE (by decide) (by decide) rfl rfl) ⟨rfl, rfl⟩ ⟨Nat.le_of_ble_eq_true rfl, Nat.le_of_ble_eq_true rfl⟩ bl_w (bw_U hE hK hC hP hS) rfl hl.1 (Nat.le_of_ble_eq_true rfl) ⟨Nat.le_refl _, Nat.le_refl _⟩ dX7_load_168 rfl) hS (fun u46 H locs g47 hP hS => ?_)
                obtain rfl : u46 = ((up2 (up2 L 0 7 (L 0 6)) 0 11 (nI (min (ud + 1) 8))), (mCp (mRem B ud) 3 2 1282), K) := g47
                have hP : Wp mN E mK ((up2 (up2 L 0 7 (L 0 6)) 0 11 (nI (min (ud + 1) 8))), (mCp (mRem B ud) 3 2 1282), K) H := hP
                refine lv_aload_n hx hb dX7_load_171 rfl (lv_at hl 0 rfl) ?_
                refine cn_wv (ck_V (a := eP E 0) S lk_X7_173 (c_X7_layNeeds l E (up2 (up2 L 0 7 (L 0 6)) 0 11 (nI (min (ud + 1) 8))) (mCp (mRem B ud) 3 2 1282) K ((sRd T k C).2.1) (ldN T k (sRd T k C)) hE ((hq3.2 h0P).1.1.2) (((fun b hb => (mCp_q (by decide) hb).trans (congrFun (mRem_ne hu8 (by decide)) b)) 1 (by decide)).trans (hq3.2 h0P).1.2.1.2) (fun u hu sc hsc => nOk_cp (fun b hb => (mCp_q (by decide) hb).trans (congrFun (mRem_ne hu8 (by decide)) b)) (by have := (hq3.2 h0P).1.1.2; omega) (nOk_ld (hq3.2 h0P).1 (hq3.2 h0P).2 hu hsc))) ⟨rfl, rfl⟩ ⟨Nat.le_of_ble_eq_true rfl, Nat.le_of_ble_eq_true rfl⟩ bl_w (rc_w hK hP 0 (by decide) rfl rfl) (bw_U hE hK hC hP hS) rfl hl.1 (Nat.le_of_ble_eq_true rfl) ⟨Nat.le_refl _, Nat.le_refl _⟩ dX7_load_172 rfl) hS (fun u49 H locs g50 hP hS => ?_)
                obtain ⟨K51, rfl⟩ : ∃ ok, u49 = ((up2 (up2 L 0 7 (L 0 6)) 0 11 (nI (min (ud + 1) 8))), (mLay (mCp (mRem B ud) 3 2 1282) (ldN T k (sRd T k C)) (2 * ((sRd T k C).2.1))), ok) := g50
                have hP : Wp mN E mK ((up2 (up2 L 0 7 (L 0 6)) 0 11 (nI (min (ud + 1) 8))), (mLay (mCp (mRem B ud) 3 2 1282) (ldN T k (sRd T k C)) (2 * ((sRd T k C).2.1))), K51) H := hP
                refine lv_aload_n hx hb dX7_load_175 rfl (lv_at hl 0 rfl) ?_
                refine rw_getr (x := ((up2 (up2 L 0 7 (L 0 6)) 0 11 (nI (min (ud + 1) 8))), (mLay (mCp (mRem B ud) 3 2 1282) (ldN T k (sRd T k C)) (2 * ((sRd T k C).2.1))), K51)) S hK hP 0 (by decide) rfl fk_X7_17 rfl dX7_load_176 ?_
                refine lv_iconst (v := 1) hx hb dX7_load_179 (by decide) ?_
                refine rw_iald (x := ((up2 (up2 L 0 7 (L 0 6)) 0 11 (nI (min (ud + 1) 8))), (mLay (mCp (mRem B ud) 3 2 1282) (ldN T k (sRd T k C)) (2 * ((sRd T k C).2.1))), K51)) (v := nI (sRd T k C).2.1) S hK hP 2 (by decide) rfl 1 rfl (by decide) (by decide) ((congrFun (mLay_ne (by decide)) 1).trans (((fun b hb => (mCp_q (by decide) hb).trans (congrFun (mRem_ne hu8 (by decide)) b)) 1 (by decide)).trans (hq3.2 h0P).1.2.1.2)) dX7_load_180 ?_
                exact re_wi (x := ((up2 (up2 L 0 7 (L 0 6)) 0 11 (nI (min (ud + 1) 8))), (mLay (mCp (mRem B ud) 3 2 1282) (ldN T k (sRd T k C)) (2 * ((sRd T k C).2.1))), K51)) (v := nI (sRd T k C).2.1) hx hb hr hlk hP hS ⟨L, B, hq3, hsf3, haf, Or.inr ⟨h0P, rfl, _, rfl⟩⟩ dX7_load_181
              · have hkB : tkB T k P.2.2.2.2.2 < k := Classical.byContradiction (fun g => h126 (if_neg g))
                have hm : zM T k P.2.2.2.2 = true := decide_eq_true ⟨h0P, tk_n0 hkB⟩
                have hq2 : qS T k P (up2 J 0 4 (nI (tkB T k P.2.2.2.2.2))) B := ⟨⟨mW_nx hWP h0P, hq.1.2⟩, fun g => ⟨(hq.2 g).1, qF_ext rfl (fun _ _ => rfl) (hq.2 g).2⟩⟩
                have hsf2 := rS_u (b := 4) (v := nI (tkB T k P.2.2.2.2.2)) hsf (by omega)
                refine lv_aload_n hx hb dX7_load_129 rfl (lv_at hl 0 rfl) ?_
                refine cn_wv (ck_V (a := eP E 0) S lk_X7_163 (c_X7_statement l E (up2 J 0 4 (nI (tkB T k P.2.2.2.2.2))) B K T k P.2.2.2.2 P.2.2.2.1 P.1 P.2.1 P.2.2.1 hE hq2 h0P) ⟨rfl, rfl⟩ ⟨Nat.le_of_ble_eq_true rfl, Nat.le_of_ble_eq_true rfl⟩ bl_w (rc_w hK hP 0 (by decide) rfl rfl) (bw_U hE hK hC hP hS) rfl hl.1 (Nat.le_of_ble_eq_true rfl) ⟨Nat.le_refl _, Nat.le_refl _⟩ dX7_load_130 rfl) hS (fun u53 H locs g54 hP hS => ?_)
                obtain ⟨J55, B55, ht55, rfl⟩ : ∃ oj ob, rT (up2 J 0 4 (nI (tkB T k P.2.2.2.2.2))) B T k (sSt T k (P.1, P.2.1, P.2.2.1, P.2.2.2.1, P.2.2.2.2)) oj ob ∧ u53 = (oj, ob, K) := g54
                have hP : Wp mN E mK (J55, B55, K) H := hP
                refine lv_goto (tgt := 114) hx hb dX7_load_133 (by decide) ?_
                exact ih (sSt T k P) J55 B55 (fun g => by have := sSt_gt g; have := hct h0P; omega) ht55.1 ((sLp_s hm).symm.trans hv) (rS_tr hsf2 ht55.2.1) (fun a ha => (ht55.2.2 a ha).trans (haf a ha)) _ _ hP hS ls (lv_sub hl [0, 1] rfl)
        refine HL 700 (0, 0, none, C, zNS T k 59 (zNW T k (tw 0) (0, 0))) _ _ (fun _ => by omega) ⟨⟨hW13, (hsb 0 13 (by omega)).trans rfl⟩, fun _ => ⟨qD_0, qF_0 (I := I) ?_⟩⟩ sRd_e2 hsb (fun a ha => mZr_ne ha) _ _ hP hS ls (lv_sub hl [1, 2] rfl)
        exact (hp13 0 14 (by omega)).trans ((hp9 0 14 (by omega)).trans rfl)
      · have q0 : zW T k (tw 0) (0, 0) = false := bI_f h95
        rw [zPW_f q0] at hW9
        refine lv_aload_n hx hb dX7_load_98 rfl (lv_at hl 1 rfl) ?_
        refine lv_bipush (v := (-2)) hx hb dX7_load_99 (by decide) ?_
        refine lv_aload_n hx hb dX7_load_101 rfl (lv_at hl 1 rfl) ?_
        refine rw_geti (x := (J9, (mZr A 1282), K)) (v := J9 0 4) S hK hP 0 (by decide) rfl fk_X7_45 rfl rfl dX7_load_102 ?_
        refine cn_wv (ck_V (a := eP E 0) S lk_X7_79 (c_X7_report l E J9 (mZr A 1282) K (-2) (J9 0 4) hE) ⟨rfl, rfl⟩ ⟨Nat.le_of_ble_eq_true rfl, Nat.le_of_ble_eq_true rfl⟩ bl_w (rc_w hK hP 0 (by decide) rfl rfl) (bw_U hE hK hC hP hS) rfl hl.1 (Nat.le_of_ble_eq_true rfl) ⟨Nat.le_refl _, Nat.le_refl _⟩ dX7_load_105 rfl) hS (fun u57 H locs g58 hP hS => ?_)
        obtain rfl : u57 = ((if J9 0 5 = 0 then up2 (up2 J9 0 5 (-2)) 0 6 (J9 0 4) else J9), (mZr A 1282), K) := g58
        have hP : Wp mN E mK ((if J9 0 5 = 0 then up2 (up2 J9 0 5 (-2)) 0 6 (J9 0 4) else J9), (mZr A 1282), K) H := hP
        rw [if_pos (show J9 0 5 = 0 from hW9.2.1)] at hP
        have hP : Wp mN E mK ((up2 (up2 J9 0 5 (-2)) 0 6 (J9 0 4)), (mZr A 1282), K) H := hP
        have hWa : mW (up2 (up2 J9 0 5 (-2)) 0 6 (J9 0 4)) (mZr A 1282) T k (zNW T k (tw 0) (0, 0)) := by unfold zNW; rw [if_neg (ne_t q0)]; exact mW_er3 hW9 (Nat.zero_le _) rfl (by decide) rfl rfl (hq9 q0 rfl)
        have hs1 := rS_u (b := 6) (v := J9 0 4) (rS_u (b := 5) (v := -2) hs0 (by omega)) (by omega)
        refine lv_aload_n hx hb dX7_load_108 rfl (lv_at hl 1 rfl) ?_
        refine lv_bipush (v := 59) hx hb dX7_load_109 (by decide) ?_
        refine cn_wv (ck_V (a := eP E 0) S lk_X7_101 (c_X7_expect l E (up2 (up2 J9 0 5 (-2)) 0 6 (J9 0 4)) (mZr A 1282) K T k (zNW T k (tw 0) (0, 0)) 59 hE hWa (by decide) (by decide)) ⟨rfl, rfl⟩ ⟨Nat.le_of_ble_eq_true rfl, Nat.le_of_ble_eq_true rfl⟩ bl_w (rc_w hK hP 0 (by decide) rfl rfl) (bw_U hE hK hC hP hS) rfl hl.1 (Nat.le_of_ble_eq_true rfl) ⟨Nat.le_refl _, Nat.le_refl _⟩ dX7_load_111 rfl) hS (fun u60 H locs g61 hP hS => ?_)
        obtain ⟨J62, hW62, hp62, rfl⟩ : ∃ oj, mW oj (mZr A 1282) T k (zNS T k (nI 59) (zNW T k (tw 0) (0, 0))) ∧ rP (up2 (up2 J9 0 5 (-2)) 0 6 (J9 0 4)) oj ∧ u60 = (oj, (mZr A 1282), K) := g61
        have hP : Wp mN E mK (J62, (mZr A 1282), K) H := hP
        have hsb := rS_tr hs1 (rS_of hp62)
        have HL : ∀ (cnt : Nat) (P : Ps) (J B : Nat → Nat → Int32), (P.2.2.2.2.1 = 0 → k - P.2.2.2.2.2 ≤ cnt) → qS T k P J B → sLp T k cnt P = sRd T k C → rS (mLd I k) J → (∀ a, a ≠ 3 → B a = A a) → ∀ (H : Heap) (locs : List Loc), Wp mN E mK (J, B, K) H → va_S (cA mN E) s.heap H locs → ∀ ls : Array Slot, lv_has ls 3 [(0, .ref (eP E 0)), (1, .int (nI k))] → W p l e (rmk 21 0 0 461) s m ([.ref (eP E 0), .int (nI k)] : List Value).toArray below meth c H locs 0 0 (MQ below (qWi mN E mK (fun zz uu => ∃ J B, qS T k (sRd T k C) J B ∧ rS (mLd I k) J ∧ (∀ a, a ≠ 3 → B a = A a) ∧ ((¬ (sRd T k C).2.2.2.2.1 = 0 ∧ zz = (sRd T k C).2.2.2.2.1 ∧ uu = (up2 J 0 7 (J 0 6), B, K)) ∨ ((sRd T k C).2.2.2.2.1 = 0 ∧ zz = nI (sRd T k C).2.1 ∧ ∃ ok, uu = (up2 (up2 J 0 7 (J 0 6)) 0 11 (nI (min (ud + 1) 8)), mLay (mCp (mRem B ud) 3 2 1282) (ldN T k (sRd T k C)) (2 * (sRd T k C).2.1), ok))))) ([.ref (eP E 0), .int (nI k)] : List Value).toArray s 0 0 (cA mN E)) (F0 m 114 ls []) := by
          intro cnt
          induction cnt with
          | zero =>
            intro P J B hct hq hv hsf haf H locs hP hS ls hl
            have hWP := hq.1.1
            have hTP := hWP.1.2.1
            refine lv_aload_n hx hb dX7_load_114 rfl (lv_at hl 0 rfl) ?_
            refine cn_si (ck_V (a := eP E 0) S lk_X7_62 (c_X7_isGood l E J B K hE) ⟨rfl, rfl⟩ ⟨Nat.le_of_ble_eq_true rfl, Nat.le_of_ble_eq_true rfl⟩ bl_w (rc_w hK hP 0 (by decide) rfl rfl) (bw_U hE hK hC hP hS) rfl hl.1 (Nat.le_of_ble_eq_true rfl) ⟨Nat.le_refl _, Nat.le_refl _⟩ dX7_load_115 rfl) (fun r63 g64 => ?_)
            obtain rfl : r63 = bI (decide (J 0 5 = 0)) := g64
            refine lv_if_eq (tgt := 136) hx hb dX7_load_118 (by decide) (fun h118 => ?_) (fun h118 => ?_)
            · have hbP : ¬ P.2.2.2.2.1 = 0 := fun g => absurd (decide_eq_true (hWP.2.1.trans g)) (by rw [bI_f h118]; decide)
              have hm : zM T k P.2.2.2.2 = false := decide_eq_false (fun q => hbP q.1)
              have hfin : P = sRd T k C := (sLp_x hm _).symm.trans hv
              subst hfin
              have hq3 := hq
              have hsf3 := hsf
              obtain ⟨L, hL⟩ : ∃ L, J = L := ⟨_, rfl⟩
              rw [hL] at hP hq3 hsf3
              have hP : Wp mN E mK (L, B, K) H := hP
              have hWL := hq3.1.1
              refine lv_aload_n hx hb dX7_load_136 rfl (lv_at hl 0 rfl) ?_
              refine lv_aload_n hx hb dX7_load_137 rfl (lv_at hl 0 rfl) ?_
              refine rw_geti (x := (L, B, K)) (v := L 0 6) S hK hP 0 (by decide) rfl fk_X7_55 rfl rfl dX7_load_138 ?_
              refine rw_puti (x := (L, B, K)) (v := L 0 6) S hE hK hP hS 0 (by decide) rfl fk_X7_13 rfl tyX7_ok nmX7 ⟨rfl, by decide +kernel⟩ dX7_load_141 (fun H locs hP hS => ?_)
              have hP : Wp mN E mK ((up2 L 0 7 (L 0 6)), B, K) H := hP
              refine lv_aload_n hx hb dX7_load_144 rfl (lv_at hl 0 rfl) ?_
              refine cn_si (ck_V (a := eP E 0) S lk_X7_62 (c_X7_isGood l E (up2 L 0 7 (L 0 6)) B K hE) ⟨rfl, rfl⟩ ⟨Nat.le_of_ble_eq_true rfl, Nat.le_of_ble_eq_true rfl⟩ bl_w (rc_w hK hP 0 (by decide) rfl rfl) (bw_U hE hK hC hP hS) rfl hl.1 (Nat.le_of_ble_eq_true rfl) ⟨Nat.le_refl _, Nat.le_refl _⟩ dX7_load_145 rfl) (fun r65 g66 => ?_)
              obtain rfl : r65 = bI (decide ((up2 L 0 7 (L 0 6)) 0 5 = 0)) := g66
              refine lv_if_ne (tgt := 156) hx hb dX7_load_148 (by decide) (fun h148 => absurd h148 (show ¬ ¬ bI (decide ((up2 L 0 7 (L 0 6)) 0 5 = 0)) = 0 from fun g => g (by rw [decide_eq_false (show ¬ (up2 L 0 7 (L 0 6)) 0 5 = 0 from fun q => hbP (hWL.2.1.symm.trans q))]; rfl))) (fun h148 => ?_)
              refine lv_aload_n hx hb dX7_load_151 rfl (lv_at hl 0 rfl) ?_
              refine rw_geti (x := ((up2 L 0 7 (L 0 6)), B, K)) (v := (sRd T k C).2.2.2.2.1) S hK hP 0 (by decide) rfl fk_X7_52 rfl ((up2_j (f := L) (q := 0) (j := 7) (a := 0) (b := 5) (v := L 0 6) (by decide)).trans hWL.2.1) dX7_load_152 ?_
              exact re_wi (x := ((up2 L 0 7 (L 0 6)), B, K)) (v := (sRd T k C).2.2.2.2.1) hx hb hr hlk hP hS ⟨L, B, hq3, hsf3, haf, Or.inl ⟨hbP, rfl, rfl⟩⟩ dX7_load_155
            · have h0P : P.2.2.2.2.1 = 0 := hWP.2.1.symm.trans (of_decide_eq_true (bI_t h118))
              refine lv_aload_n hx hb dX7_load_121 rfl (lv_at hl 0 rfl) ?_
              refine cn_wi (ck_V (a := eP E 0) S lk_X7_66 (c_X7_nextW l E J B K T k P.2.2.2.2 hE hWP h0P) ⟨rfl, rfl⟩ ⟨Nat.le_of_ble_eq_true rfl, Nat.le_of_ble_eq_true rfl⟩ bl_w (rc_w hK hP 0 (by decide) rfl rfl) (bw_U hE hK hC hP hS) rfl hl.1 (Nat.le_of_ble_eq_true rfl) ⟨Nat.le_refl _, Nat.le_refl _⟩ dX7_load_122 rfl) hS (fun r67 u68 H locs g69 hP hS => ?_)
              obtain ⟨rfl, rfl⟩ : r67 = (mBv B k (tkB T k P.2.2.2.2.2)) ∧ u68 = ((up2 J 0 4 (nI (tkB T k P.2.2.2.2.2))), B, K) := g69
              have hP : Wp mN E mK ((up2 J 0 4 (nI (tkB T k P.2.2.2.2.2))), B, K) H := hP
              refine lv_iconst (v := (-1)) hx hb dX7_load_125 (by decide) ?_
              refine lv_icmp_eq (tgt := 136) hx hb dX7_load_126 (by decide) (fun h126 => ?_) (fun h126 => ?_)
              · have hkB : ¬ tkB T k P.2.2.2.2.2 < k := fun g => mBv_no hTP g h126
                have hm : zM T k P.2.2.2.2 = false := decide_eq_false (fun q => q.2 (tk_0 (Nat.not_lt.mp hkB)).1)
                have hfin : P = sRd T k C := (sLp_x hm _).symm.trans hv
                subst hfin
                have hP : Wp mN E mK ((up2 J 0 4 (nI (tkB T k (sRd T k C).2.2.2.2.2))), B, K) H := hP
                have hq3 : qS T k (sRd T k C) (up2 J 0 4 (nI (tkB T k (sRd T k C).2.2.2.2.2))) B := ⟨⟨mW_nx hWP h0P, hq.1.2⟩, fun g => ⟨(hq.2 g).1, qF_ext rfl (fun _ _ => rfl) (hq.2 g).2⟩⟩
                have hsf3 := rS_u (b := 4) (v := nI (tkB T k (sRd T k C).2.2.2.2.2)) hsf (by omega)
                obtain ⟨L, hL⟩ : ∃ L, (up2 J 0 4 (nI (tkB T k (sRd T k C).2.2.2.2.2))) = L := ⟨_, rfl⟩
                rw [hL] at hP hq3 hsf3
                have hP : Wp mN E mK (L, B, K) H := hP
                have hWL := hq3.1.1
                refine lv_aload_n hx hb dX7_load_136 rfl (lv_at hl 0 rfl) ?_
                refine lv_aload_n hx hb dX7_load_137 rfl (lv_at hl 0 rfl) ?_
                refine rw_geti (x := (L, B, K)) (v := L 0 6) S hK hP 0 (by decide) rfl fk_X7_55 rfl rfl dX7_load_138 ?_
                refine rw_puti (x := (L, B, K)) (v := L 0 6) S hE hK hP hS 0 (by decide) rfl fk_X7_13 rfl tyX7_ok nmX7 ⟨rfl, by decide +kernel⟩ dX7_load_141 (fun H locs hP hS => ?_)
                have hP : Wp mN E mK ((up2 L 0 7 (L 0 6)), B, K) H := hP
                refine lv_aload_n hx hb dX7_load_144 rfl (lv_at hl 0 rfl) ?_
                refine cn_si (ck_V (a := eP E 0) S lk_X7_62 (c_X7_isGood l E (up2 L 0 7 (L 0 6)) B K hE) ⟨rfl, rfl⟩ ⟨Nat.le_of_ble_eq_true rfl, Nat.le_of_ble_eq_true rfl⟩ bl_w (rc_w hK hP 0 (by decide) rfl rfl) (bw_U hE hK hC hP hS) rfl hl.1 (Nat.le_of_ble_eq_true rfl) ⟨Nat.le_refl _, Nat.le_refl _⟩ dX7_load_145 rfl) (fun r70 g71 => ?_)
                obtain rfl : r70 = bI (decide ((up2 L 0 7 (L 0 6)) 0 5 = 0)) := g71
                refine lv_if_ne (tgt := 156) hx hb dX7_load_148 (by decide) (fun h148 => ?_) (fun h148 => absurd h148 (show ¬ bI (decide ((up2 L 0 7 (L 0 6)) 0 5 = 0)) = 0 from by rw [decide_eq_true (show (up2 L 0 7 (L 0 6)) 0 5 = 0 from hWL.2.1.trans h0P)]; decide))
                refine lv_aload_n hx hb dX7_load_156 rfl (lv_at hl 0 rfl) ?_
                refine cn_wv (ck_V (a := eP E 0) S lk_X7_166 (c_X7_remember l E (up2 L 0 7 (L 0 6)) B K ud hE ((up2_j (by decide)).trans ((hsf3 0 11 (by omega)).trans hud)) hu8) ⟨rfl, rfl⟩ ⟨Nat.le_of_ble_eq_true rfl, Nat.le_of_ble_eq_true rfl⟩ bl_w (rc_w hK hP 0 (by decide) rfl rfl) (bw_U hE hK hC hP hS) rfl hl.1 (Nat.le_of_ble_eq_true rfl) ⟨Nat.le_refl _, Nat.le_refl _⟩ dX7_load_157 rfl) hS (fun u73 H locs g74 hP hS => ?_)
                obtain rfl : u73 = ((up2 (up2 L 0 7 (L 0 6)) 0 11 (nI (min (ud + 1) 8))), (mRem B ud), K) := g74
                have hP : Wp mN E mK ((up2 (up2 L 0 7 (L 0 6)) 0 11 (nI (min (ud + 1) 8))), (mRem B ud), K) H := hP
                refine lv_aload_n hx hb dX7_load_160 rfl (lv_at hl 0 rfl) ?_
                refine rw_getr (x := ((up2 (up2 L 0 7 (L 0 6)) 0 11 (nI (min (ud + 1) 8))), (mRem B ud), K)) S hK hP 0 (by decide) rfl fk_X7_20 rfl dX7_load_161 ?_
                refine lv_aload_n hx hb dX7_load_164 rfl (lv_at hl 0 rfl) ?_
                refine rw_getr (x := ((up2 (up2 L 0 7 (L 0 6)) 0 11 (nI (min (ud + 1) 8))), (mRem B ud), K)) S hK hP 0 (by decide) rfl fk_X7_17 rfl dX7_load_165 ?_
                refine cn_wv (ck_S S lk_X7_169 (c_X7_copy l E (up2 (up2 L 0 7 (L 0 6)) 0 11 (nI (min (ud + 1) 8))) (mRem B ud) K 3 2 hE (by decide) (by decide) rfl rfl) ⟨rfl, rfl⟩ ⟨Nat.le_of_ble_eq_true rfl, Nat.le_of_ble_eq_true rfl⟩ bl_w (bw_U hE hK hC hP hS) rfl hl.1 (Nat.le_of_ble_eq_true rfl) ⟨Nat.le_refl _, Nat.le_refl _⟩ dX7_load_168 rfl) hS (fun u76 H locs g77 hP hS => ?_)
                obtain rfl : u76 = ((up2 (up2 L 0 7 (L 0 6)) 0 11 (nI (min (ud + 1) 8))), (mCp (mRem B ud) 3 2 1282), K) := g77
                have hP : Wp mN E mK ((up2 (up2 L 0 7 (L 0 6)) 0 11 (nI (min (ud + 1) 8))), (mCp (mRem B ud) 3 2 1282), K) H := hP
                refine lv_aload_n hx hb dX7_load_171 rfl (lv_at hl 0 rfl) ?_
                refine cn_wv (ck_V (a := eP E 0) S lk_X7_173 (c_X7_layNeeds l E (up2 (up2 L 0 7 (L 0 6)) 0 11 (nI (min (ud + 1) 8))) (mCp (mRem B ud) 3 2 1282) K ((sRd T k C).2.1) (ldN T k (sRd T k C)) hE ((hq3.2 h0P).1.1.2) (((fun b hb => (mCp_q (by decide) hb).trans (congrFun (mRem_ne hu8 (by decide)) b)) 1 (by decide)).trans (hq3.2 h0P).1.2.1.2) (fun u hu sc hsc => nOk_cp (fun b hb => (mCp_q (by decide) hb).trans (congrFun (mRem_ne hu8 (by decide)) b)) (by have := (hq3.2 h0P).1.1.2; omega) (nOk_ld (hq3.2 h0P).1 (hq3.2 h0P).2 hu hsc))) ⟨rfl, rfl⟩ ⟨Nat.le_of_ble_eq_true rfl, Nat.le_of_ble_eq_true rfl⟩ bl_w (rc_w hK hP 0 (by decide) rfl rfl) (bw_U hE hK hC hP hS) rfl hl.1 (Nat.le_of_ble_eq_true rfl) ⟨Nat.le_refl _, Nat.le_refl _⟩ dX7_load_172 rfl) hS (fun u79 H locs g80 hP hS => ?_)
                obtain ⟨K81, rfl⟩ : ∃ ok, u79 = ((up2 (up2 L 0 7 (L 0 6)) 0 11 (nI (min (ud + 1) 8))), (mLay (mCp (mRem B ud) 3 2 1282) (ldN T k (sRd T k C)) (2 * ((sRd T k C).2.1))), ok) := g80
                have hP : Wp mN E mK ((up2 (up2 L 0 7 (L 0 6)) 0 11 (nI (min (ud + 1) 8))), (mLay (mCp (mRem B ud) 3 2 1282) (ldN T k (sRd T k C)) (2 * ((sRd T k C).2.1))), K81) H := hP
                refine lv_aload_n hx hb dX7_load_175 rfl (lv_at hl 0 rfl) ?_
                refine rw_getr (x := ((up2 (up2 L 0 7 (L 0 6)) 0 11 (nI (min (ud + 1) 8))), (mLay (mCp (mRem B ud) 3 2 1282) (ldN T k (sRd T k C)) (2 * ((sRd T k C).2.1))), K81)) S hK hP 0 (by decide) rfl fk_X7_17 rfl dX7_load_176 ?_
                refine lv_iconst (v := 1) hx hb dX7_load_179 (by decide) ?_
                refine rw_iald (x := ((up2 (up2 L 0 7 (L 0 6)) 0 11 (nI (min (ud + 1) 8))), (mLay (mCp (mRem B ud) 3 2 1282) (ldN T k (sRd T k C)) (2 * ((sRd T k C).2.1))), K81)) (v := nI (sRd T k C).2.1) S hK hP 2 (by decide) rfl 1 rfl (by decide) (by decide) ((congrFun (mLay_ne (by decide)) 1).trans (((fun b hb => (mCp_q (by decide) hb).trans (congrFun (mRem_ne hu8 (by decide)) b)) 1 (by decide)).trans (hq3.2 h0P).1.2.1.2)) dX7_load_180 ?_
                exact re_wi (x := ((up2 (up2 L 0 7 (L 0 6)) 0 11 (nI (min (ud + 1) 8))), (mLay (mCp (mRem B ud) 3 2 1282) (ldN T k (sRd T k C)) (2 * ((sRd T k C).2.1))), K81)) (v := nI (sRd T k C).2.1) hx hb hr hlk hP hS ⟨L, B, hq3, hsf3, haf, Or.inr ⟨h0P, rfl, _, rfl⟩⟩ dX7_load_181
              · have hkB : tkB T k P.2.2.2.2.2 < k := Classical.byContradiction (fun g => h126 (if_neg g))
                have hm : zM T k P.2.2.2.2 = true := decide_eq_true ⟨h0P, tk_n0 hkB⟩
                exact absurd hkB (by have := hct h0P; have := tkB_ge (T := T) (n := k) (p := P.2.2.2.2.2); omega)
          | succ cnt ih =>
            intro P J B hct hq hv hsf haf H locs hP hS ls hl
            have hWP := hq.1.1
            have hTP := hWP.1.2.1
            refine lv_aload_n hx hb dX7_load_114 rfl (lv_at hl 0 rfl) ?_
            refine cn_si (ck_V (a := eP E 0) S lk_X7_62 (c_X7_isGood l E J B K hE) ⟨rfl, rfl⟩ ⟨Nat.le_of_ble_eq_true rfl, Nat.le_of_ble_eq_true rfl⟩ bl_w (rc_w hK hP 0 (by decide) rfl rfl) (bw_U hE hK hC hP hS) rfl hl.1 (Nat.le_of_ble_eq_true rfl) ⟨Nat.le_refl _, Nat.le_refl _⟩ dX7_load_115 rfl) (fun r82 g83 => ?_)
            obtain rfl : r82 = bI (decide (J 0 5 = 0)) := g83
            refine lv_if_eq (tgt := 136) hx hb dX7_load_118 (by decide) (fun h118 => ?_) (fun h118 => ?_)
            · have hbP : ¬ P.2.2.2.2.1 = 0 := fun g => absurd (decide_eq_true (hWP.2.1.trans g)) (by rw [bI_f h118]; decide)
              have hm : zM T k P.2.2.2.2 = false := decide_eq_false (fun q => hbP q.1)
              have hfin : P = sRd T k C := (sLp_x hm _).symm.trans hv
              subst hfin
              have hq3 := hq
              have hsf3 := hsf
              obtain ⟨L, hL⟩ : ∃ L, J = L := ⟨_, rfl⟩
              rw [hL] at hP hq3 hsf3
              have hP : Wp mN E mK (L, B, K) H := hP
              have hWL := hq3.1.1
              refine lv_aload_n hx hb dX7_load_136 rfl (lv_at hl 0 rfl) ?_
              refine lv_aload_n hx hb dX7_load_137 rfl (lv_at hl 0 rfl) ?_
              refine rw_geti (x := (L, B, K)) (v := L 0 6) S hK hP 0 (by decide) rfl fk_X7_55 rfl rfl dX7_load_138 ?_
              refine rw_puti (x := (L, B, K)) (v := L 0 6) S hE hK hP hS 0 (by decide) rfl fk_X7_13 rfl tyX7_ok nmX7 ⟨rfl, by decide +kernel⟩ dX7_load_141 (fun H locs hP hS => ?_)
              have hP : Wp mN E mK ((up2 L 0 7 (L 0 6)), B, K) H := hP
              refine lv_aload_n hx hb dX7_load_144 rfl (lv_at hl 0 rfl) ?_
              refine cn_si (ck_V (a := eP E 0) S lk_X7_62 (c_X7_isGood l E (up2 L 0 7 (L 0 6)) B K hE) ⟨rfl, rfl⟩ ⟨Nat.le_of_ble_eq_true rfl, Nat.le_of_ble_eq_true rfl⟩ bl_w (rc_w hK hP 0 (by decide) rfl rfl) (bw_U hE hK hC hP hS) rfl hl.1 (Nat.le_of_ble_eq_true rfl) ⟨Nat.le_refl _, Nat.le_refl _⟩ dX7_load_145 rfl) (fun r84 g85 => ?_)
              obtain rfl : r84 = bI (decide ((up2 L 0 7 (L 0 6)) 0 5 = 0)) := g85
              refine lv_if_ne (tgt := 156) hx hb dX7_load_148 (by decide) (fun h148 => absurd h148 (show ¬ ¬ bI (decide ((up2 L 0 7 (L 0 6)) 0 5 = 0)) = 0 from fun g => g (by rw [decide_eq_false (show ¬ (up2 L 0 7 (L 0 6)) 0 5 = 0 from fun q => hbP (hWL.2.1.symm.trans q))]; rfl))) (fun h148 => ?_)
              refine lv_aload_n hx hb dX7_load_151 rfl (lv_at hl 0 rfl) ?_
              refine rw_geti (x := ((up2 L 0 7 (L 0 6)), B, K)) (v := (sRd T k C).2.2.2.2.1) S hK hP 0 (by decide) rfl fk_X7_52 rfl ((up2_j (f := L) (q := 0) (j := 7) (a := 0) (b := 5) (v := L 0 6) (by decide)).trans hWL.2.1) dX7_load_152 ?_
              exact re_wi (x := ((up2 L 0 7 (L 0 6)), B, K)) (v := (sRd T k C).2.2.2.2.1) hx hb hr hlk hP hS ⟨L, B, hq3, hsf3, haf, Or.inl ⟨hbP, rfl, rfl⟩⟩ dX7_load_155
            · have h0P : P.2.2.2.2.1 = 0 := hWP.2.1.symm.trans (of_decide_eq_true (bI_t h118))
              refine lv_aload_n hx hb dX7_load_121 rfl (lv_at hl 0 rfl) ?_
              refine cn_wi (ck_V (a := eP E 0) S lk_X7_66 (c_X7_nextW l E J B K T k P.2.2.2.2 hE hWP h0P) ⟨rfl, rfl⟩ ⟨Nat.le_of_ble_eq_true rfl, Nat.le_of_ble_eq_true rfl⟩ bl_w (rc_w hK hP 0 (by decide) rfl rfl) (bw_U hE hK hC hP hS) rfl hl.1 (Nat.le_of_ble_eq_true rfl) ⟨Nat.le_refl _, Nat.le_refl _⟩ dX7_load_122 rfl) hS (fun r86 u87 H locs g88 hP hS => ?_)
              obtain ⟨rfl, rfl⟩ : r86 = (mBv B k (tkB T k P.2.2.2.2.2)) ∧ u87 = ((up2 J 0 4 (nI (tkB T k P.2.2.2.2.2))), B, K) := g88
              have hP : Wp mN E mK ((up2 J 0 4 (nI (tkB T k P.2.2.2.2.2))), B, K) H := hP
              refine lv_iconst (v := (-1)) hx hb dX7_load_125 (by decide) ?_
              refine lv_icmp_eq (tgt := 136) hx hb dX7_load_126 (by decide) (fun h126 => ?_) (fun h126 => ?_)
              · have hkB : ¬ tkB T k P.2.2.2.2.2 < k := fun g => mBv_no hTP g h126
                have hm : zM T k P.2.2.2.2 = false := decide_eq_false (fun q => q.2 (tk_0 (Nat.not_lt.mp hkB)).1)
                have hfin : P = sRd T k C := (sLp_x hm _).symm.trans hv
                subst hfin
                have hP : Wp mN E mK ((up2 J 0 4 (nI (tkB T k (sRd T k C).2.2.2.2.2))), B, K) H := hP
                have hq3 : qS T k (sRd T k C) (up2 J 0 4 (nI (tkB T k (sRd T k C).2.2.2.2.2))) B := ⟨⟨mW_nx hWP h0P, hq.1.2⟩, fun g => ⟨(hq.2 g).1, qF_ext rfl (fun _ _ => rfl) (hq.2 g).2⟩⟩
                have hsf3 := rS_u (b := 4) (v := nI (tkB T k (sRd T k C).2.2.2.2.2)) hsf (by omega)
                obtain ⟨L, hL⟩ : ∃ L, (up2 J 0 4 (nI (tkB T k (sRd T k C).2.2.2.2.2))) = L := ⟨_, rfl⟩
                rw [hL] at hP hq3 hsf3
                have hP : Wp mN E mK (L, B, K) H := hP
                have hWL := hq3.1.1
                refine lv_aload_n hx hb dX7_load_136 rfl (lv_at hl 0 rfl) ?_
                refine lv_aload_n hx hb dX7_load_137 rfl (lv_at hl 0 rfl) ?_
                refine rw_geti (x := (L, B, K)) (v := L 0 6) S hK hP 0 (by decide) rfl fk_X7_55 rfl rfl dX7_load_138 ?_
                refine rw_puti (x := (L, B, K)) (v := L 0 6) S hE hK hP hS 0 (by decide) rfl fk_X7_13 rfl tyX7_ok nmX7 ⟨rfl, by decide +kernel⟩ dX7_load_141 (fun H locs hP hS => ?_)
                have hP : Wp mN E mK ((up2 L 0 7 (L 0 6)), B, K) H := hP
                refine lv_aload_n hx hb dX7_load_144 rfl (lv_at hl 0 rfl) ?_
                refine cn_si (ck_V (a := eP E 0) S lk_X7_62 (c_X7_isGood l E (up2 L 0 7 (L 0 6)) B K hE) ⟨rfl, rfl⟩ ⟨Nat.le_of_ble_eq_true rfl, Nat.le_of_ble_eq_true rfl⟩ bl_w (rc_w hK hP 0 (by decide) rfl rfl) (bw_U hE hK hC hP hS) rfl hl.1 (Nat.le_of_ble_eq_true rfl) ⟨Nat.le_refl _, Nat.le_refl _⟩ dX7_load_145 rfl) (fun r89 g90 => ?_)
                obtain rfl : r89 = bI (decide ((up2 L 0 7 (L 0 6)) 0 5 = 0)) := g90
                refine lv_if_ne (tgt := 156) hx hb dX7_load_148 (by decide) (fun h148 => ?_) (fun h148 => absurd h148 (show ¬ bI (decide ((up2 L 0 7 (L 0 6)) 0 5 = 0)) = 0 from by rw [decide_eq_true (show (up2 L 0 7 (L 0 6)) 0 5 = 0 from hWL.2.1.trans h0P)]; decide))
                refine lv_aload_n hx hb dX7_load_156 rfl (lv_at hl 0 rfl) ?_
                refine cn_wv (ck_V (a := eP E 0) S lk_X7_166 (c_X7_remember l E (up2 L 0 7 (L 0 6)) B K ud hE ((up2_j (by decide)).trans ((hsf3 0 11 (by omega)).trans hud)) hu8) ⟨rfl, rfl⟩ ⟨Nat.le_of_ble_eq_true rfl, Nat.le_of_ble_eq_true rfl⟩ bl_w (rc_w hK hP 0 (by decide) rfl rfl) (bw_U hE hK hC hP hS) rfl hl.1 (Nat.le_of_ble_eq_true rfl) ⟨Nat.le_refl _, Nat.le_refl _⟩ dX7_load_157 rfl) hS (fun u92 H locs g93 hP hS => ?_)
                obtain rfl : u92 = ((up2 (up2 L 0 7 (L 0 6)) 0 11 (nI (min (ud + 1) 8))), (mRem B ud), K) := g93
                have hP : Wp mN E mK ((up2 (up2 L 0 7 (L 0 6)) 0 11 (nI (min (ud + 1) 8))), (mRem B ud), K) H := hP
                refine lv_aload_n hx hb dX7_load_160 rfl (lv_at hl 0 rfl) ?_
                refine rw_getr (x := ((up2 (up2 L 0 7 (L 0 6)) 0 11 (nI (min (ud + 1) 8))), (mRem B ud), K)) S hK hP 0 (by decide) rfl fk_X7_20 rfl dX7_load_161 ?_
                refine lv_aload_n hx hb dX7_load_164 rfl (lv_at hl 0 rfl) ?_
                refine rw_getr (x := ((up2 (up2 L 0 7 (L 0 6)) 0 11 (nI (min (ud + 1) 8))), (mRem B ud), K)) S hK hP 0 (by decide) rfl fk_X7_17 rfl dX7_load_165 ?_
                refine cn_wv (ck_S S lk_X7_169 (c_X7_copy l E (up2 (up2 L 0 7 (L 0 6)) 0 11 (nI (min (ud + 1) 8))) (mRem B ud) K 3 2 hE (by decide) (by decide) rfl rfl) ⟨rfl, rfl⟩ ⟨Nat.le_of_ble_eq_true rfl, Nat.le_of_ble_eq_true rfl⟩ bl_w (bw_U hE hK hC hP hS) rfl hl.1 (Nat.le_of_ble_eq_true rfl) ⟨Nat.le_refl _, Nat.le_refl _⟩ dX7_load_168 rfl) hS (fun u95 H locs g96 hP hS => ?_)
                obtain rfl : u95 = ((up2 (up2 L 0 7 (L 0 6)) 0 11 (nI (min (ud + 1) 8))), (mCp (mRem B ud) 3 2 1282), K) := g96
                have hP : Wp mN E mK ((up2 (up2 L 0 7 (L 0 6)) 0 11 (nI (min (ud + 1) 8))), (mCp (mRem B ud) 3 2 1282), K) H := hP
                refine lv_aload_n hx hb dX7_load_171 rfl (lv_at hl 0 rfl) ?_
                refine cn_wv (ck_V (a := eP E 0) S lk_X7_173 (c_X7_layNeeds l E (up2 (up2 L 0 7 (L 0 6)) 0 11 (nI (min (ud + 1) 8))) (mCp (mRem B ud) 3 2 1282) K ((sRd T k C).2.1) (ldN T k (sRd T k C)) hE ((hq3.2 h0P).1.1.2) (((fun b hb => (mCp_q (by decide) hb).trans (congrFun (mRem_ne hu8 (by decide)) b)) 1 (by decide)).trans (hq3.2 h0P).1.2.1.2) (fun u hu sc hsc => nOk_cp (fun b hb => (mCp_q (by decide) hb).trans (congrFun (mRem_ne hu8 (by decide)) b)) (by have := (hq3.2 h0P).1.1.2; omega) (nOk_ld (hq3.2 h0P).1 (hq3.2 h0P).2 hu hsc))) ⟨rfl, rfl⟩ ⟨Nat.le_of_ble_eq_true rfl, Nat.le_of_ble_eq_true rfl⟩ bl_w (rc_w hK hP 0 (by decide) rfl rfl) (bw_U hE hK hC hP hS) rfl hl.1 (Nat.le_of_ble_eq_true rfl) ⟨Nat.le_refl _, Nat.le_refl _⟩ dX7_load_172 rfl) hS (fun u98 H locs g99 hP hS => ?_)
                obtain ⟨K100, rfl⟩ : ∃ ok, u98 = ((up2 (up2 L 0 7 (L 0 6)) 0 11 (nI (min (ud + 1) 8))), (mLay (mCp (mRem B ud) 3 2 1282) (ldN T k (sRd T k C)) (2 * ((sRd T k C).2.1))), ok) := g99
                have hP : Wp mN E mK ((up2 (up2 L 0 7 (L 0 6)) 0 11 (nI (min (ud + 1) 8))), (mLay (mCp (mRem B ud) 3 2 1282) (ldN T k (sRd T k C)) (2 * ((sRd T k C).2.1))), K100) H := hP
                refine lv_aload_n hx hb dX7_load_175 rfl (lv_at hl 0 rfl) ?_
                refine rw_getr (x := ((up2 (up2 L 0 7 (L 0 6)) 0 11 (nI (min (ud + 1) 8))), (mLay (mCp (mRem B ud) 3 2 1282) (ldN T k (sRd T k C)) (2 * ((sRd T k C).2.1))), K100)) S hK hP 0 (by decide) rfl fk_X7_17 rfl dX7_load_176 ?_
                refine lv_iconst (v := 1) hx hb dX7_load_179 (by decide) ?_
                refine rw_iald (x := ((up2 (up2 L 0 7 (L 0 6)) 0 11 (nI (min (ud + 1) 8))), (mLay (mCp (mRem B ud) 3 2 1282) (ldN T k (sRd T k C)) (2 * ((sRd T k C).2.1))), K100)) (v := nI (sRd T k C).2.1) S hK hP 2 (by decide) rfl 1 rfl (by decide) (by decide) ((congrFun (mLay_ne (by decide)) 1).trans (((fun b hb => (mCp_q (by decide) hb).trans (congrFun (mRem_ne hu8 (by decide)) b)) 1 (by decide)).trans (hq3.2 h0P).1.2.1.2)) dX7_load_180 ?_
                exact re_wi (x := ((up2 (up2 L 0 7 (L 0 6)) 0 11 (nI (min (ud + 1) 8))), (mLay (mCp (mRem B ud) 3 2 1282) (ldN T k (sRd T k C)) (2 * ((sRd T k C).2.1))), K100)) (v := nI (sRd T k C).2.1) hx hb hr hlk hP hS ⟨L, B, hq3, hsf3, haf, Or.inr ⟨h0P, rfl, _, rfl⟩⟩ dX7_load_181
              · have hkB : tkB T k P.2.2.2.2.2 < k := Classical.byContradiction (fun g => h126 (if_neg g))
                have hm : zM T k P.2.2.2.2 = true := decide_eq_true ⟨h0P, tk_n0 hkB⟩
                have hq2 : qS T k P (up2 J 0 4 (nI (tkB T k P.2.2.2.2.2))) B := ⟨⟨mW_nx hWP h0P, hq.1.2⟩, fun g => ⟨(hq.2 g).1, qF_ext rfl (fun _ _ => rfl) (hq.2 g).2⟩⟩
                have hsf2 := rS_u (b := 4) (v := nI (tkB T k P.2.2.2.2.2)) hsf (by omega)
                refine lv_aload_n hx hb dX7_load_129 rfl (lv_at hl 0 rfl) ?_
                refine cn_wv (ck_V (a := eP E 0) S lk_X7_163 (c_X7_statement l E (up2 J 0 4 (nI (tkB T k P.2.2.2.2.2))) B K T k P.2.2.2.2 P.2.2.2.1 P.1 P.2.1 P.2.2.1 hE hq2 h0P) ⟨rfl, rfl⟩ ⟨Nat.le_of_ble_eq_true rfl, Nat.le_of_ble_eq_true rfl⟩ bl_w (rc_w hK hP 0 (by decide) rfl rfl) (bw_U hE hK hC hP hS) rfl hl.1 (Nat.le_of_ble_eq_true rfl) ⟨Nat.le_refl _, Nat.le_refl _⟩ dX7_load_130 rfl) hS (fun u102 H locs g103 hP hS => ?_)
                obtain ⟨J104, B104, ht104, rfl⟩ : ∃ oj ob, rT (up2 J 0 4 (nI (tkB T k P.2.2.2.2.2))) B T k (sSt T k (P.1, P.2.1, P.2.2.1, P.2.2.2.1, P.2.2.2.2)) oj ob ∧ u102 = (oj, ob, K) := g103
                have hP : Wp mN E mK (J104, B104, K) H := hP
                refine lv_goto (tgt := 114) hx hb dX7_load_133 (by decide) ?_
                exact ih (sSt T k P) J104 B104 (fun g => by have := sSt_gt g; have := hct h0P; omega) ht104.1 ((sLp_s hm).symm.trans hv) (rS_tr hsf2 ht104.2.1) (fun a ha => (ht104.2.2 a ha).trans (haf a ha)) _ _ hP hS ls (lv_sub hl [0, 1] rfl)
        refine HL 700 (0, 0, none, C, zNS T k 59 (zNW T k (tw 0) (0, 0))) _ _ (fun _ => by omega) ⟨⟨hW62, (hsb 0 13 (by omega)).trans rfl⟩, fun _ => ⟨qD_0, qF_0 (I := I) ?_⟩⟩ sRd_e2 hsb (fun a ha => mZr_ne ha) _ _ hP hS ls (lv_sub hl [1, 2] rfl)
        exact (hp62 0 14 (by omega)).trans ((hp9 0 14 (by omega)).trans rfl)
    | succ n ih =>
      intro i hi H locs hP hS ls hl
      have hlt : i < 1282 := by omega
      refine lv_iload_n hx hb dX7_load_69 rfl (lv_at hl 0 rfl) ?_
      refine lv_sipush (v := 1282) hx hb dX7_load_70 (by decide) ?_
      refine lv_icmp_ge (tgt := 89) hx hb dX7_load_73 (by decide) (fun h73 => absurd h73 (nI_ge (b := 1282) hlt (by decide))) (fun h73 => ?_)
      refine lv_aload_n hx hb dX7_load_76 rfl (lv_at hl 1 rfl) ?_
      refine rw_getr (x := ((mLd I k), (mZr A i), K)) S hK hP 0 (by decide) rfl fk_X7_20 rfl dX7_load_77 ?_
      refine lv_iload_n hx hb dX7_load_80 rfl (lv_at hl 0 rfl) ?_
      refine lv_iconst (v := 0) hx hb dX7_load_81 (by decide) ?_
      refine rw_iast (x := ((mLd I k), (mZr A i), K)) (v := 0) S hE hK hP hS 3 (by decide) rfl i rfl (by omega) (by decide) dX7_load_82 (fun H locs hP hS => ?_)
      have hP : Wp mN E mK ((mLd I k), (up2 (mZr A i) 3 i 0), K) H := hP
      refine lv_iinc (v := nI (i + 1)) (lv' := [(2, .int (nI (i + 1))), (0, .ref (eP E 0)), (1, .int (nI k))]) hx hb dX7_load_83 hl (k := 0) rfl (nI_1 _) (by decide) rfl (fun ls hl => ?_)
      refine lv_goto (tgt := 69) hx hb dX7_load_86 (by decide) ?_
      exact ih (i + 1) (by omega) _ _ hP hS ls (lv_sub hl [0, 1, 2] rfl)
  exact HL 1282 0 (by omega) _ _ hP hS ls (lv_sub hl [0, 1, 2] rfl)

set_option maxHeartbeats 1000000 in
set_option maxRecDepth 100000 in
theorem c_X7_load_b0 (l : Launch) (E : En) (I A : Nat → Nat → Int32) (K : Nat → Nat → Int64) (x : Int32) (bl : Nat) (hE : Ev mN E) (hil : I 0 2 = nI bl) (hbad : x < 0 ∨ nI bl < x) : Met l yX7_load (wz yX7_load cX7_load 3 (some .int)) (rmk 1 0 0 22) (va_Pc [.ref (eP E 0), .int x] (Bw mN E mK (I, A, K))) (qWi mN E mK (fun zz uu => uu = (up2 I 0 0 1, A, K))) 0 0 (cA mN E) := by
  refine en_ofW RX7 rfl (by decide +kernel) (Nat.le_of_ble_eq_true rfl) ?_
  intro p e s m below meth c ls S hr hlk hnm hl hB
  have hx := S.1
  have hb := S.2.1
  obtain ⟨hK, hC, hP⟩ := hB
  have hS : va_S (cA mN E) s.heap s.heap [] := va_S.rf
  have hl : lv_has ls 3 [(0, .ref (eP E 0)), (1, .int x)] := hl
  refine lv_aload_n hx hb dX7_load_0 rfl (lv_at hl 0 rfl) ?_
  refine lv_iconst (v := 0) hx hb dX7_load_1 (by decide) ?_
  refine rw_puti (x := (I, A, K)) (v := 0) S hE hK hP hS 0 (by decide) rfl fk_X7_35 rfl tyX7_ok nmX7 ⟨rfl, by decide +kernel⟩ dX7_load_2 (fun H locs hP hS => ?_)
  have hP : Wp mN E mK ((up2 I 0 0 0), A, K) H := hP
  refine lv_aload_n hx hb dX7_load_5 rfl (lv_at hl 0 rfl) ?_
  refine lv_iload_n hx hb dX7_load_6 rfl (lv_at hl 1 rfl) ?_
  refine lv_iconst (v := 0) hx hb dX7_load_7 (by decide) ?_
  refine lv_aload_n hx hb dX7_load_8 rfl (lv_at hl 0 rfl) ?_
  refine rw_geti (x := ((up2 I 0 0 0), A, K)) (v := nI bl) S hK hP 0 (by decide) rfl fk_X7_39 rfl ((up2_j (f := I) (q := 0) (j := 0) (a := 0) (b := 2) (v := 0) (by decide)).trans hil) dX7_load_9 ?_
  refine cn_si (ck_S S lk_X7_58 (c_X7_in l x 0 (nI bl)) ⟨rfl, rfl⟩ ⟨Nat.le_of_ble_eq_true rfl, Nat.le_of_ble_eq_true rfl⟩ bl_T t_U rfl hl.1 (Nat.le_of_ble_eq_true rfl) ⟨Nat.le_refl _, Nat.le_refl _⟩ dX7_load_12 rfl) (fun r1 g2 => ?_)
  obtain rfl : r1 = rIn x 0 (nI bl) := g2
  refine tp_i (y := 0) (rIn_n hbad) ?_
  refine lv_if_ne (tgt := 22) hx hb dX7_load_15 (by decide) (fun h15 => absurd h15 (by decide)) (fun h15 => ?_)
  refine lv_iconst (v := 1) hx hb dX7_load_18 (by decide) ?_
  refine lv_goto (tgt := 23) hx hb dX7_load_19 (by decide) ?_
  refine lv_iconst (v := 1) hx hb dX7_load_23 (by decide) ?_
  refine cn_wi (ck_V (a := eP E 0) S lk_X7_159 (c_X7_fails_b l E (up2 I 0 0 0) A K 1 hE rfl (by decide)) ⟨rfl, rfl⟩ ⟨Nat.le_of_ble_eq_true rfl, Nat.le_of_ble_eq_true rfl⟩ bl_w (rc_w hK hP 0 (by decide) rfl rfl) (bw_U hE hK hC hP hS) rfl hl.1 (Nat.le_of_ble_eq_true rfl) ⟨Nat.le_refl _, Nat.le_refl _⟩ dX7_load_24 rfl) hS (fun r3 u4 H locs g5 hP hS => ?_)
  obtain ⟨rfl, rfl⟩ : r3 = 1 ∧ u4 = ((up2 (up2 I 0 0 0) 0 0 1), A, K) := g5
  have hP : Wp mN E mK ((up2 (up2 I 0 0 0) 0 0 1), A, K) H := hP
  refine lv_if_eq (tgt := 32) hx hb dX7_load_27 (by decide) (fun h27 => absurd h27 (by decide)) (fun h27 => ?_)
  refine lv_iconst (v := 0) hx hb dX7_load_30 (by decide) ?_
  exact re_wi (x := ((up2 (up2 I 0 0 0) 0 0 1), A, K)) (v := 0) hx hb hr hlk hP hS (by rw [up2_up]) dX7_load_31

