/-- the model stands where the token z stands -/
def mW (I A : Nat → Nat → Int32) (T : Nat → Int32) (n : Nat) (z : Tz) : Prop := (I 0 3 = nI n ∧ mT A T n ∧ z.2 ≤ n) ∧ I 0 5 = z.1 ∧ (z.1 = 0 → ∃ pos, I 0 4 = nI pos ∧ pos ≤ n ∧ tkB T n pos = tkB T n z.2) ∧ (¬ z.1 = 0 → I 0 6 = nI (tkB T n z.2)) ∧ (z.1 = 0 → I 0 6 = -1)
/-- what a step of the reading may change of the model's fields -/
def rP (I J : Nat → Nat → Int32) : Prop := ∀ a b, ¬ (a = 0 ∧ (b = 4 ∨ b = 5 ∨ b = 6 ∨ b = 12)) → J a b = I a b
theorem rP_rf {I : Nat → Nat → Int32} : rP I I := fun _ _ _ => rfl
theorem rP_u {I J : Nat → Nat → Int32} {b : Nat} {v : Int32} (h : rP I J) (hb : b = 4 ∨ b = 5 ∨ b = 6 ∨ b = 12) : rP I (up2 J 0 b v) := by
  intro a c hc
  rw [up2_at, if_neg (fun q => hc ⟨q.1, by rw [q.2]; exact hb⟩)]
  exact h a c hc
theorem rP_tr {I J L : Nat → Nat → Int32} (h : rP I J) (g : rP J L) : rP I L := fun a b q => (g a b q).trans (h a b q)
theorem mW_pos {I A : Nat → Nat → Int32} {T : Nat → Int32} {n q : Nat} {z y : Tz} (h : mW I A T n z) (h0 : z.1 = 0) (hq : q ≤ n) (hy : y.1 = 0) (hyn : y.2 ≤ n) (hB : tkB T n q = tkB T n y.2) : mW (up2 I 0 4 (nI q)) A T n y := by
  obtain ⟨⟨h1, h2, h3⟩, h4, h5, h6⟩ := h
  refine ⟨⟨h1, h2, hyn⟩, ?_, fun _ => ⟨q, up2_eq, hq, hB⟩, fun g => absurd hy g, fun _ => (up2_j (by decide)).trans (h6.2 h0)⟩
  rw [hy]
  exact h4.trans h0
theorem mW_err {I A : Nat → Nat → Int32} {T : Nat → Int32} {n q : Nat} {z : Tz} {k : Int32} (h : mW I A T n z) (h0 : z.1 = 0) (hk : ¬ k = 0) (hq : q = tkB T n z.2) : mW (up2 (up2 I 0 5 k) 0 6 (nI q)) A T n (zF k z) := by
  obtain ⟨⟨h1, h2, h3⟩, h4, h5, h6⟩ := h
  have e : (zF k z).1 = k := if_pos h0
  refine ⟨⟨h1, h2, h3⟩, ?_, fun g => absurd (e.symm.trans g) hk, fun _ => ?_, fun g => absurd (e.symm.trans g) hk⟩
  · rw [e]
    rfl
  · rw [hq]
    exact up2_eq
theorem mW_bad {I A : Nat → Nat → Int32} {T : Nat → Int32} {n : Nat} {z : Tz} {k : Int32} (h : mW I A T n z) (h0 : ¬ z.1 = 0) : mW I A T n (zF k z) := by
  have e : zF k z = z := by
    unfold zF
    rw [if_neg h0]
  rw [e]
  exact h
theorem zA_0 {T : Nat → Int32} {n : Nat} {z : Tz} (h0 : z.1 = 0) : zA T n z = (0, tkE T n z.2) := by
  unfold zA
  rw [if_pos h0, h0]
theorem run_add {f : Int32 → Bool} {T : Nat → Int32} {n B : Nat} : ∀ m, (∀ j, j < m → B + j < n ∧ f (T (B + j)) = true) → run f T n B = run f T n (B + m)
  | 0, _ => rfl
  | m + 1, h => by
    have h1 := h m (by omega)
    rw [run_add m (fun j hj => h j (by omega)), run_y h1.1 h1.2]
    rfl
theorem tw_ok : ∀ i, i < 17 → 0 < (tw i).length ∧ ∀ b ∈ tw i, b.toNatClampNeg < 128 ∧ b = nI b.toNatClampNeg ∧ isLt b = true ∧ isDg b = false := by decide +kernel
theorem tw_at {i j : Nat} (hi : i < 17) (hj : j < (tw i).length) : ∃ c : Nat, c < 128 ∧ (tw i).getD j 0 = nI c ∧ isLt (nI c) = true ∧ isDg (nI c) = false := by
  have h := (tw_ok i hi).2 ((tw i).getD j 0) (by
    rw [List.getD_eq_getElem?_getD, List.getElem?_eq_getElem hj]
    exact List.getElem_mem hj)
  obtain ⟨h1, h2, h3, h4⟩ := h
  exact ⟨_, h1, h2, by rw [← h2]; exact h3, by rw [← h2]; exact h4⟩
theorem mBv_w {A : Nat → Nat → Int32} {T : Nat → Int32} {n i j B : Nat} (hT : mT A T n) (hi : i < 17) (hj : j < (tw i).length) (h : mBv A n (B + j) = (tw i).getD j 0) : B + j < n ∧ T (B + j) = (tw i).getD j 0 ∧ isLt (T (B + j)) = true ∧ isDg (T (B + j)) = false := by
  obtain ⟨c, hc, e, hl, hd⟩ := tw_at hi hj
  rw [e] at h
  obtain ⟨a, b⟩ := (mBv_eq hT hc).mp h
  rw [e, b]
  exact ⟨a, rfl, hl, hd⟩
theorem zW_m {A : Nat → Nat → Int32} {T : Nat → Int32} {n i B : Nat} {z : Tz} (hT : mT A T n) (hi : i < 17) (h0 : z.1 = 0) (hB : B = tkB T n z.2) (hm : ∀ j, j < (tw i).length → mBv A n (B + j) = (tw i).getD j 0) (hx : ¬ (B + (tw i).length < n ∧ isLt (T (B + (tw i).length)) = true)) : zW T n (tw i) z = true ∧ tkE T n z.2 = B + (tw i).length := by
  subst hB
  have hl := (tw_ok i hi).1
  have ha := fun j hj => mBv_w hT hi hj (hm j hj)
  have h1 := ha 0 hl
  rw [Nat.add_zero] at h1
  obtain ⟨k1, k2, k3⟩ := tk_2 (T := T) (n := n) (p := z.2) h1.1 (ne_t h1.2.2.2) h1.2.2.1
  have e : run isLt T n (tkB T n z.2) = tkB T n z.2 + (tw i).length := (run_add (tw i).length (fun j hj => ⟨(ha j hj).1, (ha j hj).2.2.1⟩)).trans (run_n hx)
  refine ⟨decide_eq_true ⟨h0, k1, ?_, fun j hj => (ha j hj).2.1⟩, k2.trans e⟩
  rw [k2, e]
  omega
theorem zW_x {A : Nat → Nat → Int32} {T : Nat → Int32} {n i j B : Nat} {z : Tz} (hT : mT A T n) (hi : i < 17) (hz : z.2 ≤ n) (hB : B = tkB T n z.2) (hj : j < (tw i).length) (hm : ¬ mBv A n (B + j) = (tw i).getD j 0) : zW T n (tw i) z = false := by
  subst hB
  refine decide_eq_false (fun q => hm ?_)
  obtain ⟨q1, q2, q3, q4⟩ := q
  obtain ⟨c, hc, e, -, -⟩ := tw_at hi hj
  have h1 := tkE_le (T := T) hz
  rw [e]
  refine (mBv_eq hT hc).mpr ⟨by omega, ?_⟩
  rw [← e]
  exact q4 j hj
theorem zW_l {A : Nat → Nat → Int32} {T : Nat → Int32} {n i B : Nat} {z : Tz} (hT : mT A T n) (hi : i < 17) (hB : B = tkB T n z.2) (hm : ∀ j, j < (tw i).length → mBv A n (B + j) = (tw i).getD j 0) (hx : B + (tw i).length < n ∧ isLt (T (B + (tw i).length)) = true) : zW T n (tw i) z = false := by
  subst hB
  have hl := (tw_ok i hi).1
  have ha := fun j hj => mBv_w hT hi hj (hm j hj)
  have h1 := ha 0 hl
  rw [Nat.add_zero] at h1
  obtain ⟨k1, k2, k3⟩ := tk_2 (T := T) (n := n) (p := z.2) h1.1 (ne_t h1.2.2.2) h1.2.2.1
  have e : run isLt T n (tkB T n z.2) = run isLt T n (tkB T n z.2 + (tw i).length + 1) := (run_add (tw i).length (fun j hj => ⟨(ha j hj).1, (ha j hj).2.2.1⟩)).trans (run_y hx.1 hx.2)
  refine decide_eq_false (fun q => ?_)
  have h2 := q.2.2.1
  have h3 := run_ge (f := isLt) (T := T) (n := n) (p := tkB T n z.2 + (tw i).length + 1)
  rw [k2, e] at h2
  omega
theorem tkB_B {T : Nat → Int32} {n p : Nat} (h : p ≤ n) : tkB T n (tkB T n p) = tkB T n p := run_n run_stop
set_option maxHeartbeats 1000000 in
set_option maxRecDepth 100000 in
theorem c_X7_takeWord (l : Launch) (E : En) (I A : Nat → Nat → Int32) (K : Nat → Nat → Int64) (T : Nat → Int32) (n : Nat) (z : Tz) (i : Nat) (hE : Ev mN E) (hW : mW I A T n z) (ki : i < 17) : Met l yX7_takeWord (wz yX7_takeWord cX7_takeWord 3 (some .boolean)) (rmk 4 0 0 93) (va_Pc [.ref (eP E 0), .ref (eS E i)] (Bw mN E mK (I, A, K))) (qWi mN E mK (fun zz uu => zz = bI (zW T n (tw i) z) ∧ ∃ J, mW J A T n (zPW T n (tw i) z) ∧ rP I J ∧ uu = (J, A, K))) 0 0 (cA mN E) := by
  refine en_ofW RX7 rfl (by decide +kernel) (Nat.le_of_ble_eq_true rfl) ?_
  intro p e s m below meth c ls S hr hlk hnm hl hB
  have hx := S.1
  have hb := S.2.1
  obtain ⟨hK, hC, hP⟩ := hB
  have hS : va_S (cA mN E) s.heap s.heap [] := va_S.rf
  have hl : lv_has ls 3 [(0, .ref (eP E 0)), (1, .ref (eS E i))] := hl
  obtain ⟨⟨hn3, hTT, hzn⟩, h5c, h5p, h5e⟩ := id hW
  have hn7 := hTT.1
  have hBn := tkB_le (T := T) hzn
  obtain ⟨tx, hit⟩ := tx_of ki
  have htw := tw_of hit
  have htl := tx_len hit
  refine lv_aload_n hx hb dX7_takeWord_0 rfl (lv_at hl 0 rfl) ?_
  refine cn_si (ck_V (a := eP E 0) S lk_X7_62 (c_X7_isGood l E I A K hE) ⟨rfl, rfl⟩ ⟨Nat.le_of_ble_eq_true rfl, Nat.le_of_ble_eq_true rfl⟩ bl_w (rc_w hK hP 0 (by decide) rfl rfl) (bw_U hE hK hC hP hS) rfl hl.1 (Nat.le_of_ble_eq_true rfl) ⟨Nat.le_refl _, Nat.le_refl _⟩ dX7_takeWord_1 rfl) (fun r1 g2 => ?_)
  obtain rfl : r1 = bI (decide (I 0 5 = 0)) := g2
  refine lv_if_ne (tgt := 9) hx hb dX7_takeWord_4 (by decide) (fun h4 => ?_) (fun h4 => ?_)
  · have h0 : z.1 = 0 := h5c.symm.trans (of_decide_eq_true (bI_t h4))
    refine lv_aload_n hx hb dX7_takeWord_9 rfl (lv_at hl 0 rfl) ?_
    obtain ⟨pos, hpos, hpn, hpB⟩ := h5p h0
    refine cn_wi (ck_V (a := eP E 0) S lk_X7_66 (c_X7_next l E I A K T n pos hE hn3 hTT hpos hpn) ⟨rfl, rfl⟩ ⟨Nat.le_of_ble_eq_true rfl, Nat.le_of_ble_eq_true rfl⟩ bl_w (rc_w hK hP 0 (by decide) rfl rfl) (bw_U hE hK hC hP hS) rfl hl.1 (Nat.le_of_ble_eq_true rfl) ⟨Nat.le_refl _, Nat.le_refl _⟩ dX7_takeWord_10 rfl) hS (fun r3 u4 H locs g5 hP hS => ?_)
    obtain ⟨rfl, rfl⟩ : r3 = (mBv A n (tkB T n pos)) ∧ u4 = ((up2 I 0 4 (nI (tkB T n pos))), A, K) := g5
    have hP : Wp mN E mK ((up2 I 0 4 (nI (tkB T n pos))), A, K) H := hP
    rw [hpB] at hP
    have hP : Wp mN E mK ((up2 I 0 4 (nI (tkB T n z.2))), A, K) H := hP
    refine tp_i (y := mBv A n (tkB T n z.2)) (by rw [hpB]) ?_
    refine lv_pop hx hb dX7_takeWord_13 rfl ?_
    refine lv_iconst (v := 0) hx hb dX7_takeWord_14 (by decide) ?_
    refine lv_istore_n (lv' := [(2, .int 0), (0, .ref (eP E 0)), (1, .ref (eS E i))]) hx hb dX7_takeWord_15 rfl hl (by decide) rfl (fun ls hl => ?_)
    have HL : ∀ (cnt k : Nat), k + cnt = tx.2.2.2.length → (∀ j, j < k → mBv A n (tkB T n z.2 + j) = tx.2.2.2.getD j 0) → ∀ (H : Heap) (locs : List Loc), Wp mN E mK ((up2 I 0 4 (nI (tkB T n z.2))), A, K) H → va_S (cA mN E) s.heap H locs → ∀ ls : Array Slot, lv_has ls 3 [(2, .int (nI k)), (0, .ref (eP E 0)), (1, .ref (eS E i))] → W p l e (rmk 4 0 0 93) s m ([.ref (eP E 0), .ref (eS E i)] : List Value).toArray below meth c H locs 0 0 (MQ below (qWi mN E mK (fun zz uu => zz = bI (zW T n (tw i) z) ∧ ∃ J, mW J A T n (zPW T n (tw i) z) ∧ rP I J ∧ uu = (J, A, K))) ([.ref (eP E 0), .ref (eS E i)] : List Value).toArray s 0 0 (cA mN E)) (F0 m 16 ls []) := by
      intro cnt
      induction cnt with
      | zero =>
        intro k hi hv H locs hP hS ls hl
        have hiN : k = tx.2.2.2.length := by omega
        rw [hiN] at hl
        try rw [hiN] at hP
        refine lv_iload_n hx hb dX7_takeWord_16 rfl (lv_at hl 0 rfl) ?_
        refine lv_aload_n hx hb dX7_takeWord_17 rfl (lv_at hl 2 rfl) ?_
        refine cn_si (ck_V (a := eS E i) S lk_X7_70 (c_J0_length_8abf5 l E i tx hit) ⟨rfl, rfl⟩ ⟨Nat.le_of_ble_eq_true rfl, Nat.le_of_ble_eq_true rfl⟩ bl_s (rc_s hE hC hS hit) (bs_U hE hC hS) rfl hl.1 (Nat.le_of_ble_eq_true rfl) ⟨Nat.le_refl _, Nat.le_refl _⟩ dX7_takeWord_18 rfl) (fun r6 g7 => ?_)
        obtain rfl : r6 = nI tx.2.2.2.length := g7
        refine lv_icmp_ge (tgt := 48) hx hb dX7_takeWord_21 (by decide) (fun h21 => ?_) (fun h21 => absurd (Int32.le_refl _) h21)
        refine lv_iload_n hx hb dX7_takeWord_48 rfl (lv_at hl 0 rfl) ?_
        refine lv_aload_n hx hb dX7_takeWord_49 rfl (lv_at hl 2 rfl) ?_
        refine cn_si (ck_V (a := eS E i) S lk_X7_70 (c_J0_length_8abf5 l E i tx hit) ⟨rfl, rfl⟩ ⟨Nat.le_of_ble_eq_true rfl, Nat.le_of_ble_eq_true rfl⟩ bl_s (rc_s hE hC hS hit) (bs_U hE hC hS) rfl hl.1 (Nat.le_of_ble_eq_true rfl) ⟨Nat.le_refl _, Nat.le_refl _⟩ dX7_takeWord_50 rfl) (fun r8 g9 => ?_)
        obtain rfl : r8 = nI tx.2.2.2.length := g9
        refine lv_icmp_lt (tgt := 76) hx hb dX7_takeWord_53 (by decide) (fun h53 => absurd h53 (nI_nlt (Nat.le_refl _) (by omega))) (fun h53 => ?_)
        refine lv_aload_n hx hb dX7_takeWord_56 rfl (lv_at hl 1 rfl) ?_
        refine lv_aload_n hx hb dX7_takeWord_57 rfl (lv_at hl 1 rfl) ?_
        refine rw_geti (x := ((up2 I 0 4 (nI (tkB T n z.2))), A, K)) (v := (nI (tkB T n z.2))) S hK hP 0 (by decide) rfl fk_X7_45 rfl (up2_eq (f := I) (q := 0) (j := 4) (v := (nI (tkB T n z.2)))) dX7_takeWord_58 ?_
        refine lv_iload_n hx hb dX7_takeWord_61 rfl (lv_at hl 0 rfl) ?_
        refine lv_iadd hx hb dX7_takeWord_62 ?_
        refine tp_i (y := nI ((tkB T n z.2) + tx.2.2.2.length)) (nI_add (tkB T n z.2) tx.2.2.2.length) ?_
        refine cn_si (ck_V (a := eP E 0) S lk_X7_48 (c_X7_byteAt l E (up2 I 0 4 (nI (tkB T n z.2))) A K n ((tkB T n z.2) + tx.2.2.2.length) hE hn3 hn7 (by omega)) ⟨rfl, rfl⟩ ⟨Nat.le_of_ble_eq_true rfl, Nat.le_of_ble_eq_true rfl⟩ bl_w (rc_w hK hP 0 (by decide) rfl rfl) (bw_U hE hK hC hP hS) rfl hl.1 (Nat.le_of_ble_eq_true rfl) ⟨Nat.le_refl _, Nat.le_refl _⟩ dX7_takeWord_63 rfl) (fun r10 g11 => ?_)
        obtain rfl : r10 = mBv A n ((tkB T n z.2) + tx.2.2.2.length) := g11
        refine lv_bipush (v := 97) hx hb dX7_takeWord_66 (by decide) ?_
        refine lv_bipush (v := 122) hx hb dX7_takeWord_68 (by decide) ?_
        refine cn_si (ck_S S lk_X7_58 (c_X7_in l (mBv A n ((tkB T n z.2) + tx.2.2.2.length)) 97 122) ⟨rfl, rfl⟩ ⟨Nat.le_of_ble_eq_true rfl, Nat.le_of_ble_eq_true rfl⟩ bl_T t_U rfl hl.1 (Nat.le_of_ble_eq_true rfl) ⟨Nat.le_refl _, Nat.le_refl _⟩ dX7_takeWord_70 rfl) (fun r12 g13 => ?_)
        obtain rfl : r12 = rIn (mBv A n ((tkB T n z.2) + tx.2.2.2.length)) 97 122 := g13
        refine lv_if_eq (tgt := 78) hx hb dX7_takeWord_73 (by decide) (fun h73 => ?_) (fun h73 => ?_)
        · have hall : ∀ j, j < (tw i).length → mBv A n (tkB T n z.2 + j) = (tw i).getD j 0 := by rw [htw]; exact fun j hj => hv j (by omega)
          have hltn : ¬ (tkB T n z.2 + (tw i).length < n ∧ isLt (T (tkB T n z.2 + (tw i).length)) = true) := by rw [htw]; exact (mLt hTT).mp h73
          have hres := zW_m hTT ki h0 rfl hall hltn
          refine lv_aload_n hx hb dX7_takeWord_78 rfl (lv_at hl 1 rfl) ?_
          refine lv_dup hx hb dX7_takeWord_79 rfl ?_
          refine rw_geti (x := ((up2 I 0 4 (nI (tkB T n z.2))), A, K)) (v := (nI (tkB T n z.2))) S hK hP 0 (by decide) rfl fk_X7_45 rfl (up2_eq (f := I) (q := 0) (j := 4) (v := (nI (tkB T n z.2)))) dX7_takeWord_80 ?_
          refine lv_iload_n hx hb dX7_takeWord_83 rfl (lv_at hl 0 rfl) ?_
          refine lv_iadd hx hb dX7_takeWord_84 ?_
          refine tp_i (y := nI ((tkB T n z.2) + tx.2.2.2.length)) (nI_add (tkB T n z.2) tx.2.2.2.length) ?_
          refine rw_puti (x := ((up2 I 0 4 (nI (tkB T n z.2))), A, K)) (v := (nI ((tkB T n z.2) + tx.2.2.2.length))) S hE hK hP hS 0 (by decide) rfl fk_X7_45 rfl tyX7_ok nmX7 ⟨rfl, by decide +kernel⟩ dX7_takeWord_85 (fun H locs hP hS => ?_)
          have hP : Wp mN E mK ((up2 (up2 I 0 4 (nI (tkB T n z.2))) 0 4 (nI ((tkB T n z.2) + tx.2.2.2.length))), A, K) H := hP
          rw [up2_up] at hP
          have hP : Wp mN E mK ((up2 I 0 4 (nI (tkB T n z.2 + tx.2.2.2.length))), A, K) H := hP
          refine lv_iconst (v := 1) hx hb dX7_takeWord_88 (by decide) ?_
          exact re_wz (x := ((up2 I 0 4 (nI (tkB T n z.2 + tx.2.2.2.length))), A, K)) (v := 1) hx hb hr hlk rfl hP hS ⟨(by rw [hres.1]; rfl), _, (by rw [zPW_t hres.1, zA_0 h0]; exact mW_pos hW h0 (q := tkB T n z.2 + tx.2.2.2.length) (y := (0, tkE T n z.2)) (by have := hres.2; rw [htw] at this; rw [← this]; exact tkE_le hzn) rfl (tkE_le hzn) (by show _ = tkB T n (tkE T n z.2); rw [hres.2, htw])), rP_u rP_rf (Or.inl rfl), rfl⟩ dX7_takeWord_89
        · have hall : ∀ j, j < (tw i).length → mBv A n (tkB T n z.2 + j) = (tw i).getD j 0 := by rw [htw]; exact fun j hj => hv j (by omega)
          have hlt2 : tkB T n z.2 + (tw i).length < n ∧ isLt (T (tkB T n z.2 + (tw i).length)) = true := by rw [htw]; exact Classical.byContradiction (fun g => h73 ((mLt hTT).mpr g))
          refine lv_iconst (v := 0) hx hb dX7_takeWord_76 (by decide) ?_
          exact re_wz (x := ((up2 I 0 4 (nI (tkB T n z.2))), A, K)) (v := 0) hx hb hr hlk rfl hP hS ⟨(by rw [zW_l hTT ki rfl hall hlt2]; rfl), _, (by rw [zPW_f (zW_l hTT ki rfl hall hlt2)]; exact (mW_pos hW h0 hBn h0 hzn (tkB_B hzn))), rP_u rP_rf (Or.inl rfl), rfl⟩ dX7_takeWord_77
      | succ cnt ih =>
        intro k hi hv H locs hP hS ls hl
        have hlt : k < tx.2.2.2.length := by omega
        refine lv_iload_n hx hb dX7_takeWord_16 rfl (lv_at hl 0 rfl) ?_
        refine lv_aload_n hx hb dX7_takeWord_17 rfl (lv_at hl 2 rfl) ?_
        refine cn_si (ck_V (a := eS E i) S lk_X7_70 (c_J0_length_8abf5 l E i tx hit) ⟨rfl, rfl⟩ ⟨Nat.le_of_ble_eq_true rfl, Nat.le_of_ble_eq_true rfl⟩ bl_s (rc_s hE hC hS hit) (bs_U hE hC hS) rfl hl.1 (Nat.le_of_ble_eq_true rfl) ⟨Nat.le_refl _, Nat.le_refl _⟩ dX7_takeWord_18 rfl) (fun r14 g15 => ?_)
        obtain rfl : r14 = nI tx.2.2.2.length := g15
        refine lv_icmp_ge (tgt := 48) hx hb dX7_takeWord_21 (by decide) (fun h21 => absurd h21 (nI_ge hlt (by omega))) (fun h21 => ?_)
        refine lv_aload_n hx hb dX7_takeWord_24 rfl (lv_at hl 1 rfl) ?_
        refine lv_aload_n hx hb dX7_takeWord_25 rfl (lv_at hl 1 rfl) ?_
        refine rw_geti (x := ((up2 I 0 4 (nI (tkB T n z.2))), A, K)) (v := (nI (tkB T n z.2))) S hK hP 0 (by decide) rfl fk_X7_45 rfl (up2_eq (f := I) (q := 0) (j := 4) (v := (nI (tkB T n z.2)))) dX7_takeWord_26 ?_
        refine lv_iload_n hx hb dX7_takeWord_29 rfl (lv_at hl 0 rfl) ?_
        refine lv_iadd hx hb dX7_takeWord_30 ?_
        refine tp_i (y := nI ((tkB T n z.2) + k)) (nI_add (tkB T n z.2) k) ?_
        refine cn_si (ck_V (a := eP E 0) S lk_X7_48 (c_X7_byteAt l E (up2 I 0 4 (nI (tkB T n z.2))) A K n (tkB T n z.2 + k) hE hn3 hn7 (by omega)) ⟨rfl, rfl⟩ ⟨Nat.le_of_ble_eq_true rfl, Nat.le_of_ble_eq_true rfl⟩ bl_w (rc_w hK hP 0 (by decide) rfl rfl) (bw_U hE hK hC hP hS) rfl hl.1 (Nat.le_of_ble_eq_true rfl) ⟨Nat.le_refl _, Nat.le_refl _⟩ dX7_takeWord_31 rfl) (fun r16 g17 => ?_)
        obtain rfl : r16 = mBv A n (tkB T n z.2 + k) := g17
        refine lv_aload_n hx hb dX7_takeWord_34 rfl (lv_at hl 2 rfl) ?_
        refine lv_iload_n hx hb dX7_takeWord_35 rfl (lv_at hl 0 rfl) ?_
        refine cn_si (ck_V (a := eS E i) S lk_X7_75 (c_J0_charAt_5068e l E i tx k hit hlt) ⟨rfl, rfl⟩ ⟨Nat.le_of_ble_eq_true rfl, Nat.le_of_ble_eq_true rfl⟩ bl_s (rc_s hE hC hS hit) (bs_U hE hC hS) rfl hl.1 (Nat.le_of_ble_eq_true rfl) ⟨Nat.le_refl _, Nat.le_refl _⟩ dX7_takeWord_36 rfl) (fun r18 g19 => ?_)
        obtain rfl : r18 = tx.2.2.2.getD k 0 := g19
        refine lv_icmp_ne (tgt := 48) hx hb dX7_takeWord_39 (by decide) (fun h39 => ?_) (fun h39 => ?_)
        · refine lv_iload_n hx hb dX7_takeWord_48 rfl (lv_at hl 0 rfl) ?_
          refine lv_aload_n hx hb dX7_takeWord_49 rfl (lv_at hl 2 rfl) ?_
          refine cn_si (ck_V (a := eS E i) S lk_X7_70 (c_J0_length_8abf5 l E i tx hit) ⟨rfl, rfl⟩ ⟨Nat.le_of_ble_eq_true rfl, Nat.le_of_ble_eq_true rfl⟩ bl_s (rc_s hE hC hS hit) (bs_U hE hC hS) rfl hl.1 (Nat.le_of_ble_eq_true rfl) ⟨Nat.le_refl _, Nat.le_refl _⟩ dX7_takeWord_50 rfl) (fun r20 g21 => ?_)
          obtain rfl : r20 = nI tx.2.2.2.length := g21
          refine lv_icmp_lt (tgt := 76) hx hb dX7_takeWord_53 (by decide) (fun h53 => ?_) (fun h53 => absurd (nI_lt hlt (by omega)) h53)
          refine lv_iconst (v := 0) hx hb dX7_takeWord_76 (by decide) ?_
          exact re_wz (x := ((up2 I 0 4 (nI (tkB T n z.2))), A, K)) (v := 0) hx hb hr hlk rfl hP hS ⟨(by rw [zW_x hTT ki hzn rfl (by rw [htw]; exact hlt) (fun g => h39 (by rw [← htw]; exact g))]; rfl), _, (by rw [zPW_f (zW_x hTT ki hzn rfl (by rw [htw]; exact hlt) (fun g => h39 (by rw [← htw]; exact g)))]; exact (mW_pos hW h0 hBn h0 hzn (tkB_B hzn))), rP_u rP_rf (Or.inl rfl), rfl⟩ dX7_takeWord_77
        · refine lv_iinc (v := nI (k + 1)) (lv' := [(2, .int (nI (k + 1))), (0, .ref (eP E 0)), (1, .ref (eS E i))]) hx hb dX7_takeWord_42 hl (k := 0) rfl (nI_1 _) (by decide) rfl (fun ls hl => ?_)
          refine lv_goto (tgt := 16) hx hb dX7_takeWord_45 (by decide) ?_
          exact ih (k + 1) (by omega) (fun j hj => (show j < k ∨ j = k by omega).elim (hv j) (fun q => by rw [q]; exact h39)) _ _ hP hS ls (lv_sub hl [0, 1, 2] rfl)
    exact HL tx.2.2.2.length 0 (by omega) (fun j h => absurd h (Nat.not_lt_zero _)) _ _ hP hS ls (lv_sub hl [0, 1, 2] rfl)
  · have h0 : ¬ z.1 = 0 := fun g => absurd (decide_eq_true (h5c.trans g)) (by rw [bI_f h4]; decide)
    refine lv_iconst (v := 0) hx hb dX7_takeWord_7 (by decide) ?_
    exact re_wz (x := (I, A, K)) (v := 0) hx hb hr hlk rfl hP hS ⟨(bI_n (fun q => h0 q.1)), _, (by rw [zPW_f (decide_eq_false (fun q => h0 q.1))]; exact hW), rP_rf, rfl⟩ dX7_takeWord_8

