theorem zTl_x {T : Nat → Int32} {n : Nat} {F : Tz → Int32 × Tz} {a : Int32} {y : Tz} (h0 : zS T n 42 y = false) (h : zS T n 47 y = false) : ∀ k, zTl T n F k (a, y) = (a, y)
  | 0 => rfl
  | k + 1 => zTl_e h0 h
theorem zSl_x {T : Nat → Int32} {n : Nat} {F : Tz → Int32 × Tz} {a : Int32} {y : Tz} (h0 : zS T n 43 y = false) (h : zS T n 45 y = false) : ∀ k, zSl T n F k (a, y) = (a, y)
  | 0 => rfl
  | k + 1 => zSl_e h0 h
theorem zS_c {T : Nat → Int32} {n : Nat} {ch : Int32} {y : Tz} (h : ¬ y.1 = 0) : zS T n ch y = false := decide_eq_false (fun q => h q.1)
theorem gP_eq {I A J B : Nat → Nat → Int32} {T : Nat → Int32} {n N : Nat} {z y : Tz} {f : Int32 → Int32 → Int32} {G : Int32 → Int32 → Int32 × Tz} (e : ∀ am sc, (f am sc, y) = G am sc) (h : gP I A T n N z y f J B) : gP I A T n N z (G 0 0).2 (fun am sc => (G am sc).1) J B := by
  have e1 : (G 0 0).2 = y := by rw [← e]
  have e2 : (fun am sc => (G am sc).1) = f := funext fun a => funext fun b => by rw [← e]
  rw [e1, e2]
  exact h
theorem gB_u {I A J B : Nat → Nat → Int32} {T : Nat → Int32} {n : Nat} {y : Tz} (h : gB I A T n y J B) (h0 : y.1 = 0) : gB I A T n y (up2 J 0 4 (nI (tkB T n y.2))) B := ⟨⟨mW_nx h.1.1 h0, rP_u h.1.2 (Or.inl rfl)⟩, h.2⟩
theorem mW_sg {I A : Nat → Nat → Int32} {T : Nat → Int32} {n ch : Nat} {z : Tz} (hW : mW I A T n z) (hcs : isDg (nI ch) = false ∧ isLt (nI ch) = false) (h : zS T n (nI ch) z = true) : mW (up2 I 0 4 (nI (tkB T n z.2 + 1))) A T n (zA T n z) ∧ z.2 + 1 ≤ (zA T n z).2 ∧ (zA T n z).1 = 0 := by
  have h0 : z.1 = 0 := (of_decide_eq_true h).1
  have hE := zS_e hcs h
  have hb := tkB_ge (T := T) (n := n) (p := z.2)
  rw [zA_0 h0, hE.1]
  exact ⟨mW_pos hW h0 (by omega) rfl (by show _ + 1 ≤ n; omega) rfl, by show z.2 + 1 ≤ tkB T n z.2 + 1; omega, rfl⟩
theorem zFd_i {T : Nat → Int32} {n : Nat} {a b : Int32} (c d : Int32) : ∀ D z, (zFd T n a b D z).2 = (zFd T n c d D z).2
  | 0, z => zFc_in z
  | D + 1, z => zFc_is (fun z => zSu_i c d D z) z
theorem zTd_i {T : Nat → Int32} {n : Nat} {a b : Int32} (c d : Int32) (D : Nat) (z : Tz) : (zTd T n a b D z).2 = (zTd T n c d D z).2 := zTm_i (fun z => zFd_i c d D z) z
theorem zGe_A {T : Nat → Int32} {n : Nat} {z : Tz} : z.2 ≤ (zA T n z).2 := by
  show z.2 ≤ (if z.1 = 0 then tkE T n z.2 else z.2)
  split
  · exact Nat.le_trans tkB_ge tkE_ge
  · exact Nat.le_refl _
theorem zGe_N {T : Nat → Int32} {n : Nat} {lo hi : Int32} {z : Tz} : z.2 ≤ (zNz T n lo hi z).2 := by
  unfold zNz
  split
  · split
    · exact Nat.le_refl _
    · split
      · exact Nat.le_refl _
      · exact zGe_A
  · exact Nat.le_refl _
theorem zGe_S {T : Nat → Int32} {n : Nat} {w : Int32} {z : Tz} : z.2 ≤ (zNS T n w z).2 := by
  unfold zNS
  split
  · exact zGe_A
  · exact Nat.le_refl _
theorem zGe_Tl {T : Nat → Int32} {n : Nat} {F : Tz → Int32 × Tz} (hF : ∀ z, z.2 ≤ (F z).2.2) : ∀ k a, a.2.2 ≤ (zTl T n F k a).2.2
  | 0, a => Nat.le_refl _
  | k + 1, a => by
    unfold zTl
    split
    · have h1 := Nat.le_trans (zGe_A (T := T) (n := n) (z := a.2)) (hF (zA T n a.2))
      have h2 := zGe_Tl (T := T) (n := n) hF k (cProd a.1 (F (zA T n a.2)).1, (F (zA T n a.2)).2)
      exact Nat.le_trans h1 h2
    · split
      · have h1 := Nat.le_trans (zGe_A (T := T) (n := n) (z := a.2)) (hF (zA T n a.2))
        have h2 := zGe_Tl (T := T) (n := n) hF k (cQuo a.1 (F (zA T n a.2)).1, (F (zA T n a.2)).2)
        exact Nat.le_trans h1 h2
      · exact Nat.le_refl _
theorem zGe_Sl {T : Nat → Int32} {n : Nat} {F : Tz → Int32 × Tz} (hF : ∀ z, z.2 ≤ (F z).2.2) : ∀ k a, a.2.2 ≤ (zSl T n F k a).2.2
  | 0, a => Nat.le_refl _
  | k + 1, a => by
    unfold zSl
    split
    · have h1 := Nat.le_trans (zGe_A (T := T) (n := n) (z := a.2)) (hF (zA T n a.2))
      have h2 := zGe_Sl (T := T) (n := n) hF k (pLim (a.1 + (F (zA T n a.2)).1) (-1000000) 1000000, (F (zA T n a.2)).2)
      exact Nat.le_trans h1 h2
    · split
      · have h1 := Nat.le_trans (zGe_A (T := T) (n := n) (z := a.2)) (hF (zA T n a.2))
        have h2 := zGe_Sl (T := T) (n := n) hF k (pLim (a.1 - (F (zA T n a.2)).1) (-1000000) 1000000, (F (zA T n a.2)).2)
        exact Nat.le_trans h1 h2
      · exact Nat.le_refl _
theorem zGe_Fc {T : Nat → Int32} {n : Nat} {sz sc : Int32} {S : Option (Tz → Int32 × Tz)} (hS : ∀ f, S = some f → ∀ z, z.2 ≤ (f z).2.2) (z : Tz) : z.2 ≤ (zFc T n sz sc S z).2.2 := by
  unfold zFc
  split
  · exact zGe_N
  · split
    · exact zGe_A
    · split
      · exact zGe_A
      · split
        · cases S with
          | none => exact Nat.le_refl _
          | some f => exact Nat.le_trans (Nat.le_trans zGe_A (hS f rfl _)) zGe_S
        · exact Nat.le_refl _
theorem zGe_Su {T : Nat → Int32} {n : Nat} {sz sc : Int32} : ∀ D (z : Tz), z.2 ≤ (zSu T n sz sc D z).2.2
  | 0, z => Nat.le_trans (Nat.le_trans (zGe_Fc (fun f hf => by cases hf) z) (zGe_Tl (fun z => zGe_Fc (fun f hf => by cases hf) z) 700 _)) (zGe_Sl (fun z => Nat.le_trans (zGe_Fc (fun f hf => by cases hf) z) (zGe_Tl (fun z => zGe_Fc (fun f hf => by cases hf) z) 700 _)) 700 _)
  | D + 1, z => Nat.le_trans (Nat.le_trans (zGe_Fc (fun f hf => by cases hf; exact fun z => zGe_Su D z) z) (zGe_Tl (fun z => zGe_Fc (fun f hf => by cases hf; exact fun z => zGe_Su D z) z) 700 _)) (zGe_Sl (fun z => Nat.le_trans (zGe_Fc (fun f hf => by cases hf; exact fun z => zGe_Su D z) z) (zGe_Tl (fun z => zGe_Fc (fun f hf => by cases hf; exact fun z => zGe_Su D z) z) 700 _)) 700 _)
theorem zGe_Fd {T : Nat → Int32} {n : Nat} {sz sc : Int32} : ∀ D (z : Tz), z.2 ≤ (zFd T n sz sc D z).2.2
  | 0, z => zGe_Fc (fun f hf => by cases hf) z
  | D + 1, z => zGe_Fc (fun f hf => by cases hf; exact fun z => zGe_Su D z) z
theorem zGe_Td {T : Nat → Int32} {n : Nat} {sz sc : Int32} (D : Nat) (z : Tz) : z.2 ≤ (zTd T n sz sc D z).2.2 := Nat.le_trans (zGe_Fd D z) (zGe_Tl (fun z => zGe_Fd D z) 700 _)
set_option maxHeartbeats 1000000 in
set_option maxRecDepth 100000 in
theorem c_X7_term_0 (l : Launch) (E : En) (I A : Nat → Nat → Int32) (K : Nat → Nat → Int64) (T : Nat → Int32) (n : Nat) (z : Tz) (N : Nat) (hE : Ev mN E) (hW : mW I A T n z) (h13 : I 0 13 = 4) (h0 : z.1 = 0) (hN : A 3 3 = nI N) (hNb : 2 * N ≤ 3 * z.2) : Met l yX7_term (wz yX7_term cX7_term 2 none) (rmk 6 0 0 138) (va_Pc [.ref (eP E 0)] (Bw mN E mK (I, A, K))) (qWv mN E mK (fun uu => ∃ J B, gP I A T n N z (zTd T n 0 0 0 z).2 (fun am sc => (zTd T n am sc 0 z).1) J B ∧ uu = (J, B, K))) 0 0 (cA mN E) := by
  refine en_ofW RX7 rfl (by decide +kernel) (Nat.le_of_ble_eq_true rfl) ?_
  intro p e s m below meth c ls S hr hlk hnm hl hB
  have hx := S.1
  have hb := S.2.1
  obtain ⟨hK, hC, hP⟩ := hB
  have hS : va_S (cA mN E) s.heap s.heap [] := va_S.rf
  have hl : lv_has ls 2 [(0, .ref (eP E 0))] := hl
  obtain ⟨⟨hn3, hTT, hzn⟩, h5c, h5p, h5e⟩ := id hW
  have hn7 := hTT.1
  have hBn := tkB_le (T := T) hzn
  have hzl : z.2 ≤ 700 := Nat.le_trans hzn hn7
  refine lv_aload_n hx hb dX7_term_0 rfl (lv_at hl 0 rfl) ?_
  refine cn_wv (ck_V (a := eP E 0) S lk_X7_119 (c_X7_factor_0 l E I A K T n z N hE hW h13 h0 hN hNb) ⟨rfl, rfl⟩ ⟨Nat.le_of_ble_eq_true rfl, Nat.le_of_ble_eq_true rfl⟩ bl_w (rc_w hK hP 0 (by decide) rfl rfl) (bw_U hE hK hC hP hS) rfl hl.1 (Nat.le_of_ble_eq_true rfl) ⟨Nat.le_refl _, Nat.le_refl _⟩ dX7_term_1 rfl) hS (fun u2 H locs g3 hP hS => ?_)
  obtain ⟨J4, B4, hg4, rfl⟩ : ∃ oj ob, gP I A T n N z (zFd T n 0 0 0 z).2 (fun am sc => (zFd T n am sc 0 z).1) oj ob ∧ u2 = (oj, ob, K) := g3
  have hP : Wp mN E mK (J4, B4, K) H := hP
  have HL : ∀ (cnt : Nat) (za : Tz) (f : Int32 → Int32 → Int32) (J B : Nat → Nat → Int32), n - za.2 ≤ cnt → gP I A T n N z za f J B → (∀ am sc, vR am → vR sc → vR (f am sc)) → (∀ am sc, zTl T n (zFd T n am sc 0) cnt (f am sc, za) = zTd T n am sc 0 z) → ∀ (H : Heap) (locs : List Loc), Wp mN E mK (J, B, K) H → va_S (cA mN E) s.heap H locs → ∀ ls : Array Slot, lv_has ls 2 [(0, .ref (eP E 0))] → W p l e (rmk 6 0 0 138) s m ([.ref (eP E 0)] : List Value).toArray below meth c H locs 0 0 (MQ below (qWv mN E mK (fun uu => ∃ J B, gP I A T n N z (zTd T n 0 0 0 z).2 (fun am sc => (zTd T n am sc 0 z).1) J B ∧ uu = (J, B, K))) ([.ref (eP E 0)] : List Value).toArray s 0 0 (cA mN E)) (F0 m 4 ls []) := by
    intro cnt
    induction cnt with
    | zero =>
      intro za f J B hm hg hfv hv H locs hP hS ls hl
      have hWa := hg.1.1.1
      have h5a : J 0 5 = za.1 := hWa.2.1
      have hzan := hWa.1.2.2
      have hTa := hWa.1.2.1
      refine lv_aload_n hx hb dX7_term_4 rfl (lv_at hl 0 rfl) ?_
      refine cn_si (ck_V (a := eP E 0) S lk_X7_62 (c_X7_isGood l E J B K hE) ⟨rfl, rfl⟩ ⟨Nat.le_of_ble_eq_true rfl, Nat.le_of_ble_eq_true rfl⟩ bl_w (rc_w hK hP 0 (by decide) rfl rfl) (bw_U hE hK hC hP hS) rfl hl.1 (Nat.le_of_ble_eq_true rfl) ⟨Nat.le_refl _, Nat.le_refl _⟩ dX7_term_5 rfl) (fun r5 g6 => ?_)
      obtain rfl : r5 = bI (decide (J 0 5 = 0)) := g6
      refine lv_if_eq (tgt := 74) hx hb dX7_term_8 (by decide) (fun h8 => ?_) (fun h8 => ?_)
      · have hnz : ¬ za.1 = 0 := fun g => absurd (decide_eq_true (h5a.trans g)) (by rw [bI_f h8]; decide)
        exact re_wv (x := (J, B, K)) hx hb hr hlk hP hS ⟨J, B, gP_eq (fun am sc => (zTl_x (zS_c hnz) (zS_c hnz) _).symm.trans (hv am sc)) hg, rfl⟩ dX7_term_74
      · have h0a : za.1 = 0 := h5a.symm.trans (of_decide_eq_true (bI_t h8))
        refine lv_aload_n hx hb dX7_term_11 rfl (lv_at hl 0 rfl) ?_
        refine cn_wi (ck_V (a := eP E 0) S lk_X7_66 (c_X7_nextW l E J B K T n za hE hWa h0a) ⟨rfl, rfl⟩ ⟨Nat.le_of_ble_eq_true rfl, Nat.le_of_ble_eq_true rfl⟩ bl_w (rc_w hK hP 0 (by decide) rfl rfl) (bw_U hE hK hC hP hS) rfl hl.1 (Nat.le_of_ble_eq_true rfl) ⟨Nat.le_refl _, Nat.le_refl _⟩ dX7_term_12 rfl) hS (fun r7 u8 H locs g9 hP hS => ?_)
        obtain ⟨rfl, rfl⟩ : r7 = (mBv B n (tkB T n za.2)) ∧ u8 = ((up2 J 0 4 (nI (tkB T n za.2))), B, K) := g9
        have hP : Wp mN E mK ((up2 J 0 4 (nI (tkB T n za.2))), B, K) H := hP
        refine lv_bipush (v := 42) hx hb dX7_term_15 (by decide) ?_
        refine lv_icmp_eq (tgt := 29) hx hb dX7_term_17 (by decide) (fun h17 => ?_) (fun h17 => ?_)
        · have q1 : zS T n 42 za = true := (zS_b (ch := 42) hTa h0a (by decide) (by decide)).mp h17
          have hsg := mW_sg (ch := 42) hWa (by decide) q1
          exact absurd (zS_e (ch := 42) (by decide) q1).2 (by have := tkB_ge (T := T) (n := n) (p := za.2); omega)
        · have q1 : zS T n 42 za = false := Bool.eq_false_iff.mpr (fun g => h17 ((zS_b (ch := 42) hTa h0a (by decide) (by decide)).mpr g))
          refine lv_aload_n hx hb dX7_term_20 rfl (lv_at hl 0 rfl) ?_
          refine cn_wi (ck_V (a := eP E 0) S lk_X7_66 (c_X7_nextW l E (up2 J 0 4 (nI (tkB T n za.2))) B K T n za hE (mW_nx hWa h0a) h0a) ⟨rfl, rfl⟩ ⟨Nat.le_of_ble_eq_true rfl, Nat.le_of_ble_eq_true rfl⟩ bl_w (rc_w hK hP 0 (by decide) rfl rfl) (bw_U hE hK hC hP hS) rfl hl.1 (Nat.le_of_ble_eq_true rfl) ⟨Nat.le_refl _, Nat.le_refl _⟩ dX7_term_21 rfl) hS (fun r10 u11 H locs g12 hP hS => ?_)
          obtain ⟨rfl, rfl⟩ : r10 = (mBv B n (tkB T n za.2)) ∧ u11 = ((up2 (up2 J 0 4 (nI (tkB T n za.2))) 0 4 (nI (tkB T n za.2))), B, K) := g12
          have hP : Wp mN E mK ((up2 (up2 J 0 4 (nI (tkB T n za.2))) 0 4 (nI (tkB T n za.2))), B, K) H := hP
          rw [up2_up] at hP
          have hP : Wp mN E mK ((up2 J 0 4 (nI (tkB T n za.2))), B, K) H := hP
          refine lv_bipush (v := 47) hx hb dX7_term_24 (by decide) ?_
          refine lv_icmp_ne (tgt := 74) hx hb dX7_term_26 (by decide) (fun h26 => ?_) (fun h26 => ?_)
          · have q2 : zS T n 47 za = false := Bool.eq_false_iff.mpr (fun g => h26 ((zS_b (ch := 47) hTa h0a (by decide) (by decide)).mpr g))
            exact re_wv (x := ((up2 J 0 4 (nI (tkB T n za.2))), B, K)) hx hb hr hlk hP hS ⟨_, B, gP_eq (fun am sc => (zTl_x q1 q2 _).symm.trans (hv am sc)) ⟨gB_u hg.1 h0a, hg.2⟩, rfl⟩ dX7_term_74
          · have q2 : zS T n 47 za = true := (zS_b (ch := 47) hTa h0a (by decide) (by decide)).mp h26
            have hsg := mW_sg (ch := 47) hWa (by decide) q2
            exact absurd (zS_e (ch := 47) (by decide) q2).2 (by have := tkB_ge (T := T) (n := n) (p := za.2); omega)
    | succ cnt ih =>
      intro za f J B hm hg hfv hv H locs hP hS ls hl
      have hWa := hg.1.1.1
      have h5a : J 0 5 = za.1 := hWa.2.1
      have hzan := hWa.1.2.2
      have hTa := hWa.1.2.1
      refine lv_aload_n hx hb dX7_term_4 rfl (lv_at hl 0 rfl) ?_
      refine cn_si (ck_V (a := eP E 0) S lk_X7_62 (c_X7_isGood l E J B K hE) ⟨rfl, rfl⟩ ⟨Nat.le_of_ble_eq_true rfl, Nat.le_of_ble_eq_true rfl⟩ bl_w (rc_w hK hP 0 (by decide) rfl rfl) (bw_U hE hK hC hP hS) rfl hl.1 (Nat.le_of_ble_eq_true rfl) ⟨Nat.le_refl _, Nat.le_refl _⟩ dX7_term_5 rfl) (fun r13 g14 => ?_)
      obtain rfl : r13 = bI (decide (J 0 5 = 0)) := g14
      refine lv_if_eq (tgt := 74) hx hb dX7_term_8 (by decide) (fun h8 => ?_) (fun h8 => ?_)
      · have hnz : ¬ za.1 = 0 := fun g => absurd (decide_eq_true (h5a.trans g)) (by rw [bI_f h8]; decide)
        exact re_wv (x := (J, B, K)) hx hb hr hlk hP hS ⟨J, B, gP_eq (fun am sc => (zTl_x (zS_c hnz) (zS_c hnz) _).symm.trans (hv am sc)) hg, rfl⟩ dX7_term_74
      · have h0a : za.1 = 0 := h5a.symm.trans (of_decide_eq_true (bI_t h8))
        refine lv_aload_n hx hb dX7_term_11 rfl (lv_at hl 0 rfl) ?_
        refine cn_wi (ck_V (a := eP E 0) S lk_X7_66 (c_X7_nextW l E J B K T n za hE hWa h0a) ⟨rfl, rfl⟩ ⟨Nat.le_of_ble_eq_true rfl, Nat.le_of_ble_eq_true rfl⟩ bl_w (rc_w hK hP 0 (by decide) rfl rfl) (bw_U hE hK hC hP hS) rfl hl.1 (Nat.le_of_ble_eq_true rfl) ⟨Nat.le_refl _, Nat.le_refl _⟩ dX7_term_12 rfl) hS (fun r15 u16 H locs g17 hP hS => ?_)
        obtain ⟨rfl, rfl⟩ : r15 = (mBv B n (tkB T n za.2)) ∧ u16 = ((up2 J 0 4 (nI (tkB T n za.2))), B, K) := g17
        have hP : Wp mN E mK ((up2 J 0 4 (nI (tkB T n za.2))), B, K) H := hP
        refine lv_bipush (v := 42) hx hb dX7_term_15 (by decide) ?_
        refine lv_icmp_eq (tgt := 29) hx hb dX7_term_17 (by decide) (fun h17 => ?_) (fun h17 => ?_)
        · have q1 : zS T n 42 za = true := (zS_b (ch := 42) hTa h0a (by decide) (by decide)).mp h17
          have hsg := mW_sg (ch := 42) hWa (by decide) q1
          refine lv_aload_n hx hb dX7_term_29 rfl (lv_at hl 0 rfl) ?_
          refine cn_wi (ck_V (a := eP E 0) S lk_X7_66 (c_X7_nextW l E (up2 J 0 4 (nI (tkB T n za.2))) B K T n za hE (mW_nx hWa h0a) h0a) ⟨rfl, rfl⟩ ⟨Nat.le_of_ble_eq_true rfl, Nat.le_of_ble_eq_true rfl⟩ bl_w (rc_w hK hP 0 (by decide) rfl rfl) (bw_U hE hK hC hP hS) rfl hl.1 (Nat.le_of_ble_eq_true rfl) ⟨Nat.le_refl _, Nat.le_refl _⟩ dX7_term_30 rfl) hS (fun r18 u19 H locs g20 hP hS => ?_)
          obtain ⟨rfl, rfl⟩ : r18 = (mBv B n (tkB T n za.2)) ∧ u19 = ((up2 (up2 J 0 4 (nI (tkB T n za.2))) 0 4 (nI (tkB T n za.2))), B, K) := g20
          have hP : Wp mN E mK ((up2 (up2 J 0 4 (nI (tkB T n za.2))) 0 4 (nI (tkB T n za.2))), B, K) H := hP
          rw [up2_up] at hP
          have hP : Wp mN E mK ((up2 J 0 4 (nI (tkB T n za.2))), B, K) H := hP
          refine lv_bipush (v := 42) hx hb dX7_term_33 (by decide) ?_
          refine lv_icmp_ne (tgt := 42) hx hb dX7_term_35 (by decide) (fun h35 => absurd h35 (fun g => g h17)) (fun h35 => ?_)
          refine lv_iconst (v := 1) hx hb dX7_term_38 (by decide) ?_
          refine lv_goto (tgt := 43) hx hb dX7_term_39 (by decide) ?_
          refine lv_istore_n (lv' := [(1, .int 1), (0, .ref (eP E 0))]) hx hb dX7_term_43 rfl hl (by decide) rfl (fun ls hl => ?_)
          refine lv_aload_n hx hb dX7_term_44 rfl (lv_at hl 1 rfl) ?_
          refine lv_dup hx hb dX7_term_45 rfl ?_
          refine rw_geti (x := ((up2 J 0 4 (nI (tkB T n za.2))), B, K)) (v := (nI (tkB T n za.2))) S hK hP 0 (by decide) rfl fk_X7_45 rfl (up2_eq (f := J) (q := 0) (j := 4) (v := (nI (tkB T n za.2)))) dX7_term_46 ?_
          refine lv_iconst (v := 1) hx hb dX7_term_49 (by decide) ?_
          refine lv_iadd hx hb dX7_term_50 ?_
          refine tp_i (y := nI ((tkB T n za.2) + 1)) (nI_add (tkB T n za.2) 1) ?_
          refine rw_puti (x := ((up2 J 0 4 (nI (tkB T n za.2))), B, K)) (v := (nI ((tkB T n za.2) + 1))) S hE hK hP hS 0 (by decide) rfl fk_X7_45 rfl tyX7_ok nmX7 ⟨rfl, by decide +kernel⟩ dX7_term_51 (fun H locs hP hS => ?_)
          have hP : Wp mN E mK ((up2 (up2 J 0 4 (nI (tkB T n za.2))) 0 4 (nI ((tkB T n za.2) + 1))), B, K) H := hP
          rw [up2_up] at hP
          have hP : Wp mN E mK ((up2 J 0 4 (nI (tkB T n za.2 + 1))), B, K) H := hP
          obtain ⟨M, hM⟩ := hg.2 h0a
          refine lv_aload_n hx hb dX7_term_54 rfl (lv_at hl 1 rfl) ?_
          refine cn_wv (ck_V (a := eP E 0) S lk_X7_119 (c_X7_factor_0 l E (up2 J 0 4 (nI (tkB T n za.2 + 1))) B K T n (zA T n za) M hE hsg.1 ((hg.1.1.2 0 13 (by decide)).trans h13) hsg.2.2 hM.1 (by have := hM.2.1; have := hsg.2.1; omega)) ⟨rfl, rfl⟩ ⟨Nat.le_of_ble_eq_true rfl, Nat.le_of_ble_eq_true rfl⟩ bl_w (rc_w hK hP 0 (by decide) rfl rfl) (bw_U hE hK hC hP hS) rfl hl.1 (Nat.le_of_ble_eq_true rfl) ⟨Nat.le_refl _, Nat.le_refl _⟩ dX7_term_55 rfl) hS (fun u22 H locs g23 hP hS => ?_)
          obtain ⟨J24, B24, hg24, rfl⟩ : ∃ oj ob, gP (up2 J 0 4 (nI (tkB T n za.2 + 1))) B T n M (zA T n za) (zFd T n 0 0 0 (zA T n za)).2 (fun am sc => (zFd T n am sc 0 (zA T n za)).1) oj ob ∧ u22 = (oj, ob, K) := g23
          have hP : Wp mN E mK (J24, B24, K) H := hP
          by_cases hz9 : (zFd T n 0 0 0 (zA T n za)).2.1 = 0
          · obtain ⟨M2, hM2⟩ := hg24.2 hz9
            refine lv_aload_n hx hb dX7_term_58 rfl (lv_at hl 1 rfl) ?_
            refine lv_iload_n hx hb dX7_term_59 rfl (lv_at hl 0 rfl) ?_
            refine lv_if_eq (tgt := 67) hx hb dX7_term_60 (by decide) (fun h60 => absurd h60 (by decide)) (fun h60 => ?_)
            refine lv_iconst (v := 4) hx hb dX7_term_63 (by decide) ?_
            refine lv_goto (tgt := 68) hx hb dX7_term_64 (by decide) ?_
            refine cn_wv (ck_V (a := eP E 0) S lk_X7_116 (c_X7_emit l E J24 B24 K 4 M2 hE (hg24.1.1.1.2.1.trans hz9) hM2.1 (by have := hM.2.1; have := hM2.2.1; have := hsg.2.1; have := hg24.1.1.1.1.2.2; omega)) ⟨rfl, rfl⟩ ⟨Nat.le_of_ble_eq_true rfl, Nat.le_of_ble_eq_true rfl⟩ bl_w (rc_w hK hP 0 (by decide) rfl rfl) (bw_U hE hK hC hP hS) rfl hl.1 (Nat.le_of_ble_eq_true rfl) ⟨Nat.le_refl _, Nat.le_refl _⟩ dX7_term_68 rfl) hS (fun u26 H locs g27 hP hS => ?_)
            obtain rfl : u26 = (J24, (mEm B24 M2 4), K) := g27
            have hP : Wp mN E mK (J24, (mEm B24 M2 4), K) H := hP
            refine lv_goto (tgt := 4) hx hb dX7_term_71 (by decide) ?_
            exact ih _ (fun am sc => cProd (f am sc) (zFd T n am sc 0 (zA T n za)).1) _ _ (by have h9 := hsg.2.1; have h8 := zGe_Fd (T := T) (n := n) (sz := 0) (sc := 0) 0 (zA T n za); omega) (⟨gB_tr hg.1 (rP_u rP_rf (Or.inl rfl)) (gB_em hg24.1), fun _ => ⟨_, gM_op hM hsg.2.1 hM2 (by decide) (fun am sc h1 h2 => op_mul.1)⟩⟩) (fun am sc h1 h2 => op_mul.2) (fun am sc => (show zTl T n (zFd T n am sc 0) cnt (cProd (f am sc) (zFd T n am sc 0 (zA T n za)).1, (zFd T n 0 0 0 (zA T n za)).2) = _ from (by rw [zFd_i (a := 0) (b := 0) am sc 0 (zA T n za)]; exact (zTl_m q1).symm.trans (hv am sc)))) _ _ hP hS ls (lv_sub hl [1] rfl)
          · refine lv_aload_n hx hb dX7_term_58 rfl (lv_at hl 1 rfl) ?_
            refine lv_iload_n hx hb dX7_term_59 rfl (lv_at hl 0 rfl) ?_
            refine lv_if_eq (tgt := 67) hx hb dX7_term_60 (by decide) (fun h60 => absurd h60 (by decide)) (fun h60 => ?_)
            refine lv_iconst (v := 4) hx hb dX7_term_63 (by decide) ?_
            refine lv_goto (tgt := 68) hx hb dX7_term_64 (by decide) ?_
            refine cn_wv (ck_V (a := eP E 0) S lk_X7_116 (c_X7_emit_bad l E J24 B24 K 4 hE (fun g => hz9 (hg24.1.1.1.2.1.symm.trans g))) ⟨rfl, rfl⟩ ⟨Nat.le_of_ble_eq_true rfl, Nat.le_of_ble_eq_true rfl⟩ bl_w (rc_w hK hP 0 (by decide) rfl rfl) (bw_U hE hK hC hP hS) rfl hl.1 (Nat.le_of_ble_eq_true rfl) ⟨Nat.le_refl _, Nat.le_refl _⟩ dX7_term_68 rfl) hS (fun u29 H locs g30 hP hS => ?_)
            obtain rfl : u29 = (J24, B24, K) := g30
            have hP : Wp mN E mK (J24, B24, K) H := hP
            refine lv_goto (tgt := 4) hx hb dX7_term_71 (by decide) ?_
            exact ih _ (fun am sc => cProd (f am sc) (zFd T n am sc 0 (zA T n za)).1) _ _ (by have h9 := hsg.2.1; have h8 := zGe_Fd (T := T) (n := n) (sz := 0) (sc := 0) 0 (zA T n za); omega) (gP_bad hz9 (gB_tr hg.1 (rP_u rP_rf (Or.inl rfl)) hg24.1)) (fun am sc h1 h2 => op_mul.2) (fun am sc => (show zTl T n (zFd T n am sc 0) cnt (cProd (f am sc) (zFd T n am sc 0 (zA T n za)).1, (zFd T n 0 0 0 (zA T n za)).2) = _ from (by rw [zFd_i (a := 0) (b := 0) am sc 0 (zA T n za)]; exact (zTl_m q1).symm.trans (hv am sc)))) _ _ hP hS ls (lv_sub hl [1] rfl)
        · have q1 : zS T n 42 za = false := Bool.eq_false_iff.mpr (fun g => h17 ((zS_b (ch := 42) hTa h0a (by decide) (by decide)).mpr g))
          refine lv_aload_n hx hb dX7_term_20 rfl (lv_at hl 0 rfl) ?_
          refine cn_wi (ck_V (a := eP E 0) S lk_X7_66 (c_X7_nextW l E (up2 J 0 4 (nI (tkB T n za.2))) B K T n za hE (mW_nx hWa h0a) h0a) ⟨rfl, rfl⟩ ⟨Nat.le_of_ble_eq_true rfl, Nat.le_of_ble_eq_true rfl⟩ bl_w (rc_w hK hP 0 (by decide) rfl rfl) (bw_U hE hK hC hP hS) rfl hl.1 (Nat.le_of_ble_eq_true rfl) ⟨Nat.le_refl _, Nat.le_refl _⟩ dX7_term_21 rfl) hS (fun r31 u32 H locs g33 hP hS => ?_)
          obtain ⟨rfl, rfl⟩ : r31 = (mBv B n (tkB T n za.2)) ∧ u32 = ((up2 (up2 J 0 4 (nI (tkB T n za.2))) 0 4 (nI (tkB T n za.2))), B, K) := g33
          have hP : Wp mN E mK ((up2 (up2 J 0 4 (nI (tkB T n za.2))) 0 4 (nI (tkB T n za.2))), B, K) H := hP
          rw [up2_up] at hP
          have hP : Wp mN E mK ((up2 J 0 4 (nI (tkB T n za.2))), B, K) H := hP
          refine lv_bipush (v := 47) hx hb dX7_term_24 (by decide) ?_
          refine lv_icmp_ne (tgt := 74) hx hb dX7_term_26 (by decide) (fun h26 => ?_) (fun h26 => ?_)
          · have q2 : zS T n 47 za = false := Bool.eq_false_iff.mpr (fun g => h26 ((zS_b (ch := 47) hTa h0a (by decide) (by decide)).mpr g))
            exact re_wv (x := ((up2 J 0 4 (nI (tkB T n za.2))), B, K)) hx hb hr hlk hP hS ⟨_, B, gP_eq (fun am sc => (zTl_x q1 q2 _).symm.trans (hv am sc)) ⟨gB_u hg.1 h0a, hg.2⟩, rfl⟩ dX7_term_74
          · have q2 : zS T n 47 za = true := (zS_b (ch := 47) hTa h0a (by decide) (by decide)).mp h26
            have hsg := mW_sg (ch := 47) hWa (by decide) q2
            refine lv_aload_n hx hb dX7_term_29 rfl (lv_at hl 0 rfl) ?_
            refine cn_wi (ck_V (a := eP E 0) S lk_X7_66 (c_X7_nextW l E (up2 J 0 4 (nI (tkB T n za.2))) B K T n za hE (mW_nx hWa h0a) h0a) ⟨rfl, rfl⟩ ⟨Nat.le_of_ble_eq_true rfl, Nat.le_of_ble_eq_true rfl⟩ bl_w (rc_w hK hP 0 (by decide) rfl rfl) (bw_U hE hK hC hP hS) rfl hl.1 (Nat.le_of_ble_eq_true rfl) ⟨Nat.le_refl _, Nat.le_refl _⟩ dX7_term_30 rfl) hS (fun r34 u35 H locs g36 hP hS => ?_)
            obtain ⟨rfl, rfl⟩ : r34 = (mBv B n (tkB T n za.2)) ∧ u35 = ((up2 (up2 J 0 4 (nI (tkB T n za.2))) 0 4 (nI (tkB T n za.2))), B, K) := g36
            have hP : Wp mN E mK ((up2 (up2 J 0 4 (nI (tkB T n za.2))) 0 4 (nI (tkB T n za.2))), B, K) H := hP
            rw [up2_up] at hP
            have hP : Wp mN E mK ((up2 J 0 4 (nI (tkB T n za.2))), B, K) H := hP
            refine lv_bipush (v := 42) hx hb dX7_term_33 (by decide) ?_
            refine lv_icmp_ne (tgt := 42) hx hb dX7_term_35 (by decide) (fun h35 => ?_) (fun h35 => absurd h35 (show ¬ mBv B n (tkB T n za.2) = 42 from h17))
            refine lv_iconst (v := 0) hx hb dX7_term_42 (by decide) ?_
            refine lv_istore_n (lv' := [(1, .int 0), (0, .ref (eP E 0))]) hx hb dX7_term_43 rfl hl (by decide) rfl (fun ls hl => ?_)
            refine lv_aload_n hx hb dX7_term_44 rfl (lv_at hl 1 rfl) ?_
            refine lv_dup hx hb dX7_term_45 rfl ?_
            refine rw_geti (x := ((up2 J 0 4 (nI (tkB T n za.2))), B, K)) (v := (nI (tkB T n za.2))) S hK hP 0 (by decide) rfl fk_X7_45 rfl (up2_eq (f := J) (q := 0) (j := 4) (v := (nI (tkB T n za.2)))) dX7_term_46 ?_
            refine lv_iconst (v := 1) hx hb dX7_term_49 (by decide) ?_
            refine lv_iadd hx hb dX7_term_50 ?_
            refine tp_i (y := nI ((tkB T n za.2) + 1)) (nI_add (tkB T n za.2) 1) ?_
            refine rw_puti (x := ((up2 J 0 4 (nI (tkB T n za.2))), B, K)) (v := (nI ((tkB T n za.2) + 1))) S hE hK hP hS 0 (by decide) rfl fk_X7_45 rfl tyX7_ok nmX7 ⟨rfl, by decide +kernel⟩ dX7_term_51 (fun H locs hP hS => ?_)
            have hP : Wp mN E mK ((up2 (up2 J 0 4 (nI (tkB T n za.2))) 0 4 (nI ((tkB T n za.2) + 1))), B, K) H := hP
            rw [up2_up] at hP
            have hP : Wp mN E mK ((up2 J 0 4 (nI (tkB T n za.2 + 1))), B, K) H := hP
            obtain ⟨M, hM⟩ := hg.2 h0a
            refine lv_aload_n hx hb dX7_term_54 rfl (lv_at hl 1 rfl) ?_
            refine cn_wv (ck_V (a := eP E 0) S lk_X7_119 (c_X7_factor_0 l E (up2 J 0 4 (nI (tkB T n za.2 + 1))) B K T n (zA T n za) M hE hsg.1 ((hg.1.1.2 0 13 (by decide)).trans h13) hsg.2.2 hM.1 (by have := hM.2.1; have := hsg.2.1; omega)) ⟨rfl, rfl⟩ ⟨Nat.le_of_ble_eq_true rfl, Nat.le_of_ble_eq_true rfl⟩ bl_w (rc_w hK hP 0 (by decide) rfl rfl) (bw_U hE hK hC hP hS) rfl hl.1 (Nat.le_of_ble_eq_true rfl) ⟨Nat.le_refl _, Nat.le_refl _⟩ dX7_term_55 rfl) hS (fun u38 H locs g39 hP hS => ?_)
            obtain ⟨J40, B40, hg40, rfl⟩ : ∃ oj ob, gP (up2 J 0 4 (nI (tkB T n za.2 + 1))) B T n M (zA T n za) (zFd T n 0 0 0 (zA T n za)).2 (fun am sc => (zFd T n am sc 0 (zA T n za)).1) oj ob ∧ u38 = (oj, ob, K) := g39
            have hP : Wp mN E mK (J40, B40, K) H := hP
            by_cases hz9 : (zFd T n 0 0 0 (zA T n za)).2.1 = 0
            · obtain ⟨M2, hM2⟩ := hg40.2 hz9
              refine lv_aload_n hx hb dX7_term_58 rfl (lv_at hl 1 rfl) ?_
              refine lv_iload_n hx hb dX7_term_59 rfl (lv_at hl 0 rfl) ?_
              refine lv_if_eq (tgt := 67) hx hb dX7_term_60 (by decide) (fun h60 => ?_) (fun h60 => absurd (by decide) h60)
              refine lv_iconst (v := 5) hx hb dX7_term_67 (by decide) ?_
              refine cn_wv (ck_V (a := eP E 0) S lk_X7_116 (c_X7_emit l E J40 B40 K 5 M2 hE (hg40.1.1.1.2.1.trans hz9) hM2.1 (by have := hM.2.1; have := hM2.2.1; have := hsg.2.1; have := hg40.1.1.1.1.2.2; omega)) ⟨rfl, rfl⟩ ⟨Nat.le_of_ble_eq_true rfl, Nat.le_of_ble_eq_true rfl⟩ bl_w (rc_w hK hP 0 (by decide) rfl rfl) (bw_U hE hK hC hP hS) rfl hl.1 (Nat.le_of_ble_eq_true rfl) ⟨Nat.le_refl _, Nat.le_refl _⟩ dX7_term_68 rfl) hS (fun u42 H locs g43 hP hS => ?_)
              obtain rfl : u42 = (J40, (mEm B40 M2 5), K) := g43
              have hP : Wp mN E mK (J40, (mEm B40 M2 5), K) H := hP
              refine lv_goto (tgt := 4) hx hb dX7_term_71 (by decide) ?_
              exact ih _ (fun am sc => cQuo (f am sc) (zFd T n am sc 0 (zA T n za)).1) _ _ (by have h9 := hsg.2.1; have h8 := zGe_Fd (T := T) (n := n) (sz := 0) (sc := 0) 0 (zA T n za); omega) (⟨gB_tr hg.1 (rP_u rP_rf (Or.inl rfl)) (gB_em hg40.1), fun _ => ⟨_, gM_op hM hsg.2.1 hM2 (by decide) (fun am sc h1 h2 => (op_div (hfv am sc h1 h2) (vR_Fd h1 h2 0 _)).1)⟩⟩) (fun am sc h1 h2 => (op_div (hfv am sc h1 h2) (vR_Fd h1 h2 0 _)).2) (fun am sc => (show zTl T n (zFd T n am sc 0) cnt (cQuo (f am sc) (zFd T n am sc 0 (zA T n za)).1, (zFd T n 0 0 0 (zA T n za)).2) = _ from (by rw [zFd_i (a := 0) (b := 0) am sc 0 (zA T n za)]; exact (zTl_d q1 q2).symm.trans (hv am sc)))) _ _ hP hS ls (lv_sub hl [1] rfl)
            · refine lv_aload_n hx hb dX7_term_58 rfl (lv_at hl 1 rfl) ?_
              refine lv_iload_n hx hb dX7_term_59 rfl (lv_at hl 0 rfl) ?_
              refine lv_if_eq (tgt := 67) hx hb dX7_term_60 (by decide) (fun h60 => ?_) (fun h60 => absurd (by decide) h60)
              refine lv_iconst (v := 5) hx hb dX7_term_67 (by decide) ?_
              refine cn_wv (ck_V (a := eP E 0) S lk_X7_116 (c_X7_emit_bad l E J40 B40 K 5 hE (fun g => hz9 (hg40.1.1.1.2.1.symm.trans g))) ⟨rfl, rfl⟩ ⟨Nat.le_of_ble_eq_true rfl, Nat.le_of_ble_eq_true rfl⟩ bl_w (rc_w hK hP 0 (by decide) rfl rfl) (bw_U hE hK hC hP hS) rfl hl.1 (Nat.le_of_ble_eq_true rfl) ⟨Nat.le_refl _, Nat.le_refl _⟩ dX7_term_68 rfl) hS (fun u45 H locs g46 hP hS => ?_)
              obtain rfl : u45 = (J40, B40, K) := g46
              have hP : Wp mN E mK (J40, B40, K) H := hP
              refine lv_goto (tgt := 4) hx hb dX7_term_71 (by decide) ?_
              exact ih _ (fun am sc => cQuo (f am sc) (zFd T n am sc 0 (zA T n za)).1) _ _ (by have h9 := hsg.2.1; have h8 := zGe_Fd (T := T) (n := n) (sz := 0) (sc := 0) 0 (zA T n za); omega) (gP_bad hz9 (gB_tr hg.1 (rP_u rP_rf (Or.inl rfl)) hg40.1)) (fun am sc h1 h2 => (op_div (hfv am sc h1 h2) (vR_Fd h1 h2 0 _)).2) (fun am sc => (show zTl T n (zFd T n am sc 0) cnt (cQuo (f am sc) (zFd T n am sc 0 (zA T n za)).1, (zFd T n 0 0 0 (zA T n za)).2) = _ from (by rw [zFd_i (a := 0) (b := 0) am sc 0 (zA T n za)]; exact (zTl_d q1 q2).symm.trans (hv am sc)))) _ _ hP hS ls (lv_sub hl [1] rfl)
  exact HL 700 _ (fun am sc => (zFd T n am sc 0 z).1) _ _ (by omega) hg4 (fun am sc h1 h2 => vR_Fd h1 h2 0 z) (fun am sc => (congrArg (zTl T n (zFd T n am sc 0) 700) (show ((zFd T n am sc 0 z).1, (zFd T n 0 0 0 z).2) = zFd T n am sc 0 z from by rw [zFd_i am sc 0 z])).trans zTd_e.symm) _ _ hP hS ls (lv_sub hl [0] rfl)

set_option maxHeartbeats 1000000 in
set_option maxRecDepth 100000 in
theorem c_X7_sum_0 (l : Launch) (E : En) (I A : Nat → Nat → Int32) (K : Nat → Nat → Int64) (T : Nat → Int32) (n : Nat) (z : Tz) (N : Nat) (hE : Ev mN E) (hW : mW I A T n z) (h13 : I 0 13 = 4) (h0 : z.1 = 0) (hN : A 3 3 = nI N) (hNb : 2 * N ≤ 3 * z.2) : Met l yX7_sum (wz yX7_sum cX7_sum 2 none) (rmk 7 0 0 159) (va_Pc [.ref (eP E 0)] (Bw mN E mK (I, A, K))) (qWv mN E mK (fun uu => ∃ J B, gP I A T n N z (zSu T n 0 0 0 z).2 (fun am sc => (zSu T n am sc 0 z).1) J B ∧ uu = (J, B, K))) 0 0 (cA mN E) := by
  refine en_ofW RX7 rfl (by decide +kernel) (Nat.le_of_ble_eq_true rfl) ?_
  intro p e s m below meth c ls S hr hlk hnm hl hB
  have hx := S.1
  have hb := S.2.1
  obtain ⟨hK, hC, hP⟩ := hB
  have hS : va_S (cA mN E) s.heap s.heap [] := va_S.rf
  have hl : lv_has ls 2 [(0, .ref (eP E 0))] := hl
  obtain ⟨⟨hn3, hTT, hzn⟩, h5c, h5p, h5e⟩ := id hW
  have hn7 := hTT.1
  have hBn := tkB_le (T := T) hzn
  have hzl : z.2 ≤ 700 := Nat.le_trans hzn hn7
  refine lv_aload_n hx hb dX7_sum_0 rfl (lv_at hl 0 rfl) ?_
  refine cn_wv (ck_V (a := eP E 0) S lk_X7_122 (c_X7_term_0 l E I A K T n z N hE hW h13 h0 hN hNb) ⟨rfl, rfl⟩ ⟨Nat.le_of_ble_eq_true rfl, Nat.le_of_ble_eq_true rfl⟩ bl_w (rc_w hK hP 0 (by decide) rfl rfl) (bw_U hE hK hC hP hS) rfl hl.1 (Nat.le_of_ble_eq_true rfl) ⟨Nat.le_refl _, Nat.le_refl _⟩ dX7_sum_1 rfl) hS (fun u2 H locs g3 hP hS => ?_)
  obtain ⟨J4, B4, hg4, rfl⟩ : ∃ oj ob, gP I A T n N z (zTd T n 0 0 0 z).2 (fun am sc => (zTd T n am sc 0 z).1) oj ob ∧ u2 = (oj, ob, K) := g3
  have hP : Wp mN E mK (J4, B4, K) H := hP
  have HL : ∀ (cnt : Nat) (za : Tz) (f : Int32 → Int32 → Int32) (J B : Nat → Nat → Int32), n - za.2 ≤ cnt → gP I A T n N z za f J B → (∀ am sc, vR am → vR sc → vR (f am sc)) → (∀ am sc, zSl T n (zTd T n am sc 0) cnt (f am sc, za) = zSu T n am sc 0 z) → ∀ (H : Heap) (locs : List Loc), Wp mN E mK (J, B, K) H → va_S (cA mN E) s.heap H locs → ∀ ls : Array Slot, lv_has ls 2 [(0, .ref (eP E 0))] → W p l e (rmk 7 0 0 159) s m ([.ref (eP E 0)] : List Value).toArray below meth c H locs 0 0 (MQ below (qWv mN E mK (fun uu => ∃ J B, gP I A T n N z (zSu T n 0 0 0 z).2 (fun am sc => (zSu T n am sc 0 z).1) J B ∧ uu = (J, B, K))) ([.ref (eP E 0)] : List Value).toArray s 0 0 (cA mN E)) (F0 m 4 ls []) := by
    intro cnt
    induction cnt with
    | zero =>
      intro za f J B hm hg hfv hv H locs hP hS ls hl
      have hWa := hg.1.1.1
      have h5a : J 0 5 = za.1 := hWa.2.1
      have hzan := hWa.1.2.2
      have hTa := hWa.1.2.1
      refine lv_aload_n hx hb dX7_sum_4 rfl (lv_at hl 0 rfl) ?_
      refine cn_si (ck_V (a := eP E 0) S lk_X7_62 (c_X7_isGood l E J B K hE) ⟨rfl, rfl⟩ ⟨Nat.le_of_ble_eq_true rfl, Nat.le_of_ble_eq_true rfl⟩ bl_w (rc_w hK hP 0 (by decide) rfl rfl) (bw_U hE hK hC hP hS) rfl hl.1 (Nat.le_of_ble_eq_true rfl) ⟨Nat.le_refl _, Nat.le_refl _⟩ dX7_sum_5 rfl) (fun r5 g6 => ?_)
      obtain rfl : r5 = bI (decide (J 0 5 = 0)) := g6
      refine lv_if_eq (tgt := 74) hx hb dX7_sum_8 (by decide) (fun h8 => ?_) (fun h8 => ?_)
      · have hnz : ¬ za.1 = 0 := fun g => absurd (decide_eq_true (h5a.trans g)) (by rw [bI_f h8]; decide)
        exact re_wv (x := (J, B, K)) hx hb hr hlk hP hS ⟨J, B, gP_eq (fun am sc => (zSl_x (zS_c hnz) (zS_c hnz) _).symm.trans (hv am sc)) hg, rfl⟩ dX7_sum_74
      · have h0a : za.1 = 0 := h5a.symm.trans (of_decide_eq_true (bI_t h8))
        refine lv_aload_n hx hb dX7_sum_11 rfl (lv_at hl 0 rfl) ?_
        refine cn_wi (ck_V (a := eP E 0) S lk_X7_66 (c_X7_nextW l E J B K T n za hE hWa h0a) ⟨rfl, rfl⟩ ⟨Nat.le_of_ble_eq_true rfl, Nat.le_of_ble_eq_true rfl⟩ bl_w (rc_w hK hP 0 (by decide) rfl rfl) (bw_U hE hK hC hP hS) rfl hl.1 (Nat.le_of_ble_eq_true rfl) ⟨Nat.le_refl _, Nat.le_refl _⟩ dX7_sum_12 rfl) hS (fun r7 u8 H locs g9 hP hS => ?_)
        obtain ⟨rfl, rfl⟩ : r7 = (mBv B n (tkB T n za.2)) ∧ u8 = ((up2 J 0 4 (nI (tkB T n za.2))), B, K) := g9
        have hP : Wp mN E mK ((up2 J 0 4 (nI (tkB T n za.2))), B, K) H := hP
        refine lv_bipush (v := 43) hx hb dX7_sum_15 (by decide) ?_
        refine lv_icmp_eq (tgt := 29) hx hb dX7_sum_17 (by decide) (fun h17 => ?_) (fun h17 => ?_)
        · have q1 : zS T n 43 za = true := (zS_b (ch := 43) hTa h0a (by decide) (by decide)).mp h17
          have hsg := mW_sg (ch := 43) hWa (by decide) q1
          exact absurd (zS_e (ch := 43) (by decide) q1).2 (by have := tkB_ge (T := T) (n := n) (p := za.2); omega)
        · have q1 : zS T n 43 za = false := Bool.eq_false_iff.mpr (fun g => h17 ((zS_b (ch := 43) hTa h0a (by decide) (by decide)).mpr g))
          refine lv_aload_n hx hb dX7_sum_20 rfl (lv_at hl 0 rfl) ?_
          refine cn_wi (ck_V (a := eP E 0) S lk_X7_66 (c_X7_nextW l E (up2 J 0 4 (nI (tkB T n za.2))) B K T n za hE (mW_nx hWa h0a) h0a) ⟨rfl, rfl⟩ ⟨Nat.le_of_ble_eq_true rfl, Nat.le_of_ble_eq_true rfl⟩ bl_w (rc_w hK hP 0 (by decide) rfl rfl) (bw_U hE hK hC hP hS) rfl hl.1 (Nat.le_of_ble_eq_true rfl) ⟨Nat.le_refl _, Nat.le_refl _⟩ dX7_sum_21 rfl) hS (fun r10 u11 H locs g12 hP hS => ?_)
          obtain ⟨rfl, rfl⟩ : r10 = (mBv B n (tkB T n za.2)) ∧ u11 = ((up2 (up2 J 0 4 (nI (tkB T n za.2))) 0 4 (nI (tkB T n za.2))), B, K) := g12
          have hP : Wp mN E mK ((up2 (up2 J 0 4 (nI (tkB T n za.2))) 0 4 (nI (tkB T n za.2))), B, K) H := hP
          rw [up2_up] at hP
          have hP : Wp mN E mK ((up2 J 0 4 (nI (tkB T n za.2))), B, K) H := hP
          refine lv_bipush (v := 45) hx hb dX7_sum_24 (by decide) ?_
          refine lv_icmp_ne (tgt := 74) hx hb dX7_sum_26 (by decide) (fun h26 => ?_) (fun h26 => ?_)
          · have q2 : zS T n 45 za = false := Bool.eq_false_iff.mpr (fun g => h26 ((zS_b (ch := 45) hTa h0a (by decide) (by decide)).mpr g))
            exact re_wv (x := ((up2 J 0 4 (nI (tkB T n za.2))), B, K)) hx hb hr hlk hP hS ⟨_, B, gP_eq (fun am sc => (zSl_x q1 q2 _).symm.trans (hv am sc)) ⟨gB_u hg.1 h0a, hg.2⟩, rfl⟩ dX7_sum_74
          · have q2 : zS T n 45 za = true := (zS_b (ch := 45) hTa h0a (by decide) (by decide)).mp h26
            have hsg := mW_sg (ch := 45) hWa (by decide) q2
            exact absurd (zS_e (ch := 45) (by decide) q2).2 (by have := tkB_ge (T := T) (n := n) (p := za.2); omega)
    | succ cnt ih =>
      intro za f J B hm hg hfv hv H locs hP hS ls hl
      have hWa := hg.1.1.1
      have h5a : J 0 5 = za.1 := hWa.2.1
      have hzan := hWa.1.2.2
      have hTa := hWa.1.2.1
      refine lv_aload_n hx hb dX7_sum_4 rfl (lv_at hl 0 rfl) ?_
      refine cn_si (ck_V (a := eP E 0) S lk_X7_62 (c_X7_isGood l E J B K hE) ⟨rfl, rfl⟩ ⟨Nat.le_of_ble_eq_true rfl, Nat.le_of_ble_eq_true rfl⟩ bl_w (rc_w hK hP 0 (by decide) rfl rfl) (bw_U hE hK hC hP hS) rfl hl.1 (Nat.le_of_ble_eq_true rfl) ⟨Nat.le_refl _, Nat.le_refl _⟩ dX7_sum_5 rfl) (fun r13 g14 => ?_)
      obtain rfl : r13 = bI (decide (J 0 5 = 0)) := g14
      refine lv_if_eq (tgt := 74) hx hb dX7_sum_8 (by decide) (fun h8 => ?_) (fun h8 => ?_)
      · have hnz : ¬ za.1 = 0 := fun g => absurd (decide_eq_true (h5a.trans g)) (by rw [bI_f h8]; decide)
        exact re_wv (x := (J, B, K)) hx hb hr hlk hP hS ⟨J, B, gP_eq (fun am sc => (zSl_x (zS_c hnz) (zS_c hnz) _).symm.trans (hv am sc)) hg, rfl⟩ dX7_sum_74
      · have h0a : za.1 = 0 := h5a.symm.trans (of_decide_eq_true (bI_t h8))
        refine lv_aload_n hx hb dX7_sum_11 rfl (lv_at hl 0 rfl) ?_
        refine cn_wi (ck_V (a := eP E 0) S lk_X7_66 (c_X7_nextW l E J B K T n za hE hWa h0a) ⟨rfl, rfl⟩ ⟨Nat.le_of_ble_eq_true rfl, Nat.le_of_ble_eq_true rfl⟩ bl_w (rc_w hK hP 0 (by decide) rfl rfl) (bw_U hE hK hC hP hS) rfl hl.1 (Nat.le_of_ble_eq_true rfl) ⟨Nat.le_refl _, Nat.le_refl _⟩ dX7_sum_12 rfl) hS (fun r15 u16 H locs g17 hP hS => ?_)
        obtain ⟨rfl, rfl⟩ : r15 = (mBv B n (tkB T n za.2)) ∧ u16 = ((up2 J 0 4 (nI (tkB T n za.2))), B, K) := g17
        have hP : Wp mN E mK ((up2 J 0 4 (nI (tkB T n za.2))), B, K) H := hP
        refine lv_bipush (v := 43) hx hb dX7_sum_15 (by decide) ?_
        refine lv_icmp_eq (tgt := 29) hx hb dX7_sum_17 (by decide) (fun h17 => ?_) (fun h17 => ?_)
        · have q1 : zS T n 43 za = true := (zS_b (ch := 43) hTa h0a (by decide) (by decide)).mp h17
          have hsg := mW_sg (ch := 43) hWa (by decide) q1
          refine lv_aload_n hx hb dX7_sum_29 rfl (lv_at hl 0 rfl) ?_
          refine cn_wi (ck_V (a := eP E 0) S lk_X7_66 (c_X7_nextW l E (up2 J 0 4 (nI (tkB T n za.2))) B K T n za hE (mW_nx hWa h0a) h0a) ⟨rfl, rfl⟩ ⟨Nat.le_of_ble_eq_true rfl, Nat.le_of_ble_eq_true rfl⟩ bl_w (rc_w hK hP 0 (by decide) rfl rfl) (bw_U hE hK hC hP hS) rfl hl.1 (Nat.le_of_ble_eq_true rfl) ⟨Nat.le_refl _, Nat.le_refl _⟩ dX7_sum_30 rfl) hS (fun r18 u19 H locs g20 hP hS => ?_)
          obtain ⟨rfl, rfl⟩ : r18 = (mBv B n (tkB T n za.2)) ∧ u19 = ((up2 (up2 J 0 4 (nI (tkB T n za.2))) 0 4 (nI (tkB T n za.2))), B, K) := g20
          have hP : Wp mN E mK ((up2 (up2 J 0 4 (nI (tkB T n za.2))) 0 4 (nI (tkB T n za.2))), B, K) H := hP
          rw [up2_up] at hP
          have hP : Wp mN E mK ((up2 J 0 4 (nI (tkB T n za.2))), B, K) H := hP
          refine lv_bipush (v := 43) hx hb dX7_sum_33 (by decide) ?_
          refine lv_icmp_ne (tgt := 42) hx hb dX7_sum_35 (by decide) (fun h35 => absurd h35 (fun g => g h17)) (fun h35 => ?_)
          refine lv_iconst (v := 1) hx hb dX7_sum_38 (by decide) ?_
          refine lv_goto (tgt := 43) hx hb dX7_sum_39 (by decide) ?_
          refine lv_istore_n (lv' := [(1, .int 1), (0, .ref (eP E 0))]) hx hb dX7_sum_43 rfl hl (by decide) rfl (fun ls hl => ?_)
          refine lv_aload_n hx hb dX7_sum_44 rfl (lv_at hl 1 rfl) ?_
          refine lv_dup hx hb dX7_sum_45 rfl ?_
          refine rw_geti (x := ((up2 J 0 4 (nI (tkB T n za.2))), B, K)) (v := (nI (tkB T n za.2))) S hK hP 0 (by decide) rfl fk_X7_45 rfl (up2_eq (f := J) (q := 0) (j := 4) (v := (nI (tkB T n za.2)))) dX7_sum_46 ?_
          refine lv_iconst (v := 1) hx hb dX7_sum_49 (by decide) ?_
          refine lv_iadd hx hb dX7_sum_50 ?_
          refine tp_i (y := nI ((tkB T n za.2) + 1)) (nI_add (tkB T n za.2) 1) ?_
          refine rw_puti (x := ((up2 J 0 4 (nI (tkB T n za.2))), B, K)) (v := (nI ((tkB T n za.2) + 1))) S hE hK hP hS 0 (by decide) rfl fk_X7_45 rfl tyX7_ok nmX7 ⟨rfl, by decide +kernel⟩ dX7_sum_51 (fun H locs hP hS => ?_)
          have hP : Wp mN E mK ((up2 (up2 J 0 4 (nI (tkB T n za.2))) 0 4 (nI ((tkB T n za.2) + 1))), B, K) H := hP
          rw [up2_up] at hP
          have hP : Wp mN E mK ((up2 J 0 4 (nI (tkB T n za.2 + 1))), B, K) H := hP
          obtain ⟨M, hM⟩ := hg.2 h0a
          refine lv_aload_n hx hb dX7_sum_54 rfl (lv_at hl 1 rfl) ?_
          refine cn_wv (ck_V (a := eP E 0) S lk_X7_122 (c_X7_term_0 l E (up2 J 0 4 (nI (tkB T n za.2 + 1))) B K T n (zA T n za) M hE hsg.1 ((hg.1.1.2 0 13 (by decide)).trans h13) hsg.2.2 hM.1 (by have := hM.2.1; have := hsg.2.1; omega)) ⟨rfl, rfl⟩ ⟨Nat.le_of_ble_eq_true rfl, Nat.le_of_ble_eq_true rfl⟩ bl_w (rc_w hK hP 0 (by decide) rfl rfl) (bw_U hE hK hC hP hS) rfl hl.1 (Nat.le_of_ble_eq_true rfl) ⟨Nat.le_refl _, Nat.le_refl _⟩ dX7_sum_55 rfl) hS (fun u22 H locs g23 hP hS => ?_)
          obtain ⟨J24, B24, hg24, rfl⟩ : ∃ oj ob, gP (up2 J 0 4 (nI (tkB T n za.2 + 1))) B T n M (zA T n za) (zTd T n 0 0 0 (zA T n za)).2 (fun am sc => (zTd T n am sc 0 (zA T n za)).1) oj ob ∧ u22 = (oj, ob, K) := g23
          have hP : Wp mN E mK (J24, B24, K) H := hP
          by_cases hz9 : (zTd T n 0 0 0 (zA T n za)).2.1 = 0
          · obtain ⟨M2, hM2⟩ := hg24.2 hz9
            refine lv_aload_n hx hb dX7_sum_58 rfl (lv_at hl 1 rfl) ?_
            refine lv_iload_n hx hb dX7_sum_59 rfl (lv_at hl 0 rfl) ?_
            refine lv_if_eq (tgt := 67) hx hb dX7_sum_60 (by decide) (fun h60 => absurd h60 (by decide)) (fun h60 => ?_)
            refine lv_iconst (v := 2) hx hb dX7_sum_63 (by decide) ?_
            refine lv_goto (tgt := 68) hx hb dX7_sum_64 (by decide) ?_
            refine cn_wv (ck_V (a := eP E 0) S lk_X7_116 (c_X7_emit l E J24 B24 K 2 M2 hE (hg24.1.1.1.2.1.trans hz9) hM2.1 (by have := hM.2.1; have := hM2.2.1; have := hsg.2.1; have := hg24.1.1.1.1.2.2; omega)) ⟨rfl, rfl⟩ ⟨Nat.le_of_ble_eq_true rfl, Nat.le_of_ble_eq_true rfl⟩ bl_w (rc_w hK hP 0 (by decide) rfl rfl) (bw_U hE hK hC hP hS) rfl hl.1 (Nat.le_of_ble_eq_true rfl) ⟨Nat.le_refl _, Nat.le_refl _⟩ dX7_sum_68 rfl) hS (fun u26 H locs g27 hP hS => ?_)
            obtain rfl : u26 = (J24, (mEm B24 M2 2), K) := g27
            have hP : Wp mN E mK (J24, (mEm B24 M2 2), K) H := hP
            refine lv_goto (tgt := 4) hx hb dX7_sum_71 (by decide) ?_
            exact ih _ (fun am sc => pLim (f am sc + (zTd T n am sc 0 (zA T n za)).1) (-1000000) 1000000) _ _ (by have h9 := hsg.2.1; have h8 := zGe_Td (T := T) (n := n) (sz := 0) (sc := 0) 0 (zA T n za); omega) (⟨gB_tr hg.1 (rP_u rP_rf (Or.inl rfl)) (gB_em hg24.1), fun _ => ⟨_, gM_op hM hsg.2.1 hM2 (by decide) (fun am sc h1 h2 => (op_add (hfv am sc h1 h2) (vR_Td h1 h2 0 _)).1)⟩⟩) (fun am sc h1 h2 => vR_lim) (fun am sc => (show zSl T n (zTd T n am sc 0) cnt (pLim (f am sc + (zTd T n am sc 0 (zA T n za)).1) (-1000000) 1000000, (zTd T n 0 0 0 (zA T n za)).2) = _ from (by rw [zTd_i (a := 0) (b := 0) am sc 0 (zA T n za)]; exact (zSl_m q1).symm.trans (hv am sc)))) _ _ hP hS ls (lv_sub hl [1] rfl)
          · refine lv_aload_n hx hb dX7_sum_58 rfl (lv_at hl 1 rfl) ?_
            refine lv_iload_n hx hb dX7_sum_59 rfl (lv_at hl 0 rfl) ?_
            refine lv_if_eq (tgt := 67) hx hb dX7_sum_60 (by decide) (fun h60 => absurd h60 (by decide)) (fun h60 => ?_)
            refine lv_iconst (v := 2) hx hb dX7_sum_63 (by decide) ?_
            refine lv_goto (tgt := 68) hx hb dX7_sum_64 (by decide) ?_
            refine cn_wv (ck_V (a := eP E 0) S lk_X7_116 (c_X7_emit_bad l E J24 B24 K 2 hE (fun g => hz9 (hg24.1.1.1.2.1.symm.trans g))) ⟨rfl, rfl⟩ ⟨Nat.le_of_ble_eq_true rfl, Nat.le_of_ble_eq_true rfl⟩ bl_w (rc_w hK hP 0 (by decide) rfl rfl) (bw_U hE hK hC hP hS) rfl hl.1 (Nat.le_of_ble_eq_true rfl) ⟨Nat.le_refl _, Nat.le_refl _⟩ dX7_sum_68 rfl) hS (fun u29 H locs g30 hP hS => ?_)
            obtain rfl : u29 = (J24, B24, K) := g30
            have hP : Wp mN E mK (J24, B24, K) H := hP
            refine lv_goto (tgt := 4) hx hb dX7_sum_71 (by decide) ?_
            exact ih _ (fun am sc => pLim (f am sc + (zTd T n am sc 0 (zA T n za)).1) (-1000000) 1000000) _ _ (by have h9 := hsg.2.1; have h8 := zGe_Td (T := T) (n := n) (sz := 0) (sc := 0) 0 (zA T n za); omega) (gP_bad hz9 (gB_tr hg.1 (rP_u rP_rf (Or.inl rfl)) hg24.1)) (fun am sc h1 h2 => vR_lim) (fun am sc => (show zSl T n (zTd T n am sc 0) cnt (pLim (f am sc + (zTd T n am sc 0 (zA T n za)).1) (-1000000) 1000000, (zTd T n 0 0 0 (zA T n za)).2) = _ from (by rw [zTd_i (a := 0) (b := 0) am sc 0 (zA T n za)]; exact (zSl_m q1).symm.trans (hv am sc)))) _ _ hP hS ls (lv_sub hl [1] rfl)
        · have q1 : zS T n 43 za = false := Bool.eq_false_iff.mpr (fun g => h17 ((zS_b (ch := 43) hTa h0a (by decide) (by decide)).mpr g))
          refine lv_aload_n hx hb dX7_sum_20 rfl (lv_at hl 0 rfl) ?_
          refine cn_wi (ck_V (a := eP E 0) S lk_X7_66 (c_X7_nextW l E (up2 J 0 4 (nI (tkB T n za.2))) B K T n za hE (mW_nx hWa h0a) h0a) ⟨rfl, rfl⟩ ⟨Nat.le_of_ble_eq_true rfl, Nat.le_of_ble_eq_true rfl⟩ bl_w (rc_w hK hP 0 (by decide) rfl rfl) (bw_U hE hK hC hP hS) rfl hl.1 (Nat.le_of_ble_eq_true rfl) ⟨Nat.le_refl _, Nat.le_refl _⟩ dX7_sum_21 rfl) hS (fun r31 u32 H locs g33 hP hS => ?_)
          obtain ⟨rfl, rfl⟩ : r31 = (mBv B n (tkB T n za.2)) ∧ u32 = ((up2 (up2 J 0 4 (nI (tkB T n za.2))) 0 4 (nI (tkB T n za.2))), B, K) := g33
          have hP : Wp mN E mK ((up2 (up2 J 0 4 (nI (tkB T n za.2))) 0 4 (nI (tkB T n za.2))), B, K) H := hP
          rw [up2_up] at hP
          have hP : Wp mN E mK ((up2 J 0 4 (nI (tkB T n za.2))), B, K) H := hP
          refine lv_bipush (v := 45) hx hb dX7_sum_24 (by decide) ?_
          refine lv_icmp_ne (tgt := 74) hx hb dX7_sum_26 (by decide) (fun h26 => ?_) (fun h26 => ?_)
          · have q2 : zS T n 45 za = false := Bool.eq_false_iff.mpr (fun g => h26 ((zS_b (ch := 45) hTa h0a (by decide) (by decide)).mpr g))
            exact re_wv (x := ((up2 J 0 4 (nI (tkB T n za.2))), B, K)) hx hb hr hlk hP hS ⟨_, B, gP_eq (fun am sc => (zSl_x q1 q2 _).symm.trans (hv am sc)) ⟨gB_u hg.1 h0a, hg.2⟩, rfl⟩ dX7_sum_74
          · have q2 : zS T n 45 za = true := (zS_b (ch := 45) hTa h0a (by decide) (by decide)).mp h26
            have hsg := mW_sg (ch := 45) hWa (by decide) q2
            refine lv_aload_n hx hb dX7_sum_29 rfl (lv_at hl 0 rfl) ?_
            refine cn_wi (ck_V (a := eP E 0) S lk_X7_66 (c_X7_nextW l E (up2 J 0 4 (nI (tkB T n za.2))) B K T n za hE (mW_nx hWa h0a) h0a) ⟨rfl, rfl⟩ ⟨Nat.le_of_ble_eq_true rfl, Nat.le_of_ble_eq_true rfl⟩ bl_w (rc_w hK hP 0 (by decide) rfl rfl) (bw_U hE hK hC hP hS) rfl hl.1 (Nat.le_of_ble_eq_true rfl) ⟨Nat.le_refl _, Nat.le_refl _⟩ dX7_sum_30 rfl) hS (fun r34 u35 H locs g36 hP hS => ?_)
            obtain ⟨rfl, rfl⟩ : r34 = (mBv B n (tkB T n za.2)) ∧ u35 = ((up2 (up2 J 0 4 (nI (tkB T n za.2))) 0 4 (nI (tkB T n za.2))), B, K) := g36
            have hP : Wp mN E mK ((up2 (up2 J 0 4 (nI (tkB T n za.2))) 0 4 (nI (tkB T n za.2))), B, K) H := hP
            rw [up2_up] at hP
            have hP : Wp mN E mK ((up2 J 0 4 (nI (tkB T n za.2))), B, K) H := hP
            refine lv_bipush (v := 43) hx hb dX7_sum_33 (by decide) ?_
            refine lv_icmp_ne (tgt := 42) hx hb dX7_sum_35 (by decide) (fun h35 => ?_) (fun h35 => absurd h35 (show ¬ mBv B n (tkB T n za.2) = 43 from h17))
            refine lv_iconst (v := 0) hx hb dX7_sum_42 (by decide) ?_
            refine lv_istore_n (lv' := [(1, .int 0), (0, .ref (eP E 0))]) hx hb dX7_sum_43 rfl hl (by decide) rfl (fun ls hl => ?_)
            refine lv_aload_n hx hb dX7_sum_44 rfl (lv_at hl 1 rfl) ?_
            refine lv_dup hx hb dX7_sum_45 rfl ?_
            refine rw_geti (x := ((up2 J 0 4 (nI (tkB T n za.2))), B, K)) (v := (nI (tkB T n za.2))) S hK hP 0 (by decide) rfl fk_X7_45 rfl (up2_eq (f := J) (q := 0) (j := 4) (v := (nI (tkB T n za.2)))) dX7_sum_46 ?_
            refine lv_iconst (v := 1) hx hb dX7_sum_49 (by decide) ?_
            refine lv_iadd hx hb dX7_sum_50 ?_
            refine tp_i (y := nI ((tkB T n za.2) + 1)) (nI_add (tkB T n za.2) 1) ?_
            refine rw_puti (x := ((up2 J 0 4 (nI (tkB T n za.2))), B, K)) (v := (nI ((tkB T n za.2) + 1))) S hE hK hP hS 0 (by decide) rfl fk_X7_45 rfl tyX7_ok nmX7 ⟨rfl, by decide +kernel⟩ dX7_sum_51 (fun H locs hP hS => ?_)
            have hP : Wp mN E mK ((up2 (up2 J 0 4 (nI (tkB T n za.2))) 0 4 (nI ((tkB T n za.2) + 1))), B, K) H := hP
            rw [up2_up] at hP
            have hP : Wp mN E mK ((up2 J 0 4 (nI (tkB T n za.2 + 1))), B, K) H := hP
            obtain ⟨M, hM⟩ := hg.2 h0a
            refine lv_aload_n hx hb dX7_sum_54 rfl (lv_at hl 1 rfl) ?_
            refine cn_wv (ck_V (a := eP E 0) S lk_X7_122 (c_X7_term_0 l E (up2 J 0 4 (nI (tkB T n za.2 + 1))) B K T n (zA T n za) M hE hsg.1 ((hg.1.1.2 0 13 (by decide)).trans h13) hsg.2.2 hM.1 (by have := hM.2.1; have := hsg.2.1; omega)) ⟨rfl, rfl⟩ ⟨Nat.le_of_ble_eq_true rfl, Nat.le_of_ble_eq_true rfl⟩ bl_w (rc_w hK hP 0 (by decide) rfl rfl) (bw_U hE hK hC hP hS) rfl hl.1 (Nat.le_of_ble_eq_true rfl) ⟨Nat.le_refl _, Nat.le_refl _⟩ dX7_sum_55 rfl) hS (fun u38 H locs g39 hP hS => ?_)
            obtain ⟨J40, B40, hg40, rfl⟩ : ∃ oj ob, gP (up2 J 0 4 (nI (tkB T n za.2 + 1))) B T n M (zA T n za) (zTd T n 0 0 0 (zA T n za)).2 (fun am sc => (zTd T n am sc 0 (zA T n za)).1) oj ob ∧ u38 = (oj, ob, K) := g39
            have hP : Wp mN E mK (J40, B40, K) H := hP
            by_cases hz9 : (zTd T n 0 0 0 (zA T n za)).2.1 = 0
            · obtain ⟨M2, hM2⟩ := hg40.2 hz9
              refine lv_aload_n hx hb dX7_sum_58 rfl (lv_at hl 1 rfl) ?_
              refine lv_iload_n hx hb dX7_sum_59 rfl (lv_at hl 0 rfl) ?_
              refine lv_if_eq (tgt := 67) hx hb dX7_sum_60 (by decide) (fun h60 => ?_) (fun h60 => absurd (by decide) h60)
              refine lv_iconst (v := 3) hx hb dX7_sum_67 (by decide) ?_
              refine cn_wv (ck_V (a := eP E 0) S lk_X7_116 (c_X7_emit l E J40 B40 K 3 M2 hE (hg40.1.1.1.2.1.trans hz9) hM2.1 (by have := hM.2.1; have := hM2.2.1; have := hsg.2.1; have := hg40.1.1.1.1.2.2; omega)) ⟨rfl, rfl⟩ ⟨Nat.le_of_ble_eq_true rfl, Nat.le_of_ble_eq_true rfl⟩ bl_w (rc_w hK hP 0 (by decide) rfl rfl) (bw_U hE hK hC hP hS) rfl hl.1 (Nat.le_of_ble_eq_true rfl) ⟨Nat.le_refl _, Nat.le_refl _⟩ dX7_sum_68 rfl) hS (fun u42 H locs g43 hP hS => ?_)
              obtain rfl : u42 = (J40, (mEm B40 M2 3), K) := g43
              have hP : Wp mN E mK (J40, (mEm B40 M2 3), K) H := hP
              refine lv_goto (tgt := 4) hx hb dX7_sum_71 (by decide) ?_
              exact ih _ (fun am sc => pLim (f am sc - (zTd T n am sc 0 (zA T n za)).1) (-1000000) 1000000) _ _ (by have h9 := hsg.2.1; have h8 := zGe_Td (T := T) (n := n) (sz := 0) (sc := 0) 0 (zA T n za); omega) (⟨gB_tr hg.1 (rP_u rP_rf (Or.inl rfl)) (gB_em hg40.1), fun _ => ⟨_, gM_op hM hsg.2.1 hM2 (by decide) (fun am sc h1 h2 => (op_sub (hfv am sc h1 h2) (vR_Td h1 h2 0 _)).1)⟩⟩) (fun am sc h1 h2 => vR_lim) (fun am sc => (show zSl T n (zTd T n am sc 0) cnt (pLim (f am sc - (zTd T n am sc 0 (zA T n za)).1) (-1000000) 1000000, (zTd T n 0 0 0 (zA T n za)).2) = _ from (by rw [zTd_i (a := 0) (b := 0) am sc 0 (zA T n za)]; exact (zSl_d q1 q2).symm.trans (hv am sc)))) _ _ hP hS ls (lv_sub hl [1] rfl)
            · refine lv_aload_n hx hb dX7_sum_58 rfl (lv_at hl 1 rfl) ?_
              refine lv_iload_n hx hb dX7_sum_59 rfl (lv_at hl 0 rfl) ?_
              refine lv_if_eq (tgt := 67) hx hb dX7_sum_60 (by decide) (fun h60 => ?_) (fun h60 => absurd (by decide) h60)
              refine lv_iconst (v := 3) hx hb dX7_sum_67 (by decide) ?_
              refine cn_wv (ck_V (a := eP E 0) S lk_X7_116 (c_X7_emit_bad l E J40 B40 K 3 hE (fun g => hz9 (hg40.1.1.1.2.1.symm.trans g))) ⟨rfl, rfl⟩ ⟨Nat.le_of_ble_eq_true rfl, Nat.le_of_ble_eq_true rfl⟩ bl_w (rc_w hK hP 0 (by decide) rfl rfl) (bw_U hE hK hC hP hS) rfl hl.1 (Nat.le_of_ble_eq_true rfl) ⟨Nat.le_refl _, Nat.le_refl _⟩ dX7_sum_68 rfl) hS (fun u45 H locs g46 hP hS => ?_)
              obtain rfl : u45 = (J40, B40, K) := g46
              have hP : Wp mN E mK (J40, B40, K) H := hP
              refine lv_goto (tgt := 4) hx hb dX7_sum_71 (by decide) ?_
              exact ih _ (fun am sc => pLim (f am sc - (zTd T n am sc 0 (zA T n za)).1) (-1000000) 1000000) _ _ (by have h9 := hsg.2.1; have h8 := zGe_Td (T := T) (n := n) (sz := 0) (sc := 0) 0 (zA T n za); omega) (gP_bad hz9 (gB_tr hg.1 (rP_u rP_rf (Or.inl rfl)) hg40.1)) (fun am sc h1 h2 => vR_lim) (fun am sc => (show zSl T n (zTd T n am sc 0) cnt (pLim (f am sc - (zTd T n am sc 0 (zA T n za)).1) (-1000000) 1000000, (zTd T n 0 0 0 (zA T n za)).2) = _ from (by rw [zTd_i (a := 0) (b := 0) am sc 0 (zA T n za)]; exact (zSl_d q1 q2).symm.trans (hv am sc)))) _ _ hP hS ls (lv_sub hl [1] rfl)
  exact HL 700 _ (fun am sc => (zTd T n am sc 0 z).1) _ _ (by omega) hg4 (fun am sc h1 h2 => vR_Td h1 h2 0 z) (fun am sc => (congrArg (zSl T n (zTd T n am sc 0) 700) (show ((zTd T n am sc 0 z).1, (zTd T n 0 0 0 z).2) = zTd T n am sc 0 z from by rw [zTd_i am sc 0 z])).trans zSu_e.symm) _ _ hP hS ls (lv_sub hl [0] rfl)

