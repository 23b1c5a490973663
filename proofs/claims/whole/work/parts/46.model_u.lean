def rS (I J : Nat → Nat → Int32) : Prop := ∀ a b, ¬ (a = 0 ∧ (b = 4 ∨ b = 5 ∨ b = 6 ∨ b = 12 ∨ b = 14)) → J a b = I a b
theorem rS_of {I J : Nat → Nat → Int32} (h : rP I J) : rS I J := fun a b q => h a b (fun g => q ⟨g.1, by omega⟩)
theorem rS_tr {I J L : Nat → Nat → Int32} (h : rS I J) (g : rS J L) : rS I L := fun a b q => (g a b q).trans (h a b q)
theorem rS_u {I J : Nat → Nat → Int32} {b : Nat} {v : Int32} (h : rS I J) (hb : b = 4 ∨ b = 5 ∨ b = 6 ∨ b = 12 ∨ b = 14) : rS I (up2 J 0 b v) := by
  intro a c hc
  rw [up2_at, if_neg (fun q => hc ⟨q.1, by rw [q.2]; exact hb⟩)]
  exact h a c hc
/-- the floor of the draft -/
def qF (T : Nat → Int32) (n : Nat) (fp : Option Nat) (I A : Nat → Nat → Int32) : Prop := match fp with
  | none => I 0 14 = 0 ∧ A 3 2 = 0 ∧ A 3 3 = 0
  | some q => I 0 14 = 1 ∧ A 3 2 = 1 ∧ ∃ M, M < 1200 ∧ A 3 3 = nI M ∧ sg (cdO A) 0 M (fun am sc => (zSu T n am sc 4 (0, q)).1)
def qS (T : Nat → Int32) (n : Nat) (P : Ps) (I A : Nat → Nat → Int32) : Prop := (mW I A T n P.2.2.2.2 ∧ I 0 13 = 0) ∧ (P.2.2.2.2.1 = 0 → qD P.1 P.2.1 P.2.2.2.1 A ∧ qF T n P.2.2.1 I A)
theorem qF_ext {T : Nat → Int32} {n : Nat} {fp : Option Nat} {I A J B : Nat → Nat → Int32} (hI : J 0 14 = I 0 14) (hA : ∀ b, (b = 2 ∨ b = 3) ∨ 82 ≤ b → B 3 b = A 3 b) (h : qF T n fp I A) : qF T n fp J B := by
  cases fp with
  | none => exact ⟨hI.trans h.1, (hA 2 (by omega)).trans h.2.1, (hA 3 (by omega)).trans h.2.2⟩
  | some q =>
    obtain ⟨h1, h2, M, h3, h4, h5⟩ := h
    exact ⟨hI.trans h1, (hA 2 (by omega)).trans h2, M, h3, (hA 3 (by omega)).trans h4, sg_ext (fun x _ _ => hA (82 + x) (by omega)) h5⟩
theorem sRole_fp {T : Nat → Int32} {n : Nat} {P : Ps} : (sRole T n P).2.2.1 = P.2.2.1 := by
  unfold sRole
  split
  · rfl
  · split <;> rfl
theorem sRule_fp {T : Nat → Int32} {n : Nat} {b : Bool} {P : Ps} : (sRule T n b P).2.2.1 = P.2.2.1 := by
  unfold sRule
  split
  · rfl
  · split <;> rfl
theorem qD_ext {nr nu : Nat} {C A B : Nat → Nat → Int32} (hA : ∀ b, ¬ (b = 2 ∨ b = 3) → b < 82 → B 3 b = A 3 b) (h : qD nr nu C A) : qD nr nu C B := by
  obtain ⟨⟨h1, h2⟩, ⟨h3, h4⟩, h5, h6⟩ := h
  refine ⟨⟨h1, h2⟩, ⟨(hA 0 (by omega) (by omega)).trans h3, (hA 1 (by omega) (by omega)).trans h4⟩, fun r hr => ?_, fun u hu => ?_⟩
  · obtain ⟨⟨g1, g2, g3⟩, g4⟩ := h5 r hr
    exact ⟨⟨(hA _ (by omega) (by omega)).trans g1, (hA _ (by omega) (by omega)).trans g2, (hA _ (by omega) (by omega)).trans g3⟩, g4⟩
  · obtain ⟨⟨g1, g2, g3, g4⟩, g5⟩ := h6 u hu
    exact ⟨⟨(hA _ (by omega) (by omega)).trans g1, (hA _ (by omega) (by omega)).trans g2, (hA _ (by omega) (by omega)).trans g3, (hA _ (by omega) (by omega)).trans g4⟩, g5⟩
/-- what a statement leaves -/
def rT (I A : Nat → Nat → Int32) (T : Nat → Int32) (n : Nat) (P : Ps) (J B : Nat → Nat → Int32) : Prop := qS T n P J B ∧ rS I J ∧ ∀ a, a ≠ 3 → B a = A a
theorem st_fin {I A J B L : Nat → Nat → Int32} {T : Nat → Int32} {n : Nat} {P Q : Ps} (hst : sStm T n P = Q) (hw : mW L B T n (zNS T n 59 Q.2.2.2.2)) (hp : rP J L) (hs : rS I J) (hA : ∀ a, a ≠ 3 → B a = A a) (h13 : I 0 13 = 0) (hg : Q.2.2.2.2.1 = 0 → qD Q.1 Q.2.1 Q.2.2.2.1 B ∧ qF T n Q.2.2.1 J B) : rT I A T n (sSt T n P) L B := by
  have hr : rS I L := rS_tr hs (rS_of hp)
  have e : sSt T n P = (Q.1, Q.2.1, Q.2.2.1, Q.2.2.2.1, zNS T n 59 Q.2.2.2.2) := by rw [← hst]; rfl
  rw [e]
  refine ⟨⟨⟨hw, (hr 0 13 (by omega)).trans h13⟩, fun h => ?_⟩, hr, hA⟩
  obtain ⟨g1, g2⟩ := hg (zMo_NS h)
  exact ⟨g1, qF_ext (hp 0 14 (by omega)) (fun _ _ => rfl) g2⟩
theorem st_B {I A J J0 B L : Nat → Nat → Int32} {T : Nat → Int32} {n : Nat} {P Q : Ps} (hst : sStm T n P = Q) (hfp : Q.2.2.1 = P.2.2.1) (hb : rB J0 A T n Q J B) (h0 : rP I J0) (hF : qF T n P.2.2.1 I A) (h13 : I 0 13 = 0) (hw : mW L B T n (zNS T n 59 Q.2.2.2.2)) (hp : rP J L) : rT I A T n (sSt T n P) L B := by
  have hr : rP I J := rP_tr h0 hb.1.2
  refine st_fin hst hw hp (rS_of hr) hb.2.1 h13 (fun h => ⟨hb.2.2.2 h, ?_⟩)
  rw [hfp]
  exact qF_ext (hr 0 14 (by omega)) hb.2.2.1 hF
theorem st_E {I A J L : Nat → Nat → Int32} {T : Nat → Int32} {n : Nat} {P : Ps} {B : Nat → Nat → Int32} (h0 : P.2.2.2.2.1 = 0) (hst : sStm T n P = zE (-2) P) (hs : rS I J) (hA : ∀ a, a ≠ 3 → B a = A a) (h13 : I 0 13 = 0) (hw : mW L B T n (zNS T n 59 (zF (-2) P.2.2.2.2))) (hp : rP J L) : rT I A T n (sSt T n P) L B :=
  st_fin hst hw hp hs hA h13 (fun h => absurd ((if_pos h0).symm.trans h : (-2 : Int32) = 0) (by decide))
theorem st_F {I A J J1 B L : Nat → Nat → Int32} {T : Nat → Int32} {n nr nu : Nat} {C : Nat → Nat → Int32} {z : Tz} (h0 : z.1 = 0) (hst : sStm T n (nr, nu, none, C, z) = sFlo T n (nr, nu, none, C, z)) (h1 : rS I J1) (h14 : J1 0 14 = 1) (hg : gP J1 (up2 A 3 2 1) T n 0 (zA T n z) (zSu T n 0 0 4 (zA T n z)).2 (fun am sc => (zSu T n am sc 4 (zA T n z)).1) J B) (hD : qD nr nu C A) (h13 : I 0 13 = 0) (hw : mW L B T n (zNS T n 59 (zSu T n 0 0 4 (zA T n z)).2)) (hp : rP J L) : rT I A T n (sSt T n (nr, nu, none, C, z)) L B := by
  have hn := hg.1.1.1.1.2.2
  have hn7 := hg.1.1.1.1.2.1.1
  refine st_fin hst hw hp (rS_tr h1 (rS_of hg.1.1.2)) (fun a ha => (hg.1.2.1 a ha).trans (up2_row ha)) h13 (fun h => ⟨qD_ext (fun b hb hb2 => (hg.1.2.2 b (by omega) hb2).trans (up2_j (by omega))) hD, ?_⟩)
  obtain ⟨M, g1, g2, g3, g4⟩ := hg.2 h
  refine ⟨(hg.1.1.2 0 14 (by omega)).trans h14, (hg.1.2.2 2 (by decide) (by decide)).trans up2_eq, M, by omega, g1, ?_⟩
  rw [zA_0 h0] at g3
  exact g3
set_option maxHeartbeats 1000000 in
set_option maxRecDepth 100000 in
theorem c_X7_statement (l : Launch) (E : En) (I A : Nat → Nat → Int32) (K : Nat → Nat → Int64) (T : Nat → Int32) (n : Nat) (z : Tz) (C : Nat → Nat → Int32) (nr nu : Nat) (fp : Option Nat) (hE : Ev mN E) (hQ : qS T n (nr, nu, fp, C, z) I A) (h0 : z.1 = 0) : Met l yX7_statement (wz yX7_statement cX7_statement 2 none) (rmk 20 0 0 440) (va_Pc [.ref (eP E 0)] (Bw mN E mK (I, A, K))) (qWv mN E mK (fun uu => ∃ J B, rT I A T n (sSt T n (nr, nu, fp, C, z)) J B ∧ uu = (J, B, K))) 0 0 (cA mN E) := by
  refine en_ofW RX7 rfl (by decide +kernel) (Nat.le_of_ble_eq_true rfl) ?_
  intro p e s m below meth c ls S hr hlk hnm hl hB
  have hx := S.1
  have hb := S.2.1
  obtain ⟨hK, hC, hP⟩ := hB
  have hS : va_S (cA mN E) s.heap s.heap [] := va_S.rf
  have hl : lv_has ls 2 [(0, .ref (eP E 0))] := hl
  obtain ⟨⟨hW, h13⟩, hqq⟩ := id hQ
  obtain ⟨hD, hF⟩ := hqq h0
  obtain ⟨⟨hn3, hTT, hzn⟩, h5c, h5p, h5e⟩ := id hW
  refine lv_aload_n hx hb dX7_statement_0 rfl (lv_at hl 0 rfl) ?_
  refine cn_wi (ck_V (a := eP E 0) S lk_X7_66 (c_X7_nextW l E I A K T n z hE hW h0) ⟨rfl, rfl⟩ ⟨Nat.le_of_ble_eq_true rfl, Nat.le_of_ble_eq_true rfl⟩ bl_w (rc_w hK hP 0 (by decide) rfl rfl) (bw_U hE hK hC hP hS) rfl hl.1 (Nat.le_of_ble_eq_true rfl) ⟨Nat.le_refl _, Nat.le_refl _⟩ dX7_statement_1 rfl) hS (fun r1 u2 H locs g3 hP hS => ?_)
  obtain ⟨rfl, rfl⟩ : r1 = (mBv A n (tkB T n z.2)) ∧ u2 = ((up2 I 0 4 (nI (tkB T n z.2))), A, K) := g3
  have hP : Wp mN E mK ((up2 I 0 4 (nI (tkB T n z.2))), A, K) H := hP
  refine lv_pop hx hb dX7_statement_4 rfl ?_
  refine lv_aload_n hx hb dX7_statement_5 rfl (lv_at hl 0 rfl) ?_
  refine rw_geti (x := ((up2 I 0 4 (nI (tkB T n z.2))), A, K)) (v := (nI (tkB T n z.2))) S hK hP 0 (by decide) rfl fk_X7_45 rfl (up2_eq (f := I) (q := 0) (j := 4) (v := (nI (tkB T n z.2)))) dX7_statement_6 ?_
  refine lv_istore_n (lv' := [(1, .int (nI (tkB T n z.2))), (0, .ref (eP E 0))]) hx hb dX7_statement_9 rfl hl (by decide) rfl (fun ls hl => ?_)
  refine lv_aload_n hx hb dX7_statement_10 rfl (lv_at hl 1 rfl) ?_
  refine va_ldcS (q := eS E 10) (tx := "role") hx hb S.2.2.2.1 (tr_10 hC.1.2.1) dX7_statement_11 ?_
  refine cn_wi (ck_V (a := eP E 0) S lk_X7_107 (c_X7_takeWord l E (up2 I 0 4 (nI (tkB T n z.2))) A K T n z 10 hE (mW_nx hW h0) (by decide)) ⟨rfl, rfl⟩ ⟨Nat.le_of_ble_eq_true rfl, Nat.le_of_ble_eq_true rfl⟩ bl_w (rc_w hK hP 0 (by decide) rfl rfl) (bw_U hE hK hC hP hS) rfl hl.1 (Nat.le_of_ble_eq_true rfl) ⟨Nat.le_refl _, Nat.le_refl _⟩ dX7_statement_13 rfl) hS (fun r4 u5 H locs g6 hP hS => ?_)
  obtain ⟨hb7, J7, hW7, hp7, rfl⟩ : r4 = bI (zW T n (tw 10) z) ∧ (∃ oj, mW oj A T n (zPW T n (tw 10) z) ∧ rP (up2 I 0 4 (nI (tkB T n z.2))) oj ∧ u5 = (oj, A, K)) := g6
  refine tp_i (y := bI (zW T n (tw 10) z)) hb7 ?_
  have hP : Wp mN E mK (J7, A, K) H := hP
  have hr7 := rP_tr (rP_u rP_rf (Or.inl rfl)) hp7
  rw [tw_10] at hW7
  refine tp_i (y := (bI (zW T n (tw 1) z))) (by rw [tw_10]) ?_
  refine lv_if_eq (tgt := 27) hx hb dX7_statement_16 (by decide) (fun h16 => ?_) (fun h16 => ?_)
  · have q1 : zW T n (tw 1) z = false := bI_f h16
    rw [zPW_f q1] at hW7
    refine lv_aload_n hx hb dX7_statement_27 rfl (lv_at hl 1 rfl) ?_
    refine va_ldcS (q := eS E 11) (tx := "text") hx hb S.2.2.2.1 (tr_11 hC.1.2.1) dX7_statement_28 ?_
    refine cn_wi (ck_V (a := eP E 0) S lk_X7_107 (c_X7_takeWord l E J7 A K T n z 11 hE hW7 (by decide)) ⟨rfl, rfl⟩ ⟨Nat.le_of_ble_eq_true rfl, Nat.le_of_ble_eq_true rfl⟩ bl_w (rc_w hK hP 0 (by decide) rfl rfl) (bw_U hE hK hC hP hS) rfl hl.1 (Nat.le_of_ble_eq_true rfl) ⟨Nat.le_refl _, Nat.le_refl _⟩ dX7_statement_30 rfl) hS (fun r8 u9 H locs g10 hP hS => ?_)
    obtain ⟨hb11, J11, hW11, hp11, rfl⟩ : r8 = bI (zW T n (tw 11) z) ∧ (∃ oj, mW oj A T n (zPW T n (tw 11) z) ∧ rP J7 oj ∧ u9 = (oj, A, K)) := g10
    refine tp_i (y := bI (zW T n (tw 11) z)) hb11 ?_
    have hP : Wp mN E mK (J11, A, K) H := hP
    have hr11 := rP_tr hr7 hp11
    rw [tw_11] at hW11
    refine tp_i (y := (bI (zW T n (tw 2) z))) (by rw [tw_11]) ?_
    refine lv_if_eq (tgt := 45) hx hb dX7_statement_33 (by decide) (fun h33 => ?_) (fun h33 => ?_)
    · have q2 : zW T n (tw 2) z = false := bI_f h33
      rw [zPW_f q2] at hW11
      refine lv_aload_n hx hb dX7_statement_45 rfl (lv_at hl 1 rfl) ?_
      refine va_ldcS (q := eS E 12) (tx := "distinct") hx hb S.2.2.2.1 (tr_12 hC.1.2.1) dX7_statement_46 ?_
      refine cn_wi (ck_V (a := eP E 0) S lk_X7_107 (c_X7_takeWord l E J11 A K T n z 12 hE hW11 (by decide)) ⟨rfl, rfl⟩ ⟨Nat.le_of_ble_eq_true rfl, Nat.le_of_ble_eq_true rfl⟩ bl_w (rc_w hK hP 0 (by decide) rfl rfl) (bw_U hE hK hC hP hS) rfl hl.1 (Nat.le_of_ble_eq_true rfl) ⟨Nat.le_refl _, Nat.le_refl _⟩ dX7_statement_48 rfl) hS (fun r12 u13 H locs g14 hP hS => ?_)
      obtain ⟨hb15, J15, hW15, hp15, rfl⟩ : r12 = bI (zW T n (tw 12) z) ∧ (∃ oj, mW oj A T n (zPW T n (tw 12) z) ∧ rP J11 oj ∧ u13 = (oj, A, K)) := g14
      refine tp_i (y := bI (zW T n (tw 12) z)) hb15 ?_
      have hP : Wp mN E mK (J15, A, K) H := hP
      have hr15 := rP_tr hr11 hp15
      rw [tw_12] at hW15
      refine tp_i (y := (bI (zW T n (tw 3) z))) (by rw [tw_12]) ?_
      refine lv_if_eq (tgt := 63) hx hb dX7_statement_51 (by decide) (fun h51 => ?_) (fun h51 => ?_)
      · have q3 : zW T n (tw 3) z = false := bI_f h51
        rw [zPW_f q3] at hW15
        refine lv_aload_n hx hb dX7_statement_63 rfl (lv_at hl 1 rfl) ?_
        refine va_ldcS (q := eS E 13) (tx := "floor") hx hb S.2.2.2.1 (tr_13 hC.1.2.1) dX7_statement_64 ?_
        refine cn_wi (ck_V (a := eP E 0) S lk_X7_107 (c_X7_takeWord l E J15 A K T n z 13 hE hW15 (by decide)) ⟨rfl, rfl⟩ ⟨Nat.le_of_ble_eq_true rfl, Nat.le_of_ble_eq_true rfl⟩ bl_w (rc_w hK hP 0 (by decide) rfl rfl) (bw_U hE hK hC hP hS) rfl hl.1 (Nat.le_of_ble_eq_true rfl) ⟨Nat.le_refl _, Nat.le_refl _⟩ dX7_statement_66 rfl) hS (fun r16 u17 H locs g18 hP hS => ?_)
        obtain ⟨hb19, J19, hW19, hp19, rfl⟩ : r16 = bI (zW T n (tw 13) z) ∧ (∃ oj, mW oj A T n (zPW T n (tw 13) z) ∧ rP J15 oj ∧ u17 = (oj, A, K)) := g18
        refine tp_i (y := bI (zW T n (tw 13) z)) hb19 ?_
        have hP : Wp mN E mK (J19, A, K) H := hP
        have hr19 := rP_tr hr15 hp19
        rw [tw_13] at hW19
        refine tp_i (y := (bI (zW T n (tw 4) z))) (by rw [tw_13]) ?_
        refine lv_if_eq (tgt := 92) hx hb dX7_statement_69 (by decide) (fun h69 => ?_) (fun h69 => ?_)
        · have q4 : zW T n (tw 4) z = false := bI_f h69
          rw [zPW_f q4] at hW19
          refine lv_aload_n hx hb dX7_statement_92 rfl (lv_at hl 1 rfl) ?_
          refine lv_bipush (v := (-2)) hx hb dX7_statement_93 (by decide) ?_
          refine lv_iload_n hx hb dX7_statement_95 rfl (lv_at hl 0 rfl) ?_
          refine cn_wv (ck_V (a := eP E 0) S lk_X7_79 (c_X7_report l E J19 A K (-2) (nI (tkB T n z.2)) hE) ⟨rfl, rfl⟩ ⟨Nat.le_of_ble_eq_true rfl, Nat.le_of_ble_eq_true rfl⟩ bl_w (rc_w hK hP 0 (by decide) rfl rfl) (bw_U hE hK hC hP hS) rfl hl.1 (Nat.le_of_ble_eq_true rfl) ⟨Nat.le_refl _, Nat.le_refl _⟩ dX7_statement_96 rfl) hS (fun u21 H locs g22 hP hS => ?_)
          obtain rfl : u21 = ((if J19 0 5 = 0 then up2 (up2 J19 0 5 (-2)) 0 6 (nI (tkB T n z.2)) else J19), A, K) := g22
          have hP : Wp mN E mK ((if J19 0 5 = 0 then up2 (up2 J19 0 5 (-2)) 0 6 (nI (tkB T n z.2)) else J19), A, K) H := hP
          rw [if_pos (show J19 0 5 = 0 from hW19.2.1.trans h0)] at hP
          have hP : Wp mN E mK ((up2 (up2 J19 0 5 (-2)) 0 6 (nI (tkB T n z.2))), A, K) H := hP
          have hWo : mW (up2 (up2 J19 0 5 (-2)) 0 6 (nI (tkB T n z.2))) A T n (zF (-2) z) := mW_er3 hW19 hzn h0 (by decide) rfl rfl up2_eq
          have hso : rS I (up2 (up2 J19 0 5 (-2)) 0 6 (nI (tkB T n z.2))) := rS_u (rS_u (rS_of hr19) (by omega)) (by omega)
          refine lv_aload_n hx hb dX7_statement_99 rfl (lv_at hl 1 rfl) ?_
          refine lv_bipush (v := 59) hx hb dX7_statement_100 (by decide) ?_
          refine cn_wv (ck_V (a := eP E 0) S lk_X7_101 (c_X7_expect l E (up2 (up2 J19 0 5 (-2)) 0 6 (nI (tkB T n z.2))) A K T n (zF (-2) z) 59 hE hWo (by decide) (by decide)) ⟨rfl, rfl⟩ ⟨Nat.le_of_ble_eq_true rfl, Nat.le_of_ble_eq_true rfl⟩ bl_w (rc_w hK hP 0 (by decide) rfl rfl) (bw_U hE hK hC hP hS) rfl hl.1 (Nat.le_of_ble_eq_true rfl) ⟨Nat.le_refl _, Nat.le_refl _⟩ dX7_statement_102 rfl) hS (fun u24 H locs g25 hP hS => ?_)
          obtain ⟨J26, hW26, hp26, rfl⟩ : ∃ oj, mW oj A T n (zNS T n (nI 59) (zF (-2) z)) ∧ rP (up2 (up2 J19 0 5 (-2)) 0 6 (nI (tkB T n z.2))) oj ∧ u24 = (oj, A, K) := g25
          have hP : Wp mN E mK (J26, A, K) H := hP
          exact re_wv (x := (J26, A, K)) hx hb hr hlk hP hS ⟨_, _, st_E (P := (nr, nu, fp, C, z)) h0 (sStm_5 (P := (nr, nu, fp, C, z)) q1 q2 q3 (fun q => absurd (q4.symm.trans q.1) (by decide))) hso (fun _ _ => rfl) h13 hW26 hp26, rfl⟩ dX7_statement_105
        · have q4 : zW T n (tw 4) z = true := bI_t h69
          rw [zPW_t q4] at hW19
          cases fp with
          | none =>
            refine lv_aload_n hx hb dX7_statement_72 rfl (lv_at hl 1 rfl) ?_
            refine lv_iconst (v := 0) hx hb dX7_statement_73 (by decide) ?_
            refine lv_iload_n hx hb dX7_statement_74 rfl (lv_at hl 0 rfl) ?_
            refine cn_wv (ck_V (a := eP E 0) S lk_X7_156 (c_X7_once_n l E J19 A K (nI (tkB T n z.2)) hE ((hr19 0 14 (by omega)).trans hF.1)) ⟨rfl, rfl⟩ ⟨Nat.le_of_ble_eq_true rfl, Nat.le_of_ble_eq_true rfl⟩ bl_w (rc_w hK hP 0 (by decide) rfl rfl) (bw_U hE hK hC hP hS) rfl hl.1 (Nat.le_of_ble_eq_true rfl) ⟨Nat.le_refl _, Nat.le_refl _⟩ dX7_statement_75 rfl) hS (fun u28 H locs g29 hP hS => ?_)
            obtain rfl : u28 = ((up2 J19 0 14 1), A, K) := g29
            have hP : Wp mN E mK ((up2 J19 0 14 1), A, K) H := hP
            have hWo := mW_12 (b := 14) (v := 1) (Or.inr (Or.inr rfl)) hW19
            have hso : rS I (up2 J19 0 14 1) := rS_u (rS_of hr19) (by omega)
            refine lv_aload_n hx hb dX7_statement_78 rfl (lv_at hl 1 rfl) ?_
            refine rw_getr (x := ((up2 J19 0 14 1), A, K)) S hK hP 0 (by decide) rfl fk_X7_20 rfl dX7_statement_79 ?_
            refine lv_iconst (v := 2) hx hb dX7_statement_82 (by decide) ?_
            refine lv_iconst (v := 1) hx hb dX7_statement_83 (by decide) ?_
            refine rw_iast (x := ((up2 J19 0 14 1), A, K)) (v := 1) S hE hK hP hS 3 (by decide) rfl 2 rfl (by decide) (by decide) dX7_statement_84 (fun H locs hP hS => ?_)
            have hP : Wp mN E mK ((up2 J19 0 14 1), (up2 A 3 2 1), K) H := hP
            refine lv_aload_n hx hb dX7_statement_85 rfl (lv_at hl 1 rfl) ?_
            refine cn_wv (ck_V (a := eP E 0) S lk_X7_98 (c_X7_sum_4 l E (up2 J19 0 14 1) (up2 A 3 2 1) K T n (zA T n z) 0 hE (mW_ext (B := (up2 A 3 2 1)) rfl hWo) ((hso 0 13 (by omega)).trans h13) h0 ((up2_j (f := A) (q := 3) (j := 2) (a := 3) (b := 3) (v := 1) (by decide)).trans hF.2.2) (by omega)) ⟨rfl, rfl⟩ ⟨Nat.le_of_ble_eq_true rfl, Nat.le_of_ble_eq_true rfl⟩ bl_w (rc_w hK hP 0 (by decide) rfl rfl) (bw_U hE hK hC hP hS) rfl hl.1 (Nat.le_of_ble_eq_true rfl) ⟨Nat.le_refl _, Nat.le_refl _⟩ dX7_statement_86 rfl) hS (fun u31 H locs g32 hP hS => ?_)
            obtain ⟨J33, B33, hg33, rfl⟩ : ∃ oj ob, gP (up2 J19 0 14 1) (up2 A 3 2 1) T n 0 (zA T n z) (zSu T n 0 0 4 (zA T n z)).2 (fun am sc => (zSu T n am sc 4 (zA T n z)).1) oj ob ∧ u31 = (oj, ob, K) := g32
            have hP : Wp mN E mK (J33, B33, K) H := hP
            refine lv_goto (tgt := 99) hx hb dX7_statement_89 (by decide) ?_
            refine lv_aload_n hx hb dX7_statement_99 rfl (lv_at hl 1 rfl) ?_
            refine lv_bipush (v := 59) hx hb dX7_statement_100 (by decide) ?_
            refine cn_wv (ck_V (a := eP E 0) S lk_X7_101 (c_X7_expect l E J33 B33 K T n ((zSu T n 0 0 4 (zA T n z)).2) 59 hE hg33.1.1.1 (by decide) (by decide)) ⟨rfl, rfl⟩ ⟨Nat.le_of_ble_eq_true rfl, Nat.le_of_ble_eq_true rfl⟩ bl_w (rc_w hK hP 0 (by decide) rfl rfl) (bw_U hE hK hC hP hS) rfl hl.1 (Nat.le_of_ble_eq_true rfl) ⟨Nat.le_refl _, Nat.le_refl _⟩ dX7_statement_102 rfl) hS (fun u35 H locs g36 hP hS => ?_)
            obtain ⟨J37, hW37, hp37, rfl⟩ : ∃ oj, mW oj B33 T n (zNS T n (nI 59) ((zSu T n 0 0 4 (zA T n z)).2)) ∧ rP J33 oj ∧ u35 = (oj, B33, K) := g36
            have hP : Wp mN E mK (J37, B33, K) H := hP
            exact re_wv (x := (J37, B33, K)) hx hb hr hlk hP hS ⟨_, _, st_F h0 (sStm_4 (P := (nr, nu, none, C, z)) q1 q2 q3 q4 rfl) hso rfl hg33 hD h13 hW37 hp37, rfl⟩ dX7_statement_105
          | some fq =>
            refine lv_aload_n hx hb dX7_statement_72 rfl (lv_at hl 1 rfl) ?_
            refine lv_iconst (v := 0) hx hb dX7_statement_73 (by decide) ?_
            refine lv_iload_n hx hb dX7_statement_74 rfl (lv_at hl 0 rfl) ?_
            refine cn_wv (ck_V (a := eP E 0) S lk_X7_156 (c_X7_once_y l E J19 A K (nI (tkB T n z.2)) hE ((hr19 0 14 (by omega)).trans hF.1) (hW19.2.1.trans h0)) ⟨rfl, rfl⟩ ⟨Nat.le_of_ble_eq_true rfl, Nat.le_of_ble_eq_true rfl⟩ bl_w (rc_w hK hP 0 (by decide) rfl rfl) (bw_U hE hK hC hP hS) rfl hl.1 (Nat.le_of_ble_eq_true rfl) ⟨Nat.le_refl _, Nat.le_refl _⟩ dX7_statement_75 rfl) hS (fun u39 H locs g40 hP hS => ?_)
            obtain rfl : u39 = ((up2 (up2 (up2 J19 0 5 (-2)) 0 6 (nI (tkB T n z.2))) 0 14 1), A, K) := g40
            have hP : Wp mN E mK ((up2 (up2 (up2 J19 0 5 (-2)) 0 6 (nI (tkB T n z.2))) 0 14 1), A, K) H := hP
            have hWo : mW (up2 (up2 (up2 J19 0 5 (-2)) 0 6 (nI (tkB T n z.2))) 0 14 1) A T n (zF (-2) z) := mW_12 (Or.inr (Or.inr rfl)) (mW_er3 hW19 hzn h0 (by decide) rfl rfl up2_eq)
            have hso : rS I (up2 (up2 (up2 J19 0 5 (-2)) 0 6 (nI (tkB T n z.2))) 0 14 1) := rS_u (rS_u (rS_u (rS_of hr19) (by omega)) (by omega)) (by omega)
            refine lv_aload_n hx hb dX7_statement_78 rfl (lv_at hl 1 rfl) ?_
            refine rw_getr (x := ((up2 (up2 (up2 J19 0 5 (-2)) 0 6 (nI (tkB T n z.2))) 0 14 1), A, K)) S hK hP 0 (by decide) rfl fk_X7_20 rfl dX7_statement_79 ?_
            refine lv_iconst (v := 2) hx hb dX7_statement_82 (by decide) ?_
            refine lv_iconst (v := 1) hx hb dX7_statement_83 (by decide) ?_
            refine rw_iast (x := ((up2 (up2 (up2 J19 0 5 (-2)) 0 6 (nI (tkB T n z.2))) 0 14 1), A, K)) (v := 1) S hE hK hP hS 3 (by decide) rfl 2 rfl (by decide) (by decide) dX7_statement_84 (fun H locs hP hS => ?_)
            have hP : Wp mN E mK ((up2 (up2 (up2 J19 0 5 (-2)) 0 6 (nI (tkB T n z.2))) 0 14 1), (up2 A 3 2 1), K) H := hP
            refine lv_aload_n hx hb dX7_statement_85 rfl (lv_at hl 1 rfl) ?_
            refine cn_wv (ck_V (a := eP E 0) S lk_X7_98 (c_X7_sum_bad l E (up2 (up2 (up2 J19 0 5 (-2)) 0 6 (nI (tkB T n z.2))) 0 14 1) (up2 A 3 2 1) K hE (show ¬ ((-2 : Int32) = 0) by decide)) ⟨rfl, rfl⟩ ⟨Nat.le_of_ble_eq_true rfl, Nat.le_of_ble_eq_true rfl⟩ bl_w (rc_w hK hP 0 (by decide) rfl rfl) (bw_U hE hK hC hP hS) rfl hl.1 (Nat.le_of_ble_eq_true rfl) ⟨Nat.le_refl _, Nat.le_refl _⟩ dX7_statement_86 rfl) hS (fun u42 H locs g43 hP hS => ?_)
            obtain rfl : u42 = ((up2 (up2 (up2 J19 0 5 (-2)) 0 6 (nI (tkB T n z.2))) 0 14 1), (up2 A 3 2 1), K) := g43
            have hP : Wp mN E mK ((up2 (up2 (up2 J19 0 5 (-2)) 0 6 (nI (tkB T n z.2))) 0 14 1), (up2 A 3 2 1), K) H := hP
            refine lv_goto (tgt := 99) hx hb dX7_statement_89 (by decide) ?_
            refine lv_aload_n hx hb dX7_statement_99 rfl (lv_at hl 1 rfl) ?_
            refine lv_bipush (v := 59) hx hb dX7_statement_100 (by decide) ?_
            refine cn_wv (ck_V (a := eP E 0) S lk_X7_101 (c_X7_expect l E (up2 (up2 (up2 J19 0 5 (-2)) 0 6 (nI (tkB T n z.2))) 0 14 1) (up2 A 3 2 1) K T n (zF (-2) z) 59 hE (mW_ext (B := (up2 A 3 2 1)) rfl hWo) (by decide) (by decide)) ⟨rfl, rfl⟩ ⟨Nat.le_of_ble_eq_true rfl, Nat.le_of_ble_eq_true rfl⟩ bl_w (rc_w hK hP 0 (by decide) rfl rfl) (bw_U hE hK hC hP hS) rfl hl.1 (Nat.le_of_ble_eq_true rfl) ⟨Nat.le_refl _, Nat.le_refl _⟩ dX7_statement_102 rfl) hS (fun u45 H locs g46 hP hS => ?_)
            obtain ⟨J47, hW47, hp47, rfl⟩ : ∃ oj, mW oj (up2 A 3 2 1) T n (zNS T n (nI 59) (zF (-2) z)) ∧ rP (up2 (up2 (up2 J19 0 5 (-2)) 0 6 (nI (tkB T n z.2))) 0 14 1) oj ∧ u45 = (oj, (up2 A 3 2 1), K) := g46
            have hP : Wp mN E mK (J47, (up2 A 3 2 1), K) H := hP
            exact re_wv (x := (J47, (up2 A 3 2 1), K)) hx hb hr hlk hP hS ⟨_, _, st_E (P := (nr, nu, some fq, C, z)) h0 (sStm_5 (P := (nr, nu, some fq, C, z)) q1 q2 q3 (fun q => absurd q.2 (Option.some_ne_none fq))) hso (fun a ha => up2_row ha) h13 hW47 hp47, rfl⟩ dX7_statement_105
      · have q3 : zW T n (tw 3) z = true := bI_t h51
        rw [zPW_t q3] at hW15
        refine lv_aload_n hx hb dX7_statement_54 rfl (lv_at hl 1 rfl) ?_
        refine lv_iload_n hx hb dX7_statement_55 rfl (lv_at hl 0 rfl) ?_
        refine lv_iconst (v := 0) hx hb dX7_statement_56 (by decide) ?_
        refine tp_i (y := bI false) rfl ?_
        refine cn_wv (ck_V (a := eP E 0) S lk_X7_148 (c_X7_readRule l E J15 A K T n z C nr nu fp false hE hW15 h0 hD) ⟨rfl, rfl⟩ ⟨Nat.le_of_ble_eq_true rfl, Nat.le_of_ble_eq_true rfl⟩ bl_w (rc_w hK hP 0 (by decide) rfl rfl) (bw_U hE hK hC hP hS) rfl hl.1 (Nat.le_of_ble_eq_true rfl) ⟨Nat.le_refl _, Nat.le_refl _⟩ dX7_statement_57 rfl) hS (fun u49 H locs g50 hP hS => ?_)
        obtain ⟨J51, B51, hb51, rfl⟩ : ∃ oj ob, rB J15 A T n (sRule T n false (nr, nu, fp, C, z)) oj ob ∧ u49 = (oj, ob, K) := g50
        have hP : Wp mN E mK (J51, B51, K) H := hP
        refine lv_goto (tgt := 99) hx hb dX7_statement_60 (by decide) ?_
        refine lv_aload_n hx hb dX7_statement_99 rfl (lv_at hl 1 rfl) ?_
        refine lv_bipush (v := 59) hx hb dX7_statement_100 (by decide) ?_
        refine cn_wv (ck_V (a := eP E 0) S lk_X7_101 (c_X7_expect l E J51 B51 K T n ((sRule T n false (nr, nu, fp, C, z)).2.2.2.2) 59 hE hb51.1.1 (by decide) (by decide)) ⟨rfl, rfl⟩ ⟨Nat.le_of_ble_eq_true rfl, Nat.le_of_ble_eq_true rfl⟩ bl_w (rc_w hK hP 0 (by decide) rfl rfl) (bw_U hE hK hC hP hS) rfl hl.1 (Nat.le_of_ble_eq_true rfl) ⟨Nat.le_refl _, Nat.le_refl _⟩ dX7_statement_102 rfl) hS (fun u53 H locs g54 hP hS => ?_)
        obtain ⟨J55, hW55, hp55, rfl⟩ : ∃ oj, mW oj B51 T n (zNS T n (nI 59) ((sRule T n false (nr, nu, fp, C, z)).2.2.2.2)) ∧ rP J51 oj ∧ u53 = (oj, B51, K) := g54
        have hP : Wp mN E mK (J55, B51, K) H := hP
        exact re_wv (x := (J55, B51, K)) hx hb hr hlk hP hS ⟨_, _, st_B (P := (nr, nu, fp, C, z)) (sStm_3 q1 q2 q3) sRule_fp hb51 hr15 hF h13 hW55 hp55, rfl⟩ dX7_statement_105
    · have q2 : zW T n (tw 2) z = true := bI_t h33
      rw [zPW_t q2] at hW11
      refine lv_aload_n hx hb dX7_statement_36 rfl (lv_at hl 1 rfl) ?_
      refine lv_iload_n hx hb dX7_statement_37 rfl (lv_at hl 0 rfl) ?_
      refine lv_iconst (v := 1) hx hb dX7_statement_38 (by decide) ?_
      refine tp_i (y := bI true) rfl ?_
      refine cn_wv (ck_V (a := eP E 0) S lk_X7_148 (c_X7_readRule l E J11 A K T n z C nr nu fp true hE hW11 h0 hD) ⟨rfl, rfl⟩ ⟨Nat.le_of_ble_eq_true rfl, Nat.le_of_ble_eq_true rfl⟩ bl_w (rc_w hK hP 0 (by decide) rfl rfl) (bw_U hE hK hC hP hS) rfl hl.1 (Nat.le_of_ble_eq_true rfl) ⟨Nat.le_refl _, Nat.le_refl _⟩ dX7_statement_39 rfl) hS (fun u57 H locs g58 hP hS => ?_)
      obtain ⟨J59, B59, hb59, rfl⟩ : ∃ oj ob, rB J11 A T n (sRule T n true (nr, nu, fp, C, z)) oj ob ∧ u57 = (oj, ob, K) := g58
      have hP : Wp mN E mK (J59, B59, K) H := hP
      refine lv_goto (tgt := 99) hx hb dX7_statement_42 (by decide) ?_
      refine lv_aload_n hx hb dX7_statement_99 rfl (lv_at hl 1 rfl) ?_
      refine lv_bipush (v := 59) hx hb dX7_statement_100 (by decide) ?_
      refine cn_wv (ck_V (a := eP E 0) S lk_X7_101 (c_X7_expect l E J59 B59 K T n ((sRule T n true (nr, nu, fp, C, z)).2.2.2.2) 59 hE hb59.1.1 (by decide) (by decide)) ⟨rfl, rfl⟩ ⟨Nat.le_of_ble_eq_true rfl, Nat.le_of_ble_eq_true rfl⟩ bl_w (rc_w hK hP 0 (by decide) rfl rfl) (bw_U hE hK hC hP hS) rfl hl.1 (Nat.le_of_ble_eq_true rfl) ⟨Nat.le_refl _, Nat.le_refl _⟩ dX7_statement_102 rfl) hS (fun u61 H locs g62 hP hS => ?_)
      obtain ⟨J63, hW63, hp63, rfl⟩ : ∃ oj, mW oj B59 T n (zNS T n (nI 59) ((sRule T n true (nr, nu, fp, C, z)).2.2.2.2)) ∧ rP J59 oj ∧ u61 = (oj, B59, K) := g62
      have hP : Wp mN E mK (J63, B59, K) H := hP
      exact re_wv (x := (J63, B59, K)) hx hb hr hlk hP hS ⟨_, _, st_B (P := (nr, nu, fp, C, z)) (sStm_2 q1 q2) sRule_fp hb59 hr11 hF h13 hW63 hp63, rfl⟩ dX7_statement_105
  · have q1 : zW T n (tw 1) z = true := bI_t h16
    rw [zPW_t q1] at hW7
    refine lv_aload_n hx hb dX7_statement_19 rfl (lv_at hl 1 rfl) ?_
    refine lv_iload_n hx hb dX7_statement_20 rfl (lv_at hl 0 rfl) ?_
    refine cn_wv (ck_V (a := eP E 0) S lk_X7_143 (c_X7_readRole l E J7 A K T n z C nr nu fp hE hW7 h0 hD) ⟨rfl, rfl⟩ ⟨Nat.le_of_ble_eq_true rfl, Nat.le_of_ble_eq_true rfl⟩ bl_w (rc_w hK hP 0 (by decide) rfl rfl) (bw_U hE hK hC hP hS) rfl hl.1 (Nat.le_of_ble_eq_true rfl) ⟨Nat.le_refl _, Nat.le_refl _⟩ dX7_statement_21 rfl) hS (fun u65 H locs g66 hP hS => ?_)
    obtain ⟨J67, B67, hb67, rfl⟩ : ∃ oj ob, rB J7 A T n (sRole T n (nr, nu, fp, C, z)) oj ob ∧ u65 = (oj, ob, K) := g66
    have hP : Wp mN E mK (J67, B67, K) H := hP
    refine lv_goto (tgt := 99) hx hb dX7_statement_24 (by decide) ?_
    refine lv_aload_n hx hb dX7_statement_99 rfl (lv_at hl 1 rfl) ?_
    refine lv_bipush (v := 59) hx hb dX7_statement_100 (by decide) ?_
    refine cn_wv (ck_V (a := eP E 0) S lk_X7_101 (c_X7_expect l E J67 B67 K T n ((sRole T n (nr, nu, fp, C, z)).2.2.2.2) 59 hE hb67.1.1 (by decide) (by decide)) ⟨rfl, rfl⟩ ⟨Nat.le_of_ble_eq_true rfl, Nat.le_of_ble_eq_true rfl⟩ bl_w (rc_w hK hP 0 (by decide) rfl rfl) (bw_U hE hK hC hP hS) rfl hl.1 (Nat.le_of_ble_eq_true rfl) ⟨Nat.le_refl _, Nat.le_refl _⟩ dX7_statement_102 rfl) hS (fun u69 H locs g70 hP hS => ?_)
    obtain ⟨J71, hW71, hp71, rfl⟩ : ∃ oj, mW oj B67 T n (zNS T n (nI 59) ((sRole T n (nr, nu, fp, C, z)).2.2.2.2)) ∧ rP J67 oj ∧ u69 = (oj, B67, K) := g70
    have hP : Wp mN E mK (J71, B67, K) H := hP
    exact re_wv (x := (J71, B67, K)) hx hb hr hlk hP hS ⟨_, _, st_B (P := (nr, nu, fp, C, z)) (sStm_1 q1) sRole_fp hb67 hr7 hF h13 hW71 hp71, rfl⟩ dX7_statement_105

