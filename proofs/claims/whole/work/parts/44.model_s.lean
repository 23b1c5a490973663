theorem mW_er3 {I J A : Nat → Nat → Int32} {T : Nat → Int32} {n : Nat} {y z : Tz} {k : Int32} (h : mW I A T n y) (hz : z.2 ≤ n) (h0 : z.1 = 0) (hk : ¬ k = 0) (e3 : J 0 3 = I 0 3) (e5 : J 0 5 = k) (e6 : J 0 6 = nI (tkB T n z.2)) : mW J A T n (zF k z) := by
  obtain ⟨⟨h1, h2, h3⟩, h4, h5, h6⟩ := h
  have e : (zF k z).1 = k := if_pos h0
  exact ⟨⟨e3.trans h1, h2, hz⟩, e5.trans e.symm, fun g => absurd (e.symm.trans g) hk, fun _ => e6, fun g => absurd (e.symm.trans g) hk⟩
theorem zF_b {k : Int32} {z : Tz} (h : ¬ z.1 = 0) : zF k z = z := by
  unfold zF
  rw [if_neg h]
theorem zNz_b {T : Nat → Int32} {n : Nat} {lo hi : Int32} {z : Tz} (h : ¬ z.1 = 0) : zNz T n lo hi z = z := by
  rw [zNz_f (decide_eq_false (fun q => h q.1)), zF_b h]
theorem zW_c {T : Nat → Int32} {n : Nat} {w : List Int32} {z : Tz} (h : ¬ z.1 = 0) : zW T n w z = false := decide_eq_false (fun q => h q.1)
theorem zPW_b {T : Nat → Int32} {n : Nat} {w : List Int32} {z : Tz} (h : ¬ z.1 = 0) : zPW T n w z = z := zPW_f (zW_c h)
theorem zA_b {T : Nat → Int32} {n : Nat} {z : Tz} (h : ¬ z.1 = 0) : zA T n z = z := by
  unfold zA
  rw [if_neg h]
theorem zNv_r {T : Nat → Int32} {n : Nat} {z : Tz} : ∃ k : Nat, k < 256 ∧ zNv T n 0 255 z = nI k := by
  unfold zNv
  split
  · split
    · exact ⟨0, by decide, rfl⟩
    · split
      · exact ⟨0, by decide, rfl⟩
      · rename_i h1 h2
        obtain ⟨j, hj, e⟩ := nI_of2 (x := tkV T n z.2) (M := 255) (n := 255) (by decide) h1 (Int32.not_lt.mp h2)
        exact ⟨j, by omega, e⟩
  · exact ⟨0, by decide, rfl⟩
theorem dark_eq {r g b : Int32} (hr : ∃ k : Nat, k < 256 ∧ r = nI k) (hg : ∃ k : Nat, k < 256 ∧ g = nI k) (hb : ∃ k : Nat, k < 256 ∧ b = nI k) : pMix (255 - r) (255 - g) (255 - b) = 16777215 - pMix r g b := by
  obtain ⟨i, hi, rfl⟩ := hr
  obtain ⟨j, hj, rfl⟩ := hg
  obtain ⟨k, hk, rfl⟩ := hb
  rw [show (255 : Int32) = nI 255 from rfl, show (16777215 : Int32) = nI 16777215 from rfl, pk_sub (a := 255) (b := i) (by omega), pk_sub (a := 255) (b := j) (by omega), pk_sub (a := 255) (b := k) (by omega), pMix_n, pMix_n, pk_sub (by omega)]
  congr 1
  omega
theorem vC_cv {T : Nat → Int32} {n : Nat} {z : Tz} : vC (zCv T n z) := vC_mix zNv_r zNv_r zNv_r
theorem tw_10 : tw 10 = tw 1 := by decide +kernel
theorem tw_11 : tw 11 = tw 2 := by decide +kernel
theorem tw_12 : tw 12 = tw 3 := by decide +kernel
theorem tw_13 : tw 13 = tw 4 := by decide +kernel
theorem tw_14 : tw 14 = tw 5 := by decide +kernel
theorem tw_15 : tw 15 = tw 6 := by decide +kernel
theorem nar_b (b : Bool) : vp_nar .boolean (bI b) = bI b := by cases b <;> decide
/-- the draft of the model holds what the draft of the component holds -/
def qD (nr nu : Nat) (C A : Nat → Nat → Int32) : Prop := (nr ≤ 10 ∧ nu ≤ 12) ∧ (A 3 0 = nI nr ∧ A 3 1 = nI nu) ∧ (∀ r, r < nr → (A 3 (4 + 3 * r) = C 21 r ∧ A 3 (4 + 3 * r + 1) = C 22 r ∧ A 3 (4 + 3 * r + 2) = C 23 r) ∧ (vC (C 21 r) ∧ vC (C 22 r)) ∧ ∃ b, C 23 r = bI b) ∧ ∀ u, u < nu → (A 3 (34 + 4 * u) = C 26 u + 1 ∧ A 3 (34 + 4 * u + 1) = C 24 u ∧ A 3 (34 + 4 * u + 2) = C 25 u ∧ A 3 (34 + 4 * u + 3) = C 5 u) ∧ ((∃ i, i < nr ∧ C 24 u = nI i) ∧ ∃ i, i < nr ∧ C 25 u = nI i) ∧ ((C 26 u = -1 ∧ ∃ k, k < 10 ∧ C 5 u = nI k) ∨ ((∃ t, t < 5 ∧ C 26 u = nI t) ∧ C 28 u = C 5 u ∧ C 29 u = C 5 u))
section QD
variable {A C : Nat → Nat → Int32} {nr nu p0 p1 p2 p3 p4 : Nat} {v0 v1 v2 v3 v4 li da fx : Int32}
theorem q4_at (x : Nat) : up2 (up2 (up2 (up2 A 3 p0 v0) 3 p1 v1) 3 p2 v2) 3 p3 v3 3 x = if x = p3 then v3 else if x = p2 then v2 else if x = p1 then v1 else if x = p0 then v0 else A 3 x := by
  simp only [up2_at, true_and]
theorem q5_at (x : Nat) : up2 (up2 (up2 (up2 (up2 A 3 p0 v0) 3 p1 v1) 3 p2 v2) 3 p3 v3) 3 p4 v4 3 x = if x = p4 then v4 else if x = p3 then v3 else if x = p2 then v2 else if x = p1 then v1 else if x = p0 then v0 else A 3 x := by
  simp only [up2_at, true_and]
theorem cAdR_at (a b : Nat) : cAdR C 1 nr li da fx a b = if a = 23 ∧ b = nr then vp_nar .boolean fx else if a = 22 ∧ b = nr then da else if a = 21 ∧ b = nr then li else C a b := by
  unfold cAdR
  rw [up2_at, up2_at, up2_at]
  rfl
theorem cAdU_at (a b : Nat) : cAdU C 1 nu v0 v1 v2 v3 a b = if a = 29 ∧ b = nu then v3 else if a = 28 ∧ b = nu then v3 else if a = 26 ∧ b = nu then v2 else if a = 25 ∧ b = nu then v1 else if a = 24 ∧ b = nu then v0 else C a b := by
  unfold cAdU
  rw [up2_at, up2_at, up2_at, up2_at, up2_at]
  rfl
theorem cAdR_r {a : Nat} (h : ¬ (a = 21 ∨ a = 22 ∨ a = 23)) : cAdR C 1 nr li da fx a = C a := by
  funext b
  rw [cAdR_at, if_neg (fun q => h (by omega)), if_neg (fun q => h (by omega)), if_neg (fun q => h (by omega))]
theorem cAdU_r {a : Nat} (h : ¬ (a = 24 ∨ a = 25 ∨ a = 26 ∨ a = 28 ∨ a = 29)) : cAdU C 1 nu v0 v1 v2 v3 a = C a := by
  funext b
  rw [cAdU_at, if_neg (fun q => h (by omega)), if_neg (fun q => h (by omega)), if_neg (fun q => h (by omega)), if_neg (fun q => h (by omega)), if_neg (fun q => h (by omega))]
theorem qD_role {b : Bool} (hD : qD nr nu C A) (hn : nr < 10) (hl : vC li) (hd : vC da) : qD (nr + 1) nu (cAdR C 1 nr li da (bI b)) (up2 (up2 (up2 (up2 A 3 (4 + 3 * nr) li) 3 (4 + 3 * nr + 1) da) 3 (4 + 3 * nr + 2) (bI b)) 3 0 (nI (nr + 1))) := by
  obtain ⟨⟨h1, h2⟩, ⟨h3, h4⟩, h5, h6⟩ := hD
  refine ⟨⟨by omega, h2⟩, ⟨?_, ?_⟩, fun r hr => ?_, fun u hu => ?_⟩
  · rw [q4_at, if_pos rfl]
  · rw [q4_at, if_neg (by omega), if_neg (by omega), if_neg (by omega), if_neg (by omega)]
    exact h4
  · by_cases g : r = nr
    · subst g
      refine ⟨⟨?_, ?_, ?_⟩, ⟨?_, ?_⟩, ?_⟩
      · rw [q4_at, cAdR_at, if_neg (by omega), if_neg (by omega), if_neg (by omega), if_pos rfl, if_neg (by omega), if_neg (by omega), if_pos ⟨rfl, rfl⟩]
      · rw [q4_at, cAdR_at, if_neg (by omega), if_neg (by omega), if_pos rfl, if_neg (by omega), if_pos ⟨rfl, rfl⟩]
      · rw [q4_at, cAdR_at, if_neg (by omega), if_pos rfl, if_pos ⟨rfl, rfl⟩, nar_b]
      · rw [cAdR_at, if_neg (by omega), if_neg (by omega), if_pos ⟨rfl, rfl⟩]
        exact hl
      · rw [cAdR_at, if_neg (by omega), if_pos ⟨rfl, rfl⟩]
        exact hd
      · exact ⟨b, by rw [cAdR_at, if_pos ⟨rfl, rfl⟩, nar_b]⟩
    · have hr2 : r < nr := by omega
      have e : ∀ a, cAdR C 1 nr li da (bI b) a r = C a r := fun a => by rw [cAdR_at, if_neg (fun q => g q.2), if_neg (fun q => g q.2), if_neg (fun q => g q.2)]
      rw [q4_at, q4_at, q4_at, e, e, e, if_neg (by omega), if_neg (by omega), if_neg (by omega), if_neg (by omega), if_neg (by omega), if_neg (by omega), if_neg (by omega), if_neg (by omega), if_neg (by omega), if_neg (by omega), if_neg (by omega), if_neg (by omega)]
      exact h5 r hr2
  · rw [q4_at, q4_at, q4_at, q4_at, cAdR_r (a := 26) (by omega), cAdR_r (a := 24) (by omega), cAdR_r (a := 25) (by omega), cAdR_r (a := 5) (by omega), cAdR_r (a := 28) (by omega), cAdR_r (a := 29) (by omega)]
    rw [if_neg (by omega), if_neg (by omega), if_neg (by omega), if_neg (by omega), if_neg (by omega), if_neg (by omega), if_neg (by omega), if_neg (by omega), if_neg (by omega), if_neg (by omega), if_neg (by omega), if_neg (by omega), if_neg (by omega), if_neg (by omega), if_neg (by omega), if_neg (by omega)]
    obtain ⟨g1, ⟨⟨i, hi, g2⟩, ⟨j, hj, g3⟩⟩, g4⟩ := h6 u hu
    exact ⟨g1, ⟨⟨i, by omega, g2⟩, ⟨j, by omega, g3⟩⟩, g4⟩
end QD
/-- what the reading of a role or a rule leaves -/
def rB (I A : Nat → Nat → Int32) (T : Nat → Int32) (n : Nat) (P : Ps) (J B : Nat → Nat → Int32) : Prop := (mW J B T n P.2.2.2.2 ∧ rP I J) ∧ (∀ a, a ≠ 3 → B a = A a) ∧ (∀ b, (b = 2 ∨ b = 3) ∨ 82 ≤ b → B 3 b = A 3 b) ∧ (P.2.2.2.2.1 = 0 → qD P.1 P.2.1 P.2.2.2.1 B)
theorem rB_bad {I A J : Nat → Nat → Int32} {T : Nat → Int32} {n : Nat} {P : Ps} (hW : mW J A T n P.2.2.2.2) (hr : rP I J) (h : ¬ P.2.2.2.2.1 = 0) : rB I A T n P J A := ⟨⟨hW, hr⟩, fun _ _ => rfl, fun _ _ => rfl, fun g => absurd g h⟩
theorem rB_role {I A J C : Nat → Nat → Int32} {T : Nat → Int32} {n nr nu : Nat} {fp : Option Nat} {z : Tz} {li da : Int32} {b : Bool} (hW : mW J A T n (zR4 T n z)) (hr : rP I J) (hn : nr < 10) (h4 : (zR4 T n z).1 = 0) (hD : qD nr nu C A) (el : li = zRl T n z) (ed : da = zRd T n z) (hl : vC li) (hd : vC da) (eb : b = zW T n (tw 6) (zR3 T n z)) : rB I A T n (sRole T n (nr, nu, fp, C, z)) J (up2 (up2 (up2 (up2 A 3 (4 + 3 * nr) li) 3 (4 + 3 * nr + 1) da) 3 (4 + 3 * nr + 2) (bI b)) 3 0 (nI (nr + 1))) := by
  rw [sRole_y (by omega) h4]
  refine ⟨⟨mW_ext rfl hW, hr⟩, fun a ha => ?_, fun x hx => ?_, fun _ => ?_⟩
  · rw [up2_row ha, up2_row ha, up2_row ha, up2_row ha]
  · rw [q4_at, if_neg (by omega), if_neg (by omega), if_neg (by omega), if_neg (by omega)]
  · have h := qD_role (b := b) hD hn hl hd
    subst el ed eb
    exact h
theorem dk_r {x : Int32} (h : ∃ k : Nat, k < 256 ∧ x = nI k) : ∃ k : Nat, k < 256 ∧ 255 - x = nI k := by
  obtain ⟨k, hk, rfl⟩ := h
  exact ⟨255 - k, by omega, pk_sub (a := 255) (b := k) (by omega)⟩
set_option maxHeartbeats 1000000 in
set_option maxRecDepth 100000 in
theorem c_X7_readRole (l : Launch) (E : En) (I A : Nat → Nat → Int32) (K : Nat → Nat → Int64) (T : Nat → Int32) (n : Nat) (z : Tz) (C : Nat → Nat → Int32) (nr nu : Nat) (fp : Option Nat) (hE : Ev mN E) (hW : mW I A T n (zA T n z)) (h0 : z.1 = 0) (hD : qD nr nu C A) : Met l yX7_readRole (wz yX7_readRole cX7_readRole 8 none) (rmk 5 0 0 115) (va_Pc [.ref (eP E 0), .int (nI (tkB T n z.2))] (Bw mN E mK (I, A, K))) (qWv mN E mK (fun uu => ∃ J B, rB I A T n (sRole T n (nr, nu, fp, C, z)) J B ∧ uu = (J, B, K))) 0 0 (cA mN E) := by
  refine en_ofW RX7 rfl (by decide +kernel) (Nat.le_of_ble_eq_true rfl) ?_
  intro p e s m below meth c ls S hr hlk hnm hl hB
  have hx := S.1
  have hb := S.2.1
  obtain ⟨hK, hC, hP⟩ := hB
  have hS : va_S (cA mN E) s.heap s.heap [] := va_S.rf
  have hl : lv_has ls 8 [(0, .ref (eP E 0)), (1, .int (nI (tkB T n z.2)))] := hl
  obtain ⟨⟨hn3, hTT, hzn⟩, h5c, h5p, h5e⟩ := id hW
  obtain ⟨⟨hd1, hd2⟩, ⟨hd3, hd4⟩, hd5, hd6⟩ := id hD
  refine lv_aload_n hx hb dX7_readRole_0 rfl (lv_at hl 0 rfl) ?_
  refine rw_getr (x := (I, A, K)) S hK hP 0 (by decide) rfl fk_X7_20 rfl dX7_readRole_1 ?_
  refine lv_iconst (v := 0) hx hb dX7_readRole_4 (by decide) ?_
  refine rw_iald (x := (I, A, K)) (v := nI nr) S hK hP 3 (by decide) rfl 0 rfl (by decide) (by decide) hd3 dX7_readRole_5 ?_
  refine lv_bipush (v := 10) hx hb dX7_readRole_6 (by decide) ?_
  refine lv_icmp_ne (tgt := 18) hx hb dX7_readRole_8 (by decide) (fun h8 => ?_) (fun h8 => ?_)
  · have hnr : nr < 10 := (Nat.lt_or_ge nr 10).elim id (fun g => absurd (show nI nr = (10 : Int32) by rw [show nr = 10 by omega]; rfl) h8)
    refine lv_aload_n hx hb dX7_readRole_18 rfl (lv_at hl 0 rfl) ?_
    refine lv_iconst (v := 0) hx hb dX7_readRole_19 (by decide) ?_
    refine lv_sipush (v := 255) hx hb dX7_readRole_20 (by decide) ?_
    refine cn_wi (ck_V (a := eP E 0) S lk_X7_113 (c_X7_number l E I A K T n (zA T n z) 0 255 hE hW) ⟨rfl, rfl⟩ ⟨Nat.le_of_ble_eq_true rfl, Nat.le_of_ble_eq_true rfl⟩ bl_w (rc_w hK hP 0 (by decide) rfl rfl) (bw_U hE hK hC hP hS) rfl hl.1 (Nat.le_of_ble_eq_true rfl) ⟨Nat.le_refl _, Nat.le_refl _⟩ dX7_readRole_23 rfl) hS (fun r1 u2 H locs g3 hP hS => ?_)
    obtain ⟨J4, hW4, hp4, hn4, hv4, rfl⟩ : ∃ oj, mW oj A T n (zNz T n 0 255 (zA T n z)) ∧ rP I oj ∧ (zN T n (zA T n z) = true → oj 0 12 = nI (tkB T n (zA T n z).2)) ∧ ((zNz T n 0 255 (zA T n z)).1 = 0 → r1 = zNv T n 0 255 (zA T n z)) ∧ u2 = (oj, A, K) := g3
    have hP : Wp mN E mK (J4, A, K) H := hP
    have hr4 := rP_tr rP_rf hp4
    have hW4 : mW J4 A T n (zC1 T n (zA T n z)) := hW4
    refine lv_istore_n (lv' := [(2, .int r1), (0, .ref (eP E 0)), (1, .int (nI (tkB T n z.2)))]) hx hb dX7_readRole_26 rfl hl (by decide) rfl (fun ls hl => ?_)
    refine lv_aload_n hx hb dX7_readRole_27 rfl (lv_at hl 1 rfl) ?_
    refine lv_iconst (v := 0) hx hb dX7_readRole_28 (by decide) ?_
    refine lv_sipush (v := 255) hx hb dX7_readRole_29 (by decide) ?_
    refine cn_wi (ck_V (a := eP E 0) S lk_X7_113 (c_X7_number l E J4 A K T n (zC1 T n (zA T n z)) 0 255 hE hW4) ⟨rfl, rfl⟩ ⟨Nat.le_of_ble_eq_true rfl, Nat.le_of_ble_eq_true rfl⟩ bl_w (rc_w hK hP 0 (by decide) rfl rfl) (bw_U hE hK hC hP hS) rfl hl.1 (Nat.le_of_ble_eq_true rfl) ⟨Nat.le_refl _, Nat.le_refl _⟩ dX7_readRole_32 rfl) hS (fun r5 u6 H locs g7 hP hS => ?_)
    obtain ⟨J8, hW8, hp8, hn8, hv8, rfl⟩ : ∃ oj, mW oj A T n (zNz T n 0 255 (zC1 T n (zA T n z))) ∧ rP J4 oj ∧ (zN T n (zC1 T n (zA T n z)) = true → oj 0 12 = nI (tkB T n (zC1 T n (zA T n z)).2)) ∧ ((zNz T n 0 255 (zC1 T n (zA T n z))).1 = 0 → r5 = zNv T n 0 255 (zC1 T n (zA T n z))) ∧ u6 = (oj, A, K) := g7
    have hP : Wp mN E mK (J8, A, K) H := hP
    have hr8 := rP_tr hr4 hp8
    have hW8 : mW J8 A T n (zC2 T n (zA T n z)) := hW8
    refine lv_istore_n (lv' := [(3, .int r5), (2, .int r1), (0, .ref (eP E 0)), (1, .int (nI (tkB T n z.2)))]) hx hb dX7_readRole_35 rfl hl (by decide) rfl (fun ls hl => ?_)
    refine lv_aload_n hx hb dX7_readRole_36 rfl (lv_at hl 2 rfl) ?_
    refine lv_iconst (v := 0) hx hb dX7_readRole_37 (by decide) ?_
    refine lv_sipush (v := 255) hx hb dX7_readRole_38 (by decide) ?_
    refine cn_wi (ck_V (a := eP E 0) S lk_X7_113 (c_X7_number l E J8 A K T n (zC2 T n (zA T n z)) 0 255 hE hW8) ⟨rfl, rfl⟩ ⟨Nat.le_of_ble_eq_true rfl, Nat.le_of_ble_eq_true rfl⟩ bl_w (rc_w hK hP 0 (by decide) rfl rfl) (bw_U hE hK hC hP hS) rfl hl.1 (Nat.le_of_ble_eq_true rfl) ⟨Nat.le_refl _, Nat.le_refl _⟩ dX7_readRole_41 rfl) hS (fun r9 u10 H locs g11 hP hS => ?_)
    obtain ⟨J12, hW12, hp12, hn12, hv12, rfl⟩ : ∃ oj, mW oj A T n (zNz T n 0 255 (zC2 T n (zA T n z))) ∧ rP J8 oj ∧ (zN T n (zC2 T n (zA T n z)) = true → oj 0 12 = nI (tkB T n (zC2 T n (zA T n z)).2)) ∧ ((zNz T n 0 255 (zC2 T n (zA T n z))).1 = 0 → r9 = zNv T n 0 255 (zC2 T n (zA T n z))) ∧ u10 = (oj, A, K) := g11
    have hP : Wp mN E mK (J12, A, K) H := hP
    have hr12 := rP_tr hr8 hp12
    have hW12 : mW J12 A T n (zR2 T n z) := hW12
    refine lv_istore (lv' := [(4, .int r9), (3, .int r5), (2, .int r1), (0, .ref (eP E 0)), (1, .int (nI (tkB T n z.2)))]) hx hb dX7_readRole_44 hl (by decide) rfl (fun ls hl => ?_)
    refine lv_sipush (v := 255) hx hb dX7_readRole_46 (by decide) ?_
    refine lv_iload_n hx hb dX7_readRole_49 rfl (lv_at hl 2 rfl) ?_
    refine lv_isub hx hb dX7_readRole_50 ?_
    refine lv_sipush (v := 255) hx hb dX7_readRole_51 (by decide) ?_
    refine lv_iload_n hx hb dX7_readRole_54 rfl (lv_at hl 1 rfl) ?_
    refine lv_isub hx hb dX7_readRole_55 ?_
    refine lv_sipush (v := 255) hx hb dX7_readRole_56 (by decide) ?_
    refine lv_iload hx hb dX7_readRole_59 (lv_at hl 0 rfl) ?_
    refine lv_isub hx hb dX7_readRole_61 ?_
    refine cn_si (ck_S S lk_X7_128 (c_X7_mixed l (255 - r1) (255 - r5) (255 - r9)) ⟨rfl, rfl⟩ ⟨Nat.le_of_ble_eq_true rfl, Nat.le_of_ble_eq_true rfl⟩ bl_T t_U rfl hl.1 (Nat.le_of_ble_eq_true rfl) ⟨Nat.le_refl _, Nat.le_refl _⟩ dX7_readRole_62 rfl) (fun r13 g14 => ?_)
    obtain rfl : r13 = pMix (255 - r1) (255 - r5) (255 - r9) := g14
    refine lv_istore (lv' := [(5, .int (pMix (255 - r1) (255 - r5) (255 - r9))), (4, .int r9), (3, .int r5), (2, .int r1), (0, .ref (eP E 0)), (1, .int (nI (tkB T n z.2)))]) hx hb dX7_readRole_65 hl (by decide) rfl (fun ls hl => ?_)
    refine lv_aload_n hx hb dX7_readRole_67 rfl (lv_at hl 4 rfl) ?_
    refine va_ldcS (q := eS E 14) (tx := "dark") hx hb S.2.2.2.1 (tr_14 hC.1.2.1) dX7_readRole_68 ?_
    refine cn_wi (ck_V (a := eP E 0) S lk_X7_107 (c_X7_takeWord l E J12 A K T n (zR2 T n z) 14 hE hW12 (by decide)) ⟨rfl, rfl⟩ ⟨Nat.le_of_ble_eq_true rfl, Nat.le_of_ble_eq_true rfl⟩ bl_w (rc_w hK hP 0 (by decide) rfl rfl) (bw_U hE hK hC hP hS) rfl hl.1 (Nat.le_of_ble_eq_true rfl) ⟨Nat.le_refl _, Nat.le_refl _⟩ dX7_readRole_70 rfl) hS (fun r15 u16 H locs g17 hP hS => ?_)
    obtain ⟨rfl, J18, hW18, hp18, rfl⟩ : r15 = bI (zW T n (tw 14) (zR2 T n z)) ∧ (∃ oj, mW oj A T n (zPW T n (tw 14) (zR2 T n z)) ∧ rP J12 oj ∧ u16 = (oj, A, K)) := g17
    have hP : Wp mN E mK (J18, A, K) H := hP
    have hr18 := rP_tr hr12 hp18
    rw [tw_14] at hW18
    refine tp_i (y := (bI (zW T n (tw 5) (zR2 T n z)))) (by rw [tw_14]) ?_
    refine lv_if_eq (tgt := 113) hx hb dX7_readRole_73 (by decide) (fun h73 => ?_) (fun h73 => ?_)
    · have q5 : zW T n (tw 5) (zR2 T n z) = false := bI_f h73
      have e3 : zR3 T n z = (zR2 T n z) := if_neg (ne_t q5)
      rw [zPW_f q5] at hW18
      refine lv_aload_n hx hb dX7_readRole_113 rfl (lv_at hl 4 rfl) ?_
      refine va_ldcS (q := eS E 15) (tx := "fixed") hx hb S.2.2.2.1 (tr_15 hC.1.2.1) dX7_readRole_114 ?_
      refine cn_wi (ck_V (a := eP E 0) S lk_X7_107 (c_X7_takeWord l E J18 A K T n (zR2 T n z) 15 hE hW18 (by decide)) ⟨rfl, rfl⟩ ⟨Nat.le_of_ble_eq_true rfl, Nat.le_of_ble_eq_true rfl⟩ bl_w (rc_w hK hP 0 (by decide) rfl rfl) (bw_U hE hK hC hP hS) rfl hl.1 (Nat.le_of_ble_eq_true rfl) ⟨Nat.le_refl _, Nat.le_refl _⟩ dX7_readRole_116 rfl) hS (fun r19 u20 H locs g21 hP hS => ?_)
      obtain ⟨rfl, J22, hW22, hp22, rfl⟩ : r19 = bI (zW T n (tw 15) (zR2 T n z)) ∧ (∃ oj, mW oj A T n (zPW T n (tw 15) (zR2 T n z)) ∧ rP J18 oj ∧ u20 = (oj, A, K)) := g21
      have hP : Wp mN E mK (J22, A, K) H := hP
      have hr22 := rP_tr hr18 hp22
      rw [tw_15] at hW22
      refine tp_i (y := (bI (zW T n (tw 6) (zR2 T n z)))) (by rw [tw_15]) ?_
      refine lv_istore (lv' := [(6, .int (bI (zW T n (tw 6) (zR2 T n z)))), (5, .int (pMix (255 - r1) (255 - r5) (255 - r9))), (4, .int r9), (3, .int r5), (2, .int r1), (0, .ref (eP E 0)), (1, .int (nI (tkB T n z.2)))]) hx hb dX7_readRole_119 hl (by decide) rfl (fun ls hl => ?_)
      refine lv_aload_n hx hb dX7_readRole_121 rfl (lv_at hl 5 rfl) ?_
      refine cn_si (ck_V (a := eP E 0) S lk_X7_62 (c_X7_isGood l E J22 A K hE) ⟨rfl, rfl⟩ ⟨Nat.le_of_ble_eq_true rfl, Nat.le_of_ble_eq_true rfl⟩ bl_w (rc_w hK hP 0 (by decide) rfl rfl) (bw_U hE hK hC hP hS) rfl hl.1 (Nat.le_of_ble_eq_true rfl) ⟨Nat.le_refl _, Nat.le_refl _⟩ dX7_readRole_122 rfl) (fun r23 g24 => ?_)
      obtain rfl : r23 = bI (decide (J22 0 5 = 0)) := g24
      refine lv_if_ne (tgt := 129) hx hb dX7_readRole_125 (by decide) (fun h125 => ?_) (fun h125 => ?_)
      · have hz4 : (zR4 T n z).1 = 0 := by rw [show zR4 T n z = zPW T n (tw 6) (zR3 T n z) from rfl, e3]; exact hW22.2.1.symm.trans (of_decide_eq_true (bI_t h125))
        have hz3 : (zR3 T n z).1 = 0 := zMo_PW hz4
        have g4 : (zNz T n 0 255 (zC2 T n (zA T n z))).1 = 0 := by rw [e3] at hz3; exact hz3
        have g3 : (zNz T n 0 255 (zC1 T n (zA T n z))).1 = 0 := zMo_NN g4
        have g2 : (zNz T n 0 255 (zA T n z)).1 = 0 := zMo_NN g3
        obtain rfl : r1 = (zNv T n 0 255 (zA T n z)) := hv4 g2
        obtain rfl : r5 = (zNv T n 0 255 (zC1 T n (zA T n z))) := hv8 g3
        obtain rfl : r9 = (zNv T n 0 255 (zC2 T n (zA T n z))) := hv12 g4
        refine lv_aload_n hx hb dX7_readRole_129 rfl (lv_at hl 5 rfl) ?_
        refine rw_getr (x := (J22, A, K)) S hK hP 0 (by decide) rfl fk_X7_20 rfl dX7_readRole_130 ?_
        refine lv_iconst (v := 0) hx hb dX7_readRole_133 (by decide) ?_
        refine rw_iald (x := (J22, A, K)) (v := nI nr) S hK hP 3 (by decide) rfl 0 rfl (by decide) (by decide) hd3 dX7_readRole_134 ?_
        refine cn_si (ck_S S lk_X7_136 (c_X7_roleN l nr) ⟨rfl, rfl⟩ ⟨Nat.le_of_ble_eq_true rfl, Nat.le_of_ble_eq_true rfl⟩ bl_T t_U rfl hl.1 (Nat.le_of_ble_eq_true rfl) ⟨Nat.le_refl _, Nat.le_refl _⟩ dX7_readRole_135 rfl) (fun r25 g26 => ?_)
        obtain rfl : r25 = nI (4 + 3 * nr) := g26
        refine lv_istore (lv' := [(7, .int (nI (4 + 3 * nr))), (6, .int (bI (zW T n (tw 6) (zR2 T n z)))), (5, .int (pMix (255 - (zNv T n 0 255 (zA T n z))) (255 - (zNv T n 0 255 (zC1 T n (zA T n z)))) (255 - (zNv T n 0 255 (zC2 T n (zA T n z)))))), (4, .int (zNv T n 0 255 (zC2 T n (zA T n z)))), (3, .int (zNv T n 0 255 (zC1 T n (zA T n z)))), (2, .int (zNv T n 0 255 (zA T n z))), (0, .ref (eP E 0)), (1, .int (nI (tkB T n z.2)))]) hx hb dX7_readRole_138 hl (by decide) rfl (fun ls hl => ?_)
        refine lv_aload_n hx hb dX7_readRole_140 rfl (lv_at hl 6 rfl) ?_
        refine rw_getr (x := (J22, A, K)) S hK hP 0 (by decide) rfl fk_X7_20 rfl dX7_readRole_141 ?_
        refine lv_iload hx hb dX7_readRole_144 (lv_at hl 0 rfl) ?_
        refine lv_iload_n hx hb dX7_readRole_146 rfl (lv_at hl 5 rfl) ?_
        refine lv_iload_n hx hb dX7_readRole_147 rfl (lv_at hl 4 rfl) ?_
        refine lv_iload hx hb dX7_readRole_148 (lv_at hl 3 rfl) ?_
        refine cn_si (ck_S S lk_X7_128 (c_X7_mixed l (zNv T n 0 255 (zA T n z)) (zNv T n 0 255 (zC1 T n (zA T n z))) (zNv T n 0 255 (zC2 T n (zA T n z)))) ⟨rfl, rfl⟩ ⟨Nat.le_of_ble_eq_true rfl, Nat.le_of_ble_eq_true rfl⟩ bl_T t_U rfl hl.1 (Nat.le_of_ble_eq_true rfl) ⟨Nat.le_refl _, Nat.le_refl _⟩ dX7_readRole_150 rfl) (fun r27 g28 => ?_)
        obtain rfl : r27 = pMix (zNv T n 0 255 (zA T n z)) (zNv T n 0 255 (zC1 T n (zA T n z))) (zNv T n 0 255 (zC2 T n (zA T n z))) := g28
        refine rw_iast (x := (J22, A, K)) (v := (pMix (zNv T n 0 255 (zA T n z)) (zNv T n 0 255 (zC1 T n (zA T n z))) (zNv T n 0 255 (zC2 T n (zA T n z))))) S hE hK hP hS 3 (by decide) rfl (4 + 3 * nr) rfl (by omega) (by decide) dX7_readRole_153 (fun H locs hP hS => ?_)
        have hP : Wp mN E mK (J22, (up2 A 3 (4 + 3 * nr) (pMix (zNv T n 0 255 (zA T n z)) (zNv T n 0 255 (zC1 T n (zA T n z))) (zNv T n 0 255 (zC2 T n (zA T n z))))), K) H := hP
        refine lv_aload_n hx hb dX7_readRole_154 rfl (lv_at hl 6 rfl) ?_
        refine rw_getr (x := (J22, (up2 A 3 (4 + 3 * nr) (pMix (zNv T n 0 255 (zA T n z)) (zNv T n 0 255 (zC1 T n (zA T n z))) (zNv T n 0 255 (zC2 T n (zA T n z))))), K)) S hK hP 0 (by decide) rfl fk_X7_20 rfl dX7_readRole_155 ?_
        refine lv_iload hx hb dX7_readRole_158 (lv_at hl 0 rfl) ?_
        refine lv_iconst (v := 1) hx hb dX7_readRole_160 (by decide) ?_
        refine lv_iadd hx hb dX7_readRole_161 ?_
        refine tp_i (y := nI ((4 + 3 * nr) + 1)) (nI_add (4 + 3 * nr) 1) ?_
        refine lv_iload hx hb dX7_readRole_162 (lv_at hl 2 rfl) ?_
        refine rw_iast (x := (J22, (up2 A 3 (4 + 3 * nr) (pMix (zNv T n 0 255 (zA T n z)) (zNv T n 0 255 (zC1 T n (zA T n z))) (zNv T n 0 255 (zC2 T n (zA T n z))))), K)) (v := (pMix (255 - (zNv T n 0 255 (zA T n z))) (255 - (zNv T n 0 255 (zC1 T n (zA T n z)))) (255 - (zNv T n 0 255 (zC2 T n (zA T n z)))))) S hE hK hP hS 3 (by decide) rfl ((4 + 3 * nr) + 1) rfl (by omega) (by decide) dX7_readRole_164 (fun H locs hP hS => ?_)
        have hP : Wp mN E mK (J22, (up2 (up2 A 3 (4 + 3 * nr) (pMix (zNv T n 0 255 (zA T n z)) (zNv T n 0 255 (zC1 T n (zA T n z))) (zNv T n 0 255 (zC2 T n (zA T n z))))) 3 ((4 + 3 * nr) + 1) (pMix (255 - (zNv T n 0 255 (zA T n z))) (255 - (zNv T n 0 255 (zC1 T n (zA T n z)))) (255 - (zNv T n 0 255 (zC2 T n (zA T n z)))))), K) H := hP
        refine lv_aload_n hx hb dX7_readRole_165 rfl (lv_at hl 6 rfl) ?_
        refine rw_getr (x := (J22, (up2 (up2 A 3 (4 + 3 * nr) (pMix (zNv T n 0 255 (zA T n z)) (zNv T n 0 255 (zC1 T n (zA T n z))) (zNv T n 0 255 (zC2 T n (zA T n z))))) 3 ((4 + 3 * nr) + 1) (pMix (255 - (zNv T n 0 255 (zA T n z))) (255 - (zNv T n 0 255 (zC1 T n (zA T n z)))) (255 - (zNv T n 0 255 (zC2 T n (zA T n z)))))), K)) S hK hP 0 (by decide) rfl fk_X7_20 rfl dX7_readRole_166 ?_
        refine lv_iload hx hb dX7_readRole_169 (lv_at hl 0 rfl) ?_
        refine lv_iconst (v := 2) hx hb dX7_readRole_171 (by decide) ?_
        refine lv_iadd hx hb dX7_readRole_172 ?_
        refine tp_i (y := nI ((4 + 3 * nr) + 2)) (nI_add (4 + 3 * nr) 2) ?_
        refine lv_iload hx hb dX7_readRole_173 (lv_at hl 1 rfl) ?_
        refine lv_if_eq (tgt := 182) hx hb dX7_readRole_175 (by decide) (fun h175 => ?_) (fun h175 => ?_)
        · refine lv_iconst (v := 0) hx hb dX7_readRole_182 (by decide) ?_
          refine rw_iast (x := (J22, (up2 (up2 A 3 (4 + 3 * nr) (pMix (zNv T n 0 255 (zA T n z)) (zNv T n 0 255 (zC1 T n (zA T n z))) (zNv T n 0 255 (zC2 T n (zA T n z))))) 3 ((4 + 3 * nr) + 1) (pMix (255 - (zNv T n 0 255 (zA T n z))) (255 - (zNv T n 0 255 (zC1 T n (zA T n z)))) (255 - (zNv T n 0 255 (zC2 T n (zA T n z)))))), K)) (v := 0) S hE hK hP hS 3 (by decide) rfl ((4 + 3 * nr) + 2) rfl (by omega) (by decide) dX7_readRole_183 (fun H locs hP hS => ?_)
          have hP : Wp mN E mK (J22, (up2 (up2 (up2 A 3 (4 + 3 * nr) (pMix (zNv T n 0 255 (zA T n z)) (zNv T n 0 255 (zC1 T n (zA T n z))) (zNv T n 0 255 (zC2 T n (zA T n z))))) 3 ((4 + 3 * nr) + 1) (pMix (255 - (zNv T n 0 255 (zA T n z))) (255 - (zNv T n 0 255 (zC1 T n (zA T n z)))) (255 - (zNv T n 0 255 (zC2 T n (zA T n z)))))) 3 ((4 + 3 * nr) + 2) 0), K) H := hP
          refine lv_aload_n hx hb dX7_readRole_184 rfl (lv_at hl 6 rfl) ?_
          refine rw_getr (x := (J22, (up2 (up2 (up2 A 3 (4 + 3 * nr) (pMix (zNv T n 0 255 (zA T n z)) (zNv T n 0 255 (zC1 T n (zA T n z))) (zNv T n 0 255 (zC2 T n (zA T n z))))) 3 ((4 + 3 * nr) + 1) (pMix (255 - (zNv T n 0 255 (zA T n z))) (255 - (zNv T n 0 255 (zC1 T n (zA T n z)))) (255 - (zNv T n 0 255 (zC2 T n (zA T n z)))))) 3 ((4 + 3 * nr) + 2) 0), K)) S hK hP 0 (by decide) rfl fk_X7_20 rfl dX7_readRole_185 ?_
          refine lv_iconst (v := 0) hx hb dX7_readRole_188 (by decide) ?_
          refine lv_dup2_11 hx hb dX7_readRole_189 rfl rfl ?_
          refine rw_iald (x := (J22, (up2 (up2 (up2 A 3 (4 + 3 * nr) (pMix (zNv T n 0 255 (zA T n z)) (zNv T n 0 255 (zC1 T n (zA T n z))) (zNv T n 0 255 (zC2 T n (zA T n z))))) 3 ((4 + 3 * nr) + 1) (pMix (255 - (zNv T n 0 255 (zA T n z))) (255 - (zNv T n 0 255 (zC1 T n (zA T n z)))) (255 - (zNv T n 0 255 (zC2 T n (zA T n z)))))) 3 ((4 + 3 * nr) + 2) 0), K)) (v := nI nr) S hK hP 3 (by decide) rfl 0 rfl (by decide) (by decide) ((up2_j (by omega)).trans ((up2_j (by omega)).trans ((up2_j (by omega)).trans hd3))) dX7_readRole_190 ?_
          refine lv_iconst (v := 1) hx hb dX7_readRole_191 (by decide) ?_
          refine lv_iadd hx hb dX7_readRole_192 ?_
          refine tp_i (y := nI (nr + 1)) (nI_add nr 1) ?_
          refine rw_iast (x := (J22, (up2 (up2 (up2 A 3 (4 + 3 * nr) (pMix (zNv T n 0 255 (zA T n z)) (zNv T n 0 255 (zC1 T n (zA T n z))) (zNv T n 0 255 (zC2 T n (zA T n z))))) 3 ((4 + 3 * nr) + 1) (pMix (255 - (zNv T n 0 255 (zA T n z))) (255 - (zNv T n 0 255 (zC1 T n (zA T n z)))) (255 - (zNv T n 0 255 (zC2 T n (zA T n z)))))) 3 ((4 + 3 * nr) + 2) 0), K)) (v := (nI (nr + 1))) S hE hK hP hS 3 (by decide) rfl 0 rfl (by decide) (by decide) dX7_readRole_193 (fun H locs hP hS => ?_)
          have hP : Wp mN E mK (J22, (up2 (up2 (up2 (up2 A 3 (4 + 3 * nr) (pMix (zNv T n 0 255 (zA T n z)) (zNv T n 0 255 (zC1 T n (zA T n z))) (zNv T n 0 255 (zC2 T n (zA T n z))))) 3 ((4 + 3 * nr) + 1) (pMix (255 - (zNv T n 0 255 (zA T n z))) (255 - (zNv T n 0 255 (zC1 T n (zA T n z)))) (255 - (zNv T n 0 255 (zC2 T n (zA T n z)))))) 3 ((4 + 3 * nr) + 2) 0) 3 0 (nI (nr + 1))), K) H := hP
          exact re_wv (x := (J22, (up2 (up2 (up2 (up2 A 3 (4 + 3 * nr) (pMix (zNv T n 0 255 (zA T n z)) (zNv T n 0 255 (zC1 T n (zA T n z))) (zNv T n 0 255 (zC2 T n (zA T n z))))) 3 ((4 + 3 * nr) + 1) (pMix (255 - (zNv T n 0 255 (zA T n z))) (255 - (zNv T n 0 255 (zC1 T n (zA T n z)))) (255 - (zNv T n 0 255 (zC2 T n (zA T n z)))))) 3 ((4 + 3 * nr) + 2) 0) 3 0 (nI (nr + 1))), K)) hx hb hr hlk hP hS ⟨_, _, rB_role (b := false) (by show mW _ A T n (zPW T n (tw 6) (zR3 T n z)); rw [e3]; exact hW22) hr22 hnr hz4 hD rfl (by unfold zRd; rw [if_neg (ne_t q5)]; exact dark_eq zNv_r zNv_r zNv_r) vC_cv (vC_mix (dk_r zNv_r) (dk_r zNv_r) (dk_r zNv_r)) (by rw [e3]; exact (bI_f h175).symm), rfl⟩ dX7_readRole_194
        · refine lv_iconst (v := 1) hx hb dX7_readRole_178 (by decide) ?_
          refine lv_goto (tgt := 183) hx hb dX7_readRole_179 (by decide) ?_
          refine rw_iast (x := (J22, (up2 (up2 A 3 (4 + 3 * nr) (pMix (zNv T n 0 255 (zA T n z)) (zNv T n 0 255 (zC1 T n (zA T n z))) (zNv T n 0 255 (zC2 T n (zA T n z))))) 3 ((4 + 3 * nr) + 1) (pMix (255 - (zNv T n 0 255 (zA T n z))) (255 - (zNv T n 0 255 (zC1 T n (zA T n z)))) (255 - (zNv T n 0 255 (zC2 T n (zA T n z)))))), K)) (v := 1) S hE hK hP hS 3 (by decide) rfl ((4 + 3 * nr) + 2) rfl (by omega) (by decide) dX7_readRole_183 (fun H locs hP hS => ?_)
          have hP : Wp mN E mK (J22, (up2 (up2 (up2 A 3 (4 + 3 * nr) (pMix (zNv T n 0 255 (zA T n z)) (zNv T n 0 255 (zC1 T n (zA T n z))) (zNv T n 0 255 (zC2 T n (zA T n z))))) 3 ((4 + 3 * nr) + 1) (pMix (255 - (zNv T n 0 255 (zA T n z))) (255 - (zNv T n 0 255 (zC1 T n (zA T n z)))) (255 - (zNv T n 0 255 (zC2 T n (zA T n z)))))) 3 ((4 + 3 * nr) + 2) 1), K) H := hP
          refine lv_aload_n hx hb dX7_readRole_184 rfl (lv_at hl 6 rfl) ?_
          refine rw_getr (x := (J22, (up2 (up2 (up2 A 3 (4 + 3 * nr) (pMix (zNv T n 0 255 (zA T n z)) (zNv T n 0 255 (zC1 T n (zA T n z))) (zNv T n 0 255 (zC2 T n (zA T n z))))) 3 ((4 + 3 * nr) + 1) (pMix (255 - (zNv T n 0 255 (zA T n z))) (255 - (zNv T n 0 255 (zC1 T n (zA T n z)))) (255 - (zNv T n 0 255 (zC2 T n (zA T n z)))))) 3 ((4 + 3 * nr) + 2) 1), K)) S hK hP 0 (by decide) rfl fk_X7_20 rfl dX7_readRole_185 ?_
          refine lv_iconst (v := 0) hx hb dX7_readRole_188 (by decide) ?_
          refine lv_dup2_11 hx hb dX7_readRole_189 rfl rfl ?_
          refine rw_iald (x := (J22, (up2 (up2 (up2 A 3 (4 + 3 * nr) (pMix (zNv T n 0 255 (zA T n z)) (zNv T n 0 255 (zC1 T n (zA T n z))) (zNv T n 0 255 (zC2 T n (zA T n z))))) 3 ((4 + 3 * nr) + 1) (pMix (255 - (zNv T n 0 255 (zA T n z))) (255 - (zNv T n 0 255 (zC1 T n (zA T n z)))) (255 - (zNv T n 0 255 (zC2 T n (zA T n z)))))) 3 ((4 + 3 * nr) + 2) 1), K)) (v := nI nr) S hK hP 3 (by decide) rfl 0 rfl (by decide) (by decide) ((up2_j (by omega)).trans ((up2_j (by omega)).trans ((up2_j (by omega)).trans hd3))) dX7_readRole_190 ?_
          refine lv_iconst (v := 1) hx hb dX7_readRole_191 (by decide) ?_
          refine lv_iadd hx hb dX7_readRole_192 ?_
          refine tp_i (y := nI (nr + 1)) (nI_add nr 1) ?_
          refine rw_iast (x := (J22, (up2 (up2 (up2 A 3 (4 + 3 * nr) (pMix (zNv T n 0 255 (zA T n z)) (zNv T n 0 255 (zC1 T n (zA T n z))) (zNv T n 0 255 (zC2 T n (zA T n z))))) 3 ((4 + 3 * nr) + 1) (pMix (255 - (zNv T n 0 255 (zA T n z))) (255 - (zNv T n 0 255 (zC1 T n (zA T n z)))) (255 - (zNv T n 0 255 (zC2 T n (zA T n z)))))) 3 ((4 + 3 * nr) + 2) 1), K)) (v := (nI (nr + 1))) S hE hK hP hS 3 (by decide) rfl 0 rfl (by decide) (by decide) dX7_readRole_193 (fun H locs hP hS => ?_)
          have hP : Wp mN E mK (J22, (up2 (up2 (up2 (up2 A 3 (4 + 3 * nr) (pMix (zNv T n 0 255 (zA T n z)) (zNv T n 0 255 (zC1 T n (zA T n z))) (zNv T n 0 255 (zC2 T n (zA T n z))))) 3 ((4 + 3 * nr) + 1) (pMix (255 - (zNv T n 0 255 (zA T n z))) (255 - (zNv T n 0 255 (zC1 T n (zA T n z)))) (255 - (zNv T n 0 255 (zC2 T n (zA T n z)))))) 3 ((4 + 3 * nr) + 2) 1) 3 0 (nI (nr + 1))), K) H := hP
          exact re_wv (x := (J22, (up2 (up2 (up2 (up2 A 3 (4 + 3 * nr) (pMix (zNv T n 0 255 (zA T n z)) (zNv T n 0 255 (zC1 T n (zA T n z))) (zNv T n 0 255 (zC2 T n (zA T n z))))) 3 ((4 + 3 * nr) + 1) (pMix (255 - (zNv T n 0 255 (zA T n z))) (255 - (zNv T n 0 255 (zC1 T n (zA T n z)))) (255 - (zNv T n 0 255 (zC2 T n (zA T n z)))))) 3 ((4 + 3 * nr) + 2) 1) 3 0 (nI (nr + 1))), K)) hx hb hr hlk hP hS ⟨_, _, rB_role (b := true) (by show mW _ A T n (zPW T n (tw 6) (zR3 T n z)); rw [e3]; exact hW22) hr22 hnr hz4 hD rfl (by unfold zRd; rw [if_neg (ne_t q5)]; exact dark_eq zNv_r zNv_r zNv_r) vC_cv (vC_mix (dk_r zNv_r) (dk_r zNv_r) (dk_r zNv_r)) (by rw [e3]; exact (bI_t h175).symm), rfl⟩ dX7_readRole_194
      · have hz4 : ¬ (zR4 T n z).1 = 0 := by rw [show zR4 T n z = zPW T n (tw 6) (zR3 T n z) from rfl, e3]; exact fun g => absurd (decide_eq_true (hW22.2.1.trans g)) (by rw [bI_f (Classical.byContradiction h125)]; decide)
        exact re_wv (x := (J22, A, K)) hx hb hr hlk hP hS ⟨_, A, (by rw [sRole_n (by omega) hz4]; exact rB_bad (P := (nr, nu, fp, C, zR4 T n z)) (by show mW _ A T n (zPW T n (tw 6) (zR3 T n z)); rw [e3]; exact hW22) hr22 hz4), rfl⟩ dX7_readRole_128
    · have q5 : zW T n (tw 5) (zR2 T n z) = true := bI_t h73
      have e3 : zR3 T n z = (zCz T n (zA T n (zR2 T n z))) := if_pos q5
      rw [zPW_t q5] at hW18
      refine lv_aload_n hx hb dX7_readRole_76 rfl (lv_at hl 4 rfl) ?_
      refine lv_iconst (v := 0) hx hb dX7_readRole_77 (by decide) ?_
      refine lv_sipush (v := 255) hx hb dX7_readRole_78 (by decide) ?_
      refine cn_wi (ck_V (a := eP E 0) S lk_X7_113 (c_X7_number l E J18 A K T n (zA T n (zR2 T n z)) 0 255 hE hW18) ⟨rfl, rfl⟩ ⟨Nat.le_of_ble_eq_true rfl, Nat.le_of_ble_eq_true rfl⟩ bl_w (rc_w hK hP 0 (by decide) rfl rfl) (bw_U hE hK hC hP hS) rfl hl.1 (Nat.le_of_ble_eq_true rfl) ⟨Nat.le_refl _, Nat.le_refl _⟩ dX7_readRole_81 rfl) hS (fun r29 u30 H locs g31 hP hS => ?_)
      obtain ⟨J32, hW32, hp32, hn32, hv32, rfl⟩ : ∃ oj, mW oj A T n (zNz T n 0 255 (zA T n (zR2 T n z))) ∧ rP J18 oj ∧ (zN T n (zA T n (zR2 T n z)) = true → oj 0 12 = nI (tkB T n (zA T n (zR2 T n z)).2)) ∧ ((zNz T n 0 255 (zA T n (zR2 T n z))).1 = 0 → r29 = zNv T n 0 255 (zA T n (zR2 T n z))) ∧ u30 = (oj, A, K) := g31
      have hP : Wp mN E mK (J32, A, K) H := hP
      have hr32 := rP_tr hr18 hp32
      have hW32 : mW J32 A T n (zC1 T n (zA T n (zR2 T n z))) := hW32
      refine lv_istore (lv' := [(6, .int r29), (5, .int (pMix (255 - r1) (255 - r5) (255 - r9))), (4, .int r9), (3, .int r5), (2, .int r1), (0, .ref (eP E 0)), (1, .int (nI (tkB T n z.2)))]) hx hb dX7_readRole_84 hl (by decide) rfl (fun ls hl => ?_)
      refine lv_aload_n hx hb dX7_readRole_86 rfl (lv_at hl 5 rfl) ?_
      refine lv_iconst (v := 0) hx hb dX7_readRole_87 (by decide) ?_
      refine lv_sipush (v := 255) hx hb dX7_readRole_88 (by decide) ?_
      refine cn_wi (ck_V (a := eP E 0) S lk_X7_113 (c_X7_number l E J32 A K T n (zC1 T n (zA T n (zR2 T n z))) 0 255 hE hW32) ⟨rfl, rfl⟩ ⟨Nat.le_of_ble_eq_true rfl, Nat.le_of_ble_eq_true rfl⟩ bl_w (rc_w hK hP 0 (by decide) rfl rfl) (bw_U hE hK hC hP hS) rfl hl.1 (Nat.le_of_ble_eq_true rfl) ⟨Nat.le_refl _, Nat.le_refl _⟩ dX7_readRole_91 rfl) hS (fun r33 u34 H locs g35 hP hS => ?_)
      obtain ⟨J36, hW36, hp36, hn36, hv36, rfl⟩ : ∃ oj, mW oj A T n (zNz T n 0 255 (zC1 T n (zA T n (zR2 T n z)))) ∧ rP J32 oj ∧ (zN T n (zC1 T n (zA T n (zR2 T n z))) = true → oj 0 12 = nI (tkB T n (zC1 T n (zA T n (zR2 T n z))).2)) ∧ ((zNz T n 0 255 (zC1 T n (zA T n (zR2 T n z)))).1 = 0 → r33 = zNv T n 0 255 (zC1 T n (zA T n (zR2 T n z)))) ∧ u34 = (oj, A, K) := g35
      have hP : Wp mN E mK (J36, A, K) H := hP
      have hr36 := rP_tr hr32 hp36
      have hW36 : mW J36 A T n (zC2 T n (zA T n (zR2 T n z))) := hW36
      refine lv_istore (lv' := [(7, .int r33), (6, .int r29), (5, .int (pMix (255 - r1) (255 - r5) (255 - r9))), (4, .int r9), (3, .int r5), (2, .int r1), (0, .ref (eP E 0)), (1, .int (nI (tkB T n z.2)))]) hx hb dX7_readRole_94 hl (by decide) rfl (fun ls hl => ?_)
      refine lv_iload hx hb dX7_readRole_96 (lv_at hl 1 rfl) ?_
      refine lv_iload hx hb dX7_readRole_98 (lv_at hl 0 rfl) ?_
      refine lv_aload_n hx hb dX7_readRole_100 rfl (lv_at hl 6 rfl) ?_
      refine lv_iconst (v := 0) hx hb dX7_readRole_101 (by decide) ?_
      refine lv_sipush (v := 255) hx hb dX7_readRole_102 (by decide) ?_
      refine cn_wi (ck_V (a := eP E 0) S lk_X7_113 (c_X7_number l E J36 A K T n (zC2 T n (zA T n (zR2 T n z))) 0 255 hE hW36) ⟨rfl, rfl⟩ ⟨Nat.le_of_ble_eq_true rfl, Nat.le_of_ble_eq_true rfl⟩ bl_w (rc_w hK hP 0 (by decide) rfl rfl) (bw_U hE hK hC hP hS) rfl hl.1 (Nat.le_of_ble_eq_true rfl) ⟨Nat.le_refl _, Nat.le_refl _⟩ dX7_readRole_105 rfl) hS (fun r37 u38 H locs g39 hP hS => ?_)
      obtain ⟨J40, hW40, hp40, hn40, hv40, rfl⟩ : ∃ oj, mW oj A T n (zNz T n 0 255 (zC2 T n (zA T n (zR2 T n z)))) ∧ rP J36 oj ∧ (zN T n (zC2 T n (zA T n (zR2 T n z))) = true → oj 0 12 = nI (tkB T n (zC2 T n (zA T n (zR2 T n z))).2)) ∧ ((zNz T n 0 255 (zC2 T n (zA T n (zR2 T n z)))).1 = 0 → r37 = zNv T n 0 255 (zC2 T n (zA T n (zR2 T n z)))) ∧ u38 = (oj, A, K) := g39
      have hP : Wp mN E mK (J40, A, K) H := hP
      have hr40 := rP_tr hr36 hp40
      have hW40 : mW J40 A T n (zCz T n (zA T n (zR2 T n z))) := hW40
      refine cn_si (ck_S S lk_X7_128 (c_X7_mixed l r29 r33 r37) ⟨rfl, rfl⟩ ⟨Nat.le_of_ble_eq_true rfl, Nat.le_of_ble_eq_true rfl⟩ bl_T t_U rfl hl.1 (Nat.le_of_ble_eq_true rfl) ⟨Nat.le_refl _, Nat.le_refl _⟩ dX7_readRole_108 rfl) (fun r41 g42 => ?_)
      obtain rfl : r41 = pMix r29 r33 r37 := g42
      refine lv_istore (lv' := [(5, .int (pMix r29 r33 r37)), (7, .int r33), (6, .int r29), (4, .int r9), (3, .int r5), (2, .int r1), (0, .ref (eP E 0)), (1, .int (nI (tkB T n z.2)))]) hx hb dX7_readRole_111 hl (by decide) rfl (fun ls hl => ?_)
      refine lv_aload_n hx hb dX7_readRole_113 rfl (lv_at hl 6 rfl) ?_
      refine va_ldcS (q := eS E 15) (tx := "fixed") hx hb S.2.2.2.1 (tr_15 hC.1.2.1) dX7_readRole_114 ?_
      refine cn_wi (ck_V (a := eP E 0) S lk_X7_107 (c_X7_takeWord l E J40 A K T n (zCz T n (zA T n (zR2 T n z))) 15 hE hW40 (by decide)) ⟨rfl, rfl⟩ ⟨Nat.le_of_ble_eq_true rfl, Nat.le_of_ble_eq_true rfl⟩ bl_w (rc_w hK hP 0 (by decide) rfl rfl) (bw_U hE hK hC hP hS) rfl hl.1 (Nat.le_of_ble_eq_true rfl) ⟨Nat.le_refl _, Nat.le_refl _⟩ dX7_readRole_116 rfl) hS (fun r43 u44 H locs g45 hP hS => ?_)
      obtain ⟨rfl, J46, hW46, hp46, rfl⟩ : r43 = bI (zW T n (tw 15) (zCz T n (zA T n (zR2 T n z)))) ∧ (∃ oj, mW oj A T n (zPW T n (tw 15) (zCz T n (zA T n (zR2 T n z)))) ∧ rP J40 oj ∧ u44 = (oj, A, K)) := g45
      have hP : Wp mN E mK (J46, A, K) H := hP
      have hr46 := rP_tr hr40 hp46
      rw [tw_15] at hW46
      refine tp_i (y := (bI (zW T n (tw 6) (zCz T n (zA T n (zR2 T n z)))))) (by rw [tw_15]) ?_
      refine lv_istore (lv' := [(6, .int (bI (zW T n (tw 6) (zCz T n (zA T n (zR2 T n z)))))), (5, .int (pMix r29 r33 r37)), (7, .int r33), (4, .int r9), (3, .int r5), (2, .int r1), (0, .ref (eP E 0)), (1, .int (nI (tkB T n z.2)))]) hx hb dX7_readRole_119 hl (by decide) rfl (fun ls hl => ?_)
      refine lv_aload_n hx hb dX7_readRole_121 rfl (lv_at hl 6 rfl) ?_
      refine cn_si (ck_V (a := eP E 0) S lk_X7_62 (c_X7_isGood l E J46 A K hE) ⟨rfl, rfl⟩ ⟨Nat.le_of_ble_eq_true rfl, Nat.le_of_ble_eq_true rfl⟩ bl_w (rc_w hK hP 0 (by decide) rfl rfl) (bw_U hE hK hC hP hS) rfl hl.1 (Nat.le_of_ble_eq_true rfl) ⟨Nat.le_refl _, Nat.le_refl _⟩ dX7_readRole_122 rfl) (fun r47 g48 => ?_)
      obtain rfl : r47 = bI (decide (J46 0 5 = 0)) := g48
      refine lv_if_ne (tgt := 129) hx hb dX7_readRole_125 (by decide) (fun h125 => ?_) (fun h125 => ?_)
      · have hz4 : (zR4 T n z).1 = 0 := by rw [show zR4 T n z = zPW T n (tw 6) (zR3 T n z) from rfl, e3]; exact hW46.2.1.symm.trans (of_decide_eq_true (bI_t h125))
        have hz3 : (zR3 T n z).1 = 0 := zMo_PW hz4
        have g8 : (zNz T n 0 255 (zC2 T n (zA T n (zR2 T n z)))).1 = 0 := by rw [e3] at hz3; exact hz3
        have g7 : (zNz T n 0 255 (zC1 T n (zA T n (zR2 T n z)))).1 = 0 := zMo_NN g8
        have g6 : (zNz T n 0 255 (zA T n (zR2 T n z))).1 = 0 := zMo_NN g7
        have g4 : (zNz T n 0 255 (zC2 T n (zA T n z))).1 = 0 := zMo_A (zMo_NN g6)
        have g3 : (zNz T n 0 255 (zC1 T n (zA T n z))).1 = 0 := zMo_NN g4
        have g2 : (zNz T n 0 255 (zA T n z)).1 = 0 := zMo_NN g3
        obtain rfl : r1 = (zNv T n 0 255 (zA T n z)) := hv4 g2
        obtain rfl : r5 = (zNv T n 0 255 (zC1 T n (zA T n z))) := hv8 g3
        obtain rfl : r9 = (zNv T n 0 255 (zC2 T n (zA T n z))) := hv12 g4
        obtain rfl : r29 = (zNv T n 0 255 (zA T n (zR2 T n z))) := hv32 g6
        obtain rfl : r33 = (zNv T n 0 255 (zC1 T n (zA T n (zR2 T n z)))) := hv36 g7
        obtain rfl : r37 = (zNv T n 0 255 (zC2 T n (zA T n (zR2 T n z)))) := hv40 g8
        refine lv_aload_n hx hb dX7_readRole_129 rfl (lv_at hl 6 rfl) ?_
        refine rw_getr (x := (J46, A, K)) S hK hP 0 (by decide) rfl fk_X7_20 rfl dX7_readRole_130 ?_
        refine lv_iconst (v := 0) hx hb dX7_readRole_133 (by decide) ?_
        refine rw_iald (x := (J46, A, K)) (v := nI nr) S hK hP 3 (by decide) rfl 0 rfl (by decide) (by decide) hd3 dX7_readRole_134 ?_
        refine cn_si (ck_S S lk_X7_136 (c_X7_roleN l nr) ⟨rfl, rfl⟩ ⟨Nat.le_of_ble_eq_true rfl, Nat.le_of_ble_eq_true rfl⟩ bl_T t_U rfl hl.1 (Nat.le_of_ble_eq_true rfl) ⟨Nat.le_refl _, Nat.le_refl _⟩ dX7_readRole_135 rfl) (fun r49 g50 => ?_)
        obtain rfl : r49 = nI (4 + 3 * nr) := g50
        refine lv_istore (lv' := [(7, .int (nI (4 + 3 * nr))), (6, .int (bI (zW T n (tw 6) (zCz T n (zA T n (zR2 T n z)))))), (5, .int (pMix (zNv T n 0 255 (zA T n (zR2 T n z))) (zNv T n 0 255 (zC1 T n (zA T n (zR2 T n z)))) (zNv T n 0 255 (zC2 T n (zA T n (zR2 T n z)))))), (4, .int (zNv T n 0 255 (zC2 T n (zA T n z)))), (3, .int (zNv T n 0 255 (zC1 T n (zA T n z)))), (2, .int (zNv T n 0 255 (zA T n z))), (0, .ref (eP E 0)), (1, .int (nI (tkB T n z.2)))]) hx hb dX7_readRole_138 hl (by decide) rfl (fun ls hl => ?_)
        refine lv_aload_n hx hb dX7_readRole_140 rfl (lv_at hl 6 rfl) ?_
        refine rw_getr (x := (J46, A, K)) S hK hP 0 (by decide) rfl fk_X7_20 rfl dX7_readRole_141 ?_
        refine lv_iload hx hb dX7_readRole_144 (lv_at hl 0 rfl) ?_
        refine lv_iload_n hx hb dX7_readRole_146 rfl (lv_at hl 5 rfl) ?_
        refine lv_iload_n hx hb dX7_readRole_147 rfl (lv_at hl 4 rfl) ?_
        refine lv_iload hx hb dX7_readRole_148 (lv_at hl 3 rfl) ?_
        refine cn_si (ck_S S lk_X7_128 (c_X7_mixed l (zNv T n 0 255 (zA T n z)) (zNv T n 0 255 (zC1 T n (zA T n z))) (zNv T n 0 255 (zC2 T n (zA T n z)))) ⟨rfl, rfl⟩ ⟨Nat.le_of_ble_eq_true rfl, Nat.le_of_ble_eq_true rfl⟩ bl_T t_U rfl hl.1 (Nat.le_of_ble_eq_true rfl) ⟨Nat.le_refl _, Nat.le_refl _⟩ dX7_readRole_150 rfl) (fun r51 g52 => ?_)
        obtain rfl : r51 = pMix (zNv T n 0 255 (zA T n z)) (zNv T n 0 255 (zC1 T n (zA T n z))) (zNv T n 0 255 (zC2 T n (zA T n z))) := g52
        refine rw_iast (x := (J46, A, K)) (v := (pMix (zNv T n 0 255 (zA T n z)) (zNv T n 0 255 (zC1 T n (zA T n z))) (zNv T n 0 255 (zC2 T n (zA T n z))))) S hE hK hP hS 3 (by decide) rfl (4 + 3 * nr) rfl (by omega) (by decide) dX7_readRole_153 (fun H locs hP hS => ?_)
        have hP : Wp mN E mK (J46, (up2 A 3 (4 + 3 * nr) (pMix (zNv T n 0 255 (zA T n z)) (zNv T n 0 255 (zC1 T n (zA T n z))) (zNv T n 0 255 (zC2 T n (zA T n z))))), K) H := hP
        refine lv_aload_n hx hb dX7_readRole_154 rfl (lv_at hl 6 rfl) ?_
        refine rw_getr (x := (J46, (up2 A 3 (4 + 3 * nr) (pMix (zNv T n 0 255 (zA T n z)) (zNv T n 0 255 (zC1 T n (zA T n z))) (zNv T n 0 255 (zC2 T n (zA T n z))))), K)) S hK hP 0 (by decide) rfl fk_X7_20 rfl dX7_readRole_155 ?_
        refine lv_iload hx hb dX7_readRole_158 (lv_at hl 0 rfl) ?_
        refine lv_iconst (v := 1) hx hb dX7_readRole_160 (by decide) ?_
        refine lv_iadd hx hb dX7_readRole_161 ?_
        refine tp_i (y := nI ((4 + 3 * nr) + 1)) (nI_add (4 + 3 * nr) 1) ?_
        refine lv_iload hx hb dX7_readRole_162 (lv_at hl 2 rfl) ?_
        refine rw_iast (x := (J46, (up2 A 3 (4 + 3 * nr) (pMix (zNv T n 0 255 (zA T n z)) (zNv T n 0 255 (zC1 T n (zA T n z))) (zNv T n 0 255 (zC2 T n (zA T n z))))), K)) (v := (pMix (zNv T n 0 255 (zA T n (zR2 T n z))) (zNv T n 0 255 (zC1 T n (zA T n (zR2 T n z)))) (zNv T n 0 255 (zC2 T n (zA T n (zR2 T n z)))))) S hE hK hP hS 3 (by decide) rfl ((4 + 3 * nr) + 1) rfl (by omega) (by decide) dX7_readRole_164 (fun H locs hP hS => ?_)
        have hP : Wp mN E mK (J46, (up2 (up2 A 3 (4 + 3 * nr) (pMix (zNv T n 0 255 (zA T n z)) (zNv T n 0 255 (zC1 T n (zA T n z))) (zNv T n 0 255 (zC2 T n (zA T n z))))) 3 ((4 + 3 * nr) + 1) (pMix (zNv T n 0 255 (zA T n (zR2 T n z))) (zNv T n 0 255 (zC1 T n (zA T n (zR2 T n z)))) (zNv T n 0 255 (zC2 T n (zA T n (zR2 T n z)))))), K) H := hP
        refine lv_aload_n hx hb dX7_readRole_165 rfl (lv_at hl 6 rfl) ?_
        refine rw_getr (x := (J46, (up2 (up2 A 3 (4 + 3 * nr) (pMix (zNv T n 0 255 (zA T n z)) (zNv T n 0 255 (zC1 T n (zA T n z))) (zNv T n 0 255 (zC2 T n (zA T n z))))) 3 ((4 + 3 * nr) + 1) (pMix (zNv T n 0 255 (zA T n (zR2 T n z))) (zNv T n 0 255 (zC1 T n (zA T n (zR2 T n z)))) (zNv T n 0 255 (zC2 T n (zA T n (zR2 T n z)))))), K)) S hK hP 0 (by decide) rfl fk_X7_20 rfl dX7_readRole_166 ?_
        refine lv_iload hx hb dX7_readRole_169 (lv_at hl 0 rfl) ?_
        refine lv_iconst (v := 2) hx hb dX7_readRole_171 (by decide) ?_
        refine lv_iadd hx hb dX7_readRole_172 ?_
        refine tp_i (y := nI ((4 + 3 * nr) + 2)) (nI_add (4 + 3 * nr) 2) ?_
        refine lv_iload hx hb dX7_readRole_173 (lv_at hl 1 rfl) ?_
        refine lv_if_eq (tgt := 182) hx hb dX7_readRole_175 (by decide) (fun h175 => ?_) (fun h175 => ?_)
        · refine lv_iconst (v := 0) hx hb dX7_readRole_182 (by decide) ?_
          refine rw_iast (x := (J46, (up2 (up2 A 3 (4 + 3 * nr) (pMix (zNv T n 0 255 (zA T n z)) (zNv T n 0 255 (zC1 T n (zA T n z))) (zNv T n 0 255 (zC2 T n (zA T n z))))) 3 ((4 + 3 * nr) + 1) (pMix (zNv T n 0 255 (zA T n (zR2 T n z))) (zNv T n 0 255 (zC1 T n (zA T n (zR2 T n z)))) (zNv T n 0 255 (zC2 T n (zA T n (zR2 T n z)))))), K)) (v := 0) S hE hK hP hS 3 (by decide) rfl ((4 + 3 * nr) + 2) rfl (by omega) (by decide) dX7_readRole_183 (fun H locs hP hS => ?_)
          have hP : Wp mN E mK (J46, (up2 (up2 (up2 A 3 (4 + 3 * nr) (pMix (zNv T n 0 255 (zA T n z)) (zNv T n 0 255 (zC1 T n (zA T n z))) (zNv T n 0 255 (zC2 T n (zA T n z))))) 3 ((4 + 3 * nr) + 1) (pMix (zNv T n 0 255 (zA T n (zR2 T n z))) (zNv T n 0 255 (zC1 T n (zA T n (zR2 T n z)))) (zNv T n 0 255 (zC2 T n (zA T n (zR2 T n z)))))) 3 ((4 + 3 * nr) + 2) 0), K) H := hP
          refine lv_aload_n hx hb dX7_readRole_184 rfl (lv_at hl 6 rfl) ?_
          refine rw_getr (x := (J46, (up2 (up2 (up2 A 3 (4 + 3 * nr) (pMix (zNv T n 0 255 (zA T n z)) (zNv T n 0 255 (zC1 T n (zA T n z))) (zNv T n 0 255 (zC2 T n (zA T n z))))) 3 ((4 + 3 * nr) + 1) (pMix (zNv T n 0 255 (zA T n (zR2 T n z))) (zNv T n 0 255 (zC1 T n (zA T n (zR2 T n z)))) (zNv T n 0 255 (zC2 T n (zA T n (zR2 T n z)))))) 3 ((4 + 3 * nr) + 2) 0), K)) S hK hP 0 (by decide) rfl fk_X7_20 rfl dX7_readRole_185 ?_
          refine lv_iconst (v := 0) hx hb dX7_readRole_188 (by decide) ?_
          refine lv_dup2_11 hx hb dX7_readRole_189 rfl rfl ?_
          refine rw_iald (x := (J46, (up2 (up2 (up2 A 3 (4 + 3 * nr) (pMix (zNv T n 0 255 (zA T n z)) (zNv T n 0 255 (zC1 T n (zA T n z))) (zNv T n 0 255 (zC2 T n (zA T n z))))) 3 ((4 + 3 * nr) + 1) (pMix (zNv T n 0 255 (zA T n (zR2 T n z))) (zNv T n 0 255 (zC1 T n (zA T n (zR2 T n z)))) (zNv T n 0 255 (zC2 T n (zA T n (zR2 T n z)))))) 3 ((4 + 3 * nr) + 2) 0), K)) (v := nI nr) S hK hP 3 (by decide) rfl 0 rfl (by decide) (by decide) ((up2_j (by omega)).trans ((up2_j (by omega)).trans ((up2_j (by omega)).trans hd3))) dX7_readRole_190 ?_
          refine lv_iconst (v := 1) hx hb dX7_readRole_191 (by decide) ?_
          refine lv_iadd hx hb dX7_readRole_192 ?_
          refine tp_i (y := nI (nr + 1)) (nI_add nr 1) ?_
          refine rw_iast (x := (J46, (up2 (up2 (up2 A 3 (4 + 3 * nr) (pMix (zNv T n 0 255 (zA T n z)) (zNv T n 0 255 (zC1 T n (zA T n z))) (zNv T n 0 255 (zC2 T n (zA T n z))))) 3 ((4 + 3 * nr) + 1) (pMix (zNv T n 0 255 (zA T n (zR2 T n z))) (zNv T n 0 255 (zC1 T n (zA T n (zR2 T n z)))) (zNv T n 0 255 (zC2 T n (zA T n (zR2 T n z)))))) 3 ((4 + 3 * nr) + 2) 0), K)) (v := (nI (nr + 1))) S hE hK hP hS 3 (by decide) rfl 0 rfl (by decide) (by decide) dX7_readRole_193 (fun H locs hP hS => ?_)
          have hP : Wp mN E mK (J46, (up2 (up2 (up2 (up2 A 3 (4 + 3 * nr) (pMix (zNv T n 0 255 (zA T n z)) (zNv T n 0 255 (zC1 T n (zA T n z))) (zNv T n 0 255 (zC2 T n (zA T n z))))) 3 ((4 + 3 * nr) + 1) (pMix (zNv T n 0 255 (zA T n (zR2 T n z))) (zNv T n 0 255 (zC1 T n (zA T n (zR2 T n z)))) (zNv T n 0 255 (zC2 T n (zA T n (zR2 T n z)))))) 3 ((4 + 3 * nr) + 2) 0) 3 0 (nI (nr + 1))), K) H := hP
          exact re_wv (x := (J46, (up2 (up2 (up2 (up2 A 3 (4 + 3 * nr) (pMix (zNv T n 0 255 (zA T n z)) (zNv T n 0 255 (zC1 T n (zA T n z))) (zNv T n 0 255 (zC2 T n (zA T n z))))) 3 ((4 + 3 * nr) + 1) (pMix (zNv T n 0 255 (zA T n (zR2 T n z))) (zNv T n 0 255 (zC1 T n (zA T n (zR2 T n z)))) (zNv T n 0 255 (zC2 T n (zA T n (zR2 T n z)))))) 3 ((4 + 3 * nr) + 2) 0) 3 0 (nI (nr + 1))), K)) hx hb hr hlk hP hS ⟨_, _, rB_role (b := false) (by show mW _ A T n (zPW T n (tw 6) (zR3 T n z)); rw [e3]; exact hW46) hr46 hnr hz4 hD rfl (by unfold zRd; rw [if_pos q5]; rfl) vC_cv vC_cv (by rw [e3]; exact (bI_f h175).symm), rfl⟩ dX7_readRole_194
        · refine lv_iconst (v := 1) hx hb dX7_readRole_178 (by decide) ?_
          refine lv_goto (tgt := 183) hx hb dX7_readRole_179 (by decide) ?_
          refine rw_iast (x := (J46, (up2 (up2 A 3 (4 + 3 * nr) (pMix (zNv T n 0 255 (zA T n z)) (zNv T n 0 255 (zC1 T n (zA T n z))) (zNv T n 0 255 (zC2 T n (zA T n z))))) 3 ((4 + 3 * nr) + 1) (pMix (zNv T n 0 255 (zA T n (zR2 T n z))) (zNv T n 0 255 (zC1 T n (zA T n (zR2 T n z)))) (zNv T n 0 255 (zC2 T n (zA T n (zR2 T n z)))))), K)) (v := 1) S hE hK hP hS 3 (by decide) rfl ((4 + 3 * nr) + 2) rfl (by omega) (by decide) dX7_readRole_183 (fun H locs hP hS => ?_)
          have hP : Wp mN E mK (J46, (up2 (up2 (up2 A 3 (4 + 3 * nr) (pMix (zNv T n 0 255 (zA T n z)) (zNv T n 0 255 (zC1 T n (zA T n z))) (zNv T n 0 255 (zC2 T n (zA T n z))))) 3 ((4 + 3 * nr) + 1) (pMix (zNv T n 0 255 (zA T n (zR2 T n z))) (zNv T n 0 255 (zC1 T n (zA T n (zR2 T n z)))) (zNv T n 0 255 (zC2 T n (zA T n (zR2 T n z)))))) 3 ((4 + 3 * nr) + 2) 1), K) H := hP
          refine lv_aload_n hx hb dX7_readRole_184 rfl (lv_at hl 6 rfl) ?_
          refine rw_getr (x := (J46, (up2 (up2 (up2 A 3 (4 + 3 * nr) (pMix (zNv T n 0 255 (zA T n z)) (zNv T n 0 255 (zC1 T n (zA T n z))) (zNv T n 0 255 (zC2 T n (zA T n z))))) 3 ((4 + 3 * nr) + 1) (pMix (zNv T n 0 255 (zA T n (zR2 T n z))) (zNv T n 0 255 (zC1 T n (zA T n (zR2 T n z)))) (zNv T n 0 255 (zC2 T n (zA T n (zR2 T n z)))))) 3 ((4 + 3 * nr) + 2) 1), K)) S hK hP 0 (by decide) rfl fk_X7_20 rfl dX7_readRole_185 ?_
          refine lv_iconst (v := 0) hx hb dX7_readRole_188 (by decide) ?_
          refine lv_dup2_11 hx hb dX7_readRole_189 rfl rfl ?_
          refine rw_iald (x := (J46, (up2 (up2 (up2 A 3 (4 + 3 * nr) (pMix (zNv T n 0 255 (zA T n z)) (zNv T n 0 255 (zC1 T n (zA T n z))) (zNv T n 0 255 (zC2 T n (zA T n z))))) 3 ((4 + 3 * nr) + 1) (pMix (zNv T n 0 255 (zA T n (zR2 T n z))) (zNv T n 0 255 (zC1 T n (zA T n (zR2 T n z)))) (zNv T n 0 255 (zC2 T n (zA T n (zR2 T n z)))))) 3 ((4 + 3 * nr) + 2) 1), K)) (v := nI nr) S hK hP 3 (by decide) rfl 0 rfl (by decide) (by decide) ((up2_j (by omega)).trans ((up2_j (by omega)).trans ((up2_j (by omega)).trans hd3))) dX7_readRole_190 ?_
          refine lv_iconst (v := 1) hx hb dX7_readRole_191 (by decide) ?_
          refine lv_iadd hx hb dX7_readRole_192 ?_
          refine tp_i (y := nI (nr + 1)) (nI_add nr 1) ?_
          refine rw_iast (x := (J46, (up2 (up2 (up2 A 3 (4 + 3 * nr) (pMix (zNv T n 0 255 (zA T n z)) (zNv T n 0 255 (zC1 T n (zA T n z))) (zNv T n 0 255 (zC2 T n (zA T n z))))) 3 ((4 + 3 * nr) + 1) (pMix (zNv T n 0 255 (zA T n (zR2 T n z))) (zNv T n 0 255 (zC1 T n (zA T n (zR2 T n z)))) (zNv T n 0 255 (zC2 T n (zA T n (zR2 T n z)))))) 3 ((4 + 3 * nr) + 2) 1), K)) (v := (nI (nr + 1))) S hE hK hP hS 3 (by decide) rfl 0 rfl (by decide) (by decide) dX7_readRole_193 (fun H locs hP hS => ?_)
          have hP : Wp mN E mK (J46, (up2 (up2 (up2 (up2 A 3 (4 + 3 * nr) (pMix (zNv T n 0 255 (zA T n z)) (zNv T n 0 255 (zC1 T n (zA T n z))) (zNv T n 0 255 (zC2 T n (zA T n z))))) 3 ((4 + 3 * nr) + 1) (pMix (zNv T n 0 255 (zA T n (zR2 T n z))) (zNv T n 0 255 (zC1 T n (zA T n (zR2 T n z)))) (zNv T n 0 255 (zC2 T n (zA T n (zR2 T n z)))))) 3 ((4 + 3 * nr) + 2) 1) 3 0 (nI (nr + 1))), K) H := hP
          exact re_wv (x := (J46, (up2 (up2 (up2 (up2 A 3 (4 + 3 * nr) (pMix (zNv T n 0 255 (zA T n z)) (zNv T n 0 255 (zC1 T n (zA T n z))) (zNv T n 0 255 (zC2 T n (zA T n z))))) 3 ((4 + 3 * nr) + 1) (pMix (zNv T n 0 255 (zA T n (zR2 T n z))) (zNv T n 0 255 (zC1 T n (zA T n (zR2 T n z)))) (zNv T n 0 255 (zC2 T n (zA T n (zR2 T n z)))))) 3 ((4 + 3 * nr) + 2) 1) 3 0 (nI (nr + 1))), K)) hx hb hr hlk hP hS ⟨_, _, rB_role (b := true) (by show mW _ A T n (zPW T n (tw 6) (zR3 T n z)); rw [e3]; exact hW46) hr46 hnr hz4 hD rfl (by unfold zRd; rw [if_pos q5]; rfl) vC_cv vC_cv (by rw [e3]; exact (bI_t h175).symm), rfl⟩ dX7_readRole_194
      · have hz4 : ¬ (zR4 T n z).1 = 0 := by rw [show zR4 T n z = zPW T n (tw 6) (zR3 T n z) from rfl, e3]; exact fun g => absurd (decide_eq_true (hW46.2.1.trans g)) (by rw [bI_f (Classical.byContradiction h125)]; decide)
        exact re_wv (x := (J46, A, K)) hx hb hr hlk hP hS ⟨_, A, (by rw [sRole_n (by omega) hz4]; exact rB_bad (P := (nr, nu, fp, C, zR4 T n z)) (by show mW _ A T n (zPW T n (tw 6) (zR3 T n z)); rw [e3]; exact hW46) hr46 hz4), rfl⟩ dX7_readRole_128
  · have hnr : 10 ≤ nr := (Nat.lt_or_ge nr 10).elim (fun g => absurd ((nI_eq (by omega) (by decide)).mp (show nI nr = nI 10 from h8)) (by omega)) id
    refine lv_aload_n hx hb dX7_readRole_11 rfl (lv_at hl 0 rfl) ?_
    refine lv_bipush (v := (-4)) hx hb dX7_readRole_12 (by decide) ?_
    refine lv_iload_n hx hb dX7_readRole_14 rfl (lv_at hl 1 rfl) ?_
    have h0z : (zA T n z).1 = 0 := h0
    refine cn_wv (ck_V (a := eP E 0) S lk_X7_79 (c_X7_report l E I A K (-4) (nI (tkB T n z.2)) hE) ⟨rfl, rfl⟩ ⟨Nat.le_of_ble_eq_true rfl, Nat.le_of_ble_eq_true rfl⟩ bl_w (rc_w hK hP 0 (by decide) rfl rfl) (bw_U hE hK hC hP hS) rfl hl.1 (Nat.le_of_ble_eq_true rfl) ⟨Nat.le_refl _, Nat.le_refl _⟩ dX7_readRole_15 rfl) hS (fun u54 H locs g55 hP hS => ?_)
    obtain rfl : u54 = ((if I 0 5 = 0 then up2 (up2 I 0 5 (-4)) 0 6 (nI (tkB T n z.2)) else I), A, K) := g55
    have hP : Wp mN E mK ((if I 0 5 = 0 then up2 (up2 I 0 5 (-4)) 0 6 (nI (tkB T n z.2)) else I), A, K) H := hP
    rw [if_pos (show I 0 5 = 0 from h5c.trans h0)] at hP
    have hP : Wp mN E mK ((up2 (up2 I 0 5 (-4)) 0 6 (nI (tkB T n z.2))), A, K) H := hP
    have hbz : ¬ (zF (-4) z).1 = 0 := fun g => absurd ((if_pos h0).symm.trans g : (-4 : Int32) = 0) (by decide)
    have hWb : mW (up2 (up2 I 0 5 (-4)) 0 6 (nI (tkB T n z.2))) A T n (zF (-4) z) := mW_er3 hW (Nat.le_trans zGe_A hzn) h0 (by decide) rfl rfl up2_eq
    have hrb : rP I (up2 (up2 I 0 5 (-4)) 0 6 (nI (tkB T n z.2))) := rP_u (rP_u rP_rf (by decide)) (by decide)
    refine lv_aload_n hx hb dX7_readRole_18 rfl (lv_at hl 0 rfl) ?_
    refine lv_iconst (v := 0) hx hb dX7_readRole_19 (by decide) ?_
    refine lv_sipush (v := 255) hx hb dX7_readRole_20 (by decide) ?_
    refine cn_wi (ck_V (a := eP E 0) S lk_X7_113 (c_X7_number l E (up2 (up2 I 0 5 (-4)) 0 6 (nI (tkB T n z.2))) A K T n (zF (-4) z) 0 255 hE hWb) ⟨rfl, rfl⟩ ⟨Nat.le_of_ble_eq_true rfl, Nat.le_of_ble_eq_true rfl⟩ bl_w (rc_w hK hP 0 (by decide) rfl rfl) (bw_U hE hK hC hP hS) rfl hl.1 (Nat.le_of_ble_eq_true rfl) ⟨Nat.le_refl _, Nat.le_refl _⟩ dX7_readRole_23 rfl) hS (fun r56 u57 H locs g58 hP hS => ?_)
    obtain ⟨J59, hW59, hp59, hn59, hv59, rfl⟩ : ∃ oj, mW oj A T n (zNz T n 0 255 (zF (-4) z)) ∧ rP (up2 (up2 I 0 5 (-4)) 0 6 (nI (tkB T n z.2))) oj ∧ (zN T n (zF (-4) z) = true → oj 0 12 = nI (tkB T n (zF (-4) z).2)) ∧ ((zNz T n 0 255 (zF (-4) z)).1 = 0 → r56 = zNv T n 0 255 (zF (-4) z)) ∧ u57 = (oj, A, K) := g58
    have hP : Wp mN E mK (J59, A, K) H := hP
    have hr59 := rP_tr hrb hp59
    rw [zNz_b hbz] at hW59
    refine lv_istore_n (lv' := [(2, .int r56), (0, .ref (eP E 0)), (1, .int (nI (tkB T n z.2)))]) hx hb dX7_readRole_26 rfl hl (by decide) rfl (fun ls hl => ?_)
    refine lv_aload_n hx hb dX7_readRole_27 rfl (lv_at hl 1 rfl) ?_
    refine lv_iconst (v := 0) hx hb dX7_readRole_28 (by decide) ?_
    refine lv_sipush (v := 255) hx hb dX7_readRole_29 (by decide) ?_
    refine cn_wi (ck_V (a := eP E 0) S lk_X7_113 (c_X7_number l E J59 A K T n (zF (-4) z) 0 255 hE hW59) ⟨rfl, rfl⟩ ⟨Nat.le_of_ble_eq_true rfl, Nat.le_of_ble_eq_true rfl⟩ bl_w (rc_w hK hP 0 (by decide) rfl rfl) (bw_U hE hK hC hP hS) rfl hl.1 (Nat.le_of_ble_eq_true rfl) ⟨Nat.le_refl _, Nat.le_refl _⟩ dX7_readRole_32 rfl) hS (fun r60 u61 H locs g62 hP hS => ?_)
    obtain ⟨J63, hW63, hp63, hn63, hv63, rfl⟩ : ∃ oj, mW oj A T n (zNz T n 0 255 (zF (-4) z)) ∧ rP J59 oj ∧ (zN T n (zF (-4) z) = true → oj 0 12 = nI (tkB T n (zF (-4) z).2)) ∧ ((zNz T n 0 255 (zF (-4) z)).1 = 0 → r60 = zNv T n 0 255 (zF (-4) z)) ∧ u61 = (oj, A, K) := g62
    have hP : Wp mN E mK (J63, A, K) H := hP
    have hr63 := rP_tr hr59 hp63
    rw [zNz_b hbz] at hW63
    refine lv_istore_n (lv' := [(3, .int r60), (2, .int r56), (0, .ref (eP E 0)), (1, .int (nI (tkB T n z.2)))]) hx hb dX7_readRole_35 rfl hl (by decide) rfl (fun ls hl => ?_)
    refine lv_aload_n hx hb dX7_readRole_36 rfl (lv_at hl 2 rfl) ?_
    refine lv_iconst (v := 0) hx hb dX7_readRole_37 (by decide) ?_
    refine lv_sipush (v := 255) hx hb dX7_readRole_38 (by decide) ?_
    refine cn_wi (ck_V (a := eP E 0) S lk_X7_113 (c_X7_number l E J63 A K T n (zF (-4) z) 0 255 hE hW63) ⟨rfl, rfl⟩ ⟨Nat.le_of_ble_eq_true rfl, Nat.le_of_ble_eq_true rfl⟩ bl_w (rc_w hK hP 0 (by decide) rfl rfl) (bw_U hE hK hC hP hS) rfl hl.1 (Nat.le_of_ble_eq_true rfl) ⟨Nat.le_refl _, Nat.le_refl _⟩ dX7_readRole_41 rfl) hS (fun r64 u65 H locs g66 hP hS => ?_)
    obtain ⟨J67, hW67, hp67, hn67, hv67, rfl⟩ : ∃ oj, mW oj A T n (zNz T n 0 255 (zF (-4) z)) ∧ rP J63 oj ∧ (zN T n (zF (-4) z) = true → oj 0 12 = nI (tkB T n (zF (-4) z).2)) ∧ ((zNz T n 0 255 (zF (-4) z)).1 = 0 → r64 = zNv T n 0 255 (zF (-4) z)) ∧ u65 = (oj, A, K) := g66
    have hP : Wp mN E mK (J67, A, K) H := hP
    have hr67 := rP_tr hr63 hp67
    rw [zNz_b hbz] at hW67
    refine lv_istore (lv' := [(4, .int r64), (3, .int r60), (2, .int r56), (0, .ref (eP E 0)), (1, .int (nI (tkB T n z.2)))]) hx hb dX7_readRole_44 hl (by decide) rfl (fun ls hl => ?_)
    refine lv_sipush (v := 255) hx hb dX7_readRole_46 (by decide) ?_
    refine lv_iload_n hx hb dX7_readRole_49 rfl (lv_at hl 2 rfl) ?_
    refine lv_isub hx hb dX7_readRole_50 ?_
    refine lv_sipush (v := 255) hx hb dX7_readRole_51 (by decide) ?_
    refine lv_iload_n hx hb dX7_readRole_54 rfl (lv_at hl 1 rfl) ?_
    refine lv_isub hx hb dX7_readRole_55 ?_
    refine lv_sipush (v := 255) hx hb dX7_readRole_56 (by decide) ?_
    refine lv_iload hx hb dX7_readRole_59 (lv_at hl 0 rfl) ?_
    refine lv_isub hx hb dX7_readRole_61 ?_
    refine cn_si (ck_S S lk_X7_128 (c_X7_mixed l (255 - r56) (255 - r60) (255 - r64)) ⟨rfl, rfl⟩ ⟨Nat.le_of_ble_eq_true rfl, Nat.le_of_ble_eq_true rfl⟩ bl_T t_U rfl hl.1 (Nat.le_of_ble_eq_true rfl) ⟨Nat.le_refl _, Nat.le_refl _⟩ dX7_readRole_62 rfl) (fun r68 g69 => ?_)
    obtain rfl : r68 = pMix (255 - r56) (255 - r60) (255 - r64) := g69
    refine lv_istore (lv' := [(5, .int (pMix (255 - r56) (255 - r60) (255 - r64))), (4, .int r64), (3, .int r60), (2, .int r56), (0, .ref (eP E 0)), (1, .int (nI (tkB T n z.2)))]) hx hb dX7_readRole_65 hl (by decide) rfl (fun ls hl => ?_)
    refine lv_aload_n hx hb dX7_readRole_67 rfl (lv_at hl 4 rfl) ?_
    refine va_ldcS (q := eS E 14) (tx := "dark") hx hb S.2.2.2.1 (tr_14 hC.1.2.1) dX7_readRole_68 ?_
    refine cn_wi (ck_V (a := eP E 0) S lk_X7_107 (c_X7_takeWord l E J67 A K T n (zF (-4) z) 14 hE hW67 (by decide)) ⟨rfl, rfl⟩ ⟨Nat.le_of_ble_eq_true rfl, Nat.le_of_ble_eq_true rfl⟩ bl_w (rc_w hK hP 0 (by decide) rfl rfl) (bw_U hE hK hC hP hS) rfl hl.1 (Nat.le_of_ble_eq_true rfl) ⟨Nat.le_refl _, Nat.le_refl _⟩ dX7_readRole_70 rfl) hS (fun r70 u71 H locs g72 hP hS => ?_)
    obtain ⟨rfl, J73, hW73, hp73, rfl⟩ : r70 = bI (zW T n (tw 14) (zF (-4) z)) ∧ (∃ oj, mW oj A T n (zPW T n (tw 14) (zF (-4) z)) ∧ rP J67 oj ∧ u71 = (oj, A, K)) := g72
    have hP : Wp mN E mK (J73, A, K) H := hP
    have hr73 := rP_tr hr67 hp73
    rw [tw_14] at hW73
    rw [zPW_b hbz] at hW73
    refine tp_i (y := 0) (by rw [zW_c hbz]; rfl) ?_
    refine lv_if_eq (tgt := 113) hx hb dX7_readRole_73 (by decide) (fun h73 => ?_) (fun h73 => absurd (by decide) h73)
    refine lv_aload_n hx hb dX7_readRole_113 rfl (lv_at hl 4 rfl) ?_
    refine va_ldcS (q := eS E 15) (tx := "fixed") hx hb S.2.2.2.1 (tr_15 hC.1.2.1) dX7_readRole_114 ?_
    refine cn_wi (ck_V (a := eP E 0) S lk_X7_107 (c_X7_takeWord l E J73 A K T n (zF (-4) z) 15 hE hW73 (by decide)) ⟨rfl, rfl⟩ ⟨Nat.le_of_ble_eq_true rfl, Nat.le_of_ble_eq_true rfl⟩ bl_w (rc_w hK hP 0 (by decide) rfl rfl) (bw_U hE hK hC hP hS) rfl hl.1 (Nat.le_of_ble_eq_true rfl) ⟨Nat.le_refl _, Nat.le_refl _⟩ dX7_readRole_116 rfl) hS (fun r74 u75 H locs g76 hP hS => ?_)
    obtain ⟨rfl, J77, hW77, hp77, rfl⟩ : r74 = bI (zW T n (tw 15) (zF (-4) z)) ∧ (∃ oj, mW oj A T n (zPW T n (tw 15) (zF (-4) z)) ∧ rP J73 oj ∧ u75 = (oj, A, K)) := g76
    have hP : Wp mN E mK (J77, A, K) H := hP
    have hr77 := rP_tr hr73 hp77
    rw [tw_15] at hW77
    rw [zPW_b hbz] at hW77
    refine tp_i (y := 0) (by rw [zW_c hbz]; rfl) ?_
    refine lv_istore (lv' := [(6, .int 0), (5, .int (pMix (255 - r56) (255 - r60) (255 - r64))), (4, .int r64), (3, .int r60), (2, .int r56), (0, .ref (eP E 0)), (1, .int (nI (tkB T n z.2)))]) hx hb dX7_readRole_119 hl (by decide) rfl (fun ls hl => ?_)
    refine lv_aload_n hx hb dX7_readRole_121 rfl (lv_at hl 5 rfl) ?_
    refine cn_si (ck_V (a := eP E 0) S lk_X7_62 (c_X7_isGood l E J77 A K hE) ⟨rfl, rfl⟩ ⟨Nat.le_of_ble_eq_true rfl, Nat.le_of_ble_eq_true rfl⟩ bl_w (rc_w hK hP 0 (by decide) rfl rfl) (bw_U hE hK hC hP hS) rfl hl.1 (Nat.le_of_ble_eq_true rfl) ⟨Nat.le_refl _, Nat.le_refl _⟩ dX7_readRole_122 rfl) (fun r78 g79 => ?_)
    obtain rfl : r78 = bI (decide (J77 0 5 = 0)) := g79
    refine lv_if_ne (tgt := 129) hx hb dX7_readRole_125 (by decide) (fun h125 => absurd h125 (show ¬ ¬ bI (decide (J77 0 5 = 0)) = 0 from fun g => g (by rw [decide_eq_false (fun q => hbz (hW77.2.1.symm.trans q))]; rfl))) (fun h125 => ?_)
    exact re_wv (x := (J77, A, K)) hx hb hr hlk hP hS ⟨_, A, (by rw [sRole_f hnr]; exact rB_bad hW77 hr77 hbz), rfl⟩ dX7_readRole_128

