theorem mW_er3 {I J A : Nat → Nat → Int32} {T : Nat → Int32} {n : Nat} {y z : Tz} {k : Int32} (h : mW I A T n y) (hz : z.2 ≤ n) (h0 : z.1 = 0) (hk : ¬ k = 0) (e3 : J 0 3 = I 0 3) (e5 : J 0 5 = k) (e6 : J 0 6 = nI (tkB T n z.2)) : mW J A T n (zF k z) := by
  obtain ⟨⟨h1, h2, h3⟩, h4, h5, h6⟩ := h
  have e : (zF k z).1 = k := if_pos h0
  exact ⟨⟨e3.trans h1, h2, hz⟩, e5.trans e.symm, fun g => absurd (e.symm.trans g) hk, fun _ => e6, fun g => absurd (e.symm.trans g) hk⟩
theorem zF_b {k : Int32} {z : Tz} (h : ¬ z.1 = 0) : zF k z = z := by
  unfold zF
  rw [if_neg h]
theorem zNz_b {T : Nat → Int32} {n : Nat} {lo hi : Int32} {z : Tz} (h : ¬ z.1 = 0) : zNz T n lo hi z = z := by
  rw [zNz_f (decide_eq_false (fun q => h q.1)), zF_b h]
theorem zW_c {T : Nat → Int32} {n : Nat} {w : List Int32} {z : Tz} (h : ¬ z.1 = 0) : zW T n w z = false := decide_eq_false (fun q => h q.1)
theorem zPW_b {T : Nat → Int32} {n : Nat} {w : List Int32} {z : Tz} (h : ¬ z.1 = 0) : zPW T n w z = z := zPW_f (zW_c h)
theorem zA_b {T : Nat → Int32} {n : Nat} {z : Tz} (h : ¬ z.1 = 0) : zA T n z = z := by
  unfold zA
  rw [if_neg h]
theorem zNv_r {T : Nat → Int32} {n : Nat} {z : Tz} : ∃ k : Nat, k < 256 ∧ zNv T n 0 255 z = nI k := by
  unfold zNv
  split
  · split
    · exact ⟨0, by decide, rfl⟩
    · split
      · exact ⟨0, by decide, rfl⟩
      · rename_i h1 h2
        obtain ⟨j, hj, e⟩ := nI_of2 (x := tkV T n z.2) (M := 255) (n := 255) (by decide) h1 (Int32.not_lt.mp h2)
        exact ⟨j, by omega, e⟩
  · exact ⟨0, by decide, rfl⟩
theorem dark_eq {r g b : Int32} (hr : ∃ k : Nat, k < 256 ∧ r = nI k) (hg : ∃ k : Nat, k < 256 ∧ g = nI k) (hb : ∃ k : Nat, k < 256 ∧ b = nI k) : pMix (255 - r) (255 - g) (255 - b) = 16777215 - pMix r g b := by
  obtain ⟨i, hi, rfl⟩ := hr
  obtain ⟨j, hj, rfl⟩ := hg
  obtain ⟨k, hk, rfl⟩ := hb
  rw [show (255 : Int32) = nI 255 from rfl, show (16777215 : Int32) = nI 16777215 from rfl, pk_sub (a := 255) (b := i) (by omega), pk_sub (a := 255) (b := j) (by omega), pk_sub (a := 255) (b := k) (by omega), pMix_n, pMix_n, pk_sub (by omega)]
  congr 1
  omega
theorem vC_cv {T : Nat → Int32} {n : Nat} {z : Tz} : vC (zCv T n z) := vC_mix zNv_r zNv_r zNv_r
theorem tw_10 : tw 10 = tw 1 := by decide +kernel
theorem tw_11 : tw 11 = tw 2 := by decide +kernel
theorem tw_12 : tw 12 = tw 3 := by decide +kernel
theorem tw_13 : tw 13 = tw 4 := by decide +kernel
theorem tw_14 : tw 14 = tw 5 := by decide +kernel
theorem tw_15 : tw 15 = tw 6 := by decide +kernel
theorem nar_b (b : Bool) : vp_nar .boolean (bI b) = bI b := by cases b <;> decide
/-- the draft of the model holds what the draft of the component holds -/
def qD (nr nu : Nat) (C A : Nat → Nat → Int32) : Prop := (nr ≤ 10 ∧ nu ≤ 12) ∧ (A 3 0 = nI nr ∧ A 3 1 = nI nu) ∧ (∀ r, r < nr → (A 3 (4 + 3 * r) = C 21 r ∧ A 3 (4 + 3 * r + 1) = C 22 r ∧ A 3 (4 + 3 * r + 2) = C 23 r) ∧ (vC (C 21 r) ∧ vC (C 22 r)) ∧ ∃ b, C 23 r = bI b) ∧ ∀ u, u < nu → (A 3 (34 + 4 * u) = C 26 u + 1 ∧ A 3 (34 + 4 * u + 1) = C 24 u ∧ A 3 (34 + 4 * u + 2) = C 25 u ∧ A 3 (34 + 4 * u + 3) = C 5 u) ∧ ((∃ i, i < nr ∧ C 24 u = nI i) ∧ ∃ i, i < nr ∧ C 25 u = nI i) ∧ ((C 26 u = -1 ∧ ∃ k, k < 10 ∧ C 5 u = nI k) ∨ ((∃ t, t < 5 ∧ C 26 u = nI t) ∧ C 28 u = C 5 u ∧ C 29 u = C 5 u))
section QD
variable {A C : Nat → Nat → Int32} {nr nu p0 p1 p2 p3 p4 : Nat} {v0 v1 v2 v3 v4 li da fx : Int32}
theorem q4_at (x : Nat) : up2 (up2 (up2 (up2 A 3 p0 v0) 3 p1 v1) 3 p2 v2) 3 p3 v3 3 x = if x = p3 then v3 else if x = p2 then v2 else if x = p1 then v1 else if x = p0 then v0 else A 3 x := by
  simp only [up2_at, true_and]
theorem q5_at (x : Nat) : up2 (up2 (up2 (up2 (up2 A 3 p0 v0) 3 p1 v1) 3 p2 v2) 3 p3 v3) 3 p4 v4 3 x = if x = p4 then v4 else if x = p3 then v3 else if x = p2 then v2 else if x = p1 then v1 else if x = p0 then v0 else A 3 x := by
  simp only [up2_at, true_and]
theorem qv3 : up2 (up2 (up2 A 3 (4 + 3 * nr) v0) 3 (4 + 3 * nr + 1) v1) 3 (4 + 3 * nr + 2) v2 3 0 = A 3 0 := by
  rw [up2_j (by omega), up2_j (by omega), up2_j (by omega)]
theorem qv4 : up2 (up2 (up2 (up2 A 3 (34 + 4 * nu) v0) 3 (34 + 4 * nu + 1) v1) 3 (34 + 4 * nu + 2) v2) 3 (34 + 4 * nu + 3) v3 3 1 = A 3 1 := by
  rw [up2_j (by omega), up2_j (by omega), up2_j (by omega), up2_j (by omega)]
theorem cAdR_at (a b : Nat) : cAdR C 1 nr li da fx a b = if a = 23 ∧ b = nr then vp_nar .boolean fx else if a = 22 ∧ b = nr then da else if a = 21 ∧ b = nr then li else C a b := by
  unfold cAdR
  rw [up2_at, up2_at, up2_at]
  rfl
theorem cAdU_at (a b : Nat) : cAdU C 1 nu v0 v1 v2 v3 a b = if a = 29 ∧ b = nu then v3 else if a = 28 ∧ b = nu then v3 else if a = 26 ∧ b = nu then v2 else if a = 25 ∧ b = nu then v1 else if a = 24 ∧ b = nu then v0 else C a b := by
  unfold cAdU
  rw [up2_at, up2_at, up2_at, up2_at, up2_at]
  rfl
theorem cAdR_r {a : Nat} (h : ¬ (a = 21 ∨ a = 22 ∨ a = 23)) : cAdR C 1 nr li da fx a = C a := by
  funext b
  rw [cAdR_at, if_neg (fun q => h (by omega)), if_neg (fun q => h (by omega)), if_neg (fun q => h (by omega))]
theorem cAdU_r {a : Nat} (h : ¬ (a = 24 ∨ a = 25 ∨ a = 26 ∨ a = 28 ∨ a = 29)) : cAdU C 1 nu v0 v1 v2 v3 a = C a := by
  funext b
  rw [cAdU_at, if_neg (fun q => h (by omega)), if_neg (fun q => h (by omega)), if_neg (fun q => h (by omega)), if_neg (fun q => h (by omega)), if_neg (fun q => h (by omega))]
theorem qD_role {b : Bool} (hD : qD nr nu C A) (hn : nr < 10) (hl : vC li) (hd : vC da) : qD (nr + 1) nu (cAdR C 1 nr li da (bI b)) (up2 (up2 (up2 (up2 A 3 (4 + 3 * nr) li) 3 (4 + 3 * nr + 1) da) 3 (4 + 3 * nr + 2) (bI b)) 3 0 (nI (nr + 1))) := by
  obtain ⟨⟨h1, h2⟩, ⟨h3, h4⟩, h5, h6⟩ := hD
  refine ⟨⟨by omega, h2⟩, ⟨?_, ?_⟩, fun r hr => ?_, fun u hu => ?_⟩
  · rw [q4_at, if_pos rfl]
  · rw [q4_at, if_neg (by omega), if_neg (by omega), if_neg (by omega), if_neg (by omega)]
    exact h4
  · by_cases g : r = nr
    · subst g
      refine ⟨⟨?_, ?_, ?_⟩, ⟨?_, ?_⟩, ?_⟩
      · rw [q4_at, cAdR_at, if_neg (by omega), if_neg (by omega), if_neg (by omega), if_pos rfl, if_neg (by omega), if_neg (by omega), if_pos ⟨rfl, rfl⟩]
      · rw [q4_at, cAdR_at, if_neg (by omega), if_neg (by omega), if_pos rfl, if_neg (by omega), if_pos ⟨rfl, rfl⟩]
      · rw [q4_at, cAdR_at, if_neg (by omega), if_pos rfl, if_pos ⟨rfl, rfl⟩, nar_b]
      · rw [cAdR_at, if_neg (by omega), if_neg (by omega), if_pos ⟨rfl, rfl⟩]
        exact hl
      · rw [cAdR_at, if_neg (by omega), if_pos ⟨rfl, rfl⟩]
        exact hd
      · exact ⟨b, by rw [cAdR_at, if_pos ⟨rfl, rfl⟩, nar_b]⟩
    · have hr2 : r < nr := by omega
      have e : ∀ a, cAdR C 1 nr li da (bI b) a r = C a r := fun a => by rw [cAdR_at, if_neg (fun q => g q.2), if_neg (fun q => g q.2), if_neg (fun q => g q.2)]
      rw [q4_at, q4_at, q4_at, e, e, e, if_neg (by omega), if_neg (by omega), if_neg (by omega), if_neg (by omega), if_neg (by omega), if_neg (by omega), if_neg (by omega), if_neg (by omega), if_neg (by omega), if_neg (by omega), if_neg (by omega), if_neg (by omega)]
      exact h5 r hr2
  · rw [q4_at, q4_at, q4_at, q4_at, cAdR_r (a := 26) (by omega), cAdR_r (a := 24) (by omega), cAdR_r (a := 25) (by omega), cAdR_r (a := 5) (by omega), cAdR_r (a := 28) (by omega), cAdR_r (a := 29) (by omega)]
    rw [if_neg (by omega), if_neg (by omega), if_neg (by omega), if_neg (by omega), if_neg (by omega), if_neg (by omega), if_neg (by omega), if_neg (by omega), if_neg (by omega), if_neg (by omega), if_neg (by omega), if_neg (by omega), if_neg (by omega), if_neg (by omega), if_neg (by omega), if_neg (by omega)]
    obtain ⟨g1, ⟨⟨i, hi, g2⟩, ⟨j, hj, g3⟩⟩, g4⟩ := h6 u hu
    exact ⟨g1, ⟨⟨i, by omega, g2⟩, ⟨j, by omega, g3⟩⟩, g4⟩
end QD
/-- what the reading of a role or a rule leaves -/
def rB (I A : Nat → Nat → Int32) (T : Nat → Int32) (n : Nat) (P : Ps) (J B : Nat → Nat → Int32) : Prop := (mW J B T n P.2.2.2.2 ∧ rP I J) ∧ (∀ a, a ≠ 3 → B a = A a) ∧ (∀ b, (b = 2 ∨ b = 3) ∨ 82 ≤ b → B 3 b = A 3 b) ∧ (P.2.2.2.2.1 = 0 → qD P.1 P.2.1 P.2.2.2.1 B)
theorem rB_bad {I A J : Nat → Nat → Int32} {T : Nat → Int32} {n : Nat} {P : Ps} (hW : mW J A T n P.2.2.2.2) (hr : rP I J) (h : ¬ P.2.2.2.2.1 = 0) : rB I A T n P J A := ⟨⟨hW, hr⟩, fun _ _ => rfl, fun _ _ => rfl, fun g => absurd g h⟩
theorem rB_n {I A J C : Nat → Nat → Int32} {T : Nat → Int32} {n nr nu : Nat} {fp : Option Nat} {P : Ps} {y : Tz} (e : P = (nr, nu, fp, C, y)) (hW : mW J A T n y) (hr : rP I J) (h : ¬ y.1 = 0) : rB I A T n P J A := by
  rw [e]
  exact rB_bad (P := (nr, nu, fp, C, y)) hW hr h
theorem rB_role {I A J C : Nat → Nat → Int32} {T : Nat → Int32} {n nr nu : Nat} {fp : Option Nat} {z : Tz} {li da : Int32} {b : Bool} (hW : mW J A T n (zR4 T n z)) (hr : rP I J) (hn : nr < 10) (h4 : (zR4 T n z).1 = 0) (hD : qD nr nu C A) (el : li = zRl T n z) (ed : da = zRd T n z) (hl : vC li) (hd : vC da) (eb : b = zW T n (tw 6) (zR3 T n z)) : rB I A T n (sRole T n (nr, nu, fp, C, z)) J (up2 (up2 (up2 (up2 A 3 (4 + 3 * nr) li) 3 (4 + 3 * nr + 1) da) 3 (4 + 3 * nr + 2) (bI b)) 3 0 (nI (nr + 1))) := by
  rw [sRole_y (by omega) h4]
  refine ⟨⟨mW_ext rfl hW, hr⟩, fun a ha => ?_, fun x hx => ?_, fun _ => ?_⟩
  · rw [up2_row ha, up2_row ha, up2_row ha, up2_row ha]
  · rw [q4_at, if_neg (by omega), if_neg (by omega), if_neg (by omega), if_neg (by omega)]
  · have h := qD_role (b := b) hD hn hl hd
    subst el ed eb
    exact h
theorem dk_r {x : Int32} (h : ∃ k : Nat, k < 256 ∧ x = nI k) : ∃ k : Nat, k < 256 ∧ 255 - x = nI k := by
  obtain ⟨k, hk, rfl⟩ := h
  exact ⟨255 - k, by omega, pk_sub (a := 255) (b := k) (by omega)⟩
set_option maxHeartbeats 8000000 in
set_option maxRecDepth 100000 in
theorem c_X7_readRole (l : Launch) (E : En) (I A : Nat → Nat → Int32) (K : Nat → Nat → Int64) (T : Nat → Int32) (n : Nat) (z : Tz) (C : Nat → Nat → Int32) (nr nu : Nat) (fp : Option Nat) (hE : Ev mN E) (hW : mW I A T n (zA T n z)) (h0 : z.1 = 0) (hD : qD nr nu C A) : Met l yX7_readRole (wz yX7_readRole cX7_readRole 8 none) (rmk 5 0 0 115) (va_Pc [.ref (eP E 0), .int (nI (tkB T n z.2))] (Bw mN E mK (I, A, K))) (qWv mN E mK (fun uu => ∃ J B, rB I A T n (sRole T n (nr, nu, fp, C, z)) J B ∧ uu = (J, B, K))) 0 0 (cA mN E) := by
  refine en_ofW RX7 rfl (by decide +kernel) (Nat.le_of_ble_eq_true rfl) ?_
  intro p e s m below meth c ls S hr hlk hnm hl hB
  have hx := S.1
  have hb := S.2.1
  obtain ⟨hK, hC, hP⟩ := hB
  have hS : va_S (cA mN E) s.heap s.heap [] := va_S.rf
  have hl : lv_has ls 8 [(0, .ref (eP E 0)), (1, .int (nI (tkB T n z.2)))] := hl
  obtain ⟨⟨hn3, hTT, hzn⟩, h5c, h5p, h5e⟩ := id hW
  obtain ⟨⟨hd1, hd2⟩, ⟨hd3, hd4⟩, hd5, hd6⟩ := id hD
  refine lv_aload_n hx hb dX7_readRole_0 rfl (lv_at hl 0 rfl) ?_
  refine rw_getr (x := (I, A, K)) S hK hP 0 (by decide) rfl fk_X7_20 rfl dX7_readRole_1 ?_
  refine lv_iconst (v := 0) hx hb dX7_readRole_4 (by decide) ?_
  refine rw_iald (x := (I, A, K)) (v := nI nr) S hK hP 3 (by decide) rfl 0 rfl (by decide) (by decide) hd3 dX7_readRole_5 ?_
  refine lv_bipush (v := 10) hx hb dX7_readRole_6 (by decide) ?_
  refine lv_icmp_ne (tgt := 18) hx hb dX7_readRole_8 (by decide) (fun h8 => ?_) (fun h8 => ?_)
  · have hnr : nr < 10 := (Nat.lt_or_ge nr 10).elim id (fun g => absurd (show nI nr = (10 : Int32) by rw [show nr = 10 by omega]; rfl) h8)
    refine lv_aload_n hx hb dX7_readRole_18 rfl (lv_at hl 0 rfl) ?_
    refine lv_iconst (v := 0) hx hb dX7_readRole_19 (by decide) ?_
    refine lv_sipush (v := 255) hx hb dX7_readRole_20 (by decide) ?_
    refine cn_wi (ck_V (a := eP E 0) S lk_X7_113 (c_X7_number l E I A K T n (zA T n z) 0 255 hE hW) ⟨rfl, rfl⟩ ⟨Nat.le_of_ble_eq_true rfl, Nat.le_of_ble_eq_true rfl⟩ bl_w (rc_w hK hP 0 (by decide) rfl rfl) (bw_U hE hK hC hP hS) rfl hl.1 (Nat.le_of_ble_eq_true rfl) ⟨Nat.le_refl _, Nat.le_refl _⟩ dX7_readRole_23 rfl) hS (fun r1 u2 H locs g3 hP hS => ?_)
    obtain ⟨J4, hW4, hp4, hn4, hv4, rfl⟩ : ∃ oj, mW oj A T n (zNz T n 0 255 (zA T n z)) ∧ rP I oj ∧ (zN T n (zA T n z) = true → oj 0 12 = nI (tkB T n (zA T n z).2)) ∧ ((zNz T n 0 255 (zA T n z)).1 = 0 → r1 = zNv T n 0 255 (zA T n z)) ∧ u2 = (oj, A, K) := g3
    have hP : Wp mN E mK (J4, A, K) H := hP
    have hr4 := rP_tr rP_rf hp4
    have hW4 : mW J4 A T n (zC1 T n (zA T n z)) := hW4
    refine lv_istore_n (lv' := [(2, .int r1), (0, .ref (eP E 0)), (1, .int (nI (tkB T n z.2)))]) hx hb dX7_readRole_26 rfl hl (by decide) rfl (fun ls hl => ?_)
    refine lv_aload_n hx hb dX7_readRole_27 rfl (lv_at hl 1 rfl) ?_
    refine lv_iconst (v := 0) hx hb dX7_readRole_28 (by decide) ?_
    refine lv_sipush (v := 255) hx hb dX7_readRole_29 (by decide) ?_
    refine cn_wi (ck_V (a := eP E 0) S lk_X7_113 (c_X7_number l E J4 A K T n (zC1 T n (zA T n z)) 0 255 hE hW4) ⟨rfl, rfl⟩ ⟨Nat.le_of_ble_eq_true rfl, Nat.le_of_ble_eq_true rfl⟩ bl_w (rc_w hK hP 0 (by decide) rfl rfl) (bw_U hE hK hC hP hS) rfl hl.1 (Nat.le_of_ble_eq_true rfl) ⟨Nat.le_refl _, Nat.le_refl _⟩ dX7_readRole_32 rfl) hS (fun r5 u6 H locs g7 hP hS => ?_)
    obtain ⟨J8, hW8, hp8, hn8, hv8, rfl⟩ : ∃ oj, mW oj A T n (zNz T n 0 255 (zC1 T n (zA T n z))) ∧ rP J4 oj ∧ (zN T n (zC1 T n (zA T n z)) = true → oj 0 12 = nI (tkB T n (zC1 T n (zA T n z)).2)) ∧ ((zNz T n 0 255 (zC1 T n (zA T n z))).1 = 0 → r5 = zNv T n 0 255 (zC1 T n (zA T n z))) ∧ u6 = (oj, A, K) := g7
    have hP : Wp mN E mK (J8, A, K) H := hP
    have hr8 := rP_tr hr4 hp8
    have hW8 : mW J8 A T n (zC2 T n (zA T n z)) := hW8
    refine lv_istore_n (lv' := [(3, .int r5), (2, .int r1), (0, .ref (eP E 0)), (1, .int (nI (tkB T n z.2)))]) hx hb dX7_readRole_35 rfl hl (by decide) rfl (fun ls hl => ?_)
    refine lv_aload_n hx hb dX7_readRole_36 rfl (lv_at hl 2 rfl) ?_
    refine lv_iconst (v := 0) hx hb dX7_readRole_37 (by decide) ?_
    refine lv_sipush (v := 255) hx hb dX7_readRole_38 (by decide) ?_
    refine cn_wi (ck_V (a := eP E 0) S lk_X7_113 (c_X7_number l E J8 A K T n (zC2 T n (zA T n z)) 0 255 hE hW8) ⟨rfl, rfl⟩ ⟨Nat.le_of_ble_eq_true rfl, Nat.le_of_ble_eq_true rfl⟩ bl_w (rc_w hK hP 0 (by decide) rfl rfl) (bw_U hE hK hC hP hS) rfl hl.1 (Nat.le_of_ble_eq_true rfl) ⟨Nat.le_refl _, Nat.le_refl _⟩ dX7_readRole_41 rfl) hS (fun r9 u10 H locs g11 hP hS => ?_)
    obtain ⟨J12, hW12, hp12, hn12, hv12, rfl⟩ : ∃ oj, mW oj A T n (zNz T n 0 255 (zC2 T n (zA T n z))) ∧ rP J8 oj ∧ (zN T n (zC2 T n (zA T n z)) = true → oj 0 12 = nI (tkB T n (zC2 T n (zA T n z)).2)) ∧ ((zNz T n 0 255 (zC2 T n (zA T n z))).1 = 0 → r9 = zNv T n 0 255 (zC2 T n (zA T n z))) ∧ u10 = (oj, A, K) := g11
    have hP : Wp mN E mK (J12, A, K) H := hP
    have hr12 := rP_tr hr8 hp12
    have hW12 : mW J12 A T n (zR2 T n z) := hW12
    refine lv_istore (lv' := [(4, .int r9), (3, .int r5), (2, .int r1), (0, .ref (eP E 0)), (1, .int (nI (tkB T n z.2)))]) hx hb dX7_readRole_44 hl (by decide) rfl (fun ls hl => ?_)
    refine lv_sipush (v := 255) hx hb dX7_readRole_46 (by decide) ?_
    refine lv_iload_n hx hb dX7_readRole_49 rfl (lv_at hl 2 rfl) ?_
    refine lv_isub hx hb dX7_readRole_50 ?_
    refine lv_sipush (v := 255) hx hb dX7_readRole_51 (by decide) ?_
    refine lv_iload_n hx hb dX7_readRole_54 rfl (lv_at hl 1 rfl) ?_
    refine lv_isub hx hb dX7_readRole_55 ?_
    refine lv_sipush (v := 255) hx hb dX7_readRole_56 (by decide) ?_
    refine lv_iload hx hb dX7_readRole_59 (lv_at hl 0 rfl) ?_
    refine lv_isub hx hb dX7_readRole_61 ?_
    refine cn_si (ck_S S lk_X7_128 (c_X7_mixed l (255 - r1) (255 - r5) (255 - r9)) ⟨rfl, rfl⟩ ⟨Nat.le_of_ble_eq_true rfl, Nat.le_of_ble_eq_true rfl⟩ bl_T t_U rfl hl.1 (Nat.le_of_ble_eq_true rfl) ⟨Nat.le_refl _, Nat.le_refl _⟩ dX7_readRole_62 rfl) (fun r13 g14 => ?_)
    obtain rfl : r13 = pMix (255 - r1) (255 - r5) (255 - r9) := g14
    refine lv_istore (lv' := [(5, .int (pMix (255 - r1) (255 - r5) (255 - r9))), (4, .int r9), (3, .int r5), (2, .int r1), (0, .ref (eP E 0)), (1, .int (nI (tkB T n z.2)))]) hx hb dX7_readRole_65 hl (by decide) rfl (fun ls hl => ?_)
    refine lv_aload_n hx hb dX7_readRole_67 rfl (lv_at hl 4 rfl) ?_
    refine va_ldcS (q := eS E 14) (tx := "dark") hx hb S.2.2.2.1 (tr_14 hC.1.2.1) dX7_readRole_68 ?_
    refine cn_wi (ck_V (a := eP E 0) S lk_X7_107 (c_X7_takeWord l E J12 A K T n (zR2 T n z) 14 hE hW12 (by decide)) ⟨rfl, rfl⟩ ⟨Nat.le_of_ble_eq_true rfl, Nat.le_of_ble_eq_true rfl⟩ bl_w (rc_w hK hP 0 (by decide) rfl rfl) (bw_U hE hK hC hP hS) rfl hl.1 (Nat.le_of_ble_eq_true rfl) ⟨Nat.le_refl _, Nat.le_refl _⟩ dX7_readRole_70 rfl) hS (fun r15 u16 H locs g17 hP hS => ?_)
    obtain ⟨hb18, J18, hW18, hp18, rfl⟩ : r15 = bI (zW T n (tw 14) (zR2 T n z)) ∧ (∃ oj, mW oj A T n (zPW T n (tw 14) (zR2 T n z)) ∧ rP J12 oj ∧ u16 = (oj, A, K)) := g17
    refine tp_i (y := bI (zW T n (tw 14) (zR2 T n z))) hb18 ?_
    have hP : Wp mN E mK (J18, A, K) H := hP
    have hr18 := rP_tr hr12 hp18
    rw [tw_14] at hW18
    refine tp_i (y := (bI (zW T n (tw 5) (zR2 T n z)))) (by rw [tw_14]) ?_
    refine lv_if_eq (tgt := 113) hx hb dX7_readRole_73 (by decide) (fun h73 => ?_) (fun h73 => ?_)
    · have q5 : zW T n (tw 5) (zR2 T n z) = false := bI_f h73
      have e3 : zR3 T n z = (zR2 T n z) := if_neg (ne_t q5)
      rw [zPW_f q5] at hW18
      refine lv_aload_n hx hb dX7_readRole_113 rfl (lv_at hl 4 rfl) ?_
      refine va_ldcS (q := eS E 15) (tx := "fixed") hx hb S.2.2.2.1 (tr_15 hC.1.2.1) dX7_readRole_114 ?_
      refine cn_wi (ck_V (a := eP E 0) S lk_X7_107 (c_X7_takeWord l E J18 A K T n (zR2 T n z) 15 hE hW18 (by decide)) ⟨rfl, rfl⟩ ⟨Nat.le_of_ble_eq_true rfl, Nat.le_of_ble_eq_true rfl⟩ bl_w (rc_w hK hP 0 (by decide) rfl rfl) (bw_U hE hK hC hP hS) rfl hl.1 (Nat.le_of_ble_eq_true rfl) ⟨Nat.le_refl _, Nat.le_refl _⟩ dX7_readRole_116 rfl) hS (fun r19 u20 H locs g21 hP hS => ?_)
      obtain ⟨hb22, J22, hW22, hp22, rfl⟩ : r19 = bI (zW T n (tw 15) (zR2 T n z)) ∧ (∃ oj, mW oj A T n (zPW T n (tw 15) (zR2 T n z)) ∧ rP J18 oj ∧ u20 = (oj, A, K)) := g21
      refine tp_i (y := bI (zW T n (tw 15) (zR2 T n z))) hb22 ?_
      have hP : Wp mN E mK (J22, A, K) H := hP
      have hr22 := rP_tr hr18 hp22
      rw [tw_15] at hW22
      refine tp_i (y := (bI (zW T n (tw 6) (zR2 T n z)))) (by rw [tw_15]) ?_
      refine lv_istore (lv' := [(6, .int (bI (zW T n (tw 6) (zR2 T n z)))), (5, .int (pMix (255 - r1) (255 - r5) (255 - r9))), (4, .int r9), (3, .int r5), (2, .int r1), (0, .ref (eP E 0)), (1, .int (nI (tkB T n z.2)))]) hx hb dX7_readRole_119 hl (by decide) rfl (fun ls hl => ?_)
      refine lv_aload_n hx hb dX7_readRole_121 rfl (lv_at hl 5 rfl) ?_
      refine cn_si (ck_V (a := eP E 0) S lk_X7_62 (c_X7_isGood l E J22 A K hE) ⟨rfl, rfl⟩ ⟨Nat.le_of_ble_eq_true rfl, Nat.le_of_ble_eq_true rfl⟩ bl_w (rc_w hK hP 0 (by decide) rfl rfl) (bw_U hE hK hC hP hS) rfl hl.1 (Nat.le_of_ble_eq_true rfl) ⟨Nat.le_refl _, Nat.le_refl _⟩ dX7_readRole_122 rfl) (fun r23 g24 => ?_)
      obtain rfl : r23 = bI (decide (J22 0 5 = 0)) := g24
      refine lv_if_ne (tgt := 129) hx hb dX7_readRole_125 (by decide) (fun h125 => ?_) (fun h125 => ?_)
      · have hz4 : (zR4 T n z).1 = 0 := by rw [show zR4 T n z = zPW T n (tw 6) (zR3 T n z) from rfl, e3]; exact hW22.2.1.symm.trans (of_decide_eq_true (bI_t h125))
        have hz3 : (zR3 T n z).1 = 0 := zMo_PW (w := tw 6) (show (zPW T n (tw 6) (zR3 T n z)).1 = 0 from hz4)
        have g4 : (zNz T n 0 255 (zC2 T n (zA T n z))).1 = 0 := by rw [e3] at hz3; exact hz3
        have g3 : (zNz T n 0 255 (zC1 T n (zA T n z))).1 = 0 := zMo_NN g4
        have g2 : (zNz T n 0 255 (zA T n z)).1 = 0 := zMo_NN g3
        have hv25 : r1 = (zNv T n 0 255 (zA T n z)) := hv4 g2
        rw [hv25] at hl
        have hv26 : r5 = (zNv T n 0 255 (zC1 T n (zA T n z))) := hv8 g3
        rw [hv26] at hl
        have hv27 : r9 = (zNv T n 0 255 (zC2 T n (zA T n z))) := hv12 g4
        rw [hv27] at hl
        refine lv_aload_n hx hb dX7_readRole_129 rfl (lv_at hl 5 rfl) ?_
        refine rw_getr (x := (J22, A, K)) S hK hP 0 (by decide) rfl fk_X7_20 rfl dX7_readRole_130 ?_
        refine lv_iconst (v := 0) hx hb dX7_readRole_133 (by decide) ?_
        refine rw_iald (x := (J22, A, K)) (v := nI nr) S hK hP 3 (by decide) rfl 0 rfl (by decide) (by decide) hd3 dX7_readRole_134 ?_
        refine cn_si (ck_S S lk_X7_136 (c_X7_roleN l nr) ⟨rfl, rfl⟩ ⟨Nat.le_of_ble_eq_true rfl, Nat.le_of_ble_eq_true rfl⟩ bl_T t_U rfl hl.1 (Nat.le_of_ble_eq_true rfl) ⟨Nat.le_refl _, Nat.le_refl _⟩ dX7_readRole_135 rfl) (fun r28 g29 => ?_)
        obtain rfl : r28 = nI (4 + 3 * nr) := g29
        refine lv_istore (lv' := [(7, .int (nI (4 + 3 * nr))), (6, .int (bI (zW T n (tw 6) (zR2 T n z)))), (5, .int (pMix (255 - (zNv T n 0 255 (zA T n z))) (255 - (zNv T n 0 255 (zC1 T n (zA T n z)))) (255 - (zNv T n 0 255 (zC2 T n (zA T n z)))))), (4, .int (zNv T n 0 255 (zC2 T n (zA T n z)))), (3, .int (zNv T n 0 255 (zC1 T n (zA T n z)))), (2, .int (zNv T n 0 255 (zA T n z))), (0, .ref (eP E 0)), (1, .int (nI (tkB T n z.2)))]) hx hb dX7_readRole_138 hl (by decide) rfl (fun ls hl => ?_)
        refine lv_aload_n hx hb dX7_readRole_140 rfl (lv_at hl 6 rfl) ?_
        refine rw_getr (x := (J22, A, K)) S hK hP 0 (by decide) rfl fk_X7_20 rfl dX7_readRole_141 ?_
        refine lv_iload hx hb dX7_readRole_144 (lv_at hl 0 rfl) ?_
        refine lv_iload_n hx hb dX7_readRole_146 rfl (lv_at hl 5 rfl) ?_
        refine lv_iload_n hx hb dX7_readRole_147 rfl (lv_at hl 4 rfl) ?_
        refine lv_iload hx hb dX7_readRole_148 (lv_at hl 3 rfl) ?_
        refine cn_si (ck_S S lk_X7_128 (c_X7_mixed l (zNv T n 0 255 (zA T n z)) (zNv T n 0 255 (zC1 T n (zA T n z))) (zNv T n 0 255 (zC2 T n (zA T n z)))) ⟨rfl, rfl⟩ ⟨Nat.le_of_ble_eq_true rfl, Nat.le_of_ble_eq_true rfl⟩ bl_T t_U rfl hl.1 (Nat.le_of_ble_eq_true rfl) ⟨Nat.le_refl _, Nat.le_refl _⟩ dX7_readRole_150 rfl) (fun r30 g31 => ?_)
        obtain rfl : r30 = pMix (zNv T n 0 255 (zA T n z)) (zNv T n 0 255 (zC1 T n (zA T n z))) (zNv T n 0 255 (zC2 T n (zA T n z))) := g31
        refine rw_iast (x := (J22, A, K)) (v := (pMix (zNv T n 0 255 (zA T n z)) (zNv T n 0 255 (zC1 T n (zA T n z))) (zNv T n 0 255 (zC2 T n (zA T n z))))) S hE hK hP hS 3 (by decide) rfl (4 + 3 * nr) rfl (by omega) (by decide) dX7_readRole_153 (fun H locs hP hS => ?_)
        have hP : Wp mN E mK (J22, (up2 A 3 (4 + 3 * nr) (pMix (zNv T n 0 255 (zA T n z)) (zNv T n 0 255 (zC1 T n (zA T n z))) (zNv T n 0 255 (zC2 T n (zA T n z))))), K) H := hP
        refine lv_aload_n hx hb dX7_readRole_154 rfl (lv_at hl 6 rfl) ?_
        refine rw_getr (x := (J22, (up2 A 3 (4 + 3 * nr) (pMix (zNv T n 0 255 (zA T n z)) (zNv T n 0 255 (zC1 T n (zA T n z))) (zNv T n 0 255 (zC2 T n (zA T n z))))), K)) S hK hP 0 (by decide) rfl fk_X7_20 rfl dX7_readRole_155 ?_
        refine lv_iload hx hb dX7_readRole_158 (lv_at hl 0 rfl) ?_
        refine lv_iconst (v := 1) hx hb dX7_readRole_160 (by decide) ?_
        refine lv_iadd hx hb dX7_readRole_161 ?_
        refine tp_i (y := nI ((4 + 3 * nr) + 1)) (nI_add (4 + 3 * nr) 1) ?_
        refine lv_iload hx hb dX7_readRole_162 (lv_at hl 2 rfl) ?_
        refine rw_iast (x := (J22, (up2 A 3 (4 + 3 * nr) (pMix (zNv T n 0 255 (zA T n z)) (zNv T n 0 255 (zC1 T n (zA T n z))) (zNv T n 0 255 (zC2 T n (zA T n z))))), K)) (v := (pMix (255 - (zNv T n 0 255 (zA T n z))) (255 - (zNv T n 0 255 (zC1 T n (zA T n z)))) (255 - (zNv T n 0 255 (zC2 T n (zA T n z)))))) S hE hK hP hS 3 (by decide) rfl ((4 + 3 * nr) + 1) rfl (by omega) (by decide) dX7_readRole_164 (fun H locs hP hS => ?_)
        have hP : Wp mN E mK (J22, (up2 (up2 A 3 (4 + 3 * nr) (pMix (zNv T n 0 255 (zA T n z)) (zNv T n 0 255 (zC1 T n (zA T n z))) (zNv T n 0 255 (zC2 T n (zA T n z))))) 3 ((4 + 3 * nr) + 1) (pMix (255 - (zNv T n 0 255 (zA T n z))) (255 - (zNv T n 0 255 (zC1 T n (zA T n z)))) (255 - (zNv T n 0 255 (zC2 T n (zA T n z)))))), K) H := hP
        refine lv_aload_n hx hb dX7_readRole_165 rfl (lv_at hl 6 rfl) ?_
        refine rw_getr (x := (J22, (up2 (up2 A 3 (4 + 3 * nr) (pMix (zNv T n 0 255 (zA T n z)) (zNv T n 0 255 (zC1 T n (zA T n z))) (zNv T n 0 255 (zC2 T n (zA T n z))))) 3 ((4 + 3 * nr) + 1) (pMix (255 - (zNv T n 0 255 (zA T n z))) (255 - (zNv T n 0 255 (zC1 T n (zA T n z)))) (255 - (zNv T n 0 255 (zC2 T n (zA T n z)))))), K)) S hK hP 0 (by decide) rfl fk_X7_20 rfl dX7_readRole_166 ?_
        refine lv_iload hx hb dX7_readRole_169 (lv_at hl 0 rfl) ?_
        refine lv_iconst (v := 2) hx hb dX7_readRole_171 (by decide) ?_
        refine lv_iadd hx hb dX7_readRole_172 ?_
        refine tp_i (y := nI ((4 + 3 * nr) + 2)) (nI_add (4 + 3 * nr) 2) ?_
        refine lv_iload hx hb dX7_readRole_173 (lv_at hl 1 rfl) ?_
        refine lv_if_eq (tgt := 182) hx hb dX7_readRole_175 (by decide) (fun h175 => ?_) (fun h175 => ?_)
        · refine lv_iconst (v := 0) hx hb dX7_readRole_182 (by decide) ?_
          refine rw_iast (x := (J22, (up2 (up2 A 3 (4 + 3 * nr) (pMix (zNv T n 0 255 (zA T n z)) (zNv T n 0 255 (zC1 T n (zA T n z))) (zNv T n 0 255 (zC2 T n (zA T n z))))) 3 ((4 + 3 * nr) + 1) (pMix (255 - (zNv T n 0 255 (zA T n z))) (255 - (zNv T n 0 255 (zC1 T n (zA T n z)))) (255 - (zNv T n 0 255 (zC2 T n (zA T n z)))))), K)) (v := 0) S hE hK hP hS 3 (by decide) rfl ((4 + 3 * nr) + 2) rfl (by omega) (by decide) dX7_readRole_183 (fun H locs hP hS => ?_)
          have hP : Wp mN E mK (J22, (up2 (up2 (up2 A 3 (4 + 3 * nr) (pMix (zNv T n 0 255 (zA T n z)) (zNv T n 0 255 (zC1 T n (zA T n z))) (zNv T n 0 255 (zC2 T n (zA T n z))))) 3 ((4 + 3 * nr) + 1) (pMix (255 - (zNv T n 0 255 (zA T n z))) (255 - (zNv T n 0 255 (zC1 T n (zA T n z)))) (255 - (zNv T n 0 255 (zC2 T n (zA T n z)))))) 3 ((4 + 3 * nr) + 2) 0), K) H := hP
          refine lv_aload_n hx hb dX7_readRole_184 rfl (lv_at hl 6 rfl) ?_
          refine rw_getr (x := (J22, (up2 (up2 (up2 A 3 (4 + 3 * nr) (pMix (zNv T n 0 255 (zA T n z)) (zNv T n 0 255 (zC1 T n (zA T n z))) (zNv T n 0 255 (zC2 T n (zA T n z))))) 3 ((4 + 3 * nr) + 1) (pMix (255 - (zNv T n 0 255 (zA T n z))) (255 - (zNv T n 0 255 (zC1 T n (zA T n z)))) (255 - (zNv T n 0 255 (zC2 T n (zA T n z)))))) 3 ((4 + 3 * nr) + 2) 0), K)) S hK hP 0 (by decide) rfl fk_X7_20 rfl dX7_readRole_185 ?_
          refine lv_iconst (v := 0) hx hb dX7_readRole_188 (by decide) ?_
          refine lv_dup2_11 hx hb dX7_readRole_189 rfl rfl ?_
          refine rw_iald (x := (J22, (up2 (up2 (up2 A 3 (4 + 3 * nr) (pMix (zNv T n 0 255 (zA T n z)) (zNv T n 0 255 (zC1 T n (zA T n z))) (zNv T n 0 255 (zC2 T n (zA T n z))))) 3 ((4 + 3 * nr) + 1) (pMix (255 - (zNv T n 0 255 (zA T n z))) (255 - (zNv T n 0 255 (zC1 T n (zA T n z)))) (255 - (zNv T n 0 255 (zC2 T n (zA T n z)))))) 3 ((4 + 3 * nr) + 2) 0), K)) (v := nI nr) S hK hP 3 (by decide) rfl 0 rfl (by decide) (by decide) (show (up2 (up2 (up2 A 3 (4 + 3 * nr) (pMix (zNv T n 0 255 (zA T n z)) (zNv T n 0 255 (zC1 T n (zA T n z))) (zNv T n 0 255 (zC2 T n (zA T n z))))) 3 ((4 + 3 * nr) + 1) (pMix (255 - (zNv T n 0 255 (zA T n z))) (255 - (zNv T n 0 255 (zC1 T n (zA T n z)))) (255 - (zNv T n 0 255 (zC2 T n (zA T n z)))))) 3 ((4 + 3 * nr) + 2) 0) 3 0 = nI nr from qv3.trans hd3) dX7_readRole_190 ?_
          refine lv_iconst (v := 1) hx hb dX7_readRole_191 (by decide) ?_
          refine lv_iadd hx hb dX7_readRole_192 ?_
          refine tp_i (y := nI (nr + 1)) (nI_add nr 1) ?_
          refine rw_iast (x := (J22, (up2 (up2 (up2 A 3 (4 + 3 * nr) (pMix (zNv T n 0 255 (zA T n z)) (zNv T n 0 255 (zC1 T n (zA T n z))) (zNv T n 0 255 (zC2 T n (zA T n z))))) 3 ((4 + 3 * nr) + 1) (pMix (255 - (zNv T n 0 255 (zA T n z))) (255 - (zNv T n 0 255 (zC1 T n (zA T n z)))) (255 - (zNv T n 0 255 (zC2 T n (zA T n z)))))) 3 ((4 + 3 * nr) + 2) 0), K)) (v := (nI (nr + 1))) S hE hK hP hS 3 (by decide) rfl 0 rfl (by decide) (by decide) dX7_readRole_193 (fun H locs hP hS => ?_)
          have hP : Wp mN E mK (J22, (up2 (up2 (up2 (up2 A 3 (4 + 3 * nr) (pMix (zNv T n 0 255 (zA T n z)) (zNv T n 0 255 (zC1 T n (zA T n z))) (zNv T n 0 255 (zC2 T n (zA T n z))))) 3 ((4 + 3 * nr) + 1) (pMix (255 - (zNv T n 0 255 (zA T n z))) (255 - (zNv T n 0 255 (zC1 T n (zA T n z)))) (255 - (zNv T n 0 255 (zC2 T n (zA T n z)))))) 3 ((4 + 3 * nr) + 2) 0) 3 0 (nI (nr + 1))), K) H := hP
          exact re_wv (x := (J22, (up2 (up2 (up2 (up2 A 3 (4 + 3 * nr) (pMix (zNv T n 0 255 (zA T n z)) (zNv T n 0 255 (zC1 T n (zA T n z))) (zNv T n 0 255 (zC2 T n (zA T n z))))) 3 ((4 + 3 * nr) + 1) (pMix (255 - (zNv T n 0 255 (zA T n z))) (255 - (zNv T n 0 255 (zC1 T n (zA T n z)))) (255 - (zNv T n 0 255 (zC2 T n (zA T n z)))))) 3 ((4 + 3 * nr) + 2) 0) 3 0 (nI (nr + 1))), K)) hx hb hr hlk hP hS ⟨_, _, rB_role (b := false) (by rw [show zR4 T n z = zPW T n (tw 6) (zR3 T n z) from rfl, e3]; exact hW22) hr22 hnr hz4 hD rfl (by unfold zRd; rw [if_neg (ne_t q5)]; exact dark_eq zNv_r zNv_r zNv_r) vC_cv (vC_mix (dk_r zNv_r) (dk_r zNv_r) (dk_r zNv_r)) (by rw [e3]; exact (bI_f h175).symm), rfl⟩ dX7_readRole_194
        · refine lv_iconst (v := 1) hx hb dX7_readRole_178 (by decide) ?_
          refine lv_goto (tgt := 183) hx hb dX7_readRole_179 (by decide) ?_
          refine rw_iast (x := (J22, (up2 (up2 A 3 (4 + 3 * nr) (pMix (zNv T n 0 255 (zA T n z)) (zNv T n 0 255 (zC1 T n (zA T n z))) (zNv T n 0 255 (zC2 T n (zA T n z))))) 3 ((4 + 3 * nr) + 1) (pMix (255 - (zNv T n 0 255 (zA T n z))) (255 - (zNv T n 0 255 (zC1 T n (zA T n z)))) (255 - (zNv T n 0 255 (zC2 T n (zA T n z)))))), K)) (v := 1) S hE hK hP hS 3 (by decide) rfl ((4 + 3 * nr) + 2) rfl (by omega) (by decide) dX7_readRole_183 (fun H locs hP hS => ?_)
          have hP : Wp mN E mK (J22, (up2 (up2 (up2 A 3 (4 + 3 * nr) (pMix (zNv T n 0 255 (zA T n z)) (zNv T n 0 255 (zC1 T n (zA T n z))) (zNv T n 0 255 (zC2 T n (zA T n z))))) 3 ((4 + 3 * nr) + 1) (pMix (255 - (zNv T n 0 255 (zA T n z))) (255 - (zNv T n 0 255 (zC1 T n (zA T n z)))) (255 - (zNv T n 0 255 (zC2 T n (zA T n z)))))) 3 ((4 + 3 * nr) + 2) 1), K) H := hP
          refine lv_aload_n hx hb dX7_readRole_184 rfl (lv_at hl 6 rfl) ?_
          refine rw_getr (x := (J22, (up2 (up2 (up2 A 3 (4 + 3 * nr) (pMix (zNv T n 0 255 (zA T n z)) (zNv T n 0 255 (zC1 T n (zA T n z))) (zNv T n 0 255 (zC2 T n (zA T n z))))) 3 ((4 + 3 * nr) + 1) (pMix (255 - (zNv T n 0 255 (zA T n z))) (255 - (zNv T n 0 255 (zC1 T n (zA T n z)))) (255 - (zNv T n 0 255 (zC2 T n (zA T n z)))))) 3 ((4 + 3 * nr) + 2) 1), K)) S hK hP 0 (by decide) rfl fk_X7_20 rfl dX7_readRole_185 ?_
          refine lv_iconst (v := 0) hx hb dX7_readRole_188 (by decide) ?_
          refine lv_dup2_11 hx hb dX7_readRole_189 rfl rfl ?_
          refine rw_iald (x := (J22, (up2 (up2 (up2 A 3 (4 + 3 * nr) (pMix (zNv T n 0 255 (zA T n z)) (zNv T n 0 255 (zC1 T n (zA T n z))) (zNv T n 0 255 (zC2 T n (zA T n z))))) 3 ((4 + 3 * nr) + 1) (pMix (255 - (zNv T n 0 255 (zA T n z))) (255 - (zNv T n 0 255 (zC1 T n (zA T n z)))) (255 - (zNv T n 0 255 (zC2 T n (zA T n z)))))) 3 ((4 + 3 * nr) + 2) 1), K)) (v := nI nr) S hK hP 3 (by decide) rfl 0 rfl (by decide) (by decide) (show (up2 (up2 (up2 A 3 (4 + 3 * nr) (pMix (zNv T n 0 255 (zA T n z)) (zNv T n 0 255 (zC1 T n (zA T n z))) (zNv T n 0 255 (zC2 T n (zA T n z))))) 3 ((4 + 3 * nr) + 1) (pMix (255 - (zNv T n 0 255 (zA T n z))) (255 - (zNv T n 0 255 (zC1 T n (zA T n z)))) (255 - (zNv T n 0 255 (zC2 T n (zA T n z)))))) 3 ((4 + 3 * nr) + 2) 1) 3 0 = nI nr from qv3.trans hd3) dX7_readRole_190 ?_
          refine lv_iconst (v := 1) hx hb dX7_readRole_191 (by decide) ?_
          refine lv_iadd hx hb dX7_readRole_192 ?_
          refine tp_i (y := nI (nr + 1)) (nI_add nr 1) ?_
          refine rw_iast (x := (J22, (up2 (up2 (up2 A 3 (4 + 3 * nr) (pMix (zNv T n 0 255 (zA T n z)) (zNv T n 0 255 (zC1 T n (zA T n z))) (zNv T n 0 255 (zC2 T n (zA T n z))))) 3 ((4 + 3 * nr) + 1) (pMix (255 - (zNv T n 0 255 (zA T n z))) (255 - (zNv T n 0 255 (zC1 T n (zA T n z)))) (255 - (zNv T n 0 255 (zC2 T n (zA T n z)))))) 3 ((4 + 3 * nr) + 2) 1), K)) (v := (nI (nr + 1))) S hE hK hP hS 3 (by decide) rfl 0 rfl (by decide) (by decide) dX7_readRole_193 (fun H locs hP hS => ?_)
          have hP : Wp mN E mK (J22, (up2 (up2 (up2 (up2 A 3 (4 + 3 * nr) (pMix (zNv T n 0 255 (zA T n z)) (zNv T n 0 255 (zC1 T n (zA T n z))) (zNv T n 0 255 (zC2 T n (zA T n z))))) 3 ((4 + 3 * nr) + 1) (pMix (255 - (zNv T n 0 255 (zA T n z))) (255 - (zNv T n 0 255 (zC1 T n (zA T n z)))) (255 - (zNv T n 0 255 (zC2 T n (zA T n z)))))) 3 ((4 + 3 * nr) + 2) 1) 3 0 (nI (nr + 1))), K) H := hP
          exact re_wv (x := (J22, (up2 (up2 (up2 (up2 A 3 (4 + 3 * nr) (pMix (zNv T n 0 255 (zA T n z)) (zNv T n 0 255 (zC1 T n (zA T n z))) (zNv T n 0 255 (zC2 T n (zA T n z))))) 3 ((4 + 3 * nr) + 1) (pMix (255 - (zNv T n 0 255 (zA T n z))) (255 - (zNv T n 0 255 (zC1 T n (zA T n z)))) (255 - (zNv T n 0 255 (zC2 T n (zA T n z)))))) 3 ((4 + 3 * nr) + 2) 1) 3 0 (nI (nr + 1))), K)) hx hb hr hlk hP hS ⟨_, _, rB_role (b := true) (by rw [show zR4 T n z = zPW T n (tw 6) (zR3 T n z) from rfl, e3]; exact hW22) hr22 hnr hz4 hD rfl (by unfold zRd; rw [if_neg (ne_t q5)]; exact dark_eq zNv_r zNv_r zNv_r) vC_cv (vC_mix (dk_r zNv_r) (dk_r zNv_r) (dk_r zNv_r)) (by rw [e3]; exact (bI_t h175).symm), rfl⟩ dX7_readRole_194
      · have hz4 : ¬ (zR4 T n z).1 = 0 := by rw [show zR4 T n z = zPW T n (tw 6) (zR3 T n z) from rfl, e3]; exact fun g => absurd (decide_eq_true (hW22.2.1.trans g)) (by rw [bI_f h125]; decide)
        exact re_wv (x := (J22, A, K)) hx hb hr hlk hP hS ⟨_, A, rB_n (sRole_n (by omega) hz4) (by rw [show zR4 T n z = zPW T n (tw 6) (zR3 T n z) from rfl, e3]; exact hW22) hr22 hz4, rfl⟩ dX7_readRole_128
    · have q5 : zW T n (tw 5) (zR2 T n z) = true := bI_t h73
      have e3 : zR3 T n z = (zCz T n (zA T n (zR2 T n z))) := if_pos q5
      rw [zPW_t q5] at hW18
      refine lv_aload_n hx hb dX7_readRole_76 rfl (lv_at hl 4 rfl) ?_
      refine lv_iconst (v := 0) hx hb dX7_readRole_77 (by decide) ?_
      refine lv_sipush (v := 255) hx hb dX7_readRole_78 (by decide) ?_
      refine cn_wi (ck_V (a := eP E 0) S lk_X7_113 (c_X7_number l E J18 A K T n (zA T n (zR2 T n z)) 0 255 hE hW18) ⟨rfl, rfl⟩ ⟨Nat.le_of_ble_eq_true rfl, Nat.le_of_ble_eq_true rfl⟩ bl_w (rc_w hK hP 0 (by decide) rfl rfl) (bw_U hE hK hC hP hS) rfl hl.1 (Nat.le_of_ble_eq_true rfl) ⟨Nat.le_refl _, Nat.le_refl _⟩ dX7_readRole_81 rfl) hS (fun r32 u33 H locs g34 hP hS => ?_)
      obtain ⟨J35, hW35, hp35, hn35, hv35, rfl⟩ : ∃ oj, mW oj A T n (zNz T n 0 255 (zA T n (zR2 T n z))) ∧ rP J18 oj ∧ (zN T n (zA T n (zR2 T n z)) = true → oj 0 12 = nI (tkB T n (zA T n (zR2 T n z)).2)) ∧ ((zNz T n 0 255 (zA T n (zR2 T n z))).1 = 0 → r32 = zNv T n 0 255 (zA T n (zR2 T n z))) ∧ u33 = (oj, A, K) := g34
      have hP : Wp mN E mK (J35, A, K) H := hP
      have hr35 := rP_tr hr18 hp35
      have hW35 : mW J35 A T n (zC1 T n (zA T n (zR2 T n z))) := hW35
      refine lv_istore (lv' := [(6, .int r32), (5, .int (pMix (255 - r1) (255 - r5) (255 - r9))), (4, .int r9), (3, .int r5), (2, .int r1), (0, .ref (eP E 0)), (1, .int (nI (tkB T n z.2)))]) hx hb dX7_readRole_84 hl (by decide) rfl (fun ls hl => ?_)
      refine lv_aload_n hx hb dX7_readRole_86 rfl (lv_at hl 5 rfl) ?_
      refine lv_iconst (v := 0) hx hb dX7_readRole_87 (by decide) ?_
      refine lv_sipush (v := 255) hx hb dX7_readRole_88 (by decide) ?_
      refine cn_wi (ck_V (a := eP E 0) S lk_X7_113 (c_X7_number l E J35 A K T n (zC1 T n (zA T n (zR2 T n z))) 0 255 hE hW35) ⟨rfl, rfl⟩ ⟨Nat.le_of_ble_eq_true rfl, Nat.le_of_ble_eq_true rfl⟩ bl_w (rc_w hK hP 0 (by decide) rfl rfl) (bw_U hE hK hC hP hS) rfl hl.1 (Nat.le_of_ble_eq_true rfl) ⟨Nat.le_refl _, Nat.le_refl _⟩ dX7_readRole_91 rfl) hS (fun r36 u37 H locs g38 hP hS => ?_)
      obtain ⟨J39, hW39, hp39, hn39, hv39, rfl⟩ : ∃ oj, mW oj A T n (zNz T n 0 255 (zC1 T n (zA T n (zR2 T n z)))) ∧ rP J35 oj ∧ (zN T n (zC1 T n (zA T n (zR2 T n z))) = true → oj 0 12 = nI (tkB T n (zC1 T n (zA T n (zR2 T n z))).2)) ∧ ((zNz T n 0 255 (zC1 T n (zA T n (zR2 T n z)))).1 = 0 → r36 = zNv T n 0 255 (zC1 T n (zA T n (zR2 T n z)))) ∧ u37 = (oj, A, K) := g38
      have hP : Wp mN E mK (J39, A, K) H := hP
      have hr39 := rP_tr hr35 hp39
      have hW39 : mW J39 A T n (zC2 T n (zA T n (zR2 T n z))) := hW39
      refine lv_istore (lv' := [(7, .int r36), (6, .int r32), (5, .int (pMix (255 - r1) (255 - r5) (255 - r9))), (4, .int r9), (3, .int r5), (2, .int r1), (0, .ref (eP E 0)), (1, .int (nI (tkB T n z.2)))]) hx hb dX7_readRole_94 hl (by decide) rfl (fun ls hl => ?_)
      refine lv_iload hx hb dX7_readRole_96 (lv_at hl 1 rfl) ?_
      refine lv_iload hx hb dX7_readRole_98 (lv_at hl 0 rfl) ?_
      refine lv_aload_n hx hb dX7_readRole_100 rfl (lv_at hl 6 rfl) ?_
      refine lv_iconst (v := 0) hx hb dX7_readRole_101 (by decide) ?_
      refine lv_sipush (v := 255) hx hb dX7_readRole_102 (by decide) ?_
      refine cn_wi (ck_V (a := eP E 0) S lk_X7_113 (c_X7_number l E J39 A K T n (zC2 T n (zA T n (zR2 T n z))) 0 255 hE hW39) ⟨rfl, rfl⟩ ⟨Nat.le_of_ble_eq_true rfl, Nat.le_of_ble_eq_true rfl⟩ bl_w (rc_w hK hP 0 (by decide) rfl rfl) (bw_U hE hK hC hP hS) rfl hl.1 (Nat.le_of_ble_eq_true rfl) ⟨Nat.le_refl _, Nat.le_refl _⟩ dX7_readRole_105 rfl) hS (fun r40 u41 H locs g42 hP hS => ?_)
      obtain ⟨J43, hW43, hp43, hn43, hv43, rfl⟩ : ∃ oj, mW oj A T n (zNz T n 0 255 (zC2 T n (zA T n (zR2 T n z)))) ∧ rP J39 oj ∧ (zN T n (zC2 T n (zA T n (zR2 T n z))) = true → oj 0 12 = nI (tkB T n (zC2 T n (zA T n (zR2 T n z))).2)) ∧ ((zNz T n 0 255 (zC2 T n (zA T n (zR2 T n z)))).1 = 0 → r40 = zNv T n 0 255 (zC2 T n (zA T n (zR2 T n z)))) ∧ u41 = (oj, A, K) := g42
      have hP : Wp mN E mK (J43, A, K) H := hP
      have hr43 := rP_tr hr39 hp43
      have hW43 : mW J43 A T n (zCz T n (zA T n (zR2 T n z))) := hW43
      refine cn_si (ck_S S lk_X7_128 (c_X7_mixed l r32 r36 r40) ⟨rfl, rfl⟩ ⟨Nat.le_of_ble_eq_true rfl, Nat.le_of_ble_eq_true rfl⟩ bl_T t_U rfl hl.1 (Nat.le_of_ble_eq_true rfl) ⟨Nat.le_refl _, Nat.le_refl _⟩ dX7_readRole_108 rfl) (fun r44 g45 => ?_)
      obtain rfl : r44 = pMix r32 r36 r40 := g45
      refine lv_istore (lv' := [(5, .int (pMix r32 r36 r40)), (7, .int r36), (6, .int r32), (4, .int r9), (3, .int r5), (2, .int r1), (0, .ref (eP E 0)), (1, .int (nI (tkB T n z.2)))]) hx hb dX7_readRole_111 hl (by decide) rfl (fun ls hl => ?_)
      refine lv_aload_n hx hb dX7_readRole_113 rfl (lv_at hl 6 rfl) ?_
      refine va_ldcS (q := eS E 15) (tx := "fixed") hx hb S.2.2.2.1 (tr_15 hC.1.2.1) dX7_readRole_114 ?_
      refine cn_wi (ck_V (a := eP E 0) S lk_X7_107 (c_X7_takeWord l E J43 A K T n (zCz T n (zA T n (zR2 T n z))) 15 hE hW43 (by decide)) ⟨rfl, rfl⟩ ⟨Nat.le_of_ble_eq_true rfl, Nat.le_of_ble_eq_true rfl⟩ bl_w (rc_w hK hP 0 (by decide) rfl rfl) (bw_U hE hK hC hP hS) rfl hl.1 (Nat.le_of_ble_eq_true rfl) ⟨Nat.le_refl _, Nat.le_refl _⟩ dX7_readRole_116 rfl) hS (fun r46 u47 H locs g48 hP hS => ?_)
      obtain ⟨hb49, J49, hW49, hp49, rfl⟩ : r46 = bI (zW T n (tw 15) (zCz T n (zA T n (zR2 T n z)))) ∧ (∃ oj, mW oj A T n (zPW T n (tw 15) (zCz T n (zA T n (zR2 T n z)))) ∧ rP J43 oj ∧ u47 = (oj, A, K)) := g48
      refine tp_i (y := bI (zW T n (tw 15) (zCz T n (zA T n (zR2 T n z))))) hb49 ?_
      have hP : Wp mN E mK (J49, A, K) H := hP
      have hr49 := rP_tr hr43 hp49
      rw [tw_15] at hW49
      refine tp_i (y := (bI (zW T n (tw 6) (zCz T n (zA T n (zR2 T n z)))))) (by rw [tw_15]) ?_
      refine lv_istore (lv' := [(6, .int (bI (zW T n (tw 6) (zCz T n (zA T n (zR2 T n z)))))), (5, .int (pMix r32 r36 r40)), (7, .int r36), (4, .int r9), (3, .int r5), (2, .int r1), (0, .ref (eP E 0)), (1, .int (nI (tkB T n z.2)))]) hx hb dX7_readRole_119 hl (by decide) rfl (fun ls hl => ?_)
      refine lv_aload_n hx hb dX7_readRole_121 rfl (lv_at hl 6 rfl) ?_
      refine cn_si (ck_V (a := eP E 0) S lk_X7_62 (c_X7_isGood l E J49 A K hE) ⟨rfl, rfl⟩ ⟨Nat.le_of_ble_eq_true rfl, Nat.le_of_ble_eq_true rfl⟩ bl_w (rc_w hK hP 0 (by decide) rfl rfl) (bw_U hE hK hC hP hS) rfl hl.1 (Nat.le_of_ble_eq_true rfl) ⟨Nat.le_refl _, Nat.le_refl _⟩ dX7_readRole_122 rfl) (fun r50 g51 => ?_)
      obtain rfl : r50 = bI (decide (J49 0 5 = 0)) := g51
      refine lv_if_ne (tgt := 129) hx hb dX7_readRole_125 (by decide) (fun h125 => ?_) (fun h125 => ?_)
      · have hz4 : (zR4 T n z).1 = 0 := by rw [show zR4 T n z = zPW T n (tw 6) (zR3 T n z) from rfl, e3]; exact hW49.2.1.symm.trans (of_decide_eq_true (bI_t h125))
        have hz3 : (zR3 T n z).1 = 0 := zMo_PW (w := tw 6) (show (zPW T n (tw 6) (zR3 T n z)).1 = 0 from hz4)
        have g8 : (zNz T n 0 255 (zC2 T n (zA T n (zR2 T n z)))).1 = 0 := by rw [e3] at hz3; exact hz3
        have g7 : (zNz T n 0 255 (zC1 T n (zA T n (zR2 T n z)))).1 = 0 := zMo_NN g8
        have g6 : (zNz T n 0 255 (zA T n (zR2 T n z))).1 = 0 := zMo_NN g7
        have g4 : (zNz T n 0 255 (zC2 T n (zA T n z))).1 = 0 := zMo_A (zMo_NN g6)
        have g3 : (zNz T n 0 255 (zC1 T n (zA T n z))).1 = 0 := zMo_NN g4
        have g2 : (zNz T n 0 255 (zA T n z)).1 = 0 := zMo_NN g3
        have hv52 : r1 = (zNv T n 0 255 (zA T n z)) := hv4 g2
        rw [hv52] at hl
        have hv53 : r5 = (zNv T n 0 255 (zC1 T n (zA T n z))) := hv8 g3
        rw [hv53] at hl
        have hv54 : r9 = (zNv T n 0 255 (zC2 T n (zA T n z))) := hv12 g4
        rw [hv54] at hl
        have hv55 : r32 = (zNv T n 0 255 (zA T n (zR2 T n z))) := hv35 g6
        rw [hv55] at hl
        have hv56 : r36 = (zNv T n 0 255 (zC1 T n (zA T n (zR2 T n z)))) := hv39 g7
        rw [hv56] at hl
        have hv57 : r40 = (zNv T n 0 255 (zC2 T n (zA T n (zR2 T n z)))) := hv43 g8
        rw [hv57] at hl
        refine lv_aload_n hx hb dX7_readRole_129 rfl (lv_at hl 6 rfl) ?_
        refine rw_getr (x := (J49, A, K)) S hK hP 0 (by decide) rfl fk_X7_20 rfl dX7_readRole_130 ?_
        refine lv_iconst (v := 0) hx hb dX7_readRole_133 (by decide) ?_
        refine rw_iald (x := (J49, A, K)) (v := nI nr) S hK hP 3 (by decide) rfl 0 rfl (by decide) (by decide) hd3 dX7_readRole_134 ?_
        refine cn_si (ck_S S lk_X7_136 (c_X7_roleN l nr) ⟨rfl, rfl⟩ ⟨Nat.le_of_ble_eq_true rfl, Nat.le_of_ble_eq_true rfl⟩ bl_T t_U rfl hl.1 (Nat.le_of_ble_eq_true rfl) ⟨Nat.le_refl _, Nat.le_refl _⟩ dX7_readRole_135 rfl) (fun r58 g59 => ?_)
        obtain rfl : r58 = nI (4 + 3 * nr) := g59
        refine lv_istore (lv' := [(7, .int (nI (4 + 3 * nr))), (6, .int (bI (zW T n (tw 6) (zCz T n (zA T n (zR2 T n z)))))), (5, .int (pMix (zNv T n 0 255 (zA T n (zR2 T n z))) (zNv T n 0 255 (zC1 T n (zA T n (zR2 T n z)))) (zNv T n 0 255 (zC2 T n (zA T n (zR2 T n z)))))), (4, .int (zNv T n 0 255 (zC2 T n (zA T n z)))), (3, .int (zNv T n 0 255 (zC1 T n (zA T n z)))), (2, .int (zNv T n 0 255 (zA T n z))), (0, .ref (eP E 0)), (1, .int (nI (tkB T n z.2)))]) hx hb dX7_readRole_138 hl (by decide) rfl (fun ls hl => ?_)
        refine lv_aload_n hx hb dX7_readRole_140 rfl (lv_at hl 6 rfl) ?_
        refine rw_getr (x := (J49, A, K)) S hK hP 0 (by decide) rfl fk_X7_20 rfl dX7_readRole_141 ?_
        refine lv_iload hx hb dX7_readRole_144 (lv_at hl 0 rfl) ?_
        refine lv_iload_n hx hb dX7_readRole_146 rfl (lv_at hl 5 rfl) ?_
        refine lv_iload_n hx hb dX7_readRole_147 rfl (lv_at hl 4 rfl) ?_
        refine lv_iload hx hb dX7_readRole_148 (lv_at hl 3 rfl) ?_
        refine cn_si (ck_S S lk_X7_128 (c_X7_mixed l (zNv T n 0 255 (zA T n z)) (zNv T n 0 255 (zC1 T n (zA T n z))) (zNv T n 0 255 (zC2 T n (zA T n z)))) ⟨rfl, rfl⟩ ⟨Nat.le_of_ble_eq_true rfl, Nat.le_of_ble_eq_true rfl⟩ bl_T t_U rfl hl.1 (Nat.le_of_ble_eq_true rfl) ⟨Nat.le_refl _, Nat.le_refl _⟩ dX7_readRole_150 rfl) (fun r60 g61 => ?_)
        obtain rfl : r60 = pMix (zNv T n 0 255 (zA T n z)) (zNv T n 0 255 (zC1 T n (zA T n z))) (zNv T n 0 255 (zC2 T n (zA T n z))) := g61
        refine rw_iast (x := (J49, A, K)) (v := (pMix (zNv T n 0 255 (zA T n z)) (zNv T n 0 255 (zC1 T n (zA T n z))) (zNv T n 0 255 (zC2 T n (zA T n z))))) S hE hK hP hS 3 (by decide) rfl (4 + 3 * nr) rfl (by omega) (by decide) dX7_readRole_153 (fun H locs hP hS => ?_)
        have hP : Wp mN E mK (J49, (up2 A 3 (4 + 3 * nr) (pMix (zNv T n 0 255 (zA T n z)) (zNv T n 0 255 (zC1 T n (zA T n z))) (zNv T n 0 255 (zC2 T n (zA T n z))))), K) H := hP
        refine lv_aload_n hx hb dX7_readRole_154 rfl (lv_at hl 6 rfl) ?_
        refine rw_getr (x := (J49, (up2 A 3 (4 + 3 * nr) (pMix (zNv T n 0 255 (zA T n z)) (zNv T n 0 255 (zC1 T n (zA T n z))) (zNv T n 0 255 (zC2 T n (zA T n z))))), K)) S hK hP 0 (by decide) rfl fk_X7_20 rfl dX7_readRole_155 ?_
        refine lv_iload hx hb dX7_readRole_158 (lv_at hl 0 rfl) ?_
        refine lv_iconst (v := 1) hx hb dX7_readRole_160 (by decide) ?_
        refine lv_iadd hx hb dX7_readRole_161 ?_
        refine tp_i (y := nI ((4 + 3 * nr) + 1)) (nI_add (4 + 3 * nr) 1) ?_
        refine lv_iload hx hb dX7_readRole_162 (lv_at hl 2 rfl) ?_
        refine rw_iast (x := (J49, (up2 A 3 (4 + 3 * nr) (pMix (zNv T n 0 255 (zA T n z)) (zNv T n 0 255 (zC1 T n (zA T n z))) (zNv T n 0 255 (zC2 T n (zA T n z))))), K)) (v := (pMix (zNv T n 0 255 (zA T n (zR2 T n z))) (zNv T n 0 255 (zC1 T n (zA T n (zR2 T n z)))) (zNv T n 0 255 (zC2 T n (zA T n (zR2 T n z)))))) S hE hK hP hS 3 (by decide) rfl ((4 + 3 * nr) + 1) rfl (by omega) (by decide) dX7_readRole_164 (fun H locs hP hS => ?_)
        have hP : Wp mN E mK (J49, (up2 (up2 A 3 (4 + 3 * nr) (pMix (zNv T n 0 255 (zA T n z)) (zNv T n 0 255 (zC1 T n (zA T n z))) (zNv T n 0 255 (zC2 T n (zA T n z))))) 3 ((4 + 3 * nr) + 1) (pMix (zNv T n 0 255 (zA T n (zR2 T n z))) (zNv T n 0 255 (zC1 T n (zA T n (zR2 T n z)))) (zNv T n 0 255 (zC2 T n (zA T n (zR2 T n z)))))), K) H := hP
        refine lv_aload_n hx hb dX7_readRole_165 rfl (lv_at hl 6 rfl) ?_
        refine rw_getr (x := (J49, (up2 (up2 A 3 (4 + 3 * nr) (pMix (zNv T n 0 255 (zA T n z)) (zNv T n 0 255 (zC1 T n (zA T n z))) (zNv T n 0 255 (zC2 T n (zA T n z))))) 3 ((4 + 3 * nr) + 1) (pMix (zNv T n 0 255 (zA T n (zR2 T n z))) (zNv T n 0 255 (zC1 T n (zA T n (zR2 T n z)))) (zNv T n 0 255 (zC2 T n (zA T n (zR2 T n z)))))), K)) S hK hP 0 (by decide) rfl fk_X7_20 rfl dX7_readRole_166 ?_
        refine lv_iload hx hb dX7_readRole_169 (lv_at hl 0 rfl) ?_
        refine lv_iconst (v := 2) hx hb dX7_readRole_171 (by decide) ?_
        refine lv_iadd hx hb dX7_readRole_172 ?_
        refine tp_i (y := nI ((4 + 3 * nr) + 2)) (nI_add (4 + 3 * nr) 2) ?_
        refine lv_iload hx hb dX7_readRole_173 (lv_at hl 1 rfl) ?_
        refine lv_if_eq (tgt := 182) hx hb dX7_readRole_175 (by decide) (fun h175 => ?_) (fun h175 => ?_)
        · refine lv_iconst (v := 0) hx hb dX7_readRole_182 (by decide) ?_
          refine rw_iast (x := (J49, (up2 (up2 A 3 (4 + 3 * nr) (pMix (zNv T n 0 255 (zA T n z)) (zNv T n 0 255 (zC1 T n (zA T n z))) (zNv T n 0 255 (zC2 T n (zA T n z))))) 3 ((4 + 3 * nr) + 1) (pMix (zNv T n 0 255 (zA T n (zR2 T n z))) (zNv T n 0 255 (zC1 T n (zA T n (zR2 T n z)))) (zNv T n 0 255 (zC2 T n (zA T n (zR2 T n z)))))), K)) (v := 0) S hE hK hP hS 3 (by decide) rfl ((4 + 3 * nr) + 2) rfl (by omega) (by decide) dX7_readRole_183 (fun H locs hP hS => ?_)
          have hP : Wp mN E mK (J49, (up2 (up2 (up2 A 3 (4 + 3 * nr) (pMix (zNv T n 0 255 (zA T n z)) (zNv T n 0 255 (zC1 T n (zA T n z))) (zNv T n 0 255 (zC2 T n (zA T n z))))) 3 ((4 + 3 * nr) + 1) (pMix (zNv T n 0 255 (zA T n (zR2 T n z))) (zNv T n 0 255 (zC1 T n (zA T n (zR2 T n z)))) (zNv T n 0 255 (zC2 T n (zA T n (zR2 T n z)))))) 3 ((4 + 3 * nr) + 2) 0), K) H := hP
          refine lv_aload_n hx hb dX7_readRole_184 rfl (lv_at hl 6 rfl) ?_
          refine rw_getr (x := (J49, (up2 (up2 (up2 A 3 (4 + 3 * nr) (pMix (zNv T n 0 255 (zA T n z)) (zNv T n 0 255 (zC1 T n (zA T n z))) (zNv T n 0 255 (zC2 T n (zA T n z))))) 3 ((4 + 3 * nr) + 1) (pMix (zNv T n 0 255 (zA T n (zR2 T n z))) (zNv T n 0 255 (zC1 T n (zA T n (zR2 T n z)))) (zNv T n 0 255 (zC2 T n (zA T n (zR2 T n z)))))) 3 ((4 + 3 * nr) + 2) 0), K)) S hK hP 0 (by decide) rfl fk_X7_20 rfl dX7_readRole_185 ?_
          refine lv_iconst (v := 0) hx hb dX7_readRole_188 (by decide) ?_
          refine lv_dup2_11 hx hb dX7_readRole_189 rfl rfl ?_
          refine rw_iald (x := (J49, (up2 (up2 (up2 A 3 (4 + 3 * nr) (pMix (zNv T n 0 255 (zA T n z)) (zNv T n 0 255 (zC1 T n (zA T n z))) (zNv T n 0 255 (zC2 T n (zA T n z))))) 3 ((4 + 3 * nr) + 1) (pMix (zNv T n 0 255 (zA T n (zR2 T n z))) (zNv T n 0 255 (zC1 T n (zA T n (zR2 T n z)))) (zNv T n 0 255 (zC2 T n (zA T n (zR2 T n z)))))) 3 ((4 + 3 * nr) + 2) 0), K)) (v := nI nr) S hK hP 3 (by decide) rfl 0 rfl (by decide) (by decide) (show (up2 (up2 (up2 A 3 (4 + 3 * nr) (pMix (zNv T n 0 255 (zA T n z)) (zNv T n 0 255 (zC1 T n (zA T n z))) (zNv T n 0 255 (zC2 T n (zA T n z))))) 3 ((4 + 3 * nr) + 1) (pMix (zNv T n 0 255 (zA T n (zR2 T n z))) (zNv T n 0 255 (zC1 T n (zA T n (zR2 T n z)))) (zNv T n 0 255 (zC2 T n (zA T n (zR2 T n z)))))) 3 ((4 + 3 * nr) + 2) 0) 3 0 = nI nr from qv3.trans hd3) dX7_readRole_190 ?_
          refine lv_iconst (v := 1) hx hb dX7_readRole_191 (by decide) ?_
          refine lv_iadd hx hb dX7_readRole_192 ?_
          refine tp_i (y := nI (nr + 1)) (nI_add nr 1) ?_
          refine rw_iast (x := (J49, (up2 (up2 (up2 A 3 (4 + 3 * nr) (pMix (zNv T n 0 255 (zA T n z)) (zNv T n 0 255 (zC1 T n (zA T n z))) (zNv T n 0 255 (zC2 T n (zA T n z))))) 3 ((4 + 3 * nr) + 1) (pMix (zNv T n 0 255 (zA T n (zR2 T n z))) (zNv T n 0 255 (zC1 T n (zA T n (zR2 T n z)))) (zNv T n 0 255 (zC2 T n (zA T n (zR2 T n z)))))) 3 ((4 + 3 * nr) + 2) 0), K)) (v := (nI (nr + 1))) S hE hK hP hS 3 (by decide) rfl 0 rfl (by decide) (by decide) dX7_readRole_193 (fun H locs hP hS => ?_)
          have hP : Wp mN E mK (J49, (up2 (up2 (up2 (up2 A 3 (4 + 3 * nr) (pMix (zNv T n 0 255 (zA T n z)) (zNv T n 0 255 (zC1 T n (zA T n z))) (zNv T n 0 255 (zC2 T n (zA T n z))))) 3 ((4 + 3 * nr) + 1) (pMix (zNv T n 0 255 (zA T n (zR2 T n z))) (zNv T n 0 255 (zC1 T n (zA T n (zR2 T n z)))) (zNv T n 0 255 (zC2 T n (zA T n (zR2 T n z)))))) 3 ((4 + 3 * nr) + 2) 0) 3 0 (nI (nr + 1))), K) H := hP
          exact re_wv (x := (J49, (up2 (up2 (up2 (up2 A 3 (4 + 3 * nr) (pMix (zNv T n 0 255 (zA T n z)) (zNv T n 0 255 (zC1 T n (zA T n z))) (zNv T n 0 255 (zC2 T n (zA T n z))))) 3 ((4 + 3 * nr) + 1) (pMix (zNv T n 0 255 (zA T n (zR2 T n z))) (zNv T n 0 255 (zC1 T n (zA T n (zR2 T n z)))) (zNv T n 0 255 (zC2 T n (zA T n (zR2 T n z)))))) 3 ((4 + 3 * nr) + 2) 0) 3 0 (nI (nr + 1))), K)) hx hb hr hlk hP hS ⟨_, _, rB_role (b := false) (by rw [show zR4 T n z = zPW T n (tw 6) (zR3 T n z) from rfl, e3]; exact hW49) hr49 hnr hz4 hD rfl (by unfold zRd; rw [if_pos q5]) vC_cv vC_cv (by rw [e3]; exact (bI_f h175).symm), rfl⟩ dX7_readRole_194
        · refine lv_iconst (v := 1) hx hb dX7_readRole_178 (by decide) ?_
          refine lv_goto (tgt := 183) hx hb dX7_readRole_179 (by decide) ?_
          refine rw_iast (x := (J49, (up2 (up2 A 3 (4 + 3 * nr) (pMix (zNv T n 0 255 (zA T n z)) (zNv T n 0 255 (zC1 T n (zA T n z))) (zNv T n 0 255 (zC2 T n (zA T n z))))) 3 ((4 + 3 * nr) + 1) (pMix (zNv T n 0 255 (zA T n (zR2 T n z))) (zNv T n 0 255 (zC1 T n (zA T n (zR2 T n z)))) (zNv T n 0 255 (zC2 T n (zA T n (zR2 T n z)))))), K)) (v := 1) S hE hK hP hS 3 (by decide) rfl ((4 + 3 * nr) + 2) rfl (by omega) (by decide) dX7_readRole_183 (fun H locs hP hS => ?_)
          have hP : Wp mN E mK (J49, (up2 (up2 (up2 A 3 (4 + 3 * nr) (pMix (zNv T n 0 255 (zA T n z)) (zNv T n 0 255 (zC1 T n (zA T n z))) (zNv T n 0 255 (zC2 T n (zA T n z))))) 3 ((4 + 3 * nr) + 1) (pMix (zNv T n 0 255 (zA T n (zR2 T n z))) (zNv T n 0 255 (zC1 T n (zA T n (zR2 T n z)))) (zNv T n 0 255 (zC2 T n (zA T n (zR2 T n z)))))) 3 ((4 + 3 * nr) + 2) 1), K) H := hP
          refine lv_aload_n hx hb dX7_readRole_184 rfl (lv_at hl 6 rfl) ?_
          refine rw_getr (x := (J49, (up2 (up2 (up2 A 3 (4 + 3 * nr) (pMix (zNv T n 0 255 (zA T n z)) (zNv T n 0 255 (zC1 T n (zA T n z))) (zNv T n 0 255 (zC2 T n (zA T n z))))) 3 ((4 + 3 * nr) + 1) (pMix (zNv T n 0 255 (zA T n (zR2 T n z))) (zNv T n 0 255 (zC1 T n (zA T n (zR2 T n z)))) (zNv T n 0 255 (zC2 T n (zA T n (zR2 T n z)))))) 3 ((4 + 3 * nr) + 2) 1), K)) S hK hP 0 (by decide) rfl fk_X7_20 rfl dX7_readRole_185 ?_
          refine lv_iconst (v := 0) hx hb dX7_readRole_188 (by decide) ?_
          refine lv_dup2_11 hx hb dX7_readRole_189 rfl rfl ?_
          refine rw_iald (x := (J49, (up2 (up2 (up2 A 3 (4 + 3 * nr) (pMix (zNv T n 0 255 (zA T n z)) (zNv T n 0 255 (zC1 T n (zA T n z))) (zNv T n 0 255 (zC2 T n (zA T n z))))) 3 ((4 + 3 * nr) + 1) (pMix (zNv T n 0 255 (zA T n (zR2 T n z))) (zNv T n 0 255 (zC1 T n (zA T n (zR2 T n z)))) (zNv T n 0 255 (zC2 T n (zA T n (zR2 T n z)))))) 3 ((4 + 3 * nr) + 2) 1), K)) (v := nI nr) S hK hP 3 (by decide) rfl 0 rfl (by decide) (by decide) (show (up2 (up2 (up2 A 3 (4 + 3 * nr) (pMix (zNv T n 0 255 (zA T n z)) (zNv T n 0 255 (zC1 T n (zA T n z))) (zNv T n 0 255 (zC2 T n (zA T n z))))) 3 ((4 + 3 * nr) + 1) (pMix (zNv T n 0 255 (zA T n (zR2 T n z))) (zNv T n 0 255 (zC1 T n (zA T n (zR2 T n z)))) (zNv T n 0 255 (zC2 T n (zA T n (zR2 T n z)))))) 3 ((4 + 3 * nr) + 2) 1) 3 0 = nI nr from qv3.trans hd3) dX7_readRole_190 ?_
          refine lv_iconst (v := 1) hx hb dX7_readRole_191 (by decide) ?_
          refine lv_iadd hx hb dX7_readRole_192 ?_
          refine tp_i (y := nI (nr + 1)) (nI_add nr 1) ?_
          refine rw_iast (x := (J49, (up2 (up2 (up2 A 3 (4 + 3 * nr) (pMix (zNv T n 0 255 (zA T n z)) (zNv T n 0 255 (zC1 T n (zA T n z))) (zNv T n 0 255 (zC2 T n (zA T n z))))) 3 ((4 + 3 * nr) + 1) (pMix (zNv T n 0 255 (zA T n (zR2 T n z))) (zNv T n 0 255 (zC1 T n (zA T n (zR2 T n z)))) (zNv T n 0 255 (zC2 T n (zA T n (zR2 T n z)))))) 3 ((4 + 3 * nr) + 2) 1), K)) (v := (nI (nr + 1))) S hE hK hP hS 3 (by decide) rfl 0 rfl (by decide) (by decide) dX7_readRole_193 (fun H locs hP hS => ?_)
          have hP : Wp mN E mK (J49, (up2 (up2 (up2 (up2 A 3 (4 + 3 * nr) (pMix (zNv T n 0 255 (zA T n z)) (zNv T n 0 255 (zC1 T n (zA T n z))) (zNv T n 0 255 (zC2 T n (zA T n z))))) 3 ((4 + 3 * nr) + 1) (pMix (zNv T n 0 255 (zA T n (zR2 T n z))) (zNv T n 0 255 (zC1 T n (zA T n (zR2 T n z)))) (zNv T n 0 255 (zC2 T n (zA T n (zR2 T n z)))))) 3 ((4 + 3 * nr) + 2) 1) 3 0 (nI (nr + 1))), K) H := hP
          exact re_wv (x := (J49, (up2 (up2 (up2 (up2 A 3 (4 + 3 * nr) (pMix (zNv T n 0 255 (zA T n z)) (zNv T n 0 255 (zC1 T n (zA T n z))) (zNv T n 0 255 (zC2 T n (zA T n z))))) 3 ((4 + 3 * nr) + 1) (pMix (zNv T n 0 255 (zA T n (zR2 T n z))) (zNv T n 0 255 (zC1 T n (zA T n (zR2 T n z)))) (zNv T n 0 255 (zC2 T n (zA T n (zR2 T n z)))))) 3 ((4 + 3 * nr) + 2) 1) 3 0 (nI (nr + 1))), K)) hx hb hr hlk hP hS ⟨_, _, rB_role (b := true) (by rw [show zR4 T n z = zPW T n (tw 6) (zR3 T n z) from rfl, e3]; exact hW49) hr49 hnr hz4 hD rfl (by unfold zRd; rw [if_pos q5]) vC_cv vC_cv (by rw [e3]; exact (bI_t h175).symm), rfl⟩ dX7_readRole_194
      · have hz4 : ¬ (zR4 T n z).1 = 0 := by rw [show zR4 T n z = zPW T n (tw 6) (zR3 T n z) from rfl, e3]; exact fun g => absurd (decide_eq_true (hW49.2.1.trans g)) (by rw [bI_f h125]; decide)
        exact re_wv (x := (J49, A, K)) hx hb hr hlk hP hS ⟨_, A, rB_n (sRole_n (by omega) hz4) (by rw [show zR4 T n z = zPW T n (tw 6) (zR3 T n z) from rfl, e3]; exact hW49) hr49 hz4, rfl⟩ dX7_readRole_128
  · have hnr : 10 ≤ nr := (Nat.lt_or_ge nr 10).elim (fun g => absurd ((nI_eq (by omega) (by decide)).mp (show nI nr = nI 10 from h8)) (by omega)) id
    refine lv_aload_n hx hb dX7_readRole_11 rfl (lv_at hl 0 rfl) ?_
    refine lv_bipush (v := (-4)) hx hb dX7_readRole_12 (by decide) ?_
    refine lv_iload_n hx hb dX7_readRole_14 rfl (lv_at hl 1 rfl) ?_
    have h0z : (zA T n z).1 = 0 := h0
    refine cn_wv (ck_V (a := eP E 0) S lk_X7_79 (c_X7_report l E I A K (-4) (nI (tkB T n z.2)) hE) ⟨rfl, rfl⟩ ⟨Nat.le_of_ble_eq_true rfl, Nat.le_of_ble_eq_true rfl⟩ bl_w (rc_w hK hP 0 (by decide) rfl rfl) (bw_U hE hK hC hP hS) rfl hl.1 (Nat.le_of_ble_eq_true rfl) ⟨Nat.le_refl _, Nat.le_refl _⟩ dX7_readRole_15 rfl) hS (fun u63 H locs g64 hP hS => ?_)
    obtain rfl : u63 = ((if I 0 5 = 0 then up2 (up2 I 0 5 (-4)) 0 6 (nI (tkB T n z.2)) else I), A, K) := g64
    have hP : Wp mN E mK ((if I 0 5 = 0 then up2 (up2 I 0 5 (-4)) 0 6 (nI (tkB T n z.2)) else I), A, K) H := hP
    rw [if_pos (show I 0 5 = 0 from h5c.trans h0)] at hP
    have hP : Wp mN E mK ((up2 (up2 I 0 5 (-4)) 0 6 (nI (tkB T n z.2))), A, K) H := hP
    have hbz : ¬ (zF (-4) z).1 = 0 := fun g => absurd ((if_pos h0).symm.trans g : (-4 : Int32) = 0) (by decide)
    have hWb : mW (up2 (up2 I 0 5 (-4)) 0 6 (nI (tkB T n z.2))) A T n (zF (-4) z) := mW_er3 hW (Nat.le_trans zGe_A hzn) h0 (by decide) rfl rfl up2_eq
    have hrb : rP I (up2 (up2 I 0 5 (-4)) 0 6 (nI (tkB T n z.2))) := rP_u (rP_u rP_rf (by decide)) (by decide)
    refine lv_aload_n hx hb dX7_readRole_18 rfl (lv_at hl 0 rfl) ?_
    refine lv_iconst (v := 0) hx hb dX7_readRole_19 (by decide) ?_
    refine lv_sipush (v := 255) hx hb dX7_readRole_20 (by decide) ?_
    refine cn_wi (ck_V (a := eP E 0) S lk_X7_113 (c_X7_number l E (up2 (up2 I 0 5 (-4)) 0 6 (nI (tkB T n z.2))) A K T n (zF (-4) z) 0 255 hE hWb) ⟨rfl, rfl⟩ ⟨Nat.le_of_ble_eq_true rfl, Nat.le_of_ble_eq_true rfl⟩ bl_w (rc_w hK hP 0 (by decide) rfl rfl) (bw_U hE hK hC hP hS) rfl hl.1 (Nat.le_of_ble_eq_true rfl) ⟨Nat.le_refl _, Nat.le_refl _⟩ dX7_readRole_23 rfl) hS (fun r65 u66 H locs g67 hP hS => ?_)
    obtain ⟨J68, hW68, hp68, hn68, hv68, rfl⟩ : ∃ oj, mW oj A T n (zNz T n 0 255 (zF (-4) z)) ∧ rP (up2 (up2 I 0 5 (-4)) 0 6 (nI (tkB T n z.2))) oj ∧ (zN T n (zF (-4) z) = true → oj 0 12 = nI (tkB T n (zF (-4) z).2)) ∧ ((zNz T n 0 255 (zF (-4) z)).1 = 0 → r65 = zNv T n 0 255 (zF (-4) z)) ∧ u66 = (oj, A, K) := g67
    have hP : Wp mN E mK (J68, A, K) H := hP
    have hr68 := rP_tr hrb hp68
    rw [zNz_b hbz] at hW68
    refine lv_istore_n (lv' := [(2, .int r65), (0, .ref (eP E 0)), (1, .int (nI (tkB T n z.2)))]) hx hb dX7_readRole_26 rfl hl (by decide) rfl (fun ls hl => ?_)
    refine lv_aload_n hx hb dX7_readRole_27 rfl (lv_at hl 1 rfl) ?_
    refine lv_iconst (v := 0) hx hb dX7_readRole_28 (by decide) ?_
    refine lv_sipush (v := 255) hx hb dX7_readRole_29 (by decide) ?_
    refine cn_wi (ck_V (a := eP E 0) S lk_X7_113 (c_X7_number l E J68 A K T n (zF (-4) z) 0 255 hE hW68) ⟨rfl, rfl⟩ ⟨Nat.le_of_ble_eq_true rfl, Nat.le_of_ble_eq_true rfl⟩ bl_w (rc_w hK hP 0 (by decide) rfl rfl) (bw_U hE hK hC hP hS) rfl hl.1 (Nat.le_of_ble_eq_true rfl) ⟨Nat.le_refl _, Nat.le_refl _⟩ dX7_readRole_32 rfl) hS (fun r69 u70 H locs g71 hP hS => ?_)
    obtain ⟨J72, hW72, hp72, hn72, hv72, rfl⟩ : ∃ oj, mW oj A T n (zNz T n 0 255 (zF (-4) z)) ∧ rP J68 oj ∧ (zN T n (zF (-4) z) = true → oj 0 12 = nI (tkB T n (zF (-4) z).2)) ∧ ((zNz T n 0 255 (zF (-4) z)).1 = 0 → r69 = zNv T n 0 255 (zF (-4) z)) ∧ u70 = (oj, A, K) := g71
    have hP : Wp mN E mK (J72, A, K) H := hP
    have hr72 := rP_tr hr68 hp72
    rw [zNz_b hbz] at hW72
    refine lv_istore_n (lv' := [(3, .int r69), (2, .int r65), (0, .ref (eP E 0)), (1, .int (nI (tkB T n z.2)))]) hx hb dX7_readRole_35 rfl hl (by decide) rfl (fun ls hl => ?_)
    refine lv_aload_n hx hb dX7_readRole_36 rfl (lv_at hl 2 rfl) ?_
    refine lv_iconst (v := 0) hx hb dX7_readRole_37 (by decide) ?_
    refine lv_sipush (v := 255) hx hb dX7_readRole_38 (by decide) ?_
    refine cn_wi (ck_V (a := eP E 0) S lk_X7_113 (c_X7_number l E J72 A K T n (zF (-4) z) 0 255 hE hW72) ⟨rfl, rfl⟩ ⟨Nat.le_of_ble_eq_true rfl, Nat.le_of_ble_eq_true rfl⟩ bl_w (rc_w hK hP 0 (by decide) rfl rfl) (bw_U hE hK hC hP hS) rfl hl.1 (Nat.le_of_ble_eq_true rfl) ⟨Nat.le_refl _, Nat.le_refl _⟩ dX7_readRole_41 rfl) hS (fun r73 u74 H locs g75 hP hS => ?_)
    obtain ⟨J76, hW76, hp76, hn76, hv76, rfl⟩ : ∃ oj, mW oj A T n (zNz T n 0 255 (zF (-4) z)) ∧ rP J72 oj ∧ (zN T n (zF (-4) z) = true → oj 0 12 = nI (tkB T n (zF (-4) z).2)) ∧ ((zNz T n 0 255 (zF (-4) z)).1 = 0 → r73 = zNv T n 0 255 (zF (-4) z)) ∧ u74 = (oj, A, K) := g75
    have hP : Wp mN E mK (J76, A, K) H := hP
    have hr76 := rP_tr hr72 hp76
    rw [zNz_b hbz] at hW76
    refine lv_istore (lv' := [(4, .int r73), (3, .int r69), (2, .int r65), (0, .ref (eP E 0)), (1, .int (nI (tkB T n z.2)))]) hx hb dX7_readRole_44 hl (by decide) rfl (fun ls hl => ?_)
    refine lv_sipush (v := 255) hx hb dX7_readRole_46 (by decide) ?_
    refine lv_iload_n hx hb dX7_readRole_49 rfl (lv_at hl 2 rfl) ?_
    refine lv_isub hx hb dX7_readRole_50 ?_
    refine lv_sipush (v := 255) hx hb dX7_readRole_51 (by decide) ?_
    refine lv_iload_n hx hb dX7_readRole_54 rfl (lv_at hl 1 rfl) ?_
    refine lv_isub hx hb dX7_readRole_55 ?_
    refine lv_sipush (v := 255) hx hb dX7_readRole_56 (by decide) ?_
    refine lv_iload hx hb dX7_readRole_59 (lv_at hl 0 rfl) ?_
    refine lv_isub hx hb dX7_readRole_61 ?_
    refine cn_si (ck_S S lk_X7_128 (c_X7_mixed l (255 - r65) (255 - r69) (255 - r73)) ⟨rfl, rfl⟩ ⟨Nat.le_of_ble_eq_true rfl, Nat.le_of_ble_eq_true rfl⟩ bl_T t_U rfl hl.1 (Nat.le_of_ble_eq_true rfl) ⟨Nat.le_refl _, Nat.le_refl _⟩ dX7_readRole_62 rfl) (fun r77 g78 => ?_)
    obtain rfl : r77 = pMix (255 - r65) (255 - r69) (255 - r73) := g78
    refine lv_istore (lv' := [(5, .int (pMix (255 - r65) (255 - r69) (255 - r73))), (4, .int r73), (3, .int r69), (2, .int r65), (0, .ref (eP E 0)), (1, .int (nI (tkB T n z.2)))]) hx hb dX7_readRole_65 hl (by decide) rfl (fun ls hl => ?_)
    refine lv_aload_n hx hb dX7_readRole_67 rfl (lv_at hl 4 rfl) ?_
    refine va_ldcS (q := eS E 14) (tx := "dark") hx hb S.2.2.2.1 (tr_14 hC.1.2.1) dX7_readRole_68 ?_
    refine cn_wi (ck_V (a := eP E 0) S lk_X7_107 (c_X7_takeWord l E J76 A K T n (zF (-4) z) 14 hE hW76 (by decide)) ⟨rfl, rfl⟩ ⟨Nat.le_of_ble_eq_true rfl, Nat.le_of_ble_eq_true rfl⟩ bl_w (rc_w hK hP 0 (by decide) rfl rfl) (bw_U hE hK hC hP hS) rfl hl.1 (Nat.le_of_ble_eq_true rfl) ⟨Nat.le_refl _, Nat.le_refl _⟩ dX7_readRole_70 rfl) hS (fun r79 u80 H locs g81 hP hS => ?_)
    obtain ⟨hb82, J82, hW82, hp82, rfl⟩ : r79 = bI (zW T n (tw 14) (zF (-4) z)) ∧ (∃ oj, mW oj A T n (zPW T n (tw 14) (zF (-4) z)) ∧ rP J76 oj ∧ u80 = (oj, A, K)) := g81
    refine tp_i (y := bI (zW T n (tw 14) (zF (-4) z))) hb82 ?_
    have hP : Wp mN E mK (J82, A, K) H := hP
    have hr82 := rP_tr hr76 hp82
    rw [tw_14] at hW82
    rw [zPW_b hbz] at hW82
    refine tp_i (y := 0) (by rw [zW_c hbz]; rfl) ?_
    refine lv_if_eq (tgt := 113) hx hb dX7_readRole_73 (by decide) (fun h73 => ?_) (fun h73 => absurd (by decide) h73)
    refine lv_aload_n hx hb dX7_readRole_113 rfl (lv_at hl 4 rfl) ?_
    refine va_ldcS (q := eS E 15) (tx := "fixed") hx hb S.2.2.2.1 (tr_15 hC.1.2.1) dX7_readRole_114 ?_
    refine cn_wi (ck_V (a := eP E 0) S lk_X7_107 (c_X7_takeWord l E J82 A K T n (zF (-4) z) 15 hE hW82 (by decide)) ⟨rfl, rfl⟩ ⟨Nat.le_of_ble_eq_true rfl, Nat.le_of_ble_eq_true rfl⟩ bl_w (rc_w hK hP 0 (by decide) rfl rfl) (bw_U hE hK hC hP hS) rfl hl.1 (Nat.le_of_ble_eq_true rfl) ⟨Nat.le_refl _, Nat.le_refl _⟩ dX7_readRole_116 rfl) hS (fun r83 u84 H locs g85 hP hS => ?_)
    obtain ⟨hb86, J86, hW86, hp86, rfl⟩ : r83 = bI (zW T n (tw 15) (zF (-4) z)) ∧ (∃ oj, mW oj A T n (zPW T n (tw 15) (zF (-4) z)) ∧ rP J82 oj ∧ u84 = (oj, A, K)) := g85
    refine tp_i (y := bI (zW T n (tw 15) (zF (-4) z))) hb86 ?_
    have hP : Wp mN E mK (J86, A, K) H := hP
    have hr86 := rP_tr hr82 hp86
    rw [tw_15] at hW86
    rw [zPW_b hbz] at hW86
    refine tp_i (y := 0) (by rw [zW_c hbz]; rfl) ?_
    refine lv_istore (lv' := [(6, .int 0), (5, .int (pMix (255 - r65) (255 - r69) (255 - r73))), (4, .int r73), (3, .int r69), (2, .int r65), (0, .ref (eP E 0)), (1, .int (nI (tkB T n z.2)))]) hx hb dX7_readRole_119 hl (by decide) rfl (fun ls hl => ?_)
    refine lv_aload_n hx hb dX7_readRole_121 rfl (lv_at hl 5 rfl) ?_
    refine cn_si (ck_V (a := eP E 0) S lk_X7_62 (c_X7_isGood l E J86 A K hE) ⟨rfl, rfl⟩ ⟨Nat.le_of_ble_eq_true rfl, Nat.le_of_ble_eq_true rfl⟩ bl_w (rc_w hK hP 0 (by decide) rfl rfl) (bw_U hE hK hC hP hS) rfl hl.1 (Nat.le_of_ble_eq_true rfl) ⟨Nat.le_refl _, Nat.le_refl _⟩ dX7_readRole_122 rfl) (fun r87 g88 => ?_)
    obtain rfl : r87 = bI (decide (J86 0 5 = 0)) := g88
    refine lv_if_ne (tgt := 129) hx hb dX7_readRole_125 (by decide) (fun h125 => absurd h125 (show ¬ ¬ bI (decide (J86 0 5 = 0)) = 0 from fun g => g (by rw [decide_eq_false (fun q => hbz (hW86.2.1.symm.trans q))]; rfl))) (fun h125 => ?_)
    exact re_wv (x := (J86, A, K)) hx hb hr hlk hP hS ⟨_, A, rB_n (sRole_f hnr) hW86 hr86 hbz, rfl⟩ dX7_readRole_128

