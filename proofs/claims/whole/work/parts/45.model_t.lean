section QU
variable {A C : Nat → Nat → Int32} {nr nu : Nat} {f g t k : Int32}
theorem qD_rule (hD : qD nr nu C A) (hn : nu < 12) (hf : ∃ i, i < nr ∧ f = nI i) (hg : ∃ i, i < nr ∧ g = nI i) (hx : (t = -1 ∧ ∃ i, i < 10 ∧ k = nI i) ∨ ∃ i, i < 5 ∧ t = nI i) : qD nr (nu + 1) (cAdU (up2 C 5 nu k) 1 nu f g t k) (up2 (up2 (up2 (up2 (up2 A 3 (34 + 4 * nu) (t + 1)) 3 (34 + 4 * nu + 1) f) 3 (34 + 4 * nu + 2) g) 3 (34 + 4 * nu + 3) k) 3 1 (nI (nu + 1))) := by
  obtain ⟨⟨h1, h2⟩, ⟨h3, h4⟩, h5, h6⟩ := hD
  refine ⟨⟨h1, by omega⟩, ⟨?_, ?_⟩, fun r hr => ?_, fun u hu => ?_⟩
  · rw [q5_at, if_neg (by omega), if_neg (by omega), if_neg (by omega), if_neg (by omega), if_neg (by omega)]
    exact h3
  · rw [q5_at, if_pos rfl]
  · rw [q5_at, q5_at, q5_at, cAdU_r (a := 21) (by omega), cAdU_r (a := 22) (by omega), cAdU_r (a := 23) (by omega), up2_row (a := 21) (by decide), up2_row (a := 22) (by decide), up2_row (a := 23) (by decide)]
    rw [if_neg (by omega), if_neg (by omega), if_neg (by omega), if_neg (by omega), if_neg (by omega), if_neg (by omega), if_neg (by omega), if_neg (by omega), if_neg (by omega), if_neg (by omega), if_neg (by omega), if_neg (by omega), if_neg (by omega), if_neg (by omega), if_neg (by omega)]
    exact h5 r hr
  · by_cases q : u = nu
    · subst q
      have e5 : cAdU (up2 C 5 u k) 1 u f g t k 5 u = k := by rw [cAdU_r (a := 5) (by omega), up2_eq]
      have e24 : cAdU (up2 C 5 u k) 1 u f g t k 24 u = f := by rw [cAdU_at, if_neg (by omega), if_neg (by omega), if_neg (by omega), if_neg (by omega), if_pos ⟨rfl, rfl⟩]
      have e25 : cAdU (up2 C 5 u k) 1 u f g t k 25 u = g := by rw [cAdU_at, if_neg (by omega), if_neg (by omega), if_neg (by omega), if_pos ⟨rfl, rfl⟩]
      have e26 : cAdU (up2 C 5 u k) 1 u f g t k 26 u = t := by rw [cAdU_at, if_neg (by omega), if_neg (by omega), if_pos ⟨rfl, rfl⟩]
      have e28 : cAdU (up2 C 5 u k) 1 u f g t k 28 u = k := by rw [cAdU_at, if_neg (by omega), if_pos ⟨rfl, rfl⟩]
      have e29 : cAdU (up2 C 5 u k) 1 u f g t k 29 u = k := by rw [cAdU_at, if_pos ⟨rfl, rfl⟩]
      rw [e5, e24, e25, e26, e28, e29]
      refine ⟨⟨?_, ?_, ?_, ?_⟩, ⟨hf, hg⟩, hx.elim Or.inl (fun q => Or.inr ⟨q, rfl, rfl⟩)⟩
      · rw [q5_at, if_neg (by omega), if_neg (by omega), if_neg (by omega), if_neg (by omega), if_pos rfl]
      · rw [q5_at, if_neg (by omega), if_neg (by omega), if_neg (by omega), if_pos rfl]
      · rw [q5_at, if_neg (by omega), if_neg (by omega), if_pos rfl]
      · rw [q5_at, if_neg (by omega), if_pos rfl]
    · have hu2 : u < nu := by omega
      have e : ∀ a, cAdU (up2 C 5 nu k) 1 nu f g t k a u = C a u := fun a => by
        rw [cAdU_at, if_neg (fun z => q z.2), if_neg (fun z => q z.2), if_neg (fun z => q z.2), if_neg (fun z => q z.2), if_neg (fun z => q z.2), up2_at, if_neg (fun z => q z.2)]
      simp only [e]
      rw [q5_at, q5_at, q5_at, q5_at]
      rw [if_neg (by omega), if_neg (by omega), if_neg (by omega), if_neg (by omega), if_neg (by omega), if_neg (by omega), if_neg (by omega), if_neg (by omega), if_neg (by omega), if_neg (by omega), if_neg (by omega), if_neg (by omega), if_neg (by omega), if_neg (by omega), if_neg (by omega), if_neg (by omega), if_neg (by omega), if_neg (by omega), if_neg (by omega), if_neg (by omega)]
      exact h6 u hu2
end QU
section NR
variable {T : Nat → Int32} {n nr : Nat} {lo hi : Int32} {z : Tz} {b : Bool}
theorem zNz_in (h : (zNz T n lo hi z).1 = 0) : zN T n z = true ∧ (¬ tkV T n z.2 < lo ∧ ¬ hi < tkV T n z.2) := by
  have hN : zN T n z = true := Classical.byContradiction (fun q => absurd (show (zF (-2) z).1 = 0 by rw [← zNz_f (lo := lo) (hi := hi) (Bool.eq_false_iff.mpr q)]; exact h) (fun g => absurd ((if_pos (zMo_NN h)).symm.trans g : (-2 : Int32) = 0) (by decide)))
  refine ⟨hN, ?_, ?_⟩
  · intro g
    have h2 := h
    rw [zNz_e hN (Or.inl g)] at h2
    exact absurd ((if_pos (zMo_NN h)).symm.trans h2 : (-3 : Int32) = 0) (by decide)
  · intro g
    have h2 := h
    rw [zNz_e hN (Or.inr g)] at h2
    exact absurd ((if_pos (zMo_NN h)).symm.trans h2 : (-3 : Int32) = 0) (by decide)
theorem zNv_g (h : (zNz T n lo hi z).1 = 0) : zNv T n lo hi z = tkV T n z.2 := zNv_i (zNz_in h).1 (zNz_in h).2
theorem zNv_rl (hn : nr ≤ 10) (h : (zNz T n 0 (nI nr - 1) z).1 = 0) : ∃ i, i < nr ∧ zNv T n 0 (nI nr - 1) z = nI i := by
  rw [zNv_g h]
  obtain ⟨h1, h2⟩ := (zNz_in h).2
  cases nr with
  | zero => exact absurd (Int32.lt_of_lt_of_le (by decide : nI 0 - 1 < 0) (Int32.not_lt.mp h1)) h2
  | succ m =>
    rw [nI_pred] at h2
    obtain ⟨j, hj, e⟩ := nI_of2 (x := tkV T n z.2) (M := nI m) (n := m) (nI_toInt (by omega)) h1 (Int32.not_lt.mp h2)
    exact ⟨j, by omega, e⟩
theorem zNv_r2 {m : Nat} (hm : m < 2 ^ 31) (hl : (∃ a, a < 2 ^ 31 ∧ lo = nI a)) (h : (zNz T n lo (nI m) z).1 = 0) : ∃ i, i < m + 1 ∧ zNv T n lo (nI m) z = nI i := by
  rw [zNv_g h]
  obtain ⟨h1, h2⟩ := (zNz_in h).2
  obtain ⟨a, ha, rfl⟩ := hl
  obtain ⟨j, hj, e⟩ := nI_of2 (x := tkV T n z.2) (M := nI m) (n := m) (nI_toInt hm) (fun g => h1 (Int32.lt_of_lt_of_le g (nI_pos' ha))) (Int32.not_lt.mp h2)
  exact ⟨j, by omega, e⟩
/-- the second role's number, the same as the first's -/
theorem zU3_s (h : (zNz T n 0 (nI nr - 1) (zU2 T n nr z)).1 = 0) (e : zNv T n 0 (nI nr - 1) (zU2 T n nr z) = zUf T n nr z) : zU4 T n nr z = zF (-3) (zU2 T n nr z) := by
  have hz : (zU2 T n nr z).1 = 0 := zMo_NN h
  have h3 : zU3 T n nr z = zF (-3) (zU2 T n nr z) := if_pos ⟨(zNz_in h).1, (zNv_g h).symm.trans e⟩
  show zNz T n 0 (nI nr - 1) (zU3 T n nr z) = _
  rw [h3]
  exact zNz_b (fun g => absurd ((if_pos hz).symm.trans g : (-3 : Int32) = 0) (by decide))
theorem zU3_d (h : ¬ ((zNz T n 0 (nI nr - 1) (zU2 T n nr z)).1 = 0 ∧ zNv T n 0 (nI nr - 1) (zU2 T n nr z) = zUf T n nr z)) : zU3 T n nr z = zU2 T n nr z := by
  refine if_neg (fun q => h ?_)
  have hz : (zU2 T n nr z).1 = 0 := (of_decide_eq_true q.1).1
  have e1 : zUf T n nr z = tkV T n (zA T n z).2 := zNv_g (T := T) (n := n) (lo := 0) (hi := nI nr - 1) (z := zA T n z) hz
  have hr := (zNz_in (T := T) (n := n) (lo := 0) (hi := nI nr - 1) (z := zA T n z) hz).2
  have hi2 : ¬ tkV T n (zU2 T n nr z).2 < 0 ∧ ¬ nI nr - 1 < tkV T n (zU2 T n nr z).2 := by
    rw [q.2, e1]
    exact hr
  refine ⟨?_, (zNv_i q.1 hi2).trans q.2⟩
  rw [zNz_i q.1 hi2]
  exact hz
theorem zU4_d (h : ¬ ((zNz T n 0 (nI nr - 1) (zU2 T n nr z)).1 = 0 ∧ zNv T n 0 (nI nr - 1) (zU2 T n nr z) = zUf T n nr z)) : zU4 T n nr z = zNz T n 0 (nI nr - 1) (zU2 T n nr z) := by
  show zNz T n 0 (nI nr - 1) (zU3 T n nr z) = _
  rw [zU3_d h]
theorem zMo_U4 (h : (zU4 T n nr z).1 = 0) : (zU3 T n nr z).1 = 0 := zMo_NN h
theorem zU4_g (h : (zU4 T n nr z).1 = 0) : zU3 T n nr z = zU2 T n nr z := by
  refine zU3_d (fun q => ?_)
  rw [zU3_s q.1 q.2] at h
  exact absurd ((if_pos (zMo_F (by decide) h)).symm.trans h : (-3 : Int32) = 0) (by decide)
end NR
theorem rB_rule {I A J C : Nat → Nat → Int32} {T : Nat → Int32} {n nr nu : Nat} {fp : Option Nat} {z : Tz} {f g t k : Int32} {b : Bool} (hW : mW J A T n (zU6 T n nr b z)) (hr : rP I J) (hn : nu < 12) (h6 : (zU6 T n nr b z).1 = 0) (hD : qD nr nu C A) (ef : f = zUf T n nr z) (eg : g = zUg T n nr z) (et : t = zUt T n nr b z) (ek : k = zUa T n nr b z) (hf : ∃ i, i < nr ∧ f = nI i) (hg : ∃ i, i < nr ∧ g = nI i) (hx : (t = -1 ∧ ∃ i, i < 10 ∧ k = nI i) ∨ ∃ i, i < 5 ∧ t = nI i) : rB I A T n (sRule T n b (nr, nu, fp, C, z)) J (up2 (up2 (up2 (up2 (up2 A 3 (34 + 4 * nu) (t + 1)) 3 (34 + 4 * nu + 1) f) 3 (34 + 4 * nu + 2) g) 3 (34 + 4 * nu + 3) k) 3 1 (nI (nu + 1))) := by
  rw [sRule_y (by omega) h6]
  refine ⟨⟨mW_ext rfl hW, hr⟩, fun a ha => ?_, fun x hx2 => ?_, fun _ => ?_⟩
  · rw [up2_row ha, up2_row ha, up2_row ha, up2_row ha, up2_row ha]
  · rw [q5_at, if_neg (by omega), if_neg (by omega), if_neg (by omega), if_neg (by omega), if_neg (by omega)]
  · have h := qD_rule hD hn hf hg hx
    subst ef eg et ek
    exact h
set_option maxHeartbeats 1000000 in
set_option maxRecDepth 100000 in
theorem c_X7_once_n (l : Launch) (E : En) (I A : Nat → Nat → Int32) (K : Nat → Nat → Int64) (off : Int32) (hE : Ev mN E) (h14 : I 0 14 = 0) : Met l yX7_once (wz yX7_once cX7_once 3 none) (rmk 0 0 0 0) (va_Pc [.ref (eP E 0), .int 0, .int off] (Bw mN E mK (I, A, K))) (qWv mN E mK (fun uu => uu = (up2 I 0 14 1, A, K))) 0 0 (cA mN E) := by
  refine en_ofW RX7 rfl (by decide +kernel) (Nat.le_of_ble_eq_true rfl) ?_
  intro p e s m below meth c ls S hr hlk hnm hl hB
  have hx := S.1
  have hb := S.2.1
  obtain ⟨hK, hC, hP⟩ := hB
  have hS : va_S (cA mN E) s.heap s.heap [] := va_S.rf
  have hl : lv_has ls 3 [(0, .ref (eP E 0)), (1, .int 0), (2, .int off)] := hl
  refine lv_aload_n hx hb dX7_once_0 rfl (lv_at hl 0 rfl) ?_
  refine rw_geti (x := (I, A, K)) (v := 0) S hK hP 0 (by decide) rfl fk_X7_125 rfl h14 dX7_once_1 ?_
  refine lv_iload_n hx hb dX7_once_4 rfl (lv_at hl 1 rfl) ?_
  refine lv_ishr hx hb dX7_once_5 ?_
  refine lv_iconst (v := 1) hx hb dX7_once_6 (by decide) ?_
  refine lv_iand hx hb dX7_once_7 ?_
  refine tp_i (y := 0) (by decide) ?_
  refine lv_iconst (v := 1) hx hb dX7_once_8 (by decide) ?_
  refine lv_icmp_ne (tgt := 19) hx hb dX7_once_9 (by decide) (fun h9 => ?_) (fun h9 => absurd h9 (by decide))
  refine lv_aload_n hx hb dX7_once_19 rfl (lv_at hl 0 rfl) ?_
  refine lv_dup hx hb dX7_once_20 rfl ?_
  refine rw_geti (x := (I, A, K)) (v := 0) S hK hP 0 (by decide) rfl fk_X7_125 rfl h14 dX7_once_21 ?_
  refine lv_iconst (v := 1) hx hb dX7_once_24 (by decide) ?_
  refine lv_iload_n hx hb dX7_once_25 rfl (lv_at hl 1 rfl) ?_
  refine lv_ishl hx hb dX7_once_26 ?_
  refine lv_ior hx hb dX7_once_27 ?_
  refine tp_i (y := 1) (by decide) ?_
  refine rw_puti (x := (I, A, K)) (v := 1) S hE hK hP hS 0 (by decide) rfl fk_X7_125 rfl tyX7_ok nmX7 ⟨rfl, by decide +kernel⟩ dX7_once_28 (fun H locs hP hS => ?_)
  have hP : Wp mN E mK ((up2 I 0 14 1), A, K) H := hP
  exact re_wv (x := ((up2 I 0 14 1), A, K)) hx hb hr hlk hP hS rfl dX7_once_31

set_option maxHeartbeats 1000000 in
set_option maxRecDepth 100000 in
theorem c_X7_once_y (l : Launch) (E : En) (I A : Nat → Nat → Int32) (K : Nat → Nat → Int64) (off : Int32) (hE : Ev mN E) (h14 : I 0 14 = 1) (h05 : I 0 5 = 0) : Met l yX7_once (wz yX7_once cX7_once 3 none) (rmk 1 0 0 22) (va_Pc [.ref (eP E 0), .int 0, .int off] (Bw mN E mK (I, A, K))) (qWv mN E mK (fun uu => uu = (up2 (up2 (up2 I 0 5 (-2)) 0 6 off) 0 14 1, A, K))) 0 0 (cA mN E) := by
  refine en_ofW RX7 rfl (by decide +kernel) (Nat.le_of_ble_eq_true rfl) ?_
  intro p e s m below meth c ls S hr hlk hnm hl hB
  have hx := S.1
  have hb := S.2.1
  obtain ⟨hK, hC, hP⟩ := hB
  have hS : va_S (cA mN E) s.heap s.heap [] := va_S.rf
  have hl : lv_has ls 3 [(0, .ref (eP E 0)), (1, .int 0), (2, .int off)] := hl
  refine lv_aload_n hx hb dX7_once_0 rfl (lv_at hl 0 rfl) ?_
  refine rw_geti (x := (I, A, K)) (v := 1) S hK hP 0 (by decide) rfl fk_X7_125 rfl h14 dX7_once_1 ?_
  refine lv_iload_n hx hb dX7_once_4 rfl (lv_at hl 1 rfl) ?_
  refine lv_ishr hx hb dX7_once_5 ?_
  refine lv_iconst (v := 1) hx hb dX7_once_6 (by decide) ?_
  refine lv_iand hx hb dX7_once_7 ?_
  refine tp_i (y := 1) (by decide) ?_
  refine lv_iconst (v := 1) hx hb dX7_once_8 (by decide) ?_
  refine lv_icmp_ne (tgt := 19) hx hb dX7_once_9 (by decide) (fun h9 => absurd h9 (by decide)) (fun h9 => ?_)
  refine lv_aload_n hx hb dX7_once_12 rfl (lv_at hl 0 rfl) ?_
  refine lv_bipush (v := (-2)) hx hb dX7_once_13 (by decide) ?_
  refine lv_iload_n hx hb dX7_once_15 rfl (lv_at hl 2 rfl) ?_
  refine cn_wv (ck_V (a := eP E 0) S lk_X7_79 (c_X7_report l E I A K (-2) off hE) ⟨rfl, rfl⟩ ⟨Nat.le_of_ble_eq_true rfl, Nat.le_of_ble_eq_true rfl⟩ bl_w (rc_w hK hP 0 (by decide) rfl rfl) (bw_U hE hK hC hP hS) rfl hl.1 (Nat.le_of_ble_eq_true rfl) ⟨Nat.le_refl _, Nat.le_refl _⟩ dX7_once_16 rfl) hS (fun u2 H locs g3 hP hS => ?_)
  obtain rfl : u2 = ((if I 0 5 = 0 then up2 (up2 I 0 5 (-2)) 0 6 off else I), A, K) := g3
  have hP : Wp mN E mK ((if I 0 5 = 0 then up2 (up2 I 0 5 (-2)) 0 6 off else I), A, K) H := hP
  rw [if_pos (show I 0 5 = 0 from h05)] at hP
  have hP : Wp mN E mK ((up2 (up2 I 0 5 (-2)) 0 6 off), A, K) H := hP
  refine lv_aload_n hx hb dX7_once_19 rfl (lv_at hl 0 rfl) ?_
  refine lv_dup hx hb dX7_once_20 rfl ?_
  refine rw_geti (x := ((up2 (up2 I 0 5 (-2)) 0 6 off), A, K)) (v := 1) S hK hP 0 (by decide) rfl fk_X7_125 rfl ((up2_j (f := (up2 I 0 5 (-2))) (q := 0) (j := 6) (a := 0) (b := 14) (v := off) (by decide)).trans ((up2_j (f := I) (q := 0) (j := 5) (a := 0) (b := 14) (v := (-2)) (by decide)).trans h14)) dX7_once_21 ?_
  refine lv_iconst (v := 1) hx hb dX7_once_24 (by decide) ?_
  refine lv_iload_n hx hb dX7_once_25 rfl (lv_at hl 1 rfl) ?_
  refine lv_ishl hx hb dX7_once_26 ?_
  refine lv_ior hx hb dX7_once_27 ?_
  refine tp_i (y := 1) (by decide) ?_
  refine rw_puti (x := ((up2 (up2 I 0 5 (-2)) 0 6 off), A, K)) (v := 1) S hE hK hP hS 0 (by decide) rfl fk_X7_125 rfl tyX7_ok nmX7 ⟨rfl, by decide +kernel⟩ dX7_once_28 (fun H locs hP hS => ?_)
  have hP : Wp mN E mK ((up2 (up2 (up2 I 0 5 (-2)) 0 6 off) 0 14 1), A, K) H := hP
  exact re_wv (x := ((up2 (up2 (up2 I 0 5 (-2)) 0 6 off) 0 14 1), A, K)) hx hb hr hlk hP hS rfl dX7_once_31

theorem zNz_le2 {T : Nat → Int32} {n nr : Nat} {z : Tz} (h : (zA T n z).2 ≤ n) : (zU2 T n nr z).2 ≤ n := by
  unfold zU2 zNz
  split
  · split
    · exact h
    · split
      · exact h
      · show (if (zA T n z).1 = 0 then tkE T n (zA T n z).2 else (zA T n z).2) ≤ n
        split
        · exact tkE_le h
        · exact h
  · exact h
set_option maxHeartbeats 1000000 in
set_option maxRecDepth 100000 in
theorem c_X7_readRule (l : Launch) (E : En) (I A : Nat → Nat → Int32) (K : Nat → Nat → Int64) (T : Nat → Int32) (n : Nat) (z : Tz) (C : Nat → Nat → Int32) (nr nu : Nat) (fp : Option Nat) (b : Bool) (hE : Ev mN E) (hW : mW I A T n (zA T n z)) (h0 : z.1 = 0) (hD : qD nr nu C A) : Met l yX7_readRule (wz yX7_readRule cX7_readRule 8 none) (rmk 3 0 0 65) (va_Pc [.ref (eP E 0), .int (nI (tkB T n z.2)), .int (bI b)] (Bw mN E mK (I, A, K))) (qWv mN E mK (fun uu => ∃ J B, rB I A T n (sRule T n b (nr, nu, fp, C, z)) J B ∧ uu = (J, B, K))) 0 0 (cA mN E) := by
  refine en_ofW RX7 rfl (by decide +kernel) (Nat.le_of_ble_eq_true rfl) ?_
  intro p e s m below meth c ls S hr hlk hnm hl hB
  have hx := S.1
  have hb := S.2.1
  obtain ⟨hK, hC, hP⟩ := hB
  have hS : va_S (cA mN E) s.heap s.heap [] := va_S.rf
  have hl : lv_has ls 8 [(0, .ref (eP E 0)), (1, .int (nI (tkB T n z.2))), (2, .int (bI b))] := hl
  obtain ⟨⟨hn3, hTT, hzn⟩, h5c, h5p, h5e⟩ := id hW
  obtain ⟨⟨hd1, hd2⟩, ⟨hd3, hd4⟩, hd5, hd6⟩ := id hD
  have hWz := hzn
  refine lv_aload_n hx hb dX7_readRule_0 rfl (lv_at hl 0 rfl) ?_
  refine rw_getr (x := (I, A, K)) S hK hP 0 (by decide) rfl fk_X7_20 rfl dX7_readRule_1 ?_
  refine lv_iconst (v := 1) hx hb dX7_readRule_4 (by decide) ?_
  refine rw_iald (x := (I, A, K)) (v := nI nu) S hK hP 3 (by decide) rfl 1 rfl (by decide) (by decide) hd4 dX7_readRule_5 ?_
  refine lv_bipush (v := 12) hx hb dX7_readRule_6 (by decide) ?_
  refine lv_icmp_ne (tgt := 18) hx hb dX7_readRule_8 (by decide) (fun h8 => ?_) (fun h8 => ?_)
  · have hnu : nu < 12 := (Nat.lt_or_ge nu 12).elim id (fun g => absurd (show nI nu = (12 : Int32) by rw [show nu = 12 by omega]; rfl) h8)
    refine lv_aload_n hx hb dX7_readRule_18 rfl (lv_at hl 0 rfl) ?_
    refine lv_iconst (v := 0) hx hb dX7_readRule_19 (by decide) ?_
    refine lv_aload_n hx hb dX7_readRule_20 rfl (lv_at hl 0 rfl) ?_
    refine rw_getr (x := (I, A, K)) S hK hP 0 (by decide) rfl fk_X7_20 rfl dX7_readRule_21 ?_
    refine lv_iconst (v := 0) hx hb dX7_readRule_24 (by decide) ?_
    refine rw_iald (x := (I, A, K)) (v := nI nr) S hK hP 3 (by decide) rfl 0 rfl (by decide) (by decide) hd3 dX7_readRule_25 ?_
    refine lv_iconst (v := 1) hx hb dX7_readRule_26 (by decide) ?_
    refine lv_isub hx hb dX7_readRule_27 ?_
    refine cn_wi (ck_V (a := eP E 0) S lk_X7_113 (c_X7_number l E I A K T n (zA T n z) 0 ((nI nr) - 1) hE hW) ⟨rfl, rfl⟩ ⟨Nat.le_of_ble_eq_true rfl, Nat.le_of_ble_eq_true rfl⟩ bl_w (rc_w hK hP 0 (by decide) rfl rfl) (bw_U hE hK hC hP hS) rfl hl.1 (Nat.le_of_ble_eq_true rfl) ⟨Nat.le_refl _, Nat.le_refl _⟩ dX7_readRule_28 rfl) hS (fun r1 u2 H locs g3 hP hS => ?_)
    obtain ⟨J4, hW4, hp4, hn4, hv4, rfl⟩ : ∃ oj, mW oj A T n (zNz T n 0 ((nI nr) - 1) (zA T n z)) ∧ rP I oj ∧ (zN T n (zA T n z) = true → oj 0 12 = nI (tkB T n (zA T n z).2)) ∧ ((zNz T n 0 ((nI nr) - 1) (zA T n z)).1 = 0 → r1 = zNv T n 0 ((nI nr) - 1) (zA T n z)) ∧ u2 = (oj, A, K) := g3
    have hP : Wp mN E mK (J4, A, K) H := hP
    have hr4 := rP_tr rP_rf hp4
    have hW4 : mW J4 A T n (zU2 T n nr z) := hW4
    refine lv_istore_n (lv' := [(3, .int r1), (0, .ref (eP E 0)), (1, .int (nI (tkB T n z.2))), (2, .int (bI b))]) hx hb dX7_readRule_31 rfl hl (by decide) rfl (fun ls hl => ?_)
    refine lv_aload_n hx hb dX7_readRule_32 rfl (lv_at hl 1 rfl) ?_
    refine lv_iconst (v := 0) hx hb dX7_readRule_33 (by decide) ?_
    refine lv_aload_n hx hb dX7_readRule_34 rfl (lv_at hl 1 rfl) ?_
    refine rw_getr (x := (J4, A, K)) S hK hP 0 (by decide) rfl fk_X7_20 rfl dX7_readRule_35 ?_
    refine lv_iconst (v := 0) hx hb dX7_readRule_38 (by decide) ?_
    refine rw_iald (x := (J4, A, K)) (v := nI nr) S hK hP 3 (by decide) rfl 0 rfl (by decide) (by decide) hd3 dX7_readRule_39 ?_
    refine lv_iconst (v := 1) hx hb dX7_readRule_40 (by decide) ?_
    refine lv_isub hx hb dX7_readRule_41 ?_
    refine cn_wi (ck_V (a := eP E 0) S lk_X7_113 (c_X7_number l E J4 A K T n (zU2 T n nr z) 0 ((nI nr) - 1) hE hW4) ⟨rfl, rfl⟩ ⟨Nat.le_of_ble_eq_true rfl, Nat.le_of_ble_eq_true rfl⟩ bl_w (rc_w hK hP 0 (by decide) rfl rfl) (bw_U hE hK hC hP hS) rfl hl.1 (Nat.le_of_ble_eq_true rfl) ⟨Nat.le_refl _, Nat.le_refl _⟩ dX7_readRule_42 rfl) hS (fun r5 u6 H locs g7 hP hS => ?_)
    obtain ⟨J8, hW8, hp8, hn8, hv8, rfl⟩ : ∃ oj, mW oj A T n (zNz T n 0 ((nI nr) - 1) (zU2 T n nr z)) ∧ rP J4 oj ∧ (zN T n (zU2 T n nr z) = true → oj 0 12 = nI (tkB T n (zU2 T n nr z).2)) ∧ ((zNz T n 0 ((nI nr) - 1) (zU2 T n nr z)).1 = 0 → r5 = zNv T n 0 ((nI nr) - 1) (zU2 T n nr z)) ∧ u6 = (oj, A, K) := g7
    have hP : Wp mN E mK (J8, A, K) H := hP
    have hr8 := rP_tr hr4 hp8
    have hW8 : mW J8 A T n (zNz T n 0 (nI nr - 1) (zU2 T n nr z)) := hW8
    refine lv_istore (lv' := [(4, .int r5), (3, .int r1), (0, .ref (eP E 0)), (1, .int (nI (tkB T n z.2))), (2, .int (bI b))]) hx hb dX7_readRule_45 hl (by decide) rfl (fun ls hl => ?_)
    refine lv_iload_n hx hb dX7_readRule_47 rfl (lv_at hl 1 rfl) ?_
    refine lv_iload hx hb dX7_readRule_48 (lv_at hl 0 rfl) ?_
    refine lv_icmp_ne (tgt := 63) hx hb dX7_readRule_50 (by decide) (fun h50 => ?_) (fun h50 => ?_)
    · have hdf : ¬ ((zNz T n 0 (nI nr - 1) (zU2 T n nr z)).1 = 0 ∧ zNv T n 0 (nI nr - 1) (zU2 T n nr z) = zUf T n nr z) := fun q => h50 (((hv4 (zMo_NN q.1)).trans q.2.symm).trans (hv8 q.1).symm)
      have hWu : mW J8 A T n (zU4 T n nr z) := by rw [zU4_d hdf]; exact hW8
      refine lv_iload_n hx hb dX7_readRule_63 rfl (lv_at hl 4 rfl) ?_
      refine lv_if_eq (tgt := 71) hx hb dX7_readRule_64 (by decide) (fun h64 => ?_) (fun h64 => ?_)
      · obtain rfl : b = false := bI_f h64
        refine lv_aload_n hx hb dX7_readRule_71 rfl (lv_at hl 2 rfl) ?_
        refine lv_iconst (v := 0) hx hb dX7_readRule_72 (by decide) ?_
        refine lv_iconst (v := 4) hx hb dX7_readRule_73 (by decide) ?_
        refine cn_wi (ck_V (a := eP E 0) S lk_X7_113 (c_X7_number l E J8 A K T n (zU4 T n nr z) 0 4 hE hWu) ⟨rfl, rfl⟩ ⟨Nat.le_of_ble_eq_true rfl, Nat.le_of_ble_eq_true rfl⟩ bl_w (rc_w hK hP 0 (by decide) rfl rfl) (bw_U hE hK hC hP hS) rfl hl.1 (Nat.le_of_ble_eq_true rfl) ⟨Nat.le_refl _, Nat.le_refl _⟩ dX7_readRule_74 rfl) hS (fun r9 u10 H locs g11 hP hS => ?_)
        obtain ⟨J12, hW12, hp12, hn12, hv12, rfl⟩ : ∃ oj, mW oj A T n (zNz T n 0 4 (zU4 T n nr z)) ∧ rP J8 oj ∧ (zN T n (zU4 T n nr z) = true → oj 0 12 = nI (tkB T n (zU4 T n nr z).2)) ∧ ((zNz T n 0 4 (zU4 T n nr z)).1 = 0 → r9 = zNv T n 0 4 (zU4 T n nr z)) ∧ u10 = (oj, A, K) := g11
        have hP : Wp mN E mK (J12, A, K) H := hP
        have hr12 := rP_tr hr8 hp12
        have hW12 : mW J12 A T n (zU5 T n nr false z) := hW12
        refine lv_istore (lv' := [(5, .int r9), (4, .int r5), (3, .int r1), (0, .ref (eP E 0)), (1, .int (nI (tkB T n z.2))), (2, .int (bI b))]) hx hb dX7_readRule_77 hl (by decide) rfl (fun ls hl => ?_)
        refine lv_iload_n hx hb dX7_readRule_79 rfl (lv_at hl 5 rfl) ?_
        refine lv_if_eq (tgt := 93) hx hb dX7_readRule_80 (by decide) (fun h80 => ?_) (fun h80 => absurd (show bI false = 0 from rfl) h80)
        refine lv_aload_n hx hb dX7_readRule_93 rfl (lv_at hl 3 rfl) ?_
        refine lv_iconst (v := 1) hx hb dX7_readRule_94 (by decide) ?_
        refine lv_sipush (v := 2295) hx hb dX7_readRule_95 (by decide) ?_
        refine cn_wi (ck_V (a := eP E 0) S lk_X7_113 (c_X7_number l E J12 A K T n (zU5 T n nr false z) 1 2295 hE hW12) ⟨rfl, rfl⟩ ⟨Nat.le_of_ble_eq_true rfl, Nat.le_of_ble_eq_true rfl⟩ bl_w (rc_w hK hP 0 (by decide) rfl rfl) (bw_U hE hK hC hP hS) rfl hl.1 (Nat.le_of_ble_eq_true rfl) ⟨Nat.le_refl _, Nat.le_refl _⟩ dX7_readRule_98 rfl) hS (fun r13 u14 H locs g15 hP hS => ?_)
        obtain ⟨J16, hW16, hp16, hn16, hv16, rfl⟩ : ∃ oj, mW oj A T n (zNz T n 1 2295 (zU5 T n nr false z)) ∧ rP J12 oj ∧ (zN T n (zU5 T n nr false z) = true → oj 0 12 = nI (tkB T n (zU5 T n nr false z).2)) ∧ ((zNz T n 1 2295 (zU5 T n nr false z)).1 = 0 → r13 = zNv T n 1 2295 (zU5 T n nr false z)) ∧ u14 = (oj, A, K) := g15
        have hP : Wp mN E mK (J16, A, K) H := hP
        have hr16 := rP_tr hr12 hp16
        have hW16 : mW J16 A T n (zU6 T n nr false z) := hW16
        refine lv_istore (lv' := [(6, .int r13), (5, .int r9), (4, .int r5), (3, .int r1), (0, .ref (eP E 0)), (1, .int (nI (tkB T n z.2))), (2, .int (bI b))]) hx hb dX7_readRule_101 hl (by decide) rfl (fun ls hl => ?_)
        refine lv_aload_n hx hb dX7_readRule_103 rfl (lv_at hl 4 rfl) ?_
        refine cn_si (ck_V (a := eP E 0) S lk_X7_62 (c_X7_isGood l E J16 A K hE) ⟨rfl, rfl⟩ ⟨Nat.le_of_ble_eq_true rfl, Nat.le_of_ble_eq_true rfl⟩ bl_w (rc_w hK hP 0 (by decide) rfl rfl) (bw_U hE hK hC hP hS) rfl hl.1 (Nat.le_of_ble_eq_true rfl) ⟨Nat.le_refl _, Nat.le_refl _⟩ dX7_readRule_104 rfl) (fun r17 g18 => ?_)
        obtain rfl : r17 = bI (decide (J16 0 5 = 0)) := g18
        refine lv_if_ne (tgt := 111) hx hb dX7_readRule_107 (by decide) (fun h107 => ?_) (fun h107 => ?_)
        · have hz6 : (zU6 T n nr false z).1 = 0 := hW16.2.1.symm.trans (of_decide_eq_true (bI_t h107))
          have hz5 : (zU5 T n nr false z).1 = 0 := zMo_NN hz6
          have hz4 : (zU4 T n nr z).1 = 0 := zMo_NN hz5
          have e3 : zU3 T n nr z = zU2 T n nr z := zU4_g hz4
          have hy2 : (zNz T n 0 (nI nr - 1) (zU2 T n nr z)).1 = 0 := by rw [← e3]; exact hz4
          have hz2 : (zNz T n 0 (nI nr - 1) (zA T n z)).1 = 0 := zMo_NN (z := zU2 T n nr z) hy2
          obtain rfl : r1 = (zUf T n nr z) := hv4 hz2
          obtain rfl : r5 = (zNv T n 0 (nI nr - 1) (zU2 T n nr z)) := hv8 hy2
          obtain rfl : r9 = (zNv T n 0 4 (zU4 T n nr z)) := hv12 hz5
          obtain rfl : r13 = (zNv T n 1 2295 (zU5 T n nr false z)) := hv16 hz6
          refine lv_aload_n hx hb dX7_readRule_111 rfl (lv_at hl 4 rfl) ?_
          refine rw_getr (x := (J16, A, K)) S hK hP 0 (by decide) rfl fk_X7_20 rfl dX7_readRule_112 ?_
          refine lv_iconst (v := 1) hx hb dX7_readRule_115 (by decide) ?_
          refine rw_iald (x := (J16, A, K)) (v := nI nu) S hK hP 3 (by decide) rfl 1 rfl (by decide) (by decide) hd4 dX7_readRule_116 ?_
          refine cn_si (ck_S S lk_X7_139 (c_X7_ruleN l nu) ⟨rfl, rfl⟩ ⟨Nat.le_of_ble_eq_true rfl, Nat.le_of_ble_eq_true rfl⟩ bl_T t_U rfl hl.1 (Nat.le_of_ble_eq_true rfl) ⟨Nat.le_refl _, Nat.le_refl _⟩ dX7_readRule_117 rfl) (fun r19 g20 => ?_)
          obtain rfl : r19 = nI (34 + 4 * nu) := g20
          refine lv_istore (lv' := [(7, .int (nI (34 + 4 * nu))), (6, .int (zNv T n 1 2295 (zU5 T n nr false z))), (5, .int (zNv T n 0 4 (zU4 T n nr z))), (4, .int (zNv T n 0 (nI nr - 1) (zU2 T n nr z))), (3, .int (zUf T n nr z)), (0, .ref (eP E 0)), (1, .int (nI (tkB T n z.2))), (2, .int (bI b))]) hx hb dX7_readRule_120 hl (by decide) rfl (fun ls hl => ?_)
          refine lv_aload_n hx hb dX7_readRule_122 rfl (lv_at hl 5 rfl) ?_
          refine rw_getr (x := (J16, A, K)) S hK hP 0 (by decide) rfl fk_X7_20 rfl dX7_readRule_123 ?_
          refine lv_iload hx hb dX7_readRule_126 (lv_at hl 0 rfl) ?_
          refine lv_iload hx hb dX7_readRule_128 (lv_at hl 2 rfl) ?_
          refine lv_iconst (v := 1) hx hb dX7_readRule_130 (by decide) ?_
          refine lv_iadd hx hb dX7_readRule_131 ?_
          refine rw_iast (x := (J16, A, K)) (v := ((zNv T n 0 4 (zU4 T n nr z)) + 1)) S hE hK hP hS 3 (by decide) rfl (34 + 4 * nu) rfl (by omega) (by decide) dX7_readRule_132 (fun H locs hP hS => ?_)
          have hP : Wp mN E mK (J16, (up2 A 3 (34 + 4 * nu) ((zNv T n 0 4 (zU4 T n nr z)) + 1)), K) H := hP
          refine lv_aload_n hx hb dX7_readRule_133 rfl (lv_at hl 5 rfl) ?_
          refine rw_getr (x := (J16, (up2 A 3 (34 + 4 * nu) ((zNv T n 0 4 (zU4 T n nr z)) + 1)), K)) S hK hP 0 (by decide) rfl fk_X7_20 rfl dX7_readRule_134 ?_
          refine lv_iload hx hb dX7_readRule_137 (lv_at hl 0 rfl) ?_
          refine lv_iconst (v := 1) hx hb dX7_readRule_139 (by decide) ?_
          refine lv_iadd hx hb dX7_readRule_140 ?_
          refine tp_i (y := nI ((34 + 4 * nu) + 1)) (nI_add (34 + 4 * nu) 1) ?_
          refine lv_iload_n hx hb dX7_readRule_141 rfl (lv_at hl 4 rfl) ?_
          refine rw_iast (x := (J16, (up2 A 3 (34 + 4 * nu) ((zNv T n 0 4 (zU4 T n nr z)) + 1)), K)) (v := (zUf T n nr z)) S hE hK hP hS 3 (by decide) rfl ((34 + 4 * nu) + 1) rfl (by omega) (by decide) dX7_readRule_142 (fun H locs hP hS => ?_)
          have hP : Wp mN E mK (J16, (up2 (up2 A 3 (34 + 4 * nu) ((zNv T n 0 4 (zU4 T n nr z)) + 1)) 3 ((34 + 4 * nu) + 1) (zUf T n nr z)), K) H := hP
          refine lv_aload_n hx hb dX7_readRule_143 rfl (lv_at hl 5 rfl) ?_
          refine rw_getr (x := (J16, (up2 (up2 A 3 (34 + 4 * nu) ((zNv T n 0 4 (zU4 T n nr z)) + 1)) 3 ((34 + 4 * nu) + 1) (zUf T n nr z)), K)) S hK hP 0 (by decide) rfl fk_X7_20 rfl dX7_readRule_144 ?_
          refine lv_iload hx hb dX7_readRule_147 (lv_at hl 0 rfl) ?_
          refine lv_iconst (v := 2) hx hb dX7_readRule_149 (by decide) ?_
          refine lv_iadd hx hb dX7_readRule_150 ?_
          refine tp_i (y := nI ((34 + 4 * nu) + 2)) (nI_add (34 + 4 * nu) 2) ?_
          refine lv_iload hx hb dX7_readRule_151 (lv_at hl 3 rfl) ?_
          refine rw_iast (x := (J16, (up2 (up2 A 3 (34 + 4 * nu) ((zNv T n 0 4 (zU4 T n nr z)) + 1)) 3 ((34 + 4 * nu) + 1) (zUf T n nr z)), K)) (v := (zNv T n 0 (nI nr - 1) (zU2 T n nr z))) S hE hK hP hS 3 (by decide) rfl ((34 + 4 * nu) + 2) rfl (by omega) (by decide) dX7_readRule_153 (fun H locs hP hS => ?_)
          have hP : Wp mN E mK (J16, (up2 (up2 (up2 A 3 (34 + 4 * nu) ((zNv T n 0 4 (zU4 T n nr z)) + 1)) 3 ((34 + 4 * nu) + 1) (zUf T n nr z)) 3 ((34 + 4 * nu) + 2) (zNv T n 0 (nI nr - 1) (zU2 T n nr z))), K) H := hP
          refine lv_aload_n hx hb dX7_readRule_154 rfl (lv_at hl 5 rfl) ?_
          refine rw_getr (x := (J16, (up2 (up2 (up2 A 3 (34 + 4 * nu) ((zNv T n 0 4 (zU4 T n nr z)) + 1)) 3 ((34 + 4 * nu) + 1) (zUf T n nr z)) 3 ((34 + 4 * nu) + 2) (zNv T n 0 (nI nr - 1) (zU2 T n nr z))), K)) S hK hP 0 (by decide) rfl fk_X7_20 rfl dX7_readRule_155 ?_
          refine lv_iload hx hb dX7_readRule_158 (lv_at hl 0 rfl) ?_
          refine lv_iconst (v := 3) hx hb dX7_readRule_160 (by decide) ?_
          refine lv_iadd hx hb dX7_readRule_161 ?_
          refine tp_i (y := nI ((34 + 4 * nu) + 3)) (nI_add (34 + 4 * nu) 3) ?_
          refine lv_iload hx hb dX7_readRule_162 (lv_at hl 1 rfl) ?_
          refine rw_iast (x := (J16, (up2 (up2 (up2 A 3 (34 + 4 * nu) ((zNv T n 0 4 (zU4 T n nr z)) + 1)) 3 ((34 + 4 * nu) + 1) (zUf T n nr z)) 3 ((34 + 4 * nu) + 2) (zNv T n 0 (nI nr - 1) (zU2 T n nr z))), K)) (v := (zNv T n 1 2295 (zU5 T n nr false z))) S hE hK hP hS 3 (by decide) rfl ((34 + 4 * nu) + 3) rfl (by omega) (by decide) dX7_readRule_164 (fun H locs hP hS => ?_)
          have hP : Wp mN E mK (J16, (up2 (up2 (up2 (up2 A 3 (34 + 4 * nu) ((zNv T n 0 4 (zU4 T n nr z)) + 1)) 3 ((34 + 4 * nu) + 1) (zUf T n nr z)) 3 ((34 + 4 * nu) + 2) (zNv T n 0 (nI nr - 1) (zU2 T n nr z))) 3 ((34 + 4 * nu) + 3) (zNv T n 1 2295 (zU5 T n nr false z))), K) H := hP
          refine lv_aload_n hx hb dX7_readRule_165 rfl (lv_at hl 5 rfl) ?_
          refine rw_getr (x := (J16, (up2 (up2 (up2 (up2 A 3 (34 + 4 * nu) ((zNv T n 0 4 (zU4 T n nr z)) + 1)) 3 ((34 + 4 * nu) + 1) (zUf T n nr z)) 3 ((34 + 4 * nu) + 2) (zNv T n 0 (nI nr - 1) (zU2 T n nr z))) 3 ((34 + 4 * nu) + 3) (zNv T n 1 2295 (zU5 T n nr false z))), K)) S hK hP 0 (by decide) rfl fk_X7_20 rfl dX7_readRule_166 ?_
          refine lv_iconst (v := 1) hx hb dX7_readRule_169 (by decide) ?_
          refine lv_dup2_11 hx hb dX7_readRule_170 rfl rfl ?_
          refine rw_iald (x := (J16, (up2 (up2 (up2 (up2 A 3 (34 + 4 * nu) ((zNv T n 0 4 (zU4 T n nr z)) + 1)) 3 ((34 + 4 * nu) + 1) (zUf T n nr z)) 3 ((34 + 4 * nu) + 2) (zNv T n 0 (nI nr - 1) (zU2 T n nr z))) 3 ((34 + 4 * nu) + 3) (zNv T n 1 2295 (zU5 T n nr false z))), K)) (v := nI nu) S hK hP 3 (by decide) rfl 1 rfl (by decide) (by decide) ((up2_j (by omega)).trans ((up2_j (by omega)).trans ((up2_j (by omega)).trans ((up2_j (by omega)).trans hd4)))) dX7_readRule_171 ?_
          refine lv_iconst (v := 1) hx hb dX7_readRule_172 (by decide) ?_
          refine lv_iadd hx hb dX7_readRule_173 ?_
          refine tp_i (y := nI (nu + 1)) (nI_add nu 1) ?_
          refine rw_iast (x := (J16, (up2 (up2 (up2 (up2 A 3 (34 + 4 * nu) ((zNv T n 0 4 (zU4 T n nr z)) + 1)) 3 ((34 + 4 * nu) + 1) (zUf T n nr z)) 3 ((34 + 4 * nu) + 2) (zNv T n 0 (nI nr - 1) (zU2 T n nr z))) 3 ((34 + 4 * nu) + 3) (zNv T n 1 2295 (zU5 T n nr false z))), K)) (v := (nI (nu + 1))) S hE hK hP hS 3 (by decide) rfl 1 rfl (by decide) (by decide) dX7_readRule_174 (fun H locs hP hS => ?_)
          have hP : Wp mN E mK (J16, (up2 (up2 (up2 (up2 (up2 A 3 (34 + 4 * nu) ((zNv T n 0 4 (zU4 T n nr z)) + 1)) 3 ((34 + 4 * nu) + 1) (zUf T n nr z)) 3 ((34 + 4 * nu) + 2) (zNv T n 0 (nI nr - 1) (zU2 T n nr z))) 3 ((34 + 4 * nu) + 3) (zNv T n 1 2295 (zU5 T n nr false z))) 3 1 (nI (nu + 1))), K) H := hP
          exact re_wv (x := (J16, (up2 (up2 (up2 (up2 (up2 A 3 (34 + 4 * nu) ((zNv T n 0 4 (zU4 T n nr z)) + 1)) 3 ((34 + 4 * nu) + 1) (zUf T n nr z)) 3 ((34 + 4 * nu) + 2) (zNv T n 0 (nI nr - 1) (zU2 T n nr z))) 3 ((34 + 4 * nu) + 3) (zNv T n 1 2295 (zU5 T n nr false z))) 3 1 (nI (nu + 1))), K)) hx hb hr hlk hP hS ⟨_, _, rB_rule hW16 hr16 hnu hz6 hD rfl (by unfold zUg; rw [e3]) rfl rfl (zNv_rl hd1 hz2) (zNv_rl hd1 hy2) (Or.inr (zNv_r2 (m := 4) (by decide) ⟨0, by decide, rfl⟩ hz5)), rfl⟩ dX7_readRule_175
        · have hz6 : ¬ (zU6 T n nr false z).1 = 0 := fun g => absurd (decide_eq_true (hW16.2.1.trans g)) (by rw [bI_f (Classical.byContradiction h107)]; decide)
          exact re_wv (x := (J16, A, K)) hx hb hr hlk hP hS ⟨_, A, (by rw [sRule_n (by omega) hz6]; exact rB_bad (P := (nr, nu, fp, C, zU6 T n nr false z)) hW16 hr16 hz6), rfl⟩ dX7_readRule_110
      · obtain rfl : b = true := bI_t h64
        refine lv_iconst (v := (-1)) hx hb dX7_readRule_67 (by decide) ?_
        refine lv_goto (tgt := 77) hx hb dX7_readRule_68 (by decide) ?_
        refine lv_istore (lv' := [(5, .int (-1)), (4, .int r5), (3, .int r1), (0, .ref (eP E 0)), (1, .int (nI (tkB T n z.2))), (2, .int (bI b))]) hx hb dX7_readRule_77 hl (by decide) rfl (fun ls hl => ?_)
        refine lv_iload_n hx hb dX7_readRule_79 rfl (lv_at hl 5 rfl) ?_
        refine lv_if_eq (tgt := 93) hx hb dX7_readRule_80 (by decide) (fun h80 => absurd h80 (show ¬ bI true = 0 by decide)) (fun h80 => ?_)
        refine lv_aload_n hx hb dX7_readRule_83 rfl (lv_at hl 3 rfl) ?_
        refine lv_iconst (v := 1) hx hb dX7_readRule_84 (by decide) ?_
        refine lv_bipush (v := 9) hx hb dX7_readRule_85 (by decide) ?_
        refine cn_wi (ck_V (a := eP E 0) S lk_X7_113 (c_X7_number l E J8 A K T n (zU5 T n nr true z) 1 9 hE hWu) ⟨rfl, rfl⟩ ⟨Nat.le_of_ble_eq_true rfl, Nat.le_of_ble_eq_true rfl⟩ bl_w (rc_w hK hP 0 (by decide) rfl rfl) (bw_U hE hK hC hP hS) rfl hl.1 (Nat.le_of_ble_eq_true rfl) ⟨Nat.le_refl _, Nat.le_refl _⟩ dX7_readRule_87 rfl) hS (fun r21 u22 H locs g23 hP hS => ?_)
        obtain ⟨J24, hW24, hp24, hn24, hv24, rfl⟩ : ∃ oj, mW oj A T n (zNz T n 1 9 (zU5 T n nr true z)) ∧ rP J8 oj ∧ (zN T n (zU5 T n nr true z) = true → oj 0 12 = nI (tkB T n (zU5 T n nr true z).2)) ∧ ((zNz T n 1 9 (zU5 T n nr true z)).1 = 0 → r21 = zNv T n 1 9 (zU5 T n nr true z)) ∧ u22 = (oj, A, K) := g23
        have hP : Wp mN E mK (J24, A, K) H := hP
        have hr24 := rP_tr hr8 hp24
        have hW24 : mW J24 A T n (zU6 T n nr true z) := hW24
        refine lv_goto (tgt := 101) hx hb dX7_readRule_90 (by decide) ?_
        refine lv_istore (lv' := [(6, .int r21), (5, .int (-1)), (4, .int r5), (3, .int r1), (0, .ref (eP E 0)), (1, .int (nI (tkB T n z.2))), (2, .int (bI b))]) hx hb dX7_readRule_101 hl (by decide) rfl (fun ls hl => ?_)
        refine lv_aload_n hx hb dX7_readRule_103 rfl (lv_at hl 4 rfl) ?_
        refine cn_si (ck_V (a := eP E 0) S lk_X7_62 (c_X7_isGood l E J24 A K hE) ⟨rfl, rfl⟩ ⟨Nat.le_of_ble_eq_true rfl, Nat.le_of_ble_eq_true rfl⟩ bl_w (rc_w hK hP 0 (by decide) rfl rfl) (bw_U hE hK hC hP hS) rfl hl.1 (Nat.le_of_ble_eq_true rfl) ⟨Nat.le_refl _, Nat.le_refl _⟩ dX7_readRule_104 rfl) (fun r25 g26 => ?_)
        obtain rfl : r25 = bI (decide (J24 0 5 = 0)) := g26
        refine lv_if_ne (tgt := 111) hx hb dX7_readRule_107 (by decide) (fun h107 => ?_) (fun h107 => ?_)
        · have hz6 : (zU6 T n nr true z).1 = 0 := hW24.2.1.symm.trans (of_decide_eq_true (bI_t h107))
          have hz5 : (zU5 T n nr true z).1 = 0 := zMo_NN hz6
          have hz4 : (zU4 T n nr z).1 = 0 := hz5
          have e3 : zU3 T n nr z = zU2 T n nr z := zU4_g hz4
          have hy2 : (zNz T n 0 (nI nr - 1) (zU2 T n nr z)).1 = 0 := by rw [← e3]; exact hz4
          have hz2 : (zNz T n 0 (nI nr - 1) (zA T n z)).1 = 0 := zMo_NN (z := zU2 T n nr z) hy2
          obtain rfl : r1 = (zUf T n nr z) := hv4 hz2
          obtain rfl : r5 = (zNv T n 0 (nI nr - 1) (zU2 T n nr z)) := hv8 hy2
          obtain rfl : r21 = (zNv T n 1 9 (zU5 T n nr true z)) := hv24 hz6
          refine lv_aload_n hx hb dX7_readRule_111 rfl (lv_at hl 4 rfl) ?_
          refine rw_getr (x := (J24, A, K)) S hK hP 0 (by decide) rfl fk_X7_20 rfl dX7_readRule_112 ?_
          refine lv_iconst (v := 1) hx hb dX7_readRule_115 (by decide) ?_
          refine rw_iald (x := (J24, A, K)) (v := nI nu) S hK hP 3 (by decide) rfl 1 rfl (by decide) (by decide) hd4 dX7_readRule_116 ?_
          refine cn_si (ck_S S lk_X7_139 (c_X7_ruleN l nu) ⟨rfl, rfl⟩ ⟨Nat.le_of_ble_eq_true rfl, Nat.le_of_ble_eq_true rfl⟩ bl_T t_U rfl hl.1 (Nat.le_of_ble_eq_true rfl) ⟨Nat.le_refl _, Nat.le_refl _⟩ dX7_readRule_117 rfl) (fun r27 g28 => ?_)
          obtain rfl : r27 = nI (34 + 4 * nu) := g28
          refine lv_istore (lv' := [(7, .int (nI (34 + 4 * nu))), (6, .int (zNv T n 1 9 (zU5 T n nr true z))), (5, .int (-1)), (4, .int (zNv T n 0 (nI nr - 1) (zU2 T n nr z))), (3, .int (zUf T n nr z)), (0, .ref (eP E 0)), (1, .int (nI (tkB T n z.2))), (2, .int (bI b))]) hx hb dX7_readRule_120 hl (by decide) rfl (fun ls hl => ?_)
          refine lv_aload_n hx hb dX7_readRule_122 rfl (lv_at hl 5 rfl) ?_
          refine rw_getr (x := (J24, A, K)) S hK hP 0 (by decide) rfl fk_X7_20 rfl dX7_readRule_123 ?_
          refine lv_iload hx hb dX7_readRule_126 (lv_at hl 0 rfl) ?_
          refine lv_iload hx hb dX7_readRule_128 (lv_at hl 2 rfl) ?_
          refine lv_iconst (v := 1) hx hb dX7_readRule_130 (by decide) ?_
          refine lv_iadd hx hb dX7_readRule_131 ?_
          refine rw_iast (x := (J24, A, K)) (v := ((-1) + 1)) S hE hK hP hS 3 (by decide) rfl (34 + 4 * nu) rfl (by omega) (by decide) dX7_readRule_132 (fun H locs hP hS => ?_)
          have hP : Wp mN E mK (J24, (up2 A 3 (34 + 4 * nu) ((-1) + 1)), K) H := hP
          refine lv_aload_n hx hb dX7_readRule_133 rfl (lv_at hl 5 rfl) ?_
          refine rw_getr (x := (J24, (up2 A 3 (34 + 4 * nu) ((-1) + 1)), K)) S hK hP 0 (by decide) rfl fk_X7_20 rfl dX7_readRule_134 ?_
          refine lv_iload hx hb dX7_readRule_137 (lv_at hl 0 rfl) ?_
          refine lv_iconst (v := 1) hx hb dX7_readRule_139 (by decide) ?_
          refine lv_iadd hx hb dX7_readRule_140 ?_
          refine tp_i (y := nI ((34 + 4 * nu) + 1)) (nI_add (34 + 4 * nu) 1) ?_
          refine lv_iload_n hx hb dX7_readRule_141 rfl (lv_at hl 4 rfl) ?_
          refine rw_iast (x := (J24, (up2 A 3 (34 + 4 * nu) ((-1) + 1)), K)) (v := (zUf T n nr z)) S hE hK hP hS 3 (by decide) rfl ((34 + 4 * nu) + 1) rfl (by omega) (by decide) dX7_readRule_142 (fun H locs hP hS => ?_)
          have hP : Wp mN E mK (J24, (up2 (up2 A 3 (34 + 4 * nu) ((-1) + 1)) 3 ((34 + 4 * nu) + 1) (zUf T n nr z)), K) H := hP
          refine lv_aload_n hx hb dX7_readRule_143 rfl (lv_at hl 5 rfl) ?_
          refine rw_getr (x := (J24, (up2 (up2 A 3 (34 + 4 * nu) ((-1) + 1)) 3 ((34 + 4 * nu) + 1) (zUf T n nr z)), K)) S hK hP 0 (by decide) rfl fk_X7_20 rfl dX7_readRule_144 ?_
          refine lv_iload hx hb dX7_readRule_147 (lv_at hl 0 rfl) ?_
          refine lv_iconst (v := 2) hx hb dX7_readRule_149 (by decide) ?_
          refine lv_iadd hx hb dX7_readRule_150 ?_
          refine tp_i (y := nI ((34 + 4 * nu) + 2)) (nI_add (34 + 4 * nu) 2) ?_
          refine lv_iload hx hb dX7_readRule_151 (lv_at hl 3 rfl) ?_
          refine rw_iast (x := (J24, (up2 (up2 A 3 (34 + 4 * nu) ((-1) + 1)) 3 ((34 + 4 * nu) + 1) (zUf T n nr z)), K)) (v := (zNv T n 0 (nI nr - 1) (zU2 T n nr z))) S hE hK hP hS 3 (by decide) rfl ((34 + 4 * nu) + 2) rfl (by omega) (by decide) dX7_readRule_153 (fun H locs hP hS => ?_)
          have hP : Wp mN E mK (J24, (up2 (up2 (up2 A 3 (34 + 4 * nu) ((-1) + 1)) 3 ((34 + 4 * nu) + 1) (zUf T n nr z)) 3 ((34 + 4 * nu) + 2) (zNv T n 0 (nI nr - 1) (zU2 T n nr z))), K) H := hP
          refine lv_aload_n hx hb dX7_readRule_154 rfl (lv_at hl 5 rfl) ?_
          refine rw_getr (x := (J24, (up2 (up2 (up2 A 3 (34 + 4 * nu) ((-1) + 1)) 3 ((34 + 4 * nu) + 1) (zUf T n nr z)) 3 ((34 + 4 * nu) + 2) (zNv T n 0 (nI nr - 1) (zU2 T n nr z))), K)) S hK hP 0 (by decide) rfl fk_X7_20 rfl dX7_readRule_155 ?_
          refine lv_iload hx hb dX7_readRule_158 (lv_at hl 0 rfl) ?_
          refine lv_iconst (v := 3) hx hb dX7_readRule_160 (by decide) ?_
          refine lv_iadd hx hb dX7_readRule_161 ?_
          refine tp_i (y := nI ((34 + 4 * nu) + 3)) (nI_add (34 + 4 * nu) 3) ?_
          refine lv_iload hx hb dX7_readRule_162 (lv_at hl 1 rfl) ?_
          refine rw_iast (x := (J24, (up2 (up2 (up2 A 3 (34 + 4 * nu) ((-1) + 1)) 3 ((34 + 4 * nu) + 1) (zUf T n nr z)) 3 ((34 + 4 * nu) + 2) (zNv T n 0 (nI nr - 1) (zU2 T n nr z))), K)) (v := (zNv T n 1 9 (zU5 T n nr true z))) S hE hK hP hS 3 (by decide) rfl ((34 + 4 * nu) + 3) rfl (by omega) (by decide) dX7_readRule_164 (fun H locs hP hS => ?_)
          have hP : Wp mN E mK (J24, (up2 (up2 (up2 (up2 A 3 (34 + 4 * nu) ((-1) + 1)) 3 ((34 + 4 * nu) + 1) (zUf T n nr z)) 3 ((34 + 4 * nu) + 2) (zNv T n 0 (nI nr - 1) (zU2 T n nr z))) 3 ((34 + 4 * nu) + 3) (zNv T n 1 9 (zU5 T n nr true z))), K) H := hP
          refine lv_aload_n hx hb dX7_readRule_165 rfl (lv_at hl 5 rfl) ?_
          refine rw_getr (x := (J24, (up2 (up2 (up2 (up2 A 3 (34 + 4 * nu) ((-1) + 1)) 3 ((34 + 4 * nu) + 1) (zUf T n nr z)) 3 ((34 + 4 * nu) + 2) (zNv T n 0 (nI nr - 1) (zU2 T n nr z))) 3 ((34 + 4 * nu) + 3) (zNv T n 1 9 (zU5 T n nr true z))), K)) S hK hP 0 (by decide) rfl fk_X7_20 rfl dX7_readRule_166 ?_
          refine lv_iconst (v := 1) hx hb dX7_readRule_169 (by decide) ?_
          refine lv_dup2_11 hx hb dX7_readRule_170 rfl rfl ?_
          refine rw_iald (x := (J24, (up2 (up2 (up2 (up2 A 3 (34 + 4 * nu) ((-1) + 1)) 3 ((34 + 4 * nu) + 1) (zUf T n nr z)) 3 ((34 + 4 * nu) + 2) (zNv T n 0 (nI nr - 1) (zU2 T n nr z))) 3 ((34 + 4 * nu) + 3) (zNv T n 1 9 (zU5 T n nr true z))), K)) (v := nI nu) S hK hP 3 (by decide) rfl 1 rfl (by decide) (by decide) ((up2_j (by omega)).trans ((up2_j (by omega)).trans ((up2_j (by omega)).trans ((up2_j (by omega)).trans hd4)))) dX7_readRule_171 ?_
          refine lv_iconst (v := 1) hx hb dX7_readRule_172 (by decide) ?_
          refine lv_iadd hx hb dX7_readRule_173 ?_
          refine tp_i (y := nI (nu + 1)) (nI_add nu 1) ?_
          refine rw_iast (x := (J24, (up2 (up2 (up2 (up2 A 3 (34 + 4 * nu) ((-1) + 1)) 3 ((34 + 4 * nu) + 1) (zUf T n nr z)) 3 ((34 + 4 * nu) + 2) (zNv T n 0 (nI nr - 1) (zU2 T n nr z))) 3 ((34 + 4 * nu) + 3) (zNv T n 1 9 (zU5 T n nr true z))), K)) (v := (nI (nu + 1))) S hE hK hP hS 3 (by decide) rfl 1 rfl (by decide) (by decide) dX7_readRule_174 (fun H locs hP hS => ?_)
          have hP : Wp mN E mK (J24, (up2 (up2 (up2 (up2 (up2 A 3 (34 + 4 * nu) ((-1) + 1)) 3 ((34 + 4 * nu) + 1) (zUf T n nr z)) 3 ((34 + 4 * nu) + 2) (zNv T n 0 (nI nr - 1) (zU2 T n nr z))) 3 ((34 + 4 * nu) + 3) (zNv T n 1 9 (zU5 T n nr true z))) 3 1 (nI (nu + 1))), K) H := hP
          exact re_wv (x := (J24, (up2 (up2 (up2 (up2 (up2 A 3 (34 + 4 * nu) ((-1) + 1)) 3 ((34 + 4 * nu) + 1) (zUf T n nr z)) 3 ((34 + 4 * nu) + 2) (zNv T n 0 (nI nr - 1) (zU2 T n nr z))) 3 ((34 + 4 * nu) + 3) (zNv T n 1 9 (zU5 T n nr true z))) 3 1 (nI (nu + 1))), K)) hx hb hr hlk hP hS ⟨_, _, rB_rule hW24 hr24 hnu hz6 hD rfl (by unfold zUg; rw [e3]) rfl rfl (zNv_rl hd1 hz2) (zNv_rl hd1 hy2) (Or.inl ⟨rfl, zNv_r2 (m := 9) (by decide) ⟨1, by decide, rfl⟩ hz6⟩), rfl⟩ dX7_readRule_175
        · have hz6 : ¬ (zU6 T n nr true z).1 = 0 := fun g => absurd (decide_eq_true (hW24.2.1.trans g)) (by rw [bI_f (Classical.byContradiction h107)]; decide)
          exact re_wv (x := (J24, A, K)) hx hb hr hlk hP hS ⟨_, A, (by rw [sRule_n (by omega) hz6]; exact rB_bad (P := (nr, nu, fp, C, zU6 T n nr true z)) hW24 hr24 hz6), rfl⟩ dX7_readRule_110
    · refine lv_aload_n hx hb dX7_readRule_53 rfl (lv_at hl 2 rfl) ?_
      refine lv_bipush (v := (-3)) hx hb dX7_readRule_54 (by decide) ?_
      refine lv_aload_n hx hb dX7_readRule_56 rfl (lv_at hl 2 rfl) ?_
      refine rw_geti (x := (J8, A, K)) (v := J8 0 12) S hK hP 0 (by decide) rfl fk_X7_87 rfl rfl dX7_readRule_57 ?_
      refine cn_wv (ck_V (a := eP E 0) S lk_X7_79 (c_X7_report l E J8 A K (-3) (J8 0 12) hE) ⟨rfl, rfl⟩ ⟨Nat.le_of_ble_eq_true rfl, Nat.le_of_ble_eq_true rfl⟩ bl_w (rc_w hK hP 0 (by decide) rfl rfl) (bw_U hE hK hC hP hS) rfl hl.1 (Nat.le_of_ble_eq_true rfl) ⟨Nat.le_refl _, Nat.le_refl _⟩ dX7_readRule_60 rfl) hS (fun u30 H locs g31 hP hS => ?_)
      obtain rfl : u30 = ((if J8 0 5 = 0 then up2 (up2 J8 0 5 (-3)) 0 6 (J8 0 12) else J8), A, K) := g31
      have hP : Wp mN E mK ((if J8 0 5 = 0 then up2 (up2 J8 0 5 (-3)) 0 6 (J8 0 12) else J8), A, K) H := hP
      by_cases hy2 : (zNz T n 0 (nI nr - 1) (zU2 T n nr z)).1 = 0
      · have hz2 : (zU2 T n nr z).1 = 0 := zMo_NN hy2
        rw [if_pos (show J8 0 5 = 0 from hW8.2.1.trans hy2)] at hP
        have hP : Wp mN E mK ((up2 (up2 J8 0 5 (-3)) 0 6 (J8 0 12)), A, K) H := hP
        have e4 : zU4 T n nr z = zF (-3) (zU2 T n nr z) := zU3_s hy2 (((hv8 hy2).symm.trans h50.symm).trans (hv4 hz2))
        have hWu : mW (up2 (up2 J8 0 5 (-3)) 0 6 (J8 0 12)) A T n (zU4 T n nr z) := by rw [e4]; exact mW_er3 hW8 ((zNz_le2 hWz)) hz2 (by decide) rfl rfl (hn8 (zNz_in hy2).1)
        have hru : rP I (up2 (up2 J8 0 5 (-3)) 0 6 (J8 0 12)) := rP_u (rP_u hr8 (by decide)) (by decide)
        have hbu : ¬ (zU4 T n nr z).1 = 0 := by rw [e4]; exact fun g => absurd ((if_pos hz2).symm.trans g : (-3 : Int32) = 0) (by decide)
        refine lv_iload_n hx hb dX7_readRule_63 rfl (lv_at hl 4 rfl) ?_
        refine lv_if_eq (tgt := 71) hx hb dX7_readRule_64 (by decide) (fun h64 => ?_) (fun h64 => ?_)
        · obtain rfl : b = false := bI_f h64
          refine lv_aload_n hx hb dX7_readRule_71 rfl (lv_at hl 2 rfl) ?_
          refine lv_iconst (v := 0) hx hb dX7_readRule_72 (by decide) ?_
          refine lv_iconst (v := 4) hx hb dX7_readRule_73 (by decide) ?_
          refine cn_wi (ck_V (a := eP E 0) S lk_X7_113 (c_X7_number l E (up2 (up2 J8 0 5 (-3)) 0 6 (J8 0 12)) A K T n (zU4 T n nr z) 0 4 hE hWu) ⟨rfl, rfl⟩ ⟨Nat.le_of_ble_eq_true rfl, Nat.le_of_ble_eq_true rfl⟩ bl_w (rc_w hK hP 0 (by decide) rfl rfl) (bw_U hE hK hC hP hS) rfl hl.1 (Nat.le_of_ble_eq_true rfl) ⟨Nat.le_refl _, Nat.le_refl _⟩ dX7_readRule_74 rfl) hS (fun r32 u33 H locs g34 hP hS => ?_)
          obtain ⟨J35, hW35, hp35, hn35, hv35, rfl⟩ : ∃ oj, mW oj A T n (zNz T n 0 4 (zU4 T n nr z)) ∧ rP (up2 (up2 J8 0 5 (-3)) 0 6 (J8 0 12)) oj ∧ (zN T n (zU4 T n nr z) = true → oj 0 12 = nI (tkB T n (zU4 T n nr z).2)) ∧ ((zNz T n 0 4 (zU4 T n nr z)).1 = 0 → r32 = zNv T n 0 4 (zU4 T n nr z)) ∧ u33 = (oj, A, K) := g34
          have hP : Wp mN E mK (J35, A, K) H := hP
          have hr35 := rP_tr hru hp35
          rw [zNz_b hbu] at hW35
          refine lv_istore (lv' := [(5, .int r32), (4, .int r5), (3, .int r1), (0, .ref (eP E 0)), (1, .int (nI (tkB T n z.2))), (2, .int (bI b))]) hx hb dX7_readRule_77 hl (by decide) rfl (fun ls hl => ?_)
          refine lv_iload_n hx hb dX7_readRule_79 rfl (lv_at hl 5 rfl) ?_
          refine lv_if_eq (tgt := 93) hx hb dX7_readRule_80 (by decide) (fun h80 => ?_) (fun h80 => absurd (show bI false = 0 from rfl) h80)
          refine lv_aload_n hx hb dX7_readRule_93 rfl (lv_at hl 3 rfl) ?_
          refine lv_iconst (v := 1) hx hb dX7_readRule_94 (by decide) ?_
          refine lv_sipush (v := 2295) hx hb dX7_readRule_95 (by decide) ?_
          refine cn_wi (ck_V (a := eP E 0) S lk_X7_113 (c_X7_number l E J35 A K T n (zU4 T n nr z) 1 2295 hE hW35) ⟨rfl, rfl⟩ ⟨Nat.le_of_ble_eq_true rfl, Nat.le_of_ble_eq_true rfl⟩ bl_w (rc_w hK hP 0 (by decide) rfl rfl) (bw_U hE hK hC hP hS) rfl hl.1 (Nat.le_of_ble_eq_true rfl) ⟨Nat.le_refl _, Nat.le_refl _⟩ dX7_readRule_98 rfl) hS (fun r36 u37 H locs g38 hP hS => ?_)
          obtain ⟨J39, hW39, hp39, hn39, hv39, rfl⟩ : ∃ oj, mW oj A T n (zNz T n 1 2295 (zU4 T n nr z)) ∧ rP J35 oj ∧ (zN T n (zU4 T n nr z) = true → oj 0 12 = nI (tkB T n (zU4 T n nr z).2)) ∧ ((zNz T n 1 2295 (zU4 T n nr z)).1 = 0 → r36 = zNv T n 1 2295 (zU4 T n nr z)) ∧ u37 = (oj, A, K) := g38
          have hP : Wp mN E mK (J39, A, K) H := hP
          have hr39 := rP_tr hr35 hp39
          rw [zNz_b hbu] at hW39
          refine lv_istore (lv' := [(6, .int r36), (5, .int r32), (4, .int r5), (3, .int r1), (0, .ref (eP E 0)), (1, .int (nI (tkB T n z.2))), (2, .int (bI b))]) hx hb dX7_readRule_101 hl (by decide) rfl (fun ls hl => ?_)
          refine lv_aload_n hx hb dX7_readRule_103 rfl (lv_at hl 4 rfl) ?_
          refine cn_si (ck_V (a := eP E 0) S lk_X7_62 (c_X7_isGood l E J39 A K hE) ⟨rfl, rfl⟩ ⟨Nat.le_of_ble_eq_true rfl, Nat.le_of_ble_eq_true rfl⟩ bl_w (rc_w hK hP 0 (by decide) rfl rfl) (bw_U hE hK hC hP hS) rfl hl.1 (Nat.le_of_ble_eq_true rfl) ⟨Nat.le_refl _, Nat.le_refl _⟩ dX7_readRule_104 rfl) (fun r40 g41 => ?_)
          obtain rfl : r40 = bI (decide (J39 0 5 = 0)) := g41
          refine lv_if_ne (tgt := 111) hx hb dX7_readRule_107 (by decide) (fun h107 => absurd h107 (show ¬ ¬ bI (decide (J39 0 5 = 0)) = 0 from fun g => g (by rw [decide_eq_false (fun q => hbu (hW39.2.1.symm.trans q))]; rfl))) (fun h107 => ?_)
          exact re_wv (x := (J39, A, K)) hx hb hr hlk hP hS ⟨_, A, (by have e6 : zU6 T n nr false z = zU4 T n nr z := (zNz_b (show ¬ (zU5 T n nr false z).1 = 0 from by rw [show zU5 T n nr false z = zU4 T n nr z from zNz_b hbu]; exact hbu)).trans (zNz_b hbu); have hb6 : ¬ (zU6 T n nr false z).1 = 0 := (by rw [e6]; exact hbu); rw [sRule_n (by omega) hb6]; exact rB_bad (P := (nr, nu, fp, C, zU6 T n nr false z)) (by show mW _ A T n (zU6 T n nr false z); rw [e6]; exact hW39) hr39 hb6), rfl⟩ dX7_readRule_110
        · obtain rfl : b = true := bI_t h64
          refine lv_iconst (v := (-1)) hx hb dX7_readRule_67 (by decide) ?_
          refine lv_goto (tgt := 77) hx hb dX7_readRule_68 (by decide) ?_
          refine lv_istore (lv' := [(5, .int (-1)), (4, .int r5), (3, .int r1), (0, .ref (eP E 0)), (1, .int (nI (tkB T n z.2))), (2, .int (bI b))]) hx hb dX7_readRule_77 hl (by decide) rfl (fun ls hl => ?_)
          refine lv_iload_n hx hb dX7_readRule_79 rfl (lv_at hl 5 rfl) ?_
          refine lv_if_eq (tgt := 93) hx hb dX7_readRule_80 (by decide) (fun h80 => absurd h80 (show ¬ bI true = 0 by decide)) (fun h80 => ?_)
          refine lv_aload_n hx hb dX7_readRule_83 rfl (lv_at hl 3 rfl) ?_
          refine lv_iconst (v := 1) hx hb dX7_readRule_84 (by decide) ?_
          refine lv_bipush (v := 9) hx hb dX7_readRule_85 (by decide) ?_
          refine cn_wi (ck_V (a := eP E 0) S lk_X7_113 (c_X7_number l E (up2 (up2 J8 0 5 (-3)) 0 6 (J8 0 12)) A K T n (zU4 T n nr z) 1 9 hE hWu) ⟨rfl, rfl⟩ ⟨Nat.le_of_ble_eq_true rfl, Nat.le_of_ble_eq_true rfl⟩ bl_w (rc_w hK hP 0 (by decide) rfl rfl) (bw_U hE hK hC hP hS) rfl hl.1 (Nat.le_of_ble_eq_true rfl) ⟨Nat.le_refl _, Nat.le_refl _⟩ dX7_readRule_87 rfl) hS (fun r42 u43 H locs g44 hP hS => ?_)
          obtain ⟨J45, hW45, hp45, hn45, hv45, rfl⟩ : ∃ oj, mW oj A T n (zNz T n 1 9 (zU4 T n nr z)) ∧ rP (up2 (up2 J8 0 5 (-3)) 0 6 (J8 0 12)) oj ∧ (zN T n (zU4 T n nr z) = true → oj 0 12 = nI (tkB T n (zU4 T n nr z).2)) ∧ ((zNz T n 1 9 (zU4 T n nr z)).1 = 0 → r42 = zNv T n 1 9 (zU4 T n nr z)) ∧ u43 = (oj, A, K) := g44
          have hP : Wp mN E mK (J45, A, K) H := hP
          have hr45 := rP_tr hru hp45
          rw [zNz_b hbu] at hW45
          refine lv_goto (tgt := 101) hx hb dX7_readRule_90 (by decide) ?_
          refine lv_istore (lv' := [(6, .int r42), (5, .int (-1)), (4, .int r5), (3, .int r1), (0, .ref (eP E 0)), (1, .int (nI (tkB T n z.2))), (2, .int (bI b))]) hx hb dX7_readRule_101 hl (by decide) rfl (fun ls hl => ?_)
          refine lv_aload_n hx hb dX7_readRule_103 rfl (lv_at hl 4 rfl) ?_
          refine cn_si (ck_V (a := eP E 0) S lk_X7_62 (c_X7_isGood l E J45 A K hE) ⟨rfl, rfl⟩ ⟨Nat.le_of_ble_eq_true rfl, Nat.le_of_ble_eq_true rfl⟩ bl_w (rc_w hK hP 0 (by decide) rfl rfl) (bw_U hE hK hC hP hS) rfl hl.1 (Nat.le_of_ble_eq_true rfl) ⟨Nat.le_refl _, Nat.le_refl _⟩ dX7_readRule_104 rfl) (fun r46 g47 => ?_)
          obtain rfl : r46 = bI (decide (J45 0 5 = 0)) := g47
          refine lv_if_ne (tgt := 111) hx hb dX7_readRule_107 (by decide) (fun h107 => absurd h107 (show ¬ ¬ bI (decide (J45 0 5 = 0)) = 0 from fun g => g (by rw [decide_eq_false (fun q => hbu (hW45.2.1.symm.trans q))]; rfl))) (fun h107 => ?_)
          exact re_wv (x := (J45, A, K)) hx hb hr hlk hP hS ⟨_, A, (by have e6 : zU6 T n nr true z = zU4 T n nr z := zNz_b hbu; have hb6 : ¬ (zU6 T n nr true z).1 = 0 := (by rw [e6]; exact hbu); rw [sRule_n (by omega) hb6]; exact rB_bad (P := (nr, nu, fp, C, zU6 T n nr true z)) (by show mW _ A T n (zU6 T n nr true z); rw [e6]; exact hW45) hr45 hb6), rfl⟩ dX7_readRule_110
      · rw [if_neg (show ¬ J8 0 5 = 0 from fun q => hy2 (hW8.2.1.symm.trans q))] at hP
        have hP : Wp mN E mK (J8, A, K) H := hP
        have e4 : zU4 T n nr z = zNz T n 0 (nI nr - 1) (zU2 T n nr z) := zU4_d (fun q => hy2 q.1)
        have hWu : mW J8 A T n (zU4 T n nr z) := by rw [e4]; exact hW8
        have hbu : ¬ (zU4 T n nr z).1 = 0 := by rw [e4]; exact hy2
        refine lv_iload_n hx hb dX7_readRule_63 rfl (lv_at hl 4 rfl) ?_
        refine lv_if_eq (tgt := 71) hx hb dX7_readRule_64 (by decide) (fun h64 => ?_) (fun h64 => ?_)
        · obtain rfl : b = false := bI_f h64
          refine lv_aload_n hx hb dX7_readRule_71 rfl (lv_at hl 2 rfl) ?_
          refine lv_iconst (v := 0) hx hb dX7_readRule_72 (by decide) ?_
          refine lv_iconst (v := 4) hx hb dX7_readRule_73 (by decide) ?_
          refine cn_wi (ck_V (a := eP E 0) S lk_X7_113 (c_X7_number l E J8 A K T n (zU4 T n nr z) 0 4 hE hWu) ⟨rfl, rfl⟩ ⟨Nat.le_of_ble_eq_true rfl, Nat.le_of_ble_eq_true rfl⟩ bl_w (rc_w hK hP 0 (by decide) rfl rfl) (bw_U hE hK hC hP hS) rfl hl.1 (Nat.le_of_ble_eq_true rfl) ⟨Nat.le_refl _, Nat.le_refl _⟩ dX7_readRule_74 rfl) hS (fun r48 u49 H locs g50 hP hS => ?_)
          obtain ⟨J51, hW51, hp51, hn51, hv51, rfl⟩ : ∃ oj, mW oj A T n (zNz T n 0 4 (zU4 T n nr z)) ∧ rP J8 oj ∧ (zN T n (zU4 T n nr z) = true → oj 0 12 = nI (tkB T n (zU4 T n nr z).2)) ∧ ((zNz T n 0 4 (zU4 T n nr z)).1 = 0 → r48 = zNv T n 0 4 (zU4 T n nr z)) ∧ u49 = (oj, A, K) := g50
          have hP : Wp mN E mK (J51, A, K) H := hP
          have hr51 := rP_tr hr8 hp51
          rw [zNz_b hbu] at hW51
          refine lv_istore (lv' := [(5, .int r48), (4, .int r5), (3, .int r1), (0, .ref (eP E 0)), (1, .int (nI (tkB T n z.2))), (2, .int (bI b))]) hx hb dX7_readRule_77 hl (by decide) rfl (fun ls hl => ?_)
          refine lv_iload_n hx hb dX7_readRule_79 rfl (lv_at hl 5 rfl) ?_
          refine lv_if_eq (tgt := 93) hx hb dX7_readRule_80 (by decide) (fun h80 => ?_) (fun h80 => absurd (show bI false = 0 from rfl) h80)
          refine lv_aload_n hx hb dX7_readRule_93 rfl (lv_at hl 3 rfl) ?_
          refine lv_iconst (v := 1) hx hb dX7_readRule_94 (by decide) ?_
          refine lv_sipush (v := 2295) hx hb dX7_readRule_95 (by decide) ?_
          refine cn_wi (ck_V (a := eP E 0) S lk_X7_113 (c_X7_number l E J51 A K T n (zU4 T n nr z) 1 2295 hE hW51) ⟨rfl, rfl⟩ ⟨Nat.le_of_ble_eq_true rfl, Nat.le_of_ble_eq_true rfl⟩ bl_w (rc_w hK hP 0 (by decide) rfl rfl) (bw_U hE hK hC hP hS) rfl hl.1 (Nat.le_of_ble_eq_true rfl) ⟨Nat.le_refl _, Nat.le_refl _⟩ dX7_readRule_98 rfl) hS (fun r52 u53 H locs g54 hP hS => ?_)
          obtain ⟨J55, hW55, hp55, hn55, hv55, rfl⟩ : ∃ oj, mW oj A T n (zNz T n 1 2295 (zU4 T n nr z)) ∧ rP J51 oj ∧ (zN T n (zU4 T n nr z) = true → oj 0 12 = nI (tkB T n (zU4 T n nr z).2)) ∧ ((zNz T n 1 2295 (zU4 T n nr z)).1 = 0 → r52 = zNv T n 1 2295 (zU4 T n nr z)) ∧ u53 = (oj, A, K) := g54
          have hP : Wp mN E mK (J55, A, K) H := hP
          have hr55 := rP_tr hr51 hp55
          rw [zNz_b hbu] at hW55
          refine lv_istore (lv' := [(6, .int r52), (5, .int r48), (4, .int r5), (3, .int r1), (0, .ref (eP E 0)), (1, .int (nI (tkB T n z.2))), (2, .int (bI b))]) hx hb dX7_readRule_101 hl (by decide) rfl (fun ls hl => ?_)
          refine lv_aload_n hx hb dX7_readRule_103 rfl (lv_at hl 4 rfl) ?_
          refine cn_si (ck_V (a := eP E 0) S lk_X7_62 (c_X7_isGood l E J55 A K hE) ⟨rfl, rfl⟩ ⟨Nat.le_of_ble_eq_true rfl, Nat.le_of_ble_eq_true rfl⟩ bl_w (rc_w hK hP 0 (by decide) rfl rfl) (bw_U hE hK hC hP hS) rfl hl.1 (Nat.le_of_ble_eq_true rfl) ⟨Nat.le_refl _, Nat.le_refl _⟩ dX7_readRule_104 rfl) (fun r56 g57 => ?_)
          obtain rfl : r56 = bI (decide (J55 0 5 = 0)) := g57
          refine lv_if_ne (tgt := 111) hx hb dX7_readRule_107 (by decide) (fun h107 => absurd h107 (show ¬ ¬ bI (decide (J55 0 5 = 0)) = 0 from fun g => g (by rw [decide_eq_false (fun q => hbu (hW55.2.1.symm.trans q))]; rfl))) (fun h107 => ?_)
          exact re_wv (x := (J55, A, K)) hx hb hr hlk hP hS ⟨_, A, (by have e6 : zU6 T n nr false z = zU4 T n nr z := (zNz_b (show ¬ (zU5 T n nr false z).1 = 0 from by rw [show zU5 T n nr false z = zU4 T n nr z from zNz_b hbu]; exact hbu)).trans (zNz_b hbu); have hb6 : ¬ (zU6 T n nr false z).1 = 0 := (by rw [e6]; exact hbu); rw [sRule_n (by omega) hb6]; exact rB_bad (P := (nr, nu, fp, C, zU6 T n nr false z)) (by show mW _ A T n (zU6 T n nr false z); rw [e6]; exact hW55) hr55 hb6), rfl⟩ dX7_readRule_110
        · obtain rfl : b = true := bI_t h64
          refine lv_iconst (v := (-1)) hx hb dX7_readRule_67 (by decide) ?_
          refine lv_goto (tgt := 77) hx hb dX7_readRule_68 (by decide) ?_
          refine lv_istore (lv' := [(5, .int (-1)), (4, .int r5), (3, .int r1), (0, .ref (eP E 0)), (1, .int (nI (tkB T n z.2))), (2, .int (bI b))]) hx hb dX7_readRule_77 hl (by decide) rfl (fun ls hl => ?_)
          refine lv_iload_n hx hb dX7_readRule_79 rfl (lv_at hl 5 rfl) ?_
          refine lv_if_eq (tgt := 93) hx hb dX7_readRule_80 (by decide) (fun h80 => absurd h80 (show ¬ bI true = 0 by decide)) (fun h80 => ?_)
          refine lv_aload_n hx hb dX7_readRule_83 rfl (lv_at hl 3 rfl) ?_
          refine lv_iconst (v := 1) hx hb dX7_readRule_84 (by decide) ?_
          refine lv_bipush (v := 9) hx hb dX7_readRule_85 (by decide) ?_
          refine cn_wi (ck_V (a := eP E 0) S lk_X7_113 (c_X7_number l E J8 A K T n (zU4 T n nr z) 1 9 hE hWu) ⟨rfl, rfl⟩ ⟨Nat.le_of_ble_eq_true rfl, Nat.le_of_ble_eq_true rfl⟩ bl_w (rc_w hK hP 0 (by decide) rfl rfl) (bw_U hE hK hC hP hS) rfl hl.1 (Nat.le_of_ble_eq_true rfl) ⟨Nat.le_refl _, Nat.le_refl _⟩ dX7_readRule_87 rfl) hS (fun r58 u59 H locs g60 hP hS => ?_)
          obtain ⟨J61, hW61, hp61, hn61, hv61, rfl⟩ : ∃ oj, mW oj A T n (zNz T n 1 9 (zU4 T n nr z)) ∧ rP J8 oj ∧ (zN T n (zU4 T n nr z) = true → oj 0 12 = nI (tkB T n (zU4 T n nr z).2)) ∧ ((zNz T n 1 9 (zU4 T n nr z)).1 = 0 → r58 = zNv T n 1 9 (zU4 T n nr z)) ∧ u59 = (oj, A, K) := g60
          have hP : Wp mN E mK (J61, A, K) H := hP
          have hr61 := rP_tr hr8 hp61
          rw [zNz_b hbu] at hW61
          refine lv_goto (tgt := 101) hx hb dX7_readRule_90 (by decide) ?_
          refine lv_istore (lv' := [(6, .int r58), (5, .int (-1)), (4, .int r5), (3, .int r1), (0, .ref (eP E 0)), (1, .int (nI (tkB T n z.2))), (2, .int (bI b))]) hx hb dX7_readRule_101 hl (by decide) rfl (fun ls hl => ?_)
          refine lv_aload_n hx hb dX7_readRule_103 rfl (lv_at hl 4 rfl) ?_
          refine cn_si (ck_V (a := eP E 0) S lk_X7_62 (c_X7_isGood l E J61 A K hE) ⟨rfl, rfl⟩ ⟨Nat.le_of_ble_eq_true rfl, Nat.le_of_ble_eq_true rfl⟩ bl_w (rc_w hK hP 0 (by decide) rfl rfl) (bw_U hE hK hC hP hS) rfl hl.1 (Nat.le_of_ble_eq_true rfl) ⟨Nat.le_refl _, Nat.le_refl _⟩ dX7_readRule_104 rfl) (fun r62 g63 => ?_)
          obtain rfl : r62 = bI (decide (J61 0 5 = 0)) := g63
          refine lv_if_ne (tgt := 111) hx hb dX7_readRule_107 (by decide) (fun h107 => absurd h107 (show ¬ ¬ bI (decide (J61 0 5 = 0)) = 0 from fun g => g (by rw [decide_eq_false (fun q => hbu (hW61.2.1.symm.trans q))]; rfl))) (fun h107 => ?_)
          exact re_wv (x := (J61, A, K)) hx hb hr hlk hP hS ⟨_, A, (by have e6 : zU6 T n nr true z = zU4 T n nr z := zNz_b hbu; have hb6 : ¬ (zU6 T n nr true z).1 = 0 := (by rw [e6]; exact hbu); rw [sRule_n (by omega) hb6]; exact rB_bad (P := (nr, nu, fp, C, zU6 T n nr true z)) (by show mW _ A T n (zU6 T n nr true z); rw [e6]; exact hW61) hr61 hb6), rfl⟩ dX7_readRule_110
  · have hnu : 12 ≤ nu := (Nat.lt_or_ge nu 12).elim (fun g => absurd ((nI_eq (by omega) (by decide)).mp (show nI nu = nI 12 from h8)) (by omega)) id
    refine lv_aload_n hx hb dX7_readRule_11 rfl (lv_at hl 0 rfl) ?_
    refine lv_bipush (v := (-4)) hx hb dX7_readRule_12 (by decide) ?_
    refine lv_iload_n hx hb dX7_readRule_14 rfl (lv_at hl 1 rfl) ?_
    have h0z : (zA T n z).1 = 0 := h0
    refine cn_wv (ck_V (a := eP E 0) S lk_X7_79 (c_X7_report l E I A K (-4) (nI (tkB T n z.2)) hE) ⟨rfl, rfl⟩ ⟨Nat.le_of_ble_eq_true rfl, Nat.le_of_ble_eq_true rfl⟩ bl_w (rc_w hK hP 0 (by decide) rfl rfl) (bw_U hE hK hC hP hS) rfl hl.1 (Nat.le_of_ble_eq_true rfl) ⟨Nat.le_refl _, Nat.le_refl _⟩ dX7_readRule_15 rfl) hS (fun u65 H locs g66 hP hS => ?_)
    obtain rfl : u65 = ((if I 0 5 = 0 then up2 (up2 I 0 5 (-4)) 0 6 (nI (tkB T n z.2)) else I), A, K) := g66
    have hP : Wp mN E mK ((if I 0 5 = 0 then up2 (up2 I 0 5 (-4)) 0 6 (nI (tkB T n z.2)) else I), A, K) H := hP
    rw [if_pos (show I 0 5 = 0 from h5c.trans h0)] at hP
    have hP : Wp mN E mK ((up2 (up2 I 0 5 (-4)) 0 6 (nI (tkB T n z.2))), A, K) H := hP
    have hbz : ¬ (zF (-4) z).1 = 0 := fun g => absurd ((if_pos h0).symm.trans g : (-4 : Int32) = 0) (by decide)
    have hWb : mW (up2 (up2 I 0 5 (-4)) 0 6 (nI (tkB T n z.2))) A T n (zF (-4) z) := mW_er3 hW (Nat.le_trans zGe_A hzn) h0 (by decide) rfl rfl up2_eq
    have hrb : rP I (up2 (up2 I 0 5 (-4)) 0 6 (nI (tkB T n z.2))) := rP_u (rP_u rP_rf (by decide)) (by decide)
    refine lv_aload_n hx hb dX7_readRule_18 rfl (lv_at hl 0 rfl) ?_
    refine lv_iconst (v := 0) hx hb dX7_readRule_19 (by decide) ?_
    refine lv_aload_n hx hb dX7_readRule_20 rfl (lv_at hl 0 rfl) ?_
    refine rw_getr (x := ((up2 (up2 I 0 5 (-4)) 0 6 (nI (tkB T n z.2))), A, K)) S hK hP 0 (by decide) rfl fk_X7_20 rfl dX7_readRule_21 ?_
    refine lv_iconst (v := 0) hx hb dX7_readRule_24 (by decide) ?_
    refine rw_iald (x := ((up2 (up2 I 0 5 (-4)) 0 6 (nI (tkB T n z.2))), A, K)) (v := nI nr) S hK hP 3 (by decide) rfl 0 rfl (by decide) (by decide) hd3 dX7_readRule_25 ?_
    refine lv_iconst (v := 1) hx hb dX7_readRule_26 (by decide) ?_
    refine lv_isub hx hb dX7_readRule_27 ?_
    refine cn_wi (ck_V (a := eP E 0) S lk_X7_113 (c_X7_number l E (up2 (up2 I 0 5 (-4)) 0 6 (nI (tkB T n z.2))) A K T n (zF (-4) z) 0 ((nI nr) - 1) hE hWb) ⟨rfl, rfl⟩ ⟨Nat.le_of_ble_eq_true rfl, Nat.le_of_ble_eq_true rfl⟩ bl_w (rc_w hK hP 0 (by decide) rfl rfl) (bw_U hE hK hC hP hS) rfl hl.1 (Nat.le_of_ble_eq_true rfl) ⟨Nat.le_refl _, Nat.le_refl _⟩ dX7_readRule_28 rfl) hS (fun r67 u68 H locs g69 hP hS => ?_)
    obtain ⟨J70, hW70, hp70, hn70, hv70, rfl⟩ : ∃ oj, mW oj A T n (zNz T n 0 ((nI nr) - 1) (zF (-4) z)) ∧ rP (up2 (up2 I 0 5 (-4)) 0 6 (nI (tkB T n z.2))) oj ∧ (zN T n (zF (-4) z) = true → oj 0 12 = nI (tkB T n (zF (-4) z).2)) ∧ ((zNz T n 0 ((nI nr) - 1) (zF (-4) z)).1 = 0 → r67 = zNv T n 0 ((nI nr) - 1) (zF (-4) z)) ∧ u68 = (oj, A, K) := g69
    have hP : Wp mN E mK (J70, A, K) H := hP
    have hr70 := rP_tr hrb hp70
    rw [zNz_b hbz] at hW70
    refine lv_istore_n (lv' := [(3, .int r67), (0, .ref (eP E 0)), (1, .int (nI (tkB T n z.2))), (2, .int (bI b))]) hx hb dX7_readRule_31 rfl hl (by decide) rfl (fun ls hl => ?_)
    refine lv_aload_n hx hb dX7_readRule_32 rfl (lv_at hl 1 rfl) ?_
    refine lv_iconst (v := 0) hx hb dX7_readRule_33 (by decide) ?_
    refine lv_aload_n hx hb dX7_readRule_34 rfl (lv_at hl 1 rfl) ?_
    refine rw_getr (x := (J70, A, K)) S hK hP 0 (by decide) rfl fk_X7_20 rfl dX7_readRule_35 ?_
    refine lv_iconst (v := 0) hx hb dX7_readRule_38 (by decide) ?_
    refine rw_iald (x := (J70, A, K)) (v := nI nr) S hK hP 3 (by decide) rfl 0 rfl (by decide) (by decide) hd3 dX7_readRule_39 ?_
    refine lv_iconst (v := 1) hx hb dX7_readRule_40 (by decide) ?_
    refine lv_isub hx hb dX7_readRule_41 ?_
    refine cn_wi (ck_V (a := eP E 0) S lk_X7_113 (c_X7_number l E J70 A K T n (zF (-4) z) 0 ((nI nr) - 1) hE hW70) ⟨rfl, rfl⟩ ⟨Nat.le_of_ble_eq_true rfl, Nat.le_of_ble_eq_true rfl⟩ bl_w (rc_w hK hP 0 (by decide) rfl rfl) (bw_U hE hK hC hP hS) rfl hl.1 (Nat.le_of_ble_eq_true rfl) ⟨Nat.le_refl _, Nat.le_refl _⟩ dX7_readRule_42 rfl) hS (fun r71 u72 H locs g73 hP hS => ?_)
    obtain ⟨J74, hW74, hp74, hn74, hv74, rfl⟩ : ∃ oj, mW oj A T n (zNz T n 0 ((nI nr) - 1) (zF (-4) z)) ∧ rP J70 oj ∧ (zN T n (zF (-4) z) = true → oj 0 12 = nI (tkB T n (zF (-4) z).2)) ∧ ((zNz T n 0 ((nI nr) - 1) (zF (-4) z)).1 = 0 → r71 = zNv T n 0 ((nI nr) - 1) (zF (-4) z)) ∧ u72 = (oj, A, K) := g73
    have hP : Wp mN E mK (J74, A, K) H := hP
    have hr74 := rP_tr hr70 hp74
    rw [zNz_b hbz] at hW74
    refine lv_istore (lv' := [(4, .int r71), (3, .int r67), (0, .ref (eP E 0)), (1, .int (nI (tkB T n z.2))), (2, .int (bI b))]) hx hb dX7_readRule_45 hl (by decide) rfl (fun ls hl => ?_)
    refine lv_iload_n hx hb dX7_readRule_47 rfl (lv_at hl 1 rfl) ?_
    refine lv_iload hx hb dX7_readRule_48 (lv_at hl 0 rfl) ?_
    refine lv_icmp_ne (tgt := 63) hx hb dX7_readRule_50 (by decide) (fun h50 => ?_) (fun h50 => ?_)
    · refine lv_iload_n hx hb dX7_readRule_63 rfl (lv_at hl 4 rfl) ?_
      refine lv_if_eq (tgt := 71) hx hb dX7_readRule_64 (by decide) (fun h64 => ?_) (fun h64 => ?_)
      · obtain rfl : b = false := bI_f h64
        refine lv_aload_n hx hb dX7_readRule_71 rfl (lv_at hl 2 rfl) ?_
        refine lv_iconst (v := 0) hx hb dX7_readRule_72 (by decide) ?_
        refine lv_iconst (v := 4) hx hb dX7_readRule_73 (by decide) ?_
        refine cn_wi (ck_V (a := eP E 0) S lk_X7_113 (c_X7_number l E J74 A K T n (zF (-4) z) 0 4 hE hW74) ⟨rfl, rfl⟩ ⟨Nat.le_of_ble_eq_true rfl, Nat.le_of_ble_eq_true rfl⟩ bl_w (rc_w hK hP 0 (by decide) rfl rfl) (bw_U hE hK hC hP hS) rfl hl.1 (Nat.le_of_ble_eq_true rfl) ⟨Nat.le_refl _, Nat.le_refl _⟩ dX7_readRule_74 rfl) hS (fun r75 u76 H locs g77 hP hS => ?_)
        obtain ⟨J78, hW78, hp78, hn78, hv78, rfl⟩ : ∃ oj, mW oj A T n (zNz T n 0 4 (zF (-4) z)) ∧ rP J74 oj ∧ (zN T n (zF (-4) z) = true → oj 0 12 = nI (tkB T n (zF (-4) z).2)) ∧ ((zNz T n 0 4 (zF (-4) z)).1 = 0 → r75 = zNv T n 0 4 (zF (-4) z)) ∧ u76 = (oj, A, K) := g77
        have hP : Wp mN E mK (J78, A, K) H := hP
        have hr78 := rP_tr hr74 hp78
        rw [zNz_b hbz] at hW78
        refine lv_istore (lv' := [(5, .int r75), (4, .int r71), (3, .int r67), (0, .ref (eP E 0)), (1, .int (nI (tkB T n z.2))), (2, .int (bI b))]) hx hb dX7_readRule_77 hl (by decide) rfl (fun ls hl => ?_)
        refine lv_iload_n hx hb dX7_readRule_79 rfl (lv_at hl 5 rfl) ?_
        refine lv_if_eq (tgt := 93) hx hb dX7_readRule_80 (by decide) (fun h80 => ?_) (fun h80 => absurd (show bI false = 0 from rfl) h80)
        refine lv_aload_n hx hb dX7_readRule_93 rfl (lv_at hl 3 rfl) ?_
        refine lv_iconst (v := 1) hx hb dX7_readRule_94 (by decide) ?_
        refine lv_sipush (v := 2295) hx hb dX7_readRule_95 (by decide) ?_
        refine cn_wi (ck_V (a := eP E 0) S lk_X7_113 (c_X7_number l E J78 A K T n (zF (-4) z) 1 2295 hE hW78) ⟨rfl, rfl⟩ ⟨Nat.le_of_ble_eq_true rfl, Nat.le_of_ble_eq_true rfl⟩ bl_w (rc_w hK hP 0 (by decide) rfl rfl) (bw_U hE hK hC hP hS) rfl hl.1 (Nat.le_of_ble_eq_true rfl) ⟨Nat.le_refl _, Nat.le_refl _⟩ dX7_readRule_98 rfl) hS (fun r79 u80 H locs g81 hP hS => ?_)
        obtain ⟨J82, hW82, hp82, hn82, hv82, rfl⟩ : ∃ oj, mW oj A T n (zNz T n 1 2295 (zF (-4) z)) ∧ rP J78 oj ∧ (zN T n (zF (-4) z) = true → oj 0 12 = nI (tkB T n (zF (-4) z).2)) ∧ ((zNz T n 1 2295 (zF (-4) z)).1 = 0 → r79 = zNv T n 1 2295 (zF (-4) z)) ∧ u80 = (oj, A, K) := g81
        have hP : Wp mN E mK (J82, A, K) H := hP
        have hr82 := rP_tr hr78 hp82
        rw [zNz_b hbz] at hW82
        refine lv_istore (lv' := [(6, .int r79), (5, .int r75), (4, .int r71), (3, .int r67), (0, .ref (eP E 0)), (1, .int (nI (tkB T n z.2))), (2, .int (bI b))]) hx hb dX7_readRule_101 hl (by decide) rfl (fun ls hl => ?_)
        refine lv_aload_n hx hb dX7_readRule_103 rfl (lv_at hl 4 rfl) ?_
        refine cn_si (ck_V (a := eP E 0) S lk_X7_62 (c_X7_isGood l E J82 A K hE) ⟨rfl, rfl⟩ ⟨Nat.le_of_ble_eq_true rfl, Nat.le_of_ble_eq_true rfl⟩ bl_w (rc_w hK hP 0 (by decide) rfl rfl) (bw_U hE hK hC hP hS) rfl hl.1 (Nat.le_of_ble_eq_true rfl) ⟨Nat.le_refl _, Nat.le_refl _⟩ dX7_readRule_104 rfl) (fun r83 g84 => ?_)
        obtain rfl : r83 = bI (decide (J82 0 5 = 0)) := g84
        refine lv_if_ne (tgt := 111) hx hb dX7_readRule_107 (by decide) (fun h107 => absurd h107 (show ¬ ¬ bI (decide (J82 0 5 = 0)) = 0 from fun g => g (by rw [decide_eq_false (fun q => hbz (hW82.2.1.symm.trans q))]; rfl))) (fun h107 => ?_)
        exact re_wv (x := (J82, A, K)) hx hb hr hlk hP hS ⟨_, A, (by rw [sRule_f hnu]; exact rB_bad hW82 hr82 hbz), rfl⟩ dX7_readRule_110
      · obtain rfl : b = true := bI_t h64
        refine lv_iconst (v := (-1)) hx hb dX7_readRule_67 (by decide) ?_
        refine lv_goto (tgt := 77) hx hb dX7_readRule_68 (by decide) ?_
        refine lv_istore (lv' := [(5, .int (-1)), (4, .int r71), (3, .int r67), (0, .ref (eP E 0)), (1, .int (nI (tkB T n z.2))), (2, .int (bI b))]) hx hb dX7_readRule_77 hl (by decide) rfl (fun ls hl => ?_)
        refine lv_iload_n hx hb dX7_readRule_79 rfl (lv_at hl 5 rfl) ?_
        refine lv_if_eq (tgt := 93) hx hb dX7_readRule_80 (by decide) (fun h80 => absurd h80 (show ¬ bI true = 0 by decide)) (fun h80 => ?_)
        refine lv_aload_n hx hb dX7_readRule_83 rfl (lv_at hl 3 rfl) ?_
        refine lv_iconst (v := 1) hx hb dX7_readRule_84 (by decide) ?_
        refine lv_bipush (v := 9) hx hb dX7_readRule_85 (by decide) ?_
        refine cn_wi (ck_V (a := eP E 0) S lk_X7_113 (c_X7_number l E J74 A K T n (zF (-4) z) 1 9 hE hW74) ⟨rfl, rfl⟩ ⟨Nat.le_of_ble_eq_true rfl, Nat.le_of_ble_eq_true rfl⟩ bl_w (rc_w hK hP 0 (by decide) rfl rfl) (bw_U hE hK hC hP hS) rfl hl.1 (Nat.le_of_ble_eq_true rfl) ⟨Nat.le_refl _, Nat.le_refl _⟩ dX7_readRule_87 rfl) hS (fun r85 u86 H locs g87 hP hS => ?_)
        obtain ⟨J88, hW88, hp88, hn88, hv88, rfl⟩ : ∃ oj, mW oj A T n (zNz T n 1 9 (zF (-4) z)) ∧ rP J74 oj ∧ (zN T n (zF (-4) z) = true → oj 0 12 = nI (tkB T n (zF (-4) z).2)) ∧ ((zNz T n 1 9 (zF (-4) z)).1 = 0 → r85 = zNv T n 1 9 (zF (-4) z)) ∧ u86 = (oj, A, K) := g87
        have hP : Wp mN E mK (J88, A, K) H := hP
        have hr88 := rP_tr hr74 hp88
        rw [zNz_b hbz] at hW88
        refine lv_goto (tgt := 101) hx hb dX7_readRule_90 (by decide) ?_
        refine lv_istore (lv' := [(6, .int r85), (5, .int (-1)), (4, .int r71), (3, .int r67), (0, .ref (eP E 0)), (1, .int (nI (tkB T n z.2))), (2, .int (bI b))]) hx hb dX7_readRule_101 hl (by decide) rfl (fun ls hl => ?_)
        refine lv_aload_n hx hb dX7_readRule_103 rfl (lv_at hl 4 rfl) ?_
        refine cn_si (ck_V (a := eP E 0) S lk_X7_62 (c_X7_isGood l E J88 A K hE) ⟨rfl, rfl⟩ ⟨Nat.le_of_ble_eq_true rfl, Nat.le_of_ble_eq_true rfl⟩ bl_w (rc_w hK hP 0 (by decide) rfl rfl) (bw_U hE hK hC hP hS) rfl hl.1 (Nat.le_of_ble_eq_true rfl) ⟨Nat.le_refl _, Nat.le_refl _⟩ dX7_readRule_104 rfl) (fun r89 g90 => ?_)
        obtain rfl : r89 = bI (decide (J88 0 5 = 0)) := g90
        refine lv_if_ne (tgt := 111) hx hb dX7_readRule_107 (by decide) (fun h107 => absurd h107 (show ¬ ¬ bI (decide (J88 0 5 = 0)) = 0 from fun g => g (by rw [decide_eq_false (fun q => hbz (hW88.2.1.symm.trans q))]; rfl))) (fun h107 => ?_)
        exact re_wv (x := (J88, A, K)) hx hb hr hlk hP hS ⟨_, A, (by rw [sRule_f hnu]; exact rB_bad hW88 hr88 hbz), rfl⟩ dX7_readRule_110
    · refine lv_aload_n hx hb dX7_readRule_53 rfl (lv_at hl 2 rfl) ?_
      refine lv_bipush (v := (-3)) hx hb dX7_readRule_54 (by decide) ?_
      refine lv_aload_n hx hb dX7_readRule_56 rfl (lv_at hl 2 rfl) ?_
      refine rw_geti (x := (J74, A, K)) (v := J74 0 12) S hK hP 0 (by decide) rfl fk_X7_87 rfl rfl dX7_readRule_57 ?_
      refine cn_wv (ck_V (a := eP E 0) S lk_X7_79 (c_X7_report l E J74 A K (-3) (J74 0 12) hE) ⟨rfl, rfl⟩ ⟨Nat.le_of_ble_eq_true rfl, Nat.le_of_ble_eq_true rfl⟩ bl_w (rc_w hK hP 0 (by decide) rfl rfl) (bw_U hE hK hC hP hS) rfl hl.1 (Nat.le_of_ble_eq_true rfl) ⟨Nat.le_refl _, Nat.le_refl _⟩ dX7_readRule_60 rfl) hS (fun u92 H locs g93 hP hS => ?_)
      obtain rfl : u92 = ((if J74 0 5 = 0 then up2 (up2 J74 0 5 (-3)) 0 6 (J74 0 12) else J74), A, K) := g93
      have hP : Wp mN E mK ((if J74 0 5 = 0 then up2 (up2 J74 0 5 (-3)) 0 6 (J74 0 12) else J74), A, K) H := hP
      rw [if_neg (show ¬ J74 0 5 = 0 from fun q => hbz (hW74.2.1.symm.trans q))] at hP
      have hP : Wp mN E mK (J74, A, K) H := hP
      refine lv_iload_n hx hb dX7_readRule_63 rfl (lv_at hl 4 rfl) ?_
      refine lv_if_eq (tgt := 71) hx hb dX7_readRule_64 (by decide) (fun h64 => ?_) (fun h64 => ?_)
      · obtain rfl : b = false := bI_f h64
        refine lv_aload_n hx hb dX7_readRule_71 rfl (lv_at hl 2 rfl) ?_
        refine lv_iconst (v := 0) hx hb dX7_readRule_72 (by decide) ?_
        refine lv_iconst (v := 4) hx hb dX7_readRule_73 (by decide) ?_
        refine cn_wi (ck_V (a := eP E 0) S lk_X7_113 (c_X7_number l E J74 A K T n (zF (-4) z) 0 4 hE hW74) ⟨rfl, rfl⟩ ⟨Nat.le_of_ble_eq_true rfl, Nat.le_of_ble_eq_true rfl⟩ bl_w (rc_w hK hP 0 (by decide) rfl rfl) (bw_U hE hK hC hP hS) rfl hl.1 (Nat.le_of_ble_eq_true rfl) ⟨Nat.le_refl _, Nat.le_refl _⟩ dX7_readRule_74 rfl) hS (fun r94 u95 H locs g96 hP hS => ?_)
        obtain ⟨J97, hW97, hp97, hn97, hv97, rfl⟩ : ∃ oj, mW oj A T n (zNz T n 0 4 (zF (-4) z)) ∧ rP J74 oj ∧ (zN T n (zF (-4) z) = true → oj 0 12 = nI (tkB T n (zF (-4) z).2)) ∧ ((zNz T n 0 4 (zF (-4) z)).1 = 0 → r94 = zNv T n 0 4 (zF (-4) z)) ∧ u95 = (oj, A, K) := g96
        have hP : Wp mN E mK (J97, A, K) H := hP
        have hr97 := rP_tr hr74 hp97
        rw [zNz_b hbz] at hW97
        refine lv_istore (lv' := [(5, .int r94), (4, .int r71), (3, .int r67), (0, .ref (eP E 0)), (1, .int (nI (tkB T n z.2))), (2, .int (bI b))]) hx hb dX7_readRule_77 hl (by decide) rfl (fun ls hl => ?_)
        refine lv_iload_n hx hb dX7_readRule_79 rfl (lv_at hl 5 rfl) ?_
        refine lv_if_eq (tgt := 93) hx hb dX7_readRule_80 (by decide) (fun h80 => ?_) (fun h80 => absurd (show bI false = 0 from rfl) h80)
        refine lv_aload_n hx hb dX7_readRule_93 rfl (lv_at hl 3 rfl) ?_
        refine lv_iconst (v := 1) hx hb dX7_readRule_94 (by decide) ?_
        refine lv_sipush (v := 2295) hx hb dX7_readRule_95 (by decide) ?_
        refine cn_wi (ck_V (a := eP E 0) S lk_X7_113 (c_X7_number l E J97 A K T n (zF (-4) z) 1 2295 hE hW97) ⟨rfl, rfl⟩ ⟨Nat.le_of_ble_eq_true rfl, Nat.le_of_ble_eq_true rfl⟩ bl_w (rc_w hK hP 0 (by decide) rfl rfl) (bw_U hE hK hC hP hS) rfl hl.1 (Nat.le_of_ble_eq_true rfl) ⟨Nat.le_refl _, Nat.le_refl _⟩ dX7_readRule_98 rfl) hS (fun r98 u99 H locs g100 hP hS => ?_)
        obtain ⟨J101, hW101, hp101, hn101, hv101, rfl⟩ : ∃ oj, mW oj A T n (zNz T n 1 2295 (zF (-4) z)) ∧ rP J97 oj ∧ (zN T n (zF (-4) z) = true → oj 0 12 = nI (tkB T n (zF (-4) z).2)) ∧ ((zNz T n 1 2295 (zF (-4) z)).1 = 0 → r98 = zNv T n 1 2295 (zF (-4) z)) ∧ u99 = (oj, A, K) := g100
        have hP : Wp mN E mK (J101, A, K) H := hP
        have hr101 := rP_tr hr97 hp101
        rw [zNz_b hbz] at hW101
        refine lv_istore (lv' := [(6, .int r98), (5, .int r94), (4, .int r71), (3, .int r67), (0, .ref (eP E 0)), (1, .int (nI (tkB T n z.2))), (2, .int (bI b))]) hx hb dX7_readRule_101 hl (by decide) rfl (fun ls hl => ?_)
        refine lv_aload_n hx hb dX7_readRule_103 rfl (lv_at hl 4 rfl) ?_
        refine cn_si (ck_V (a := eP E 0) S lk_X7_62 (c_X7_isGood l E J101 A K hE) ⟨rfl, rfl⟩ ⟨Nat.le_of_ble_eq_true rfl, Nat.le_of_ble_eq_true rfl⟩ bl_w (rc_w hK hP 0 (by decide) rfl rfl) (bw_U hE hK hC hP hS) rfl hl.1 (Nat.le_of_ble_eq_true rfl) ⟨Nat.le_refl _, Nat.le_refl _⟩ dX7_readRule_104 rfl) (fun r102 g103 => ?_)
        obtain rfl : r102 = bI (decide (J101 0 5 = 0)) := g103
        refine lv_if_ne (tgt := 111) hx hb dX7_readRule_107 (by decide) (fun h107 => absurd h107 (show ¬ ¬ bI (decide (J101 0 5 = 0)) = 0 from fun g => g (by rw [decide_eq_false (fun q => hbz (hW101.2.1.symm.trans q))]; rfl))) (fun h107 => ?_)
        exact re_wv (x := (J101, A, K)) hx hb hr hlk hP hS ⟨_, A, (by rw [sRule_f hnu]; exact rB_bad hW101 hr101 hbz), rfl⟩ dX7_readRule_110
      · obtain rfl : b = true := bI_t h64
        refine lv_iconst (v := (-1)) hx hb dX7_readRule_67 (by decide) ?_
        refine lv_goto (tgt := 77) hx hb dX7_readRule_68 (by decide) ?_
        refine lv_istore (lv' := [(5, .int (-1)), (4, .int r71), (3, .int r67), (0, .ref (eP E 0)), (1, .int (nI (tkB T n z.2))), (2, .int (bI b))]) hx hb dX7_readRule_77 hl (by decide) rfl (fun ls hl => ?_)
        refine lv_iload_n hx hb dX7_readRule_79 rfl (lv_at hl 5 rfl) ?_
        refine lv_if_eq (tgt := 93) hx hb dX7_readRule_80 (by decide) (fun h80 => absurd h80 (show ¬ bI true = 0 by decide)) (fun h80 => ?_)
        refine lv_aload_n hx hb dX7_readRule_83 rfl (lv_at hl 3 rfl) ?_
        refine lv_iconst (v := 1) hx hb dX7_readRule_84 (by decide) ?_
        refine lv_bipush (v := 9) hx hb dX7_readRule_85 (by decide) ?_
        refine cn_wi (ck_V (a := eP E 0) S lk_X7_113 (c_X7_number l E J74 A K T n (zF (-4) z) 1 9 hE hW74) ⟨rfl, rfl⟩ ⟨Nat.le_of_ble_eq_true rfl, Nat.le_of_ble_eq_true rfl⟩ bl_w (rc_w hK hP 0 (by decide) rfl rfl) (bw_U hE hK hC hP hS) rfl hl.1 (Nat.le_of_ble_eq_true rfl) ⟨Nat.le_refl _, Nat.le_refl _⟩ dX7_readRule_87 rfl) hS (fun r104 u105 H locs g106 hP hS => ?_)
        obtain ⟨J107, hW107, hp107, hn107, hv107, rfl⟩ : ∃ oj, mW oj A T n (zNz T n 1 9 (zF (-4) z)) ∧ rP J74 oj ∧ (zN T n (zF (-4) z) = true → oj 0 12 = nI (tkB T n (zF (-4) z).2)) ∧ ((zNz T n 1 9 (zF (-4) z)).1 = 0 → r104 = zNv T n 1 9 (zF (-4) z)) ∧ u105 = (oj, A, K) := g106
        have hP : Wp mN E mK (J107, A, K) H := hP
        have hr107 := rP_tr hr74 hp107
        rw [zNz_b hbz] at hW107
        refine lv_goto (tgt := 101) hx hb dX7_readRule_90 (by decide) ?_
        refine lv_istore (lv' := [(6, .int r104), (5, .int (-1)), (4, .int r71), (3, .int r67), (0, .ref (eP E 0)), (1, .int (nI (tkB T n z.2))), (2, .int (bI b))]) hx hb dX7_readRule_101 hl (by decide) rfl (fun ls hl => ?_)
        refine lv_aload_n hx hb dX7_readRule_103 rfl (lv_at hl 4 rfl) ?_
        refine cn_si (ck_V (a := eP E 0) S lk_X7_62 (c_X7_isGood l E J107 A K hE) ⟨rfl, rfl⟩ ⟨Nat.le_of_ble_eq_true rfl, Nat.le_of_ble_eq_true rfl⟩ bl_w (rc_w hK hP 0 (by decide) rfl rfl) (bw_U hE hK hC hP hS) rfl hl.1 (Nat.le_of_ble_eq_true rfl) ⟨Nat.le_refl _, Nat.le_refl _⟩ dX7_readRule_104 rfl) (fun r108 g109 => ?_)
        obtain rfl : r108 = bI (decide (J107 0 5 = 0)) := g109
        refine lv_if_ne (tgt := 111) hx hb dX7_readRule_107 (by decide) (fun h107 => absurd h107 (show ¬ ¬ bI (decide (J107 0 5 = 0)) = 0 from fun g => g (by rw [decide_eq_false (fun q => hbz (hW107.2.1.symm.trans q))]; rfl))) (fun h107 => ?_)
        exact re_wv (x := (J107, A, K)) hx hb hr hlk hP hS ⟨_, A, (by rw [sRule_f hnu]; exact rB_bad hW107 hr107 hbz), rfl⟩ dX7_readRule_110

