section QU
variable {A C : Nat → Nat → Int32} {nr nu : Nat} {f g t k : Int32}
theorem qD_rule (hD : qD nr nu C A) (hn : nu < 12) (hf : ∃ i, i < nr ∧ f = nI i) (hg : ∃ i, i < nr ∧ g = nI i) (hx : (t = -1 ∧ ∃ i, i < 10 ∧ k = nI i) ∨ ∃ i, i < 5 ∧ t = nI i) : qD nr (nu + 1) (cAdU (up2 C 5 nu k) 1 nu f g t k) (up2 (up2 (up2 (up2 (up2 A 3 (34 + 4 * nu) (t + 1)) 3 (34 + 4 * nu + 1) f) 3 (34 + 4 * nu + 2) g) 3 (34 + 4 * nu + 3) k) 3 1 (nI (nu + 1))) := by
  obtain ⟨⟨h1, h2⟩, ⟨h3, h4⟩, h5, h6⟩ := hD
  refine ⟨⟨h1, by omega⟩, ⟨?_, ?_⟩, fun r hr => ?_, fun u hu => ?_⟩
  · rw [q5_at, if_neg (by omega), if_neg (by omega), if_neg (by omega), if_neg (by omega), if_neg (by omega)]
    exact h3
  · rw [q5_at, if_pos rfl]
  · rw [q5_at, q5_at, q5_at, cAdU_r (a := 21) (by omega), cAdU_r (a := 22) (by omega), cAdU_r (a := 23) (by omega), up2_row (a := 21) (by decide), up2_row (a := 22) (by decide), up2_row (a := 23) (by decide)]
    rw [if_neg (by omega), if_neg (by omega), if_neg (by omega), if_neg (by omega), if_neg (by omega), if_neg (by omega), if_neg (by omega), if_neg (by omega), if_neg (by omega), if_neg (by omega), if_neg (by omega), if_neg (by omega), if_neg (by omega), if_neg (by omega), if_neg (by omega)]
    exact h5 r hr
  · by_cases q : u = nu
    · subst q
      have e5 : cAdU (up2 C 5 u k) 1 u f g t k 5 u = k := by rw [cAdU_r (a := 5) (by omega), up2_eq]
      have e24 : cAdU (up2 C 5 u k) 1 u f g t k 24 u = f := by rw [cAdU_at, if_neg (by omega), if_neg (by omega), if_neg (by omega), if_neg (by omega), if_pos ⟨rfl, rfl⟩]
      have e25 : cAdU (up2 C 5 u k) 1 u f g t k 25 u = g := by rw [cAdU_at, if_neg (by omega), if_neg (by omega), if_neg (by omega), if_pos ⟨rfl, rfl⟩]
      have e26 : cAdU (up2 C 5 u k) 1 u f g t k 26 u = t := by rw [cAdU_at, if_neg (by omega), if_neg (by omega), if_pos ⟨rfl, rfl⟩]
      have e28 : cAdU (up2 C 5 u k) 1 u f g t k 28 u = k := by rw [cAdU_at, if_neg (by omega), if_pos ⟨rfl, rfl⟩]
      have e29 : cAdU (up2 C 5 u k) 1 u f g t k 29 u = k := by rw [cAdU_at, if_pos ⟨rfl, rfl⟩]
      rw [e5, e24, e25, e26, e28, e29]
      refine ⟨⟨?_, ?_, ?_, ?_⟩, ⟨hf, hg⟩, hx.elim Or.inl (fun q => Or.inr ⟨q, rfl, rfl⟩)⟩
      · rw [q5_at, if_neg (by omega), if_neg (by omega), if_neg (by omega), if_neg (by omega), if_pos rfl]
      · rw [q5_at, if_neg (by omega), if_neg (by omega), if_neg (by omega), if_pos rfl]
      · rw [q5_at, if_neg (by omega), if_neg (by omega), if_pos rfl]
      · rw [q5_at, if_neg (by omega), if_pos rfl]
    · have hu2 : u < nu := by omega
      have e : ∀ a, cAdU (up2 C 5 nu k) 1 nu f g t k a u = C a u := fun a => by
        rw [cAdU_at, if_neg (fun z => q z.2), if_neg (fun z => q z.2), if_neg (fun z => q z.2), if_neg (fun z => q z.2), if_neg (fun z => q z.2), up2_at, if_neg (fun z => q z.2)]
      simp only [e]
      rw [q5_at, q5_at, q5_at, q5_at]
      rw [if_neg (by omega), if_neg (by omega), if_neg (by omega), if_neg (by omega), if_neg (by omega), if_neg (by omega), if_neg (by omega), if_neg (by omega), if_neg (by omega), if_neg (by omega), if_neg (by omega), if_neg (by omega), if_neg (by omega), if_neg (by omega), if_neg (by omega), if_neg (by omega), if_neg (by omega), if_neg (by omega), if_neg (by omega), if_neg (by omega)]
      exact h6 u hu2
end QU
section NR
variable {T : Nat → Int32} {n nr : Nat} {lo hi : Int32} {z : Tz} {b : Bool}
theorem zNz_in (h : (zNz T n lo hi z).1 = 0) : zN T n z = true ∧ (¬ tkV T n z.2 < lo ∧ ¬ hi < tkV T n z.2) := by
  have hN : zN T n z = true := Classical.byContradiction (fun q => absurd (show (zF (-2) z).1 = 0 by rw [← zNz_f (lo := lo) (hi := hi) (Bool.eq_false_iff.mpr q)]; exact h) (fun g => absurd ((if_pos (zMo_NN h)).symm.trans g : (-2 : Int32) = 0) (by decide)))
  refine ⟨hN, ?_, ?_⟩
  · intro g
    have h2 := h
    rw [zNz_e hN (Or.inl g)] at h2
    exact absurd ((if_pos (zMo_NN h)).symm.trans h2 : (-3 : Int32) = 0) (by decide)
  · intro g
    have h2 := h
    rw [zNz_e hN (Or.inr g)] at h2
    exact absurd ((if_pos (zMo_NN h)).symm.trans h2 : (-3 : Int32) = 0) (by decide)
theorem zNv_g (h : (zNz T n lo hi z).1 = 0) : zNv T n lo hi z = tkV T n z.2 := zNv_i (zNz_in h).1 (zNz_in h).2
theorem zNv_rl (hn : nr ≤ 10) (h : (zNz T n 0 (nI nr - 1) z).1 = 0) : ∃ i, i < nr ∧ zNv T n 0 (nI nr - 1) z = nI i := by
  rw [zNv_g h]
  obtain ⟨h1, h2⟩ := (zNz_in h).2
  cases nr with
  | zero => exact absurd (Int32.lt_of_lt_of_le (by decide : nI 0 - 1 < 0) (Int32.not_lt.mp h1)) h2
  | succ m =>
    rw [nI_pred] at h2
    obtain ⟨j, hj, e⟩ := nI_of2 (x := tkV T n z.2) (M := nI m) (n := m) (nI_toInt (by omega)) h1 (Int32.not_lt.mp h2)
    exact ⟨j, by omega, e⟩
theorem zNv_r2 {m : Nat} (hm : m < 2 ^ 31) (hl : (∃ a, a < 2 ^ 31 ∧ lo = nI a)) (h : (zNz T n lo (nI m) z).1 = 0) : ∃ i, i < m + 1 ∧ zNv T n lo (nI m) z = nI i := by
  rw [zNv_g h]
  obtain ⟨h1, h2⟩ := (zNz_in h).2
  obtain ⟨a, ha, rfl⟩ := hl
  obtain ⟨j, hj, e⟩ := nI_of2 (x := tkV T n z.2) (M := nI m) (n := m) (nI_toInt hm) (fun g => h1 (Int32.lt_of_lt_of_le g (nI_pos' ha))) (Int32.not_lt.mp h2)
  exact ⟨j, by omega, e⟩
/-- the second role's number, the same as the first's -/
theorem zU3_s (h : (zNz T n 0 (nI nr - 1) (zU2 T n nr z)).1 = 0) (e : zNv T n 0 (nI nr - 1) (zU2 T n nr z) = zUf T n nr z) : zU4 T n nr z = zF (-3) (zU2 T n nr z) := by
  have hz : (zU2 T n nr z).1 = 0 := zMo_NN h
  have h3 : zU3 T n nr z = zF (-3) (zU2 T n nr z) := if_pos ⟨(zNz_in h).1, (zNv_g h).symm.trans e⟩
  show zNz T n 0 (nI nr - 1) (zU3 T n nr z) = _
  rw [h3]
  exact zNz_b (fun g => absurd ((if_pos hz).symm.trans g : (-3 : Int32) = 0) (by decide))
theorem zU3_d (h : ¬ ((zNz T n 0 (nI nr - 1) (zU2 T n nr z)).1 = 0 ∧ zNv T n 0 (nI nr - 1) (zU2 T n nr z) = zUf T n nr z)) : zU3 T n nr z = zU2 T n nr z := by
  refine if_neg (fun q => h ?_)
  have hz : (zU2 T n nr z).1 = 0 := (of_decide_eq_true q.1).1
  have e1 : zUf T n nr z = tkV T n (zA T n z).2 := zNv_g (T := T) (n := n) (lo := 0) (hi := nI nr - 1) (z := zA T n z) hz
  have hr := (zNz_in (T := T) (n := n) (lo := 0) (hi := nI nr - 1) (z := zA T n z) hz).2
  have hi2 : ¬ tkV T n (zU2 T n nr z).2 < 0 ∧ ¬ nI nr - 1 < tkV T n (zU2 T n nr z).2 := by
    rw [q.2, e1]
    exact hr
  refine ⟨?_, (zNv_i q.1 hi2).trans q.2⟩
  rw [zNz_i q.1 hi2]
  exact hz
theorem zU4_d (h : ¬ ((zNz T n 0 (nI nr - 1) (zU2 T n nr z)).1 = 0 ∧ zNv T n 0 (nI nr - 1) (zU2 T n nr z) = zUf T n nr z)) : zU4 T n nr z = zNz T n 0 (nI nr - 1) (zU2 T n nr z) := by
  show zNz T n 0 (nI nr - 1) (zU3 T n nr z) = _
  rw [zU3_d h]
theorem zMo_U4 (h : (zU4 T n nr z).1 = 0) : (zU3 T n nr z).1 = 0 := zMo_NN h
theorem zU4_g (h : (zU4 T n nr z).1 = 0) : zU3 T n nr z = zU2 T n nr z := by
  refine zU3_d (fun q => ?_)
  rw [zU3_s q.1 q.2] at h
  exact absurd ((if_pos (zMo_F (by decide) h)).symm.trans h : (-3 : Int32) = 0) (by decide)
end NR
theorem zU6_b {T : Nat → Int32} {n nr : Nat} {z : Tz} (h : ¬ (zU4 T n nr z).1 = 0) : zU6 T n nr false z = zU4 T n nr z := by
  have e : zU5 T n nr false z = zU4 T n nr z := zNz_b h
  show zNz T n 1 2295 (zU5 T n nr false z) = _
  rw [e]
  exact zNz_b h
theorem rB_rule {I A J C : Nat → Nat → Int32} {T : Nat → Int32} {n nr nu : Nat} {fp : Option Nat} {z : Tz} {f g t k : Int32} {b : Bool} (hW : mW J A T n (zU6 T n nr b z)) (hr : rP I J) (hn : nu < 12) (h6 : (zU6 T n nr b z).1 = 0) (hD : qD nr nu C A) (ef : f = zUf T n nr z) (eg : g = zUg T n nr z) (et : t = zUt T n nr b z) (ek : k = zUa T n nr b z) (hf : ∃ i, i < nr ∧ f = nI i) (hg : ∃ i, i < nr ∧ g = nI i) (hx : (t = -1 ∧ ∃ i, i < 10 ∧ k = nI i) ∨ ∃ i, i < 5 ∧ t = nI i) : rB I A T n (sRule T n b (nr, nu, fp, C, z)) J (up2 (up2 (up2 (up2 (up2 A 3 (34 + 4 * nu) (t + 1)) 3 (34 + 4 * nu + 1) f) 3 (34 + 4 * nu + 2) g) 3 (34 + 4 * nu + 3) k) 3 1 (nI (nu + 1))) := by
  rw [sRule_y (by omega) h6]
  refine ⟨⟨mW_ext rfl hW, hr⟩, fun a ha => ?_, fun x hx2 => ?_, fun _ => ?_⟩
  · rw [up2_row ha, up2_row ha, up2_row ha, up2_row ha, up2_row ha]
  · rw [q5_at, if_neg (by omega), if_neg (by omega), if_neg (by omega), if_neg (by omega), if_neg (by omega)]
  · have h := qD_rule hD hn hf hg hx
    subst ef eg et ek
    exact h
set_option maxHeartbeats 1000000 in
set_option maxRecDepth 100000 in
theorem c_X7_once_n (l : Launch) (E : En) (I A : Nat → Nat → Int32) (K : Nat → Nat → Int64) (off : Int32) (hE : Ev mN E) (h14 : I 0 14 = 0) : Met l yX7_once (wz yX7_once cX7_once 3 none) (rmk 0 0 0 0) (va_Pc [.ref (eP E 0), .int 0, .int off] (Bw mN E mK (I, A, K))) (qWv mN E mK (fun uu => uu = (up2 I 0 14 1, A, K))) 0 0 (cA mN E) := by
  refine en_ofW RX7 rfl (by decide +kernel) (Nat.le_of_ble_eq_true rfl) ?_
  intro p e s m below meth c ls S hr hlk hnm hl hB
  have hx := S.1
  have hb := S.2.1
  obtain ⟨hK, hC, hP⟩ := hB
  have hS : va_S (cA mN E) s.heap s.heap [] := va_S.rf
  have hl : lv_has ls 3 [(0, .ref (eP E 0)), (1, .int 0), (2, .int off)] := hl
  refine lv_aload_n hx hb dX7_once_0 rfl (lv_at hl 0 rfl) ?_
  refine rw_geti (x := (I, A, K)) (v := 0) S hK hP 0 (by decide) rfl fk_X7_125 rfl h14 dX7_once_1 ?_
  refine lv_iload_n hx hb dX7_once_4 rfl (lv_at hl 1 rfl) ?_
  refine lv_ishr hx hb dX7_once_5 ?_
  refine lv_iconst (v := 1) hx hb dX7_once_6 (by decide) ?_
  refine lv_iand hx hb dX7_once_7 ?_
  refine tp_i (y := 0) (by decide) ?_
  refine lv_iconst (v := 1) hx hb dX7_once_8 (by decide) ?_
  refine lv_icmp_ne (tgt := 19) hx hb dX7_once_9 (by decide) (fun h9 => ?_) (fun h9 => absurd h9 (by decide))
  refine lv_aload_n hx hb dX7_once_19 rfl (lv_at hl 0 rfl) ?_
  refine lv_dup hx hb dX7_once_20 rfl ?_
  refine rw_geti (x := (I, A, K)) (v := 0) S hK hP 0 (by decide) rfl fk_X7_125 rfl h14 dX7_once_21 ?_
  refine lv_iconst (v := 1) hx hb dX7_once_24 (by decide) ?_
  refine lv_iload_n hx hb dX7_once_25 rfl (lv_at hl 1 rfl) ?_
  refine lv_ishl hx hb dX7_once_26 ?_
  refine lv_ior hx hb dX7_once_27 ?_
  refine tp_i (y := 1) (by decide) ?_
  refine rw_puti (x := (I, A, K)) (v := 1) S hE hK hP hS 0 (by decide) rfl fk_X7_125 rfl tyX7_ok nmX7 ⟨rfl, by decide +kernel⟩ dX7_once_28 (fun H locs hP hS => ?_)
  have hP : Wp mN E mK ((up2 I 0 14 1), A, K) H := hP
  exact re_wv (x := ((up2 I 0 14 1), A, K)) hx hb hr hlk hP hS rfl dX7_once_31

set_option maxHeartbeats 1000000 in
set_option maxRecDepth 100000 in
theorem c_X7_once_y (l : Launch) (E : En) (I A : Nat → Nat → Int32) (K : Nat → Nat → Int64) (off : Int32) (hE : Ev mN E) (h14 : I 0 14 = 1) (h05 : I 0 5 = 0) : Met l yX7_once (wz yX7_once cX7_once 3 none) (rmk 1 0 0 22) (va_Pc [.ref (eP E 0), .int 0, .int off] (Bw mN E mK (I, A, K))) (qWv mN E mK (fun uu => uu = (up2 (up2 (up2 I 0 5 (-2)) 0 6 off) 0 14 1, A, K))) 0 0 (cA mN E) := by
  refine en_ofW RX7 rfl (by decide +kernel) (Nat.le_of_ble_eq_true rfl) ?_
  intro p e s m below meth c ls S hr hlk hnm hl hB
  have hx := S.1
  have hb := S.2.1
  obtain ⟨hK, hC, hP⟩ := hB
  have hS : va_S (cA mN E) s.heap s.heap [] := va_S.rf
  have hl : lv_has ls 3 [(0, .ref (eP E 0)), (1, .int 0), (2, .int off)] := hl
  refine lv_aload_n hx hb dX7_once_0 rfl (lv_at hl 0 rfl) ?_
  refine rw_geti (x := (I, A, K)) (v := 1) S hK hP 0 (by decide) rfl fk_X7_125 rfl h14 dX7_once_1 ?_
  refine lv_iload_n hx hb dX7_once_4 rfl (lv_at hl 1 rfl) ?_
  refine lv_ishr hx hb dX7_once_5 ?_
  refine lv_iconst (v := 1) hx hb dX7_once_6 (by decide) ?_
  refine lv_iand hx hb dX7_once_7 ?_
  refine tp_i (y := 1) (by decide) ?_
  refine lv_iconst (v := 1) hx hb dX7_once_8 (by decide) ?_
  refine lv_icmp_ne (tgt := 19) hx hb dX7_once_9 (by decide) (fun h9 => absurd h9 (by decide)) (fun h9 => ?_)
  refine lv_aload_n hx hb dX7_once_12 rfl (lv_at hl 0 rfl) ?_
  refine lv_bipush (v := (-2)) hx hb dX7_once_13 (by decide) ?_
  refine lv_iload_n hx hb dX7_once_15 rfl (lv_at hl 2 rfl) ?_
  refine cn_wv (ck_V (a := eP E 0) S lk_X7_79 (c_X7_report l E I A K (-2) off hE) ⟨rfl, rfl⟩ ⟨Nat.le_of_ble_eq_true rfl, Nat.le_of_ble_eq_true rfl⟩ bl_w (rc_w hK hP 0 (by decide) rfl rfl) (bw_U hE hK hC hP hS) rfl hl.1 (Nat.le_of_ble_eq_true rfl) ⟨Nat.le_refl _, Nat.le_refl _⟩ dX7_once_16 rfl) hS (fun u2 H locs g3 hP hS => ?_)
  obtain rfl : u2 = ((if I 0 5 = 0 then up2 (up2 I 0 5 (-2)) 0 6 off else I), A, K) := g3
  have hP : Wp mN E mK ((if I 0 5 = 0 then up2 (up2 I 0 5 (-2)) 0 6 off else I), A, K) H := hP
  rw [if_pos (show I 0 5 = 0 from h05)] at hP
  have hP : Wp mN E mK ((up2 (up2 I 0 5 (-2)) 0 6 off), A, K) H := hP
  refine lv_aload_n hx hb dX7_once_19 rfl (lv_at hl 0 rfl) ?_
  refine lv_dup hx hb dX7_once_20 rfl ?_
  refine rw_geti (x := ((up2 (up2 I 0 5 (-2)) 0 6 off), A, K)) (v := 1) S hK hP 0 (by decide) rfl fk_X7_125 rfl ((up2_j (f := (up2 I 0 5 (-2))) (q := 0) (j := 6) (a := 0) (b := 14) (v := off) (by decide)).trans ((up2_j (f := I) (q := 0) (j := 5) (a := 0) (b := 14) (v := (-2)) (by decide)).trans h14)) dX7_once_21 ?_
  refine lv_iconst (v := 1) hx hb dX7_once_24 (by decide) ?_
  refine lv_iload_n hx hb dX7_once_25 rfl (lv_at hl 1 rfl) ?_
  refine lv_ishl hx hb dX7_once_26 ?_
  refine lv_ior hx hb dX7_once_27 ?_
  refine tp_i (y := 1) (by decide) ?_
  refine rw_puti (x := ((up2 (up2 I 0 5 (-2)) 0 6 off), A, K)) (v := 1) S hE hK hP hS 0 (by decide) rfl fk_X7_125 rfl tyX7_ok nmX7 ⟨rfl, by decide +kernel⟩ dX7_once_28 (fun H locs hP hS => ?_)
  have hP : Wp mN E mK ((up2 (up2 (up2 I 0 5 (-2)) 0 6 off) 0 14 1), A, K) H := hP
  exact re_wv (x := ((up2 (up2 (up2 I 0 5 (-2)) 0 6 off) 0 14 1), A, K)) hx hb hr hlk hP hS rfl dX7_once_31

theorem zNz_le2 {T : Nat → Int32} {n nr : Nat} {z : Tz} (h : (zA T n z).2 ≤ n) : (zU2 T n nr z).2 ≤ n := by
  unfold zU2 zNz
  split
  · split
    · exact h
    · split
      · exact h
      · show (if (zA T n z).1 = 0 then tkE T n (zA T n z).2 else (zA T n z).2) ≤ n
        split
        · exact tkE_le h
        · exact h
  · exact h
set_option maxHeartbeats 8000000 in
set_option maxRecDepth 100000 in
theorem c_X7_readRule (l : Launch) (E : En) (I A : Nat → Nat → Int32) (K : Nat → Nat → Int64) (T : Nat → Int32) (n : Nat) (z : Tz) (C : Nat → Nat → Int32) (nr nu : Nat) (fp : Option Nat) (b : Bool) (hE : Ev mN E) (hW : mW I A T n (zA T n z)) (h0 : z.1 = 0) (hD : qD nr nu C A) : Met l yX7_readRule (wz yX7_readRule cX7_readRule 8 none) (rmk 3 0 0 65) (va_Pc [.ref (eP E 0), .int (nI (tkB T n z.2)), .int (bI b)] (Bw mN E mK (I, A, K))) (qWv mN E mK (fun uu => ∃ J B, rB I A T n (sRule T n b (nr, nu, fp, C, z)) J B ∧ uu = (J, B, K))) 0 0 (cA mN E) := by
  refine en_ofW RX7 rfl (by decide +kernel) (Nat.le_of_ble_eq_true rfl) ?_
  intro p e s m below meth c ls S hr hlk hnm hl hB
  have hx := S.1
  have hb := S.2.1
  obtain ⟨hK, hC, hP⟩ := hB
  have hS : va_S (cA mN E) s.heap s.heap [] := va_S.rf
  have hl : lv_has ls 8 [(0, .ref (eP E 0)), (1, .int (nI (tkB T n z.2))), (2, .int (bI b))] := hl
  obtain ⟨⟨hn3, hTT, hzn⟩, h5c, h5p, h5e⟩ := id hW
  obtain ⟨⟨hd1, hd2⟩, ⟨hd3, hd4⟩, hd5, hd6⟩ := id hD
  have hWz := hzn
  refine lv_aload_n hx hb dX7_readRule_0 rfl (lv_at hl 0 rfl) ?_
  refine rw_getr (x := (I, A, K)) S hK hP 0 (by decide) rfl fk_X7_20 rfl dX7_readRule_1 ?_
  refine lv_iconst (v := 1) hx hb dX7_readRule_4 (by decide) ?_
  refine rw_iald (x := (I, A, K)) (v := nI nu) S hK hP 3 (by decide) rfl 1 rfl (by decide) (by decide) hd4 dX7_readRule_5 ?_
  refine lv_bipush (v := 12) hx hb dX7_readRule_6 (by decide) ?_
  refine lv_icmp_ne (tgt := 18) hx hb dX7_readRule_8 (by decide) (fun h8 => ?_) (fun h8 => ?_)
  · have hnu : nu < 12 := (Nat.lt_or_ge nu 12).elim id (fun g => absurd (show nI nu = (12 : Int32) by rw [show nu = 12 by omega]; rfl) h8)
    refine lv_aload_n hx hb dX7_readRule_18 rfl (lv_at hl 0 rfl) ?_
    refine lv_iconst (v := 0) hx hb dX7_readRule_19 (by decide) ?_
    refine lv_aload_n hx hb dX7_readRule_20 rfl (lv_at hl 0 rfl) ?_
    refine rw_getr (x := (I, A, K)) S hK hP 0 (by decide) rfl fk_X7_20 rfl dX7_readRule_21 ?_
    refine lv_iconst (v := 0) hx hb dX7_readRule_24 (by decide) ?_
    refine rw_iald (x := (I, A, K)) (v := nI nr) S hK hP 3 (by decide) rfl 0 rfl (by decide) (by decide) hd3 dX7_readRule_25 ?_
    refine lv_iconst (v := 1) hx hb dX7_readRule_26 (by decide) ?_
    refine lv_isub hx hb dX7_readRule_27 ?_
    refine cn_wi (ck_V (a := eP E 0) S lk_X7_113 (c_X7_number l E I A K T n (zA T n z) 0 ((nI nr) - 1) hE hW) ⟨rfl, rfl⟩ ⟨Nat.le_of_ble_eq_true rfl, Nat.le_of_ble_eq_true rfl⟩ bl_w (rc_w hK hP 0 (by decide) rfl rfl) (bw_U hE hK hC hP hS) rfl hl.1 (Nat.le_of_ble_eq_true rfl) ⟨Nat.le_refl _, Nat.le_refl _⟩ dX7_readRule_28 rfl) hS (fun r1 u2 H locs g3 hP hS => ?_)
    obtain ⟨J4, hW4, hp4, hn4, hv4, rfl⟩ : ∃ oj, mW oj A T n (zNz T n 0 ((nI nr) - 1) (zA T n z)) ∧ rP I oj ∧ (zN T n (zA T n z) = true → oj 0 12 = nI (tkB T n (zA T n z).2)) ∧ ((zNz T n 0 ((nI nr) - 1) (zA T n z)).1 = 0 → r1 = zNv T n 0 ((nI nr) - 1) (zA T n z)) ∧ u2 = (oj, A, K) := g3
    have hP : Wp mN E mK (J4, A, K) H := hP
    have hr4 := rP_tr rP_rf hp4
    have hW4 : mW J4 A T n (zU2 T n nr z) := hW4
    refine lv_istore_n (lv' := [(3, .int r1), (0, .ref (eP E 0)), (1, .int (nI (tkB T n z.2))), (2, .int (bI b))]) hx hb dX7_readRule_31 rfl hl (by decide) rfl (fun ls hl => ?_)
    refine lv_aload_n hx hb dX7_readRule_32 rfl (lv_at hl 1 rfl) ?_
    refine lv_iconst (v := 0) hx hb dX7_readRule_33 (by decide) ?_
    refine lv_aload_n hx hb dX7_readRule_34 rfl (lv_at hl 1 rfl) ?_
    refine rw_getr (x := (J4, A, K)) S hK hP 0 (by decide) rfl fk_X7_20 rfl dX7_readRule_35 ?_
    refine lv_iconst (v := 0) hx hb dX7_readRule_38 (by decide) ?_
    refine rw_iald (x := (J4, A, K)) (v := nI nr) S hK hP 3 (by decide) rfl 0 rfl (by decide) (by decide) hd3 dX7_readRule_39 ?_
    refine lv_iconst (v := 1) hx hb dX7_readRule_40 (by decide) ?_
    refine lv_isub hx hb dX7_readRule_41 ?_
    refine cn_wi (ck_V (a := eP E 0) S lk_X7_113 (c_X7_number l E J4 A K T n (zU2 T n nr z) 0 ((nI nr) - 1) hE hW4) ⟨rfl, rfl⟩ ⟨Nat.le_of_ble_eq_true rfl, Nat.le_of_ble_eq_true rfl⟩ bl_w (rc_w hK hP 0 (by decide) rfl rfl) (bw_U hE hK hC hP hS) rfl hl.1 (Nat.le_of_ble_eq_true rfl) ⟨Nat.le_refl _, Nat.le_refl _⟩ dX7_readRule_42 rfl) hS (fun r5 u6 H locs g7 hP hS => ?_)
    obtain ⟨J8, hW8, hp8, hn8, hv8, rfl⟩ : ∃ oj, mW oj A T n (zNz T n 0 ((nI nr) - 1) (zU2 T n nr z)) ∧ rP J4 oj ∧ (zN T n (zU2 T n nr z) = true → oj 0 12 = nI (tkB T n (zU2 T n nr z).2)) ∧ ((zNz T n 0 ((nI nr) - 1) (zU2 T n nr z)).1 = 0 → r5 = zNv T n 0 ((nI nr) - 1) (zU2 T n nr z)) ∧ u6 = (oj, A, K) := g7
    have hP : Wp mN E mK (J8, A, K) H := hP
    have hr8 := rP_tr hr4 hp8
    have hW8 : mW J8 A T n (zNz T n 0 (nI nr - 1) (zU2 T n nr z)) := hW8
    refine lv_istore (lv' := [(4, .int r5), (3, .int r1), (0, .ref (eP E 0)), (1, .int (nI (tkB T n z.2))), (2, .int (bI b))]) hx hb dX7_readRule_45 hl (by decide) rfl (fun ls hl => ?_)
    refine lv_iload_n hx hb dX7_readRule_47 rfl (lv_at hl 1 rfl) ?_
    refine lv_iload hx hb dX7_readRule_48 (lv_at hl 0 rfl) ?_
    refine lv_icmp_ne (tgt := 63) hx hb dX7_readRule_50 (by decide) (fun h50 => ?_) (fun h50 => ?_)
    · have hdf : ¬ ((zNz T n 0 (nI nr - 1) (zU2 T n nr z)).1 = 0 ∧ zNv T n 0 (nI nr - 1) (zU2 T n nr z) = zUf T n nr z) := fun q => h50 (((hv4 (zMo_NN q.1)).trans q.2.symm).trans (hv8 q.1).symm)
      have hWu : mW J8 A T n (zU4 T n nr z) := by rw [zU4_d hdf]; exact hW8
      refine lv_iload_n hx hb dX7_readRule_63 rfl (lv_at hl 4 rfl) ?_
      refine lv_if_eq (tgt := 71) hx hb dX7_readRule_64 (by decide) (fun h64 => ?_) (fun h64 => ?_)
      · obtain rfl : b = false := bI_f h64
        refine lv_aload_n hx hb dX7_readRule_71 rfl (lv_at hl 2 rfl) ?_
        refine lv_iconst (v := 0) hx hb dX7_readRule_72 (by decide) ?_
        refine lv_iconst (v := 4) hx hb dX7_readRule_73 (by decide) ?_
        refine cn_wi (ck_V (a := eP E 0) S lk_X7_113 (c_X7_number l E J8 A K T n (zU4 T n nr z) 0 4 hE hWu) ⟨rfl, rfl⟩ ⟨Nat.le_of_ble_eq_true rfl, Nat.le_of_ble_eq_true rfl⟩ bl_w (rc_w hK hP 0 (by decide) rfl rfl) (bw_U hE hK hC hP hS) rfl hl.1 (Nat.le_of_ble_eq_true rfl) ⟨Nat.le_refl _, Nat.le_refl _⟩ dX7_readRule_74 rfl) hS (fun r9 u10 H locs g11 hP hS => ?_)
        obtain ⟨J12, hW12, hp12, hn12, hv12, rfl⟩ : ∃ oj, mW oj A T n (zNz T n 0 4 (zU4 T n nr z)) ∧ rP J8 oj ∧ (zN T n (zU4 T n nr z) = true → oj 0 12 = nI (tkB T n (zU4 T n nr z).2)) ∧ ((zNz T n 0 4 (zU4 T n nr z)).1 = 0 → r9 = zNv T n 0 4 (zU4 T n nr z)) ∧ u10 = (oj, A, K) := g11
        have hP : Wp mN E mK (J12, A, K) H := hP
        have hr12 := rP_tr hr8 hp12
        have hW12 : mW J12 A T n (zU5 T n nr false z) := hW12
        refine lv_istore (lv' := [(5, .int r9), (4, .int r5), (3, .int r1), (0, .ref (eP E 0)), (1, .int (nI (tkB T n z.2))), (2, .int (bI false))]) hx hb dX7_readRule_77 hl (by decide) rfl (fun ls hl => ?_)
        refine lv_iload_n hx hb dX7_readRule_79 rfl (lv_at hl 5 rfl) ?_
        refine lv_if_eq (tgt := 93) hx hb dX7_readRule_80 (by decide) (fun h80 => ?_) (fun h80 => absurd (show bI false = 0 from rfl) h80)
        refine lv_aload_n hx hb dX7_readRule_93 rfl (lv_at hl 3 rfl) ?_
        refine lv_iconst (v := 1) hx hb dX7_readRule_94 (by decide) ?_
        refine lv_sipush (v := 2295) hx hb dX7_readRule_95 (by decide) ?_
        refine cn_wi (ck_V (a := eP E 0) S lk_X7_113 (c_X7_number l E J12 A K T n (zU5 T n nr false z) 1 2295 hE hW12) ⟨rfl, rfl⟩ ⟨Nat.le_of_ble_eq_true rfl, Nat.le_of_ble_eq_true rfl⟩ bl_w (rc_w hK hP 0 (by decide) rfl rfl) (bw_U hE hK hC hP hS) rfl hl.1 (Nat.le_of_ble_eq_true rfl) ⟨Nat.le_refl _, Nat.le_refl _⟩ dX7_readRule_98 rfl) hS (fun r13 u14 H locs g15 hP hS => ?_)
        obtain ⟨J16, hW16, hp16, hn16, hv16, rfl⟩ : ∃ oj, mW oj A T n (zNz T n 1 2295 (zU5 T n nr false z)) ∧ rP J12 oj ∧ (zN T n (zU5 T n nr false z) = true → oj 0 12 = nI (tkB T n (zU5 T n nr false z).2)) ∧ ((zNz T n 1 2295 (zU5 T n nr false z)).1 = 0 → r13 = zNv T n 1 2295 (zU5 T n nr false z)) ∧ u14 = (oj, A, K) := g15
        have hP : Wp mN E mK (J16, A, K) H := hP
        have hr16 := rP_tr hr12 hp16
        have hW16 : mW J16 A T n (zU6 T n nr false z) := hW16
        refine lv_istore (lv' := [(6, .int r13), (5, .int r9), (4, .int r5), (3, .int r1), (0, .ref (eP E 0)), (1, .int (nI (tkB T n z.2))), (2, .int (bI false))]) hx hb dX7_readRule_101 hl (by decide) rfl (fun ls hl => ?_)
        refine lv_aload_n hx hb dX7_readRule_103 rfl (lv_at hl 4 rfl) ?_
        refine cn_si (ck_V (a := eP E 0) S lk_X7_62 (c_X7_isGood l E J16 A K hE) ⟨rfl, rfl⟩ ⟨Nat.le_of_ble_eq_true rfl, Nat.le_of_ble_eq_true rfl⟩ bl_w (rc_w hK hP 0 (by decide) rfl rfl) (bw_U hE hK hC hP hS) rfl hl.1 (Nat.le_of_ble_eq_true rfl) ⟨Nat.le_refl _, Nat.le_refl _⟩ dX7_readRule_104 rfl) (fun r17 g18 => ?_)
        obtain rfl : r17 = bI (decide (J16 0 5 = 0)) := g18
        refine lv_if_ne (tgt := 111) hx hb dX7_readRule_107 (by decide) (fun h107 => ?_) (fun h107 => ?_)
        · have hz6 : (zU6 T n nr false z).1 = 0 := hW16.2.1.symm.trans (of_decide_eq_true (bI_t h107))
          have hz5 : (zU5 T n nr false z).1 = 0 := zMo_NN hz6
          have hz4 : (zU4 T n nr z).1 = 0 := zMo_NN hz5
          have e3 : zU3 T n nr z = zU2 T n nr z := zU4_g hz4
          have hy2 : (zNz T n 0 (nI nr - 1) (zU2 T n nr z)).1 = 0 := by rw [← e3]; exact hz4
          have hz2 : (zNz T n 0 (nI nr - 1) (zA T n z)).1 = 0 := zMo_NN (z := zU2 T n nr z) hy2
          have hv19 : r1 = (zUf T n nr z) := hv4 hz2
          rw [hv19] at hl
          have hv20 : r5 = (zNv T n 0 (nI nr - 1) (zU2 T n nr z)) := hv8 hy2
          rw [hv20] at hl
          have hv21 : r9 = (zNv T n 0 4 (zU4 T n nr z)) := hv12 hz5
          rw [hv21] at hl
          have hv22 : r13 = (zNv T n 1 2295 (zU5 T n nr false z)) := hv16 hz6
          rw [hv22] at hl
          refine lv_aload_n hx hb dX7_readRule_111 rfl (lv_at hl 4 rfl) ?_
          refine rw_getr (x := (J16, A, K)) S hK hP 0 (by decide) rfl fk_X7_20 rfl dX7_readRule_112 ?_
          refine lv_iconst (v := 1) hx hb dX7_readRule_115 (by decide) ?_
          refine rw_iald (x := (J16, A, K)) (v := nI nu) S hK hP 3 (by decide) rfl 1 rfl (by decide) (by decide) hd4 dX7_readRule_116 ?_
          refine cn_si (ck_S S lk_X7_139 (c_X7_ruleN l nu) ⟨rfl, rfl⟩ ⟨Nat.le_of_ble_eq_true rfl, Nat.le_of_ble_eq_true rfl⟩ bl_T t_U rfl hl.1 (Nat.le_of_ble_eq_true rfl) ⟨Nat.le_refl _, Nat.le_refl _⟩ dX7_readRule_117 rfl) (fun r23 g24 => ?_)
          obtain rfl : r23 = nI (34 + 4 * nu) := g24
          refine lv_istore (lv' := [(7, .int (nI (34 + 4 * nu))), (6, .int (zNv T n 1 2295 (zU5 T n nr false z))), (5, .int (zNv T n 0 4 (zU4 T n nr z))), (4, .int (zNv T n 0 (nI nr - 1) (zU2 T n nr z))), (3, .int (zUf T n nr z)), (0, .ref (eP E 0)), (1, .int (nI (tkB T n z.2))), (2, .int (bI false))]) hx hb dX7_readRule_120 hl (by decide) rfl (fun ls hl => ?_)
          refine lv_aload_n hx hb dX7_readRule_122 rfl (lv_at hl 5 rfl) ?_
          refine rw_getr (x := (J16, A, K)) S hK hP 0 (by decide) rfl fk_X7_20 rfl dX7_readRule_123 ?_
          refine lv_iload hx hb dX7_readRule_126 (lv_at hl 0 rfl) ?_
          refine lv_iload hx hb dX7_readRule_128 (lv_at hl 2 rfl) ?_
          refine lv_iconst (v := 1) hx hb dX7_readRule_130 (by decide) ?_
          refine lv_iadd hx hb dX7_readRule_131 ?_
          refine rw_iast (x := (J16, A, K)) (v := ((zNv T n 0 4 (zU4 T n nr z)) + 1)) S hE hK hP hS 3 (by decide) rfl (34 + 4 * nu) rfl (by omega) (by decide) dX7_readRule_132 (fun H locs hP hS => ?_)
          have hP : Wp mN E mK (J16, (up2 A 3 (34 + 4 * nu) ((zNv T n 0 4 (zU4 T n nr z)) + 1)), K) H := hP
          refine lv_aload_n hx hb dX7_readRule_133 rfl (lv_at hl 5 rfl) ?_
          refine rw_getr (x := (J16, (up2 A 3 (34 + 4 * nu) ((zNv T n 0 4 (zU4 T n nr z)) + 1)), K)) S hK hP 0 (by decide) rfl fk_X7_20 rfl dX7_readRule_134 ?_
          refine lv_iload hx hb dX7_readRule_137 (lv_at hl 0 rfl) ?_
          refine lv_iconst (v := 1) hx hb dX7_readRule_139 (by decide) ?_
          refine lv_iadd hx hb dX7_readRule_140 ?_
          refine tp_i (y := nI ((34 + 4 * nu) + 1)) (nI_add (34 + 4 * nu) 1) ?_
          refine lv_iload_n hx hb dX7_readRule_141 rfl (lv_at hl 4 rfl) ?_
          refine rw_iast (x := (J16, (up2 A 3 (34 + 4 * nu) ((zNv T n 0 4 (zU4 T n nr z)) + 1)), K)) (v := (zUf T n nr z)) S hE hK hP hS 3 (by decide) rfl ((34 + 4 * nu) + 1) rfl (by omega) (by decide) dX7_readRule_142 (fun H locs hP hS => ?_)
          have hP : Wp mN E mK (J16, (up2 (up2 A 3 (34 + 4 * nu) ((zNv T n 0 4 (zU4 T n nr z)) + 1)) 3 ((34 + 4 * nu) + 1) (zUf T n nr z)), K) H := hP
          refine lv_aload_n hx hb dX7_readRule_143 rfl (lv_at hl 5 rfl) ?_
          refine rw_getr (x := (J16, (up2 (up2 A 3 (34 + 4 * nu) ((zNv T n 0 4 (zU4 T n nr z)) + 1)) 3 ((34 + 4 * nu) + 1) (zUf T n nr z)), K)) S hK hP 0 (by decide) rfl fk_X7_20 rfl dX7_readRule_144 ?_
          refine lv_iload hx hb dX7_readRule_147 (lv_at hl 0 rfl) ?_
          refine lv_iconst (v := 2) hx hb dX7_readRule_149 (by decide) ?_
          refine lv_iadd hx hb dX7_readRule_150 ?_
          refine tp_i (y := nI ((34 + 4 * nu) + 2)) (nI_add (34 + 4 * nu) 2) ?_
          refine lv_iload hx hb dX7_readRule_151 (lv_at hl 3 rfl) ?_
          refine rw_iast (x := (J16, (up2 (up2 A 3 (34 + 4 * nu) ((zNv T n 0 4 (zU4 T n nr z)) + 1)) 3 ((34 + 4 * nu) + 1) (zUf T n nr z)), K)) (v := (zNv T n 0 (nI nr - 1) (zU2 T n nr z))) S hE hK hP hS 3 (by decide) rfl ((34 + 4 * nu) + 2) rfl (by omega) (by decide) dX7_readRule_153 (fun H locs hP hS => ?_)
          have hP : Wp mN E mK (J16, (up2 (up2 (up2 A 3 (34 + 4 * nu) ((zNv T n 0 4 (zU4 T n nr z)) + 1)) 3 ((34 + 4 * nu) + 1) (zUf T n nr z)) 3 ((34 + 4 * nu) + 2) (zNv T n 0 (nI nr - 1) (zU2 T n nr z))), K) H := hP
          refine lv_aload_n hx hb dX7_readRule_154 rfl (lv_at hl 5 rfl) ?_
          refine rw_getr (x := (J16, (up2 (up2 (up2 A 3 (34 + 4 * nu) ((zNv T n 0 4 (zU4 T n nr z)) + 1)) 3 ((34 + 4 * nu) + 1) (zUf T n nr z)) 3 ((34 + 4 * nu) + 2) (zNv T n 0 (nI nr - 1) (zU2 T n nr z))), K)) S hK hP 0 (by decide) rfl fk_X7_20 rfl dX7_readRule_155 ?_
          refine lv_iload hx hb dX7_readRule_158 (lv_at hl 0 rfl) ?_
          refine lv_iconst (v := 3) hx hb dX7_readRule_160 (by decide) ?_
          refine lv_iadd hx hb dX7_readRule_161 ?_
          refine tp_i (y := nI ((34 + 4 * nu) + 3)) (nI_add (34 + 4 * nu) 3) ?_
          refine lv_iload hx hb dX7_readRule_162 (lv_at hl 1 rfl) ?_
          refine rw_iast (x := (J16, (up2 (up2 (up2 A 3 (34 + 4 * nu) ((zNv T n 0 4 (zU4 T n nr z)) + 1)) 3 ((34 + 4 * nu) + 1) (zUf T n nr z)) 3 ((34 + 4 * nu) + 2) (zNv T n 0 (nI nr - 1) (zU2 T n nr z))), K)) (v := (zNv T n 1 2295 (zU5 T n nr false z))) S hE hK hP hS 3 (by decide) rfl ((34 + 4 * nu) + 3) rfl (by omega) (by decide) dX7_readRule_164 (fun H locs hP hS => ?_)
          have hP : Wp mN E mK (J16, (up2 (up2 (up2 (up2 A 3 (34 + 4 * nu) ((zNv T n 0 4 (zU4 T n nr z)) + 1)) 3 ((34 + 4 * nu) + 1) (zUf T n nr z)) 3 ((34 + 4 * nu) + 2) (zNv T n 0 (nI nr - 1) (zU2 T n nr z))) 3 ((34 + 4 * nu) + 3) (zNv T n 1 2295 (zU5 T n nr false z))), K) H := hP
          refine lv_aload_n hx hb dX7_readRule_165 rfl (lv_at hl 5 rfl) ?_
          refine rw_getr (x := (J16, (up2 (up2 (up2 (up2 A 3 (34 + 4 * nu) ((zNv T n 0 4 (zU4 T n nr z)) + 1)) 3 ((34 + 4 * nu) + 1) (zUf T n nr z)) 3 ((34 + 4 * nu) + 2) (zNv T n 0 (nI nr - 1) (zU2 T n nr z))) 3 ((34 + 4 * nu) + 3) (zNv T n 1 2295 (zU5 T n nr false z))), K)) S hK hP 0 (by decide) rfl fk_X7_20 rfl dX7_readRule_166 ?_
          refine lv_iconst (v := 1) hx hb dX7_readRule_169 (by decide) ?_
          refine lv_dup2_11 hx hb dX7_readRule_170 rfl rfl ?_
          refine rw_iald (x := (J16, (up2 (up2 (up2 (up2 A 3 (34 + 4 * nu) ((zNv T n 0 4 (zU4 T n nr z)) + 1)) 3 ((34 + 4 * nu) + 1) (zUf T n nr z)) 3 ((34 + 4 * nu) + 2) (zNv T n 0 (nI nr - 1) (zU2 T n nr z))) 3 ((34 + 4 * nu) + 3) (zNv T n 1 2295 (zU5 T n nr false z))), K)) (v := nI nu) S hK hP 3 (by decide) rfl 1 rfl (by decide) (by decide) (show (up2 (up2 (up2 (up2 A 3 (34 + 4 * nu) ((zNv T n 0 4 (zU4 T n nr z)) + 1)) 3 ((34 + 4 * nu) + 1) (zUf T n nr z)) 3 ((34 + 4 * nu) + 2) (zNv T n 0 (nI nr - 1) (zU2 T n nr z))) 3 ((34 + 4 * nu) + 3) (zNv T n 1 2295 (zU5 T n nr false z))) 3 1 = nI nu from qv4.trans hd4) dX7_readRule_171 ?_
          refine lv_iconst (v := 1) hx hb dX7_readRule_172 (by decide) ?_
          refine lv_iadd hx hb dX7_readRule_173 ?_
          refine tp_i (y := nI (nu + 1)) (nI_add nu 1) ?_
          refine rw_iast (x := (J16, (up2 (up2 (up2 (up2 A 3 (34 + 4 * nu) ((zNv T n 0 4 (zU4 T n nr z)) + 1)) 3 ((34 + 4 * nu) + 1) (zUf T n nr z)) 3 ((34 + 4 * nu) + 2) (zNv T n 0 (nI nr - 1) (zU2 T n nr z))) 3 ((34 + 4 * nu) + 3) (zNv T n 1 2295 (zU5 T n nr false z))), K)) (v := (nI (nu + 1))) S hE hK hP hS 3 (by decide) rfl 1 rfl (by decide) (by decide) dX7_readRule_174 (fun H locs hP hS => ?_)
          have hP : Wp mN E mK (J16, (up2 (up2 (up2 (up2 (up2 A 3 (34 + 4 * nu) ((zNv T n 0 4 (zU4 T n nr z)) + 1)) 3 ((34 + 4 * nu) + 1) (zUf T n nr z)) 3 ((34 + 4 * nu) + 2) (zNv T n 0 (nI nr - 1) (zU2 T n nr z))) 3 ((34 + 4 * nu) + 3) (zNv T n 1 2295 (zU5 T n nr false z))) 3 1 (nI (nu + 1))), K) H := hP
          exact re_wv (x := (J16, (up2 (up2 (up2 (up2 (up2 A 3 (34 + 4 * nu) ((zNv T n 0 4 (zU4 T n nr z)) + 1)) 3 ((34 + 4 * nu) + 1) (zUf T n nr z)) 3 ((34 + 4 * nu) + 2) (zNv T n 0 (nI nr - 1) (zU2 T n nr z))) 3 ((34 + 4 * nu) + 3) (zNv T n 1 2295 (zU5 T n nr false z))) 3 1 (nI (nu + 1))), K)) hx hb hr hlk hP hS ⟨_, _, rB_rule hW16 hr16 hnu hz6 hD rfl (by unfold zUg; rw [e3]) rfl rfl (zNv_rl hd1 hz2) (zNv_rl hd1 hy2) (Or.inr (zNv_r2 (m := 4) (by decide) ⟨0, by decide, rfl⟩ hz5)), rfl⟩ dX7_readRule_175
        · have hz6 : ¬ (zU6 T n nr false z).1 = 0 := fun g => absurd (decide_eq_true (hW16.2.1.trans g)) (by rw [bI_f h107]; decide)
          exact re_wv (x := (J16, A, K)) hx hb hr hlk hP hS ⟨_, A, rB_n (sRule_n (by omega) hz6) hW16 hr16 hz6, rfl⟩ dX7_readRule_110
      · obtain rfl : b = true := bI_t h64
        refine lv_iconst (v := (-1)) hx hb dX7_readRule_67 (by decide) ?_
        refine lv_goto (tgt := 77) hx hb dX7_readRule_68 (by decide) ?_
        refine lv_istore (lv' := [(5, .int (-1)), (4, .int r5), (3, .int r1), (0, .ref (eP E 0)), (1, .int (nI (tkB T n z.2))), (2, .int (bI true))]) hx hb dX7_readRule_77 hl (by decide) rfl (fun ls hl => ?_)
        refine lv_iload_n hx hb dX7_readRule_79 rfl (lv_at hl 5 rfl) ?_
        refine lv_if_eq (tgt := 93) hx hb dX7_readRule_80 (by decide) (fun h80 => absurd h80 (show ¬ bI true = 0 by decide)) (fun h80 => ?_)
        refine lv_aload_n hx hb dX7_readRule_83 rfl (lv_at hl 3 rfl) ?_
        refine lv_iconst (v := 1) hx hb dX7_readRule_84 (by decide) ?_
        refine lv_bipush (v := 9) hx hb dX7_readRule_85 (by decide) ?_
        refine cn_wi (ck_V (a := eP E 0) S lk_X7_113 (c_X7_number l E J8 A K T n (zU5 T n nr true z) 1 9 hE hWu) ⟨rfl, rfl⟩ ⟨Nat.le_of_ble_eq_true rfl, Nat.le_of_ble_eq_true rfl⟩ bl_w (rc_w hK hP 0 (by decide) rfl rfl) (bw_U hE hK hC hP hS) rfl hl.1 (Nat.le_of_ble_eq_true rfl) ⟨Nat.le_refl _, Nat.le_refl _⟩ dX7_readRule_87 rfl) hS (fun r25 u26 H locs g27 hP hS => ?_)
        obtain ⟨J28, hW28, hp28, hn28, hv28, rfl⟩ : ∃ oj, mW oj A T n (zNz T n 1 9 (zU5 T n nr true z)) ∧ rP J8 oj ∧ (zN T n (zU5 T n nr true z) = true → oj 0 12 = nI (tkB T n (zU5 T n nr true z).2)) ∧ ((zNz T n 1 9 (zU5 T n nr true z)).1 = 0 → r25 = zNv T n 1 9 (zU5 T n nr true z)) ∧ u26 = (oj, A, K) := g27
        have hP : Wp mN E mK (J28, A, K) H := hP
        have hr28 := rP_tr hr8 hp28
        have hW28 : mW J28 A T n (zU6 T n nr true z) := hW28
        refine lv_goto (tgt := 101) hx hb dX7_readRule_90 (by decide) ?_
        refine lv_istore (lv' := [(6, .int r25), (5, .int (-1)), (4, .int r5), (3, .int r1), (0, .ref (eP E 0)), (1, .int (nI (tkB T n z.2))), (2, .int (bI true))]) hx hb dX7_readRule_101 hl (by decide) rfl (fun ls hl => ?_)
        refine lv_aload_n hx hb dX7_readRule_103 rfl (lv_at hl 4 rfl) ?_
        refine cn_si (ck_V (a := eP E 0) S lk_X7_62 (c_X7_isGood l E J28 A K hE) ⟨rfl, rfl⟩ ⟨Nat.le_of_ble_eq_true rfl, Nat.le_of_ble_eq_true rfl⟩ bl_w (rc_w hK hP 0 (by decide) rfl rfl) (bw_U hE hK hC hP hS) rfl hl.1 (Nat.le_of_ble_eq_true rfl) ⟨Nat.le_refl _, Nat.le_refl _⟩ dX7_readRule_104 rfl) (fun r29 g30 => ?_)
        obtain rfl : r29 = bI (decide (J28 0 5 = 0)) := g30
        refine lv_if_ne (tgt := 111) hx hb dX7_readRule_107 (by decide) (fun h107 => ?_) (fun h107 => ?_)
        · have hz6 : (zU6 T n nr true z).1 = 0 := hW28.2.1.symm.trans (of_decide_eq_true (bI_t h107))
          have hz5 : (zU5 T n nr true z).1 = 0 := zMo_NN hz6
          have hz4 : (zU4 T n nr z).1 = 0 := hz5
          have e3 : zU3 T n nr z = zU2 T n nr z := zU4_g hz4
          have hy2 : (zNz T n 0 (nI nr - 1) (zU2 T n nr z)).1 = 0 := by rw [← e3]; exact hz4
          have hz2 : (zNz T n 0 (nI nr - 1) (zA T n z)).1 = 0 := zMo_NN (z := zU2 T n nr z) hy2
          have hv31 : r1 = (zUf T n nr z) := hv4 hz2
          rw [hv31] at hl
          have hv32 : r5 = (zNv T n 0 (nI nr - 1) (zU2 T n nr z)) := hv8 hy2
          rw [hv32] at hl
          have hv33 : r25 = (zNv T n 1 9 (zU5 T n nr true z)) := hv28 hz6
          rw [hv33] at hl
          refine lv_aload_n hx hb dX7_readRule_111 rfl (lv_at hl 4 rfl) ?_
          refine rw_getr (x := (J28, A, K)) S hK hP 0 (by decide) rfl fk_X7_20 rfl dX7_readRule_112 ?_
          refine lv_iconst (v := 1) hx hb dX7_readRule_115 (by decide) ?_
          refine rw_iald (x := (J28, A, K)) (v := nI nu) S hK hP 3 (by decide) rfl 1 rfl (by decide) (by decide) hd4 dX7_readRule_116 ?_
          refine cn_si (ck_S S lk_X7_139 (c_X7_ruleN l nu) ⟨rfl, rfl⟩ ⟨Nat.le_of_ble_eq_true rfl, Nat.le_of_ble_eq_true rfl⟩ bl_T t_U rfl hl.1 (Nat.le_of_ble_eq_true rfl) ⟨Nat.le_refl _, Nat.le_refl _⟩ dX7_readRule_117 rfl) (fun r34 g35 => ?_)
          obtain rfl : r34 = nI (34 + 4 * nu) := g35
          refine lv_istore (lv' := [(7, .int (nI (34 + 4 * nu))), (6, .int (zNv T n 1 9 (zU5 T n nr true z))), (5, .int (-1)), (4, .int (zNv T n 0 (nI nr - 1) (zU2 T n nr z))), (3, .int (zUf T n nr z)), (0, .ref (eP E 0)), (1, .int (nI (tkB T n z.2))), (2, .int (bI true))]) hx hb dX7_readRule_120 hl (by decide) rfl (fun ls hl => ?_)
          refine lv_aload_n hx hb dX7_readRule_122 rfl (lv_at hl 5 rfl) ?_
          refine rw_getr (x := (J28, A, K)) S hK hP 0 (by decide) rfl fk_X7_20 rfl dX7_readRule_123 ?_
          refine lv_iload hx hb dX7_readRule_126 (lv_at hl 0 rfl) ?_
          refine lv_iload hx hb dX7_readRule_128 (lv_at hl 2 rfl) ?_
          refine lv_iconst (v := 1) hx hb dX7_readRule_130 (by decide) ?_
          refine lv_iadd hx hb dX7_readRule_131 ?_
          refine rw_iast (x := (J28, A, K)) (v := ((-1) + 1)) S hE hK hP hS 3 (by decide) rfl (34 + 4 * nu) rfl (by omega) (by decide) dX7_readRule_132 (fun H locs hP hS => ?_)
          have hP : Wp mN E mK (J28, (up2 A 3 (34 + 4 * nu) ((-1) + 1)), K) H := hP
          refine lv_aload_n hx hb dX7_readRule_133 rfl (lv_at hl 5 rfl) ?_
          refine rw_getr (x := (J28, (up2 A 3 (34 + 4 * nu) ((-1) + 1)), K)) S hK hP 0 (by decide) rfl fk_X7_20 rfl dX7_readRule_134 ?_
          refine lv_iload hx hb dX7_readRule_137 (lv_at hl 0 rfl) ?_
          refine lv_iconst (v := 1) hx hb dX7_readRule_139 (by decide) ?_
          refine lv_iadd hx hb dX7_readRule_140 ?_
          refine tp_i (y := nI ((34 + 4 * nu) + 1)) (nI_add (34 + 4 * nu) 1) ?_
          refine lv_iload_n hx hb dX7_readRule_141 rfl (lv_at hl 4 rfl) ?_
          refine rw_iast (x := (J28, (up2 A 3 (34 + 4 * nu) ((-1) + 1)), K)) (v := (zUf T n nr z)) S hE hK hP hS 3 (by decide) rfl ((34 + 4 * nu) + 1) rfl (by omega) (by decide) dX7_readRule_142 (fun H locs hP hS => ?_)
          have hP : Wp mN E mK (J28, (up2 (up2 A 3 (34 + 4 * nu) ((-1) + 1)) 3 ((34 + 4 * nu) + 1) (zUf T n nr z)), K) H := hP
          refine lv_aload_n hx hb dX7_readRule_143 rfl (lv_at hl 5 rfl) ?_
          refine rw_getr (x := (J28, (up2 (up2 A 3 (34 + 4 * nu) ((-1) + 1)) 3 ((34 + 4 * nu) + 1) (zUf T n nr z)), K)) S hK hP 0 (by decide) rfl fk_X7_20 rfl dX7_readRule_144 ?_
          refine lv_iload hx hb dX7_readRule_147 (lv_at hl 0 rfl) ?_
          refine lv_iconst (v := 2) hx hb dX7_readRule_149 (by decide) ?_
          refine lv_iadd hx hb dX7_readRule_150 ?_
          refine tp_i (y := nI ((34 + 4 * nu) + 2)) (nI_add (34 + 4 * nu) 2) ?_
          refine lv_iload hx hb dX7_readRule_151 (lv_at hl 3 rfl) ?_
          refine rw_iast (x := (J28, (up2 (up2 A 3 (34 + 4 * nu) ((-1) + 1)) 3 ((34 + 4 * nu) + 1) (zUf T n nr z)), K)) (v := (zNv T n 0 (nI nr - 1) (zU2 T n nr z))) S hE hK hP hS 3 (by decide) rfl ((34 + 4 * nu) + 2) rfl (by omega) (by decide) dX7_readRule_153 (fun H locs hP hS => ?_)
          have hP : Wp mN E mK (J28, (up2 (up2 (up2 A 3 (34 + 4 * nu) ((-1) + 1)) 3 ((34 + 4 * nu) + 1) (zUf T n nr z)) 3 ((34 + 4 * nu) + 2) (zNv T n 0 (nI nr - 1) (zU2 T n nr z))), K) H := hP
          refine lv_aload_n hx hb dX7_readRule_154 rfl (lv_at hl 5 rfl) ?_
          refine rw_getr (x := (J28, (up2 (up2 (up2 A 3 (34 + 4 * nu) ((-1) + 1)) 3 ((34 + 4 * nu) + 1) (zUf T n nr z)) 3 ((34 + 4 * nu) + 2) (zNv T n 0 (nI nr - 1) (zU2 T n nr z))), K)) S hK hP 0 (by decide) rfl fk_X7_20 rfl dX7_readRule_155 ?_
          refine lv_iload hx hb dX7_readRule_158 (lv_at hl 0 rfl) ?_
          refine lv_iconst (v := 3) hx hb dX7_readRule_160 (by decide) ?_
          refine lv_iadd hx hb dX7_readRule_161 ?_
          refine tp_i (y := nI ((34 + 4 * nu) + 3)) (nI_add (34 + 4 * nu) 3) ?_
          refine lv_iload hx hb dX7_readRule_162 (lv_at hl 1 rfl) ?_
          refine rw_iast (x := (J28, (up2 (up2 (up2 A 3 (34 + 4 * nu) ((-1) + 1)) 3 ((34 + 4 * nu) + 1) (zUf T n nr z)) 3 ((34 + 4 * nu) + 2) (zNv T n 0 (nI nr - 1) (zU2 T n nr z))), K)) (v := (zNv T n 1 9 (zU5 T n nr true z))) S hE hK hP hS 3 (by decide) rfl ((34 + 4 * nu) + 3) rfl (by omega) (by decide) dX7_readRule_164 (fun H locs hP hS => ?_)
          have hP : Wp mN E mK (J28, (up2 (up2 (up2 (up2 A 3 (34 + 4 * nu) ((-1) + 1)) 3 ((34 + 4 * nu) + 1) (zUf T n nr z)) 3 ((34 + 4 * nu) + 2) (zNv T n 0 (nI nr - 1) (zU2 T n nr z))) 3 ((34 + 4 * nu) + 3) (zNv T n 1 9 (zU5 T n nr true z))), K) H := hP
          refine lv_aload_n hx hb dX7_readRule_165 rfl (lv_at hl 5 rfl) ?_
          refine rw_getr (x := (J28, (up2 (up2 (up2 (up2 A 3 (34 + 4 * nu) ((-1) + 1)) 3 ((34 + 4 * nu) + 1) (zUf T n nr z)) 3 ((34 + 4 * nu) + 2) (zNv T n 0 (nI nr - 1) (zU2 T n nr z))) 3 ((34 + 4 * nu) + 3) (zNv T n 1 9 (zU5 T n nr true z))), K)) S hK hP 0 (by decide) rfl fk_X7_20 rfl dX7_readRule_166 ?_
          refine lv_iconst (v := 1) hx hb dX7_readRule_169 (by decide) ?_
          refine lv_dup2_11 hx hb dX7_readRule_170 rfl rfl ?_
          refine rw_iald (x := (J28, (up2 (up2 (up2 (up2 A 3 (34 + 4 * nu) ((-1) + 1)) 3 ((34 + 4 * nu) + 1) (zUf T n nr z)) 3 ((34 + 4 * nu) + 2) (zNv T n 0 (nI nr - 1) (zU2 T n nr z))) 3 ((34 + 4 * nu) + 3) (zNv T n 1 9 (zU5 T n nr true z))), K)) (v := nI nu) S hK hP 3 (by decide) rfl 1 rfl (by decide) (by decide) (show (up2 (up2 (up2 (up2 A 3 (34 + 4 * nu) ((-1) + 1)) 3 ((34 + 4 * nu) + 1) (zUf T n nr z)) 3 ((34 + 4 * nu) + 2) (zNv T n 0 (nI nr - 1) (zU2 T n nr z))) 3 ((34 + 4 * nu) + 3) (zNv T n 1 9 (zU5 T n nr true z))) 3 1 = nI nu from qv4.trans hd4) dX7_readRule_171 ?_
          refine lv_iconst (v := 1) hx hb dX7_readRule_172 (by decide) ?_
          refine lv_iadd hx hb dX7_readRule_173 ?_
          refine tp_i (y := nI (nu + 1)) (nI_add nu 1) ?_
          refine rw_iast (x := (J28, (up2 (up2 (up2 (up2 A 3 (34 + 4 * nu) ((-1) + 1)) 3 ((34 + 4 * nu) + 1) (zUf T n nr z)) 3 ((34 + 4 * nu) + 2) (zNv T n 0 (nI nr - 1) (zU2 T n nr z))) 3 ((34 + 4 * nu) + 3) (zNv T n 1 9 (zU5 T n nr true z))), K)) (v := (nI (nu + 1))) S hE hK hP hS 3 (by decide) rfl 1 rfl (by decide) (by decide) dX7_readRule_174 (fun H locs hP hS => ?_)
          have hP : Wp mN E mK (J28, (up2 (up2 (up2 (up2 (up2 A 3 (34 + 4 * nu) ((-1) + 1)) 3 ((34 + 4 * nu) + 1) (zUf T n nr z)) 3 ((34 + 4 * nu) + 2) (zNv T n 0 (nI nr - 1) (zU2 T n nr z))) 3 ((34 + 4 * nu) + 3) (zNv T n 1 9 (zU5 T n nr true z))) 3 1 (nI (nu + 1))), K) H := hP
          exact re_wv (x := (J28, (up2 (up2 (up2 (up2 (up2 A 3 (34 + 4 * nu) ((-1) + 1)) 3 ((34 + 4 * nu) + 1) (zUf T n nr z)) 3 ((34 + 4 * nu) + 2) (zNv T n 0 (nI nr - 1) (zU2 T n nr z))) 3 ((34 + 4 * nu) + 3) (zNv T n 1 9 (zU5 T n nr true z))) 3 1 (nI (nu + 1))), K)) hx hb hr hlk hP hS ⟨_, _, rB_rule hW28 hr28 hnu hz6 hD rfl (by unfold zUg; rw [e3]) rfl rfl (zNv_rl hd1 hz2) (zNv_rl hd1 hy2) (Or.inl ⟨rfl, zNv_r2 (m := 9) (by decide) ⟨1, by decide, rfl⟩ hz6⟩), rfl⟩ dX7_readRule_175
        · have hz6 : ¬ (zU6 T n nr true z).1 = 0 := fun g => absurd (decide_eq_true (hW28.2.1.trans g)) (by rw [bI_f h107]; decide)
          exact re_wv (x := (J28, A, K)) hx hb hr hlk hP hS ⟨_, A, rB_n (sRule_n (by omega) hz6) hW28 hr28 hz6, rfl⟩ dX7_readRule_110
    · refine lv_aload_n hx hb dX7_readRule_53 rfl (lv_at hl 2 rfl) ?_
      refine lv_bipush (v := (-3)) hx hb dX7_readRule_54 (by decide) ?_
      refine lv_aload_n hx hb dX7_readRule_56 rfl (lv_at hl 2 rfl) ?_
      refine rw_geti (x := (J8, A, K)) (v := J8 0 12) S hK hP 0 (by decide) rfl fk_X7_87 rfl rfl dX7_readRule_57 ?_
      refine cn_wv (ck_V (a := eP E 0) S lk_X7_79 (c_X7_report l E J8 A K (-3) (J8 0 12) hE) ⟨rfl, rfl⟩ ⟨Nat.le_of_ble_eq_true rfl, Nat.le_of_ble_eq_true rfl⟩ bl_w (rc_w hK hP 0 (by decide) rfl rfl) (bw_U hE hK hC hP hS) rfl hl.1 (Nat.le_of_ble_eq_true rfl) ⟨Nat.le_refl _, Nat.le_refl _⟩ dX7_readRule_60 rfl) hS (fun u37 H locs g38 hP hS => ?_)
      obtain rfl : u37 = ((if J8 0 5 = 0 then up2 (up2 J8 0 5 (-3)) 0 6 (J8 0 12) else J8), A, K) := g38
      have hP : Wp mN E mK ((if J8 0 5 = 0 then up2 (up2 J8 0 5 (-3)) 0 6 (J8 0 12) else J8), A, K) H := hP
      by_cases hy2 : (zNz T n 0 (nI nr - 1) (zU2 T n nr z)).1 = 0
      · have hz2 : (zU2 T n nr z).1 = 0 := zMo_NN hy2
        rw [if_pos (show J8 0 5 = 0 from hW8.2.1.trans hy2)] at hP
        have hP : Wp mN E mK ((up2 (up2 J8 0 5 (-3)) 0 6 (J8 0 12)), A, K) H := hP
        have e4 : zU4 T n nr z = zF (-3) (zU2 T n nr z) := zU3_s hy2 (((hv8 hy2).symm.trans h50.symm).trans (hv4 hz2))
        have hWu : mW (up2 (up2 J8 0 5 (-3)) 0 6 (J8 0 12)) A T n (zU4 T n nr z) := by rw [e4]; exact mW_er3 hW8 ((zNz_le2 hWz)) hz2 (by decide) rfl rfl (hn8 (zNz_in hy2).1)
        have hru : rP I (up2 (up2 J8 0 5 (-3)) 0 6 (J8 0 12)) := rP_u (rP_u hr8 (by decide)) (by decide)
        have hbu : ¬ (zU4 T n nr z).1 = 0 := by rw [e4]; exact fun g => absurd ((if_pos hz2).symm.trans g : (-3 : Int32) = 0) (by decide)
        refine lv_iload_n hx hb dX7_readRule_63 rfl (lv_at hl 4 rfl) ?_
        refine lv_if_eq (tgt := 71) hx hb dX7_readRule_64 (by decide) (fun h64 => ?_) (fun h64 => ?_)
        · obtain rfl : b = false := bI_f h64
          refine lv_aload_n hx hb dX7_readRule_71 rfl (lv_at hl 2 rfl) ?_
          refine lv_iconst (v := 0) hx hb dX7_readRule_72 (by decide) ?_
          refine lv_iconst (v := 4) hx hb dX7_readRule_73 (by decide) ?_
          refine cn_wi (ck_V (a := eP E 0) S lk_X7_113 (c_X7_number l E (up2 (up2 J8 0 5 (-3)) 0 6 (J8 0 12)) A K T n (zU4 T n nr z) 0 4 hE hWu) ⟨rfl, rfl⟩ ⟨Nat.le_of_ble_eq_true rfl, Nat.le_of_ble_eq_true rfl⟩ bl_w (rc_w hK hP 0 (by decide) rfl rfl) (bw_U hE hK hC hP hS) rfl hl.1 (Nat.le_of_ble_eq_true rfl) ⟨Nat.le_refl _, Nat.le_refl _⟩ dX7_readRule_74 rfl) hS (fun r39 u40 H locs g41 hP hS => ?_)
          obtain ⟨J42, hW42, hp42, hn42, hv42, rfl⟩ : ∃ oj, mW oj A T n (zNz T n 0 4 (zU4 T n nr z)) ∧ rP (up2 (up2 J8 0 5 (-3)) 0 6 (J8 0 12)) oj ∧ (zN T n (zU4 T n nr z) = true → oj 0 12 = nI (tkB T n (zU4 T n nr z).2)) ∧ ((zNz T n 0 4 (zU4 T n nr z)).1 = 0 → r39 = zNv T n 0 4 (zU4 T n nr z)) ∧ u40 = (oj, A, K) := g41
          have hP : Wp mN E mK (J42, A, K) H := hP
          have hr42 := rP_tr hru hp42
          rw [zNz_b hbu] at hW42
          refine lv_istore (lv' := [(5, .int r39), (4, .int r5), (3, .int r1), (0, .ref (eP E 0)), (1, .int (nI (tkB T n z.2))), (2, .int (bI false))]) hx hb dX7_readRule_77 hl (by decide) rfl (fun ls hl => ?_)
          refine lv_iload_n hx hb dX7_readRule_79 rfl (lv_at hl 5 rfl) ?_
          refine lv_if_eq (tgt := 93) hx hb dX7_readRule_80 (by decide) (fun h80 => ?_) (fun h80 => absurd (show bI false = 0 from rfl) h80)
          refine lv_aload_n hx hb dX7_readRule_93 rfl (lv_at hl 3 rfl) ?_
          refine lv_iconst (v := 1) hx hb dX7_readRule_94 (by decide) ?_
          refine lv_sipush (v := 2295) hx hb dX7_readRule_95 (by decide) ?_
          refine cn_wi (ck_V (a := eP E 0) S lk_X7_113 (c_X7_number l E J42 A K T n (zU4 T n nr z) 1 2295 hE hW42) ⟨rfl, rfl⟩ ⟨Nat.le_of_ble_eq_true rfl, Nat.le_of_ble_eq_true rfl⟩ bl_w (rc_w hK hP 0 (by decide) rfl rfl) (bw_U hE hK hC hP hS) rfl hl.1 (Nat.le_of_ble_eq_true rfl) ⟨Nat.le_refl _, Nat.le_refl _⟩ dX7_readRule_98 rfl) hS (fun r43 u44 H locs g45 hP hS => ?_)
          obtain ⟨J46, hW46, hp46, hn46, hv46, rfl⟩ : ∃ oj, mW oj A T n (zNz T n 1 2295 (zU4 T n nr z)) ∧ rP J42 oj ∧ (zN T n (zU4 T n nr z) = true → oj 0 12 = nI (tkB T n (zU4 T n nr z).2)) ∧ ((zNz T n 1 2295 (zU4 T n nr z)).1 = 0 → r43 = zNv T n 1 2295 (zU4 T n nr z)) ∧ u44 = (oj, A, K) := g45
          have hP : Wp mN E mK (J46, A, K) H := hP
          have hr46 := rP_tr hr42 hp46
          rw [zNz_b hbu] at hW46
          refine lv_istore (lv' := [(6, .int r43), (5, .int r39), (4, .int r5), (3, .int r1), (0, .ref (eP E 0)), (1, .int (nI (tkB T n z.2))), (2, .int (bI false))]) hx hb dX7_readRule_101 hl (by decide) rfl (fun ls hl => ?_)
          refine lv_aload_n hx hb dX7_readRule_103 rfl (lv_at hl 4 rfl) ?_
          refine cn_si (ck_V (a := eP E 0) S lk_X7_62 (c_X7_isGood l E J46 A K hE) ⟨rfl, rfl⟩ ⟨Nat.le_of_ble_eq_true rfl, Nat.le_of_ble_eq_true rfl⟩ bl_w (rc_w hK hP 0 (by decide) rfl rfl) (bw_U hE hK hC hP hS) rfl hl.1 (Nat.le_of_ble_eq_true rfl) ⟨Nat.le_refl _, Nat.le_refl _⟩ dX7_readRule_104 rfl) (fun r47 g48 => ?_)
          obtain rfl : r47 = bI (decide (J46 0 5 = 0)) := g48
          refine lv_if_ne (tgt := 111) hx hb dX7_readRule_107 (by decide) (fun h107 => absurd h107 (show ¬ ¬ bI (decide (J46 0 5 = 0)) = 0 from fun g => g (by rw [decide_eq_false (fun q => hbu (hW46.2.1.symm.trans q))]; rfl))) (fun h107 => ?_)
          exact re_wv (x := (J46, A, K)) hx hb hr hlk hP hS ⟨_, A, (by have e6 : zU6 T n nr false z = zU4 T n nr z := (zU6_b hbu); have hb6 : ¬ (zU6 T n nr false z).1 = 0 := (by rw [e6]; exact hbu); exact rB_n (sRule_n (by omega) hb6) (by rw [e6]; exact hW46) hr46 hb6), rfl⟩ dX7_readRule_110
        · obtain rfl : b = true := bI_t h64
          refine lv_iconst (v := (-1)) hx hb dX7_readRule_67 (by decide) ?_
          refine lv_goto (tgt := 77) hx hb dX7_readRule_68 (by decide) ?_
          refine lv_istore (lv' := [(5, .int (-1)), (4, .int r5), (3, .int r1), (0, .ref (eP E 0)), (1, .int (nI (tkB T n z.2))), (2, .int (bI true))]) hx hb dX7_readRule_77 hl (by decide) rfl (fun ls hl => ?_)
          refine lv_iload_n hx hb dX7_readRule_79 rfl (lv_at hl 5 rfl) ?_
          refine lv_if_eq (tgt := 93) hx hb dX7_readRule_80 (by decide) (fun h80 => absurd h80 (show ¬ bI true = 0 by decide)) (fun h80 => ?_)
          refine lv_aload_n hx hb dX7_readRule_83 rfl (lv_at hl 3 rfl) ?_
          refine lv_iconst (v := 1) hx hb dX7_readRule_84 (by decide) ?_
          refine lv_bipush (v := 9) hx hb dX7_readRule_85 (by decide) ?_
          refine cn_wi (ck_V (a := eP E 0) S lk_X7_113 (c_X7_number l E (up2 (up2 J8 0 5 (-3)) 0 6 (J8 0 12)) A K T n (zU4 T n nr z) 1 9 hE hWu) ⟨rfl, rfl⟩ ⟨Nat.le_of_ble_eq_true rfl, Nat.le_of_ble_eq_true rfl⟩ bl_w (rc_w hK hP 0 (by decide) rfl rfl) (bw_U hE hK hC hP hS) rfl hl.1 (Nat.le_of_ble_eq_true rfl) ⟨Nat.le_refl _, Nat.le_refl _⟩ dX7_readRule_87 rfl) hS (fun r49 u50 H locs g51 hP hS => ?_)
          obtain ⟨J52, hW52, hp52, hn52, hv52, rfl⟩ : ∃ oj, mW oj A T n (zNz T n 1 9 (zU4 T n nr z)) ∧ rP (up2 (up2 J8 0 5 (-3)) 0 6 (J8 0 12)) oj ∧ (zN T n (zU4 T n nr z) = true → oj 0 12 = nI (tkB T n (zU4 T n nr z).2)) ∧ ((zNz T n 1 9 (zU4 T n nr z)).1 = 0 → r49 = zNv T n 1 9 (zU4 T n nr z)) ∧ u50 = (oj, A, K) := g51
          have hP : Wp mN E mK (J52, A, K) H := hP
          have hr52 := rP_tr hru hp52
          rw [zNz_b hbu] at hW52
          refine lv_goto (tgt := 101) hx hb dX7_readRule_90 (by decide) ?_
          refine lv_istore (lv' := [(6, .int r49), (5, .int (-1)), (4, .int r5), (3, .int r1), (0, .ref (eP E 0)), (1, .int (nI (tkB T n z.2))), (2, .int (bI true))]) hx hb dX7_readRule_101 hl (by decide) rfl (fun ls hl => ?_)
          refine lv_aload_n hx hb dX7_readRule_103 rfl (lv_at hl 4 rfl) ?_
          refine cn_si (ck_V (a := eP E 0) S lk_X7_62 (c_X7_isGood l E J52 A K hE) ⟨rfl, rfl⟩ ⟨Nat.le_of_ble_eq_true rfl, Nat.le_of_ble_eq_true rfl⟩ bl_w (rc_w hK hP 0 (by decide) rfl rfl) (bw_U hE hK hC hP hS) rfl hl.1 (Nat.le_of_ble_eq_true rfl) ⟨Nat.le_refl _, Nat.le_refl _⟩ dX7_readRule_104 rfl) (fun r53 g54 => ?_)
          obtain rfl : r53 = bI (decide (J52 0 5 = 0)) := g54
          refine lv_if_ne (tgt := 111) hx hb dX7_readRule_107 (by decide) (fun h107 => absurd h107 (show ¬ ¬ bI (decide (J52 0 5 = 0)) = 0 from fun g => g (by rw [decide_eq_false (fun q => hbu (hW52.2.1.symm.trans q))]; rfl))) (fun h107 => ?_)
          exact re_wv (x := (J52, A, K)) hx hb hr hlk hP hS ⟨_, A, (by have e6 : zU6 T n nr true z = zU4 T n nr z := (zNz_b hbu); have hb6 : ¬ (zU6 T n nr true z).1 = 0 := (by rw [e6]; exact hbu); exact rB_n (sRule_n (by omega) hb6) (by rw [e6]; exact hW52) hr52 hb6), rfl⟩ dX7_readRule_110
      · rw [if_neg (show ¬ J8 0 5 = 0 from fun q => hy2 (hW8.2.1.symm.trans q))] at hP
        have hP : Wp mN E mK (J8, A, K) H := hP
        have e4 : zU4 T n nr z = zNz T n 0 (nI nr - 1) (zU2 T n nr z) := zU4_d (fun q => hy2 q.1)
        have hWu : mW J8 A T n (zU4 T n nr z) := by rw [e4]; exact hW8
        have hbu : ¬ (zU4 T n nr z).1 = 0 := by rw [e4]; exact hy2
        refine lv_iload_n hx hb dX7_readRule_63 rfl (lv_at hl 4 rfl) ?_
        refine lv_if_eq (tgt := 71) hx hb dX7_readRule_64 (by decide) (fun h64 => ?_) (fun h64 => ?_)
        · obtain rfl : b = false := bI_f h64
          refine lv_aload_n hx hb dX7_readRule_71 rfl (lv_at hl 2 rfl) ?_
          refine lv_iconst (v := 0) hx hb dX7_readRule_72 (by decide) ?_
          refine lv_iconst (v := 4) hx hb dX7_readRule_73 (by decide) ?_
          refine cn_wi (ck_V (a := eP E 0) S lk_X7_113 (c_X7_number l E J8 A K T n (zU4 T n nr z) 0 4 hE hWu) ⟨rfl, rfl⟩ ⟨Nat.le_of_ble_eq_true rfl, Nat.le_of_ble_eq_true rfl⟩ bl_w (rc_w hK hP 0 (by decide) rfl rfl) (bw_U hE hK hC hP hS) rfl hl.1 (Nat.le_of_ble_eq_true rfl) ⟨Nat.le_refl _, Nat.le_refl _⟩ dX7_readRule_74 rfl) hS (fun r55 u56 H locs g57 hP hS => ?_)
          obtain ⟨J58, hW58, hp58, hn58, hv58, rfl⟩ : ∃ oj, mW oj A T n (zNz T n 0 4 (zU4 T n nr z)) ∧ rP J8 oj ∧ (zN T n (zU4 T n nr z) = true → oj 0 12 = nI (tkB T n (zU4 T n nr z).2)) ∧ ((zNz T n 0 4 (zU4 T n nr z)).1 = 0 → r55 = zNv T n 0 4 (zU4 T n nr z)) ∧ u56 = (oj, A, K) := g57
          have hP : Wp mN E mK (J58, A, K) H := hP
          have hr58 := rP_tr hr8 hp58
          rw [zNz_b hbu] at hW58
          refine lv_istore (lv' := [(5, .int r55), (4, .int r5), (3, .int r1), (0, .ref (eP E 0)), (1, .int (nI (tkB T n z.2))), (2, .int (bI false))]) hx hb dX7_readRule_77 hl (by decide) rfl (fun ls hl => ?_)
          refine lv_iload_n hx hb dX7_readRule_79 rfl (lv_at hl 5 rfl) ?_
          refine lv_if_eq (tgt := 93) hx hb dX7_readRule_80 (by decide) (fun h80 => ?_) (fun h80 => absurd (show bI false = 0 from rfl) h80)
          refine lv_aload_n hx hb dX7_readRule_93 rfl (lv_at hl 3 rfl) ?_
          refine lv_iconst (v := 1) hx hb dX7_readRule_94 (by decide) ?_
          refine lv_sipush (v := 2295) hx hb dX7_readRule_95 (by decide) ?_
          refine cn_wi (ck_V (a := eP E 0) S lk_X7_113 (c_X7_number l E J58 A K T n (zU4 T n nr z) 1 2295 hE hW58) ⟨rfl, rfl⟩ ⟨Nat.le_of_ble_eq_true rfl, Nat.le_of_ble_eq_true rfl⟩ bl_w (rc_w hK hP 0 (by decide) rfl rfl) (bw_U hE hK hC hP hS) rfl hl.1 (Nat.le_of_ble_eq_true rfl) ⟨Nat.le_refl _, Nat.le_refl _⟩ dX7_readRule_98 rfl) hS (fun r59 u60 H locs g61 hP hS => ?_)
          obtain ⟨J62, hW62, hp62, hn62, hv62, rfl⟩ : ∃ oj, mW oj A T n (zNz T n 1 2295 (zU4 T n nr z)) ∧ rP J58 oj ∧ (zN T n (zU4 T n nr z) = true → oj 0 12 = nI (tkB T n (zU4 T n nr z).2)) ∧ ((zNz T n 1 2295 (zU4 T n nr z)).1 = 0 → r59 = zNv T n 1 2295 (zU4 T n nr z)) ∧ u60 = (oj, A, K) := g61
          have hP : Wp mN E mK (J62, A, K) H := hP
          have hr62 := rP_tr hr58 hp62
          rw [zNz_b hbu] at hW62
          refine lv_istore (lv' := [(6, .int r59), (5, .int r55), (4, .int r5), (3, .int r1), (0, .ref (eP E 0)), (1, .int (nI (tkB T n z.2))), (2, .int (bI false))]) hx hb dX7_readRule_101 hl (by decide) rfl (fun ls hl => ?_)
          refine lv_aload_n hx hb dX7_readRule_103 rfl (lv_at hl 4 rfl) ?_
          refine cn_si (ck_V (a := eP E 0) S lk_X7_62 (c_X7_isGood l E J62 A K hE) ⟨rfl, rfl⟩ ⟨Nat.le_of_ble_eq_true rfl, Nat.le_of_ble_eq_true rfl⟩ bl_w (rc_w hK hP 0 (by decide) rfl rfl) (bw_U hE hK hC hP hS) rfl hl.1 (Nat.le_of_ble_eq_true rfl) ⟨Nat.le_refl _, Nat.le_refl _⟩ dX7_readRule_104 rfl) (fun r63 g64 => ?_)
          obtain rfl : r63 = bI (decide (J62 0 5 = 0)) := g64
          refine lv_if_ne (tgt := 111) hx hb dX7_readRule_107 (by decide) (fun h107 => absurd h107 (show ¬ ¬ bI (decide (J62 0 5 = 0)) = 0 from fun g => g (by rw [decide_eq_false (fun q => hbu (hW62.2.1.symm.trans q))]; rfl))) (fun h107 => ?_)
          exact re_wv (x := (J62, A, K)) hx hb hr hlk hP hS ⟨_, A, (by have e6 : zU6 T n nr false z = zU4 T n nr z := (zU6_b hbu); have hb6 : ¬ (zU6 T n nr false z).1 = 0 := (by rw [e6]; exact hbu); exact rB_n (sRule_n (by omega) hb6) (by rw [e6]; exact hW62) hr62 hb6), rfl⟩ dX7_readRule_110
        · obtain rfl : b = true := bI_t h64
          refine lv_iconst (v := (-1)) hx hb dX7_readRule_67 (by decide) ?_
          refine lv_goto (tgt := 77) hx hb dX7_readRule_68 (by decide) ?_
          refine lv_istore (lv' := [(5, .int (-1)), (4, .int r5), (3, .int r1), (0, .ref (eP E 0)), (1, .int (nI (tkB T n z.2))), (2, .int (bI true))]) hx hb dX7_readRule_77 hl (by decide) rfl (fun ls hl => ?_)
          refine lv_iload_n hx hb dX7_readRule_79 rfl (lv_at hl 5 rfl) ?_
          refine lv_if_eq (tgt := 93) hx hb dX7_readRule_80 (by decide) (fun h80 => absurd h80 (show ¬ bI true = 0 by decide)) (fun h80 => ?_)
          refine lv_aload_n hx hb dX7_readRule_83 rfl (lv_at hl 3 rfl) ?_
          refine lv_iconst (v := 1) hx hb dX7_readRule_84 (by decide) ?_
          refine lv_bipush (v := 9) hx hb dX7_readRule_85 (by decide) ?_
          refine cn_wi (ck_V (a := eP E 0) S lk_X7_113 (c_X7_number l E J8 A K T n (zU4 T n nr z) 1 9 hE hWu) ⟨rfl, rfl⟩ ⟨Nat.le_of_ble_eq_true rfl, Nat.le_of_ble_eq_true rfl⟩ bl_w (rc_w hK hP 0 (by decide) rfl rfl) (bw_U hE hK hC hP hS) rfl hl.1 (Nat.le_of_ble_eq_true rfl) ⟨Nat.le_refl _, Nat.le_refl _⟩ dX7_readRule_87 rfl) hS (fun r65 u66 H locs g67 hP hS => ?_)
          obtain ⟨J68, hW68, hp68, hn68, hv68, rfl⟩ : ∃ oj, mW oj A T n (zNz T n 1 9 (zU4 T n nr z)) ∧ rP J8 oj ∧ (zN T n (zU4 T n nr z) = true → oj 0 12 = nI (tkB T n (zU4 T n nr z).2)) ∧ ((zNz T n 1 9 (zU4 T n nr z)).1 = 0 → r65 = zNv T n 1 9 (zU4 T n nr z)) ∧ u66 = (oj, A, K) := g67
          have hP : Wp mN E mK (J68, A, K) H := hP
          have hr68 := rP_tr hr8 hp68
          rw [zNz_b hbu] at hW68
          refine lv_goto (tgt := 101) hx hb dX7_readRule_90 (by decide) ?_
          refine lv_istore (lv' := [(6, .int r65), (5, .int (-1)), (4, .int r5), (3, .int r1), (0, .ref (eP E 0)), (1, .int (nI (tkB T n z.2))), (2, .int (bI true))]) hx hb dX7_readRule_101 hl (by decide) rfl (fun ls hl => ?_)
          refine lv_aload_n hx hb dX7_readRule_103 rfl (lv_at hl 4 rfl) ?_
          refine cn_si (ck_V (a := eP E 0) S lk_X7_62 (c_X7_isGood l E J68 A K hE) ⟨rfl, rfl⟩ ⟨Nat.le_of_ble_eq_true rfl, Nat.le_of_ble_eq_true rfl⟩ bl_w (rc_w hK hP 0 (by decide) rfl rfl) (bw_U hE hK hC hP hS) rfl hl.1 (Nat.le_of_ble_eq_true rfl) ⟨Nat.le_refl _, Nat.le_refl _⟩ dX7_readRule_104 rfl) (fun r69 g70 => ?_)
          obtain rfl : r69 = bI (decide (J68 0 5 = 0)) := g70
          refine lv_if_ne (tgt := 111) hx hb dX7_readRule_107 (by decide) (fun h107 => absurd h107 (show ¬ ¬ bI (decide (J68 0 5 = 0)) = 0 from fun g => g (by rw [decide_eq_false (fun q => hbu (hW68.2.1.symm.trans q))]; rfl))) (fun h107 => ?_)
          exact re_wv (x := (J68, A, K)) hx hb hr hlk hP hS ⟨_, A, (by have e6 : zU6 T n nr true z = zU4 T n nr z := (zNz_b hbu); have hb6 : ¬ (zU6 T n nr true z).1 = 0 := (by rw [e6]; exact hbu); exact rB_n (sRule_n (by omega) hb6) (by rw [e6]; exact hW68) hr68 hb6), rfl⟩ dX7_readRule_110
  · have hnu : 12 ≤ nu := (Nat.lt_or_ge nu 12).elim (fun g => absurd ((nI_eq (by omega) (by decide)).mp (show nI nu = nI 12 from h8)) (by omega)) id
    refine lv_aload_n hx hb dX7_readRule_11 rfl (lv_at hl 0 rfl) ?_
    refine lv_bipush (v := (-4)) hx hb dX7_readRule_12 (by decide) ?_
    refine lv_iload_n hx hb dX7_readRule_14 rfl (lv_at hl 1 rfl) ?_
    have h0z : (zA T n z).1 = 0 := h0
    refine cn_wv (ck_V (a := eP E 0) S lk_X7_79 (c_X7_report l E I A K (-4) (nI (tkB T n z.2)) hE) ⟨rfl, rfl⟩ ⟨Nat.le_of_ble_eq_true rfl, Nat.le_of_ble_eq_true rfl⟩ bl_w (rc_w hK hP 0 (by decide) rfl rfl) (bw_U hE hK hC hP hS) rfl hl.1 (Nat.le_of_ble_eq_true rfl) ⟨Nat.le_refl _, Nat.le_refl _⟩ dX7_readRule_15 rfl) hS (fun u72 H locs g73 hP hS => ?_)
    obtain rfl : u72 = ((if I 0 5 = 0 then up2 (up2 I 0 5 (-4)) 0 6 (nI (tkB T n z.2)) else I), A, K) := g73
    have hP : Wp mN E mK ((if I 0 5 = 0 then up2 (up2 I 0 5 (-4)) 0 6 (nI (tkB T n z.2)) else I), A, K) H := hP
    rw [if_pos (show I 0 5 = 0 from h5c.trans h0)] at hP
    have hP : Wp mN E mK ((up2 (up2 I 0 5 (-4)) 0 6 (nI (tkB T n z.2))), A, K) H := hP
    have hbz : ¬ (zF (-4) z).1 = 0 := fun g => absurd ((if_pos h0).symm.trans g : (-4 : Int32) = 0) (by decide)
    have hWb : mW (up2 (up2 I 0 5 (-4)) 0 6 (nI (tkB T n z.2))) A T n (zF (-4) z) := mW_er3 hW (Nat.le_trans zGe_A hzn) h0 (by decide) rfl rfl up2_eq
    have hrb : rP I (up2 (up2 I 0 5 (-4)) 0 6 (nI (tkB T n z.2))) := rP_u (rP_u rP_rf (by decide)) (by decide)
    refine lv_aload_n hx hb dX7_readRule_18 rfl (lv_at hl 0 rfl) ?_
    refine lv_iconst (v := 0) hx hb dX7_readRule_19 (by decide) ?_
    refine lv_aload_n hx hb dX7_readRule_20 rfl (lv_at hl 0 rfl) ?_
    refine rw_getr (x := ((up2 (up2 I 0 5 (-4)) 0 6 (nI (tkB T n z.2))), A, K)) S hK hP 0 (by decide) rfl fk_X7_20 rfl dX7_readRule_21 ?_
    refine lv_iconst (v := 0) hx hb dX7_readRule_24 (by decide) ?_
    refine rw_iald (x := ((up2 (up2 I 0 5 (-4)) 0 6 (nI (tkB T n z.2))), A, K)) (v := nI nr) S hK hP 3 (by decide) rfl 0 rfl (by decide) (by decide) hd3 dX7_readRule_25 ?_
    refine lv_iconst (v := 1) hx hb dX7_readRule_26 (by decide) ?_
    refine lv_isub hx hb dX7_readRule_27 ?_
    refine cn_wi (ck_V (a := eP E 0) S lk_X7_113 (c_X7_number l E (up2 (up2 I 0 5 (-4)) 0 6 (nI (tkB T n z.2))) A K T n (zF (-4) z) 0 ((nI nr) - 1) hE hWb) ⟨rfl, rfl⟩ ⟨Nat.le_of_ble_eq_true rfl, Nat.le_of_ble_eq_true rfl⟩ bl_w (rc_w hK hP 0 (by decide) rfl rfl) (bw_U hE hK hC hP hS) rfl hl.1 (Nat.le_of_ble_eq_true rfl) ⟨Nat.le_refl _, Nat.le_refl _⟩ dX7_readRule_28 rfl) hS (fun r74 u75 H locs g76 hP hS => ?_)
    obtain ⟨J77, hW77, hp77, hn77, hv77, rfl⟩ : ∃ oj, mW oj A T n (zNz T n 0 ((nI nr) - 1) (zF (-4) z)) ∧ rP (up2 (up2 I 0 5 (-4)) 0 6 (nI (tkB T n z.2))) oj ∧ (zN T n (zF (-4) z) = true → oj 0 12 = nI (tkB T n (zF (-4) z).2)) ∧ ((zNz T n 0 ((nI nr) - 1) (zF (-4) z)).1 = 0 → r74 = zNv T n 0 ((nI nr) - 1) (zF (-4) z)) ∧ u75 = (oj, A, K) := g76
    have hP : Wp mN E mK (J77, A, K) H := hP
    have hr77 := rP_tr hrb hp77
    rw [zNz_b hbz] at hW77
    refine lv_istore_n (lv' := [(3, .int r74), (0, .ref (eP E 0)), (1, .int (nI (tkB T n z.2))), (2, .int (bI b))]) hx hb dX7_readRule_31 rfl hl (by decide) rfl (fun ls hl => ?_)
    refine lv_aload_n hx hb dX7_readRule_32 rfl (lv_at hl 1 rfl) ?_
    refine lv_iconst (v := 0) hx hb dX7_readRule_33 (by decide) ?_
    refine lv_aload_n hx hb dX7_readRule_34 rfl (lv_at hl 1 rfl) ?_
    refine rw_getr (x := (J77, A, K)) S hK hP 0 (by decide) rfl fk_X7_20 rfl dX7_readRule_35 ?_
    refine lv_iconst (v := 0) hx hb dX7_readRule_38 (by decide) ?_
    refine rw_iald (x := (J77, A, K)) (v := nI nr) S hK hP 3 (by decide) rfl 0 rfl (by decide) (by decide) hd3 dX7_readRule_39 ?_
    refine lv_iconst (v := 1) hx hb dX7_readRule_40 (by decide) ?_
    refine lv_isub hx hb dX7_readRule_41 ?_
    refine cn_wi (ck_V (a := eP E 0) S lk_X7_113 (c_X7_number l E J77 A K T n (zF (-4) z) 0 ((nI nr) - 1) hE hW77) ⟨rfl, rfl⟩ ⟨Nat.le_of_ble_eq_true rfl, Nat.le_of_ble_eq_true rfl⟩ bl_w (rc_w hK hP 0 (by decide) rfl rfl) (bw_U hE hK hC hP hS) rfl hl.1 (Nat.le_of_ble_eq_true rfl) ⟨Nat.le_refl _, Nat.le_refl _⟩ dX7_readRule_42 rfl) hS (fun r78 u79 H locs g80 hP hS => ?_)
    obtain ⟨J81, hW81, hp81, hn81, hv81, rfl⟩ : ∃ oj, mW oj A T n (zNz T n 0 ((nI nr) - 1) (zF (-4) z)) ∧ rP J77 oj ∧ (zN T n (zF (-4) z) = true → oj 0 12 = nI (tkB T n (zF (-4) z).2)) ∧ ((zNz T n 0 ((nI nr) - 1) (zF (-4) z)).1 = 0 → r78 = zNv T n 0 ((nI nr) - 1) (zF (-4) z)) ∧ u79 = (oj, A, K) := g80
    have hP : Wp mN E mK (J81, A, K) H := hP
    have hr81 := rP_tr hr77 hp81
    rw [zNz_b hbz] at hW81
    refine lv_istore (lv' := [(4, .int r78), (3, .int r74), (0, .ref (eP E 0)), (1, .int (nI (tkB T n z.2))), (2, .int (bI b))]) hx hb dX7_readRule_45 hl (by decide) rfl (fun ls hl => ?_)
    refine lv_iload_n hx hb dX7_readRule_47 rfl (lv_at hl 1 rfl) ?_
    refine lv_iload hx hb dX7_readRule_48 (lv_at hl 0 rfl) ?_
    refine lv_icmp_ne (tgt := 63) hx hb dX7_readRule_50 (by decide) (fun h50 => ?_) (fun h50 => ?_)
    · refine lv_iload_n hx hb dX7_readRule_63 rfl (lv_at hl 4 rfl) ?_
      refine lv_if_eq (tgt := 71) hx hb dX7_readRule_64 (by decide) (fun h64 => ?_) (fun h64 => ?_)
      · obtain rfl : b = false := bI_f h64
        refine lv_aload_n hx hb dX7_readRule_71 rfl (lv_at hl 2 rfl) ?_
        refine lv_iconst (v := 0) hx hb dX7_readRule_72 (by decide) ?_
        refine lv_iconst (v := 4) hx hb dX7_readRule_73 (by decide) ?_
        refine cn_wi (ck_V (a := eP E 0) S lk_X7_113 (c_X7_number l E J81 A K T n (zF (-4) z) 0 4 hE hW81) ⟨rfl, rfl⟩ ⟨Nat.le_of_ble_eq_true rfl, Nat.le_of_ble_eq_true rfl⟩ bl_w (rc_w hK hP 0 (by decide) rfl rfl) (bw_U hE hK hC hP hS) rfl hl.1 (Nat.le_of_ble_eq_true rfl) ⟨Nat.le_refl _, Nat.le_refl _⟩ dX7_readRule_74 rfl) hS (fun r82 u83 H locs g84 hP hS => ?_)
        obtain ⟨J85, hW85, hp85, hn85, hv85, rfl⟩ : ∃ oj, mW oj A T n (zNz T n 0 4 (zF (-4) z)) ∧ rP J81 oj ∧ (zN T n (zF (-4) z) = true → oj 0 12 = nI (tkB T n (zF (-4) z).2)) ∧ ((zNz T n 0 4 (zF (-4) z)).1 = 0 → r82 = zNv T n 0 4 (zF (-4) z)) ∧ u83 = (oj, A, K) := g84
        have hP : Wp mN E mK (J85, A, K) H := hP
        have hr85 := rP_tr hr81 hp85
        rw [zNz_b hbz] at hW85
        refine lv_istore (lv' := [(5, .int r82), (4, .int r78), (3, .int r74), (0, .ref (eP E 0)), (1, .int (nI (tkB T n z.2))), (2, .int (bI false))]) hx hb dX7_readRule_77 hl (by decide) rfl (fun ls hl => ?_)
        refine lv_iload_n hx hb dX7_readRule_79 rfl (lv_at hl 5 rfl) ?_
        refine lv_if_eq (tgt := 93) hx hb dX7_readRule_80 (by decide) (fun h80 => ?_) (fun h80 => absurd (show bI false = 0 from rfl) h80)
        refine lv_aload_n hx hb dX7_readRule_93 rfl (lv_at hl 3 rfl) ?_
        refine lv_iconst (v := 1) hx hb dX7_readRule_94 (by decide) ?_
        refine lv_sipush (v := 2295) hx hb dX7_readRule_95 (by decide) ?_
        refine cn_wi (ck_V (a := eP E 0) S lk_X7_113 (c_X7_number l E J85 A K T n (zF (-4) z) 1 2295 hE hW85) ⟨rfl, rfl⟩ ⟨Nat.le_of_ble_eq_true rfl, Nat.le_of_ble_eq_true rfl⟩ bl_w (rc_w hK hP 0 (by decide) rfl rfl) (bw_U hE hK hC hP hS) rfl hl.1 (Nat.le_of_ble_eq_true rfl) ⟨Nat.le_refl _, Nat.le_refl _⟩ dX7_readRule_98 rfl) hS (fun r86 u87 H locs g88 hP hS => ?_)
        obtain ⟨J89, hW89, hp89, hn89, hv89, rfl⟩ : ∃ oj, mW oj A T n (zNz T n 1 2295 (zF (-4) z)) ∧ rP J85 oj ∧ (zN T n (zF (-4) z) = true → oj 0 12 = nI (tkB T n (zF (-4) z).2)) ∧ ((zNz T n 1 2295 (zF (-4) z)).1 = 0 → r86 = zNv T n 1 2295 (zF (-4) z)) ∧ u87 = (oj, A, K) := g88
        have hP : Wp mN E mK (J89, A, K) H := hP
        have hr89 := rP_tr hr85 hp89
        rw [zNz_b hbz] at hW89
        refine lv_istore (lv' := [(6, .int r86), (5, .int r82), (4, .int r78), (3, .int r74), (0, .ref (eP E 0)), (1, .int (nI (tkB T n z.2))), (2, .int (bI false))]) hx hb dX7_readRule_101 hl (by decide) rfl (fun ls hl => ?_)
        refine lv_aload_n hx hb dX7_readRule_103 rfl (lv_at hl 4 rfl) ?_
        refine cn_si (ck_V (a := eP E 0) S lk_X7_62 (c_X7_isGood l E J89 A K hE) ⟨rfl, rfl⟩ ⟨Nat.le_of_ble_eq_true rfl, Nat.le_of_ble_eq_true rfl⟩ bl_w (rc_w hK hP 0 (by decide) rfl rfl) (bw_U hE hK hC hP hS) rfl hl.1 (Nat.le_of_ble_eq_true rfl) ⟨Nat.le_refl _, Nat.le_refl _⟩ dX7_readRule_104 rfl) (fun r90 g91 => ?_)
        obtain rfl : r90 = bI (decide (J89 0 5 = 0)) := g91
        refine lv_if_ne (tgt := 111) hx hb dX7_readRule_107 (by decide) (fun h107 => absurd h107 (show ¬ ¬ bI (decide (J89 0 5 = 0)) = 0 from fun g => g (by rw [decide_eq_false (fun q => hbz (hW89.2.1.symm.trans q))]; rfl))) (fun h107 => ?_)
        exact re_wv (x := (J89, A, K)) hx hb hr hlk hP hS ⟨_, A, rB_n (sRule_f hnu) hW89 hr89 hbz, rfl⟩ dX7_readRule_110
      · obtain rfl : b = true := bI_t h64
        refine lv_iconst (v := (-1)) hx hb dX7_readRule_67 (by decide) ?_
        refine lv_goto (tgt := 77) hx hb dX7_readRule_68 (by decide) ?_
        refine lv_istore (lv' := [(5, .int (-1)), (4, .int r78), (3, .int r74), (0, .ref (eP E 0)), (1, .int (nI (tkB T n z.2))), (2, .int (bI true))]) hx hb dX7_readRule_77 hl (by decide) rfl (fun ls hl => ?_)
        refine lv_iload_n hx hb dX7_readRule_79 rfl (lv_at hl 5 rfl) ?_
        refine lv_if_eq (tgt := 93) hx hb dX7_readRule_80 (by decide) (fun h80 => absurd h80 (show ¬ bI true = 0 by decide)) (fun h80 => ?_)
        refine lv_aload_n hx hb dX7_readRule_83 rfl (lv_at hl 3 rfl) ?_
        refine lv_iconst (v := 1) hx hb dX7_readRule_84 (by decide) ?_
        refine lv_bipush (v := 9) hx hb dX7_readRule_85 (by decide) ?_
        refine cn_wi (ck_V (a := eP E 0) S lk_X7_113 (c_X7_number l E J81 A K T n (zF (-4) z) 1 9 hE hW81) ⟨rfl, rfl⟩ ⟨Nat.le_of_ble_eq_true rfl, Nat.le_of_ble_eq_true rfl⟩ bl_w (rc_w hK hP 0 (by decide) rfl rfl) (bw_U hE hK hC hP hS) rfl hl.1 (Nat.le_of_ble_eq_true rfl) ⟨Nat.le_refl _, Nat.le_refl _⟩ dX7_readRule_87 rfl) hS (fun r92 u93 H locs g94 hP hS => ?_)
        obtain ⟨J95, hW95, hp95, hn95, hv95, rfl⟩ : ∃ oj, mW oj A T n (zNz T n 1 9 (zF (-4) z)) ∧ rP J81 oj ∧ (zN T n (zF (-4) z) = true → oj 0 12 = nI (tkB T n (zF (-4) z).2)) ∧ ((zNz T n 1 9 (zF (-4) z)).1 = 0 → r92 = zNv T n 1 9 (zF (-4) z)) ∧ u93 = (oj, A, K) := g94
        have hP : Wp mN E mK (J95, A, K) H := hP
        have hr95 := rP_tr hr81 hp95
        rw [zNz_b hbz] at hW95
        refine lv_goto (tgt := 101) hx hb dX7_readRule_90 (by decide) ?_
        refine lv_istore (lv' := [(6, .int r92), (5, .int (-1)), (4, .int r78), (3, .int r74), (0, .ref (eP E 0)), (1, .int (nI (tkB T n z.2))), (2, .int (bI true))]) hx hb dX7_readRule_101 hl (by decide) rfl (fun ls hl => ?_)
        refine lv_aload_n hx hb dX7_readRule_103 rfl (lv_at hl 4 rfl) ?_
        refine cn_si (ck_V (a := eP E 0) S lk_X7_62 (c_X7_isGood l E J95 A K hE) ⟨rfl, rfl⟩ ⟨Nat.le_of_ble_eq_true rfl, Nat.le_of_ble_eq_true rfl⟩ bl_w (rc_w hK hP 0 (by decide) rfl rfl) (bw_U hE hK hC hP hS) rfl hl.1 (Nat.le_of_ble_eq_true rfl) ⟨Nat.le_refl _, Nat.le_refl _⟩ dX7_readRule_104 rfl) (fun r96 g97 => ?_)
        obtain rfl : r96 = bI (decide (J95 0 5 = 0)) := g97
        refine lv_if_ne (tgt := 111) hx hb dX7_readRule_107 (by decide) (fun h107 => absurd h107 (show ¬ ¬ bI (decide (J95 0 5 = 0)) = 0 from fun g => g (by rw [decide_eq_false (fun q => hbz (hW95.2.1.symm.trans q))]; rfl))) (fun h107 => ?_)
        exact re_wv (x := (J95, A, K)) hx hb hr hlk hP hS ⟨_, A, rB_n (sRule_f hnu) hW95 hr95 hbz, rfl⟩ dX7_readRule_110
    · refine lv_aload_n hx hb dX7_readRule_53 rfl (lv_at hl 2 rfl) ?_
      refine lv_bipush (v := (-3)) hx hb dX7_readRule_54 (by decide) ?_
      refine lv_aload_n hx hb dX7_readRule_56 rfl (lv_at hl 2 rfl) ?_
      refine rw_geti (x := (J81, A, K)) (v := J81 0 12) S hK hP 0 (by decide) rfl fk_X7_87 rfl rfl dX7_readRule_57 ?_
      refine cn_wv (ck_V (a := eP E 0) S lk_X7_79 (c_X7_report l E J81 A K (-3) (J81 0 12) hE) ⟨rfl, rfl⟩ ⟨Nat.le_of_ble_eq_true rfl, Nat.le_of_ble_eq_true rfl⟩ bl_w (rc_w hK hP 0 (by decide) rfl rfl) (bw_U hE hK hC hP hS) rfl hl.1 (Nat.le_of_ble_eq_true rfl) ⟨Nat.le_refl _, Nat.le_refl _⟩ dX7_readRule_60 rfl) hS (fun u99 H locs g100 hP hS => ?_)
      obtain rfl : u99 = ((if J81 0 5 = 0 then up2 (up2 J81 0 5 (-3)) 0 6 (J81 0 12) else J81), A, K) := g100
      have hP : Wp mN E mK ((if J81 0 5 = 0 then up2 (up2 J81 0 5 (-3)) 0 6 (J81 0 12) else J81), A, K) H := hP
      rw [if_neg (show ¬ J81 0 5 = 0 from fun q => hbz (hW81.2.1.symm.trans q))] at hP
      have hP : Wp mN E mK (J81, A, K) H := hP
      refine lv_iload_n hx hb dX7_readRule_63 rfl (lv_at hl 4 rfl) ?_
      refine lv_if_eq (tgt := 71) hx hb dX7_readRule_64 (by decide) (fun h64 => ?_) (fun h64 => ?_)
      · obtain rfl : b = false := bI_f h64
        refine lv_aload_n hx hb dX7_readRule_71 rfl (lv_at hl 2 rfl) ?_
        refine lv_iconst (v := 0) hx hb dX7_readRule_72 (by decide) ?_
        refine lv_iconst (v := 4) hx hb dX7_readRule_73 (by decide) ?_
        refine cn_wi (ck_V (a := eP E 0) S lk_X7_113 (c_X7_number l E J81 A K T n (zF (-4) z) 0 4 hE hW81) ⟨rfl, rfl⟩ ⟨Nat.le_of_ble_eq_true rfl, Nat.le_of_ble_eq_true rfl⟩ bl_w (rc_w hK hP 0 (by decide) rfl rfl) (bw_U hE hK hC hP hS) rfl hl.1 (Nat.le_of_ble_eq_true rfl) ⟨Nat.le_refl _, Nat.le_refl _⟩ dX7_readRule_74 rfl) hS (fun r101 u102 H locs g103 hP hS => ?_)
        obtain ⟨J104, hW104, hp104, hn104, hv104, rfl⟩ : ∃ oj, mW oj A T n (zNz T n 0 4 (zF (-4) z)) ∧ rP J81 oj ∧ (zN T n (zF (-4) z) = true → oj 0 12 = nI (tkB T n (zF (-4) z).2)) ∧ ((zNz T n 0 4 (zF (-4) z)).1 = 0 → r101 = zNv T n 0 4 (zF (-4) z)) ∧ u102 = (oj, A, K) := g103
        have hP : Wp mN E mK (J104, A, K) H := hP
        have hr104 := rP_tr hr81 hp104
        rw [zNz_b hbz] at hW104
        refine lv_istore (lv' := [(5, .int r101), (4, .int r78), (3, .int r74), (0, .ref (eP E 0)), (1, .int (nI (tkB T n z.2))), (2, .int (bI false))]) hx hb dX7_readRule_77 hl (by decide) rfl (fun ls hl => ?_)
        refine lv_iload_n hx hb dX7_readRule_79 rfl (lv_at hl 5 rfl) ?_
        refine lv_if_eq (tgt := 93) hx hb dX7_readRule_80 (by decide) (fun h80 => ?_) (fun h80 => absurd (show bI false = 0 from rfl) h80)
        refine lv_aload_n hx hb dX7_readRule_93 rfl (lv_at hl 3 rfl) ?_
        refine lv_iconst (v := 1) hx hb dX7_readRule_94 (by decide) ?_
        refine lv_sipush (v := 2295) hx hb dX7_readRule_95 (by decide) ?_
        refine cn_wi (ck_V (a := eP E 0) S lk_X7_113 (c_X7_number l E J104 A K T n (zF (-4) z) 1 2295 hE hW104) ⟨rfl, rfl⟩ ⟨Nat.le_of_ble_eq_true rfl, Nat.le_of_ble_eq_true rfl⟩ bl_w (rc_w hK hP 0 (by decide) rfl rfl) (bw_U hE hK hC hP hS) rfl hl.1 (Nat.le_of_ble_eq_true rfl) ⟨Nat.le_refl _, Nat.le_refl _⟩ dX7_readRule_98 rfl) hS (fun r105 u106 H locs g107 hP hS => ?_)
        obtain ⟨J108, hW108, hp108, hn108, hv108, rfl⟩ : ∃ oj, mW oj A T n (zNz T n 1 2295 (zF (-4) z)) ∧ rP J104 oj ∧ (zN T n (zF (-4) z) = true → oj 0 12 = nI (tkB T n (zF (-4) z).2)) ∧ ((zNz T n 1 2295 (zF (-4) z)).1 = 0 → r105 = zNv T n 1 2295 (zF (-4) z)) ∧ u106 = (oj, A, K) := g107
        have hP : Wp mN E mK (J108, A, K) H := hP
        have hr108 := rP_tr hr104 hp108
        rw [zNz_b hbz] at hW108
        refine lv_istore (lv' := [(6, .int r105), (5, .int r101), (4, .int r78), (3, .int r74), (0, .ref (eP E 0)), (1, .int (nI (tkB T n z.2))), (2, .int (bI false))]) hx hb dX7_readRule_101 hl (by decide) rfl (fun ls hl => ?_)
        refine lv_aload_n hx hb dX7_readRule_103 rfl (lv_at hl 4 rfl) ?_
        refine cn_si (ck_V (a := eP E 0) S lk_X7_62 (c_X7_isGood l E J108 A K hE) ⟨rfl, rfl⟩ ⟨Nat.le_of_ble_eq_true rfl, Nat.le_of_ble_eq_true rfl⟩ bl_w (rc_w hK hP 0 (by decide) rfl rfl) (bw_U hE hK hC hP hS) rfl hl.1 (Nat.le_of_ble_eq_true rfl) ⟨Nat.le_refl _, Nat.le_refl _⟩ dX7_readRule_104 rfl) (fun r109 g110 => ?_)
        obtain rfl : r109 = bI (decide (J108 0 5 = 0)) := g110
        refine lv_if_ne (tgt := 111) hx hb dX7_readRule_107 (by decide) (fun h107 => absurd h107 (show ¬ ¬ bI (decide (J108 0 5 = 0)) = 0 from fun g => g (by rw [decide_eq_false (fun q => hbz (hW108.2.1.symm.trans q))]; rfl))) (fun h107 => ?_)
        exact re_wv (x := (J108, A, K)) hx hb hr hlk hP hS ⟨_, A, rB_n (sRule_f hnu) hW108 hr108 hbz, rfl⟩ dX7_readRule_110
      · obtain rfl : b = true := bI_t h64
        refine lv_iconst (v := (-1)) hx hb dX7_readRule_67 (by decide) ?_
        refine lv_goto (tgt := 77) hx hb dX7_readRule_68 (by decide) ?_
        refine lv_istore (lv' := [(5, .int (-1)), (4, .int r78), (3, .int r74), (0, .ref (eP E 0)), (1, .int (nI (tkB T n z.2))), (2, .int (bI true))]) hx hb dX7_readRule_77 hl (by decide) rfl (fun ls hl => ?_)
        refine lv_iload_n hx hb dX7_readRule_79 rfl (lv_at hl 5 rfl) ?_
        refine lv_if_eq (tgt := 93) hx hb dX7_readRule_80 (by decide) (fun h80 => absurd h80 (show ¬ bI true = 0 by decide)) (fun h80 => ?_)
        refine lv_aload_n hx hb dX7_readRule_83 rfl (lv_at hl 3 rfl) ?_
        refine lv_iconst (v := 1) hx hb dX7_readRule_84 (by decide) ?_
        refine lv_bipush (v := 9) hx hb dX7_readRule_85 (by decide) ?_
        refine cn_wi (ck_V (a := eP E 0) S lk_X7_113 (c_X7_number l E J81 A K T n (zF (-4) z) 1 9 hE hW81) ⟨rfl, rfl⟩ ⟨Nat.le_of_ble_eq_true rfl, Nat.le_of_ble_eq_true rfl⟩ bl_w (rc_w hK hP 0 (by decide) rfl rfl) (bw_U hE hK hC hP hS) rfl hl.1 (Nat.le_of_ble_eq_true rfl) ⟨Nat.le_refl _, Nat.le_refl _⟩ dX7_readRule_87 rfl) hS (fun r111 u112 H locs g113 hP hS => ?_)
        obtain ⟨J114, hW114, hp114, hn114, hv114, rfl⟩ : ∃ oj, mW oj A T n (zNz T n 1 9 (zF (-4) z)) ∧ rP J81 oj ∧ (zN T n (zF (-4) z) = true → oj 0 12 = nI (tkB T n (zF (-4) z).2)) ∧ ((zNz T n 1 9 (zF (-4) z)).1 = 0 → r111 = zNv T n 1 9 (zF (-4) z)) ∧ u112 = (oj, A, K) := g113
        have hP : Wp mN E mK (J114, A, K) H := hP
        have hr114 := rP_tr hr81 hp114
        rw [zNz_b hbz] at hW114
        refine lv_goto (tgt := 101) hx hb dX7_readRule_90 (by decide) ?_
        refine lv_istore (lv' := [(6, .int r111), (5, .int (-1)), (4, .int r78), (3, .int r74), (0, .ref (eP E 0)), (1, .int (nI (tkB T n z.2))), (2, .int (bI true))]) hx hb dX7_readRule_101 hl (by decide) rfl (fun ls hl => ?_)
        refine lv_aload_n hx hb dX7_readRule_103 rfl (lv_at hl 4 rfl) ?_
        refine cn_si (ck_V (a := eP E 0) S lk_X7_62 (c_X7_isGood l E J114 A K hE) ⟨rfl, rfl⟩ ⟨Nat.le_of_ble_eq_true rfl, Nat.le_of_ble_eq_true rfl⟩ bl_w (rc_w hK hP 0 (by decide) rfl rfl) (bw_U hE hK hC hP hS) rfl hl.1 (Nat.le_of_ble_eq_true rfl) ⟨Nat.le_refl _, Nat.le_refl _⟩ dX7_readRule_104 rfl) (fun r115 g116 => ?_)
        obtain rfl : r115 = bI (decide (J114 0 5 = 0)) := g116
        refine lv_if_ne (tgt := 111) hx hb dX7_readRule_107 (by decide) (fun h107 => absurd h107 (show ¬ ¬ bI (decide (J114 0 5 = 0)) = 0 from fun g => g (by rw [decide_eq_false (fun q => hbz (hW114.2.1.symm.trans q))]; rfl))) (fun h107 => ?_)
        exact re_wv (x := (J114, A, K)) hx hb hr hlk hP hS ⟨_, A, rB_n (sRule_f hnu) hW114 hr114 hbz, rfl⟩ dX7_readRule_110

