/-- one row copied over another -/
def mCp (A : Nat → Nat → Int32) (p q : Nat) : Nat → Nat → Nat → Int32 := lfo (fun k B => up2 B q k (B p k)) A
theorem mCp_at {A : Nat → Nat → Int32} {p q : Nat} (h : p ≠ q) : ∀ n a b, mCp A p q n a b = if a = q ∧ b < n then A p b else A a b
  | 0, a, b => by
    rw [if_neg (fun h => by omega)]
    rfl
  | n + 1, a, b => by
    show up2 (mCp A p q n) q n (mCp A p q n p n) a b = _
    have h1 : mCp A p q n p n = A p n := (mCp_at h n p n).trans (if_neg (fun g => h g.1))
    rw [up2_at, h1, mCp_at h n a b]
    by_cases ha : a = q
    · by_cases hb : b = n
      · subst hb
        simp [ha]
      · by_cases hlt : b < n
        · have h2 : b < n + 1 := by omega
          simp [ha, hb, hlt, h2]
        · have h2 : ¬ b < n + 1 := by omega
          simp [ha, hb, hlt, h2]
    · simp [ha]
theorem mCp_ne {A : Nat → Nat → Int32} {p q n a : Nat} (h : p ≠ q) (ha : a ≠ q) : mCp A p q n a = A a := by
  funext b
  rw [mCp_at h, if_neg (fun g => ha g.1)]
theorem mCp_q {A : Nat → Nat → Int32} {p q n b : Nat} (h : p ≠ q) (hb : b < n) : mCp A p q n q b = A p b := by rw [mCp_at h, if_pos ⟨rfl, hb⟩]
/-- the history moved down by one -/
def mSh (A : Nat → Nat → Int32) : Nat → Nat → Nat → Int32 := lfo (fun k B => mCp B (5 + (k + 1)) (5 + k) 1282) A
theorem mSh_s {A : Nat → Nat → Int32} {k : Nat} (h : 1 ≤ k) : mCp (mSh A (k - 1)) (5 + k) (5 + (k - 1)) 1282 = mSh A (k + 1 - 1) := by
  obtain ⟨j, rfl⟩ : ∃ j, k = j + 1 := ⟨k - 1, by omega⟩
  rfl
theorem mSh_ne {A : Nat → Nat → Int32} {a : Nat} (h : a < 5 ∨ 12 < a) : ∀ n, n ≤ 7 → mSh A n a = A a
  | 0, _ => rfl
  | n + 1, hn => by
    show mCp (mSh A n) (5 + (n + 1)) (5 + n) 1282 a = A a
    rw [mCp_ne (by omega) (by omega), mSh_ne h n (by omega)]
def mRem (A : Nat → Nat → Int32) (ud : Nat) : Nat → Nat → Int32 := if ud = 8 then mCp (mSh A 7) 2 12 1282 else mCp A 2 (5 + ud) 1282
theorem mRem_ne {A : Nat → Nat → Int32} {ud a : Nat} (hu : ud ≤ 8) (h : a < 5 ∨ 12 < a) : mRem A ud a = A a := by
  unfold mRem
  split
  · rw [mCp_ne (by decide) (by omega), mSh_ne h 7 (by decide)]
  · rw [mCp_ne (by omega) (by omega)]
theorem MOk_ext {A B : Nat → Nat → Int32} {nr nu : Nat} (e : B 2 = A 2) (h : MOk A nr nu) : MOk B nr nu := by
  unfold MOk mCol mF mG at *
  rw [e]
  exact h
theorem MOk_rem {A : Nat → Nat → Int32} {nr nu ud : Nat} (hu : ud ≤ 8) (h : MOk A nr nu) : MOk (mRem A ud) nr nu := MOk_ext (mRem_ne hu (by decide)) h
set_option maxHeartbeats 1000000 in
set_option maxRecDepth 100000 in
theorem c_X7_copy (l : Launch) (E : En) (I A : Nat → Nat → Int32) (K : Nat → Nat → Int64) (q0 q1 : Nat) (hE : Ev mN E) (hq0 : q0 < 15) (hq1 : q1 < 15) (k0 : mK q0 = .inr (.inl (1, 1282))) (k1 : mK q1 = .inr (.inl (1, 1282))) : Met l yX7_copy (wz yX7_copy cX7_copy 3 none) (rmk 0 0 0 0) (va_Pc [.ref (eP E q0), .ref (eP E q1)] (Bw mN E mK (I, A, K))) (qWv mN E mK (fun uu => uu = (I, mCp A q0 q1 1282, K))) 0 0 (cA mN E) := by
  refine en_ofW RX7 rfl (by decide +kernel) (Nat.le_of_ble_eq_true rfl) ?_
  intro p e s m below meth c ls S hr hlk hnm hl hB
  have hx := S.1
  have hb := S.2.1
  obtain ⟨hK, hC, hP⟩ := hB
  have hS : va_S (cA mN E) s.heap s.heap [] := va_S.rf
  have hl : lv_has ls 3 [(0, .ref (eP E q0)), (1, .ref (eP E q1))] := hl
  refine lv_iconst (v := 0) hx hb dX7_copy_0 (by decide) ?_
  refine lv_istore_n (lv' := [(2, .int 0), (0, .ref (eP E q0)), (1, .ref (eP E q1))]) hx hb dX7_copy_1 rfl hl (by decide) rfl (fun ls hl => ?_)
  have HL : ∀ (n i : Nat), i + n = 1282 → ∀ (H : Heap) (locs : List Loc), Wp mN E mK (I, (mCp A q0 q1 i), K) H → va_S (cA mN E) s.heap H locs → ∀ ls : Array Slot, lv_has ls 3 [(2, .int (nI i)), (0, .ref (eP E q0)), (1, .ref (eP E q1))] → W p l e (rmk 0 0 0 0) s m ([.ref (eP E q0), .ref (eP E q1)] : List Value).toArray below meth c H locs 0 0 (MQ below (qWv mN E mK (fun uu => uu = (I, mCp A q0 q1 1282, K))) ([.ref (eP E q0), .ref (eP E q1)] : List Value).toArray s 0 0 (cA mN E)) (F0 m 2 ls []) := by
    intro n
    induction n with
    | zero =>
      intro i hi H locs hP hS ls hl
      have hiN : i = 1282 := by omega
      rw [hiN] at hl
      try rw [hiN] at hP
      refine lv_iload_n hx hb dX7_copy_2 rfl (lv_at hl 0 rfl) ?_
      refine lv_sipush (v := 1282) hx hb dX7_copy_3 (by decide) ?_
      refine lv_icmp_ge (tgt := 21) hx hb dX7_copy_6 (by decide) (fun h6 => ?_) (fun h6 => absurd (Int32.le_refl _) h6)
      exact re_wv (x := (I, (mCp A q0 q1 1282), K)) hx hb hr hlk hP hS rfl dX7_copy_21
    | succ n ih =>
      intro i hi H locs hP hS ls hl
      have hlt : i < 1282 := by omega
      refine lv_iload_n hx hb dX7_copy_2 rfl (lv_at hl 0 rfl) ?_
      refine lv_sipush (v := 1282) hx hb dX7_copy_3 (by decide) ?_
      refine lv_icmp_ge (tgt := 21) hx hb dX7_copy_6 (by decide) (fun h6 => absurd h6 (nI_ge (b := 1282) hlt (by decide))) (fun h6 => ?_)
      refine lv_aload_n hx hb dX7_copy_9 rfl (lv_at hl 2 rfl) ?_
      refine lv_iload_n hx hb dX7_copy_10 rfl (lv_at hl 0 rfl) ?_
      refine lv_aload_n hx hb dX7_copy_11 rfl (lv_at hl 1 rfl) ?_
      refine lv_iload_n hx hb dX7_copy_12 rfl (lv_at hl 0 rfl) ?_
      refine rw_iald (x := (I, (mCp A q0 q1 i), K)) (v := (mCp A q0 q1 i) q0 i) S hK hP q0 hq0 k0 i rfl (by omega) (by decide) rfl dX7_copy_13 ?_
      refine rw_iast (x := (I, (mCp A q0 q1 i), K)) (v := (mCp A q0 q1 i) q0 i) S hE hK hP hS q1 hq1 k1 i rfl (by omega) (by decide) dX7_copy_14 (fun H locs hP hS => ?_)
      have hP : Wp mN E mK (I, (up2 (mCp A q0 q1 i) q1 i ((mCp A q0 q1 i) q0 i)), K) H := hP
      refine lv_iinc (v := nI (i + 1)) (lv' := [(2, .int (nI (i + 1))), (0, .ref (eP E q0)), (1, .ref (eP E q1))]) hx hb dX7_copy_15 hl (k := 0) rfl (nI_1 _) (by decide) rfl (fun ls hl => ?_)
      refine lv_goto (tgt := 2) hx hb dX7_copy_18 (by decide) ?_
      exact ih (i + 1) (by omega) _ _ hP hS ls (lv_sub hl [0, 1, 2] rfl)
  exact HL 1282 0 (by omega) _ _ hP hS ls (lv_sub hl [0, 1, 2] rfl)

set_option maxHeartbeats 1000000 in
set_option maxRecDepth 100000 in
theorem c_X7_remember (l : Launch) (E : En) (I A : Nat → Nat → Int32) (K : Nat → Nat → Int64) (ud : Nat) (hE : Ev mN E) (hud : I 0 11 = nI ud) (hu8 : ud ≤ 8) : Met l yX7_remember (wz yX7_remember cX7_remember 2 none) (rmk 1 0 0 22) (va_Pc [.ref (eP E 0)] (Bw mN E mK (I, A, K))) (qWv mN E mK (fun uu => uu = (up2 I 0 11 (nI (min (ud + 1) 8)), mRem A ud, K))) 0 0 (cA mN E) := by
  refine en_ofW RX7 rfl (by decide +kernel) (Nat.le_of_ble_eq_true rfl) ?_
  intro p e s m below meth c ls S hr hlk hnm hl hB
  have hx := S.1
  have hb := S.2.1
  obtain ⟨hK, hC, hP⟩ := hB
  have hS : va_S (cA mN E) s.heap s.heap [] := va_S.rf
  have hl : lv_has ls 2 [(0, .ref (eP E 0))] := hl
  refine lv_aload_n hx hb dX7_remember_0 rfl (lv_at hl 0 rfl) ?_
  refine rw_geti (x := (I, A, K)) (v := nI ud) S hK hP 0 (by decide) rfl fk_X7_283 rfl hud dX7_remember_1 ?_
  refine lv_bipush (v := 8) hx hb dX7_remember_4 (by decide) ?_
  refine lv_icmp_ne (tgt := 50) hx hb dX7_remember_6 (by decide) (fun h6 => ?_) (fun h6 => ?_)
  · have h8 : ¬ ud = 8 := fun q => h6 (by rw [q]; rfl)
    refine lv_aload_n hx hb dX7_remember_50 rfl (lv_at hl 0 rfl) ?_
    refine rw_getr (x := (I, A, K)) S hK hP 0 (by decide) rfl fk_X7_17 rfl dX7_remember_51 ?_
    refine lv_aload_n hx hb dX7_remember_54 rfl (lv_at hl 0 rfl) ?_
    refine rw_getr (x := (I, A, K)) S hK hP 0 (by decide) rfl fk_X7_25 rfl dX7_remember_55 ?_
    refine lv_aload_n hx hb dX7_remember_58 rfl (lv_at hl 0 rfl) ?_
    refine rw_geti (x := (I, A, K)) (v := nI ud) S hK hP 0 (by decide) rfl fk_X7_283 rfl hud dX7_remember_59 ?_
    refine rw_aald (x := (I, A, K)) (r := (5 + ud)) S hK hP 4 (by decide) 5 rfl rfl rfl ud rfl (by omega) (by decide) rfl dX7_remember_62 ?_
    refine cn_wv (ck_S S lk_X7_169 (c_X7_copy l E I A K 2 (5 + ud) hE (by decide) (by omega) rfl (mK_hist (by omega))) ⟨rfl, rfl⟩ ⟨Nat.le_of_ble_eq_true rfl, Nat.le_of_ble_eq_true rfl⟩ bl_w (bw_U hE hK hC hP hS) rfl hl.1 (Nat.le_of_ble_eq_true rfl) ⟨Nat.le_refl _, Nat.le_refl _⟩ dX7_remember_63 rfl) hS (fun u2 H locs g3 hP hS => ?_)
    obtain rfl : u2 = (I, (mCp A 2 (5 + ud) 1282), K) := g3
    have hP : Wp mN E mK (I, (mCp A 2 (5 + ud) 1282), K) H := hP
    refine lv_aload_n hx hb dX7_remember_66 rfl (lv_at hl 0 rfl) ?_
    refine lv_dup hx hb dX7_remember_67 rfl ?_
    refine rw_geti (x := (I, (mCp A 2 (5 + ud) 1282), K)) (v := nI ud) S hK hP 0 (by decide) rfl fk_X7_283 rfl hud dX7_remember_68 ?_
    refine lv_iconst (v := 1) hx hb dX7_remember_71 (by decide) ?_
    refine lv_iadd hx hb dX7_remember_72 ?_
    refine tp_i (y := nI (ud + 1)) (nI_add ud 1) ?_
    refine rw_puti (x := (I, (mCp A 2 (5 + ud) 1282), K)) (v := (nI (ud + 1))) S hE hK hP hS 0 (by decide) rfl fk_X7_283 rfl tyX7_ok nmX7 ⟨rfl, by decide +kernel⟩ dX7_remember_73 (fun H locs hP hS => ?_)
    have hP : Wp mN E mK ((up2 I 0 11 (nI (ud + 1))), (mCp A 2 (5 + ud) 1282), K) H := hP
    exact re_wv (x := ((up2 I 0 11 (nI (ud + 1))), (mCp A 2 (5 + ud) 1282), K)) hx hb hr hlk hP hS (by unfold mRem; rw [if_neg h8, Nat.min_eq_left (by omega)]) dX7_remember_76
  · have h8 : ud = 8 := (nI_eq (b := 8) (by omega) (by decide)).mp h6
    refine lv_iconst (v := 1) hx hb dX7_remember_9 (by decide) ?_
    refine lv_istore_n (lv' := [(1, .int 1), (0, .ref (eP E 0))]) hx hb dX7_remember_10 rfl hl (by decide) rfl (fun ls hl => ?_)
    have HL : ∀ (cnt k : Nat), k + cnt = 8 → 1 ≤ k → ∀ (H : Heap) (locs : List Loc), Wp mN E mK (I, (mSh A (k - 1)), K) H → va_S (cA mN E) s.heap H locs → ∀ ls : Array Slot, lv_has ls 2 [(1, .int (nI k)), (0, .ref (eP E 0))] → W p l e (rmk 1 0 0 22) s m ([.ref (eP E 0)] : List Value).toArray below meth c H locs 0 0 (MQ below (qWv mN E mK (fun uu => uu = (up2 I 0 11 (nI (min (ud + 1) 8)), mRem A ud, K))) ([.ref (eP E 0)] : List Value).toArray s 0 0 (cA mN E)) (F0 m 11 ls []) := by
      intro cnt
      induction cnt with
      | zero =>
        intro k hi hk1 H locs hP hS ls hl
        have hiN : k = 8 := by omega
        rw [hiN] at hl
        try rw [hiN] at hP
        refine lv_iload_n hx hb dX7_remember_11 rfl (lv_at hl 0 rfl) ?_
        refine lv_bipush (v := 8) hx hb dX7_remember_12 (by decide) ?_
        refine lv_icmp_ge (tgt := 40) hx hb dX7_remember_14 (by decide) (fun h14 => ?_) (fun h14 => absurd (Int32.le_refl _) h14)
        refine lv_aload_n hx hb dX7_remember_40 rfl (lv_at hl 1 rfl) ?_
        refine lv_dup hx hb dX7_remember_41 rfl ?_
        refine rw_geti (x := (I, (mSh A (8 - 1)), K)) (v := nI ud) S hK hP 0 (by decide) rfl fk_X7_283 rfl hud dX7_remember_42 ?_
        refine lv_iconst (v := 1) hx hb dX7_remember_45 (by decide) ?_
        refine lv_isub hx hb dX7_remember_46 ?_
        refine tp_i (y := nI 7) (by rw [h8]; rfl) ?_
        refine rw_puti (x := (I, (mSh A (8 - 1)), K)) (v := (nI 7)) S hE hK hP hS 0 (by decide) rfl fk_X7_283 rfl tyX7_ok nmX7 ⟨rfl, by decide +kernel⟩ dX7_remember_47 (fun H locs hP hS => ?_)
        have hP : Wp mN E mK ((up2 I 0 11 (nI 7)), (mSh A (8 - 1)), K) H := hP
        have hP : Wp mN E mK (up2 I 0 11 (nI 7), mSh A 7, K) H := hP
        refine lv_aload_n hx hb dX7_remember_50 rfl (lv_at hl 1 rfl) ?_
        refine rw_getr (x := ((up2 I 0 11 (nI 7)), (mSh A 7), K)) S hK hP 0 (by decide) rfl fk_X7_17 rfl dX7_remember_51 ?_
        refine lv_aload_n hx hb dX7_remember_54 rfl (lv_at hl 1 rfl) ?_
        refine rw_getr (x := ((up2 I 0 11 (nI 7)), (mSh A 7), K)) S hK hP 0 (by decide) rfl fk_X7_25 rfl dX7_remember_55 ?_
        refine lv_aload_n hx hb dX7_remember_58 rfl (lv_at hl 1 rfl) ?_
        refine rw_geti (x := ((up2 I 0 11 (nI 7)), (mSh A 7), K)) (v := nI 7) S hK hP 0 (by decide) rfl fk_X7_283 rfl (up2_eq (f := I) (q := 0) (j := 11) (v := nI 7)) dX7_remember_59 ?_
        refine rw_aald (x := ((up2 I 0 11 (nI 7)), (mSh A 7), K)) (r := (5 + 7)) S hK hP 4 (by decide) 5 rfl rfl rfl 7 rfl (by omega) (by decide) rfl dX7_remember_62 ?_
        refine cn_wv (ck_S S lk_X7_169 (c_X7_copy l E (up2 I 0 11 (nI 7)) (mSh A 7) K 2 (5 + 7) hE (by decide) (by omega) rfl (mK_hist (by omega))) ⟨rfl, rfl⟩ ⟨Nat.le_of_ble_eq_true rfl, Nat.le_of_ble_eq_true rfl⟩ bl_w (bw_U hE hK hC hP hS) rfl hl.1 (Nat.le_of_ble_eq_true rfl) ⟨Nat.le_refl _, Nat.le_refl _⟩ dX7_remember_63 rfl) hS (fun u5 H locs g6 hP hS => ?_)
        obtain rfl : u5 = ((up2 I 0 11 (nI 7)), (mCp (mSh A 7) 2 (5 + 7) 1282), K) := g6
        have hP : Wp mN E mK ((up2 I 0 11 (nI 7)), (mCp (mSh A 7) 2 (5 + 7) 1282), K) H := hP
        refine lv_aload_n hx hb dX7_remember_66 rfl (lv_at hl 1 rfl) ?_
        refine lv_dup hx hb dX7_remember_67 rfl ?_
        refine rw_geti (x := ((up2 I 0 11 (nI 7)), (mCp (mSh A 7) 2 (5 + 7) 1282), K)) (v := nI 7) S hK hP 0 (by decide) rfl fk_X7_283 rfl (up2_eq (f := I) (q := 0) (j := 11) (v := nI 7)) dX7_remember_68 ?_
        refine lv_iconst (v := 1) hx hb dX7_remember_71 (by decide) ?_
        refine lv_iadd hx hb dX7_remember_72 ?_
        refine tp_i (y := nI (7 + 1)) (nI_add 7 1) ?_
        refine rw_puti (x := ((up2 I 0 11 (nI 7)), (mCp (mSh A 7) 2 (5 + 7) 1282), K)) (v := (nI (7 + 1))) S hE hK hP hS 0 (by decide) rfl fk_X7_283 rfl tyX7_ok nmX7 ⟨rfl, by decide +kernel⟩ dX7_remember_73 (fun H locs hP hS => ?_)
        have hP : Wp mN E mK ((up2 (up2 I 0 11 (nI 7)) 0 11 (nI (7 + 1))), (mCp (mSh A 7) 2 (5 + 7) 1282), K) H := hP
        exact re_wv (x := ((up2 (up2 I 0 11 (nI 7)) 0 11 (nI (7 + 1))), (mCp (mSh A 7) 2 (5 + 7) 1282), K)) hx hb hr hlk hP hS (by rw [up2_up]; unfold mRem; rw [if_pos h8, h8]; rfl) dX7_remember_76
      | succ cnt ih =>
        intro k hi hk1 H locs hP hS ls hl
        have hlt : k < 8 := by omega
        refine lv_iload_n hx hb dX7_remember_11 rfl (lv_at hl 0 rfl) ?_
        refine lv_bipush (v := 8) hx hb dX7_remember_12 (by decide) ?_
        refine lv_icmp_ge (tgt := 40) hx hb dX7_remember_14 (by decide) (fun h14 => absurd h14 (nI_ge (b := 8) hlt (by decide))) (fun h14 => ?_)
        refine lv_aload_n hx hb dX7_remember_17 rfl (lv_at hl 1 rfl) ?_
        refine rw_getr (x := (I, (mSh A (k - 1)), K)) S hK hP 0 (by decide) rfl fk_X7_25 rfl dX7_remember_18 ?_
        refine lv_iload_n hx hb dX7_remember_21 rfl (lv_at hl 0 rfl) ?_
        refine rw_aald (x := (I, (mSh A (k - 1)), K)) (r := (5 + k)) S hK hP 4 (by decide) 5 rfl rfl rfl k rfl (by omega) (by decide) rfl dX7_remember_22 ?_
        refine lv_aload_n hx hb dX7_remember_23 rfl (lv_at hl 1 rfl) ?_
        refine rw_getr (x := (I, (mSh A (k - 1)), K)) S hK hP 0 (by decide) rfl fk_X7_25 rfl dX7_remember_24 ?_
        refine lv_iload_n hx hb dX7_remember_27 rfl (lv_at hl 0 rfl) ?_
        refine lv_iconst (v := 1) hx hb dX7_remember_28 (by decide) ?_
        refine lv_isub hx hb dX7_remember_29 ?_
        refine tp_i (y := nI (k - 1)) (pk_sub (a := k) (b := 1) (by omega)) ?_
        refine rw_aald (x := (I, (mSh A (k - 1)), K)) (r := (5 + (k - 1))) S hK hP 4 (by decide) 5 rfl rfl rfl (k - 1) rfl (by omega) (by decide) rfl dX7_remember_30 ?_
        refine cn_wv (ck_S S lk_X7_169 (c_X7_copy l E I (mSh A (k - 1)) K (5 + k) (5 + (k - 1)) hE (by omega) (by omega) (mK_hist (by omega)) (mK_hist (by omega))) ⟨rfl, rfl⟩ ⟨Nat.le_of_ble_eq_true rfl, Nat.le_of_ble_eq_true rfl⟩ bl_w (bw_U hE hK hC hP hS) rfl hl.1 (Nat.le_of_ble_eq_true rfl) ⟨Nat.le_refl _, Nat.le_refl _⟩ dX7_remember_31 rfl) hS (fun u8 H locs g9 hP hS => ?_)
        obtain rfl : u8 = (I, (mCp (mSh A (k - 1)) (5 + k) (5 + (k - 1)) 1282), K) := g9
        have hP : Wp mN E mK (I, (mCp (mSh A (k - 1)) (5 + k) (5 + (k - 1)) 1282), K) H := hP
        refine lv_iinc (v := nI (k + 1)) (lv' := [(1, .int (nI (k + 1))), (0, .ref (eP E 0))]) hx hb dX7_remember_34 hl (k := 0) rfl (nI_1 _) (by decide) rfl (fun ls hl => ?_)
        refine lv_goto (tgt := 11) hx hb dX7_remember_37 (by decide) ?_
        rw [mSh_s hk1] at hP
        exact ih (k + 1) (by omega) (by omega) _ _ hP hS ls (lv_sub hl [0, 1] rfl)
    exact HL 7 1 (by omega) (by decide) _ _ hP hS ls (lv_sub hl [0, 1] rfl)

