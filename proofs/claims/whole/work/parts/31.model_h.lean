theorem mFnd_lt {A : Nat → Nat → Int32} {u s nu nr : Nat} (hf : mF A u < nr) (hg : mG A u < nr) : ∀ k d w, mFnd A u s nu k d = some w → w.2 < nr
  | 0, d, w, h => by cases h
  | k + 1, d, w, h => by
    unfold mFnd at h
    split at h
    · cases h; exact hf
    · split at h
      · cases h; exact hg
      · split at h
        · cases h; exact hf
        · split at h
          · cases h; exact hg
          · exact mFnd_lt hf hg k _ w h
theorem mAn_lt {A : Nat → Nat → Int32} {nr nu : Nat} (hM : MOk A nr nu) : ∀ k i, i + k = 2 * nu → ∀ j w, mAn A nu k i = some (j, w) → w.2 < nr ∧ j < 2 * nu
  | 0, i, hi, j, w, h => by cases h
  | k + 1, i, hi, j, w, h => by
    unfold mAn at h
    split at h
    · exact mAn_lt hM k _ (by omega) j w h
    · split at h
      · exact mAn_lt hM k _ (by omega) j w h
      · rename_i w2 hq
        cases h
        obtain ⟨⟨-, f2⟩, -, g2⟩ := hM.2.2.1 (i / 2) (by omega)
        exact ⟨mFnd_lt f2 g2 255 1 _ hq, by omega⟩
theorem mAny_lt {A : Nat → Nat → Int32} {nr nu j : Nat} {w : Int32 × Nat} (hM : MOk A nr nu) (h : mAny A nu = some (j, w)) : w.2 < nr ∧ j < 2 * nu := mAn_lt hM (2 * nu) 0 (by omega) j w h
def mRep (nu : Nat) : Nat → (Nat → Nat → Int32) → Nat × (Nat → Nat → Int32)
  | 0, A => (0, A)
  | n + 1, A => match mAny A nu with
    | none => (0, A)
    | some q => ((mRep nu n (mShd A q.2.2 (q.1 % 2) q.2.1)).1 + 1, (mRep nu n (mShd A q.2.2 (q.1 % 2) q.2.1)).2)
theorem mRep_n {nu n : Nat} {A : Nat → Nat → Int32} (h : mAny A nu = none) : mRep nu (n + 1) A = (0, A) := by rw [mRep, h]
theorem mRep_y {nu n j : Nat} {w : Int32 × Nat} {A : Nat → Nat → Int32} (h : mAny A nu = some (j, w)) : mRep nu (n + 1) A = ((mRep nu n (mShd A w.2 (j % 2) w.1)).1 + 1, (mRep nu n (mShd A w.2 (j % 2) w.1)).2) := by rw [mRep, h]
theorem rF_tr {I J L : Nat → Nat → Int32} (h : rF I J) (g : rF J L) : rF I L := fun a b q => (g a b q).trans (h a b q)
def mCkR (A : Nat → Nat → Int32) : Nat → Int64 := lfo (fun r a => 31 * (31 * (31 * a + (A 2 (4 + 3 * r + 0)).toInt64) + (A 2 (4 + 3 * r + 1)).toInt64) + (A 2 (4 + 3 * r + 2)).toInt64) 0
def mCkU (A : Nat → Nat → Int32) (a0 : Int64) : Nat → Int64 := lfo (fun u a => 31 * (31 * a + (mVal A u 0).toInt64) + (mVal A u 1).toInt64) a0
def mVP (A : Nat → Nat → Int32) : Nat → Nat → Int32 → Int32
  | 0, _, _ => -1
  | n + 1, i, q => if mVi A (i / 2) (i % 2) = 0 then mVP A n (i + 1) (q - 0) else if 0 < q then mVP A n (i + 1) (q - 1) else nI i
theorem mVP_k {A : Nat → Nat → Int32} {n i : Nat} {q : Int32} (h : mVi A (i / 2) (i % 2) = 0) : mVP A (n + 1) i q = mVP A n (i + 1) (q - 0) := if_pos h
theorem mVP_m {A : Nat → Nat → Int32} {n i : Nat} {q : Int32} (h : ¬ mVi A (i / 2) (i % 2) = 0) (g : 0 < q) : mVP A (n + 1) i q = mVP A n (i + 1) (q - 1) := (if_neg h).trans (if_pos g)
theorem mVP_e {A : Nat → Nat → Int32} {n i : Nat} {q : Int32} (h : ¬ mVi A (i / 2) (i % 2) = 0) (g : ¬ 0 < q) : mVP A (n + 1) i q = nI i := (if_neg h).trans (if_neg g)
set_option maxHeartbeats 1000000 in
set_option maxRecDepth 100000 in
theorem c_X7_repair (l : Launch) (E : En) (I A : Nat → Nat → Int32) (K : Nat → Nat → Int64) (nr nu k ud : Nat) (hE : Ev mN E) (hM : MOk A nr nu) (kk1 : 1 ≤ k ∧ k ≤ 6) (hud : I 0 11 = nI ud) (hu8 : ud ≤ 8) : Met l yX7_repair (wz yX7_repair cX7_repair 3 (some .int)) (rmk 10 0 0 230) (va_Pc [.ref (eP E 0), .int (nI k)] (Bw mN E mK (I, A, K))) (qWi mN E mK (fun zz uu => zz = nI (mRep nu k (mRem A ud)).1 ∧ ∃ J, rF (up2 (up2 I 0 0 0) 0 11 (nI (min (ud + 1) 8))) J ∧ uu = (J, (mRep nu k (mRem A ud)).2, K))) 0 0 (cA mN E) := by
  refine en_ofW RX7 rfl (by decide +kernel) (Nat.le_of_ble_eq_true rfl) ?_
  intro p e s m below meth c ls S hr hlk hnm hl hB
  have hx := S.1
  have hb := S.2.1
  obtain ⟨hK, hC, hP⟩ := hB
  have hS : va_S (cA mN E) s.heap s.heap [] := va_S.rf
  have hl : lv_has ls 3 [(0, .ref (eP E 0)), (1, .int (nI k))] := hl
  obtain ⟨⟨hn1, hn2⟩, ⟨hr0, hr1⟩, hu3, hcv⟩ := id hM
  refine lv_aload_n hx hb dX7_repair_0 rfl (lv_at hl 0 rfl) ?_
  refine lv_iconst (v := 0) hx hb dX7_repair_1 (by decide) ?_
  refine rw_puti (x := (I, A, K)) (v := 0) S hE hK hP hS 0 (by decide) rfl fk_X7_35 rfl tyX7_ok nmX7 ⟨rfl, by decide +kernel⟩ dX7_repair_2 (fun H locs hP hS => ?_)
  have hP : Wp mN E mK ((up2 I 0 0 0), A, K) H := hP
  refine lv_aload_n hx hb dX7_repair_5 rfl (lv_at hl 0 rfl) ?_
  refine lv_iload_n hx hb dX7_repair_6 rfl (lv_at hl 1 rfl) ?_
  refine lv_iconst (v := 1) hx hb dX7_repair_7 (by decide) ?_
  refine lv_bipush (v := 6) hx hb dX7_repair_8 (by decide) ?_
  refine cn_si (ck_S S lk_X7_58 (c_X7_in l (nI k) 1 6) ⟨rfl, rfl⟩ ⟨Nat.le_of_ble_eq_true rfl, Nat.le_of_ble_eq_true rfl⟩ bl_T t_U rfl hl.1 (Nat.le_of_ble_eq_true rfl) ⟨Nat.le_refl _, Nat.le_refl _⟩ dX7_repair_10 rfl) (fun r1 g2 => ?_)
  obtain rfl : r1 = rIn (nI k) 1 6 := g2
  refine tp_i (y := 1) (rIn_y (nI_nlt (b := 1) (by omega) (by omega)) (nI_nlt (a := 6) (by omega) (by decide))) ?_
  refine lv_if_ne (tgt := 20) hx hb dX7_repair_13 (by decide) (fun h13 => ?_) (fun h13 => absurd h13 (by decide))
  refine lv_iconst (v := 0) hx hb dX7_repair_20 (by decide) ?_
  refine lv_iconst (v := 1) hx hb dX7_repair_21 (by decide) ?_
  refine cn_wi (ck_V (a := eP E 0) S lk_X7_159 (c_X7_fails_n l E (up2 I 0 0 0) A K 1 hE rfl) ⟨rfl, rfl⟩ ⟨Nat.le_of_ble_eq_true rfl, Nat.le_of_ble_eq_true rfl⟩ bl_w (rc_w hK hP 0 (by decide) rfl rfl) (bw_U hE hK hC hP hS) rfl hl.1 (Nat.le_of_ble_eq_true rfl) ⟨Nat.le_refl _, Nat.le_refl _⟩ dX7_repair_22 rfl) hS (fun r3 u4 H locs g5 hP hS => ?_)
  obtain ⟨rfl, rfl⟩ : r3 = 0 ∧ u4 = ((up2 I 0 0 0), A, K) := g5
  have hP : Wp mN E mK ((up2 I 0 0 0), A, K) H := hP
  refine lv_if_eq (tgt := 30) hx hb dX7_repair_25 (by decide) (fun h25 => ?_) (fun h25 => absurd (by decide) h25)
  refine lv_aload_n hx hb dX7_repair_30 rfl (lv_at hl 0 rfl) ?_
  refine cn_wv (ck_V (a := eP E 0) S lk_X7_166 (c_X7_remember l E (up2 I 0 0 0) A K ud hE hud hu8) ⟨rfl, rfl⟩ ⟨Nat.le_of_ble_eq_true rfl, Nat.le_of_ble_eq_true rfl⟩ bl_w (rc_w hK hP 0 (by decide) rfl rfl) (bw_U hE hK hC hP hS) rfl hl.1 (Nat.le_of_ble_eq_true rfl) ⟨Nat.le_refl _, Nat.le_refl _⟩ dX7_repair_31 rfl) hS (fun u7 H locs g8 hP hS => ?_)
  obtain rfl : u7 = ((up2 (up2 I 0 0 0) 0 11 (nI (min (ud + 1) 8))), (mRem A ud), K) := g8
  have hP : Wp mN E mK ((up2 (up2 I 0 0 0) 0 11 (nI (min (ud + 1) 8))), (mRem A ud), K) H := hP
  refine lv_iconst (v := 0) hx hb dX7_repair_34 (by decide) ?_
  refine lv_istore_n (lv' := [(2, .int 0), (0, .ref (eP E 0)), (1, .int (nI k))]) hx hb dX7_repair_35 rfl hl (by decide) rfl (fun ls hl => ?_)
  have HL : ∀ (cnt i : Nat) (J B : Nat → Nat → Int32), i + cnt = k → (rF (up2 (up2 I 0 0 0) 0 11 (nI (min (ud + 1) 8))) J ∧ MOk B nr nu ∧ i + (mRep nu cnt B).1 = (mRep nu k (mRem A ud)).1 ∧ (mRep nu cnt B).2 = (mRep nu k (mRem A ud)).2) → ∀ (H : Heap) (locs : List Loc), Wp mN E mK (J, B, K) H → va_S (cA mN E) s.heap H locs → ∀ ls : Array Slot, lv_has ls 3 [(2, .int (nI i)), (0, .ref (eP E 0)), (1, .int (nI k))] → W p l e (rmk 10 0 0 230) s m ([.ref (eP E 0), .int (nI k)] : List Value).toArray below meth c H locs 0 0 (MQ below (qWi mN E mK (fun zz uu => zz = nI (mRep nu k (mRem A ud)).1 ∧ ∃ J, rF (up2 (up2 I 0 0 0) 0 11 (nI (min (ud + 1) 8))) J ∧ uu = (J, (mRep nu k (mRem A ud)).2, K))) ([.ref (eP E 0), .int (nI k)] : List Value).toArray s 0 0 (cA mN E)) (F0 m 36 ls []) := by
    intro cnt
    induction cnt with
    | zero =>
      intro i J B hi ⟨hB0, hB1, hB2, hB3⟩ H locs hP hS ls hl
      have hiN : i = k := by omega
      rw [hiN] at hl
      try rw [hiN] at hP
      refine lv_iload_n hx hb dX7_repair_36 rfl (lv_at hl 0 rfl) ?_
      refine lv_iload_n hx hb dX7_repair_37 rfl (lv_at hl 2 rfl) ?_
      refine lv_icmp_ge (tgt := 73) hx hb dX7_repair_38 (by decide) (fun h38 => ?_) (fun h38 => absurd (Int32.le_refl _) h38)
      refine lv_iload_n hx hb dX7_repair_73 rfl (lv_at hl 2 rfl) ?_
      exact re_wi (x := (J, B, K)) (v := nI k) hx hb hr hlk hP hS ⟨by rw [← hB2, hiN]; rfl, _, hB0, by rw [← hB3]; rfl⟩ dX7_repair_74
    | succ cnt ih =>
      intro i J B hi ⟨hB0, hB1, hB2, hB3⟩ H locs hP hS ls hl
      have hlt : i < k := by omega
      refine lv_iload_n hx hb dX7_repair_36 rfl (lv_at hl 0 rfl) ?_
      refine lv_iload_n hx hb dX7_repair_37 rfl (lv_at hl 2 rfl) ?_
      refine lv_icmp_ge (tgt := 73) hx hb dX7_repair_38 (by decide) (fun h38 => absurd h38 (nI_ge hlt (by omega))) (fun h38 => ?_)
      refine lv_aload_n hx hb dX7_repair_41 rfl (lv_at hl 1 rfl) ?_
      refine cn_wi (ck_V (a := eP E 0) S lk_X7_289 (c_X7_findAny l E J B K nr nu hE hB1) ⟨rfl, rfl⟩ ⟨Nat.le_of_ble_eq_true rfl, Nat.le_of_ble_eq_true rfl⟩ bl_w (rc_w hK hP 0 (by decide) rfl rfl) (bw_U hE hK hC hP hS) rfl hl.1 (Nat.le_of_ble_eq_true rfl) ⟨Nat.le_refl _, Nat.le_refl _⟩ dX7_repair_42 rfl) hS (fun r9 u10 H locs g11 hP hS => ?_)
      obtain ⟨rfl, J12, hJ1, hfa, rfl⟩ : r9 = bI (isS (mAny B nu)) ∧ (∃ oj, rF J oj ∧ (∀ k w, mAny B nu = some (k, w) → oj 0 17 = w.1 ∧ oj 0 18 = nI w.2 ∧ oj 0 19 = nI (k % 2)) ∧ u10 = (oj, B, K)) := g11
      have hP : Wp mN E mK (J12, B, K) H := hP
      rcases hq : mAny B nu with _ | ⟨kk, w⟩
      · refine tp_i (y := 0) rfl ?_
        refine lv_if_ne (tgt := 50) hx hb dX7_repair_45 (by decide) (fun h45 => absurd h45 (by decide)) (fun h45 => ?_)
        refine lv_iload_n hx hb dX7_repair_48 rfl (lv_at hl 0 rfl) ?_
        exact re_wi (x := (J12, B, K)) (v := nI i) hx hb hr hlk hP hS ⟨by rw [← hB2, mRep_n hq]; rfl, _, rF_tr hB0 hJ1, by rw [← hB3, mRep_n hq]⟩ dX7_repair_49
      · refine tp_i (y := 1) rfl ?_
        obtain ⟨e17, e18, e19⟩ := hfa kk w hq
        obtain ⟨hw1, hw2⟩ := mAny_lt hB1 hq
        refine lv_if_ne (tgt := 50) hx hb dX7_repair_45 (by decide) (fun h45 => ?_) (fun h45 => absurd h45 (by decide))
        refine lv_aload_n hx hb dX7_repair_50 rfl (lv_at hl 1 rfl) ?_
        refine lv_aload_n hx hb dX7_repair_51 rfl (lv_at hl 1 rfl) ?_
        refine rw_geti (x := (J12, B, K)) (v := nI w.2) S hK hP 0 (by decide) rfl fk_X7_251 rfl e18 dX7_repair_52 ?_
        refine lv_aload_n hx hb dX7_repair_55 rfl (lv_at hl 1 rfl) ?_
        refine rw_geti (x := (J12, B, K)) (v := nI (kk % 2)) S hK hP 0 (by decide) rfl fk_X7_258 rfl e19 dX7_repair_56 ?_
        refine lv_aload_n hx hb dX7_repair_59 rfl (lv_at hl 1 rfl) ?_
        refine rw_geti (x := (J12, B, K)) (v := w.1) S hK hP 0 (by decide) rfl fk_X7_248 rfl e17 dX7_repair_60 ?_
        refine cn_wi (ck_V (a := eP E 0) S lk_X7_286 (c_X7_makeShift l E J12 B K w.2 (kk % 2) w.1 hE (by omega) (by omega)) ⟨rfl, rfl⟩ ⟨Nat.le_of_ble_eq_true rfl, Nat.le_of_ble_eq_true rfl⟩ bl_w (rc_w hK hP 0 (by decide) rfl rfl) (bw_U hE hK hC hP hS) rfl hl.1 (Nat.le_of_ble_eq_true rfl) ⟨Nat.le_refl _, Nat.le_refl _⟩ dX7_repair_63 rfl) hS (fun r13 u14 H locs g15 hP hS => ?_)
        obtain ⟨rfl, rfl⟩ : r13 = (mShd B w.2 (kk % 2) w.1 2 (4 + 3 * w.2 + (kk % 2))) ∧ u14 = (J12, (mShd B w.2 (kk % 2) w.1), K) := g15
        have hP : Wp mN E mK (J12, (mShd B w.2 (kk % 2) w.1), K) H := hP
        refine lv_pop hx hb dX7_repair_66 rfl ?_
        refine lv_iinc (v := nI (i + 1)) (lv' := [(2, .int (nI (i + 1))), (0, .ref (eP E 0)), (1, .int (nI k))]) hx hb dX7_repair_67 hl (k := 0) rfl (nI_1 _) (by decide) rfl (fun ls hl => ?_)
        refine lv_goto (tgt := 36) hx hb dX7_repair_70 (by decide) ?_
        exact ih (i + 1) _ _ (by omega) ⟨rF_tr hB0 hJ1, MOk_shd (by omega) (by omega) hB1, (by rw [← hB2, mRep_y hq]; show i + 1 + _ = i + (_ + 1); omega), (by rw [← hB3, mRep_y hq])⟩ _ _ hP hS ls (lv_sub hl [0, 1, 2] rfl)
  exact HL k 0 _ _ (by omega) ⟨rF_rf, MOk_rem hu8 hM, Nat.zero_add _, rfl⟩ _ _ hP hS ls (lv_sub hl [0, 1, 2] rfl)

set_option maxHeartbeats 1000000 in
set_option maxRecDepth 100000 in
theorem c_X7_repair_b0 (l : Launch) (E : En) (I A : Nat → Nat → Int32) (K : Nat → Nat → Int64) (x : Int32) (nr nu : Nat) (hE : Ev mN E) (hM : MOk A nr nu) (kb : x < 1 ∨ 6 < x) : Met l yX7_repair (wz yX7_repair cX7_repair 3 (some .int)) (rmk 1 0 0 22) (va_Pc [.ref (eP E 0), .int x] (Bw mN E mK (I, A, K))) (qWi mN E mK (fun zz uu => uu = (up2 I 0 0 1, A, K))) 0 0 (cA mN E) := by
  refine en_ofW RX7 rfl (by decide +kernel) (Nat.le_of_ble_eq_true rfl) ?_
  intro p e s m below meth c ls S hr hlk hnm hl hB
  have hx := S.1
  have hb := S.2.1
  obtain ⟨hK, hC, hP⟩ := hB
  have hS : va_S (cA mN E) s.heap s.heap [] := va_S.rf
  have hl : lv_has ls 3 [(0, .ref (eP E 0)), (1, .int x)] := hl
  obtain ⟨⟨hn1, hn2⟩, ⟨hr0, hr1⟩, hu3, hcv⟩ := id hM
  refine lv_aload_n hx hb dX7_repair_0 rfl (lv_at hl 0 rfl) ?_
  refine lv_iconst (v := 0) hx hb dX7_repair_1 (by decide) ?_
  refine rw_puti (x := (I, A, K)) (v := 0) S hE hK hP hS 0 (by decide) rfl fk_X7_35 rfl tyX7_ok nmX7 ⟨rfl, by decide +kernel⟩ dX7_repair_2 (fun H locs hP hS => ?_)
  have hP : Wp mN E mK ((up2 I 0 0 0), A, K) H := hP
  refine lv_aload_n hx hb dX7_repair_5 rfl (lv_at hl 0 rfl) ?_
  refine lv_iload_n hx hb dX7_repair_6 rfl (lv_at hl 1 rfl) ?_
  refine lv_iconst (v := 1) hx hb dX7_repair_7 (by decide) ?_
  refine lv_bipush (v := 6) hx hb dX7_repair_8 (by decide) ?_
  refine cn_si (ck_S S lk_X7_58 (c_X7_in l x 1 6) ⟨rfl, rfl⟩ ⟨Nat.le_of_ble_eq_true rfl, Nat.le_of_ble_eq_true rfl⟩ bl_T t_U rfl hl.1 (Nat.le_of_ble_eq_true rfl) ⟨Nat.le_refl _, Nat.le_refl _⟩ dX7_repair_10 rfl) (fun r1 g2 => ?_)
  obtain rfl : r1 = rIn x 1 6 := g2
  refine tp_i (y := 0) (rIn_n kb) ?_
  refine lv_if_ne (tgt := 20) hx hb dX7_repair_13 (by decide) (fun h13 => absurd h13 (by decide)) (fun h13 => ?_)
  refine lv_iconst (v := 1) hx hb dX7_repair_16 (by decide) ?_
  refine lv_goto (tgt := 21) hx hb dX7_repair_17 (by decide) ?_
  refine lv_iconst (v := 1) hx hb dX7_repair_21 (by decide) ?_
  refine cn_wi (ck_V (a := eP E 0) S lk_X7_159 (c_X7_fails_b l E (up2 I 0 0 0) A K 1 hE rfl (by decide)) ⟨rfl, rfl⟩ ⟨Nat.le_of_ble_eq_true rfl, Nat.le_of_ble_eq_true rfl⟩ bl_w (rc_w hK hP 0 (by decide) rfl rfl) (bw_U hE hK hC hP hS) rfl hl.1 (Nat.le_of_ble_eq_true rfl) ⟨Nat.le_refl _, Nat.le_refl _⟩ dX7_repair_22 rfl) hS (fun r3 u4 H locs g5 hP hS => ?_)
  obtain ⟨rfl, rfl⟩ : r3 = 1 ∧ u4 = ((up2 (up2 I 0 0 0) 0 0 1), A, K) := g5
  have hP : Wp mN E mK ((up2 (up2 I 0 0 0) 0 0 1), A, K) H := hP
  refine lv_if_eq (tgt := 30) hx hb dX7_repair_25 (by decide) (fun h25 => absurd h25 (by decide)) (fun h25 => ?_)
  refine lv_iconst (v := 0) hx hb dX7_repair_28 (by decide) ?_
  exact re_wi (x := ((up2 (up2 I 0 0 0) 0 0 1), A, K)) (v := 0) hx hb hr hlk hP hS (by rw [up2_up]) dX7_repair_29

