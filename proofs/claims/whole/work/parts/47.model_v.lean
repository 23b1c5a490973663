def cd2 (D : Nat → Int32) : Nat → Int32 := fun x => D (82 + x)
/-- the need that a row of data asks of a rule in a scheme -/
def nOk (D : Nat → Int32) (u sc : Nat) (v : Int32) : Prop := (0 < D (34 + 4 * u) ∧ v = D (34 + 4 * u + 3)) ∨ (D (34 + 4 * u) ≤ 0 ∧ ((D 2 = 0 ∧ v = 450) ∨ (¬ D 2 = 0 ∧ ∃ M f, M < 1200 ∧ D 3 = nI M ∧ sg (cd2 D) 0 M f ∧ vR (D (34 + 4 * u + 3)) ∧ vR (nI sc) ∧ v = pLim (f (D (34 + 4 * u + 3)) (nI sc)) 100 2100)))
theorem nOk_1 {D : Nat → Int32} {u sc : Nat} {v : Int32} (h : nOk D u sc v) (g : ¬ D (34 + 4 * u) ≤ 0) : D (34 + 4 * u + 3) = v := h.elim (fun q => q.2.symm) (fun q => absurd q.1 g)
theorem nOk_2 {D : Nat → Int32} {u sc : Nat} {v : Int32} (h : nOk D u sc v) (g : D (34 + 4 * u) ≤ 0) (g2 : D 2 = 0) : 450 = v := h.elim (fun q => absurd q.1 (Int32.not_lt.mpr g)) (fun q => q.2.elim (fun r => r.2.symm) (fun r => absurd g2 r.1))
theorem nOk_3 {D : Nat → Int32} {u sc : Nat} {v : Int32} (h : nOk D u sc v) (g : D (34 + 4 * u) ≤ 0) (g2 : ¬ D 2 = 0) : ∃ M f, M < 1200 ∧ D 3 = nI M ∧ sg (cd2 D) 0 M f ∧ vR (D (34 + 4 * u + 3)) ∧ vR (nI sc) ∧ v = pLim (f (D (34 + 4 * u + 3)) (nI sc)) 100 2100 := h.elim (fun q => absurd q.1 (Int32.not_lt.mpr g)) (fun q => q.2.elim (fun r => absurd r.1 g2) (fun r => r.2))
/-- the stack holds a list, its end first -/
def kS (K : Nat → Int64) : List Int64 → Prop
  | [] => True
  | v :: r => K r.length = v ∧ kS K r
theorem kS_up {K : Nat → Nat → Int64} {q : Nat} {v : Int64} : ∀ {l : List Int64} {j : Nat}, l.length ≤ j → kS (K q) l → kS (up2 K q j v q) l
  | [], _, _, _ => True.intro
  | a :: r, j, h, g => ⟨(up2_j (Nat.ne_of_lt (Nat.lt_of_lt_of_le (Nat.lt_succ_self _) h))).trans g.1, kS_up (Nat.le_of_succ_le h) g.2⟩
section CU
variable {cd : Nat → Int32} {am sc : Int32} {N k i : Nat} {st : List Int64} {w : Int64}
theorem cT_fin (h : cT cd am sc N (k + 1) i st = some w) (hi : N ≤ i) : st = [w] := by
  rw [cT_end hi] at h
  cases st with
  | nil => cases h
  | cons v r => cases r with
    | nil => cases h; rfl
    | cons a b => cases h
theorem cT_l (h : cT cd am sc N (k + 1) i st = some w) (hi : i < N) (g : cd i ≤ 1) : i + 1 < N ∧ cT cd am sc N k (i + 2) (cL (cd i) (cd (i + 1)) am sc :: st) = some w := by
  by_cases q : i + 1 < N
  · rw [cT_lit q g] at h
    exact ⟨q, h⟩
  · have e : cT cd am sc N (k + 1) i st = none := (if_neg (by omega)).trans ((if_pos g).trans (if_neg q))
    rw [e] at h
    cases h
theorem cT_o (h : cT cd am sc N (k + 1) i st = some w) (hi : i < N) (g : ¬ cd i ≤ 1) : ∃ b a r, st = b :: a :: r ∧ cT cd am sc N k (i + 1) (rOp (cd i) a b :: r) = some w := by
  cases st with
  | nil =>
    have e : cT cd am sc N (k + 1) i [] = none := (if_neg (by omega)).trans (if_neg g)
    rw [e] at h
    cases h
  | cons b r => cases r with
    | nil =>
      have e : cT cd am sc N (k + 1) i [b] = none := (if_neg (by omega)).trans (if_neg g)
      rw [e] at h
      cases h
    | cons a r => exact ⟨b, a, r, rfl, (cT_op hi g).symm.trans h⟩
theorem cL_0 {a b : Int32} (h : a = 0) : b.toInt64 = cL a b am sc := (if_pos h).symm
theorem cL_1 {a b : Int32} (h : ¬ a = 0) (g : b = 0) : am.toInt64 = cL a b am sc := ((if_neg h).trans (if_pos g)).symm
theorem cL_2 {a b : Int32} (h : ¬ a = 0) (g : ¬ b = 0) : sc.toInt64 = cL a b am sc := ((if_neg h).trans (if_neg g)).symm
end CU
theorem c100 : (100 : Int64).toInt = 100 := by decide
theorem c2100 : (2100 : Int64).toInt = 2100 := by decide
theorem d100 : (100 : Int32).toInt = 100 := by decide
theorem d2100 : (2100 : Int32).toInt = 2100 := by decide
theorem i64_le {x y : Int64} : x ≤ y ↔ x.toInt ≤ y.toInt := Int64.le_iff_toInt_le
theorem lim_a {v : Int32} (h : ¬ (100 : Int64) ≤ v.toInt64) : 100 = pLim v 100 2100 := by
  rw [i64_le, i64_of, c100] at h
  unfold pLim
  rw [if_pos (i32_lt.mpr (by rw [d100]; omega))]
theorem lim_b {v : Int32} (h1 : (100 : Int64) ≤ v.toInt64) (h : ¬ v.toInt64 ≤ (2100 : Int64)) : 2100 = pLim v 100 2100 := by
  rw [i64_le, i64_of, c100] at h1
  rw [i64_le, i64_of, c2100] at h
  unfold pLim
  rw [if_neg (fun q => by have := i32_lt.mp q; rw [d100] at this; omega), if_pos (i32_lt.mpr (by rw [d2100]; omega))]
theorem lim_c {v : Int32} (h1 : (100 : Int64) ≤ v.toInt64) (h : v.toInt64 ≤ (2100 : Int64)) : v.toInt64.toInt32 = pLim v 100 2100 := by
  rw [i64_le, i64_of, c100] at h1
  rw [i64_le, i64_of, c2100] at h
  unfold pLim
  rw [if_neg (fun q => by have := i32_lt.mp q; rw [d100] at this; omega), if_neg (fun q => by have := i32_lt.mp q; rw [d2100] at this; omega)]
  exact Int32.toInt32_toInt64 v
/-- the needs laid -/
def mLay (A : Nat → Nat → Int32) (wn : Nat → Int32) : Nat → Nat → Nat → Int32 := lfo (fun k B => up2 B 14 k (wn k)) A
theorem mLay_at {A : Nat → Nat → Int32} {wn : Nat → Int32} : ∀ n a b, mLay A wn n a b = if a = 14 ∧ b < n then wn b else A a b
  | 0, a, b => by
    rw [if_neg (fun h => by omega)]
    rfl
  | n + 1, a, b => by
    show up2 (mLay A wn n) 14 n (wn n) a b = _
    rw [up2_at, mLay_at n a b]
    by_cases ha : a = 14
    · by_cases hb : b = n
      · subst hb
        simp [ha]
      · by_cases hlt : b < n
        · have h2 : b < n + 1 := by omega
          simp [ha, hb, hlt, h2]
        · have h2 : ¬ b < n + 1 := by omega
          simp [ha, hb, hlt, h2]
    · simp [ha]
theorem mLay_ne {A : Nat → Nat → Int32} {wn : Nat → Int32} {n a : Nat} (h : a ≠ 14) : mLay A wn n a = A a := by
  funext b
  rw [mLay_at, if_neg (fun q => h q.1)]
set_option maxHeartbeats 1000000 in
set_option maxRecDepth 100000 in
theorem c_X7_reckonNeed (l : Launch) (E : En) (I A : Nat → Nat → Int32) (K : Nat → Nat → Int64) (u sc : Nat) (v : Int32) (hE : Ev mN E) (hu12 : u < 12) (hsc : sc < 2) (hv : nOk (A 2) u sc v) : Met l yX7_reckonNeed (wz yX7_reckonNeed cX7_reckonNeed 8 (some .int)) (rmk 2 0 0 45) (va_Pc [.ref (eP E 0), .int (nI u), .int (nI sc)] (Bw mN E mK (I, A, K))) (qWi mN E mK (fun zz uu => zz = v ∧ ∃ ok, uu = (I, A, ok))) 0 0 (cA mN E) := by
  refine en_ofW RX7 rfl (by decide +kernel) (Nat.le_of_ble_eq_true rfl) ?_
  intro p e s m below meth c ls S hr hlk hnm hl hB
  have hx := S.1
  have hb := S.2.1
  obtain ⟨hK, hC, hP⟩ := hB
  have hS : va_S (cA mN E) s.heap s.heap [] := va_S.rf
  have hl : lv_has ls 8 [(0, .ref (eP E 0)), (1, .int (nI u)), (2, .int (nI sc))] := hl
  refine lv_aload_n hx hb dX7_reckonNeed_0 rfl (lv_at hl 0 rfl) ?_
  refine rw_getr (x := (I, A, K)) S hK hP 0 (by decide) rfl fk_X7_17 rfl dX7_reckonNeed_1 ?_
  refine lv_iload_n hx hb dX7_reckonNeed_4 rfl (lv_at hl 1 rfl) ?_
  refine cn_si (ck_S S lk_X7_139 (c_X7_ruleN l u) ⟨rfl, rfl⟩ ⟨Nat.le_of_ble_eq_true rfl, Nat.le_of_ble_eq_true rfl⟩ bl_T t_U rfl hl.1 (Nat.le_of_ble_eq_true rfl) ⟨Nat.le_refl _, Nat.le_refl _⟩ dX7_reckonNeed_5 rfl) (fun r1 g2 => ?_)
  obtain rfl : r1 = nI (34 + 4 * u) := g2
  refine lv_iconst (v := 3) hx hb dX7_reckonNeed_8 (by decide) ?_
  refine lv_iadd hx hb dX7_reckonNeed_9 ?_
  refine tp_i (y := nI ((34 + 4 * u) + 3)) (nI_add (34 + 4 * u) 3) ?_
  refine rw_iald (x := (I, A, K)) (v := A 2 ((34 + 4 * u) + 3)) S hK hP 2 (by decide) rfl ((34 + 4 * u) + 3) rfl (by omega) (by decide) rfl dX7_reckonNeed_10 ?_
  refine lv_istore_n (lv' := [(3, .int (A 2 ((34 + 4 * u) + 3))), (0, .ref (eP E 0)), (1, .int (nI u)), (2, .int (nI sc))]) hx hb dX7_reckonNeed_11 rfl hl (by decide) rfl (fun ls hl => ?_)
  refine lv_iconst (v := 0) hx hb dX7_reckonNeed_12 (by decide) ?_
  refine lv_istore (lv' := [(4, .int 0), (3, .int (A 2 ((34 + 4 * u) + 3))), (0, .ref (eP E 0)), (1, .int (nI u)), (2, .int (nI sc))]) hx hb dX7_reckonNeed_13 hl (by decide) rfl (fun ls hl => ?_)
  refine lv_aload_n hx hb dX7_reckonNeed_15 rfl (lv_at hl 2 rfl) ?_
  refine rw_getr (x := (I, A, K)) S hK hP 0 (by decide) rfl fk_X7_17 rfl dX7_reckonNeed_16 ?_
  refine lv_iload_n hx hb dX7_reckonNeed_19 rfl (lv_at hl 3 rfl) ?_
  refine cn_si (ck_S S lk_X7_139 (c_X7_ruleN l u) ⟨rfl, rfl⟩ ⟨Nat.le_of_ble_eq_true rfl, Nat.le_of_ble_eq_true rfl⟩ bl_T t_U rfl hl.1 (Nat.le_of_ble_eq_true rfl) ⟨Nat.le_refl _, Nat.le_refl _⟩ dX7_reckonNeed_20 rfl) (fun r3 g4 => ?_)
  obtain rfl : r3 = nI (34 + 4 * u) := g4
  refine rw_iald (x := (I, A, K)) (v := A 2 (34 + 4 * u)) S hK hP 2 (by decide) rfl (34 + 4 * u) rfl (by omega) (by decide) rfl dX7_reckonNeed_23 ?_
  refine lv_if_le (tgt := 29) hx hb dX7_reckonNeed_24 (by decide) (fun h24 => ?_) (fun h24 => ?_)
  · refine lv_aload_n hx hb dX7_reckonNeed_29 rfl (lv_at hl 2 rfl) ?_
    refine rw_getr (x := (I, A, K)) S hK hP 0 (by decide) rfl fk_X7_17 rfl dX7_reckonNeed_30 ?_
    refine lv_iconst (v := 2) hx hb dX7_reckonNeed_33 (by decide) ?_
    refine rw_iald (x := (I, A, K)) (v := A 2 2) S hK hP 2 (by decide) rfl 2 rfl (by decide) (by decide) rfl dX7_reckonNeed_34 ?_
    refine lv_if_ne (tgt := 42) hx hb dX7_reckonNeed_35 (by decide) (fun h35 => ?_) (fun h35 => ?_)
    · obtain ⟨M, f, hM, h3, hsg, hva, hvs, hve⟩ := nOk_3 hv h24 h35
      refine lv_iconst (v := 0) hx hb dX7_reckonNeed_42 (by decide) ?_
      refine lv_istore (lv' := [(5, .int 0), (4, .int 0), (3, .int (A 2 ((34 + 4 * u) + 3))), (0, .ref (eP E 0)), (1, .int (nI u)), (2, .int (nI sc))]) hx hb dX7_reckonNeed_43 hl (by decide) rfl (fun ls hl => ?_)
      obtain ⟨mm, hm⟩ := hsg.2 (cd2 (A 2)) (fun _ _ _ => rfl) (A 2 (34 + 4 * u + 3)) (nI sc) hva hvs M (Nat.le_refl _)
      have hT0 : cT (cd2 (A 2)) (A 2 (34 + 4 * u + 3)) (nI sc) M (mm + 1) 0 [] = some (f (A 2 (34 + 4 * u + 3)) (nI sc)).toInt64 := (hm 1 []).trans (cT_end (Nat.le_refl _))
      obtain ⟨wv, hwe⟩ : ∃ wv, f (A 2 (34 + 4 * u + 3)) (nI sc) = wv := ⟨_, rfl⟩
      rw [hwe] at hT0
      rw [hwe] at hve
      have HL : ∀ (k i : Nat) (sl : List Int64) (KK : Nat → Nat → Int64), cT (cd2 (A 2)) (A 2 (34 + 4 * u + 3)) (nI sc) M k i sl = some wv.toInt64 → kS (KK 13) sl → sl.length ≤ i → i ≤ M → ∀ (H : Heap) (locs : List Loc), Wp mN E mK (I, A, KK) H → va_S (cA mN E) s.heap H locs → ∀ ls : Array Slot, lv_has ls 8 [(5, .int (nI i)), (4, .int (nI sl.length)), (3, .int (A 2 ((34 + 4 * u) + 3))), (0, .ref (eP E 0)), (1, .int (nI u)), (2, .int (nI sc))] → W p l e (rmk 2 0 0 45) s m ([.ref (eP E 0), .int (nI u), .int (nI sc)] : List Value).toArray below meth c H locs 0 0 (MQ below (qWi mN E mK (fun zz uu => zz = v ∧ ∃ ok, uu = (I, A, ok))) ([.ref (eP E 0), .int (nI u), .int (nI sc)] : List Value).toArray s 0 0 (cA mN E)) (F0 m 45 ls []) := by
        intro k
        induction k with
        | zero =>
          intro i sl KK hT
          exact nomatch (show (none : Option Int64) = some _ from hT)
        | succ k ih =>
          intro i sl KK hT hk3 hli hiM H locs hP hS ls hl
          refine lv_iload hx hb dX7_reckonNeed_45 (lv_at hl 0 rfl) ?_
          refine lv_aload_n hx hb dX7_reckonNeed_47 rfl (lv_at hl 3 rfl) ?_
          refine rw_getr (x := (I, A, KK)) S hK hP 0 (by decide) rfl fk_X7_17 rfl dX7_reckonNeed_48 ?_
          refine lv_iconst (v := 3) hx hb dX7_reckonNeed_51 (by decide) ?_
          refine rw_iald (x := (I, A, KK)) (v := nI M) S hK hP 2 (by decide) rfl 3 rfl (by decide) (by decide) h3 dX7_reckonNeed_52 ?_
          refine lv_icmp_ge (tgt := 164) hx hb dX7_reckonNeed_53 (by decide) (fun h53 => ?_) (fun h53 => ?_)
          · have hMi : M ≤ i := Nat.not_lt.mp (fun g => h53 |> fun q => nI_ge g (by omega) q)
            obtain rfl := cT_fin hT hMi
            have hk0 : KK 13 0 = wv.toInt64 := hk3.1
            refine lv_aload_n hx hb dX7_reckonNeed_164 rfl (lv_at hl 3 rfl) ?_
            refine rw_getr (x := (I, A, KK)) S hK hP 0 (by decide) rfl fk_X7_28 rfl dX7_reckonNeed_165 ?_
            refine lv_iconst (v := 0) hx hb dX7_reckonNeed_168 (by decide) ?_
            refine rw_lald (x := (I, A, KK)) (v := wv.toInt64) S hK hP 13 (by decide) rfl 0 rfl (by decide) (by decide) hk0 dX7_reckonNeed_169 ?_
            refine lv_ldc2 (v := 100) hx hb S.2.2.2.1 (S.2.2.2.2 _ kc_X7_213) dX7_reckonNeed_170 ?_
            refine W.lcmp hx hb dX7_reckonNeed_173 ?_
            refine lv_if_ge (tgt := 182) hx hb dX7_reckonNeed_174 (by decide) (fun h174 => ?_) (fun h174 => ?_)
            · refine lv_aload_n hx hb dX7_reckonNeed_182 rfl (lv_at hl 3 rfl) ?_
              refine rw_getr (x := (I, A, KK)) S hK hP 0 (by decide) rfl fk_X7_28 rfl dX7_reckonNeed_183 ?_
              refine lv_iconst (v := 0) hx hb dX7_reckonNeed_186 (by decide) ?_
              refine rw_lald (x := (I, A, KK)) (v := wv.toInt64) S hK hP 13 (by decide) rfl 0 rfl (by decide) (by decide) hk0 dX7_reckonNeed_187 ?_
              refine lv_ldc2 (v := 2100) hx hb S.2.2.2.1 (S.2.2.2.2 _ kc_X7_215) dX7_reckonNeed_188 ?_
              refine W.lcmp hx hb dX7_reckonNeed_191 ?_
              refine lv_if_le (tgt := 201) hx hb dX7_reckonNeed_192 (by decide) (fun h192 => ?_) (fun h192 => ?_)
              · refine lv_aload_n hx hb dX7_reckonNeed_201 rfl (lv_at hl 3 rfl) ?_
                refine rw_getr (x := (I, A, KK)) S hK hP 0 (by decide) rfl fk_X7_28 rfl dX7_reckonNeed_202 ?_
                refine lv_iconst (v := 0) hx hb dX7_reckonNeed_205 (by decide) ?_
                refine rw_lald (x := (I, A, KK)) (v := wv.toInt64) S hK hP 13 (by decide) rfl 0 rfl (by decide) (by decide) hk0 dX7_reckonNeed_206 ?_
                refine lv_l2i hx hb dX7_reckonNeed_207 rfl ?_
                exact re_wi (x := (I, A, KK)) (v := wv.toInt64.toInt32) hx hb hr hlk hP hS ⟨(lim_c (lc_ge.mp h174) (lc_le.mp h192)).trans hve.symm, _, rfl⟩ dX7_reckonNeed_208
              · refine lv_sipush (v := 2100) hx hb dX7_reckonNeed_195 (by decide) ?_
                refine lv_goto (tgt := 208) hx hb dX7_reckonNeed_198 (by decide) ?_
                exact re_wi (x := (I, A, KK)) (v := 2100) hx hb hr hlk hP hS ⟨(lim_b (lc_ge.mp h174) (fun q => h192 (lc_le.mpr q))).trans hve.symm, _, rfl⟩ dX7_reckonNeed_208
            · refine lv_bipush (v := 100) hx hb dX7_reckonNeed_177 (by decide) ?_
              refine lv_goto (tgt := 208) hx hb dX7_reckonNeed_179 (by decide) ?_
              exact re_wi (x := (I, A, KK)) (v := 100) hx hb hr hlk hP hS ⟨(lim_a (fun q => h174 (lc_ge.mpr q))).trans hve.symm, _, rfl⟩ dX7_reckonNeed_208
          · have hMi : i < M := Nat.not_le.mp (fun g => h53 (nI_le g (by omega)))
            refine lv_aload_n hx hb dX7_reckonNeed_56 rfl (lv_at hl 3 rfl) ?_
            refine rw_getr (x := (I, A, KK)) S hK hP 0 (by decide) rfl fk_X7_17 rfl dX7_reckonNeed_57 ?_
            refine lv_bipush (v := 82) hx hb dX7_reckonNeed_60 (by decide) ?_
            refine lv_iload hx hb dX7_reckonNeed_62 (lv_at hl 0 rfl) ?_
            refine lv_iadd hx hb dX7_reckonNeed_64 ?_
            refine tp_i (y := nI (82 + i)) (nI_add 82 i) ?_
            refine rw_iald (x := (I, A, KK)) (v := A 2 (82 + i)) S hK hP 2 (by decide) rfl (82 + i) rfl (by omega) (by decide) rfl dX7_reckonNeed_65 ?_
            refine lv_istore (lv' := [(6, .int (A 2 (82 + i))), (5, .int (nI i)), (4, .int (nI sl.length)), (3, .int (A 2 ((34 + 4 * u) + 3))), (0, .ref (eP E 0)), (1, .int (nI u)), (2, .int (nI sc))]) hx hb dX7_reckonNeed_66 hl (by decide) rfl (fun ls hl => ?_)
            refine lv_iload hx hb dX7_reckonNeed_68 (lv_at hl 0 rfl) ?_
            refine lv_iconst (v := 1) hx hb dX7_reckonNeed_70 (by decide) ?_
            refine lv_icmp_gt (tgt := 125) hx hb dX7_reckonNeed_71 (by decide) (fun h71 => ?_) (fun h71 => ?_)
            · obtain ⟨sb, sa, sr, rfl, hTo⟩ := cT_o hT hMi (Int32.not_le.mpr h71)
              have hll : sr.length + 1 + 1 ≤ i := hli
              have hl : lv_has ls 8 [(6, .int (A 2 (82 + i))), (5, .int (nI i)), (4, .int (nI (sr.length + 1 + 1))), (3, .int (A 2 ((34 + 4 * u) + 3))), (0, .ref (eP E 0)), (1, .int (nI u)), (2, .int (nI sc))] := hl
              refine lv_iinc (v := nI (sr.length + 1)) (lv' := [(4, .int (nI (sr.length + 1))), (6, .int (A 2 (82 + i))), (5, .int (nI i)), (3, .int (A 2 ((34 + 4 * u) + 3))), (0, .ref (eP E 0)), (1, .int (nI u)), (2, .int (nI sc))]) hx hb dX7_reckonNeed_125 hl (k := 2) rfl (pk_m1 _) (by decide) rfl (fun ls hl => ?_)
              refine lv_aload_n hx hb dX7_reckonNeed_128 rfl (lv_at hl 4 rfl) ?_
              refine rw_getr (x := (I, A, KK)) S hK hP 0 (by decide) rfl fk_X7_28 rfl dX7_reckonNeed_129 ?_
              refine lv_iload hx hb dX7_reckonNeed_132 (lv_at hl 0 rfl) ?_
              refine lv_iconst (v := 1) hx hb dX7_reckonNeed_134 (by decide) ?_
              refine lv_isub hx hb dX7_reckonNeed_135 ?_
              refine tp_i (y := nI sr.length) (nI_pred _) ?_
              refine lv_iload hx hb dX7_reckonNeed_136 (lv_at hl 1 rfl) ?_
              refine lv_aload_n hx hb dX7_reckonNeed_138 rfl (lv_at hl 4 rfl) ?_
              refine rw_getr (x := (I, A, KK)) S hK hP 0 (by decide) rfl fk_X7_28 rfl dX7_reckonNeed_139 ?_
              refine lv_iload hx hb dX7_reckonNeed_142 (lv_at hl 0 rfl) ?_
              refine lv_iconst (v := 1) hx hb dX7_reckonNeed_144 (by decide) ?_
              refine lv_isub hx hb dX7_reckonNeed_145 ?_
              refine tp_i (y := nI sr.length) (nI_pred _) ?_
              refine rw_lald (x := (I, A, KK)) (v := sa) S hK hP 13 (by decide) rfl sr.length rfl (by omega) (by decide) hk3.2.1 dX7_reckonNeed_146 ?_
              refine lv_aload_n hx hb dX7_reckonNeed_147 rfl (lv_at hl 4 rfl) ?_
              refine rw_getr (x := (I, A, KK)) S hK hP 0 (by decide) rfl fk_X7_28 rfl dX7_reckonNeed_148 ?_
              refine lv_iload hx hb dX7_reckonNeed_151 (lv_at hl 0 rfl) ?_
              refine rw_lald (x := (I, A, KK)) (v := sb) S hK hP 13 (by decide) rfl (sr.length + 1) rfl (by omega) (by decide) hk3.1 dX7_reckonNeed_153 ?_
              refine cn_sl (ck_S S lk_X7_209 (c_X7_operate l (A 2 (82 + i)) sa sb) ⟨rfl, rfl⟩ ⟨Nat.le_of_ble_eq_true rfl, Nat.le_of_ble_eq_true rfl⟩ bl_T t_U rfl hl.1 (Nat.le_of_ble_eq_true rfl) ⟨Nat.le_refl _, Nat.le_refl _⟩ dX7_reckonNeed_154 rfl) (fun r5 g6 => ?_)
              obtain rfl : r5 = rOp (A 2 (82 + i)) sa sb := g6
              refine rw_last (x := (I, A, KK)) (v := (rOp (A 2 (82 + i)) sa sb)) S hE hK hP hS 13 (by decide) rfl sr.length rfl (by omega) (by decide) dX7_reckonNeed_157 (fun H locs hP hS => ?_)
              have hP : Wp mN E mK (I, A, (up2 KK 13 sr.length (rOp (A 2 (82 + i)) sa sb))) H := hP
              refine lv_iinc (v := nI (i + 1)) (lv' := [(5, .int (nI (i + 1))), (4, .int (nI (sr.length + 1))), (6, .int (A 2 (82 + i))), (3, .int (A 2 ((34 + 4 * u) + 3))), (0, .ref (eP E 0)), (1, .int (nI u)), (2, .int (nI sc))]) hx hb dX7_reckonNeed_158 hl (k := 2) rfl (nI_1 _) (by decide) rfl (fun ls hl => ?_)
              refine lv_goto (tgt := 45) hx hb dX7_reckonNeed_161 (by decide) ?_
              exact ih (i + 1) (rOp (cd2 (A 2) i) sa sb :: sr) _ hTo ⟨up2_eq, kS_up (Nat.le_refl _) hk3.2.2⟩ (by have : (sb :: sa :: sr).length = sr.length + 1 + 1 := rfl; show sr.length + 1 ≤ i + 1; omega) (by omega) _ _ hP hS ls (lv_sub hl [0, 1, 3, 4, 5, 6] rfl)
            · have hTl := cT_l hT hMi (Int32.not_lt.mp h71)
              have hi1 := hTl.1
              refine lv_iinc (v := nI (i + 1)) (lv' := [(5, .int (nI (i + 1))), (6, .int (A 2 (82 + i))), (4, .int (nI sl.length)), (3, .int (A 2 ((34 + 4 * u) + 3))), (0, .ref (eP E 0)), (1, .int (nI u)), (2, .int (nI sc))]) hx hb dX7_reckonNeed_74 hl (k := 1) rfl (nI_1 _) (by decide) rfl (fun ls hl => ?_)
              refine lv_aload_n hx hb dX7_reckonNeed_77 rfl (lv_at hl 4 rfl) ?_
              refine rw_getr (x := (I, A, KK)) S hK hP 0 (by decide) rfl fk_X7_17 rfl dX7_reckonNeed_78 ?_
              refine lv_bipush (v := 82) hx hb dX7_reckonNeed_81 (by decide) ?_
              refine lv_iload hx hb dX7_reckonNeed_83 (lv_at hl 0 rfl) ?_
              refine lv_iadd hx hb dX7_reckonNeed_85 ?_
              refine tp_i (y := nI (82 + (i + 1))) (nI_add 82 (i + 1)) ?_
              refine rw_iald (x := (I, A, KK)) (v := A 2 (82 + (i + 1))) S hK hP 2 (by decide) rfl (82 + (i + 1)) rfl (by omega) (by decide) rfl dX7_reckonNeed_86 ?_
              refine lv_istore (lv' := [(7, .int (A 2 (82 + (i + 1)))), (5, .int (nI (i + 1))), (6, .int (A 2 (82 + i))), (4, .int (nI sl.length)), (3, .int (A 2 ((34 + 4 * u) + 3))), (0, .ref (eP E 0)), (1, .int (nI u)), (2, .int (nI sc))]) hx hb dX7_reckonNeed_87 hl (by decide) rfl (fun ls hl => ?_)
              refine lv_aload_n hx hb dX7_reckonNeed_89 rfl (lv_at hl 5 rfl) ?_
              refine rw_getr (x := (I, A, KK)) S hK hP 0 (by decide) rfl fk_X7_28 rfl dX7_reckonNeed_90 ?_
              refine lv_iload hx hb dX7_reckonNeed_93 (lv_at hl 3 rfl) ?_
              refine lv_iload hx hb dX7_reckonNeed_95 (lv_at hl 2 rfl) ?_
              refine lv_if_ne (tgt := 106) hx hb dX7_reckonNeed_97 (by decide) (fun h97 => ?_) (fun h97 => ?_)
              · refine lv_iload hx hb dX7_reckonNeed_106 (lv_at hl 0 rfl) ?_
                refine lv_if_ne (tgt := 116) hx hb dX7_reckonNeed_108 (by decide) (fun h108 => ?_) (fun h108 => ?_)
                · refine lv_iload_n hx hb dX7_reckonNeed_116 rfl (lv_at hl 7 rfl) ?_
                  refine lv_i2l hx hb dX7_reckonNeed_117 rfl ?_
                  refine rw_last (x := (I, A, KK)) (v := (nI sc).toInt64) S hE hK hP hS 13 (by decide) rfl sl.length rfl (by omega) (by decide) dX7_reckonNeed_118 (fun H locs hP hS => ?_)
                  have hP : Wp mN E mK (I, A, (up2 KK 13 sl.length ((nI sc).toInt64))) H := hP
                  refine lv_iinc (v := nI (sl.length + 1)) (lv' := [(4, .int (nI (sl.length + 1))), (7, .int (A 2 (82 + (i + 1)))), (5, .int (nI (i + 1))), (6, .int (A 2 (82 + i))), (3, .int (A 2 ((34 + 4 * u) + 3))), (0, .ref (eP E 0)), (1, .int (nI u)), (2, .int (nI sc))]) hx hb dX7_reckonNeed_119 hl (k := 3) rfl (nI_1 _) (by decide) rfl (fun ls hl => ?_)
                  refine lv_goto (tgt := 158) hx hb dX7_reckonNeed_122 (by decide) ?_
                  refine lv_iinc (v := nI ((i + 1) + 1)) (lv' := [(5, .int (nI ((i + 1) + 1))), (4, .int (nI (sl.length + 1))), (7, .int (A 2 (82 + (i + 1)))), (6, .int (A 2 (82 + i))), (3, .int (A 2 ((34 + 4 * u) + 3))), (0, .ref (eP E 0)), (1, .int (nI u)), (2, .int (nI sc))]) hx hb dX7_reckonNeed_158 hl (k := 2) rfl (nI_1 _) (by decide) rfl (fun ls hl => ?_)
                  refine lv_goto (tgt := 45) hx hb dX7_reckonNeed_161 (by decide) ?_
                  exact ih (i + 2) (cL (cd2 (A 2) i) (cd2 (A 2) (i + 1)) (A 2 (34 + 4 * u + 3)) (nI sc) :: sl) _ hTl.2 ⟨up2_eq.trans (cL_2 h97 h108), kS_up (Nat.le_refl _) hk3⟩ (by show sl.length + 1 ≤ i + 2; omega) (by omega) _ _ hP hS ls (lv_sub hl [0, 1, 4, 5, 6, 7] rfl)
                · refine lv_iload_n hx hb dX7_reckonNeed_111 rfl (lv_at hl 4 rfl) ?_
                  refine lv_i2l hx hb dX7_reckonNeed_112 rfl ?_
                  refine lv_goto (tgt := 118) hx hb dX7_reckonNeed_113 (by decide) ?_
                  refine rw_last (x := (I, A, KK)) (v := (A 2 ((34 + 4 * u) + 3)).toInt64) S hE hK hP hS 13 (by decide) rfl sl.length rfl (by omega) (by decide) dX7_reckonNeed_118 (fun H locs hP hS => ?_)
                  have hP : Wp mN E mK (I, A, (up2 KK 13 sl.length ((A 2 ((34 + 4 * u) + 3)).toInt64))) H := hP
                  refine lv_iinc (v := nI (sl.length + 1)) (lv' := [(4, .int (nI (sl.length + 1))), (7, .int (A 2 (82 + (i + 1)))), (5, .int (nI (i + 1))), (6, .int (A 2 (82 + i))), (3, .int (A 2 ((34 + 4 * u) + 3))), (0, .ref (eP E 0)), (1, .int (nI u)), (2, .int (nI sc))]) hx hb dX7_reckonNeed_119 hl (k := 3) rfl (nI_1 _) (by decide) rfl (fun ls hl => ?_)
                  refine lv_goto (tgt := 158) hx hb dX7_reckonNeed_122 (by decide) ?_
                  refine lv_iinc (v := nI ((i + 1) + 1)) (lv' := [(5, .int (nI ((i + 1) + 1))), (4, .int (nI (sl.length + 1))), (7, .int (A 2 (82 + (i + 1)))), (6, .int (A 2 (82 + i))), (3, .int (A 2 ((34 + 4 * u) + 3))), (0, .ref (eP E 0)), (1, .int (nI u)), (2, .int (nI sc))]) hx hb dX7_reckonNeed_158 hl (k := 2) rfl (nI_1 _) (by decide) rfl (fun ls hl => ?_)
                  refine lv_goto (tgt := 45) hx hb dX7_reckonNeed_161 (by decide) ?_
                  exact ih (i + 2) (cL (cd2 (A 2) i) (cd2 (A 2) (i + 1)) (A 2 (34 + 4 * u + 3)) (nI sc) :: sl) _ hTl.2 ⟨up2_eq.trans (cL_1 h97 h108), kS_up (Nat.le_refl _) hk3⟩ (by show sl.length + 1 ≤ i + 2; omega) (by omega) _ _ hP hS ls (lv_sub hl [0, 1, 4, 5, 6, 7] rfl)
              · refine lv_iload hx hb dX7_reckonNeed_100 (lv_at hl 0 rfl) ?_
                refine lv_i2l hx hb dX7_reckonNeed_102 rfl ?_
                refine lv_goto (tgt := 118) hx hb dX7_reckonNeed_103 (by decide) ?_
                refine rw_last (x := (I, A, KK)) (v := (A 2 (82 + (i + 1))).toInt64) S hE hK hP hS 13 (by decide) rfl sl.length rfl (by omega) (by decide) dX7_reckonNeed_118 (fun H locs hP hS => ?_)
                have hP : Wp mN E mK (I, A, (up2 KK 13 sl.length ((A 2 (82 + (i + 1))).toInt64))) H := hP
                refine lv_iinc (v := nI (sl.length + 1)) (lv' := [(4, .int (nI (sl.length + 1))), (7, .int (A 2 (82 + (i + 1)))), (5, .int (nI (i + 1))), (6, .int (A 2 (82 + i))), (3, .int (A 2 ((34 + 4 * u) + 3))), (0, .ref (eP E 0)), (1, .int (nI u)), (2, .int (nI sc))]) hx hb dX7_reckonNeed_119 hl (k := 3) rfl (nI_1 _) (by decide) rfl (fun ls hl => ?_)
                refine lv_goto (tgt := 158) hx hb dX7_reckonNeed_122 (by decide) ?_
                refine lv_iinc (v := nI ((i + 1) + 1)) (lv' := [(5, .int (nI ((i + 1) + 1))), (4, .int (nI (sl.length + 1))), (7, .int (A 2 (82 + (i + 1)))), (6, .int (A 2 (82 + i))), (3, .int (A 2 ((34 + 4 * u) + 3))), (0, .ref (eP E 0)), (1, .int (nI u)), (2, .int (nI sc))]) hx hb dX7_reckonNeed_158 hl (k := 2) rfl (nI_1 _) (by decide) rfl (fun ls hl => ?_)
                refine lv_goto (tgt := 45) hx hb dX7_reckonNeed_161 (by decide) ?_
                exact ih (i + 2) (cL (cd2 (A 2) i) (cd2 (A 2) (i + 1)) (A 2 (34 + 4 * u + 3)) (nI sc) :: sl) _ hTl.2 ⟨up2_eq.trans (cL_0 h97), kS_up (Nat.le_refl _) hk3⟩ (by show sl.length + 1 ≤ i + 2; omega) (by omega) _ _ hP hS ls (lv_sub hl [0, 1, 4, 5, 6, 7] rfl)
      exact HL _ 0 [] _ hT0 True.intro (Nat.le_refl _) (Nat.zero_le _) _ _ hP hS ls (lv_sub hl [0, 1, 2, 3, 4, 5] rfl)
    · refine lv_sipush (v := 450) hx hb dX7_reckonNeed_38 (by decide) ?_
      exact re_wi (x := (I, A, K)) (v := 450) hx hb hr hlk hP hS ⟨nOk_2 hv h24 h35, _, rfl⟩ dX7_reckonNeed_41
  · refine lv_iload_n hx hb dX7_reckonNeed_27 rfl (lv_at hl 1 rfl) ?_
    exact re_wi (x := (I, A, K)) (v := A 2 ((34 + 4 * u) + 3)) hx hb hr hlk hP hS ⟨nOk_1 hv h24, _, rfl⟩ dX7_reckonNeed_28

set_option maxHeartbeats 1000000 in
set_option maxRecDepth 100000 in
theorem c_X7_layNeeds (l : Launch) (E : En) (I A : Nat → Nat → Int32) (K : Nat → Nat → Int64) (nu : Nat) (wn : Nat → Int32) (hE : Ev mN E) (hnu : nu ≤ 12) (hd1 : A 2 1 = nI nu) (hnd : ∀ u, u < nu → ∀ sc, sc < 2 → nOk (A 2) u sc (wn (2 * u + sc))) : Met l yX7_layNeeds (wz yX7_layNeeds cX7_layNeeds 2 none) (rmk 3 0 0 72) (va_Pc [.ref (eP E 0)] (Bw mN E mK (I, A, K))) (qWv mN E mK (fun uu => ∃ ok, uu = (I, mLay A wn (2 * nu), ok))) 0 0 (cA mN E) := by
  refine en_ofW RX7 rfl (by decide +kernel) (Nat.le_of_ble_eq_true rfl) ?_
  intro p e s m below meth c ls S hr hlk hnm hl hB
  have hx := S.1
  have hb := S.2.1
  obtain ⟨hK, hC, hP⟩ := hB
  have hS : va_S (cA mN E) s.heap s.heap [] := va_S.rf
  have hl : lv_has ls 2 [(0, .ref (eP E 0))] := hl
  refine lv_iconst (v := 0) hx hb dX7_layNeeds_0 (by decide) ?_
  refine lv_istore_n (lv' := [(1, .int 0), (0, .ref (eP E 0))]) hx hb dX7_layNeeds_1 rfl hl (by decide) rfl (fun ls hl => ?_)
  have HL : ∀ (n i : Nat) (KK : Nat → Nat → Int64), i + n = (2 * nu) → ∀ (H : Heap) (locs : List Loc), Wp mN E mK (I, (mLay A wn i), KK) H → va_S (cA mN E) s.heap H locs → ∀ ls : Array Slot, lv_has ls 2 [(1, .int (nI i)), (0, .ref (eP E 0))] → W p l e (rmk 3 0 0 72) s m ([.ref (eP E 0)] : List Value).toArray below meth c H locs 0 0 (MQ below (qWv mN E mK (fun uu => ∃ ok, uu = (I, mLay A wn (2 * nu), ok))) ([.ref (eP E 0)] : List Value).toArray s 0 0 (cA mN E)) (F0 m 2 ls []) := by
    intro n
    induction n with
    | zero =>
      intro i KK hi H locs hP hS ls hl
      have hiN : i = (2 * nu) := by omega
      rw [hiN] at hl
      try rw [hiN] at hP
      refine lv_iload_n hx hb dX7_layNeeds_2 rfl (lv_at hl 0 rfl) ?_
      refine lv_iconst (v := 2) hx hb dX7_layNeeds_3 (by decide) ?_
      refine lv_aload_n hx hb dX7_layNeeds_4 rfl (lv_at hl 1 rfl) ?_
      refine rw_getr (x := (I, (mLay A wn (2 * nu)), KK)) S hK hP 0 (by decide) rfl fk_X7_17 rfl dX7_layNeeds_5 ?_
      refine lv_iconst (v := 1) hx hb dX7_layNeeds_8 (by decide) ?_
      refine rw_iald (x := (I, (mLay A wn (2 * nu)), KK)) (v := nI nu) S hK hP 2 (by decide) rfl 1 rfl (by decide) (by decide) ((congrFun (mLay_ne (by decide)) 1).trans hd1) dX7_layNeeds_9 ?_
      refine lv_imul hx hb dX7_layNeeds_10 ?_
      refine tp_i (y := nI (2 * nu)) (pk_mul 2 nu) ?_
      refine lv_icmp_ge (tgt := 36) hx hb dX7_layNeeds_11 (by decide) (fun h11 => ?_) (fun h11 => absurd (Int32.le_refl _) h11)
      exact re_wv (x := (I, (mLay A wn (2 * nu)), KK)) hx hb hr hlk hP hS ⟨_, rfl⟩ dX7_layNeeds_36
    | succ n ih =>
      intro i KK hi H locs hP hS ls hl
      have hlt : i < (2 * nu) := by omega
      refine lv_iload_n hx hb dX7_layNeeds_2 rfl (lv_at hl 0 rfl) ?_
      refine lv_iconst (v := 2) hx hb dX7_layNeeds_3 (by decide) ?_
      refine lv_aload_n hx hb dX7_layNeeds_4 rfl (lv_at hl 1 rfl) ?_
      refine rw_getr (x := (I, (mLay A wn i), KK)) S hK hP 0 (by decide) rfl fk_X7_17 rfl dX7_layNeeds_5 ?_
      refine lv_iconst (v := 1) hx hb dX7_layNeeds_8 (by decide) ?_
      refine rw_iald (x := (I, (mLay A wn i), KK)) (v := nI nu) S hK hP 2 (by decide) rfl 1 rfl (by decide) (by decide) ((congrFun (mLay_ne (by decide)) 1).trans hd1) dX7_layNeeds_9 ?_
      refine lv_imul hx hb dX7_layNeeds_10 ?_
      refine tp_i (y := nI (2 * nu)) (pk_mul 2 nu) ?_
      refine lv_icmp_ge (tgt := 36) hx hb dX7_layNeeds_11 (by decide) (fun h11 => absurd h11 (nI_ge hlt (by omega))) (fun h11 => ?_)
      refine lv_aload_n hx hb dX7_layNeeds_14 rfl (lv_at hl 1 rfl) ?_
      refine rw_getr (x := (I, (mLay A wn i), KK)) S hK hP 0 (by decide) rfl fk_X7_32 rfl dX7_layNeeds_15 ?_
      refine lv_iload_n hx hb dX7_layNeeds_18 rfl (lv_at hl 0 rfl) ?_
      refine lv_aload_n hx hb dX7_layNeeds_19 rfl (lv_at hl 1 rfl) ?_
      refine lv_iload_n hx hb dX7_layNeeds_20 rfl (lv_at hl 0 rfl) ?_
      refine lv_iconst (v := 2) hx hb dX7_layNeeds_21 (by decide) ?_
      refine lv_idiv hx hb dX7_layNeeds_22 (by decide) ?_
      refine tp_i (y := nI (i / 2)) (pk_div (by omega) (by decide) (by decide)) ?_
      refine lv_iload_n hx hb dX7_layNeeds_23 rfl (lv_at hl 0 rfl) ?_
      refine lv_iconst (v := 2) hx hb dX7_layNeeds_24 (by decide) ?_
      refine lv_irem hx hb dX7_layNeeds_25 (by decide) ?_
      refine tp_i (y := nI (i % 2)) (pk_rem (by omega) (by decide) (by decide)) ?_
      refine cn_wi (ck_V (a := eP E 0) S lk_X7_217 (c_X7_reckonNeed l E I (mLay A wn i) KK (i / 2) (i % 2) (wn i) hE (by omega) (by omega) (by rw [mLay_ne (by decide)]; have hq := hnd (i / 2) (by omega) (i % 2) (by omega); rw [show 2 * (i / 2) + i % 2 = i by omega] at hq; exact hq)) ⟨rfl, rfl⟩ ⟨Nat.le_of_ble_eq_true rfl, Nat.le_of_ble_eq_true rfl⟩ bl_w (rc_w hK hP 0 (by decide) rfl rfl) (bw_U hE hK hC hP hS) rfl hl.1 (Nat.le_of_ble_eq_true rfl) ⟨Nat.le_refl _, Nat.le_refl _⟩ dX7_layNeeds_26 rfl) hS (fun r1 u2 H locs g3 hP hS => ?_)
      obtain ⟨rfl, K4, rfl⟩ : r1 = (wn i) ∧ ∃ ok, u2 = (I, (mLay A wn i), ok) := g3
      have hP : Wp mN E mK (I, (mLay A wn i), K4) H := hP
      refine rw_iast (x := (I, (mLay A wn i), K4)) (v := (wn i)) S hE hK hP hS 14 (by decide) rfl i rfl (by omega) (by decide) dX7_layNeeds_29 (fun H locs hP hS => ?_)
      have hP : Wp mN E mK (I, (up2 (mLay A wn i) 14 i (wn i)), K4) H := hP
      refine lv_iinc (v := nI (i + 1)) (lv' := [(1, .int (nI (i + 1))), (0, .ref (eP E 0))]) hx hb dX7_layNeeds_30 hl (k := 0) rfl (nI_1 _) (by decide) rfl (fun ls hl => ?_)
      refine lv_goto (tgt := 2) hx hb dX7_layNeeds_33 (by decide) ?_
      exact ih (i + 1) _ (by omega) _ _ hP hS ls (lv_sub hl [0, 1] rfl)
  exact HL (2 * nu) 0 _ (by omega) _ _ hP hS ls (lv_sub hl [0, 1] rfl)

set_option maxHeartbeats 1000000 in
set_option maxRecDepth 100000 in
theorem c_X7_undo_0 (l : Launch) (E : En) (I A : Nat → Nat → Int32) (K : Nat → Nat → Int64)  (hE : Ev mN E) (hud : I 0 11 = 0) : Met l yX7_undo (wz yX7_undo cX7_undo 1 (some .int)) (rmk 0 0 0 0) (va_Pc [.ref (eP E 0)] (Bw mN E mK (I, A, K))) (qWi mN E mK (fun zz uu => zz = -1 ∧ uu = (up2 I 0 0 0, A, K))) 0 0 (cA mN E) := by
  refine en_ofW RX7 rfl (by decide +kernel) (Nat.le_of_ble_eq_true rfl) ?_
  intro p e s m below meth c ls S hr hlk hnm hl hB
  have hx := S.1
  have hb := S.2.1
  obtain ⟨hK, hC, hP⟩ := hB
  have hS : va_S (cA mN E) s.heap s.heap [] := va_S.rf
  have hl : lv_has ls 1 [(0, .ref (eP E 0))] := hl
  refine lv_aload_n hx hb dX7_undo_0 rfl (lv_at hl 0 rfl) ?_
  refine lv_iconst (v := 0) hx hb dX7_undo_1 (by decide) ?_
  refine rw_puti (x := (I, A, K)) (v := 0) S hE hK hP hS 0 (by decide) rfl fk_X7_35 rfl tyX7_ok nmX7 ⟨rfl, by decide +kernel⟩ dX7_undo_2 (fun H locs hP hS => ?_)
  have hP : Wp mN E mK ((up2 I 0 0 0), A, K) H := hP
  refine lv_aload_n hx hb dX7_undo_5 rfl (lv_at hl 0 rfl) ?_
  refine rw_geti (x := ((up2 I 0 0 0), A, K)) (v := 0) S hK hP 0 (by decide) rfl fk_X7_283 rfl ((up2_j (f := I) (q := 0) (j := 0) (a := 0) (b := 11) (v := 0) (by decide)).trans hud) dX7_undo_6 ?_
  refine lv_if_ne (tgt := 14) hx hb dX7_undo_9 (by decide) (fun h9 => absurd h9 (by decide)) (fun h9 => ?_)
  refine lv_iconst (v := (-1)) hx hb dX7_undo_12 (by decide) ?_
  exact re_wi (x := ((up2 I 0 0 0), A, K)) (v := (-1)) hx hb hr hlk hP hS ⟨rfl, rfl⟩ dX7_undo_13

theorem nOk_x {D B : Nat → Int32} {u sc : Nat} {v : Int32} (e : ∀ b, b < 1282 → B b = D b) (hu : u < 12) (h : nOk D u sc v) : nOk B u sc v := by
  unfold nOk at *
  rw [e (34 + 4 * u) (by omega), e (34 + 4 * u + 3) (by omega), e 2 (by omega), e 3 (by omega)]
  rcases h with h | ⟨h1, h | ⟨h2, M, f, h3, h4, h5, h6⟩⟩
  · exact Or.inl h
  · exact Or.inr ⟨h1, Or.inl h⟩
  · exact Or.inr ⟨h1, Or.inr ⟨h2, M, f, h3, h4, sg_ext (fun x _ hx => e (82 + x) (by omega)) h5, h6⟩⟩
set_option maxHeartbeats 1000000 in
set_option maxRecDepth 100000 in
theorem c_X7_undo (l : Launch) (E : En) (I A : Nat → Nat → Int32) (K : Nat → Nat → Int64) (ud nu : Nat) (wn : Nat → Int32) (hE : Ev mN E) (hud : I 0 11 = nI (ud + 1)) (hu8 : ud < 8) (hnu : nu ≤ 12) (hd1 : A (5 + ud) 1 = nI nu) (hnd : ∀ u, u < nu → ∀ sc, sc < 2 → nOk (A (5 + ud)) u sc (wn (2 * u + sc))) : Met l yX7_undo (wz yX7_undo cX7_undo 1 (some .int)) (rmk 4 0 0 93) (va_Pc [.ref (eP E 0)] (Bw mN E mK (I, A, K))) (qWi mN E mK (fun zz uu => zz = nI ud ∧ ∃ ok, uu = (up2 (up2 I 0 0 0) 0 11 (nI ud), mLay (mCp A (5 + ud) 2 1282) wn (2 * nu), ok))) 0 0 (cA mN E) := by
  refine en_ofW RX7 rfl (by decide +kernel) (Nat.le_of_ble_eq_true rfl) ?_
  intro p e s m below meth c ls S hr hlk hnm hl hB
  have hx := S.1
  have hb := S.2.1
  obtain ⟨hK, hC, hP⟩ := hB
  have hS : va_S (cA mN E) s.heap s.heap [] := va_S.rf
  have hl : lv_has ls 1 [(0, .ref (eP E 0))] := hl
  refine lv_aload_n hx hb dX7_undo_0 rfl (lv_at hl 0 rfl) ?_
  refine lv_iconst (v := 0) hx hb dX7_undo_1 (by decide) ?_
  refine rw_puti (x := (I, A, K)) (v := 0) S hE hK hP hS 0 (by decide) rfl fk_X7_35 rfl tyX7_ok nmX7 ⟨rfl, by decide +kernel⟩ dX7_undo_2 (fun H locs hP hS => ?_)
  have hP : Wp mN E mK ((up2 I 0 0 0), A, K) H := hP
  refine lv_aload_n hx hb dX7_undo_5 rfl (lv_at hl 0 rfl) ?_
  refine rw_geti (x := ((up2 I 0 0 0), A, K)) (v := nI (ud + 1)) S hK hP 0 (by decide) rfl fk_X7_283 rfl ((up2_j (f := I) (q := 0) (j := 0) (a := 0) (b := 11) (v := 0) (by decide)).trans hud) dX7_undo_6 ?_
  refine lv_if_ne (tgt := 14) hx hb dX7_undo_9 (by decide) (fun h9 => ?_) (fun h9 => absurd h9 (show ¬ nI (ud + 1) = 0 from nI_ne0 (by omega) (by omega)))
  refine lv_aload_n hx hb dX7_undo_14 rfl (lv_at hl 0 rfl) ?_
  refine lv_dup hx hb dX7_undo_15 rfl ?_
  refine rw_geti (x := ((up2 I 0 0 0), A, K)) (v := nI (ud + 1)) S hK hP 0 (by decide) rfl fk_X7_283 rfl ((up2_j (f := I) (q := 0) (j := 0) (a := 0) (b := 11) (v := 0) (by decide)).trans hud) dX7_undo_16 ?_
  refine lv_iconst (v := 1) hx hb dX7_undo_19 (by decide) ?_
  refine lv_isub hx hb dX7_undo_20 ?_
  refine tp_i (y := nI ud) (nI_pred _) ?_
  refine rw_puti (x := ((up2 I 0 0 0), A, K)) (v := (nI ud)) S hE hK hP hS 0 (by decide) rfl fk_X7_283 rfl tyX7_ok nmX7 ⟨rfl, by decide +kernel⟩ dX7_undo_21 (fun H locs hP hS => ?_)
  have hP : Wp mN E mK ((up2 (up2 I 0 0 0) 0 11 (nI ud)), A, K) H := hP
  refine lv_aload_n hx hb dX7_undo_24 rfl (lv_at hl 0 rfl) ?_
  refine rw_getr (x := ((up2 (up2 I 0 0 0) 0 11 (nI ud)), A, K)) S hK hP 0 (by decide) rfl fk_X7_25 rfl dX7_undo_25 ?_
  refine lv_aload_n hx hb dX7_undo_28 rfl (lv_at hl 0 rfl) ?_
  refine rw_geti (x := ((up2 (up2 I 0 0 0) 0 11 (nI ud)), A, K)) (v := (nI ud)) S hK hP 0 (by decide) rfl fk_X7_283 rfl (up2_eq (f := (up2 I 0 0 0)) (q := 0) (j := 11) (v := (nI ud))) dX7_undo_29 ?_
  refine rw_aald (x := ((up2 (up2 I 0 0 0) 0 11 (nI ud)), A, K)) (r := (5 + ud)) S hK hP 4 (by decide) 5 rfl rfl rfl ud rfl (by omega) (by decide) rfl dX7_undo_32 ?_
  refine lv_aload_n hx hb dX7_undo_33 rfl (lv_at hl 0 rfl) ?_
  refine rw_getr (x := ((up2 (up2 I 0 0 0) 0 11 (nI ud)), A, K)) S hK hP 0 (by decide) rfl fk_X7_17 rfl dX7_undo_34 ?_
  refine cn_wv (ck_S S lk_X7_169 (c_X7_copy l E (up2 (up2 I 0 0 0) 0 11 (nI ud)) A K (5 + ud) 2 hE (by omega) (by decide) (mK_hist (by omega)) rfl) ⟨rfl, rfl⟩ ⟨Nat.le_of_ble_eq_true rfl, Nat.le_of_ble_eq_true rfl⟩ bl_w (bw_U hE hK hC hP hS) rfl hl.1 (Nat.le_of_ble_eq_true rfl) ⟨Nat.le_refl _, Nat.le_refl _⟩ dX7_undo_37 rfl) hS (fun u2 H locs g3 hP hS => ?_)
  obtain rfl : u2 = ((up2 (up2 I 0 0 0) 0 11 (nI ud)), (mCp A (5 + ud) 2 1282), K) := g3
  have hP : Wp mN E mK ((up2 (up2 I 0 0 0) 0 11 (nI ud)), (mCp A (5 + ud) 2 1282), K) H := hP
  refine lv_aload_n hx hb dX7_undo_40 rfl (lv_at hl 0 rfl) ?_
  refine cn_wv (ck_V (a := eP E 0) S lk_X7_173 (c_X7_layNeeds l E (up2 (up2 I 0 0 0) 0 11 (nI ud)) (mCp A (5 + ud) 2 1282) K nu wn hE hnu ((mCp_q (by omega) (by decide)).trans hd1) (fun u hu sc hsc => nOk_x (fun b hb => mCp_q (by omega) hb) (by omega) (hnd u hu sc hsc))) ⟨rfl, rfl⟩ ⟨Nat.le_of_ble_eq_true rfl, Nat.le_of_ble_eq_true rfl⟩ bl_w (rc_w hK hP 0 (by decide) rfl rfl) (bw_U hE hK hC hP hS) rfl hl.1 (Nat.le_of_ble_eq_true rfl) ⟨Nat.le_refl _, Nat.le_refl _⟩ dX7_undo_41 rfl) hS (fun u5 H locs g6 hP hS => ?_)
  obtain ⟨K7, rfl⟩ : ∃ ok, u5 = ((up2 (up2 I 0 0 0) 0 11 (nI ud)), (mLay (mCp A (5 + ud) 2 1282) wn (2 * nu)), ok) := g6
  have hP : Wp mN E mK ((up2 (up2 I 0 0 0) 0 11 (nI ud)), (mLay (mCp A (5 + ud) 2 1282) wn (2 * nu)), K7) H := hP
  refine lv_aload_n hx hb dX7_undo_44 rfl (lv_at hl 0 rfl) ?_
  refine rw_geti (x := ((up2 (up2 I 0 0 0) 0 11 (nI ud)), (mLay (mCp A (5 + ud) 2 1282) wn (2 * nu)), K7)) (v := (nI ud)) S hK hP 0 (by decide) rfl fk_X7_283 rfl (up2_eq (f := (up2 I 0 0 0)) (q := 0) (j := 11) (v := (nI ud))) dX7_undo_45 ?_
  exact re_wi (x := ((up2 (up2 I 0 0 0) 0 11 (nI ud)), (mLay (mCp A (5 + ud) 2 1282) wn (2 * nu)), K7)) (v := (nI ud)) hx hb hr hlk hP hS ⟨rfl, _, rfl⟩ dX7_undo_48

