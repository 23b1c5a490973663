/-- what a literal or a variable is worth -/
def cL (a b am sc : Int32) : Int64 := if a = 0 then b.toInt64 else if b = 0 then am.toInt64 else sc.toInt64
/-- the run of N codes from the place i over a stack -/
def cT (cd : Nat → Int32) (am sc : Int32) (N : Nat) : Nat → Nat → List Int64 → Option Int64
  | 0, _, _ => none
  | k + 1, i, st => if N ≤ i then (match st with | [v] => some v | _ => none) else if cd i ≤ 1 then (if i + 1 < N then cT cd am sc N k (i + 2) (cL (cd i) (cd (i + 1)) am sc :: st) else none) else match st with | b :: a :: r => cT cd am sc N k (i + 1) (rOp (cd i) a b :: r) | _ => none
section CT
variable {cd : Nat → Int32} {am sc : Int32} {N k i : Nat} {st : List Int64}
theorem cT_end (h : N ≤ i) : cT cd am sc N (k + 1) i st = (match st with | [v] => some v | _ => none) := if_pos h
theorem cT_lit (h : i + 1 < N) (g : cd i ≤ 1) : cT cd am sc N (k + 1) i st = cT cd am sc N k (i + 2) (cL (cd i) (cd (i + 1)) am sc :: st) := (if_neg (by omega)).trans ((if_pos g).trans (if_pos h))
theorem cT_op {a b : Int64} {r : List Int64} (h : i < N) (g : ¬ cd i ≤ 1) : cT cd am sc N (k + 1) i (b :: a :: r) = cT cd am sc N k (i + 1) (rOp (cd i) a b :: r) := (if_neg (by omega)).trans (if_neg g)
end CT
/-- the codes from i up to j push a value -/
def sg (code : Nat → Int32) (i j : Nat) (f : Int32 → Int32 → Int32) : Prop := i < j ∧ ∀ cd : Nat → Int32, (∀ x, i ≤ x → x < j → cd x = code x) → ∀ am sc, vR am → vR sc → ∀ N, j ≤ N → ∃ m, ∀ k st, cT cd am sc N (m + k) i st = cT cd am sc N k j ((f am sc).toInt64 :: st)
theorem sg_ext {c1 c2 : Nat → Int32} {i j : Nat} {f : Int32 → Int32 → Int32} (h : ∀ x, i ≤ x → x < j → c2 x = c1 x) (g : sg c1 i j f) : sg c2 i j f := ⟨g.1, fun cd hc => g.2 cd (fun x h1 h2 => (hc x h1 h2).trans (h x h1 h2))⟩
theorem sg_f {c1 : Nat → Int32} {i j : Nat} {f g : Int32 → Int32 → Int32} (e : f = g) (h : sg c1 i j f) : sg c1 i j g := by rw [← e]; exact h
theorem sg_lit {code : Nat → Int32} {i : Nat} {v : Int32} (h0 : code i = 0) (h1 : code (i + 1) = v) : sg code i (i + 2) (fun _ _ => v) := by
  refine ⟨by omega, fun cd hc am sc _ _ N hN => ⟨1, fun k st => ?_⟩⟩
  have e0 : cd i = 0 := (hc i (by omega) (by omega)).trans h0
  have e1 : cd (i + 1) = v := (hc (i + 1) (by omega) (by omega)).trans h1
  rw [Nat.add_comm 1 k, cT_lit (by omega) (by rw [e0]; decide), e0, e1]
  rfl
theorem sg_v0 {code : Nat → Int32} {i : Nat} (h0 : code i = 1) (h1 : code (i + 1) = 0) : sg code i (i + 2) (fun am _ => am) := by
  refine ⟨by omega, fun cd hc am sc _ _ N hN => ⟨1, fun k st => ?_⟩⟩
  have e0 : cd i = 1 := (hc i (by omega) (by omega)).trans h0
  have e1 : cd (i + 1) = 0 := (hc (i + 1) (by omega) (by omega)).trans h1
  rw [Nat.add_comm 1 k, cT_lit (by omega) (by rw [e0]; decide), e0, e1]
  rfl
theorem sg_v1 {code : Nat → Int32} {i : Nat} (h0 : code i = 1) (h1 : code (i + 1) = 1) : sg code i (i + 2) (fun _ sc => sc) := by
  refine ⟨by omega, fun cd hc am sc _ _ N hN => ⟨1, fun k st => ?_⟩⟩
  have e0 : cd i = 1 := (hc i (by omega) (by omega)).trans h0
  have e1 : cd (i + 1) = 1 := (hc (i + 1) (by omega) (by omega)).trans h1
  rw [Nat.add_comm 1 k, cT_lit (by omega) (by rw [e0]; decide), e0, e1]
  rfl
theorem sg_op {code : Nat → Int32} {i j k : Nat} {f g h : Int32 → Int32 → Int32} (hf : sg code i j f) (hg : sg code j k g) (hv : ¬ code k ≤ 1) (he : ∀ am sc, vR am → vR sc → rOp (code k) (f am sc).toInt64 (g am sc).toInt64 = (h am sc).toInt64) : sg code i (k + 1) h := by
  have h1 := hf.1
  have h2 := hg.1
  refine ⟨by omega, fun cd hc am sc ha hs N hN => ?_⟩
  obtain ⟨m1, e1⟩ := hf.2 cd (fun x q1 q2 => hc x q1 (by omega)) am sc ha hs N (by omega)
  obtain ⟨m2, e2⟩ := hg.2 cd (fun x q1 q2 => hc x (by omega) (by omega)) am sc ha hs N (by omega)
  have ek : cd k = code k := hc k (by omega) (by omega)
  refine ⟨m1 + (m2 + 1), fun q st => ?_⟩
  rw [show m1 + (m2 + 1) + q = m1 + (m2 + (q + 1)) by omega, e1, e2, cT_op (by omega) (by rw [ek]; exact hv), ek, he am sc ha hs]
/-- every value of a floor is within the limits -/
theorem vR_0 : vR 0 := ⟨by decide, by decide⟩
theorem vR_nv {T : Nat → Int32} {n : Nat} {z : Tz} : vR (zNv T n 0 9999 z) := by
  unfold zNv
  split
  · split
    · exact vR_0
    · split
      · exact vR_0
      · rename_i h1 h2
        have g1 : ¬ (tkV T n z.2).toInt < (0 : Int32).toInt := fun q => h1 (i32_lt.mpr q)
        have g2 : ¬ (9999 : Int32).toInt < (tkV T n z.2).toInt := fun q => h2 (i32_lt.mpr q)
        rw [show (0 : Int32).toInt = 0 by decide] at g1
        rw [show (9999 : Int32).toInt = 9999 by decide] at g2
        exact ⟨by omega, by omega⟩
  · exact vR_0
theorem vR_lim {v : Int32} : vR (pLim v (-1000000) 1000000) := (lim_eq (v := v) (w := v.toInt64) (i64_of v)).2
theorem vR_Tl {T : Nat → Int32} {n : Nat} {F : Tz → Int32 × Tz} (hF : ∀ z, vR (F z).1) : ∀ k a, vR a.1 → vR (zTl T n F k a).1
  | 0, a, h => h
  | k + 1, a, h => by
    unfold zTl
    split
    · exact vR_Tl hF k _ op_mul.2
    · split
      · exact vR_Tl hF k _ (op_div h (hF _)).2
      · exact h
theorem vR_Sl {T : Nat → Int32} {n : Nat} {F : Tz → Int32 × Tz} (hF : ∀ z, vR (F z).1) : ∀ k a, vR a.1 → vR (zSl T n F k a).1
  | 0, a, h => h
  | k + 1, a, h => by
    unfold zSl
    split
    · exact vR_Sl hF k _ vR_lim
    · split
      · exact vR_Sl hF k _ vR_lim
      · exact h
theorem vR_Fc {T : Nat → Int32} {n : Nat} {sz sc : Int32} (h1 : vR sz) (h2 : vR sc) {S : Option (Tz → Int32 × Tz)} (hS : ∀ f, S = some f → ∀ z, vR (f z).1) (z : Tz) : vR (zFc T n sz sc S z).1 := by
  unfold zFc
  split
  · exact vR_nv
  · split
    · exact h1
    · split
      · exact h2
      · split
        · cases S with
          | none => exact vR_0
          | some f => exact hS f rfl _
        · exact vR_0
theorem vR_Su {T : Nat → Int32} {n : Nat} {sz sc : Int32} (h1 : vR sz) (h2 : vR sc) : ∀ D z, vR (zSu T n sz sc D z).1
  | 0, z => vR_Sl (fun z => vR_Tl (fun z => vR_Fc h1 h2 (fun f hf => by cases hf) z) 700 _ (vR_Fc h1 h2 (fun f hf => by cases hf) z)) 700 _ (vR_Tl (fun z => vR_Fc h1 h2 (fun f hf => by cases hf) z) 700 _ (vR_Fc h1 h2 (fun f hf => by cases hf) z))
  | D + 1, z => vR_Sl (fun z => vR_Tl (fun z => vR_Fc h1 h2 (fun f hf => by cases hf; exact fun z => vR_Su h1 h2 D z) z) 700 _ (vR_Fc h1 h2 (fun f hf => by cases hf; exact fun z => vR_Su h1 h2 D z) z)) 700 _ (vR_Tl (fun z => vR_Fc h1 h2 (fun f hf => by cases hf; exact fun z => vR_Su h1 h2 D z) z) 700 _ (vR_Fc h1 h2 (fun f hf => by cases hf; exact fun z => vR_Su h1 h2 D z) z))
theorem vR_Fd {T : Nat → Int32} {n : Nat} {sz sc : Int32} (h1 : vR sz) (h2 : vR sc) : ∀ D z, vR (zFd T n sz sc D z).1
  | 0, z => vR_Fc h1 h2 (fun f hf => by cases hf) z
  | D + 1, z => vR_Fc h1 h2 (fun f hf => by cases hf; exact fun z => vR_Su h1 h2 D z) z
theorem vR_Td {T : Nat → Int32} {n : Nat} {sz sc : Int32} (h1 : vR sz) (h2 : vR sc) (D : Nat) (z : Tz) : vR (zTd T n sz sc D z).1 := vR_Tl (fun z => vR_Fd h1 h2 D z) 700 _ (vR_Fd h1 h2 D z)
def mEm (A : Nat → Nat → Int32) (N : Nat) (v : Int32) : Nat → Nat → Int32 := up2 (up2 A 3 (82 + N) v) 3 3 (nI (N + 1))
set_option maxHeartbeats 1000000 in
set_option maxRecDepth 100000 in
theorem c_X7_emit (l : Launch) (E : En) (I A : Nat → Nat → Int32) (K : Nat → Nat → Int64) (v : Int32) (N : Nat) (hE : Ev mN E) (h05 : I 0 5 = 0) (hN : A 3 3 = nI N) (hN2 : N < 1200) : Met l yX7_emit (wz yX7_emit cX7_emit 2 none) (rmk 1 0 0 20) (va_Pc [.ref (eP E 0), .int v] (Bw mN E mK (I, A, K))) (qWv mN E mK (fun uu => uu = (I, mEm A N v, K))) 0 0 (cA mN E) := by
  refine en_ofW RX7 rfl (by decide +kernel) (Nat.le_of_ble_eq_true rfl) ?_
  intro p e s m below meth c ls S hr hlk hnm hl hB
  have hx := S.1
  have hb := S.2.1
  obtain ⟨hK, hC, hP⟩ := hB
  have hS : va_S (cA mN E) s.heap s.heap [] := va_S.rf
  have hl : lv_has ls 2 [(0, .ref (eP E 0)), (1, .int v)] := hl
  refine lv_aload_n hx hb dX7_emit_0 rfl (lv_at hl 0 rfl) ?_
  refine cn_si (ck_V (a := eP E 0) S lk_X7_62 (c_X7_isGood l E I A K hE) ⟨rfl, rfl⟩ ⟨Nat.le_of_ble_eq_true rfl, Nat.le_of_ble_eq_true rfl⟩ bl_w (rc_w hK hP 0 (by decide) rfl rfl) (bw_U hE hK hC hP hS) rfl hl.1 (Nat.le_of_ble_eq_true rfl) ⟨Nat.le_refl _, Nat.le_refl _⟩ dX7_emit_1 rfl) (fun r1 g2 => ?_)
  obtain rfl : r1 = bI (decide (I 0 5 = 0)) := g2
  refine lv_if_ne (tgt := 8) hx hb dX7_emit_4 (by decide) (fun h4 => ?_) (fun h4 => absurd h4 (show ¬ bI (decide (I 0 5 = 0)) = 0 from by rw [h05]; decide))
  refine lv_aload_n hx hb dX7_emit_8 rfl (lv_at hl 0 rfl) ?_
  refine rw_getr (x := (I, A, K)) S hK hP 0 (by decide) rfl fk_X7_20 rfl dX7_emit_9 ?_
  refine lv_bipush (v := 82) hx hb dX7_emit_12 (by decide) ?_
  refine lv_aload_n hx hb dX7_emit_14 rfl (lv_at hl 0 rfl) ?_
  refine rw_getr (x := (I, A, K)) S hK hP 0 (by decide) rfl fk_X7_20 rfl dX7_emit_15 ?_
  refine lv_iconst (v := 3) hx hb dX7_emit_18 (by decide) ?_
  refine rw_iald (x := (I, A, K)) (v := nI N) S hK hP 3 (by decide) rfl 3 rfl (by decide) (by decide) hN dX7_emit_19 ?_
  refine lv_iadd hx hb dX7_emit_20 ?_
  refine tp_i (y := nI (82 + N)) (nI_add 82 N) ?_
  refine lv_iload_n hx hb dX7_emit_21 rfl (lv_at hl 1 rfl) ?_
  refine rw_iast (x := (I, A, K)) (v := v) S hE hK hP hS 3 (by decide) rfl (82 + N) rfl (by omega) (by decide) dX7_emit_22 (fun H locs hP hS => ?_)
  have hP : Wp mN E mK (I, (up2 A 3 (82 + N) v), K) H := hP
  refine lv_aload_n hx hb dX7_emit_23 rfl (lv_at hl 0 rfl) ?_
  refine rw_getr (x := (I, (up2 A 3 (82 + N) v), K)) S hK hP 0 (by decide) rfl fk_X7_20 rfl dX7_emit_24 ?_
  refine lv_iconst (v := 3) hx hb dX7_emit_27 (by decide) ?_
  refine lv_dup2_11 hx hb dX7_emit_28 rfl rfl ?_
  refine rw_iald (x := (I, (up2 A 3 (82 + N) v), K)) (v := nI N) S hK hP 3 (by decide) rfl 3 rfl (by decide) (by decide) ((up2_j (f := A) (q := 3) (j := 82 + N) (a := 3) (b := 3) (v := v) (by omega)).trans hN) dX7_emit_29 ?_
  refine lv_iconst (v := 1) hx hb dX7_emit_30 (by decide) ?_
  refine lv_iadd hx hb dX7_emit_31 ?_
  refine tp_i (y := nI (N + 1)) (nI_add N 1) ?_
  refine rw_iast (x := (I, (up2 A 3 (82 + N) v), K)) (v := (nI (N + 1))) S hE hK hP hS 3 (by decide) rfl 3 rfl (by decide) (by decide) dX7_emit_32 (fun H locs hP hS => ?_)
  have hP : Wp mN E mK (I, (up2 (up2 A 3 (82 + N) v) 3 3 (nI (N + 1))), K) H := hP
  exact re_wv (x := (I, (up2 (up2 A 3 (82 + N) v) 3 3 (nI (N + 1))), K)) hx hb hr hlk hP hS rfl dX7_emit_33

