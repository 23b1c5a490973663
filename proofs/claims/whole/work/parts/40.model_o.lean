/-- codes N.. of the draft, as a row -/
def cdO (A : Nat → Nat → Int32) : Nat → Int32 := fun x => A 3 (82 + x)
/-- from the token z with N codes to the token y, the codes of f added -/
def gM (A : Nat → Nat → Int32) (N : Nat) (z y : Tz) (f : Int32 → Int32 → Int32) (B : Nat → Nat → Int32) (M : Nat) : Prop := B 3 3 = nI M ∧ 2 * M + 3 * z.2 ≤ 2 * N + 3 * y.2 + 1 ∧ sg (cdO B) N M f ∧ ∀ x, x < N → cdO B x = cdO A x
def gB (I A : Nat → Nat → Int32) (T : Nat → Int32) (n : Nat) (y : Tz) (J B : Nat → Nat → Int32) : Prop := (mW J B T n y ∧ rP I J) ∧ (∀ a, a ≠ 3 → B a = A a) ∧ ∀ b, b ≠ 3 → b < 82 → B 3 b = A 3 b
def gP (I A : Nat → Nat → Int32) (T : Nat → Int32) (n N : Nat) (z y : Tz) (f : Int32 → Int32 → Int32) (J B : Nat → Nat → Int32) : Prop := gB I A T n y J B ∧ (y.1 = 0 → ∃ M, gM A N z y f B M)
theorem mT_ext {A B : Nat → Nat → Int32} {T : Nat → Int32} {n : Nat} (e : B 1 = A 1) (h : mT A T n) : mT B T n := by
  unfold mT at *
  rw [e]
  exact h
theorem mW_ext {I A B : Nat → Nat → Int32} {T : Nat → Int32} {n : Nat} {z : Tz} (e : B 1 = A 1) (h : mW I A T n z) : mW I B T n z := ⟨⟨h.1.1, mT_ext e h.1.2.1, h.1.2.2⟩, h.2⟩
theorem mEm_ne {A : Nat → Nat → Int32} {N a : Nat} {v : Int32} (h : a ≠ 3) : mEm A N v a = A a := by
  unfold mEm
  rw [up2_row h, up2_row h]
theorem mEm_3 {A : Nat → Nat → Int32} {N : Nat} {v : Int32} : mEm A N v 3 3 = nI (N + 1) := up2_eq
theorem mEm_lo {A : Nat → Nat → Int32} {N b : Nat} {v : Int32} (h : b ≠ 3) (hb : b < 82) : mEm A N v 3 b = A 3 b := by
  unfold mEm
  rw [up2_j h, up2_j (by omega)]
theorem mEm_cd {A : Nat → Nat → Int32} {N x : Nat} {v : Int32} : cdO (mEm A N v) x = if x = N then v else cdO A x := by
  unfold cdO mEm
  rw [up2_j (by omega), up2_at]
  by_cases h : x = N
  · rw [if_pos h, if_pos ⟨rfl, by rw [h]⟩]
  · rw [if_neg h, if_neg (fun q => h (by omega))]
theorem gP_bad {I A J B : Nat → Nat → Int32} {T : Nat → Int32} {n N : Nat} {z y : Tz} {g : Int32 → Int32 → Int32} (hy : ¬ y.1 = 0) (h : gB I A T n y J B) : gP I A T n N z y g J B := ⟨h, fun q => absurd q hy⟩
theorem gB_tr {I A J B J1 J2 B2 : Nat → Nat → Int32} {T : Nat → Int32} {n : Nat} {za y2 : Tz} (h1 : gB I A T n za J B) (hJ1 : rP J J1) (h2 : gB J1 B T n y2 J2 B2) : gB I A T n y2 J2 B2 :=
  ⟨⟨h2.1.1, rP_tr h1.1.2 (rP_tr hJ1 h2.1.2)⟩, fun a ha => (h2.2.1 a ha).trans (h1.2.1 a ha), fun b hb hb2 => (h2.2.2 b hb hb2).trans (h1.2.2 b hb hb2)⟩
theorem gB_em {I A J B : Nat → Nat → Int32} {T : Nat → Int32} {n M : Nat} {y : Tz} {v : Int32} (h : gB I A T n y J B) : gB I A T n y J (mEm B M v) :=
  ⟨⟨mW_ext (mEm_ne (by decide)) h.1.1, h.1.2⟩, fun a ha => (mEm_ne ha).trans (h.2.1 a ha), fun b hb hb2 => (mEm_lo hb hb2).trans (h.2.2 b hb hb2)⟩
/-- an operator behind two parts -/
theorem gM_op {A B B2 : Nat → Nat → Int32} {N M M2 : Nat} {z y za y2 : Tz} {f g h : Int32 → Int32 → Int32} {v : Int32} (h1 : gM A N z za f B M) (hy : za.2 + 1 ≤ y.2) (h2 : gM B M y y2 g B2 M2) (hv : ¬ v ≤ 1) (he : ∀ am sc, vR am → vR sc → rOp v (f am sc).toInt64 (g am sc).toInt64 = (h am sc).toInt64) : gM A N z y2 h (mEm B2 M2 v) (M2 + 1) := by
  obtain ⟨c1, c2, c3, c4⟩ := h1
  obtain ⟨d1, d2, d3, d4⟩ := h2
  have i1 := c3.1
  have i2 := d3.1
  have ev : cdO (mEm B2 M2 v) M2 = v := by rw [mEm_cd, if_pos rfl]
  have en : ∀ x, x < M2 → cdO (mEm B2 M2 v) x = cdO B2 x := fun x hx => by rw [mEm_cd, if_neg (by omega)]
  refine ⟨mEm_3, by omega, ?_, fun x hx => (en x (by omega)).trans ((d4 x (by omega)).trans (c4 x hx))⟩
  refine sg_op (sg_ext (fun x q1 q2 => (en x (by omega)).trans (d4 x q2)) c3) (sg_ext (fun x q1 q2 => en x q2) d3) (by rw [ev]; exact hv) ?_
  rw [ev]
  exact he
/-- a literal or a variable -/
theorem gM_at {A : Nat → Nat → Int32} {N : Nat} {z y : Tz} {f : Int32 → Int32 → Int32} {a b : Int32} (hN : A 3 3 = nI N) (hy : z.2 + 1 ≤ y.2) (hf : ∀ code : Nat → Int32, code N = a → code (N + 1) = b → sg code N (N + 2) f) : gM A N z y f (mEm (mEm A N a) (N + 1) b) (N + 2) := by
  refine ⟨mEm_3, by omega, hf _ ?_ ?_, fun x hx => ?_⟩
  · rw [mEm_cd, if_neg (by omega), mEm_cd, if_pos rfl]
  · rw [mEm_cd, if_pos rfl]
  · rw [mEm_cd, if_neg (by omega), mEm_cd, if_neg (by omega)]
theorem gM_f {A B : Nat → Nat → Int32} {N M : Nat} {z y : Tz} {f g : Int32 → Int32 → Int32} (e : ∀ am sc, f am sc = g am sc) (h : gM A N z y f B M) : gM A N z y g B M := by
  have e2 : f = g := funext fun a => funext fun b => e a b
  rw [← e2]
  exact h
theorem tkE_gt {T : Nat → Int32} {n p : Nat} (h : ¬ tkK T n p = 0) : p + 1 ≤ tkE T n p := by
  have hl := tkK_lt h
  have hb := tkB_ge (T := T) (n := n) (p := p)
  by_cases hd : isDg (T (tkB T n p)) = true
  · rw [(tk_1 hl hd).2.1, run_y hl hd]
    have := run_ge (f := isDg) (T := T) (n := n) (p := tkB T n p + 1)
    omega
  · by_cases hq : isLt (T (tkB T n p)) = true
    · rw [(tk_2 hl hd hq).2.1, run_y hl hq]
      have := run_ge (f := isLt) (T := T) (n := n) (p := tkB T n p + 1)
      omega
    · rw [(tk_3 hl hd hq).2.1]
      omega
theorem c_X7_nextW (l : Launch) (E : En) (I A : Nat → Nat → Int32) (K : Nat → Nat → Int64) (T : Nat → Int32) (n : Nat) (z : Tz) (hE : Ev mN E) (hW : mW I A T n z) (h0 : z.1 = 0) : Met l yX7_next (wz yX7_next cX7_next 1 (some .int)) (rmk 1 0 0 21) (va_Pc [.ref (eP E 0)] (Bw mN E mK (I, A, K))) (qWi mN E mK (fun zz uu => zz = mBv A n (tkB T n z.2) ∧ uu = (up2 I 0 4 (nI (tkB T n z.2)), A, K))) 0 0 (cA mN E) := by
  obtain ⟨pos, hpos, hpn, hpB⟩ := hW.2.2.1 h0
  rw [← hpB]
  exact c_X7_next l E I A K T n pos hE hW.1.1 hW.1.2.1 hpos hpn
theorem mW_nx {I A : Nat → Nat → Int32} {T : Nat → Int32} {n : Nat} {z : Tz} (hW : mW I A T n z) (h0 : z.1 = 0) : mW (up2 I 0 4 (nI (tkB T n z.2))) A T n z := mW_pos hW h0 (tkB_le hW.1.2.2) h0 hW.1.2.2 (tkB_B hW.1.2.2)
