theorem zTl_i {T : Nat → Int32} {n : Nat} {F G : Tz → Int32 × Tz} (h : ∀ z, (F z).2 = (G z).2) : ∀ k a b, a.2 = b.2 → (zTl T n F k a).2 = (zTl T n G k b).2
  | 0, a, b, e => e
  | k + 1, a, b, e => by
    unfold zTl
    rw [e]
    split
    · exact zTl_i h k _ _ (h _)
    · split
      · exact zTl_i h k _ _ (h _)
      · exact e
theorem zSl_i {T : Nat → Int32} {n : Nat} {F G : Tz → Int32 × Tz} (h : ∀ z, (F z).2 = (G z).2) : ∀ k a b, a.2 = b.2 → (zSl T n F k a).2 = (zSl T n G k b).2
  | 0, a, b, e => e
  | k + 1, a, b, e => by
    unfold zSl
    rw [e]
    split
    · exact zSl_i h k _ _ (h _)
    · split
      · exact zSl_i h k _ _ (h _)
      · exact e
theorem zSm_i {T : Nat → Int32} {n : Nat} {F G : Tz → Int32 × Tz} (h : ∀ z, (F z).2 = (G z).2) (z : Tz) : (zSm T n F z).2 = (zSm T n G z).2 := zSl_i h 700 _ _ (h z)
theorem zTm_i {T : Nat → Int32} {n : Nat} {F G : Tz → Int32 × Tz} (h : ∀ z, (F z).2 = (G z).2) (z : Tz) : (zTm T n F z).2 = (zTm T n G z).2 := zTl_i h 700 _ _ (h z)
theorem zFc_in {T : Nat → Int32} {n : Nat} {a b c d : Int32} (z : Tz) : (zFc T n a b none z).2 = (zFc T n c d none z).2 := by
  unfold zFc
  split
  · rfl
  · split
    · rfl
    · split
      · rfl
      · split <;> rfl
theorem zFc_is {T : Nat → Int32} {n : Nat} {a b c d : Int32} {f g : Tz → Int32 × Tz} (h : ∀ z, (f z).2 = (g z).2) (z : Tz) : (zFc T n a b (some f) z).2 = (zFc T n c d (some g) z).2 := by
  unfold zFc
  split
  · rfl
  · split
    · rfl
    · split
      · rfl
      · split
        · show zNS T n 41 (f _).2 = zNS T n 41 (g _).2
          rw [h]
        · rfl
/-- where the reading of a sum ends is no matter of the size and the scheme -/
theorem zSu_i {T : Nat → Int32} {n : Nat} {a b : Int32} (c d : Int32) : ∀ D z, (zSu T n a b D z).2 = (zSu T n c d D z).2
  | 0, z => zSm_i (zTm_i zFc_in) z
  | D + 1, z => zSm_i (zTm_i (zFc_is (fun z => zSu_i c d D z))) z
/-- the numbers of roles and rules of the draft, and the floor's place -/
def pI (I : Nat → Nat → Int32) (nr nu : Nat) (fp : Option Nat) : Nat → Nat → Int32 := up2 (up2 (up2 I (dB 1 0) 0 (nI nr)) (dB 1 0) 3 (nI nu)) 4 1 (optI fp)
section PI
variable {I : Nat → Nat → Int32} {nr nu k : Nat} {fp fq : Option Nat}
theorem pI_r0 : pI I nr nu fp (dB 1 0) 0 = nI nr := rfl
theorem pI_r3 : pI I nr nu fp (dB 1 0) 3 = nI nu := rfl
theorem pI_r4 : pI I nr nu fp 4 1 = optI fp := rfl
theorem pI_at (a b : Nat) : pI I nr nu fp a b = if a = 19 ∧ b = 0 then nI nr else if a = 19 ∧ b = 3 then nI nu else if a = 4 ∧ b = 1 then optI fp else I a b := by
  show up2 (up2 (up2 I 19 0 (nI nr)) 19 3 (nI nu)) 4 1 (optI fp) a b = _
  by_cases h : a = 4
  · subst h
    by_cases hb : b = 1 <;> simp [up2, hb]
  · by_cases h1 : a = 19
    · subst h1
      by_cases hb : b = 3
      · subst hb; simp [up2]
      · by_cases h0 : b = 0 <;> simp [up2, hb, h0]
    · simp [up2, h, h1]
theorem up2_at {α : Type} {f : Nat → Nat → α} {q j : Nat} {v : α} (a b : Nat) : up2 f q j v a b = if a = q ∧ b = j then v else f a b := by
  by_cases h : a = q
  · by_cases hb : b = j <;> simp [up2, h, hb]
  · simp [up2, h]
theorem pI_w2 : up2 (pI I nr nu fp) (dB 1 0) 0 (nI k) = pI I k nu fp := by
  funext a b
  rw [up2_at, pI_at, pI_at, show dB 1 0 = 19 from rfl]
  by_cases h : a = 19 ∧ b = 0 <;> simp [h]
theorem pI_w3 : up2 (pI I nr nu fp) (dB 1 0) 3 (nI k) = pI I nr k fp := by
  funext a b
  rw [up2_at, pI_at, pI_at, show dB 1 0 = 19 from rfl]
  by_cases h : a = 19 ∧ b = 3
  · simp [h]
  · simp [h]
theorem pI_w4 : up2 (pI I nr nu fp) 4 1 (optI fq) = pI I nr nu fq := by
  funext a b
  rw [up2_at, pI_at, pI_at]
  by_cases h : a = 4 ∧ b = 1
  · simp [h]
  · simp [h]
end PI
/-- a reader's state: roles, rules, the floor's place, the arrays, the token -/
abbrev Ps : Type := Nat × Nat × Option Nat × (Nat → Nat → Int32) × Tz
def pW (I : Nat → Nat → Int32) (K : Nat → Nat → Int64) (T : Nat → Int32) (n : Nat) (P : Ps) : St := (tkW (pI I P.1 P.2.1 P.2.2.1) T n P.2.2.2.2, P.2.2.2.1, K)
theorem pW_mk {I : Nat → Nat → Int32} {K : Nat → Nat → Int64} {T : Nat → Int32} {n a b : Nat} {f : Option Nat} {A : Nat → Nat → Int32} {z : Tz} : pW I K T n (a, b, f, A, z) = (tkW (pI I a b f) T n z, A, K) := rfl
section SP
variable (T : Nat → Int32) (n : Nat)
def zC1 (z : Tz) : Tz := zNz T n 0 255 z
def zC2 (z : Tz) : Tz := zNz T n 0 255 (zC1 T n z)
def zCz (z : Tz) : Tz := zNz T n 0 255 (zC2 T n z)
def zCv (z : Tz) : Int32 := pMix (zNv T n 0 255 z) (zNv T n 0 255 (zC1 T n z)) (zNv T n 0 255 (zC2 T n z))
def zRl (z : Tz) : Int32 := zCv T n (zA T n z)
def zR2 (z : Tz) : Tz := zCz T n (zA T n z)
def zRd (z : Tz) : Int32 := if zW T n (tw 5) (zR2 T n z) = true then zCv T n (zA T n (zR2 T n z)) else 16777215 - zRl T n z
def zR3 (z : Tz) : Tz := if zW T n (tw 5) (zR2 T n z) = true then zCz T n (zA T n (zR2 T n z)) else zR2 T n z
def zRf (z : Tz) : Int32 := bI (zW T n (tw 6) (zR3 T n z))
def zR4 (z : Tz) : Tz := zPW T n (tw 6) (zR3 T n z)
def zE (k : Int32) (P : Ps) : Ps := (P.1, P.2.1, P.2.2.1, P.2.2.2.1, zF k P.2.2.2.2)
def sRole (P : Ps) : Ps := if 10 ≤ P.1 then zE (-4) P else if (zR4 T n P.2.2.2.2).1 = 0 then (P.1 + 1, P.2.1, P.2.2.1, cAdR P.2.2.2.1 1 P.1 (zRl T n P.2.2.2.2) (zRd T n P.2.2.2.2) (zRf T n P.2.2.2.2), zR4 T n P.2.2.2.2) else (P.1, P.2.1, P.2.2.1, P.2.2.2.1, zR4 T n P.2.2.2.2)
def zU2 (nr : Nat) (z : Tz) : Tz := zNz T n 0 (nI nr - 1) (zA T n z)
def zUf (nr : Nat) (z : Tz) : Int32 := zNv T n 0 (nI nr - 1) (zA T n z)
def zU3 (nr : Nat) (z : Tz) : Tz := if zN T n (zU2 T n nr z) = true ∧ tkV T n (zU2 T n nr z).2 = zUf T n nr z then zF (-3) (zU2 T n nr z) else zU2 T n nr z
def zUg (nr : Nat) (z : Tz) : Int32 := zNv T n 0 (nI nr - 1) (zU3 T n nr z)
def zU4 (nr : Nat) (z : Tz) : Tz := zNz T n 0 (nI nr - 1) (zU3 T n nr z)
def zUt (nr : Nat) (b : Bool) (z : Tz) : Int32 := if b = true then -1 else zNv T n 0 4 (zU4 T n nr z)
def zU5 (nr : Nat) (b : Bool) (z : Tz) : Tz := if b = true then zU4 T n nr z else zNz T n 0 4 (zU4 T n nr z)
def zUa (nr : Nat) (b : Bool) (z : Tz) : Int32 := zNv T n 1 (if b = true then 9 else 2295) (zU5 T n nr b z)
def zU6 (nr : Nat) (b : Bool) (z : Tz) : Tz := zNz T n 1 (if b = true then 9 else 2295) (zU5 T n nr b z)
def sRule (b : Bool) (P : Ps) : Ps := if 12 ≤ P.2.1 then zE (-4) P else if (zU6 T n P.1 b P.2.2.2.2).1 = 0 then (P.1, P.2.1 + 1, P.2.2.1, cAdU (up2 P.2.2.2.1 5 P.2.1 (zUa T n P.1 b P.2.2.2.2)) 1 P.2.1 (zUf T n P.1 P.2.2.2.2) (zUg T n P.1 P.2.2.2.2) (zUt T n P.1 b P.2.2.2.2) (zUa T n P.1 b P.2.2.2.2), zU6 T n P.1 b P.2.2.2.2) else (P.1, P.2.1, P.2.2.1, P.2.2.2.1, zU6 T n P.1 b P.2.2.2.2)
def sFlo (P : Ps) : Ps := (P.1, P.2.1, some (tkE T n P.2.2.2.2.2), P.2.2.2.1, (zSu T n 0 0 4 (zA T n P.2.2.2.2)).2)
def sStm (P : Ps) : Ps := if zW T n (tw 1) P.2.2.2.2 = true then sRole T n P else if zW T n (tw 2) P.2.2.2.2 = true then sRule T n true P else if zW T n (tw 3) P.2.2.2.2 = true then sRule T n false P else if zW T n (tw 4) P.2.2.2.2 = true ∧ P.2.2.1 = none then sFlo T n P else zE (-2) P
def sSt (P : Ps) : Ps := ((sStm T n P).1, (sStm T n P).2.1, (sStm T n P).2.2.1, (sStm T n P).2.2.2.1, zNS T n 59 (sStm T n P).2.2.2.2)
def sLp : Nat → Ps → Ps
  | 0, P => P
  | k + 1, P => if zM T n P.2.2.2.2 = true then sLp k (sSt T n P) else P
def sRd (A : Nat → Nat → Int32) : Ps := sLp T n 700 (0, 0, none, A, zNS T n 59 (zNW T n (tw 0) (0, 0)))
/-- what holds of a reader's state -/
def fOk (fp : Option Nat) : Prop := ∀ q, fp = some q → (zSu T n 0 0 4 (0, q)).2.1 = 0
def pOk (P : Ps) : Prop := (P.1 ≤ 10 ∧ P.2.1 ≤ 12) ∧ (zOk n P.2.2.2.2 ∧ P.2.2.2.1 1 = T) ∧ (∀ q, P.2.2.1 = some q → q ≤ n) ∧ (P.2.2.2.2.1 = 0 → fOk T n P.2.2.1)
end SP
section SQ
variable {T : Nat → Int32} {n : Nat}
theorem zOk_C1 {z : Tz} (h : zOk n z) : zOk n (zC1 T n z) := zOk_NN h
theorem zOk_C2 {z : Tz} (h : zOk n z) : zOk n (zC2 T n z) := zOk_NN (zOk_C1 h)
theorem zOk_Cz {z : Tz} (h : zOk n z) : zOk n (zCz T n z) := zOk_NN (zOk_C2 h)
theorem zOk_R2 {z : Tz} (h : zOk n z) : zOk n (zR2 T n z) := zOk_Cz (zOk_A h)
theorem zOk_R3 {z : Tz} (h : zOk n z) : zOk n (zR3 T n z) := by
  unfold zR3
  split
  · exact zOk_Cz (zOk_A (zOk_R2 h))
  · exact zOk_R2 h
theorem zOk_R4 {z : Tz} (h : zOk n z) : zOk n (zR4 T n z) := zOk_PW (zOk_R3 h)
theorem zOk_U2 {nr : Nat} {z : Tz} (h : zOk n z) : zOk n (zU2 T n nr z) := zOk_NN (zOk_A h)
theorem zOk_U3 {nr : Nat} {z : Tz} (h : zOk n z) : zOk n (zU3 T n nr z) := by
  unfold zU3
  split
  · exact zOk_U2 h
  · exact zOk_U2 h
theorem zOk_U4 {nr : Nat} {z : Tz} (h : zOk n z) : zOk n (zU4 T n nr z) := zOk_NN (zOk_U3 h)
theorem zOk_U5 {nr : Nat} {b : Bool} {z : Tz} (h : zOk n z) : zOk n (zU5 T n nr b z) := by
  unfold zU5
  split
  · exact zOk_U4 h
  · exact zOk_NN (zOk_U4 h)
theorem zOk_U6 {nr : Nat} {b : Bool} {z : Tz} (h : zOk n z) : zOk n (zU6 T n nr b z) := zOk_NN (zOk_U5 h)
theorem cAdR_ne {A : Nat → Nat → Int32} {nr : Nat} {x y w : Int32} {a : Nat} (h : a < 8) : cAdR A 1 nr x y w a = A a := by
  unfold cAdR
  rw [up2_row (Ne.symm (dB_nlo h)), up2_row (Ne.symm (dB_nlo h)), up2_row (Ne.symm (dB_nlo h))]
theorem cAdU_ne {A : Nat → Nat → Int32} {nu : Nat} {x y w t : Int32} {a : Nat} (h : a < 8) : cAdU A 1 nu x y w t a = A a := by
  unfold cAdU
  rw [up2_row (Ne.symm (dB_nlo h)), up2_row (Ne.symm (dB_nlo h)), up2_row (Ne.symm (dB_nlo h)), up2_row (Ne.symm (dB_nlo h)), up2_row (Ne.symm (dB_nlo h))]
/-! an error stays -/
theorem zMo_A {z : Tz} (h : (zA T n z).1 = 0) : z.1 = 0 := h
theorem zMo_F {k : Int32} {z : Tz} (hk : ¬ k = 0) (h : (zF k z).1 = 0) : z.1 = 0 := by
  by_cases q : z.1 = 0
  · exact q
  · rw [show (zF k z).1 = z.1 from if_neg q] at h
    exact h
theorem zMo_PW {w : List Int32} {z : Tz} (h : (zPW T n w z).1 = 0) : z.1 = 0 := by
  unfold zPW at h
  split at h
  · exact h
  · exact h
theorem zMo_NW {w : List Int32} {z : Tz} (h : (zNW T n w z).1 = 0) : z.1 = 0 := by
  unfold zNW at h
  split at h
  · exact h
  · exact zMo_F (by decide) h
theorem zMo_NS {w : Int32} {z : Tz} (h : (zNS T n w z).1 = 0) : z.1 = 0 := by
  unfold zNS at h
  split at h
  · exact h
  · exact zMo_F (by decide) h
theorem zMo_NN {lo hi : Int32} {z : Tz} (h : (zNz T n lo hi z).1 = 0) : z.1 = 0 := by
  unfold zNz at h
  split at h
  · split at h
    · exact zMo_F (by decide) h
    · split at h
      · exact zMo_F (by decide) h
      · exact h
  · exact zMo_F (by decide) h
theorem zMo_Tl {F : Tz → Int32 × Tz} (hF : ∀ z, (F z).2.1 = 0 → z.1 = 0) : ∀ k a, (zTl T n F k a).2.1 = 0 → a.2.1 = 0
  | 0, a, h => h
  | k + 1, a, h => by
    unfold zTl at h
    split at h
    · have h2 := zMo_Tl hF k _ h
      exact zMo_A (T := T) (n := n) (hF _ h2)
    · split at h
      · have h2 := zMo_Tl hF k _ h
        exact zMo_A (T := T) (n := n) (hF _ h2)
      · exact h
theorem zMo_Sl {F : Tz → Int32 × Tz} (hF : ∀ z, (F z).2.1 = 0 → z.1 = 0) : ∀ k a, (zSl T n F k a).2.1 = 0 → a.2.1 = 0
  | 0, a, h => h
  | k + 1, a, h => by
    unfold zSl at h
    split at h
    · have h2 := zMo_Sl hF k _ h
      exact zMo_A (T := T) (n := n) (hF _ h2)
    · split at h
      · have h2 := zMo_Sl hF k _ h
        exact zMo_A (T := T) (n := n) (hF _ h2)
      · exact h
theorem zMo_Fc {sz sc : Int32} {S : Option (Tz → Int32 × Tz)} (hS : ∀ f, S = some f → ∀ z, (f z).2.1 = 0 → z.1 = 0) (z : Tz) (h : (zFc T n sz sc S z).2.1 = 0) : z.1 = 0 := by
  unfold zFc at h
  split at h
  · exact zMo_NN h
  · split at h
    · exact h
    · split at h
      · exact h
      · split at h
        · cases S with
          | none => exact zMo_F (k := -5) (by decide) h
          | some f => exact zMo_A (hS f rfl _ (zMo_NS h))
        · exact zMo_F (k := -2) (by decide) h
theorem zMo_Tm {F : Tz → Int32 × Tz} (hF : ∀ z, (F z).2.1 = 0 → z.1 = 0) (z : Tz) (h : (zTm T n F z).2.1 = 0) : z.1 = 0 := hF z (zMo_Tl hF 700 _ h)
theorem zMo_Sm {F : Tz → Int32 × Tz} (hF : ∀ z, (F z).2.1 = 0 → z.1 = 0) (z : Tz) (h : (zSm T n F z).2.1 = 0) : z.1 = 0 := hF z (zMo_Sl hF 700 _ h)
theorem zMo_Su {sz sc : Int32} : ∀ D z, (zSu T n sz sc D z).2.1 = 0 → z.1 = 0
  | 0, z, h => zMo_Sm (fun z h => zMo_Tm (fun z h => zMo_Fc (fun f hf => by cases hf) z h) z h) z h
  | D + 1, z, h => zMo_Sm (fun z h => zMo_Tm (fun z h => zMo_Fc (fun f hf => by cases hf; exact fun z h => zMo_Su D z h) z h) z h) z h
theorem zMo_Cz {z : Tz} (h : (zCz T n z).1 = 0) : z.1 = 0 := zMo_NN (zMo_NN (zMo_NN h))
theorem zMo_R3 {z : Tz} (h : (zR3 T n z).1 = 0) : z.1 = 0 := by
  unfold zR3 at h
  split at h
  · exact zMo_A (zMo_Cz (zMo_A (zMo_Cz h)))
  · exact zMo_A (zMo_Cz h)
theorem zMo_R4 {z : Tz} (h : (zR4 T n z).1 = 0) : z.1 = 0 := zMo_R3 (zMo_PW h)
theorem zMo_U3 {nr : Nat} {z : Tz} (h : (zU3 T n nr z).1 = 0) : z.1 = 0 := by
  unfold zU3 at h
  split at h
  · exact zMo_A (zMo_NN (zMo_F (by decide) h))
  · exact zMo_A (zMo_NN h)
theorem zMo_U5 {nr : Nat} {b : Bool} {z : Tz} (h : (zU5 T n nr b z).1 = 0) : z.1 = 0 := by
  unfold zU5 at h
  split at h
  · exact zMo_U3 (zMo_NN h)
  · exact zMo_U3 (zMo_NN (zMo_NN h))
theorem zMo_U6 {nr : Nat} {b : Bool} {z : Tz} (h : (zU6 T n nr b z).1 = 0) : z.1 = 0 := zMo_U5 (zMo_NN h)
theorem pOk_mk {a b : Nat} {f : Option Nat} {A : Nat → Nat → Int32} {z : Tz} (h1 : a ≤ 10) (h2 : b ≤ 12) (h3 : zOk n z) (h4 : A 1 = T) (h5 : ∀ q, f = some q → q ≤ n) (h6 : z.1 = 0 → fOk T n f) : pOk T n (a, b, f, A, z) := ⟨⟨h1, h2⟩, ⟨h3, h4⟩, h5, h6⟩
theorem pOk_E {k : Int32} {P : Ps} (hk : ¬ k = 0) (h : pOk T n P) : pOk T n (zE k P) := ⟨h.1, h.2.1, h.2.2.1, fun q => h.2.2.2 (zMo_F hk q)⟩
theorem pOk_role {P : Ps} (h : pOk T n P) : pOk T n (sRole T n P) := by
  obtain ⟨⟨h1, h2⟩, ⟨h3, h4⟩, h5, h6⟩ := id h
  unfold sRole
  split
  · exact pOk_E (by decide) h
  · split
    · exact pOk_mk (by omega) h2 (zOk_R4 h3) ((cAdR_ne (a := 1) (by decide)).trans h4) h5 (fun q => h6 (zMo_R4 q))
    · exact pOk_mk h1 h2 (zOk_R4 h3) h4 h5 (fun q => h6 (zMo_R4 q))
theorem pOk_rule {b : Bool} {P : Ps} (h : pOk T n P) : pOk T n (sRule T n b P) := by
  obtain ⟨⟨h1, h2⟩, ⟨h3, h4⟩, h5, h6⟩ := id h
  unfold sRule
  split
  · exact pOk_E (by decide) h
  · split
    · exact pOk_mk h1 (by omega) (zOk_U6 h3) (((cAdU_ne (a := 1) (by decide)).trans (up2_row (by decide))).trans h4) h5 (fun q => h6 (zMo_U6 q))
    · exact pOk_mk h1 h2 (zOk_U6 h3) h4 h5 (fun q => h6 (zMo_U6 q))
theorem pOk_flo {P : Ps} (h : pOk T n P) : pOk T n (sFlo T n P) := by
  refine ⟨h.1, ⟨zOk_Su 4 _ (zOk_A h.2.1.1), h.2.1.2⟩, fun q hq => ?_, fun h0 q hq => ?_⟩
  · cases hq
    exact tkE_le h.2.1.1.1
  · cases hq
    have hz : P.2.2.2.2.1 = 0 := zMo_A (zMo_Su 4 _ h0)
    have hA : zA T n P.2.2.2.2 = (0, tkE T n P.2.2.2.2.2) := by
      unfold zA
      rw [if_pos hz, hz]
    have h1 : (zSu T n 0 0 4 (zA T n P.2.2.2.2)).2.1 = 0 := h0
    rw [hA] at h1
    exact h1
theorem pOk_stm {P : Ps} (h : pOk T n P) : pOk T n (sStm T n P) := by
  unfold sStm
  split
  · exact pOk_role h
  · split
    · exact pOk_rule h
    · split
      · exact pOk_rule h
      · split
        · exact pOk_flo h
        · exact pOk_E (by decide) h
theorem pOk_st {P : Ps} (h : pOk T n P) : pOk T n (sSt T n P) := ⟨(pOk_stm h).1, ⟨zOk_NS (pOk_stm h).2.1.1, (pOk_stm h).2.1.2⟩, (pOk_stm h).2.2.1, fun q => (pOk_stm h).2.2.2 (zMo_NS q)⟩
theorem fn_of {I : Nat → Nat → Int32} {nr nu : Nat} {fp : Option Nat} (hn : n ≤ 700) (h : ∀ q, fp = some q → q ≤ n) (g : decide (¬ pI I nr nu fp 4 1 = -1) = false) : fp = none := by
  cases fp with
  | none => rfl
  | some q =>
    have hq := h q rfl
    have h1 : ¬ nI q = -1 := fun e => nI_pos (n := q) (by omega) (by rw [e]; decide)
    exact absurd (decide_eq_true (show ¬ pI I nr nu (some q) 4 1 = -1 from h1)) (by rw [g]; decide)
theorem sLp_s {P : Ps} {k : Nat} (h : zM T n P.2.2.2.2 = true) : sLp T n (k + 1) P = sLp T n k (sSt T n P) := if_pos h
theorem sLp_e {P : Ps} {k : Nat} (h : zM T n P.2.2.2.2 = false) : sLp T n (k + 1) P = P := if_neg (ne_t h)
theorem pOk_lp : ∀ k (P : Ps), pOk T n P → pOk T n (sLp T n k P)
  | 0, P, h => h
  | k + 1, P, h => by
    unfold sLp
    split
    · exact pOk_lp k _ (pOk_st h)
    · exact h
section SR
variable {nr nu : Nat} {fp : Option Nat} {A : Nat → Nat → Int32} {z : Tz} {b : Bool}
theorem sRole_f (h : 10 ≤ nr) : sRole T n (nr, nu, fp, A, z) = (nr, nu, fp, A, zF (-4) z) := by
  unfold sRole
  rw [if_pos (show 10 ≤ (nr, nu, fp, A, z).1 from h)]
  rfl
theorem sRole_y (h : ¬ 10 ≤ nr) (h2 : (zR4 T n z).1 = 0) : sRole T n (nr, nu, fp, A, z) = (nr + 1, nu, fp, cAdR A 1 nr (zRl T n z) (zRd T n z) (zRf T n z), zR4 T n z) := by
  unfold sRole
  rw [if_neg (show ¬ 10 ≤ (nr, nu, fp, A, z).1 from h)]
  exact if_pos h2
theorem sRole_n (h : ¬ 10 ≤ nr) (h2 : ¬ (zR4 T n z).1 = 0) : sRole T n (nr, nu, fp, A, z) = (nr, nu, fp, A, zR4 T n z) := by
  unfold sRole
  rw [if_neg (show ¬ 10 ≤ (nr, nu, fp, A, z).1 from h)]
  exact if_neg h2
theorem sRule_f (h : 12 ≤ nu) : sRule T n b (nr, nu, fp, A, z) = (nr, nu, fp, A, zF (-4) z) := by
  unfold sRule
  rw [if_pos (show 12 ≤ (nr, nu, fp, A, z).2.1 from h)]
  rfl
theorem sRule_y (h : ¬ 12 ≤ nu) (h2 : (zU6 T n nr b z).1 = 0) : sRule T n b (nr, nu, fp, A, z) = (nr, nu + 1, fp, cAdU (up2 A 5 nu (zUa T n nr b z)) 1 nu (zUf T n nr z) (zUg T n nr z) (zUt T n nr b z) (zUa T n nr b z), zU6 T n nr b z) := by
  unfold sRule
  rw [if_neg (show ¬ 12 ≤ (nr, nu, fp, A, z).2.1 from h)]
  exact if_pos h2
theorem sRule_n (h : ¬ 12 ≤ nu) (h2 : ¬ (zU6 T n nr b z).1 = 0) : sRule T n b (nr, nu, fp, A, z) = (nr, nu, fp, A, zU6 T n nr b z) := by
  unfold sRule
  rw [if_neg (show ¬ 12 ≤ (nr, nu, fp, A, z).2.1 from h)]
  exact if_neg h2
theorem sStm_1 {P : Ps} (h : zW T n (tw 1) P.2.2.2.2 = true) : sStm T n P = sRole T n P := by
  unfold sStm
  rw [if_pos h]
theorem sStm_2 {P : Ps} (h1 : zW T n (tw 1) P.2.2.2.2 = false) (h : zW T n (tw 2) P.2.2.2.2 = true) : sStm T n P = sRule T n true P := by
  unfold sStm
  rw [if_neg (ne_t h1), if_pos h]
theorem sStm_3 {P : Ps} (h1 : zW T n (tw 1) P.2.2.2.2 = false) (h2 : zW T n (tw 2) P.2.2.2.2 = false) (h : zW T n (tw 3) P.2.2.2.2 = true) : sStm T n P = sRule T n false P := by
  unfold sStm
  rw [if_neg (ne_t h1), if_neg (ne_t h2), if_pos h]
theorem sStm_4 {P : Ps} (h1 : zW T n (tw 1) P.2.2.2.2 = false) (h2 : zW T n (tw 2) P.2.2.2.2 = false) (h3 : zW T n (tw 3) P.2.2.2.2 = false) (h : zW T n (tw 4) P.2.2.2.2 = true) (hf : P.2.2.1 = none) : sStm T n P = sFlo T n P := by
  unfold sStm
  rw [if_neg (ne_t h1), if_neg (ne_t h2), if_neg (ne_t h3), if_pos ⟨h, hf⟩]
theorem sStm_5 {P : Ps} (h1 : zW T n (tw 1) P.2.2.2.2 = false) (h2 : zW T n (tw 2) P.2.2.2.2 = false) (h3 : zW T n (tw 3) P.2.2.2.2 = false) (h : ¬ (zW T n (tw 4) P.2.2.2.2 = true ∧ P.2.2.1 = none)) : sStm T n P = zE (-2) P := by
  unfold sStm
  rw [if_neg (ne_t h1), if_neg (ne_t h2), if_neg (ne_t h3), if_neg h]
end SR
end SQ
