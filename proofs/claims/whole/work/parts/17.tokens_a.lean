/-! the tokens of a text: T its bytes, n its length, p the place behind the token before -/
def isSp (c : Int32) : Bool := decide (c = 32)
def isDg (c : Int32) : Bool := decide (¬ rIn c 48 57 = 0)
def isLt (c : Int32) : Bool := decide (¬ rIn c 97 122 = 0)
def scn (f : Int32 → Bool) (T : Nat → Int32) (n : Nat) : Nat → Nat → Nat
  | 0, p => p
  | k + 1, p => if p < n ∧ f (T p) = true then scn f T n k (p + 1) else p
def run (f : Int32 → Bool) (T : Nat → Int32) (n p : Nat) : Nat := scn f T n (n - p) p
theorem run_y {f : Int32 → Bool} {T : Nat → Int32} {n p : Nat} (h : p < n) (hf : f (T p) = true) : run f T n p = run f T n (p + 1) := by
  unfold run
  rw [show n - p = n - (p + 1) + 1 by omega]
  exact if_pos ⟨h, hf⟩
theorem run_n {f : Int32 → Bool} {T : Nat → Int32} {n p : Nat} (h : ¬ (p < n ∧ f (T p) = true)) : run f T n p = p := by
  unfold run
  cases hk : n - p with
  | zero => rfl
  | succ k => exact if_neg h
theorem run_end {f : Int32 → Bool} {T : Nat → Int32} {n p : Nat} (h : n ≤ p) : run f T n p = p := run_n (fun q => by omega)
theorem run_no {f : Int32 → Bool} {T : Nat → Int32} {n p : Nat} (h : ¬ f (T p) = true) : run f T n p = p := run_n (fun q => h q.2)
theorem scn_le {f : Int32 → Bool} {T : Nat → Int32} {n : Nat} : ∀ k p, p ≤ scn f T n k p ∧ (p ≤ n → scn f T n k p ≤ n)
  | 0, p => ⟨Nat.le_refl _, id⟩
  | k + 1, p => by
    by_cases h : p < n ∧ f (T p) = true
    · rw [show scn f T n (k + 1) p = scn f T n k (p + 1) from if_pos h]
      have := scn_le (f := f) (T := T) (n := n) k (p + 1)
      exact ⟨by omega, fun _ => this.2 (by omega)⟩
    · rw [show scn f T n (k + 1) p = p from if_neg h]
      exact ⟨Nat.le_refl _, id⟩
theorem run_ge {f : Int32 → Bool} {T : Nat → Int32} {n p : Nat} : p ≤ run f T n p := (scn_le _ _).1
theorem run_le {f : Int32 → Bool} {T : Nat → Int32} {n p : Nat} (h : p ≤ n) : run f T n p ≤ n := (scn_le _ _).2 h
theorem scn_stop {f : Int32 → Bool} {T : Nat → Int32} {n : Nat} : ∀ k p, n - p ≤ k → ¬ (scn f T n k p < n ∧ f (T (scn f T n k p)) = true)
  | 0, p, h => fun q => by have : p < n := q.1; omega
  | k + 1, p, h => by
    by_cases hc : p < n ∧ f (T p) = true
    · rw [show scn f T n (k + 1) p = scn f T n k (p + 1) from if_pos hc]
      exact scn_stop k (p + 1) (by omega)
    · rw [show scn f T n (k + 1) p = p from if_neg hc]
      exact hc
theorem run_stop {f : Int32 → Bool} {T : Nat → Int32} {n p : Nat} : ¬ (run f T n p < n ∧ f (T (run f T n p)) = true) := scn_stop _ _ (Nat.le_refl _)
def nvf (T : Nat → Int32) : Nat → Nat → Int32 → Int32
  | 0, _, v => v
  | k + 1, p, v => nvf T k (p + 1) (iMin (10 * v + T p - 48) 1000000)
def tkB (T : Nat → Int32) (n p : Nat) : Nat := run isSp T n p
def tkK (T : Nat → Int32) (n p : Nat) : Int32 := if n ≤ tkB T n p then 0 else if isDg (T (tkB T n p)) = true then 1 else if isLt (T (tkB T n p)) = true then 2 else 3
def tkE (T : Nat → Int32) (n p : Nat) : Nat := if n ≤ tkB T n p then tkB T n p else if isDg (T (tkB T n p)) = true then run isDg T n (tkB T n p) else if isLt (T (tkB T n p)) = true then run isLt T n (tkB T n p) else tkB T n p + 1
def tkV (T : Nat → Int32) (n p : Nat) : Int32 := if n ≤ tkB T n p then 0 else if isDg (T (tkB T n p)) = true then nvf T (run isDg T n (tkB T n p) - tkB T n p) (tkB T n p) 0 else 0
theorem tk_0 {T : Nat → Int32} {n p : Nat} (h : n ≤ tkB T n p) : tkK T n p = 0 ∧ tkE T n p = tkB T n p ∧ tkV T n p = 0 := ⟨if_pos h, if_pos h, if_pos h⟩
theorem tk_1 {T : Nat → Int32} {n p : Nat} (h : tkB T n p < n) (hd : isDg (T (tkB T n p)) = true) : tkK T n p = 1 ∧ tkE T n p = run isDg T n (tkB T n p) ∧ tkV T n p = nvf T (run isDg T n (tkB T n p) - tkB T n p) (tkB T n p) 0 := by
  have h2 : ¬ n ≤ tkB T n p := by omega
  exact ⟨(if_neg h2).trans (if_pos hd), (if_neg h2).trans (if_pos hd), (if_neg h2).trans (if_pos hd)⟩
theorem tk_2 {T : Nat → Int32} {n p : Nat} (h : tkB T n p < n) (hd : ¬ isDg (T (tkB T n p)) = true) (hl : isLt (T (tkB T n p)) = true) : tkK T n p = 2 ∧ tkE T n p = run isLt T n (tkB T n p) ∧ tkV T n p = 0 := by
  have h2 : ¬ n ≤ tkB T n p := by omega
  exact ⟨(if_neg h2).trans ((if_neg hd).trans (if_pos hl)), (if_neg h2).trans ((if_neg hd).trans (if_pos hl)), (if_neg h2).trans (if_neg hd)⟩
theorem tk_3 {T : Nat → Int32} {n p : Nat} (h : tkB T n p < n) (hd : ¬ isDg (T (tkB T n p)) = true) (hl : ¬ isLt (T (tkB T n p)) = true) : tkK T n p = 3 ∧ tkE T n p = tkB T n p + 1 ∧ tkV T n p = 0 := by
  have h2 : ¬ n ≤ tkB T n p := by omega
  exact ⟨(if_neg h2).trans ((if_neg hd).trans (if_neg hl)), (if_neg h2).trans ((if_neg hd).trans (if_neg hl)), (if_neg h2).trans (if_neg hd)⟩
theorem tkB_ge {T : Nat → Int32} {n p : Nat} : p ≤ tkB T n p := run_ge
theorem tkB_le {T : Nat → Int32} {n p : Nat} (h : p ≤ n) : tkB T n p ≤ n := run_le h
theorem tkE_ge {T : Nat → Int32} {n p : Nat} : tkB T n p ≤ tkE T n p := by
  unfold tkE
  split
  · exact Nat.le_refl _
  · split
    · exact run_ge
    · split
      · exact run_ge
      · omega
theorem tkE_le {T : Nat → Int32} {n p : Nat} (h : p ≤ n) : tkE T n p ≤ n := by
  unfold tkE
  have := tkB_le (T := T) h
  split
  · exact this
  · split
    · exact run_le this
    · split
      · exact run_le this
      · omega
/-- five fields of the tokens' object -/
def tkS (I : Nat → Nat → Int32) (k s e v : Int32) : Nat → Nat → Int32 := fun a b => if a = 3 then (if b = 2 then k else if b = 3 then s else if b = 4 then e else if b = 5 then v else I a b) else I a b
theorem tkS_2 {I : Nat → Nat → Int32} {k s e v x : Int32} : up2 (tkS I k s e v) 3 2 x = tkS I x s e v := by
  funext a b
  by_cases h : a = 3 <;> by_cases h2 : b = 2 <;> simp [tkS, up2, h, h2]
theorem tkS_3 {I : Nat → Nat → Int32} {k s e v x : Int32} : up2 (tkS I k s e v) 3 3 x = tkS I k x e v := by
  funext a b
  by_cases h : a = 3 <;> by_cases h2 : b = 3 <;> simp [tkS, up2, h, h2]
theorem tkS_4 {I : Nat → Nat → Int32} {k s e v x : Int32} : up2 (tkS I k s e v) 3 4 x = tkS I k s x v := by
  funext a b
  by_cases h : a = 3 <;> by_cases h2 : b = 4 <;> simp [tkS, up2, h, h2]
theorem tkS_5 {I : Nat → Nat → Int32} {k s e v x : Int32} : up2 (tkS I k s e v) 3 5 x = tkS I k s e x := by
  funext a b
  by_cases h : a = 3 <;> by_cases h2 : b = 5 <;> simp [tkS, up2, h, h2]
theorem tkS_self {I : Nat → Nat → Int32} : tkS I (I 3 2) (I 3 3) (I 3 4) (I 3 5) = I := by
  funext a b
  by_cases h : a = 3
  · subst h
    by_cases h2 : b = 2
    · simp [tkS, h2]
    · by_cases h3 : b = 3
      · simp [tkS, h3]
      · by_cases h4 : b = 4
        · simp [tkS, h4]
        · by_cases h5 : b = 5
          · simp [tkS, h5]
          · simp [tkS, h2, h3, h4, h5]
  · simp [tkS, h]
/-- the tokens' object stands at the token behind the place p, with the error c -/
def TI (I : Nat → Nat → Int32) (T : Nat → Int32) (n : Nat) (c : Int32) (p : Nat) : Prop := (p ≤ n ∧ n ≤ 700) ∧ I 3 1 = nI n ∧ I 3 2 = (if c = 0 then tkK T n p else 0) ∧ I 3 3 = nI (tkB T n p) ∧ I 3 4 = nI (tkE T n p) ∧ I 3 5 = tkV T n p ∧ I 3 6 = c
/-- only the tokens' object has changed -/
def S3 (I J : Nat → Nat → Int32) : Prop := ∀ a, a ≠ 3 → J a = I a
theorem S3.rf {I : Nat → Nat → Int32} : S3 I I := fun _ _ => rfl
theorem S3.tr {I J L : Nat → Nat → Int32} (h : S3 I J) (g : S3 J L) : S3 I L := fun a ha => (g a ha).trans (h a ha)
theorem tkS_S3 {I : Nat → Nat → Int32} {k s e v : Int32} : S3 I (tkS I k s e v) := fun a ha => by funext b; simp [tkS, ha]
theorem TI_of {I : Nat → Nat → Int32} {T : Nat → Int32} {n p : Nat} {k s e v : Int32} (h : p ≤ n ∧ n ≤ 700) (h1 : I 3 1 = nI n) (h6 : I 3 6 = 0) (hs : s = nI (tkB T n p)) (ht : k = tkK T n p ∧ e = nI (tkE T n p) ∧ v = tkV T n p) : TI (tkS I k s e v) T n 0 p := by
  obtain ⟨rfl, rfl, rfl⟩ := ht
  subst hs
  exact ⟨h, h1, rfl, rfl, rfl, rfl, h6⟩
