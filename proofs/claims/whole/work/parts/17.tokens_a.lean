/-! the tokens of a text: T its bytes, n its length, p the place behind the token before -/
def isSp (c : Int32) : Bool := decide (c = 32)
def isDg (c : Int32) : Bool := decide (¬ rIn c 48 57 = 0)
def isLt (c : Int32) : Bool := decide (¬ rIn c 97 122 = 0)
def scn (f : Int32 → Bool) (T : Nat → Int32) (n : Nat) : Nat → Nat → Nat
  | 0, p => p
  | k + 1, p => if p < n ∧ f (T p) = true then scn f T n k (p + 1) else p
def run (f : Int32 → Bool) (T : Nat → Int32) (n p : Nat) : Nat := scn f T n (n - p) p
theorem run_y {f : Int32 → Bool} {T : Nat → Int32} {n p : Nat} (h : p < n) (hf : f (T p) = true) : run f T n p = run f T n (p + 1) := by
  unfold run
  rw [show n - p = n - (p + 1) + 1 by omega]
  exact if_pos ⟨h, hf⟩
theorem run_n {f : Int32 → Bool} {T : Nat → Int32} {n p : Nat} (h : ¬ (p < n ∧ f (T p) = true)) : run f T n p = p := by
  unfold run
  cases hk : n - p with
  | zero => rfl
  | succ k => exact if_neg h
theorem run_end {f : Int32 → Bool} {T : Nat → Int32} {n p : Nat} (h : n ≤ p) : run f T n p = p := run_n (fun q => by omega)
theorem run_no {f : Int32 → Bool} {T : Nat → Int32} {n p : Nat} (h : ¬ f (T p) = true) : run f T n p = p := run_n (fun q => h q.2)
theorem scn_le {f : Int32 → Bool} {T : Nat → Int32} {n : Nat} : ∀ k p, p ≤ scn f T n k p ∧ (p ≤ n → scn f T n k p ≤ n)
  | 0, p => ⟨Nat.le_refl _, id⟩
  | k + 1, p => by
    by_cases h : p < n ∧ f (T p) = true
    · rw [show scn f T n (k + 1) p = scn f T n k (p + 1) from if_pos h]
      have := scn_le (f := f) (T := T) (n := n) k (p + 1)
      exact ⟨by omega, fun _ => this.2 (by omega)⟩
    · rw [show scn f T n (k + 1) p = p from if_neg h]
      exact ⟨Nat.le_refl _, id⟩
theorem run_ge {f : Int32 → Bool} {T : Nat → Int32} {n p : Nat} : p ≤ run f T n p := (scn_le _ _).1
theorem run_le {f : Int32 → Bool} {T : Nat → Int32} {n p : Nat} (h : p ≤ n) : run f T n p ≤ n := (scn_le _ _).2 h
theorem scn_stop {f : Int32 → Bool} {T : Nat → Int32} {n : Nat} : ∀ k p, n - p ≤ k → ¬ (scn f T n k p < n ∧ f (T (scn f T n k p)) = true)
  | 0, p, h => fun q => by have : p < n := q.1; omega
  | k + 1, p, h => by
    by_cases hc : p < n ∧ f (T p) = true
    · rw [show scn f T n (k + 1) p = scn f T n k (p + 1) from if_pos hc]
      exact scn_stop k (p + 1) (by omega)
    · rw [show scn f T n (k + 1) p = p from if_neg hc]
      exact hc
theorem run_stop {f : Int32 → Bool} {T : Nat → Int32} {n p : Nat} : ¬ (run f T n p < n ∧ f (T (run f T n p)) = true) := scn_stop _ _ (Nat.le_refl _)
def nvf (T : Nat → Int32) : Nat → Nat → Int32 → Int32
  | 0, _, v => v
  | k + 1, p, v => nvf T k (p + 1) (iMin (10 * v + T p - 48) 1000000)
def tkB (T : Nat → Int32) (n p : Nat) : Nat := run isSp T n p
def tkK (T : Nat → Int32) (n p : Nat) : Int32 := if n ≤ tkB T n p then 0 else if isDg (T (tkB T n p)) = true then 1 else if isLt (T (tkB T n p)) = true then 2 else 3
def tkE (T : Nat → Int32) (n p : Nat) : Nat := if n ≤ tkB T n p then tkB T n p else if isDg (T (tkB T n p)) = true then run isDg T n (tkB T n p) else if isLt (T (tkB T n p)) = true then run isLt T n (tkB T n p) else tkB T n p + 1
def tkV (T : Nat → Int32) (n p : Nat) : Int32 := if n ≤ tkB T n p then 0 else if isDg (T (tkB T n p)) = true then nvf T (run isDg T n (tkB T n p) - tkB T n p) (tkB T n p) 0 else 0
theorem tk_0 {T : Nat → Int32} {n p : Nat} (h : n ≤ tkB T n p) : tkK T n p = 0 ∧ tkE T n p = tkB T n p ∧ tkV T n p = 0 := ⟨if_pos h, if_pos h, if_pos h⟩
theorem tk_1 {T : Nat → Int32} {n p : Nat} (h : tkB T n p < n) (hd : isDg (T (tkB T n p)) = true) : tkK T n p = 1 ∧ tkE T n p = run isDg T n (tkB T n p) ∧ tkV T n p = nvf T (run isDg T n (tkB T n p) - tkB T n p) (tkB T n p) 0 := by
  have h2 : ¬ n ≤ tkB T n p := by omega
  exact ⟨(if_neg h2).trans (if_pos hd), (if_neg h2).trans (if_pos hd), (if_neg h2).trans (if_pos hd)⟩
theorem tk_2 {T : Nat → Int32} {n p : Nat} (h : tkB T n p < n) (hd : ¬ isDg (T (tkB T n p)) = true) (hl : isLt (T (tkB T n p)) = true) : tkK T n p = 2 ∧ tkE T n p = run isLt T n (tkB T n p) ∧ tkV T n p = 0 := by
  have h2 : ¬ n ≤ tkB T n p := by omega
  exact ⟨(if_neg h2).trans ((if_neg hd).trans (if_pos hl)), (if_neg h2).trans ((if_neg hd).trans (if_pos hl)), (if_neg h2).trans (if_neg hd)⟩
theorem tk_3 {T : Nat → Int32} {n p : Nat} (h : tkB T n p < n) (hd : ¬ isDg (T (tkB T n p)) = true) (hl : ¬ isLt (T (tkB T n p)) = true) : tkK T n p = 3 ∧ tkE T n p = tkB T n p + 1 ∧ tkV T n p = 0 := by
  have h2 : ¬ n ≤ tkB T n p := by omega
  exact ⟨(if_neg h2).trans ((if_neg hd).trans (if_neg hl)), (if_neg h2).trans ((if_neg hd).trans (if_neg hl)), (if_neg h2).trans (if_neg hd)⟩
theorem tkB_ge {T : Nat → Int32} {n p : Nat} : p ≤ tkB T n p := run_ge
theorem tkB_le {T : Nat → Int32} {n p : Nat} (h : p ≤ n) : tkB T n p ≤ n := run_le h
theorem tkE_ge {T : Nat → Int32} {n p : Nat} : tkB T n p ≤ tkE T n p := by
  unfold tkE
  split
  · exact Nat.le_refl _
  · split
    · exact run_ge
    · split
      · exact run_ge
      · omega
theorem tkE_le {T : Nat → Int32} {n p : Nat} (h : p ≤ n) : tkE T n p ≤ n := by
  unfold tkE
  have := tkB_le (T := T) h
  split
  · exact this
  · split
    · exact run_le this
    · split
      · exact run_le this
      · omega
/-- five fields of the tokens' object -/
def tkS (I : Nat → Nat → Int32) (k s e v : Int32) : Nat → Nat → Int32 := fun a b => if a = 3 then (if b = 2 then k else if b = 3 then s else if b = 4 then e else if b = 5 then v else I a b) else I a b
theorem tkS_2 {I : Nat → Nat → Int32} {k s e v x : Int32} : up2 (tkS I k s e v) 3 2 x = tkS I x s e v := by
  funext a b
  by_cases h : a = 3 <;> by_cases h2 : b = 2 <;> simp [tkS, up2, h, h2]
theorem tkS_3 {I : Nat → Nat → Int32} {k s e v x : Int32} : up2 (tkS I k s e v) 3 3 x = tkS I k x e v := by
  funext a b
  by_cases h : a = 3 <;> by_cases h2 : b = 3 <;> simp [tkS, up2, h, h2]
theorem tkS_4 {I : Nat → Nat → Int32} {k s e v x : Int32} : up2 (tkS I k s e v) 3 4 x = tkS I k s x v := by
  funext a b
  by_cases h : a = 3 <;> by_cases h2 : b = 4 <;> simp [tkS, up2, h, h2]
theorem tkS_5 {I : Nat → Nat → Int32} {k s e v x : Int32} : up2 (tkS I k s e v) 3 5 x = tkS I k s e x := by
  funext a b
  by_cases h : a = 3 <;> by_cases h2 : b = 5 <;> simp [tkS, up2, h, h2]
theorem tkS_self {I : Nat → Nat → Int32} : tkS I (I 3 2) (I 3 3) (I 3 4) (I 3 5) = I := by
  funext a b
  by_cases h : a = 3
  · subst h
    by_cases h2 : b = 2
    · simp [tkS, h2]
    · by_cases h3 : b = 3
      · simp [tkS, h3]
      · by_cases h4 : b = 4
        · simp [tkS, h4]
        · by_cases h5 : b = 5
          · simp [tkS, h5]
          · simp [tkS, h2, h3, h4, h5]
  · simp [tkS, h]
/-- the tokens' object stands at the token behind the place z.2, with the error z.1 -/
def tkW (I : Nat → Nat → Int32) (T : Nat → Int32) (n : Nat) (z : Int32 × Nat) : Nat → Nat → Int32 := fun a b => if a = 3 then (if b = 1 then nI n else if b = 2 then (if z.1 = 0 then tkK T n z.2 else 0) else if b = 3 then nI (tkB T n z.2) else if b = 4 then nI (tkE T n z.2) else if b = 5 then tkV T n z.2 else if b = 6 then z.1 else I a b) else I a b
theorem tkW_ne {I : Nat → Nat → Int32} {T : Nat → Int32} {n : Nat} {z : Int32 × Nat} {a b : Nat} (h : a ≠ 3) : tkW I T n z a b = I a b := if_neg h
theorem tkW_up {I : Nat → Nat → Int32} {T : Nat → Int32} {n : Nat} {z : Int32 × Nat} {a b : Nat} {v : Int32} (h : a ≠ 3) : up2 (tkW I T n z) a b v = tkW (up2 I a b v) T n z := by
  funext i j
  by_cases ha : i = 3
  · subst ha
    rw [up2_q (Ne.symm h)]
    simp [tkW, up2_q (Ne.symm h)]
  · rw [tkW_ne ha]
    by_cases hi : i = a
    · subst hi
      by_cases hj : j = b
      · subst hj; rw [up2_eq, up2_eq]
      · rw [up2_j hj, up2_j hj, tkW_ne ha]
    · rw [up2_q hi, up2_q hi, tkW_ne ha]
theorem tkW_W {I : Nat → Nat → Int32} {T : Nat → Int32} {n : Nat} {z y : Int32 × Nat} : tkW (tkW I T n z) T n y = tkW I T n y := by
  funext i j
  by_cases ha : i = 3
  · simp only [tkW, if_pos ha]
    by_cases h1 : j = 1 <;> by_cases h2 : j = 2 <;> by_cases h3 : j = 3 <;> by_cases h4 : j = 4 <;> by_cases h5 : j = 5 <;> by_cases h6 : j = 6 <;> simp [h1, h2, h3, h4, h5, h6]
  · rw [tkW_ne ha, tkW_ne ha, tkW_ne ha]
theorem tkW_of {I : Nat → Nat → Int32} {T : Nat → Int32} {n q : Nat} {k s e v : Int32} (h1 : I 3 1 = nI n) (h6 : I 3 6 = 0) (hs : s = nI (tkB T n q)) (ht : k = tkK T n q ∧ e = nI (tkE T n q) ∧ v = tkV T n q) : tkS I k s e v = tkW I T n (0, q) := by
  obtain ⟨rfl, rfl, rfl⟩ := ht
  subst hs
  funext i j
  by_cases ha : i = 3
  · subst ha
    by_cases g1 : j = 1
    · subst g1; exact h1
    · by_cases g6 : j = 6
      · subst g6; exact h6
      · simp [tkW, tkS, g1, g6]
  · simp [tkW, tkS, ha]
theorem tkW_fail {I : Nat → Nat → Int32} {T : Nat → Int32} {n : Nat} {z : Int32 × Nat} {k : Int32} (hk : ¬ k = 0) : up2 (up2 (tkW I T n z) 3 6 k) 3 2 0 = tkW I T n (k, z.2) := by
  funext i j
  by_cases ha : i = 3
  · subst ha
    by_cases g2 : j = 2
    · subst g2; simp [tkW, up2, hk]
    · by_cases g6 : j = 6
      · subst g6; simp [tkW, up2]
      · simp [tkW, up2, g2, g6]
  · rw [up2_q ha, up2_q ha, tkW_ne ha, tkW_ne ha]
theorem tkW_op {I : Nat → Nat → Int32} {T : Nat → Int32} {k : Nat} {z : Int32 × Nat} : tkW (up2 (up2 (up2 I 3 1 (nI k)) 3 4 0) 3 6 0) T k z = tkW I T k z := by
  funext i j
  by_cases ha : i = 3
  · simp only [tkW, if_pos ha]
    by_cases h1 : j = 1 <;> by_cases h2 : j = 2 <;> by_cases h3 : j = 3 <;> by_cases h4 : j = 4 <;> by_cases h5 : j = 5 <;> by_cases h6 : j = 6 <;> simp [up2, h1, h2, h3, h4, h5, h6]
  · rw [tkW_ne ha, tkW_ne ha, up2_q ha, up2_q ha, up2_q ha]
theorem tkW_re {I : Nat → Nat → Int32} {T : Nat → Int32} {n q : Nat} {z y : Int32 × Nat} : tkW (up2 (tkW I T n z) 3 4 (nI q)) T n y = tkW I T n y := by
  funext i j
  by_cases ha : i = 3
  · simp only [tkW, if_pos ha]
    by_cases h1 : j = 1 <;> by_cases h2 : j = 2 <;> by_cases h3 : j = 3 <;> by_cases h4 : j = 4 <;> by_cases h5 : j = 5 <;> by_cases h6 : j = 6 <;> simp [tkW, ha, up2, h1, h2, h3, h4, h5, h6]
  · rw [tkW_ne ha, tkW_ne ha, up2_q ha, tkW_ne ha]
theorem tkW_zF {I : Nat → Nat → Int32} {T : Nat → Int32} {n : Nat} {z : Int32 × Nat} {k : Int32} (h : z.1 = 0) (hk : ¬ k = 0) : up2 (up2 (tkW I T n z) 3 6 k) 3 2 0 = tkW I T n (if z.1 = 0 then k else z.1, z.2) := by
  rw [if_pos h, tkW_fail hk]
theorem tkW_zF2 {I : Nat → Nat → Int32} {T : Nat → Int32} {n : Nat} {z : Int32 × Nat} {k : Int32} (h : ¬ z.1 = 0) : tkW I T n z = tkW I T n (if z.1 = 0 then k else z.1, z.2) := by
  rw [if_neg h]
theorem tkK_lt {T : Nat → Int32} {n p : Nat} (h : ¬ tkK T n p = 0) : tkB T n p < n := by
  by_cases q : n ≤ tkB T n p
  · exact absurd (tk_0 q).1 h
  · omega
def bI (b : Bool) : Int32 := if b = true then 1 else 0
theorem bI_f {b : Bool} (h : bI b = 0) : b = false := by cases b <;> simp_all [bI]
theorem bI_t {b : Bool} (h : ¬ bI b = 0) : b = true := by cases b <;> simp_all [bI]
theorem bI_nar (b : Bool) : narrow .boolean (.int (bI b)) = .int (bI b) := by cases b <;> rfl
theorem bI_y {P : Prop} [Decidable P] (h : P) : 1 = bI (decide P) := by simp [bI, h]
theorem bI_n {P : Prop} [Decidable P] (h : ¬ P) : 0 = bI (decide P) := by simp [bI, h]
theorem tr_0 {E : En} {U : State} (h : StR E U) : vk_R RX4 49 "scheme" (eS E 0) U := h 0 ("ColorScheme$SetupReader", 49, "scheme", [115, 99, 104, 101, 109, 101]) rfl
theorem tr_1 {E : En} {U : State} (h : StR E U) : vk_R RX4 77 "role" (eS E 1) U := h 1 ("ColorScheme$SetupReader", 77, "role", [114, 111, 108, 101]) rfl
theorem tr_2 {E : En} {U : State} (h : StR E U) : vk_R RX4 86 "text" (eS E 2) U := h 2 ("ColorScheme$SetupReader", 86, "text", [116, 101, 120, 116]) rfl
theorem tr_3 {E : En} {U : State} (h : StR E U) : vk_R RX4 92 "distinct" (eS E 3) U := h 3 ("ColorScheme$SetupReader", 92, "distinct", [100, 105, 115, 116, 105, 110, 99, 116]) rfl
theorem tr_4 {E : En} {U : State} (h : StR E U) : vk_R RX4 94 "floor" (eS E 4) U := h 4 ("ColorScheme$SetupReader", 94, "floor", [102, 108, 111, 111, 114]) rfl
theorem tr_5 {E : En} {U : State} (h : StR E U) : vk_R RX4 114 "dark" (eS E 5) U := h 5 ("ColorScheme$SetupReader", 114, "dark", [100, 97, 114, 107]) rfl
theorem tr_6 {E : En} {U : State} (h : StR E U) : vk_R RX4 119 "fixed" (eS E 6) U := h 6 ("ColorScheme$SetupReader", 119, "fixed", [102, 105, 120, 101, 100]) rfl
theorem tr_7 {E : En} {U : State} (h : StR E U) : vk_R RX2 72 "size" (eS E 7) U := h 7 ("ColorScheme$Floor", 72, "size", [115, 105, 122, 101]) rfl
theorem tr_8 {E : En} {U : State} (h : StR E U) : vk_R RX2 77 "scheme" (eS E 8) U := h 8 ("ColorScheme$Floor", 77, "scheme", [115, 99, 104, 101, 109, 101]) rfl
theorem tr_9 {E : En} {U : State} (h : StR E U) : vk_R RX7 111 "scheme" (eS E 9) U := h 9 ("ColorSchemeModel", 111, "scheme", [115, 99, 104, 101, 109, 101]) rfl
theorem tr_10 {E : En} {U : State} (h : StR E U) : vk_R RX7 142 "role" (eS E 10) U := h 10 ("ColorSchemeModel", 142, "role", [114, 111, 108, 101]) rfl
theorem tr_11 {E : En} {U : State} (h : StR E U) : vk_R RX7 146 "text" (eS E 11) U := h 11 ("ColorSchemeModel", 146, "text", [116, 101, 120, 116]) rfl
theorem tr_12 {E : En} {U : State} (h : StR E U) : vk_R RX7 152 "distinct" (eS E 12) U := h 12 ("ColorSchemeModel", 152, "distinct", [100, 105, 115, 116, 105, 110, 99, 116]) rfl
theorem tr_13 {E : En} {U : State} (h : StR E U) : vk_R RX7 154 "floor" (eS E 13) U := h 13 ("ColorSchemeModel", 154, "floor", [102, 108, 111, 111, 114]) rfl
theorem tr_14 {E : En} {U : State} (h : StR E U) : vk_R RX7 132 "dark" (eS E 14) U := h 14 ("ColorSchemeModel", 132, "dark", [100, 97, 114, 107]) rfl
theorem tr_15 {E : En} {U : State} (h : StR E U) : vk_R RX7 134 "fixed" (eS E 15) U := h 15 ("ColorSchemeModel", 134, "fixed", [102, 105, 120, 101, 100]) rfl
theorem tr_16 {E : En} {U : State} (h : StR E U) : vk_R RX7 105 "size" (eS E 16) U := h 16 ("ColorSchemeModel", 105, "size", [115, 105, 122, 101]) rfl
def tw (i : Nat) : List Int32 := match txT[i]? with | some t => t.2.2.2 | none => []
theorem tx_of {i : Nat} (h : i < 17) : ∃ tx, txT[i]? = some tx := ⟨txT[i]'h, List.getElem?_eq_getElem h⟩
theorem tw_of {i : Nat} {tx : String × Nat × String × List Int32} (h : txT[i]? = some tx) : tw i = tx.2.2.2 := by unfold tw; rw [h]
/-! what one may do at a token; z is the error and the place -/
abbrev Tz : Type := Int32 × Nat
def zN (T : Nat → Int32) (n : Nat) (z : Tz) : Bool := decide (z.1 = 0 ∧ tkK T n z.2 = 1)
def zM (T : Nat → Int32) (n : Nat) (z : Tz) : Bool := decide (z.1 = 0 ∧ ¬ tkK T n z.2 = 0)
theorem tk_is {T : Nat → Int32} {n : Nat} {z : Tz} {k : Int32} (hk : ¬ k = 0) (h : (if z.1 = 0 then tkK T n z.2 else 0) = k) : z.1 = 0 ∧ tkK T n z.2 = k := by
  by_cases q : z.1 = 0
  · rw [if_pos q] at h; exact ⟨q, h⟩
  · rw [if_neg q] at h; exact absurd h.symm hk
theorem tk_nis {T : Nat → Int32} {n : Nat} {z : Tz} {k : Int32} (h : ¬ (if z.1 = 0 then tkK T n z.2 else 0) = k) : ¬ (z.1 = 0 ∧ tkK T n z.2 = k) := fun q => h (by rw [if_pos q.1]; exact q.2)
theorem tk_isM {T : Nat → Int32} {n : Nat} {z : Tz} (h : ¬ (if z.1 = 0 then tkK T n z.2 else 0) = 0) : z.1 = 0 ∧ ¬ tkK T n z.2 = 0 := by
  by_cases q : z.1 = 0
  · rw [if_pos q] at h; exact ⟨q, h⟩
  · rw [if_neg q] at h; exact absurd rfl h
theorem tk_nisM {T : Nat → Int32} {n : Nat} {z : Tz} (h : (if z.1 = 0 then tkK T n z.2 else 0) = 0) : ¬ (z.1 = 0 ∧ ¬ tkK T n z.2 = 0) := fun q => q.2 (by rw [if_pos q.1] at h; exact h)
def zW (T : Nat → Int32) (n : Nat) (w : List Int32) (z : Tz) : Bool := decide (z.1 = 0 ∧ tkK T n z.2 = 2 ∧ tkE T n z.2 - tkB T n z.2 = w.length ∧ ∀ j, j < w.length → T (tkB T n z.2 + j) = w.getD j 0)
def zS (T : Nat → Int32) (n : Nat) (ch : Int32) (z : Tz) : Bool := decide (z.1 = 0 ∧ tkK T n z.2 = 3 ∧ T (tkB T n z.2) = ch)
def zA (T : Nat → Int32) (n : Nat) (z : Tz) : Tz := (z.1, if z.1 = 0 then tkE T n z.2 else z.2)
def zF (k : Int32) (z : Tz) : Tz := (if z.1 = 0 then k else z.1, z.2)
def zPW (T : Nat → Int32) (n : Nat) (w : List Int32) (z : Tz) : Tz := if zW T n w z = true then zA T n z else z
def zPS (T : Nat → Int32) (n : Nat) (ch : Int32) (z : Tz) : Tz := if zS T n ch z = true then zA T n z else z
def zNW (T : Nat → Int32) (n : Nat) (w : List Int32) (z : Tz) : Tz := if zW T n w z = true then zA T n z else zF (-2) z
def zNS (T : Nat → Int32) (n : Nat) (ch : Int32) (z : Tz) : Tz := if zS T n ch z = true then zA T n z else zF (-2) z
def zNv (T : Nat → Int32) (n : Nat) (lo hi : Int32) (z : Tz) : Int32 := if zN T n z = true then (if tkV T n z.2 < lo then lo else if hi < tkV T n z.2 then lo else tkV T n z.2) else lo
def zNz (T : Nat → Int32) (n : Nat) (lo hi : Int32) (z : Tz) : Tz := if zN T n z = true then (if tkV T n z.2 < lo then zF (-3) z else if hi < tkV T n z.2 then zF (-3) z else zA T n z) else zF (-2) z
/-- the places of the text that a reader may stand at -/
def zOk (n : Nat) (z : Tz) : Prop := z.2 ≤ n ∧ n ≤ 700
theorem zOk_A {T : Nat → Int32} {n : Nat} {z : Tz} (h : zOk n z) : zOk n (zA T n z) := by
  refine ⟨?_, h.2⟩
  show (if z.1 = 0 then tkE T n z.2 else z.2) ≤ n
  split
  · exact tkE_le h.1
  · exact h.1
theorem zOk_F {n : Nat} {z : Tz} {k : Int32} (h : zOk n z) : zOk n (zF k z) := h
theorem zOk_PW {T : Nat → Int32} {n : Nat} {z : Tz} {w : List Int32} (h : zOk n z) : zOk n (zPW T n w z) := by
  unfold zPW
  split
  · exact zOk_A h
  · exact h
theorem zOk_PS {T : Nat → Int32} {n : Nat} {z : Tz} {w : Int32} (h : zOk n z) : zOk n (zPS T n w z) := by
  unfold zPS
  split
  · exact zOk_A h
  · exact h
theorem zOk_NW {T : Nat → Int32} {n : Nat} {z : Tz} {w : List Int32} (h : zOk n z) : zOk n (zNW T n w z) := by
  unfold zNW
  split
  · exact zOk_A h
  · exact h
theorem zOk_NS {T : Nat → Int32} {n : Nat} {z : Tz} {w : Int32} (h : zOk n z) : zOk n (zNS T n w z) := by
  unfold zNS
  split
  · exact zOk_A h
  · exact h
theorem zOk_NN {T : Nat → Int32} {n : Nat} {z : Tz} {lo hi : Int32} (h : zOk n z) : zOk n (zNz T n lo hi z) := by
  unfold zNz; split
  · split
    · exact h
    · split
      · exact h
      · exact zOk_A h
  · exact h
theorem tkW_A {I : Nat → Nat → Int32} {T : Nat → Int32} {n : Nat} {z : Tz} : (if z.1 = 0 then tkW (tkW I T n z) T n (0, tkE T n z.2) else tkW I T n z) = tkW I T n (zA T n z) := by
  by_cases h : z.1 = 0
  · rw [if_pos h, tkW_W]
    unfold zA
    rw [if_pos h, h]
  · rw [if_neg h]
    unfold zA
    rw [if_neg h]
