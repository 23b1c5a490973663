/-! My own layer over the kit: one list of words for every method; a fixed plan of places; a state is three functions of place and index. -/
def lwg : List Cond := lw_tbl.filter goodWord
theorem lwg_in {w : Cond} (h : w ∈ lw_tbl) (hg : goodWord w = true) : w ∈ lwg := List.mem_filter.mpr ⟨h, hg⟩
theorem lwg_good {w : Cond} (h : w ∈ lwg) : goodWord w = true := (List.mem_filter.mp h).2
theorem lwg_at {w : Cond} (i : Nat) (h : (decide (lw_tbl[i]? = some w) && goodWord w) = true) : w ∈ lwg := by
  simp only [Bool.and_eq_true, decide_eq_true_eq] at h
  exact lwg_in (List.mem_of_getElem? h.1) h.2
abbrev wz (y : MethodName) (b : ByteArray) (n : Nat) (r : Option FieldType) : List Cond := .code y b n r :: lwg
theorem gi_z {y : MethodName} {b : ByteArray} {n : Nat} {r : Option FieldType} (h : Cond.code y b n r ∈ lwg) : GoodIn lwg (wz y b n r) := by
  intro w hw
  have hm : w ∈ lwg := by
    rcases List.mem_cons.mp hw with h1 | h1
    · rw [h1]; exact h
    · exact h1
  exact ⟨hm, good_of_word (lwg_good hm)⟩
/-! words of a call, of a field -/
def LkS (own : String) (idx : Nat) (y : MethodName) (b : ByteArray) (maxL : Nat) (ret : Option FieldType) (n : Nat) : Prop :=
  Cond.code y b maxL ret ∈ lwg ∧ Cond.methodLink own idx y ∈ lwg ∧ Cond.static y ∈ lwg ∧ Cond.initialized y.cls ∈ lwg ∧ (y.cls ≠ "java/lang/invoke/MethodHandle" ∧ y.cls ≠ "java/lang/invoke/VarHandle" ∧ (parseMethodDescriptor y.desc).map (fun d => d.parameters.length) = some n)
def LkV (own : String) (idx : Nat) (y : MethodName) (b : ByteArray) (maxL : Nat) (ret : Option FieldType) (n : Nat) : Prop :=
  Cond.code y b maxL ret ∈ lwg ∧ Cond.methodLink own idx y ∈ lwg ∧ Cond.instanceMethod y ∈ lwg ∧ Cond.selects y.cls y y ∈ lwg ∧ Cond.initialized y.cls ∈ lwg ∧ (y.cls ≠ "java/lang/invoke/MethodHandle" ∧ y.cls ≠ "java/lang/invoke/VarHandle" ∧ (parseMethodDescriptor y.desc).map (fun d => d.parameters.length) = some n)
def LkN (y : MethodName) (b : ByteArray) (maxL : Nat) (ret : Option FieldType) (n : Nat) : Prop :=
  Cond.code y b maxL ret ∈ lwg ∧ Cond.static y ∈ lwg ∧ Cond.initialized y.cls ∈ lwg ∧ (y.cls ≠ "java/lang/invoke/MethodHandle" ∧ y.cls ≠ "java/lang/invoke/VarHandle" ∧ (parseMethodDescriptor y.desc).map (fun d => d.parameters.length) = some n)
def Fk (own : String) (idx : Nat) (C : String) (T : u_T) (n ci j : Nat) : Prop := vwCl[ci]? = some (C, T, n) ∧ (∀ w ∈ u_ws C T n, w ∈ lwg) ∧ j < n ∧ Cond.fieldLink own idx (T j).1 (T j).2.1 (T j).2.2.1 ∈ lwg
/-! states and places -/
abbrev St : Type := (Nat → Nat → Int32) × (Nat → Nat → Int32) × (Nat → Nat → Int64)
abbrev Lk : Type := (Nat × List (Option Nat)) ⊕ ((Nat × Nat) ⊕ ((Nat × Nat) ⊕ (Nat × Nat × (Nat → Nat))))
abbrev En : Type := va_G × (Nat → ClassId) × Nat × (Nat → Nat) × (Nat → Nat)
def eD (E : En) : va_G := E.1
def eT (E : En) : Nat → ClassId := E.2.1
def eL (E : En) : Nat := E.2.2.1
def eP (E : En) : Nat → Nat := E.2.2.2.1
def eS (E : En) : Nat → Nat := E.2.2.2.2
def tys (E : En) : List (ClassId × FieldType) := [(eT E 0, .byte), (eT E 1, .int), (eT E 2, .long), (eT E 3, .boolean), (eT E 4, .object "ColorScheme$Design"), (eT E 5, .array .int)]
def obv (E : En) (tp : List (Option Nat)) (f : Nat → Int32) : List Value := (List.range tp.length).map (fun j => match tp[j]? with | some (some r) => Value.ref (eP E r) | _ => Value.int (f j))
def rfv (E : En) (n : Nat) (g : Nat → Nat) : Nat → Option Nat := fun j => if j < n then some (eP E (g j)) else none
def ent (E : En) (k : Lk) (i : Nat → Int32) (a : Nat → Int32) (b : Nat → Int64) : va_E := match k with
  | .inl o => .inr (o.1, obv E o.2 i)
  | .inr (.inl r) => .inl (eT E r.1, r.2, .inl a)
  | .inr (.inr (.inl r)) => .inl (eT E r.1, r.2, .inr (.inl b))
  | .inr (.inr (.inr r)) => .inl (eT E r.1, r.2.1, .inr (.inr (.inr (.inr (rfv E r.2.1 r.2.2)))))
def lay (E : En) (kd : Nat → Lk) (x : St) (q : Nat) : va_E := ent E (kd q) (x.1 q) (x.2.1 q) (x.2.2 q)
def fw (N : Nat) (P : Nat → Nat) (C : Nat → va_E) : va_W := (List.range N).map fun i => (P i, C i)
def up2 {α : Type} (f : Nat → Nat → α) (q j : Nat) (v : α) : Nat → Nat → α := fun a b => if a = q then (if b = j then v else f a b) else f a b
theorem up2_eq {α : Type} {f : Nat → Nat → α} {q j : Nat} {v : α} : up2 f q j v q j = v := by simp [up2]
theorem up2_q {α : Type} {f : Nat → Nat → α} {q j a b : Nat} {v : α} (h : a ≠ q) : up2 f q j v a b = f a b := by simp [up2, h]
theorem up2_j {α : Type} {f : Nat → Nat → α} {q j a b : Nat} {v : α} (h : b ≠ j) : up2 f q j v a b = f a b := by simp [up2, h]
theorem up2_row {α : Type} {f : Nat → Nat → α} {q j a : Nat} {v : α} (h : a ≠ q) : up2 f q j v a = f a := by funext b; simp [up2, h]
theorem up2_self {α : Type} {f : Nat → Nat → α} {q j : Nat} {v : α} : up2 f q j v q = fun b => if b = j then v else f q b := by funext b; simp [up2]
theorem fw_at {N : Nat} {P : Nat → Nat} {C : Nat → va_E} {k : Nat} (hk : k < N) : (fw N P C)[k]? = some (P k, C k) := by
  simp [fw, hk]
theorem fw_len {N : Nat} {P : Nat → Nat} {C : Nat → va_E} : (fw N P C).length = N := by simp [fw]
theorem fw_set {N : Nat} {P : Nat → Nat} {C : Nat → va_E} {k : Nat} {e : va_E} : (fw N P C).set k (P k, e) = fw N P (va_up C k e) := by
  apply List.ext_getElem?
  intro i
  rw [List.getElem?_set]
  by_cases h : k = i
  · subst h
    by_cases hk : k < N
    · simp [fw, hk, va_up]
    · simp [fw, hk]
  · rw [if_neg h]
    by_cases hi : i < N
    · simp [fw, hi, va_up, Ne.symm h]
    · simp [fw, hi]
theorem fw_get {N : Nat} {P : Nat → Nat} {C : Nat → va_E} {k : Nat} {q : Nat × va_E} (h : (fw N P C)[k]? = some q) : k < N ∧ q = (P k, C k) := by
  have hk : k < N := by
    have := (List.getElem?_eq_some_iff.mp h).1
    rwa [fw_len] at this
  rw [fw_at hk] at h
  exact ⟨hk, (Option.some.inj h).symm⟩
/-- which cells a method over the first N places may write -/
def cA (N : Nat) (E : En) : Nat → Prop := fun q => ∃ i, i < N ∧ q = eP E i
/-- what is always so of the places -/
def Ev (N : Nat) (E : En) : Prop := (∀ i j, i < N → j < N → eP E i = eP E j → i = j) ∧ ∀ i, i < N → eL E ≤ eP E i
theorem fw_D {N : Nat} {E : En} {C : Nat → va_E} (h : Ev N E) : va_D (cA N E) (fw N (eP E) C) := by
  refine ⟨fun i j p q hi hj hpq => ?_, fun k q hk => ?_⟩
  · obtain ⟨h1, rfl⟩ := fw_get hi
    obtain ⟨h2, rfl⟩ := fw_get hj
    exact h.1 i j h1 h2 hpq
  · obtain ⟨h1, rfl⟩ := fw_get hk
    exact ⟨k, h1, rfl⟩
theorem obv_set {E : En} {tp : List (Option Nat)} {f : Nat → Int32} {j : Nat} {v : Int32} (ht : tp[j]? = some none) : (obv E tp f).set j (.int v) = obv E tp (fun b => if b = j then v else f b) := by
  have hl := (List.getElem?_eq_some_iff.mp ht).1
  apply List.ext_getElem?
  intro i
  rw [List.getElem?_set]
  by_cases h : j = i
  · subst h
    simp [obv, hl]
    rw [List.getElem?_eq_getElem hl] at ht
    rw [Option.some.inj ht]
  · rw [if_neg h]
    by_cases hi : i < tp.length
    · simp [obv, hi, Ne.symm h]
    · simp [obv, hi]
theorem obv_int {E : En} {tp : List (Option Nat)} {f : Nat → Int32} {j : Nat} (ht : tp[j]? = some none) : (obv E tp f)[j]? = some (.int (f j)) := by
  have hl := (List.getElem?_eq_some_iff.mp ht).1
  simp [obv, hl, ht]
  rw [List.getElem?_eq_getElem hl] at ht
  rw [Option.some.inj ht]
theorem obv_ref {E : En} {tp : List (Option Nat)} {f : Nat → Int32} {j r : Nat} (ht : tp[j]? = some (some r)) : (obv E tp f)[j]? = some (.ref (eP E r)) := by
  have hl := (List.getElem?_eq_some_iff.mp ht).1
  simp [obv, hl, ht]
  rw [List.getElem?_eq_getElem hl] at ht
  rw [Option.some.inj ht]
theorem obv_len {E : En} {tp : List (Option Nat)} {f : Nat → Int32} : (obv E tp f).length = tp.length := by simp [obv]
theorem lay_up {E : En} {kd : Nat → Lk} {x y : St} {q : Nat} {e : va_E} (he : e = ent E (kd q) (y.1 q) (y.2.1 q) (y.2.2 q)) (h1 : ∀ a, a ≠ q → y.1 a = x.1 a) (h2 : ∀ a, a ≠ q → y.2.1 a = x.2.1 a) (h3 : ∀ a, a ≠ q → y.2.2 a = x.2.2 a) : va_up (lay E kd x) q e = lay E kd y := by
  funext a
  by_cases h : a = q
  · subst h
    simp [va_up, lay, he]
  · simp [va_up, lay, h, h1 a h, h2 a h, h3 a h]
/-! What never changes: the words that no list of words carries, a static array, the texts, and what an exception wants. -/
def StN (U : State) : Prop := va_Nw (.methodLinkNest "ColorScheme" 24 ⟨"ColorScheme$Design", "<init>", "()V"⟩ "ColorScheme") U ∧ va_Nw (.methodLinkNest "ColorScheme$History" 24 ⟨"ColorScheme$Design", "<init>", "()V"⟩ "ColorScheme") U ∧ va_Nw (.methodLinkNest "ColorScheme$Colours" 45 ⟨"ColorScheme", "limited", "(III)I"⟩ "ColorScheme") U ∧ va_Nw (.methodLinkNest "ColorScheme$Floor" 42 ⟨"ColorScheme", "limited", "(III)I"⟩ "ColorScheme") U ∧ va_Nw (.fieldLinkNest "ColorScheme$Colours" 41 "ColorScheme" "SIGHT_FACTORS" "[I" "ColorScheme") U
def sfL : List Int32 := [1000, 0, 0, 0, 1000, 0, 0, 0, 1000, 152, 1053, -205, 115, 786, 99, -4, -48, 1052, 367, 861, -228, 280, 673, 47, -12, 43, 969, 1256, -77, -179, -78, 930, 148, 5, 691, 304, 299, 587, 114, 299, 587, 114, 299, 587, 114]
def sfF (j : Nat) : Int32 := sfL.getD j 0
/-- cells that a run may not touch: those that were there before it -/
def eA (E : En) : Nat → Prop := fun q => eL E ≤ q
def StF (E : En) (U : State) (H : Heap) : Prop := ∃ t, va_Z "ColorScheme" "SIGHT_FACTORS" "[I" (.ref t) (eA E) U H ∧ va_T .int t 45 (fun j => .int (sfF j)) (eA E) U H
/-- the texts: whose constant, its number, the text, its bytes -/
def txT : List (String × Nat × String × List Int32) := [
  ("ColorScheme$SetupReader", 49, "scheme", [115, 99, 104, 101, 109, 101]), ("ColorScheme$SetupReader", 77, "role", [114, 111, 108, 101]), ("ColorScheme$SetupReader", 86, "text", [116, 101, 120, 116]), ("ColorScheme$SetupReader", 92, "distinct", [100, 105, 115, 116, 105, 110, 99, 116]), ("ColorScheme$SetupReader", 94, "floor", [102, 108, 111, 111, 114]), ("ColorScheme$SetupReader", 114, "dark", [100, 97, 114, 107]), ("ColorScheme$SetupReader", 119, "fixed", [102, 105, 120, 101, 100]),
  ("ColorScheme$Floor", 72, "size", [115, 105, 122, 101]), ("ColorScheme$Floor", 77, "scheme", [115, 99, 104, 101, 109, 101]),
  ("ColorSchemeModel", 111, "scheme", [115, 99, 104, 101, 109, 101]), ("ColorSchemeModel", 142, "role", [114, 111, 108, 101]), ("ColorSchemeModel", 146, "text", [116, 101, 120, 116]), ("ColorSchemeModel", 152, "distinct", [100, 105, 115, 116, 105, 110, 99, 116]), ("ColorSchemeModel", 154, "floor", [102, 108, 111, 111, 114]), ("ColorSchemeModel", 132, "dark", [100, 97, 114, 107]), ("ColorSchemeModel", 134, "fixed", [102, 105, 120, 101, 100]), ("ColorSchemeModel", 105, "size", [115, 105, 122, 101])]
def StR (E : En) (U : State) : Prop := ∀ (i : Nat) (t : String × Nat × String × List Int32), txT[i]? = some t → vk_R t.1 t.2.1 t.2.2.1 (eS E i) U
def StS (E : En) (U : State) (H : Heap) : Prop := ∀ (i : Nat) (t : String × Nat × String × List Int32), txT[i]? = some t → ∃ v, va_O "java/lang/String" (eS E i) (eA E) U H ∧ va_OF "java/lang/String" "coder" "B" (.int 0) (eS E i) (eA E) U H ∧ va_OF "java/lang/String" "value" "[B" (.ref v) (eS E i) (eA E) U H ∧ va_T .byte v t.2.2.2.length (fun j => .int (t.2.2.2.getD j 0)) (eA E) U H
def StC (E : En) (U : State) (H : Heap) : Prop := va_Z "java/lang/String" "COMPACT_STRINGS" "Z" (.int 1) (eA E) U H ∧ va_Zq "jdk/internal/util/Preconditions" "SIOOBE_FORMATTER" "Ljava/util/function/BiFunction;" (eA E) U H
def xcL : List String := ["java/lang/IllegalArgumentException", "java/lang/IndexOutOfBoundsException", "java/util/NoSuchElementException", "java/lang/IllegalStateException"]
def xtL : List (Nat × String) := [(52, "the buffer has no such length"), (187, "no such role"), (192, "no such scheme"), (194, "a sight is 0 to 4"), (197, "a colour is 0 to 16777215"), (190, "no such rule"), (136, "no such violation"), (155, "an amount is -255 to 255"), (159, "the role is fixed"), (165, "at most 1 to 6 shifts")]
def xdL : List String := ["java/lang/RuntimeException", "java/lang/Exception", "java/lang/Throwable"]
/-- classes of which the first is no kind of the second -/
def xnL : List (String × String) := [("java/lang/IllegalArgumentException", "java/lang/IndexOutOfBoundsException"), ("java/lang/IllegalStateException", "java/lang/IndexOutOfBoundsException"), ("java/lang/IllegalStateException", "java/lang/IllegalArgumentException")]
def StW (U : State) : Prop := (∀ X ∈ xcL, va_Nw (.castable X X) U) ∧ (∀ t ∈ xtL, ∃ a, vk_R "ColorScheme" t.1 t.2 a U) ∧ (∀ X ∈ xdL, va_Nw (.declares ⟨X, "<init>", "(Ljava/lang/String;)V"⟩) U) ∧ ∀ q ∈ xnL, va_Nc q.1 q.2 U
def StX (E : En) (U : State) (H : Heap) : Prop := vx_Zq Bundle.tN "UNASSIGNED_STACK" Bundle.steD (eA E) U H ∧ vx_Zq Bundle.tN "SUPPRESSED_SENTINEL" Bundle.listD (eA E) U H
/-- all of it -/
def Stc (E : En) (U : State) (H : Heap) : Prop := (StN U ∧ StR E U ∧ StW U) ∧ StF E U H ∧ StS E U H ∧ StC E U H ∧ StX E U H
theorem Stc.warm {E : En} {s U : State} {H : Heap} (hW : s.WarmedH U.vm) (h : Stc E s H) : Stc E U H := by
  obtain ⟨⟨⟨n1, n2, n3, n4, n5⟩, hR, hX, hY, hV, hZ⟩, ⟨t, f1, f2⟩, hS, hC, x1, x2⟩ := h
  refine ⟨⟨⟨n1.warmM hW, n2.warmM hW, n3.warmM hW, n4.warmM hW, n5.warmF hW⟩, fun i t ht => (hR i t ht).warm hW, fun X hXm => (hX X hXm).warmC hW, fun t ht => ?_, fun X hXm => (hV X hXm).warmD hW, fun q hq => va_Nc.moved hW.alike (hZ q hq)⟩, ⟨t, f1.moved hW.alike, f2.moved hW.alike⟩, fun i t ht => ?_, ⟨va_Z.moved hW.alike hC.1, va_Zq.moved hW.alike hC.2⟩, x1.moved hW.alike, x2.moved hW.alike⟩
  · obtain ⟨a, ha⟩ := hY t ht
    exact ⟨a, ha.warm hW⟩
  · obtain ⟨v, a, b, c, d⟩ := hS i t ht
    exact ⟨v, a.moved hW.alike, b.moved hW.alike, c.moved hW.alike, d.moved hW.alike⟩
theorem Stc.kept {E : En} {U : State} {H H1 : Heap} (h : Stc E U H) (hq : ∀ a : Nat, a < H.size → a < eL E → H1[a]? = H[a]?) : Stc E U H1 := by
  have hq : ∀ a : Nat, a < H.size → ¬ eA E a → H1[a]? = H[a]? := fun a h1 h2 => hq a h1 (Nat.not_le.mp h2)
  obtain ⟨h0, ⟨t, f1, f2⟩, hS, hC, x1, x2⟩ := h
  refine ⟨h0, ⟨t, f1.kept hq, f2.kept hq⟩, fun i t ht => ?_, ⟨va_Z.kept hC.1 hq, va_Zq.kept hC.2 hq⟩, x1.kept hq, x2.kept hq⟩
  obtain ⟨v, a, b, c, d⟩ := hS i t ht
  exact ⟨v, a.kept hq, b.kept hq, c.kept hq, d.kept hq⟩
section RW
variable {p : Program} {l : Launch} {e : Env} {R : Room} {s : State} {m : MethodId} {args : Array Value} {below : List Frame} {meth : Method} {c : Code} {H : Heap} {locs : List Loc} {cells slots : Nat} {Q : State → Prop}
variable {cc : ByteArray} {nL pc idx : Nat} {ls : Array Slot} {rest st : List Value} {own : String} {N : Nat} {E : En} {kd : Nat → Lk} {x : St}
abbrev CF (p : Program) (m : MethodId) (c : Code) (cc : ByteArray) (nL : Nat) (s : State) (args : Array Value) (own : String) : Prop := CallFix p m c cc nL s args lwg own
/-- the world: the places with their contents -/
abbrev Wp (N : Nat) (E : En) (kd : Nat → Lk) (x : St) (H : Heap) : Prop := va_P (eD E) vwCl (fw N (eP E) (lay E kd x)) H
abbrev Vk (E : En) (U : State) : Prop := va_K (eD E) vwCl (tys E) U
theorem rw_geti (S : CF p m c cc nL s args own) (hK : Vk E s) (hP : Wp N E kd x H) (q : Nat) (hq : q < N) {C : String} {T : u_T} {n ci j : Nat} {tp : List (Option Nat)} (hk : kd q = .inl (ci, tp)) (hF : Fk own idx C T n ci j) (ht : tp[j]? = some none) {v : Int32} (hv : x.1 q j = v) (hdg : decode cc pc = .ok (.getfield idx, 3))
    (kk : W p l e R s m args below meth c H locs cells slots Q (F0 m (pc + 3) ls (.int v :: rest))) : W p l e R s m args below meth c H locs cells slots Q (F0 m pc ls (.ref (eP E q) :: rest)) := by
  obtain ⟨hx, hb, -, hown, hts⟩ := S
  obtain ⟨hc, hin, hj, hl⟩ := hF
  subst hv
  refine va_get (ci := ci) (fs := obv E tp (x.1 q)) (C := C) (T := T) (N := n) hx hb hts hin hown hK hP q ?_ hc j hj (hts _ hl) (fun _ h => h) (obv_int ht) hdg kk
  rw [fw_at hq]
  unfold lay
  rw [hk]
  rfl
theorem rw_getr (S : CF p m c cc nL s args own) (hK : Vk E s) (hP : Wp N E kd x H) (q : Nat) (hq : q < N) {C : String} {T : u_T} {n ci j : Nat} {tp : List (Option Nat)} (hk : kd q = .inl (ci, tp)) (hF : Fk own idx C T n ci j) {r : Nat} (ht : tp[j]? = some (some r)) (hdg : decode cc pc = .ok (.getfield idx, 3))
    (kk : W p l e R s m args below meth c H locs cells slots Q (F0 m (pc + 3) ls (.ref (eP E r) :: rest))) : W p l e R s m args below meth c H locs cells slots Q (F0 m pc ls (.ref (eP E q) :: rest)) := by
  obtain ⟨hx, hb, -, hown, hts⟩ := S
  obtain ⟨hc, hin, hj, hl⟩ := hF
  refine va_get (ci := ci) (fs := obv E tp (x.1 q)) (C := C) (T := T) (N := n) hx hb hts hin hown hK hP q ?_ hc j hj (hts _ hl) (fun _ h => h) (obv_ref ht) hdg kk
  rw [fw_at hq]
  unfold lay
  rw [hk]
  rfl
/-- what a row that writes leaves -/
theorem rw_puti (S : CF p m c cc nL s args own) (hE : Ev N E) (hK : Vk E s) (hP : Wp N E kd x H) (hS : va_S (cA N E) s.heap H locs) (q : Nat) (hq : q < N) {C : String} {T : u_T} {n ci j : Nat} {tp : List (Option Nat)} (hk : kd q = .inl (ci, tp)) (hF : Fk own idx C T n ci j) (ht : tp[j]? = some none) {ty0 : Nat → FieldType} (hty : ∀ k, k < n → parseFieldDescriptor (T k).2.2.1 = some (ty0 k)) (hnm : ∀ a, a < n → ∀ b, b < n → a ≠ b → (T a).2.1 ≠ (T b).2.1) (hf : (T j).2.2.2 = false ∧ parseFieldDescriptor (T j).2.2.1 = some .int) {v : Int32} (hdg : decode cc pc = .ok (.putfield idx, 3))
    (kk : ∀ (H : Heap) (locs : List Loc), Wp N E kd (up2 x.1 q j v, x.2) H → va_S (cA N E) s.heap H locs → W p l e R s m args below meth c H locs cells slots Q (F0 m (pc + 3) ls rest)) : W p l e R s m args below meth c H locs cells slots Q (F0 m pc ls (.int v :: .ref (eP E q) :: rest)) := by
  obtain ⟨hx, hb, -, hown, hts⟩ := S
  obtain ⟨hc, hin, hj, hl⟩ := hF
  refine va_put (ci := ci) (fs := obv E tp (x.1 q)) (C := C) (T := T) (N := n) hx hb hts hin ty0 hty hnm hown hK hP (fw_D hE) hS q ?_ hc j hj (hts _ hl) (fun _ h => h) hf.1 hf.2 rfl rfl ?_ hdg (fun H1 locs1 hP1 _ hS1 => ?_)
  · rw [fw_at hq]
    unfold lay
    rw [hk]
    rfl
  · rw [obv_len]
    exact (List.getElem?_eq_some_iff.mp ht).1
  · refine kk H1 locs1 ?_ hS1
    rw [fw_set, obv_set ht, lay_up (x := x) (y := (up2 x.1 q j v, x.2)) ?_ (fun a ha => up2_row ha) (fun _ _ => rfl) (fun _ _ => rfl)] at hP1
    · exact hP1
    · rw [hk]
      simp [ent, up2_self]
theorem rw_at {q : Nat} {r : Nat × Nat} (hq : q < N) (hk : kd q = .inr (.inl r)) : (fw N (eP E) (lay E kd x))[q]? = some (eP E q, .inl (eT E r.1, r.2, .inl (x.2.1 q))) := by
  rw [fw_at hq]
  unfold lay
  rw [hk]
  rfl
theorem rw_upA {q : Nat} {r : Nat × Nat} {f : Nat → Int32} (hk : kd q = .inr (.inl r)) : (fw N (eP E) (lay E kd x)).set q (eP E q, .inl (eT E r.1, r.2, .inl f)) = fw N (eP E) (lay E kd (x.1, va_up x.2.1 q f, x.2.2)) := by
  rw [fw_set, lay_up (x := x) (y := (x.1, va_up x.2.1 q f, x.2.2)) ?_ (fun _ _ => rfl) (fun a ha => by simp [va_up, ha]) (fun _ _ => rfl)]
  rw [hk]
  simp [ent, va_up]
theorem rw_upd {f : Nat → Nat → Int32} {q j : Nat} {v : Int32} : va_up f q (upd (f q) j v) = up2 f q j v := by
  funext a b
  by_cases h : a = q
  · subst h
    by_cases hb : b = j <;> simp [va_up, up2, upd, hb]
  · simp [va_up, up2, h]
/-- an element of an array of ints, of bytes, of booleans: tt is the number of its kind -/
theorem rw_iald (S : CF p m c cc nL s args own) (hK : Vk E s) (hP : Wp N E kd x H) (q : Nat) (hq : q < N) {n : Nat} (hk : kd q = .inr (.inl (1, n))) {i : Int32} (j : Nat) (hi : i = nI j) (hj : j < n) (hn : n < 2 ^ 31) {v : Int32} (hv : x.2.1 q j = v) (hdg : decode cc pc = .ok (.iaload, 1))
    (kk : W p l e R s m args below meth c H locs cells slots Q (F0 m (pc + 1) ls (.int v :: rest))) : W p l e R s m args below meth c H locs cells slots Q (F0 m pc ls (.int i :: .ref (eP E q) :: rest)) := by
  obtain ⟨hx, hb, -, hown, hts⟩ := S
  subst hv; subst hi
  refine va_iald hx hb hK hP q 1 (rw_at hq hk) rfl (vp_in_nI hj hn) hdg ?_
  rw [nI_clamp (by omega)]
  exact kk
theorem rw_bald (S : CF p m c cc nL s args own) (hK : Vk E s) (hP : Wp N E kd x H) (q : Nat) (hq : q < N) {n : Nat} (hk : kd q = .inr (.inl (0, n))) {i : Int32} (j : Nat) (hi : i = nI j) (hj : j < n) (hn : n < 2 ^ 31) {v : Int32} (hv : x.2.1 q j = v) (hdg : decode cc pc = .ok (.baload, 1))
    (kk : W p l e R s m args below meth c H locs cells slots Q (F0 m (pc + 1) ls (.int v :: rest))) : W p l e R s m args below meth c H locs cells slots Q (F0 m pc ls (.int i :: .ref (eP E q) :: rest)) := by
  obtain ⟨hx, hb, -, hown, hts⟩ := S
  subst hv; subst hi
  refine va_bald hx hb hK hP q 0 (rw_at hq hk) rfl (vp_in_nI hj hn) hdg ?_
  rw [nI_clamp (by omega)]
  exact kk
theorem rw_zald (S : CF p m c cc nL s args own) (hK : Vk E s) (hP : Wp N E kd x H) (q : Nat) (hq : q < N) {n : Nat} (hk : kd q = .inr (.inl (3, n))) {i : Int32} (j : Nat) (hi : i = nI j) (hj : j < n) (hn : n < 2 ^ 31) {v : Int32} (hv : x.2.1 q j = v) (hdg : decode cc pc = .ok (.baload, 1))
    (kk : W p l e R s m args below meth c H locs cells slots Q (F0 m (pc + 1) ls (.int v :: rest))) : W p l e R s m args below meth c H locs cells slots Q (F0 m pc ls (.int i :: .ref (eP E q) :: rest)) := by
  obtain ⟨hx, hb, -, hown, hts⟩ := S
  subst hv; subst hi
  refine va_zald hx hb hK hP q 3 (rw_at hq hk) rfl (vp_in_nI hj hn) hdg ?_
  rw [nI_clamp (by omega)]
  exact kk
theorem rw_lald (S : CF p m c cc nL s args own) (hK : Vk E s) (hP : Wp N E kd x H) (q : Nat) (hq : q < N) {n : Nat} (hk : kd q = .inr (.inr (.inl (2, n)))) {i : Int32} (j : Nat) (hi : i = nI j) (hj : j < n) (hn : n < 2 ^ 31) {v : Int64} (hv : x.2.2 q j = v) (hdg : decode cc pc = .ok (.laload, 1))
    (kk : W p l e R s m args below meth c H locs cells slots Q (F0 m (pc + 1) ls (.long v :: rest))) : W p l e R s m args below meth c H locs cells slots Q (F0 m pc ls (.int i :: .ref (eP E q) :: rest)) := by
  obtain ⟨hx, hb, -, hown, hts⟩ := S
  subst hv; subst hi
  refine va_lald (n := n) (f := x.2.2 q) (cA := eT E 2) hx hb hK hP q 2 ?_ rfl (vp_in_nI hj hn) hdg ?_
  · rw [fw_at hq]
    unfold lay
    rw [hk]
    rfl
  · rw [nI_clamp (by omega)]
    exact kk
/-- an element of an array of designs (t0 = 4), of an array of arrays (t0 = 5) -/
theorem rw_aald (S : CF p m c cc nL s args own) (hK : Vk E s) (hP : Wp N E kd x H) (q : Nat) (hq : q < N) (t0 : Nat) {n : Nat} {g : Nat → Nat} (hk : kd q = .inr (.inr (.inr (t0, n, g)))) {ty : FieldType} (ht : (tys E)[t0]? = some (eT E t0, ty)) (hr : ty.isReference = true) {i : Int32} (j : Nat) (hi : i = nI j) (hj : j < n) (hn : n < 2 ^ 31) {r : Nat} (hg : g j = r) (hdg : decode cc pc = .ok (.aaload, 1))
    (kk : W p l e R s m args below meth c H locs cells slots Q (F0 m (pc + 1) ls (.ref (eP E r) :: rest))) : W p l e R s m args below meth c H locs cells slots Q (F0 m pc ls (.int i :: .ref (eP E q) :: rest)) := by
  obtain ⟨hx, hb, -, hown, hts⟩ := S
  subst hi; subst hg
  have hin : vp_in (nI j) n := vp_in_nI hj hn
  have hc : (nI j).toNatClampNeg = j := nI_clamp (by omega)
  have hf : va_rf (rfv E n g j) = .ref (eP E (g j)) := by simp [rfv, hj, va_rf]
  have ha : (fw N (eP E) (lay E kd x))[q]? = some (eP E q, .inl (eT E t0, n, .inr (.inr (.inr (.inr (rfv E n g)))))) := by
    rw [fw_at hq]
    unfold lay
    rw [hk]
    rfl
  refine W.aald (v := .ref (eP E (g j))) (ty := ty) hx hb (hP q _ ha) ((hK.2 t0 _ ht).1 n (fun j => va_rf (rfv E n g j))) hr (fun q => by cases q) (by show ¬ (nI j < 0 ∨ (arrV _ _ _).slots.size ≤ _); rw [arrV_size]; exact hin) (by show (arrV _ _ _).slots[_]? = _; rw [hc, arrV_read _ _ hj, hf]) rfl rfl hdg kk
theorem rw_alen (S : CF p m c cc nL s args own) (hK : Vk E s) (hP : Wp N E kd x H) (q : Nat) (hq : q < N) {r : Nat × Nat} (hk : kd q = .inr (.inl r)) {ty : FieldType} (ht : (tys E)[r.1]? = some (eT E r.1, ty)) (hdg : decode cc pc = .ok (.arraylength, 1))
    (kk : W p l e R s m args below meth c H locs cells slots Q (F0 m (pc + 1) ls (.int (nI r.2) :: rest))) : W p l e R s m args below meth c H locs cells slots Q (F0 m pc ls (.ref (eP E q) :: rest)) := by
  obtain ⟨hx, hb, -, hown, hts⟩ := S
  exact va_alen hx hb hK hP q r.1 (rw_at hq hk) ht rfl hdg kk
theorem rw_iast (S : CF p m c cc nL s args own) (hE : Ev N E) (hK : Vk E s) (hP : Wp N E kd x H) (hS : va_S (cA N E) s.heap H locs) (q : Nat) (hq : q < N) {n : Nat} (hk : kd q = .inr (.inl (1, n))) {i : Int32} (j : Nat) (hi : i = nI j) (hj : j < n) (hn : n < 2 ^ 31) {v : Int32} (hdg : decode cc pc = .ok (.iastore, 1))
    (kk : ∀ (H : Heap) (locs : List Loc), Wp N E kd (x.1, up2 x.2.1 q j v, x.2.2) H → va_S (cA N E) s.heap H locs → W p l e R s m args below meth c H locs cells slots Q (F0 m (pc + 1) ls rest)) : W p l e R s m args below meth c H locs cells slots Q (F0 m pc ls (.int v :: .int i :: .ref (eP E q) :: rest)) := by
  obtain ⟨hx, hb, -, hown, hts⟩ := S
  subst hi
  refine va_iast hx hb hK hP (fw_D hE) hS q 1 (rw_at hq hk) rfl (vp_in_nI hj hn) hdg (fun H1 locs1 hP1 _ hS1 => kk H1 locs1 ?_ hS1)
  rw [nI_clamp (by omega), rw_upA hk, rw_upd] at hP1
  exact hP1
theorem rw_bast (S : CF p m c cc nL s args own) (hE : Ev N E) (hK : Vk E s) (hP : Wp N E kd x H) (hS : va_S (cA N E) s.heap H locs) (q : Nat) (hq : q < N) {n : Nat} (hk : kd q = .inr (.inl (0, n))) {i : Int32} (j : Nat) (hi : i = nI j) (hj : j < n) (hn : n < 2 ^ 31) {v w : Int32} (hw : vp_nar .byte v = w) (hdg : decode cc pc = .ok (.bastore, 1))
    (kk : ∀ (H : Heap) (locs : List Loc), Wp N E kd (x.1, up2 x.2.1 q j w, x.2.2) H → va_S (cA N E) s.heap H locs → W p l e R s m args below meth c H locs cells slots Q (F0 m (pc + 1) ls rest)) : W p l e R s m args below meth c H locs cells slots Q (F0 m pc ls (.int v :: .int i :: .ref (eP E q) :: rest)) := by
  obtain ⟨hx, hb, -, hown, hts⟩ := S
  subst hi; subst hw
  refine va_bast hx hb hK hP (fw_D hE) hS q 0 (rw_at hq hk) rfl (vp_in_nI hj hn) hdg (fun H1 locs1 hP1 _ hS1 => kk H1 locs1 ?_ hS1)
  rw [nI_clamp (by omega), rw_upA hk, rw_upd] at hP1
  exact hP1
theorem rw_zast (S : CF p m c cc nL s args own) (hE : Ev N E) (hK : Vk E s) (hP : Wp N E kd x H) (hS : va_S (cA N E) s.heap H locs) (q : Nat) (hq : q < N) {n : Nat} (hk : kd q = .inr (.inl (3, n))) {i : Int32} (j : Nat) (hi : i = nI j) (hj : j < n) (hn : n < 2 ^ 31) {v w : Int32} (hw : vp_nar .boolean v = w) (hdg : decode cc pc = .ok (.bastore, 1))
    (kk : ∀ (H : Heap) (locs : List Loc), Wp N E kd (x.1, up2 x.2.1 q j w, x.2.2) H → va_S (cA N E) s.heap H locs → W p l e R s m args below meth c H locs cells slots Q (F0 m (pc + 1) ls rest)) : W p l e R s m args below meth c H locs cells slots Q (F0 m pc ls (.int v :: .int i :: .ref (eP E q) :: rest)) := by
  obtain ⟨hx, hb, -, hown, hts⟩ := S
  subst hi; subst hw
  refine va_zast hx hb hK hP (fw_D hE) hS q 3 (rw_at hq hk) rfl (vp_in_nI hj hn) hdg (fun H1 locs1 hP1 _ hS1 => kk H1 locs1 ?_ hS1)
  rw [nI_clamp (by omega), rw_upA hk, rw_upd] at hP1
  exact hP1
theorem rw_last (S : CF p m c cc nL s args own) (hE : Ev N E) (hK : Vk E s) (hP : Wp N E kd x H) (hS : va_S (cA N E) s.heap H locs) (q : Nat) (hq : q < N) {n : Nat} (hk : kd q = .inr (.inr (.inl (2, n)))) {i : Int32} (j : Nat) (hi : i = nI j) (hj : j < n) (hn : n < 2 ^ 31) {v : Int64} (hdg : decode cc pc = .ok (.lastore, 1))
    (kk : ∀ (H : Heap) (locs : List Loc), Wp N E kd (x.1, x.2.1, up2 x.2.2 q j v) H → va_S (cA N E) s.heap H locs → W p l e R s m args below meth c H locs cells slots Q (F0 m (pc + 1) ls rest)) : W p l e R s m args below meth c H locs cells slots Q (F0 m pc ls (.long v :: .int i :: .ref (eP E q) :: rest)) := by
  obtain ⟨hx, hb, -, hown, hts⟩ := S
  subst hi
  have ha : (fw N (eP E) (lay E kd x))[q]? = some (eP E q, .inl (eT E 2, n, .inr (.inl (x.2.2 q)))) := by
    rw [fw_at hq]
    unfold lay
    rw [hk]
    rfl
  refine va_last hx hb hK hP (fw_D hE) hS q 2 ha rfl (vp_in_nI hj hn) hdg (fun H1 locs1 hP1 _ hS1 => kk H1 locs1 ?_ hS1)
  rw [nI_clamp (by omega), fw_set, lay_up (x := x) (y := (x.1, x.2.1, up2 x.2.2 q j v)) ?_ (fun _ _ => rfl) (fun _ _ => rfl) (fun a ha => up2_row ha)] at hP1
  · exact hP1
  · rw [hk]
    simp [ent, up2_self]
    funext b
    simp [vp_updL]
/-- System.arraycopy between two rows of ints -/
theorem rw_copyi (S : CF p m c cc nL s args own) (hE : Ev N E) (hK : Vk E s) (hP : Wp N E kd x H) (hS : va_S (cA N E) s.heap H locs) (hsz : ls.size = nL) (q0 q1 : Nat) (hq0 : q0 < N) (hq1 : q1 < N) {n0 n1 : Nat} (hk0 : kd q0 = .inr (.inl (1, n0))) (hk1 : kd q1 = .inr (.inl (1, n1))) (hlk : Cond.methodLink own idx arraycopyName ∈ lwg) (hw : Cond.native arraycopyName ∈ lwg ∧ Cond.static arraycopyName ∈ lwg ∧ Cond.initialized "java/lang/System" ∈ lwg)
    {sp dp nn : Int32} (k : Nat) (h0 : sp = 0 ∧ dp = 0 ∧ nn = nI k) (hb0 : k ≤ n0) (hb1 : k ≤ n1) (hb2 : k < 2 ^ 31) (hframes : 1 ≤ R.frames) (hlocals : (rest.map fun v => v.category).sum + (nativeFrameWords "java/lang/System" "arraycopy" 5 + 11) ≤ R.locals) (hdg : decode cc pc = .ok (.invokestatic idx, 3))
    (kk : ∀ (H : Heap) (locs : List Loc), Wp N E kd (x.1, va_up x.2.1 q1 (va_cpy (x.2.1 q0) (x.2.1 q1) 0 0 k), x.2.2) H → va_S (cA N E) s.heap H locs → W p l e R s m args below meth c H locs cells slots Q (F0 m (pc + 3) ls rest)) : W p l e R s m args below meth c H locs cells slots Q (F0 m pc ls (.int nn :: .int dp :: .ref (eP E q1) :: .int sp :: .ref (eP E q0) :: rest)) := by
  obtain ⟨hx, hb, hml, hown, hts⟩ := S
  obtain ⟨rfl, rfl, rfl⟩ := h0
  obtain ⟨hnat, hst, hini⟩ := hw
  have hc : (nI k).toNatClampNeg = k := nI_clamp hb2
  have hz : (0 : Int32).toNatClampNeg = 0 := rfl
  refine va_copyi (ty := .int) hx hb (hml.trans hsz.symm) hown (hts _ hlk) (hts _ hnat) (hts _ hst) (hts _ hini) hK hP (fw_D hE) hS q0 q1 1 1 (rw_at hq0 hk0) (rw_at hq1 hk1) rfl rfl rfl (by decide) (by decide) (nI_pos hb2) (by rw [hc, hz]; omega) (by rw [hc, hz]; omega) (fun _ _ => rfl) hframes hlocals hdg (fun H1 locs1 hP1 _ hS1 => kk H1 locs1 ?_ hS1)
  rw [hc, hz, rw_upA hk1] at hP1
  exact hP1
end RW
/-! contracts and calls -/
/-- a start over the world -/
def Bw (N : Nat) (E : En) (kd : Nat → Lk) (x : St) (U : State) : Prop := Vk E U ∧ Stc E U U.heap ∧ Wp N E kd x U.heap
/-- a start over the tables and the static things alone -/
def Bs (E : En) (U : State) : Prop := Stc E U U.heap
/-- a room: frames, cells, slots, locals -/
abbrev rmk (f cl sl lo : Nat) : Room := { frames := f, cells := cl, slots := sl, locals := lo }
theorem bl_T {av : List Value} : FrameBlind (va_Pc av (fun _ => True)) := fun _ _ _ _ h => h
theorem bl_s {av : List Value} {E : En} : FrameBlind (va_Pc av (Bs E)) := fun _ U g mk h => ⟨h.1, (h.2 : Stc E U U.heap).warm (U := U.calling g mk _) (State.WarmedH.refl U)⟩
theorem bl_w {av : List Value} {N : Nat} {E : En} {kd : Nat → Lk} {x : St} : FrameBlind (va_Pc av (Bw N E kd x)) := fun a U g mk h => ⟨h.1, va_K.moved (u := U) (U := U.calling g mk a) (Vm.Alike.refl U.vm) h.2.1, h.2.2.1.warm (U := U.calling g mk a) (State.WarmedH.refl U), h.2.2.2⟩
section CR
variable {p : Program} {l : Launch} {e : Env} {R : Room} {s : State} {m : MethodId} {args : Array Value} {below : List Frame} {meth : Method} {c : Code} {H : Heap} {locs : List Loc} {cells slots : Nat} {Q : State → Prop}
variable {cc b : ByteArray} {nL pc idx maxL n mc ms : Nat} {ls : Array Slot} {rest av : List Value} {own host : String} {N : Nat} {E : En} {kd : Nat → Lk} {x : St} {y : MethodName} {ret : Option FieldType} {rm : Room} {Bp : State → Prop} {Qc : Array Value → State → Outcome → State → Prop} {free : Addr → Prop}
theorem bw_U (hE : Ev N E) (hK : Vk E s) (hC : Stc E s s.heap) (hP : Wp N E kd x H) (hS : va_S (cA N E) s.heap H locs) : ∀ U : State, U.heap = H → s.WarmedH U.vm → Bw N E kd x U := by
  intro U hU hW
  refine ⟨va_K.moved hW.alike hK, (hC.warm hW).kept (fun a h1 h2 => ?_), by rw [hU]; exact hP⟩
  rw [hU]
  refine hS.2.1 a h1 (fun h => ?_)
  obtain ⟨i, hi, rfl⟩ := h
  exact absurd (hE.2 i hi) (Nat.not_le.mpr h2)
theorem bs_U (hE : Ev N E) (hC : Stc E s s.heap) (hS : va_S (cA N E) s.heap H locs) : ∀ U : State, U.heap = H → s.WarmedH U.vm → Bs E U := by
  intro U hU hW
  refine (hC.warm hW).kept (fun a h1 h2 => ?_)
  rw [hU]
  refine hS.2.1 a h1 (fun h => ?_)
  obtain ⟨i, hi, rfl⟩ := h
  exact absurd (hE.2 i hi) (Nat.not_le.mpr h2)
theorem bs_H (hC : Stc E s s.heap) : ∀ U : State, U.heap = s.heap → s.WarmedH U.vm → Bs E U := by
  intro U hU hW
  refine (hC.warm hW).kept (fun a h1 h2 => ?_)
  rw [hU]
theorem t_U : ∀ U : State, U.heap = H → s.WarmedH U.vm → (fun _ : State => True) U := fun _ _ _ => trivial
theorem ck_S (S : CF p m c cc nL s args own) (L : LkS own idx y b maxL ret n) (hM : Met l y (wz y b maxL ret) rm (va_Pc av Bp) Qc mc ms free) (hr : rm.cells = mc ∧ rm.slots = ms) (hR : rm.frames + 1 ≤ R.frames ∧ 8 + (maxL + 11) + rm.locals ≤ R.locals) (hB : FrameBlind (va_Pc av Bp)) (hU : ∀ U : State, U.heap = H → s.WarmedH U.vm → Bp U) (hn : av.length = n) (hsz : ls.size = nL) (hcat : (rest.map fun v => v.category).sum ≤ 8) (hcs : cells + mc ≤ R.cells ∧ slots + ms ≤ R.slots) (hdg : decode cc pc = .ok (.invokestatic idx, 3)) {st0 : List Value} (hst : st0 = av.reverse ++ rest) :
    va_Run p l e R s m args below meth c H locs cells slots mc ms (F0 m pc ls st0) rest (Qc av.toArray) free := by
  obtain ⟨l1, l2, l3, l4, l5⟩ := L
  obtain ⟨hx, hb, hml, hown, hts⟩ := S
  exact va_runS ⟨hx, hb, hml, hown, hts⟩ hM ⟨callB_of n hts (gi_z l1) rfl hr.1 hr.2 (hts _ l4) (hts _ l2) l5 hR, hts _ l3⟩ ⟨hB, fun U h1 h2 => ⟨rfl, hU U h1 h2⟩⟩ rfl hn hsz hst (lv_room hcat) hdg hcs
theorem ck_N (S : CF p m c cc nL s args own) (L : LkN y b maxL ret n) (hl : va_Nw (.methodLinkNest own idx y host) s) (hM : Met l y (wz y b maxL ret) rm (va_Pc av Bp) Qc mc ms free) (hr : rm.cells = mc ∧ rm.slots = ms) (hR : rm.frames + 1 ≤ R.frames ∧ 8 + (maxL + 11) + rm.locals ≤ R.locals) (hB : FrameBlind (va_Pc av Bp)) (hU : ∀ U : State, U.heap = H → s.WarmedH U.vm → Bp U) (hn : av.length = n) (hsz : ls.size = nL) (hcat : (rest.map fun v => v.category).sum ≤ 8) (hcs : cells + mc ≤ R.cells ∧ slots + ms ≤ R.slots) (hdg : decode cc pc = .ok (.invokestatic idx, 3)) {st0 : List Value} (hst : st0 = av.reverse ++ rest) :
    va_Run p l e R s m args below meth c H locs cells slots mc ms (F0 m pc ls st0) rest (Qc av.toArray) free := by
  obtain ⟨l1, l3, l4, l5⟩ := L
  obtain ⟨hx, hb, hml, hown, hts⟩ := S
  exact va_runSN (host := host) ⟨hx, hb, hml, hown, hts⟩ hM ⟨va_cnB n hts (gi_z l1) rfl hr.1 hr.2 hl (hts _ l4) l5 hR, hts _ l3, trivial⟩ ⟨hB, fun U h1 h2 => ⟨rfl, hU U h1 h2⟩⟩ rfl hn hsz hst (lv_room hcat) hdg hcs
/-- the receiver is an object of the plan -/
theorem rc_w (hK : Vk E s) (hP : Wp N E kd x H) (q : Nat) (hq : q < N) {ci : Nat} {tp : List (Option Nat)} (hk : kd q = .inl (ci, tp)) {C : String} {T : u_T} {k : Nat} (hc : vwCl[ci]? = some (C, T, k)) : ∃ cellB : Cell, H[eP E q]? = some cellB ∧ cellB.vm.isStatics = false ∧ s.vm.findClass C = some cellB.cls := by
  refine va_recv (ci := ci) (q0 := q) (fs := obv E tp (x.1 q)) hK hP hc ?_
  rw [fw_at hq]
  unfold lay
  rw [hk]
  rfl
theorem ck_V (S : CF p m c cc nL s args own) (L : LkV own idx y b maxL ret n) {a : Nat} (hM : Met l y (wz y b maxL ret) rm (va_Pc (.ref a :: av) Bp) Qc mc ms free) (hr : rm.cells = mc ∧ rm.slots = ms) (hR : rm.frames + 1 ≤ R.frames ∧ 8 + (maxL + 11) + rm.locals ≤ R.locals) (hB : FrameBlind (va_Pc (.ref a :: av) Bp)) (hrc : ∃ cellB : Cell, H[a]? = some cellB ∧ cellB.vm.isStatics = false ∧ s.vm.findClass y.cls = some cellB.cls) (hU : ∀ U : State, U.heap = H → s.WarmedH U.vm → Bp U) (hn : av.length = n) (hsz : ls.size = nL) (hcat : (rest.map fun v => v.category).sum ≤ 8) (hcs : cells + mc ≤ R.cells ∧ slots + ms ≤ R.slots) (hdg : decode cc pc = .ok (.invokevirtual idx, 3)) {st0 : List Value} (hst : st0 = av.reverse ++ .ref a :: rest) :
    va_Run p l e R s m args below meth c H locs cells slots mc ms (F0 m pc ls st0) rest (Qc (Value.ref a :: av).toArray) free := by
  obtain ⟨l1, l2, l3, l4, l5, l6⟩ := L
  obtain ⟨hx, hb, hml, hown, hts⟩ := S
  exact va_runV ⟨hx, hb, hml, hown, hts⟩ hM ⟨callB_of n hts (gi_z l1) rfl hr.1 hr.2 (hts _ l5) (hts _ l2) l6 hR, hts _ l3, hts _ l4⟩ ⟨hB, hrc, fun U h1 h2 => ⟨rfl, hU U h1 h2⟩⟩ rfl hn hsz hst (lv_room hcat) hdg hcs
end CR
/-! what a call that writes nothing says -/
def qSi (post : Int32 → Prop) : Array Value → State → Outcome → State → Prop := fun _ st o t => ∃ r : Int32, o = .returned (some (.int r)) ∧ post r ∧ t.heap = st.heap
def qSl (post : Int64 → Prop) : Array Value → State → Outcome → State → Prop := fun _ st o t => ∃ r : Int64, o = .returned (some (.long r)) ∧ post r ∧ t.heap = st.heap
/-- what a call that writes says: its answer and the state behind it -/
def qWi (N : Nat) (E : En) (kd : Nat → Lk) (post : Int32 → St → Prop) : Array Value → State → Outcome → State → Prop := va_Qi post (fun u t => Wp N E kd u t.heap) (cA N E)
def qWv (N : Nat) (E : En) (kd : Nat → Lk) (post : St → Prop) : Array Value → State → Outcome → State → Prop := va_Qv post (fun u t => Wp N E kd u t.heap) (cA N E)
def fr0 : Addr → Prop := fun _ => False
section CC
variable {p : Program} {l : Launch} {e : Env} {R : Room} {s : State} {m : MethodId} {args : Array Value} {below : List Frame} {meth : Method} {c : Code} {H H0 : Heap} {locs : List Loc} {cells slots : Nat} {Q : State → Prop}
variable {pc mc ms : Nat} {ls : Array Slot} {rest st0 : List Value} {a : Array Value} {N : Nat} {E : En} {kd : Nat → Lk}
theorem cn_si {post : Int32 → Prop} (hr : va_Run p l e R s m args below meth c H locs cells slots 0 0 (F0 m pc ls st0) rest (qSi post a) fr0)
    (kk : ∀ r : Int32, post r → W p l e R s m args below meth c H locs cells slots Q (F0 m (pc + 3) ls (.int r :: rest))) : W p l e R s m args below meth c H locs cells slots Q (F0 m pc ls st0) := by
  intro T hT X
  obtain ⟨v, st₀, t, T', L, h0, X', hL, e1, e2, ⟨r, hv, hp, hh⟩, st⟩ := hr T hT X
  cases hv
  obtain ⟨t2, a1, b1⟩ := kk r hp T' (by rw [e1, hh, h0]) (Stand.forget X' (fun q h => (hL q h).elim))
  exact ⟨t2, st t2 a1, b1⟩
theorem cn_sl {post : Int64 → Prop} (hr : va_Run p l e R s m args below meth c H locs cells slots 0 0 (F0 m pc ls st0) rest (qSl post a) fr0)
    (kk : ∀ r : Int64, post r → W p l e R s m args below meth c H locs cells slots Q (F0 m (pc + 3) ls (.long r :: rest))) : W p l e R s m args below meth c H locs cells slots Q (F0 m pc ls st0) := by
  intro T hT X
  obtain ⟨v, st₀, t, T', L, h0, X', hL, e1, e2, ⟨r, hv, hp, hh⟩, st⟩ := hr T hT X
  cases hv
  obtain ⟨t2, a1, b1⟩ := kk r hp T' (by rw [e1, hh, h0]) (Stand.forget X' (fun q h => (hL q h).elim))
  exact ⟨t2, st t2 a1, b1⟩
theorem cn_wi {post : Int32 → St → Prop} (hr : va_Run p l e R s m args below meth c H locs cells slots mc ms (F0 m pc ls st0) rest (qWi N E kd post a) (cA N E)) (hS : va_S (cA N E) H0 H locs)
    (kk : ∀ (r : Int32) (u : St) (H : Heap) (locs : List Loc), post r u → Wp N E kd u H → va_S (cA N E) H0 H locs → W p l e R s m args below meth c H locs (cells + mc) (slots + ms) Q (F0 m (pc + 3) ls (.int r :: rest))) : W p l e R s m args below meth c H locs cells slots Q (F0 m pc ls st0) :=
  va_calli hr hS (fun _ _ h => h) (fun _ h => h) (fun r u t H1 locs1 ht _ hp hB _ _ hS1 => kk r u H1 locs1 hp (by rw [← ht]; exact hB) hS1)
theorem cn_wv {post : St → Prop} (hr : va_Run p l e R s m args below meth c H locs cells slots mc ms (F0 m pc ls st0) rest (qWv N E kd post a) (cA N E)) (hS : va_S (cA N E) H0 H locs)
    (kk : ∀ (u : St) (H : Heap) (locs : List Loc), post u → Wp N E kd u H → va_S (cA N E) H0 H locs → W p l e R s m args below meth c H locs (cells + mc) (slots + ms) Q (F0 m (pc + 3) ls rest)) : W p l e R s m args below meth c H locs cells slots Q (F0 m pc ls st0) :=
  va_callv hr hS (fun _ _ h => h) (fun _ h => h) (fun u t H1 locs1 ht _ hp hB _ _ hS1 => kk u H1 locs1 hp (by rw [← ht]; exact hB) hS1)
end CC
/-! the ends of a method -/
section RE
variable {p : Program} {l : Launch} {e : Env} {R : Room} {s : State} {m : MethodId} {args : Array Value} {below : List Frame} {meth : Method} {c : Code} {H : Heap} {locs : List Loc}
variable {cc : ByteArray} {pc : Nat} {ls : Array Slot} {N : Nat} {E : En} {kd : Nat → Lk} {x : St}
theorem re_si {post : Int32 → Prop} {v : Int32} (hx : p.tables.exec = Jvm.exec) (hb : c.code = cc) (hr : meth.sig.returnType = some .int) (hlocks : meth.locks = false) (h : post v) (hdg : decode cc pc = .ok (.ireturn, 1)) : W p l e R s m args below meth c s.heap [] 0 0 (MQ below (qSi post) args s 0 0 fr0) (F0 m pc ls [.int v]) :=
  W.iret hx hb hr (fun t ht _ => ⟨v, rfl, h, ht⟩) (fun q h => by cases h) hdg hlocks
theorem re_sz {post : Int32 → Prop} {v : Int32} (hx : p.tables.exec = Jvm.exec) (hb : c.code = cc) (hr : meth.sig.returnType = some .boolean) (hlocks : meth.locks = false) (hn : narrow .boolean (.int v) = .int v) (h : post v) (hdg : decode cc pc = .ok (.ireturn, 1)) : W p l e R s m args below meth c s.heap [] 0 0 (MQ below (qSi post) args s 0 0 fr0) (F0 m pc ls [.int v]) :=
  W.zret hx hb hr hn (fun t ht _ => ⟨v, rfl, h, ht⟩) (fun q h => by cases h) hdg hlocks
theorem re_sl {post : Int64 → Prop} {v : Int64} (hx : p.tables.exec = Jvm.exec) (hb : c.code = cc) (hr : meth.sig.returnType = some .long) (hlocks : meth.locks = false) (h : post v) (hdg : decode cc pc = .ok (.lreturn, 1)) : W p l e R s m args below meth c s.heap [] 0 0 (MQ below (qSl post) args s 0 0 fr0) (F0 m pc ls [.long v]) :=
  W.lret hx hb hr (fun t ht _ => ⟨v, rfl, h, ht⟩) (fun q h => by cases h) hdg hlocks
theorem re_wi {post : Int32 → St → Prop} {v : Int32} (hx : p.tables.exec = Jvm.exec) (hb : c.code = cc) (hr : meth.sig.returnType = some .int) (hlocks : meth.locks = false) (hP : Wp N E kd x H) (hS : va_S (cA N E) s.heap H locs) (h : post v x) (hdg : decode cc pc = .ok (.ireturn, 1)) : W p l e R s m args below meth c H locs 0 0 (MQ below (qWi N E kd post) args s 0 0 (cA N E)) (F0 m pc ls [.int v]) :=
  W.iret hx hb hr (fun t ht _ => ⟨⟨v, x, rfl, h, (show Wp N E kd x t.heap by rw [ht]; exact hP)⟩, hS.F ht⟩) hS.2.2 hdg hlocks
theorem re_wz {post : Int32 → St → Prop} {v : Int32} (hx : p.tables.exec = Jvm.exec) (hb : c.code = cc) (hr : meth.sig.returnType = some .boolean) (hlocks : meth.locks = false) (hn : narrow .boolean (.int v) = .int v) (hP : Wp N E kd x H) (hS : va_S (cA N E) s.heap H locs) (h : post v x) (hdg : decode cc pc = .ok (.ireturn, 1)) : W p l e R s m args below meth c H locs 0 0 (MQ below (qWi N E kd post) args s 0 0 (cA N E)) (F0 m pc ls [.int v]) :=
  W.zret hx hb hr hn (fun t ht _ => ⟨⟨v, x, rfl, h, (show Wp N E kd x t.heap by rw [ht]; exact hP)⟩, hS.F ht⟩) hS.2.2 hdg hlocks
theorem re_wv {post : St → Prop} (hx : p.tables.exec = Jvm.exec) (hb : c.code = cc) (hr : meth.sig.returnType = none) (hlocks : meth.locks = false) (hP : Wp N E kd x H) (hS : va_S (cA N E) s.heap H locs) (h : post x) (hdg : decode cc pc = .ok (.return_, 1)) : W p l e R s m args below meth c H locs 0 0 (MQ below (qWv N E kd post) args s 0 0 (cA N E)) (F0 m pc ls []) :=
  W.vret hx hb hr (fun t ht _ => ⟨⟨x, rfl, h, (show Wp N E kd x t.heap by rw [ht]; exact hP)⟩, hS.F ht⟩) hS.2.2 hdg hlocks
end RE
/-! the beginning of a method -/
theorem en_ofW {l : Launch} {y : MethodName} {rm : Room} {av : List Value} {Bp : State → Prop} {Qc : Array Value → State → Outcome → State → Prop} {mc ms : Nat} {free : Addr → Prop} {cc : ByteArray} {maxL : Nat} {ret : Option FieldType} (own : String) (hc : y.cls = own) (hy : plainName y.cls = true) (hlen : (lg_sl av).length ≤ maxL)
    (body : ∀ (p : Program) (e : Env) (s : State) (m : MethodId) (below : List Frame) (meth : Method) (c : Code) (ls : Array Slot), CF p m c cc maxL s av.toArray own → meth.sig.returnType = ret → meth.locks = false → meth.name = y.name → lv_has ls maxL (lv_args 0 av) → Bp s →
      W p l e rm s m av.toArray below meth c s.heap [] 0 0 (MQ below Qc av.toArray s mc ms free) (F0 m 0 ls [])) : Met l y (wz y cc maxL ret) rm (va_Pc av Bp) Qc mc ms free := by
  refine Met.ofW (cc := cc) (maxL := maxL) (ret := ret) hy rfl ?_
  intro p e s m args below meth c s₁ B hml hv
  obtain ⟨rfl, hv⟩ := hv
  have hts := atoms_spec (ws := wz y cc maxL ret) B.pre
  have hown : s.vm.findClass y.cls = some m.cls := findClass_of_methodNamed B.named
  rw [hc] at hown
  have hl := lv_entry av (n := maxL) hlen
  rw [lg_entry_eq]
  exact body p e s m below meth c _ ⟨B.exec, B.bytes, hml, hown, fun w hw => hts w (List.mem_cons_of_mem _ hw)⟩ B.returns B.notSynchronized (name_of_methodNamed B.named B.method).1 hl hv
