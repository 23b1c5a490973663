/-- what the Statement gives of the start, in its order -/
def nwL : List Cond := flatC (Jvm.Cond.and given_1 narrow_1)
section ST
variable {s : State} {a0 : Array Value}
/-- the tables' words and the Statement's, of this start -/
def Sw (a0 : Array Value) (s : State) : Prop := (∀ w ∈ lw_tbl, w.before a0 s = true) ∧ ∀ w ∈ nwL, w.before a0 s = true
theorem sw_t (h : Sw a0 s) {w : Cond} (i : Nat) (hi : lw_tbl[i]? = some w) : w.before a0 s = true := h.1 w (List.mem_of_getElem? hi)
theorem sw_n (h : Sw a0 s) {w : Cond} (i : Nat) (hi : nwL[i]? = some w) : w.before a0 s = true := h.2 w (List.mem_of_getElem? hi)
theorem sz_A {q : Nat} {E : En} (h : eL E = s.heap.size) (hq : q < s.heap.size) : ¬ eA E q := by
  show ¬ eL E ≤ q
  omega
def cfs : List (Nat × Nat) := [(132, 439), (142, 524), (167, 555), (175, 572), (187, 573), (150, 544), (158, 546), (196, 601), (204, 603), (410, 980), (422, 1011), (450, 1036), (459, 1044), (472, 1045), (431, 1031), (440, 1032), (482, 1062)]
set_option maxRecDepth 100000 in
theorem tx_in : (List.range 17).all (fun i => match txT[i]?, cfs[i]? with
  | some t, some q => decide (lw_tbl[q.2]? = some (.stringRef t.1 t.2.1 t.2.2.1)) && decide (nwL[q.1]? = some (.exactly (.string t.1 t.2.1) "java/lang/String")) && decide (nwL[q.1 + 1]? = some (.eq (.field (.string t.1 t.2.1) "java/lang/String" "coder" "B") (.int 0))) && decide (nwL[q.1 + 2]? = some (.arrayOf (.field (.string t.1 t.2.1) "java/lang/String" "value" "[B") .byte)) && decide (nwL[q.1 + 3]? = some (.eq (.length (.field (.string t.1 t.2.1) "java/lang/String" "value" "[B")) (.int (Int32.ofNat t.2.2.2.length)))) && decide (t.2.2.2.length < 2 ^ 31) && (List.range t.2.2.2.length).all (fun j => decide (nwL[q.1 + 4 + j]? = some (.eq (.elem (.field (.string t.1 t.2.1) "java/lang/String" "value" "[B") (.int (Int32.ofNat j))) (.int (t.2.2.2.getD j 0)))))
  | _, _ => false) = true := by decide +kernel
theorem txs_of (h : Sw a0 s) (i : Nat) (hi : i < 17) : ∃ (t : String × Nat × String × List Int32) (k v : Nat), txT[i]? = some t ∧ vk_R t.1 t.2.1 t.2.2.1 k s ∧ ∀ E : En, eL E = s.heap.size → va_O "java/lang/String" k (eA E) s s.heap ∧ va_OF "java/lang/String" "coder" "B" (.int 0) k (eA E) s s.heap ∧ va_OF "java/lang/String" "value" "[B" (.ref v) k (eA E) s s.heap ∧ va_T .byte v t.2.2.2.length (fun j => .int (t.2.2.2.getD j 0)) (eA E) s s.heap := by
  have h1 := List.all_eq_true.mp tx_in i (List.mem_range.mpr hi)
  cases ht : txT[i]? with
  | none => rw [ht] at h1; cases h1
  | some t =>
    cases hc : cfs[i]? with
    | none => rw [ht, hc] at h1; cases h1
    | some q =>
      rw [ht, hc] at h1
      simp only [Bool.and_eq_true, decide_eq_true_eq] at h1
      obtain ⟨⟨⟨⟨⟨⟨w1, w2⟩, w3⟩, w4⟩, w5⟩, w6⟩, w7⟩ := h1
      obtain ⟨a, c, cA, kA, q1, q2, q3, q4, q5, q6, -⟩ := Cond.exactly_spec (args := a0) (first := s) (o := none) (s := s) (idx := []) (sw_n h _ w2)
      have hel : ∀ j : Nat, j < t.2.2.2.length → (Term.elem (.field (.string t.1 t.2.1) "java/lang/String" "value" "[B") (.int (Int32.ofNat j))).eval a0 s none [] s = some (.int (t.2.2.2.getD j 0)) := fun j hj => va_eqt (sw_n h _ (of_decide_eq_true (List.all_eq_true.mp w7 j (List.mem_range.mpr hj))))
      obtain ⟨v, hv, -⟩ := va_Tof (A := fun _ => False) (f := fun j => .int (t.2.2.2.getD j 0)) w6 (sw_n h _ w4) (va_eqt (sw_n h _ w5)) hel (fun _ _ z => z)
      refine ⟨t, a, v, rfl, vk_R.of (A := a0) (sw_t h _ w1) q1, fun E hE => ⟨⟨cA, q3, q5, by rw [q6]; exact q2, sz_A hE (Array.getElem?_eq_some_iff.mp q3).1⟩, vk_OFof q1 (va_eqt (sw_n h _ w3)) (fun q hq => sz_A hE hq), vk_OFof q1 hv (fun q hq => sz_A hE hq), ?_⟩⟩
      obtain ⟨v2, hv2, hT⟩ := va_Tof (A := eA E) (f := fun j => .int (t.2.2.2.getD j 0)) w6 (sw_n h _ w4) (va_eqt (sw_n h _ w5)) hel (fun q hq => sz_A hE hq)
      cases hv.symm.trans hv2
      exact hT
def xfs : List (Nat × Nat) := [(99, 385), (215, 668), (231, 679), (249, 714), (270, 739), (299, 755), (315, 788), (336, 861), (364, 871), (385, 886)]
theorem xt_in : (List.range 10).all (fun i => match xtL[i]?, xfs[i]? with
  | some t, some q => decide (lw_tbl[q.2]? = some (.stringRef "ColorScheme" t.1 t.2)) && decide (nwL[q.1]? = some (.exactly (.string "ColorScheme" t.1) "java/lang/String"))
  | _, _ => false) = true := by decide +kernel
theorem xt_of (h : Sw a0 s) : ∀ t ∈ xtL, ∃ a, vk_R "ColorScheme" t.1 t.2 a s := by
  intro t ht
  obtain ⟨i, hi⟩ := List.getElem?_of_mem ht
  have hl : i < 10 := (List.getElem?_eq_some_iff.mp hi).1
  have h1 := List.all_eq_true.mp xt_in i (List.mem_range.mpr hl)
  cases hc : xfs[i]? with
  | none => rw [hi, hc] at h1; cases h1
  | some q =>
    rw [hi, hc] at h1
    simp only [Bool.and_eq_true, decide_eq_true_eq] at h1
    obtain ⟨a, c, cA, kA, q1, -⟩ := Cond.exactly_spec (args := a0) (first := s) (o := none) (s := s) (idx := []) (sw_n h _ h1.2)
    exact ⟨a, vk_R.of (A := a0) (sw_t h _ h1.1) q1⟩
theorem sf_in : (List.range 45).all (fun j => decide (nwL[7 + j]? = some (.eq (.elem (.static "ColorScheme" "SIGHT_FACTORS" "[I") (.int (Int32.ofNat j))) (.int (sfF j))))) = true := by decide +kernel
theorem sf_of (h : Sw a0 s) {E : En} (hE : eL E = s.heap.size) : StF E s s.heap := by
  have hel : ∀ j : Nat, j < 45 → (Term.elem (.static "ColorScheme" "SIGHT_FACTORS" "[I") (.int (Int32.ofNat j))).eval a0 s none [] s = some (.int (sfF j)) := fun j hj => va_eqt (sw_n h _ (of_decide_eq_true (List.all_eq_true.mp sf_in j (List.mem_range.mpr hj))))
  obtain ⟨t, ht, hT⟩ := va_Tof (A := eA E) (ty := .int) (f := fun j => .int (sfF j)) (N := 45) (by decide) (sw_n h 5 (by decide +kernel)) (va_eqt (sw_n h 6 (by decide +kernel))) hel (fun q hq => sz_A hE hq)
  exact ⟨t, va_Zof (sw_t h 293 (by decide +kernel)) (sw_t h 50 (by decide +kernel)) ht (fun q hq => sz_A hE hq), hT⟩
theorem sn_of (h : Sw a0 s) : StN s := ⟨va_Nw.of rfl (sw_t h 149 (by decide +kernel)), va_Nw.of rfl (sw_t h 198 (by decide +kernel)), va_Nw.of rfl (sw_t h 294 (by decide +kernel)), va_Nw.of rfl (sw_t h 624 (by decide +kernel)), va_Nw.of rfl (sw_t h 292 (by decide +kernel))⟩
theorem swx_of (h : Sw a0 s) : StW s := by
  refine ⟨?_, xt_of h, ?_, ?_⟩
  · intro X hX
    rcases List.mem_cons.mp hX with rfl | hX
    · exact va_Nw.of rfl (sw_t h 345 (by decide +kernel))
    rcases List.mem_cons.mp hX with rfl | hX
    · exact va_Nw.of rfl (sw_t h 661 (by decide +kernel))
    rcases List.mem_cons.mp hX with rfl | hX
    · exact va_Nw.of rfl (sw_t h 781 (by decide +kernel))
    rcases List.mem_cons.mp hX with rfl | hX
    · exact va_Nw.of rfl (sw_t h 864 (by decide +kernel))
    exact absurd hX List.not_mem_nil
  · intro X hX
    rcases List.mem_cons.mp hX with rfl | hX
    · exact va_Nw.of rfl (sw_t h 347 (by decide +kernel))
    rcases List.mem_cons.mp hX with rfl | hX
    · exact va_Nw.of rfl (sw_t h 349 (by decide +kernel))
    rcases List.mem_cons.mp hX with rfl | hX
    · exact va_Nw.of rfl (sw_t h 351 (by decide +kernel))
    exact absurd hX List.not_mem_nil
  · intro q hq
    rcases List.mem_cons.mp hq with rfl | hq
    · exact va_Nc.of (sw_n h 76 (by decide +kernel))
    rcases List.mem_cons.mp hq with rfl | hq
    · exact va_Nc.of (sw_n h 78 (by decide +kernel))
    rcases List.mem_cons.mp hq with rfl | hq
    · exact va_Nc.of (sw_n h 68 (by decide +kernel))
    exact absurd hq List.not_mem_nil
theorem sc_of (h : Sw a0 s) {E : En} (hE : eL E = s.heap.size) : StC E s s.heap := ⟨va_Zof (sw_t h 461 (by decide +kernel)) (sw_t h 62 (by decide +kernel)) (va_eqi (sw_n h 54 (by decide +kernel))) (fun q hq => sz_A hE hq), va_Zqof (sw_t h 477 (by decide +kernel)) (sw_t h 64 (by decide +kernel)) (sw_n h 55 (by decide +kernel)) (fun q hq => sz_A hE hq)⟩
theorem sx_of (h : Sw a0 s) {E : En} (hE : eL E = s.heap.size) : StX E s s.heap := ⟨vx_Zqof (sw_t h 370 (by decide +kernel)) (sw_t h 57 (by decide +kernel)) (sw_n h 52 (by decide +kernel)) (fun q hq => sz_A hE hq), vx_Zqof (sw_t h 372 (by decide +kernel)) (sw_t h 57 (by decide +kernel)) (sw_n h 53 (by decide +kernel)) (fun q hq => sz_A hE hq)⟩
theorem ac_of {ty : FieldType} (h : (Cond.arrayClass ty).before a0 s = true) : ∃ c : ClassId, ArrOfT s c ty ∧ s.vm.findClass ("[" ++ ty.toString) = some c := by
  obtain ⟨c, k, comp, h1, h2, h3⟩ := Cond.arrayClass_spec (args := a0) (first := s) (o := none) (idx := []) h
  exact ⟨c, fun n z => ⟨fun k h => (by cases h), k, h2, comp, h3⟩, h1⟩
theorem ad_of {C : String} (h : (Cond.arrayOver (.object C)).before a0 s = true) : ∃ c : ClassId, ArrOfT s c (.object C) ∧ va_RA s c (.object C) := by
  obtain ⟨comp, c, k, h1, -, h2, h3, h4⟩ := Cond.arrayOver_spec (args := a0) (first := s) (o := none) (idx := []) h
  exact ⟨c, fun n z => ⟨fun k h => (by cases h), k, h2, comp, h3⟩, k, comp, h2, h3, h1, h4⟩
theorem aa_of (h : (Cond.arrayOver (.array .int)).before a0 s = true) : ∃ c : ClassId, ArrOfT s c (.array .int) ∧ s.vm.findClass ("[" ++ (FieldType.array .int).toString) = some c := by
  have h := h
  simp only [Cond.before, Cond.holds, Cond.value, beq_iff_eq, Option.bind_eq_some_iff, Option.map_eq_some_iff] at h
  obtain ⟨comp, hc, c, hi, k, hk, hb⟩ := h
  cases hkind : k.kind with
  | array component ty =>
    rw [hkind] at hb
    simp only [Bool.and_eq_true, decide_eq_true_eq] at hb
    obtain ⟨rfl, h2⟩ := hb
    exact ⟨c, fun n z => ⟨fun k h => (by cases h), k, hk, component, hkind⟩, h2⟩
  | _ => rw [hkind] at hb; simp at hb
theorem start_K (h : Sw a0 s) : ∃ (D : va_G) (T : Nat → ClassId), ∀ (P S : Nat → Nat), Vk (D, T, s.heap.size, P, S) s := by
  have hts : ∀ w ∈ lwg, w.before a0 s = true := fun w hw => h.1 w (List.mem_filter.mp hw).1

  obtain ⟨d0, i0, k0⟩ := u_known (n := 8) hts inw_X1 (sw_t h 148 (by decide +kernel))
  obtain ⟨d1, i1, k1⟩ := u_known (n := 4) hts inw_X2 (sw_t h 116 (by decide +kernel))
  obtain ⟨d2, i2, k2⟩ := u_known (n := 3) hts inw_X3 (sw_t h 191 (by decide +kernel))
  obtain ⟨d3, i3, k3⟩ := u_known (n := 4) hts inw_X4 (sw_t h 80 (by decide +kernel))
  obtain ⟨d4, i4, k4⟩ := u_known (n := 7) hts inw_X5 (sw_t h 86 (by decide +kernel))
  obtain ⟨d5, i5, k5⟩ := u_known (n := 7) hts inw_X6 (sw_t h 72 (by decide +kernel))
  obtain ⟨d6, i6, k6⟩ := u_known (n := 20) hts inw_X7 (sw_t h 893 (by decide +kernel))
  obtain ⟨t0, a0, b0⟩ := ac_of (ty := .byte) (sw_t h 113 (by decide +kernel))
  obtain ⟨t1, a1, b1⟩ := ac_of (ty := .int) (sw_t h 114 (by decide +kernel))
  obtain ⟨t2, a2, b2⟩ := ac_of (ty := .long) (sw_t h 960 (by decide +kernel))
  obtain ⟨t3, a3, b3⟩ := ac_of (ty := .boolean) (sw_t h 189 (by decide +kernel))
  obtain ⟨t4, a4, b4⟩ := ad_of (C := "ColorScheme$Design") (sw_t h 197 (by decide +kernel))
  obtain ⟨t5, a5, b5⟩ := aa_of (sw_t h 154 (by decide +kernel))
  refine ⟨(fun k => ([d0, d1, d2, d3, d4, d5, d6] : List ClassId).getD k 0, fun k => ([i0, i1, i2, i3, i4, i5, i6] : List (Nat → Nat)).getD k (fun _ => 0)), fun k => ([t0, t1, t2, t3, t4, t5] : List ClassId).getD k 0, fun P S => ⟨fun c q hq => ?_, fun k q hq => ?_⟩⟩
  · have hl : c < 7 := (List.getElem?_eq_some_iff.mp hq).1
    rcases (show c = 0 ∨ c = 1 ∨ c = 2 ∨ c = 3 ∨ c = 4 ∨ c = 5 ∨ c = 6 by omega) with rfl | rfl | rfl | rfl | rfl | rfl | rfl <;> cases hq
    · exact k0
    · exact k1
    · exact k2
    · exact k3
    · exact k4
    · exact k5
    · exact k6
  · have hl : k < 6 := (List.getElem?_eq_some_iff.mp hq).1
    rcases (show k = 0 ∨ k = 1 ∨ k = 2 ∨ k = 3 ∨ k = 4 ∨ k = 5 by omega) with rfl | rfl | rfl | rfl | rfl | rfl <;> cases hq
    · exact ⟨a0, b0⟩
    · exact ⟨a1, b1⟩
    · exact ⟨a2, b2⟩
    · exact ⟨a3, b3⟩
    · exact ⟨a4, b4⟩
    · exact ⟨a5, b5⟩
theorem start_E (h : Sw a0 s) : ∃ E : En, eL E = s.heap.size ∧ Vk E s ∧ Stc E s s.heap ∧ Ar s := by
  obtain ⟨D, T, hK⟩ := start_K h
  have hc : ∀ i : Nat, ∃ k : Nat, i < 17 → ∃ (t : String × Nat × String × List Int32) (v : Nat), txT[i]? = some t ∧ vk_R t.1 t.2.1 t.2.2.1 k s ∧ ∀ E : En, eL E = s.heap.size → va_O "java/lang/String" k (eA E) s s.heap ∧ va_OF "java/lang/String" "coder" "B" (.int 0) k (eA E) s s.heap ∧ va_OF "java/lang/String" "value" "[B" (.ref v) k (eA E) s s.heap ∧ va_T .byte v t.2.2.2.length (fun j => .int (t.2.2.2.getD j 0)) (eA E) s s.heap := by
    intro i
    by_cases hi : i < 17
    · obtain ⟨t, k, v, q1, q2, q3⟩ := txs_of h i hi
      exact ⟨k, fun _ => ⟨t, v, q1, q2, q3⟩⟩
    · exact ⟨0, fun q => absurd q hi⟩
  obtain ⟨S, hS⟩ := Classical.axiomOfChoice hc
  have hE : eL ((D, T, s.heap.size, fun _ => 0, S) : En) = s.heap.size := rfl
  refine ⟨(D, T, s.heap.size, fun _ => 0, S), rfl, hK _ _, ⟨⟨sn_of h, fun i t ht => ?_, swx_of h⟩, sf_of h hE, fun i t ht => ?_, sc_of h hE, sx_of h hE⟩, va_AO.of (sw_t h 197 (by decide +kernel)), (show va_AOA .int s from (sw_t (w := .arrayOver (.array .int)) h 154 (by decide +kernel) : (Cond.arrayOver (.array .int)).before a0 s = true))⟩
  · have hl : i < 17 := (List.getElem?_eq_some_iff.mp ht).1
    obtain ⟨t2, v, q1, q2, -⟩ := hS i hl
    cases ht.symm.trans q1
    exact q2
  · have hl : i < 17 := (List.getElem?_eq_some_iff.mp ht).1
    obtain ⟨t2, v, q1, -, q3⟩ := hS i hl
    cases ht.symm.trans q1
    exact ⟨v, q3 _ hE⟩
end ST
