section VD
variable {D : va_G} {cl : List vw_C} {A : Nat → Prop} {w1 w2 : va_W} {H : Heap} {i j : Nat} {p q : Nat × va_E}
theorem vd_x (hD : va_D A (w1 ++ w2)) (hi : w1[i]? = some p) (hj : w2[j]? = some q) : p.1 ≠ q.1 := fun e => by
  have h1 := (List.getElem?_eq_some_iff.mp hi).1
  have h2 := hD.1 i (w1.length + j) p q (by rw [List.getElem?_append_left h1]; exact hi) (by rw [List.getElem?_append_right (Nat.le_add_right _ _), Nat.add_sub_cancel_left]; exact hj) e
  omega
theorem vl_at (hi : w1[i]? = some p) : (w1 ++ w2)[i]? = some p := by
  rw [List.getElem?_append_left (List.getElem?_eq_some_iff.mp hi).1]
  exact hi
theorem vr_at (hi : w2[i]? = some p) : (w1 ++ w2)[w1.length + i]? = some p := by
  rw [List.getElem?_append_right (Nat.le_add_right _ _), Nat.add_sub_cancel_left]
  exact hi
theorem vd_l (hD : va_D A (w1 ++ w2)) : va_D A w1 := ⟨fun i j p q hi hj e => hD.1 i j p q (vl_at hi) (vl_at hj) e, fun k q hk => hD.2 k q (vl_at hk)⟩
theorem vd_r (hD : va_D A (w1 ++ w2)) : va_D A w2 := ⟨fun i j p q hi hj e => Nat.add_left_cancel (hD.1 _ _ p q (vr_at hi) (vr_at hj) e), fun k q hk => hD.2 _ q (vr_at hk)⟩
theorem vp_l (hP : va_P D cl (w1 ++ w2) H) : va_P D cl w1 H := fun k q hk => hP k q (vl_at hk)
theorem vp_r (hP : va_P D cl (w1 ++ w2) H) : va_P D cl w2 H := fun k q hk => hP _ q (vr_at hk)
end VD
def gN (G : Nat → Nat → Nat) (qo : Nat) : Nat → Nat → Nat := fun j => if j = 8 then (fun _ => qo) else G j
theorem gN_at {G : Nat → Nat → Nat} {qo j : Nat} (h : j < 8) : gN G qo j = G j := if_neg (by omega)
theorem cWl_N {E : En} {a b rd t f z h r qo : Nat} {g0 g1 : Nat → Nat} {G : Nat → Nat → Nat} : cWl E a b rd t f z h r g0 g1 (gN G qo) = cWl E a b rd t f z h r g0 g1 G := by
  unfold cWl hWl
  have e1 : (fun j => if j < 8 then some (gN G qo j 0) else none) = (fun j => if j < 8 then some (G j 0) else none) := by
    funext j
    by_cases hj : j < 8
    · rw [if_pos hj, if_pos hj, gN_at hj]
    · rw [if_neg hj, if_neg hj]
  have e2 : (List.range 8).flatMap (fun j => dWl E (gN G qo j)) = (List.range 8).flatMap (fun j => dWl E (G j)) := by
    have : ∀ (l : List Nat), (∀ j ∈ l, j < 8) → l.flatMap (fun j => dWl E (gN G qo j)) = l.flatMap (fun j => dWl E (G j)) := by
      intro l
      induction l with
      | nil => intro _; rfl
      | cons x l ih =>
        intro hl
        rw [List.flatMap_cons, List.flatMap_cons, ih (fun j hj => hl j (List.mem_cons_of_mem _ hj)), gN_at (hl x List.mem_cons_self)]
    exact this _ (fun j hj => List.mem_range.mp hj)
  rw [e1, e2]
theorem lw_made {E : En} {s : State} {H : Heap} {locs : List Loc} {a b rd t f z h r qo a2 b2 da dr hi st ne : Nat} {g0 g1 r2 : Nat → Nat} {G : Nat → Nat → Nat} (hP : va_P (eD E) vwCl ((cWl E a b rd t f z h r g0 g1 G ++ mWl E a2 b2 da dr hi st ne r2) ++ [(qo, .inl (eT E 2, 1, .inr (.inl (fun _ => 0))))]) H) (hD : va_D (eA E) ((cWl E a b rd t f z h r g0 g1 G ++ mWl E a2 b2 da dr hi st ne r2) ++ [(qo, .inl (eT E 2, 1, .inr (.inl (fun _ => 0))))])) (hK : Vk E s) (hC : Stc E s s.heap) (hS : va_S (eA E) s.heap H locs) :
    ∃ P1 P2 : Nat → Nat, (P1 0 = a ∧ P1 118 = qo ∧ P2 0 = a2) ∧ Lz (enP E P1) P2 s ∧ Lw (enP E P1) P2 s cX0 mX0 H locs := by
  rw [← cWl_N (qo := qo)] at hP hD
  have hP12 := vp_l hP
  have hD12 := vd_l hD
  obtain ⟨c1, c2, c3⟩ := cW_of (vp_l hP12) (vd_l hD12) (fun q h => h)
  obtain ⟨m1, m2, m3⟩ := mW_of (vp_r hP12) (vd_r hD12) (fun q h => h)
  have ho : ([(qo, .inl (eT E 2, 1, .inr (.inl (fun _ => 0))))] : va_W)[0]? = some (qo, .inl (eT E 2, 1, .inr (.inl (fun _ => 0)))) := rfl
  have e118 : cPl a b rd t f z h r (gOf g0 g1 (gN G qo)) 118 = qo := rfl
  have hn : ∀ i, i < 118 → cPl a b rd t f z h r (gOf g0 g1 (gN G qo)) i ≠ qo := fun i hi => vd_x hD (vl_at (cq_at hi)) ho
  refine ⟨cPl a b rd t f z h r (gOf g0 g1 (gN G qo)), mPl a2 b2 da dr hi st ne r2, ⟨rfl, rfl, rfl⟩, ⟨⟨⟨fun i j hi hj e => ?_, fun i hi => ?_⟩, m1, fun i j hi9 hj => ?_⟩, hK, hC⟩, fun k q hk => ?_, m2, hS⟩
  · have e : cPl a b rd t f z h r (gOf g0 g1 (gN G qo)) i = cPl a b rd t f z h r (gOf g0 g1 (gN G qo)) j := e
    by_cases q1 : i < 118
    · by_cases g2 : j < 118
      · exact c1.1 i j q1 g2 e
      · obtain rfl : j = 118 := by omega
        exact absurd (e.trans e118) (hn i q1)
    · obtain rfl : i = 118 := by omega
      by_cases g2 : j < 118
      · exact absurd (e.symm.trans e118) (hn j g2)
      · omega
  · by_cases q1 : i < 118
    · exact c1.2 i q1
    · obtain rfl : i = 118 := by omega
      show eL E ≤ cPl a b rd t f z h r (gOf g0 g1 (gN G qo)) 118
      rw [e118]
      exact (vd_r hD).2 0 _ ho
  · show cPl a b rd t f z h r (gOf g0 g1 (gN G qo)) i ≠ mPl a2 b2 da dr hi st ne r2 j
    by_cases q1 : i < 118
    · exact vd_x hD12 (cq_at q1) (mq_at hj)
    · obtain rfl : i = 118 := by omega
      rw [e118]
      exact fun e => vd_x hD (vr_at (mq_at hj)) ho e.symm
  · obtain ⟨h1, rfl⟩ := fw_get hk
    by_cases q1 : k < 118
    · have h2 := c2 k _ (fw_at q1)
      rw [← lay_O q1] at h2
      exact h2
    · obtain rfl : k = 118 := by omega
      exact vp_r hP 0 _ ho
theorem lp_lt {i L : Nat} (hL : L ≤ 3072) (hi : i ≤ 3072) (h : ¬ nI L - 6 < nI i) : i + 6 ≤ L := by
  by_cases g : L < 6
  · exfalso
    refine h (Int32.lt_of_lt_of_le (b := 0) ?_ (nI_pos' (by omega)))
    rcases (show L = 0 ∨ L = 1 ∨ L = 2 ∨ L = 3 ∨ L = 4 ∨ L = 5 by omega) with rfl | rfl | rfl | rfl | rfl | rfl <;> decide
  · obtain ⟨k, rfl⟩ : ∃ k, L = k + 6 := ⟨L - 6, by omega⟩
    have e : nI (k + 6) - 6 = nI k := by
      rw [← nI_add k 6]
      exact Int32.add_sub_cancel (nI k) (nI 6)
    rw [e] at h
    exact Nat.not_lt.mp (fun q => h (nI_lt (by omega) (by omega)))
set_option maxHeartbeats 1000000 in
theorem lw_loop {p : Program} {l : Launch} {e : Env} {s : State} {m : MethodId} {args : Array Value} {below : List Frame} {meth : Method} {c : Code} {Q : State → Prop} {E : En} {P2 : Nat → Nat} {b0 L : Nat} {xs : Nat → Int32} (hfl : l.stackTraces = false) (S : CF p m c code 7 s args RL) (hz : Lz E P2 s) (hX : va_X b0 L xs s s.heap) (hbl : b0 < s.heap.size) (hA : s.heap.size ≤ eL E) (hL : L ≤ 3072)
    (fin : ∀ (x y : St) (H : Heap) (locs : List Loc) (ls : Array Slot) (cells slots : Nat), Lw E P2 s x y H locs → cells ≤ rmC → slots ≤ rmS → W p l e room_1 s m args below meth c H locs cells slots Q (F0 m 1597 ls [])) :
    ∀ (n i : Nat) (x y : St) (H : Heap) (locs : List Loc) (ls : Array Slot) (cells slots : Nat), L < i + 6 * n + 6 → i ≤ 3072 → cells + n ≤ rmC → slots + 6 * n ≤ rmS → cpl x.1 x.2.1 y.1 y.2.1 → Lw E P2 s x y H locs → lv_has ls 7 (Ll E P2 b0 i) → W p l e room_1 s m args below meth c H locs cells slots Q (F0 m 23 ls []) := by
  have hx := S.1
  have hb := S.2.1
  have hbA : ¬ eA E b0 := fun h => absurd (Nat.le_trans hA h) (Nat.not_le.mpr hbl)
  intro n
  induction n with
  | zero =>
    intro i x y H locs ls cells slots hn hi3 hc1 hc2 hc hw hl
    refine lv_iload hx hb dL_law_23 (lv_at hl 4 rfl) ?_
    refine lv_aload_n hx hb dL_law_25 rfl (lv_at hl 0 rfl) ?_
    refine va_slen hx hb hX hbl hbA hw.2.2 dL_law_26 ?_
    refine lv_bipush (v := 6) hx hb dL_law_27 (by decide) ?_
    refine lv_isub hx hb dL_law_29 ?_
    refine lv_icmp_gt (tgt := 1597) hx hb dL_law_30 (by decide) (fun _ => fin x y H locs ls cells slots hw (by omega) (by omega)) (fun h => ?_)
    have := lp_lt hL hi3 h
    omega
  | succ n ih =>
    intro i x y H locs ls cells slots hn hi3 hc1 hc2 hc hw hl
    refine lv_iload hx hb dL_law_23 (lv_at hl 4 rfl) ?_
    refine lv_aload_n hx hb dL_law_25 rfl (lv_at hl 0 rfl) ?_
    refine va_slen hx hb hX hbl hbA hw.2.2 dL_law_26 ?_
    refine lv_bipush (v := 6) hx hb dL_law_27 (by decide) ?_
    refine lv_isub hx hb dL_law_29 ?_
    refine lv_icmp_gt (tgt := 1597) hx hb dL_law_30 (by decide) (fun _ => fin x y H locs ls cells slots hw (by omega) (by omega)) (fun h => ?_)
    have hiL := lp_lt hL hi3 h
    have hcs : cells + 1 ≤ rmC ∧ slots + 6 ≤ rmS := ⟨by omega, by omega⟩
    have next : ∀ (x y : St) (H : Heap) (locs : List Loc) (ls : Array Slot), cpl x.1 x.2.1 y.1 y.2.1 → Lw E P2 s x y H locs → lv_has ls 7 (Ll E P2 b0 i) → W p l e room_1 s m args below meth c H locs (cells + 1) (slots + 6) Q (F0 m 1591 ls []) := by
      intro x y H locs ls hc hw hl
      refine lv_iinc (v := nI (i + 6)) (lv' := [(4, .int (nI (i + 6))), (0, .ref b0), (1, .ref (eP E 0)), (2, .ref (P2 0)), (3, .ref (eP E 118))]) hx hb dL_law_1591 hl (k := 4) rfl (nI_add i 6) (by decide) rfl (fun ls hl => ?_)
      refine lv_goto (tgt := 23) hx hb dL_law_1594 (by decide) ?_
      exact ih (i + 6) x y H locs ls (cells + 1) (slots + 6) (by omega) (by omega) (by omega) (by omega) hc hw (lv_sub hl [1, 2, 3, 4, 0] rfl)
    refine lv_aload_n hx hb dL_law_33 rfl (lv_at hl 0 rfl) ?_
    refine lv_iload hx hb dL_law_34 (lv_at hl 4 rfl) ?_
    refine va_sld hx hb hX hbl hbA hw.2.2 (vp_in_nI (show i < L by omega) (by omega)) dL_law_36 ?_
    refine lv_bipush (v := 31) hx hb dL_law_37 (by decide) ?_
    refine lv_iand hx hb dL_law_39 ?_
    generalize xs (nI i).toNatClampNeg &&& 31 = v
    by_cases h0 : v.toInt < 0 ∨ 25 < v.toInt
    · exact lv_tableOut (tgt := 1591) hx hb dL_law_40 h0 (by decide) (W.widen (Nat.le_add_right _ _) (Nat.le_add_right _ _) (next x y H locs ls hc hw hl))
    obtain ⟨h1, h2⟩ := not_or.mp h0
    obtain ⟨k, hk, hv⟩ : ∃ k : Nat, k < 26 ∧ v.toInt = (k : Int) := ⟨v.toInt.toNat, by omega, by omega⟩
    rcases (show k = 0 ∨ k = 1 ∨ k = 2 ∨ k = 3 ∨ k = 4 ∨ k = 5 ∨ k = 6 ∨ k = 7 ∨ k = 8 ∨ k = 9 ∨ k = 10 ∨ k = 11 ∨ k = 12 ∨ k = 13 ∨ k = 14 ∨ k = 15 ∨ k = 16 ∨ k = 17 ∨ k = 18 ∨ k = 19 ∨ k = 20 ∨ k = 21 ∨ k = 22 ∨ k = 23 ∨ k = 24 ∨ k = 25 by omega) with rfl | rfl | rfl | rfl | rfl | rfl | rfl | rfl | rfl | rfl | rfl | rfl | rfl | rfl | rfl | rfl | rfl | rfl | rfl | rfl | rfl | rfl | rfl | rfl | rfl | rfl
    · exact lv_tableIn (off := 120) (tgt := 160) hx hb dL_law_40 h1 h2 (by rw [hv]; rfl) (by decide) (lc_0 hfl S hz hX hbl hA hL hiL hc hw hl hcs next)
    · exact lv_tableIn (off := 193) (tgt := 233) hx hb dL_law_40 h1 h2 (by rw [hv]; rfl) (by decide) (lc_1 hfl S hz hX hbl hA hL hiL hc hw hl hcs next)
    · exact lv_tableIn (off := 249) (tgt := 289) hx hb dL_law_40 h1 h2 (by rw [hv]; rfl) (by decide) (lc_2 hfl S hz hX hbl hA hL hiL hc hw hl hcs next)
    · exact lv_tableIn (off := 262) (tgt := 302) hx hb dL_law_40 h1 h2 (by rw [hv]; rfl) (by decide) (lc_3 hfl S hz hX hbl hA hL hiL hc hw hl hcs next)
    · exact lv_tableIn (off := 275) (tgt := 315) hx hb dL_law_40 h1 h2 (by rw [hv]; rfl) (by decide) (lc_4 hfl S hz hX hbl hA hL hiL hc hw hl hcs next)
    · exact lv_tableIn (off := 288) (tgt := 328) hx hb dL_law_40 h1 h2 (by rw [hv]; rfl) (by decide) (lc_5 hfl S hz hX hbl hA hL hiL hc hw hl hcs next)
    · exact lv_tableIn (off := 356) (tgt := 396) hx hb dL_law_40 h1 h2 (by rw [hv]; rfl) (by decide) (lc_6 hfl S hz hX hbl hA hL hiL hc hw hl hcs next)
    · exact lv_tableIn (off := 419) (tgt := 459) hx hb dL_law_40 h1 h2 (by rw [hv]; rfl) (by decide) (lc_7 hfl S hz hX hbl hA hL hiL hc hw hl hcs next)
    · exact lv_tableIn (off := 487) (tgt := 527) hx hb dL_law_40 h1 h2 (by rw [hv]; rfl) (by decide) (lc_8 hfl S hz hX hbl hA hL hiL hc hw hl hcs next)
    · exact lv_tableIn (off := 567) (tgt := 607) hx hb dL_law_40 h1 h2 (by rw [hv]; rfl) (by decide) (lc_9 hfl S hz hX hbl hA hL hiL hc hw hl hcs next)
    · exact lv_tableIn (off := 647) (tgt := 687) hx hb dL_law_40 h1 h2 (by rw [hv]; rfl) (by decide) (lc_10 hfl S hz hX hbl hA hL hiL hc hw hl hcs next)
    · exact lv_tableIn (off := 739) (tgt := 779) hx hb dL_law_40 h1 h2 (by rw [hv]; rfl) (by decide) (lc_11 hfl S hz hX hbl hA hL hiL hc hw hl hcs next)
    · exact lv_tableIn (off := 807) (tgt := 847) hx hb dL_law_40 h1 h2 (by rw [hv]; rfl) (by decide) (lc_12 hfl S hz hX hbl hA hL hiL hc hw hl hcs next)
    · exact lv_tableIn (off := 875) (tgt := 915) hx hb dL_law_40 h1 h2 (by rw [hv]; rfl) (by decide) (lc_13 hfl S hz hX hbl hA hL hiL hc hw hl hcs next)
    · exact lv_tableIn (off := 943) (tgt := 983) hx hb dL_law_40 h1 h2 (by rw [hv]; rfl) (by decide) (lc_14 hfl S hz hX hbl hA hL hiL hc hw hl hcs next)
    · exact lv_tableIn (off := 956) (tgt := 996) hx hb dL_law_40 h1 h2 (by rw [hv]; rfl) (by decide) (lc_15 hfl S hz hX hbl hA hL hiL hc hw hl hcs next)
    · exact lv_tableIn (off := 1012) (tgt := 1052) hx hb dL_law_40 h1 h2 (by rw [hv]; rfl) (by decide) (lc_16 hfl S hz hX hbl hA hL hiL hc hw hl hcs next)
    · exact lv_tableIn (off := 1068) (tgt := 1108) hx hb dL_law_40 h1 h2 (by rw [hv]; rfl) (by decide) (lc_17 hfl S hz hX hbl hA hL hiL hc hw hl hcs next)
    · exact lv_tableIn (off := 1136) (tgt := 1176) hx hb dL_law_40 h1 h2 (by rw [hv]; rfl) (by decide) (lc_18 hfl S hz hX hbl hA hL hiL hc hw hl hcs next)
    · exact lv_tableIn (off := 1204) (tgt := 1244) hx hb dL_law_40 h1 h2 (by rw [hv]; rfl) (by decide) (lc_19 hfl S hz hX hbl hA hL hiL hc hw hl hcs next)
    · exact lv_tableIn (off := 1284) (tgt := 1324) hx hb dL_law_40 h1 h2 (by rw [hv]; rfl) (by decide) (lc_20 hfl S hz hX hbl hA hL hiL hc hw hl hcs next)
    · exact lv_tableIn (off := 1375) (tgt := 1415) hx hb dL_law_40 h1 h2 (by rw [hv]; rfl) (by decide) (lc_21 hfl S hz hX hbl hA hL hiL hc hw hl hcs next)
    · exact lv_tableIn (off := 1455) (tgt := 1495) hx hb dL_law_40 h1 h2 (by rw [hv]; rfl) (by decide) (lc_22 hfl S hz hX hbl hA hL hiL hc hw hl hcs next)
    · exact lv_tableIn (off := 1511) (tgt := 1551) hx hb dL_law_40 h1 h2 (by rw [hv]; rfl) (by decide) (lc_23 hfl S hz hX hbl hA hL hiL hc hw hl hcs next)
    · exact lv_tableIn (off := 1524) (tgt := 1564) hx hb dL_law_40 h1 h2 (by rw [hv]; rfl) (by decide) (lc_24 hfl S hz hX hbl hA hL hiL hc hw hl hcs next)
    · exact lv_tableIn (off := 1537) (tgt := 1577) hx hb dL_law_40 h1 h2 (by rw [hv]; rfl) (by decide) (lc_25 hfl S hz hX hbl hA hL hiL hc hw hl hcs next)
