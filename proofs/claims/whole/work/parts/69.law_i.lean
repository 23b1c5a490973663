set_option maxHeartbeats 2000000 in
set_option maxRecDepth 100000 in
theorem lw_begin {p : Program} {l : Launch} {e : Env} {s : State} {m : MethodId} {args : Array Value} {below : List Frame} {meth : Method} {c : Code} {Q : State → Prop} {E : En} {b0 L : Nat} {xs : Nat → Int32} {ls : Array Slot} (hfl : l.stackTraces = false) (S : CF p m c code 7 s args RL) (hE : eL E = s.heap.size) (hK : Vk E s) (hC : Stc E s s.heap) (hR : Ar s) (hX : va_X b0 L xs s s.heap) (hbl : b0 < s.heap.size) (hL : L ≤ 3072) (hl : lv_has ls 7 [(0, .ref b0)])
    (fin : ∀ (H : Heap) (locs : List Loc) (ls : Array Slot) (cells slots : Nat), (∀ q ∈ locs, s.heap.size ≤ q.base) → cells ≤ rmC → slots ≤ rmS → W p l e room_1 s m args below meth c H locs cells slots Q (F0 m 1597 ls [])) :
    W p l e room_1 s m args below meth c s.heap [] 0 0 Q (F0 m 0 ls []) := by
  have hx := S.1
  have hb := S.2.1
  have hA : ∀ q, s.heap.size ≤ q → eA E q := fun q h => by
    show eL E ≤ q
    omega
  have hAL : ∀ q, eA E q → eL E ≤ q := fun _ h => h
  have hL0 : eL E ≤ s.heap.size := Nat.le_of_eq hE
  have hP : va_P (eD E) vwCl ([] : va_W) s.heap := fun k q hk => (by cases hk)
  have hD : va_D (eA E) ([] : va_W) := ⟨fun i j p q hi => (by cases hi), fun k q hk => (by cases hk)⟩
  have hS : va_S (eA E) s.heap s.heap [] := va_S.rf
  refine rn_new S hK hP hD hS hA (ci := 5) (fs := [.null, .null, .null, .null, .null, .int 0, .int 0]) (C := RX6) (T := TX6) (n := 7) rfl inw_X6 tyX6_ok (lwg_at 71 (by decide +kernel)) (lwg_at 72 (by decide +kernel)) (lwg_at 50 (by decide +kernel)) (fun j hj => by rcases (show j = 0 ∨ j = 1 ∨ j = 2 ∨ j = 3 ∨ j = 4 ∨ j = 5 ∨ j = 6 by omega) with rfl | rfl | rfl | rfl | rfl | rfl | rfl <;> rfl) (Nat.le_of_ble_eq_true rfl) (Nat.le_of_ble_eq_true rfl) dL_law_0 (fun a H hP hD hS => ?_)
  refine lv_dup hx hb dL_law_3 rfl ?_
  refine rn_call S li_L_77 (wr := ([] : va_W)) (x := (a, .inr (5, [.null, .null, .null, .null, .null, .int 0, .int 0]))) (c_X6_init l E a H.size) ⟨rfl, rfl⟩ ⟨(Nat.le_of_ble_eq_true rfl), (Nat.le_of_ble_eq_true rfl)⟩ hK hR hC hP hD hS hA hAL hL0 rfl hl.1 (Nat.le_of_ble_eq_true rfl) ⟨(Nat.le_of_ble_eq_true rfl), (Nat.le_of_ble_eq_true rfl)⟩ dL_law_4 rfl (fun w1 H locs hw1 hP hD hS => ?_)
  obtain ⟨cb, crd, ct, cf, cz, ch, cr, cg0, cg1, cG, hw1⟩ := hw1
  refine lv_astore_n (lv' := [(1, .ref a), (0, .ref b0)]) hx hb dL_law_7 rfl hl (by decide) rfl (fun ls hl => ?_)
  have hP : va_P (eD E) vwCl w1 H := hP
  have hD : va_D (eA E) w1 := hD
  refine rn_new S hK hP hD hS hA (ci := 6) (fs := [.int 0, .null, .int 0, .int 0, .int 0, .int 0, .int 0, .int 0, .null, .null, .null, .int 0, .int 0, .int 0, .int 0, .null, .null, .int 0, .int 0, .int 0]) (C := RX7) (T := TX7) (n := 20) rfl inw_X7 tyX7_ok (lwg_at 892 (by decide +kernel)) (lwg_at 893 (by decide +kernel)) (lwg_at 56 (by decide +kernel)) (fun j hj => by rcases (show j = 0 ∨ j = 1 ∨ j = 2 ∨ j = 3 ∨ j = 4 ∨ j = 5 ∨ j = 6 ∨ j = 7 ∨ j = 8 ∨ j = 9 ∨ j = 10 ∨ j = 11 ∨ j = 12 ∨ j = 13 ∨ j = 14 ∨ j = 15 ∨ j = 16 ∨ j = 17 ∨ j = 18 ∨ j = 19 by omega) with rfl | rfl | rfl | rfl | rfl | rfl | rfl | rfl | rfl | rfl | rfl | rfl | rfl | rfl | rfl | rfl | rfl | rfl | rfl | rfl <;> rfl) (Nat.le_of_ble_eq_true rfl) (Nat.le_of_ble_eq_true rfl) dL_law_8 (fun a2 H hP hD hS => ?_)
  refine lv_dup hx hb dL_law_11 rfl ?_
  refine rn_call S li_L_80 (wr := w1) (x := (a2, .inr (6, [.int 0, .null, .int 0, .int 0, .int 0, .int 0, .int 0, .int 0, .null, .null, .null, .int 0, .int 0, .int 0, .int 0, .null, .null, .int 0, .int 0, .int 0]))) (c_X7_init l E a2 H.size) ⟨rfl, rfl⟩ ⟨(Nat.le_of_ble_eq_true rfl), (Nat.le_of_ble_eq_true rfl)⟩ hK hR hC hP hD hS hA hAL hL0 rfl hl.1 (Nat.le_of_ble_eq_true rfl) ⟨(Nat.le_of_ble_eq_true rfl), (Nat.le_of_ble_eq_true rfl)⟩ dL_law_12 rfl (fun w2 H locs hw2 hP hD hS => ?_)
  obtain ⟨mb, mda, mdr, mhi, mst, mne, mr, hw2⟩ := hw2
  refine lv_astore_n (lv' := [(2, .ref a2), (1, .ref a), (0, .ref b0)]) hx hb dL_law_15 rfl hl (by decide) rfl (fun ls hl => ?_)
  refine lv_iconst (v := 1) hx hb dL_law_16 (by decide) ?_
  refine rn_newa S hK hP hD hS hA (ty := .long) 2 rfl (lwg_at 960 (by decide +kernel)) rfl (a0 := (1, .inr (.inl (fun _ => 0)))) 1 rfl (by decide) (fun _ => rfl) (by decide) (Nat.le_of_ble_eq_true rfl) (Nat.le_of_ble_eq_true rfl) dL_law_17 (fun qo H hP hD hS => ?_)
  refine lv_astore_n (lv' := [(3, .ref qo), (2, .ref a2), (1, .ref a), (0, .ref b0)]) hx hb dL_law_19 rfl hl (by decide) rfl (fun ls hl => ?_)
  rw [hw1, hw2] at hP hD
  obtain ⟨P1, P2, ⟨e1, e2, e3⟩, hz, hw⟩ := lw_made hP hD hK hC hS
  refine lv_iconst (v := 0) hx hb dL_law_20 (by decide) ?_
  refine lv_istore (lv' := [(4, .int 0), (3, .ref qo), (2, .ref a2), (1, .ref a), (0, .ref b0)]) hx hb dL_law_21 hl (by decide) rfl (fun ls hl => ?_)
  have hl : lv_has ls 7 (Ll (enP E P1) P2 b0 0) := by
    show lv_has ls 7 [(0, .ref b0), (1, .ref (P1 0)), (2, .ref (P2 0)), (3, .ref (P1 118)), (4, .int 0)]
    rw [e1, e2, e3]
    exact lv_sub hl [4, 3, 2, 1, 0] rfl
  refine lw_loop (E := enP E P1) (P2 := P2) hfl S hz hX hbl (Nat.le_of_eq hE.symm) hL (fun x y H locs ls cells slots hw h1 h2 => fin H locs ls cells slots (fun q hq => ?_) h1 h2) 512 0 cX0 mX0 H _ ls _ _ (by omega) (by omega) (Nat.le_of_ble_eq_true rfl) (Nat.le_of_ble_eq_true rfl) cpl_0 hw hl
  have h3 : eL E ≤ q.base := hw.2.2.2.2 q hq
  omega
