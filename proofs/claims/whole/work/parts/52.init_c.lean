/-- a new reader's cells -/
def rWl (E : En) (a b t f z : Nat) : va_W := [(a, .inr (3, [.ref t, .ref f, .ref z, .int (-1)])), (z, .inl (eT E 1, 12, .inl (fun _ => 0))), (t, .inr (4, [.ref b, .int 0, .int 0, .int 0, .int 0, .int 0, .int 0])), (f, .inr (1, [.ref t, .int (-1), .int 0, .int 0]))]
set_option maxHeartbeats 4000000 in
set_option maxRecDepth 100000 in
theorem c_X4_init (l : Launch) (E : En) (a b sz : Nat) : Met l yX4_init (wz yX4_init cX4_init 2 none) (rmk 2 3 23 41) (va_Pc [.ref a, .ref b] (Bn E [(a, .inr (3, [.null, .null, .null, .int 0]))] sz)) (qIn E [(a, .inr (3, [.null, .null, .null, .int 0]))] sz (fun w => ∃ t f z, w = rWl E a b t f z)) 3 23 (va_A [(a, .inr (3, [.null, .null, .null, .int 0]))] sz) := by
  refine en_ofW RX4 rfl (by decide +kernel) (Nat.le_of_ble_eq_true rfl) ?_
  intro p e s m below meth c ls S hr hlk hnm hl hB
  have hx := S.1
  have hb := S.2.1
  obtain ⟨hsz, hK, hC, hR, hP, hD, hA, hAL, hL⟩ := bn_of hB
  have hS : va_S (va_A [(a, .inr (3, [.null, .null, .null, .int 0]))] sz) s.heap s.heap [] := va_S.rf
  have hl : lv_has ls 2 [(0, .ref a), (1, .ref b)] := hl
  refine lv_aload_n hx hb dX4_init_0 rfl (lv_at hl 0 rfl) ?_
  refine rn_obj S lo_X4 lo_i lo_c hl.1 (Nat.le_of_ble_eq_true rfl) (Nat.le_of_ble_eq_true rfl) (Nat.le_of_ble_eq_true rfl) dX4_init_1 ?_
  refine lv_aload_n hx hb dX4_init_4 rfl (lv_at hl 0 rfl) ?_
  refine lv_bipush (v := 12) hx hb dX4_init_5 (by decide) ?_
  refine rn_newa S hK hP hD hS hA (ty := .int) 1 rfl (lwg_at 114 (by decide +kernel)) rfl (a0 := (12, .inl (fun _ => 0))) 12 rfl (by decide) (fun _ => rfl) (by decide) (Nat.le_of_ble_eq_true rfl) (Nat.le_of_ble_eq_true rfl) dX4_init_7 (fun q1 H hP hD hS => ?_)
  have hP : va_P (eD E) vwCl ((a, .inr (3, [.null, .null, .null, .int 0])) :: ([(q1, .inl (eT E 1, 12, .inl (fun _ => 0)))] : va_W) : va_W) H := hP
  have hD : va_D (va_A [(a, .inr (3, [.null, .null, .null, .int 0]))] sz) ((a, .inr (3, [.null, .null, .null, .int 0])) :: ([(q1, .inl (eT E 1, 12, .inl (fun _ => 0)))] : va_W) : va_W) := hD
  refine rn_put S hK hP hD hS fk_X4_9 tyX4_ok nmX4 (ty := .array .int) (v := .ref q1) (by decide +kernel) rfl rfl (Nat.le_of_ble_eq_true rfl) (Or.inr ⟨rfl, hnm, rfl⟩) dX4_init_9 (fun H locs hP hD hS => ?_)
  have hP : va_P (eD E) vwCl ((a, .inr (3, [.null, .null, .ref q1, .int 0])) :: ([(q1, .inl (eT E 1, 12, .inl (fun _ => 0)))] : va_W) : va_W) H := hP
  have hD : va_D (va_A [(a, .inr (3, [.null, .null, .null, .int 0]))] sz) ((a, .inr (3, [.null, .null, .ref q1, .int 0])) :: ([(q1, .inl (eT E 1, 12, .inl (fun _ => 0)))] : va_W) : va_W) := hD
  refine lv_aload_n hx hb dX4_init_12 rfl (lv_at hl 0 rfl) ?_
  refine lv_iconst (v := (-1)) hx hb dX4_init_13 (by decide) ?_
  refine rn_put S hK hP hD hS fk_X4_15 tyX4_ok nmX4 (ty := .int) (v := .int (-1)) (by decide +kernel) rfl rfl (Nat.le_of_ble_eq_true rfl) (Or.inl rfl) dX4_init_14 (fun H locs hP hD hS => ?_)
  have hP : va_P (eD E) vwCl ((a, .inr (3, [.null, .null, .ref q1, .int (-1)])) :: ([(q1, .inl (eT E 1, 12, .inl (fun _ => 0)))] : va_W) : va_W) H := hP
  have hD : va_D (va_A [(a, .inr (3, [.null, .null, .null, .int 0]))] sz) ((a, .inr (3, [.null, .null, .ref q1, .int (-1)])) :: ([(q1, .inl (eT E 1, 12, .inl (fun _ => 0)))] : va_W) : va_W) := hD
  refine lv_aload_n hx hb dX4_init_17 rfl (lv_at hl 0 rfl) ?_
  refine rn_new S hK hP hD hS hA (ci := 4) (fs := [.null, .int 0, .int 0, .int 0, .int 0, .int 0, .int 0]) (C := RX5) (T := TX5) (n := 7) rfl inw_X5 tyX5_ok (lwg_at 85 (by decide +kernel)) (lwg_at 86 (by decide +kernel)) (lwg_at 52 (by decide +kernel)) (fun j hj => by rcases (show j = 0 ∨ j = 1 ∨ j = 2 ∨ j = 3 ∨ j = 4 ∨ j = 5 ∨ j = 6 by omega) with rfl | rfl | rfl | rfl | rfl | rfl | rfl <;> rfl) (Nat.le_of_ble_eq_true rfl) (Nat.le_of_ble_eq_true rfl) dX4_init_18 (fun q2 H hP hD hS => ?_)
  have hP : va_P (eD E) vwCl ((a, .inr (3, [.null, .null, .ref q1, .int (-1)])) :: (([(q1, .inl (eT E 1, 12, .inl (fun _ => 0)))] : va_W) ++ ([(q2, .inr (4, [.null, .int 0, .int 0, .int 0, .int 0, .int 0, .int 0]))] : va_W)) : va_W) H := hP
  have hD : va_D (va_A [(a, .inr (3, [.null, .null, .null, .int 0]))] sz) ((a, .inr (3, [.null, .null, .ref q1, .int (-1)])) :: (([(q1, .inl (eT E 1, 12, .inl (fun _ => 0)))] : va_W) ++ ([(q2, .inr (4, [.null, .int 0, .int 0, .int 0, .int 0, .int 0, .int 0]))] : va_W)) : va_W) := hD
  refine lv_dup hx hb dX4_init_21 rfl ?_
  refine lv_aload_n hx hb dX4_init_22 rfl (lv_at hl 1 rfl) ?_
  refine rn_call S li_X4_21 (wr := ((a, .inr (3, [.null, .null, .ref q1, .int (-1)])) :: ([(q1, .inl (eT E 1, 12, .inl (fun _ => 0)))] : va_W) : va_W)) (x := (q2, .inr (4, [.null, .int 0, .int 0, .int 0, .int 0, .int 0, .int 0]))) (c_X5_init l E q2 b H.size) ⟨rfl, rfl⟩ ⟨(Nat.le_of_ble_eq_true rfl), (Nat.le_of_ble_eq_true rfl)⟩ hK hR hC hP hD hS hA hAL hL rfl hl.1 (Nat.le_of_ble_eq_true rfl) ⟨(Nat.le_of_ble_eq_true rfl), (Nat.le_of_ble_eq_true rfl)⟩ dX4_init_23 rfl (fun w3 H locs hw4 hP hD hS => ?_)
  subst hw4
  have hP : va_P (eD E) vwCl ((a, .inr (3, [.null, .null, .ref q1, .int (-1)])) :: (([(q1, .inl (eT E 1, 12, .inl (fun _ => 0)))] : va_W) ++ ([(q2, .inr (4, [.ref b, .int 0, .int 0, .int 0, .int 0, .int 0, .int 0]))] : va_W)) : va_W) H := hP
  have hD : va_D (va_A [(a, .inr (3, [.null, .null, .null, .int 0]))] sz) ((a, .inr (3, [.null, .null, .ref q1, .int (-1)])) :: (([(q1, .inl (eT E 1, 12, .inl (fun _ => 0)))] : va_W) ++ ([(q2, .inr (4, [.ref b, .int 0, .int 0, .int 0, .int 0, .int 0, .int 0]))] : va_W)) : va_W) := hD
  refine rn_put S hK hP hD hS fk_X4_24 tyX4_ok nmX4 (ty := .object "ColorScheme$Tokens") (v := .ref q2) (by decide +kernel) rfl rfl (Nat.le_of_ble_eq_true rfl) (Or.inr ⟨rfl, hnm, rfl⟩) dX4_init_26 (fun H locs hP hD hS => ?_)
  have hP : va_P (eD E) vwCl ((a, .inr (3, [.ref q2, .null, .ref q1, .int (-1)])) :: (([(q1, .inl (eT E 1, 12, .inl (fun _ => 0)))] : va_W) ++ ([(q2, .inr (4, [.ref b, .int 0, .int 0, .int 0, .int 0, .int 0, .int 0]))] : va_W)) : va_W) H := hP
  have hD : va_D (va_A [(a, .inr (3, [.null, .null, .null, .int 0]))] sz) ((a, .inr (3, [.ref q2, .null, .ref q1, .int (-1)])) :: (([(q1, .inl (eT E 1, 12, .inl (fun _ => 0)))] : va_W) ++ ([(q2, .inr (4, [.ref b, .int 0, .int 0, .int 0, .int 0, .int 0, .int 0]))] : va_W)) : va_W) := hD
  refine lv_aload_n hx hb dX4_init_29 rfl (lv_at hl 0 rfl) ?_
  refine rn_new S hK hP hD hS hA (ci := 1) (fs := [.null, .int 0, .int 0, .int 0]) (C := RX2) (T := TX2) (n := 4) rfl inw_X2 tyX2_ok (lwg_at 115 (by decide +kernel)) (lwg_at 116 (by decide +kernel)) (lwg_at 53 (by decide +kernel)) (fun j hj => by rcases (show j = 0 ∨ j = 1 ∨ j = 2 ∨ j = 3 by omega) with rfl | rfl | rfl | rfl <;> rfl) (Nat.le_of_ble_eq_true rfl) (Nat.le_of_ble_eq_true rfl) dX4_init_30 (fun q5 H hP hD hS => ?_)
  have hP : va_P (eD E) vwCl ((a, .inr (3, [.ref q2, .null, .ref q1, .int (-1)])) :: ((([(q1, .inl (eT E 1, 12, .inl (fun _ => 0)))] : va_W) ++ ([(q2, .inr (4, [.ref b, .int 0, .int 0, .int 0, .int 0, .int 0, .int 0]))] : va_W)) ++ ([(q5, .inr (1, [.null, .int 0, .int 0, .int 0]))] : va_W)) : va_W) H := hP
  have hD : va_D (va_A [(a, .inr (3, [.null, .null, .null, .int 0]))] sz) ((a, .inr (3, [.ref q2, .null, .ref q1, .int (-1)])) :: ((([(q1, .inl (eT E 1, 12, .inl (fun _ => 0)))] : va_W) ++ ([(q2, .inr (4, [.ref b, .int 0, .int 0, .int 0, .int 0, .int 0, .int 0]))] : va_W)) ++ ([(q5, .inr (1, [.null, .int 0, .int 0, .int 0]))] : va_W)) : va_W) := hD
  refine lv_dup hx hb dX4_init_33 rfl ?_
  refine lv_aload_n hx hb dX4_init_34 rfl (lv_at hl 0 rfl) ?_
  refine rn_get S hK hP fk_X4_24 (v := .ref q2) rfl dX4_init_35 ?_
  refine rn_call S li_X4_30 (wr := ((a, .inr (3, [.ref q2, .null, .ref q1, .int (-1)])) :: (([(q1, .inl (eT E 1, 12, .inl (fun _ => 0)))] : va_W) ++ ([(q2, .inr (4, [.ref b, .int 0, .int 0, .int 0, .int 0, .int 0, .int 0]))] : va_W)) : va_W)) (x := (q5, .inr (1, [.null, .int 0, .int 0, .int 0]))) (c_X2_init l E q5 q2 H.size) ⟨rfl, rfl⟩ ⟨(Nat.le_of_ble_eq_true rfl), (Nat.le_of_ble_eq_true rfl)⟩ hK hR hC hP hD hS hA hAL hL rfl hl.1 (Nat.le_of_ble_eq_true rfl) ⟨(Nat.le_of_ble_eq_true rfl), (Nat.le_of_ble_eq_true rfl)⟩ dX4_init_38 rfl (fun w6 H locs hw7 hP hD hS => ?_)
  subst hw7
  have hP : va_P (eD E) vwCl ((a, .inr (3, [.ref q2, .null, .ref q1, .int (-1)])) :: ((([(q1, .inl (eT E 1, 12, .inl (fun _ => 0)))] : va_W) ++ ([(q2, .inr (4, [.ref b, .int 0, .int 0, .int 0, .int 0, .int 0, .int 0]))] : va_W)) ++ ([(q5, .inr (1, [.ref q2, .int (-1), .int 0, .int 0]))] : va_W)) : va_W) H := hP
  have hD : va_D (va_A [(a, .inr (3, [.null, .null, .null, .int 0]))] sz) ((a, .inr (3, [.ref q2, .null, .ref q1, .int (-1)])) :: ((([(q1, .inl (eT E 1, 12, .inl (fun _ => 0)))] : va_W) ++ ([(q2, .inr (4, [.ref b, .int 0, .int 0, .int 0, .int 0, .int 0, .int 0]))] : va_W)) ++ ([(q5, .inr (1, [.ref q2, .int (-1), .int 0, .int 0]))] : va_W)) : va_W) := hD
  refine rn_put S hK hP hD hS fk_X4_33 tyX4_ok nmX4 (ty := .object "ColorScheme$Floor") (v := .ref q5) (by decide +kernel) rfl rfl (Nat.le_of_ble_eq_true rfl) (Or.inr ⟨rfl, hnm, rfl⟩) dX4_init_41 (fun H locs hP hD hS => ?_)
  have hP : va_P (eD E) vwCl ((a, .inr (3, [.ref q2, .ref q5, .ref q1, .int (-1)])) :: ((([(q1, .inl (eT E 1, 12, .inl (fun _ => 0)))] : va_W) ++ ([(q2, .inr (4, [.ref b, .int 0, .int 0, .int 0, .int 0, .int 0, .int 0]))] : va_W)) ++ ([(q5, .inr (1, [.ref q2, .int (-1), .int 0, .int 0]))] : va_W)) : va_W) H := hP
  have hD : va_D (va_A [(a, .inr (3, [.null, .null, .null, .int 0]))] sz) ((a, .inr (3, [.ref q2, .ref q5, .ref q1, .int (-1)])) :: ((([(q1, .inl (eT E 1, 12, .inl (fun _ => 0)))] : va_W) ++ ([(q2, .inr (4, [.ref b, .int 0, .int 0, .int 0, .int 0, .int 0, .int 0]))] : va_W)) ++ ([(q5, .inr (1, [.ref q2, .int (-1), .int 0, .int 0]))] : va_W)) : va_W) := hD
  exact re_in hx hb hr hlk hP hD hS ⟨q2, q5, q1, rfl⟩ (Nat.le_of_ble_eq_true rfl) (Nat.le_of_ble_eq_true rfl) dX4_init_44
/-- a new history's cells, i designs made -/
def hWl (E : En) (a r : Nat) (G : Nat → Nat → Nat) (i : Nat) : va_W := (a, .inr (2, [.ref r, .int 0, .int 0])) :: (r, .inl (eT E 4, 8, .inr (.inr (.inr (.inr (fun j => if j < i then some (G j 0) else none)))))) :: (List.range i).flatMap (fun j => dWl E (G j))
theorem hW_0 {E : En} {a r : Nat} {G : Nat → Nat → Nat} : hWl E a r G 0 = (a, .inr (2, [.ref r, .int 0, .int 0])) :: [(r, .inl (eT E 4, 8, .inr (.inr (.inr (.inr (fun _ => none))))))] := by
  show (a, _) :: (r, (.inl (eT E 4, 8, .inr (.inr (.inr (.inr (fun j => if j < 0 then some (G j 0) else none))))) : va_E)) :: [] = _
  rw [show (fun j => if j < 0 then some (G j 0) else none) = (fun _ : Nat => (none : Option Nat)) from funext fun j => if_neg (Nat.not_lt_zero j)]
theorem hW_s {E : En} {a r i : Nat} {G : Nat → Nat → Nat} {g : Nat → Nat} (hi : i < 8) : (hWl E a r G i ++ dWl E g).set 1 (r, .inl (eT E 4, 8, .inr (.inr (.inr (.inr (va_up (fun j => if j < i then some (G j 0) else none) (nI i).toNatClampNeg (some (g 0)))))))) = hWl E a r (fun j => if j = i then g else G j) (i + 1) := by
  rw [nI_clamp (by omega)]
  have e1 : va_up (fun j => if j < i then some (G j 0) else none) i (some (g 0)) = (fun j => if j < i + 1 then some ((if j = i then g else G j) 0) else none) := by
    funext j
    unfold va_up
    by_cases h : j = i
    · rw [if_pos h, if_pos (by omega), if_pos h]
    · rw [if_neg h]
      show (if j < i then some (G j 0) else none) = _
      by_cases h2 : j < i
      · rw [if_pos h2, if_pos (by omega), if_neg h]
      · rw [if_neg h2, if_neg (by omega)]
  have e2 : (List.range (i + 1)).flatMap (fun j => dWl E (if j = i then g else G j)) = (List.range i).flatMap (fun j => dWl E (G j)) ++ dWl E g := by
    rw [List.range_succ, List.flatMap_append]
    congr 1
    · rw [List.flatMap_def, List.flatMap_def]
      congr 1
      refine List.map_congr_left (fun j hj => ?_)
      have := List.mem_range.mp hj
      rw [if_neg (by omega)]
    · rw [List.flatMap_singleton, if_pos rfl]
  rw [e1]
  unfold hWl
  rw [e2]
  rfl
set_option maxHeartbeats 4000000 in
set_option maxRecDepth 100000 in
theorem c_X3_init (l : Launch) (E : En) (a sz : Nat) : Met l yX3_init (wz yX3_init cX3_init 2 none) (rmk 2 89 824 40) (va_Pc [.ref a] (Bn E [(a, .inr (2, [.null, .int 0, .int 0]))] sz)) (qIn E [(a, .inr (2, [.null, .int 0, .int 0]))] sz (fun w => ∃ r G, w = hWl E a r G 8)) 89 824 (va_A [(a, .inr (2, [.null, .int 0, .int 0]))] sz) := by
  refine en_ofW RX3 rfl (by decide +kernel) (Nat.le_of_ble_eq_true rfl) ?_
  intro p e s m below meth c ls S hr hlk hnm hl hB
  have hx := S.1
  have hb := S.2.1
  obtain ⟨hsz, hK, hC, hR, hP, hD, hA, hAL, hL⟩ := bn_of hB
  have hS : va_S (va_A [(a, .inr (2, [.null, .int 0, .int 0]))] sz) s.heap s.heap [] := va_S.rf
  have hl : lv_has ls 2 [(0, .ref a)] := hl
  refine lv_aload_n hx hb dX3_init_0 rfl (lv_at hl 0 rfl) ?_
  refine rn_obj S lo_X3 lo_i lo_c hl.1 (Nat.le_of_ble_eq_true rfl) (Nat.le_of_ble_eq_true rfl) (Nat.le_of_ble_eq_true rfl) dX3_init_1 ?_
  refine lv_aload_n hx hb dX3_init_4 rfl (lv_at hl 0 rfl) ?_
  refine lv_bipush (v := 8) hx hb dX3_init_5 (by decide) ?_
  refine rn_newq S hK hR hP hD hS hA (lwg_at 196 (by decide +kernel)) 8 rfl (by decide) (Nat.le_of_ble_eq_true rfl) (Nat.le_of_ble_eq_true rfl) dX3_init_7 (fun q1 H hP hD hS => ?_)
  have hP : va_P (eD E) vwCl ((a, .inr (2, [.null, .int 0, .int 0])) :: ([(q1, .inl (eT E 4, 8, .inr (.inr (.inr (.inr (fun _ => none))))))] : va_W) : va_W) H := hP
  have hD : va_D (va_A [(a, .inr (2, [.null, .int 0, .int 0]))] sz) ((a, .inr (2, [.null, .int 0, .int 0])) :: ([(q1, .inl (eT E 4, 8, .inr (.inr (.inr (.inr (fun _ => none))))))] : va_W) : va_W) := hD
  refine rn_put S hK hP hD hS fk_X3_11 tyX3_ok nmX3 (ty := .array (.object "ColorScheme$Design")) (v := .ref q1) (by decide +kernel) rfl rfl (Nat.le_of_ble_eq_true rfl) (Or.inr ⟨rfl, hnm, rfl⟩) dX3_init_10 (fun H locs hP hD hS => ?_)
  have hP : va_P (eD E) vwCl ((a, .inr (2, [.ref q1, .int 0, .int 0])) :: ([(q1, .inl (eT E 4, 8, .inr (.inr (.inr (.inr (fun _ => none))))))] : va_W) : va_W) H := hP
  have hD : va_D (va_A [(a, .inr (2, [.null, .int 0, .int 0]))] sz) ((a, .inr (2, [.ref q1, .int 0, .int 0])) :: ([(q1, .inl (eT E 4, 8, .inr (.inr (.inr (.inr (fun _ => none))))))] : va_W) : va_W) := hD
  refine lv_aload_n hx hb dX3_init_13 rfl (lv_at hl 0 rfl) ?_
  refine lv_iconst (v := 0) hx hb dX3_init_14 (by decide) ?_
  refine rn_put S hK hP hD hS fk_X3_17 tyX3_ok nmX3 (ty := .int) (v := .int 0) (by decide +kernel) rfl rfl (Nat.le_of_ble_eq_true rfl) (Or.inl rfl) dX3_init_15 (fun H locs hP hD hS => ?_)
  have hP : va_P (eD E) vwCl ((a, .inr (2, [.ref q1, .int 0, .int 0])) :: ([(q1, .inl (eT E 4, 8, .inr (.inr (.inr (.inr (fun _ => none))))))] : va_W) : va_W) H := hP
  have hD : va_D (va_A [(a, .inr (2, [.null, .int 0, .int 0]))] sz) ((a, .inr (2, [.ref q1, .int 0, .int 0])) :: ([(q1, .inl (eT E 4, 8, .inr (.inr (.inr (.inr (fun _ => none))))))] : va_W) : va_W) := hD
  refine lv_aload_n hx hb dX3_init_18 rfl (lv_at hl 0 rfl) ?_
  refine lv_iconst (v := 0) hx hb dX3_init_19 (by decide) ?_
  refine rn_put S hK hP hD hS fk_X3_21 tyX3_ok nmX3 (ty := .int) (v := .int 0) (by decide +kernel) rfl rfl (Nat.le_of_ble_eq_true rfl) (Or.inl rfl) dX3_init_20 (fun H locs hP hD hS => ?_)
  have hP : va_P (eD E) vwCl ((a, .inr (2, [.ref q1, .int 0, .int 0])) :: ([(q1, .inl (eT E 4, 8, .inr (.inr (.inr (.inr (fun _ => none))))))] : va_W) : va_W) H := hP
  have hD : va_D (va_A [(a, .inr (2, [.null, .int 0, .int 0]))] sz) ((a, .inr (2, [.ref q1, .int 0, .int 0])) :: ([(q1, .inl (eT E 4, 8, .inr (.inr (.inr (.inr (fun _ => none))))))] : va_W) : va_W) := hD
  refine lv_iconst (v := 0) hx hb dX3_init_23 (by decide) ?_
  refine lv_istore_n (lv' := [(1, .int 0), (0, .ref a)]) hx hb dX3_init_24 rfl hl (by decide) rfl (fun ls hl => ?_)
  have HL : ∀ (cnt i : Nat) (G : Nat → Nat → Nat) (cells slots : Nat), i + cnt = 8 → cells + cnt * 11 ≤ 89 → slots + cnt * 102 ≤ 824 → ∀ (H : Heap) (locs : List Loc), va_P (eD E) vwCl (hWl E a q1 G i) H → va_D (va_A [(a, .inr (2, [.null, .int 0, .int 0]))] sz) (hWl E a q1 G i) → va_S (va_A [(a, .inr (2, [.null, .int 0, .int 0]))] sz) s.heap H locs → ∀ ls : Array Slot, lv_has ls 2 [(1, .int (nI i)), (0, .ref a)] → W p l e (rmk 2 89 824 40) s m ([.ref a] : List Value).toArray below meth c H locs cells slots (MQ below (qIn E [(a, .inr (2, [.null, .int 0, .int 0]))] sz (fun w => ∃ r G, w = hWl E a r G 8)) ([.ref a] : List Value).toArray s 89 824 (va_A [(a, .inr (2, [.null, .int 0, .int 0]))] sz)) (F0 m 25 ls []) := by
    intro cnt
    induction cnt with
    | zero =>
      intro i G cells slots hi hc1 hs1 H locs hP hD hS ls hl
      refine lv_iload_n hx hb dX3_init_25 rfl (lv_at hl 0 rfl) ?_
      refine lv_bipush (v := 8) hx hb dX3_init_26 (by decide) ?_
      obtain rfl : i = 8 := by omega
      refine lv_icmp_ge (tgt := 50) hx hb dX3_init_28 (by decide) (fun _ => ?_) (fun h => absurd (Int32.le_refl _) h)
      exact re_in hx hb hr hlk hP hD hS ⟨_, _, rfl⟩ (by omega) (by omega) dX3_init_50
    | succ cnt ih =>
      intro i G cells slots hi hc1 hs1 H locs hP hD hS ls hl
      refine lv_iload_n hx hb dX3_init_25 rfl (lv_at hl 0 rfl) ?_
      refine lv_bipush (v := 8) hx hb dX3_init_26 (by decide) ?_
      have hi8 : i < 8 := by omega
      refine lv_icmp_ge (tgt := 50) hx hb dX3_init_28 (by decide) (fun h => absurd h (nI_ge (b := 8) hi8 (by decide))) (fun _ => ?_)
      refine lv_aload_n hx hb dX3_init_31 rfl (lv_at hl 1 rfl) ?_
      refine rn_get S hK (ci := 2) (fs := [.ref q1, .int 0, .int 0]) hP fk_X3_11 (v := .ref q1) rfl dX3_init_32 ?_
      refine lv_iload_n hx hb dX3_init_35 rfl (lv_at hl 0 rfl) ?_
      refine rn_new S hK hP hD hS hA (ci := 0) (fs := [.int 0, .null, .null, .int 0, .null, .null, .null, .null]) (C := RX1) (T := TX1) (n := 8) rfl inw_X1 tyX1_ok (lwg_at 196 (by decide +kernel)) (lwg_at 148 (by decide +kernel)) (lwg_at 54 (by decide +kernel)) (fun j hj => by rcases (show j = 0 ∨ j = 1 ∨ j = 2 ∨ j = 3 ∨ j = 4 ∨ j = 5 ∨ j = 6 ∨ j = 7 by omega) with rfl | rfl | rfl | rfl | rfl | rfl | rfl | rfl <;> rfl) (by show cells + 1 ≤ 89; omega) (by show slots + 8 ≤ 824; omega) dX3_init_36 (fun q H hP hD hS => ?_)
      refine lv_dup hx hb dX3_init_39 rfl ?_
      refine rn_callN S li_X1 hC.1.1.2.1 (wr := hWl E a q1 G i) (x := (q, .inr (0, [.int 0, .null, .null, .int 0, .null, .null, .null, .null]))) (c_X1_init l E q H.size) ⟨rfl, rfl⟩ ⟨(Nat.le_of_ble_eq_true rfl), (Nat.le_of_ble_eq_true rfl)⟩ hK hR hC hP hD hS hA hAL hL rfl hl.1 (Nat.le_of_ble_eq_true rfl) ⟨by show cells + 1 + 10 ≤ 89; omega, by show slots + 8 + 94 ≤ 824; omega⟩ dX3_init_40 rfl (fun w1 H locs hw hP hD hS => ?_)
      obtain ⟨g, hg, e⟩ := hw
      subst e
      rw [← hg]
      have hv : (hWl E a q1 G i ++ dWl E g)[(hWl E a q1 G i).length]? = some (g 0, .inr (0, [.int 0, .ref (g 1), .ref (g 4), .int 0, .ref (g 5), .ref (g 6), .ref (g 7), .ref (g 8)])) := by rw [List.getElem?_append_right (Nat.le_refl _), Nat.sub_self]; rfl
      refine va_astq hx hb hK hP hD hS 1 4 _ 0 (f := fun j => if j < i then some (G j 0) else none) (r := (RX1, TX1, 8)) (n := 8) (cA := eT E 4) rfl rfl hv rfl (vp_in_nI hi8 (by decide)) dX3_init_43 (fun H locs hP hD hS => ?_)
      rw [hW_s hi8] at hP hD
      refine lv_iinc (v := nI (i + 1)) (lv' := [(1, .int (nI (i + 1))), (0, .ref a)]) hx hb dX3_init_44 hl (k := 0) rfl (nI_1 _) (by decide) rfl (fun ls hl => ?_)
      refine lv_goto (tgt := 25) hx hb dX3_init_47 (by decide) ?_
      exact ih (i + 1) _ _ _ (by omega) (by omega) (by omega) _ _ hP hD hS ls (lv_sub hl [0, 1] rfl)
  rw [← hW_0 (G := fun _ _ => 0)] at hP hD
  exact HL 8 0 _ _ _ (by omega) (by decide) (by decide) _ _ hP hD hS ls (lv_sub hl [0, 1] rfl)
/-- a new component's cells -/
def cWl (E : En) (a b rd t f z h r : Nat) (g0 g1 : Nat → Nat) (G : Nat → Nat → Nat) : va_W := (a, .inr (5, [.ref b, .ref rd, .ref (g0 0), .ref (g1 0), .ref h, .int 0, .int (-1)])) :: (((((([(b, .inl (eT E 0, 700, .inl (fun _ => 0)))] : va_W) ++ rWl E rd b t f z) ++ dWl E g0) ++ dWl E g1) ++ hWl E h r G 8))
set_option maxHeartbeats 4000000 in
set_option maxRecDepth 100000 in
theorem c_X6_init (l : Launch) (E : En) (a sz : Nat) : Met l yX6_init (wz yX6_init cX6_init 1 none) (rmk 3 117 1758 62) (va_Pc [.ref a] (Bn E [(a, .inr (5, [.null, .null, .null, .null, .null, .int 0, .int 0]))] sz)) (qIn E [(a, .inr (5, [.null, .null, .null, .null, .null, .int 0, .int 0]))] sz (fun w => ∃ b rd t f z h r g0 g1 G, w = cWl E a b rd t f z h r g0 g1 G)) 117 1758 (va_A [(a, .inr (5, [.null, .null, .null, .null, .null, .int 0, .int 0]))] sz) := by
  refine en_ofW RX6 rfl (by decide +kernel) (Nat.le_of_ble_eq_true rfl) ?_
  intro p e s m below meth c ls S hr hlk hnm hl hB
  have hx := S.1
  have hb := S.2.1
  obtain ⟨hsz, hK, hC, hR, hP, hD, hA, hAL, hL⟩ := bn_of hB
  have hS : va_S (va_A [(a, .inr (5, [.null, .null, .null, .null, .null, .int 0, .int 0]))] sz) s.heap s.heap [] := va_S.rf
  have hl : lv_has ls 1 [(0, .ref a)] := hl
  refine lv_aload_n hx hb dX6_init_0 rfl (lv_at hl 0 rfl) ?_
  refine rn_obj S lo_X6 lo_i lo_c hl.1 (Nat.le_of_ble_eq_true rfl) (Nat.le_of_ble_eq_true rfl) (Nat.le_of_ble_eq_true rfl) dX6_init_1 ?_
  refine lv_aload_n hx hb dX6_init_4 rfl (lv_at hl 0 rfl) ?_
  refine lv_sipush (v := 700) hx hb dX6_init_5 (by decide) ?_
  refine rn_newa S hK hP hD hS hA (ty := .byte) 0 rfl (lwg_at 113 (by decide +kernel)) rfl (a0 := (700, .inl (fun _ => 0))) 700 rfl (by decide) (fun _ => rfl) (by decide) (Nat.le_of_ble_eq_true rfl) (Nat.le_of_ble_eq_true rfl) dX6_init_8 (fun q1 H hP hD hS => ?_)
  have hP : va_P (eD E) vwCl ((a, .inr (5, [.null, .null, .null, .null, .null, .int 0, .int 0])) :: ([(q1, .inl (eT E 0, 700, .inl (fun _ => 0)))] : va_W) : va_W) H := hP
  have hD : va_D (va_A [(a, .inr (5, [.null, .null, .null, .null, .null, .int 0, .int 0]))] sz) ((a, .inr (5, [.null, .null, .null, .null, .null, .int 0, .int 0])) :: ([(q1, .inl (eT E 0, 700, .inl (fun _ => 0)))] : va_W) : va_W) := hD
  refine rn_put S hK hP hD hS fk_X6_9 tyX6_ok nmX6 (ty := .array .byte) (v := .ref q1) (by decide +kernel) rfl rfl (Nat.le_of_ble_eq_true rfl) (Or.inr ⟨rfl, hnm, rfl⟩) dX6_init_10 (fun H locs hP hD hS => ?_)
  have hP : va_P (eD E) vwCl ((a, .inr (5, [.ref q1, .null, .null, .null, .null, .int 0, .int 0])) :: ([(q1, .inl (eT E 0, 700, .inl (fun _ => 0)))] : va_W) : va_W) H := hP
  have hD : va_D (va_A [(a, .inr (5, [.null, .null, .null, .null, .null, .int 0, .int 0]))] sz) ((a, .inr (5, [.ref q1, .null, .null, .null, .null, .int 0, .int 0])) :: ([(q1, .inl (eT E 0, 700, .inl (fun _ => 0)))] : va_W) : va_W) := hD
  refine lv_aload_n hx hb dX6_init_13 rfl (lv_at hl 0 rfl) ?_
  refine rn_new S hK hP hD hS hA (ci := 3) (fs := [.null, .null, .null, .int 0]) (C := RX4) (T := TX4) (n := 4) rfl inw_X4 tyX4_ok (lwg_at 79 (by decide +kernel)) (lwg_at 80 (by decide +kernel)) (lwg_at 51 (by decide +kernel)) (fun j hj => by rcases (show j = 0 ∨ j = 1 ∨ j = 2 ∨ j = 3 by omega) with rfl | rfl | rfl | rfl <;> rfl) (Nat.le_of_ble_eq_true rfl) (Nat.le_of_ble_eq_true rfl) dX6_init_14 (fun q2 H hP hD hS => ?_)
  have hP : va_P (eD E) vwCl ((a, .inr (5, [.ref q1, .null, .null, .null, .null, .int 0, .int 0])) :: (([(q1, .inl (eT E 0, 700, .inl (fun _ => 0)))] : va_W) ++ ([(q2, .inr (3, [.null, .null, .null, .int 0]))] : va_W)) : va_W) H := hP
  have hD : va_D (va_A [(a, .inr (5, [.null, .null, .null, .null, .null, .int 0, .int 0]))] sz) ((a, .inr (5, [.ref q1, .null, .null, .null, .null, .int 0, .int 0])) :: (([(q1, .inl (eT E 0, 700, .inl (fun _ => 0)))] : va_W) ++ ([(q2, .inr (3, [.null, .null, .null, .int 0]))] : va_W)) : va_W) := hD
  refine lv_dup hx hb dX6_init_17 rfl ?_
  refine lv_aload_n hx hb dX6_init_18 rfl (lv_at hl 0 rfl) ?_
  refine rn_get S hK hP fk_X6_9 (v := .ref q1) rfl dX6_init_19 ?_
  refine rn_call S li_X6_15 (wr := ((a, .inr (5, [.ref q1, .null, .null, .null, .null, .int 0, .int 0])) :: ([(q1, .inl (eT E 0, 700, .inl (fun _ => 0)))] : va_W) : va_W)) (x := (q2, .inr (3, [.null, .null, .null, .int 0]))) (c_X4_init l E q2 q1 H.size) ⟨rfl, rfl⟩ ⟨(Nat.le_of_ble_eq_true rfl), (Nat.le_of_ble_eq_true rfl)⟩ hK hR hC hP hD hS hA hAL hL rfl hl.1 (Nat.le_of_ble_eq_true rfl) ⟨(Nat.le_of_ble_eq_true rfl), (Nat.le_of_ble_eq_true rfl)⟩ dX6_init_22 rfl (fun w3 H locs hw4 hP hD hS => ?_)
  obtain ⟨t5, f5, z5, e5⟩ := hw4
  subst e5
  have hP : va_P (eD E) vwCl ((a, .inr (5, [.ref q1, .null, .null, .null, .null, .int 0, .int 0])) :: (([(q1, .inl (eT E 0, 700, .inl (fun _ => 0)))] : va_W) ++ rWl E q2 q1 t5 f5 z5) : va_W) H := hP
  have hD : va_D (va_A [(a, .inr (5, [.null, .null, .null, .null, .null, .int 0, .int 0]))] sz) ((a, .inr (5, [.ref q1, .null, .null, .null, .null, .int 0, .int 0])) :: (([(q1, .inl (eT E 0, 700, .inl (fun _ => 0)))] : va_W) ++ rWl E q2 q1 t5 f5 z5) : va_W) := hD
  refine rn_put S hK hP hD hS fk_X6_18 tyX6_ok nmX6 (ty := .object "ColorScheme$SetupReader") (v := .ref q2) (by decide +kernel) rfl rfl (Nat.le_of_ble_eq_true rfl) (Or.inr ⟨rfl, hnm, rfl⟩) dX6_init_25 (fun H locs hP hD hS => ?_)
  have hP : va_P (eD E) vwCl ((a, .inr (5, [.ref q1, .ref q2, .null, .null, .null, .int 0, .int 0])) :: (([(q1, .inl (eT E 0, 700, .inl (fun _ => 0)))] : va_W) ++ rWl E q2 q1 t5 f5 z5) : va_W) H := hP
  have hD : va_D (va_A [(a, .inr (5, [.null, .null, .null, .null, .null, .int 0, .int 0]))] sz) ((a, .inr (5, [.ref q1, .ref q2, .null, .null, .null, .int 0, .int 0])) :: (([(q1, .inl (eT E 0, 700, .inl (fun _ => 0)))] : va_W) ++ rWl E q2 q1 t5 f5 z5) : va_W) := hD
  refine lv_aload_n hx hb dX6_init_28 rfl (lv_at hl 0 rfl) ?_
  refine rn_new S hK hP hD hS hA (ci := 0) (fs := [.int 0, .null, .null, .int 0, .null, .null, .null, .null]) (C := RX1) (T := TX1) (n := 8) rfl inw_X1 tyX1_ok (lwg_at 147 (by decide +kernel)) (lwg_at 148 (by decide +kernel)) (lwg_at 54 (by decide +kernel)) (fun j hj => by rcases (show j = 0 ∨ j = 1 ∨ j = 2 ∨ j = 3 ∨ j = 4 ∨ j = 5 ∨ j = 6 ∨ j = 7 by omega) with rfl | rfl | rfl | rfl | rfl | rfl | rfl | rfl <;> rfl) (Nat.le_of_ble_eq_true rfl) (Nat.le_of_ble_eq_true rfl) dX6_init_29 (fun q6 H hP hD hS => ?_)
  have hP : va_P (eD E) vwCl ((a, .inr (5, [.ref q1, .ref q2, .null, .null, .null, .int 0, .int 0])) :: ((([(q1, .inl (eT E 0, 700, .inl (fun _ => 0)))] : va_W) ++ rWl E q2 q1 t5 f5 z5) ++ ([(q6, .inr (0, [.int 0, .null, .null, .int 0, .null, .null, .null, .null]))] : va_W)) : va_W) H := hP
  have hD : va_D (va_A [(a, .inr (5, [.null, .null, .null, .null, .null, .int 0, .int 0]))] sz) ((a, .inr (5, [.ref q1, .ref q2, .null, .null, .null, .int 0, .int 0])) :: ((([(q1, .inl (eT E 0, 700, .inl (fun _ => 0)))] : va_W) ++ rWl E q2 q1 t5 f5 z5) ++ ([(q6, .inr (0, [.int 0, .null, .null, .int 0, .null, .null, .null, .null]))] : va_W)) : va_W) := hD
  refine lv_dup hx hb dX6_init_32 rfl ?_
  refine rn_callN S li_X1 hC.1.1.1 (wr := ((a, .inr (5, [.ref q1, .ref q2, .null, .null, .null, .int 0, .int 0])) :: (([(q1, .inl (eT E 0, 700, .inl (fun _ => 0)))] : va_W) ++ rWl E q2 q1 t5 f5 z5) : va_W)) (x := (q6, .inr (0, [.int 0, .null, .null, .int 0, .null, .null, .null, .null]))) (c_X1_init l E q6 H.size) ⟨rfl, rfl⟩ ⟨(Nat.le_of_ble_eq_true rfl), (Nat.le_of_ble_eq_true rfl)⟩ hK hR hC hP hD hS hA hAL hL rfl hl.1 (Nat.le_of_ble_eq_true rfl) ⟨(Nat.le_of_ble_eq_true rfl), (Nat.le_of_ble_eq_true rfl)⟩ dX6_init_33 rfl (fun w7 H locs hw8 hP hD hS => ?_)
  obtain ⟨g9, hg9, eg9⟩ := hw8
  subst eg9
  rw [← hg9]
  have hP : va_P (eD E) vwCl ((a, .inr (5, [.ref q1, .ref q2, .null, .null, .null, .int 0, .int 0])) :: ((([(q1, .inl (eT E 0, 700, .inl (fun _ => 0)))] : va_W) ++ rWl E q2 q1 t5 f5 z5) ++ dWl E g9) : va_W) H := hP
  have hD : va_D (va_A [(a, .inr (5, [.null, .null, .null, .null, .null, .int 0, .int 0]))] sz) ((a, .inr (5, [.ref q1, .ref q2, .null, .null, .null, .int 0, .int 0])) :: ((([(q1, .inl (eT E 0, 700, .inl (fun _ => 0)))] : va_W) ++ rWl E q2 q1 t5 f5 z5) ++ dWl E g9) : va_W) := hD
  refine rn_put S hK hP hD hS fk_X6_25 tyX6_ok nmX6 (ty := .object "ColorScheme$Design") (v := .ref (g9 0)) (by decide +kernel) rfl rfl (Nat.le_of_ble_eq_true rfl) (Or.inr ⟨rfl, hnm, rfl⟩) dX6_init_36 (fun H locs hP hD hS => ?_)
  have hP : va_P (eD E) vwCl ((a, .inr (5, [.ref q1, .ref q2, .ref (g9 0), .null, .null, .int 0, .int 0])) :: ((([(q1, .inl (eT E 0, 700, .inl (fun _ => 0)))] : va_W) ++ rWl E q2 q1 t5 f5 z5) ++ dWl E g9) : va_W) H := hP
  have hD : va_D (va_A [(a, .inr (5, [.null, .null, .null, .null, .null, .int 0, .int 0]))] sz) ((a, .inr (5, [.ref q1, .ref q2, .ref (g9 0), .null, .null, .int 0, .int 0])) :: ((([(q1, .inl (eT E 0, 700, .inl (fun _ => 0)))] : va_W) ++ rWl E q2 q1 t5 f5 z5) ++ dWl E g9) : va_W) := hD
  refine lv_aload_n hx hb dX6_init_39 rfl (lv_at hl 0 rfl) ?_
  refine rn_new S hK hP hD hS hA (ci := 0) (fs := [.int 0, .null, .null, .int 0, .null, .null, .null, .null]) (C := RX1) (T := TX1) (n := 8) rfl inw_X1 tyX1_ok (lwg_at 147 (by decide +kernel)) (lwg_at 148 (by decide +kernel)) (lwg_at 54 (by decide +kernel)) (fun j hj => by rcases (show j = 0 ∨ j = 1 ∨ j = 2 ∨ j = 3 ∨ j = 4 ∨ j = 5 ∨ j = 6 ∨ j = 7 by omega) with rfl | rfl | rfl | rfl | rfl | rfl | rfl | rfl <;> rfl) (Nat.le_of_ble_eq_true rfl) (Nat.le_of_ble_eq_true rfl) dX6_init_40 (fun q10 H hP hD hS => ?_)
  have hP : va_P (eD E) vwCl ((a, .inr (5, [.ref q1, .ref q2, .ref (g9 0), .null, .null, .int 0, .int 0])) :: (((([(q1, .inl (eT E 0, 700, .inl (fun _ => 0)))] : va_W) ++ rWl E q2 q1 t5 f5 z5) ++ dWl E g9) ++ ([(q10, .inr (0, [.int 0, .null, .null, .int 0, .null, .null, .null, .null]))] : va_W)) : va_W) H := hP
  have hD : va_D (va_A [(a, .inr (5, [.null, .null, .null, .null, .null, .int 0, .int 0]))] sz) ((a, .inr (5, [.ref q1, .ref q2, .ref (g9 0), .null, .null, .int 0, .int 0])) :: (((([(q1, .inl (eT E 0, 700, .inl (fun _ => 0)))] : va_W) ++ rWl E q2 q1 t5 f5 z5) ++ dWl E g9) ++ ([(q10, .inr (0, [.int 0, .null, .null, .int 0, .null, .null, .null, .null]))] : va_W)) : va_W) := hD
  refine lv_dup hx hb dX6_init_43 rfl ?_
  refine rn_callN S li_X1 hC.1.1.1 (wr := ((a, .inr (5, [.ref q1, .ref q2, .ref (g9 0), .null, .null, .int 0, .int 0])) :: ((([(q1, .inl (eT E 0, 700, .inl (fun _ => 0)))] : va_W) ++ rWl E q2 q1 t5 f5 z5) ++ dWl E g9) : va_W)) (x := (q10, .inr (0, [.int 0, .null, .null, .int 0, .null, .null, .null, .null]))) (c_X1_init l E q10 H.size) ⟨rfl, rfl⟩ ⟨(Nat.le_of_ble_eq_true rfl), (Nat.le_of_ble_eq_true rfl)⟩ hK hR hC hP hD hS hA hAL hL rfl hl.1 (Nat.le_of_ble_eq_true rfl) ⟨(Nat.le_of_ble_eq_true rfl), (Nat.le_of_ble_eq_true rfl)⟩ dX6_init_44 rfl (fun w11 H locs hw12 hP hD hS => ?_)
  obtain ⟨g13, hg13, eg13⟩ := hw12
  subst eg13
  rw [← hg13]
  have hP : va_P (eD E) vwCl ((a, .inr (5, [.ref q1, .ref q2, .ref (g9 0), .null, .null, .int 0, .int 0])) :: (((([(q1, .inl (eT E 0, 700, .inl (fun _ => 0)))] : va_W) ++ rWl E q2 q1 t5 f5 z5) ++ dWl E g9) ++ dWl E g13) : va_W) H := hP
  have hD : va_D (va_A [(a, .inr (5, [.null, .null, .null, .null, .null, .int 0, .int 0]))] sz) ((a, .inr (5, [.ref q1, .ref q2, .ref (g9 0), .null, .null, .int 0, .int 0])) :: (((([(q1, .inl (eT E 0, 700, .inl (fun _ => 0)))] : va_W) ++ rWl E q2 q1 t5 f5 z5) ++ dWl E g9) ++ dWl E g13) : va_W) := hD
  refine rn_put S hK hP hD hS fk_X6_29 tyX6_ok nmX6 (ty := .object "ColorScheme$Design") (v := .ref (g13 0)) (by decide +kernel) rfl rfl (Nat.le_of_ble_eq_true rfl) (Or.inr ⟨rfl, hnm, rfl⟩) dX6_init_47 (fun H locs hP hD hS => ?_)
  have hP : va_P (eD E) vwCl ((a, .inr (5, [.ref q1, .ref q2, .ref (g9 0), .ref (g13 0), .null, .int 0, .int 0])) :: (((([(q1, .inl (eT E 0, 700, .inl (fun _ => 0)))] : va_W) ++ rWl E q2 q1 t5 f5 z5) ++ dWl E g9) ++ dWl E g13) : va_W) H := hP
  have hD : va_D (va_A [(a, .inr (5, [.null, .null, .null, .null, .null, .int 0, .int 0]))] sz) ((a, .inr (5, [.ref q1, .ref q2, .ref (g9 0), .ref (g13 0), .null, .int 0, .int 0])) :: (((([(q1, .inl (eT E 0, 700, .inl (fun _ => 0)))] : va_W) ++ rWl E q2 q1 t5 f5 z5) ++ dWl E g9) ++ dWl E g13) : va_W) := hD
  refine lv_aload_n hx hb dX6_init_50 rfl (lv_at hl 0 rfl) ?_
  refine rn_new S hK hP hD hS hA (ci := 2) (fs := [.null, .int 0, .int 0]) (C := RX3) (T := TX3) (n := 3) rfl inw_X3 tyX3_ok (lwg_at 190 (by decide +kernel)) (lwg_at 191 (by decide +kernel)) (lwg_at 55 (by decide +kernel)) (fun j hj => by rcases (show j = 0 ∨ j = 1 ∨ j = 2 by omega) with rfl | rfl | rfl <;> rfl) (Nat.le_of_ble_eq_true rfl) (Nat.le_of_ble_eq_true rfl) dX6_init_51 (fun q14 H hP hD hS => ?_)
  have hP : va_P (eD E) vwCl ((a, .inr (5, [.ref q1, .ref q2, .ref (g9 0), .ref (g13 0), .null, .int 0, .int 0])) :: ((((([(q1, .inl (eT E 0, 700, .inl (fun _ => 0)))] : va_W) ++ rWl E q2 q1 t5 f5 z5) ++ dWl E g9) ++ dWl E g13) ++ ([(q14, .inr (2, [.null, .int 0, .int 0]))] : va_W)) : va_W) H := hP
  have hD : va_D (va_A [(a, .inr (5, [.null, .null, .null, .null, .null, .int 0, .int 0]))] sz) ((a, .inr (5, [.ref q1, .ref q2, .ref (g9 0), .ref (g13 0), .null, .int 0, .int 0])) :: ((((([(q1, .inl (eT E 0, 700, .inl (fun _ => 0)))] : va_W) ++ rWl E q2 q1 t5 f5 z5) ++ dWl E g9) ++ dWl E g13) ++ ([(q14, .inr (2, [.null, .int 0, .int 0]))] : va_W)) : va_W) := hD
  refine lv_dup hx hb dX6_init_54 rfl ?_
  refine rn_call S li_X6_34 (wr := ((a, .inr (5, [.ref q1, .ref q2, .ref (g9 0), .ref (g13 0), .null, .int 0, .int 0])) :: (((([(q1, .inl (eT E 0, 700, .inl (fun _ => 0)))] : va_W) ++ rWl E q2 q1 t5 f5 z5) ++ dWl E g9) ++ dWl E g13) : va_W)) (x := (q14, .inr (2, [.null, .int 0, .int 0]))) (c_X3_init l E q14 H.size) ⟨rfl, rfl⟩ ⟨(Nat.le_of_ble_eq_true rfl), (Nat.le_of_ble_eq_true rfl)⟩ hK hR hC hP hD hS hA hAL hL rfl hl.1 (Nat.le_of_ble_eq_true rfl) ⟨(Nat.le_of_ble_eq_true rfl), (Nat.le_of_ble_eq_true rfl)⟩ dX6_init_55 rfl (fun w15 H locs hw16 hP hD hS => ?_)
  obtain ⟨r17, G17, e17⟩ := hw16
  subst e17
  have hP : va_P (eD E) vwCl ((a, .inr (5, [.ref q1, .ref q2, .ref (g9 0), .ref (g13 0), .null, .int 0, .int 0])) :: ((((([(q1, .inl (eT E 0, 700, .inl (fun _ => 0)))] : va_W) ++ rWl E q2 q1 t5 f5 z5) ++ dWl E g9) ++ dWl E g13) ++ hWl E q14 r17 G17 8) : va_W) H := hP
  have hD : va_D (va_A [(a, .inr (5, [.null, .null, .null, .null, .null, .int 0, .int 0]))] sz) ((a, .inr (5, [.ref q1, .ref q2, .ref (g9 0), .ref (g13 0), .null, .int 0, .int 0])) :: ((((([(q1, .inl (eT E 0, 700, .inl (fun _ => 0)))] : va_W) ++ rWl E q2 q1 t5 f5 z5) ++ dWl E g9) ++ dWl E g13) ++ hWl E q14 r17 G17 8) : va_W) := hD
  refine rn_put S hK hP hD hS fk_X6_35 tyX6_ok nmX6 (ty := .object "ColorScheme$History") (v := .ref q14) (by decide +kernel) rfl rfl (Nat.le_of_ble_eq_true rfl) (Or.inr ⟨rfl, hnm, rfl⟩) dX6_init_58 (fun H locs hP hD hS => ?_)
  have hP : va_P (eD E) vwCl ((a, .inr (5, [.ref q1, .ref q2, .ref (g9 0), .ref (g13 0), .ref q14, .int 0, .int 0])) :: ((((([(q1, .inl (eT E 0, 700, .inl (fun _ => 0)))] : va_W) ++ rWl E q2 q1 t5 f5 z5) ++ dWl E g9) ++ dWl E g13) ++ hWl E q14 r17 G17 8) : va_W) H := hP
  have hD : va_D (va_A [(a, .inr (5, [.null, .null, .null, .null, .null, .int 0, .int 0]))] sz) ((a, .inr (5, [.ref q1, .ref q2, .ref (g9 0), .ref (g13 0), .ref q14, .int 0, .int 0])) :: ((((([(q1, .inl (eT E 0, 700, .inl (fun _ => 0)))] : va_W) ++ rWl E q2 q1 t5 f5 z5) ++ dWl E g9) ++ dWl E g13) ++ hWl E q14 r17 G17 8) : va_W) := hD
  refine lv_aload_n hx hb dX6_init_61 rfl (lv_at hl 0 rfl) ?_
  refine lv_iconst (v := 0) hx hb dX6_init_62 (by decide) ?_
  refine rn_put S hK hP hD hS fk_X6_39 tyX6_ok nmX6 (ty := .int) (v := .int 0) (by decide +kernel) rfl rfl (Nat.le_of_ble_eq_true rfl) (Or.inl rfl) dX6_init_63 (fun H locs hP hD hS => ?_)
  have hP : va_P (eD E) vwCl ((a, .inr (5, [.ref q1, .ref q2, .ref (g9 0), .ref (g13 0), .ref q14, .int 0, .int 0])) :: ((((([(q1, .inl (eT E 0, 700, .inl (fun _ => 0)))] : va_W) ++ rWl E q2 q1 t5 f5 z5) ++ dWl E g9) ++ dWl E g13) ++ hWl E q14 r17 G17 8) : va_W) H := hP
  have hD : va_D (va_A [(a, .inr (5, [.null, .null, .null, .null, .null, .int 0, .int 0]))] sz) ((a, .inr (5, [.ref q1, .ref q2, .ref (g9 0), .ref (g13 0), .ref q14, .int 0, .int 0])) :: ((((([(q1, .inl (eT E 0, 700, .inl (fun _ => 0)))] : va_W) ++ rWl E q2 q1 t5 f5 z5) ++ dWl E g9) ++ dWl E g13) ++ hWl E q14 r17 G17 8) : va_W) := hD
  refine lv_aload_n hx hb dX6_init_66 rfl (lv_at hl 0 rfl) ?_
  refine lv_iconst (v := (-1)) hx hb dX6_init_67 (by decide) ?_
  refine rn_put S hK hP hD hS fk_X6_43 tyX6_ok nmX6 (ty := .int) (v := .int (-1)) (by decide +kernel) rfl rfl (Nat.le_of_ble_eq_true rfl) (Or.inl rfl) dX6_init_68 (fun H locs hP hD hS => ?_)
  have hP : va_P (eD E) vwCl ((a, .inr (5, [.ref q1, .ref q2, .ref (g9 0), .ref (g13 0), .ref q14, .int 0, .int (-1)])) :: ((((([(q1, .inl (eT E 0, 700, .inl (fun _ => 0)))] : va_W) ++ rWl E q2 q1 t5 f5 z5) ++ dWl E g9) ++ dWl E g13) ++ hWl E q14 r17 G17 8) : va_W) H := hP
  have hD : va_D (va_A [(a, .inr (5, [.null, .null, .null, .null, .null, .int 0, .int 0]))] sz) ((a, .inr (5, [.ref q1, .ref q2, .ref (g9 0), .ref (g13 0), .ref q14, .int 0, .int (-1)])) :: ((((([(q1, .inl (eT E 0, 700, .inl (fun _ => 0)))] : va_W) ++ rWl E q2 q1 t5 f5 z5) ++ dWl E g9) ++ dWl E g13) ++ hWl E q14 r17 G17 8) : va_W) := hD
  exact re_in hx hb hr hlk hP hD hS ⟨q1, q2, t5, f5, z5, q14, r17, g9, g13, G17, rfl⟩ (Nat.le_of_ble_eq_true rfl) (Nat.le_of_ble_eq_true rfl) dX6_init_71
/-- a new model's cells -/
def mWl (E : En) (a b da dr hi st ne : Nat) (r : Nat → Nat) : va_W := (a, .inr (6, [.int 0, .ref b, .int 0, .int 0, .int 0, .int 0, .int 0, .int (-1), .ref da, .ref dr, .ref hi, .int 0, .int 0, .int 0, .int 0, .ref st, .ref ne, .int 0, .int 0, .int 0])) :: (((((([(b, .inl (eT E 1, 700, .inl (fun _ => 0)))] : va_W) ++ ([(da, .inl (eT E 1, 1282, .inl (fun _ => 0)))] : va_W)) ++ ([(dr, .inl (eT E 1, 1282, .inl (fun _ => 0)))] : va_W)) ++ ((hi, .inl (eT E 5, 8, .inr (.inr (.inr (.inr (fun i => if i < 8 then some (r i) else none)))))) :: (List.range 8).map (fun i => (r i, .inl (eT E 1, 1282, .inl (fun _ => 0)))) : va_W)) ++ ([(st, .inl (eT E 2, 1200, .inr (.inl (fun _ => 0))))] : va_W)) ++ ([(ne, .inl (eT E 1, 24, .inl (fun _ => 0)))] : va_W))
set_option maxHeartbeats 4000000 in
set_option maxRecDepth 100000 in
theorem c_X7_init (l : Launch) (E : En) (a sz : Nat) : Met l yX7_init (wz yX7_init cX7_init 1 none) (rmk 1 14 14752 20) (va_Pc [.ref a] (Bn E [(a, .inr (6, [.int 0, .null, .int 0, .int 0, .int 0, .int 0, .int 0, .int 0, .null, .null, .null, .int 0, .int 0, .int 0, .int 0, .null, .null, .int 0, .int 0, .int 0]))] sz)) (qIn E [(a, .inr (6, [.int 0, .null, .int 0, .int 0, .int 0, .int 0, .int 0, .int 0, .null, .null, .null, .int 0, .int 0, .int 0, .int 0, .null, .null, .int 0, .int 0, .int 0]))] sz (fun w => ∃ b da dr hi st ne r, w = mWl E a b da dr hi st ne r)) 14 14752 (va_A [(a, .inr (6, [.int 0, .null, .int 0, .int 0, .int 0, .int 0, .int 0, .int 0, .null, .null, .null, .int 0, .int 0, .int 0, .int 0, .null, .null, .int 0, .int 0, .int 0]))] sz) := by
  refine en_ofW RX7 rfl (by decide +kernel) (Nat.le_of_ble_eq_true rfl) ?_
  intro p e s m below meth c ls S hr hlk hnm hl hB
  have hx := S.1
  have hb := S.2.1
  obtain ⟨hsz, hK, hC, hR, hP, hD, hA, hAL, hL⟩ := bn_of hB
  have hS : va_S (va_A [(a, .inr (6, [.int 0, .null, .int 0, .int 0, .int 0, .int 0, .int 0, .int 0, .null, .null, .null, .int 0, .int 0, .int 0, .int 0, .null, .null, .int 0, .int 0, .int 0]))] sz) s.heap s.heap [] := va_S.rf
  have hl : lv_has ls 1 [(0, .ref a)] := hl
  refine lv_aload_n hx hb dX7_init_0 rfl (lv_at hl 0 rfl) ?_
  refine rn_obj S lo_X7 lo_i lo_c hl.1 (Nat.le_of_ble_eq_true rfl) (Nat.le_of_ble_eq_true rfl) (Nat.le_of_ble_eq_true rfl) dX7_init_1 ?_
  refine lv_aload_n hx hb dX7_init_4 rfl (lv_at hl 0 rfl) ?_
  refine lv_sipush (v := 700) hx hb dX7_init_5 (by decide) ?_
  refine rn_newa S hK hP hD hS hA (ty := .int) 1 rfl (lwg_at 114 (by decide +kernel)) rfl (a0 := (700, .inl (fun _ => 0))) 700 rfl (by decide) (fun _ => rfl) (by decide) (Nat.le_of_ble_eq_true rfl) (Nat.le_of_ble_eq_true rfl) dX7_init_8 (fun q1 H hP hD hS => ?_)
  have hP : va_P (eD E) vwCl ((a, .inr (6, [.int 0, .null, .int 0, .int 0, .int 0, .int 0, .int 0, .int 0, .null, .null, .null, .int 0, .int 0, .int 0, .int 0, .null, .null, .int 0, .int 0, .int 0])) :: ([(q1, .inl (eT E 1, 700, .inl (fun _ => 0)))] : va_W) : va_W) H := hP
  have hD : va_D (va_A [(a, .inr (6, [.int 0, .null, .int 0, .int 0, .int 0, .int 0, .int 0, .int 0, .null, .null, .null, .int 0, .int 0, .int 0, .int 0, .null, .null, .int 0, .int 0, .int 0]))] sz) ((a, .inr (6, [.int 0, .null, .int 0, .int 0, .int 0, .int 0, .int 0, .int 0, .null, .null, .null, .int 0, .int 0, .int 0, .int 0, .null, .null, .int 0, .int 0, .int 0])) :: ([(q1, .inl (eT E 1, 700, .inl (fun _ => 0)))] : va_W) : va_W) := hD
  refine rn_put S hK hP hD hS fk_X7_9 tyX7_ok nmX7 (ty := .array .int) (v := .ref q1) (by decide +kernel) rfl rfl (Nat.le_of_ble_eq_true rfl) (Or.inr ⟨rfl, hnm, rfl⟩) dX7_init_10 (fun H locs hP hD hS => ?_)
  have hP : va_P (eD E) vwCl ((a, .inr (6, [.int 0, .ref q1, .int 0, .int 0, .int 0, .int 0, .int 0, .int 0, .null, .null, .null, .int 0, .int 0, .int 0, .int 0, .null, .null, .int 0, .int 0, .int 0])) :: ([(q1, .inl (eT E 1, 700, .inl (fun _ => 0)))] : va_W) : va_W) H := hP
  have hD : va_D (va_A [(a, .inr (6, [.int 0, .null, .int 0, .int 0, .int 0, .int 0, .int 0, .int 0, .null, .null, .null, .int 0, .int 0, .int 0, .int 0, .null, .null, .int 0, .int 0, .int 0]))] sz) ((a, .inr (6, [.int 0, .ref q1, .int 0, .int 0, .int 0, .int 0, .int 0, .int 0, .null, .null, .null, .int 0, .int 0, .int 0, .int 0, .null, .null, .int 0, .int 0, .int 0])) :: ([(q1, .inl (eT E 1, 700, .inl (fun _ => 0)))] : va_W) : va_W) := hD
  refine lv_aload_n hx hb dX7_init_13 rfl (lv_at hl 0 rfl) ?_
  refine lv_iconst (v := (-1)) hx hb dX7_init_14 (by decide) ?_
  refine rn_put S hK hP hD hS fk_X7_13 tyX7_ok nmX7 (ty := .int) (v := .int (-1)) (by decide +kernel) rfl rfl (Nat.le_of_ble_eq_true rfl) (Or.inl rfl) dX7_init_15 (fun H locs hP hD hS => ?_)
  have hP : va_P (eD E) vwCl ((a, .inr (6, [.int 0, .ref q1, .int 0, .int 0, .int 0, .int 0, .int 0, .int (-1), .null, .null, .null, .int 0, .int 0, .int 0, .int 0, .null, .null, .int 0, .int 0, .int 0])) :: ([(q1, .inl (eT E 1, 700, .inl (fun _ => 0)))] : va_W) : va_W) H := hP
  have hD : va_D (va_A [(a, .inr (6, [.int 0, .null, .int 0, .int 0, .int 0, .int 0, .int 0, .int 0, .null, .null, .null, .int 0, .int 0, .int 0, .int 0, .null, .null, .int 0, .int 0, .int 0]))] sz) ((a, .inr (6, [.int 0, .ref q1, .int 0, .int 0, .int 0, .int 0, .int 0, .int (-1), .null, .null, .null, .int 0, .int 0, .int 0, .int 0, .null, .null, .int 0, .int 0, .int 0])) :: ([(q1, .inl (eT E 1, 700, .inl (fun _ => 0)))] : va_W) : va_W) := hD
  refine lv_aload_n hx hb dX7_init_18 rfl (lv_at hl 0 rfl) ?_
  refine lv_sipush (v := 1282) hx hb dX7_init_19 (by decide) ?_
  refine rn_newa S hK hP hD hS hA (ty := .int) 1 rfl (lwg_at 114 (by decide +kernel)) rfl (a0 := (1282, .inl (fun _ => 0))) 1282 rfl (by decide) (fun _ => rfl) (by decide) (Nat.le_of_ble_eq_true rfl) (Nat.le_of_ble_eq_true rfl) dX7_init_22 (fun q2 H hP hD hS => ?_)
  have hP : va_P (eD E) vwCl ((a, .inr (6, [.int 0, .ref q1, .int 0, .int 0, .int 0, .int 0, .int 0, .int (-1), .null, .null, .null, .int 0, .int 0, .int 0, .int 0, .null, .null, .int 0, .int 0, .int 0])) :: (([(q1, .inl (eT E 1, 700, .inl (fun _ => 0)))] : va_W) ++ ([(q2, .inl (eT E 1, 1282, .inl (fun _ => 0)))] : va_W)) : va_W) H := hP
  have hD : va_D (va_A [(a, .inr (6, [.int 0, .null, .int 0, .int 0, .int 0, .int 0, .int 0, .int 0, .null, .null, .null, .int 0, .int 0, .int 0, .int 0, .null, .null, .int 0, .int 0, .int 0]))] sz) ((a, .inr (6, [.int 0, .ref q1, .int 0, .int 0, .int 0, .int 0, .int 0, .int (-1), .null, .null, .null, .int 0, .int 0, .int 0, .int 0, .null, .null, .int 0, .int 0, .int 0])) :: (([(q1, .inl (eT E 1, 700, .inl (fun _ => 0)))] : va_W) ++ ([(q2, .inl (eT E 1, 1282, .inl (fun _ => 0)))] : va_W)) : va_W) := hD
  refine rn_put S hK hP hD hS fk_X7_17 tyX7_ok nmX7 (ty := .array .int) (v := .ref q2) (by decide +kernel) rfl rfl (Nat.le_of_ble_eq_true rfl) (Or.inr ⟨rfl, hnm, rfl⟩) dX7_init_24 (fun H locs hP hD hS => ?_)
  have hP : va_P (eD E) vwCl ((a, .inr (6, [.int 0, .ref q1, .int 0, .int 0, .int 0, .int 0, .int 0, .int (-1), .ref q2, .null, .null, .int 0, .int 0, .int 0, .int 0, .null, .null, .int 0, .int 0, .int 0])) :: (([(q1, .inl (eT E 1, 700, .inl (fun _ => 0)))] : va_W) ++ ([(q2, .inl (eT E 1, 1282, .inl (fun _ => 0)))] : va_W)) : va_W) H := hP
  have hD : va_D (va_A [(a, .inr (6, [.int 0, .null, .int 0, .int 0, .int 0, .int 0, .int 0, .int 0, .null, .null, .null, .int 0, .int 0, .int 0, .int 0, .null, .null, .int 0, .int 0, .int 0]))] sz) ((a, .inr (6, [.int 0, .ref q1, .int 0, .int 0, .int 0, .int 0, .int 0, .int (-1), .ref q2, .null, .null, .int 0, .int 0, .int 0, .int 0, .null, .null, .int 0, .int 0, .int 0])) :: (([(q1, .inl (eT E 1, 700, .inl (fun _ => 0)))] : va_W) ++ ([(q2, .inl (eT E 1, 1282, .inl (fun _ => 0)))] : va_W)) : va_W) := hD
  refine lv_aload_n hx hb dX7_init_27 rfl (lv_at hl 0 rfl) ?_
  refine lv_sipush (v := 1282) hx hb dX7_init_28 (by decide) ?_
  refine rn_newa S hK hP hD hS hA (ty := .int) 1 rfl (lwg_at 114 (by decide +kernel)) rfl (a0 := (1282, .inl (fun _ => 0))) 1282 rfl (by decide) (fun _ => rfl) (by decide) (Nat.le_of_ble_eq_true rfl) (Nat.le_of_ble_eq_true rfl) dX7_init_31 (fun q3 H hP hD hS => ?_)
  have hP : va_P (eD E) vwCl ((a, .inr (6, [.int 0, .ref q1, .int 0, .int 0, .int 0, .int 0, .int 0, .int (-1), .ref q2, .null, .null, .int 0, .int 0, .int 0, .int 0, .null, .null, .int 0, .int 0, .int 0])) :: ((([(q1, .inl (eT E 1, 700, .inl (fun _ => 0)))] : va_W) ++ ([(q2, .inl (eT E 1, 1282, .inl (fun _ => 0)))] : va_W)) ++ ([(q3, .inl (eT E 1, 1282, .inl (fun _ => 0)))] : va_W)) : va_W) H := hP
  have hD : va_D (va_A [(a, .inr (6, [.int 0, .null, .int 0, .int 0, .int 0, .int 0, .int 0, .int 0, .null, .null, .null, .int 0, .int 0, .int 0, .int 0, .null, .null, .int 0, .int 0, .int 0]))] sz) ((a, .inr (6, [.int 0, .ref q1, .int 0, .int 0, .int 0, .int 0, .int 0, .int (-1), .ref q2, .null, .null, .int 0, .int 0, .int 0, .int 0, .null, .null, .int 0, .int 0, .int 0])) :: ((([(q1, .inl (eT E 1, 700, .inl (fun _ => 0)))] : va_W) ++ ([(q2, .inl (eT E 1, 1282, .inl (fun _ => 0)))] : va_W)) ++ ([(q3, .inl (eT E 1, 1282, .inl (fun _ => 0)))] : va_W)) : va_W) := hD
  refine rn_put S hK hP hD hS fk_X7_20 tyX7_ok nmX7 (ty := .array .int) (v := .ref q3) (by decide +kernel) rfl rfl (Nat.le_of_ble_eq_true rfl) (Or.inr ⟨rfl, hnm, rfl⟩) dX7_init_33 (fun H locs hP hD hS => ?_)
  have hP : va_P (eD E) vwCl ((a, .inr (6, [.int 0, .ref q1, .int 0, .int 0, .int 0, .int 0, .int 0, .int (-1), .ref q2, .ref q3, .null, .int 0, .int 0, .int 0, .int 0, .null, .null, .int 0, .int 0, .int 0])) :: ((([(q1, .inl (eT E 1, 700, .inl (fun _ => 0)))] : va_W) ++ ([(q2, .inl (eT E 1, 1282, .inl (fun _ => 0)))] : va_W)) ++ ([(q3, .inl (eT E 1, 1282, .inl (fun _ => 0)))] : va_W)) : va_W) H := hP
  have hD : va_D (va_A [(a, .inr (6, [.int 0, .null, .int 0, .int 0, .int 0, .int 0, .int 0, .int 0, .null, .null, .null, .int 0, .int 0, .int 0, .int 0, .null, .null, .int 0, .int 0, .int 0]))] sz) ((a, .inr (6, [.int 0, .ref q1, .int 0, .int 0, .int 0, .int 0, .int 0, .int (-1), .ref q2, .ref q3, .null, .int 0, .int 0, .int 0, .int 0, .null, .null, .int 0, .int 0, .int 0])) :: ((([(q1, .inl (eT E 1, 700, .inl (fun _ => 0)))] : va_W) ++ ([(q2, .inl (eT E 1, 1282, .inl (fun _ => 0)))] : va_W)) ++ ([(q3, .inl (eT E 1, 1282, .inl (fun _ => 0)))] : va_W)) : va_W) := hD
  refine lv_aload_n hx hb dX7_init_36 rfl (lv_at hl 0 rfl) ?_
  refine lv_bipush (v := 8) hx hb dX7_init_37 (by decide) ?_
  refine lv_sipush (v := 1282) hx hb dX7_init_39 (by decide) ?_
  refine rn_mna S hK hR hP hD hS hA (lwg_at 898 (by decide +kernel)) (lwg_at 114 (by decide +kernel)) 8 1282 rfl rfl (by decide) (by decide) (Nat.le_of_ble_eq_true rfl) (Nat.le_of_ble_eq_true rfl) dX7_init_42 (fun q4 rq4 H hP hD hS => ?_)
  have hP : va_P (eD E) vwCl ((a, .inr (6, [.int 0, .ref q1, .int 0, .int 0, .int 0, .int 0, .int 0, .int (-1), .ref q2, .ref q3, .null, .int 0, .int 0, .int 0, .int 0, .null, .null, .int 0, .int 0, .int 0])) :: (((([(q1, .inl (eT E 1, 700, .inl (fun _ => 0)))] : va_W) ++ ([(q2, .inl (eT E 1, 1282, .inl (fun _ => 0)))] : va_W)) ++ ([(q3, .inl (eT E 1, 1282, .inl (fun _ => 0)))] : va_W)) ++ (((q4, .inl (eT E 5, 8, .inr (.inr (.inr (.inr (fun i => if i < 8 then some (rq4 i) else none)))))) :: (List.range 8).map (fun i => (rq4 i, .inl (eT E 1, 1282, .inl (fun _ => 0))))) : va_W)) : va_W) H := hP
  have hD : va_D (va_A [(a, .inr (6, [.int 0, .null, .int 0, .int 0, .int 0, .int 0, .int 0, .int 0, .null, .null, .null, .int 0, .int 0, .int 0, .int 0, .null, .null, .int 0, .int 0, .int 0]))] sz) ((a, .inr (6, [.int 0, .ref q1, .int 0, .int 0, .int 0, .int 0, .int 0, .int (-1), .ref q2, .ref q3, .null, .int 0, .int 0, .int 0, .int 0, .null, .null, .int 0, .int 0, .int 0])) :: (((([(q1, .inl (eT E 1, 700, .inl (fun _ => 0)))] : va_W) ++ ([(q2, .inl (eT E 1, 1282, .inl (fun _ => 0)))] : va_W)) ++ ([(q3, .inl (eT E 1, 1282, .inl (fun _ => 0)))] : va_W)) ++ (((q4, .inl (eT E 5, 8, .inr (.inr (.inr (.inr (fun i => if i < 8 then some (rq4 i) else none)))))) :: (List.range 8).map (fun i => (rq4 i, .inl (eT E 1, 1282, .inl (fun _ => 0))))) : va_W)) : va_W) := hD
  refine rn_put S hK hP hD hS fk_X7_25 tyX7_ok nmX7 (ty := .array (.array .int)) (v := .ref q4) (by decide +kernel) rfl rfl (Nat.le_of_ble_eq_true rfl) (Or.inr ⟨rfl, hnm, rfl⟩) dX7_init_46 (fun H locs hP hD hS => ?_)
  have hP : va_P (eD E) vwCl ((a, .inr (6, [.int 0, .ref q1, .int 0, .int 0, .int 0, .int 0, .int 0, .int (-1), .ref q2, .ref q3, .ref q4, .int 0, .int 0, .int 0, .int 0, .null, .null, .int 0, .int 0, .int 0])) :: (((([(q1, .inl (eT E 1, 700, .inl (fun _ => 0)))] : va_W) ++ ([(q2, .inl (eT E 1, 1282, .inl (fun _ => 0)))] : va_W)) ++ ([(q3, .inl (eT E 1, 1282, .inl (fun _ => 0)))] : va_W)) ++ (((q4, .inl (eT E 5, 8, .inr (.inr (.inr (.inr (fun i => if i < 8 then some (rq4 i) else none)))))) :: (List.range 8).map (fun i => (rq4 i, .inl (eT E 1, 1282, .inl (fun _ => 0))))) : va_W)) : va_W) H := hP
  have hD : va_D (va_A [(a, .inr (6, [.int 0, .null, .int 0, .int 0, .int 0, .int 0, .int 0, .int 0, .null, .null, .null, .int 0, .int 0, .int 0, .int 0, .null, .null, .int 0, .int 0, .int 0]))] sz) ((a, .inr (6, [.int 0, .ref q1, .int 0, .int 0, .int 0, .int 0, .int 0, .int (-1), .ref q2, .ref q3, .ref q4, .int 0, .int 0, .int 0, .int 0, .null, .null, .int 0, .int 0, .int 0])) :: (((([(q1, .inl (eT E 1, 700, .inl (fun _ => 0)))] : va_W) ++ ([(q2, .inl (eT E 1, 1282, .inl (fun _ => 0)))] : va_W)) ++ ([(q3, .inl (eT E 1, 1282, .inl (fun _ => 0)))] : va_W)) ++ (((q4, .inl (eT E 5, 8, .inr (.inr (.inr (.inr (fun i => if i < 8 then some (rq4 i) else none)))))) :: (List.range 8).map (fun i => (rq4 i, .inl (eT E 1, 1282, .inl (fun _ => 0))))) : va_W)) : va_W) := hD
  refine lv_aload_n hx hb dX7_init_49 rfl (lv_at hl 0 rfl) ?_
  refine lv_sipush (v := 1200) hx hb dX7_init_50 (by decide) ?_
  refine rn_newa S hK hP hD hS hA (ty := .long) 2 rfl (lwg_at 960 (by decide +kernel)) rfl (a0 := (1200, .inr (.inl (fun _ => 0)))) 1200 rfl (by decide) (fun _ => rfl) (by decide) (Nat.le_of_ble_eq_true rfl) (Nat.le_of_ble_eq_true rfl) dX7_init_53 (fun q5 H hP hD hS => ?_)
  have hP : va_P (eD E) vwCl ((a, .inr (6, [.int 0, .ref q1, .int 0, .int 0, .int 0, .int 0, .int 0, .int (-1), .ref q2, .ref q3, .ref q4, .int 0, .int 0, .int 0, .int 0, .null, .null, .int 0, .int 0, .int 0])) :: ((((([(q1, .inl (eT E 1, 700, .inl (fun _ => 0)))] : va_W) ++ ([(q2, .inl (eT E 1, 1282, .inl (fun _ => 0)))] : va_W)) ++ ([(q3, .inl (eT E 1, 1282, .inl (fun _ => 0)))] : va_W)) ++ (((q4, .inl (eT E 5, 8, .inr (.inr (.inr (.inr (fun i => if i < 8 then some (rq4 i) else none)))))) :: (List.range 8).map (fun i => (rq4 i, .inl (eT E 1, 1282, .inl (fun _ => 0))))) : va_W)) ++ ([(q5, .inl (eT E 2, 1200, .inr (.inl (fun _ => 0))))] : va_W)) : va_W) H := hP
  have hD : va_D (va_A [(a, .inr (6, [.int 0, .null, .int 0, .int 0, .int 0, .int 0, .int 0, .int 0, .null, .null, .null, .int 0, .int 0, .int 0, .int 0, .null, .null, .int 0, .int 0, .int 0]))] sz) ((a, .inr (6, [.int 0, .ref q1, .int 0, .int 0, .int 0, .int 0, .int 0, .int (-1), .ref q2, .ref q3, .ref q4, .int 0, .int 0, .int 0, .int 0, .null, .null, .int 0, .int 0, .int 0])) :: ((((([(q1, .inl (eT E 1, 700, .inl (fun _ => 0)))] : va_W) ++ ([(q2, .inl (eT E 1, 1282, .inl (fun _ => 0)))] : va_W)) ++ ([(q3, .inl (eT E 1, 1282, .inl (fun _ => 0)))] : va_W)) ++ (((q4, .inl (eT E 5, 8, .inr (.inr (.inr (.inr (fun i => if i < 8 then some (rq4 i) else none)))))) :: (List.range 8).map (fun i => (rq4 i, .inl (eT E 1, 1282, .inl (fun _ => 0))))) : va_W)) ++ ([(q5, .inl (eT E 2, 1200, .inr (.inl (fun _ => 0))))] : va_W)) : va_W) := hD
  refine rn_put S hK hP hD hS fk_X7_28 tyX7_ok nmX7 (ty := .array .long) (v := .ref q5) (by decide +kernel) rfl rfl (Nat.le_of_ble_eq_true rfl) (Or.inr ⟨rfl, hnm, rfl⟩) dX7_init_55 (fun H locs hP hD hS => ?_)
  have hP : va_P (eD E) vwCl ((a, .inr (6, [.int 0, .ref q1, .int 0, .int 0, .int 0, .int 0, .int 0, .int (-1), .ref q2, .ref q3, .ref q4, .int 0, .int 0, .int 0, .int 0, .ref q5, .null, .int 0, .int 0, .int 0])) :: ((((([(q1, .inl (eT E 1, 700, .inl (fun _ => 0)))] : va_W) ++ ([(q2, .inl (eT E 1, 1282, .inl (fun _ => 0)))] : va_W)) ++ ([(q3, .inl (eT E 1, 1282, .inl (fun _ => 0)))] : va_W)) ++ (((q4, .inl (eT E 5, 8, .inr (.inr (.inr (.inr (fun i => if i < 8 then some (rq4 i) else none)))))) :: (List.range 8).map (fun i => (rq4 i, .inl (eT E 1, 1282, .inl (fun _ => 0))))) : va_W)) ++ ([(q5, .inl (eT E 2, 1200, .inr (.inl (fun _ => 0))))] : va_W)) : va_W) H := hP
  have hD : va_D (va_A [(a, .inr (6, [.int 0, .null, .int 0, .int 0, .int 0, .int 0, .int 0, .int 0, .null, .null, .null, .int 0, .int 0, .int 0, .int 0, .null, .null, .int 0, .int 0, .int 0]))] sz) ((a, .inr (6, [.int 0, .ref q1, .int 0, .int 0, .int 0, .int 0, .int 0, .int (-1), .ref q2, .ref q3, .ref q4, .int 0, .int 0, .int 0, .int 0, .ref q5, .null, .int 0, .int 0, .int 0])) :: ((((([(q1, .inl (eT E 1, 700, .inl (fun _ => 0)))] : va_W) ++ ([(q2, .inl (eT E 1, 1282, .inl (fun _ => 0)))] : va_W)) ++ ([(q3, .inl (eT E 1, 1282, .inl (fun _ => 0)))] : va_W)) ++ (((q4, .inl (eT E 5, 8, .inr (.inr (.inr (.inr (fun i => if i < 8 then some (rq4 i) else none)))))) :: (List.range 8).map (fun i => (rq4 i, .inl (eT E 1, 1282, .inl (fun _ => 0))))) : va_W)) ++ ([(q5, .inl (eT E 2, 1200, .inr (.inl (fun _ => 0))))] : va_W)) : va_W) := hD
  refine lv_aload_n hx hb dX7_init_58 rfl (lv_at hl 0 rfl) ?_
  refine lv_bipush (v := 24) hx hb dX7_init_59 (by decide) ?_
  refine rn_newa S hK hP hD hS hA (ty := .int) 1 rfl (lwg_at 114 (by decide +kernel)) rfl (a0 := (24, .inl (fun _ => 0))) 24 rfl (by decide) (fun _ => rfl) (by decide) (Nat.le_of_ble_eq_true rfl) (Nat.le_of_ble_eq_true rfl) dX7_init_61 (fun q6 H hP hD hS => ?_)
  have hP : va_P (eD E) vwCl ((a, .inr (6, [.int 0, .ref q1, .int 0, .int 0, .int 0, .int 0, .int 0, .int (-1), .ref q2, .ref q3, .ref q4, .int 0, .int 0, .int 0, .int 0, .ref q5, .null, .int 0, .int 0, .int 0])) :: (((((([(q1, .inl (eT E 1, 700, .inl (fun _ => 0)))] : va_W) ++ ([(q2, .inl (eT E 1, 1282, .inl (fun _ => 0)))] : va_W)) ++ ([(q3, .inl (eT E 1, 1282, .inl (fun _ => 0)))] : va_W)) ++ (((q4, .inl (eT E 5, 8, .inr (.inr (.inr (.inr (fun i => if i < 8 then some (rq4 i) else none)))))) :: (List.range 8).map (fun i => (rq4 i, .inl (eT E 1, 1282, .inl (fun _ => 0))))) : va_W)) ++ ([(q5, .inl (eT E 2, 1200, .inr (.inl (fun _ => 0))))] : va_W)) ++ ([(q6, .inl (eT E 1, 24, .inl (fun _ => 0)))] : va_W)) : va_W) H := hP
  have hD : va_D (va_A [(a, .inr (6, [.int 0, .null, .int 0, .int 0, .int 0, .int 0, .int 0, .int 0, .null, .null, .null, .int 0, .int 0, .int 0, .int 0, .null, .null, .int 0, .int 0, .int 0]))] sz) ((a, .inr (6, [.int 0, .ref q1, .int 0, .int 0, .int 0, .int 0, .int 0, .int (-1), .ref q2, .ref q3, .ref q4, .int 0, .int 0, .int 0, .int 0, .ref q5, .null, .int 0, .int 0, .int 0])) :: (((((([(q1, .inl (eT E 1, 700, .inl (fun _ => 0)))] : va_W) ++ ([(q2, .inl (eT E 1, 1282, .inl (fun _ => 0)))] : va_W)) ++ ([(q3, .inl (eT E 1, 1282, .inl (fun _ => 0)))] : va_W)) ++ (((q4, .inl (eT E 5, 8, .inr (.inr (.inr (.inr (fun i => if i < 8 then some (rq4 i) else none)))))) :: (List.range 8).map (fun i => (rq4 i, .inl (eT E 1, 1282, .inl (fun _ => 0))))) : va_W)) ++ ([(q5, .inl (eT E 2, 1200, .inr (.inl (fun _ => 0))))] : va_W)) ++ ([(q6, .inl (eT E 1, 24, .inl (fun _ => 0)))] : va_W)) : va_W) := hD
  refine rn_put S hK hP hD hS fk_X7_32 tyX7_ok nmX7 (ty := .array .int) (v := .ref q6) (by decide +kernel) rfl rfl (Nat.le_of_ble_eq_true rfl) (Or.inr ⟨rfl, hnm, rfl⟩) dX7_init_63 (fun H locs hP hD hS => ?_)
  have hP : va_P (eD E) vwCl ((a, .inr (6, [.int 0, .ref q1, .int 0, .int 0, .int 0, .int 0, .int 0, .int (-1), .ref q2, .ref q3, .ref q4, .int 0, .int 0, .int 0, .int 0, .ref q5, .ref q6, .int 0, .int 0, .int 0])) :: (((((([(q1, .inl (eT E 1, 700, .inl (fun _ => 0)))] : va_W) ++ ([(q2, .inl (eT E 1, 1282, .inl (fun _ => 0)))] : va_W)) ++ ([(q3, .inl (eT E 1, 1282, .inl (fun _ => 0)))] : va_W)) ++ (((q4, .inl (eT E 5, 8, .inr (.inr (.inr (.inr (fun i => if i < 8 then some (rq4 i) else none)))))) :: (List.range 8).map (fun i => (rq4 i, .inl (eT E 1, 1282, .inl (fun _ => 0))))) : va_W)) ++ ([(q5, .inl (eT E 2, 1200, .inr (.inl (fun _ => 0))))] : va_W)) ++ ([(q6, .inl (eT E 1, 24, .inl (fun _ => 0)))] : va_W)) : va_W) H := hP
  have hD : va_D (va_A [(a, .inr (6, [.int 0, .null, .int 0, .int 0, .int 0, .int 0, .int 0, .int 0, .null, .null, .null, .int 0, .int 0, .int 0, .int 0, .null, .null, .int 0, .int 0, .int 0]))] sz) ((a, .inr (6, [.int 0, .ref q1, .int 0, .int 0, .int 0, .int 0, .int 0, .int (-1), .ref q2, .ref q3, .ref q4, .int 0, .int 0, .int 0, .int 0, .ref q5, .ref q6, .int 0, .int 0, .int 0])) :: (((((([(q1, .inl (eT E 1, 700, .inl (fun _ => 0)))] : va_W) ++ ([(q2, .inl (eT E 1, 1282, .inl (fun _ => 0)))] : va_W)) ++ ([(q3, .inl (eT E 1, 1282, .inl (fun _ => 0)))] : va_W)) ++ (((q4, .inl (eT E 5, 8, .inr (.inr (.inr (.inr (fun i => if i < 8 then some (rq4 i) else none)))))) :: (List.range 8).map (fun i => (rq4 i, .inl (eT E 1, 1282, .inl (fun _ => 0))))) : va_W)) ++ ([(q5, .inl (eT E 2, 1200, .inr (.inl (fun _ => 0))))] : va_W)) ++ ([(q6, .inl (eT E 1, 24, .inl (fun _ => 0)))] : va_W)) : va_W) := hD
  exact re_in hx hb hr hlk hP hD hS ⟨q1, q2, q3, q4, q5, q6, rq4, rfl⟩ (Nat.le_of_ble_eq_true rfl) (Nat.le_of_ble_eq_true rfl) dX7_init_66
