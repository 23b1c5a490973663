theorem li_X6_15 : LkI RX6 15 yX4_init cX4_init 2 1 := ⟨lwg_at 83 (by decide +kernel), lwg_at 81 (by decide +kernel), lwg_at 82 (by decide +kernel), lwg_at 51 (by decide +kernel), by decide +kernel, rfl⟩
theorem li_X6_34 : LkI RX6 34 yX3_init cX3_init 2 0 := ⟨lwg_at 194 (by decide +kernel), lwg_at 192 (by decide +kernel), lwg_at 193 (by decide +kernel), lwg_at 55 (by decide +kernel), by decide +kernel, rfl⟩
theorem li_X4_21 : LkI RX4 21 yX5_init cX5_init 2 1 := ⟨lwg_at 89 (by decide +kernel), lwg_at 87 (by decide +kernel), lwg_at 88 (by decide +kernel), lwg_at 52 (by decide +kernel), by decide +kernel, rfl⟩
theorem li_X4_30 : LkI RX4 30 yX2_init cX2_init 2 1 := ⟨lwg_at 119 (by decide +kernel), lwg_at 117 (by decide +kernel), lwg_at 118 (by decide +kernel), lwg_at 53 (by decide +kernel), by decide +kernel, rfl⟩
theorem li_L_77 : LkI RL 77 yX6_init cX6_init 1 0 := ⟨lwg_at 75 (by decide +kernel), lwg_at 73 (by decide +kernel), lwg_at 74 (by decide +kernel), lwg_at 50 (by decide +kernel), by decide +kernel, rfl⟩
theorem li_L_80 : LkI RL 80 yX7_init cX7_init 1 0 := ⟨lwg_at 896 (by decide +kernel), lwg_at 894 (by decide +kernel), lwg_at 895 (by decide +kernel), lwg_at 56 (by decide +kernel), by decide +kernel, rfl⟩
theorem li_X1 : LkIN yX1_init cX1_init 1 0 := ⟨lwg_at 151 (by decide +kernel), lwg_at 150 (by decide +kernel), lwg_at 54 (by decide +kernel), by decide +kernel, rfl⟩
theorem lo_X1 : Cond.methodLink RX1 3 Lib.objectInit ∈ lwg := lwg_at 152 (by decide +kernel)
theorem lo_X2 : Cond.methodLink RX2 3 Lib.objectInit ∈ lwg := lwg_at 120 (by decide +kernel)
theorem lo_X3 : Cond.methodLink RX3 3 Lib.objectInit ∈ lwg := lwg_at 195 (by decide +kernel)
theorem lo_X4 : Cond.methodLink RX4 3 Lib.objectInit ∈ lwg := lwg_at 84 (by decide +kernel)
theorem lo_X5 : Cond.methodLink RX5 3 Lib.objectInit ∈ lwg := lwg_at 90 (by decide +kernel)
theorem lo_X6 : Cond.methodLink RX6 3 Lib.objectInit ∈ lwg := lwg_at 76 (by decide +kernel)
theorem lo_X7 : Cond.methodLink RX7 3 Lib.objectInit ∈ lwg := lwg_at 897 (by decide +kernel)
theorem lo_i : Cond.instanceMethod Lib.objectInit ∈ lwg := lwg_at 77 (by decide +kernel)
theorem lo_c : Cond.code Lib.objectInit ⟨#[0xb1]⟩ 1 none ∈ lwg := lwg_at 78 (by decide +kernel)
/-- the contents of a new design at the addresses g 0 .. g 10 -/
def dCt (E : En) (g : Nat → Nat) : Nat → va_E := fun k => match k with
  | 0 => .inr (0, [.int 0, .ref (g 1), .ref (g 4), .int 0, .ref (g 5), .ref (g 6), .ref (g 7), .ref (g 8)])
  | 1 => .inl (eT E 5, 2, .inr (.inr (.inr (.inr (fun i => if i < 2 then some (g (2 + i)) else none)))))
  | 2 => .inl (eT E 1, 10, .inl (fun _ => 0))
  | 3 => .inl (eT E 1, 10, .inl (fun _ => 0))
  | 4 => .inl (eT E 3, 10, .inl (fun _ => 0))
  | 8 => .inl (eT E 5, 2, .inr (.inr (.inr (.inr (fun i => if i < 2 then some (g (9 + i)) else none)))))
  | _ => .inl (eT E 1, 12, .inl (fun _ => 0))
def dWl (E : En) (g : Nat → Nat) : va_W := fw 11 g (dCt E g)
set_option maxHeartbeats 4000000 in
set_option maxRecDepth 100000 in
theorem c_X5_init (l : Launch) (E : En) (a b sz : Nat) : Met l yX5_init (wz yX5_init cX5_init 2 none) (rmk 1 0 0 20) (va_Pc [.ref a, .ref b] (Bn E [(a, .inr (4, [.null, .int 0, .int 0, .int 0, .int 0, .int 0, .int 0]))] sz)) (qIn E [(a, .inr (4, [.null, .int 0, .int 0, .int 0, .int 0, .int 0, .int 0]))] sz (fun w => w = [(a, .inr (4, [.ref b, .int 0, .int 0, .int 0, .int 0, .int 0, .int 0]))])) 0 0 (va_A [(a, .inr (4, [.null, .int 0, .int 0, .int 0, .int 0, .int 0, .int 0]))] sz) := by
  refine en_ofW RX5 rfl (by decide +kernel) (Nat.le_of_ble_eq_true rfl) ?_
  intro p e s m below meth c ls S hr hlk hnm hl hB
  have hx := S.1
  have hb := S.2.1
  obtain ⟨hsz, hK, hC, hR, hP, hD, hA, hAL, hL⟩ := bn_of hB
  have hS : va_S (va_A [(a, .inr (4, [.null, .int 0, .int 0, .int 0, .int 0, .int 0, .int 0]))] sz) s.heap s.heap [] := va_S.rf
  have hl : lv_has ls 2 [(0, .ref a), (1, .ref b)] := hl
  refine lv_aload_n hx hb dX5_init_0 rfl (lv_at hl 0 rfl) ?_
  refine rn_obj S lo_X5 lo_i lo_c hl.1 (Nat.le_of_ble_eq_true rfl) (Nat.le_of_ble_eq_true rfl) (Nat.le_of_ble_eq_true rfl) dX5_init_1 ?_
  refine lv_aload_n hx hb dX5_init_4 rfl (lv_at hl 0 rfl) ?_
  refine lv_iconst (v := 0) hx hb dX5_init_5 (by decide) ?_
  refine rn_put S hK hP hD hS fk_X5_9 tyX5_ok nmX5 (ty := .int) (v := .int 0) (by decide +kernel) rfl rfl (Nat.le_of_ble_eq_true rfl) (Or.inl rfl) dX5_init_6 (fun H locs hP hD hS => ?_)
  have hP : va_P (eD E) vwCl ((a, .inr (4, [.null, .int 0, .int 0, .int 0, .int 0, .int 0, .int 0])) :: [] : va_W) H := hP
  have hD : va_D (va_A [(a, .inr (4, [.null, .int 0, .int 0, .int 0, .int 0, .int 0, .int 0]))] sz) ((a, .inr (4, [.null, .int 0, .int 0, .int 0, .int 0, .int 0, .int 0])) :: [] : va_W) := hD
  refine lv_aload_n hx hb dX5_init_9 rfl (lv_at hl 0 rfl) ?_
  refine lv_iconst (v := 0) hx hb dX5_init_10 (by decide) ?_
  refine rn_put S hK hP hD hS fk_X5_15 tyX5_ok nmX5 (ty := .int) (v := .int 0) (by decide +kernel) rfl rfl (Nat.le_of_ble_eq_true rfl) (Or.inl rfl) dX5_init_11 (fun H locs hP hD hS => ?_)
  have hP : va_P (eD E) vwCl ((a, .inr (4, [.null, .int 0, .int 0, .int 0, .int 0, .int 0, .int 0])) :: [] : va_W) H := hP
  have hD : va_D (va_A [(a, .inr (4, [.null, .int 0, .int 0, .int 0, .int 0, .int 0, .int 0]))] sz) ((a, .inr (4, [.null, .int 0, .int 0, .int 0, .int 0, .int 0, .int 0])) :: [] : va_W) := hD
  refine lv_aload_n hx hb dX5_init_14 rfl (lv_at hl 0 rfl) ?_
  refine lv_iconst (v := 0) hx hb dX5_init_15 (by decide) ?_
  refine rn_put S hK hP hD hS fk_X5_18 tyX5_ok nmX5 (ty := .int) (v := .int 0) (by decide +kernel) rfl rfl (Nat.le_of_ble_eq_true rfl) (Or.inl rfl) dX5_init_16 (fun H locs hP hD hS => ?_)
  have hP : va_P (eD E) vwCl ((a, .inr (4, [.null, .int 0, .int 0, .int 0, .int 0, .int 0, .int 0])) :: [] : va_W) H := hP
  have hD : va_D (va_A [(a, .inr (4, [.null, .int 0, .int 0, .int 0, .int 0, .int 0, .int 0]))] sz) ((a, .inr (4, [.null, .int 0, .int 0, .int 0, .int 0, .int 0, .int 0])) :: [] : va_W) := hD
  refine lv_aload_n hx hb dX5_init_19 rfl (lv_at hl 0 rfl) ?_
  refine lv_iconst (v := 0) hx hb dX5_init_20 (by decide) ?_
  refine rn_put S hK hP hD hS fk_X5_21 tyX5_ok nmX5 (ty := .int) (v := .int 0) (by decide +kernel) rfl rfl (Nat.le_of_ble_eq_true rfl) (Or.inl rfl) dX5_init_21 (fun H locs hP hD hS => ?_)
  have hP : va_P (eD E) vwCl ((a, .inr (4, [.null, .int 0, .int 0, .int 0, .int 0, .int 0, .int 0])) :: [] : va_W) H := hP
  have hD : va_D (va_A [(a, .inr (4, [.null, .int 0, .int 0, .int 0, .int 0, .int 0, .int 0]))] sz) ((a, .inr (4, [.null, .int 0, .int 0, .int 0, .int 0, .int 0, .int 0])) :: [] : va_W) := hD
  refine lv_aload_n hx hb dX5_init_24 rfl (lv_at hl 0 rfl) ?_
  refine lv_iconst (v := 0) hx hb dX5_init_25 (by decide) ?_
  refine rn_put S hK hP hD hS fk_X5_24 tyX5_ok nmX5 (ty := .int) (v := .int 0) (by decide +kernel) rfl rfl (Nat.le_of_ble_eq_true rfl) (Or.inl rfl) dX5_init_26 (fun H locs hP hD hS => ?_)
  have hP : va_P (eD E) vwCl ((a, .inr (4, [.null, .int 0, .int 0, .int 0, .int 0, .int 0, .int 0])) :: [] : va_W) H := hP
  have hD : va_D (va_A [(a, .inr (4, [.null, .int 0, .int 0, .int 0, .int 0, .int 0, .int 0]))] sz) ((a, .inr (4, [.null, .int 0, .int 0, .int 0, .int 0, .int 0, .int 0])) :: [] : va_W) := hD
  refine lv_aload_n hx hb dX5_init_29 rfl (lv_at hl 0 rfl) ?_
  refine lv_iconst (v := 0) hx hb dX5_init_30 (by decide) ?_
  refine rn_put S hK hP hD hS fk_X5_27 tyX5_ok nmX5 (ty := .int) (v := .int 0) (by decide +kernel) rfl rfl (Nat.le_of_ble_eq_true rfl) (Or.inl rfl) dX5_init_31 (fun H locs hP hD hS => ?_)
  have hP : va_P (eD E) vwCl ((a, .inr (4, [.null, .int 0, .int 0, .int 0, .int 0, .int 0, .int 0])) :: [] : va_W) H := hP
  have hD : va_D (va_A [(a, .inr (4, [.null, .int 0, .int 0, .int 0, .int 0, .int 0, .int 0]))] sz) ((a, .inr (4, [.null, .int 0, .int 0, .int 0, .int 0, .int 0, .int 0])) :: [] : va_W) := hD
  refine lv_aload_n hx hb dX5_init_34 rfl (lv_at hl 0 rfl) ?_
  refine lv_aload_n hx hb dX5_init_35 rfl (lv_at hl 1 rfl) ?_
  refine rn_put S hK hP hD hS fk_X5_30 tyX5_ok nmX5 (ty := .array .byte) (v := .ref b) (by decide +kernel) rfl rfl (Nat.le_of_ble_eq_true rfl) (Or.inr ⟨rfl, hnm, rfl⟩) dX5_init_36 (fun H locs hP hD hS => ?_)
  have hP : va_P (eD E) vwCl ((a, .inr (4, [.ref b, .int 0, .int 0, .int 0, .int 0, .int 0, .int 0])) :: [] : va_W) H := hP
  have hD : va_D (va_A [(a, .inr (4, [.null, .int 0, .int 0, .int 0, .int 0, .int 0, .int 0]))] sz) ((a, .inr (4, [.ref b, .int 0, .int 0, .int 0, .int 0, .int 0, .int 0])) :: [] : va_W) := hD
  exact re_in hx hb hr hlk hP hD hS rfl (Nat.le_of_ble_eq_true rfl) (Nat.le_of_ble_eq_true rfl) dX5_init_39
set_option maxHeartbeats 4000000 in
set_option maxRecDepth 100000 in
theorem c_X2_init (l : Launch) (E : En) (a b sz : Nat) : Met l yX2_init (wz yX2_init cX2_init 2 none) (rmk 1 0 0 20) (va_Pc [.ref a, .ref b] (Bn E [(a, .inr (1, [.null, .int 0, .int 0, .int 0]))] sz)) (qIn E [(a, .inr (1, [.null, .int 0, .int 0, .int 0]))] sz (fun w => w = [(a, .inr (1, [.ref b, .int (-1), .int 0, .int 0]))])) 0 0 (va_A [(a, .inr (1, [.null, .int 0, .int 0, .int 0]))] sz) := by
  refine en_ofW RX2 rfl (by decide +kernel) (Nat.le_of_ble_eq_true rfl) ?_
  intro p e s m below meth c ls S hr hlk hnm hl hB
  have hx := S.1
  have hb := S.2.1
  obtain ⟨hsz, hK, hC, hR, hP, hD, hA, hAL, hL⟩ := bn_of hB
  have hS : va_S (va_A [(a, .inr (1, [.null, .int 0, .int 0, .int 0]))] sz) s.heap s.heap [] := va_S.rf
  have hl : lv_has ls 2 [(0, .ref a), (1, .ref b)] := hl
  refine lv_aload_n hx hb dX2_init_0 rfl (lv_at hl 0 rfl) ?_
  refine rn_obj S lo_X2 lo_i lo_c hl.1 (Nat.le_of_ble_eq_true rfl) (Nat.le_of_ble_eq_true rfl) (Nat.le_of_ble_eq_true rfl) dX2_init_1 ?_
  refine lv_aload_n hx hb dX2_init_4 rfl (lv_at hl 0 rfl) ?_
  refine lv_iconst (v := (-1)) hx hb dX2_init_5 (by decide) ?_
  refine rn_put S hK hP hD hS fk_X2_11 tyX2_ok nmX2 (ty := .int) (v := .int (-1)) (by decide +kernel) rfl rfl (Nat.le_of_ble_eq_true rfl) (Or.inl rfl) dX2_init_6 (fun H locs hP hD hS => ?_)
  have hP : va_P (eD E) vwCl ((a, .inr (1, [.null, .int (-1), .int 0, .int 0])) :: [] : va_W) H := hP
  have hD : va_D (va_A [(a, .inr (1, [.null, .int 0, .int 0, .int 0]))] sz) ((a, .inr (1, [.null, .int (-1), .int 0, .int 0])) :: [] : va_W) := hD
  refine lv_aload_n hx hb dX2_init_9 rfl (lv_at hl 0 rfl) ?_
  refine lv_iconst (v := 0) hx hb dX2_init_10 (by decide) ?_
  refine rn_put S hK hP hD hS fk_X2_15 tyX2_ok nmX2 (ty := .int) (v := .int 0) (by decide +kernel) rfl rfl (Nat.le_of_ble_eq_true rfl) (Or.inl rfl) dX2_init_11 (fun H locs hP hD hS => ?_)
  have hP : va_P (eD E) vwCl ((a, .inr (1, [.null, .int (-1), .int 0, .int 0])) :: [] : va_W) H := hP
  have hD : va_D (va_A [(a, .inr (1, [.null, .int 0, .int 0, .int 0]))] sz) ((a, .inr (1, [.null, .int (-1), .int 0, .int 0])) :: [] : va_W) := hD
  refine lv_aload_n hx hb dX2_init_14 rfl (lv_at hl 0 rfl) ?_
  refine lv_iconst (v := 0) hx hb dX2_init_15 (by decide) ?_
  refine rn_put S hK hP hD hS fk_X2_18 tyX2_ok nmX2 (ty := .int) (v := .int 0) (by decide +kernel) rfl rfl (Nat.le_of_ble_eq_true rfl) (Or.inl rfl) dX2_init_16 (fun H locs hP hD hS => ?_)
  have hP : va_P (eD E) vwCl ((a, .inr (1, [.null, .int (-1), .int 0, .int 0])) :: [] : va_W) H := hP
  have hD : va_D (va_A [(a, .inr (1, [.null, .int 0, .int 0, .int 0]))] sz) ((a, .inr (1, [.null, .int (-1), .int 0, .int 0])) :: [] : va_W) := hD
  refine lv_aload_n hx hb dX2_init_19 rfl (lv_at hl 0 rfl) ?_
  refine lv_aload_n hx hb dX2_init_20 rfl (lv_at hl 1 rfl) ?_
  refine rn_put S hK hP hD hS fk_X2_21 tyX2_ok nmX2 (ty := .object "ColorScheme$Tokens") (v := .ref b) (by decide +kernel) rfl rfl (Nat.le_of_ble_eq_true rfl) (Or.inr ⟨rfl, hnm, rfl⟩) dX2_init_21 (fun H locs hP hD hS => ?_)
  have hP : va_P (eD E) vwCl ((a, .inr (1, [.ref b, .int (-1), .int 0, .int 0])) :: [] : va_W) H := hP
  have hD : va_D (va_A [(a, .inr (1, [.null, .int 0, .int 0, .int 0]))] sz) ((a, .inr (1, [.ref b, .int (-1), .int 0, .int 0])) :: [] : va_W) := hD
  exact re_in hx hb hr hlk hP hD hS rfl (Nat.le_of_ble_eq_true rfl) (Nat.le_of_ble_eq_true rfl) dX2_init_24
theorem rf2 (g r : Nat → Nat) (k : Nat) (h0 : g k = r 0) (h1 : g (k + 1) = r 1) : (fun i => if i < 2 then some (r i) else none) = (fun i => if i < 2 then some (g (k + i)) else none) := by
  funext i
  by_cases h : i < 2
  · rw [if_pos h, if_pos h]
    rcases (show i = 0 ∨ i = 1 by omega) with rfl | rfl
    · rw [Nat.add_zero, h0]
    · rw [h1]
  · rw [if_neg h, if_neg h]
theorem dW_eq {E : En} {a c f x y z n : Nat} {r t : Nat → Nat} : ((a, .inr (0, [.int 0, .ref c, .ref f, .int 0, .ref x, .ref y, .ref z, .ref n])) :: (((((((c, .inl (eT E 5, 2, .inr (.inr (.inr (.inr (fun i => if i < 2 then some (r i) else none)))))) :: (List.range 2).map (fun i => (r i, .inl (eT E 1, 10, .inl (fun _ => 0))))) ++ [(f, .inl (eT E 3, 10, .inl (fun _ => 0)))]) ++ [(x, .inl (eT E 1, 12, .inl (fun _ => 0)))]) ++ [(y, .inl (eT E 1, 12, .inl (fun _ => 0)))]) ++ [(z, .inl (eT E 1, 12, .inl (fun _ => 0)))]) ++ ((n, .inl (eT E 5, 2, .inr (.inr (.inr (.inr (fun i => if i < 2 then some (t i) else none)))))) :: (List.range 2).map (fun i => (t i, .inl (eT E 1, 12, .inl (fun _ => 0)))))) : va_W) = dWl E (fun k => ([a, c, r 0, r 1, f, x, y, z, n, t 0, t 1] : List Nat).getD k 0) := by
  rw [rf2 (fun k => ([a, c, r 0, r 1, f, x, y, z, n, t 0, t 1] : List Nat).getD k 0) r 2 rfl rfl, rf2 (fun k => ([a, c, r 0, r 1, f, x, y, z, n, t 0, t 1] : List Nat).getD k 0) t 9 rfl rfl]
  rfl
set_option maxHeartbeats 4000000 in
set_option maxRecDepth 100000 in
theorem c_X1_init (l : Launch) (E : En) (a sz : Nat) : Met l yX1_init (wz yX1_init cX1_init 1 none) (rmk 1 10 94 20) (va_Pc [.ref a] (Bn E [(a, .inr (0, [.int 0, .null, .null, .int 0, .null, .null, .null, .null]))] sz)) (qIn E [(a, .inr (0, [.int 0, .null, .null, .int 0, .null, .null, .null, .null]))] sz (fun w => ∃ g, g 0 = a ∧ w = dWl E g)) 10 94 (va_A [(a, .inr (0, [.int 0, .null, .null, .int 0, .null, .null, .null, .null]))] sz) := by
  refine en_ofW RX1 rfl (by decide +kernel) (Nat.le_of_ble_eq_true rfl) ?_
  intro p e s m below meth c ls S hr hlk hnm hl hB
  have hx := S.1
  have hb := S.2.1
  obtain ⟨hsz, hK, hC, hR, hP, hD, hA, hAL, hL⟩ := bn_of hB
  have hS : va_S (va_A [(a, .inr (0, [.int 0, .null, .null, .int 0, .null, .null, .null, .null]))] sz) s.heap s.heap [] := va_S.rf
  have hl : lv_has ls 1 [(0, .ref a)] := hl
  refine lv_aload_n hx hb dX1_init_0 rfl (lv_at hl 0 rfl) ?_
  refine rn_obj S lo_X1 lo_i lo_c hl.1 (Nat.le_of_ble_eq_true rfl) (Nat.le_of_ble_eq_true rfl) (Nat.le_of_ble_eq_true rfl) dX1_init_1 ?_
  refine lv_aload_n hx hb dX1_init_4 rfl (lv_at hl 0 rfl) ?_
  refine lv_iconst (v := 0) hx hb dX1_init_5 (by decide) ?_
  refine rn_put S hK hP hD hS fk_X1_9 tyX1_ok nmX1 (ty := .int) (v := .int 0) (by decide +kernel) rfl rfl (Nat.le_of_ble_eq_true rfl) (Or.inl rfl) dX1_init_6 (fun H locs hP hD hS => ?_)
  have hP : va_P (eD E) vwCl ((a, .inr (0, [.int 0, .null, .null, .int 0, .null, .null, .null, .null])) :: [] : va_W) H := hP
  have hD : va_D (va_A [(a, .inr (0, [.int 0, .null, .null, .int 0, .null, .null, .null, .null]))] sz) ((a, .inr (0, [.int 0, .null, .null, .int 0, .null, .null, .null, .null])) :: [] : va_W) := hD
  refine lv_aload_n hx hb dX1_init_9 rfl (lv_at hl 0 rfl) ?_
  refine lv_iconst (v := 2) hx hb dX1_init_10 (by decide) ?_
  refine lv_bipush (v := 10) hx hb dX1_init_11 (by decide) ?_
  refine rn_mna S hK hR hP hD hS hA (lwg_at 153 (by decide +kernel)) (lwg_at 114 (by decide +kernel)) 2 10 rfl rfl (by decide) (by decide) (Nat.le_of_ble_eq_true rfl) (Nat.le_of_ble_eq_true rfl) dX1_init_13 (fun q1 rq1 H hP hD hS => ?_)
  have hP : va_P (eD E) vwCl ((a, .inr (0, [.int 0, .null, .null, .int 0, .null, .null, .null, .null])) :: (((q1, .inl (eT E 5, 2, .inr (.inr (.inr (.inr (fun i => if i < 2 then some (rq1 i) else none)))))) :: (List.range 2).map (fun i => (rq1 i, .inl (eT E 1, 10, .inl (fun _ => 0))))) : va_W) : va_W) H := hP
  have hD : va_D (va_A [(a, .inr (0, [.int 0, .null, .null, .int 0, .null, .null, .null, .null]))] sz) ((a, .inr (0, [.int 0, .null, .null, .int 0, .null, .null, .null, .null])) :: (((q1, .inl (eT E 5, 2, .inr (.inr (.inr (.inr (fun i => if i < 2 then some (rq1 i) else none)))))) :: (List.range 2).map (fun i => (rq1 i, .inl (eT E 1, 10, .inl (fun _ => 0))))) : va_W) : va_W) := hD
  refine rn_put S hK hP hD hS fk_X1_17 tyX1_ok nmX1 (ty := .array (.array .int)) (v := .ref q1) (by decide +kernel) rfl rfl (Nat.le_of_ble_eq_true rfl) (Or.inr ⟨rfl, hnm, rfl⟩) dX1_init_17 (fun H locs hP hD hS => ?_)
  have hP : va_P (eD E) vwCl ((a, .inr (0, [.int 0, .ref q1, .null, .int 0, .null, .null, .null, .null])) :: (((q1, .inl (eT E 5, 2, .inr (.inr (.inr (.inr (fun i => if i < 2 then some (rq1 i) else none)))))) :: (List.range 2).map (fun i => (rq1 i, .inl (eT E 1, 10, .inl (fun _ => 0))))) : va_W) : va_W) H := hP
  have hD : va_D (va_A [(a, .inr (0, [.int 0, .null, .null, .int 0, .null, .null, .null, .null]))] sz) ((a, .inr (0, [.int 0, .ref q1, .null, .int 0, .null, .null, .null, .null])) :: (((q1, .inl (eT E 5, 2, .inr (.inr (.inr (.inr (fun i => if i < 2 then some (rq1 i) else none)))))) :: (List.range 2).map (fun i => (rq1 i, .inl (eT E 1, 10, .inl (fun _ => 0))))) : va_W) : va_W) := hD
  refine lv_aload_n hx hb dX1_init_20 rfl (lv_at hl 0 rfl) ?_
  refine lv_bipush (v := 10) hx hb dX1_init_21 (by decide) ?_
  refine rn_newa S hK hP hD hS hA (ty := .boolean) 3 rfl (lwg_at 189 (by decide +kernel)) rfl (a0 := (10, .inl (fun _ => 0))) 10 rfl (by decide) (fun _ => rfl) (by decide) (Nat.le_of_ble_eq_true rfl) (Nat.le_of_ble_eq_true rfl) dX1_init_23 (fun q2 H hP hD hS => ?_)
  have hP : va_P (eD E) vwCl ((a, .inr (0, [.int 0, .ref q1, .null, .int 0, .null, .null, .null, .null])) :: ((((q1, .inl (eT E 5, 2, .inr (.inr (.inr (.inr (fun i => if i < 2 then some (rq1 i) else none)))))) :: (List.range 2).map (fun i => (rq1 i, .inl (eT E 1, 10, .inl (fun _ => 0))))) : va_W) ++ ([(q2, .inl (eT E 3, 10, .inl (fun _ => 0)))] : va_W)) : va_W) H := hP
  have hD : va_D (va_A [(a, .inr (0, [.int 0, .null, .null, .int 0, .null, .null, .null, .null]))] sz) ((a, .inr (0, [.int 0, .ref q1, .null, .int 0, .null, .null, .null, .null])) :: ((((q1, .inl (eT E 5, 2, .inr (.inr (.inr (.inr (fun i => if i < 2 then some (rq1 i) else none)))))) :: (List.range 2).map (fun i => (rq1 i, .inl (eT E 1, 10, .inl (fun _ => 0))))) : va_W) ++ ([(q2, .inl (eT E 3, 10, .inl (fun _ => 0)))] : va_W)) : va_W) := hD
  refine rn_put S hK hP hD hS fk_X1_20 tyX1_ok nmX1 (ty := .array .boolean) (v := .ref q2) (by decide +kernel) rfl rfl (Nat.le_of_ble_eq_true rfl) (Or.inr ⟨rfl, hnm, rfl⟩) dX1_init_25 (fun H locs hP hD hS => ?_)
  have hP : va_P (eD E) vwCl ((a, .inr (0, [.int 0, .ref q1, .ref q2, .int 0, .null, .null, .null, .null])) :: ((((q1, .inl (eT E 5, 2, .inr (.inr (.inr (.inr (fun i => if i < 2 then some (rq1 i) else none)))))) :: (List.range 2).map (fun i => (rq1 i, .inl (eT E 1, 10, .inl (fun _ => 0))))) : va_W) ++ ([(q2, .inl (eT E 3, 10, .inl (fun _ => 0)))] : va_W)) : va_W) H := hP
  have hD : va_D (va_A [(a, .inr (0, [.int 0, .null, .null, .int 0, .null, .null, .null, .null]))] sz) ((a, .inr (0, [.int 0, .ref q1, .ref q2, .int 0, .null, .null, .null, .null])) :: ((((q1, .inl (eT E 5, 2, .inr (.inr (.inr (.inr (fun i => if i < 2 then some (rq1 i) else none)))))) :: (List.range 2).map (fun i => (rq1 i, .inl (eT E 1, 10, .inl (fun _ => 0))))) : va_W) ++ ([(q2, .inl (eT E 3, 10, .inl (fun _ => 0)))] : va_W)) : va_W) := hD
  refine lv_aload_n hx hb dX1_init_28 rfl (lv_at hl 0 rfl) ?_
  refine lv_iconst (v := 0) hx hb dX1_init_29 (by decide) ?_
  refine rn_put S hK hP hD hS fk_X1_24 tyX1_ok nmX1 (ty := .int) (v := .int 0) (by decide +kernel) rfl rfl (Nat.le_of_ble_eq_true rfl) (Or.inl rfl) dX1_init_30 (fun H locs hP hD hS => ?_)
  have hP : va_P (eD E) vwCl ((a, .inr (0, [.int 0, .ref q1, .ref q2, .int 0, .null, .null, .null, .null])) :: ((((q1, .inl (eT E 5, 2, .inr (.inr (.inr (.inr (fun i => if i < 2 then some (rq1 i) else none)))))) :: (List.range 2).map (fun i => (rq1 i, .inl (eT E 1, 10, .inl (fun _ => 0))))) : va_W) ++ ([(q2, .inl (eT E 3, 10, .inl (fun _ => 0)))] : va_W)) : va_W) H := hP
  have hD : va_D (va_A [(a, .inr (0, [.int 0, .null, .null, .int 0, .null, .null, .null, .null]))] sz) ((a, .inr (0, [.int 0, .ref q1, .ref q2, .int 0, .null, .null, .null, .null])) :: ((((q1, .inl (eT E 5, 2, .inr (.inr (.inr (.inr (fun i => if i < 2 then some (rq1 i) else none)))))) :: (List.range 2).map (fun i => (rq1 i, .inl (eT E 1, 10, .inl (fun _ => 0))))) : va_W) ++ ([(q2, .inl (eT E 3, 10, .inl (fun _ => 0)))] : va_W)) : va_W) := hD
  refine lv_aload_n hx hb dX1_init_33 rfl (lv_at hl 0 rfl) ?_
  refine lv_bipush (v := 12) hx hb dX1_init_34 (by decide) ?_
  refine rn_newa S hK hP hD hS hA (ty := .int) 1 rfl (lwg_at 114 (by decide +kernel)) rfl (a0 := (12, .inl (fun _ => 0))) 12 rfl (by decide) (fun _ => rfl) (by decide) (Nat.le_of_ble_eq_true rfl) (Nat.le_of_ble_eq_true rfl) dX1_init_36 (fun q3 H hP hD hS => ?_)
  have hP : va_P (eD E) vwCl ((a, .inr (0, [.int 0, .ref q1, .ref q2, .int 0, .null, .null, .null, .null])) :: (((((q1, .inl (eT E 5, 2, .inr (.inr (.inr (.inr (fun i => if i < 2 then some (rq1 i) else none)))))) :: (List.range 2).map (fun i => (rq1 i, .inl (eT E 1, 10, .inl (fun _ => 0))))) : va_W) ++ ([(q2, .inl (eT E 3, 10, .inl (fun _ => 0)))] : va_W)) ++ ([(q3, .inl (eT E 1, 12, .inl (fun _ => 0)))] : va_W)) : va_W) H := hP
  have hD : va_D (va_A [(a, .inr (0, [.int 0, .null, .null, .int 0, .null, .null, .null, .null]))] sz) ((a, .inr (0, [.int 0, .ref q1, .ref q2, .int 0, .null, .null, .null, .null])) :: (((((q1, .inl (eT E 5, 2, .inr (.inr (.inr (.inr (fun i => if i < 2 then some (rq1 i) else none)))))) :: (List.range 2).map (fun i => (rq1 i, .inl (eT E 1, 10, .inl (fun _ => 0))))) : va_W) ++ ([(q2, .inl (eT E 3, 10, .inl (fun _ => 0)))] : va_W)) ++ ([(q3, .inl (eT E 1, 12, .inl (fun _ => 0)))] : va_W)) : va_W) := hD
  refine rn_put S hK hP hD hS fk_X1_27 tyX1_ok nmX1 (ty := .array .int) (v := .ref q3) (by decide +kernel) rfl rfl (Nat.le_of_ble_eq_true rfl) (Or.inr ⟨rfl, hnm, rfl⟩) dX1_init_38 (fun H locs hP hD hS => ?_)
  have hP : va_P (eD E) vwCl ((a, .inr (0, [.int 0, .ref q1, .ref q2, .int 0, .ref q3, .null, .null, .null])) :: (((((q1, .inl (eT E 5, 2, .inr (.inr (.inr (.inr (fun i => if i < 2 then some (rq1 i) else none)))))) :: (List.range 2).map (fun i => (rq1 i, .inl (eT E 1, 10, .inl (fun _ => 0))))) : va_W) ++ ([(q2, .inl (eT E 3, 10, .inl (fun _ => 0)))] : va_W)) ++ ([(q3, .inl (eT E 1, 12, .inl (fun _ => 0)))] : va_W)) : va_W) H := hP
  have hD : va_D (va_A [(a, .inr (0, [.int 0, .null, .null, .int 0, .null, .null, .null, .null]))] sz) ((a, .inr (0, [.int 0, .ref q1, .ref q2, .int 0, .ref q3, .null, .null, .null])) :: (((((q1, .inl (eT E 5, 2, .inr (.inr (.inr (.inr (fun i => if i < 2 then some (rq1 i) else none)))))) :: (List.range 2).map (fun i => (rq1 i, .inl (eT E 1, 10, .inl (fun _ => 0))))) : va_W) ++ ([(q2, .inl (eT E 3, 10, .inl (fun _ => 0)))] : va_W)) ++ ([(q3, .inl (eT E 1, 12, .inl (fun _ => 0)))] : va_W)) : va_W) := hD
  refine lv_aload_n hx hb dX1_init_41 rfl (lv_at hl 0 rfl) ?_
  refine lv_bipush (v := 12) hx hb dX1_init_42 (by decide) ?_
  refine rn_newa S hK hP hD hS hA (ty := .int) 1 rfl (lwg_at 114 (by decide +kernel)) rfl (a0 := (12, .inl (fun _ => 0))) 12 rfl (by decide) (fun _ => rfl) (by decide) (Nat.le_of_ble_eq_true rfl) (Nat.le_of_ble_eq_true rfl) dX1_init_44 (fun q4 H hP hD hS => ?_)
  have hP : va_P (eD E) vwCl ((a, .inr (0, [.int 0, .ref q1, .ref q2, .int 0, .ref q3, .null, .null, .null])) :: ((((((q1, .inl (eT E 5, 2, .inr (.inr (.inr (.inr (fun i => if i < 2 then some (rq1 i) else none)))))) :: (List.range 2).map (fun i => (rq1 i, .inl (eT E 1, 10, .inl (fun _ => 0))))) : va_W) ++ ([(q2, .inl (eT E 3, 10, .inl (fun _ => 0)))] : va_W)) ++ ([(q3, .inl (eT E 1, 12, .inl (fun _ => 0)))] : va_W)) ++ ([(q4, .inl (eT E 1, 12, .inl (fun _ => 0)))] : va_W)) : va_W) H := hP
  have hD : va_D (va_A [(a, .inr (0, [.int 0, .null, .null, .int 0, .null, .null, .null, .null]))] sz) ((a, .inr (0, [.int 0, .ref q1, .ref q2, .int 0, .ref q3, .null, .null, .null])) :: ((((((q1, .inl (eT E 5, 2, .inr (.inr (.inr (.inr (fun i => if i < 2 then some (rq1 i) else none)))))) :: (List.range 2).map (fun i => (rq1 i, .inl (eT E 1, 10, .inl (fun _ => 0))))) : va_W) ++ ([(q2, .inl (eT E 3, 10, .inl (fun _ => 0)))] : va_W)) ++ ([(q3, .inl (eT E 1, 12, .inl (fun _ => 0)))] : va_W)) ++ ([(q4, .inl (eT E 1, 12, .inl (fun _ => 0)))] : va_W)) : va_W) := hD
  refine rn_put S hK hP hD hS fk_X1_31 tyX1_ok nmX1 (ty := .array .int) (v := .ref q4) (by decide +kernel) rfl rfl (Nat.le_of_ble_eq_true rfl) (Or.inr ⟨rfl, hnm, rfl⟩) dX1_init_46 (fun H locs hP hD hS => ?_)
  have hP : va_P (eD E) vwCl ((a, .inr (0, [.int 0, .ref q1, .ref q2, .int 0, .ref q3, .ref q4, .null, .null])) :: ((((((q1, .inl (eT E 5, 2, .inr (.inr (.inr (.inr (fun i => if i < 2 then some (rq1 i) else none)))))) :: (List.range 2).map (fun i => (rq1 i, .inl (eT E 1, 10, .inl (fun _ => 0))))) : va_W) ++ ([(q2, .inl (eT E 3, 10, .inl (fun _ => 0)))] : va_W)) ++ ([(q3, .inl (eT E 1, 12, .inl (fun _ => 0)))] : va_W)) ++ ([(q4, .inl (eT E 1, 12, .inl (fun _ => 0)))] : va_W)) : va_W) H := hP
  have hD : va_D (va_A [(a, .inr (0, [.int 0, .null, .null, .int 0, .null, .null, .null, .null]))] sz) ((a, .inr (0, [.int 0, .ref q1, .ref q2, .int 0, .ref q3, .ref q4, .null, .null])) :: ((((((q1, .inl (eT E 5, 2, .inr (.inr (.inr (.inr (fun i => if i < 2 then some (rq1 i) else none)))))) :: (List.range 2).map (fun i => (rq1 i, .inl (eT E 1, 10, .inl (fun _ => 0))))) : va_W) ++ ([(q2, .inl (eT E 3, 10, .inl (fun _ => 0)))] : va_W)) ++ ([(q3, .inl (eT E 1, 12, .inl (fun _ => 0)))] : va_W)) ++ ([(q4, .inl (eT E 1, 12, .inl (fun _ => 0)))] : va_W)) : va_W) := hD
  refine lv_aload_n hx hb dX1_init_49 rfl (lv_at hl 0 rfl) ?_
  refine lv_bipush (v := 12) hx hb dX1_init_50 (by decide) ?_
  refine rn_newa S hK hP hD hS hA (ty := .int) 1 rfl (lwg_at 114 (by decide +kernel)) rfl (a0 := (12, .inl (fun _ => 0))) 12 rfl (by decide) (fun _ => rfl) (by decide) (Nat.le_of_ble_eq_true rfl) (Nat.le_of_ble_eq_true rfl) dX1_init_52 (fun q5 H hP hD hS => ?_)
  have hP : va_P (eD E) vwCl ((a, .inr (0, [.int 0, .ref q1, .ref q2, .int 0, .ref q3, .ref q4, .null, .null])) :: (((((((q1, .inl (eT E 5, 2, .inr (.inr (.inr (.inr (fun i => if i < 2 then some (rq1 i) else none)))))) :: (List.range 2).map (fun i => (rq1 i, .inl (eT E 1, 10, .inl (fun _ => 0))))) : va_W) ++ ([(q2, .inl (eT E 3, 10, .inl (fun _ => 0)))] : va_W)) ++ ([(q3, .inl (eT E 1, 12, .inl (fun _ => 0)))] : va_W)) ++ ([(q4, .inl (eT E 1, 12, .inl (fun _ => 0)))] : va_W)) ++ ([(q5, .inl (eT E 1, 12, .inl (fun _ => 0)))] : va_W)) : va_W) H := hP
  have hD : va_D (va_A [(a, .inr (0, [.int 0, .null, .null, .int 0, .null, .null, .null, .null]))] sz) ((a, .inr (0, [.int 0, .ref q1, .ref q2, .int 0, .ref q3, .ref q4, .null, .null])) :: (((((((q1, .inl (eT E 5, 2, .inr (.inr (.inr (.inr (fun i => if i < 2 then some (rq1 i) else none)))))) :: (List.range 2).map (fun i => (rq1 i, .inl (eT E 1, 10, .inl (fun _ => 0))))) : va_W) ++ ([(q2, .inl (eT E 3, 10, .inl (fun _ => 0)))] : va_W)) ++ ([(q3, .inl (eT E 1, 12, .inl (fun _ => 0)))] : va_W)) ++ ([(q4, .inl (eT E 1, 12, .inl (fun _ => 0)))] : va_W)) ++ ([(q5, .inl (eT E 1, 12, .inl (fun _ => 0)))] : va_W)) : va_W) := hD
  refine rn_put S hK hP hD hS fk_X1_34 tyX1_ok nmX1 (ty := .array .int) (v := .ref q5) (by decide +kernel) rfl rfl (Nat.le_of_ble_eq_true rfl) (Or.inr ⟨rfl, hnm, rfl⟩) dX1_init_54 (fun H locs hP hD hS => ?_)
  have hP : va_P (eD E) vwCl ((a, .inr (0, [.int 0, .ref q1, .ref q2, .int 0, .ref q3, .ref q4, .ref q5, .null])) :: (((((((q1, .inl (eT E 5, 2, .inr (.inr (.inr (.inr (fun i => if i < 2 then some (rq1 i) else none)))))) :: (List.range 2).map (fun i => (rq1 i, .inl (eT E 1, 10, .inl (fun _ => 0))))) : va_W) ++ ([(q2, .inl (eT E 3, 10, .inl (fun _ => 0)))] : va_W)) ++ ([(q3, .inl (eT E 1, 12, .inl (fun _ => 0)))] : va_W)) ++ ([(q4, .inl (eT E 1, 12, .inl (fun _ => 0)))] : va_W)) ++ ([(q5, .inl (eT E 1, 12, .inl (fun _ => 0)))] : va_W)) : va_W) H := hP
  have hD : va_D (va_A [(a, .inr (0, [.int 0, .null, .null, .int 0, .null, .null, .null, .null]))] sz) ((a, .inr (0, [.int 0, .ref q1, .ref q2, .int 0, .ref q3, .ref q4, .ref q5, .null])) :: (((((((q1, .inl (eT E 5, 2, .inr (.inr (.inr (.inr (fun i => if i < 2 then some (rq1 i) else none)))))) :: (List.range 2).map (fun i => (rq1 i, .inl (eT E 1, 10, .inl (fun _ => 0))))) : va_W) ++ ([(q2, .inl (eT E 3, 10, .inl (fun _ => 0)))] : va_W)) ++ ([(q3, .inl (eT E 1, 12, .inl (fun _ => 0)))] : va_W)) ++ ([(q4, .inl (eT E 1, 12, .inl (fun _ => 0)))] : va_W)) ++ ([(q5, .inl (eT E 1, 12, .inl (fun _ => 0)))] : va_W)) : va_W) := hD
  refine lv_aload_n hx hb dX1_init_57 rfl (lv_at hl 0 rfl) ?_
  refine lv_iconst (v := 2) hx hb dX1_init_58 (by decide) ?_
  refine lv_bipush (v := 12) hx hb dX1_init_59 (by decide) ?_
  refine rn_mna S hK hR hP hD hS hA (lwg_at 153 (by decide +kernel)) (lwg_at 114 (by decide +kernel)) 2 12 rfl rfl (by decide) (by decide) (Nat.le_of_ble_eq_true rfl) (Nat.le_of_ble_eq_true rfl) dX1_init_61 (fun q6 rq6 H hP hD hS => ?_)
  have hP : va_P (eD E) vwCl ((a, .inr (0, [.int 0, .ref q1, .ref q2, .int 0, .ref q3, .ref q4, .ref q5, .null])) :: ((((((((q1, .inl (eT E 5, 2, .inr (.inr (.inr (.inr (fun i => if i < 2 then some (rq1 i) else none)))))) :: (List.range 2).map (fun i => (rq1 i, .inl (eT E 1, 10, .inl (fun _ => 0))))) : va_W) ++ ([(q2, .inl (eT E 3, 10, .inl (fun _ => 0)))] : va_W)) ++ ([(q3, .inl (eT E 1, 12, .inl (fun _ => 0)))] : va_W)) ++ ([(q4, .inl (eT E 1, 12, .inl (fun _ => 0)))] : va_W)) ++ ([(q5, .inl (eT E 1, 12, .inl (fun _ => 0)))] : va_W)) ++ (((q6, .inl (eT E 5, 2, .inr (.inr (.inr (.inr (fun i => if i < 2 then some (rq6 i) else none)))))) :: (List.range 2).map (fun i => (rq6 i, .inl (eT E 1, 12, .inl (fun _ => 0))))) : va_W)) : va_W) H := hP
  have hD : va_D (va_A [(a, .inr (0, [.int 0, .null, .null, .int 0, .null, .null, .null, .null]))] sz) ((a, .inr (0, [.int 0, .ref q1, .ref q2, .int 0, .ref q3, .ref q4, .ref q5, .null])) :: ((((((((q1, .inl (eT E 5, 2, .inr (.inr (.inr (.inr (fun i => if i < 2 then some (rq1 i) else none)))))) :: (List.range 2).map (fun i => (rq1 i, .inl (eT E 1, 10, .inl (fun _ => 0))))) : va_W) ++ ([(q2, .inl (eT E 3, 10, .inl (fun _ => 0)))] : va_W)) ++ ([(q3, .inl (eT E 1, 12, .inl (fun _ => 0)))] : va_W)) ++ ([(q4, .inl (eT E 1, 12, .inl (fun _ => 0)))] : va_W)) ++ ([(q5, .inl (eT E 1, 12, .inl (fun _ => 0)))] : va_W)) ++ (((q6, .inl (eT E 5, 2, .inr (.inr (.inr (.inr (fun i => if i < 2 then some (rq6 i) else none)))))) :: (List.range 2).map (fun i => (rq6 i, .inl (eT E 1, 12, .inl (fun _ => 0))))) : va_W)) : va_W) := hD
  refine rn_put S hK hP hD hS fk_X1_37 tyX1_ok nmX1 (ty := .array (.array .int)) (v := .ref q6) (by decide +kernel) rfl rfl (Nat.le_of_ble_eq_true rfl) (Or.inr ⟨rfl, hnm, rfl⟩) dX1_init_65 (fun H locs hP hD hS => ?_)
  have hP : va_P (eD E) vwCl ((a, .inr (0, [.int 0, .ref q1, .ref q2, .int 0, .ref q3, .ref q4, .ref q5, .ref q6])) :: ((((((((q1, .inl (eT E 5, 2, .inr (.inr (.inr (.inr (fun i => if i < 2 then some (rq1 i) else none)))))) :: (List.range 2).map (fun i => (rq1 i, .inl (eT E 1, 10, .inl (fun _ => 0))))) : va_W) ++ ([(q2, .inl (eT E 3, 10, .inl (fun _ => 0)))] : va_W)) ++ ([(q3, .inl (eT E 1, 12, .inl (fun _ => 0)))] : va_W)) ++ ([(q4, .inl (eT E 1, 12, .inl (fun _ => 0)))] : va_W)) ++ ([(q5, .inl (eT E 1, 12, .inl (fun _ => 0)))] : va_W)) ++ (((q6, .inl (eT E 5, 2, .inr (.inr (.inr (.inr (fun i => if i < 2 then some (rq6 i) else none)))))) :: (List.range 2).map (fun i => (rq6 i, .inl (eT E 1, 12, .inl (fun _ => 0))))) : va_W)) : va_W) H := hP
  have hD : va_D (va_A [(a, .inr (0, [.int 0, .null, .null, .int 0, .null, .null, .null, .null]))] sz) ((a, .inr (0, [.int 0, .ref q1, .ref q2, .int 0, .ref q3, .ref q4, .ref q5, .ref q6])) :: ((((((((q1, .inl (eT E 5, 2, .inr (.inr (.inr (.inr (fun i => if i < 2 then some (rq1 i) else none)))))) :: (List.range 2).map (fun i => (rq1 i, .inl (eT E 1, 10, .inl (fun _ => 0))))) : va_W) ++ ([(q2, .inl (eT E 3, 10, .inl (fun _ => 0)))] : va_W)) ++ ([(q3, .inl (eT E 1, 12, .inl (fun _ => 0)))] : va_W)) ++ ([(q4, .inl (eT E 1, 12, .inl (fun _ => 0)))] : va_W)) ++ ([(q5, .inl (eT E 1, 12, .inl (fun _ => 0)))] : va_W)) ++ (((q6, .inl (eT E 5, 2, .inr (.inr (.inr (.inr (fun i => if i < 2 then some (rq6 i) else none)))))) :: (List.range 2).map (fun i => (rq6 i, .inl (eT E 1, 12, .inl (fun _ => 0))))) : va_W)) : va_W) := hD
  exact re_in hx hb hr hlk hP hD hS ⟨fun k => ([a, q1, rq1 0, rq1 1, q2, q3, q4, q5, q6, rq6 0, rq6 1] : List Nat).getD k 0, rfl, dW_eq⟩ (Nat.le_of_ble_eq_true rfl) (Nat.le_of_ble_eq_true rfl) dX1_init_68
