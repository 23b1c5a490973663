/-! the arithmetic of single colours, in the words of the programs -/
theorem n_lt {a b : Int32} (h : b ≤ a) : ¬ a < b := Int32.not_lt.mpr h
theorem n_le {a b : Int32} (h : b < a) : ¬ a ≤ b := Int32.not_le.mpr h
theorem l_lt {a b : Int32} (h : ¬ b ≤ a) : a < b := Int32.not_le.mp h
theorem l_le {a b : Int32} (h : ¬ b < a) : a ≤ b := Int32.not_lt.mp h
def pRed (c : Int32) : Int32 := c / 65536
def pGreen (c : Int32) : Int32 := c / 256 - c / 256 / 256 * 256
def pBlue (c : Int32) : Int32 := c - c / 256 * 256
def pMix (r g b : Int32) : Int32 := 65536 * r + 256 * g + b
def pBri (c : Int32) : Int32 := (2126 * pRed c * pRed c + 7152 * pGreen c * pGreen c + 722 * pBlue c * pBlue c) / 10000
def iMin (x y : Int32) : Int32 := if y < x then y else x
def iMax (x y : Int32) : Int32 := if x < y then y else x
def iAbs (x : Int32) : Int32 := if 0 ≤ x then x else 0 - x
def rMin (x y : Int32) : Int32 := if x < y then x else y
def rMax (x y : Int32) : Int32 := if y < x then x else y
def pLim (v lo hi : Int32) : Int32 := if v < lo then lo else if hi < v then hi else v
def pHeld (v : Int32) : Int32 := rMax 0 (rMin 255 v)
def cCon (a b : Int32) : Int32 := if iMin (pBri a + 3251) (pBri b + 3251) ≤ 0 then 0 else 100 * iMax (pBri a + 3251) (pBri b + 3251) / iMin (pBri a + 3251) (pBri b + 3251)
def rCon (a b : Int32) : Int32 := 100 * (rMax (pBri a) (pBri b) + 3251) / (rMin (pBri a) (pBri b) + 3251)
def cShf (c d : Int32) : Int32 := pMix (pLim (pRed c + d) 0 255) (pLim (pGreen c + d) 0 255) (pLim (pBlue c + d) 0 255)
def rShf (c d : Int32) : Int32 := pMix (pHeld (pRed c + d)) (pHeld (pGreen c + d)) (pHeld (pBlue c + d))
def rCh (f g h c : Int32) : Int32 := pHeld ((f * pRed c + g * pGreen c + h * pBlue c) / 1000)
def rSeen (c s : Int32) : Int32 := if s = 1 then pMix (rCh 152 1053 (-205) c) (rCh 115 786 99 c) (rCh (-4) (-48) 1052 c) else if s = 2 then pMix (rCh 367 861 (-228) c) (rCh 280 673 47 c) (rCh (-12) 43 969 c) else if s = 3 then pMix (rCh 1256 (-77) (-179) c) (rCh (-78) 930 148 c) (rCh 5 691 304 c) else if s = 4 then pMix (rCh 299 587 114 c) (rCh 299 587 114 c) (rCh 299 587 114 c) else c
def rApart (a b : Int32) : Int32 := if b < a then a - b else b - a
def rDif (a b : Int32) : Int32 := 3 * rApart (pRed a) (pRed b) + 4 * rApart (pGreen a) (pGreen b) + 2 * rApart (pBlue a) (pBlue b)
def rIn (v lo hi : Int32) : Int32 := if v < lo then 0 else if hi < v then 0 else 1
def rLimL (v : Int64) : Int64 := if 1000000 < v then 1000000 else if v < -1000000 then -1000000 else v
def rOp (op : Int32) (a b : Int64) : Int64 := if op = 5 then (if b = 0 then 0 else a / b) else rLimL (if op = 2 then a + b else if op = 3 then a - b else a * b)
def cAmt (k : Int32) : Int32 := if k / 2 - k / 2 / 2 * 2 = 0 then k / 4 + 1 else -(k / 4 + 1)
def cQuo (a b : Int32) : Int32 := if b = 0 then 0 else a / b
set_option maxHeartbeats 1000000 in
set_option maxRecDepth 100000 in
theorem c_X0_red (l : Launch) (x : Int32)  : Met l yX0_red (wz yX0_red cX0_red 1 (some .int)) (rmk 0 0 0 0) (va_Pc [.int x] (fun _ => True)) (qSi (fun zz => zz = pRed x)) 0 0 fr0 := by
  refine en_ofW RX0 rfl (by decide +kernel) (Nat.le_of_ble_eq_true rfl) ?_
  intro p e s m below meth c ls S hr hlk hnm hl hB
  have hx := S.1
  have hb := S.2.1
  have hl : lv_has ls 1 [(0, .int x)] := hl
  refine lv_iload_n hx hb dX0_red_0 rfl (lv_at hl 0 rfl) ?_
  refine lv_ldc (v := 65536) hx hb S.2.2.2.1 (S.2.2.2.2 _ kc_X0_9) dX0_red_1 ?_
  refine lv_idiv hx hb dX0_red_3 (by decide) ?_
  exact re_si (v := (x / 65536)) hx hb hr hlk rfl dX0_red_4

set_option maxHeartbeats 1000000 in
set_option maxRecDepth 100000 in
theorem c_X0_green (l : Launch) (x : Int32)  : Met l yX0_green (wz yX0_green cX0_green 1 (some .int)) (rmk 0 0 0 0) (va_Pc [.int x] (fun _ => True)) (qSi (fun zz => zz = pGreen x)) 0 0 fr0 := by
  refine en_ofW RX0 rfl (by decide +kernel) (Nat.le_of_ble_eq_true rfl) ?_
  intro p e s m below meth c ls S hr hlk hnm hl hB
  have hx := S.1
  have hb := S.2.1
  have hl : lv_has ls 1 [(0, .int x)] := hl
  refine lv_iload_n hx hb dX0_green_0 rfl (lv_at hl 0 rfl) ?_
  refine lv_sipush (v := 256) hx hb dX0_green_1 (by decide) ?_
  refine lv_idiv hx hb dX0_green_4 (by decide) ?_
  refine lv_sipush (v := 256) hx hb dX0_green_5 (by decide) ?_
  refine lv_irem hx hb dX0_green_8 (by decide) ?_
  exact re_si (v := ((x / 256) - (x / 256) / 256 * 256)) hx hb hr hlk rfl dX0_green_9

set_option maxHeartbeats 1000000 in
set_option maxRecDepth 100000 in
theorem c_X0_blue (l : Launch) (x : Int32)  : Met l yX0_blue (wz yX0_blue cX0_blue 1 (some .int)) (rmk 0 0 0 0) (va_Pc [.int x] (fun _ => True)) (qSi (fun zz => zz = pBlue x)) 0 0 fr0 := by
  refine en_ofW RX0 rfl (by decide +kernel) (Nat.le_of_ble_eq_true rfl) ?_
  intro p e s m below meth c ls S hr hlk hnm hl hB
  have hx := S.1
  have hb := S.2.1
  have hl : lv_has ls 1 [(0, .int x)] := hl
  refine lv_iload_n hx hb dX0_blue_0 rfl (lv_at hl 0 rfl) ?_
  refine lv_sipush (v := 256) hx hb dX0_blue_1 (by decide) ?_
  refine lv_irem hx hb dX0_blue_4 (by decide) ?_
  exact re_si (v := (x - x / 256 * 256)) hx hb hr hlk rfl dX0_blue_5

set_option maxHeartbeats 1000000 in
set_option maxRecDepth 100000 in
theorem c_X0_joined (l : Launch) (r g b : Int32)  : Met l yX0_joined (wz yX0_joined cX0_joined 3 (some .int)) (rmk 0 0 0 0) (va_Pc [.int r, .int g, .int b] (fun _ => True)) (qSi (fun zz => zz = pMix r g b)) 0 0 fr0 := by
  refine en_ofW RX0 rfl (by decide +kernel) (Nat.le_of_ble_eq_true rfl) ?_
  intro p e s m below meth c ls S hr hlk hnm hl hB
  have hx := S.1
  have hb := S.2.1
  have hl : lv_has ls 3 [(0, .int r), (1, .int g), (2, .int b)] := hl
  refine lv_ldc (v := 65536) hx hb S.2.2.2.1 (S.2.2.2.2 _ kc_X0_9) dX0_joined_0 ?_
  refine lv_iload_n hx hb dX0_joined_2 rfl (lv_at hl 0 rfl) ?_
  refine lv_imul hx hb dX0_joined_3 ?_
  refine lv_sipush (v := 256) hx hb dX0_joined_4 (by decide) ?_
  refine lv_iload_n hx hb dX0_joined_7 rfl (lv_at hl 1 rfl) ?_
  refine lv_imul hx hb dX0_joined_8 ?_
  refine lv_iadd hx hb dX0_joined_9 ?_
  refine lv_iload_n hx hb dX0_joined_10 rfl (lv_at hl 2 rfl) ?_
  refine lv_iadd hx hb dX0_joined_11 ?_
  exact re_si (v := (((65536 * r) + (256 * g)) + b)) hx hb hr hlk rfl dX0_joined_12

set_option maxHeartbeats 1000000 in
set_option maxRecDepth 100000 in
theorem c_X7_red (l : Launch) (x : Int32)  : Met l yX7_red (wz yX7_red cX7_red 1 (some .int)) (rmk 0 0 0 0) (va_Pc [.int x] (fun _ => True)) (qSi (fun zz => zz = pRed x)) 0 0 fr0 := by
  refine en_ofW RX7 rfl (by decide +kernel) (Nat.le_of_ble_eq_true rfl) ?_
  intro p e s m below meth c ls S hr hlk hnm hl hB
  have hx := S.1
  have hb := S.2.1
  have hl : lv_has ls 1 [(0, .int x)] := hl
  refine lv_iload_n hx hb dX7_red_0 rfl (lv_at hl 0 rfl) ?_
  refine lv_ldc (v := 65536) hx hb S.2.2.2.1 (S.2.2.2.2 _ kc_X7_38) dX7_red_1 ?_
  refine lv_idiv hx hb dX7_red_3 (by decide) ?_
  exact re_si (v := (x / 65536)) hx hb hr hlk rfl dX7_red_4

set_option maxHeartbeats 1000000 in
set_option maxRecDepth 100000 in
theorem c_X7_green (l : Launch) (x : Int32)  : Met l yX7_green (wz yX7_green cX7_green 1 (some .int)) (rmk 0 0 0 0) (va_Pc [.int x] (fun _ => True)) (qSi (fun zz => zz = pGreen x)) 0 0 fr0 := by
  refine en_ofW RX7 rfl (by decide +kernel) (Nat.le_of_ble_eq_true rfl) ?_
  intro p e s m below meth c ls S hr hlk hnm hl hB
  have hx := S.1
  have hb := S.2.1
  have hl : lv_has ls 1 [(0, .int x)] := hl
  refine lv_iload_n hx hb dX7_green_0 rfl (lv_at hl 0 rfl) ?_
  refine lv_sipush (v := 256) hx hb dX7_green_1 (by decide) ?_
  refine lv_idiv hx hb dX7_green_4 (by decide) ?_
  refine lv_sipush (v := 256) hx hb dX7_green_5 (by decide) ?_
  refine lv_irem hx hb dX7_green_8 (by decide) ?_
  exact re_si (v := ((x / 256) - (x / 256) / 256 * 256)) hx hb hr hlk rfl dX7_green_9

set_option maxHeartbeats 1000000 in
set_option maxRecDepth 100000 in
theorem c_X7_blue (l : Launch) (x : Int32)  : Met l yX7_blue (wz yX7_blue cX7_blue 1 (some .int)) (rmk 0 0 0 0) (va_Pc [.int x] (fun _ => True)) (qSi (fun zz => zz = pBlue x)) 0 0 fr0 := by
  refine en_ofW RX7 rfl (by decide +kernel) (Nat.le_of_ble_eq_true rfl) ?_
  intro p e s m below meth c ls S hr hlk hnm hl hB
  have hx := S.1
  have hb := S.2.1
  have hl : lv_has ls 1 [(0, .int x)] := hl
  refine lv_iload_n hx hb dX7_blue_0 rfl (lv_at hl 0 rfl) ?_
  refine lv_sipush (v := 256) hx hb dX7_blue_1 (by decide) ?_
  refine lv_irem hx hb dX7_blue_4 (by decide) ?_
  exact re_si (v := (x - x / 256 * 256)) hx hb hr hlk rfl dX7_blue_5

set_option maxHeartbeats 1000000 in
set_option maxRecDepth 100000 in
theorem c_X7_mixed (l : Launch) (r g b : Int32)  : Met l yX7_mixed (wz yX7_mixed cX7_mixed 3 (some .int)) (rmk 0 0 0 0) (va_Pc [.int r, .int g, .int b] (fun _ => True)) (qSi (fun zz => zz = pMix r g b)) 0 0 fr0 := by
  refine en_ofW RX7 rfl (by decide +kernel) (Nat.le_of_ble_eq_true rfl) ?_
  intro p e s m below meth c ls S hr hlk hnm hl hB
  have hx := S.1
  have hb := S.2.1
  have hl : lv_has ls 3 [(0, .int r), (1, .int g), (2, .int b)] := hl
  refine lv_ldc (v := 65536) hx hb S.2.2.2.1 (S.2.2.2.2 _ kc_X7_38) dX7_mixed_0 ?_
  refine lv_iload_n hx hb dX7_mixed_2 rfl (lv_at hl 0 rfl) ?_
  refine lv_imul hx hb dX7_mixed_3 ?_
  refine lv_sipush (v := 256) hx hb dX7_mixed_4 (by decide) ?_
  refine lv_iload_n hx hb dX7_mixed_7 rfl (lv_at hl 1 rfl) ?_
  refine lv_imul hx hb dX7_mixed_8 ?_
  refine lv_iadd hx hb dX7_mixed_9 ?_
  refine lv_iload_n hx hb dX7_mixed_10 rfl (lv_at hl 2 rfl) ?_
  refine lv_iadd hx hb dX7_mixed_11 ?_
  exact re_si (v := (((65536 * r) + (256 * g)) + b)) hx hb hr hlk rfl dX7_mixed_12

set_option maxHeartbeats 1000000 in
set_option maxRecDepth 100000 in
theorem c_X0_luminanceOf (l : Launch) (x : Int32)  : Met l yX0_luminanceOf (wz yX0_luminanceOf cX0_luminanceOf 4 (some .int)) (rmk 1 0 0 20) (va_Pc [.int x] (fun _ => True)) (qSi (fun zz => zz = pBri x)) 0 0 fr0 := by
  refine en_ofW RX0 rfl (by decide +kernel) (Nat.le_of_ble_eq_true rfl) ?_
  intro p e s m below meth c ls S hr hlk hnm hl hB
  have hx := S.1
  have hb := S.2.1
  have hl : lv_has ls 4 [(0, .int x)] := hl
  refine lv_iload_n hx hb dX0_luminanceOf_0 rfl (lv_at hl 0 rfl) ?_
  refine cn_si (ck_S S lk_X0_10 (c_X0_red l x) ⟨rfl, rfl⟩ ⟨Nat.le_of_ble_eq_true rfl, Nat.le_of_ble_eq_true rfl⟩ bl_T t_U rfl hl.1 (Nat.le_of_ble_eq_true rfl) ⟨Nat.le_refl _, Nat.le_refl _⟩ dX0_luminanceOf_1 rfl) (fun r1 g2 => ?_)
  obtain rfl : r1 = pRed x := g2
  refine lv_istore_n (lv' := [(1, .int (pRed x)), (0, .int x)]) hx hb dX0_luminanceOf_4 rfl hl (by decide) rfl (fun ls hl => ?_)
  refine lv_iload_n hx hb dX0_luminanceOf_5 rfl (lv_at hl 1 rfl) ?_
  refine cn_si (ck_S S lk_X0_16 (c_X0_green l x) ⟨rfl, rfl⟩ ⟨Nat.le_of_ble_eq_true rfl, Nat.le_of_ble_eq_true rfl⟩ bl_T t_U rfl hl.1 (Nat.le_of_ble_eq_true rfl) ⟨Nat.le_refl _, Nat.le_refl _⟩ dX0_luminanceOf_6 rfl) (fun r3 g4 => ?_)
  obtain rfl : r3 = pGreen x := g4
  refine lv_istore_n (lv' := [(2, .int (pGreen x)), (1, .int (pRed x)), (0, .int x)]) hx hb dX0_luminanceOf_9 rfl hl (by decide) rfl (fun ls hl => ?_)
  refine lv_iload_n hx hb dX0_luminanceOf_10 rfl (lv_at hl 2 rfl) ?_
  refine cn_si (ck_S S lk_X0_19 (c_X0_blue l x) ⟨rfl, rfl⟩ ⟨Nat.le_of_ble_eq_true rfl, Nat.le_of_ble_eq_true rfl⟩ bl_T t_U rfl hl.1 (Nat.le_of_ble_eq_true rfl) ⟨Nat.le_refl _, Nat.le_refl _⟩ dX0_luminanceOf_11 rfl) (fun r5 g6 => ?_)
  obtain rfl : r5 = pBlue x := g6
  refine lv_istore_n (lv' := [(3, .int (pBlue x)), (2, .int (pGreen x)), (1, .int (pRed x)), (0, .int x)]) hx hb dX0_luminanceOf_14 rfl hl (by decide) rfl (fun ls hl => ?_)
  refine lv_sipush (v := 2126) hx hb dX0_luminanceOf_15 (by decide) ?_
  refine lv_iload_n hx hb dX0_luminanceOf_18 rfl (lv_at hl 2 rfl) ?_
  refine lv_imul hx hb dX0_luminanceOf_19 ?_
  refine lv_iload_n hx hb dX0_luminanceOf_20 rfl (lv_at hl 2 rfl) ?_
  refine lv_imul hx hb dX0_luminanceOf_21 ?_
  refine lv_sipush (v := 7152) hx hb dX0_luminanceOf_22 (by decide) ?_
  refine lv_iload_n hx hb dX0_luminanceOf_25 rfl (lv_at hl 1 rfl) ?_
  refine lv_imul hx hb dX0_luminanceOf_26 ?_
  refine lv_iload_n hx hb dX0_luminanceOf_27 rfl (lv_at hl 1 rfl) ?_
  refine lv_imul hx hb dX0_luminanceOf_28 ?_
  refine lv_iadd hx hb dX0_luminanceOf_29 ?_
  refine lv_sipush (v := 722) hx hb dX0_luminanceOf_30 (by decide) ?_
  refine lv_iload_n hx hb dX0_luminanceOf_33 rfl (lv_at hl 0 rfl) ?_
  refine lv_imul hx hb dX0_luminanceOf_34 ?_
  refine lv_iload_n hx hb dX0_luminanceOf_35 rfl (lv_at hl 0 rfl) ?_
  refine lv_imul hx hb dX0_luminanceOf_36 ?_
  refine lv_iadd hx hb dX0_luminanceOf_37 ?_
  refine lv_sipush (v := 10000) hx hb dX0_luminanceOf_38 (by decide) ?_
  refine lv_idiv hx hb dX0_luminanceOf_41 (by decide) ?_
  exact re_si (v := (((((2126 * (pRed x)) * (pRed x)) + ((7152 * (pGreen x)) * (pGreen x))) + ((722 * (pBlue x)) * (pBlue x))) / 10000)) hx hb hr hlk rfl dX0_luminanceOf_42

set_option maxHeartbeats 1000000 in
set_option maxRecDepth 100000 in
theorem c_X7_bright (l : Launch) (x : Int32)  : Met l yX7_bright (wz yX7_bright cX7_bright 1 (some .int)) (rmk 1 0 0 20) (va_Pc [.int x] (fun _ => True)) (qSi (fun zz => zz = pBri x)) 0 0 fr0 := by
  refine en_ofW RX7 rfl (by decide +kernel) (Nat.le_of_ble_eq_true rfl) ?_
  intro p e s m below meth c ls S hr hlk hnm hl hB
  have hx := S.1
  have hb := S.2.1
  have hl : lv_has ls 1 [(0, .int x)] := hl
  refine lv_sipush (v := 2126) hx hb dX7_bright_0 (by decide) ?_
  refine lv_iload_n hx hb dX7_bright_3 rfl (lv_at hl 0 rfl) ?_
  refine cn_si (ck_S S lk_X7_176 (c_X7_red l x) ⟨rfl, rfl⟩ ⟨Nat.le_of_ble_eq_true rfl, Nat.le_of_ble_eq_true rfl⟩ bl_T t_U rfl hl.1 (Nat.le_of_ble_eq_true rfl) ⟨Nat.le_refl _, Nat.le_refl _⟩ dX7_bright_4 rfl) (fun r1 g2 => ?_)
  obtain rfl : r1 = pRed x := g2
  refine lv_imul hx hb dX7_bright_7 ?_
  refine lv_iload_n hx hb dX7_bright_8 rfl (lv_at hl 0 rfl) ?_
  refine cn_si (ck_S S lk_X7_176 (c_X7_red l x) ⟨rfl, rfl⟩ ⟨Nat.le_of_ble_eq_true rfl, Nat.le_of_ble_eq_true rfl⟩ bl_T t_U rfl hl.1 (Nat.le_of_ble_eq_true rfl) ⟨Nat.le_refl _, Nat.le_refl _⟩ dX7_bright_9 rfl) (fun r3 g4 => ?_)
  obtain rfl : r3 = pRed x := g4
  refine lv_imul hx hb dX7_bright_12 ?_
  refine lv_sipush (v := 7152) hx hb dX7_bright_13 (by decide) ?_
  refine lv_iload_n hx hb dX7_bright_16 rfl (lv_at hl 0 rfl) ?_
  refine cn_si (ck_S S lk_X7_179 (c_X7_green l x) ⟨rfl, rfl⟩ ⟨Nat.le_of_ble_eq_true rfl, Nat.le_of_ble_eq_true rfl⟩ bl_T t_U rfl hl.1 (Nat.le_of_ble_eq_true rfl) ⟨Nat.le_refl _, Nat.le_refl _⟩ dX7_bright_17 rfl) (fun r5 g6 => ?_)
  obtain rfl : r5 = pGreen x := g6
  refine lv_imul hx hb dX7_bright_20 ?_
  refine lv_iload_n hx hb dX7_bright_21 rfl (lv_at hl 0 rfl) ?_
  refine cn_si (ck_S S lk_X7_179 (c_X7_green l x) ⟨rfl, rfl⟩ ⟨Nat.le_of_ble_eq_true rfl, Nat.le_of_ble_eq_true rfl⟩ bl_T t_U rfl hl.1 (Nat.le_of_ble_eq_true rfl) ⟨Nat.le_refl _, Nat.le_refl _⟩ dX7_bright_22 rfl) (fun r7 g8 => ?_)
  obtain rfl : r7 = pGreen x := g8
  refine lv_imul hx hb dX7_bright_25 ?_
  refine lv_iadd hx hb dX7_bright_26 ?_
  refine lv_sipush (v := 722) hx hb dX7_bright_27 (by decide) ?_
  refine lv_iload_n hx hb dX7_bright_30 rfl (lv_at hl 0 rfl) ?_
  refine cn_si (ck_S S lk_X7_182 (c_X7_blue l x) ⟨rfl, rfl⟩ ⟨Nat.le_of_ble_eq_true rfl, Nat.le_of_ble_eq_true rfl⟩ bl_T t_U rfl hl.1 (Nat.le_of_ble_eq_true rfl) ⟨Nat.le_refl _, Nat.le_refl _⟩ dX7_bright_31 rfl) (fun r9 g10 => ?_)
  obtain rfl : r9 = pBlue x := g10
  refine lv_imul hx hb dX7_bright_34 ?_
  refine lv_iload_n hx hb dX7_bright_35 rfl (lv_at hl 0 rfl) ?_
  refine cn_si (ck_S S lk_X7_182 (c_X7_blue l x) ⟨rfl, rfl⟩ ⟨Nat.le_of_ble_eq_true rfl, Nat.le_of_ble_eq_true rfl⟩ bl_T t_U rfl hl.1 (Nat.le_of_ble_eq_true rfl) ⟨Nat.le_refl _, Nat.le_refl _⟩ dX7_bright_36 rfl) (fun r11 g12 => ?_)
  obtain rfl : r11 = pBlue x := g12
  refine lv_imul hx hb dX7_bright_39 ?_
  refine lv_iadd hx hb dX7_bright_40 ?_
  refine lv_sipush (v := 10000) hx hb dX7_bright_41 (by decide) ?_
  refine lv_idiv hx hb dX7_bright_44 (by decide) ?_
  exact re_si (v := (((((2126 * (pRed x)) * (pRed x)) + ((7152 * (pGreen x)) * (pGreen x))) + ((722 * (pBlue x)) * (pBlue x))) / 10000)) hx hb hr hlk rfl dX7_bright_45

set_option maxHeartbeats 1000000 in
set_option maxRecDepth 100000 in
theorem c_X6_limited (l : Launch) (v lo hi : Int32)  : Met l yX6_limited (wz yX6_limited cX6_limited 3 (some .int)) (rmk 0 0 0 0) (va_Pc [.int v, .int lo, .int hi] (fun _ => True)) (qSi (fun zz => zz = pLim v lo hi)) 0 0 fr0 := by
  refine en_ofW RX6 rfl (by decide +kernel) (Nat.le_of_ble_eq_true rfl) ?_
  intro p e s m below meth c ls S hr hlk hnm hl hB
  have hx := S.1
  have hb := S.2.1
  have hl : lv_has ls 3 [(0, .int v), (1, .int lo), (2, .int hi)] := hl
  refine lv_iload_n hx hb dX6_limited_0 rfl (lv_at hl 0 rfl) ?_
  refine lv_iload_n hx hb dX6_limited_1 rfl (lv_at hl 1 rfl) ?_
  refine lv_icmp_ge (tgt := 9) hx hb dX6_limited_2 (by decide) (fun h2 => ?_) (fun h2 => ?_)
  · refine lv_iload_n hx hb dX6_limited_9 rfl (lv_at hl 0 rfl) ?_
    refine lv_iload_n hx hb dX6_limited_10 rfl (lv_at hl 2 rfl) ?_
    refine lv_icmp_le (tgt := 18) hx hb dX6_limited_11 (by decide) (fun h11 => ?_) (fun h11 => ?_)
    · refine lv_iload_n hx hb dX6_limited_18 rfl (lv_at hl 0 rfl) ?_
      exact re_si (v := v) hx hb hr hlk (by simp [pLim, h2, (n_lt h2), h11, (n_lt h11)]) dX6_limited_19
    · refine lv_iload_n hx hb dX6_limited_14 rfl (lv_at hl 2 rfl) ?_
      refine lv_goto (tgt := 19) hx hb dX6_limited_15 (by decide) ?_
      exact re_si (v := hi) hx hb hr hlk (by simp [pLim, h2, (n_lt h2), h11, (l_lt h11)]) dX6_limited_19
  · refine lv_iload_n hx hb dX6_limited_5 rfl (lv_at hl 1 rfl) ?_
    refine lv_goto (tgt := 19) hx hb dX6_limited_6 (by decide) ?_
    exact re_si (v := lo) hx hb hr hlk (by simp [pLim, h2, (l_lt h2)]) dX6_limited_19

set_option maxHeartbeats 1000000 in
set_option maxRecDepth 100000 in
theorem c_X7_in (l : Launch) (v lo hi : Int32)  : Met l yX7_in (wz yX7_in cX7_in 3 (some .boolean)) (rmk 0 0 0 0) (va_Pc [.int v, .int lo, .int hi] (fun _ => True)) (qSi (fun zz => zz = rIn v lo hi)) 0 0 fr0 := by
  refine en_ofW RX7 rfl (by decide +kernel) (Nat.le_of_ble_eq_true rfl) ?_
  intro p e s m below meth c ls S hr hlk hnm hl hB
  have hx := S.1
  have hb := S.2.1
  have hl : lv_has ls 3 [(0, .int v), (1, .int lo), (2, .int hi)] := hl
  refine lv_iload_n hx hb dX7_in_0 rfl (lv_at hl 0 rfl) ?_
  refine lv_iload_n hx hb dX7_in_1 rfl (lv_at hl 1 rfl) ?_
  refine lv_icmp_lt (tgt := 14) hx hb dX7_in_2 (by decide) (fun h2 => ?_) (fun h2 => ?_)
  · refine lv_iconst (v := 0) hx hb dX7_in_14 (by decide) ?_
    exact re_sz (v := 0) hx hb hr hlk rfl (by simp [rIn, h2, (n_le h2)]) dX7_in_15
  · refine lv_iload_n hx hb dX7_in_5 rfl (lv_at hl 0 rfl) ?_
    refine lv_iload_n hx hb dX7_in_6 rfl (lv_at hl 2 rfl) ?_
    refine lv_icmp_gt (tgt := 14) hx hb dX7_in_7 (by decide) (fun h7 => ?_) (fun h7 => ?_)
    · refine lv_iconst (v := 0) hx hb dX7_in_14 (by decide) ?_
      exact re_sz (v := 0) hx hb hr hlk rfl (by simp [rIn, h2, (l_le h2), h7, (n_le h7)]) dX7_in_15
    · refine lv_iconst (v := 1) hx hb dX7_in_10 (by decide) ?_
      refine lv_goto (tgt := 15) hx hb dX7_in_11 (by decide) ?_
      exact re_sz (v := 1) hx hb hr hlk rfl (by simp [rIn, h2, (l_le h2), h7, (l_le h7)]) dX7_in_15

set_option maxHeartbeats 1000000 in
set_option maxRecDepth 100000 in
theorem c_X7_min (l : Launch) (x y : Int32)  : Met l yX7_min (wz yX7_min cX7_min 2 (some .int)) (rmk 0 0 0 0) (va_Pc [.int x, .int y] (fun _ => True)) (qSi (fun zz => zz = rMin x y)) 0 0 fr0 := by
  refine en_ofW RX7 rfl (by decide +kernel) (Nat.le_of_ble_eq_true rfl) ?_
  intro p e s m below meth c ls S hr hlk hnm hl hB
  have hx := S.1
  have hb := S.2.1
  have hl : lv_has ls 2 [(0, .int x), (1, .int y)] := hl
  refine lv_iload_n hx hb dX7_min_0 rfl (lv_at hl 0 rfl) ?_
  refine lv_iload_n hx hb dX7_min_1 rfl (lv_at hl 1 rfl) ?_
  refine lv_icmp_ge (tgt := 9) hx hb dX7_min_2 (by decide) (fun h2 => ?_) (fun h2 => ?_)
  · refine lv_iload_n hx hb dX7_min_9 rfl (lv_at hl 1 rfl) ?_
    exact re_si (v := y) hx hb hr hlk (by simp [rMin, h2, (n_lt h2)]) dX7_min_10
  · refine lv_iload_n hx hb dX7_min_5 rfl (lv_at hl 0 rfl) ?_
    refine lv_goto (tgt := 10) hx hb dX7_min_6 (by decide) ?_
    exact re_si (v := x) hx hb hr hlk (by simp [rMin, h2, (l_lt h2)]) dX7_min_10

set_option maxHeartbeats 1000000 in
set_option maxRecDepth 100000 in
theorem c_X7_max (l : Launch) (x y : Int32)  : Met l yX7_max (wz yX7_max cX7_max 2 (some .int)) (rmk 0 0 0 0) (va_Pc [.int x, .int y] (fun _ => True)) (qSi (fun zz => zz = rMax x y)) 0 0 fr0 := by
  refine en_ofW RX7 rfl (by decide +kernel) (Nat.le_of_ble_eq_true rfl) ?_
  intro p e s m below meth c ls S hr hlk hnm hl hB
  have hx := S.1
  have hb := S.2.1
  have hl : lv_has ls 2 [(0, .int x), (1, .int y)] := hl
  refine lv_iload_n hx hb dX7_max_0 rfl (lv_at hl 0 rfl) ?_
  refine lv_iload_n hx hb dX7_max_1 rfl (lv_at hl 1 rfl) ?_
  refine lv_icmp_le (tgt := 9) hx hb dX7_max_2 (by decide) (fun h2 => ?_) (fun h2 => ?_)
  · refine lv_iload_n hx hb dX7_max_9 rfl (lv_at hl 1 rfl) ?_
    exact re_si (v := y) hx hb hr hlk (by simp [rMax, h2, (n_lt h2)]) dX7_max_10
  · refine lv_iload_n hx hb dX7_max_5 rfl (lv_at hl 0 rfl) ?_
    refine lv_goto (tgt := 10) hx hb dX7_max_6 (by decide) ?_
    exact re_si (v := x) hx hb hr hlk (by simp [rMax, h2, (l_lt h2)]) dX7_max_10

set_option maxHeartbeats 1000000 in
set_option maxRecDepth 100000 in
theorem c_X7_role (l : Launch) (x : Int32)  : Met l yX7_role (wz yX7_role cX7_role 1 (some .int)) (rmk 0 0 0 0) (va_Pc [.int x] (fun _ => True)) (qSi (fun zz => zz = 4 + 3 * x)) 0 0 fr0 := by
  refine en_ofW RX7 rfl (by decide +kernel) (Nat.le_of_ble_eq_true rfl) ?_
  intro p e s m below meth c ls S hr hlk hnm hl hB
  have hx := S.1
  have hb := S.2.1
  have hl : lv_has ls 1 [(0, .int x)] := hl
  refine lv_iconst (v := 4) hx hb dX7_role_0 (by decide) ?_
  refine lv_iconst (v := 3) hx hb dX7_role_1 (by decide) ?_
  refine lv_iload_n hx hb dX7_role_2 rfl (lv_at hl 0 rfl) ?_
  refine lv_imul hx hb dX7_role_3 ?_
  refine lv_iadd hx hb dX7_role_4 ?_
  exact re_si (v := (4 + (3 * x))) hx hb hr hlk rfl dX7_role_5

set_option maxHeartbeats 1000000 in
set_option maxRecDepth 100000 in
theorem c_X7_rule (l : Launch) (x : Int32)  : Met l yX7_rule (wz yX7_rule cX7_rule 1 (some .int)) (rmk 0 0 0 0) (va_Pc [.int x] (fun _ => True)) (qSi (fun zz => zz = 34 + 4 * x)) 0 0 fr0 := by
  refine en_ofW RX7 rfl (by decide +kernel) (Nat.le_of_ble_eq_true rfl) ?_
  intro p e s m below meth c ls S hr hlk hnm hl hB
  have hx := S.1
  have hb := S.2.1
  have hl : lv_has ls 1 [(0, .int x)] := hl
  refine lv_bipush (v := 34) hx hb dX7_rule_0 (by decide) ?_
  refine lv_iconst (v := 4) hx hb dX7_rule_2 (by decide) ?_
  refine lv_iload_n hx hb dX7_rule_3 rfl (lv_at hl 0 rfl) ?_
  refine lv_imul hx hb dX7_rule_4 ?_
  refine lv_iadd hx hb dX7_rule_5 ?_
  exact re_si (v := (34 + (4 * x))) hx hb hr hlk rfl dX7_rule_6

set_option maxHeartbeats 1000000 in
set_option maxRecDepth 100000 in
theorem c_X7_held (l : Launch) (v : Int32)  : Met l yX7_held (wz yX7_held cX7_held 1 (some .int)) (rmk 1 0 0 21) (va_Pc [.int v] (fun _ => True)) (qSi (fun zz => zz = pHeld v)) 0 0 fr0 := by
  refine en_ofW RX7 rfl (by decide +kernel) (Nat.le_of_ble_eq_true rfl) ?_
  intro p e s m below meth c ls S hr hlk hnm hl hB
  have hx := S.1
  have hb := S.2.1
  have hl : lv_has ls 1 [(0, .int v)] := hl
  refine lv_iconst (v := 0) hx hb dX7_held_0 (by decide) ?_
  refine lv_sipush (v := 255) hx hb dX7_held_1 (by decide) ?_
  refine lv_iload_n hx hb dX7_held_4 rfl (lv_at hl 0 rfl) ?_
  refine cn_si (ck_S S lk_X7_91 (c_X7_min l 255 v) ⟨rfl, rfl⟩ ⟨Nat.le_of_ble_eq_true rfl, Nat.le_of_ble_eq_true rfl⟩ bl_T t_U rfl hl.1 (Nat.le_of_ble_eq_true rfl) ⟨Nat.le_refl _, Nat.le_refl _⟩ dX7_held_5 rfl) (fun r1 g2 => ?_)
  obtain rfl : r1 = rMin 255 v := g2
  refine cn_si (ck_S S lk_X7_188 (c_X7_max l 0 (rMin 255 v)) ⟨rfl, rfl⟩ ⟨Nat.le_of_ble_eq_true rfl, Nat.le_of_ble_eq_true rfl⟩ bl_T t_U rfl hl.1 (Nat.le_of_ble_eq_true rfl) ⟨Nat.le_refl _, Nat.le_refl _⟩ dX7_held_8 rfl) (fun r3 g4 => ?_)
  obtain rfl : r3 = rMax 0 (rMin 255 v) := g4
  exact re_si (v := (rMax 0 (rMin 255 v))) hx hb hr hlk rfl dX7_held_11

set_option maxHeartbeats 1000000 in
set_option maxRecDepth 100000 in
theorem c_X7_channel (l : Launch) (f g h c0 : Int32)  : Met l yX7_channel (wz yX7_channel cX7_channel 4 (some .int)) (rmk 2 0 0 41) (va_Pc [.int f, .int g, .int h, .int c0] (fun _ => True)) (qSi (fun zz => zz = rCh f g h c0)) 0 0 fr0 := by
  refine en_ofW RX7 rfl (by decide +kernel) (Nat.le_of_ble_eq_true rfl) ?_
  intro p e s m below meth c ls S hr hlk hnm hl hB
  have hx := S.1
  have hb := S.2.1
  have hl : lv_has ls 4 [(0, .int f), (1, .int g), (2, .int h), (3, .int c0)] := hl
  refine lv_iload_n hx hb dX7_channel_0 rfl (lv_at hl 0 rfl) ?_
  refine lv_iload_n hx hb dX7_channel_1 rfl (lv_at hl 3 rfl) ?_
  refine cn_si (ck_S S lk_X7_176 (c_X7_red l c0) ⟨rfl, rfl⟩ ⟨Nat.le_of_ble_eq_true rfl, Nat.le_of_ble_eq_true rfl⟩ bl_T t_U rfl hl.1 (Nat.le_of_ble_eq_true rfl) ⟨Nat.le_refl _, Nat.le_refl _⟩ dX7_channel_2 rfl) (fun r1 g2 => ?_)
  obtain rfl : r1 = pRed c0 := g2
  refine lv_imul hx hb dX7_channel_5 ?_
  refine lv_iload_n hx hb dX7_channel_6 rfl (lv_at hl 1 rfl) ?_
  refine lv_iload_n hx hb dX7_channel_7 rfl (lv_at hl 3 rfl) ?_
  refine cn_si (ck_S S lk_X7_179 (c_X7_green l c0) ⟨rfl, rfl⟩ ⟨Nat.le_of_ble_eq_true rfl, Nat.le_of_ble_eq_true rfl⟩ bl_T t_U rfl hl.1 (Nat.le_of_ble_eq_true rfl) ⟨Nat.le_refl _, Nat.le_refl _⟩ dX7_channel_8 rfl) (fun r3 g4 => ?_)
  obtain rfl : r3 = pGreen c0 := g4
  refine lv_imul hx hb dX7_channel_11 ?_
  refine lv_iadd hx hb dX7_channel_12 ?_
  refine lv_iload_n hx hb dX7_channel_13 rfl (lv_at hl 2 rfl) ?_
  refine lv_iload_n hx hb dX7_channel_14 rfl (lv_at hl 3 rfl) ?_
  refine cn_si (ck_S S lk_X7_182 (c_X7_blue l c0) ⟨rfl, rfl⟩ ⟨Nat.le_of_ble_eq_true rfl, Nat.le_of_ble_eq_true rfl⟩ bl_T t_U rfl hl.1 (Nat.le_of_ble_eq_true rfl) ⟨Nat.le_refl _, Nat.le_refl _⟩ dX7_channel_15 rfl) (fun r5 g6 => ?_)
  obtain rfl : r5 = pBlue c0 := g6
  refine lv_imul hx hb dX7_channel_18 ?_
  refine lv_iadd hx hb dX7_channel_19 ?_
  refine lv_sipush (v := 1000) hx hb dX7_channel_20 (by decide) ?_
  refine lv_idiv hx hb dX7_channel_23 (by decide) ?_
  refine cn_si (ck_S S lk_X7_191 (c_X7_held l ((((f * (pRed c0)) + (g * (pGreen c0))) + (h * (pBlue c0))) / 1000)) ⟨rfl, rfl⟩ ⟨Nat.le_of_ble_eq_true rfl, Nat.le_of_ble_eq_true rfl⟩ bl_T t_U rfl hl.1 (Nat.le_of_ble_eq_true rfl) ⟨Nat.le_refl _, Nat.le_refl _⟩ dX7_channel_24 rfl) (fun r7 g8 => ?_)
  obtain rfl : r7 = pHeld ((((f * (pRed c0)) + (g * (pGreen c0))) + (h * (pBlue c0))) / 1000) := g8
  exact re_si (v := (pHeld ((((f * (pRed c0)) + (g * (pGreen c0))) + (h * (pBlue c0))) / 1000))) hx hb hr hlk rfl dX7_channel_27

set_option maxHeartbeats 1000000 in
set_option maxRecDepth 100000 in
theorem c_X7_apart (l : Launch) (x y : Int32)  : Met l yX7_apart (wz yX7_apart cX7_apart 2 (some .int)) (rmk 0 0 0 0) (va_Pc [.int x, .int y] (fun _ => True)) (qSi (fun zz => zz = rApart x y)) 0 0 fr0 := by
  refine en_ofW RX7 rfl (by decide +kernel) (Nat.le_of_ble_eq_true rfl) ?_
  intro p e s m below meth c ls S hr hlk hnm hl hB
  have hx := S.1
  have hb := S.2.1
  have hl : lv_has ls 2 [(0, .int x), (1, .int y)] := hl
  refine lv_iload_n hx hb dX7_apart_0 rfl (lv_at hl 0 rfl) ?_
  refine lv_iload_n hx hb dX7_apart_1 rfl (lv_at hl 1 rfl) ?_
  refine lv_icmp_le (tgt := 11) hx hb dX7_apart_2 (by decide) (fun h2 => ?_) (fun h2 => ?_)
  · refine lv_iload_n hx hb dX7_apart_11 rfl (lv_at hl 1 rfl) ?_
    refine lv_iload_n hx hb dX7_apart_12 rfl (lv_at hl 0 rfl) ?_
    refine lv_isub hx hb dX7_apart_13 ?_
    exact re_si (v := (y - x)) hx hb hr hlk (by simp [rApart, h2, (n_lt h2)]) dX7_apart_14
  · refine lv_iload_n hx hb dX7_apart_5 rfl (lv_at hl 0 rfl) ?_
    refine lv_iload_n hx hb dX7_apart_6 rfl (lv_at hl 1 rfl) ?_
    refine lv_isub hx hb dX7_apart_7 ?_
    refine lv_goto (tgt := 14) hx hb dX7_apart_8 (by decide) ?_
    exact re_si (v := (x - y)) hx hb hr hlk (by simp [rApart, h2, (l_lt h2)]) dX7_apart_14

set_option maxHeartbeats 1000000 in
set_option maxRecDepth 100000 in
theorem c_X7_differenceOf (l : Launch) (x y : Int32)  : Met l yX7_differenceOf (wz yX7_differenceOf cX7_differenceOf 2 (some .int)) (rmk 1 0 0 21) (va_Pc [.int x, .int y] (fun _ => True)) (qSi (fun zz => zz = rDif x y)) 0 0 fr0 := by
  refine en_ofW RX7 rfl (by decide +kernel) (Nat.le_of_ble_eq_true rfl) ?_
  intro p e s m below meth c ls S hr hlk hnm hl hB
  have hx := S.1
  have hb := S.2.1
  have hl : lv_has ls 2 [(0, .int x), (1, .int y)] := hl
  refine lv_iconst (v := 3) hx hb dX7_differenceOf_0 (by decide) ?_
  refine lv_iload_n hx hb dX7_differenceOf_1 rfl (lv_at hl 0 rfl) ?_
  refine cn_si (ck_S S lk_X7_176 (c_X7_red l x) ⟨rfl, rfl⟩ ⟨Nat.le_of_ble_eq_true rfl, Nat.le_of_ble_eq_true rfl⟩ bl_T t_U rfl hl.1 (Nat.le_of_ble_eq_true rfl) ⟨Nat.le_refl _, Nat.le_refl _⟩ dX7_differenceOf_2 rfl) (fun r1 g2 => ?_)
  obtain rfl : r1 = pRed x := g2
  refine lv_iload_n hx hb dX7_differenceOf_5 rfl (lv_at hl 1 rfl) ?_
  refine cn_si (ck_S S lk_X7_176 (c_X7_red l y) ⟨rfl, rfl⟩ ⟨Nat.le_of_ble_eq_true rfl, Nat.le_of_ble_eq_true rfl⟩ bl_T t_U rfl hl.1 (Nat.le_of_ble_eq_true rfl) ⟨Nat.le_refl _, Nat.le_refl _⟩ dX7_differenceOf_6 rfl) (fun r3 g4 => ?_)
  obtain rfl : r3 = pRed y := g4
  refine cn_si (ck_S S lk_X7_198 (c_X7_apart l (pRed x) (pRed y)) ⟨rfl, rfl⟩ ⟨Nat.le_of_ble_eq_true rfl, Nat.le_of_ble_eq_true rfl⟩ bl_T t_U rfl hl.1 (Nat.le_of_ble_eq_true rfl) ⟨Nat.le_refl _, Nat.le_refl _⟩ dX7_differenceOf_9 rfl) (fun r5 g6 => ?_)
  obtain rfl : r5 = rApart (pRed x) (pRed y) := g6
  refine lv_imul hx hb dX7_differenceOf_12 ?_
  refine lv_iconst (v := 4) hx hb dX7_differenceOf_13 (by decide) ?_
  refine lv_iload_n hx hb dX7_differenceOf_14 rfl (lv_at hl 0 rfl) ?_
  refine cn_si (ck_S S lk_X7_179 (c_X7_green l x) ⟨rfl, rfl⟩ ⟨Nat.le_of_ble_eq_true rfl, Nat.le_of_ble_eq_true rfl⟩ bl_T t_U rfl hl.1 (Nat.le_of_ble_eq_true rfl) ⟨Nat.le_refl _, Nat.le_refl _⟩ dX7_differenceOf_15 rfl) (fun r7 g8 => ?_)
  obtain rfl : r7 = pGreen x := g8
  refine lv_iload_n hx hb dX7_differenceOf_18 rfl (lv_at hl 1 rfl) ?_
  refine cn_si (ck_S S lk_X7_179 (c_X7_green l y) ⟨rfl, rfl⟩ ⟨Nat.le_of_ble_eq_true rfl, Nat.le_of_ble_eq_true rfl⟩ bl_T t_U rfl hl.1 (Nat.le_of_ble_eq_true rfl) ⟨Nat.le_refl _, Nat.le_refl _⟩ dX7_differenceOf_19 rfl) (fun r9 g10 => ?_)
  obtain rfl : r9 = pGreen y := g10
  refine cn_si (ck_S S lk_X7_198 (c_X7_apart l (pGreen x) (pGreen y)) ⟨rfl, rfl⟩ ⟨Nat.le_of_ble_eq_true rfl, Nat.le_of_ble_eq_true rfl⟩ bl_T t_U rfl hl.1 (Nat.le_of_ble_eq_true rfl) ⟨Nat.le_refl _, Nat.le_refl _⟩ dX7_differenceOf_22 rfl) (fun r11 g12 => ?_)
  obtain rfl : r11 = rApart (pGreen x) (pGreen y) := g12
  refine lv_imul hx hb dX7_differenceOf_25 ?_
  refine lv_iadd hx hb dX7_differenceOf_26 ?_
  refine lv_iconst (v := 2) hx hb dX7_differenceOf_27 (by decide) ?_
  refine lv_iload_n hx hb dX7_differenceOf_28 rfl (lv_at hl 0 rfl) ?_
  refine cn_si (ck_S S lk_X7_182 (c_X7_blue l x) ⟨rfl, rfl⟩ ⟨Nat.le_of_ble_eq_true rfl, Nat.le_of_ble_eq_true rfl⟩ bl_T t_U rfl hl.1 (Nat.le_of_ble_eq_true rfl) ⟨Nat.le_refl _, Nat.le_refl _⟩ dX7_differenceOf_29 rfl) (fun r13 g14 => ?_)
  obtain rfl : r13 = pBlue x := g14
  refine lv_iload_n hx hb dX7_differenceOf_32 rfl (lv_at hl 1 rfl) ?_
  refine cn_si (ck_S S lk_X7_182 (c_X7_blue l y) ⟨rfl, rfl⟩ ⟨Nat.le_of_ble_eq_true rfl, Nat.le_of_ble_eq_true rfl⟩ bl_T t_U rfl hl.1 (Nat.le_of_ble_eq_true rfl) ⟨Nat.le_refl _, Nat.le_refl _⟩ dX7_differenceOf_33 rfl) (fun r15 g16 => ?_)
  obtain rfl : r15 = pBlue y := g16
  refine cn_si (ck_S S lk_X7_198 (c_X7_apart l (pBlue x) (pBlue y)) ⟨rfl, rfl⟩ ⟨Nat.le_of_ble_eq_true rfl, Nat.le_of_ble_eq_true rfl⟩ bl_T t_U rfl hl.1 (Nat.le_of_ble_eq_true rfl) ⟨Nat.le_refl _, Nat.le_refl _⟩ dX7_differenceOf_36 rfl) (fun r17 g18 => ?_)
  obtain rfl : r17 = rApart (pBlue x) (pBlue y) := g18
  refine lv_imul hx hb dX7_differenceOf_39 ?_
  refine lv_iadd hx hb dX7_differenceOf_40 ?_
  exact re_si (v := (((3 * (rApart (pRed x) (pRed y))) + (4 * (rApart (pGreen x) (pGreen y)))) + (2 * (rApart (pBlue x) (pBlue y))))) hx hb hr hlk rfl dX7_differenceOf_41

set_option maxHeartbeats 1000000 in
set_option maxRecDepth 100000 in
theorem c_X7_shifted (l : Launch) (x y : Int32)  : Met l yX7_shifted (wz yX7_shifted cX7_shifted 2 (some .int)) (rmk 2 0 0 41) (va_Pc [.int x, .int y] (fun _ => True)) (qSi (fun zz => zz = rShf x y)) 0 0 fr0 := by
  refine en_ofW RX7 rfl (by decide +kernel) (Nat.le_of_ble_eq_true rfl) ?_
  intro p e s m below meth c ls S hr hlk hnm hl hB
  have hx := S.1
  have hb := S.2.1
  have hl : lv_has ls 2 [(0, .int x), (1, .int y)] := hl
  refine lv_iload_n hx hb dX7_shifted_0 rfl (lv_at hl 0 rfl) ?_
  refine cn_si (ck_S S lk_X7_176 (c_X7_red l x) ⟨rfl, rfl⟩ ⟨Nat.le_of_ble_eq_true rfl, Nat.le_of_ble_eq_true rfl⟩ bl_T t_U rfl hl.1 (Nat.le_of_ble_eq_true rfl) ⟨Nat.le_refl _, Nat.le_refl _⟩ dX7_shifted_1 rfl) (fun r1 g2 => ?_)
  obtain rfl : r1 = pRed x := g2
  refine lv_iload_n hx hb dX7_shifted_4 rfl (lv_at hl 1 rfl) ?_
  refine lv_iadd hx hb dX7_shifted_5 ?_
  refine cn_si (ck_S S lk_X7_191 (c_X7_held l ((pRed x) + y)) ⟨rfl, rfl⟩ ⟨Nat.le_of_ble_eq_true rfl, Nat.le_of_ble_eq_true rfl⟩ bl_T t_U rfl hl.1 (Nat.le_of_ble_eq_true rfl) ⟨Nat.le_refl _, Nat.le_refl _⟩ dX7_shifted_6 rfl) (fun r3 g4 => ?_)
  obtain rfl : r3 = pHeld ((pRed x) + y) := g4
  refine lv_iload_n hx hb dX7_shifted_9 rfl (lv_at hl 0 rfl) ?_
  refine cn_si (ck_S S lk_X7_179 (c_X7_green l x) ⟨rfl, rfl⟩ ⟨Nat.le_of_ble_eq_true rfl, Nat.le_of_ble_eq_true rfl⟩ bl_T t_U rfl hl.1 (Nat.le_of_ble_eq_true rfl) ⟨Nat.le_refl _, Nat.le_refl _⟩ dX7_shifted_10 rfl) (fun r5 g6 => ?_)
  obtain rfl : r5 = pGreen x := g6
  refine lv_iload_n hx hb dX7_shifted_13 rfl (lv_at hl 1 rfl) ?_
  refine lv_iadd hx hb dX7_shifted_14 ?_
  refine cn_si (ck_S S lk_X7_191 (c_X7_held l ((pGreen x) + y)) ⟨rfl, rfl⟩ ⟨Nat.le_of_ble_eq_true rfl, Nat.le_of_ble_eq_true rfl⟩ bl_T t_U rfl hl.1 (Nat.le_of_ble_eq_true rfl) ⟨Nat.le_refl _, Nat.le_refl _⟩ dX7_shifted_15 rfl) (fun r7 g8 => ?_)
  obtain rfl : r7 = pHeld ((pGreen x) + y) := g8
  refine lv_iload_n hx hb dX7_shifted_18 rfl (lv_at hl 0 rfl) ?_
  refine cn_si (ck_S S lk_X7_182 (c_X7_blue l x) ⟨rfl, rfl⟩ ⟨Nat.le_of_ble_eq_true rfl, Nat.le_of_ble_eq_true rfl⟩ bl_T t_U rfl hl.1 (Nat.le_of_ble_eq_true rfl) ⟨Nat.le_refl _, Nat.le_refl _⟩ dX7_shifted_19 rfl) (fun r9 g10 => ?_)
  obtain rfl : r9 = pBlue x := g10
  refine lv_iload_n hx hb dX7_shifted_22 rfl (lv_at hl 1 rfl) ?_
  refine lv_iadd hx hb dX7_shifted_23 ?_
  refine cn_si (ck_S S lk_X7_191 (c_X7_held l ((pBlue x) + y)) ⟨rfl, rfl⟩ ⟨Nat.le_of_ble_eq_true rfl, Nat.le_of_ble_eq_true rfl⟩ bl_T t_U rfl hl.1 (Nat.le_of_ble_eq_true rfl) ⟨Nat.le_refl _, Nat.le_refl _⟩ dX7_shifted_24 rfl) (fun r11 g12 => ?_)
  obtain rfl : r11 = pHeld ((pBlue x) + y) := g12
  refine cn_si (ck_S S lk_X7_128 (c_X7_mixed l (pHeld ((pRed x) + y)) (pHeld ((pGreen x) + y)) (pHeld ((pBlue x) + y))) ⟨rfl, rfl⟩ ⟨Nat.le_of_ble_eq_true rfl, Nat.le_of_ble_eq_true rfl⟩ bl_T t_U rfl hl.1 (Nat.le_of_ble_eq_true rfl) ⟨Nat.le_refl _, Nat.le_refl _⟩ dX7_shifted_27 rfl) (fun r13 g14 => ?_)
  obtain rfl : r13 = pMix (pHeld ((pRed x) + y)) (pHeld ((pGreen x) + y)) (pHeld ((pBlue x) + y)) := g14
  exact re_si (v := (pMix (pHeld ((pRed x) + y)) (pHeld ((pGreen x) + y)) (pHeld ((pBlue x) + y)))) hx hb hr hlk rfl dX7_shifted_30

set_option maxHeartbeats 1000000 in
set_option maxRecDepth 100000 in
theorem c_X7_isDigit (l : Launch) (x : Int32)  : Met l yX7_isDigit (wz yX7_isDigit cX7_isDigit 1 (some .boolean)) (rmk 1 0 0 22) (va_Pc [.int x] (fun _ => True)) (qSi (fun zz => zz = rIn x 48 57)) 0 0 fr0 := by
  refine en_ofW RX7 rfl (by decide +kernel) (Nat.le_of_ble_eq_true rfl) ?_
  intro p e s m below meth c ls S hr hlk hnm hl hB
  have hx := S.1
  have hb := S.2.1
  have hl : lv_has ls 1 [(0, .int x)] := hl
  refine lv_iload_n hx hb dX7_isDigit_0 rfl (lv_at hl 0 rfl) ?_
  refine lv_bipush (v := 48) hx hb dX7_isDigit_1 (by decide) ?_
  refine lv_bipush (v := 57) hx hb dX7_isDigit_3 (by decide) ?_
  refine cn_si (ck_S S lk_X7_58 (c_X7_in l x 48 57) ⟨rfl, rfl⟩ ⟨Nat.le_of_ble_eq_true rfl, Nat.le_of_ble_eq_true rfl⟩ bl_T t_U rfl hl.1 (Nat.le_of_ble_eq_true rfl) ⟨Nat.le_refl _, Nat.le_refl _⟩ dX7_isDigit_5 rfl) (fun r1 g2 => ?_)
  obtain rfl : r1 = rIn x 48 57 := g2
  exact re_sz (v := (rIn x 48 57)) hx hb hr hlk (by unfold rIn; split; rfl; split <;> rfl) rfl dX7_isDigit_8

set_option maxHeartbeats 1000000 in
set_option maxRecDepth 100000 in
theorem c_X0_shifted (l : Launch) (E : En) (x y : Int32)  : Met l yX0_shifted (wz yX0_shifted cX0_shifted 2 (some .int)) (rmk 1 0 0 22) (va_Pc [.int x, .int y] (Bs E)) (qSi (fun zz => zz = cShf x y)) 0 0 fr0 := by
  refine en_ofW RX0 rfl (by decide +kernel) (Nat.le_of_ble_eq_true rfl) ?_
  intro p e s m below meth c ls S hr hlk hnm hl hB
  have hx := S.1
  have hb := S.2.1
  have hC : Stc E s s.heap := hB
  have hl : lv_has ls 2 [(0, .int x), (1, .int y)] := hl
  refine lv_iload_n hx hb dX0_shifted_0 rfl (lv_at hl 0 rfl) ?_
  refine cn_si (ck_S S lk_X0_10 (c_X0_red l x) ⟨rfl, rfl⟩ ⟨Nat.le_of_ble_eq_true rfl, Nat.le_of_ble_eq_true rfl⟩ bl_T t_U rfl hl.1 (Nat.le_of_ble_eq_true rfl) ⟨Nat.le_refl _, Nat.le_refl _⟩ dX0_shifted_1 rfl) (fun r1 g2 => ?_)
  obtain rfl : r1 = pRed x := g2
  refine lv_iload_n hx hb dX0_shifted_4 rfl (lv_at hl 1 rfl) ?_
  refine lv_iadd hx hb dX0_shifted_5 ?_
  refine lv_iconst (v := 0) hx hb dX0_shifted_6 (by decide) ?_
  refine lv_sipush (v := 255) hx hb dX0_shifted_7 (by decide) ?_
  refine cn_si (ck_N S ln_X6_limited hC.1.1.2.2.1 (c_X6_limited l ((pRed x) + y) 0 255) ⟨rfl, rfl⟩ ⟨Nat.le_of_ble_eq_true rfl, Nat.le_of_ble_eq_true rfl⟩ bl_T t_U rfl hl.1 (Nat.le_of_ble_eq_true rfl) ⟨Nat.le_refl _, Nat.le_refl _⟩ dX0_shifted_10 rfl) (fun r3 g4 => ?_)
  obtain rfl : r3 = pLim ((pRed x) + y) 0 255 := g4
  refine lv_iload_n hx hb dX0_shifted_13 rfl (lv_at hl 0 rfl) ?_
  refine cn_si (ck_S S lk_X0_16 (c_X0_green l x) ⟨rfl, rfl⟩ ⟨Nat.le_of_ble_eq_true rfl, Nat.le_of_ble_eq_true rfl⟩ bl_T t_U rfl hl.1 (Nat.le_of_ble_eq_true rfl) ⟨Nat.le_refl _, Nat.le_refl _⟩ dX0_shifted_14 rfl) (fun r5 g6 => ?_)
  obtain rfl : r5 = pGreen x := g6
  refine lv_iload_n hx hb dX0_shifted_17 rfl (lv_at hl 1 rfl) ?_
  refine lv_iadd hx hb dX0_shifted_18 ?_
  refine lv_iconst (v := 0) hx hb dX0_shifted_19 (by decide) ?_
  refine lv_sipush (v := 255) hx hb dX0_shifted_20 (by decide) ?_
  refine cn_si (ck_N S ln_X6_limited hC.1.1.2.2.1 (c_X6_limited l ((pGreen x) + y) 0 255) ⟨rfl, rfl⟩ ⟨Nat.le_of_ble_eq_true rfl, Nat.le_of_ble_eq_true rfl⟩ bl_T t_U rfl hl.1 (Nat.le_of_ble_eq_true rfl) ⟨Nat.le_refl _, Nat.le_refl _⟩ dX0_shifted_23 rfl) (fun r7 g8 => ?_)
  obtain rfl : r7 = pLim ((pGreen x) + y) 0 255 := g8
  refine lv_iload_n hx hb dX0_shifted_26 rfl (lv_at hl 0 rfl) ?_
  refine cn_si (ck_S S lk_X0_19 (c_X0_blue l x) ⟨rfl, rfl⟩ ⟨Nat.le_of_ble_eq_true rfl, Nat.le_of_ble_eq_true rfl⟩ bl_T t_U rfl hl.1 (Nat.le_of_ble_eq_true rfl) ⟨Nat.le_refl _, Nat.le_refl _⟩ dX0_shifted_27 rfl) (fun r9 g10 => ?_)
  obtain rfl : r9 = pBlue x := g10
  refine lv_iload_n hx hb dX0_shifted_30 rfl (lv_at hl 1 rfl) ?_
  refine lv_iadd hx hb dX0_shifted_31 ?_
  refine lv_iconst (v := 0) hx hb dX0_shifted_32 (by decide) ?_
  refine lv_sipush (v := 255) hx hb dX0_shifted_33 (by decide) ?_
  refine cn_si (ck_N S ln_X6_limited hC.1.1.2.2.1 (c_X6_limited l ((pBlue x) + y) 0 255) ⟨rfl, rfl⟩ ⟨Nat.le_of_ble_eq_true rfl, Nat.le_of_ble_eq_true rfl⟩ bl_T t_U rfl hl.1 (Nat.le_of_ble_eq_true rfl) ⟨Nat.le_refl _, Nat.le_refl _⟩ dX0_shifted_36 rfl) (fun r11 g12 => ?_)
  obtain rfl : r11 = pLim ((pBlue x) + y) 0 255 := g12
  refine cn_si (ck_S S lk_X0_37 (c_X0_joined l (pLim ((pRed x) + y) 0 255) (pLim ((pGreen x) + y) 0 255) (pLim ((pBlue x) + y) 0 255)) ⟨rfl, rfl⟩ ⟨Nat.le_of_ble_eq_true rfl, Nat.le_of_ble_eq_true rfl⟩ bl_T t_U rfl hl.1 (Nat.le_of_ble_eq_true rfl) ⟨Nat.le_refl _, Nat.le_refl _⟩ dX0_shifted_39 rfl) (fun r13 g14 => ?_)
  obtain rfl : r13 = pMix (pLim ((pRed x) + y) 0 255) (pLim ((pGreen x) + y) 0 255) (pLim ((pBlue x) + y) 0 255) := g14
  exact re_si (v := (pMix (pLim ((pRed x) + y) 0 255) (pLim ((pGreen x) + y) 0 255) (pLim ((pBlue x) + y) 0 255))) hx hb hr hlk rfl dX0_shifted_42

set_option maxHeartbeats 1000000 in
set_option maxRecDepth 100000 in
theorem c_X0_contrastOf (l : Launch) (x y : Int32)  : Met l yX0_contrastOf (wz yX0_contrastOf cX0_contrastOf 5 (some .int)) (rmk 2 0 0 43) (va_Pc [.int x, .int y] (fun _ => True)) (qSi (fun zz => zz = cCon x y)) 0 0 fr0 := by
  refine en_ofW RX0 rfl (by decide +kernel) (Nat.le_of_ble_eq_true rfl) ?_
  intro p e s m below meth c ls S hr hlk hnm hl hB
  have hx := S.1
  have hb := S.2.1
  have hl : lv_has ls 5 [(0, .int x), (1, .int y)] := hl
  refine lv_iload_n hx hb dX0_contrastOf_0 rfl (lv_at hl 0 rfl) ?_
  refine cn_si (ck_S S lk_X0_22 (c_X0_luminanceOf l x) ⟨rfl, rfl⟩ ⟨Nat.le_of_ble_eq_true rfl, Nat.le_of_ble_eq_true rfl⟩ bl_T t_U rfl hl.1 (Nat.le_of_ble_eq_true rfl) ⟨Nat.le_refl _, Nat.le_refl _⟩ dX0_contrastOf_1 rfl) (fun r1 g2 => ?_)
  obtain rfl : r1 = pBri x := g2
  refine lv_sipush (v := 3251) hx hb dX0_contrastOf_4 (by decide) ?_
  refine lv_iadd hx hb dX0_contrastOf_7 ?_
  refine lv_istore_n (lv' := [(2, .int ((pBri x) + 3251)), (0, .int x), (1, .int y)]) hx hb dX0_contrastOf_8 rfl hl (by decide) rfl (fun ls hl => ?_)
  refine lv_iload_n hx hb dX0_contrastOf_9 rfl (lv_at hl 2 rfl) ?_
  refine cn_si (ck_S S lk_X0_22 (c_X0_luminanceOf l y) ⟨rfl, rfl⟩ ⟨Nat.le_of_ble_eq_true rfl, Nat.le_of_ble_eq_true rfl⟩ bl_T t_U rfl hl.1 (Nat.le_of_ble_eq_true rfl) ⟨Nat.le_refl _, Nat.le_refl _⟩ dX0_contrastOf_10 rfl) (fun r3 g4 => ?_)
  obtain rfl : r3 = pBri y := g4
  refine lv_sipush (v := 3251) hx hb dX0_contrastOf_13 (by decide) ?_
  refine lv_iadd hx hb dX0_contrastOf_16 ?_
  refine lv_istore_n (lv' := [(3, .int ((pBri y) + 3251)), (2, .int ((pBri x) + 3251)), (0, .int x), (1, .int y)]) hx hb dX0_contrastOf_17 rfl hl (by decide) rfl (fun ls hl => ?_)
  refine lv_iload_n hx hb dX0_contrastOf_18 rfl (lv_at hl 1 rfl) ?_
  refine lv_iload_n hx hb dX0_contrastOf_19 rfl (lv_at hl 0 rfl) ?_
  refine va_mmin hx hb (S.2.2.1.trans hl.1.symm) S.2.2.2.1 (S.2.2.2.2 _ km_X0_25) (S.2.2.2.2 _ ms_min) (S.2.2.2.2 _ mi_Math) (S.2.2.2.2 _ mc_min) (Nat.le_of_ble_eq_true rfl) (Nat.le_of_ble_eq_true rfl) (Nat.zero_le _) (Nat.zero_le _) dX0_contrastOf_20 ?_
  refine W.eq (g2 := F0 m 23 ls [.int (iMin ((pBri x) + 3251) ((pBri y) + 3251))]) rfl ?_
  refine lv_istore (lv' := [(4, .int (iMin ((pBri x) + 3251) ((pBri y) + 3251))), (3, .int ((pBri y) + 3251)), (2, .int ((pBri x) + 3251)), (0, .int x), (1, .int y)]) hx hb dX0_contrastOf_23 hl (by decide) rfl (fun ls hl => ?_)
  refine lv_iload hx hb dX0_contrastOf_25 (lv_at hl 0 rfl) ?_
  refine lv_if_gt (tgt := 34) hx hb dX0_contrastOf_27 (by decide) (fun h27 => ?_) (fun h27 => ?_)
  · refine lv_bipush (v := 100) hx hb dX0_contrastOf_34 (by decide) ?_
    refine lv_iload_n hx hb dX0_contrastOf_36 rfl (lv_at hl 2 rfl) ?_
    refine lv_iload_n hx hb dX0_contrastOf_37 rfl (lv_at hl 1 rfl) ?_
    refine va_mmax hx hb (S.2.2.1.trans hl.1.symm) S.2.2.2.1 (S.2.2.2.2 _ km_X0_31) (S.2.2.2.2 _ ms_max) (S.2.2.2.2 _ mi_Math) (S.2.2.2.2 _ mc_max) (Nat.le_of_ble_eq_true rfl) (Nat.le_of_ble_eq_true rfl) (Nat.zero_le _) (Nat.zero_le _) dX0_contrastOf_38 ?_
    refine W.eq (g2 := F0 m 41 ls [.int (iMax ((pBri x) + 3251) ((pBri y) + 3251)), .int 100]) rfl ?_
    refine lv_imul hx hb dX0_contrastOf_41 ?_
    refine lv_iload hx hb dX0_contrastOf_42 (lv_at hl 0 rfl) ?_
    refine lv_idiv hx hb dX0_contrastOf_44 (fun q => by rw [q] at h27; exact absurd h27 (by decide)) ?_
    exact re_si (v := ((100 * (iMax ((pBri x) + 3251) ((pBri y) + 3251))) / (iMin ((pBri x) + 3251) ((pBri y) + 3251)))) hx hb hr hlk (by simp [cCon, h27, (n_le h27)]) dX0_contrastOf_45
  · refine lv_iconst (v := 0) hx hb dX0_contrastOf_30 (by decide) ?_
    refine lv_goto (tgt := 45) hx hb dX0_contrastOf_31 (by decide) ?_
    exact re_si (v := 0) hx hb hr hlk (by simp [cCon, h27, (l_le h27)]) dX0_contrastOf_45

set_option maxHeartbeats 1000000 in
set_option maxRecDepth 100000 in
theorem c_X1_choiceAmount (l : Launch) (k : Int32)  : Met l yX1_choiceAmount (wz yX1_choiceAmount cX1_choiceAmount 2 (some .int)) (rmk 0 0 0 0) (va_Pc [.int k] (fun _ => True)) (qSi (fun zz => zz = cAmt k)) 0 0 fr0 := by
  refine en_ofW RX1 rfl (by decide +kernel) (Nat.le_of_ble_eq_true rfl) ?_
  intro p e s m below meth c ls S hr hlk hnm hl hB
  have hx := S.1
  have hb := S.2.1
  have hl : lv_has ls 2 [(0, .int k)] := hl
  refine lv_iload_n hx hb dX1_choiceAmount_0 rfl (lv_at hl 0 rfl) ?_
  refine lv_iconst (v := 4) hx hb dX1_choiceAmount_1 (by decide) ?_
  refine lv_idiv hx hb dX1_choiceAmount_2 (by decide) ?_
  refine lv_iconst (v := 1) hx hb dX1_choiceAmount_3 (by decide) ?_
  refine lv_iadd hx hb dX1_choiceAmount_4 ?_
  refine lv_istore_n (lv' := [(1, .int ((k / 4) + 1)), (0, .int k)]) hx hb dX1_choiceAmount_5 rfl hl (by decide) rfl (fun ls hl => ?_)
  refine lv_iload_n hx hb dX1_choiceAmount_6 rfl (lv_at hl 1 rfl) ?_
  refine lv_iconst (v := 2) hx hb dX1_choiceAmount_7 (by decide) ?_
  refine lv_idiv hx hb dX1_choiceAmount_8 (by decide) ?_
  refine lv_iconst (v := 2) hx hb dX1_choiceAmount_9 (by decide) ?_
  refine lv_irem hx hb dX1_choiceAmount_10 (by decide) ?_
  refine lv_if_ne (tgt := 18) hx hb dX1_choiceAmount_11 (by decide) (fun h11 => ?_) (fun h11 => ?_)
  · refine lv_iload_n hx hb dX1_choiceAmount_18 rfl (lv_at hl 0 rfl) ?_
    refine lv_ineg hx hb dX1_choiceAmount_19 ?_
    exact re_si (v := (-((k / 4) + 1))) hx hb hr hlk (by simp [cAmt, h11]) dX1_choiceAmount_20
  · refine lv_iload_n hx hb dX1_choiceAmount_14 rfl (lv_at hl 0 rfl) ?_
    refine lv_goto (tgt := 20) hx hb dX1_choiceAmount_15 (by decide) ?_
    exact re_si (v := ((k / 4) + 1)) hx hb hr hlk (by simp [cAmt, h11]) dX1_choiceAmount_20

set_option maxHeartbeats 1000000 in
set_option maxRecDepth 100000 in
theorem c_X2_quotient (l : Launch) (x y : Int32)  : Met l yX2_quotient (wz yX2_quotient cX2_quotient 2 (some .int)) (rmk 0 0 0 0) (va_Pc [.int x, .int y] (fun _ => True)) (qSi (fun zz => zz = cQuo x y)) 0 0 fr0 := by
  refine en_ofW RX2 rfl (by decide +kernel) (Nat.le_of_ble_eq_true rfl) ?_
  intro p e s m below meth c ls S hr hlk hnm hl hB
  have hx := S.1
  have hb := S.2.1
  have hl : lv_has ls 2 [(0, .int x), (1, .int y)] := hl
  refine lv_iload_n hx hb dX2_quotient_0 rfl (lv_at hl 1 rfl) ?_
  refine lv_if_ne (tgt := 8) hx hb dX2_quotient_1 (by decide) (fun h1 => ?_) (fun h1 => ?_)
  · refine lv_iload_n hx hb dX2_quotient_8 rfl (lv_at hl 0 rfl) ?_
    refine lv_iload_n hx hb dX2_quotient_9 rfl (lv_at hl 1 rfl) ?_
    refine lv_idiv hx hb dX2_quotient_10 h1 ?_
    exact re_si (v := (x / y)) hx hb hr hlk (by simp [cQuo, h1]) dX2_quotient_11
  · refine lv_iconst (v := 0) hx hb dX2_quotient_4 (by decide) ?_
    refine lv_goto (tgt := 11) hx hb dX2_quotient_5 (by decide) ?_
    exact re_si (v := 0) hx hb hr hlk (by simp [cQuo, h1]) dX2_quotient_11

