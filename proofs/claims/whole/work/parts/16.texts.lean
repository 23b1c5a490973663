theorem fl_J0_38 : Cond.fieldLink RJ0 38 "java/lang/String" "COMPACT_STRINGS" "Z" ∈ lwg := lwg_at 460 (by decide +kernel)
theorem fl_J0_15 : Cond.fieldLink RJ0 15 "java/lang/String" "coder" "B" ∈ lwg := lwg_at 1301 (by decide +kernel)
theorem fl_J0_9 : Cond.fieldLink RJ0 9 "java/lang/String" "value" "[B" ∈ lwg := lwg_at 1300 (by decide +kernel)
theorem fl_J0_1053 : Cond.fieldLink RJ0 1053 "jdk/internal/util/Preconditions" "SIOOBE_FORMATTER" "Ljava/util/function/BiFunction;" ∈ lwg := lwg_at 476 (by decide +kernel)
theorem ni_J0 : Cond.initialized "java/lang/String" ∈ lwg := lwg_at 62 (by decide +kernel)
theorem ni_J1 : Cond.initialized "java/lang/StringLatin1" ∈ lwg := lwg_at 63 (by decide +kernel)
theorem ni_J3 : Cond.initialized "jdk/internal/util/Preconditions" ∈ lwg := lwg_at 64 (by decide +kernel)
theorem cd_J0_length_8abf5 : Cond.code yJ0_length_8abf5 cJ0_length_8abf5 1 (some .int) ∈ lwg := lwg_at 455 (by decide +kernel)
theorem im_J0_length_8abf5 : Cond.instanceMethod yJ0_length_8abf5 ∈ lwg := lwg_at 453 (by decide +kernel)
theorem sl_J0_length_8abf5 : Cond.selects yJ0_length_8abf5.cls yJ0_length_8abf5 yJ0_length_8abf5 ∈ lwg := lwg_at 454 (by decide +kernel)
theorem lk_X5_54 : LkV RX5 54 yJ0_length_8abf5 cJ0_length_8abf5 1 (some .int) 0 := ⟨cd_J0_length_8abf5, lwg_at 452 (by decide +kernel), im_J0_length_8abf5, sl_J0_length_8abf5, ni_J0, by decide +kernel⟩
theorem lk_X7_70 : LkV RX7 70 yJ0_length_8abf5 cJ0_length_8abf5 1 (some .int) 0 := ⟨cd_J0_length_8abf5, lwg_at 997 (by decide +kernel), im_J0_length_8abf5, sl_J0_length_8abf5, ni_J0, by decide +kernel⟩
theorem cd_J0_charAt_5068e : Cond.code yJ0_charAt_5068e cJ0_charAt_5068e 2 (some .char) ∈ lwg := lwg_at 465 (by decide +kernel)
theorem im_J0_charAt_5068e : Cond.instanceMethod yJ0_charAt_5068e ∈ lwg := lwg_at 463 (by decide +kernel)
theorem sl_J0_charAt_5068e : Cond.selects yJ0_charAt_5068e.cls yJ0_charAt_5068e yJ0_charAt_5068e ∈ lwg := lwg_at 464 (by decide +kernel)
theorem lk_X5_59 : LkV RX5 59 yJ0_charAt_5068e cJ0_charAt_5068e 2 (some .char) 1 := ⟨cd_J0_charAt_5068e, lwg_at 462 (by decide +kernel), im_J0_charAt_5068e, sl_J0_charAt_5068e, ni_J0, by decide +kernel⟩
theorem lk_X7_75 : LkV RX7 75 yJ0_charAt_5068e cJ0_charAt_5068e 2 (some .char) 1 := ⟨cd_J0_charAt_5068e, lwg_at 998 (by decide +kernel), im_J0_charAt_5068e, sl_J0_charAt_5068e, ni_J0, by decide +kernel⟩
theorem cd_J0_coder_7d493 : Cond.code yJ0_coder_7d493 cJ0_coder_7d493 1 (some .byte) ∈ lwg := lwg_at 459 (by decide +kernel)
theorem im_J0_coder_7d493 : Cond.instanceMethod yJ0_coder_7d493 ∈ lwg := lwg_at 457 (by decide +kernel)
theorem sl_J0_coder_7d493 : Cond.selects yJ0_coder_7d493.cls yJ0_coder_7d493 yJ0_coder_7d493 ∈ lwg := lwg_at 458 (by decide +kernel)
theorem lk_J0_335 : LkV RJ0 335 yJ0_coder_7d493 cJ0_coder_7d493 1 (some .byte) 0 := ⟨cd_J0_coder_7d493, lwg_at 456 (by decide +kernel), im_J0_coder_7d493, sl_J0_coder_7d493, ni_J0, by decide +kernel⟩
theorem cd_J0_isLatin1_aae02 : Cond.code yJ0_isLatin1_aae02 cJ0_isLatin1_aae02 1 (some .boolean) ∈ lwg := lwg_at 469 (by decide +kernel)
theorem im_J0_isLatin1_aae02 : Cond.instanceMethod yJ0_isLatin1_aae02 ∈ lwg := lwg_at 467 (by decide +kernel)
theorem sl_J0_isLatin1_aae02 : Cond.selects yJ0_isLatin1_aae02.cls yJ0_isLatin1_aae02 yJ0_isLatin1_aae02 ∈ lwg := lwg_at 468 (by decide +kernel)
theorem lk_J0_492 : LkV RJ0 492 yJ0_isLatin1_aae02 cJ0_isLatin1_aae02 1 (some .boolean) 0 := ⟨cd_J0_isLatin1_aae02, lwg_at 466 (by decide +kernel), im_J0_isLatin1_aae02, sl_J0_isLatin1_aae02, ni_J0, by decide +kernel⟩
theorem cd_J0_checkIndex_df160 : Cond.code yJ0_checkIndex_df160 cJ0_checkIndex_df160 2 none ∈ lwg := lwg_at 475 (by decide +kernel)
theorem st_J0_checkIndex_df160 : Cond.static yJ0_checkIndex_df160 ∈ lwg := lwg_at 474 (by decide +kernel)
theorem lk_J1_9 : LkS RJ1 9 yJ0_checkIndex_df160 cJ0_checkIndex_df160 2 none 2 := ⟨cd_J0_checkIndex_df160, lwg_at 473 (by decide +kernel), st_J0_checkIndex_df160, ni_J0, by decide +kernel⟩
theorem lk_J2_414 : LkS RJ2 414 yJ0_checkIndex_df160 cJ0_checkIndex_df160 2 none 2 := ⟨cd_J0_checkIndex_df160, lwg_at 490 (by decide +kernel), st_J0_checkIndex_df160, ni_J0, by decide +kernel⟩
theorem cd_J1_charAt_3b067 : Cond.code yJ1_charAt_3b067 cJ1_charAt_3b067 2 (some .char) ∈ lwg := lwg_at 472 (by decide +kernel)
theorem st_J1_charAt_3b067 : Cond.static yJ1_charAt_3b067 ∈ lwg := lwg_at 471 (by decide +kernel)
theorem lk_J0_495 : LkS RJ0 495 yJ1_charAt_3b067 cJ1_charAt_3b067 2 (some .char) 2 := ⟨cd_J1_charAt_3b067, lwg_at 470 (by decide +kernel), st_J1_charAt_3b067, ni_J1, by decide +kernel⟩
theorem cd_J3_checkIndex_8e157 : Cond.code yJ3_checkIndex_8e157 cJ3_checkIndex_8e157 3 (some .int) ∈ lwg := lwg_at 480 (by decide +kernel)
theorem st_J3_checkIndex_8e157 : Cond.static yJ3_checkIndex_8e157 ∈ lwg := lwg_at 479 (by decide +kernel)
theorem lk_J0_1059 : LkS RJ0 1059 yJ3_checkIndex_8e157 cJ3_checkIndex_8e157 3 (some .int) 3 := ⟨cd_J3_checkIndex_8e157, lwg_at 478 (by decide +kernel), st_J3_checkIndex_8e157, ni_J3, by decide +kernel⟩
theorem re_st {p : Program} {l : Launch} {e : Env} {R : Room} {s : State} {m : MethodId} {args : Array Value} {below : List Frame} {meth : Method} {c : Code} {cc : ByteArray} {pc : Nat} {ls : Array Slot} {post : Int32 → Prop} {v : Int32} {ty : FieldType} (hx : p.tables.exec = Jvm.exec) (hb : c.code = cc) (hr : meth.sig.returnType = some ty) (hlocks : meth.locks = false) (hn : narrow ty (.int v) = .int v) (h : post v) (hdg : decode cc pc = .ok (.ireturn, 1)) : W p l e R s m args below meth c s.heap [] 0 0 (MQ below (qSi post) args s 0 0 fr0) (F0 m pc ls [.int v]) :=
  W.zret hx hb hr hn (fun t ht _ => ⟨v, rfl, h, ht⟩) (fun q h => by cases h) hdg hlocks
theorem rc_s {N : Nat} {E : En} {s : State} {H : Heap} {locs : List Loc} {i : Nat} {t : String × Nat × String × List Int32} (hE : Ev N E) (hC : Stc E s s.heap) (hS : va_S (cA N E) s.heap H locs) (hi : txT[i]? = some t) : ∃ cellB : Cell, H[eS E i]? = some cellB ∧ cellB.vm.isStatics = false ∧ s.vm.findClass RJ0 = some cellB.cls := by
  obtain ⟨v, ⟨cell, h1, h2, h3, h4⟩, -⟩ := hC.2.2.1 i t hi
  have hlt : eS E i < s.heap.size := (Array.getElem?_eq_some_iff.mp h1).1
  refine ⟨cell, ?_, h2, h3⟩
  rw [hS.2.1 _ hlt (fun h => ?_)]
  · exact h1
  · obtain ⟨j, hj, e⟩ := h
    exact h4 (by rw [e]; exact hE.2 j hj)
theorem rc_s0 {E : En} {s : State} {i : Nat} {t : String × Nat × String × List Int32} (hC : Stc E s s.heap) (hi : txT[i]? = some t) : ∃ cellB : Cell, s.heap[eS E i]? = some cellB ∧ cellB.vm.isStatics = false ∧ s.vm.findClass RJ0 = some cellB.cls := by
  obtain ⟨v, ⟨cell, h1, h2, h3, h4⟩, -⟩ := hC.2.2.1 i t hi
  exact ⟨cell, h1, h2, h3⟩
/-- the start of a method over a text's bytes -/
def Bv (E : En) (v0 : Nat) (tx : String × Nat × String × List Int32) (U : State) : Prop := Stc E U U.heap ∧ va_T .byte v0 tx.2.2.2.length (fun j => .int (tx.2.2.2.getD j 0)) (eA E) U U.heap
theorem bl_v {av : List Value} {E : En} {v0 : Nat} {tx : String × Nat × String × List Int32} : FrameBlind (va_Pc av (Bv E v0 tx)) := fun a U g mk h => ⟨h.1, h.2.1.warm (U := U.calling g mk a) (State.WarmedH.refl U), va_T.moved (u := U) (U := U.calling g mk a) (Vm.Alike.refl U.vm) h.2.2⟩
theorem bv_H {E : En} {v0 : Nat} {tx : String × Nat × String × List Int32} {s : State} (hC : Stc E s s.heap) (hT : va_T .byte v0 tx.2.2.2.length (fun j => .int (tx.2.2.2.getD j 0)) (eA E) s s.heap) : ∀ U : State, U.heap = s.heap → s.WarmedH U.vm → Bv E v0 tx U := by
  intro U hU hW
  refine ⟨(hC.warm hW).kept (fun a h1 h2 => by rw [hU]), (va_T.moved hW.alike hT).kept (fun a h1 h2 => by rw [hU])⟩
theorem tx_len {i : Nat} {t : String × Nat × String × List Int32} (hi : txT[i]? = some t) : t.2.2.2.length < 20 := by
  have h : ∀ t ∈ txT, t.2.2.2.length < 20 := by decide +kernel
  exact h t (List.mem_of_getElem? hi)
theorem tx_ch {i k : Nat} {t : String × Nat × String × List Int32} (hi : txT[i]? = some t) (hk : k < t.2.2.2.length) : (((t.2.2.2.getD k 0) &&& 255).toUInt32 % 65536).toInt32 = t.2.2.2.getD k 0 ∧ narrow .char (.int (t.2.2.2.getD k 0)) = .int (t.2.2.2.getD k 0) := by
  have h : ∀ t ∈ txT, ∀ b ∈ t.2.2.2, ((b &&& 255).toUInt32 % 65536).toInt32 = b ∧ narrow .char (.int b) = .int b := by decide +kernel
  refine h t (List.mem_of_getElem? hi) _ ?_
  rw [List.getD_eq_getElem?_getD, List.getElem?_eq_getElem hk]
  exact List.getElem_mem hk
set_option maxHeartbeats 1000000 in
set_option maxRecDepth 100000 in
theorem c_J0_coder_7d493 (l : Launch) (E : En) (i : Nat) (tx : String × Nat × String × List Int32) (hi : txT[i]? = some tx) : Met l yJ0_coder_7d493 (wz yJ0_coder_7d493 cJ0_coder_7d493 1 (some .byte)) (rmk 0 0 0 0) (va_Pc [.ref (eS E i)] (Bs E)) (qSi (fun zz => zz = (0 : Int32))) 0 0 fr0 := by
  refine en_ofW RJ0 rfl (by decide +kernel) (Nat.le_of_ble_eq_true rfl) ?_
  intro p e s m below meth c ls S hr hlk hnm hl hB
  have hx := S.1
  have hb := S.2.1
  have hC : Stc E s s.heap := hB
  have hl : lv_has ls 1 [(0, .ref (eS E i))] := hl
  obtain ⟨v0, hO, hOc, hOv, hOT⟩ := hC.2.2.1 i tx hi
  have htl := tx_len hi
  refine va_gets hx hb hC.2.2.2.1.1 (va_S.rf (A := eA E)) S.2.2.2.1 (S.2.2.2.2 _ fl_J0_38) (fun _ h => h) dJ0_coder_7d493_0 ?_
  refine lv_if_eq (tgt := 13) hx hb dJ0_coder_7d493_3 (by decide) (fun h3 => absurd h3 (by decide)) (fun h3 => ?_)
  refine lv_aload_n hx hb dJ0_coder_7d493_6 rfl (lv_at hl 0 rfl) ?_
  refine vk_getf hx hb hOc (va_S.rf (A := eA E)) S.2.2.2.1 (S.2.2.2.2 _ fl_J0_15) (fun _ h => h) dJ0_coder_7d493_7 ?_
  refine lv_goto (tgt := 14) hx hb dJ0_coder_7d493_10 (by decide) ?_
  exact re_st (ty := .byte) (v := 0) hx hb hr hlk rfl rfl dJ0_coder_7d493_14

set_option maxHeartbeats 1000000 in
set_option maxRecDepth 100000 in
theorem c_J0_isLatin1_aae02 (l : Launch) (E : En) (i : Nat) (tx : String × Nat × String × List Int32) (hi : txT[i]? = some tx) : Met l yJ0_isLatin1_aae02 (wz yJ0_isLatin1_aae02 cJ0_isLatin1_aae02 1 (some .boolean)) (rmk 0 0 0 0) (va_Pc [.ref (eS E i)] (Bs E)) (qSi (fun zz => zz = (1 : Int32))) 0 0 fr0 := by
  refine en_ofW RJ0 rfl (by decide +kernel) (Nat.le_of_ble_eq_true rfl) ?_
  intro p e s m below meth c ls S hr hlk hnm hl hB
  have hx := S.1
  have hb := S.2.1
  have hC : Stc E s s.heap := hB
  have hl : lv_has ls 1 [(0, .ref (eS E i))] := hl
  obtain ⟨v0, hO, hOc, hOv, hOT⟩ := hC.2.2.1 i tx hi
  have htl := tx_len hi
  refine va_gets hx hb hC.2.2.2.1.1 (va_S.rf (A := eA E)) S.2.2.2.1 (S.2.2.2.2 _ fl_J0_38) (fun _ h => h) dJ0_isLatin1_aae02_0 ?_
  refine lv_if_eq (tgt := 17) hx hb dJ0_isLatin1_aae02_3 (by decide) (fun h3 => absurd h3 (by decide)) (fun h3 => ?_)
  refine lv_aload_n hx hb dJ0_isLatin1_aae02_6 rfl (lv_at hl 0 rfl) ?_
  refine vk_getf hx hb hOc (va_S.rf (A := eA E)) S.2.2.2.1 (S.2.2.2.2 _ fl_J0_15) (fun _ h => h) dJ0_isLatin1_aae02_7 ?_
  refine lv_if_ne (tgt := 17) hx hb dJ0_isLatin1_aae02_10 (by decide) (fun h10 => absurd h10 (by decide)) (fun h10 => ?_)
  refine lv_iconst (v := 1) hx hb dJ0_isLatin1_aae02_13 (by decide) ?_
  refine lv_goto (tgt := 18) hx hb dJ0_isLatin1_aae02_14 (by decide) ?_
  exact re_sz (v := 1) hx hb hr hlk rfl rfl dJ0_isLatin1_aae02_18

set_option maxHeartbeats 1000000 in
set_option maxRecDepth 100000 in
theorem c_J0_length_8abf5 (l : Launch) (E : En) (i : Nat) (tx : String × Nat × String × List Int32) (hi : txT[i]? = some tx) : Met l yJ0_length_8abf5 (wz yJ0_length_8abf5 cJ0_length_8abf5 1 (some .int)) (rmk 1 0 0 20) (va_Pc [.ref (eS E i)] (Bs E)) (qSi (fun zz => zz = nI tx.2.2.2.length)) 0 0 fr0 := by
  refine en_ofW RJ0 rfl (by decide +kernel) (Nat.le_of_ble_eq_true rfl) ?_
  intro p e s m below meth c ls S hr hlk hnm hl hB
  have hx := S.1
  have hb := S.2.1
  have hC : Stc E s s.heap := hB
  have hl : lv_has ls 1 [(0, .ref (eS E i))] := hl
  obtain ⟨v0, hO, hOc, hOv, hOT⟩ := hC.2.2.1 i tx hi
  have htl := tx_len hi
  refine lv_aload_n hx hb dJ0_length_8abf5_0 rfl (lv_at hl 0 rfl) ?_
  refine vk_getf hx hb hOv (va_S.rf (A := eA E)) S.2.2.2.1 (S.2.2.2.2 _ fl_J0_9) (fun _ h => h) dJ0_length_8abf5_1 ?_
  refine va_tlen hx hb hOT (va_S.rf (A := eA E)) (v := nI tx.2.2.2.length) rfl dJ0_length_8abf5_4 ?_
  refine lv_aload_n hx hb dJ0_length_8abf5_5 rfl (lv_at hl 0 rfl) ?_
  refine cn_si (ck_V (a := eS E i) S lk_J0_335 (c_J0_coder_7d493 l E i tx hi) ⟨rfl, rfl⟩ ⟨Nat.le_of_ble_eq_true rfl, Nat.le_of_ble_eq_true rfl⟩ bl_s (rc_s0 hC hi) (bs_H hC) rfl hl.1 (Nat.le_of_ble_eq_true rfl) ⟨Nat.le_refl _, Nat.le_refl _⟩ dJ0_length_8abf5_6 rfl) (fun r1 g2 => ?_)
  obtain rfl : r1 = (0 : Int32) := g2
  refine lv_ishr hx hb dJ0_length_8abf5_9 ?_
  refine tp_i (y := nI tx.2.2.2.length) (sc_shr0 (by omega)) ?_
  exact re_si (v := (nI tx.2.2.2.length)) hx hb hr hlk rfl dJ0_length_8abf5_10

set_option maxHeartbeats 1000000 in
set_option maxRecDepth 100000 in
theorem c_J3_checkIndex_8e157r (l : Launch) (k n : Nat) (t : Nat) (hk : k < n) (hn : n < 2 ^ 31) : Met l yJ3_checkIndex_8e157 (wz yJ3_checkIndex_8e157 cJ3_checkIndex_8e157 3 (some .int)) (rmk 0 0 0 0) (va_Pc [.int (nI k), .int (nI n), .ref t] (fun _ => True)) (qSi (fun zz => zz = nI k)) 0 0 fr0 := by
  refine en_ofW RJ3 rfl (by decide +kernel) (Nat.le_of_ble_eq_true rfl) ?_
  intro p e s m below meth c ls S hr hlk hnm hl hB
  have hx := S.1
  have hb := S.2.1
  have hl : lv_has ls 3 [(0, .int (nI k)), (1, .int (nI n)), (2, .ref t)] := hl
  refine lv_iload_n hx hb dJ3_checkIndex_8e157_0 rfl (lv_at hl 0 rfl) ?_
  refine lv_if_lt (tgt := 9) hx hb dJ3_checkIndex_8e157_1 (by decide) (fun h1 => absurd h1 (nI_pos (by omega))) (fun h1 => ?_)
  refine lv_iload_n hx hb dJ3_checkIndex_8e157_4 rfl (lv_at hl 0 rfl) ?_
  refine lv_iload_n hx hb dJ3_checkIndex_8e157_5 rfl (lv_at hl 1 rfl) ?_
  refine lv_icmp_lt (tgt := 16) hx hb dJ3_checkIndex_8e157_6 (by decide) (fun h6 => ?_) (fun h6 => absurd (nI_lt hk (by omega)) h6)
  refine lv_iload_n hx hb dJ3_checkIndex_8e157_16 rfl (lv_at hl 0 rfl) ?_
  exact re_si (v := nI k) hx hb hr hlk rfl dJ3_checkIndex_8e157_17

set_option maxHeartbeats 1000000 in
set_option maxRecDepth 100000 in
theorem c_J3_checkIndex_8e157n (l : Launch) (k n : Nat) (hk : k < n) (hn : n < 2 ^ 31) : Met l yJ3_checkIndex_8e157 (wz yJ3_checkIndex_8e157 cJ3_checkIndex_8e157 3 (some .int)) (rmk 0 0 0 0) (va_Pc [.int (nI k), .int (nI n), .null] (fun _ => True)) (qSi (fun zz => zz = nI k)) 0 0 fr0 := by
  refine en_ofW RJ3 rfl (by decide +kernel) (Nat.le_of_ble_eq_true rfl) ?_
  intro p e s m below meth c ls S hr hlk hnm hl hB
  have hx := S.1
  have hb := S.2.1
  have hl : lv_has ls 3 [(0, .int (nI k)), (1, .int (nI n)), (2, .null)] := hl
  refine lv_iload_n hx hb dJ3_checkIndex_8e157_0 rfl (lv_at hl 0 rfl) ?_
  refine lv_if_lt (tgt := 9) hx hb dJ3_checkIndex_8e157_1 (by decide) (fun h1 => absurd h1 (nI_pos (by omega))) (fun h1 => ?_)
  refine lv_iload_n hx hb dJ3_checkIndex_8e157_4 rfl (lv_at hl 0 rfl) ?_
  refine lv_iload_n hx hb dJ3_checkIndex_8e157_5 rfl (lv_at hl 1 rfl) ?_
  refine lv_icmp_lt (tgt := 16) hx hb dJ3_checkIndex_8e157_6 (by decide) (fun h6 => ?_) (fun h6 => absurd (nI_lt hk (by omega)) h6)
  refine lv_iload_n hx hb dJ3_checkIndex_8e157_16 rfl (lv_at hl 0 rfl) ?_
  exact re_si (v := nI k) hx hb hr hlk rfl dJ3_checkIndex_8e157_17

set_option maxHeartbeats 1000000 in
set_option maxRecDepth 100000 in
theorem c_J0_checkIndex_df160 (l : Launch) (E : En) (k n : Nat) (hk : k < n) (hn : n < 2 ^ 31) : Met l yJ0_checkIndex_df160 (wz yJ0_checkIndex_df160 cJ0_checkIndex_df160 2 none) (rmk 1 0 0 30) (va_Pc [.int (nI k), .int (nI n)] (Bs E)) qSv 0 0 fr0 := by
  refine en_ofW RJ0 rfl (by decide +kernel) (Nat.le_of_ble_eq_true rfl) ?_
  intro p e s m below meth c ls S hr hlk hnm hl hB
  have hx := S.1
  have hb := S.2.1
  have hC : Stc E s s.heap := hB
  have hl : lv_has ls 2 [(0, .int (nI k)), (1, .int (nI n))] := hl
  refine lv_iload_n hx hb dJ0_checkIndex_df160_0 rfl (lv_at hl 0 rfl) ?_
  refine lv_iload_n hx hb dJ0_checkIndex_df160_1 rfl (lv_at hl 1 rfl) ?_
  rcases hC.2.2.2.1.2 with hZ | ⟨t, hZ⟩
  · refine va_gets hx hb hZ (va_S.rf (A := eA E)) S.2.2.2.1 (S.2.2.2.2 _ fl_J0_1053) (fun _ h => h) dJ0_checkIndex_df160_2 ?_
    refine cn_si (ck_S (av := [.int (nI k), .int (nI n), .null]) S lk_J0_1059 (c_J3_checkIndex_8e157n l k n hk hn) ⟨rfl, rfl⟩ ⟨Nat.le_of_ble_eq_true rfl, Nat.le_of_ble_eq_true rfl⟩ bl_T t_U rfl hl.1 (Nat.le_of_ble_eq_true rfl) ⟨Nat.le_refl _, Nat.le_refl _⟩ dJ0_checkIndex_df160_5 rfl) (fun r1 g1 => ?_)
    refine lv_pop hx hb dJ0_checkIndex_df160_8 rfl ?_
    exact re_sv hx hb hr hlk dJ0_checkIndex_df160_9
  · refine va_gets hx hb hZ (va_S.rf (A := eA E)) S.2.2.2.1 (S.2.2.2.2 _ fl_J0_1053) (fun _ h => h) dJ0_checkIndex_df160_2 ?_
    refine cn_si (ck_S (av := [.int (nI k), .int (nI n), .ref t]) S lk_J0_1059 (c_J3_checkIndex_8e157r l k n t hk hn) ⟨rfl, rfl⟩ ⟨Nat.le_of_ble_eq_true rfl, Nat.le_of_ble_eq_true rfl⟩ bl_T t_U rfl hl.1 (Nat.le_of_ble_eq_true rfl) ⟨Nat.le_refl _, Nat.le_refl _⟩ dJ0_checkIndex_df160_5 rfl) (fun r1 g1 => ?_)
    refine lv_pop hx hb dJ0_checkIndex_df160_8 rfl ?_
    exact re_sv hx hb hr hlk dJ0_checkIndex_df160_9

set_option maxHeartbeats 1000000 in
set_option maxRecDepth 100000 in
theorem c_J1_charAt_3b067 (l : Launch) (E : En) (v0 i k : Nat) (tx : String × Nat × String × List Int32) (hi : txT[i]? = some tx) (hk : k < tx.2.2.2.length) : Met l yJ1_charAt_3b067 (wz yJ1_charAt_3b067 cJ1_charAt_3b067 2 (some .char)) (rmk 2 0 0 51) (va_Pc [.ref v0, .int (nI k)] (Bv E v0 tx)) (qSi (fun zz => zz = tx.2.2.2.getD k 0)) 0 0 fr0 := by
  refine en_ofW RJ1 rfl (by decide +kernel) (Nat.le_of_ble_eq_true rfl) ?_
  intro p e s m below meth c ls S hr hlk hnm hl hB
  have hx := S.1
  have hb := S.2.1
  obtain ⟨hC, hOT⟩ := hB
  have hl : lv_has ls 2 [(0, .ref v0), (1, .int (nI k))] := hl
  have htl := tx_len hi
  refine lv_iload_n hx hb dJ1_charAt_3b067_0 rfl (lv_at hl 1 rfl) ?_
  refine lv_aload_n hx hb dJ1_charAt_3b067_1 rfl (lv_at hl 0 rfl) ?_
  refine va_tlen hx hb hOT (va_S.rf (A := eA E)) (v := nI tx.2.2.2.length) rfl dJ1_charAt_3b067_2 ?_
  refine cn_sv (ck_S S lk_J1_9 (c_J0_checkIndex_df160 l E k tx.2.2.2.length hk (by omega)) ⟨rfl, rfl⟩ ⟨Nat.le_of_ble_eq_true rfl, Nat.le_of_ble_eq_true rfl⟩ bl_s (bs_H hC) rfl hl.1 (Nat.le_of_ble_eq_true rfl) ⟨Nat.le_refl _, Nat.le_refl _⟩ dJ1_charAt_3b067_3 rfl) ?_
  refine lv_aload_n hx hb dJ1_charAt_3b067_6 rfl (lv_at hl 0 rfl) ?_
  refine lv_iload_n hx hb dJ1_charAt_3b067_7 rfl (lv_at hl 1 rfl) ?_
  refine va_tb hx hb hOT (va_S.rf (A := eA E)) (v := .int (tx.2.2.2.getD k 0)) (vp_in_nI hk (by omega)) (by rw [nI_clamp (by omega)]) dJ1_charAt_3b067_8 ?_
  refine lv_sipush (v := 255) hx hb dJ1_charAt_3b067_9 (by decide) ?_
  refine lv_iand hx hb dJ1_charAt_3b067_12 ?_
  refine lv_i2c hx hb dJ1_charAt_3b067_13 rfl ?_
  refine tp_i (y := tx.2.2.2.getD k 0) (tx_ch hi hk).1 ?_
  exact re_st (ty := .char) (v := (tx.2.2.2.getD k 0)) hx hb hr hlk (tx_ch hi hk).2 rfl dJ1_charAt_3b067_14

set_option maxHeartbeats 1000000 in
set_option maxRecDepth 100000 in
theorem c_J0_charAt_5068e (l : Launch) (E : En) (i : Nat) (tx : String × Nat × String × List Int32) (k : Nat) (hi : txT[i]? = some tx) (hk : k < tx.2.2.2.length) : Met l yJ0_charAt_5068e (wz yJ0_charAt_5068e cJ0_charAt_5068e 2 (some .char)) (rmk 3 0 0 72) (va_Pc [.ref (eS E i), .int (nI k)] (Bs E)) (qSi (fun zz => zz = tx.2.2.2.getD k 0)) 0 0 fr0 := by
  refine en_ofW RJ0 rfl (by decide +kernel) (Nat.le_of_ble_eq_true rfl) ?_
  intro p e s m below meth c ls S hr hlk hnm hl hB
  have hx := S.1
  have hb := S.2.1
  have hC : Stc E s s.heap := hB
  have hl : lv_has ls 2 [(0, .ref (eS E i)), (1, .int (nI k))] := hl
  obtain ⟨v0, hO, hOc, hOv, hOT⟩ := hC.2.2.1 i tx hi
  have htl := tx_len hi
  refine lv_aload_n hx hb dJ0_charAt_5068e_0 rfl (lv_at hl 0 rfl) ?_
  refine cn_si (ck_V (a := eS E i) S lk_J0_492 (c_J0_isLatin1_aae02 l E i tx hi) ⟨rfl, rfl⟩ ⟨Nat.le_of_ble_eq_true rfl, Nat.le_of_ble_eq_true rfl⟩ bl_s (rc_s0 hC hi) (bs_H hC) rfl hl.1 (Nat.le_of_ble_eq_true rfl) ⟨Nat.le_refl _, Nat.le_refl _⟩ dJ0_charAt_5068e_1 rfl) (fun r1 g2 => ?_)
  obtain rfl : r1 = (1 : Int32) := g2
  refine lv_if_eq (tgt := 16) hx hb dJ0_charAt_5068e_4 (by decide) (fun h4 => absurd h4 (by decide)) (fun h4 => ?_)
  refine lv_aload_n hx hb dJ0_charAt_5068e_7 rfl (lv_at hl 0 rfl) ?_
  refine vk_getf hx hb hOv (va_S.rf (A := eA E)) S.2.2.2.1 (S.2.2.2.2 _ fl_J0_9) (fun _ h => h) dJ0_charAt_5068e_8 ?_
  refine lv_iload_n hx hb dJ0_charAt_5068e_11 rfl (lv_at hl 1 rfl) ?_
  refine cn_si (ck_S S lk_J0_495 (c_J1_charAt_3b067 l E v0 i k tx hi hk) ⟨rfl, rfl⟩ ⟨Nat.le_of_ble_eq_true rfl, Nat.le_of_ble_eq_true rfl⟩ bl_v (bv_H hC hOT) rfl hl.1 (Nat.le_of_ble_eq_true rfl) ⟨Nat.le_refl _, Nat.le_refl _⟩ dJ0_charAt_5068e_12 rfl) (fun r3 g4 => ?_)
  obtain rfl : r3 = tx.2.2.2.getD k 0 := g4
  exact re_st (ty := .char) (v := (tx.2.2.2.getD k 0)) hx hb hr hlk (tx_ch hi hk).2 rfl dJ0_charAt_5068e_15

