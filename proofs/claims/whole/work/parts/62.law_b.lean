theorem cl_L_19 : Cond.classLink RL 19 "java/lang/IndexOutOfBoundsException" ∈ lwg := lwg_at 650 (by decide +kernel)
theorem cl_L_13 : Cond.classLink RL 13 "java/lang/IllegalArgumentException" ∈ lwg := lwg_at 338 (by decide +kernel)
theorem cl_L_51 : Cond.classLink RL 51 "java/util/NoSuchElementException" ∈ lwg := lwg_at 766 (by decide +kernel)
theorem cl_L_72 : Cond.classLink RL 72 "java/lang/IllegalStateException" ∈ lwg := lwg_at 856 (by decide +kernel)
def hh_bestShift : List (Nat × Nat × Nat × Nat) := [(0, 10, 13, 19)]
theorem h_bestShift (l : Launch) (E : En) (I A : Nat → Nat → Int32) (K : Nat → Nat → Int64) (x0 x1 : Int32) (post : Int32 → St → Prop) (hE : Ev 119 E) (hM : Ma l yX6_bestShift cX6_bestShift 4 (some .int) cN E cK [.ref (eP E 0), .int x0, .int x1] (I, A, K) post) : Mh l yL_bestShift cL_bestShift 5 hh_bestShift E [.ref (eP E 0), .int x0, .int x1, .ref (eP E 118)] (I, A, K) (fun zz uu => zz = 0 ∧ ∃ r u, post r u ∧ uu = (u.1, u.2.1, up2 (va_up u.2.2 118 (K 118)) 118 0 r.toInt64)) := by
  refine en_ofH RL rfl (by decide +kernel) (Nat.le_of_ble_eq_true rfl) ?_
  intro p e s m below meth c ls S hr hlk htab hl hB
  have hx := S.1
  have hb := S.2.1
  obtain ⟨hK, hC, hP⟩ := hB
  have hS : va_S (cA 119 E) s.heap s.heap [] := va_S.rf
  have hl : lv_has ls 5 [(0, .ref (eP E 0)), (1, .int x0), (2, .int x1), (3, .ref (eP E 118))] := hl
  refine lv_aload_n hx hb dL_bestShift_0 rfl (lv_at hl 3 rfl) ?_
  refine lv_iconst (v := 0) hx hb dL_bestShift_1 (by decide) ?_
  refine lv_aload_n hx hb dL_bestShift_2 rfl (lv_at hl 0 rfl) ?_
  refine lv_iload_n hx hb dL_bestShift_3 rfl (lv_at hl 1 rfl) ?_
  refine lv_iload_n hx hb dL_bestShift_4 rfl (lv_at hl 2 rfl) ?_
  refine ho_call S hE hK hC hP hS lk_L_56 rfl hM ⟨Nat.le_of_ble_eq_true rfl, Nat.le_of_ble_eq_true rfl⟩ rfl hl.1 (Nat.le_of_ble_eq_true rfl) ⟨Nat.le_of_ble_eq_true rfl, Nat.le_of_ble_eq_true rfl⟩ dL_bestShift_5 rfl (fun r u H locs hp hP hS => ?_)
  refine lv_i2l hx hb dL_bestShift_8 rfl ?_
  refine rw_last (x := (u.1, u.2.1, va_up u.2.2 118 (K 118))) S hE hK hP hS 118 (by decide) kO_118 0 rfl (by decide) (by decide) dL_bestShift_9 (fun H locs hP hS => ?_)
  refine lv_goto (tgt := 17) hx hb dL_bestShift_10 (by decide) ?_
  refine lv_iconst (v := 0) hx hb dL_bestShift_17 (by decide) ?_
  exact re_wo (x := (u.1, u.2.1, up2 (va_up u.2.2 118 (K 118)) 118 0 r.toInt64)) hx hb hr hlk hP hS ⟨rfl, r, u, hp, rfl⟩ (Nat.le_of_ble_eq_true rfl) (Nat.le_of_ble_eq_true rfl) dL_bestShift_18
theorem hx_bestShift_0 (l : Launch) (E : En) (I A : Nat → Nat → Int32) (K : Nat → Nat → Int64) (x0 x1 : Int32) (hE : Ev 119 E) (hM : Mx l yX6_bestShift cX6_bestShift 4 (some .int) E [.ref (eP E 0), .int x0, .int x1] (I, A, K) "java/lang/IndexOutOfBoundsException") : Mh l yL_bestShift cL_bestShift 5 hh_bestShift E [.ref (eP E 0), .int x0, .int x1, .ref (eP E 118)] (I, A, K) (fun zz uu => zz = 1 ∧ uu = (I, A, K)) := by
  refine en_ofH RL rfl (by decide +kernel) (Nat.le_of_ble_eq_true rfl) ?_
  intro p e s m below meth c ls S hr hlk htab hl hB
  have hx := S.1
  have hb := S.2.1
  obtain ⟨hK, hC, hP⟩ := hB
  have hS : va_S (cA 119 E) s.heap s.heap [] := va_S.rf
  have hl : lv_has ls 5 [(0, .ref (eP E 0)), (1, .int x0), (2, .int x1), (3, .ref (eP E 118))] := hl
  refine lv_aload_n hx hb dL_bestShift_0 rfl (lv_at hl 3 rfl) ?_
  refine lv_iconst (v := 0) hx hb dL_bestShift_1 (by decide) ?_
  refine lv_aload_n hx hb dL_bestShift_2 rfl (lv_at hl 0 rfl) ?_
  refine lv_iload_n hx hb dL_bestShift_3 rfl (lv_at hl 1 rfl) ?_
  refine lv_iload_n hx hb dL_bestShift_4 rfl (lv_at hl 2 rfl) ?_
  refine ho_catch S hE hK hC hP lk_L_56 rfl hM ⟨Nat.le_of_ble_eq_true rfl, Nat.le_of_ble_eq_true rfl⟩ rfl hl.1 (Nat.le_of_ble_eq_true rfl) ⟨Nat.le_of_ble_eq_true rfl, Nat.le_of_ble_eq_true rfl⟩ dL_bestShift_5 rfl htab [] (⟨0, 10, 13, 19⟩ : ExceptionTableEntry) [] rfl (fun z hz => absurd hz List.not_mem_nil) (by decide) (by decide) (by decide) cl_L_19 (fun q H locs hP hS => ?_)
  refine lv_astore (lv' := [(4, .ref q), (0, .ref (eP E 0)), (1, .int x0), (2, .int x1), (3, .ref (eP E 118))]) hx hb dL_bestShift_13 hl (by decide) rfl (fun ls hl => ?_)
  refine lv_iconst (v := 1) hx hb dL_bestShift_15 (by decide) ?_
  exact re_wo (x := (I, A, K)) hx hb hr hlk hP hS ⟨rfl, rfl⟩ (Nat.le_of_ble_eq_true rfl) (Nat.le_of_ble_eq_true rfl) dL_bestShift_16
def hh_colour : List (Nat × Nat × Nat × Nat) := [(0, 10, 13, 19)]
theorem h_colour (l : Launch) (E : En) (I A : Nat → Nat → Int32) (K : Nat → Nat → Int64) (x0 x1 : Int32) (post : Int32 → St → Prop) (hE : Ev 119 E) (hM : Ma l yX6_colour cX6_colour 3 (some .int) cN E cK [.ref (eP E 0), .int x0, .int x1] (I, A, K) post) : Mh l yL_colour cL_colour 5 hh_colour E [.ref (eP E 0), .int x0, .int x1, .ref (eP E 118)] (I, A, K) (fun zz uu => zz = 0 ∧ ∃ r u, post r u ∧ uu = (u.1, u.2.1, up2 (va_up u.2.2 118 (K 118)) 118 0 r.toInt64)) := by
  refine en_ofH RL rfl (by decide +kernel) (Nat.le_of_ble_eq_true rfl) ?_
  intro p e s m below meth c ls S hr hlk htab hl hB
  have hx := S.1
  have hb := S.2.1
  obtain ⟨hK, hC, hP⟩ := hB
  have hS : va_S (cA 119 E) s.heap s.heap [] := va_S.rf
  have hl : lv_has ls 5 [(0, .ref (eP E 0)), (1, .int x0), (2, .int x1), (3, .ref (eP E 118))] := hl
  refine lv_aload_n hx hb dL_colour_0 rfl (lv_at hl 3 rfl) ?_
  refine lv_iconst (v := 0) hx hb dL_colour_1 (by decide) ?_
  refine lv_aload_n hx hb dL_colour_2 rfl (lv_at hl 0 rfl) ?_
  refine lv_iload_n hx hb dL_colour_3 rfl (lv_at hl 1 rfl) ?_
  refine lv_iload_n hx hb dL_colour_4 rfl (lv_at hl 2 rfl) ?_
  refine ho_call S hE hK hC hP hS lk_L_15 rfl hM ⟨Nat.le_of_ble_eq_true rfl, Nat.le_of_ble_eq_true rfl⟩ rfl hl.1 (Nat.le_of_ble_eq_true rfl) ⟨Nat.le_of_ble_eq_true rfl, Nat.le_of_ble_eq_true rfl⟩ dL_colour_5 rfl (fun r u H locs hp hP hS => ?_)
  refine lv_i2l hx hb dL_colour_8 rfl ?_
  refine rw_last (x := (u.1, u.2.1, va_up u.2.2 118 (K 118))) S hE hK hP hS 118 (by decide) kO_118 0 rfl (by decide) (by decide) dL_colour_9 (fun H locs hP hS => ?_)
  refine lv_goto (tgt := 17) hx hb dL_colour_10 (by decide) ?_
  refine lv_iconst (v := 0) hx hb dL_colour_17 (by decide) ?_
  exact re_wo (x := (u.1, u.2.1, up2 (va_up u.2.2 118 (K 118)) 118 0 r.toInt64)) hx hb hr hlk hP hS ⟨rfl, r, u, hp, rfl⟩ (Nat.le_of_ble_eq_true rfl) (Nat.le_of_ble_eq_true rfl) dL_colour_18
theorem hx_colour_0 (l : Launch) (E : En) (I A : Nat → Nat → Int32) (K : Nat → Nat → Int64) (x0 x1 : Int32) (hE : Ev 119 E) (hM : Mx l yX6_colour cX6_colour 3 (some .int) E [.ref (eP E 0), .int x0, .int x1] (I, A, K) "java/lang/IndexOutOfBoundsException") : Mh l yL_colour cL_colour 5 hh_colour E [.ref (eP E 0), .int x0, .int x1, .ref (eP E 118)] (I, A, K) (fun zz uu => zz = 1 ∧ uu = (I, A, K)) := by
  refine en_ofH RL rfl (by decide +kernel) (Nat.le_of_ble_eq_true rfl) ?_
  intro p e s m below meth c ls S hr hlk htab hl hB
  have hx := S.1
  have hb := S.2.1
  obtain ⟨hK, hC, hP⟩ := hB
  have hS : va_S (cA 119 E) s.heap s.heap [] := va_S.rf
  have hl : lv_has ls 5 [(0, .ref (eP E 0)), (1, .int x0), (2, .int x1), (3, .ref (eP E 118))] := hl
  refine lv_aload_n hx hb dL_colour_0 rfl (lv_at hl 3 rfl) ?_
  refine lv_iconst (v := 0) hx hb dL_colour_1 (by decide) ?_
  refine lv_aload_n hx hb dL_colour_2 rfl (lv_at hl 0 rfl) ?_
  refine lv_iload_n hx hb dL_colour_3 rfl (lv_at hl 1 rfl) ?_
  refine lv_iload_n hx hb dL_colour_4 rfl (lv_at hl 2 rfl) ?_
  refine ho_catch S hE hK hC hP lk_L_15 rfl hM ⟨Nat.le_of_ble_eq_true rfl, Nat.le_of_ble_eq_true rfl⟩ rfl hl.1 (Nat.le_of_ble_eq_true rfl) ⟨Nat.le_of_ble_eq_true rfl, Nat.le_of_ble_eq_true rfl⟩ dL_colour_5 rfl htab [] (⟨0, 10, 13, 19⟩ : ExceptionTableEntry) [] rfl (fun z hz => absurd hz List.not_mem_nil) (by decide) (by decide) (by decide) cl_L_19 (fun q H locs hP hS => ?_)
  refine lv_astore (lv' := [(4, .ref q), (0, .ref (eP E 0)), (1, .int x0), (2, .int x1), (3, .ref (eP E 118))]) hx hb dL_colour_13 hl (by decide) rfl (fun ls hl => ?_)
  refine lv_iconst (v := 1) hx hb dL_colour_15 (by decide) ?_
  exact re_wo (x := (I, A, K)) hx hb hr hlk hP hS ⟨rfl, rfl⟩ (Nat.le_of_ble_eq_true rfl) (Nat.le_of_ble_eq_true rfl) dL_colour_16
def hh_contrast : List (Nat × Nat × Nat × Nat) := [(0, 12, 15, 19)]
theorem h_contrast (l : Launch) (E : En) (I A : Nat → Nat → Int32) (K : Nat → Nat → Int64) (x0 x1 x2 : Int32) (post : Int32 → St → Prop) (hE : Ev 119 E) (hM : Ma l yX6_contrast cX6_contrast 4 (some .int) cN E cK [.ref (eP E 0), .int x0, .int x1, .int x2] (I, A, K) post) : Mh l yL_contrast cL_contrast 6 hh_contrast E [.ref (eP E 0), .int x0, .int x1, .int x2, .ref (eP E 118)] (I, A, K) (fun zz uu => zz = 0 ∧ ∃ r u, post r u ∧ uu = (u.1, u.2.1, up2 (va_up u.2.2 118 (K 118)) 118 0 r.toInt64)) := by
  refine en_ofH RL rfl (by decide +kernel) (Nat.le_of_ble_eq_true rfl) ?_
  intro p e s m below meth c ls S hr hlk htab hl hB
  have hx := S.1
  have hb := S.2.1
  obtain ⟨hK, hC, hP⟩ := hB
  have hS : va_S (cA 119 E) s.heap s.heap [] := va_S.rf
  have hl : lv_has ls 6 [(0, .ref (eP E 0)), (1, .int x0), (2, .int x1), (3, .int x2), (4, .ref (eP E 118))] := hl
  refine lv_aload hx hb dL_contrast_0 (lv_at hl 4 rfl) ?_
  refine lv_iconst (v := 0) hx hb dL_contrast_2 (by decide) ?_
  refine lv_aload_n hx hb dL_contrast_3 rfl (lv_at hl 0 rfl) ?_
  refine lv_iload_n hx hb dL_contrast_4 rfl (lv_at hl 1 rfl) ?_
  refine lv_iload_n hx hb dL_contrast_5 rfl (lv_at hl 2 rfl) ?_
  refine lv_iload_n hx hb dL_contrast_6 rfl (lv_at hl 3 rfl) ?_
  refine ho_call S hE hK hC hP hS lk_L_28 rfl hM ⟨Nat.le_of_ble_eq_true rfl, Nat.le_of_ble_eq_true rfl⟩ rfl hl.1 (Nat.le_of_ble_eq_true rfl) ⟨Nat.le_of_ble_eq_true rfl, Nat.le_of_ble_eq_true rfl⟩ dL_contrast_7 rfl (fun r u H locs hp hP hS => ?_)
  refine lv_i2l hx hb dL_contrast_10 rfl ?_
  refine rw_last (x := (u.1, u.2.1, va_up u.2.2 118 (K 118))) S hE hK hP hS 118 (by decide) kO_118 0 rfl (by decide) (by decide) dL_contrast_11 (fun H locs hP hS => ?_)
  refine lv_goto (tgt := 19) hx hb dL_contrast_12 (by decide) ?_
  refine lv_iconst (v := 0) hx hb dL_contrast_19 (by decide) ?_
  exact re_wo (x := (u.1, u.2.1, up2 (va_up u.2.2 118 (K 118)) 118 0 r.toInt64)) hx hb hr hlk hP hS ⟨rfl, r, u, hp, rfl⟩ (Nat.le_of_ble_eq_true rfl) (Nat.le_of_ble_eq_true rfl) dL_contrast_20
theorem hx_contrast_0 (l : Launch) (E : En) (I A : Nat → Nat → Int32) (K : Nat → Nat → Int64) (x0 x1 x2 : Int32) (hE : Ev 119 E) (hM : Mx l yX6_contrast cX6_contrast 4 (some .int) E [.ref (eP E 0), .int x0, .int x1, .int x2] (I, A, K) "java/lang/IndexOutOfBoundsException") : Mh l yL_contrast cL_contrast 6 hh_contrast E [.ref (eP E 0), .int x0, .int x1, .int x2, .ref (eP E 118)] (I, A, K) (fun zz uu => zz = 1 ∧ uu = (I, A, K)) := by
  refine en_ofH RL rfl (by decide +kernel) (Nat.le_of_ble_eq_true rfl) ?_
  intro p e s m below meth c ls S hr hlk htab hl hB
  have hx := S.1
  have hb := S.2.1
  obtain ⟨hK, hC, hP⟩ := hB
  have hS : va_S (cA 119 E) s.heap s.heap [] := va_S.rf
  have hl : lv_has ls 6 [(0, .ref (eP E 0)), (1, .int x0), (2, .int x1), (3, .int x2), (4, .ref (eP E 118))] := hl
  refine lv_aload hx hb dL_contrast_0 (lv_at hl 4 rfl) ?_
  refine lv_iconst (v := 0) hx hb dL_contrast_2 (by decide) ?_
  refine lv_aload_n hx hb dL_contrast_3 rfl (lv_at hl 0 rfl) ?_
  refine lv_iload_n hx hb dL_contrast_4 rfl (lv_at hl 1 rfl) ?_
  refine lv_iload_n hx hb dL_contrast_5 rfl (lv_at hl 2 rfl) ?_
  refine lv_iload_n hx hb dL_contrast_6 rfl (lv_at hl 3 rfl) ?_
  refine ho_catch S hE hK hC hP lk_L_28 rfl hM ⟨Nat.le_of_ble_eq_true rfl, Nat.le_of_ble_eq_true rfl⟩ rfl hl.1 (Nat.le_of_ble_eq_true rfl) ⟨Nat.le_of_ble_eq_true rfl, Nat.le_of_ble_eq_true rfl⟩ dL_contrast_7 rfl htab [] (⟨0, 12, 15, 19⟩ : ExceptionTableEntry) [] rfl (fun z hz => absurd hz List.not_mem_nil) (by decide) (by decide) (by decide) cl_L_19 (fun q H locs hP hS => ?_)
  refine lv_astore (lv' := [(5, .ref q), (0, .ref (eP E 0)), (1, .int x0), (2, .int x1), (3, .int x2), (4, .ref (eP E 118))]) hx hb dL_contrast_15 hl (by decide) rfl (fun ls hl => ?_)
  refine lv_iconst (v := 1) hx hb dL_contrast_17 (by decide) ?_
  exact re_wo (x := (I, A, K)) hx hb hr hlk hP hS ⟨rfl, rfl⟩ (Nat.le_of_ble_eq_true rfl) (Nat.le_of_ble_eq_true rfl) dL_contrast_18
def hh_difference : List (Nat × Nat × Nat × Nat) := [(0, 14, 17, 19), (0, 14, 21, 13)]
theorem h_difference (l : Launch) (E : En) (I A : Nat → Nat → Int32) (K : Nat → Nat → Int64) (x0 x1 x2 x3 : Int32) (post : Int32 → St → Prop) (hE : Ev 119 E) (hM : Ma l yX6_difference cX6_difference 5 (some .int) cN E cK [.ref (eP E 0), .int x0, .int x1, .int x2, .int x3] (I, A, K) post) : Mh l yL_difference cL_difference 7 hh_difference E [.ref (eP E 0), .int x0, .int x1, .int x2, .int x3, .ref (eP E 118)] (I, A, K) (fun zz uu => zz = 0 ∧ ∃ r u, post r u ∧ uu = (u.1, u.2.1, up2 (va_up u.2.2 118 (K 118)) 118 0 r.toInt64)) := by
  refine en_ofH RL rfl (by decide +kernel) (Nat.le_of_ble_eq_true rfl) ?_
  intro p e s m below meth c ls S hr hlk htab hl hB
  have hx := S.1
  have hb := S.2.1
  obtain ⟨hK, hC, hP⟩ := hB
  have hS : va_S (cA 119 E) s.heap s.heap [] := va_S.rf
  have hl : lv_has ls 7 [(0, .ref (eP E 0)), (1, .int x0), (2, .int x1), (3, .int x2), (4, .int x3), (5, .ref (eP E 118))] := hl
  refine lv_aload hx hb dL_difference_0 (lv_at hl 5 rfl) ?_
  refine lv_iconst (v := 0) hx hb dL_difference_2 (by decide) ?_
  refine lv_aload_n hx hb dL_difference_3 rfl (lv_at hl 0 rfl) ?_
  refine lv_iload_n hx hb dL_difference_4 rfl (lv_at hl 1 rfl) ?_
  refine lv_iload_n hx hb dL_difference_5 rfl (lv_at hl 2 rfl) ?_
  refine lv_iload_n hx hb dL_difference_6 rfl (lv_at hl 3 rfl) ?_
  refine lv_iload hx hb dL_difference_7 (lv_at hl 4 rfl) ?_
  refine ho_call S hE hK hC hP hS lk_L_35 rfl hM ⟨Nat.le_of_ble_eq_true rfl, Nat.le_of_ble_eq_true rfl⟩ rfl hl.1 (Nat.le_of_ble_eq_true rfl) ⟨Nat.le_of_ble_eq_true rfl, Nat.le_of_ble_eq_true rfl⟩ dL_difference_9 rfl (fun r u H locs hp hP hS => ?_)
  refine lv_i2l hx hb dL_difference_12 rfl ?_
  refine rw_last (x := (u.1, u.2.1, va_up u.2.2 118 (K 118))) S hE hK hP hS 118 (by decide) kO_118 0 rfl (by decide) (by decide) dL_difference_13 (fun H locs hP hS => ?_)
  refine lv_goto (tgt := 25) hx hb dL_difference_14 (by decide) ?_
  refine lv_iconst (v := 0) hx hb dL_difference_25 (by decide) ?_
  exact re_wo (x := (u.1, u.2.1, up2 (va_up u.2.2 118 (K 118)) 118 0 r.toInt64)) hx hb hr hlk hP hS ⟨rfl, r, u, hp, rfl⟩ (Nat.le_of_ble_eq_true rfl) (Nat.le_of_ble_eq_true rfl) dL_difference_26
theorem hx_difference_0 (l : Launch) (E : En) (I A : Nat → Nat → Int32) (K : Nat → Nat → Int64) (x0 x1 x2 x3 : Int32) (hE : Ev 119 E) (hM : Mx l yX6_difference cX6_difference 5 (some .int) E [.ref (eP E 0), .int x0, .int x1, .int x2, .int x3] (I, A, K) "java/lang/IndexOutOfBoundsException") : Mh l yL_difference cL_difference 7 hh_difference E [.ref (eP E 0), .int x0, .int x1, .int x2, .int x3, .ref (eP E 118)] (I, A, K) (fun zz uu => zz = 1 ∧ uu = (I, A, K)) := by
  refine en_ofH RL rfl (by decide +kernel) (Nat.le_of_ble_eq_true rfl) ?_
  intro p e s m below meth c ls S hr hlk htab hl hB
  have hx := S.1
  have hb := S.2.1
  obtain ⟨hK, hC, hP⟩ := hB
  have hS : va_S (cA 119 E) s.heap s.heap [] := va_S.rf
  have hl : lv_has ls 7 [(0, .ref (eP E 0)), (1, .int x0), (2, .int x1), (3, .int x2), (4, .int x3), (5, .ref (eP E 118))] := hl
  refine lv_aload hx hb dL_difference_0 (lv_at hl 5 rfl) ?_
  refine lv_iconst (v := 0) hx hb dL_difference_2 (by decide) ?_
  refine lv_aload_n hx hb dL_difference_3 rfl (lv_at hl 0 rfl) ?_
  refine lv_iload_n hx hb dL_difference_4 rfl (lv_at hl 1 rfl) ?_
  refine lv_iload_n hx hb dL_difference_5 rfl (lv_at hl 2 rfl) ?_
  refine lv_iload_n hx hb dL_difference_6 rfl (lv_at hl 3 rfl) ?_
  refine lv_iload hx hb dL_difference_7 (lv_at hl 4 rfl) ?_
  refine ho_catch S hE hK hC hP lk_L_35 rfl hM ⟨Nat.le_of_ble_eq_true rfl, Nat.le_of_ble_eq_true rfl⟩ rfl hl.1 (Nat.le_of_ble_eq_true rfl) ⟨Nat.le_of_ble_eq_true rfl, Nat.le_of_ble_eq_true rfl⟩ dL_difference_9 rfl htab [] (⟨0, 14, 17, 19⟩ : ExceptionTableEntry) [(⟨0, 14, 21, 13⟩ : ExceptionTableEntry)] rfl (fun z hz => absurd hz List.not_mem_nil) (by decide) (by decide) (by decide) cl_L_19 (fun q H locs hP hS => ?_)
  refine lv_astore (lv' := [(6, .ref q), (0, .ref (eP E 0)), (1, .int x0), (2, .int x1), (3, .int x2), (4, .int x3), (5, .ref (eP E 118))]) hx hb dL_difference_17 hl (by decide) rfl (fun ls hl => ?_)
  refine lv_iconst (v := 1) hx hb dL_difference_19 (by decide) ?_
  exact re_wo (x := (I, A, K)) hx hb hr hlk hP hS ⟨rfl, rfl⟩ (Nat.le_of_ble_eq_true rfl) (Nat.le_of_ble_eq_true rfl) dL_difference_20
theorem hx_difference_1 (l : Launch) (E : En) (I A : Nat → Nat → Int32) (K : Nat → Nat → Int64) (x0 x1 x2 x3 : Int32) (hE : Ev 119 E) (hM : Mx l yX6_difference cX6_difference 5 (some .int) E [.ref (eP E 0), .int x0, .int x1, .int x2, .int x3] (I, A, K) "java/lang/IllegalArgumentException") : Mh l yL_difference cL_difference 7 hh_difference E [.ref (eP E 0), .int x0, .int x1, .int x2, .int x3, .ref (eP E 118)] (I, A, K) (fun zz uu => zz = 2 ∧ uu = (I, A, K)) := by
  refine en_ofH RL rfl (by decide +kernel) (Nat.le_of_ble_eq_true rfl) ?_
  intro p e s m below meth c ls S hr hlk htab hl hB
  have hx := S.1
  have hb := S.2.1
  obtain ⟨hK, hC, hP⟩ := hB
  have hS : va_S (cA 119 E) s.heap s.heap [] := va_S.rf
  have hl : lv_has ls 7 [(0, .ref (eP E 0)), (1, .int x0), (2, .int x1), (3, .int x2), (4, .int x3), (5, .ref (eP E 118))] := hl
  refine lv_aload hx hb dL_difference_0 (lv_at hl 5 rfl) ?_
  refine lv_iconst (v := 0) hx hb dL_difference_2 (by decide) ?_
  refine lv_aload_n hx hb dL_difference_3 rfl (lv_at hl 0 rfl) ?_
  refine lv_iload_n hx hb dL_difference_4 rfl (lv_at hl 1 rfl) ?_
  refine lv_iload_n hx hb dL_difference_5 rfl (lv_at hl 2 rfl) ?_
  refine lv_iload_n hx hb dL_difference_6 rfl (lv_at hl 3 rfl) ?_
  refine lv_iload hx hb dL_difference_7 (lv_at hl 4 rfl) ?_
  refine ho_catch S hE hK hC hP lk_L_35 rfl hM ⟨Nat.le_of_ble_eq_true rfl, Nat.le_of_ble_eq_true rfl⟩ rfl hl.1 (Nat.le_of_ble_eq_true rfl) ⟨Nat.le_of_ble_eq_true rfl, Nat.le_of_ble_eq_true rfl⟩ dL_difference_9 rfl htab [(⟨0, 14, 17, 19⟩ : ExceptionTableEntry)] (⟨0, 14, 21, 13⟩ : ExceptionTableEntry) [] rfl (List.forall_mem_cons.mpr ⟨⟨by decide, "java/lang/IndexOutOfBoundsException", cl_L_19, by decide⟩, (fun z hz => absurd hz List.not_mem_nil)⟩) (by decide) (by decide) (by decide) cl_L_13 (fun q H locs hP hS => ?_)
  refine lv_astore (lv' := [(6, .ref q), (0, .ref (eP E 0)), (1, .int x0), (2, .int x1), (3, .int x2), (4, .int x3), (5, .ref (eP E 118))]) hx hb dL_difference_21 hl (by decide) rfl (fun ls hl => ?_)
  refine lv_iconst (v := 2) hx hb dL_difference_23 (by decide) ?_
  exact re_wo (x := (I, A, K)) hx hb hr hlk hP hS ⟨rfl, rfl⟩ (Nat.le_of_ble_eq_true rfl) (Nat.le_of_ble_eq_true rfl) dL_difference_24
def hh_isFixed : List (Nat × Nat × Nat × Nat) := [(0, 16, 19, 19)]
theorem h_isFixed (l : Launch) (E : En) (I A : Nat → Nat → Int32) (K : Nat → Nat → Int64) (x0 : Int32) (post : Int32 → St → Prop) (hE : Ev 119 E) (hM : Ma l yX6_isFixed cX6_isFixed 2 (some .boolean) cN E cK [.ref (eP E 0), .int x0] (I, A, K) post) : Mh l yL_isFixed cL_isFixed 4 hh_isFixed E [.ref (eP E 0), .int x0, .ref (eP E 118)] (I, A, K) (fun zz uu => zz = 0 ∧ ∃ r u, post r u ∧ uu = (u.1, u.2.1, up2 (va_up u.2.2 118 (K 118)) 118 0 (if r = 0 then 0 else 1))) := by
  refine en_ofH RL rfl (by decide +kernel) (Nat.le_of_ble_eq_true rfl) ?_
  intro p e s m below meth c ls S hr hlk htab hl hB
  have hx := S.1
  have hb := S.2.1
  obtain ⟨hK, hC, hP⟩ := hB
  have hS : va_S (cA 119 E) s.heap s.heap [] := va_S.rf
  have hl : lv_has ls 4 [(0, .ref (eP E 0)), (1, .int x0), (2, .ref (eP E 118))] := hl
  refine lv_aload_n hx hb dL_isFixed_0 rfl (lv_at hl 2 rfl) ?_
  refine lv_iconst (v := 0) hx hb dL_isFixed_1 (by decide) ?_
  refine lv_aload_n hx hb dL_isFixed_2 rfl (lv_at hl 0 rfl) ?_
  refine lv_iload_n hx hb dL_isFixed_3 rfl (lv_at hl 1 rfl) ?_
  refine ho_call S hE hK hC hP hS lk_L_21 rfl hM ⟨Nat.le_of_ble_eq_true rfl, Nat.le_of_ble_eq_true rfl⟩ rfl hl.1 (Nat.le_of_ble_eq_true rfl) ⟨Nat.le_of_ble_eq_true rfl, Nat.le_of_ble_eq_true rfl⟩ dL_isFixed_4 rfl (fun r u H locs hp hP hS => ?_)
  refine lv_if_eq (tgt := 14) hx hb dL_isFixed_7 (by decide) (fun h9 => ?_) (fun h9 => ?_)
  · refine lv_lconst (v := 0) hx hb dL_isFixed_14 (by decide) ?_
    refine rw_last (x := (u.1, u.2.1, va_up u.2.2 118 (K 118))) S hE hK hP hS 118 (by decide) kO_118 0 rfl (by decide) (by decide) dL_isFixed_15 (fun H locs hP hS => ?_)
    refine lv_goto (tgt := 22) hx hb dL_isFixed_16 (by decide) ?_
    refine lv_iconst (v := 0) hx hb dL_isFixed_22 (by decide) ?_
    exact re_wo (x := (u.1, u.2.1, up2 (va_up u.2.2 118 (K 118)) 118 0 0)) hx hb hr hlk hP hS ⟨rfl, r, u, hp, by rw [if_pos h9]⟩ (Nat.le_of_ble_eq_true rfl) (Nat.le_of_ble_eq_true rfl) dL_isFixed_23
  · refine lv_lconst (v := 1) hx hb dL_isFixed_10 (by decide) ?_
    refine lv_goto (tgt := 15) hx hb dL_isFixed_11 (by decide) ?_
    refine rw_last (x := (u.1, u.2.1, va_up u.2.2 118 (K 118))) S hE hK hP hS 118 (by decide) kO_118 0 rfl (by decide) (by decide) dL_isFixed_15 (fun H locs hP hS => ?_)
    refine lv_goto (tgt := 22) hx hb dL_isFixed_16 (by decide) ?_
    refine lv_iconst (v := 0) hx hb dL_isFixed_22 (by decide) ?_
    exact re_wo (x := (u.1, u.2.1, up2 (va_up u.2.2 118 (K 118)) 118 0 1)) hx hb hr hlk hP hS ⟨rfl, r, u, hp, by rw [if_neg h9]⟩ (Nat.le_of_ble_eq_true rfl) (Nat.le_of_ble_eq_true rfl) dL_isFixed_23
theorem hx_isFixed_0 (l : Launch) (E : En) (I A : Nat → Nat → Int32) (K : Nat → Nat → Int64) (x0 : Int32) (hE : Ev 119 E) (hM : Mx l yX6_isFixed cX6_isFixed 2 (some .boolean) E [.ref (eP E 0), .int x0] (I, A, K) "java/lang/IndexOutOfBoundsException") : Mh l yL_isFixed cL_isFixed 4 hh_isFixed E [.ref (eP E 0), .int x0, .ref (eP E 118)] (I, A, K) (fun zz uu => zz = 1 ∧ uu = (I, A, K)) := by
  refine en_ofH RL rfl (by decide +kernel) (Nat.le_of_ble_eq_true rfl) ?_
  intro p e s m below meth c ls S hr hlk htab hl hB
  have hx := S.1
  have hb := S.2.1
  obtain ⟨hK, hC, hP⟩ := hB
  have hS : va_S (cA 119 E) s.heap s.heap [] := va_S.rf
  have hl : lv_has ls 4 [(0, .ref (eP E 0)), (1, .int x0), (2, .ref (eP E 118))] := hl
  refine lv_aload_n hx hb dL_isFixed_0 rfl (lv_at hl 2 rfl) ?_
  refine lv_iconst (v := 0) hx hb dL_isFixed_1 (by decide) ?_
  refine lv_aload_n hx hb dL_isFixed_2 rfl (lv_at hl 0 rfl) ?_
  refine lv_iload_n hx hb dL_isFixed_3 rfl (lv_at hl 1 rfl) ?_
  refine ho_catch S hE hK hC hP lk_L_21 rfl hM ⟨Nat.le_of_ble_eq_true rfl, Nat.le_of_ble_eq_true rfl⟩ rfl hl.1 (Nat.le_of_ble_eq_true rfl) ⟨Nat.le_of_ble_eq_true rfl, Nat.le_of_ble_eq_true rfl⟩ dL_isFixed_4 rfl htab [] (⟨0, 16, 19, 19⟩ : ExceptionTableEntry) [] rfl (fun z hz => absurd hz List.not_mem_nil) (by decide) (by decide) (by decide) cl_L_19 (fun q H locs hP hS => ?_)
  refine lv_astore_n (lv' := [(3, .ref q), (0, .ref (eP E 0)), (1, .int x0), (2, .ref (eP E 118))]) hx hb dL_isFixed_19 rfl hl (by decide) rfl (fun ls hl => ?_)
  refine lv_iconst (v := 1) hx hb dL_isFixed_20 (by decide) ?_
  exact re_wo (x := (I, A, K)) hx hb hr hlk hP hS ⟨rfl, rfl⟩ (Nat.le_of_ble_eq_true rfl) (Nat.le_of_ble_eq_true rfl) dL_isFixed_21
def hh_load : List (Nat × Nat × Nat × Nat) := [(0, 9, 12, 13)]
theorem h_load (l : Launch) (E : En) (I A : Nat → Nat → Int32) (K : Nat → Nat → Int64) (x0 : Int32) (post : Int32 → St → Prop) (hE : Ev 119 E) (hM : Ma l yX6_load cX6_load 3 (some .int) cN E cK [.ref (eP E 0), .int x0] (I, A, K) post) : Mh l yL_load cL_load 4 hh_load E [.ref (eP E 0), .int x0, .ref (eP E 118)] (I, A, K) (fun zz uu => zz = 0 ∧ ∃ r u, post r u ∧ uu = (u.1, u.2.1, up2 (va_up u.2.2 118 (K 118)) 118 0 r.toInt64)) := by
  refine en_ofH RL rfl (by decide +kernel) (Nat.le_of_ble_eq_true rfl) ?_
  intro p e s m below meth c ls S hr hlk htab hl hB
  have hx := S.1
  have hb := S.2.1
  obtain ⟨hK, hC, hP⟩ := hB
  have hS : va_S (cA 119 E) s.heap s.heap [] := va_S.rf
  have hl : lv_has ls 4 [(0, .ref (eP E 0)), (1, .int x0), (2, .ref (eP E 118))] := hl
  refine lv_aload_n hx hb dL_load_0 rfl (lv_at hl 2 rfl) ?_
  refine lv_iconst (v := 0) hx hb dL_load_1 (by decide) ?_
  refine lv_aload_n hx hb dL_load_2 rfl (lv_at hl 0 rfl) ?_
  refine lv_iload_n hx hb dL_load_3 rfl (lv_at hl 1 rfl) ?_
  refine ho_call S hE hK hC hP hS lk_L_7 rfl hM ⟨Nat.le_of_ble_eq_true rfl, Nat.le_of_ble_eq_true rfl⟩ rfl hl.1 (Nat.le_of_ble_eq_true rfl) ⟨Nat.le_of_ble_eq_true rfl, Nat.le_of_ble_eq_true rfl⟩ dL_load_4 rfl (fun r u H locs hp hP hS => ?_)
  refine lv_i2l hx hb dL_load_7 rfl ?_
  refine rw_last (x := (u.1, u.2.1, va_up u.2.2 118 (K 118))) S hE hK hP hS 118 (by decide) kO_118 0 rfl (by decide) (by decide) dL_load_8 (fun H locs hP hS => ?_)
  refine lv_goto (tgt := 15) hx hb dL_load_9 (by decide) ?_
  refine lv_iconst (v := 0) hx hb dL_load_15 (by decide) ?_
  exact re_wo (x := (u.1, u.2.1, up2 (va_up u.2.2 118 (K 118)) 118 0 r.toInt64)) hx hb hr hlk hP hS ⟨rfl, r, u, hp, rfl⟩ (Nat.le_of_ble_eq_true rfl) (Nat.le_of_ble_eq_true rfl) dL_load_16
theorem hx_load_0 (l : Launch) (E : En) (I A : Nat → Nat → Int32) (K : Nat → Nat → Int64) (x0 : Int32) (hE : Ev 119 E) (hM : Mx l yX6_load cX6_load 3 (some .int) E [.ref (eP E 0), .int x0] (I, A, K) "java/lang/IllegalArgumentException") : Mh l yL_load cL_load 4 hh_load E [.ref (eP E 0), .int x0, .ref (eP E 118)] (I, A, K) (fun zz uu => zz = 1 ∧ uu = (I, A, K)) := by
  refine en_ofH RL rfl (by decide +kernel) (Nat.le_of_ble_eq_true rfl) ?_
  intro p e s m below meth c ls S hr hlk htab hl hB
  have hx := S.1
  have hb := S.2.1
  obtain ⟨hK, hC, hP⟩ := hB
  have hS : va_S (cA 119 E) s.heap s.heap [] := va_S.rf
  have hl : lv_has ls 4 [(0, .ref (eP E 0)), (1, .int x0), (2, .ref (eP E 118))] := hl
  refine lv_aload_n hx hb dL_load_0 rfl (lv_at hl 2 rfl) ?_
  refine lv_iconst (v := 0) hx hb dL_load_1 (by decide) ?_
  refine lv_aload_n hx hb dL_load_2 rfl (lv_at hl 0 rfl) ?_
  refine lv_iload_n hx hb dL_load_3 rfl (lv_at hl 1 rfl) ?_
  refine ho_catch S hE hK hC hP lk_L_7 rfl hM ⟨Nat.le_of_ble_eq_true rfl, Nat.le_of_ble_eq_true rfl⟩ rfl hl.1 (Nat.le_of_ble_eq_true rfl) ⟨Nat.le_of_ble_eq_true rfl, Nat.le_of_ble_eq_true rfl⟩ dL_load_4 rfl htab [] (⟨0, 9, 12, 13⟩ : ExceptionTableEntry) [] rfl (fun z hz => absurd hz List.not_mem_nil) (by decide) (by decide) (by decide) cl_L_13 (fun q H locs hP hS => ?_)
  refine lv_astore_n (lv' := [(3, .ref q), (0, .ref (eP E 0)), (1, .int x0), (2, .ref (eP E 118))]) hx hb dL_load_12 rfl hl (by decide) rfl (fun ls hl => ?_)
  refine lv_iconst (v := 1) hx hb dL_load_13 (by decide) ?_
  exact re_wo (x := (I, A, K)) hx hb hr hlk hP hS ⟨rfl, rfl⟩ (Nat.le_of_ble_eq_true rfl) (Nat.le_of_ble_eq_true rfl) dL_load_14
def hh_luminance : List (Nat × Nat × Nat × Nat) := [(0, 10, 13, 19)]
theorem h_luminance (l : Launch) (E : En) (I A : Nat → Nat → Int32) (K : Nat → Nat → Int64) (x0 x1 : Int32) (post : Int32 → St → Prop) (hE : Ev 119 E) (hM : Ma l yX6_luminance cX6_luminance 3 (some .int) cN E cK [.ref (eP E 0), .int x0, .int x1] (I, A, K) post) : Mh l yL_luminance cL_luminance 5 hh_luminance E [.ref (eP E 0), .int x0, .int x1, .ref (eP E 118)] (I, A, K) (fun zz uu => zz = 0 ∧ ∃ r u, post r u ∧ uu = (u.1, u.2.1, up2 (va_up u.2.2 118 (K 118)) 118 0 r.toInt64)) := by
  refine en_ofH RL rfl (by decide +kernel) (Nat.le_of_ble_eq_true rfl) ?_
  intro p e s m below meth c ls S hr hlk htab hl hB
  have hx := S.1
  have hb := S.2.1
  obtain ⟨hK, hC, hP⟩ := hB
  have hS : va_S (cA 119 E) s.heap s.heap [] := va_S.rf
  have hl : lv_has ls 5 [(0, .ref (eP E 0)), (1, .int x0), (2, .int x1), (3, .ref (eP E 118))] := hl
  refine lv_aload_n hx hb dL_luminance_0 rfl (lv_at hl 3 rfl) ?_
  refine lv_iconst (v := 0) hx hb dL_luminance_1 (by decide) ?_
  refine lv_aload_n hx hb dL_luminance_2 rfl (lv_at hl 0 rfl) ?_
  refine lv_iload_n hx hb dL_luminance_3 rfl (lv_at hl 1 rfl) ?_
  refine lv_iload_n hx hb dL_luminance_4 rfl (lv_at hl 2 rfl) ?_
  refine ho_call S hE hK hC hP hS lk_L_25 rfl hM ⟨Nat.le_of_ble_eq_true rfl, Nat.le_of_ble_eq_true rfl⟩ rfl hl.1 (Nat.le_of_ble_eq_true rfl) ⟨Nat.le_of_ble_eq_true rfl, Nat.le_of_ble_eq_true rfl⟩ dL_luminance_5 rfl (fun r u H locs hp hP hS => ?_)
  refine lv_i2l hx hb dL_luminance_8 rfl ?_
  refine rw_last (x := (u.1, u.2.1, va_up u.2.2 118 (K 118))) S hE hK hP hS 118 (by decide) kO_118 0 rfl (by decide) (by decide) dL_luminance_9 (fun H locs hP hS => ?_)
  refine lv_goto (tgt := 17) hx hb dL_luminance_10 (by decide) ?_
  refine lv_iconst (v := 0) hx hb dL_luminance_17 (by decide) ?_
  exact re_wo (x := (u.1, u.2.1, up2 (va_up u.2.2 118 (K 118)) 118 0 r.toInt64)) hx hb hr hlk hP hS ⟨rfl, r, u, hp, rfl⟩ (Nat.le_of_ble_eq_true rfl) (Nat.le_of_ble_eq_true rfl) dL_luminance_18
theorem hx_luminance_0 (l : Launch) (E : En) (I A : Nat → Nat → Int32) (K : Nat → Nat → Int64) (x0 x1 : Int32) (hE : Ev 119 E) (hM : Mx l yX6_luminance cX6_luminance 3 (some .int) E [.ref (eP E 0), .int x0, .int x1] (I, A, K) "java/lang/IndexOutOfBoundsException") : Mh l yL_luminance cL_luminance 5 hh_luminance E [.ref (eP E 0), .int x0, .int x1, .ref (eP E 118)] (I, A, K) (fun zz uu => zz = 1 ∧ uu = (I, A, K)) := by
  refine en_ofH RL rfl (by decide +kernel) (Nat.le_of_ble_eq_true rfl) ?_
  intro p e s m below meth c ls S hr hlk htab hl hB
  have hx := S.1
  have hb := S.2.1
  obtain ⟨hK, hC, hP⟩ := hB
  have hS : va_S (cA 119 E) s.heap s.heap [] := va_S.rf
  have hl : lv_has ls 5 [(0, .ref (eP E 0)), (1, .int x0), (2, .int x1), (3, .ref (eP E 118))] := hl
  refine lv_aload_n hx hb dL_luminance_0 rfl (lv_at hl 3 rfl) ?_
  refine lv_iconst (v := 0) hx hb dL_luminance_1 (by decide) ?_
  refine lv_aload_n hx hb dL_luminance_2 rfl (lv_at hl 0 rfl) ?_
  refine lv_iload_n hx hb dL_luminance_3 rfl (lv_at hl 1 rfl) ?_
  refine lv_iload_n hx hb dL_luminance_4 rfl (lv_at hl 2 rfl) ?_
  refine ho_catch S hE hK hC hP lk_L_25 rfl hM ⟨Nat.le_of_ble_eq_true rfl, Nat.le_of_ble_eq_true rfl⟩ rfl hl.1 (Nat.le_of_ble_eq_true rfl) ⟨Nat.le_of_ble_eq_true rfl, Nat.le_of_ble_eq_true rfl⟩ dL_luminance_5 rfl htab [] (⟨0, 10, 13, 19⟩ : ExceptionTableEntry) [] rfl (fun z hz => absurd hz List.not_mem_nil) (by decide) (by decide) (by decide) cl_L_19 (fun q H locs hP hS => ?_)
  refine lv_astore (lv' := [(4, .ref q), (0, .ref (eP E 0)), (1, .int x0), (2, .int x1), (3, .ref (eP E 118))]) hx hb dL_luminance_13 hl (by decide) rfl (fun ls hl => ?_)
  refine lv_iconst (v := 1) hx hb dL_luminance_15 (by decide) ?_
  exact re_wo (x := (I, A, K)) hx hb hr hlk hP hS ⟨rfl, rfl⟩ (Nat.le_of_ble_eq_true rfl) (Nat.le_of_ble_eq_true rfl) dL_luminance_16
def hh_nearest : List (Nat × Nat × Nat × Nat) := [(0, 10, 13, 19), (0, 10, 17, 13)]
theorem h_nearest (l : Launch) (E : En) (I A : Nat → Nat → Int32) (K : Nat → Nat → Int64) (x0 x1 : Int32) (post : Int32 → St → Prop) (hE : Ev 119 E) (hM : Ma l yX6_nearest cX6_nearest 3 (some .int) cN E cK [.ref (eP E 0), .int x0, .int x1] (I, A, K) post) : Mh l yL_nearest cL_nearest 5 hh_nearest E [.ref (eP E 0), .int x0, .int x1, .ref (eP E 118)] (I, A, K) (fun zz uu => zz = 0 ∧ ∃ r u, post r u ∧ uu = (u.1, u.2.1, up2 (va_up u.2.2 118 (K 118)) 118 0 r.toInt64)) := by
  refine en_ofH RL rfl (by decide +kernel) (Nat.le_of_ble_eq_true rfl) ?_
  intro p e s m below meth c ls S hr hlk htab hl hB
  have hx := S.1
  have hb := S.2.1
  obtain ⟨hK, hC, hP⟩ := hB
  have hS : va_S (cA 119 E) s.heap s.heap [] := va_S.rf
  have hl : lv_has ls 5 [(0, .ref (eP E 0)), (1, .int x0), (2, .int x1), (3, .ref (eP E 118))] := hl
  refine lv_aload_n hx hb dL_nearest_0 rfl (lv_at hl 3 rfl) ?_
  refine lv_iconst (v := 0) hx hb dL_nearest_1 (by decide) ?_
  refine lv_aload_n hx hb dL_nearest_2 rfl (lv_at hl 0 rfl) ?_
  refine lv_iload_n hx hb dL_nearest_3 rfl (lv_at hl 1 rfl) ?_
  refine lv_iload_n hx hb dL_nearest_4 rfl (lv_at hl 2 rfl) ?_
  refine ho_call S hE hK hC hP hS lk_L_39 rfl hM ⟨Nat.le_of_ble_eq_true rfl, Nat.le_of_ble_eq_true rfl⟩ rfl hl.1 (Nat.le_of_ble_eq_true rfl) ⟨Nat.le_of_ble_eq_true rfl, Nat.le_of_ble_eq_true rfl⟩ dL_nearest_5 rfl (fun r u H locs hp hP hS => ?_)
  refine lv_i2l hx hb dL_nearest_8 rfl ?_
  refine rw_last (x := (u.1, u.2.1, va_up u.2.2 118 (K 118))) S hE hK hP hS 118 (by decide) kO_118 0 rfl (by decide) (by decide) dL_nearest_9 (fun H locs hP hS => ?_)
  refine lv_goto (tgt := 21) hx hb dL_nearest_10 (by decide) ?_
  refine lv_iconst (v := 0) hx hb dL_nearest_21 (by decide) ?_
  exact re_wo (x := (u.1, u.2.1, up2 (va_up u.2.2 118 (K 118)) 118 0 r.toInt64)) hx hb hr hlk hP hS ⟨rfl, r, u, hp, rfl⟩ (Nat.le_of_ble_eq_true rfl) (Nat.le_of_ble_eq_true rfl) dL_nearest_22
theorem hx_nearest_0 (l : Launch) (E : En) (I A : Nat → Nat → Int32) (K : Nat → Nat → Int64) (x0 x1 : Int32) (hE : Ev 119 E) (hM : Mx l yX6_nearest cX6_nearest 3 (some .int) E [.ref (eP E 0), .int x0, .int x1] (I, A, K) "java/lang/IndexOutOfBoundsException") : Mh l yL_nearest cL_nearest 5 hh_nearest E [.ref (eP E 0), .int x0, .int x1, .ref (eP E 118)] (I, A, K) (fun zz uu => zz = 1 ∧ uu = (I, A, K)) := by
  refine en_ofH RL rfl (by decide +kernel) (Nat.le_of_ble_eq_true rfl) ?_
  intro p e s m below meth c ls S hr hlk htab hl hB
  have hx := S.1
  have hb := S.2.1
  obtain ⟨hK, hC, hP⟩ := hB
  have hS : va_S (cA 119 E) s.heap s.heap [] := va_S.rf
  have hl : lv_has ls 5 [(0, .ref (eP E 0)), (1, .int x0), (2, .int x1), (3, .ref (eP E 118))] := hl
  refine lv_aload_n hx hb dL_nearest_0 rfl (lv_at hl 3 rfl) ?_
  refine lv_iconst (v := 0) hx hb dL_nearest_1 (by decide) ?_
  refine lv_aload_n hx hb dL_nearest_2 rfl (lv_at hl 0 rfl) ?_
  refine lv_iload_n hx hb dL_nearest_3 rfl (lv_at hl 1 rfl) ?_
  refine lv_iload_n hx hb dL_nearest_4 rfl (lv_at hl 2 rfl) ?_
  refine ho_catch S hE hK hC hP lk_L_39 rfl hM ⟨Nat.le_of_ble_eq_true rfl, Nat.le_of_ble_eq_true rfl⟩ rfl hl.1 (Nat.le_of_ble_eq_true rfl) ⟨Nat.le_of_ble_eq_true rfl, Nat.le_of_ble_eq_true rfl⟩ dL_nearest_5 rfl htab [] (⟨0, 10, 13, 19⟩ : ExceptionTableEntry) [(⟨0, 10, 17, 13⟩ : ExceptionTableEntry)] rfl (fun z hz => absurd hz List.not_mem_nil) (by decide) (by decide) (by decide) cl_L_19 (fun q H locs hP hS => ?_)
  refine lv_astore (lv' := [(4, .ref q), (0, .ref (eP E 0)), (1, .int x0), (2, .int x1), (3, .ref (eP E 118))]) hx hb dL_nearest_13 hl (by decide) rfl (fun ls hl => ?_)
  refine lv_iconst (v := 1) hx hb dL_nearest_15 (by decide) ?_
  exact re_wo (x := (I, A, K)) hx hb hr hlk hP hS ⟨rfl, rfl⟩ (Nat.le_of_ble_eq_true rfl) (Nat.le_of_ble_eq_true rfl) dL_nearest_16
theorem hx_nearest_1 (l : Launch) (E : En) (I A : Nat → Nat → Int32) (K : Nat → Nat → Int64) (x0 x1 : Int32) (hE : Ev 119 E) (hM : Mx l yX6_nearest cX6_nearest 3 (some .int) E [.ref (eP E 0), .int x0, .int x1] (I, A, K) "java/lang/IllegalArgumentException") : Mh l yL_nearest cL_nearest 5 hh_nearest E [.ref (eP E 0), .int x0, .int x1, .ref (eP E 118)] (I, A, K) (fun zz uu => zz = 2 ∧ uu = (I, A, K)) := by
  refine en_ofH RL rfl (by decide +kernel) (Nat.le_of_ble_eq_true rfl) ?_
  intro p e s m below meth c ls S hr hlk htab hl hB
  have hx := S.1
  have hb := S.2.1
  obtain ⟨hK, hC, hP⟩ := hB
  have hS : va_S (cA 119 E) s.heap s.heap [] := va_S.rf
  have hl : lv_has ls 5 [(0, .ref (eP E 0)), (1, .int x0), (2, .int x1), (3, .ref (eP E 118))] := hl
  refine lv_aload_n hx hb dL_nearest_0 rfl (lv_at hl 3 rfl) ?_
  refine lv_iconst (v := 0) hx hb dL_nearest_1 (by decide) ?_
  refine lv_aload_n hx hb dL_nearest_2 rfl (lv_at hl 0 rfl) ?_
  refine lv_iload_n hx hb dL_nearest_3 rfl (lv_at hl 1 rfl) ?_
  refine lv_iload_n hx hb dL_nearest_4 rfl (lv_at hl 2 rfl) ?_
  refine ho_catch S hE hK hC hP lk_L_39 rfl hM ⟨Nat.le_of_ble_eq_true rfl, Nat.le_of_ble_eq_true rfl⟩ rfl hl.1 (Nat.le_of_ble_eq_true rfl) ⟨Nat.le_of_ble_eq_true rfl, Nat.le_of_ble_eq_true rfl⟩ dL_nearest_5 rfl htab [(⟨0, 10, 13, 19⟩ : ExceptionTableEntry)] (⟨0, 10, 17, 13⟩ : ExceptionTableEntry) [] rfl (List.forall_mem_cons.mpr ⟨⟨by decide, "java/lang/IndexOutOfBoundsException", cl_L_19, by decide⟩, (fun z hz => absurd hz List.not_mem_nil)⟩) (by decide) (by decide) (by decide) cl_L_13 (fun q H locs hP hS => ?_)
  refine lv_astore (lv' := [(4, .ref q), (0, .ref (eP E 0)), (1, .int x0), (2, .int x1), (3, .ref (eP E 118))]) hx hb dL_nearest_17 hl (by decide) rfl (fun ls hl => ?_)
  refine lv_iconst (v := 2) hx hb dL_nearest_19 (by decide) ?_
  exact re_wo (x := (I, A, K)) hx hb hr hlk hP hS ⟨rfl, rfl⟩ (Nat.le_of_ble_eq_true rfl) (Nat.le_of_ble_eq_true rfl) dL_nearest_20
def hh_need : List (Nat × Nat × Nat × Nat) := [(0, 10, 13, 19)]
theorem h_need (l : Launch) (E : En) (I A : Nat → Nat → Int32) (K : Nat → Nat → Int64) (x0 x1 : Int32) (post : Int32 → St → Prop) (hE : Ev 119 E) (hM : Ma l yX6_need cX6_need 3 (some .int) cN E cK [.ref (eP E 0), .int x0, .int x1] (I, A, K) post) : Mh l yL_need cL_need 5 hh_need E [.ref (eP E 0), .int x0, .int x1, .ref (eP E 118)] (I, A, K) (fun zz uu => zz = 0 ∧ ∃ r u, post r u ∧ uu = (u.1, u.2.1, up2 (va_up u.2.2 118 (K 118)) 118 0 r.toInt64)) := by
  refine en_ofH RL rfl (by decide +kernel) (Nat.le_of_ble_eq_true rfl) ?_
  intro p e s m below meth c ls S hr hlk htab hl hB
  have hx := S.1
  have hb := S.2.1
  obtain ⟨hK, hC, hP⟩ := hB
  have hS : va_S (cA 119 E) s.heap s.heap [] := va_S.rf
  have hl : lv_has ls 5 [(0, .ref (eP E 0)), (1, .int x0), (2, .int x1), (3, .ref (eP E 118))] := hl
  refine lv_aload_n hx hb dL_need_0 rfl (lv_at hl 3 rfl) ?_
  refine lv_iconst (v := 0) hx hb dL_need_1 (by decide) ?_
  refine lv_aload_n hx hb dL_need_2 rfl (lv_at hl 0 rfl) ?_
  refine lv_iload_n hx hb dL_need_3 rfl (lv_at hl 1 rfl) ?_
  refine lv_iload_n hx hb dL_need_4 rfl (lv_at hl 2 rfl) ?_
  refine ho_call S hE hK hC hP hS lk_L_42 rfl hM ⟨Nat.le_of_ble_eq_true rfl, Nat.le_of_ble_eq_true rfl⟩ rfl hl.1 (Nat.le_of_ble_eq_true rfl) ⟨Nat.le_of_ble_eq_true rfl, Nat.le_of_ble_eq_true rfl⟩ dL_need_5 rfl (fun r u H locs hp hP hS => ?_)
  refine lv_i2l hx hb dL_need_8 rfl ?_
  refine rw_last (x := (u.1, u.2.1, va_up u.2.2 118 (K 118))) S hE hK hP hS 118 (by decide) kO_118 0 rfl (by decide) (by decide) dL_need_9 (fun H locs hP hS => ?_)
  refine lv_goto (tgt := 17) hx hb dL_need_10 (by decide) ?_
  refine lv_iconst (v := 0) hx hb dL_need_17 (by decide) ?_
  exact re_wo (x := (u.1, u.2.1, up2 (va_up u.2.2 118 (K 118)) 118 0 r.toInt64)) hx hb hr hlk hP hS ⟨rfl, r, u, hp, rfl⟩ (Nat.le_of_ble_eq_true rfl) (Nat.le_of_ble_eq_true rfl) dL_need_18
theorem hx_need_0 (l : Launch) (E : En) (I A : Nat → Nat → Int32) (K : Nat → Nat → Int64) (x0 x1 : Int32) (hE : Ev 119 E) (hM : Mx l yX6_need cX6_need 3 (some .int) E [.ref (eP E 0), .int x0, .int x1] (I, A, K) "java/lang/IndexOutOfBoundsException") : Mh l yL_need cL_need 5 hh_need E [.ref (eP E 0), .int x0, .int x1, .ref (eP E 118)] (I, A, K) (fun zz uu => zz = 1 ∧ uu = (I, A, K)) := by
  refine en_ofH RL rfl (by decide +kernel) (Nat.le_of_ble_eq_true rfl) ?_
  intro p e s m below meth c ls S hr hlk htab hl hB
  have hx := S.1
  have hb := S.2.1
  obtain ⟨hK, hC, hP⟩ := hB
  have hS : va_S (cA 119 E) s.heap s.heap [] := va_S.rf
  have hl : lv_has ls 5 [(0, .ref (eP E 0)), (1, .int x0), (2, .int x1), (3, .ref (eP E 118))] := hl
  refine lv_aload_n hx hb dL_need_0 rfl (lv_at hl 3 rfl) ?_
  refine lv_iconst (v := 0) hx hb dL_need_1 (by decide) ?_
  refine lv_aload_n hx hb dL_need_2 rfl (lv_at hl 0 rfl) ?_
  refine lv_iload_n hx hb dL_need_3 rfl (lv_at hl 1 rfl) ?_
  refine lv_iload_n hx hb dL_need_4 rfl (lv_at hl 2 rfl) ?_
  refine ho_catch S hE hK hC hP lk_L_42 rfl hM ⟨Nat.le_of_ble_eq_true rfl, Nat.le_of_ble_eq_true rfl⟩ rfl hl.1 (Nat.le_of_ble_eq_true rfl) ⟨Nat.le_of_ble_eq_true rfl, Nat.le_of_ble_eq_true rfl⟩ dL_need_5 rfl htab [] (⟨0, 10, 13, 19⟩ : ExceptionTableEntry) [] rfl (fun z hz => absurd hz List.not_mem_nil) (by decide) (by decide) (by decide) cl_L_19 (fun q H locs hP hS => ?_)
  refine lv_astore (lv' := [(4, .ref q), (0, .ref (eP E 0)), (1, .int x0), (2, .int x1), (3, .ref (eP E 118))]) hx hb dL_need_13 hl (by decide) rfl (fun ls hl => ?_)
  refine lv_iconst (v := 1) hx hb dL_need_15 (by decide) ?_
  exact re_wo (x := (I, A, K)) hx hb hr hlk hP hS ⟨rfl, rfl⟩ (Nat.le_of_ble_eq_true rfl) (Nat.le_of_ble_eq_true rfl) dL_need_16
def hh_repair : List (Nat × Nat × Nat × Nat) := [(0, 9, 12, 13)]
theorem h_repair (l : Launch) (E : En) (I A : Nat → Nat → Int32) (K : Nat → Nat → Int64) (x0 : Int32) (post : Int32 → St → Prop) (hE : Ev 119 E) (hM : Ma l yX6_repair cX6_repair 3 (some .int) cN E cK [.ref (eP E 0), .int x0] (I, A, K) post) : Mh l yL_repair cL_repair 4 hh_repair E [.ref (eP E 0), .int x0, .ref (eP E 118)] (I, A, K) (fun zz uu => zz = 0 ∧ ∃ r u, post r u ∧ uu = (u.1, u.2.1, up2 (va_up u.2.2 118 (K 118)) 118 0 r.toInt64)) := by
  refine en_ofH RL rfl (by decide +kernel) (Nat.le_of_ble_eq_true rfl) ?_
  intro p e s m below meth c ls S hr hlk htab hl hB
  have hx := S.1
  have hb := S.2.1
  obtain ⟨hK, hC, hP⟩ := hB
  have hS : va_S (cA 119 E) s.heap s.heap [] := va_S.rf
  have hl : lv_has ls 4 [(0, .ref (eP E 0)), (1, .int x0), (2, .ref (eP E 118))] := hl
  refine lv_aload_n hx hb dL_repair_0 rfl (lv_at hl 2 rfl) ?_
  refine lv_iconst (v := 0) hx hb dL_repair_1 (by decide) ?_
  refine lv_aload_n hx hb dL_repair_2 rfl (lv_at hl 0 rfl) ?_
  refine lv_iload_n hx hb dL_repair_3 rfl (lv_at hl 1 rfl) ?_
  refine ho_call S hE hK hC hP hS lk_L_74 rfl hM ⟨Nat.le_of_ble_eq_true rfl, Nat.le_of_ble_eq_true rfl⟩ rfl hl.1 (Nat.le_of_ble_eq_true rfl) ⟨Nat.le_of_ble_eq_true rfl, Nat.le_of_ble_eq_true rfl⟩ dL_repair_4 rfl (fun r u H locs hp hP hS => ?_)
  refine lv_i2l hx hb dL_repair_7 rfl ?_
  refine rw_last (x := (u.1, u.2.1, va_up u.2.2 118 (K 118))) S hE hK hP hS 118 (by decide) kO_118 0 rfl (by decide) (by decide) dL_repair_8 (fun H locs hP hS => ?_)
  refine lv_goto (tgt := 15) hx hb dL_repair_9 (by decide) ?_
  refine lv_iconst (v := 0) hx hb dL_repair_15 (by decide) ?_
  exact re_wo (x := (u.1, u.2.1, up2 (va_up u.2.2 118 (K 118)) 118 0 r.toInt64)) hx hb hr hlk hP hS ⟨rfl, r, u, hp, rfl⟩ (Nat.le_of_ble_eq_true rfl) (Nat.le_of_ble_eq_true rfl) dL_repair_16
theorem hx_repair_0 (l : Launch) (E : En) (I A : Nat → Nat → Int32) (K : Nat → Nat → Int64) (x0 : Int32) (hE : Ev 119 E) (hM : Mx l yX6_repair cX6_repair 3 (some .int) E [.ref (eP E 0), .int x0] (I, A, K) "java/lang/IllegalArgumentException") : Mh l yL_repair cL_repair 4 hh_repair E [.ref (eP E 0), .int x0, .ref (eP E 118)] (I, A, K) (fun zz uu => zz = 1 ∧ uu = (I, A, K)) := by
  refine en_ofH RL rfl (by decide +kernel) (Nat.le_of_ble_eq_true rfl) ?_
  intro p e s m below meth c ls S hr hlk htab hl hB
  have hx := S.1
  have hb := S.2.1
  obtain ⟨hK, hC, hP⟩ := hB
  have hS : va_S (cA 119 E) s.heap s.heap [] := va_S.rf
  have hl : lv_has ls 4 [(0, .ref (eP E 0)), (1, .int x0), (2, .ref (eP E 118))] := hl
  refine lv_aload_n hx hb dL_repair_0 rfl (lv_at hl 2 rfl) ?_
  refine lv_iconst (v := 0) hx hb dL_repair_1 (by decide) ?_
  refine lv_aload_n hx hb dL_repair_2 rfl (lv_at hl 0 rfl) ?_
  refine lv_iload_n hx hb dL_repair_3 rfl (lv_at hl 1 rfl) ?_
  refine ho_catch S hE hK hC hP lk_L_74 rfl hM ⟨Nat.le_of_ble_eq_true rfl, Nat.le_of_ble_eq_true rfl⟩ rfl hl.1 (Nat.le_of_ble_eq_true rfl) ⟨Nat.le_of_ble_eq_true rfl, Nat.le_of_ble_eq_true rfl⟩ dL_repair_4 rfl htab [] (⟨0, 9, 12, 13⟩ : ExceptionTableEntry) [] rfl (fun z hz => absurd hz List.not_mem_nil) (by decide) (by decide) (by decide) cl_L_13 (fun q H locs hP hS => ?_)
  refine lv_astore_n (lv' := [(3, .ref q), (0, .ref (eP E 0)), (1, .int x0), (2, .ref (eP E 118))]) hx hb dL_repair_12 rfl hl (by decide) rfl (fun ls hl => ?_)
  refine lv_iconst (v := 1) hx hb dL_repair_13 (by decide) ?_
  exact re_wo (x := (I, A, K)) hx hb hr hlk hP hS ⟨rfl, rfl⟩ (Nat.le_of_ble_eq_true rfl) (Nat.le_of_ble_eq_true rfl) dL_repair_14
def hh_seen : List (Nat × Nat × Nat × Nat) := [(0, 12, 15, 19), (0, 12, 19, 13)]
theorem h_seen (l : Launch) (E : En) (I A : Nat → Nat → Int32) (K : Nat → Nat → Int64) (x0 x1 x2 : Int32) (post : Int32 → St → Prop) (hE : Ev 119 E) (hM : Ma l yX6_seen cX6_seen 4 (some .int) cN E cK [.ref (eP E 0), .int x0, .int x1, .int x2] (I, A, K) post) : Mh l yL_seen cL_seen 6 hh_seen E [.ref (eP E 0), .int x0, .int x1, .int x2, .ref (eP E 118)] (I, A, K) (fun zz uu => zz = 0 ∧ ∃ r u, post r u ∧ uu = (u.1, u.2.1, up2 (va_up u.2.2 118 (K 118)) 118 0 r.toInt64)) := by
  refine en_ofH RL rfl (by decide +kernel) (Nat.le_of_ble_eq_true rfl) ?_
  intro p e s m below meth c ls S hr hlk htab hl hB
  have hx := S.1
  have hb := S.2.1
  obtain ⟨hK, hC, hP⟩ := hB
  have hS : va_S (cA 119 E) s.heap s.heap [] := va_S.rf
  have hl : lv_has ls 6 [(0, .ref (eP E 0)), (1, .int x0), (2, .int x1), (3, .int x2), (4, .ref (eP E 118))] := hl
  refine lv_aload hx hb dL_seen_0 (lv_at hl 4 rfl) ?_
  refine lv_iconst (v := 0) hx hb dL_seen_2 (by decide) ?_
  refine lv_aload_n hx hb dL_seen_3 rfl (lv_at hl 0 rfl) ?_
  refine lv_iload_n hx hb dL_seen_4 rfl (lv_at hl 1 rfl) ?_
  refine lv_iload_n hx hb dL_seen_5 rfl (lv_at hl 2 rfl) ?_
  refine lv_iload_n hx hb dL_seen_6 rfl (lv_at hl 3 rfl) ?_
  refine ho_call S hE hK hC hP hS lk_L_32 rfl hM ⟨Nat.le_of_ble_eq_true rfl, Nat.le_of_ble_eq_true rfl⟩ rfl hl.1 (Nat.le_of_ble_eq_true rfl) ⟨Nat.le_of_ble_eq_true rfl, Nat.le_of_ble_eq_true rfl⟩ dL_seen_7 rfl (fun r u H locs hp hP hS => ?_)
  refine lv_i2l hx hb dL_seen_10 rfl ?_
  refine rw_last (x := (u.1, u.2.1, va_up u.2.2 118 (K 118))) S hE hK hP hS 118 (by decide) kO_118 0 rfl (by decide) (by decide) dL_seen_11 (fun H locs hP hS => ?_)
  refine lv_goto (tgt := 23) hx hb dL_seen_12 (by decide) ?_
  refine lv_iconst (v := 0) hx hb dL_seen_23 (by decide) ?_
  exact re_wo (x := (u.1, u.2.1, up2 (va_up u.2.2 118 (K 118)) 118 0 r.toInt64)) hx hb hr hlk hP hS ⟨rfl, r, u, hp, rfl⟩ (Nat.le_of_ble_eq_true rfl) (Nat.le_of_ble_eq_true rfl) dL_seen_24
theorem hx_seen_0 (l : Launch) (E : En) (I A : Nat → Nat → Int32) (K : Nat → Nat → Int64) (x0 x1 x2 : Int32) (hE : Ev 119 E) (hM : Mx l yX6_seen cX6_seen 4 (some .int) E [.ref (eP E 0), .int x0, .int x1, .int x2] (I, A, K) "java/lang/IndexOutOfBoundsException") : Mh l yL_seen cL_seen 6 hh_seen E [.ref (eP E 0), .int x0, .int x1, .int x2, .ref (eP E 118)] (I, A, K) (fun zz uu => zz = 1 ∧ uu = (I, A, K)) := by
  refine en_ofH RL rfl (by decide +kernel) (Nat.le_of_ble_eq_true rfl) ?_
  intro p e s m below meth c ls S hr hlk htab hl hB
  have hx := S.1
  have hb := S.2.1
  obtain ⟨hK, hC, hP⟩ := hB
  have hS : va_S (cA 119 E) s.heap s.heap [] := va_S.rf
  have hl : lv_has ls 6 [(0, .ref (eP E 0)), (1, .int x0), (2, .int x1), (3, .int x2), (4, .ref (eP E 118))] := hl
  refine lv_aload hx hb dL_seen_0 (lv_at hl 4 rfl) ?_
  refine lv_iconst (v := 0) hx hb dL_seen_2 (by decide) ?_
  refine lv_aload_n hx hb dL_seen_3 rfl (lv_at hl 0 rfl) ?_
  refine lv_iload_n hx hb dL_seen_4 rfl (lv_at hl 1 rfl) ?_
  refine lv_iload_n hx hb dL_seen_5 rfl (lv_at hl 2 rfl) ?_
  refine lv_iload_n hx hb dL_seen_6 rfl (lv_at hl 3 rfl) ?_
  refine ho_catch S hE hK hC hP lk_L_32 rfl hM ⟨Nat.le_of_ble_eq_true rfl, Nat.le_of_ble_eq_true rfl⟩ rfl hl.1 (Nat.le_of_ble_eq_true rfl) ⟨Nat.le_of_ble_eq_true rfl, Nat.le_of_ble_eq_true rfl⟩ dL_seen_7 rfl htab [] (⟨0, 12, 15, 19⟩ : ExceptionTableEntry) [(⟨0, 12, 19, 13⟩ : ExceptionTableEntry)] rfl (fun z hz => absurd hz List.not_mem_nil) (by decide) (by decide) (by decide) cl_L_19 (fun q H locs hP hS => ?_)
  refine lv_astore (lv' := [(5, .ref q), (0, .ref (eP E 0)), (1, .int x0), (2, .int x1), (3, .int x2), (4, .ref (eP E 118))]) hx hb dL_seen_15 hl (by decide) rfl (fun ls hl => ?_)
  refine lv_iconst (v := 1) hx hb dL_seen_17 (by decide) ?_
  exact re_wo (x := (I, A, K)) hx hb hr hlk hP hS ⟨rfl, rfl⟩ (Nat.le_of_ble_eq_true rfl) (Nat.le_of_ble_eq_true rfl) dL_seen_18
theorem hx_seen_1 (l : Launch) (E : En) (I A : Nat → Nat → Int32) (K : Nat → Nat → Int64) (x0 x1 x2 : Int32) (hE : Ev 119 E) (hM : Mx l yX6_seen cX6_seen 4 (some .int) E [.ref (eP E 0), .int x0, .int x1, .int x2] (I, A, K) "java/lang/IllegalArgumentException") : Mh l yL_seen cL_seen 6 hh_seen E [.ref (eP E 0), .int x0, .int x1, .int x2, .ref (eP E 118)] (I, A, K) (fun zz uu => zz = 2 ∧ uu = (I, A, K)) := by
  refine en_ofH RL rfl (by decide +kernel) (Nat.le_of_ble_eq_true rfl) ?_
  intro p e s m below meth c ls S hr hlk htab hl hB
  have hx := S.1
  have hb := S.2.1
  obtain ⟨hK, hC, hP⟩ := hB
  have hS : va_S (cA 119 E) s.heap s.heap [] := va_S.rf
  have hl : lv_has ls 6 [(0, .ref (eP E 0)), (1, .int x0), (2, .int x1), (3, .int x2), (4, .ref (eP E 118))] := hl
  refine lv_aload hx hb dL_seen_0 (lv_at hl 4 rfl) ?_
  refine lv_iconst (v := 0) hx hb dL_seen_2 (by decide) ?_
  refine lv_aload_n hx hb dL_seen_3 rfl (lv_at hl 0 rfl) ?_
  refine lv_iload_n hx hb dL_seen_4 rfl (lv_at hl 1 rfl) ?_
  refine lv_iload_n hx hb dL_seen_5 rfl (lv_at hl 2 rfl) ?_
  refine lv_iload_n hx hb dL_seen_6 rfl (lv_at hl 3 rfl) ?_
  refine ho_catch S hE hK hC hP lk_L_32 rfl hM ⟨Nat.le_of_ble_eq_true rfl, Nat.le_of_ble_eq_true rfl⟩ rfl hl.1 (Nat.le_of_ble_eq_true rfl) ⟨Nat.le_of_ble_eq_true rfl, Nat.le_of_ble_eq_true rfl⟩ dL_seen_7 rfl htab [(⟨0, 12, 15, 19⟩ : ExceptionTableEntry)] (⟨0, 12, 19, 13⟩ : ExceptionTableEntry) [] rfl (List.forall_mem_cons.mpr ⟨⟨by decide, "java/lang/IndexOutOfBoundsException", cl_L_19, by decide⟩, (fun z hz => absurd hz List.not_mem_nil)⟩) (by decide) (by decide) (by decide) cl_L_13 (fun q H locs hP hS => ?_)
  refine lv_astore (lv' := [(5, .ref q), (0, .ref (eP E 0)), (1, .int x0), (2, .int x1), (3, .int x2), (4, .ref (eP E 118))]) hx hb dL_seen_19 hl (by decide) rfl (fun ls hl => ?_)
  refine lv_iconst (v := 2) hx hb dL_seen_21 (by decide) ?_
  exact re_wo (x := (I, A, K)) hx hb hr hlk hP hS ⟨rfl, rfl⟩ (Nat.le_of_ble_eq_true rfl) (Nat.le_of_ble_eq_true rfl) dL_seen_22
def hh_setColour : List (Nat × Nat × Nat × Nat) := [(0, 12, 15, 19), (0, 12, 19, 13)]
theorem h_setColour (l : Launch) (E : En) (I A : Nat → Nat → Int32) (K : Nat → Nat → Int64) (x0 x1 x2 : Int32) (post : Int32 → St → Prop) (hE : Ev 119 E) (hM : Ma l yX6_setColour cX6_setColour 5 (some .int) cN E cK [.ref (eP E 0), .int x0, .int x1, .int x2] (I, A, K) post) : Mh l yL_setColour cL_setColour 6 hh_setColour E [.ref (eP E 0), .int x0, .int x1, .int x2, .ref (eP E 118)] (I, A, K) (fun zz uu => zz = 0 ∧ ∃ r u, post r u ∧ uu = (u.1, u.2.1, up2 (va_up u.2.2 118 (K 118)) 118 0 r.toInt64)) := by
  refine en_ofH RL rfl (by decide +kernel) (Nat.le_of_ble_eq_true rfl) ?_
  intro p e s m below meth c ls S hr hlk htab hl hB
  have hx := S.1
  have hb := S.2.1
  obtain ⟨hK, hC, hP⟩ := hB
  have hS : va_S (cA 119 E) s.heap s.heap [] := va_S.rf
  have hl : lv_has ls 6 [(0, .ref (eP E 0)), (1, .int x0), (2, .int x1), (3, .int x2), (4, .ref (eP E 118))] := hl
  refine lv_aload hx hb dL_setColour_0 (lv_at hl 4 rfl) ?_
  refine lv_iconst (v := 0) hx hb dL_setColour_2 (by decide) ?_
  refine lv_aload_n hx hb dL_setColour_3 rfl (lv_at hl 0 rfl) ?_
  refine lv_iload_n hx hb dL_setColour_4 rfl (lv_at hl 1 rfl) ?_
  refine lv_iload_n hx hb dL_setColour_5 rfl (lv_at hl 2 rfl) ?_
  refine lv_iload_n hx hb dL_setColour_6 rfl (lv_at hl 3 rfl) ?_
  refine ho_call S hE hK hC hP hS lk_L_62 rfl hM ⟨Nat.le_of_ble_eq_true rfl, Nat.le_of_ble_eq_true rfl⟩ rfl hl.1 (Nat.le_of_ble_eq_true rfl) ⟨Nat.le_of_ble_eq_true rfl, Nat.le_of_ble_eq_true rfl⟩ dL_setColour_7 rfl (fun r u H locs hp hP hS => ?_)
  refine lv_i2l hx hb dL_setColour_10 rfl ?_
  refine rw_last (x := (u.1, u.2.1, va_up u.2.2 118 (K 118))) S hE hK hP hS 118 (by decide) kO_118 0 rfl (by decide) (by decide) dL_setColour_11 (fun H locs hP hS => ?_)
  refine lv_goto (tgt := 23) hx hb dL_setColour_12 (by decide) ?_
  refine lv_iconst (v := 0) hx hb dL_setColour_23 (by decide) ?_
  exact re_wo (x := (u.1, u.2.1, up2 (va_up u.2.2 118 (K 118)) 118 0 r.toInt64)) hx hb hr hlk hP hS ⟨rfl, r, u, hp, rfl⟩ (Nat.le_of_ble_eq_true rfl) (Nat.le_of_ble_eq_true rfl) dL_setColour_24
theorem hx_setColour_0 (l : Launch) (E : En) (I A : Nat → Nat → Int32) (K : Nat → Nat → Int64) (x0 x1 x2 : Int32) (hE : Ev 119 E) (hM : Mx l yX6_setColour cX6_setColour 5 (some .int) E [.ref (eP E 0), .int x0, .int x1, .int x2] (I, A, K) "java/lang/IndexOutOfBoundsException") : Mh l yL_setColour cL_setColour 6 hh_setColour E [.ref (eP E 0), .int x0, .int x1, .int x2, .ref (eP E 118)] (I, A, K) (fun zz uu => zz = 1 ∧ uu = (I, A, K)) := by
  refine en_ofH RL rfl (by decide +kernel) (Nat.le_of_ble_eq_true rfl) ?_
  intro p e s m below meth c ls S hr hlk htab hl hB
  have hx := S.1
  have hb := S.2.1
  obtain ⟨hK, hC, hP⟩ := hB
  have hS : va_S (cA 119 E) s.heap s.heap [] := va_S.rf
  have hl : lv_has ls 6 [(0, .ref (eP E 0)), (1, .int x0), (2, .int x1), (3, .int x2), (4, .ref (eP E 118))] := hl
  refine lv_aload hx hb dL_setColour_0 (lv_at hl 4 rfl) ?_
  refine lv_iconst (v := 0) hx hb dL_setColour_2 (by decide) ?_
  refine lv_aload_n hx hb dL_setColour_3 rfl (lv_at hl 0 rfl) ?_
  refine lv_iload_n hx hb dL_setColour_4 rfl (lv_at hl 1 rfl) ?_
  refine lv_iload_n hx hb dL_setColour_5 rfl (lv_at hl 2 rfl) ?_
  refine lv_iload_n hx hb dL_setColour_6 rfl (lv_at hl 3 rfl) ?_
  refine ho_catch S hE hK hC hP lk_L_62 rfl hM ⟨Nat.le_of_ble_eq_true rfl, Nat.le_of_ble_eq_true rfl⟩ rfl hl.1 (Nat.le_of_ble_eq_true rfl) ⟨Nat.le_of_ble_eq_true rfl, Nat.le_of_ble_eq_true rfl⟩ dL_setColour_7 rfl htab [] (⟨0, 12, 15, 19⟩ : ExceptionTableEntry) [(⟨0, 12, 19, 13⟩ : ExceptionTableEntry)] rfl (fun z hz => absurd hz List.not_mem_nil) (by decide) (by decide) (by decide) cl_L_19 (fun q H locs hP hS => ?_)
  refine lv_astore (lv' := [(5, .ref q), (0, .ref (eP E 0)), (1, .int x0), (2, .int x1), (3, .int x2), (4, .ref (eP E 118))]) hx hb dL_setColour_15 hl (by decide) rfl (fun ls hl => ?_)
  refine lv_iconst (v := 1) hx hb dL_setColour_17 (by decide) ?_
  exact re_wo (x := (I, A, K)) hx hb hr hlk hP hS ⟨rfl, rfl⟩ (Nat.le_of_ble_eq_true rfl) (Nat.le_of_ble_eq_true rfl) dL_setColour_18
theorem hx_setColour_1 (l : Launch) (E : En) (I A : Nat → Nat → Int32) (K : Nat → Nat → Int64) (x0 x1 x2 : Int32) (hE : Ev 119 E) (hM : Mx l yX6_setColour cX6_setColour 5 (some .int) E [.ref (eP E 0), .int x0, .int x1, .int x2] (I, A, K) "java/lang/IllegalArgumentException") : Mh l yL_setColour cL_setColour 6 hh_setColour E [.ref (eP E 0), .int x0, .int x1, .int x2, .ref (eP E 118)] (I, A, K) (fun zz uu => zz = 2 ∧ uu = (I, A, K)) := by
  refine en_ofH RL rfl (by decide +kernel) (Nat.le_of_ble_eq_true rfl) ?_
  intro p e s m below meth c ls S hr hlk htab hl hB
  have hx := S.1
  have hb := S.2.1
  obtain ⟨hK, hC, hP⟩ := hB
  have hS : va_S (cA 119 E) s.heap s.heap [] := va_S.rf
  have hl : lv_has ls 6 [(0, .ref (eP E 0)), (1, .int x0), (2, .int x1), (3, .int x2), (4, .ref (eP E 118))] := hl
  refine lv_aload hx hb dL_setColour_0 (lv_at hl 4 rfl) ?_
  refine lv_iconst (v := 0) hx hb dL_setColour_2 (by decide) ?_
  refine lv_aload_n hx hb dL_setColour_3 rfl (lv_at hl 0 rfl) ?_
  refine lv_iload_n hx hb dL_setColour_4 rfl (lv_at hl 1 rfl) ?_
  refine lv_iload_n hx hb dL_setColour_5 rfl (lv_at hl 2 rfl) ?_
  refine lv_iload_n hx hb dL_setColour_6 rfl (lv_at hl 3 rfl) ?_
  refine ho_catch S hE hK hC hP lk_L_62 rfl hM ⟨Nat.le_of_ble_eq_true rfl, Nat.le_of_ble_eq_true rfl⟩ rfl hl.1 (Nat.le_of_ble_eq_true rfl) ⟨Nat.le_of_ble_eq_true rfl, Nat.le_of_ble_eq_true rfl⟩ dL_setColour_7 rfl htab [(⟨0, 12, 15, 19⟩ : ExceptionTableEntry)] (⟨0, 12, 19, 13⟩ : ExceptionTableEntry) [] rfl (List.forall_mem_cons.mpr ⟨⟨by decide, "java/lang/IndexOutOfBoundsException", cl_L_19, by decide⟩, (fun z hz => absurd hz List.not_mem_nil)⟩) (by decide) (by decide) (by decide) cl_L_13 (fun q H locs hP hS => ?_)
  refine lv_astore (lv' := [(5, .ref q), (0, .ref (eP E 0)), (1, .int x0), (2, .int x1), (3, .int x2), (4, .ref (eP E 118))]) hx hb dL_setColour_19 hl (by decide) rfl (fun ls hl => ?_)
  refine lv_iconst (v := 2) hx hb dL_setColour_21 (by decide) ?_
  exact re_wo (x := (I, A, K)) hx hb hr hlk hP hS ⟨rfl, rfl⟩ (Nat.le_of_ble_eq_true rfl) (Nat.le_of_ble_eq_true rfl) dL_setColour_22
def hh_setFixed : List (Nat × Nat × Nat × Nat) := [(0, 17, 20, 19)]
theorem h_setFixed (l : Launch) (E : En) (I A : Nat → Nat → Int32) (K : Nat → Nat → Int64) (x0 x1 : Int32) (post : Int32 → St → Prop) (hE : Ev 119 E) (hM : Ma l yX6_setFixed cX6_setFixed 4 (some .boolean) cN E cK [.ref (eP E 0), .int x0, .int x1] (I, A, K) post) : Mh l yL_setFixed cL_setFixed 5 hh_setFixed E [.ref (eP E 0), .int x0, .int x1, .ref (eP E 118)] (I, A, K) (fun zz uu => zz = 0 ∧ ∃ r u, post r u ∧ uu = (u.1, u.2.1, up2 (va_up u.2.2 118 (K 118)) 118 0 (if r = 0 then 0 else 1))) := by
  refine en_ofH RL rfl (by decide +kernel) (Nat.le_of_ble_eq_true rfl) ?_
  intro p e s m below meth c ls S hr hlk htab hl hB
  have hx := S.1
  have hb := S.2.1
  obtain ⟨hK, hC, hP⟩ := hB
  have hS : va_S (cA 119 E) s.heap s.heap [] := va_S.rf
  have hl : lv_has ls 5 [(0, .ref (eP E 0)), (1, .int x0), (2, .int x1), (3, .ref (eP E 118))] := hl
  refine lv_aload_n hx hb dL_setFixed_0 rfl (lv_at hl 3 rfl) ?_
  refine lv_iconst (v := 0) hx hb dL_setFixed_1 (by decide) ?_
  refine lv_aload_n hx hb dL_setFixed_2 rfl (lv_at hl 0 rfl) ?_
  refine lv_iload_n hx hb dL_setFixed_3 rfl (lv_at hl 1 rfl) ?_
  refine lv_iload_n hx hb dL_setFixed_4 rfl (lv_at hl 2 rfl) ?_
  refine ho_call S hE hK hC hP hS lk_L_65 rfl hM ⟨Nat.le_of_ble_eq_true rfl, Nat.le_of_ble_eq_true rfl⟩ rfl hl.1 (Nat.le_of_ble_eq_true rfl) ⟨Nat.le_of_ble_eq_true rfl, Nat.le_of_ble_eq_true rfl⟩ dL_setFixed_5 rfl (fun r u H locs hp hP hS => ?_)
  refine lv_if_eq (tgt := 15) hx hb dL_setFixed_8 (by decide) (fun h9 => ?_) (fun h9 => ?_)
  · refine lv_lconst (v := 0) hx hb dL_setFixed_15 (by decide) ?_
    refine rw_last (x := (u.1, u.2.1, va_up u.2.2 118 (K 118))) S hE hK hP hS 118 (by decide) kO_118 0 rfl (by decide) (by decide) dL_setFixed_16 (fun H locs hP hS => ?_)
    refine lv_goto (tgt := 24) hx hb dL_setFixed_17 (by decide) ?_
    refine lv_iconst (v := 0) hx hb dL_setFixed_24 (by decide) ?_
    exact re_wo (x := (u.1, u.2.1, up2 (va_up u.2.2 118 (K 118)) 118 0 0)) hx hb hr hlk hP hS ⟨rfl, r, u, hp, by rw [if_pos h9]⟩ (Nat.le_of_ble_eq_true rfl) (Nat.le_of_ble_eq_true rfl) dL_setFixed_25
  · refine lv_lconst (v := 1) hx hb dL_setFixed_11 (by decide) ?_
    refine lv_goto (tgt := 16) hx hb dL_setFixed_12 (by decide) ?_
    refine rw_last (x := (u.1, u.2.1, va_up u.2.2 118 (K 118))) S hE hK hP hS 118 (by decide) kO_118 0 rfl (by decide) (by decide) dL_setFixed_16 (fun H locs hP hS => ?_)
    refine lv_goto (tgt := 24) hx hb dL_setFixed_17 (by decide) ?_
    refine lv_iconst (v := 0) hx hb dL_setFixed_24 (by decide) ?_
    exact re_wo (x := (u.1, u.2.1, up2 (va_up u.2.2 118 (K 118)) 118 0 1)) hx hb hr hlk hP hS ⟨rfl, r, u, hp, by rw [if_neg h9]⟩ (Nat.le_of_ble_eq_true rfl) (Nat.le_of_ble_eq_true rfl) dL_setFixed_25
theorem hx_setFixed_0 (l : Launch) (E : En) (I A : Nat → Nat → Int32) (K : Nat → Nat → Int64) (x0 x1 : Int32) (hE : Ev 119 E) (hM : Mx l yX6_setFixed cX6_setFixed 4 (some .boolean) E [.ref (eP E 0), .int x0, .int x1] (I, A, K) "java/lang/IndexOutOfBoundsException") : Mh l yL_setFixed cL_setFixed 5 hh_setFixed E [.ref (eP E 0), .int x0, .int x1, .ref (eP E 118)] (I, A, K) (fun zz uu => zz = 1 ∧ uu = (I, A, K)) := by
  refine en_ofH RL rfl (by decide +kernel) (Nat.le_of_ble_eq_true rfl) ?_
  intro p e s m below meth c ls S hr hlk htab hl hB
  have hx := S.1
  have hb := S.2.1
  obtain ⟨hK, hC, hP⟩ := hB
  have hS : va_S (cA 119 E) s.heap s.heap [] := va_S.rf
  have hl : lv_has ls 5 [(0, .ref (eP E 0)), (1, .int x0), (2, .int x1), (3, .ref (eP E 118))] := hl
  refine lv_aload_n hx hb dL_setFixed_0 rfl (lv_at hl 3 rfl) ?_
  refine lv_iconst (v := 0) hx hb dL_setFixed_1 (by decide) ?_
  refine lv_aload_n hx hb dL_setFixed_2 rfl (lv_at hl 0 rfl) ?_
  refine lv_iload_n hx hb dL_setFixed_3 rfl (lv_at hl 1 rfl) ?_
  refine lv_iload_n hx hb dL_setFixed_4 rfl (lv_at hl 2 rfl) ?_
  refine ho_catch S hE hK hC hP lk_L_65 rfl hM ⟨Nat.le_of_ble_eq_true rfl, Nat.le_of_ble_eq_true rfl⟩ rfl hl.1 (Nat.le_of_ble_eq_true rfl) ⟨Nat.le_of_ble_eq_true rfl, Nat.le_of_ble_eq_true rfl⟩ dL_setFixed_5 rfl htab [] (⟨0, 17, 20, 19⟩ : ExceptionTableEntry) [] rfl (fun z hz => absurd hz List.not_mem_nil) (by decide) (by decide) (by decide) cl_L_19 (fun q H locs hP hS => ?_)
  refine lv_astore (lv' := [(4, .ref q), (0, .ref (eP E 0)), (1, .int x0), (2, .int x1), (3, .ref (eP E 118))]) hx hb dL_setFixed_20 hl (by decide) rfl (fun ls hl => ?_)
  refine lv_iconst (v := 1) hx hb dL_setFixed_22 (by decide) ?_
  exact re_wo (x := (I, A, K)) hx hb hr hlk hP hS ⟨rfl, rfl⟩ (Nat.le_of_ble_eq_true rfl) (Nat.le_of_ble_eq_true rfl) dL_setFixed_23
def hh_shift : List (Nat × Nat × Nat × Nat) := [(0, 12, 15, 19), (0, 12, 19, 13), (0, 12, 23, 72)]
theorem h_shift (l : Launch) (E : En) (I A : Nat → Nat → Int32) (K : Nat → Nat → Int64) (x0 x1 x2 : Int32) (post : Int32 → St → Prop) (hE : Ev 119 E) (hM : Ma l yX6_shift cX6_shift 4 (some .int) cN E cK [.ref (eP E 0), .int x0, .int x1, .int x2] (I, A, K) post) : Mh l yL_shift cL_shift 6 hh_shift E [.ref (eP E 0), .int x0, .int x1, .int x2, .ref (eP E 118)] (I, A, K) (fun zz uu => zz = 0 ∧ ∃ r u, post r u ∧ uu = (u.1, u.2.1, up2 (va_up u.2.2 118 (K 118)) 118 0 r.toInt64)) := by
  refine en_ofH RL rfl (by decide +kernel) (Nat.le_of_ble_eq_true rfl) ?_
  intro p e s m below meth c ls S hr hlk htab hl hB
  have hx := S.1
  have hb := S.2.1
  obtain ⟨hK, hC, hP⟩ := hB
  have hS : va_S (cA 119 E) s.heap s.heap [] := va_S.rf
  have hl : lv_has ls 6 [(0, .ref (eP E 0)), (1, .int x0), (2, .int x1), (3, .int x2), (4, .ref (eP E 118))] := hl
  refine lv_aload hx hb dL_shift_0 (lv_at hl 4 rfl) ?_
  refine lv_iconst (v := 0) hx hb dL_shift_2 (by decide) ?_
  refine lv_aload_n hx hb dL_shift_3 rfl (lv_at hl 0 rfl) ?_
  refine lv_iload_n hx hb dL_shift_4 rfl (lv_at hl 1 rfl) ?_
  refine lv_iload_n hx hb dL_shift_5 rfl (lv_at hl 2 rfl) ?_
  refine lv_iload_n hx hb dL_shift_6 rfl (lv_at hl 3 rfl) ?_
  refine ho_call S hE hK hC hP hS lk_L_69 rfl hM ⟨Nat.le_of_ble_eq_true rfl, Nat.le_of_ble_eq_true rfl⟩ rfl hl.1 (Nat.le_of_ble_eq_true rfl) ⟨Nat.le_of_ble_eq_true rfl, Nat.le_of_ble_eq_true rfl⟩ dL_shift_7 rfl (fun r u H locs hp hP hS => ?_)
  refine lv_i2l hx hb dL_shift_10 rfl ?_
  refine rw_last (x := (u.1, u.2.1, va_up u.2.2 118 (K 118))) S hE hK hP hS 118 (by decide) kO_118 0 rfl (by decide) (by decide) dL_shift_11 (fun H locs hP hS => ?_)
  refine lv_goto (tgt := 27) hx hb dL_shift_12 (by decide) ?_
  refine lv_iconst (v := 0) hx hb dL_shift_27 (by decide) ?_
  exact re_wo (x := (u.1, u.2.1, up2 (va_up u.2.2 118 (K 118)) 118 0 r.toInt64)) hx hb hr hlk hP hS ⟨rfl, r, u, hp, rfl⟩ (Nat.le_of_ble_eq_true rfl) (Nat.le_of_ble_eq_true rfl) dL_shift_28
theorem hx_shift_0 (l : Launch) (E : En) (I A : Nat → Nat → Int32) (K : Nat → Nat → Int64) (x0 x1 x2 : Int32) (hE : Ev 119 E) (hM : Mx l yX6_shift cX6_shift 4 (some .int) E [.ref (eP E 0), .int x0, .int x1, .int x2] (I, A, K) "java/lang/IndexOutOfBoundsException") : Mh l yL_shift cL_shift 6 hh_shift E [.ref (eP E 0), .int x0, .int x1, .int x2, .ref (eP E 118)] (I, A, K) (fun zz uu => zz = 1 ∧ uu = (I, A, K)) := by
  refine en_ofH RL rfl (by decide +kernel) (Nat.le_of_ble_eq_true rfl) ?_
  intro p e s m below meth c ls S hr hlk htab hl hB
  have hx := S.1
  have hb := S.2.1
  obtain ⟨hK, hC, hP⟩ := hB
  have hS : va_S (cA 119 E) s.heap s.heap [] := va_S.rf
  have hl : lv_has ls 6 [(0, .ref (eP E 0)), (1, .int x0), (2, .int x1), (3, .int x2), (4, .ref (eP E 118))] := hl
  refine lv_aload hx hb dL_shift_0 (lv_at hl 4 rfl) ?_
  refine lv_iconst (v := 0) hx hb dL_shift_2 (by decide) ?_
  refine lv_aload_n hx hb dL_shift_3 rfl (lv_at hl 0 rfl) ?_
  refine lv_iload_n hx hb dL_shift_4 rfl (lv_at hl 1 rfl) ?_
  refine lv_iload_n hx hb dL_shift_5 rfl (lv_at hl 2 rfl) ?_
  refine lv_iload_n hx hb dL_shift_6 rfl (lv_at hl 3 rfl) ?_
  refine ho_catch S hE hK hC hP lk_L_69 rfl hM ⟨Nat.le_of_ble_eq_true rfl, Nat.le_of_ble_eq_true rfl⟩ rfl hl.1 (Nat.le_of_ble_eq_true rfl) ⟨Nat.le_of_ble_eq_true rfl, Nat.le_of_ble_eq_true rfl⟩ dL_shift_7 rfl htab [] (⟨0, 12, 15, 19⟩ : ExceptionTableEntry) [(⟨0, 12, 19, 13⟩ : ExceptionTableEntry), (⟨0, 12, 23, 72⟩ : ExceptionTableEntry)] rfl (fun z hz => absurd hz List.not_mem_nil) (by decide) (by decide) (by decide) cl_L_19 (fun q H locs hP hS => ?_)
  refine lv_astore (lv' := [(5, .ref q), (0, .ref (eP E 0)), (1, .int x0), (2, .int x1), (3, .int x2), (4, .ref (eP E 118))]) hx hb dL_shift_15 hl (by decide) rfl (fun ls hl => ?_)
  refine lv_iconst (v := 1) hx hb dL_shift_17 (by decide) ?_
  exact re_wo (x := (I, A, K)) hx hb hr hlk hP hS ⟨rfl, rfl⟩ (Nat.le_of_ble_eq_true rfl) (Nat.le_of_ble_eq_true rfl) dL_shift_18
theorem hx_shift_1 (l : Launch) (E : En) (I A : Nat → Nat → Int32) (K : Nat → Nat → Int64) (x0 x1 x2 : Int32) (hE : Ev 119 E) (hM : Mx l yX6_shift cX6_shift 4 (some .int) E [.ref (eP E 0), .int x0, .int x1, .int x2] (I, A, K) "java/lang/IllegalArgumentException") : Mh l yL_shift cL_shift 6 hh_shift E [.ref (eP E 0), .int x0, .int x1, .int x2, .ref (eP E 118)] (I, A, K) (fun zz uu => zz = 2 ∧ uu = (I, A, K)) := by
  refine en_ofH RL rfl (by decide +kernel) (Nat.le_of_ble_eq_true rfl) ?_
  intro p e s m below meth c ls S hr hlk htab hl hB
  have hx := S.1
  have hb := S.2.1
  obtain ⟨hK, hC, hP⟩ := hB
  have hS : va_S (cA 119 E) s.heap s.heap [] := va_S.rf
  have hl : lv_has ls 6 [(0, .ref (eP E 0)), (1, .int x0), (2, .int x1), (3, .int x2), (4, .ref (eP E 118))] := hl
  refine lv_aload hx hb dL_shift_0 (lv_at hl 4 rfl) ?_
  refine lv_iconst (v := 0) hx hb dL_shift_2 (by decide) ?_
  refine lv_aload_n hx hb dL_shift_3 rfl (lv_at hl 0 rfl) ?_
  refine lv_iload_n hx hb dL_shift_4 rfl (lv_at hl 1 rfl) ?_
  refine lv_iload_n hx hb dL_shift_5 rfl (lv_at hl 2 rfl) ?_
  refine lv_iload_n hx hb dL_shift_6 rfl (lv_at hl 3 rfl) ?_
  refine ho_catch S hE hK hC hP lk_L_69 rfl hM ⟨Nat.le_of_ble_eq_true rfl, Nat.le_of_ble_eq_true rfl⟩ rfl hl.1 (Nat.le_of_ble_eq_true rfl) ⟨Nat.le_of_ble_eq_true rfl, Nat.le_of_ble_eq_true rfl⟩ dL_shift_7 rfl htab [(⟨0, 12, 15, 19⟩ : ExceptionTableEntry)] (⟨0, 12, 19, 13⟩ : ExceptionTableEntry) [(⟨0, 12, 23, 72⟩ : ExceptionTableEntry)] rfl (List.forall_mem_cons.mpr ⟨⟨by decide, "java/lang/IndexOutOfBoundsException", cl_L_19, by decide⟩, (fun z hz => absurd hz List.not_mem_nil)⟩) (by decide) (by decide) (by decide) cl_L_13 (fun q H locs hP hS => ?_)
  refine lv_astore (lv' := [(5, .ref q), (0, .ref (eP E 0)), (1, .int x0), (2, .int x1), (3, .int x2), (4, .ref (eP E 118))]) hx hb dL_shift_19 hl (by decide) rfl (fun ls hl => ?_)
  refine lv_iconst (v := 2) hx hb dL_shift_21 (by decide) ?_
  exact re_wo (x := (I, A, K)) hx hb hr hlk hP hS ⟨rfl, rfl⟩ (Nat.le_of_ble_eq_true rfl) (Nat.le_of_ble_eq_true rfl) dL_shift_22
theorem hx_shift_2 (l : Launch) (E : En) (I A : Nat → Nat → Int32) (K : Nat → Nat → Int64) (x0 x1 x2 : Int32) (hE : Ev 119 E) (hM : Mx l yX6_shift cX6_shift 4 (some .int) E [.ref (eP E 0), .int x0, .int x1, .int x2] (I, A, K) "java/lang/IllegalStateException") : Mh l yL_shift cL_shift 6 hh_shift E [.ref (eP E 0), .int x0, .int x1, .int x2, .ref (eP E 118)] (I, A, K) (fun zz uu => zz = 3 ∧ uu = (I, A, K)) := by
  refine en_ofH RL rfl (by decide +kernel) (Nat.le_of_ble_eq_true rfl) ?_
  intro p e s m below meth c ls S hr hlk htab hl hB
  have hx := S.1
  have hb := S.2.1
  obtain ⟨hK, hC, hP⟩ := hB
  have hS : va_S (cA 119 E) s.heap s.heap [] := va_S.rf
  have hl : lv_has ls 6 [(0, .ref (eP E 0)), (1, .int x0), (2, .int x1), (3, .int x2), (4, .ref (eP E 118))] := hl
  refine lv_aload hx hb dL_shift_0 (lv_at hl 4 rfl) ?_
  refine lv_iconst (v := 0) hx hb dL_shift_2 (by decide) ?_
  refine lv_aload_n hx hb dL_shift_3 rfl (lv_at hl 0 rfl) ?_
  refine lv_iload_n hx hb dL_shift_4 rfl (lv_at hl 1 rfl) ?_
  refine lv_iload_n hx hb dL_shift_5 rfl (lv_at hl 2 rfl) ?_
  refine lv_iload_n hx hb dL_shift_6 rfl (lv_at hl 3 rfl) ?_
  refine ho_catch S hE hK hC hP lk_L_69 rfl hM ⟨Nat.le_of_ble_eq_true rfl, Nat.le_of_ble_eq_true rfl⟩ rfl hl.1 (Nat.le_of_ble_eq_true rfl) ⟨Nat.le_of_ble_eq_true rfl, Nat.le_of_ble_eq_true rfl⟩ dL_shift_7 rfl htab [(⟨0, 12, 15, 19⟩ : ExceptionTableEntry), (⟨0, 12, 19, 13⟩ : ExceptionTableEntry)] (⟨0, 12, 23, 72⟩ : ExceptionTableEntry) [] rfl (List.forall_mem_cons.mpr ⟨⟨by decide, "java/lang/IndexOutOfBoundsException", cl_L_19, by decide⟩, (List.forall_mem_cons.mpr ⟨⟨by decide, "java/lang/IllegalArgumentException", cl_L_13, by decide⟩, (fun z hz => absurd hz List.not_mem_nil)⟩)⟩) (by decide) (by decide) (by decide) cl_L_72 (fun q H locs hP hS => ?_)
  refine lv_astore (lv' := [(5, .ref q), (0, .ref (eP E 0)), (1, .int x0), (2, .int x1), (3, .int x2), (4, .ref (eP E 118))]) hx hb dL_shift_23 hl (by decide) rfl (fun ls hl => ?_)
  refine lv_iconst (v := 3) hx hb dL_shift_25 (by decide) ?_
  exact re_wo (x := (I, A, K)) hx hb hr hlk hP hS ⟨rfl, rfl⟩ (Nat.le_of_ble_eq_true rfl) (Nat.le_of_ble_eq_true rfl) dL_shift_26
def hh_shiftRole : List (Nat × Nat × Nat × Nat) := [(0, 10, 13, 19)]
theorem h_shiftRole (l : Launch) (E : En) (I A : Nat → Nat → Int32) (K : Nat → Nat → Int64) (x0 x1 : Int32) (post : Int32 → St → Prop) (hE : Ev 119 E) (hM : Ma l yX6_shiftRole cX6_shiftRole 4 (some .int) cN E cK [.ref (eP E 0), .int x0, .int x1] (I, A, K) post) : Mh l yL_shiftRole cL_shiftRole 5 hh_shiftRole E [.ref (eP E 0), .int x0, .int x1, .ref (eP E 118)] (I, A, K) (fun zz uu => zz = 0 ∧ ∃ r u, post r u ∧ uu = (u.1, u.2.1, up2 (va_up u.2.2 118 (K 118)) 118 0 r.toInt64)) := by
  refine en_ofH RL rfl (by decide +kernel) (Nat.le_of_ble_eq_true rfl) ?_
  intro p e s m below meth c ls S hr hlk htab hl hB
  have hx := S.1
  have hb := S.2.1
  obtain ⟨hK, hC, hP⟩ := hB
  have hS : va_S (cA 119 E) s.heap s.heap [] := va_S.rf
  have hl : lv_has ls 5 [(0, .ref (eP E 0)), (1, .int x0), (2, .int x1), (3, .ref (eP E 118))] := hl
  refine lv_aload_n hx hb dL_shiftRole_0 rfl (lv_at hl 3 rfl) ?_
  refine lv_iconst (v := 0) hx hb dL_shiftRole_1 (by decide) ?_
  refine lv_aload_n hx hb dL_shiftRole_2 rfl (lv_at hl 0 rfl) ?_
  refine lv_iload_n hx hb dL_shiftRole_3 rfl (lv_at hl 1 rfl) ?_
  refine lv_iload_n hx hb dL_shiftRole_4 rfl (lv_at hl 2 rfl) ?_
  refine ho_call S hE hK hC hP hS lk_L_59 rfl hM ⟨Nat.le_of_ble_eq_true rfl, Nat.le_of_ble_eq_true rfl⟩ rfl hl.1 (Nat.le_of_ble_eq_true rfl) ⟨Nat.le_of_ble_eq_true rfl, Nat.le_of_ble_eq_true rfl⟩ dL_shiftRole_5 rfl (fun r u H locs hp hP hS => ?_)
  refine lv_i2l hx hb dL_shiftRole_8 rfl ?_
  refine rw_last (x := (u.1, u.2.1, va_up u.2.2 118 (K 118))) S hE hK hP hS 118 (by decide) kO_118 0 rfl (by decide) (by decide) dL_shiftRole_9 (fun H locs hP hS => ?_)
  refine lv_goto (tgt := 17) hx hb dL_shiftRole_10 (by decide) ?_
  refine lv_iconst (v := 0) hx hb dL_shiftRole_17 (by decide) ?_
  exact re_wo (x := (u.1, u.2.1, up2 (va_up u.2.2 118 (K 118)) 118 0 r.toInt64)) hx hb hr hlk hP hS ⟨rfl, r, u, hp, rfl⟩ (Nat.le_of_ble_eq_true rfl) (Nat.le_of_ble_eq_true rfl) dL_shiftRole_18
theorem hx_shiftRole_0 (l : Launch) (E : En) (I A : Nat → Nat → Int32) (K : Nat → Nat → Int64) (x0 x1 : Int32) (hE : Ev 119 E) (hM : Mx l yX6_shiftRole cX6_shiftRole 4 (some .int) E [.ref (eP E 0), .int x0, .int x1] (I, A, K) "java/lang/IndexOutOfBoundsException") : Mh l yL_shiftRole cL_shiftRole 5 hh_shiftRole E [.ref (eP E 0), .int x0, .int x1, .ref (eP E 118)] (I, A, K) (fun zz uu => zz = 1 ∧ uu = (I, A, K)) := by
  refine en_ofH RL rfl (by decide +kernel) (Nat.le_of_ble_eq_true rfl) ?_
  intro p e s m below meth c ls S hr hlk htab hl hB
  have hx := S.1
  have hb := S.2.1
  obtain ⟨hK, hC, hP⟩ := hB
  have hS : va_S (cA 119 E) s.heap s.heap [] := va_S.rf
  have hl : lv_has ls 5 [(0, .ref (eP E 0)), (1, .int x0), (2, .int x1), (3, .ref (eP E 118))] := hl
  refine lv_aload_n hx hb dL_shiftRole_0 rfl (lv_at hl 3 rfl) ?_
  refine lv_iconst (v := 0) hx hb dL_shiftRole_1 (by decide) ?_
  refine lv_aload_n hx hb dL_shiftRole_2 rfl (lv_at hl 0 rfl) ?_
  refine lv_iload_n hx hb dL_shiftRole_3 rfl (lv_at hl 1 rfl) ?_
  refine lv_iload_n hx hb dL_shiftRole_4 rfl (lv_at hl 2 rfl) ?_
  refine ho_catch S hE hK hC hP lk_L_59 rfl hM ⟨Nat.le_of_ble_eq_true rfl, Nat.le_of_ble_eq_true rfl⟩ rfl hl.1 (Nat.le_of_ble_eq_true rfl) ⟨Nat.le_of_ble_eq_true rfl, Nat.le_of_ble_eq_true rfl⟩ dL_shiftRole_5 rfl htab [] (⟨0, 10, 13, 19⟩ : ExceptionTableEntry) [] rfl (fun z hz => absurd hz List.not_mem_nil) (by decide) (by decide) (by decide) cl_L_19 (fun q H locs hP hS => ?_)
  refine lv_astore (lv' := [(4, .ref q), (0, .ref (eP E 0)), (1, .int x0), (2, .int x1), (3, .ref (eP E 118))]) hx hb dL_shiftRole_13 hl (by decide) rfl (fun ls hl => ?_)
  refine lv_iconst (v := 1) hx hb dL_shiftRole_15 (by decide) ?_
  exact re_wo (x := (I, A, K)) hx hb hr hlk hP hS ⟨rfl, rfl⟩ (Nat.le_of_ble_eq_true rfl) (Nat.le_of_ble_eq_true rfl) dL_shiftRole_16
def hh_smallestMargin : List (Nat × Nat × Nat × Nat) := [(0, 9, 12, 19)]
theorem h_smallestMargin (l : Launch) (E : En) (I A : Nat → Nat → Int32) (K : Nat → Nat → Int64) (x0 : Int32) (post : Int32 → St → Prop) (hE : Ev 119 E) (hM : Ma l yX6_smallestMargin cX6_smallestMargin 2 (some .int) cN E cK [.ref (eP E 0), .int x0] (I, A, K) post) : Mh l yL_smallestMargin cL_smallestMargin 4 hh_smallestMargin E [.ref (eP E 0), .int x0, .ref (eP E 118)] (I, A, K) (fun zz uu => zz = 0 ∧ ∃ r u, post r u ∧ uu = (u.1, u.2.1, up2 (va_up u.2.2 118 (K 118)) 118 0 r.toInt64)) := by
  refine en_ofH RL rfl (by decide +kernel) (Nat.le_of_ble_eq_true rfl) ?_
  intro p e s m below meth c ls S hr hlk htab hl hB
  have hx := S.1
  have hb := S.2.1
  obtain ⟨hK, hC, hP⟩ := hB
  have hS : va_S (cA 119 E) s.heap s.heap [] := va_S.rf
  have hl : lv_has ls 4 [(0, .ref (eP E 0)), (1, .int x0), (2, .ref (eP E 118))] := hl
  refine lv_aload_n hx hb dL_smallestMargin_0 rfl (lv_at hl 2 rfl) ?_
  refine lv_iconst (v := 0) hx hb dL_smallestMargin_1 (by decide) ?_
  refine lv_aload_n hx hb dL_smallestMargin_2 rfl (lv_at hl 0 rfl) ?_
  refine lv_iload_n hx hb dL_smallestMargin_3 rfl (lv_at hl 1 rfl) ?_
  refine ho_call S hE hK hC hP hS lk_L_53 rfl hM ⟨Nat.le_of_ble_eq_true rfl, Nat.le_of_ble_eq_true rfl⟩ rfl hl.1 (Nat.le_of_ble_eq_true rfl) ⟨Nat.le_of_ble_eq_true rfl, Nat.le_of_ble_eq_true rfl⟩ dL_smallestMargin_4 rfl (fun r u H locs hp hP hS => ?_)
  refine lv_i2l hx hb dL_smallestMargin_7 rfl ?_
  refine rw_last (x := (u.1, u.2.1, va_up u.2.2 118 (K 118))) S hE hK hP hS 118 (by decide) kO_118 0 rfl (by decide) (by decide) dL_smallestMargin_8 (fun H locs hP hS => ?_)
  refine lv_goto (tgt := 15) hx hb dL_smallestMargin_9 (by decide) ?_
  refine lv_iconst (v := 0) hx hb dL_smallestMargin_15 (by decide) ?_
  exact re_wo (x := (u.1, u.2.1, up2 (va_up u.2.2 118 (K 118)) 118 0 r.toInt64)) hx hb hr hlk hP hS ⟨rfl, r, u, hp, rfl⟩ (Nat.le_of_ble_eq_true rfl) (Nat.le_of_ble_eq_true rfl) dL_smallestMargin_16
theorem hx_smallestMargin_0 (l : Launch) (E : En) (I A : Nat → Nat → Int32) (K : Nat → Nat → Int64) (x0 : Int32) (hE : Ev 119 E) (hM : Mx l yX6_smallestMargin cX6_smallestMargin 2 (some .int) E [.ref (eP E 0), .int x0] (I, A, K) "java/lang/IndexOutOfBoundsException") : Mh l yL_smallestMargin cL_smallestMargin 4 hh_smallestMargin E [.ref (eP E 0), .int x0, .ref (eP E 118)] (I, A, K) (fun zz uu => zz = 1 ∧ uu = (I, A, K)) := by
  refine en_ofH RL rfl (by decide +kernel) (Nat.le_of_ble_eq_true rfl) ?_
  intro p e s m below meth c ls S hr hlk htab hl hB
  have hx := S.1
  have hb := S.2.1
  obtain ⟨hK, hC, hP⟩ := hB
  have hS : va_S (cA 119 E) s.heap s.heap [] := va_S.rf
  have hl : lv_has ls 4 [(0, .ref (eP E 0)), (1, .int x0), (2, .ref (eP E 118))] := hl
  refine lv_aload_n hx hb dL_smallestMargin_0 rfl (lv_at hl 2 rfl) ?_
  refine lv_iconst (v := 0) hx hb dL_smallestMargin_1 (by decide) ?_
  refine lv_aload_n hx hb dL_smallestMargin_2 rfl (lv_at hl 0 rfl) ?_
  refine lv_iload_n hx hb dL_smallestMargin_3 rfl (lv_at hl 1 rfl) ?_
  refine ho_catch S hE hK hC hP lk_L_53 rfl hM ⟨Nat.le_of_ble_eq_true rfl, Nat.le_of_ble_eq_true rfl⟩ rfl hl.1 (Nat.le_of_ble_eq_true rfl) ⟨Nat.le_of_ble_eq_true rfl, Nat.le_of_ble_eq_true rfl⟩ dL_smallestMargin_4 rfl htab [] (⟨0, 9, 12, 19⟩ : ExceptionTableEntry) [] rfl (fun z hz => absurd hz List.not_mem_nil) (by decide) (by decide) (by decide) cl_L_19 (fun q H locs hP hS => ?_)
  refine lv_astore_n (lv' := [(3, .ref q), (0, .ref (eP E 0)), (1, .int x0), (2, .ref (eP E 118))]) hx hb dL_smallestMargin_12 rfl hl (by decide) rfl (fun ls hl => ?_)
  refine lv_iconst (v := 1) hx hb dL_smallestMargin_13 (by decide) ?_
  exact re_wo (x := (I, A, K)) hx hb hr hlk hP hS ⟨rfl, rfl⟩ (Nat.le_of_ble_eq_true rfl) (Nat.le_of_ble_eq_true rfl) dL_smallestMargin_14
def hh_value : List (Nat × Nat × Nat × Nat) := [(0, 10, 13, 19)]
theorem h_value (l : Launch) (E : En) (I A : Nat → Nat → Int32) (K : Nat → Nat → Int64) (x0 x1 : Int32) (post : Int32 → St → Prop) (hE : Ev 119 E) (hM : Ma l yX6_value cX6_value 3 (some .int) cN E cK [.ref (eP E 0), .int x0, .int x1] (I, A, K) post) : Mh l yL_value cL_value 5 hh_value E [.ref (eP E 0), .int x0, .int x1, .ref (eP E 118)] (I, A, K) (fun zz uu => zz = 0 ∧ ∃ r u, post r u ∧ uu = (u.1, u.2.1, up2 (va_up u.2.2 118 (K 118)) 118 0 r.toInt64)) := by
  refine en_ofH RL rfl (by decide +kernel) (Nat.le_of_ble_eq_true rfl) ?_
  intro p e s m below meth c ls S hr hlk htab hl hB
  have hx := S.1
  have hb := S.2.1
  obtain ⟨hK, hC, hP⟩ := hB
  have hS : va_S (cA 119 E) s.heap s.heap [] := va_S.rf
  have hl : lv_has ls 5 [(0, .ref (eP E 0)), (1, .int x0), (2, .int x1), (3, .ref (eP E 118))] := hl
  refine lv_aload_n hx hb dL_value_0 rfl (lv_at hl 3 rfl) ?_
  refine lv_iconst (v := 0) hx hb dL_value_1 (by decide) ?_
  refine lv_aload_n hx hb dL_value_2 rfl (lv_at hl 0 rfl) ?_
  refine lv_iload_n hx hb dL_value_3 rfl (lv_at hl 1 rfl) ?_
  refine lv_iload_n hx hb dL_value_4 rfl (lv_at hl 2 rfl) ?_
  refine ho_call S hE hK hC hP hS lk_L_45 rfl hM ⟨Nat.le_of_ble_eq_true rfl, Nat.le_of_ble_eq_true rfl⟩ rfl hl.1 (Nat.le_of_ble_eq_true rfl) ⟨Nat.le_of_ble_eq_true rfl, Nat.le_of_ble_eq_true rfl⟩ dL_value_5 rfl (fun r u H locs hp hP hS => ?_)
  refine lv_i2l hx hb dL_value_8 rfl ?_
  refine rw_last (x := (u.1, u.2.1, va_up u.2.2 118 (K 118))) S hE hK hP hS 118 (by decide) kO_118 0 rfl (by decide) (by decide) dL_value_9 (fun H locs hP hS => ?_)
  refine lv_goto (tgt := 17) hx hb dL_value_10 (by decide) ?_
  refine lv_iconst (v := 0) hx hb dL_value_17 (by decide) ?_
  exact re_wo (x := (u.1, u.2.1, up2 (va_up u.2.2 118 (K 118)) 118 0 r.toInt64)) hx hb hr hlk hP hS ⟨rfl, r, u, hp, rfl⟩ (Nat.le_of_ble_eq_true rfl) (Nat.le_of_ble_eq_true rfl) dL_value_18
theorem hx_value_0 (l : Launch) (E : En) (I A : Nat → Nat → Int32) (K : Nat → Nat → Int64) (x0 x1 : Int32) (hE : Ev 119 E) (hM : Mx l yX6_value cX6_value 3 (some .int) E [.ref (eP E 0), .int x0, .int x1] (I, A, K) "java/lang/IndexOutOfBoundsException") : Mh l yL_value cL_value 5 hh_value E [.ref (eP E 0), .int x0, .int x1, .ref (eP E 118)] (I, A, K) (fun zz uu => zz = 1 ∧ uu = (I, A, K)) := by
  refine en_ofH RL rfl (by decide +kernel) (Nat.le_of_ble_eq_true rfl) ?_
  intro p e s m below meth c ls S hr hlk htab hl hB
  have hx := S.1
  have hb := S.2.1
  obtain ⟨hK, hC, hP⟩ := hB
  have hS : va_S (cA 119 E) s.heap s.heap [] := va_S.rf
  have hl : lv_has ls 5 [(0, .ref (eP E 0)), (1, .int x0), (2, .int x1), (3, .ref (eP E 118))] := hl
  refine lv_aload_n hx hb dL_value_0 rfl (lv_at hl 3 rfl) ?_
  refine lv_iconst (v := 0) hx hb dL_value_1 (by decide) ?_
  refine lv_aload_n hx hb dL_value_2 rfl (lv_at hl 0 rfl) ?_
  refine lv_iload_n hx hb dL_value_3 rfl (lv_at hl 1 rfl) ?_
  refine lv_iload_n hx hb dL_value_4 rfl (lv_at hl 2 rfl) ?_
  refine ho_catch S hE hK hC hP lk_L_45 rfl hM ⟨Nat.le_of_ble_eq_true rfl, Nat.le_of_ble_eq_true rfl⟩ rfl hl.1 (Nat.le_of_ble_eq_true rfl) ⟨Nat.le_of_ble_eq_true rfl, Nat.le_of_ble_eq_true rfl⟩ dL_value_5 rfl htab [] (⟨0, 10, 13, 19⟩ : ExceptionTableEntry) [] rfl (fun z hz => absurd hz List.not_mem_nil) (by decide) (by decide) (by decide) cl_L_19 (fun q H locs hP hS => ?_)
  refine lv_astore (lv' := [(4, .ref q), (0, .ref (eP E 0)), (1, .int x0), (2, .int x1), (3, .ref (eP E 118))]) hx hb dL_value_13 hl (by decide) rfl (fun ls hl => ?_)
  refine lv_iconst (v := 1) hx hb dL_value_15 (by decide) ?_
  exact re_wo (x := (I, A, K)) hx hb hr hlk hP hS ⟨rfl, rfl⟩ (Nat.le_of_ble_eq_true rfl) (Nat.le_of_ble_eq_true rfl) dL_value_16
def hh_violation : List (Nat × Nat × Nat × Nat) := [(0, 9, 12, 51)]
theorem h_violation (l : Launch) (E : En) (I A : Nat → Nat → Int32) (K : Nat → Nat → Int64) (x0 : Int32) (post : Int32 → St → Prop) (hE : Ev 119 E) (hM : Ma l yX6_violation cX6_violation 3 (some .int) cN E cK [.ref (eP E 0), .int x0] (I, A, K) post) : Mh l yL_violation cL_violation 4 hh_violation E [.ref (eP E 0), .int x0, .ref (eP E 118)] (I, A, K) (fun zz uu => zz = 0 ∧ ∃ r u, post r u ∧ uu = (u.1, u.2.1, up2 (va_up u.2.2 118 (K 118)) 118 0 r.toInt64)) := by
  refine en_ofH RL rfl (by decide +kernel) (Nat.le_of_ble_eq_true rfl) ?_
  intro p e s m below meth c ls S hr hlk htab hl hB
  have hx := S.1
  have hb := S.2.1
  obtain ⟨hK, hC, hP⟩ := hB
  have hS : va_S (cA 119 E) s.heap s.heap [] := va_S.rf
  have hl : lv_has ls 4 [(0, .ref (eP E 0)), (1, .int x0), (2, .ref (eP E 118))] := hl
  refine lv_aload_n hx hb dL_violation_0 rfl (lv_at hl 2 rfl) ?_
  refine lv_iconst (v := 0) hx hb dL_violation_1 (by decide) ?_
  refine lv_aload_n hx hb dL_violation_2 rfl (lv_at hl 0 rfl) ?_
  refine lv_iload_n hx hb dL_violation_3 rfl (lv_at hl 1 rfl) ?_
  refine ho_call S hE hK hC hP hS lk_L_48 rfl hM ⟨Nat.le_of_ble_eq_true rfl, Nat.le_of_ble_eq_true rfl⟩ rfl hl.1 (Nat.le_of_ble_eq_true rfl) ⟨Nat.le_of_ble_eq_true rfl, Nat.le_of_ble_eq_true rfl⟩ dL_violation_4 rfl (fun r u H locs hp hP hS => ?_)
  refine lv_i2l hx hb dL_violation_7 rfl ?_
  refine rw_last (x := (u.1, u.2.1, va_up u.2.2 118 (K 118))) S hE hK hP hS 118 (by decide) kO_118 0 rfl (by decide) (by decide) dL_violation_8 (fun H locs hP hS => ?_)
  refine lv_goto (tgt := 15) hx hb dL_violation_9 (by decide) ?_
  refine lv_iconst (v := 0) hx hb dL_violation_15 (by decide) ?_
  exact re_wo (x := (u.1, u.2.1, up2 (va_up u.2.2 118 (K 118)) 118 0 r.toInt64)) hx hb hr hlk hP hS ⟨rfl, r, u, hp, rfl⟩ (Nat.le_of_ble_eq_true rfl) (Nat.le_of_ble_eq_true rfl) dL_violation_16
theorem hx_violation_0 (l : Launch) (E : En) (I A : Nat → Nat → Int32) (K : Nat → Nat → Int64) (x0 : Int32) (hE : Ev 119 E) (hM : Mx l yX6_violation cX6_violation 3 (some .int) E [.ref (eP E 0), .int x0] (I, A, K) "java/util/NoSuchElementException") : Mh l yL_violation cL_violation 4 hh_violation E [.ref (eP E 0), .int x0, .ref (eP E 118)] (I, A, K) (fun zz uu => zz = 1 ∧ uu = (I, A, K)) := by
  refine en_ofH RL rfl (by decide +kernel) (Nat.le_of_ble_eq_true rfl) ?_
  intro p e s m below meth c ls S hr hlk htab hl hB
  have hx := S.1
  have hb := S.2.1
  obtain ⟨hK, hC, hP⟩ := hB
  have hS : va_S (cA 119 E) s.heap s.heap [] := va_S.rf
  have hl : lv_has ls 4 [(0, .ref (eP E 0)), (1, .int x0), (2, .ref (eP E 118))] := hl
  refine lv_aload_n hx hb dL_violation_0 rfl (lv_at hl 2 rfl) ?_
  refine lv_iconst (v := 0) hx hb dL_violation_1 (by decide) ?_
  refine lv_aload_n hx hb dL_violation_2 rfl (lv_at hl 0 rfl) ?_
  refine lv_iload_n hx hb dL_violation_3 rfl (lv_at hl 1 rfl) ?_
  refine ho_catch S hE hK hC hP lk_L_48 rfl hM ⟨Nat.le_of_ble_eq_true rfl, Nat.le_of_ble_eq_true rfl⟩ rfl hl.1 (Nat.le_of_ble_eq_true rfl) ⟨Nat.le_of_ble_eq_true rfl, Nat.le_of_ble_eq_true rfl⟩ dL_violation_4 rfl htab [] (⟨0, 9, 12, 51⟩ : ExceptionTableEntry) [] rfl (fun z hz => absurd hz List.not_mem_nil) (by decide) (by decide) (by decide) cl_L_51 (fun q H locs hP hS => ?_)
  refine lv_astore_n (lv' := [(3, .ref q), (0, .ref (eP E 0)), (1, .int x0), (2, .ref (eP E 118))]) hx hb dL_violation_12 rfl hl (by decide) rfl (fun ls hl => ?_)
  refine lv_iconst (v := 1) hx hb dL_violation_13 (by decide) ?_
  exact re_wo (x := (I, A, K)) hx hb hr hlk hP hS ⟨rfl, rfl⟩ (Nat.le_of_ble_eq_true rfl) (Nat.le_of_ble_eq_true rfl) dL_violation_14
