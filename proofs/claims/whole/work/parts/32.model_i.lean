def mWs (w0 w1 w2 w3 w4 : Int32) (i : Nat) : Int32 := if 4 ≤ nI i then (if 8 ≤ nI i then (if 12 ≤ nI i then (if 16 ≤ nI i then w4 else w3) else w2) else w1) else w0
def mBy (w0 w1 w2 w3 w4 : Int32) (i : Nat) : Int32 := (mWs w0 w1 w2 w3 w4 i >>> (nI (24 - 8 * (i % 4)) &&& 31)) &&& 255
def mApp (A : Nat → Nat → Int32) (n : Nat) (w0 w1 w2 w3 w4 : Int32) : Nat → Nat → Nat → Int32 := lfo (fun k B => up2 B 1 (n + k) (mBy w0 w1 w2 w3 w4 k)) A
theorem up2_same {α : Type} {f : Nat → Nat → α} {q j : Nat} {v : α} (h : f q j = v) : up2 f q j v = f := by
  funext a b
  rw [up2_at]
  by_cases g : a = q ∧ b = j
  · rw [if_pos g, g.1, g.2, h]
  · rw [if_neg g]
set_option maxHeartbeats 1000000 in
set_option maxRecDepth 100000 in
theorem c_X7_append (l : Launch) (E : En) (I A : Nat → Nat → Int32) (K : Nat → Nat → Int64) (w0 w1 w2 w3 w4 : Int32) (n : Nat) (hE : Ev mN E) (hil : I 0 2 = nI n) (hn : n ≤ 700) : Met l yX7_append (wz yX7_append cX7_append 8 (some .int)) (rmk 0 0 0 0) (va_Pc [.ref (eP E 0), .int w0, .int w1, .int w2, .int w3, .int w4] (Bw mN E mK (I, A, K))) (qWi mN E mK (fun zz uu => (n + 20 ≤ 700 ∧ zz = nI (n + 20) ∧ uu = (up2 (up2 I 0 0 0) 0 2 (nI (n + 20)), mApp A n w0 w1 w2 w3 w4 20, K)) ∨ (700 < n + 20 ∧ zz = -1 ∧ uu = (up2 I 0 0 0, A, K)))) 0 0 (cA mN E) := by
  refine en_ofW RX7 rfl (by decide +kernel) (Nat.le_of_ble_eq_true rfl) ?_
  intro p e s m below meth c ls S hr hlk hnm hl hB
  have hx := S.1
  have hb := S.2.1
  obtain ⟨hK, hC, hP⟩ := hB
  have hS : va_S (cA mN E) s.heap s.heap [] := va_S.rf
  have hl : lv_has ls 8 [(0, .ref (eP E 0)), (1, .int w0), (2, .int w1), (3, .int w2), (4, .int w3), (5, .int w4)] := hl
  refine lv_aload_n hx hb dX7_append_0 rfl (lv_at hl 0 rfl) ?_
  refine lv_iconst (v := 0) hx hb dX7_append_1 (by decide) ?_
  refine rw_puti (x := (I, A, K)) (v := 0) S hE hK hP hS 0 (by decide) rfl fk_X7_35 rfl tyX7_ok nmX7 ⟨rfl, by decide +kernel⟩ dX7_append_2 (fun H locs hP hS => ?_)
  have hP : Wp mN E mK ((up2 I 0 0 0), A, K) H := hP
  refine lv_aload_n hx hb dX7_append_5 rfl (lv_at hl 0 rfl) ?_
  refine rw_geti (x := ((up2 I 0 0 0), A, K)) (v := nI n) S hK hP 0 (by decide) rfl fk_X7_39 rfl ((up2_j (f := I) (q := 0) (j := 0) (a := 0) (b := 2) (v := 0) (by decide)).trans hil) dX7_append_6 ?_
  refine lv_bipush (v := 20) hx hb dX7_append_9 (by decide) ?_
  refine lv_iadd hx hb dX7_append_11 ?_
  refine tp_i (y := nI (n + 20)) (nI_add n 20) ?_
  refine lv_sipush (v := 700) hx hb dX7_append_12 (by decide) ?_
  refine lv_icmp_le (tgt := 20) hx hb dX7_append_15 (by decide) (fun h15 => ?_) (fun h15 => ?_)
  · have h15n : n + 20 ≤ 700 := (nI_leI (b := 700) (by omega) (by decide)).mp h15
    have hs2 : up2 (up2 I 0 0 0) 0 2 (nI (n + 0)) = up2 I 0 0 0 := up2_same (by rw [Nat.add_zero]; exact hil)
    rw [← hs2] at hP
    have hP : Wp mN E mK ((up2 (up2 I 0 0 0) 0 2 (nI (n + 0))), (mApp A n w0 w1 w2 w3 w4 0), K) H := hP
    refine lv_iconst (v := 0) hx hb dX7_append_20 (by decide) ?_
    refine lv_istore (lv' := [(6, .int 0), (0, .ref (eP E 0)), (1, .int w0), (2, .int w1), (3, .int w2), (4, .int w3), (5, .int w4)]) hx hb dX7_append_21 hl (by decide) rfl (fun ls hl => ?_)
    have HL : ∀ (cnt i : Nat), i + cnt = 20 → ∀ (H : Heap) (locs : List Loc), Wp mN E mK ((up2 (up2 I 0 0 0) 0 2 (nI (n + i))), (mApp A n w0 w1 w2 w3 w4 i), K) H → va_S (cA mN E) s.heap H locs → ∀ ls : Array Slot, lv_has ls 8 [(6, .int (nI i)), (0, .ref (eP E 0)), (1, .int w0), (2, .int w1), (3, .int w2), (4, .int w3), (5, .int w4)] → W p l e (rmk 0 0 0 0) s m ([.ref (eP E 0), .int w0, .int w1, .int w2, .int w3, .int w4] : List Value).toArray below meth c H locs 0 0 (MQ below (qWi mN E mK (fun zz uu => (n + 20 ≤ 700 ∧ zz = nI (n + 20) ∧ uu = (up2 (up2 I 0 0 0) 0 2 (nI (n + 20)), mApp A n w0 w1 w2 w3 w4 20, K)) ∨ (700 < n + 20 ∧ zz = -1 ∧ uu = (up2 I 0 0 0, A, K)))) ([.ref (eP E 0), .int w0, .int w1, .int w2, .int w3, .int w4] : List Value).toArray s 0 0 (cA mN E)) (F0 m 23 ls []) := by
      intro cnt
      induction cnt with
      | zero =>
        intro i hi H locs hP hS ls hl
        have hiN : i = 20 := by omega
        rw [hiN] at hl
        try rw [hiN] at hP
        refine lv_iload hx hb dX7_append_23 (lv_at hl 0 rfl) ?_
        refine lv_bipush (v := 20) hx hb dX7_append_25 (by decide) ?_
        refine lv_icmp_ge (tgt := 120) hx hb dX7_append_27 (by decide) (fun h27 => ?_) (fun h27 => absurd (Int32.le_refl _) h27)
        refine lv_aload_n hx hb dX7_append_120 rfl (lv_at hl 1 rfl) ?_
        refine rw_geti (x := ((up2 (up2 I 0 0 0) 0 2 (nI (n + 20))), (mApp A n w0 w1 w2 w3 w4 20), K)) (v := (nI (n + 20))) S hK hP 0 (by decide) rfl fk_X7_39 rfl (up2_eq (f := (up2 I 0 0 0)) (q := 0) (j := 2) (v := (nI (n + 20)))) dX7_append_121 ?_
        exact re_wi (x := ((up2 (up2 I 0 0 0) 0 2 (nI (n + 20))), (mApp A n w0 w1 w2 w3 w4 20), K)) (v := (nI (n + 20))) hx hb hr hlk hP hS (Or.inl ⟨h15n, rfl, rfl⟩) dX7_append_124
      | succ cnt ih =>
        intro i hi H locs hP hS ls hl
        have hlt : i < 20 := by omega
        refine lv_iload hx hb dX7_append_23 (lv_at hl 0 rfl) ?_
        refine lv_bipush (v := 20) hx hb dX7_append_25 (by decide) ?_
        refine lv_icmp_ge (tgt := 120) hx hb dX7_append_27 (by decide) (fun h27 => absurd h27 (nI_ge (b := 20) hlt (by decide))) (fun h27 => ?_)
        refine lv_iload hx hb dX7_append_30 (lv_at hl 0 rfl) ?_
        refine lv_iconst (v := 4) hx hb dX7_append_32 (by decide) ?_
        refine lv_icmp_ge (tgt := 40) hx hb dX7_append_33 (by decide) (fun h33 => ?_) (fun h33 => ?_)
        · refine lv_iload hx hb dX7_append_40 (lv_at hl 0 rfl) ?_
          refine lv_bipush (v := 8) hx hb dX7_append_42 (by decide) ?_
          refine lv_icmp_ge (tgt := 51) hx hb dX7_append_44 (by decide) (fun h44 => ?_) (fun h44 => ?_)
          · refine lv_iload hx hb dX7_append_51 (lv_at hl 0 rfl) ?_
            refine lv_bipush (v := 12) hx hb dX7_append_53 (by decide) ?_
            refine lv_icmp_ge (tgt := 62) hx hb dX7_append_55 (by decide) (fun h55 => ?_) (fun h55 => ?_)
            · refine lv_iload hx hb dX7_append_62 (lv_at hl 0 rfl) ?_
              refine lv_bipush (v := 16) hx hb dX7_append_64 (by decide) ?_
              refine lv_icmp_ge (tgt := 74) hx hb dX7_append_66 (by decide) (fun h66 => ?_) (fun h66 => ?_)
              · refine lv_iload hx hb dX7_append_74 (lv_at hl 6 rfl) ?_
                refine tp_i (y := (mWs w0 w1 w2 w3 w4 i)) (by unfold mWs; rw [if_pos h33, if_pos h44, if_pos h55, if_pos h66]) ?_
                refine lv_istore (lv' := [(7, .int (mWs w0 w1 w2 w3 w4 i)), (6, .int (nI i)), (0, .ref (eP E 0)), (1, .int w0), (2, .int w1), (3, .int w2), (4, .int w3), (5, .int w4)]) hx hb dX7_append_76 hl (by decide) rfl (fun ls hl => ?_)
                refine lv_aload_n hx hb dX7_append_78 rfl (lv_at hl 2 rfl) ?_
                refine rw_getr (x := ((up2 (up2 I 0 0 0) 0 2 (nI (n + i))), (mApp A n w0 w1 w2 w3 w4 i), K)) S hK hP 0 (by decide) rfl fk_X7_9 rfl dX7_append_79 ?_
                refine lv_aload_n hx hb dX7_append_82 rfl (lv_at hl 2 rfl) ?_
                refine rw_geti (x := ((up2 (up2 I 0 0 0) 0 2 (nI (n + i))), (mApp A n w0 w1 w2 w3 w4 i), K)) (v := (nI (n + i))) S hK hP 0 (by decide) rfl fk_X7_39 rfl (up2_eq (f := (up2 I 0 0 0)) (q := 0) (j := 2) (v := (nI (n + i)))) dX7_append_83 ?_
                refine lv_iload hx hb dX7_append_86 (lv_at hl 0 rfl) ?_
                refine lv_bipush (v := 24) hx hb dX7_append_88 (by decide) ?_
                refine lv_bipush (v := 8) hx hb dX7_append_90 (by decide) ?_
                refine lv_iload hx hb dX7_append_92 (lv_at hl 1 rfl) ?_
                refine lv_iconst (v := 4) hx hb dX7_append_94 (by decide) ?_
                refine lv_irem hx hb dX7_append_95 (by decide) ?_
                refine tp_i (y := nI (i % 4)) (pk_rem (by omega) (by decide) (by decide)) ?_
                refine lv_imul hx hb dX7_append_96 ?_
                refine tp_i (y := nI (8 * (i % 4))) (pk_mul 8 (i % 4)) ?_
                refine lv_isub hx hb dX7_append_97 ?_
                refine tp_i (y := nI (24 - 8 * (i % 4))) (pk_sub (a := 24) (b := 8 * (i % 4)) (by omega)) ?_
                refine lv_ishr hx hb dX7_append_98 ?_
                refine lv_sipush (v := 255) hx hb dX7_append_99 (by decide) ?_
                refine lv_iand hx hb dX7_append_102 ?_
                refine rw_iast (x := ((up2 (up2 I 0 0 0) 0 2 (nI (n + i))), (mApp A n w0 w1 w2 w3 w4 i), K)) (v := (((mWs w0 w1 w2 w3 w4 i) >>> ((nI (24 - 8 * (i % 4))) &&& 31)) &&& 255)) S hE hK hP hS 1 (by decide) rfl (n + i) rfl (by omega) (by decide) dX7_append_103 (fun H locs hP hS => ?_)
                have hP : Wp mN E mK ((up2 (up2 I 0 0 0) 0 2 (nI (n + i))), (up2 (mApp A n w0 w1 w2 w3 w4 i) 1 (n + i) (((mWs w0 w1 w2 w3 w4 i) >>> ((nI (24 - 8 * (i % 4))) &&& 31)) &&& 255)), K) H := hP
                refine lv_aload_n hx hb dX7_append_104 rfl (lv_at hl 2 rfl) ?_
                refine lv_dup hx hb dX7_append_105 rfl ?_
                refine rw_geti (x := ((up2 (up2 I 0 0 0) 0 2 (nI (n + i))), (up2 (mApp A n w0 w1 w2 w3 w4 i) 1 (n + i) (((mWs w0 w1 w2 w3 w4 i) >>> ((nI (24 - 8 * (i % 4))) &&& 31)) &&& 255)), K)) (v := (nI (n + i))) S hK hP 0 (by decide) rfl fk_X7_39 rfl (up2_eq (f := (up2 I 0 0 0)) (q := 0) (j := 2) (v := (nI (n + i)))) dX7_append_106 ?_
                refine lv_iconst (v := 1) hx hb dX7_append_109 (by decide) ?_
                refine lv_iadd hx hb dX7_append_110 ?_
                refine tp_i (y := nI ((n + i) + 1)) (nI_add (n + i) 1) ?_
                refine tp_i (y := nI (n + (i + 1))) rfl ?_
                refine rw_puti (x := ((up2 (up2 I 0 0 0) 0 2 (nI (n + i))), (up2 (mApp A n w0 w1 w2 w3 w4 i) 1 (n + i) (((mWs w0 w1 w2 w3 w4 i) >>> ((nI (24 - 8 * (i % 4))) &&& 31)) &&& 255)), K)) (v := (nI (n + (i + 1)))) S hE hK hP hS 0 (by decide) rfl fk_X7_39 rfl tyX7_ok nmX7 ⟨rfl, by decide +kernel⟩ dX7_append_111 (fun H locs hP hS => ?_)
                have hP : Wp mN E mK ((up2 (up2 (up2 I 0 0 0) 0 2 (nI (n + i))) 0 2 (nI (n + (i + 1)))), (up2 (mApp A n w0 w1 w2 w3 w4 i) 1 (n + i) (((mWs w0 w1 w2 w3 w4 i) >>> ((nI (24 - 8 * (i % 4))) &&& 31)) &&& 255)), K) H := hP
                rw [up2_up] at hP
                have hP : Wp mN E mK ((up2 (up2 I 0 0 0) 0 2 (nI (n + (i + 1)))), (mApp A n w0 w1 w2 w3 w4 (i + 1)), K) H := hP
                refine lv_iinc (v := nI (i + 1)) (lv' := [(6, .int (nI (i + 1))), (7, .int (mWs w0 w1 w2 w3 w4 i)), (0, .ref (eP E 0)), (1, .int w0), (2, .int w1), (3, .int w2), (4, .int w3), (5, .int w4)]) hx hb dX7_append_114 hl (k := 1) rfl (nI_1 _) (by decide) rfl (fun ls hl => ?_)
                refine lv_goto (tgt := 23) hx hb dX7_append_117 (by decide) ?_
                exact ih (i + 1) (by omega) _ _ hP hS ls (lv_sub hl [0, 2, 3, 4, 5, 6, 7] rfl)
              · refine lv_iload hx hb dX7_append_69 (lv_at hl 5 rfl) ?_
                refine lv_goto (tgt := 76) hx hb dX7_append_71 (by decide) ?_
                refine tp_i (y := (mWs w0 w1 w2 w3 w4 i)) (by unfold mWs; rw [if_pos h33, if_pos h44, if_pos h55, if_neg h66]) ?_
                refine lv_istore (lv' := [(7, .int (mWs w0 w1 w2 w3 w4 i)), (6, .int (nI i)), (0, .ref (eP E 0)), (1, .int w0), (2, .int w1), (3, .int w2), (4, .int w3), (5, .int w4)]) hx hb dX7_append_76 hl (by decide) rfl (fun ls hl => ?_)
                refine lv_aload_n hx hb dX7_append_78 rfl (lv_at hl 2 rfl) ?_
                refine rw_getr (x := ((up2 (up2 I 0 0 0) 0 2 (nI (n + i))), (mApp A n w0 w1 w2 w3 w4 i), K)) S hK hP 0 (by decide) rfl fk_X7_9 rfl dX7_append_79 ?_
                refine lv_aload_n hx hb dX7_append_82 rfl (lv_at hl 2 rfl) ?_
                refine rw_geti (x := ((up2 (up2 I 0 0 0) 0 2 (nI (n + i))), (mApp A n w0 w1 w2 w3 w4 i), K)) (v := (nI (n + i))) S hK hP 0 (by decide) rfl fk_X7_39 rfl (up2_eq (f := (up2 I 0 0 0)) (q := 0) (j := 2) (v := (nI (n + i)))) dX7_append_83 ?_
                refine lv_iload hx hb dX7_append_86 (lv_at hl 0 rfl) ?_
                refine lv_bipush (v := 24) hx hb dX7_append_88 (by decide) ?_
                refine lv_bipush (v := 8) hx hb dX7_append_90 (by decide) ?_
                refine lv_iload hx hb dX7_append_92 (lv_at hl 1 rfl) ?_
                refine lv_iconst (v := 4) hx hb dX7_append_94 (by decide) ?_
                refine lv_irem hx hb dX7_append_95 (by decide) ?_
                refine tp_i (y := nI (i % 4)) (pk_rem (by omega) (by decide) (by decide)) ?_
                refine lv_imul hx hb dX7_append_96 ?_
                refine tp_i (y := nI (8 * (i % 4))) (pk_mul 8 (i % 4)) ?_
                refine lv_isub hx hb dX7_append_97 ?_
                refine tp_i (y := nI (24 - 8 * (i % 4))) (pk_sub (a := 24) (b := 8 * (i % 4)) (by omega)) ?_
                refine lv_ishr hx hb dX7_append_98 ?_
                refine lv_sipush (v := 255) hx hb dX7_append_99 (by decide) ?_
                refine lv_iand hx hb dX7_append_102 ?_
                refine rw_iast (x := ((up2 (up2 I 0 0 0) 0 2 (nI (n + i))), (mApp A n w0 w1 w2 w3 w4 i), K)) (v := (((mWs w0 w1 w2 w3 w4 i) >>> ((nI (24 - 8 * (i % 4))) &&& 31)) &&& 255)) S hE hK hP hS 1 (by decide) rfl (n + i) rfl (by omega) (by decide) dX7_append_103 (fun H locs hP hS => ?_)
                have hP : Wp mN E mK ((up2 (up2 I 0 0 0) 0 2 (nI (n + i))), (up2 (mApp A n w0 w1 w2 w3 w4 i) 1 (n + i) (((mWs w0 w1 w2 w3 w4 i) >>> ((nI (24 - 8 * (i % 4))) &&& 31)) &&& 255)), K) H := hP
                refine lv_aload_n hx hb dX7_append_104 rfl (lv_at hl 2 rfl) ?_
                refine lv_dup hx hb dX7_append_105 rfl ?_
                refine rw_geti (x := ((up2 (up2 I 0 0 0) 0 2 (nI (n + i))), (up2 (mApp A n w0 w1 w2 w3 w4 i) 1 (n + i) (((mWs w0 w1 w2 w3 w4 i) >>> ((nI (24 - 8 * (i % 4))) &&& 31)) &&& 255)), K)) (v := (nI (n + i))) S hK hP 0 (by decide) rfl fk_X7_39 rfl (up2_eq (f := (up2 I 0 0 0)) (q := 0) (j := 2) (v := (nI (n + i)))) dX7_append_106 ?_
                refine lv_iconst (v := 1) hx hb dX7_append_109 (by decide) ?_
                refine lv_iadd hx hb dX7_append_110 ?_
                refine tp_i (y := nI ((n + i) + 1)) (nI_add (n + i) 1) ?_
                refine tp_i (y := nI (n + (i + 1))) rfl ?_
                refine rw_puti (x := ((up2 (up2 I 0 0 0) 0 2 (nI (n + i))), (up2 (mApp A n w0 w1 w2 w3 w4 i) 1 (n + i) (((mWs w0 w1 w2 w3 w4 i) >>> ((nI (24 - 8 * (i % 4))) &&& 31)) &&& 255)), K)) (v := (nI (n + (i + 1)))) S hE hK hP hS 0 (by decide) rfl fk_X7_39 rfl tyX7_ok nmX7 ⟨rfl, by decide +kernel⟩ dX7_append_111 (fun H locs hP hS => ?_)
                have hP : Wp mN E mK ((up2 (up2 (up2 I 0 0 0) 0 2 (nI (n + i))) 0 2 (nI (n + (i + 1)))), (up2 (mApp A n w0 w1 w2 w3 w4 i) 1 (n + i) (((mWs w0 w1 w2 w3 w4 i) >>> ((nI (24 - 8 * (i % 4))) &&& 31)) &&& 255)), K) H := hP
                rw [up2_up] at hP
                have hP : Wp mN E mK ((up2 (up2 I 0 0 0) 0 2 (nI (n + (i + 1)))), (mApp A n w0 w1 w2 w3 w4 (i + 1)), K) H := hP
                refine lv_iinc (v := nI (i + 1)) (lv' := [(6, .int (nI (i + 1))), (7, .int (mWs w0 w1 w2 w3 w4 i)), (0, .ref (eP E 0)), (1, .int w0), (2, .int w1), (3, .int w2), (4, .int w3), (5, .int w4)]) hx hb dX7_append_114 hl (k := 1) rfl (nI_1 _) (by decide) rfl (fun ls hl => ?_)
                refine lv_goto (tgt := 23) hx hb dX7_append_117 (by decide) ?_
                exact ih (i + 1) (by omega) _ _ hP hS ls (lv_sub hl [0, 2, 3, 4, 5, 6, 7] rfl)
            · refine lv_iload_n hx hb dX7_append_58 rfl (lv_at hl 4 rfl) ?_
              refine lv_goto (tgt := 76) hx hb dX7_append_59 (by decide) ?_
              refine tp_i (y := (mWs w0 w1 w2 w3 w4 i)) (by unfold mWs; rw [if_pos h33, if_pos h44, if_neg h55]) ?_
              refine lv_istore (lv' := [(7, .int (mWs w0 w1 w2 w3 w4 i)), (6, .int (nI i)), (0, .ref (eP E 0)), (1, .int w0), (2, .int w1), (3, .int w2), (4, .int w3), (5, .int w4)]) hx hb dX7_append_76 hl (by decide) rfl (fun ls hl => ?_)
              refine lv_aload_n hx hb dX7_append_78 rfl (lv_at hl 2 rfl) ?_
              refine rw_getr (x := ((up2 (up2 I 0 0 0) 0 2 (nI (n + i))), (mApp A n w0 w1 w2 w3 w4 i), K)) S hK hP 0 (by decide) rfl fk_X7_9 rfl dX7_append_79 ?_
              refine lv_aload_n hx hb dX7_append_82 rfl (lv_at hl 2 rfl) ?_
              refine rw_geti (x := ((up2 (up2 I 0 0 0) 0 2 (nI (n + i))), (mApp A n w0 w1 w2 w3 w4 i), K)) (v := (nI (n + i))) S hK hP 0 (by decide) rfl fk_X7_39 rfl (up2_eq (f := (up2 I 0 0 0)) (q := 0) (j := 2) (v := (nI (n + i)))) dX7_append_83 ?_
              refine lv_iload hx hb dX7_append_86 (lv_at hl 0 rfl) ?_
              refine lv_bipush (v := 24) hx hb dX7_append_88 (by decide) ?_
              refine lv_bipush (v := 8) hx hb dX7_append_90 (by decide) ?_
              refine lv_iload hx hb dX7_append_92 (lv_at hl 1 rfl) ?_
              refine lv_iconst (v := 4) hx hb dX7_append_94 (by decide) ?_
              refine lv_irem hx hb dX7_append_95 (by decide) ?_
              refine tp_i (y := nI (i % 4)) (pk_rem (by omega) (by decide) (by decide)) ?_
              refine lv_imul hx hb dX7_append_96 ?_
              refine tp_i (y := nI (8 * (i % 4))) (pk_mul 8 (i % 4)) ?_
              refine lv_isub hx hb dX7_append_97 ?_
              refine tp_i (y := nI (24 - 8 * (i % 4))) (pk_sub (a := 24) (b := 8 * (i % 4)) (by omega)) ?_
              refine lv_ishr hx hb dX7_append_98 ?_
              refine lv_sipush (v := 255) hx hb dX7_append_99 (by decide) ?_
              refine lv_iand hx hb dX7_append_102 ?_
              refine rw_iast (x := ((up2 (up2 I 0 0 0) 0 2 (nI (n + i))), (mApp A n w0 w1 w2 w3 w4 i), K)) (v := (((mWs w0 w1 w2 w3 w4 i) >>> ((nI (24 - 8 * (i % 4))) &&& 31)) &&& 255)) S hE hK hP hS 1 (by decide) rfl (n + i) rfl (by omega) (by decide) dX7_append_103 (fun H locs hP hS => ?_)
              have hP : Wp mN E mK ((up2 (up2 I 0 0 0) 0 2 (nI (n + i))), (up2 (mApp A n w0 w1 w2 w3 w4 i) 1 (n + i) (((mWs w0 w1 w2 w3 w4 i) >>> ((nI (24 - 8 * (i % 4))) &&& 31)) &&& 255)), K) H := hP
              refine lv_aload_n hx hb dX7_append_104 rfl (lv_at hl 2 rfl) ?_
              refine lv_dup hx hb dX7_append_105 rfl ?_
              refine rw_geti (x := ((up2 (up2 I 0 0 0) 0 2 (nI (n + i))), (up2 (mApp A n w0 w1 w2 w3 w4 i) 1 (n + i) (((mWs w0 w1 w2 w3 w4 i) >>> ((nI (24 - 8 * (i % 4))) &&& 31)) &&& 255)), K)) (v := (nI (n + i))) S hK hP 0 (by decide) rfl fk_X7_39 rfl (up2_eq (f := (up2 I 0 0 0)) (q := 0) (j := 2) (v := (nI (n + i)))) dX7_append_106 ?_
              refine lv_iconst (v := 1) hx hb dX7_append_109 (by decide) ?_
              refine lv_iadd hx hb dX7_append_110 ?_
              refine tp_i (y := nI ((n + i) + 1)) (nI_add (n + i) 1) ?_
              refine tp_i (y := nI (n + (i + 1))) rfl ?_
              refine rw_puti (x := ((up2 (up2 I 0 0 0) 0 2 (nI (n + i))), (up2 (mApp A n w0 w1 w2 w3 w4 i) 1 (n + i) (((mWs w0 w1 w2 w3 w4 i) >>> ((nI (24 - 8 * (i % 4))) &&& 31)) &&& 255)), K)) (v := (nI (n + (i + 1)))) S hE hK hP hS 0 (by decide) rfl fk_X7_39 rfl tyX7_ok nmX7 ⟨rfl, by decide +kernel⟩ dX7_append_111 (fun H locs hP hS => ?_)
              have hP : Wp mN E mK ((up2 (up2 (up2 I 0 0 0) 0 2 (nI (n + i))) 0 2 (nI (n + (i + 1)))), (up2 (mApp A n w0 w1 w2 w3 w4 i) 1 (n + i) (((mWs w0 w1 w2 w3 w4 i) >>> ((nI (24 - 8 * (i % 4))) &&& 31)) &&& 255)), K) H := hP
              rw [up2_up] at hP
              have hP : Wp mN E mK ((up2 (up2 I 0 0 0) 0 2 (nI (n + (i + 1)))), (mApp A n w0 w1 w2 w3 w4 (i + 1)), K) H := hP
              refine lv_iinc (v := nI (i + 1)) (lv' := [(6, .int (nI (i + 1))), (7, .int (mWs w0 w1 w2 w3 w4 i)), (0, .ref (eP E 0)), (1, .int w0), (2, .int w1), (3, .int w2), (4, .int w3), (5, .int w4)]) hx hb dX7_append_114 hl (k := 1) rfl (nI_1 _) (by decide) rfl (fun ls hl => ?_)
              refine lv_goto (tgt := 23) hx hb dX7_append_117 (by decide) ?_
              exact ih (i + 1) (by omega) _ _ hP hS ls (lv_sub hl [0, 2, 3, 4, 5, 6, 7] rfl)
          · refine lv_iload_n hx hb dX7_append_47 rfl (lv_at hl 3 rfl) ?_
            refine lv_goto (tgt := 76) hx hb dX7_append_48 (by decide) ?_
            refine tp_i (y := (mWs w0 w1 w2 w3 w4 i)) (by unfold mWs; rw [if_pos h33, if_neg h44]) ?_
            refine lv_istore (lv' := [(7, .int (mWs w0 w1 w2 w3 w4 i)), (6, .int (nI i)), (0, .ref (eP E 0)), (1, .int w0), (2, .int w1), (3, .int w2), (4, .int w3), (5, .int w4)]) hx hb dX7_append_76 hl (by decide) rfl (fun ls hl => ?_)
            refine lv_aload_n hx hb dX7_append_78 rfl (lv_at hl 2 rfl) ?_
            refine rw_getr (x := ((up2 (up2 I 0 0 0) 0 2 (nI (n + i))), (mApp A n w0 w1 w2 w3 w4 i), K)) S hK hP 0 (by decide) rfl fk_X7_9 rfl dX7_append_79 ?_
            refine lv_aload_n hx hb dX7_append_82 rfl (lv_at hl 2 rfl) ?_
            refine rw_geti (x := ((up2 (up2 I 0 0 0) 0 2 (nI (n + i))), (mApp A n w0 w1 w2 w3 w4 i), K)) (v := (nI (n + i))) S hK hP 0 (by decide) rfl fk_X7_39 rfl (up2_eq (f := (up2 I 0 0 0)) (q := 0) (j := 2) (v := (nI (n + i)))) dX7_append_83 ?_
            refine lv_iload hx hb dX7_append_86 (lv_at hl 0 rfl) ?_
            refine lv_bipush (v := 24) hx hb dX7_append_88 (by decide) ?_
            refine lv_bipush (v := 8) hx hb dX7_append_90 (by decide) ?_
            refine lv_iload hx hb dX7_append_92 (lv_at hl 1 rfl) ?_
            refine lv_iconst (v := 4) hx hb dX7_append_94 (by decide) ?_
            refine lv_irem hx hb dX7_append_95 (by decide) ?_
            refine tp_i (y := nI (i % 4)) (pk_rem (by omega) (by decide) (by decide)) ?_
            refine lv_imul hx hb dX7_append_96 ?_
            refine tp_i (y := nI (8 * (i % 4))) (pk_mul 8 (i % 4)) ?_
            refine lv_isub hx hb dX7_append_97 ?_
            refine tp_i (y := nI (24 - 8 * (i % 4))) (pk_sub (a := 24) (b := 8 * (i % 4)) (by omega)) ?_
            refine lv_ishr hx hb dX7_append_98 ?_
            refine lv_sipush (v := 255) hx hb dX7_append_99 (by decide) ?_
            refine lv_iand hx hb dX7_append_102 ?_
            refine rw_iast (x := ((up2 (up2 I 0 0 0) 0 2 (nI (n + i))), (mApp A n w0 w1 w2 w3 w4 i), K)) (v := (((mWs w0 w1 w2 w3 w4 i) >>> ((nI (24 - 8 * (i % 4))) &&& 31)) &&& 255)) S hE hK hP hS 1 (by decide) rfl (n + i) rfl (by omega) (by decide) dX7_append_103 (fun H locs hP hS => ?_)
            have hP : Wp mN E mK ((up2 (up2 I 0 0 0) 0 2 (nI (n + i))), (up2 (mApp A n w0 w1 w2 w3 w4 i) 1 (n + i) (((mWs w0 w1 w2 w3 w4 i) >>> ((nI (24 - 8 * (i % 4))) &&& 31)) &&& 255)), K) H := hP
            refine lv_aload_n hx hb dX7_append_104 rfl (lv_at hl 2 rfl) ?_
            refine lv_dup hx hb dX7_append_105 rfl ?_
            refine rw_geti (x := ((up2 (up2 I 0 0 0) 0 2 (nI (n + i))), (up2 (mApp A n w0 w1 w2 w3 w4 i) 1 (n + i) (((mWs w0 w1 w2 w3 w4 i) >>> ((nI (24 - 8 * (i % 4))) &&& 31)) &&& 255)), K)) (v := (nI (n + i))) S hK hP 0 (by decide) rfl fk_X7_39 rfl (up2_eq (f := (up2 I 0 0 0)) (q := 0) (j := 2) (v := (nI (n + i)))) dX7_append_106 ?_
            refine lv_iconst (v := 1) hx hb dX7_append_109 (by decide) ?_
            refine lv_iadd hx hb dX7_append_110 ?_
            refine tp_i (y := nI ((n + i) + 1)) (nI_add (n + i) 1) ?_
            refine tp_i (y := nI (n + (i + 1))) rfl ?_
            refine rw_puti (x := ((up2 (up2 I 0 0 0) 0 2 (nI (n + i))), (up2 (mApp A n w0 w1 w2 w3 w4 i) 1 (n + i) (((mWs w0 w1 w2 w3 w4 i) >>> ((nI (24 - 8 * (i % 4))) &&& 31)) &&& 255)), K)) (v := (nI (n + (i + 1)))) S hE hK hP hS 0 (by decide) rfl fk_X7_39 rfl tyX7_ok nmX7 ⟨rfl, by decide +kernel⟩ dX7_append_111 (fun H locs hP hS => ?_)
            have hP : Wp mN E mK ((up2 (up2 (up2 I 0 0 0) 0 2 (nI (n + i))) 0 2 (nI (n + (i + 1)))), (up2 (mApp A n w0 w1 w2 w3 w4 i) 1 (n + i) (((mWs w0 w1 w2 w3 w4 i) >>> ((nI (24 - 8 * (i % 4))) &&& 31)) &&& 255)), K) H := hP
            rw [up2_up] at hP
            have hP : Wp mN E mK ((up2 (up2 I 0 0 0) 0 2 (nI (n + (i + 1)))), (mApp A n w0 w1 w2 w3 w4 (i + 1)), K) H := hP
            refine lv_iinc (v := nI (i + 1)) (lv' := [(6, .int (nI (i + 1))), (7, .int (mWs w0 w1 w2 w3 w4 i)), (0, .ref (eP E 0)), (1, .int w0), (2, .int w1), (3, .int w2), (4, .int w3), (5, .int w4)]) hx hb dX7_append_114 hl (k := 1) rfl (nI_1 _) (by decide) rfl (fun ls hl => ?_)
            refine lv_goto (tgt := 23) hx hb dX7_append_117 (by decide) ?_
            exact ih (i + 1) (by omega) _ _ hP hS ls (lv_sub hl [0, 2, 3, 4, 5, 6, 7] rfl)
        · refine lv_iload_n hx hb dX7_append_36 rfl (lv_at hl 2 rfl) ?_
          refine lv_goto (tgt := 76) hx hb dX7_append_37 (by decide) ?_
          refine tp_i (y := (mWs w0 w1 w2 w3 w4 i)) (by unfold mWs; rw [if_neg h33]) ?_
          refine lv_istore (lv' := [(7, .int (mWs w0 w1 w2 w3 w4 i)), (6, .int (nI i)), (0, .ref (eP E 0)), (1, .int w0), (2, .int w1), (3, .int w2), (4, .int w3), (5, .int w4)]) hx hb dX7_append_76 hl (by decide) rfl (fun ls hl => ?_)
          refine lv_aload_n hx hb dX7_append_78 rfl (lv_at hl 2 rfl) ?_
          refine rw_getr (x := ((up2 (up2 I 0 0 0) 0 2 (nI (n + i))), (mApp A n w0 w1 w2 w3 w4 i), K)) S hK hP 0 (by decide) rfl fk_X7_9 rfl dX7_append_79 ?_
          refine lv_aload_n hx hb dX7_append_82 rfl (lv_at hl 2 rfl) ?_
          refine rw_geti (x := ((up2 (up2 I 0 0 0) 0 2 (nI (n + i))), (mApp A n w0 w1 w2 w3 w4 i), K)) (v := (nI (n + i))) S hK hP 0 (by decide) rfl fk_X7_39 rfl (up2_eq (f := (up2 I 0 0 0)) (q := 0) (j := 2) (v := (nI (n + i)))) dX7_append_83 ?_
          refine lv_iload hx hb dX7_append_86 (lv_at hl 0 rfl) ?_
          refine lv_bipush (v := 24) hx hb dX7_append_88 (by decide) ?_
          refine lv_bipush (v := 8) hx hb dX7_append_90 (by decide) ?_
          refine lv_iload hx hb dX7_append_92 (lv_at hl 1 rfl) ?_
          refine lv_iconst (v := 4) hx hb dX7_append_94 (by decide) ?_
          refine lv_irem hx hb dX7_append_95 (by decide) ?_
          refine tp_i (y := nI (i % 4)) (pk_rem (by omega) (by decide) (by decide)) ?_
          refine lv_imul hx hb dX7_append_96 ?_
          refine tp_i (y := nI (8 * (i % 4))) (pk_mul 8 (i % 4)) ?_
          refine lv_isub hx hb dX7_append_97 ?_
          refine tp_i (y := nI (24 - 8 * (i % 4))) (pk_sub (a := 24) (b := 8 * (i % 4)) (by omega)) ?_
          refine lv_ishr hx hb dX7_append_98 ?_
          refine lv_sipush (v := 255) hx hb dX7_append_99 (by decide) ?_
          refine lv_iand hx hb dX7_append_102 ?_
          refine rw_iast (x := ((up2 (up2 I 0 0 0) 0 2 (nI (n + i))), (mApp A n w0 w1 w2 w3 w4 i), K)) (v := (((mWs w0 w1 w2 w3 w4 i) >>> ((nI (24 - 8 * (i % 4))) &&& 31)) &&& 255)) S hE hK hP hS 1 (by decide) rfl (n + i) rfl (by omega) (by decide) dX7_append_103 (fun H locs hP hS => ?_)
          have hP : Wp mN E mK ((up2 (up2 I 0 0 0) 0 2 (nI (n + i))), (up2 (mApp A n w0 w1 w2 w3 w4 i) 1 (n + i) (((mWs w0 w1 w2 w3 w4 i) >>> ((nI (24 - 8 * (i % 4))) &&& 31)) &&& 255)), K) H := hP
          refine lv_aload_n hx hb dX7_append_104 rfl (lv_at hl 2 rfl) ?_
          refine lv_dup hx hb dX7_append_105 rfl ?_
          refine rw_geti (x := ((up2 (up2 I 0 0 0) 0 2 (nI (n + i))), (up2 (mApp A n w0 w1 w2 w3 w4 i) 1 (n + i) (((mWs w0 w1 w2 w3 w4 i) >>> ((nI (24 - 8 * (i % 4))) &&& 31)) &&& 255)), K)) (v := (nI (n + i))) S hK hP 0 (by decide) rfl fk_X7_39 rfl (up2_eq (f := (up2 I 0 0 0)) (q := 0) (j := 2) (v := (nI (n + i)))) dX7_append_106 ?_
          refine lv_iconst (v := 1) hx hb dX7_append_109 (by decide) ?_
          refine lv_iadd hx hb dX7_append_110 ?_
          refine tp_i (y := nI ((n + i) + 1)) (nI_add (n + i) 1) ?_
          refine tp_i (y := nI (n + (i + 1))) rfl ?_
          refine rw_puti (x := ((up2 (up2 I 0 0 0) 0 2 (nI (n + i))), (up2 (mApp A n w0 w1 w2 w3 w4 i) 1 (n + i) (((mWs w0 w1 w2 w3 w4 i) >>> ((nI (24 - 8 * (i % 4))) &&& 31)) &&& 255)), K)) (v := (nI (n + (i + 1)))) S hE hK hP hS 0 (by decide) rfl fk_X7_39 rfl tyX7_ok nmX7 ⟨rfl, by decide +kernel⟩ dX7_append_111 (fun H locs hP hS => ?_)
          have hP : Wp mN E mK ((up2 (up2 (up2 I 0 0 0) 0 2 (nI (n + i))) 0 2 (nI (n + (i + 1)))), (up2 (mApp A n w0 w1 w2 w3 w4 i) 1 (n + i) (((mWs w0 w1 w2 w3 w4 i) >>> ((nI (24 - 8 * (i % 4))) &&& 31)) &&& 255)), K) H := hP
          rw [up2_up] at hP
          have hP : Wp mN E mK ((up2 (up2 I 0 0 0) 0 2 (nI (n + (i + 1)))), (mApp A n w0 w1 w2 w3 w4 (i + 1)), K) H := hP
          refine lv_iinc (v := nI (i + 1)) (lv' := [(6, .int (nI (i + 1))), (7, .int (mWs w0 w1 w2 w3 w4 i)), (0, .ref (eP E 0)), (1, .int w0), (2, .int w1), (3, .int w2), (4, .int w3), (5, .int w4)]) hx hb dX7_append_114 hl (k := 1) rfl (nI_1 _) (by decide) rfl (fun ls hl => ?_)
          refine lv_goto (tgt := 23) hx hb dX7_append_117 (by decide) ?_
          exact ih (i + 1) (by omega) _ _ hP hS ls (lv_sub hl [0, 2, 3, 4, 5, 6, 7] rfl)
    exact HL 20 0 (by omega) _ _ hP hS ls (lv_sub hl [0, 1, 2, 3, 4, 5, 6] rfl)
  · refine lv_iconst (v := (-1)) hx hb dX7_append_18 (by decide) ?_
    exact re_wi (x := ((up2 I 0 0 0), A, K)) (v := (-1)) hx hb hr hlk hP hS (Or.inr ⟨Nat.not_le.mp (fun g => h15 ((nI_leI (b := 700) (by omega) (by decide)).mpr g)), rfl, rfl⟩) dX7_append_19

set_option maxHeartbeats 1000000 in
set_option maxRecDepth 100000 in
theorem c_X7_violation (l : Launch) (E : En) (I A : Nat → Nat → Int32) (K : Nat → Nat → Int64) (x : Int32) (nr nu pl : Nat) (hE : Ev mN E) (hM : MOk A nr nu) (k0 : ¬ x < 0 ∧ ¬ mVio A 0 nu + mVio A 1 nu - 1 < x) (hpl : mVP A (2 * nu) 0 x = nI pl) (hp1 : pl < 1000) : Met l yX7_violation (wz yX7_violation cX7_violation 4 (some .int)) (rmk 8 0 0 175) (va_Pc [.ref (eP E 0), .int x] (Bw mN E mK (I, A, K))) (qWi mN E mK (fun zz uu => zz = nI (10 * (pl / 2) + pl % 2) ∧ uu = (up2 I 0 0 0, A, K))) 0 0 (cA mN E) := by
  refine en_ofW RX7 rfl (by decide +kernel) (Nat.le_of_ble_eq_true rfl) ?_
  intro p e s m below meth c ls S hr hlk hnm hl hB
  have hx := S.1
  have hb := S.2.1
  obtain ⟨hK, hC, hP⟩ := hB
  have hS : va_S (cA mN E) s.heap s.heap [] := va_S.rf
  have hl : lv_has ls 4 [(0, .ref (eP E 0)), (1, .int x)] := hl
  obtain ⟨⟨hn1, hn2⟩, ⟨hr0, hr1⟩, hu3, hcv⟩ := id hM
  refine lv_aload_n hx hb dX7_violation_0 rfl (lv_at hl 0 rfl) ?_
  refine lv_iconst (v := 0) hx hb dX7_violation_1 (by decide) ?_
  refine rw_puti (x := (I, A, K)) (v := 0) S hE hK hP hS 0 (by decide) rfl fk_X7_35 rfl tyX7_ok nmX7 ⟨rfl, by decide +kernel⟩ dX7_violation_2 (fun H locs hP hS => ?_)
  have hP : Wp mN E mK ((up2 I 0 0 0), A, K) H := hP
  refine lv_aload_n hx hb dX7_violation_5 rfl (lv_at hl 0 rfl) ?_
  refine lv_iload_n hx hb dX7_violation_6 rfl (lv_at hl 1 rfl) ?_
  refine lv_iconst (v := 0) hx hb dX7_violation_7 (by decide) ?_
  refine lv_aload_n hx hb dX7_violation_8 rfl (lv_at hl 0 rfl) ?_
  refine cn_si (ck_V (a := eP E 0) S lk_X7_280 (c_X7_allViolated l E (up2 I 0 0 0) A K nr nu hE hM) ⟨rfl, rfl⟩ ⟨Nat.le_of_ble_eq_true rfl, Nat.le_of_ble_eq_true rfl⟩ bl_w (rc_w hK hP 0 (by decide) rfl rfl) (bw_U hE hK hC hP hS) rfl hl.1 (Nat.le_of_ble_eq_true rfl) ⟨Nat.le_refl _, Nat.le_refl _⟩ dX7_violation_9 rfl) (fun r1 g2 => ?_)
  obtain rfl : r1 = mVio A 0 nu + mVio A 1 nu := g2
  refine lv_iconst (v := 1) hx hb dX7_violation_12 (by decide) ?_
  refine lv_isub hx hb dX7_violation_13 ?_
  refine cn_si (ck_S S lk_X7_58 (c_X7_in l x 0 ((mVio A 0 nu + mVio A 1 nu) - 1)) ⟨rfl, rfl⟩ ⟨Nat.le_of_ble_eq_true rfl, Nat.le_of_ble_eq_true rfl⟩ bl_T t_U rfl hl.1 (Nat.le_of_ble_eq_true rfl) ⟨Nat.le_refl _, Nat.le_refl _⟩ dX7_violation_14 rfl) (fun r3 g4 => ?_)
  obtain rfl : r3 = rIn x 0 ((mVio A 0 nu + mVio A 1 nu) - 1) := g4
  refine tp_i (y := 1) (rIn_y k0.1 k0.2) ?_
  refine lv_if_ne (tgt := 24) hx hb dX7_violation_17 (by decide) (fun h17 => ?_) (fun h17 => absurd h17 (by decide))
  refine lv_iconst (v := 0) hx hb dX7_violation_24 (by decide) ?_
  refine lv_iconst (v := 1) hx hb dX7_violation_25 (by decide) ?_
  refine cn_wi (ck_V (a := eP E 0) S lk_X7_159 (c_X7_fails_n l E (up2 I 0 0 0) A K 1 hE rfl) ⟨rfl, rfl⟩ ⟨Nat.le_of_ble_eq_true rfl, Nat.le_of_ble_eq_true rfl⟩ bl_w (rc_w hK hP 0 (by decide) rfl rfl) (bw_U hE hK hC hP hS) rfl hl.1 (Nat.le_of_ble_eq_true rfl) ⟨Nat.le_refl _, Nat.le_refl _⟩ dX7_violation_26 rfl) hS (fun r5 u6 H locs g7 hP hS => ?_)
  obtain ⟨rfl, rfl⟩ : r5 = 0 ∧ u6 = ((up2 I 0 0 0), A, K) := g7
  have hP : Wp mN E mK ((up2 I 0 0 0), A, K) H := hP
  refine lv_if_eq (tgt := 34) hx hb dX7_violation_29 (by decide) (fun h29 => ?_) (fun h29 => absurd (by decide) h29)
  refine lv_iconst (v := 0) hx hb dX7_violation_34 (by decide) ?_
  refine lv_istore_n (lv' := [(2, .int 0), (0, .ref (eP E 0)), (1, .int x)]) hx hb dX7_violation_35 rfl hl (by decide) rfl (fun ls hl => ?_)
  refine lv_iload_n hx hb dX7_violation_36 rfl (lv_at hl 2 rfl) ?_
  refine lv_istore_n (lv' := [(3, .int x), (2, .int 0), (0, .ref (eP E 0)), (1, .int x)]) hx hb dX7_violation_37 rfl hl (by decide) rfl (fun ls hl => ?_)
  have HL : ∀ (cnt i : Nat) (q : Int32), i + cnt = 2 * nu → mVP A cnt i q = nI pl → ∀ (H : Heap) (locs : List Loc), Wp mN E mK (up2 I 0 0 0, A, K) H → va_S (cA mN E) s.heap H locs → ∀ ls : Array Slot, lv_has ls 4 [(2, .int (nI i)), (3, .int q), (0, .ref (eP E 0)), (1, .int x)] → W p l e (rmk 8 0 0 175) s m ([.ref (eP E 0), .int x] : List Value).toArray below meth c H locs 0 0 (MQ below (qWi mN E mK (fun zz uu => zz = nI (10 * (pl / 2) + pl % 2) ∧ uu = (up2 I 0 0 0, A, K))) ([.ref (eP E 0), .int x] : List Value).toArray s 0 0 (cA mN E)) (F0 m 38 ls []) := by
    intro cnt
    induction cnt with
    | zero =>
      intro i q hi hv H locs hP hS ls hl
      exact absurd hv (fun g => nI_pos (n := pl) (by omega) (by rw [← g]; show (-1 : Int32) < 0; decide))
    | succ cnt ih =>
      intro i q hi hv H locs hP hS ls hl
      refine lv_aload_n hx hb dX7_violation_38 rfl (lv_at hl 2 rfl) ?_
      refine lv_iload_n hx hb dX7_violation_39 rfl (lv_at hl 0 rfl) ?_
      refine lv_iconst (v := 2) hx hb dX7_violation_40 (by decide) ?_
      refine lv_idiv hx hb dX7_violation_41 (by decide) ?_
      refine tp_i (y := nI (i / 2)) (pk_div (by omega) (by decide) (by decide)) ?_
      refine lv_iload_n hx hb dX7_violation_42 rfl (lv_at hl 0 rfl) ?_
      refine lv_iconst (v := 2) hx hb dX7_violation_43 (by decide) ?_
      refine lv_irem hx hb dX7_violation_44 (by decide) ?_
      refine tp_i (y := nI (i % 2)) (pk_rem (by omega) (by decide) (by decide)) ?_
      refine cn_si (ck_V (a := eP E 0) S lk_X7_238 (c_X7_isViolated l E (up2 I 0 0 0) A K (i / 2) (i % 2) nr nu hE hM (by omega) (by omega)) ⟨rfl, rfl⟩ ⟨Nat.le_of_ble_eq_true rfl, Nat.le_of_ble_eq_true rfl⟩ bl_w (rc_w hK hP 0 (by decide) rfl rfl) (bw_U hE hK hC hP hS) rfl hl.1 (Nat.le_of_ble_eq_true rfl) ⟨Nat.le_refl _, Nat.le_refl _⟩ dX7_violation_45 rfl) (fun r8 g9 => ?_)
      obtain rfl : r8 = mVi A (i / 2) (i % 2) := g9
      refine lv_if_eq (tgt := 55) hx hb dX7_violation_48 (by decide) (fun h48 => ?_) (fun h48 => ?_)
      · refine lv_iload_n hx hb dX7_violation_55 rfl (lv_at hl 1 rfl) ?_
        refine lv_aload_n hx hb dX7_violation_56 rfl (lv_at hl 2 rfl) ?_
        refine lv_iload_n hx hb dX7_violation_57 rfl (lv_at hl 0 rfl) ?_
        refine lv_iconst (v := 2) hx hb dX7_violation_58 (by decide) ?_
        refine lv_idiv hx hb dX7_violation_59 (by decide) ?_
        refine tp_i (y := nI (i / 2)) (pk_div (by omega) (by decide) (by decide)) ?_
        refine lv_iload_n hx hb dX7_violation_60 rfl (lv_at hl 0 rfl) ?_
        refine lv_iconst (v := 2) hx hb dX7_violation_61 (by decide) ?_
        refine lv_irem hx hb dX7_violation_62 (by decide) ?_
        refine tp_i (y := nI (i % 2)) (pk_rem (by omega) (by decide) (by decide)) ?_
        refine cn_si (ck_V (a := eP E 0) S lk_X7_238 (c_X7_isViolated l E (up2 I 0 0 0) A K (i / 2) (i % 2) nr nu hE hM (by omega) (by omega)) ⟨rfl, rfl⟩ ⟨Nat.le_of_ble_eq_true rfl, Nat.le_of_ble_eq_true rfl⟩ bl_w (rc_w hK hP 0 (by decide) rfl rfl) (bw_U hE hK hC hP hS) rfl hl.1 (Nat.le_of_ble_eq_true rfl) ⟨Nat.le_refl _, Nat.le_refl _⟩ dX7_violation_63 rfl) (fun r10 g11 => ?_)
        obtain rfl : r10 = mVi A (i / 2) (i % 2) := g11
        refine lv_if_eq (tgt := 73) hx hb dX7_violation_66 (by decide) (fun h66 => ?_) (fun h66 => absurd h48 h66)
        refine lv_iconst (v := 0) hx hb dX7_violation_73 (by decide) ?_
        refine lv_isub hx hb dX7_violation_74 ?_
        refine lv_istore_n (lv' := [(3, .int (q - 0)), (2, .int (nI i)), (0, .ref (eP E 0)), (1, .int x)]) hx hb dX7_violation_75 rfl hl (by decide) rfl (fun ls hl => ?_)
        refine lv_iinc (v := nI (i + 1)) (lv' := [(2, .int (nI (i + 1))), (3, .int (q - 0)), (0, .ref (eP E 0)), (1, .int x)]) hx hb dX7_violation_76 hl (k := 1) rfl (nI_1 _) (by decide) rfl (fun ls hl => ?_)
        refine lv_goto (tgt := 38) hx hb dX7_violation_79 (by decide) ?_
        exact ih (i + 1) _ (by omega) ((mVP_k h48).symm.trans hv) _ _ hP hS ls (lv_sub hl [0, 1, 2, 3] rfl)
      · refine lv_iload_n hx hb dX7_violation_51 rfl (lv_at hl 1 rfl) ?_
        refine lv_if_le (tgt := 82) hx hb dX7_violation_52 (by decide) (fun h52 => ?_) (fun h52 => ?_)
        · have hip : nI i = nI pl := (mVP_e h48 (n_lt h52)).symm.trans hv
          refine lv_bipush (v := 10) hx hb dX7_violation_82 (by decide) ?_
          refine lv_iload_n hx hb dX7_violation_84 rfl (lv_at hl 0 rfl) ?_
          refine lv_iconst (v := 2) hx hb dX7_violation_85 (by decide) ?_
          refine lv_idiv hx hb dX7_violation_86 (by decide) ?_
          refine tp_i (y := nI (i / 2)) (pk_div (by omega) (by decide) (by decide)) ?_
          refine lv_imul hx hb dX7_violation_87 ?_
          refine tp_i (y := nI (10 * (i / 2))) (pk_mul 10 (i / 2)) ?_
          refine lv_iload_n hx hb dX7_violation_88 rfl (lv_at hl 0 rfl) ?_
          refine lv_iconst (v := 2) hx hb dX7_violation_89 (by decide) ?_
          refine lv_irem hx hb dX7_violation_90 (by decide) ?_
          refine tp_i (y := nI (i % 2)) (pk_rem (by omega) (by decide) (by decide)) ?_
          refine lv_iadd hx hb dX7_violation_91 ?_
          refine tp_i (y := nI ((10 * (i / 2)) + (i % 2))) (nI_add (10 * (i / 2)) (i % 2)) ?_
          exact re_wi (x := ((up2 I 0 0 0), A, K)) (v := (nI ((10 * (i / 2)) + (i % 2)))) hx hb hr hlk hP hS ⟨by rw [show i = pl from (nI_eq (by omega) (by omega)).mp hip], rfl⟩ dX7_violation_92
        · have hq0 : 0 < q := l_lt h52
          refine lv_iload_n hx hb dX7_violation_55 rfl (lv_at hl 1 rfl) ?_
          refine lv_aload_n hx hb dX7_violation_56 rfl (lv_at hl 2 rfl) ?_
          refine lv_iload_n hx hb dX7_violation_57 rfl (lv_at hl 0 rfl) ?_
          refine lv_iconst (v := 2) hx hb dX7_violation_58 (by decide) ?_
          refine lv_idiv hx hb dX7_violation_59 (by decide) ?_
          refine tp_i (y := nI (i / 2)) (pk_div (by omega) (by decide) (by decide)) ?_
          refine lv_iload_n hx hb dX7_violation_60 rfl (lv_at hl 0 rfl) ?_
          refine lv_iconst (v := 2) hx hb dX7_violation_61 (by decide) ?_
          refine lv_irem hx hb dX7_violation_62 (by decide) ?_
          refine tp_i (y := nI (i % 2)) (pk_rem (by omega) (by decide) (by decide)) ?_
          refine cn_si (ck_V (a := eP E 0) S lk_X7_238 (c_X7_isViolated l E (up2 I 0 0 0) A K (i / 2) (i % 2) nr nu hE hM (by omega) (by omega)) ⟨rfl, rfl⟩ ⟨Nat.le_of_ble_eq_true rfl, Nat.le_of_ble_eq_true rfl⟩ bl_w (rc_w hK hP 0 (by decide) rfl rfl) (bw_U hE hK hC hP hS) rfl hl.1 (Nat.le_of_ble_eq_true rfl) ⟨Nat.le_refl _, Nat.le_refl _⟩ dX7_violation_63 rfl) (fun r12 g13 => ?_)
          obtain rfl : r12 = mVi A (i / 2) (i % 2) := g13
          refine lv_if_eq (tgt := 73) hx hb dX7_violation_66 (by decide) (fun h66 => absurd h66 h48) (fun h66 => ?_)
          refine lv_iconst (v := 1) hx hb dX7_violation_69 (by decide) ?_
          refine lv_goto (tgt := 74) hx hb dX7_violation_70 (by decide) ?_
          refine lv_isub hx hb dX7_violation_74 ?_
          refine lv_istore_n (lv' := [(3, .int (q - 1)), (2, .int (nI i)), (0, .ref (eP E 0)), (1, .int x)]) hx hb dX7_violation_75 rfl hl (by decide) rfl (fun ls hl => ?_)
          refine lv_iinc (v := nI (i + 1)) (lv' := [(2, .int (nI (i + 1))), (3, .int (q - 1)), (0, .ref (eP E 0)), (1, .int x)]) hx hb dX7_violation_76 hl (k := 1) rfl (nI_1 _) (by decide) rfl (fun ls hl => ?_)
          refine lv_goto (tgt := 38) hx hb dX7_violation_79 (by decide) ?_
          exact ih (i + 1) _ (by omega) ((mVP_m h48 hq0).symm.trans hv) _ _ hP hS ls (lv_sub hl [0, 1, 2, 3] rfl)
  exact HL (2 * nu) 0 x (by omega) hpl _ _ hP hS ls (lv_sub hl [1, 0, 2, 3] rfl)

set_option maxHeartbeats 1000000 in
set_option maxRecDepth 100000 in
theorem c_X7_violation_b0 (l : Launch) (E : En) (I A : Nat → Nat → Int32) (K : Nat → Nat → Int64) (x : Int32) (nr nu : Nat) (hE : Ev mN E) (hM : MOk A nr nu) (kb : x < 0 ∨ mVio A 0 nu + mVio A 1 nu - 1 < x) : Met l yX7_violation (wz yX7_violation cX7_violation 4 (some .int)) (rmk 8 0 0 175) (va_Pc [.ref (eP E 0), .int x] (Bw mN E mK (I, A, K))) (qWi mN E mK (fun zz uu => uu = (up2 I 0 0 1, A, K))) 0 0 (cA mN E) := by
  refine en_ofW RX7 rfl (by decide +kernel) (Nat.le_of_ble_eq_true rfl) ?_
  intro p e s m below meth c ls S hr hlk hnm hl hB
  have hx := S.1
  have hb := S.2.1
  obtain ⟨hK, hC, hP⟩ := hB
  have hS : va_S (cA mN E) s.heap s.heap [] := va_S.rf
  have hl : lv_has ls 4 [(0, .ref (eP E 0)), (1, .int x)] := hl
  obtain ⟨⟨hn1, hn2⟩, ⟨hr0, hr1⟩, hu3, hcv⟩ := id hM
  refine lv_aload_n hx hb dX7_violation_0 rfl (lv_at hl 0 rfl) ?_
  refine lv_iconst (v := 0) hx hb dX7_violation_1 (by decide) ?_
  refine rw_puti (x := (I, A, K)) (v := 0) S hE hK hP hS 0 (by decide) rfl fk_X7_35 rfl tyX7_ok nmX7 ⟨rfl, by decide +kernel⟩ dX7_violation_2 (fun H locs hP hS => ?_)
  have hP : Wp mN E mK ((up2 I 0 0 0), A, K) H := hP
  refine lv_aload_n hx hb dX7_violation_5 rfl (lv_at hl 0 rfl) ?_
  refine lv_iload_n hx hb dX7_violation_6 rfl (lv_at hl 1 rfl) ?_
  refine lv_iconst (v := 0) hx hb dX7_violation_7 (by decide) ?_
  refine lv_aload_n hx hb dX7_violation_8 rfl (lv_at hl 0 rfl) ?_
  refine cn_si (ck_V (a := eP E 0) S lk_X7_280 (c_X7_allViolated l E (up2 I 0 0 0) A K nr nu hE hM) ⟨rfl, rfl⟩ ⟨Nat.le_of_ble_eq_true rfl, Nat.le_of_ble_eq_true rfl⟩ bl_w (rc_w hK hP 0 (by decide) rfl rfl) (bw_U hE hK hC hP hS) rfl hl.1 (Nat.le_of_ble_eq_true rfl) ⟨Nat.le_refl _, Nat.le_refl _⟩ dX7_violation_9 rfl) (fun r1 g2 => ?_)
  obtain rfl : r1 = mVio A 0 nu + mVio A 1 nu := g2
  refine lv_iconst (v := 1) hx hb dX7_violation_12 (by decide) ?_
  refine lv_isub hx hb dX7_violation_13 ?_
  refine cn_si (ck_S S lk_X7_58 (c_X7_in l x 0 ((mVio A 0 nu + mVio A 1 nu) - 1)) ⟨rfl, rfl⟩ ⟨Nat.le_of_ble_eq_true rfl, Nat.le_of_ble_eq_true rfl⟩ bl_T t_U rfl hl.1 (Nat.le_of_ble_eq_true rfl) ⟨Nat.le_refl _, Nat.le_refl _⟩ dX7_violation_14 rfl) (fun r3 g4 => ?_)
  obtain rfl : r3 = rIn x 0 ((mVio A 0 nu + mVio A 1 nu) - 1) := g4
  refine tp_i (y := 0) (rIn_n kb) ?_
  refine lv_if_ne (tgt := 24) hx hb dX7_violation_17 (by decide) (fun h17 => absurd h17 (by decide)) (fun h17 => ?_)
  refine lv_iconst (v := 1) hx hb dX7_violation_20 (by decide) ?_
  refine lv_goto (tgt := 25) hx hb dX7_violation_21 (by decide) ?_
  refine lv_iconst (v := 1) hx hb dX7_violation_25 (by decide) ?_
  refine cn_wi (ck_V (a := eP E 0) S lk_X7_159 (c_X7_fails_b l E (up2 I 0 0 0) A K 1 hE rfl (by decide)) ⟨rfl, rfl⟩ ⟨Nat.le_of_ble_eq_true rfl, Nat.le_of_ble_eq_true rfl⟩ bl_w (rc_w hK hP 0 (by decide) rfl rfl) (bw_U hE hK hC hP hS) rfl hl.1 (Nat.le_of_ble_eq_true rfl) ⟨Nat.le_refl _, Nat.le_refl _⟩ dX7_violation_26 rfl) hS (fun r5 u6 H locs g7 hP hS => ?_)
  obtain ⟨rfl, rfl⟩ : r5 = 1 ∧ u6 = ((up2 (up2 I 0 0 0) 0 0 1), A, K) := g7
  have hP : Wp mN E mK ((up2 (up2 I 0 0 0) 0 0 1), A, K) H := hP
  refine lv_if_eq (tgt := 34) hx hb dX7_violation_29 (by decide) (fun h29 => absurd h29 (by decide)) (fun h29 => ?_)
  refine lv_iconst (v := 0) hx hb dX7_violation_32 (by decide) ?_
  exact re_wi (x := ((up2 (up2 I 0 0 0) 0 0 1), A, K)) (v := 0) hx hb hr hlk hP hS (by rw [up2_up]) dX7_violation_33

