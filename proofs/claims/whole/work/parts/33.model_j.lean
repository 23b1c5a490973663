/-- what a call that writes and answers with a long says -/
def qWl (N : Nat) (E : En) (kd : Nat → Lk) (post : Int64 → St → Prop) : Array Value → State → Outcome → State → Prop := va_Ql post (fun u t => Wp N E kd u t.heap) (cA N E)
section WL
variable {p : Program} {l : Launch} {e : Env} {R : Room} {s : State} {m : MethodId} {args : Array Value} {below : List Frame} {meth : Method} {c : Code} {H H0 : Heap} {locs : List Loc} {cells slots : Nat} {Q : State → Prop}
variable {cc : ByteArray} {pc mc ms : Nat} {ls : Array Slot} {rest st0 : List Value} {a : Array Value} {N : Nat} {E : En} {kd : Nat → Lk} {x : St}
theorem cn_wl {post : Int64 → St → Prop} (hr : va_Run p l e R s m args below meth c H locs cells slots mc ms (F0 m pc ls st0) rest (qWl N E kd post a) (cA N E)) (hS : va_S (cA N E) H0 H locs)
    (kk : ∀ (r : Int64) (u : St) (H : Heap) (locs : List Loc), post r u → Wp N E kd u H → va_S (cA N E) H0 H locs → W p l e R s m args below meth c H locs (cells + mc) (slots + ms) Q (F0 m (pc + 3) ls (.long r :: rest))) : W p l e R s m args below meth c H locs cells slots Q (F0 m pc ls st0) :=
  va_calll hr hS (fun _ _ h => h) (fun _ h => h) (fun r u t H1 locs1 ht _ hp hB _ _ hS1 => kk r u H1 locs1 hp (by rw [← ht]; exact hB) hS1)
theorem re_wl {post : Int64 → St → Prop} {v : Int64} (hx : p.tables.exec = Jvm.exec) (hb : c.code = cc) (hr : meth.sig.returnType = some .long) (hlocks : meth.locks = false) (hP : Wp N E kd x H) (hS : va_S (cA N E) s.heap H locs) (h : post v x) (hdg : decode cc pc = .ok (.lreturn, 1)) : W p l e R s m args below meth c H locs 0 0 (MQ below (qWl N E kd post) args s 0 0 (cA N E)) (F0 m pc ls [.long v]) :=
  W.lret hx hb hr (fun t ht _ => ⟨⟨v, x, rfl, h, (show Wp N E kd x t.heap by rw [ht]; exact hP)⟩, hS.F ht⟩) hS.2.2 hdg hlocks
end WL
set_option maxHeartbeats 1000000 in
set_option maxRecDepth 100000 in
theorem c_X7_checksum (l : Launch) (E : En) (I A : Nat → Nat → Int32) (K : Nat → Nat → Int64) (nr nu : Nat) (hE : Ev mN E) (hM : MOk A nr nu) : Met l yX7_checksum (wz yX7_checksum cX7_checksum 5 (some .long)) (rmk 5 0 0 110) (va_Pc [.ref (eP E 0)] (Bw mN E mK (I, A, K))) (qWl mN E mK (fun zz uu => zz = mCkU A (mCkR A nr) nu ∧ uu = (up2 I 0 0 0, A, K))) 0 0 (cA mN E) := by
  refine en_ofW RX7 rfl (by decide +kernel) (Nat.le_of_ble_eq_true rfl) ?_
  intro p e s m below meth c ls S hr hlk hnm hl hB
  have hx := S.1
  have hb := S.2.1
  obtain ⟨hK, hC, hP⟩ := hB
  have hS : va_S (cA mN E) s.heap s.heap [] := va_S.rf
  have hl : lv_has ls 5 [(0, .ref (eP E 0))] := hl
  obtain ⟨⟨hn1, hn2⟩, ⟨hr0, hr1⟩, hu3, hcv⟩ := id hM
  refine lv_aload_n hx hb dX7_checksum_0 rfl (lv_at hl 0 rfl) ?_
  refine lv_iconst (v := 0) hx hb dX7_checksum_1 (by decide) ?_
  refine rw_puti (x := (I, A, K)) (v := 0) S hE hK hP hS 0 (by decide) rfl fk_X7_35 rfl tyX7_ok nmX7 ⟨rfl, by decide +kernel⟩ dX7_checksum_2 (fun H locs hP hS => ?_)
  have hP : Wp mN E mK ((up2 I 0 0 0), A, K) H := hP
  refine lv_lconst (v := 0) hx hb dX7_checksum_5 (by decide) ?_
  refine lv_lstore_n (lv' := [(1, .long 0), (0, .ref (eP E 0))]) hx hb dX7_checksum_6 rfl hl (by decide) rfl (fun ls hl => ?_)
  refine lv_iconst (v := 0) hx hb dX7_checksum_7 (by decide) ?_
  refine lv_istore_n (lv' := [(3, .int 0), (1, .long 0), (0, .ref (eP E 0))]) hx hb dX7_checksum_8 rfl hl (by decide) rfl (fun ls hl => ?_)
  have HL : ∀ (n i : Nat), i + n = nr → ∀ (H : Heap) (locs : List Loc), Wp mN E mK ((up2 I 0 0 0), A, K) H → va_S (cA mN E) s.heap H locs → ∀ ls : Array Slot, lv_has ls 5 [(3, .int (nI i)), (1, .long (mCkR A i)), (0, .ref (eP E 0))] → W p l e (rmk 5 0 0 110) s m ([.ref (eP E 0)] : List Value).toArray below meth c H locs 0 0 (MQ below (qWl mN E mK (fun zz uu => zz = mCkU A (mCkR A nr) nu ∧ uu = (up2 I 0 0 0, A, K))) ([.ref (eP E 0)] : List Value).toArray s 0 0 (cA mN E)) (F0 m 9 ls []) := by
    intro n
    induction n with
    | zero =>
      intro i hi H locs hP hS ls hl
      have hiN : i = nr := by omega
      rw [hiN] at hl
      try rw [hiN] at hP
      refine lv_iload_n hx hb dX7_checksum_9 rfl (lv_at hl 0 rfl) ?_
      refine lv_aload_n hx hb dX7_checksum_10 rfl (lv_at hl 2 rfl) ?_
      refine rw_getr (x := ((up2 I 0 0 0), A, K)) S hK hP 0 (by decide) rfl fk_X7_17 rfl dX7_checksum_11 ?_
      refine lv_iconst (v := 0) hx hb dX7_checksum_14 (by decide) ?_
      refine rw_iald (x := ((up2 I 0 0 0), A, K)) (v := nI nr) S hK hP 2 (by decide) rfl 0 rfl (by decide) (by decide) hr0 dX7_checksum_15 ?_
      refine lv_icmp_ge (tgt := 60) hx hb dX7_checksum_16 (by decide) (fun h16 => ?_) (fun h16 => absurd (Int32.le_refl _) h16)
      refine lv_iconst (v := 0) hx hb dX7_checksum_60 (by decide) ?_
      refine lv_istore_n (lv' := [(3, .int 0), (1, .long (mCkR A nr)), (0, .ref (eP E 0))]) hx hb dX7_checksum_61 rfl hl (by decide) rfl (fun ls hl => ?_)
      have HL : ∀ (n i : Nat), i + n = nu → ∀ (H : Heap) (locs : List Loc), Wp mN E mK ((up2 I 0 0 0), A, K) H → va_S (cA mN E) s.heap H locs → ∀ ls : Array Slot, lv_has ls 5 [(3, .int (nI i)), (1, .long (mCkU A (mCkR A nr) i)), (0, .ref (eP E 0))] → W p l e (rmk 5 0 0 110) s m ([.ref (eP E 0)] : List Value).toArray below meth c H locs 0 0 (MQ below (qWl mN E mK (fun zz uu => zz = mCkU A (mCkR A nr) nu ∧ uu = (up2 I 0 0 0, A, K))) ([.ref (eP E 0)] : List Value).toArray s 0 0 (cA mN E)) (F0 m 62 ls []) := by
        intro n
        induction n with
        | zero =>
          intro i hi H locs hP hS ls hl
          have hiN : i = nu := by omega
          rw [hiN] at hl
          try rw [hiN] at hP
          refine lv_iload_n hx hb dX7_checksum_62 rfl (lv_at hl 0 rfl) ?_
          refine lv_aload_n hx hb dX7_checksum_63 rfl (lv_at hl 2 rfl) ?_
          refine rw_getr (x := ((up2 I 0 0 0), A, K)) S hK hP 0 (by decide) rfl fk_X7_17 rfl dX7_checksum_64 ?_
          refine lv_iconst (v := 1) hx hb dX7_checksum_67 (by decide) ?_
          refine rw_iald (x := ((up2 I 0 0 0), A, K)) (v := nI nu) S hK hP 2 (by decide) rfl 1 rfl (by decide) (by decide) hr1 dX7_checksum_68 ?_
          refine lv_icmp_ge (tgt := 104) hx hb dX7_checksum_69 (by decide) (fun h69 => ?_) (fun h69 => absurd (Int32.le_refl _) h69)
          refine lv_lload_n hx hb dX7_checksum_104 rfl (lv_at hl 1 rfl) ?_
          exact re_wl (x := ((up2 I 0 0 0), A, K)) (v := mCkU A (mCkR A nr) nu) hx hb hr hlk hP hS ⟨rfl, rfl⟩ dX7_checksum_105
        | succ n ih =>
          intro i hi H locs hP hS ls hl
          have hlt : i < nu := by omega
          refine lv_iload_n hx hb dX7_checksum_62 rfl (lv_at hl 0 rfl) ?_
          refine lv_aload_n hx hb dX7_checksum_63 rfl (lv_at hl 2 rfl) ?_
          refine rw_getr (x := ((up2 I 0 0 0), A, K)) S hK hP 0 (by decide) rfl fk_X7_17 rfl dX7_checksum_64 ?_
          refine lv_iconst (v := 1) hx hb dX7_checksum_67 (by decide) ?_
          refine rw_iald (x := ((up2 I 0 0 0), A, K)) (v := nI nu) S hK hP 2 (by decide) rfl 1 rfl (by decide) (by decide) hr1 dX7_checksum_68 ?_
          refine lv_icmp_ge (tgt := 104) hx hb dX7_checksum_69 (by decide) (fun h69 => absurd h69 (nI_ge hlt (by omega))) (fun h69 => ?_)
          refine lv_ldc2 (v := 31) hx hb S.2.2.2.1 (S.2.2.2.2 _ kc_X7_292) dX7_checksum_72 ?_
          refine lv_ldc2 (v := 31) hx hb S.2.2.2.1 (S.2.2.2.2 _ kc_X7_292) dX7_checksum_75 ?_
          refine lv_lload_n hx hb dX7_checksum_78 rfl (lv_at hl 1 rfl) ?_
          refine lv_lmul hx hb dX7_checksum_79 ?_
          refine lv_aload_n hx hb dX7_checksum_80 rfl (lv_at hl 2 rfl) ?_
          refine lv_iload_n hx hb dX7_checksum_81 rfl (lv_at hl 0 rfl) ?_
          refine lv_iconst (v := 0) hx hb dX7_checksum_82 (by decide) ?_
          refine cn_si (ck_V (a := eP E 0) S lk_X7_232 (c_X7_valueOf l E (up2 I 0 0 0) A K i 0 nr nu hE hM hlt (by decide)) ⟨rfl, rfl⟩ ⟨Nat.le_of_ble_eq_true rfl, Nat.le_of_ble_eq_true rfl⟩ bl_w (rc_w hK hP 0 (by decide) rfl rfl) (bw_U hE hK hC hP hS) rfl hl.1 (Nat.le_of_ble_eq_true rfl) ⟨Nat.le_refl _, Nat.le_refl _⟩ dX7_checksum_83 rfl) (fun r1 g2 => ?_)
          obtain rfl : r1 = mVal A i 0 := g2
          refine lv_i2l hx hb dX7_checksum_86 rfl ?_
          refine lv_ladd hx hb dX7_checksum_87 ?_
          refine lv_lmul hx hb dX7_checksum_88 ?_
          refine lv_aload_n hx hb dX7_checksum_89 rfl (lv_at hl 2 rfl) ?_
          refine lv_iload_n hx hb dX7_checksum_90 rfl (lv_at hl 0 rfl) ?_
          refine lv_iconst (v := 1) hx hb dX7_checksum_91 (by decide) ?_
          refine cn_si (ck_V (a := eP E 0) S lk_X7_232 (c_X7_valueOf l E (up2 I 0 0 0) A K i 1 nr nu hE hM hlt (by decide)) ⟨rfl, rfl⟩ ⟨Nat.le_of_ble_eq_true rfl, Nat.le_of_ble_eq_true rfl⟩ bl_w (rc_w hK hP 0 (by decide) rfl rfl) (bw_U hE hK hC hP hS) rfl hl.1 (Nat.le_of_ble_eq_true rfl) ⟨Nat.le_refl _, Nat.le_refl _⟩ dX7_checksum_92 rfl) (fun r3 g4 => ?_)
          obtain rfl : r3 = mVal A i 1 := g4
          refine lv_i2l hx hb dX7_checksum_95 rfl ?_
          refine lv_ladd hx hb dX7_checksum_96 ?_
          refine lv_lstore_n (lv' := [(1, .long ((31 * ((31 * (mCkU A (mCkR A nr) i)) + ((mVal A i 0).toInt64))) + ((mVal A i 1).toInt64))), (3, .int (nI i)), (0, .ref (eP E 0))]) hx hb dX7_checksum_97 rfl hl (by decide) rfl (fun ls hl => ?_)
          refine lv_iinc (v := nI (i + 1)) (lv' := [(3, .int (nI (i + 1))), (1, .long ((31 * ((31 * (mCkU A (mCkR A nr) i)) + ((mVal A i 0).toInt64))) + ((mVal A i 1).toInt64))), (0, .ref (eP E 0))]) hx hb dX7_checksum_98 hl (k := 1) rfl (nI_1 _) (by decide) rfl (fun ls hl => ?_)
          refine lv_goto (tgt := 62) hx hb dX7_checksum_101 (by decide) ?_
          exact ih (i + 1) (by omega) _ _ hP hS ls (lv_sub hl [0, 1, 2] rfl)
      exact HL nu 0 (by omega) _ _ hP hS ls (lv_sub hl [0, 1, 2] rfl)
    | succ n ih =>
      intro i hi H locs hP hS ls hl
      have hlt : i < nr := by omega
      refine lv_iload_n hx hb dX7_checksum_9 rfl (lv_at hl 0 rfl) ?_
      refine lv_aload_n hx hb dX7_checksum_10 rfl (lv_at hl 2 rfl) ?_
      refine rw_getr (x := ((up2 I 0 0 0), A, K)) S hK hP 0 (by decide) rfl fk_X7_17 rfl dX7_checksum_11 ?_
      refine lv_iconst (v := 0) hx hb dX7_checksum_14 (by decide) ?_
      refine rw_iald (x := ((up2 I 0 0 0), A, K)) (v := nI nr) S hK hP 2 (by decide) rfl 0 rfl (by decide) (by decide) hr0 dX7_checksum_15 ?_
      refine lv_icmp_ge (tgt := 60) hx hb dX7_checksum_16 (by decide) (fun h16 => absurd h16 (nI_ge hlt (by omega))) (fun h16 => ?_)
      refine lv_iconst (v := 0) hx hb dX7_checksum_19 (by decide) ?_
      refine lv_istore (lv' := [(4, .int 0), (3, .int (nI i)), (1, .long (mCkR A i)), (0, .ref (eP E 0))]) hx hb dX7_checksum_20 hl (by decide) rfl (fun ls hl => ?_)
      refine lv_iload hx hb dX7_checksum_22 (lv_at hl 0 rfl) ?_
      refine lv_iconst (v := 3) hx hb dX7_checksum_24 (by decide) ?_
      refine lv_icmp_ge (tgt := 54) hx hb dX7_checksum_25 (by decide) (fun h25 => absurd h25 (by decide)) (fun h25 => ?_)
      refine lv_ldc2 (v := 31) hx hb S.2.2.2.1 (S.2.2.2.2 _ kc_X7_292) dX7_checksum_28 ?_
      refine lv_lload_n hx hb dX7_checksum_31 rfl (lv_at hl 2 rfl) ?_
      refine lv_lmul hx hb dX7_checksum_32 ?_
      refine lv_aload_n hx hb dX7_checksum_33 rfl (lv_at hl 3 rfl) ?_
      refine rw_getr (x := ((up2 I 0 0 0), A, K)) S hK hP 0 (by decide) rfl fk_X7_17 rfl dX7_checksum_34 ?_
      refine lv_iload_n hx hb dX7_checksum_37 rfl (lv_at hl 1 rfl) ?_
      refine cn_si (ck_S S lk_X7_136 (c_X7_roleN l i) ⟨rfl, rfl⟩ ⟨Nat.le_of_ble_eq_true rfl, Nat.le_of_ble_eq_true rfl⟩ bl_T t_U rfl hl.1 (Nat.le_of_ble_eq_true rfl) ⟨Nat.le_refl _, Nat.le_refl _⟩ dX7_checksum_38 rfl) (fun r5 g6 => ?_)
      obtain rfl : r5 = nI (4 + 3 * i) := g6
      refine lv_iload hx hb dX7_checksum_41 (lv_at hl 0 rfl) ?_
      refine lv_iadd hx hb dX7_checksum_43 ?_
      refine tp_i (y := nI ((4 + 3 * i) + 0)) (nI_add (4 + 3 * i) 0) ?_
      refine rw_iald (x := ((up2 I 0 0 0), A, K)) (v := A 2 ((4 + 3 * i) + 0)) S hK hP 2 (by decide) rfl ((4 + 3 * i) + 0) rfl (by omega) (by decide) rfl dX7_checksum_44 ?_
      refine lv_i2l hx hb dX7_checksum_45 rfl ?_
      refine lv_ladd hx hb dX7_checksum_46 ?_
      refine lv_lstore_n (lv' := [(1, .long ((31 * (mCkR A i)) + ((A 2 ((4 + 3 * i) + 0)).toInt64))), (4, .int 0), (3, .int (nI i)), (0, .ref (eP E 0))]) hx hb dX7_checksum_47 rfl hl (by decide) rfl (fun ls hl => ?_)
      refine lv_iinc (v := 1) (lv' := [(4, .int 1), (1, .long ((31 * (mCkR A i)) + ((A 2 ((4 + 3 * i) + 0)).toInt64))), (3, .int (nI i)), (0, .ref (eP E 0))]) hx hb dX7_checksum_48 hl (k := 1) rfl rfl (by decide) rfl (fun ls hl => ?_)
      refine lv_goto (tgt := 22) hx hb dX7_checksum_51 (by decide) ?_
      refine lv_iload hx hb dX7_checksum_22 (lv_at hl 0 rfl) ?_
      refine lv_iconst (v := 3) hx hb dX7_checksum_24 (by decide) ?_
      refine lv_icmp_ge (tgt := 54) hx hb dX7_checksum_25 (by decide) (fun h25 => absurd h25 (by decide)) (fun h25 => ?_)
      refine lv_ldc2 (v := 31) hx hb S.2.2.2.1 (S.2.2.2.2 _ kc_X7_292) dX7_checksum_28 ?_
      refine lv_lload_n hx hb dX7_checksum_31 rfl (lv_at hl 1 rfl) ?_
      refine lv_lmul hx hb dX7_checksum_32 ?_
      refine lv_aload_n hx hb dX7_checksum_33 rfl (lv_at hl 3 rfl) ?_
      refine rw_getr (x := ((up2 I 0 0 0), A, K)) S hK hP 0 (by decide) rfl fk_X7_17 rfl dX7_checksum_34 ?_
      refine lv_iload_n hx hb dX7_checksum_37 rfl (lv_at hl 2 rfl) ?_
      refine cn_si (ck_S S lk_X7_136 (c_X7_roleN l i) ⟨rfl, rfl⟩ ⟨Nat.le_of_ble_eq_true rfl, Nat.le_of_ble_eq_true rfl⟩ bl_T t_U rfl hl.1 (Nat.le_of_ble_eq_true rfl) ⟨Nat.le_refl _, Nat.le_refl _⟩ dX7_checksum_38 rfl) (fun r7 g8 => ?_)
      obtain rfl : r7 = nI (4 + 3 * i) := g8
      refine lv_iload hx hb dX7_checksum_41 (lv_at hl 0 rfl) ?_
      refine lv_iadd hx hb dX7_checksum_43 ?_
      refine tp_i (y := nI ((4 + 3 * i) + 1)) (nI_add (4 + 3 * i) 1) ?_
      refine rw_iald (x := ((up2 I 0 0 0), A, K)) (v := A 2 ((4 + 3 * i) + 1)) S hK hP 2 (by decide) rfl ((4 + 3 * i) + 1) rfl (by omega) (by decide) rfl dX7_checksum_44 ?_
      refine lv_i2l hx hb dX7_checksum_45 rfl ?_
      refine lv_ladd hx hb dX7_checksum_46 ?_
      refine lv_lstore_n (lv' := [(1, .long ((31 * ((31 * (mCkR A i)) + ((A 2 ((4 + 3 * i) + 0)).toInt64))) + ((A 2 ((4 + 3 * i) + 1)).toInt64))), (4, .int 1), (3, .int (nI i)), (0, .ref (eP E 0))]) hx hb dX7_checksum_47 rfl hl (by decide) rfl (fun ls hl => ?_)
      refine lv_iinc (v := 2) (lv' := [(4, .int 2), (1, .long ((31 * ((31 * (mCkR A i)) + ((A 2 ((4 + 3 * i) + 0)).toInt64))) + ((A 2 ((4 + 3 * i) + 1)).toInt64))), (3, .int (nI i)), (0, .ref (eP E 0))]) hx hb dX7_checksum_48 hl (k := 1) rfl rfl (by decide) rfl (fun ls hl => ?_)
      refine lv_goto (tgt := 22) hx hb dX7_checksum_51 (by decide) ?_
      refine lv_iload hx hb dX7_checksum_22 (lv_at hl 0 rfl) ?_
      refine lv_iconst (v := 3) hx hb dX7_checksum_24 (by decide) ?_
      refine lv_icmp_ge (tgt := 54) hx hb dX7_checksum_25 (by decide) (fun h25 => absurd h25 (by decide)) (fun h25 => ?_)
      refine lv_ldc2 (v := 31) hx hb S.2.2.2.1 (S.2.2.2.2 _ kc_X7_292) dX7_checksum_28 ?_
      refine lv_lload_n hx hb dX7_checksum_31 rfl (lv_at hl 1 rfl) ?_
      refine lv_lmul hx hb dX7_checksum_32 ?_
      refine lv_aload_n hx hb dX7_checksum_33 rfl (lv_at hl 3 rfl) ?_
      refine rw_getr (x := ((up2 I 0 0 0), A, K)) S hK hP 0 (by decide) rfl fk_X7_17 rfl dX7_checksum_34 ?_
      refine lv_iload_n hx hb dX7_checksum_37 rfl (lv_at hl 2 rfl) ?_
      refine cn_si (ck_S S lk_X7_136 (c_X7_roleN l i) ⟨rfl, rfl⟩ ⟨Nat.le_of_ble_eq_true rfl, Nat.le_of_ble_eq_true rfl⟩ bl_T t_U rfl hl.1 (Nat.le_of_ble_eq_true rfl) ⟨Nat.le_refl _, Nat.le_refl _⟩ dX7_checksum_38 rfl) (fun r9 g10 => ?_)
      obtain rfl : r9 = nI (4 + 3 * i) := g10
      refine lv_iload hx hb dX7_checksum_41 (lv_at hl 0 rfl) ?_
      refine lv_iadd hx hb dX7_checksum_43 ?_
      refine tp_i (y := nI ((4 + 3 * i) + 2)) (nI_add (4 + 3 * i) 2) ?_
      refine rw_iald (x := ((up2 I 0 0 0), A, K)) (v := A 2 ((4 + 3 * i) + 2)) S hK hP 2 (by decide) rfl ((4 + 3 * i) + 2) rfl (by omega) (by decide) rfl dX7_checksum_44 ?_
      refine lv_i2l hx hb dX7_checksum_45 rfl ?_
      refine lv_ladd hx hb dX7_checksum_46 ?_
      refine lv_lstore_n (lv' := [(1, .long ((31 * ((31 * ((31 * (mCkR A i)) + ((A 2 ((4 + 3 * i) + 0)).toInt64))) + ((A 2 ((4 + 3 * i) + 1)).toInt64))) + ((A 2 ((4 + 3 * i) + 2)).toInt64))), (4, .int 2), (3, .int (nI i)), (0, .ref (eP E 0))]) hx hb dX7_checksum_47 rfl hl (by decide) rfl (fun ls hl => ?_)
      refine lv_iinc (v := 3) (lv' := [(4, .int 3), (1, .long ((31 * ((31 * ((31 * (mCkR A i)) + ((A 2 ((4 + 3 * i) + 0)).toInt64))) + ((A 2 ((4 + 3 * i) + 1)).toInt64))) + ((A 2 ((4 + 3 * i) + 2)).toInt64))), (3, .int (nI i)), (0, .ref (eP E 0))]) hx hb dX7_checksum_48 hl (k := 1) rfl rfl (by decide) rfl (fun ls hl => ?_)
      refine lv_goto (tgt := 22) hx hb dX7_checksum_51 (by decide) ?_
      refine lv_iload hx hb dX7_checksum_22 (lv_at hl 0 rfl) ?_
      refine lv_iconst (v := 3) hx hb dX7_checksum_24 (by decide) ?_
      refine lv_icmp_ge (tgt := 54) hx hb dX7_checksum_25 (by decide) (fun h25 => ?_) (fun h25 => absurd (by decide) h25)
      refine lv_iinc (v := nI (i + 1)) (lv' := [(3, .int (nI (i + 1))), (4, .int 3), (1, .long ((31 * ((31 * ((31 * (mCkR A i)) + ((A 2 ((4 + 3 * i) + 0)).toInt64))) + ((A 2 ((4 + 3 * i) + 1)).toInt64))) + ((A 2 ((4 + 3 * i) + 2)).toInt64))), (0, .ref (eP E 0))]) hx hb dX7_checksum_54 hl (k := 2) rfl (nI_1 _) (by decide) rfl (fun ls hl => ?_)
      refine lv_goto (tgt := 9) hx hb dX7_checksum_57 (by decide) ?_
      exact ih (i + 1) (by omega) _ _ hP hS ls (lv_sub hl [0, 2, 3] rfl)
  exact HL nr 0 (by omega) _ _ hP hS ls (lv_sub hl [0, 1, 2] rfl)

