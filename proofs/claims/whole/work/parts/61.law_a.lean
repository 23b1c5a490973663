/-! the law's helpers: the component's places and, at 118, the array out -/
def kO (q : Nat) : Lk := if q < 118 then cK q else .inr (.inr (.inl (2, 1)))
theorem kO_lo {q : Nat} (h : q < 118) : kO q = cK q := if_pos h
theorem kO_118 : kO 118 = .inr (.inr (.inl (2, 1))) := if_neg (by decide)
theorem lay_O {E : En} {x : St} {q : Nat} (h : q < 118) : lay E kO x q = lay E cK x q := by
  unfold lay
  rw [kO_lo h]
theorem ev_c {E : En} (h : Ev 119 E) : Ev cN E := ⟨fun i j hi hj => h.1 i j (Nat.lt_succ_of_lt hi) (Nat.lt_succ_of_lt hj), fun i hi => h.2 i (Nat.lt_succ_of_lt hi)⟩
theorem cA_c {E : En} {q : Nat} (h : cA cN E q) : cA 119 E q := by
  obtain ⟨i, hi, e⟩ := h
  exact ⟨i, Nat.lt_succ_of_lt hi, e⟩
theorem wO_c {E : En} {x : St} {H : Heap} (h : Wp 119 E kO x H) : Wp cN E cK x H := by
  intro k q hk
  obtain ⟨h1, rfl⟩ := fw_get hk
  have h2 := h k (eP E k, lay E kO x k) (fw_at (Nat.lt_succ_of_lt h1))
  rw [lay_O h1] at h2
  exact h2
theorem wO_k {E : En} {x : St} {H H1 : Heap} (h : Wp 119 E kO x H) (hk : ∀ q, q < H.size → H1[q]? = H[q]?) : Wp 119 E kO x H1 := h.kept (fun k q hq => hk _ (h k q hq).lt)
/-- the array out is as it was, whatever the component does -/
theorem wO_of {E : En} {x u : St} {H H1 : Heap} (hE : Ev 119 E) (h : Wp 119 E kO x H) (hu : Wp cN E cK u H1) (hk : ∀ q, q < H.size → ¬ cA cN E q → H1[q]? = H[q]?) : Wp 119 E kO (u.1, u.2.1, va_up u.2.2 118 (x.2.2 118)) H1 := by
  intro k q hk'
  obtain ⟨h1, rfl⟩ := fw_get hk'
  by_cases h118 : k < 118
  · have h2 := hu k (eP E k, lay E cK u k) (fw_at h118)
    rw [← lay_O h118] at h2
    have e : lay E kO (u.1, u.2.1, va_up u.2.2 118 (x.2.2 118)) k = lay E kO u k := by
      unfold lay
      show ent E (kO k) (u.1 k) (u.2.1 k) (va_up u.2.2 118 (x.2.2 118) k) = _
      rw [show va_up u.2.2 118 (x.2.2 118) k = u.2.2 k from if_neg (by omega)]
    rw [e]
    exact h2
  · obtain rfl : k = 118 := by omega
    have h2 := h 118 (eP E 118, lay E kO x 118) (fw_at (by decide))
    have e : lay E kO (u.1, u.2.1, va_up u.2.2 118 (x.2.2 118)) 118 = lay E kO x 118 := by
      unfold lay
      rw [kO_118]
      show (.inl (eT E 2, 1, .inr (.inl (va_up u.2.2 118 (x.2.2 118) 118))) : va_E) = _
      rw [show va_up u.2.2 118 (x.2.2 118) 118 = x.2.2 118 from if_pos rfl]
      rfl
    rw [e]
    refine h2.kept (hk _ h2.lt ?_)
    rintro ⟨i, hi, hq⟩
    have h3 := hE.1 118 i (by decide) (Nat.lt_succ_of_lt hi) hq
    have hi : i < 118 := hi
    omega
/-- a method of the plan that answers -/
def Ma (l : Launch) (y : MethodName) (cc : ByteArray) (maxL : Nat) (ret : Option FieldType) (N : Nat) (E : En) (kd : Nat → Lk) (av : List Value) (x : St) (post : Int32 → St → Prop) : Prop :=
  ∃ (f L : Nat) (Qc : Array Value → State → Outcome → State → Prop) (free : Addr → Prop), (f ≤ 40 ∧ L ≤ 2000) ∧ Met l y (wz y cc maxL ret) (rmk f 0 0 L) (va_Pc av (Bw N E kd x)) Qc 0 0 free ∧ (∀ q, free q → cA N E q) ∧ ∀ a st oc t, Wp N E kd x st.heap → Qc a st oc t → qWi N E kd post a st oc t
/-- a method of the component that throws -/
def Mx (l : Launch) (y : MethodName) (cc : ByteArray) (maxL : Nat) (ret : Option FieldType) (E : En) (av : List Value) (x : St) (cl : String) : Prop :=
  ∃ (f L : Nat), (f ≤ 40 ∧ L ≤ 2000) ∧ vx_Met l y (wz y cc maxL ret) (rmk f 1 6 L) (va_Pc av (Bw cN E cK x)) qNo (xC cl) 1 6 fr0
/-- a helper of the law -/
def Mh (l : Launch) (y : MethodName) (cc : ByteArray) (maxL : Nat) (hh : List (Nat × Nat × Nat × Nat)) (E : En) (av : List Value) (x : St) (post : Int32 → St → Prop) : Prop :=
  Met l y (Cond.codeWith y cc maxL (some .int) hh :: lwg) (rmk 42 1 6 2100) (va_Pc av (Bw 119 E kO x)) (qWi 119 E kO post) 1 6 (cA 119 E)
theorem wp_eq {N : Nat} {E : En} {kd : Nat → Lk} {x : St} {H1 H : Heap} (h : H1 = H) (hP : Wp N E kd x H) : Wp N E kd x H1 := by
  rw [h]
  exact hP
theorem ma_si {l : Launch} {y : MethodName} {cc : ByteArray} {maxL : Nat} {ret : Option FieldType} {N : Nat} {E : En} {kd : Nat → Lk} {av : List Value} {x : St} {v : Int32} {f L : Nat} (h : Met l y (wz y cc maxL ret) (rmk f 0 0 L) (va_Pc av (Bw N E kd x)) (qSi (fun zz => zz = v)) 0 0 fr0) (hf : f ≤ 40 ∧ L ≤ 2000) : Ma l y cc maxL ret N E kd av x (fun zz uu => zz = v ∧ uu = x) :=
  ⟨f, L, _, _, hf, h, fun _ q => q.elim, fun _ _ _ _ hP ⟨r, ho, hp, hh⟩ => ⟨⟨r, x, ho, ⟨hp, rfl⟩, wp_eq hh hP⟩, Nat.le_of_eq (congrArg Array.size hh.symm), fun q _ _ => congrArg (fun (z : Heap) => z[q]?) hh⟩⟩
theorem ma_wi {l : Launch} {y : MethodName} {cc : ByteArray} {maxL : Nat} {ret : Option FieldType} {N : Nat} {E : En} {kd : Nat → Lk} {av : List Value} {x : St} {post : Int32 → St → Prop} {f L : Nat} (h : Met l y (wz y cc maxL ret) (rmk f 0 0 L) (va_Pc av (Bw N E kd x)) (qWi N E kd post) 0 0 (cA N E)) (hf : f ≤ 40 ∧ L ≤ 2000) : Ma l y cc maxL ret N E kd av x post :=
  ⟨f, L, _, _, hf, h, fun _ q => q, fun _ _ _ _ _ q => q⟩
theorem mx_of {l : Launch} {y : MethodName} {cc : ByteArray} {maxL : Nat} {ret : Option FieldType} {E : En} {av : List Value} {x : St} {cl : String} {f L : Nat} (h : vx_Met l y (wz y cc maxL ret) (rmk f 1 6 L) (va_Pc av (Bw cN E cK x)) qNo (xC cl) 1 6 fr0) (hf : f ≤ 40 ∧ L ≤ 2000) : Mx l y cc maxL ret E av x cl := ⟨f, L, hf, h⟩
theorem en_ofH {l : Launch} {y : MethodName} {rm : Room} {av : List Value} {Bp : State → Prop} {Qc : Array Value → State → Outcome → State → Prop} {mc ms : Nat} {free : Addr → Prop} {cc : ByteArray} {maxL : Nat} {ret : Option FieldType} {hh : List (Nat × Nat × Nat × Nat)} (own : String) (hc : y.cls = own) (hy : plainName y.cls = true) (hlen : (lg_sl av).length ≤ maxL)
    (body : ∀ (p : Program) (e : Env) (s : State) (m : MethodId) (below : List Frame) (meth : Method) (c : Code) (ls : Array Slot), CF p m c cc maxL s av.toArray own → meth.sig.returnType = ret → meth.locks = false → c.exceptionTable.toList = tableOf hh → lv_has ls maxL (lv_args 0 av) → Bp s →
      W p l e rm s m av.toArray below meth c s.heap [] 0 0 (MQ below Qc av.toArray s mc ms free) (F0 m 0 ls [])) : Met l y (Cond.codeWith y cc maxL ret hh :: lwg) rm (va_Pc av Bp) Qc mc ms free := by
  refine MetFree.of_bodyS (code := cc) (maxLocals := maxL) (ret := ret) hy ?_ ?_
  · intro args s m h hn
    obtain ⟨m9, meth, c, hn9, h1, h2, h3, h4, -, h5, h6, -⟩ := Cond.codeWith_spec (atoms_spec (ws := Cond.codeWith y cc maxL ret hh :: lwg) h _ List.mem_cons_self)
    cases hn.symm.trans hn9
    exact ⟨meth, c, h1, h2, h3, h4, h5, h6⟩
  · intro p e s m args below meth c s₁ B hml hP _
    obtain ⟨rfl, hv⟩ := hP
    have hh0 : s₁.heap = s.heap := by rw [B.state]; rfl
    have hts := atoms_spec (ws := Cond.codeWith y cc maxL ret hh :: lwg) B.pre
    have hown : s.vm.findClass y.cls = some m.cls := findClass_of_methodNamed B.named
    rw [hc] at hown
    have hl := lv_entry av (n := maxL) hlen
    have htab := vx_table (x := y) B (hts _ List.mem_cons_self)
    have K : W p l e rm s m av.toArray below meth c s.heap [] 0 0 (MQ below Qc av.toArray s mc ms free) (entryFrame m av.toArray maxL) := by
      rw [lg_entry_eq]
      exact body p e s m below meth c _ ⟨B.exec, B.bytes, hml, hown, fun w hw => hts w (List.mem_cons_of_mem _ hw)⟩ B.returns B.notSynchronized htab hl hv
    obtain ⟨t, a1, oc, b1, b2, b3⟩ := K s₁ hh0 (Stand.of_body B)
    exact ⟨t, oc, a1, b1, b2, b3⟩
section HR
variable {p : Program} {l : Launch} {e : Env} {R : Room} {s : State} {m : MethodId} {args : Array Value} {below : List Frame} {meth : Method} {c : Code} {H : Heap} {locs : List Loc} {cells slots : Nat} {Q : State → Prop}
variable {cc b : ByteArray} {nL pc idx maxL n mc ms N : Nat} {ls : Array Slot} {rest av st0 : List Value} {a : Array Value} {own : String} {E : En} {kd : Nat → Lk} {x : St} {y : MethodName} {ret : Option FieldType} {rm : Room} {post : Int32 → St → Prop} {A : Nat → Prop} {H0 : Heap}
theorem run_post {g : JFrame} {Q1 Q2 : State → Outcome → State → Prop} {f1 f2 : Addr → Prop} (hr : va_Run p l e R s m args below meth c H locs cells slots mc ms g rest Q1 f1) (h : ∀ st oc t, st.heap = H → Q1 st oc t → Q2 st oc t) (hf : ∀ q, f1 q → f2 q) : va_Run p l e R s m args below meth c H locs cells slots mc ms g rest Q2 f2 := by
  intro T hT X
  obtain ⟨v, st₀, t, T', L, h0, X', hL, e1, e2, hq, st⟩ := hr T hT X
  exact ⟨v, st₀, t, T', L, h0, X', fun q z => hf _ (hL q z), e1, e2, h _ _ _ h0 hq, st⟩
theorem ma_V (S : CF p m c cc nL s args own) (L : LkV own idx y b maxL ret n) {r0 : Nat} (hM : Ma l y b maxL ret N E kd (.ref r0 :: av) x post) (hR : 41 ≤ R.frames ∧ 8 + (maxL + 11) + 2000 ≤ R.locals) (hrc : ∃ cellB : Cell, H[r0]? = some cellB ∧ cellB.vm.isStatics = false ∧ s.vm.findClass y.cls = some cellB.cls) (hU : ∀ U : State, U.heap = H → s.WarmedH U.vm → Bw N E kd x U) (hP : Wp N E kd x H) (hn : av.length = n) (hsz : ls.size = nL) (hcat : (rest.map fun v => v.category).sum ≤ 8) (hcs : cells + 0 ≤ R.cells ∧ slots + 0 ≤ R.slots) (hdg : decode cc pc = .ok (.invokevirtual idx, 3)) (hst : st0 = av.reverse ++ .ref r0 :: rest) :
    va_Run p l e R s m args below meth c H locs cells slots 0 0 (F0 m pc ls st0) rest (qWi N E kd post (Value.ref r0 :: av).toArray) (cA N E) := by
  obtain ⟨f, L1, Qc, free, hf, hM, hfr, hq⟩ := hM
  exact run_post (ck_V S L hM ⟨rfl, rfl⟩ ⟨by show f + 1 ≤ _; omega, by show _ + L1 ≤ _; omega⟩ bl_w hrc hU hn hsz hcat hcs hdg hst) (fun st oc t h0 h => hq _ st oc t (by rw [h0]; exact hP) h) hfr
/-- the component's method called by a helper -/
theorem ho_call (S : CF p m c cc nL s args own) (hE : Ev 119 E) (hK : Vk E s) (hC : Stc E s s.heap) (hP : Wp 119 E kO x H) (hS : va_S (cA 119 E) s.heap H locs) (L : LkV own idx y b maxL ret n) (hy : y.cls = "ColorScheme") (hM : Ma l y b maxL ret cN E cK (.ref (eP E 0) :: av) x post) (hR : 41 ≤ R.frames ∧ 8 + (maxL + 11) + 2000 ≤ R.locals) (hn : av.length = n) (hsz : ls.size = nL) (hcat : (rest.map fun v => v.category).sum ≤ 8) (hcs : cells + 0 ≤ R.cells ∧ slots + 0 ≤ R.slots) (hdg : decode cc pc = .ok (.invokevirtual idx, 3)) (hst : st0 = av.reverse ++ .ref (eP E 0) :: rest)
    (kk : ∀ (r : Int32) (u : St) (H : Heap) (locs : List Loc), post r u → Wp 119 E kO (u.1, u.2.1, va_up u.2.2 118 (x.2.2 118)) H → va_S (cA 119 E) s.heap H locs → W p l e R s m args below meth c H locs (cells + 0) (slots + 0) Q (F0 m (pc + 3) ls (.int r :: rest))) : W p l e R s m args below meth c H locs cells slots Q (F0 m pc ls st0) := by
  have hU := bw_U (kd := kO) hE hK hC hP hS
  refine va_calli (ma_V S L hM hR ?_ (fun U h1 h2 => ⟨(hU U h1 h2).1, (hU U h1 h2).2.1, wO_c (hU U h1 h2).2.2⟩) (wO_c hP) hn hsz hcat hcs hdg hst) hS (fun _ _ h => cA_c h) (fun _ h => cA_c h) (fun r u t H1 locs1 ht _ hp hB _ hk1 hS1 => kk r u H1 locs1 hp ?_ hS1)
  · rw [hy]
    exact rc_w hK (wO_c hP) 0 (by decide) (cK_lo (by decide)) (C := "ColorScheme") rfl
  · rw [ht] at hB
    exact wO_of hE hP hB hk1
/-- the component's method called by a helper, where it throws, and the handler that takes it -/
theorem ho_catch {cl : String} {tb : List ExceptionTableEntry} (S : CF p m c cc nL s args own) (hE : Ev 119 E) (hK : Vk E s) (hC : Stc E s s.heap) (hP : Wp 119 E kO x s.heap) (L : LkV own idx y b maxL ret n) (hy : y.cls = "ColorScheme") (hM : Mx l y b maxL ret E (.ref (eP E 0) :: av) x cl) (hR : 41 ≤ R.frames ∧ 8 + (maxL + 11) + 2000 ≤ R.locals) (hn : av.length = n) (hsz : ls.size = nL) (hcat : (rest.map fun v => v.category).sum ≤ 8) (hcs : 0 + 1 ≤ R.cells ∧ 0 + 6 ≤ R.slots) (hdg : decode cc pc = .ok (.invokevirtual idx, 3)) (hst : st0 = av.reverse ++ .ref (eP E 0) :: rest)
    (htab : c.exceptionTable.toList = tb) (pre : List ExceptionTableEntry) (xe : ExceptionTableEntry) (suf : List ExceptionTableEntry) (hsp : tb = pre ++ xe :: suf) (hpre : ∀ z ∈ pre, z.catchType ≠ 0 ∧ ∃ nm : String, Cond.classLink own z.catchType nm ∈ lwg ∧ (cl, nm) ∈ xnL) (hcov : covers xe pc = true) (h0 : xe.catchType ≠ 0) (hcl : cl ∈ xcL) (hlink : Cond.classLink own xe.catchType cl ∈ lwg)
    (kk : ∀ (q : Nat) (H : Heap) (locs : List Loc), Wp 119 E kO x H → va_S (cA 119 E) s.heap H locs → W p l e R s m args below meth c H locs 1 6 Q (F0 m xe.handlerPc ls [.ref q])) : W p l e R s m args below meth c s.heap [] 0 0 Q (F0 m pc ls st0) := by
  obtain ⟨f, L1, hf, hM⟩ := hM
  have hS : va_S (cA 119 E) s.heap s.heap [] := va_S.rf
  have hU := bw_U (kd := kO) hE hK hC hP hS
  have hW := hC.1.2.2
  obtain ⟨l1, l2, l3, l4, l5, l6⟩ := L
  obtain ⟨hx, hb, hml, hown, hts⟩ := S
  have hr := vx_runV (e := e) (below := below) (meth := meth) (locs := []) (cells := 0) (slots := 0) (H := s.heap) (g := F0 m pc ls st0) (rest := rest) ⟨hx, hb, hml, hown, hts⟩ hM ⟨callB_of n hts (gi_z l1) rfl rfl rfl (hts _ l5) (hts _ l2) l6 ⟨by show f + 1 ≤ _; omega, by show _ + L1 ≤ _; omega⟩, hts _ l3, hts _ l4⟩ ⟨bl_w, by rw [hy]; exact rc_w hK (wO_c hP) 0 (by decide) (cK_lo (by decide)) (C := "ColorScheme") rfl, fun U h1 h2 => ⟨rfl, (hU U h1 h2).1, (hU U h1 h2).2.1, wO_c (hU U h1 h2).2.2⟩⟩ rfl hn hsz hst (lv_room hcat) hdg hcs
  intro T hT X
  rcases hr T hT X with ⟨v, st₀, t, T', L, h9, X', hL, e1, e2, hq, st⟩ | ⟨q, st₀, t, T', L, E1, ce, h9, X', hL, e1, e2, ⟨rfl, z1, z2⟩, hce, hcv, hcc, st⟩
  · exact hq.elim
  · have hkp : ∀ q : Nat, q < s.heap.size → T'.heap[q]? = s.heap[q]? := fun q9 h => by rw [e1, ← h9]; exact z2 q9 (by rw [h9]; exact h)
    have hk : vx_W p l e R s m args below meth c T'.heap ([] ++ L) (0 + 1) (0 + 6) Q (F0 m pc ls rest) q :=
      vx_catch hown pre xe suf (htab.trans hsp) (fun z hz => by
        obtain ⟨g1, nm, g2, g3⟩ := hpre z hz
        exact Or.inr ⟨g1, nm, hts _ g2, hW.2.2.2 _ g3⟩) hcov h0 (hts _ hlink) (va_Nw.use rfl (hW.1 _ hcl)) (by rw [e1]; exact hce) hcv hcc
        (kk q T'.heap ([] ++ L) (wO_k hP hkp) ⟨by rw [e1]; rw [h9] at z1; exact z1, fun q9 h _ => hkp q9 h, fun z hz => (hL z hz).elim⟩)
    obtain ⟨t2, a1, b1⟩ := hk T' rfl X'
    exact ⟨t2, st.trans a1, b1⟩
theorem re_wo (hx : p.tables.exec = Jvm.exec) (hb : c.code = cc) (hr : meth.sig.returnType = some .int) (hlocks : meth.locks = false) {v : Int32} (hP : Wp N E kd x H) (hS : va_S (cA N E) s.heap H locs) (h : post v x) (h1 : cells ≤ mc) (h2 : slots ≤ ms) (hdg : decode cc pc = .ok (.ireturn, 1)) : W p l e R s m args below meth c H locs cells slots (MQ below (qWi N E kd post) args s mc ms (cA N E)) (F0 m pc ls [.int v]) :=
  W.widen h1 h2 (W.iret hx hb hr (fun t ht _ => ⟨⟨v, x, rfl, h, (show Wp N E kd x t.heap by rw [ht]; exact hP)⟩, hS.F ht⟩) hS.2.2 hdg hlocks)
def LkH (own : String) (idx : Nat) (y : MethodName) (b : ByteArray) (maxL : Nat) (hh : List (Nat × Nat × Nat × Nat)) (n : Nat) : Prop := Cond.codeWith y b maxL (some .int) hh ∈ lwg ∧ Cond.methodLink own idx y ∈ lwg ∧ Cond.static y ∈ lwg ∧ Cond.initialized y.cls ∈ lwg ∧ (y.cls ≠ "java/lang/invoke/MethodHandle" ∧ y.cls ≠ "java/lang/invoke/VarHandle" ∧ (parseMethodDescriptor y.desc).map (fun d => d.parameters.length) = some n)
/-- a helper called by the law -/
theorem mh_S {hh : List (Nat × Nat × Nat × Nat)} (S : CF p m c cc nL s args own) (L : LkH own idx y b maxL hh n) (hM : Mh l y b maxL hh E av x post) (hR : 43 ≤ R.frames ∧ 8 + (maxL + 11) + 2100 ≤ R.locals) (hU : ∀ U : State, U.heap = H → s.WarmedH U.vm → Bw 119 E kO x U) (hn : av.length = n) (hsz : ls.size = nL) (hcat : (rest.map fun v => v.category).sum ≤ 8) (hcs : cells + 1 ≤ R.cells ∧ slots + 6 ≤ R.slots) (hdg : decode cc pc = .ok (.invokestatic idx, 3)) (hst : st0 = av.reverse ++ rest) :
    va_Run p l e R s m args below meth c H locs cells slots 1 6 (F0 m pc ls st0) rest (qWi 119 E kO post av.toArray) (cA 119 E) := by
  obtain ⟨l1, l2, l3, l4, l5⟩ := L
  obtain ⟨hx, hb, hml, hown, hts⟩ := S
  have hG : GoodIn lwg (Cond.codeWith y b maxL (some .int) hh :: lwg) := by
    intro w hw
    have hm : w ∈ lwg := by
      rcases List.mem_cons.mp hw with h1 | h1
      · rw [h1]; exact l1
      · exact h1
    exact ⟨hm, good_of_word (lwg_good hm)⟩
  refine vx_runSW ⟨hx, hb, hml, hown, hts⟩ hM ⟨⟨rfl, rfl, hR.1, hR.2, pay_in hts hG, List.mem_cons_self⟩, hts _ l1, hts _ l4, ⟨l5.1, l5.2.1⟩, fun sig h => ?_, hts _ l2, hts _ l3⟩ ⟨bl_w, fun U h1 h2 => ⟨rfl, hU U h1 h2⟩⟩ rfl hn hsz hst (lv_room hcat) hdg hcs
  have h2 := l5.2.2
  rw [h] at h2
  exact (Option.some.inj h2).symm
end HR
