def qSv : Array Value → State → Outcome → State → Prop := fun _ st o t => o = .returned none ∧ t.heap = st.heap
def qNo : Array Value → State → Outcome → State → Prop := fun _ _ _ _ => False
/-- what a throw leaves: the class; everything old as it was -/
def xC (E0 : String) : String → State → State → Prop := fun E st t => E = E0 ∧ st.heap.size ≤ t.heap.size ∧ ∀ q : Nat, q < st.heap.size → t.heap[q]? = st.heap[q]?
def xnm : List String := ["java/lang/RuntimeException", "java/lang/Exception"]
def xbl (cls : String) : List Cond := [.castable cls cls, .declares ⟨"java/lang/RuntimeException", "<init>", "(Ljava/lang/String;)V"⟩, .declares ⟨"java/lang/Exception", "<init>", "(Ljava/lang/String;)V"⟩, .declares ⟨"java/lang/Throwable", "<init>", "(Ljava/lang/String;)V"⟩]
def Xk (own : String) (ik ic : Nat) (cls : String) : Prop := Bundle.fit cls = true ∧ Cond.classLink own ik cls ∈ lwg ∧ Cond.initialized cls ∈ lwg ∧ (∀ w ∈ (vx_atS own ic cls xnm).filter goodWord, w ∈ lwg) ∧ (∀ w ∈ (vx_atS own ic cls xnm).filter (fun w => !goodWord w), w ∈ xbl cls) ∧ (∀ w ∈ Cond.classLink own ik cls :: Cond.initialized cls :: vx_atS own ic cls xnm, vx_ot w = true)
section XR
variable {p : Program} {l : Launch} {e : Env} {R : Room} {s : State} {m : MethodId} {args : Array Value} {below : List Frame} {meth : Method} {c : Code} {H H0 : Heap} {locs : List Loc} {cells slots : Nat} {Q : State → Prop}
variable {cc b : ByteArray} {nL pc idx maxL n mc ms : Nat} {ls : Array Slot} {rest av st0 : List Value} {a : Array Value} {own : String} {E : En} {y : MethodName} {ret : Option FieldType} {rm : Room} {Bp : State → Prop} {Qc : Array Value → State → Outcome → State → Prop}
theorem cn_sv (hr : va_Run p l e R s m args below meth c H locs cells slots 0 0 (F0 m pc ls st0) rest (qSv a) fr0)
    (kk : W p l e R s m args below meth c H locs cells slots Q (F0 m (pc + 3) ls rest)) : W p l e R s m args below meth c H locs cells slots Q (F0 m pc ls st0) := by
  intro T hT X
  obtain ⟨v, st₀, t, T', L, h0, X', hL, e1, e2, ⟨hv, hh⟩, st⟩ := hr T hT X
  cases hv
  obtain ⟨t2, a1, b1⟩ := kk T' (by rw [e1, hh, h0]) (Stand.forget X' (fun q h => (hL q h).elim))
  exact ⟨t2, st t2 a1, b1⟩
theorem re_sv (hx : p.tables.exec = Jvm.exec) (hb : c.code = cc) (hr : meth.sig.returnType = none) (hlocks : meth.locks = false) (hdg : decode cc pc = .ok (.return_, 1)) : W p l e R s m args below meth c s.heap [] 0 0 (MQ below qSv args s 0 0 fr0) (F0 m pc ls []) :=
  W.vret hx hb hr (fun t ht _ => ⟨rfl, ht⟩) (fun q h => by cases h) hdg hlocks
theorem rx_throw {ik is ic : Nat} {cls text : String} (S : CF p m c cc nL s args RX6) (hfl : l.stackTraces = false) (hC : Stc E s s.heap) (X : Xk RX6 ik ic cls) (hcls : cls ∈ xcL) (htx : (is, text) ∈ xtL) (hsz : ls.size = nL)
    (d0 : decode cc pc = .ok (.new ik, 3)) (d3 : decode cc (pc + 3) = .ok (.dup, 1)) (d4 : decode cc (pc + 4) = .ok (.ldc is, 2)) (d6 : decode cc (pc + 6) = .ok (.invokespecial ic, 3)) (d9 : decode cc (pc + 9) = .ok (.athrow, 1))
    (hout : ∀ x ∈ c.exceptionTable.toList, False) (hlk : meth.locks = false) (h1 : 5 < R.frames) (h2 : (rest.map fun v => v.category).sum + 82 ≤ R.locals) (h3 : 1 ≤ R.cells) (h4 : 6 ≤ R.slots) :
    W p l e R s m args below meth c s.heap [] 0 0 (vx_MQ below qNo (xC cls) args s 1 6 fr0) (F0 m pc ls rest) := by
  obtain ⟨hx, hb, hml, hown, hts⟩ := S
  obtain ⟨x1, x2, x3, x4, x5, x6⟩ := X
  obtain ⟨⟨-, -, hX, hY, hV, -⟩, -, -, -, hU, hN⟩ := hC
  obtain ⟨sa, hsa⟩ := hY _ htx
  have hS : va_S (eA E) s.heap s.heap [] := va_S.rf
  have hat : ∀ w ∈ vx_atS RX6 ic cls xnm, w.before args s = true := vx_hat (fun w h => hts w (x4 w h)) x5 (vx_c (va_Nw.use rfl (hX _ hcls)) (vx_c (va_Nw.use rfl (hV "java/lang/RuntimeException" (by decide))) (vx_c (va_Nw.use rfl (hV "java/lang/Exception" (by decide))) (vx_c (va_Nw.use rfl (hV "java/lang/Throwable" (by decide))) vx_n))))
  exact vx_throwS (names := xnm) (A := eA E) hx hb hfl hown x1 (by decide +kernel) (hts _ x2) (hts _ x3) hsa hat x6 hU hN hS (hsz.trans hml.symm) d0 d3 d4 d6 d9 (fun x h => (hout x h).elim) h1 h2 h3 h4 hlk (fun t _ a b => ⟨rfl, a, b⟩) (fun z h => by cases h) (Nat.le_refl _) (Nat.le_refl _)
/-- a call of a method that throws, out of this one -/
theorem xk_V {E0 : String} (S : CF p m c cc nL s args own) (L : LkV own idx y b maxL ret n) {a : Nat} {n9 l9 : Nat} (hM : vx_Met l y (wz y b maxL ret) (rmk n9 1 6 l9) (va_Pc (.ref a :: av) Bp) qNo (xC E0) 1 6 fr0) (hR : n9 + 1 ≤ R.frames ∧ 8 + (maxL + 11) + l9 ≤ R.locals) (hrc : ∃ cellB : Cell, s.heap[a]? = some cellB ∧ cellB.vm.isStatics = false ∧ s.vm.findClass y.cls = some cellB.cls) (hU : ∀ U : State, U.heap = s.heap → s.WarmedH U.vm → Bp U) (hn : av.length = n) (hsz : ls.size = nL) (hcat : (rest.map fun v => v.category).sum ≤ 8) (hdg : decode cc pc = .ok (.invokevirtual idx, 3)) {st0 : List Value} (hst : st0 = av.reverse ++ .ref a :: rest)
    (hout : ∀ x ∈ c.exceptionTable.toList, False) (hlk : meth.locks = false) (hcs : 0 + 1 ≤ R.cells ∧ 0 + 6 ≤ R.slots) (hB : FrameBlind (va_Pc (.ref a :: av) Bp)) :
    W p l e R s m args below meth c s.heap [] 0 0 (vx_MQ below Qc (xC E0) args s 1 6 fr0) (F0 m pc ls st0) := by
  obtain ⟨l1, l2, l3, l4, l5, l6⟩ := L
  obtain ⟨hx, hb, hml, hown, hts⟩ := S
  have hr := vx_runV (e := e) (below := below) (meth := meth) (locs := []) (cells := 0) (slots := 0) (H := s.heap) (g := F0 m pc ls st0) (rest := rest) ⟨hx, hb, hml, hown, hts⟩ hM ⟨callB_of n hts (gi_z l1) rfl rfl rfl (hts _ l5) (hts _ l2) l6 hR, hts _ l3, hts _ l4⟩ ⟨hB, hrc, fun U h1 h2 => ⟨rfl, hU U h1 h2⟩⟩ rfl hn hsz hst (lv_room hcat) hdg hcs
  intro T hT X
  rcases hr T hT X with ⟨v, st₀, t, T', L, h0, X', hL, e1, e2, hq, st⟩ | ⟨q, st₀, t, T', L, E1, ce, h0, X', hL, e1, e2, ⟨rfl, z1, z2⟩, hce, hcv, hcl, st⟩
  · exact hq.elim
  · have hk : vx_W p l e R s m args below meth c T'.heap ([] ++ L) (0 + 1) (0 + 6) (vx_MQ below Qc (xC E1) args s 1 6 fr0) (F0 m pc ls rest) q :=
      vx_out (fun x h => (hout x h).elim) hlk (by rw [e1]; exact hce) hcv hcl (fun t2 ht2 _ => ⟨rfl, by rw [ht2, e1, ← h0]; exact z1, fun q9 h9 => by rw [ht2, e1, ← h0]; exact z2 q9 (by rw [h0]; exact h9)⟩) (fun z hz => (hL z hz)) (Nat.le_refl _) (Nat.le_refl _)
    obtain ⟨t2, a1, b1⟩ := hk T' rfl X'
    exact ⟨t2, st.trans a1, b1⟩
end XR
theorem en_ofX {l : Launch} {y : MethodName} {rm : Room} {av : List Value} {Bp : State → Prop} {Qc : Array Value → State → Outcome → State → Prop} {XC : String → State → State → Prop} {mc ms : Nat} {free : Addr → Prop} {cc : ByteArray} {maxL : Nat} {ret : Option FieldType} (own : String) (hc : y.cls = own) (hy : plainName y.cls = true) (hlen : (lg_sl av).length ≤ maxL)
    (body : ∀ (p : Program) (e : Env) (s : State) (m : MethodId) (below : List Frame) (meth : Method) (c : Code) (ls : Array Slot), CF p m c cc maxL s av.toArray own → meth.sig.returnType = ret → meth.locks = false → meth.name = y.name → (∀ x ∈ c.exceptionTable.toList, False) → lv_has ls maxL (lv_args 0 av) → Bp s →
      W p l e rm s m av.toArray below meth c s.heap [] 0 0 (vx_MQ below Qc XC av.toArray s mc ms free) (F0 m 0 ls [])) : vx_Met l y (wz y cc maxL ret) rm (va_Pc av Bp) Qc XC mc ms free := by
  refine vx_ofW (cc := cc) (maxL := maxL) (ret := ret) hy rfl ?_
  intro p e s m args below meth c s₁ B hml hout hv
  obtain ⟨rfl, hv⟩ := hv
  have hts := atoms_spec (ws := wz y cc maxL ret) B.pre
  have hown : s.vm.findClass y.cls = some m.cls := findClass_of_methodNamed B.named
  rw [hc] at hown
  have hl := lv_entry av (n := maxL) hlen
  rw [lg_entry_eq]
  exact body p e s m below meth c _ ⟨B.exec, B.bytes, hml, hown, fun w hw => hts w (List.mem_cons_of_mem _ hw)⟩ B.returns B.notSynchronized (name_of_methodNamed B.named B.method).1 hout hl hv
theorem xk_in {own cls : String} {ic : Nat} (h : ((vx_atS own ic cls xnm).filter goodWord).all (fun w => lw_tbl.contains w) = true) : ∀ w ∈ (vx_atS own ic cls xnm).filter goodWord, w ∈ lwg := fun w hw => lwg_in (by simpa using List.all_eq_true.mp h w hw) (List.mem_filter.mp hw).2
theorem xk_185_189 : Xk RX6 185 189 "java/lang/IndexOutOfBoundsException" := ⟨by decide +kernel, lwg_at 659 (by decide +kernel), lwg_at 68 (by decide +kernel), xk_in (by decide +kernel), by decide +kernel, by decide +kernel⟩
theorem xk_50_54 : Xk RX6 50 54 "java/lang/IllegalArgumentException" := ⟨by decide +kernel, lwg_at 343 (by decide +kernel), lwg_at 60 (by decide +kernel), xk_in (by decide +kernel), by decide +kernel, by decide +kernel⟩
theorem xk_157_161 : Xk RX6 157 161 "java/lang/IllegalStateException" := ⟨by decide +kernel, lwg_at 862 (by decide +kernel), lwg_at 70 (by decide +kernel), xk_in (by decide +kernel), by decide +kernel, by decide +kernel⟩
