/-! constructors: a world is the new object at its head and what it made behind it -/
theorem xo_moved {ty : FieldType} {u U : State} (hvm : u.vm.Alike U.vm) (h : va_AOA ty u) : va_AOA ty U := by
  unfold va_AOA Cond.before Cond.holds at *
  simp only [Cond.value, beq_iff_eq, Option.bind_eq_some_iff, Option.map_eq_some_iff] at *
  obtain ⟨comp, hc, q, hi, k, hk, hb⟩ := h
  obtain ⟨k', hk', he⟩ := hvm.2.2 _ _ hk
  have e1 := va_idx_bare U.vm comp
  have e2 := va_idx_bare u.vm comp
  have e3 : U.vm.bare = u.vm.bare := by first | exact hvm.bare_eq | exact hvm.bare_eq.symm
  rw [e3] at e1
  have e4 := e1.symm.trans e2
  have hkind : k'.kind = k.kind := by rw [he]
  refine ⟨comp, by rw [hvm.findClass]; exact hc, q, e4.trans hi, k', hk', ?_⟩
  rw [hkind, hvm.findClass]
  exact hb
/-- arrays of arrays can be made -/
def Ar (U : State) : Prop := va_AO "ColorScheme$Design" U ∧ va_AOA .int U
theorem Ar.moved {u U : State} (hvm : u.vm.Alike U.vm) (h : Ar u) : Ar U := ⟨va_AO.moved hvm h.1, xo_moved hvm h.2⟩
/-- the start of a constructor -/
def Bn (E : En) (w0 : va_W) (sz : Nat) (U : State) : Prop := U.heap.size = sz ∧ (Vk E U ∧ Stc E U U.heap) ∧ Ar U ∧ va_P (eD E) vwCl w0 U.heap ∧ va_D (fun q => eL E ≤ q) w0 ∧ eL E ≤ sz
theorem bl_n {av : List Value} {E : En} {w0 : va_W} {sz : Nat} : FrameBlind (va_Pc av (Bn E w0 sz)) := fun a U g mk h => ⟨h.1, h.2.1, ⟨va_K.moved (u := U) (U := U.calling g mk a) (Vm.Alike.refl U.vm) h.2.2.1.1, h.2.2.1.2.warm (U := U.calling g mk a) (State.WarmedH.refl U)⟩, Ar.moved (u := U) (U := U.calling g mk a) (Vm.Alike.refl U.vm) h.2.2.2.1, h.2.2.2.2⟩
/-- its end: what it has made -/
def qIn (E : En) (w0 : va_W) (sz : Nat) (Bp : va_W → Prop) : Array Value → State → Outcome → State → Prop := va_Qv (S := va_W) Bp (fun u t => va_P (eD E) vwCl u t.heap ∧ va_D (va_A w0 sz) u) (va_A w0 sz)
theorem ra_u {U : State} {c1 c2 : ClassId} {ty : FieldType} (h1 : va_RA U c1 ty) (h2 : va_RA U c2 ty) : c1 = c2 := by
  cases ty with
  | object C =>
    obtain ⟨_, _, _, _, _, h⟩ := h1
    obtain ⟨_, _, _, _, _, g⟩ := h2
    exact Option.some.inj (h.symm.trans g)
  | _ => exact Option.some.inj ((show U.vm.findClass _ = some c1 from h1).symm.trans h2)
def LkI (own : String) (idx : Nat) (y : MethodName) (b : ByteArray) (maxL n : Nat) : Prop := Cond.code y b maxL none ∈ lwg ∧ Cond.methodLink own idx y ∈ lwg ∧ Cond.instanceMethod y ∈ lwg ∧ Cond.initialized y.cls ∈ lwg ∧ (y.cls ≠ "java/lang/invoke/MethodHandle" ∧ y.cls ≠ "java/lang/invoke/VarHandle" ∧ (parseMethodDescriptor y.desc).map (fun d => d.parameters.length) = some n) ∧ y.name = "<init>"
def LkIN (y : MethodName) (b : ByteArray) (maxL n : Nat) : Prop := Cond.code y b maxL none ∈ lwg ∧ Cond.instanceMethod y ∈ lwg ∧ Cond.initialized y.cls ∈ lwg ∧ (y.cls ≠ "java/lang/invoke/MethodHandle" ∧ y.cls ≠ "java/lang/invoke/VarHandle" ∧ (parseMethodDescriptor y.desc).map (fun d => d.parameters.length) = some n) ∧ y.name = "<init>"
theorem vn_jn {A0 : Nat → Prop} {D : va_G} {cl : List vw_C} {wr w1 : va_W} {x : Nat × va_E} {H H1 : Heap} (hP : va_P D cl (wr ++ [x]) H) (hD : va_D A0 (wr ++ [x])) (hk : ∀ q : Nat, q < H.size → ¬ va_A [x] H.size q → H1[q]? = H[q]?) (hF : ∀ q, va_A [x] H.size q → A0 q) (hP1 : va_P D cl w1 H1) (hD1 : va_D (va_A [x] H.size) w1) : va_P D cl (wr ++ w1) H1 ∧ va_D A0 (wr ++ w1) := by
  have hr : ∀ (k : Nat) (q : Nat × va_E), wr[k]? = some q → q.1 < H.size ∧ ¬ va_A [x] H.size q.1 := by
    intro k q hq
    have hl := (List.getElem?_eq_some_iff.mp hq).1
    have hq2 : (wr ++ [x])[k]? = some q := by rw [List.getElem?_append_left hl]; exact hq
    have hlt := (hP k q hq2).lt
    refine ⟨hlt, fun h => ?_⟩
    rcases h with ⟨j, e, hj⟩ | h
    · have hj0 : j = 0 := by
        have := (List.getElem?_eq_some_iff.mp hj).1
        simp only [List.length_singleton] at this
        omega
      subst hj0
      have hx : x = (q.1, e) := by
        have : ([x] : va_W)[0]? = some x := rfl
        exact Option.some.inj (this.symm.trans hj)
      have hx2 : (wr ++ [x])[wr.length]? = some x := by
        rw [List.getElem?_append_right (Nat.le_refl _), Nat.sub_self]
        rfl
      have := hD.1 k wr.length q x hq2 hx2 (by rw [hx])
      omega
    · omega
  refine ⟨va_P.app (fun k q hq => ?_) hP1, va_D.app ⟨fun i j p q hi hj e => ?_, fun k q hq => ?_⟩ (hD1.weaken (fun k q _ h => hF q.1 h)) (fun i j p q hi hj e => ?_)⟩
  · have hl := (List.getElem?_eq_some_iff.mp hq).1
    have hq2 : (wr ++ [x])[k]? = some q := by rw [List.getElem?_append_left hl]; exact hq
    exact (hP k q hq2).kept (hk q.1 (hr k q hq).1 (hr k q hq).2)
  · have hl := (List.getElem?_eq_some_iff.mp hi).1
    have hl2 := (List.getElem?_eq_some_iff.mp hj).1
    exact hD.1 i j p q (by rw [List.getElem?_append_left hl]; exact hi) (by rw [List.getElem?_append_left hl2]; exact hj) e
  · have hl := (List.getElem?_eq_some_iff.mp hq).1
    exact hD.2 k q (by rw [List.getElem?_append_left hl]; exact hq)
  · exact (hr i p hi).2 (by rw [e]; exact hD1.2 j q hj)
section RN
variable {p : Program} {l : Launch} {e : Env} {R : Room} {s : State} {m : MethodId} {args : Array Value} {below : List Frame} {meth : Method} {c : Code} {H : Heap} {locs : List Loc} {cells slots : Nat} {Q : State → Prop}
variable {cc b : ByteArray} {nL pc idx maxL n mc ms : Nat} {ls : Array Slot} {rest av : List Value} {own host : String} {E : En} {y : MethodName} {rm : Room} {A : Nat → Prop} {rs : va_W} {a ci j : Nat} {fs : List Value} {C : String} {T : u_T} {N : Nat}
theorem rn_obj (S : CF p m c cc nL s args own) (h1 : Cond.methodLink own idx Lib.objectInit ∈ lwg) (h2 : Cond.instanceMethod Lib.objectInit ∈ lwg) (h3 : Cond.code Lib.objectInit ⟨#[0xb1]⟩ 1 none ∈ lwg) (hsz : ls.size = nL) (hcat : (rest.map fun v => v.category).sum ≤ 8) (hframes : 1 ≤ R.frames) (hlocals : 20 ≤ R.locals) (hdg : decode cc pc = .ok (.invokespecial idx, 3))
    (kk : W p l e R s m args below meth c H locs cells slots Q (F0 m (pc + 3) ls rest)) : W p l e R s m args below meth c H locs cells slots Q (F0 m pc ls (.ref a :: rest)) := by
  obtain ⟨hx, hb, hml, hown, hts⟩ := S
  refine W.objInit hx hb hown (hts _ h1) (hts _ h2) (hts _ h3) rfl (by rw [hml]; exact hsz) rfl hdg hframes ?_ (W.eq (g2 := F0 m (pc + 3) ls rest) rfl kk)
  have hm : 2 * (F0 m pc ls (.ref a :: rest)).monitorRoom = 0 := rfl
  omega
theorem rn_put (S : CF p m c cc nL s args own) (hK : Vk E s) (hP : va_P (eD E) vwCl ((a, .inr (ci, fs)) :: rs) H) (hD : va_D A ((a, .inr (ci, fs)) :: rs)) (hS : va_S A s.heap H locs) (hF : Fk own idx C T n ci j) {ty0 : Nat → FieldType} (hty : ∀ k, k < n → parseFieldDescriptor (T k).2.2.1 = some (ty0 k)) (hnm : ∀ a, a < n → ∀ b, b < n → a ≠ b → (T a).2.1 ≠ (T b).2.1) {ty : FieldType} {v : Value} (hd : parseFieldDescriptor (T j).2.2.1 = some ty) (hn : narrow ty v = v) (hfit : fits ty v = true) (hl : j < fs.length) (hf : (T j).2.2.2 = false ∨ ((T j).2.2.2 = true ∧ meth.name = "<init>" ∧ (T j).1 = own)) (hdg : decode cc pc = .ok (.putfield idx, 3))
    (kk : ∀ (H : Heap) (locs : List Loc), va_P (eD E) vwCl ((a, .inr (ci, fs.set j v)) :: rs) H → va_D A ((a, .inr (ci, fs.set j v)) :: rs) → va_S A s.heap H locs → W p l e R s m args below meth c H locs cells slots Q (F0 m (pc + 3) ls rest)) : W p l e R s m args below meth c H locs cells slots Q (F0 m pc ls (v :: .ref a :: rest)) := by
  obtain ⟨hx, hb, -, hown, hts⟩ := S
  obtain ⟨hc, hin, hj, hlk⟩ := hF
  rcases hf with hf | ⟨hf, hi, ho⟩
  · exact va_put (ci := ci) (fs := fs) (C := C) (T := T) (N := n) hx hb hts hin ty0 hty hnm hown hK hP hD hS 0 rfl hc j hj (hts _ hlk) (fun _ h => h) hf hd hn hfit hl hdg (fun H1 locs1 hP1 hD1 hS1 => kk H1 locs1 hP1 hD1 hS1)
  · exact va_putF (ci := ci) (fs := fs) (C := C) (T := T) (N := n) hx hb hts hin ty0 hty hnm hown hK hP hD hS 0 rfl hc j hj (hts _ hlk) (fun _ h => h) hf hi ho hd hn hfit hl hdg (fun H1 locs1 hP1 hD1 hS1 => kk H1 locs1 hP1 hD1 hS1)
theorem rn_get (S : CF p m c cc nL s args own) (hK : Vk E s) (hP : va_P (eD E) vwCl ((a, .inr (ci, fs)) :: rs) H) (hF : Fk own idx C T n ci j) {v : Value} (hv : fs[j]? = some v) (hdg : decode cc pc = .ok (.getfield idx, 3))
    (kk : W p l e R s m args below meth c H locs cells slots Q (F0 m (pc + 3) ls (v :: rest))) : W p l e R s m args below meth c H locs cells slots Q (F0 m pc ls (.ref a :: rest)) := by
  obtain ⟨hx, hb, -, hown, hts⟩ := S
  obtain ⟨hc, hin, hj, hlk⟩ := hF
  exact va_get (ci := ci) (fs := fs) (C := C) (T := T) (N := n) hx hb hts hin hown hK hP 0 rfl hc j hj (hts _ hlk) (fun _ h => h) hv hdg kk
theorem rn_new (S : CF p m c cc nL s args own) (hK : Vk E s) {ws : va_W} (hP : va_P (eD E) vwCl ws H) (hD : va_D A ws) (hS : va_S A s.heap H locs) (hA : ∀ q, s.heap.size ≤ q → A q) (hc : vwCl[ci]? = some (C, T, n)) (hin : ∀ w ∈ u_ws C T n, w ∈ lwg) {ty0 : Nat → FieldType} (hty : ∀ k, k < n → parseFieldDescriptor (T k).2.2.1 = some (ty0 k)) (h1 : Cond.classLink own idx C ∈ lwg) (h2 : Cond.instantiable C n ∈ lwg) (h3 : Cond.initialized C ∈ lwg) (hfs : ∀ j, j < n → defaultValue (ty0 j) = vp_V fs j) (hcells : cells + 1 ≤ R.cells) (hslots : slots + n ≤ R.slots) (hdg : decode cc pc = .ok (.new idx, 3))
    (kk : ∀ (q : Nat) (H : Heap), va_P (eD E) vwCl (ws ++ [(q, .inr (ci, fs))]) H → va_D A (ws ++ [(q, .inr (ci, fs))]) → va_S A s.heap H locs → W p l e R s m args below meth c H locs (cells + 1) (slots + n) Q (F0 m (pc + 3) ls (.ref q :: rest))) : W p l e R s m args below meth c H locs cells slots Q (F0 m pc ls rest) := by
  obtain ⟨hx, hb, -, hown, hts⟩ := S
  exact va_new (ci := ci) (fs := fs) (C := C) (T := T) (N := n) hx hb hts hin ty0 hty hown (hts _ h1) (hts _ h2) (hts _ h3) hK hP hD hS hA hc hfs hcells hslots hdg kk
theorem rn_newa (S : CF p m c cc nL s args own) (hK : Vk E s) {ws : va_W} (hP : va_P (eD E) vwCl ws H) (hD : va_D A ws) (hS : va_S A s.heap H locs) (hA : ∀ q, s.heap.size ≤ q → A q) {atype : ArrayType} {ty : FieldType} (t0 : Nat) (ht : (tys E)[t0]? = some (eT E t0, ty)) (h1 : Cond.arrayClass (newarray.typeOf atype) ∈ lwg) (hty : newarray.typeOf atype = ty) {a0 : vp_A} (k : Nat) {i : Int32} (hi : i = nI k) (hkb : k < 2 ^ 31) (ha : ∀ cA : ClassId, vp_cell cA a0 = arrV cA k (fun _ => defaultValue ty)) (hbytes : k * componentBytes ty ≤ 536870912) (hcells : cells + 1 ≤ R.cells) (hslots : slots + k ≤ R.slots) (hdg : decode cc pc = .ok (.newarray atype, 2))
    (kk : ∀ (q : Nat) (H : Heap), va_P (eD E) vwCl (ws ++ [(q, .inl (eT E t0, a0))]) H → va_D A (ws ++ [(q, .inl (eT E t0, a0))]) → va_S A s.heap H locs → W p l e R s m args below meth c H locs (cells + 1) (slots + k) Q (F0 m (pc + 2) ls (.ref q :: rest))) : W p l e R s m args below meth c H locs cells slots Q (F0 m pc ls (.int i :: rest)) := by
  obtain ⟨hx, hb, -, hown, hts⟩ := S
  subst hi
  refine va_newa hx hb (hts _ h1) hty hK hP hD hS hA ha (nI_pos hkb) (nI_clamp hkb) hbytes hcells hslots hdg (fun q cA H1 hK1 hP1 hD1 hS1 => ?_)
  have e : cA = eT E t0 := ra_u (hK1.2 6 (cA, ty) rfl).2 (hK.2 t0 _ ht).2
  subst e
  exact kk q H1 hP1 hD1 hS1
theorem rn_newq (S : CF p m c cc nL s args own) (hK : Vk E s) (hR : Ar s) {ws : va_W} (hP : va_P (eD E) vwCl ws H) (hD : va_D A ws) (hS : va_S A s.heap H locs) (hA : ∀ q, s.heap.size ≤ q → A q) (h1 : Cond.classLink own idx "ColorScheme$Design" ∈ lwg) (k : Nat) {i : Int32} (hi : i = nI k) (hkb : k < 2 ^ 20) (hcells : cells + 1 ≤ R.cells) (hslots : slots + k ≤ R.slots) (hdg : decode cc pc = .ok (.anewarray idx, 3))
    (kk : ∀ (q : Nat) (H : Heap), va_P (eD E) vwCl (ws ++ [(q, .inl (eT E 4, k, .inr (.inr (.inr (.inr (fun _ => none))))))]) H → va_D A (ws ++ [(q, .inl (eT E 4, k, .inr (.inr (.inr (.inr (fun _ => none))))))]) → va_S A s.heap H locs → W p l e R s m args below meth c H locs (cells + 1) (slots + k) Q (F0 m (pc + 3) ls (.ref q :: rest))) : W p l e R s m args below meth c H locs cells slots Q (F0 m pc ls (.int i :: rest)) := by
  obtain ⟨hx, hb, -, hown, hts⟩ := S
  subst hi
  refine va_newq hx hb hown (hts _ h1) hR.1 hK hP hD hS hA (nI_pos (by omega)) (nI_clamp (by omega)) (by omega) hcells hslots hdg (fun q cA H1 hK1 hP1 hD1 hS1 => ?_)
  have e : cA = eT E 4 := ra_u (hK1.2 6 (cA, .object "ColorScheme$Design") rfl).2 (hK.2 4 (eT E 4, .object "ColorScheme$Design") rfl).2
  subst e
  exact kk q H1 hP1 hD1 hS1
/-- n rows of k ints each, under an array of them -/
theorem rn_mna (S : CF p m c cc nL s args own) (hK : Vk E s) (hR : Ar s) {ws : va_W} (hP : va_P (eD E) vwCl ws H) (hD : va_D A ws) (hS : va_S A s.heap H locs) (hA : ∀ q, s.heap.size ≤ q → A q) (h1 : Cond.classLink own idx "[[I" ∈ lwg) (h2 : Cond.arrayClass .int ∈ lwg) (n0 k : Nat) {i1 i2 : Int32} (e1 : i1 = nI n0) (e2 : i2 = nI k) (hn0 : n0 < 2 ^ 20) (hkb : k < 2 ^ 20) (hcells : cells + (1 + n0) ≤ R.cells) (hslots : slots + (n0 + n0 * k) ≤ R.slots) (hdg : decode cc pc = .ok (.multianewarray idx 2, 4))
    (kk : ∀ (q : Nat) (r : Nat → Nat) (H : Heap), va_P (eD E) vwCl (ws ++ ((q, .inl (eT E 5, n0, .inr (.inr (.inr (.inr (fun i => if i < n0 then some (r i) else none)))))) :: (List.range n0).map (fun i => (r i, .inl (eT E 1, k, .inl (fun _ => 0)))))) H → va_D A (ws ++ ((q, .inl (eT E 5, n0, .inr (.inr (.inr (.inr (fun i => if i < n0 then some (r i) else none)))))) :: (List.range n0).map (fun i => (r i, .inl (eT E 1, k, .inl (fun _ => 0)))))) → va_S A s.heap H locs → W p l e R s m args below meth c H locs (cells + 1 + n0) (slots + n0 + n0 * k) Q (F0 m (pc + 4) ls (.ref q :: rest))) : W p l e R s m args below meth c H locs cells slots Q (F0 m pc ls (.int i2 :: .int i1 :: rest)) := by
  obtain ⟨hx, hb, -, hown, hts⟩ := S
  subst e1 e2
  refine va_mna (X := ws) (L := []) (f := fun _ => .inr (0, [])) (ty := .int) (cy := eT E 1) (z := (k, .inl (fun _ => 0))) hx hb hown (hts _ h1) hR.2 (hts _ h2) (hK.2 1 (eT E 1, .int) rfl).2 hK (by rw [show va_pl [] (fun _ => (.inr (0, []) : va_E)) = [] from rfl, List.append_nil]; exact hP) (by rw [show va_pl [] (fun _ => (.inr (0, []) : va_E)) = [] from rfl, List.append_nil]; exact hD) hS hA (nI_pos (by omega)) (nI_pos (by omega)) (nI_clamp (by omega)) (nI_clamp (by omega)) (by omega) (by show k * 4 ≤ _; omega) (by omega) rfl rfl hcells hslots (fun cq => arrV_new cq k (.int 0)) hdg (fun q r cA H1 _ _ hK1 hP1 hD1 hS1 => ?_)
  have e : cA = eT E 5 := ra_u (hK1.2 6 (cA, .array .int) rfl).2 (hK.2 5 (eT E 5, .array .int) rfl).2
  subst e
  have ew : va_pl ([] ++ (List.range n0).map r) (vr_up (fun _ => (.inr (0, []) : va_E)) ((List.range n0).map r) (.inl (eT E 1, (k, .inl (fun _ => 0))))) = (List.range n0).map (fun i => (r i, (.inl (eT E 1, k, .inl (fun _ => 0)) : va_E))) := by
    unfold va_pl
    rw [List.nil_append, List.map_map]
    refine List.map_congr_left (fun i hi => ?_)
    show (r i, vr_up _ _ _ (r i)) = _
    rw [vr_up_in (List.mem_map.mpr ⟨i, hi, rfl⟩)]
  rw [ew, List.append_assoc] at hP1 hD1
  exact kk q r H1 hP1 hD1 hS1
theorem rn_fin (hP : va_P (eD E) vwCl rs H) {hs : va_S A s.heap H locs} (hC : Stc E s s.heap) (hAL : ∀ q, A q → eL E ≤ q) : ∀ U : State, U.heap = H → s.WarmedH U.vm → Stc E U U.heap := by
  intro U hU hW
  refine (hC.warm hW).kept (fun a h1 h2 => ?_)
  rw [hU]
  exact hs.2.1 a h1 (fun h => absurd (hAL a h) (Nat.not_le.mpr h2))
/-- a constructor called on the object that was made last -/
theorem rn_U {wr : va_W} {x : Nat × va_E} (hK : Vk E s) (hR : Ar s) (hC : Stc E s s.heap) (hP : va_P (eD E) vwCl (wr ++ [x]) H) (hD : va_D A (wr ++ [x])) (hS : va_S A s.heap H locs) (hAL : ∀ q, A q → eL E ≤ q) (hL : eL E ≤ s.heap.size) : ∀ U : State, U.heap = H → s.WarmedH U.vm → Bn E [x] H.size U := by
  intro U hU hW
  have hx2 : (wr ++ [x])[wr.length]? = some x := by
    rw [List.getElem?_append_right (Nat.le_refl _), Nat.sub_self]
    rfl
  refine ⟨by rw [hU], ⟨va_K.moved hW.alike hK, rn_fin hP (hs := hS) hC hAL U hU hW⟩, hR.moved hW.alike, ?_, ⟨fun i j p q hi hj _ => ?_, fun k q hk => ?_⟩, Nat.le_trans hL hS.1⟩
  · rw [hU]
    intro k q hk
    have : k = 0 := by
      have := (List.getElem?_eq_some_iff.mp hk).1
      simp only [List.length_singleton] at this
      omega
    subst this
    have e : x = q := Option.some.inj ((show ([x] : va_W)[0]? = some x from rfl).symm.trans hk)
    subst e
    exact hP _ _ hx2
  · have h1 := (List.getElem?_eq_some_iff.mp hi).1
    have h2 := (List.getElem?_eq_some_iff.mp hj).1
    simp only [List.length_singleton] at h1 h2
    omega
  · have : k = 0 := by
      have := (List.getElem?_eq_some_iff.mp hk).1
      simp only [List.length_singleton] at this
      omega
    subst this
    have e : x = q := Option.some.inj ((show ([x] : va_W)[0]? = some x from rfl).symm.trans hk)
    subst e
    exact hAL _ (hD.2 _ _ hx2)
theorem rn_free {wr : va_W} {x : Nat × va_E} (hD : va_D A (wr ++ [x])) (hS : va_S A s.heap H locs) (hA : ∀ q, s.heap.size ≤ q → A q) : ∀ q, va_A [x] H.size q → A q := by
  intro q hq
  have hx2 : (wr ++ [x])[wr.length]? = some x := by
    rw [List.getElem?_append_right (Nat.le_refl _), Nat.sub_self]
    rfl
  rcases hq with ⟨k, ee, hk⟩ | h
  · have : k = 0 := by
      have := (List.getElem?_eq_some_iff.mp hk).1
      simp only [List.length_singleton] at this
      omega
    subst this
    have e : x = (q, ee) := Option.some.inj ((show ([x] : va_W)[0]? = some x from rfl).symm.trans hk)
    have := hD.2 _ _ hx2
    rw [e] at this
    exact this
  · exact hA q (Nat.le_trans hS.1 h)
theorem rn_go {wr : va_W} {x : Nat × va_E} {Bp : va_W → Prop} {st0 : List Value} {aa : Array Value} (hr : va_Run p l e R s m args below meth c H locs cells slots mc ms (F0 m pc ls st0) rest (qIn E [x] H.size Bp aa) (va_A [x] H.size)) (hP : va_P (eD E) vwCl (wr ++ [x]) H) (hD : va_D A (wr ++ [x])) (hS : va_S A s.heap H locs) (hA : ∀ q, s.heap.size ≤ q → A q)
    (kk : ∀ (w1 : va_W) (H : Heap) (locs : List Loc), Bp w1 → va_P (eD E) vwCl (wr ++ w1) H → va_D A (wr ++ w1) → va_S A s.heap H locs → W p l e R s m args below meth c H locs (cells + mc) (slots + ms) Q (F0 m (pc + 3) ls rest)) : W p l e R s m args below meth c H locs cells slots Q (F0 m pc ls st0) := by
  have hF := rn_free hD hS hA
  refine va_callv hr hS (fun q _ h => hF q h) hF (fun u t H1 locs1 ht hvm hp hB hz1 hk1 hS1 => ?_)
  obtain ⟨hP1, hD1⟩ := hB
  rw [ht] at hP1
  obtain ⟨g1, g2⟩ := vn_jn hP hD hk1 hF hP1 hD1
  exact kk u H1 locs1 hp g1 g2 hS1
theorem rn_call (S : CF p m c cc nL s args own) (L : LkI own idx y b maxL n) {wr : va_W} {x : Nat × va_E} {Bp : va_W → Prop} (hM : Met l y (wz y b maxL none) rm (va_Pc (.ref x.1 :: av) (Bn E [x] H.size)) (qIn E [x] H.size Bp) mc ms (va_A [x] H.size)) (hr : rm.cells = mc ∧ rm.slots = ms) (hRm : rm.frames + 1 ≤ R.frames ∧ 8 + (maxL + 11) + rm.locals ≤ R.locals) (hK : Vk E s) (hR : Ar s) (hC : Stc E s s.heap) (hP : va_P (eD E) vwCl (wr ++ [x]) H) (hD : va_D A (wr ++ [x])) (hS : va_S A s.heap H locs) (hA : ∀ q, s.heap.size ≤ q → A q) (hAL : ∀ q, A q → eL E ≤ q) (hL : eL E ≤ s.heap.size) (hn : av.length = n) (hsz : ls.size = nL) (hcat : (rest.map fun v => v.category).sum ≤ 8) (hcs : cells + mc ≤ R.cells ∧ slots + ms ≤ R.slots) (hdg : decode cc pc = .ok (.invokespecial idx, 3)) {st0 : List Value} (hst : st0 = av.reverse ++ .ref x.1 :: rest)
    (kk : ∀ (w1 : va_W) (H : Heap) (locs : List Loc), Bp w1 → va_P (eD E) vwCl (wr ++ w1) H → va_D A (wr ++ w1) → va_S A s.heap H locs → W p l e R s m args below meth c H locs (cells + mc) (slots + ms) Q (F0 m (pc + 3) ls rest)) : W p l e R s m args below meth c H locs cells slots Q (F0 m pc ls st0) := by
  obtain ⟨l1, l2, l3, l4, l5, l6⟩ := L
  obtain ⟨hx, hb, hml, hown, hts⟩ := S
  refine rn_go (va_runI (As := av) ⟨hx, hb, hml, hown, hts⟩ hM ⟨callB_of n hts (gi_z l1) rfl hr.1 hr.2 (hts _ l4) (hts _ l2) l5 hRm, l6, hts _ l3⟩ ⟨bl_n, fun U h1 h2 => ⟨rfl, rn_U hK hR hC hP hD hS hAL hL U h1 h2⟩⟩ rfl hn hsz hst (lv_room hcat) hdg hcs) hP hD hS hA kk
theorem rn_callN (S : CF p m c cc nL s args own) (L : LkIN y b maxL n) (hl : va_Nw (.methodLinkNest own idx y host) s) {wr : va_W} {x : Nat × va_E} {Bp : va_W → Prop} (hM : Met l y (wz y b maxL none) rm (va_Pc (.ref x.1 :: av) (Bn E [x] H.size)) (qIn E [x] H.size Bp) mc ms (va_A [x] H.size)) (hr : rm.cells = mc ∧ rm.slots = ms) (hRm : rm.frames + 1 ≤ R.frames ∧ 8 + (maxL + 11) + rm.locals ≤ R.locals) (hK : Vk E s) (hR : Ar s) (hC : Stc E s s.heap) (hP : va_P (eD E) vwCl (wr ++ [x]) H) (hD : va_D A (wr ++ [x])) (hS : va_S A s.heap H locs) (hA : ∀ q, s.heap.size ≤ q → A q) (hAL : ∀ q, A q → eL E ≤ q) (hL : eL E ≤ s.heap.size) (hn : av.length = n) (hsz : ls.size = nL) (hcat : (rest.map fun v => v.category).sum ≤ 8) (hcs : cells + mc ≤ R.cells ∧ slots + ms ≤ R.slots) (hdg : decode cc pc = .ok (.invokespecial idx, 3)) {st0 : List Value} (hst : st0 = av.reverse ++ .ref x.1 :: rest)
    (kk : ∀ (w1 : va_W) (H : Heap) (locs : List Loc), Bp w1 → va_P (eD E) vwCl (wr ++ w1) H → va_D A (wr ++ w1) → va_S A s.heap H locs → W p l e R s m args below meth c H locs (cells + mc) (slots + ms) Q (F0 m (pc + 3) ls rest)) : W p l e R s m args below meth c H locs cells slots Q (F0 m pc ls st0) := by
  obtain ⟨l1, l3, l4, l5, l6⟩ := L
  obtain ⟨hx, hb, hml, hown, hts⟩ := S
  exact rn_go (va_runIN (As := av) (host := host) ⟨hx, hb, hml, hown, hts⟩ hM ⟨va_cnB n hts (gi_z l1) rfl hr.1 hr.2 hl (hts _ l4) l5 hRm, l6, hts _ l3⟩ ⟨bl_n, fun U h1 h2 => ⟨rfl, rn_U hK hR hC hP hD hS hAL hL U h1 h2⟩⟩ rfl hn hsz hst (lv_room hcat) hdg hcs) hP hD hS hA kk
theorem re_in {w0 w1 : va_W} {sz : Nat} {Bp : va_W → Prop} (hx : p.tables.exec = Jvm.exec) (hb : c.code = cc) (hr : meth.sig.returnType = none) (hlocks : meth.locks = false) (hP : va_P (eD E) vwCl w1 H) (hD : va_D (va_A w0 sz) w1) (hS : va_S (va_A w0 sz) s.heap H locs) (hB : Bp w1) (h1 : cells ≤ mc) (h2 : slots ≤ ms) (hdg : decode cc pc = .ok (.return_, 1)) : W p l e R s m args below meth c H locs cells slots (MQ below (qIn E w0 sz Bp) args s mc ms (va_A w0 sz)) (F0 m pc ls []) :=
  W.widen h1 h2 (W.vret hx hb hr (fun t ht _ => ⟨⟨w1, rfl, hB, by rw [ht]; exact hP, hD⟩, hS.F ht⟩) hS.2.2 hdg hlocks)
theorem bn_of {w0 : va_W} {sz : Nat} (h : Bn E w0 sz s) : s.heap.size = sz ∧ Vk E s ∧ Stc E s s.heap ∧ Ar s ∧ va_P (eD E) vwCl w0 s.heap ∧ va_D (va_A w0 sz) w0 ∧ (∀ q, s.heap.size ≤ q → va_A w0 sz q) ∧ (∀ q, va_A w0 sz q → eL E ≤ q) ∧ eL E ≤ s.heap.size := by
  obtain ⟨h1, ⟨h2, h3⟩, h4, h5, h6, h7⟩ := h
  refine ⟨h1, h2, h3, h4, h5, h6.self, fun q hq => Or.inr (by rw [← h1]; exact hq), fun q hq => ?_, by rw [h1]; exact h7⟩
  rcases hq with ⟨k, e, hk⟩ | hq
  · exact h6.2 k (q, e) hk
  · exact Nat.le_trans h7 hq
end RN
