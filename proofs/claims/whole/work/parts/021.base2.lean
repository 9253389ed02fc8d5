/-! rows for constructors: what a method makes -/
section NEWS
variable {p : Program} {l : Launch} {e : Env} {R : Room} {s : State} {m : MethodId} {args : Array Value} {below : List Frame} {meth : Method} {c : Code} {cells slots : Nat} {Q : State → Prop}
variable {cc : ByteArray} {nL : Nat} {Ts : List Cond} {own : String} {D : va_G} {tys : List (ClassId × FieldType)} {A : Nat → Prop}
variable {ws pre wr : va_W} {pc pc' : Nat} {lv : List (Nat × Value)} {rest : List Value}
theorem vr_objInit (hF : vr_F p s m c cc nL args Ts own D tys A) {idx a : Nat} (h1 : Cond.methodLink own idx objectInit ∈ Ts) (h2 : Cond.instanceMethod objectInit ∈ Ts) (h3 : Cond.code objectInit ⟨#[0xb1]⟩ 1 none ∈ Ts) (hfr : 1 ≤ R.frames) (hlo : (rest.map fun v => v.category).sum + 12 ≤ R.locals) (hdg : decode cc pc = .ok (.invokespecial idx, 3)) (hp : pc + 3 = pc') (k : vr_W p l e R s m args below meth c D A nL cells slots Q ws pc' lv rest) : vr_W p l e R s m args below meth c D A nL cells slots Q ws pc lv (.ref a :: rest) := by
  subst hp
  intro H locs ls hP hD hS hl
  refine W.objInit hF.1.1 hF.1.2.1 hF.1.2.2.2.1 (hF.1.2.2.2.2 _ h1) (hF.1.2.2.2.2 _ h2) (hF.1.2.2.2.2 _ h3) rfl (by rw [hF.1.2.2.1]; exact hl.1) rfl hdg hfr ?_ (k H locs ls hP hD hS hl)
  have h0 : 2 * (F0 m pc ls (.ref a :: rest)).monitorRoom = 0 := rfl
  rw [h0]; omega
theorem vr_newa (hF : vr_F p s m c cc nL args Ts own D tys A) {atype : ArrayType} {ty : FieldType} {cA : ClassId} {n : Int32} {N' : Nat} {a0 : vp_A} (t0 : Nat) (hw : Cond.arrayClass (newarray.typeOf atype) ∈ Ts) (hty : newarray.typeOf atype = ty) (hpr : ∀ cB : ClassId, va_RA s cB ty → s.vm.findClass ("[" ++ ty.toString) = some cB) (ht : tys[t0]? = some (cA, ty)) (ha : ∀ cB : ClassId, vp_cell cB a0 = arrV cB N' (fun _ => defaultValue ty)) (hn : ¬ n < 0) (hN : n.toNatClampNeg = N') (hby : N' * componentBytes ty ≤ 536870912) (hce : cells + 1 ≤ R.cells) (hsl : slots + N' ≤ R.slots) (hdg : decode cc pc = .ok (.newarray atype, 2)) (hp : pc + 2 = pc')
    (k : ∀ q : Nat, vr_W p l e R s m args below meth c D A nL (cells + 1) (slots + N') Q (ws ++ [(q, .inl (cA, a0))]) pc' lv (.ref q :: rest)) : vr_W p l e R s m args below meth c D A nL cells slots Q ws pc lv (.int n :: rest) := by
  subst hp
  intro H locs ls hP hD hS hl
  refine va_newa hF.1.1 hF.1.2.1 (hF.1.2.2.2.2 _ hw) hty hF.2.1 hP hD hS hF.2.2 ha hn hN hby hce hsl hdg (fun q cB H1 hK hP1 hD1 hS1 => ?_)
  have e1 : va_RA s cB ty := (hK.2 tys.length (cB, ty) (by rw [List.getElem?_append_right (Nat.le_refl _), Nat.sub_self]; rfl)).2
  have e2 : va_RA s cA ty := (hF.2.1.2 t0 (cA, ty) ht).2
  have e3 : cB = cA := Option.some.inj ((hpr cB e1).symm.trans (hpr cA e2))
  subst e3
  exact k q H1 locs ls hP1 hD1 hS1 hl
theorem vr_new (hF : vr_F p s m c cc nL args Ts own D tys A) {C : String} {T : u_T} {N ci index : Nat} {fs : List Value} (hin : ∀ w ∈ u_ws C T N, w ∈ Ts) (ty : Nat → FieldType) (hty : ∀ k, k < N → parseFieldDescriptor (T k).2.2.1 = some (ty k)) (h1 : Cond.classLink own index C ∈ Ts) (h2 : Cond.instantiable C N ∈ Ts) (h3 : Cond.initialized C ∈ Ts) (hc : vwCl[ci]? = some (C, T, N)) (hfs : ∀ j, j < N → defaultValue (ty j) = vp_V fs j) (hce : cells + 1 ≤ R.cells) (hsl : slots + N ≤ R.slots) (hdg : decode cc pc = .ok (.new index, 3)) (hp : pc + 3 = pc')
    (k : ∀ q : Nat, vr_W p l e R s m args below meth c D A nL (cells + 1) (slots + N) Q (ws ++ [(q, .inr (ci, fs))]) pc' lv (.ref q :: rest)) : vr_W p l e R s m args below meth c D A nL cells slots Q ws pc lv rest := by
  subst hp
  exact fun H locs ls hP hD hS hl => va_new hF.1.1 hF.1.2.1 hF.1.2.2.2.2 hin ty hty hF.1.2.2.2.1 (hF.1.2.2.2.2 _ h1) (hF.1.2.2.2.2 _ h2) (hF.1.2.2.2.2 _ h3) hF.2.1 hP hD hS hF.2.2 hc hfs hce hsl hdg (fun q H1 hP1 hD1 hS1 => k q H1 locs ls hP1 hD1 hS1 hl)
end NEWS
/-- a constructor's contract: what it makes lies at addresses u; nw: words on nest mates that it needs -/
def vr_Cn (l : Launch) (y : MethodName) (wy nw : List Cond) (rm : Room) (D : va_G) (tys : List (ClassId × FieldType)) (b : Nat) (pre : va_W) (post : (Nat → Nat) → va_W) (mc ms : Nat) : Prop :=
  ∀ sz : Nat, Met l y wy rm (va_Pc [.ref b] (fun U => vr_P D tys pre sz U ∧ ∀ w ∈ nw, va_Nw w U)) (va_Qv (fun (_ : Nat → Nat) => True) (fun u t => vr_B D tys (va_A pre sz) (post u) t) (va_A pre sz)) mc ms (va_A pre sz)
theorem vr_blindN {D : va_G} {tys : List (ClassId × FieldType)} {av : List Value} {pre : va_W} {sz : Nat} {nw : List Cond} (hnw : ∀ w ∈ nw, w.onTables = true) : FrameBlind (va_Pc av (fun U => vr_P D tys pre sz U ∧ ∀ w ∈ nw, va_Nw w U)) := fun a U g mk q => by
  obtain ⟨q0, ⟨q1, qP, qK, qD⟩, qN⟩ := q
  exact ⟨q0, ⟨q1, qP, va_K.moved (u := U) (U := U.calling g mk a) (Vm.Alike.refl U.vm) qK, qD⟩, fun w hw => va_Nw.same (u := U) (U := U.calling g mk a) (hnw w hw) rfl (qN w hw)⟩
theorem vr_Cn_mk {l : Launch} {y : MethodName} {wy wy' nw : List Cond} {rm : Room} {D : va_G} {tys : List (ClassId × FieldType)} {b : Nat} {pre : va_W} {post : (Nat → Nat) → va_W} {mc ms : Nat} {cc : ByteArray} {nL : Nat} (hy : plainName y.cls = true) (hn : y.name = "<init>") (hw : wy = Cond.code y cc nL none :: wy') (hnL : 1 ≤ nL)
    (body : ∀ (p : Program) (e : Env) (s : State) (m : MethodId) (args : Array Value) (below : List Frame) (meth : Method) (c : Code) (A : Nat → Prop) (Q : State → Prop), vr_F p s m c cc nL args wy y.cls D tys A → meth.name = "<init>" → (∀ w ∈ nw, va_Nw w s) → (∀ (u : Nat → Nat) (pc : Nat) (lv : List (Nat × Value)), decode cc pc = .ok (.return_, 1) → vr_W p l e rm s m args below meth c D A nL mc ms Q (post u) pc lv []) → vr_W p l e rm s m args below meth c D A nL 0 0 Q pre 0 [(0, .ref b)] []) : vr_Cn l y wy nw rm D tys b pre post mc ms := by
  intro sz
  refine Met.ofW (cc := cc) (maxL := nL) (ret := none) hy hw ?_
  intro p e s m args below meth c s₁ B hml hv
  obtain ⟨rfl, ⟨hsz, hP, hK, hD0⟩, hN⟩ := hv
  have hts := atoms_spec (ws := wy) B.pre
  have hown : s.vm.findClass y.cls = some m.cls := findClass_of_methodNamed B.named
  have hlocks := B.notSynchronized
  have hr := B.returns
  have hin : meth.name = "<init>" := (name_of_methodNamed B.named B.method).1.trans hn
  subst hsz
  have hD := hD0.self (sz := s.heap.size)
  have hl := lv_entry [.ref b] (n := nL) (show (lg_sl [.ref b]).length ≤ nL from hnL)
  rw [lg_entry_eq]
  generalize (lg_sl [.ref b] ++ List.replicate (nL - (lg_sl [.ref b]).length) Slot.unset).toArray = ls at hl ⊢
  refine body p e s m _ below meth c (va_A pre s.heap.size) _ ⟨⟨B.exec, B.bytes, hml, hown, hts⟩, hK, fun q h => Or.inr h⟩ hin hN ?_ s.heap [] ls hP hD va_S.rf hl
  intro u pc lv hdg H locs ls hP hD hS hl
  exact W.vret B.exec B.bytes hr (fun t ht hW => ⟨⟨u, rfl, trivial, by rw [ht]; exact hP, va_K.moved hW.alike hK, hD⟩, hS.F ht⟩) hS.2.2 hdg
section NEWC
variable {p : Program} {l : Launch} {e : Env} {R : Room} {s : State} {m : MethodId} {args : Array Value} {below : List Frame} {meth : Method} {c : Code} {cells slots : Nat} {Q : State → Prop}
variable {cc : ByteArray} {nL : Nat} {Ts : List Cond} {own : String} {D : va_G} {tys : List (ClassId × FieldType)} {A : Nat → Prop}
variable {ws pre wr : va_W} {pc pc' : Nat} {lv : List (Nat × Value)} {rest : List Value}
theorem vr_run_Cn {post : (Nat → Nat) → va_W} {b mc ms : Nat} (hF : vr_F p s m c cc nL args Ts own D tys A) (isC isR : List Nat) (hC : isC.map (fun i => ws[i]?) = pre.map some) (hR0 : isR.map (fun i => ws[i]?) = wr.map some) (hn0 : va_nd isC = true) (hn1 : va_nd isR = true) (hdis : ∀ i ∈ isR, i ∉ isC)
    (run : ∀ (H : Heap) (locs : List Loc) (ls : Array Slot), va_P D vwCl pre H → va_D A pre → lv_has ls nL lv → va_Run p l e R s m args below meth c H locs cells slots mc ms (F0 m pc ls (.ref b :: rest)) rest (va_Qv (fun (_ : Nat → Nat) => True) (fun u t => vr_B D tys (va_A pre H.size) (post u) t) (va_A pre H.size) ([Value.ref b] : List Value).toArray) (va_A pre H.size))
    (k : ∀ u : Nat → Nat, vr_W p l e R s m args below meth c D A nL (cells + mc) (slots + ms) Q (wr ++ post u) (pc + 3) lv rest) : vr_W p l e R s m args below meth c D A nL cells slots Q ws pc lv (.ref b :: rest) := by
  intro H locs ls hP hD hS hl
  have hPc : va_P D vwCl pre H := fun k0 q hq => by
    have h1 : (isC.map (fun i => ws[i]?))[k0]? = some (some q) := by rw [hC, List.getElem?_map, hq]; rfl
    rw [List.getElem?_map] at h1
    cases hi : isC[k0]? with
    | none => rw [hi] at h1; cases h1
    | some i => rw [hi] at h1; exact hP i q (Option.some.inj h1)
  have hDc : va_D A pre := hD.sub isC hn0 hC
  have hFc := va_free (wc := pre) hD hS hF.2.2 isC hC
  refine va_callv (run H locs ls hPc hDc hl) hS (fun q _ h => hFc q h) hFc (fun u t H1 locs1 ht hvm hw hB hz hk hS1 => ?_)
  obtain ⟨hP1, hK1, hD1⟩ := hB
  rw [ht] at hP1
  obtain ⟨hP2, hD2⟩ := va_join (wr := wr) (w1 := post u) hP hD isC isR hC hR0 hn1 hdis hk hFc hP1 hD1
  exact k u H1 locs1 ls hP2 hD2 hS1 hl
variable {y : MethodName} {wy wy' nw : List Cond} {rm : Room} {bytes : ByteArray} {maxL index : Nat}
/-- new: a constructor that is no nest mate's -/
theorem vr_partI {post : (Nat → Nat) → va_W} {b mc ms : Nat} (hF : vr_F p s m c cc nL args Ts own D tys A) (hM : vr_Cn l y wy nw rm D tys b pre post mc ms) (hnw : ∀ w ∈ nw, w.onTables = true) (hnv : ∀ w ∈ nw, ∀ U : State, s.WarmedH U.vm → va_Nw w U) (hG : GoodIn Ts wy) (hw : wy = Cond.code y bytes maxL none :: wy') (hrc : rm.cells = mc) (hrs : rm.slots = ms) (h1 : Cond.initialized y.cls ∈ Ts) (h2 : Cond.methodLink own index y ∈ Ts) (h3 : Cond.instanceMethod y ∈ Ts) (hy1 : y.name = "<init>")
    (hd : y.cls ≠ "java/lang/invoke/MethodHandle" ∧ y.cls ≠ "java/lang/invoke/VarHandle" ∧ (parseMethodDescriptor y.desc).map (fun d => d.parameters.length) = some 0) (hR : rm.frames + 1 ≤ R.frames ∧ 8 + (maxL + 11) + rm.locals ≤ R.locals) (hf : cells + mc ≤ R.cells ∧ slots + ms ≤ R.slots) (hroom : (rest.map fun v => v.category).sum ≤ 8) (hdg : decode cc pc = .ok (.invokespecial index, 3)) (hp : pc + 3 = pc')
    (isC isR : List Nat) (hC : isC.map (fun i => ws[i]?) = pre.map some) (hR0 : isR.map (fun i => ws[i]?) = wr.map some) (hn0 : va_nd isC = true) (hn1 : va_nd isR = true) (hdis : ∀ i ∈ isR, i ∉ isC)
    (k : ∀ u : Nat → Nat, vr_W p l e R s m args below meth c D A nL (cells + mc) (slots + ms) Q (wr ++ post u) pc' lv rest) : vr_W p l e R s m args below meth c D A nL cells slots Q ws pc lv (.ref b :: rest) := by
  subst hp
  refine vr_run_Cn (post := post) (mc := mc) (ms := ms) hF isC isR hC hR0 hn0 hn1 hdis (fun H locs ls hPc hDc hl => ?_) k
  exact va_runI (As := []) (rest := rest) hF.1 (hM H.size) (cwI 0 hF.1.2.2.2.2 hG hw hrc hrs (hF.1.2.2.2.2 _ h1) (hF.1.2.2.2.2 _ h2) (hF.1.2.2.2.2 _ h3) hy1 hd hR) ⟨vr_blindN hnw, fun U hU hW => ⟨rfl, ⟨by rw [hU], by rw [hU]; exact hPc, va_K.moved hW.alike hF.2.1, hDc.weaken (fun _ _ _ _ => trivial)⟩, fun w hw => hnv w hw U hW⟩⟩ rfl rfl hl.1 rfl (lv_room hroom) hdg hf
/-- new: the constructor of a nest mate -/
theorem vr_partIN {post : (Nat → Nat) → va_W} {b mc ms : Nat} {host : String} (hF : vr_F p s m c cc nL args Ts own D tys A) (hM : vr_Cn l y wy nw rm D tys b pre post mc ms) (hnw : ∀ w ∈ nw, w.onTables = true) (hnv : ∀ w ∈ nw, ∀ U : State, s.WarmedH U.vm → va_Nw w U) (hG : GoodIn Ts wy) (hw : wy = Cond.code y bytes maxL none :: wy') (hrc : rm.cells = mc) (hrs : rm.slots = ms) (h1 : Cond.initialized y.cls ∈ Ts) (h2 : va_Nw (Cond.methodLinkNest own index y host) s) (h3 : Cond.instanceMethod y ∈ Ts) (hy1 : y.name = "<init>")
    (hd : y.cls ≠ "java/lang/invoke/MethodHandle" ∧ y.cls ≠ "java/lang/invoke/VarHandle" ∧ (parseMethodDescriptor y.desc).map (fun d => d.parameters.length) = some 0) (hR : rm.frames + 1 ≤ R.frames ∧ 8 + (maxL + 11) + rm.locals ≤ R.locals) (hf : cells + mc ≤ R.cells ∧ slots + ms ≤ R.slots) (hroom : (rest.map fun v => v.category).sum ≤ 8) (hdg : decode cc pc = .ok (.invokespecial index, 3)) (hp : pc + 3 = pc')
    (isC isR : List Nat) (hC : isC.map (fun i => ws[i]?) = pre.map some) (hR0 : isR.map (fun i => ws[i]?) = wr.map some) (hn0 : va_nd isC = true) (hn1 : va_nd isR = true) (hdis : ∀ i ∈ isR, i ∉ isC)
    (k : ∀ u : Nat → Nat, vr_W p l e R s m args below meth c D A nL (cells + mc) (slots + ms) Q (wr ++ post u) pc' lv rest) : vr_W p l e R s m args below meth c D A nL cells slots Q ws pc lv (.ref b :: rest) := by
  subst hp
  refine vr_run_Cn (post := post) (mc := mc) (ms := ms) hF isC isR hC hR0 hn0 hn1 hdis (fun H locs ls hPc hDc hl => ?_) k
  exact va_runIN (As := []) (rest := rest) hF.1 (hM H.size) ⟨va_cnB 0 hF.1.2.2.2.2 hG hw hrc hrs h2 (hF.1.2.2.2.2 _ h1) hd hR, hy1, hF.1.2.2.2.2 _ h3⟩ ⟨vr_blindN hnw, fun U hU hW => ⟨rfl, ⟨by rw [hU], by rw [hU]; exact hPc, va_K.moved hW.alike hF.2.1, hDc.weaken (fun _ _ _ _ => trivial)⟩, fun w hw => hnv w hw U hW⟩⟩ rfl rfl hl.1 rfl (lv_room hroom) hdg hf
end NEWC
/-- what an array of numbers is, out of the tables -/
theorem vr_arr {ty : FieldType} {args : Array Value} {s : State} (h : (Cond.arrayClass ty).before args s = true) (hpr : ∀ cB : ClassId, s.vm.findClass ("[" ++ ty.toString) = some cB → va_RA s cB ty) : ∃ cA : ClassId, ArrOfT s cA ty ∧ va_RA s cA ty := by
  obtain ⟨cA, kA, comp, h1, h2, h3⟩ := Cond.arrayClass_spec h
  exact ⟨cA, fun n z => ⟨fun k h => (by cases h), kA, h2, comp, h3⟩, hpr cA h1⟩
section PERM
variable {p : Program} {l : Launch} {e : Env} {R : Room} {s : State} {m : MethodId} {args : Array Value} {below : List Frame} {meth : Method} {c : Code} {cells slots : Nat} {Q : State → Prop}
variable {nL : Nat} {D : va_G} {A : Nat → Prop} {ws ws' : va_W} {pc : Nat} {lv : List (Nat × Value)} {st : List Value}
/-- fewer cells of the world, or in another order -/
theorem vr_wsub (is : List Nat) (hs : is.map (fun i => ws[i]?) = ws'.map some) (hn : va_nd is = true) (k : vr_W p l e R s m args below meth c D A nL cells slots Q ws' pc lv st) : vr_W p l e R s m args below meth c D A nL cells slots Q ws pc lv st := by
  intro H locs ls hP hD hS hl
  refine k H locs ls (fun k0 q hq => ?_) (hD.sub is hn hs) hS hl
  have h1 : (is.map (fun i => ws[i]?))[k0]? = some (some q) := by rw [hs, List.getElem?_map, hq]; rfl
  rw [List.getElem?_map] at h1
  cases hi : is[k0]? with
  | none => rw [hi] at h1; cases h1
  | some i => rw [hi] at h1; exact hP i q (Option.some.inj h1)
theorem vr_widen {k n : Nat} (h1 : cells ≤ k) (h2 : slots ≤ n) (kk : vr_W p l e R s m args below meth c D A nL k n Q ws pc lv st) : vr_W p l e R s m args below meth c D A nL cells slots Q ws pc lv st :=
  fun H locs ls hP hD hS hl => W.widen h1 h2 (kk H locs ls hP hD hS hl)
end PERM
