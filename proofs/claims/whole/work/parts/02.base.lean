section BASE
variable {p : Program} {l : Launch} {e : Env} {R : Room} {s : State} {m : MethodId} {args : Array Value} {below : List Frame} {meth : Method} {c : Code} {cells slots : Nat} {Q : State → Prop}
variable {cc : ByteArray} {nL : Nat} {Ts : List Cond} {own : String} {D : va_G} {tys : List (ClassId × FieldType)} {A : Nat → Prop}
variable {ws : va_W} {pc pc' tgt : Nat} {lv : List (Nat × Value)} {rest : List Value}
/-- what stands still in a method's walk: the machine, the code, the words, the classes; what it makes is its own -/
def vr_F (p : Program) (s : State) (m : MethodId) (c : Code) (cc : ByteArray) (nL : Nat) (args : Array Value) (Ts : List Cond) (own : String) (D : va_G) (tys : List (ClassId × FieldType)) (A : Nat → Prop) : Prop :=
  CallFix p m c cc nL s args Ts own ∧ va_K D vwCl tys s ∧ (∀ q : Nat, s.heap.size ≤ q → A q)
/-- from every heap that holds the world ws, with these locals and this stack at pc, the machine comes to Q -/
def vr_W (p : Program) (l : Launch) (e : Env) (R : Room) (s : State) (m : MethodId) (args : Array Value) (below : List Frame) (meth : Method) (c : Code) (D : va_G) (A : Nat → Prop) (nL cells slots : Nat) (Q : State → Prop) (ws : va_W) (pc : Nat) (lv : List (Nat × Value)) (st : List Value) : Prop :=
  ∀ (H : Heap) (locs : List Loc) (ls : Array Slot), va_P D vwCl ws H → va_D A ws → va_S A s.heap H locs → lv_has ls nL lv → W p l e R s m args below meth c H locs cells slots Q (F0 m pc ls st)

theorem vr_to {ws' : va_W} {lv' : List (Nat × Value)} {st st' : List Value} (h1 : ws = ws') (h2 : lv = lv') (h3 : st = st') (k : vr_W p l e R s m args below meth c D A nL cells slots Q ws' pc lv' st') : vr_W p l e R s m args below meth c D A nL cells slots Q ws pc lv st := by
  subst h1; subst h2; subst h3; exact k
theorem vr_sub {lv' : List (Nat × Value)} {st : List Value} (ks : List Nat) (h : lv_pick lv ks = lv') (k : vr_W p l e R s m args below meth c D A nL cells slots Q ws pc lv' st) : vr_W p l e R s m args below meth c D A nL cells slots Q ws pc lv st :=
  fun H locs ls hP hD hS hl => k H locs ls hP hD hS (lv_sub hl ks h)
def vr_b (b : Bool) : Int32 := if b = true then 1 else 0
theorem vr_bt : vr_b true = nI 1 := rfl
theorem vr_bf : vr_b false = nI 0 := rfl
theorem vr_b1 : (1 : Int32) = nI 1 := rfl
theorem vr_b0 : (0 : Int32) = nI 0 := rfl
theorem vr_b_eq0 (b : Bool) : vr_b b = 0 ↔ b = false := by cases b <;> simp [vr_b]
theorem vr_nz (b : Bool) : narrow .boolean (.int (vr_b b)) = .int (vr_b b) := by cases b <;> rfl
theorem vr_nzz (b : Bool) : vp_nar .boolean (vr_b b) = vr_b b := by cases b <;> rfl
def vr_un (f : Nat → Nat) (k v : Nat) : Nat → Nat := fun j => if j = k then v else f j
def vr_ub (f : Nat → Bool) (k : Nat) (v : Bool) : Nat → Bool := fun j => if j = k then v else f j
theorem vr_upd_n (f : Nat → Nat) (k v : Nat) : upd (fun j => nI (f j)) k (nI v) = fun j => nI (vr_un f k v j) := by
  funext j; simp only [upd, vr_un]; split <;> rfl
theorem vr_upd_b (f : Nat → Bool) (k : Nat) (v : Bool) : upd (fun j => vr_b (f j)) k (vr_b v) = fun j => vr_b (vr_ub f k v j) := by
  funext j; simp only [upd, vr_ub]; split <;> rfl
theorem vr_iconst (hF : vr_F p s m c cc nL args Ts own D tys A) {n : Int} {v : Int32} (hdg : decode cc pc = .ok (.iconst n, 1)) (hv : Int32.ofInt n = v) (hp : pc + 1 = pc') (k : vr_W p l e R s m args below meth c D A nL cells slots Q ws pc' lv (.int v :: rest)) : vr_W p l e R s m args below meth c D A nL cells slots Q ws pc lv (rest) := by
  subst hp
  exact fun H locs ls hP hD hS hl => lv_iconst hF.1.1 hF.1.2.1 hdg hv (k H locs ls hP hD hS hl)
theorem vr_bipush (hF : vr_F p s m c cc nL args Ts own D tys A) {n : Int} {v : Int32} (hdg : decode cc pc = .ok (.bipush n, 2)) (hv : (Int8.ofInt n).toInt32 = v) (hp : pc + 2 = pc') (k : vr_W p l e R s m args below meth c D A nL cells slots Q ws pc' lv (.int v :: rest)) : vr_W p l e R s m args below meth c D A nL cells slots Q ws pc lv (rest) := by
  subst hp
  exact fun H locs ls hP hD hS hl => lv_bipush hF.1.1 hF.1.2.1 hdg hv (k H locs ls hP hD hS hl)
theorem vr_sipush (hF : vr_F p s m c cc nL args Ts own D tys A) {n : Int} {v : Int32} (hdg : decode cc pc = .ok (.sipush n, 3)) (hv : (Int16.ofInt n).toInt32 = v) (hp : pc + 3 = pc') (k : vr_W p l e R s m args below meth c D A nL cells slots Q ws pc' lv (.int v :: rest)) : vr_W p l e R s m args below meth c D A nL cells slots Q ws pc lv (rest) := by
  subst hp
  exact fun H locs ls hP hD hS hl => lv_sipush hF.1.1 hF.1.2.1 hdg hv (k H locs ls hP hD hS hl)
theorem vr_lconst (hF : vr_F p s m c cc nL args Ts own D tys A) {n : Fin 2} {v : Int64} (hdg : decode cc pc = .ok (.lconst n, 1)) (hv : Int64.ofNat (n : Nat) = v) (hp : pc + 1 = pc') (k : vr_W p l e R s m args below meth c D A nL cells slots Q ws pc' lv (.long v :: rest)) : vr_W p l e R s m args below meth c D A nL cells slots Q ws pc lv (rest) := by
  subst hp
  exact fun H locs ls hP hD hS hl => lv_lconst hF.1.1 hF.1.2.1 hdg hv (k H locs ls hP hD hS hl)
theorem vr_ldc2 (hF : vr_F p s m c cc nL args Ts own D tys A) {index : Nat} {v : Int64} (hw : Cond.constantLong own index v ∈ Ts) (hdg : decode cc pc = .ok (.ldc2_w index, 3)) (hp : pc + 3 = pc') (k : vr_W p l e R s m args below meth c D A nL cells slots Q ws pc' lv (.long v :: rest)) : vr_W p l e R s m args below meth c D A nL cells slots Q ws pc lv (rest) := by
  subst hp
  exact fun H locs ls hP hD hS hl => lv_ldc2 hF.1.1 hF.1.2.1 hF.1.2.2.2.1 (hF.1.2.2.2.2 _ hw) hdg (k H locs ls hP hD hS hl)
theorem vr_ldc (hF : vr_F p s m c cc nL args Ts own D tys A) {index : Nat} {v : Int32} (hw : Cond.constant own index v ∈ Ts) (hdg : decode cc pc = .ok (.ldc index, 2)) (hp : pc + 2 = pc') (k : vr_W p l e R s m args below meth c D A nL cells slots Q ws pc' lv (.int v :: rest)) : vr_W p l e R s m args below meth c D A nL cells slots Q ws pc lv (rest) := by
  subst hp
  exact fun H locs ls hP hD hS hl => lv_ldc hF.1.1 hF.1.2.1 hF.1.2.2.2.1 (hF.1.2.2.2.2 _ hw) hdg (k H locs ls hP hD hS hl)
theorem vr_iload_n (hF : vr_F p s m c cc nL args Ts own D tys A) {k : Fin 4} {i : Nat} {x : Int32} (j : Nat) (hj : lv[j]? = some (i, .int x)) (hdg : decode cc pc = .ok (.iload_n k, 1)) (hi : (k : Nat) = i) (hp : pc + 1 = pc') (k : vr_W p l e R s m args below meth c D A nL cells slots Q ws pc' lv (.int x :: rest)) : vr_W p l e R s m args below meth c D A nL cells slots Q ws pc lv (rest) := by
  subst hp
  exact fun H locs ls hP hD hS hl => lv_iload_n hF.1.1 hF.1.2.1 hdg hi (lv_at hl j hj) (k H locs ls hP hD hS hl)
theorem vr_iload (hF : vr_F p s m c cc nL args Ts own D tys A) {i : Nat} {x : Int32} (j : Nat) (hj : lv[j]? = some (i, .int x)) (hdg : decode cc pc = .ok (.iload i, 2)) (hp : pc + 2 = pc') (k : vr_W p l e R s m args below meth c D A nL cells slots Q ws pc' lv (.int x :: rest)) : vr_W p l e R s m args below meth c D A nL cells slots Q ws pc lv (rest) := by
  subst hp
  exact fun H locs ls hP hD hS hl => lv_iload hF.1.1 hF.1.2.1 hdg (lv_at hl j hj) (k H locs ls hP hD hS hl)
theorem vr_lload_n (hF : vr_F p s m c cc nL args Ts own D tys A) {k : Fin 4} {i : Nat} {x : Int64} (j : Nat) (hj : lv[j]? = some (i, .long x)) (hdg : decode cc pc = .ok (.lload_n k, 1)) (hi : (k : Nat) = i) (hp : pc + 1 = pc') (k : vr_W p l e R s m args below meth c D A nL cells slots Q ws pc' lv (.long x :: rest)) : vr_W p l e R s m args below meth c D A nL cells slots Q ws pc lv (rest) := by
  subst hp
  exact fun H locs ls hP hD hS hl => lv_lload_n hF.1.1 hF.1.2.1 hdg hi (lv_at hl j hj) (k H locs ls hP hD hS hl)
theorem vr_lload (hF : vr_F p s m c cc nL args Ts own D tys A) {i : Nat} {x : Int64} (j : Nat) (hj : lv[j]? = some (i, .long x)) (hdg : decode cc pc = .ok (.lload i, 2)) (hp : pc + 2 = pc') (k : vr_W p l e R s m args below meth c D A nL cells slots Q ws pc' lv (.long x :: rest)) : vr_W p l e R s m args below meth c D A nL cells slots Q ws pc lv (rest) := by
  subst hp
  exact fun H locs ls hP hD hS hl => lv_lload hF.1.1 hF.1.2.1 hdg (lv_at hl j hj) (k H locs ls hP hD hS hl)
theorem vr_aload_n (hF : vr_F p s m c cc nL args Ts own D tys A) {k : Fin 4} {i : Nat} {x : Nat} (j : Nat) (hj : lv[j]? = some (i, .ref x)) (hdg : decode cc pc = .ok (.aload_n k, 1)) (hi : (k : Nat) = i) (hp : pc + 1 = pc') (k : vr_W p l e R s m args below meth c D A nL cells slots Q ws pc' lv (.ref x :: rest)) : vr_W p l e R s m args below meth c D A nL cells slots Q ws pc lv (rest) := by
  subst hp
  exact fun H locs ls hP hD hS hl => lv_aload_n hF.1.1 hF.1.2.1 hdg hi (lv_at hl j hj) (k H locs ls hP hD hS hl)
theorem vr_aload (hF : vr_F p s m c cc nL args Ts own D tys A) {i : Nat} {x : Nat} (j : Nat) (hj : lv[j]? = some (i, .ref x)) (hdg : decode cc pc = .ok (.aload i, 2)) (hp : pc + 2 = pc') (k : vr_W p l e R s m args below meth c D A nL cells slots Q ws pc' lv (.ref x :: rest)) : vr_W p l e R s m args below meth c D A nL cells slots Q ws pc lv (rest) := by
  subst hp
  exact fun H locs ls hP hD hS hl => lv_aload hF.1.1 hF.1.2.1 hdg (lv_at hl j hj) (k H locs ls hP hD hS hl)
theorem vr_istore_n (hF : vr_F p s m c cc nL args Ts own D tys A) {k : Fin 4} {i : Nat} {x : Int32} {lv' : List (Nat × Value)} (hdg : decode cc pc = .ok (.istore_n k, 1)) (hi : (k : Nat) = i) (hn : i < nL) (hl' : (i, Value.int x) :: lv.filter (fun q => !(q.1 == i) && !(q.1 + 1 == i && q.2.category == 2)) = lv') (hp : pc + 1 = pc') (k : vr_W p l e R s m args below meth c D A nL cells slots Q ws pc' lv' (rest)) : vr_W p l e R s m args below meth c D A nL cells slots Q ws pc lv (.int x :: rest) := by
  subst hp
  exact fun H locs ls hP hD hS hl => lv_istore_n hF.1.1 hF.1.2.1 hdg hi hl hn hl' (fun ls' h' => k H locs ls' hP hD hS h')
theorem vr_istore (hF : vr_F p s m c cc nL args Ts own D tys A) {i : Nat} {x : Int32} {lv' : List (Nat × Value)} (hdg : decode cc pc = .ok (.istore i, 2)) (hn : i < nL) (hl' : (i, Value.int x) :: lv.filter (fun q => !(q.1 == i) && !(q.1 + 1 == i && q.2.category == 2)) = lv') (hp : pc + 2 = pc') (k : vr_W p l e R s m args below meth c D A nL cells slots Q ws pc' lv' (rest)) : vr_W p l e R s m args below meth c D A nL cells slots Q ws pc lv (.int x :: rest) := by
  subst hp
  exact fun H locs ls hP hD hS hl => lv_istore hF.1.1 hF.1.2.1 hdg hl hn hl' (fun ls' h' => k H locs ls' hP hD hS h')
theorem vr_lstore_n (hF : vr_F p s m c cc nL args Ts own D tys A) {k : Fin 4} {i : Nat} {x : Int64} {lv' : List (Nat × Value)} (hdg : decode cc pc = .ok (.lstore_n k, 1)) (hi : (k : Nat) = i) (hn : i + 1 < nL) (hl' : (i, Value.long x) :: lv.filter (fun q => !(q.1 == i) && (!(q.1 == i + 1) && !(q.1 + 1 == i && q.2.category == 2))) = lv') (hp : pc + 1 = pc') (k : vr_W p l e R s m args below meth c D A nL cells slots Q ws pc' lv' (rest)) : vr_W p l e R s m args below meth c D A nL cells slots Q ws pc lv (.long x :: rest) := by
  subst hp
  exact fun H locs ls hP hD hS hl => lv_lstore_n hF.1.1 hF.1.2.1 hdg hi hl hn hl' (fun ls' h' => k H locs ls' hP hD hS h')
theorem vr_lstore (hF : vr_F p s m c cc nL args Ts own D tys A) {i : Nat} {x : Int64} {lv' : List (Nat × Value)} (hdg : decode cc pc = .ok (.lstore i, 2)) (hn : i + 1 < nL) (hl' : (i, Value.long x) :: lv.filter (fun q => !(q.1 == i) && (!(q.1 == i + 1) && !(q.1 + 1 == i && q.2.category == 2))) = lv') (hp : pc + 2 = pc') (k : vr_W p l e R s m args below meth c D A nL cells slots Q ws pc' lv' (rest)) : vr_W p l e R s m args below meth c D A nL cells slots Q ws pc lv (.long x :: rest) := by
  subst hp
  exact fun H locs ls hP hD hS hl => lv_lstore hF.1.1 hF.1.2.1 hdg hl hn hl' (fun ls' h' => k H locs ls' hP hD hS h')
theorem vr_astore_n (hF : vr_F p s m c cc nL args Ts own D tys A) {k : Fin 4} {i : Nat} {x : Nat} {lv' : List (Nat × Value)} (hdg : decode cc pc = .ok (.astore_n k, 1)) (hi : (k : Nat) = i) (hn : i < nL) (hl' : (i, Value.ref x) :: lv.filter (fun q => !(q.1 == i) && !(q.1 + 1 == i && q.2.category == 2)) = lv') (hp : pc + 1 = pc') (k : vr_W p l e R s m args below meth c D A nL cells slots Q ws pc' lv' (rest)) : vr_W p l e R s m args below meth c D A nL cells slots Q ws pc lv (.ref x :: rest) := by
  subst hp
  exact fun H locs ls hP hD hS hl => lv_astore_n hF.1.1 hF.1.2.1 hdg hi hl hn hl' (fun ls' h' => k H locs ls' hP hD hS h')
theorem vr_astore (hF : vr_F p s m c cc nL args Ts own D tys A) {i : Nat} {x : Nat} {lv' : List (Nat × Value)} (hdg : decode cc pc = .ok (.astore i, 2)) (hn : i < nL) (hl' : (i, Value.ref x) :: lv.filter (fun q => !(q.1 == i) && !(q.1 + 1 == i && q.2.category == 2)) = lv') (hp : pc + 2 = pc') (k : vr_W p l e R s m args below meth c D A nL cells slots Q ws pc' lv' (rest)) : vr_W p l e R s m args below meth c D A nL cells slots Q ws pc lv (.ref x :: rest) := by
  subst hp
  exact fun H locs ls hP hD hS hl => lv_astore hF.1.1 hF.1.2.1 hdg hl hn hl' (fun ls' h' => k H locs ls' hP hD hS h')
theorem vr_iinc (hF : vr_F p s m c cc nL args Ts own D tys A) {i : Nat} {n : Int} {x : Int32} (v : Int32) {lv' : List (Nat × Value)} (j : Nat) (hj : lv[j]? = some (i, .int x)) (hdg : decode cc pc = .ok (.iinc i n, 3)) (hv : x + Int32.ofInt n = v) (hn : i < nL) (hl' : (i, Value.int v) :: lv.filter (fun q => !(q.1 == i) && !(q.1 + 1 == i && q.2.category == 2)) = lv') (hp : pc + 3 = pc') (k : vr_W p l e R s m args below meth c D A nL cells slots Q ws pc' lv' (rest)) : vr_W p l e R s m args below meth c D A nL cells slots Q ws pc lv (rest) := by
  subst hp
  exact fun H locs ls hP hD hS hl => lv_iinc hF.1.1 hF.1.2.1 hdg hl hj hv hn hl' (fun ls' h' => k H locs ls' hP hD hS h')
theorem vr_iadd (hF : vr_F p s m c cc nL args Ts own D tys A) {x y v : Int32} (hdg : decode cc pc = .ok (.iadd, 1)) (hv : x + y = v) (hp : pc + 1 = pc') (k : vr_W p l e R s m args below meth c D A nL cells slots Q ws pc' lv (.int v :: rest)) : vr_W p l e R s m args below meth c D A nL cells slots Q ws pc lv (.int y :: .int x :: rest) := by
  subst hp; subst hv
  exact fun H locs ls hP hD hS hl => lv_iadd hF.1.1 hF.1.2.1 hdg (k H locs ls hP hD hS hl)
theorem vr_isub (hF : vr_F p s m c cc nL args Ts own D tys A) {x y v : Int32} (hdg : decode cc pc = .ok (.isub, 1)) (hv : x - y = v) (hp : pc + 1 = pc') (k : vr_W p l e R s m args below meth c D A nL cells slots Q ws pc' lv (.int v :: rest)) : vr_W p l e R s m args below meth c D A nL cells slots Q ws pc lv (.int y :: .int x :: rest) := by
  subst hp; subst hv
  exact fun H locs ls hP hD hS hl => lv_isub hF.1.1 hF.1.2.1 hdg (k H locs ls hP hD hS hl)
theorem vr_imul (hF : vr_F p s m c cc nL args Ts own D tys A) {x y v : Int32} (hdg : decode cc pc = .ok (.imul, 1)) (hv : x * y = v) (hp : pc + 1 = pc') (k : vr_W p l e R s m args below meth c D A nL cells slots Q ws pc' lv (.int v :: rest)) : vr_W p l e R s m args below meth c D A nL cells slots Q ws pc lv (.int y :: .int x :: rest) := by
  subst hp; subst hv
  exact fun H locs ls hP hD hS hl => lv_imul hF.1.1 hF.1.2.1 hdg (k H locs ls hP hD hS hl)
theorem vr_iand (hF : vr_F p s m c cc nL args Ts own D tys A) {x y v : Int32} (hdg : decode cc pc = .ok (.iand, 1)) (hv : x &&& y = v) (hp : pc + 1 = pc') (k : vr_W p l e R s m args below meth c D A nL cells slots Q ws pc' lv (.int v :: rest)) : vr_W p l e R s m args below meth c D A nL cells slots Q ws pc lv (.int y :: .int x :: rest) := by
  subst hp; subst hv
  exact fun H locs ls hP hD hS hl => lv_iand hF.1.1 hF.1.2.1 hdg (k H locs ls hP hD hS hl)
theorem vr_ior (hF : vr_F p s m c cc nL args Ts own D tys A) {x y v : Int32} (hdg : decode cc pc = .ok (.ior, 1)) (hv : x ||| y = v) (hp : pc + 1 = pc') (k : vr_W p l e R s m args below meth c D A nL cells slots Q ws pc' lv (.int v :: rest)) : vr_W p l e R s m args below meth c D A nL cells slots Q ws pc lv (.int y :: .int x :: rest) := by
  subst hp; subst hv
  exact fun H locs ls hP hD hS hl => lv_ior hF.1.1 hF.1.2.1 hdg (k H locs ls hP hD hS hl)
theorem vr_ixor (hF : vr_F p s m c cc nL args Ts own D tys A) {x y v : Int32} (hdg : decode cc pc = .ok (.ixor, 1)) (hv : x ^^^ y = v) (hp : pc + 1 = pc') (k : vr_W p l e R s m args below meth c D A nL cells slots Q ws pc' lv (.int v :: rest)) : vr_W p l e R s m args below meth c D A nL cells slots Q ws pc lv (.int y :: .int x :: rest) := by
  subst hp; subst hv
  exact fun H locs ls hP hD hS hl => lv_ixor hF.1.1 hF.1.2.1 hdg (k H locs ls hP hD hS hl)
theorem vr_ladd (hF : vr_F p s m c cc nL args Ts own D tys A) {x y v : Int64} (hdg : decode cc pc = .ok (.ladd, 1)) (hv : x + y = v) (hp : pc + 1 = pc') (k : vr_W p l e R s m args below meth c D A nL cells slots Q ws pc' lv (.long v :: rest)) : vr_W p l e R s m args below meth c D A nL cells slots Q ws pc lv (.long y :: .long x :: rest) := by
  subst hp; subst hv
  exact fun H locs ls hP hD hS hl => lv_ladd hF.1.1 hF.1.2.1 hdg (k H locs ls hP hD hS hl)
theorem vr_lsub (hF : vr_F p s m c cc nL args Ts own D tys A) {x y v : Int64} (hdg : decode cc pc = .ok (.lsub, 1)) (hv : x - y = v) (hp : pc + 1 = pc') (k : vr_W p l e R s m args below meth c D A nL cells slots Q ws pc' lv (.long v :: rest)) : vr_W p l e R s m args below meth c D A nL cells slots Q ws pc lv (.long y :: .long x :: rest) := by
  subst hp; subst hv
  exact fun H locs ls hP hD hS hl => lv_lsub hF.1.1 hF.1.2.1 hdg (k H locs ls hP hD hS hl)
theorem vr_lmul (hF : vr_F p s m c cc nL args Ts own D tys A) {x y v : Int64} (hdg : decode cc pc = .ok (.lmul, 1)) (hv : x * y = v) (hp : pc + 1 = pc') (k : vr_W p l e R s m args below meth c D A nL cells slots Q ws pc' lv (.long v :: rest)) : vr_W p l e R s m args below meth c D A nL cells slots Q ws pc lv (.long y :: .long x :: rest) := by
  subst hp; subst hv
  exact fun H locs ls hP hD hS hl => lv_lmul hF.1.1 hF.1.2.1 hdg (k H locs ls hP hD hS hl)
theorem vr_land (hF : vr_F p s m c cc nL args Ts own D tys A) {x y v : Int64} (hdg : decode cc pc = .ok (.land, 1)) (hv : x &&& y = v) (hp : pc + 1 = pc') (k : vr_W p l e R s m args below meth c D A nL cells slots Q ws pc' lv (.long v :: rest)) : vr_W p l e R s m args below meth c D A nL cells slots Q ws pc lv (.long y :: .long x :: rest) := by
  subst hp; subst hv
  exact fun H locs ls hP hD hS hl => lv_land hF.1.1 hF.1.2.1 hdg (k H locs ls hP hD hS hl)
theorem vr_lor (hF : vr_F p s m c cc nL args Ts own D tys A) {x y v : Int64} (hdg : decode cc pc = .ok (.lor, 1)) (hv : x ||| y = v) (hp : pc + 1 = pc') (k : vr_W p l e R s m args below meth c D A nL cells slots Q ws pc' lv (.long v :: rest)) : vr_W p l e R s m args below meth c D A nL cells slots Q ws pc lv (.long y :: .long x :: rest) := by
  subst hp; subst hv
  exact fun H locs ls hP hD hS hl => lv_lor hF.1.1 hF.1.2.1 hdg (k H locs ls hP hD hS hl)
theorem vr_lxor (hF : vr_F p s m c cc nL args Ts own D tys A) {x y v : Int64} (hdg : decode cc pc = .ok (.lxor, 1)) (hv : x ^^^ y = v) (hp : pc + 1 = pc') (k : vr_W p l e R s m args below meth c D A nL cells slots Q ws pc' lv (.long v :: rest)) : vr_W p l e R s m args below meth c D A nL cells slots Q ws pc lv (.long y :: .long x :: rest) := by
  subst hp; subst hv
  exact fun H locs ls hP hD hS hl => lv_lxor hF.1.1 hF.1.2.1 hdg (k H locs ls hP hD hS hl)
theorem vr_idiv (hF : vr_F p s m c cc nL args Ts own D tys A) {x y v : Int32} (hdg : decode cc pc = .ok (.idiv, 1)) (hne : ¬ y = 0) (hv : x / y = v) (hp : pc + 1 = pc') (k : vr_W p l e R s m args below meth c D A nL cells slots Q ws pc' lv (.int v :: rest)) : vr_W p l e R s m args below meth c D A nL cells slots Q ws pc lv (.int y :: .int x :: rest) := by
  subst hp; subst hv
  exact fun H locs ls hP hD hS hl => lv_idiv hF.1.1 hF.1.2.1 hdg hne (k H locs ls hP hD hS hl)
theorem vr_irem (hF : vr_F p s m c cc nL args Ts own D tys A) {x y v : Int32} (hdg : decode cc pc = .ok (.irem, 1)) (hne : ¬ y = 0) (hv : x - x / y * y = v) (hp : pc + 1 = pc') (k : vr_W p l e R s m args below meth c D A nL cells slots Q ws pc' lv (.int v :: rest)) : vr_W p l e R s m args below meth c D A nL cells slots Q ws pc lv (.int y :: .int x :: rest) := by
  subst hp; subst hv
  exact fun H locs ls hP hD hS hl => lv_irem hF.1.1 hF.1.2.1 hdg hne (k H locs ls hP hD hS hl)
theorem vr_ineg (hF : vr_F p s m c cc nL args Ts own D tys A) {x v : Int32} (hdg : decode cc pc = .ok (.ineg, 1)) (hv : -x = v) (hp : pc + 1 = pc') (k : vr_W p l e R s m args below meth c D A nL cells slots Q ws pc' lv (.int v :: rest)) : vr_W p l e R s m args below meth c D A nL cells slots Q ws pc lv (.int x :: rest) := by
  subst hp; subst hv
  exact fun H locs ls hP hD hS hl => lv_ineg hF.1.1 hF.1.2.1 hdg (k H locs ls hP hD hS hl)
theorem vr_i2l (hF : vr_F p s m c cc nL args Ts own D tys A) {x : Int32} {v : Int64} (hdg : decode cc pc = .ok (.i2l, 1)) (hv : x.toInt64 = v) (hp : pc + 1 = pc') (k : vr_W p l e R s m args below meth c D A nL cells slots Q ws pc' lv (.long v :: rest)) : vr_W p l e R s m args below meth c D A nL cells slots Q ws pc lv (.int x :: rest) := by
  subst hp
  exact fun H locs ls hP hD hS hl => lv_i2l hF.1.1 hF.1.2.1 hdg hv (k H locs ls hP hD hS hl)
theorem vr_l2i (hF : vr_F p s m c cc nL args Ts own D tys A) {x : Int64} {v : Int32} (hdg : decode cc pc = .ok (.l2i, 1)) (hv : x.toInt32 = v) (hp : pc + 1 = pc') (k : vr_W p l e R s m args below meth c D A nL cells slots Q ws pc' lv (.int v :: rest)) : vr_W p l e R s m args below meth c D A nL cells slots Q ws pc lv (.long x :: rest) := by
  subst hp
  exact fun H locs ls hP hD hS hl => lv_l2i hF.1.1 hF.1.2.1 hdg hv (k H locs ls hP hD hS hl)
theorem vr_lshl (hF : vr_F p s m c cc nL args Ts own D tys A) {x v : Int64} {y : Int32} (hdg : decode cc pc = .ok (.lshl, 1)) (hv : x <<< (y.toInt64 &&& 63) = v) (hp : pc + 1 = pc') (k : vr_W p l e R s m args below meth c D A nL cells slots Q ws pc' lv (.long v :: rest)) : vr_W p l e R s m args below meth c D A nL cells slots Q ws pc lv (.int y :: .long x :: rest) := by
  subst hp
  exact fun H locs ls hP hD hS hl => lv_lshl hF.1.1 hF.1.2.1 hdg hv (k H locs ls hP hD hS hl)
theorem vr_ishl (hF : vr_F p s m c cc nL args Ts own D tys A) {x y v : Int32} (hdg : decode cc pc = .ok (.ishl, 1)) (hv : x <<< (y &&& 31) = v) (hp : pc + 1 = pc') (k : vr_W p l e R s m args below meth c D A nL cells slots Q ws pc' lv (.int v :: rest)) : vr_W p l e R s m args below meth c D A nL cells slots Q ws pc lv (.int y :: .int x :: rest) := by
  subst hp; subst hv
  exact fun H locs ls hP hD hS hl => lv_ishl hF.1.1 hF.1.2.1 hdg (k H locs ls hP hD hS hl)
theorem vr_dup (hF : vr_F p s m c cc nL args Ts own D tys A) {va : Value} (hdg : decode cc pc = .ok (.dup, 1)) (hva : va.category = 1) (hp : pc + 1 = pc') (k : vr_W p l e R s m args below meth c D A nL cells slots Q ws pc' lv (va :: va :: rest)) : vr_W p l e R s m args below meth c D A nL cells slots Q ws pc lv (va :: rest) := by
  subst hp
  exact fun H locs ls hP hD hS hl => lv_dup hF.1.1 hF.1.2.1 hdg hva (k H locs ls hP hD hS hl)
theorem vr_pop (hF : vr_F p s m c cc nL args Ts own D tys A) {va : Value} (hdg : decode cc pc = .ok (.pop, 1)) (hva : va.category = 1) (hp : pc + 1 = pc') (k : vr_W p l e R s m args below meth c D A nL cells slots Q ws pc' lv (rest)) : vr_W p l e R s m args below meth c D A nL cells slots Q ws pc lv (va :: rest) := by
  subst hp
  exact fun H locs ls hP hD hS hl => lv_pop hF.1.1 hF.1.2.1 hdg hva (k H locs ls hP hD hS hl)
theorem vr_dup2_11 (hF : vr_F p s m c cc nL args Ts own D tys A) {va vb : Value} (hdg : decode cc pc = .ok (.dup2, 1)) (hva : va.category = 1) (hvb : vb.category = 1) (hp : pc + 1 = pc') (k : vr_W p l e R s m args below meth c D A nL cells slots Q ws pc' lv (va :: vb :: va :: vb :: rest)) : vr_W p l e R s m args below meth c D A nL cells slots Q ws pc lv (va :: vb :: rest) := by
  subst hp
  exact fun H locs ls hP hD hS hl => lv_dup2_11 hF.1.1 hF.1.2.1 hdg hva hvb (k H locs ls hP hD hS hl)
theorem vr_dup_x1 (hF : vr_F p s m c cc nL args Ts own D tys A) {va vb : Value} (hdg : decode cc pc = .ok (.dup_x1, 1)) (hva : va.category = 1) (hvb : vb.category = 1) (hp : pc + 1 = pc') (k : vr_W p l e R s m args below meth c D A nL cells slots Q ws pc' lv (va :: vb :: va :: rest)) : vr_W p l e R s m args below meth c D A nL cells slots Q ws pc lv (va :: vb :: rest) := by
  subst hp
  exact fun H locs ls hP hD hS hl => lv_dup_x1 hF.1.1 hF.1.2.1 hdg hva hvb (k H locs ls hP hD hS hl)
theorem vr_if_eq (hF : vr_F p s m c cc nL args Ts own D tys A) {x : Int32} {off : Int} (hdg : decode cc pc = .ok (.ifCond .eq off, 3)) (ht : (pc : Int) + off = (tgt : Int)) (hp : pc + 3 = pc') (kt : x = 0 → vr_W p l e R s m args below meth c D A nL cells slots Q ws tgt lv rest) (kf : ¬ x = 0 → vr_W p l e R s m args below meth c D A nL cells slots Q ws pc' lv rest) : vr_W p l e R s m args below meth c D A nL cells slots Q ws pc lv (.int x :: rest) := by
  subst hp
  exact fun H locs ls hP hD hS hl => lv_if_eq hF.1.1 hF.1.2.1 hdg ht (fun q => kt q H locs ls hP hD hS hl) (fun q => kf q H locs ls hP hD hS hl)
theorem vr_icmp_eq (hF : vr_F p s m c cc nL args Ts own D tys A) {x y : Int32} {off : Int} (hdg : decode cc pc = .ok (.if_icmp .eq off, 3)) (ht : (pc : Int) + off = (tgt : Int)) (hp : pc + 3 = pc') (kt : x = y → vr_W p l e R s m args below meth c D A nL cells slots Q ws tgt lv rest) (kf : ¬ x = y → vr_W p l e R s m args below meth c D A nL cells slots Q ws pc' lv rest) : vr_W p l e R s m args below meth c D A nL cells slots Q ws pc lv (.int y :: .int x :: rest) := by
  subst hp
  exact fun H locs ls hP hD hS hl => lv_icmp_eq hF.1.1 hF.1.2.1 hdg ht (fun q => kt q H locs ls hP hD hS hl) (fun q => kf q H locs ls hP hD hS hl)
theorem vr_icmp_eqN (hF : vr_F p s m c cc nL args Ts own D tys A) {x y : Nat} (hx : x < 2 ^ 31) (hy : y < 2 ^ 31) {off : Int} (hdg : decode cc pc = .ok (.if_icmp .eq off, 3)) (ht : (pc : Int) + off = (tgt : Int)) (hp : pc + 3 = pc') (kt : x = y → vr_W p l e R s m args below meth c D A nL cells slots Q ws tgt lv rest) (kf : ¬ x = y → vr_W p l e R s m args below meth c D A nL cells slots Q ws pc' lv rest) : vr_W p l e R s m args below meth c D A nL cells slots Q ws pc lv (.int (nI y) :: .int (nI x) :: rest) := by
  subst hp
  exact fun H locs ls hP hD hS hl => lv_icmp_eq hF.1.1 hF.1.2.1 hdg ht (fun q => kt ((nI_eq hx hy).mp q) H locs ls hP hD hS hl) (fun q => kf (fun z => q ((nI_eq hx hy).mpr z)) H locs ls hP hD hS hl)
theorem vr_if_ne (hF : vr_F p s m c cc nL args Ts own D tys A) {x : Int32} {off : Int} (hdg : decode cc pc = .ok (.ifCond .ne off, 3)) (ht : (pc : Int) + off = (tgt : Int)) (hp : pc + 3 = pc') (kt : ¬ x = 0 → vr_W p l e R s m args below meth c D A nL cells slots Q ws tgt lv rest) (kf : x = 0 → vr_W p l e R s m args below meth c D A nL cells slots Q ws pc' lv rest) : vr_W p l e R s m args below meth c D A nL cells slots Q ws pc lv (.int x :: rest) := by
  subst hp
  exact fun H locs ls hP hD hS hl => lv_if_ne hF.1.1 hF.1.2.1 hdg ht (fun q => kt q H locs ls hP hD hS hl) (fun q => kf q H locs ls hP hD hS hl)
theorem vr_icmp_ne (hF : vr_F p s m c cc nL args Ts own D tys A) {x y : Int32} {off : Int} (hdg : decode cc pc = .ok (.if_icmp .ne off, 3)) (ht : (pc : Int) + off = (tgt : Int)) (hp : pc + 3 = pc') (kt : ¬ x = y → vr_W p l e R s m args below meth c D A nL cells slots Q ws tgt lv rest) (kf : x = y → vr_W p l e R s m args below meth c D A nL cells slots Q ws pc' lv rest) : vr_W p l e R s m args below meth c D A nL cells slots Q ws pc lv (.int y :: .int x :: rest) := by
  subst hp
  exact fun H locs ls hP hD hS hl => lv_icmp_ne hF.1.1 hF.1.2.1 hdg ht (fun q => kt q H locs ls hP hD hS hl) (fun q => kf q H locs ls hP hD hS hl)
theorem vr_icmp_neN (hF : vr_F p s m c cc nL args Ts own D tys A) {x y : Nat} (hx : x < 2 ^ 31) (hy : y < 2 ^ 31) {off : Int} (hdg : decode cc pc = .ok (.if_icmp .ne off, 3)) (ht : (pc : Int) + off = (tgt : Int)) (hp : pc + 3 = pc') (kt : ¬ x = y → vr_W p l e R s m args below meth c D A nL cells slots Q ws tgt lv rest) (kf : x = y → vr_W p l e R s m args below meth c D A nL cells slots Q ws pc' lv rest) : vr_W p l e R s m args below meth c D A nL cells slots Q ws pc lv (.int (nI y) :: .int (nI x) :: rest) := by
  subst hp
  exact fun H locs ls hP hD hS hl => lv_icmp_ne hF.1.1 hF.1.2.1 hdg ht (fun q => kt (fun z => q ((nI_eq hx hy).mpr z)) H locs ls hP hD hS hl) (fun q => kf ((nI_eq hx hy).mp q) H locs ls hP hD hS hl)
theorem vr_if_lt (hF : vr_F p s m c cc nL args Ts own D tys A) {x : Int32} {off : Int} (hdg : decode cc pc = .ok (.ifCond .lt off, 3)) (ht : (pc : Int) + off = (tgt : Int)) (hp : pc + 3 = pc') (kt : x < 0 → vr_W p l e R s m args below meth c D A nL cells slots Q ws tgt lv rest) (kf : ¬ x < 0 → vr_W p l e R s m args below meth c D A nL cells slots Q ws pc' lv rest) : vr_W p l e R s m args below meth c D A nL cells slots Q ws pc lv (.int x :: rest) := by
  subst hp
  exact fun H locs ls hP hD hS hl => lv_if_lt hF.1.1 hF.1.2.1 hdg ht (fun q => kt q H locs ls hP hD hS hl) (fun q => kf q H locs ls hP hD hS hl)
theorem vr_icmp_lt (hF : vr_F p s m c cc nL args Ts own D tys A) {x y : Int32} {off : Int} (hdg : decode cc pc = .ok (.if_icmp .lt off, 3)) (ht : (pc : Int) + off = (tgt : Int)) (hp : pc + 3 = pc') (kt : x < y → vr_W p l e R s m args below meth c D A nL cells slots Q ws tgt lv rest) (kf : ¬ x < y → vr_W p l e R s m args below meth c D A nL cells slots Q ws pc' lv rest) : vr_W p l e R s m args below meth c D A nL cells slots Q ws pc lv (.int y :: .int x :: rest) := by
  subst hp
  exact fun H locs ls hP hD hS hl => lv_icmp_lt hF.1.1 hF.1.2.1 hdg ht (fun q => kt q H locs ls hP hD hS hl) (fun q => kf q H locs ls hP hD hS hl)
theorem vr_icmp_ltN (hF : vr_F p s m c cc nL args Ts own D tys A) {x y : Nat} (hx : x < 2 ^ 31) (hy : y < 2 ^ 31) {off : Int} (hdg : decode cc pc = .ok (.if_icmp .lt off, 3)) (ht : (pc : Int) + off = (tgt : Int)) (hp : pc + 3 = pc') (kt : x < y → vr_W p l e R s m args below meth c D A nL cells slots Q ws tgt lv rest) (kf : ¬ x < y → vr_W p l e R s m args below meth c D A nL cells slots Q ws pc' lv rest) : vr_W p l e R s m args below meth c D A nL cells slots Q ws pc lv (.int (nI y) :: .int (nI x) :: rest) := by
  subst hp
  exact fun H locs ls hP hD hS hl => lv_icmp_lt hF.1.1 hF.1.2.1 hdg ht (fun q => kt ((nI_ltI hx hy).mp q) H locs ls hP hD hS hl) (fun q => kf (fun z => q ((nI_ltI hx hy).mpr z)) H locs ls hP hD hS hl)
theorem vr_if_ge (hF : vr_F p s m c cc nL args Ts own D tys A) {x : Int32} {off : Int} (hdg : decode cc pc = .ok (.ifCond .ge off, 3)) (ht : (pc : Int) + off = (tgt : Int)) (hp : pc + 3 = pc') (kt : 0 ≤ x → vr_W p l e R s m args below meth c D A nL cells slots Q ws tgt lv rest) (kf : ¬ 0 ≤ x → vr_W p l e R s m args below meth c D A nL cells slots Q ws pc' lv rest) : vr_W p l e R s m args below meth c D A nL cells slots Q ws pc lv (.int x :: rest) := by
  subst hp
  exact fun H locs ls hP hD hS hl => lv_if_ge hF.1.1 hF.1.2.1 hdg ht (fun q => kt q H locs ls hP hD hS hl) (fun q => kf q H locs ls hP hD hS hl)
theorem vr_icmp_ge (hF : vr_F p s m c cc nL args Ts own D tys A) {x y : Int32} {off : Int} (hdg : decode cc pc = .ok (.if_icmp .ge off, 3)) (ht : (pc : Int) + off = (tgt : Int)) (hp : pc + 3 = pc') (kt : y ≤ x → vr_W p l e R s m args below meth c D A nL cells slots Q ws tgt lv rest) (kf : ¬ y ≤ x → vr_W p l e R s m args below meth c D A nL cells slots Q ws pc' lv rest) : vr_W p l e R s m args below meth c D A nL cells slots Q ws pc lv (.int y :: .int x :: rest) := by
  subst hp
  exact fun H locs ls hP hD hS hl => lv_icmp_ge hF.1.1 hF.1.2.1 hdg ht (fun q => kt q H locs ls hP hD hS hl) (fun q => kf q H locs ls hP hD hS hl)
theorem vr_icmp_geN (hF : vr_F p s m c cc nL args Ts own D tys A) {x y : Nat} (hx : x < 2 ^ 31) (hy : y < 2 ^ 31) {off : Int} (hdg : decode cc pc = .ok (.if_icmp .ge off, 3)) (ht : (pc : Int) + off = (tgt : Int)) (hp : pc + 3 = pc') (kt : y ≤ x → vr_W p l e R s m args below meth c D A nL cells slots Q ws tgt lv rest) (kf : ¬ y ≤ x → vr_W p l e R s m args below meth c D A nL cells slots Q ws pc' lv rest) : vr_W p l e R s m args below meth c D A nL cells slots Q ws pc lv (.int (nI y) :: .int (nI x) :: rest) := by
  subst hp
  exact fun H locs ls hP hD hS hl => lv_icmp_ge hF.1.1 hF.1.2.1 hdg ht (fun q => kt ((nI_leI hy hx).mp q) H locs ls hP hD hS hl) (fun q => kf (fun z => q ((nI_leI hy hx).mpr z)) H locs ls hP hD hS hl)
theorem vr_if_gt (hF : vr_F p s m c cc nL args Ts own D tys A) {x : Int32} {off : Int} (hdg : decode cc pc = .ok (.ifCond .gt off, 3)) (ht : (pc : Int) + off = (tgt : Int)) (hp : pc + 3 = pc') (kt : 0 < x → vr_W p l e R s m args below meth c D A nL cells slots Q ws tgt lv rest) (kf : ¬ 0 < x → vr_W p l e R s m args below meth c D A nL cells slots Q ws pc' lv rest) : vr_W p l e R s m args below meth c D A nL cells slots Q ws pc lv (.int x :: rest) := by
  subst hp
  exact fun H locs ls hP hD hS hl => lv_if_gt hF.1.1 hF.1.2.1 hdg ht (fun q => kt q H locs ls hP hD hS hl) (fun q => kf q H locs ls hP hD hS hl)
theorem vr_icmp_gt (hF : vr_F p s m c cc nL args Ts own D tys A) {x y : Int32} {off : Int} (hdg : decode cc pc = .ok (.if_icmp .gt off, 3)) (ht : (pc : Int) + off = (tgt : Int)) (hp : pc + 3 = pc') (kt : y < x → vr_W p l e R s m args below meth c D A nL cells slots Q ws tgt lv rest) (kf : ¬ y < x → vr_W p l e R s m args below meth c D A nL cells slots Q ws pc' lv rest) : vr_W p l e R s m args below meth c D A nL cells slots Q ws pc lv (.int y :: .int x :: rest) := by
  subst hp
  exact fun H locs ls hP hD hS hl => lv_icmp_gt hF.1.1 hF.1.2.1 hdg ht (fun q => kt q H locs ls hP hD hS hl) (fun q => kf q H locs ls hP hD hS hl)
theorem vr_icmp_gtN (hF : vr_F p s m c cc nL args Ts own D tys A) {x y : Nat} (hx : x < 2 ^ 31) (hy : y < 2 ^ 31) {off : Int} (hdg : decode cc pc = .ok (.if_icmp .gt off, 3)) (ht : (pc : Int) + off = (tgt : Int)) (hp : pc + 3 = pc') (kt : y < x → vr_W p l e R s m args below meth c D A nL cells slots Q ws tgt lv rest) (kf : ¬ y < x → vr_W p l e R s m args below meth c D A nL cells slots Q ws pc' lv rest) : vr_W p l e R s m args below meth c D A nL cells slots Q ws pc lv (.int (nI y) :: .int (nI x) :: rest) := by
  subst hp
  exact fun H locs ls hP hD hS hl => lv_icmp_gt hF.1.1 hF.1.2.1 hdg ht (fun q => kt ((nI_ltI hy hx).mp q) H locs ls hP hD hS hl) (fun q => kf (fun z => q ((nI_ltI hy hx).mpr z)) H locs ls hP hD hS hl)
theorem vr_if_le (hF : vr_F p s m c cc nL args Ts own D tys A) {x : Int32} {off : Int} (hdg : decode cc pc = .ok (.ifCond .le off, 3)) (ht : (pc : Int) + off = (tgt : Int)) (hp : pc + 3 = pc') (kt : x ≤ 0 → vr_W p l e R s m args below meth c D A nL cells slots Q ws tgt lv rest) (kf : ¬ x ≤ 0 → vr_W p l e R s m args below meth c D A nL cells slots Q ws pc' lv rest) : vr_W p l e R s m args below meth c D A nL cells slots Q ws pc lv (.int x :: rest) := by
  subst hp
  exact fun H locs ls hP hD hS hl => lv_if_le hF.1.1 hF.1.2.1 hdg ht (fun q => kt q H locs ls hP hD hS hl) (fun q => kf q H locs ls hP hD hS hl)
theorem vr_icmp_le (hF : vr_F p s m c cc nL args Ts own D tys A) {x y : Int32} {off : Int} (hdg : decode cc pc = .ok (.if_icmp .le off, 3)) (ht : (pc : Int) + off = (tgt : Int)) (hp : pc + 3 = pc') (kt : x ≤ y → vr_W p l e R s m args below meth c D A nL cells slots Q ws tgt lv rest) (kf : ¬ x ≤ y → vr_W p l e R s m args below meth c D A nL cells slots Q ws pc' lv rest) : vr_W p l e R s m args below meth c D A nL cells slots Q ws pc lv (.int y :: .int x :: rest) := by
  subst hp
  exact fun H locs ls hP hD hS hl => lv_icmp_le hF.1.1 hF.1.2.1 hdg ht (fun q => kt q H locs ls hP hD hS hl) (fun q => kf q H locs ls hP hD hS hl)
theorem vr_icmp_leN (hF : vr_F p s m c cc nL args Ts own D tys A) {x y : Nat} (hx : x < 2 ^ 31) (hy : y < 2 ^ 31) {off : Int} (hdg : decode cc pc = .ok (.if_icmp .le off, 3)) (ht : (pc : Int) + off = (tgt : Int)) (hp : pc + 3 = pc') (kt : x ≤ y → vr_W p l e R s m args below meth c D A nL cells slots Q ws tgt lv rest) (kf : ¬ x ≤ y → vr_W p l e R s m args below meth c D A nL cells slots Q ws pc' lv rest) : vr_W p l e R s m args below meth c D A nL cells slots Q ws pc lv (.int (nI y) :: .int (nI x) :: rest) := by
  subst hp
  exact fun H locs ls hP hD hS hl => lv_icmp_le hF.1.1 hF.1.2.1 hdg ht (fun q => kt ((nI_leI hx hy).mp q) H locs ls hP hD hS hl) (fun q => kf (fun z => q ((nI_leI hx hy).mpr z)) H locs ls hP hD hS hl)
theorem vr_if_eqN (hF : vr_F p s m c cc nL args Ts own D tys A) {x : Nat} (hx : x < 2 ^ 31) {off : Int} (hdg : decode cc pc = .ok (.ifCond .eq off, 3)) (ht : (pc : Int) + off = (tgt : Int)) (hp : pc + 3 = pc') (kt : x = 0 → vr_W p l e R s m args below meth c D A nL cells slots Q ws tgt lv rest) (kf : ¬ x = 0 → vr_W p l e R s m args below meth c D A nL cells slots Q ws pc' lv rest) : vr_W p l e R s m args below meth c D A nL cells slots Q ws pc lv (.int (nI x) :: rest) := by
  subst hp
  exact fun H locs ls hP hD hS hl => lv_if_eq hF.1.1 hF.1.2.1 hdg ht (fun q => kt ((nI_eq hx (by decide)).mp (q.trans vr_b0)) H locs ls hP hD hS hl) (fun q => kf (fun z => q (by rw [z]; rfl)) H locs ls hP hD hS hl)
theorem vr_if_neN (hF : vr_F p s m c cc nL args Ts own D tys A) {x : Nat} (hx : x < 2 ^ 31) {off : Int} (hdg : decode cc pc = .ok (.ifCond .ne off, 3)) (ht : (pc : Int) + off = (tgt : Int)) (hp : pc + 3 = pc') (kt : ¬ x = 0 → vr_W p l e R s m args below meth c D A nL cells slots Q ws tgt lv rest) (kf : x = 0 → vr_W p l e R s m args below meth c D A nL cells slots Q ws pc' lv rest) : vr_W p l e R s m args below meth c D A nL cells slots Q ws pc lv (.int (nI x) :: rest) := by
  subst hp
  exact fun H locs ls hP hD hS hl => lv_if_ne hF.1.1 hF.1.2.1 hdg ht (fun q => kt (fun z => q (by rw [z]; rfl)) H locs ls hP hD hS hl) (fun q => kf ((nI_eq hx (by decide)).mp (q.trans vr_b0)) H locs ls hP hD hS hl)
theorem vr_if_eqB (hF : vr_F p s m c cc nL args Ts own D tys A) {b : Bool} {off : Int} (hdg : decode cc pc = .ok (.ifCond .eq off, 3)) (ht : (pc : Int) + off = (tgt : Int)) (hp : pc + 3 = pc') (kt : b = false → vr_W p l e R s m args below meth c D A nL cells slots Q ws tgt lv rest) (kf : b = true → vr_W p l e R s m args below meth c D A nL cells slots Q ws pc' lv rest) : vr_W p l e R s m args below meth c D A nL cells slots Q ws pc lv (.int (vr_b b) :: rest) := by
  subst hp
  exact fun H locs ls hP hD hS hl => lv_if_eq hF.1.1 hF.1.2.1 hdg ht (fun q => kt ((vr_b_eq0 b).mp q) H locs ls hP hD hS hl) (fun q => kf (by cases b; exact absurd rfl q; rfl) H locs ls hP hD hS hl)
theorem vr_if_neB (hF : vr_F p s m c cc nL args Ts own D tys A) {b : Bool} {off : Int} (hdg : decode cc pc = .ok (.ifCond .ne off, 3)) (ht : (pc : Int) + off = (tgt : Int)) (hp : pc + 3 = pc') (kt : b = true → vr_W p l e R s m args below meth c D A nL cells slots Q ws tgt lv rest) (kf : b = false → vr_W p l e R s m args below meth c D A nL cells slots Q ws pc' lv rest) : vr_W p l e R s m args below meth c D A nL cells slots Q ws pc lv (.int (vr_b b) :: rest) := by
  subst hp
  exact fun H locs ls hP hD hS hl => lv_if_ne hF.1.1 hF.1.2.1 hdg ht (fun q => kt (by cases b; exact absurd rfl q; rfl) H locs ls hP hD hS hl) (fun q => kf ((vr_b_eq0 b).mp q) H locs ls hP hD hS hl)
theorem vr_lcmp_eq (hF : vr_F p s m c cc nL args Ts own D tys A) {x y : Int64} {off : Int} (hdg : decode cc pc = .ok (.lcmp, 1)) (hd2 : decode cc (pc + 1) = .ok (.ifCond .eq off, 3)) (ht : ((pc + 1 : Nat) : Int) + off = (tgt : Int)) (hp : pc + 1 + 3 = pc') (kt : x = y → vr_W p l e R s m args below meth c D A nL cells slots Q ws tgt lv rest) (kf : ¬ x = y → vr_W p l e R s m args below meth c D A nL cells slots Q ws pc' lv rest) : vr_W p l e R s m args below meth c D A nL cells slots Q ws pc lv (.long y :: .long x :: rest) := by
  subst hp
  exact fun H locs ls hP hD hS hl => W.lcmp hF.1.1 hF.1.2.1 hdg (lv_if_eq hF.1.1 hF.1.2.1 hd2 ht (fun q => kt ((lg_cmp_eq x y).mp q) H locs ls hP hD hS hl) (fun q => kf (fun z => q ((lg_cmp_eq x y).mpr z)) H locs ls hP hD hS hl))
theorem vr_lcmp_ne (hF : vr_F p s m c cc nL args Ts own D tys A) {x y : Int64} {off : Int} (hdg : decode cc pc = .ok (.lcmp, 1)) (hd2 : decode cc (pc + 1) = .ok (.ifCond .ne off, 3)) (ht : ((pc + 1 : Nat) : Int) + off = (tgt : Int)) (hp : pc + 1 + 3 = pc') (kt : ¬ x = y → vr_W p l e R s m args below meth c D A nL cells slots Q ws tgt lv rest) (kf : x = y → vr_W p l e R s m args below meth c D A nL cells slots Q ws pc' lv rest) : vr_W p l e R s m args below meth c D A nL cells slots Q ws pc lv (.long y :: .long x :: rest) := by
  subst hp
  exact fun H locs ls hP hD hS hl => W.lcmp hF.1.1 hF.1.2.1 hdg (lv_if_ne hF.1.1 hF.1.2.1 hd2 ht (fun q => kt (fun z => q ((lg_cmp_eq x y).mpr z)) H locs ls hP hD hS hl) (fun q => kf ((lg_cmp_eq x y).mp q) H locs ls hP hD hS hl))
theorem vr_lcmp_lt (hF : vr_F p s m c cc nL args Ts own D tys A) {x y : Int64} {off : Int} (hdg : decode cc pc = .ok (.lcmp, 1)) (hd2 : decode cc (pc + 1) = .ok (.ifCond .lt off, 3)) (ht : ((pc + 1 : Nat) : Int) + off = (tgt : Int)) (hp : pc + 1 + 3 = pc') (kt : x < y → vr_W p l e R s m args below meth c D A nL cells slots Q ws tgt lv rest) (kf : ¬ x < y → vr_W p l e R s m args below meth c D A nL cells slots Q ws pc' lv rest) : vr_W p l e R s m args below meth c D A nL cells slots Q ws pc lv (.long y :: .long x :: rest) := by
  subst hp
  exact fun H locs ls hP hD hS hl => W.lcmp hF.1.1 hF.1.2.1 hdg (lv_if_lt hF.1.1 hF.1.2.1 hd2 ht (fun q => kt ((lg_cmp_lt x y).mp q) H locs ls hP hD hS hl) (fun q => kf (fun z => q ((lg_cmp_lt x y).mpr z)) H locs ls hP hD hS hl))
theorem vr_lcmp_ge (hF : vr_F p s m c cc nL args Ts own D tys A) {x y : Int64} {off : Int} (hdg : decode cc pc = .ok (.lcmp, 1)) (hd2 : decode cc (pc + 1) = .ok (.ifCond .ge off, 3)) (ht : ((pc + 1 : Nat) : Int) + off = (tgt : Int)) (hp : pc + 1 + 3 = pc') (kt : y ≤ x → vr_W p l e R s m args below meth c D A nL cells slots Q ws tgt lv rest) (kf : ¬ y ≤ x → vr_W p l e R s m args below meth c D A nL cells slots Q ws pc' lv rest) : vr_W p l e R s m args below meth c D A nL cells slots Q ws pc lv (.long y :: .long x :: rest) := by
  subst hp
  exact fun H locs ls hP hD hS hl => W.lcmp hF.1.1 hF.1.2.1 hdg (lv_if_ge hF.1.1 hF.1.2.1 hd2 ht (fun q => kt ((lg_cmp_ge x y).mp q) H locs ls hP hD hS hl) (fun q => kf (fun z => q ((lg_cmp_ge x y).mpr z)) H locs ls hP hD hS hl))
theorem vr_lcmp_gt (hF : vr_F p s m c cc nL args Ts own D tys A) {x y : Int64} {off : Int} (hdg : decode cc pc = .ok (.lcmp, 1)) (hd2 : decode cc (pc + 1) = .ok (.ifCond .gt off, 3)) (ht : ((pc + 1 : Nat) : Int) + off = (tgt : Int)) (hp : pc + 1 + 3 = pc') (kt : y < x → vr_W p l e R s m args below meth c D A nL cells slots Q ws tgt lv rest) (kf : ¬ y < x → vr_W p l e R s m args below meth c D A nL cells slots Q ws pc' lv rest) : vr_W p l e R s m args below meth c D A nL cells slots Q ws pc lv (.long y :: .long x :: rest) := by
  subst hp
  exact fun H locs ls hP hD hS hl => W.lcmp hF.1.1 hF.1.2.1 hdg (lv_if_gt hF.1.1 hF.1.2.1 hd2 ht (fun q => kt ((lg_cmp_gt x y).mp q) H locs ls hP hD hS hl) (fun q => kf (fun z => q ((lg_cmp_gt x y).mpr z)) H locs ls hP hD hS hl))
theorem vr_lcmp_le (hF : vr_F p s m c cc nL args Ts own D tys A) {x y : Int64} {off : Int} (hdg : decode cc pc = .ok (.lcmp, 1)) (hd2 : decode cc (pc + 1) = .ok (.ifCond .le off, 3)) (ht : ((pc + 1 : Nat) : Int) + off = (tgt : Int)) (hp : pc + 1 + 3 = pc') (kt : x ≤ y → vr_W p l e R s m args below meth c D A nL cells slots Q ws tgt lv rest) (kf : ¬ x ≤ y → vr_W p l e R s m args below meth c D A nL cells slots Q ws pc' lv rest) : vr_W p l e R s m args below meth c D A nL cells slots Q ws pc lv (.long y :: .long x :: rest) := by
  subst hp
  exact fun H locs ls hP hD hS hl => W.lcmp hF.1.1 hF.1.2.1 hdg (lv_if_le hF.1.1 hF.1.2.1 hd2 ht (fun q => kt ((lg_cmp_le x y).mp q) H locs ls hP hD hS hl) (fun q => kf (fun z => q ((lg_cmp_le x y).mpr z)) H locs ls hP hD hS hl))
theorem vr_if_ltN (hF : vr_F p s m c cc nL args Ts own D tys A) {x : Nat} (hx : x < 2 ^ 31) {off : Int} (hdg : decode cc pc = .ok (.ifCond .lt off, 3)) (ht : (pc : Int) + off = (tgt : Int)) (hp : pc + 3 = pc') (k : vr_W p l e R s m args below meth c D A nL cells slots Q ws pc' lv rest) : vr_W p l e R s m args below meth c D A nL cells slots Q ws pc lv (.int (nI x) :: rest) := by
  subst hp
  exact fun H locs ls hP hD hS hl => lv_if_lt hF.1.1 hF.1.2.1 hdg ht (fun q => absurd q (nI_pos hx)) (fun _ => k H locs ls hP hD hS hl)
theorem vr_if_geN (hF : vr_F p s m c cc nL args Ts own D tys A) {x : Nat} (hx : x < 2 ^ 31) {off : Int} (hdg : decode cc pc = .ok (.ifCond .ge off, 3)) (ht : (pc : Int) + off = (tgt : Int)) (k : vr_W p l e R s m args below meth c D A nL cells slots Q ws tgt lv rest) : vr_W p l e R s m args below meth c D A nL cells slots Q ws pc lv (.int (nI x) :: rest) :=
  fun H locs ls hP hD hS hl => lv_if_ge hF.1.1 hF.1.2.1 hdg ht (fun _ => k H locs ls hP hD hS hl) (fun q => absurd (nI_pos' hx) q)
theorem vr_goto (hF : vr_F p s m c cc nL args Ts own D tys A) {off : Int} {st : List Value} (hdg : decode cc pc = .ok (.goto off, 3)) (ht : (pc : Int) + off = (tgt : Int)) (k : vr_W p l e R s m args below meth c D A nL cells slots Q ws tgt lv st) : vr_W p l e R s m args below meth c D A nL cells slots Q ws pc lv st :=
  fun H locs ls hP hD hS hl => lv_goto hF.1.1 hF.1.2.1 hdg ht (k H locs ls hP hD hS hl)
theorem vr_tabOut (hF : vr_F p s m c cc nL args Ts own D tys A) {dflt lo hi : Int} {offs : Array Int} {len : Nat} {x : Int32} (hdg : decode cc pc = .ok (.tableswitch dflt lo hi offs, len)) (h : x.toInt < lo ∨ hi < x.toInt) (ht : (pc : Int) + dflt = (tgt : Int)) (k : vr_W p l e R s m args below meth c D A nL cells slots Q ws tgt lv rest) : vr_W p l e R s m args below meth c D A nL cells slots Q ws pc lv (.int x :: rest) :=
  fun H locs ls hP hD hS hl => lv_tableOut hF.1.1 hF.1.2.1 hdg h ht (k H locs ls hP hD hS hl)
theorem vr_tabIn (hF : vr_F p s m c cc nL args Ts own D tys A) {dflt lo hi : Int} {offs : Array Int} {len : Nat} {x : Int32} {off : Int} (hdg : decode cc pc = .ok (.tableswitch dflt lo hi offs, len)) (h1 : ¬ x.toInt < lo) (h2 : ¬ hi < x.toInt) (ho : offs[(x.toInt - lo).toNat]? = some off) (ht : (pc : Int) + off = (tgt : Int)) (k : vr_W p l e R s m args below meth c D A nL cells slots Q ws tgt lv rest) : vr_W p l e R s m args below meth c D A nL cells slots Q ws pc lv (.int x :: rest) :=
  fun H locs ls hP hD hS hl => lv_tableIn hF.1.1 hF.1.2.1 hdg h1 h2 ho ht (k H locs ls hP hD hS hl)
theorem vr_get (hF : vr_F p s m c cc nL args Ts own D tys A) {a : Nat} {ref C : String} {T : u_T} {N ci index : Nat} {fs : List Value} {v : Value} (q0 k0 : Nat) (hin : ∀ w ∈ u_ws C T N, w ∈ Ts) (hw : Cond.fieldLink own index ref (T k0).2.1 (T k0).2.2.1 ∈ Ts) (hr : (T k0).1 = ref) (hk : k0 < N) (he : ws[q0]? = some (a, .inr (ci, fs))) (hc : vwCl[ci]? = some (C, T, N)) (hv : fs[k0]? = some v) (hdg : decode cc pc = .ok (.getfield index, 3)) (hp : pc + 3 = pc') (k : vr_W p l e R s m args below meth c D A nL cells slots Q ws pc' lv (v :: rest)) : vr_W p l e R s m args below meth c D A nL cells slots Q ws pc lv (.ref a :: rest) := by
  subst hp
  exact fun H locs ls hP hD hS hl => va_get hF.1.1 hF.1.2.1 hF.1.2.2.2.2 hin hF.1.2.2.2.1 hF.2.1 hP q0 he hc k0 hk (hF.1.2.2.2.2 _ hw) (fun _ h9 => hr ▸ h9) hv hdg (k H locs ls hP hD hS hl)
theorem vr_put (hF : vr_F p s m c cc nL args Ts own D tys A) {a : Nat} {ref C : String} {T : u_T} {N ci index : Nat} {fs : List Value} {v : Value} {ws' : va_W} (q0 k0 : Nat) (hin : ∀ w ∈ u_ws C T N, w ∈ Ts) (hw : Cond.fieldLink own index ref (T k0).2.1 (T k0).2.2.1 ∈ Ts) (hr : (T k0).1 = ref) (hk : k0 < N) (he : ws[q0]? = some (a, .inr (ci, fs))) (hc : vwCl[ci]? = some (C, T, N)) (ty0 : Nat → FieldType) (hty : ∀ k, k < N → parseFieldDescriptor (T k).2.2.1 = some (ty0 k)) (hnm : ∀ a, a < N → ∀ b, b < N → a ≠ b → (T a).2.1 ≠ (T b).2.1) (hfin : (T k0).2.2.2 = false) (hn : narrow (ty0 k0) v = v) (hfit : fits (ty0 k0) v = true) (hl0 : k0 < fs.length) (hw' : ws.set q0 (a, .inr (ci, fs.set k0 v)) = ws') (hdg : decode cc pc = .ok (.putfield index, 3)) (hp : pc + 3 = pc') (k : vr_W p l e R s m args below meth c D A nL cells slots Q ws' pc' lv (rest)) : vr_W p l e R s m args below meth c D A nL cells slots Q ws pc lv (v :: .ref a :: rest) := by
  subst hp
  exact fun H locs ls hP hD hS hl => va_put hF.1.1 hF.1.2.1 hF.1.2.2.2.2 hin ty0 hty hnm hF.1.2.2.2.1 hF.2.1 hP hD hS q0 he hc k0 hk (hF.1.2.2.2.2 _ hw) (fun _ h9 => hr ▸ h9) hfin (hty k0 hk) hn hfit hl0 hdg (by subst hw'; exact (fun H locs hP hD hS => k H locs ls hP hD hS hl))
theorem vr_putF (hF : vr_F p s m c cc nL args Ts own D tys A) {a : Nat} {ref C : String} {T : u_T} {N ci index : Nat} {fs : List Value} {v : Value} {ws' : va_W} (q0 k0 : Nat) (hin : ∀ w ∈ u_ws C T N, w ∈ Ts) (hw : Cond.fieldLink own index ref (T k0).2.1 (T k0).2.2.1 ∈ Ts) (hr : (T k0).1 = ref) (hk : k0 < N) (he : ws[q0]? = some (a, .inr (ci, fs))) (hc : vwCl[ci]? = some (C, T, N)) (ty0 : Nat → FieldType) (hty : ∀ k, k < N → parseFieldDescriptor (T k).2.2.1 = some (ty0 k)) (hnm : ∀ a, a < N → ∀ b, b < N → a ≠ b → (T a).2.1 ≠ (T b).2.1) (hfin : (T k0).2.2.2 = true) (hin2 : meth.name = "<init>") (hdecl : (T k0).1 = own) (hn : narrow (ty0 k0) v = v) (hfit : fits (ty0 k0) v = true) (hl0 : k0 < fs.length) (hw' : ws.set q0 (a, .inr (ci, fs.set k0 v)) = ws') (hdg : decode cc pc = .ok (.putfield index, 3)) (hp : pc + 3 = pc') (k : vr_W p l e R s m args below meth c D A nL cells slots Q ws' pc' lv (rest)) : vr_W p l e R s m args below meth c D A nL cells slots Q ws pc lv (v :: .ref a :: rest) := by
  subst hp
  exact fun H locs ls hP hD hS hl => va_putF hF.1.1 hF.1.2.1 hF.1.2.2.2.2 hin ty0 hty hnm hF.1.2.2.2.1 hF.2.1 hP hD hS q0 he hc k0 hk (hF.1.2.2.2.2 _ hw) (fun _ h9 => hr ▸ h9) hfin hin2 hdecl (hty k0 hk) hn hfit hl0 hdg (by subst hw'; exact (fun H locs hP hD hS => k H locs ls hP hD hS hl))
theorem vr_iald (hF : vr_F p s m c cc nL args Ts own D tys A) {a : Nat} {cA : ClassId} {n i : Nat} {f : Nat → Int32} (q0 t0 : Nat) (ha : ws[q0]? = some (a, .inl (cA, n, .inl f))) (ht : tys[t0]? = some (cA, .int)) (hi : i < n) (hN : n ≤ 65536) (hdg : decode cc pc = .ok (.iaload, 1)) (hp : pc + 1 = pc') (k : vr_W p l e R s m args below meth c D A nL cells slots Q ws pc' lv (.int (f i) :: rest)) : vr_W p l e R s m args below meth c D A nL cells slots Q ws pc lv (.int (nI i) :: .ref a :: rest) := by
  subst hp
  exact fun H locs ls hP hD hS hl => va_iald hF.1.1 hF.1.2.1 hF.2.1 hP q0 t0 ha ht (vp_in_nI hi (Nat.lt_of_le_of_lt hN (by decide))) hdg (by rw [nI_clamp (Nat.lt_trans hi (Nat.lt_of_le_of_lt hN (by decide)))]; exact k H locs ls hP hD hS hl)
theorem vr_lald (hF : vr_F p s m c cc nL args Ts own D tys A) {a : Nat} {cA : ClassId} {n i : Nat} {f : Nat → Int64} (q0 t0 : Nat) (ha : ws[q0]? = some (a, .inl (cA, n, .inr (.inl f)))) (ht : tys[t0]? = some (cA, .long)) (hi : i < n) (hN : n ≤ 65536) (hdg : decode cc pc = .ok (.laload, 1)) (hp : pc + 1 = pc') (k : vr_W p l e R s m args below meth c D A nL cells slots Q ws pc' lv (.long (f i) :: rest)) : vr_W p l e R s m args below meth c D A nL cells slots Q ws pc lv (.int (nI i) :: .ref a :: rest) := by
  subst hp
  exact fun H locs ls hP hD hS hl => va_lald hF.1.1 hF.1.2.1 hF.2.1 hP q0 t0 ha ht (vp_in_nI hi (Nat.lt_of_le_of_lt hN (by decide))) hdg (by rw [nI_clamp (Nat.lt_trans hi (Nat.lt_of_le_of_lt hN (by decide)))]; exact k H locs ls hP hD hS hl)
theorem vr_zald (hF : vr_F p s m c cc nL args Ts own D tys A) {a : Nat} {cA : ClassId} {n i : Nat} {f : Nat → Int32} (q0 t0 : Nat) (ha : ws[q0]? = some (a, .inl (cA, n, .inl f))) (ht : tys[t0]? = some (cA, .boolean)) (hi : i < n) (hN : n ≤ 65536) (hdg : decode cc pc = .ok (.baload, 1)) (hp : pc + 1 = pc') (k : vr_W p l e R s m args below meth c D A nL cells slots Q ws pc' lv (.int (f i) :: rest)) : vr_W p l e R s m args below meth c D A nL cells slots Q ws pc lv (.int (nI i) :: .ref a :: rest) := by
  subst hp
  exact fun H locs ls hP hD hS hl => va_zald hF.1.1 hF.1.2.1 hF.2.1 hP q0 t0 ha ht (vp_in_nI hi (Nat.lt_of_le_of_lt hN (by decide))) hdg (by rw [nI_clamp (Nat.lt_trans hi (Nat.lt_of_le_of_lt hN (by decide)))]; exact k H locs ls hP hD hS hl)
theorem vr_iast (hF : vr_F p s m c cc nL args Ts own D tys A) {a : Nat} {cA : ClassId} {n i : Nat} {f : Nat → Int32} {x : Int32} {ws' : va_W} (q0 t0 : Nat) (ha : ws[q0]? = some (a, .inl (cA, n, .inl f))) (ht : tys[t0]? = some (cA, .int)) (hi : i < n) (hN : n ≤ 65536) (hw' : ws.set q0 (a, .inl (cA, n, .inl (upd f i x))) = ws') (hdg : decode cc pc = .ok (.iastore, 1)) (hp : pc + 1 = pc') (k : vr_W p l e R s m args below meth c D A nL cells slots Q ws' pc' lv (rest)) : vr_W p l e R s m args below meth c D A nL cells slots Q ws pc lv (.int x :: .int (nI i) :: .ref a :: rest) := by
  subst hp
  exact fun H locs ls hP hD hS hl => va_iast hF.1.1 hF.1.2.1 hF.2.1 hP hD hS q0 t0 ha ht (vp_in_nI hi (Nat.lt_of_le_of_lt hN (by decide))) hdg (by rw [nI_clamp (Nat.lt_trans hi (Nat.lt_of_le_of_lt hN (by decide)))]; subst hw'; exact (fun H locs hP hD hS => k H locs ls hP hD hS hl))
theorem vr_iastN (hF : vr_F p s m c cc nL args Ts own D tys A) {a : Nat} {cA : ClassId} {n i : Nat} {f : Nat → Nat} {x : Nat} {ws' : va_W} (q0 t0 : Nat) (ha : ws[q0]? = some (a, .inl (cA, n, .inl (fun j => nI (f j))))) (ht : tys[t0]? = some (cA, .int)) (hi : i < n) (hN : n ≤ 65536) (hw' : ws.set q0 (a, .inl (cA, n, .inl (fun j => nI (vr_un f i x j)))) = ws') (hdg : decode cc pc = .ok (.iastore, 1)) (hp : pc + 1 = pc') (k : vr_W p l e R s m args below meth c D A nL cells slots Q ws' pc' lv (rest)) : vr_W p l e R s m args below meth c D A nL cells slots Q ws pc lv (.int (nI x) :: .int (nI i) :: .ref a :: rest) := by
  subst hp
  exact fun H locs ls hP hD hS hl => va_iast hF.1.1 hF.1.2.1 hF.2.1 hP hD hS q0 t0 ha ht (vp_in_nI hi (Nat.lt_of_le_of_lt hN (by decide))) hdg (by rw [nI_clamp (Nat.lt_trans hi (Nat.lt_of_le_of_lt hN (by decide))), vr_upd_n]; subst hw'; exact (fun H locs hP hD hS => k H locs ls hP hD hS hl))
theorem vr_last (hF : vr_F p s m c cc nL args Ts own D tys A) {a : Nat} {cA : ClassId} {n i : Nat} {f : Nat → Int64} {x : Int64} {ws' : va_W} (q0 t0 : Nat) (ha : ws[q0]? = some (a, .inl (cA, n, .inr (.inl f)))) (ht : tys[t0]? = some (cA, .long)) (hi : i < n) (hN : n ≤ 65536) (hw' : ws.set q0 (a, .inl (cA, n, .inr (.inl (vp_updL f i x)))) = ws') (hdg : decode cc pc = .ok (.lastore, 1)) (hp : pc + 1 = pc') (k : vr_W p l e R s m args below meth c D A nL cells slots Q ws' pc' lv (rest)) : vr_W p l e R s m args below meth c D A nL cells slots Q ws pc lv (.long x :: .int (nI i) :: .ref a :: rest) := by
  subst hp
  exact fun H locs ls hP hD hS hl => va_last hF.1.1 hF.1.2.1 hF.2.1 hP hD hS q0 t0 ha ht (vp_in_nI hi (Nat.lt_of_le_of_lt hN (by decide))) hdg (by rw [nI_clamp (Nat.lt_trans hi (Nat.lt_of_le_of_lt hN (by decide)))]; subst hw'; exact (fun H locs hP hD hS => k H locs ls hP hD hS hl))
theorem vr_zastB (hF : vr_F p s m c cc nL args Ts own D tys A) {a : Nat} {cA : ClassId} {n i : Nat} {f : Nat → Bool} {x : Bool} {ws' : va_W} (q0 t0 : Nat) (ha : ws[q0]? = some (a, .inl (cA, n, .inl (fun j => vr_b (f j))))) (ht : tys[t0]? = some (cA, .boolean)) (hi : i < n) (hN : n ≤ 65536) (hw' : ws.set q0 (a, .inl (cA, n, .inl (fun j => vr_b (vr_ub f i x j)))) = ws') (hdg : decode cc pc = .ok (.bastore, 1)) (hp : pc + 1 = pc') (k : vr_W p l e R s m args below meth c D A nL cells slots Q ws' pc' lv (rest)) : vr_W p l e R s m args below meth c D A nL cells slots Q ws pc lv (.int (vr_b x) :: .int (nI i) :: .ref a :: rest) := by
  subst hp
  exact fun H locs ls hP hD hS hl => va_zast hF.1.1 hF.1.2.1 hF.2.1 hP hD hS q0 t0 ha ht (vp_in_nI hi (Nat.lt_of_le_of_lt hN (by decide))) hdg (by rw [nI_clamp (Nat.lt_trans hi (Nat.lt_of_le_of_lt hN (by decide))), vr_nzz, vr_upd_b]; subst hw'; exact (fun H locs hP hD hS => k H locs ls hP hD hS hl))
/-- to return the int v over the world post is what Q asks -/
def vr_RtI (p : Program) (l : Launch) (e : Env) (R : Room) (s : State) (m : MethodId) (args : Array Value) (below : List Frame) (meth : Method) (c : Code) (cc : ByteArray) (D : va_G) (A : Nat → Prop) (nL cells slots : Nat) (Q : State → Prop) (post : va_W) (v : Int32) : Prop :=
  ∀ (pc : Nat) (lv : List (Nat × Value)), decode cc pc = .ok (.ireturn, 1) → vr_W p l e R s m args below meth c D A nL cells slots Q post pc lv [.int v]
def vr_RtL (p : Program) (l : Launch) (e : Env) (R : Room) (s : State) (m : MethodId) (args : Array Value) (below : List Frame) (meth : Method) (c : Code) (cc : ByteArray) (D : va_G) (A : Nat → Prop) (nL cells slots : Nat) (Q : State → Prop) (post : va_W) (v : Int64) : Prop :=
  ∀ (pc : Nat) (lv : List (Nat × Value)), decode cc pc = .ok (.lreturn, 1) → vr_W p l e R s m args below meth c D A nL cells slots Q post pc lv [.long v]
def vr_RtV (p : Program) (l : Launch) (e : Env) (R : Room) (s : State) (m : MethodId) (args : Array Value) (below : List Frame) (meth : Method) (c : Code) (cc : ByteArray) (D : va_G) (A : Nat → Prop) (nL cells slots : Nat) (Q : State → Prop) (post : va_W) : Prop :=
  ∀ (pc : Nat) (lv : List (Nat × Value)), decode cc pc = .ok (.return_, 1) → vr_W p l e R s m args below meth c D A nL cells slots Q post pc lv []
theorem vr_reti {v v' : Int32} (hret : vr_RtI p l e R s m args below meth c cc D A nL cells slots Q ws v') (hdg : decode cc pc = .ok (.ireturn, 1)) (h : v = v') : vr_W p l e R s m args below meth c D A nL cells slots Q ws pc lv [.int v] := by
  subst h; exact hret pc lv hdg
theorem vr_retl {v v' : Int64} (hret : vr_RtL p l e R s m args below meth c cc D A nL cells slots Q ws v') (hdg : decode cc pc = .ok (.lreturn, 1)) (h : v = v') : vr_W p l e R s m args below meth c D A nL cells slots Q ws pc lv [.long v] := by
  subst h; exact hret pc lv hdg
theorem vr_retv {post : va_W} (hret : vr_RtV p l e R s m args below meth c cc D A nL cells slots Q post) (hdg : decode cc pc = .ok (.return_, 1)) (h : ws = post) : vr_W p l e R s m args below meth c D A nL cells slots Q ws pc lv [] := by
  subst h; exact hret pc lv hdg
theorem vr_retiw {v v' : Int32} {post : va_W} (hret : vr_RtI p l e R s m args below meth c cc D A nL cells slots Q post v') (hdg : decode cc pc = .ok (.ireturn, 1)) (hw : ws = post) (h : v = v') : vr_W p l e R s m args below meth c D A nL cells slots Q ws pc lv [.int v] := by
  subst h; subst hw; exact hret pc lv hdg
end BASE
/-- a method's world at its start and behind it -/
def vr_P (D : va_G) (tys : List (ClassId × FieldType)) (ws : va_W) (sz : Nat) (U : State) : Prop := U.heap.size = sz ∧ va_P D vwCl ws U.heap ∧ va_K D vwCl tys U ∧ va_D (fun _ => True) ws
def vr_B (D : va_G) (tys : List (ClassId × FieldType)) (A : Nat → Prop) (ws : va_W) (t : State) : Prop := va_P D vwCl ws t.heap ∧ va_K D vwCl tys t ∧ va_D A ws
/-- a contract whose answer and whose world behind it are told: int (and boolean), long, void; it makes nothing -/
def vr_Ci (l : Launch) (y : MethodName) (wy : List Cond) (rm : Room) (D : va_G) (tys : List (ClassId × FieldType)) (av : List Value) (pre post : va_W) (ans : Int32) : Prop :=
  ∀ sz : Nat, Met l y wy rm (va_Pc av (vr_P D tys pre sz)) (va_Qi (fun r (_ : Unit) => r = ans) (fun _ t => vr_B D tys (va_A pre sz) post t) (va_A pre sz)) 0 0 (va_A pre sz)
def vr_Cl (l : Launch) (y : MethodName) (wy : List Cond) (rm : Room) (D : va_G) (tys : List (ClassId × FieldType)) (av : List Value) (pre post : va_W) (ans : Int64) : Prop :=
  ∀ sz : Nat, Met l y wy rm (va_Pc av (vr_P D tys pre sz)) (va_Ql (fun r (_ : Unit) => r = ans) (fun _ t => vr_B D tys (va_A pre sz) post t) (va_A pre sz)) 0 0 (va_A pre sz)
def vr_Cv (l : Launch) (y : MethodName) (wy : List Cond) (rm : Room) (D : va_G) (tys : List (ClassId × FieldType)) (av : List Value) (pre post : va_W) : Prop :=
  ∀ sz : Nat, Met l y wy rm (va_Pc av (vr_P D tys pre sz)) (va_Qv (fun (_ : Unit) => True) (fun _ t => vr_B D tys (va_A pre sz) post t) (va_A pre sz)) 0 0 (va_A pre sz)
theorem vr_blind {D : va_G} {tys : List (ClassId × FieldType)} {av : List Value} {pre : va_W} {sz : Nat} : FrameBlind (va_Pc av (vr_P D tys pre sz)) := fun a U g mk q => by
  obtain ⟨q0, q1, qP, qK, qD⟩ := q
  exact ⟨q0, q1, qP, va_K.moved (u := U) (U := U.calling g mk a) (Vm.Alike.refl U.vm) qK, qD⟩
theorem vr_Ci_mk {l : Launch} {y : MethodName} {wy wy' : List Cond} {rm : Room} {D : va_G} {tys : List (ClassId × FieldType)} {av : List Value} {pre post : va_W} {cc : ByteArray} {nL : Nat} {ty : FieldType} {ans : Int32} (hn : narrow ty (.int ans) = .int ans) (hy : plainName y.cls = true) (hw : wy = Cond.code y cc nL (some ty) :: wy') (hnL : (lg_sl av).length ≤ nL)
    (body : ∀ (p : Program) (e : Env) (s : State) (m : MethodId) (args : Array Value) (below : List Frame) (meth : Method) (c : Code) (A : Nat → Prop) (Q : State → Prop), vr_F p s m c cc nL args wy y.cls D tys A → vr_RtI p l e rm s m args below meth c cc D A nL 0 0 Q post ans → vr_W p l e rm s m args below meth c D A nL 0 0 Q pre 0 (lv_args 0 av) []) : vr_Ci l y wy rm D tys av pre post ans := by
  intro sz
  refine Met.ofW (cc := cc) (maxL := nL) (ret := some ty) hy hw ?_
  intro p e s m args below meth c s₁ B hml hv
  obtain ⟨rfl, hsz, hP, hK, hD0⟩ := hv
  have hts := atoms_spec (ws := wy) B.pre
  have hown : s.vm.findClass y.cls = some m.cls := findClass_of_methodNamed B.named
  have hlocks := B.notSynchronized
  have hr := B.returns
  subst hsz
  have hD := hD0.self (sz := s.heap.size)
  have hl := lv_entry av (n := nL) hnL
  rw [lg_entry_eq]
  generalize (lg_sl av ++ List.replicate (nL - (lg_sl av).length) Slot.unset).toArray = ls at hl ⊢
  refine body p e s m _ below meth c (va_A pre s.heap.size) _ ⟨⟨B.exec, B.bytes, hml, hown, hts⟩, hK, fun q h => Or.inr h⟩ ?_ s.heap [] ls hP hD va_S.rf hl
  intro pc lv hdg H locs ls hP hD hS hl
  exact W.zret B.exec B.bytes hr hn (fun t ht hW => ⟨⟨ans, (), rfl, rfl, by rw [ht]; exact hP, va_K.moved hW.alike hK, hD⟩, hS.F ht⟩) hS.2.2 hdg
theorem vr_Cl_mk {l : Launch} {y : MethodName} {wy wy' : List Cond} {rm : Room} {D : va_G} {tys : List (ClassId × FieldType)} {av : List Value} {pre post : va_W} {cc : ByteArray} {nL : Nat} {ans : Int64} (hy : plainName y.cls = true) (hw : wy = Cond.code y cc nL (some .long) :: wy') (hnL : (lg_sl av).length ≤ nL)
    (body : ∀ (p : Program) (e : Env) (s : State) (m : MethodId) (args : Array Value) (below : List Frame) (meth : Method) (c : Code) (A : Nat → Prop) (Q : State → Prop), vr_F p s m c cc nL args wy y.cls D tys A → vr_RtL p l e rm s m args below meth c cc D A nL 0 0 Q post ans → vr_W p l e rm s m args below meth c D A nL 0 0 Q pre 0 (lv_args 0 av) []) : vr_Cl l y wy rm D tys av pre post ans := by
  intro sz
  refine Met.ofW (cc := cc) (maxL := nL) (ret := some .long) hy hw ?_
  intro p e s m args below meth c s₁ B hml hv
  obtain ⟨rfl, hsz, hP, hK, hD0⟩ := hv
  have hts := atoms_spec (ws := wy) B.pre
  have hown : s.vm.findClass y.cls = some m.cls := findClass_of_methodNamed B.named
  have hlocks := B.notSynchronized
  have hr := B.returns
  subst hsz
  have hD := hD0.self (sz := s.heap.size)
  have hl := lv_entry av (n := nL) hnL
  rw [lg_entry_eq]
  generalize (lg_sl av ++ List.replicate (nL - (lg_sl av).length) Slot.unset).toArray = ls at hl ⊢
  refine body p e s m _ below meth c (va_A pre s.heap.size) _ ⟨⟨B.exec, B.bytes, hml, hown, hts⟩, hK, fun q h => Or.inr h⟩ ?_ s.heap [] ls hP hD va_S.rf hl
  intro pc lv hdg H locs ls hP hD hS hl
  exact W.lret B.exec B.bytes hr (fun t ht hW => ⟨⟨ans, (), rfl, rfl, by rw [ht]; exact hP, va_K.moved hW.alike hK, hD⟩, hS.F ht⟩) hS.2.2 hdg
theorem vr_Cv_mk {l : Launch} {y : MethodName} {wy wy' : List Cond} {rm : Room} {D : va_G} {tys : List (ClassId × FieldType)} {av : List Value} {pre post : va_W} {cc : ByteArray} {nL : Nat}  (hy : plainName y.cls = true) (hw : wy = Cond.code y cc nL (none) :: wy') (hnL : (lg_sl av).length ≤ nL)
    (body : ∀ (p : Program) (e : Env) (s : State) (m : MethodId) (args : Array Value) (below : List Frame) (meth : Method) (c : Code) (A : Nat → Prop) (Q : State → Prop), vr_F p s m c cc nL args wy y.cls D tys A → vr_RtV p l e rm s m args below meth c cc D A nL 0 0 Q post → vr_W p l e rm s m args below meth c D A nL 0 0 Q pre 0 (lv_args 0 av) []) : vr_Cv l y wy rm D tys av pre post := by
  intro sz
  refine Met.ofW (cc := cc) (maxL := nL) (ret := none) hy hw ?_
  intro p e s m args below meth c s₁ B hml hv
  obtain ⟨rfl, hsz, hP, hK, hD0⟩ := hv
  have hts := atoms_spec (ws := wy) B.pre
  have hown : s.vm.findClass y.cls = some m.cls := findClass_of_methodNamed B.named
  have hlocks := B.notSynchronized
  have hr := B.returns
  subst hsz
  have hD := hD0.self (sz := s.heap.size)
  have hl := lv_entry av (n := nL) hnL
  rw [lg_entry_eq]
  generalize (lg_sl av ++ List.replicate (nL - (lg_sl av).length) Slot.unset).toArray = ls at hl ⊢
  refine body p e s m _ below meth c (va_A pre s.heap.size) _ ⟨⟨B.exec, B.bytes, hml, hown, hts⟩, hK, fun q h => Or.inr h⟩ ?_ s.heap [] ls hP hD va_S.rf hl
  intro pc lv hdg H locs ls hP hD hS hl
  exact W.vret B.exec B.bytes hr (fun t ht hW => ⟨⟨(), rfl, trivial, by rw [ht]; exact hP, va_K.moved hW.alike hK, hD⟩, hS.F ht⟩) hS.2.2 hdg
section CALLS
variable {p : Program} {l : Launch} {e : Env} {R : Room} {s : State} {m : MethodId} {args : Array Value} {below : List Frame} {meth : Method} {c : Code} {cells slots : Nat} {Q : State → Prop}
variable {cc : ByteArray} {nL : Nat} {Ts : List Cond} {own : String} {D : va_G} {tys : List (ClassId × FieldType)} {A : Nat → Prop}
variable {ws pre post wr : va_W} {pc pc' : Nat} {lv : List (Nat × Value)} {rest st : List Value}
variable {y : MethodName} {wy wy' : List Cond} {rm : Room} {bytes : ByteArray} {maxL index : Nat} {ret : Option FieldType} {C : String} {T : u_T} {N ci b : Nat} {fs : List Value} {As : List Value} {n0 : Nat}
theorem vr_callV_Ci (hF : vr_F p s m c cc nL args Ts own D tys A) {ans : Int32} (hM : vr_Ci l y wy rm D tys (.ref b :: As) pre post ans) (hG : GoodIn Ts (wsV own index C y wy)) (hw : wy = Cond.code y bytes maxL ret :: wy') (hd : y.cls = C ∧ y.cls ≠ "java/lang/invoke/MethodHandle" ∧ y.cls ≠ "java/lang/invoke/VarHandle" ∧ (parseMethodDescriptor y.desc).map (fun d => d.parameters.length) = some n0) (hlen : As.length = n0) (hrc : rm.cells = 0) (hrs : rm.slots = 0) (hR : rm.frames + 1 ≤ R.frames ∧ 8 + (maxL + 11) + rm.locals ≤ R.locals) (hcl : cells ≤ R.cells ∧ slots ≤ R.slots) (q0 : Nat) (he : pre[q0]? = some (b, .inr (ci, fs))) (hc : vwCl[ci]? = some (C, T, N)) (hst : st = As.reverse ++ .ref b :: rest) (hroom : (rest.map fun v => v.category).sum ≤ 8) (hdg : decode cc pc = .ok (.invokevirtual index, 3)) (hp : pc + 3 = pc') (k : vr_W p l e R s m args below meth c D A nL cells slots Q post pc' lv (.int ans :: rest)) : vr_W p l e R s m args below meth c D A nL cells slots Q pre pc lv st := by
  subst hp; subst hst
  intro H locs ls hPc hDc hS hl
  have hFc : ∀ q : Nat, va_A pre H.size q → A q := fun q h => by
    rcases h with ⟨k0, e0, h⟩ | h
    · exact hDc.2 k0 (q, e0) h
    · exact hF.2.2 q (Nat.le_trans hS.1 h)
  refine va_calli (va_runV (As := As) (rest := rest) hF.1 (hM H.size) (cwV n0 hF.1.2.2.2.2 hG hw hrc hrs hd hR) ⟨vr_blind, va_recv hF.2.1 hPc hc he, fun U hU hW => ⟨rfl, by rw [hU], by rw [hU]; exact hPc, va_K.moved hW.alike hF.2.1, hDc.weaken (fun _ _ _ _ => trivial)⟩⟩ rfl hlen hl.1 rfl (lv_room hroom) hdg ⟨Nat.le_trans (Nat.le_of_eq (Nat.add_zero _)) hcl.1, Nat.le_trans (Nat.le_of_eq (Nat.add_zero _)) hcl.2⟩) hS (fun q _ h => hFc q h) hFc (fun r u t H1 locs1 ht hvm hw hB hz hk hS1 => ?_)
  obtain ⟨hP1, hK1, hD1⟩ := hB
  rw [ht] at hP1
  subst hw; exact k H1 locs1 ls hP1 (hD1.weaken (fun _ q _ h => hFc q.1 h)) hS1 hl
theorem vr_partV_Ci (hF : vr_F p s m c cc nL args Ts own D tys A) {ans : Int32} (hM : vr_Ci l y wy rm D tys (.ref b :: As) pre post ans) (hG : GoodIn Ts (wsV own index C y wy)) (hw : wy = Cond.code y bytes maxL ret :: wy') (hd : y.cls = C ∧ y.cls ≠ "java/lang/invoke/MethodHandle" ∧ y.cls ≠ "java/lang/invoke/VarHandle" ∧ (parseMethodDescriptor y.desc).map (fun d => d.parameters.length) = some n0) (hlen : As.length = n0) (hrc : rm.cells = 0) (hrs : rm.slots = 0) (hR : rm.frames + 1 ≤ R.frames ∧ 8 + (maxL + 11) + rm.locals ≤ R.locals) (hcl : cells ≤ R.cells ∧ slots ≤ R.slots) (q0 : Nat) (he : pre[q0]? = some (b, .inr (ci, fs))) (hc : vwCl[ci]? = some (C, T, N)) (hst : st = As.reverse ++ .ref b :: rest) (hroom : (rest.map fun v => v.category).sum ≤ 8) (hdg : decode cc pc = .ok (.invokevirtual index, 3)) (hp : pc + 3 = pc') (isC isR : List Nat) (hC : isC.map (fun i => ws[i]?) = pre.map some) (hR0 : isR.map (fun i => ws[i]?) = wr.map some) (hn0 : va_nd isC = true) (hn1 : va_nd isR = true) (hdis : ∀ i ∈ isR, i ∉ isC) (k : vr_W p l e R s m args below meth c D A nL cells slots Q (wr ++ post) pc' lv (.int ans :: rest)) : vr_W p l e R s m args below meth c D A nL cells slots Q ws pc lv st := by
  subst hp; subst hst
  intro H locs ls hP hD hS hl
  have hPc : va_P D vwCl pre H := fun k0 q hq => by
    have h1 : (isC.map (fun i => ws[i]?))[k0]? = some (some q) := by rw [hC, List.getElem?_map, hq]; rfl
    rw [List.getElem?_map] at h1
    cases hi : isC[k0]? with
    | none => rw [hi] at h1; cases h1
    | some i => rw [hi] at h1; exact hP i q (Option.some.inj h1)
  have hDc : va_D A pre := hD.sub isC hn0 hC
  have hFc := va_free (wc := pre) hD hS hF.2.2 isC hC
  refine va_calli (va_runV (As := As) (rest := rest) hF.1 (hM H.size) (cwV n0 hF.1.2.2.2.2 hG hw hrc hrs hd hR) ⟨vr_blind, va_recv hF.2.1 hPc hc he, fun U hU hW => ⟨rfl, by rw [hU], by rw [hU]; exact hPc, va_K.moved hW.alike hF.2.1, hDc.weaken (fun _ _ _ _ => trivial)⟩⟩ rfl hlen hl.1 rfl (lv_room hroom) hdg ⟨Nat.le_trans (Nat.le_of_eq (Nat.add_zero _)) hcl.1, Nat.le_trans (Nat.le_of_eq (Nat.add_zero _)) hcl.2⟩) hS (fun q _ h => hFc q h) hFc (fun r u t H1 locs1 ht hvm hw hB hz hk hS1 => ?_)
  obtain ⟨hP1, hK1, hD1⟩ := hB
  rw [ht] at hP1
  obtain ⟨hP2, hD2⟩ := va_join (wr := wr) (w1 := post) hP hD isC isR hC hR0 hn1 hdis hk hFc hP1 hD1
  subst hw; exact k H1 locs1 ls hP2 hD2 hS1 hl
theorem vr_callS_Ci (hF : vr_F p s m c cc nL args Ts own D tys A) {ans : Int32} (hM : vr_Ci l y wy rm D tys As pre post ans) (hG : GoodIn Ts (wsS own index y wy)) (hw : wy = Cond.code y bytes maxL ret :: wy') (hd : y.cls = own ∧ y.cls ≠ "java/lang/invoke/MethodHandle" ∧ y.cls ≠ "java/lang/invoke/VarHandle" ∧ (parseMethodDescriptor y.desc).map (fun d => d.parameters.length) = some n0) (hlen : As.length = n0) (hrc : rm.cells = 0) (hrs : rm.slots = 0) (hR : rm.frames + 1 ≤ R.frames ∧ 8 + (maxL + 11) + rm.locals ≤ R.locals) (hcl : cells ≤ R.cells ∧ slots ≤ R.slots)  (hst : st = As.reverse ++ rest) (hroom : (rest.map fun v => v.category).sum ≤ 8) (hdg : decode cc pc = .ok (.invokestatic index, 3)) (hp : pc + 3 = pc') (k : vr_W p l e R s m args below meth c D A nL cells slots Q post pc' lv (.int ans :: rest)) : vr_W p l e R s m args below meth c D A nL cells slots Q pre pc lv st := by
  subst hp; subst hst
  intro H locs ls hPc hDc hS hl
  have hFc : ∀ q : Nat, va_A pre H.size q → A q := fun q h => by
    rcases h with ⟨k0, e0, h⟩ | h
    · exact hDc.2 k0 (q, e0) h
    · exact hF.2.2 q (Nat.le_trans hS.1 h)
  refine va_calli (va_runS (As := As) (rest := rest) hF.1 (hM H.size) (cwS n0 hF.1.2.2.2.2 hG hw hrc hrs hd hR) ⟨vr_blind, fun U hU hW => ⟨rfl, by rw [hU], by rw [hU]; exact hPc, va_K.moved hW.alike hF.2.1, hDc.weaken (fun _ _ _ _ => trivial)⟩⟩ rfl hlen hl.1 rfl (lv_room hroom) hdg ⟨Nat.le_trans (Nat.le_of_eq (Nat.add_zero _)) hcl.1, Nat.le_trans (Nat.le_of_eq (Nat.add_zero _)) hcl.2⟩) hS (fun q _ h => hFc q h) hFc (fun r u t H1 locs1 ht hvm hw hB hz hk hS1 => ?_)
  obtain ⟨hP1, hK1, hD1⟩ := hB
  rw [ht] at hP1
  subst hw; exact k H1 locs1 ls hP1 (hD1.weaken (fun _ q _ h => hFc q.1 h)) hS1 hl
theorem vr_partS_Ci (hF : vr_F p s m c cc nL args Ts own D tys A) {ans : Int32} (hM : vr_Ci l y wy rm D tys As pre post ans) (hG : GoodIn Ts (wsS own index y wy)) (hw : wy = Cond.code y bytes maxL ret :: wy') (hd : y.cls = own ∧ y.cls ≠ "java/lang/invoke/MethodHandle" ∧ y.cls ≠ "java/lang/invoke/VarHandle" ∧ (parseMethodDescriptor y.desc).map (fun d => d.parameters.length) = some n0) (hlen : As.length = n0) (hrc : rm.cells = 0) (hrs : rm.slots = 0) (hR : rm.frames + 1 ≤ R.frames ∧ 8 + (maxL + 11) + rm.locals ≤ R.locals) (hcl : cells ≤ R.cells ∧ slots ≤ R.slots)  (hst : st = As.reverse ++ rest) (hroom : (rest.map fun v => v.category).sum ≤ 8) (hdg : decode cc pc = .ok (.invokestatic index, 3)) (hp : pc + 3 = pc') (isC isR : List Nat) (hC : isC.map (fun i => ws[i]?) = pre.map some) (hR0 : isR.map (fun i => ws[i]?) = wr.map some) (hn0 : va_nd isC = true) (hn1 : va_nd isR = true) (hdis : ∀ i ∈ isR, i ∉ isC) (k : vr_W p l e R s m args below meth c D A nL cells slots Q (wr ++ post) pc' lv (.int ans :: rest)) : vr_W p l e R s m args below meth c D A nL cells slots Q ws pc lv st := by
  subst hp; subst hst
  intro H locs ls hP hD hS hl
  have hPc : va_P D vwCl pre H := fun k0 q hq => by
    have h1 : (isC.map (fun i => ws[i]?))[k0]? = some (some q) := by rw [hC, List.getElem?_map, hq]; rfl
    rw [List.getElem?_map] at h1
    cases hi : isC[k0]? with
    | none => rw [hi] at h1; cases h1
    | some i => rw [hi] at h1; exact hP i q (Option.some.inj h1)
  have hDc : va_D A pre := hD.sub isC hn0 hC
  have hFc := va_free (wc := pre) hD hS hF.2.2 isC hC
  refine va_calli (va_runS (As := As) (rest := rest) hF.1 (hM H.size) (cwS n0 hF.1.2.2.2.2 hG hw hrc hrs hd hR) ⟨vr_blind, fun U hU hW => ⟨rfl, by rw [hU], by rw [hU]; exact hPc, va_K.moved hW.alike hF.2.1, hDc.weaken (fun _ _ _ _ => trivial)⟩⟩ rfl hlen hl.1 rfl (lv_room hroom) hdg ⟨Nat.le_trans (Nat.le_of_eq (Nat.add_zero _)) hcl.1, Nat.le_trans (Nat.le_of_eq (Nat.add_zero _)) hcl.2⟩) hS (fun q _ h => hFc q h) hFc (fun r u t H1 locs1 ht hvm hw hB hz hk hS1 => ?_)
  obtain ⟨hP1, hK1, hD1⟩ := hB
  rw [ht] at hP1
  obtain ⟨hP2, hD2⟩ := va_join (wr := wr) (w1 := post) hP hD isC isR hC hR0 hn1 hdis hk hFc hP1 hD1
  subst hw; exact k H1 locs1 ls hP2 hD2 hS1 hl
theorem vr_callV_Cl (hF : vr_F p s m c cc nL args Ts own D tys A) {ans : Int64} (hM : vr_Cl l y wy rm D tys (.ref b :: As) pre post ans) (hG : GoodIn Ts (wsV own index C y wy)) (hw : wy = Cond.code y bytes maxL ret :: wy') (hd : y.cls = C ∧ y.cls ≠ "java/lang/invoke/MethodHandle" ∧ y.cls ≠ "java/lang/invoke/VarHandle" ∧ (parseMethodDescriptor y.desc).map (fun d => d.parameters.length) = some n0) (hlen : As.length = n0) (hrc : rm.cells = 0) (hrs : rm.slots = 0) (hR : rm.frames + 1 ≤ R.frames ∧ 8 + (maxL + 11) + rm.locals ≤ R.locals) (hcl : cells ≤ R.cells ∧ slots ≤ R.slots) (q0 : Nat) (he : pre[q0]? = some (b, .inr (ci, fs))) (hc : vwCl[ci]? = some (C, T, N)) (hst : st = As.reverse ++ .ref b :: rest) (hroom : (rest.map fun v => v.category).sum ≤ 8) (hdg : decode cc pc = .ok (.invokevirtual index, 3)) (hp : pc + 3 = pc') (k : vr_W p l e R s m args below meth c D A nL cells slots Q post pc' lv (.long ans :: rest)) : vr_W p l e R s m args below meth c D A nL cells slots Q pre pc lv st := by
  subst hp; subst hst
  intro H locs ls hPc hDc hS hl
  have hFc : ∀ q : Nat, va_A pre H.size q → A q := fun q h => by
    rcases h with ⟨k0, e0, h⟩ | h
    · exact hDc.2 k0 (q, e0) h
    · exact hF.2.2 q (Nat.le_trans hS.1 h)
  refine va_calll (va_runV (As := As) (rest := rest) hF.1 (hM H.size) (cwV n0 hF.1.2.2.2.2 hG hw hrc hrs hd hR) ⟨vr_blind, va_recv hF.2.1 hPc hc he, fun U hU hW => ⟨rfl, by rw [hU], by rw [hU]; exact hPc, va_K.moved hW.alike hF.2.1, hDc.weaken (fun _ _ _ _ => trivial)⟩⟩ rfl hlen hl.1 rfl (lv_room hroom) hdg ⟨Nat.le_trans (Nat.le_of_eq (Nat.add_zero _)) hcl.1, Nat.le_trans (Nat.le_of_eq (Nat.add_zero _)) hcl.2⟩) hS (fun q _ h => hFc q h) hFc (fun r u t H1 locs1 ht hvm hw hB hz hk hS1 => ?_)
  obtain ⟨hP1, hK1, hD1⟩ := hB
  rw [ht] at hP1
  subst hw; exact k H1 locs1 ls hP1 (hD1.weaken (fun _ q _ h => hFc q.1 h)) hS1 hl
theorem vr_partV_Cl (hF : vr_F p s m c cc nL args Ts own D tys A) {ans : Int64} (hM : vr_Cl l y wy rm D tys (.ref b :: As) pre post ans) (hG : GoodIn Ts (wsV own index C y wy)) (hw : wy = Cond.code y bytes maxL ret :: wy') (hd : y.cls = C ∧ y.cls ≠ "java/lang/invoke/MethodHandle" ∧ y.cls ≠ "java/lang/invoke/VarHandle" ∧ (parseMethodDescriptor y.desc).map (fun d => d.parameters.length) = some n0) (hlen : As.length = n0) (hrc : rm.cells = 0) (hrs : rm.slots = 0) (hR : rm.frames + 1 ≤ R.frames ∧ 8 + (maxL + 11) + rm.locals ≤ R.locals) (hcl : cells ≤ R.cells ∧ slots ≤ R.slots) (q0 : Nat) (he : pre[q0]? = some (b, .inr (ci, fs))) (hc : vwCl[ci]? = some (C, T, N)) (hst : st = As.reverse ++ .ref b :: rest) (hroom : (rest.map fun v => v.category).sum ≤ 8) (hdg : decode cc pc = .ok (.invokevirtual index, 3)) (hp : pc + 3 = pc') (isC isR : List Nat) (hC : isC.map (fun i => ws[i]?) = pre.map some) (hR0 : isR.map (fun i => ws[i]?) = wr.map some) (hn0 : va_nd isC = true) (hn1 : va_nd isR = true) (hdis : ∀ i ∈ isR, i ∉ isC) (k : vr_W p l e R s m args below meth c D A nL cells slots Q (wr ++ post) pc' lv (.long ans :: rest)) : vr_W p l e R s m args below meth c D A nL cells slots Q ws pc lv st := by
  subst hp; subst hst
  intro H locs ls hP hD hS hl
  have hPc : va_P D vwCl pre H := fun k0 q hq => by
    have h1 : (isC.map (fun i => ws[i]?))[k0]? = some (some q) := by rw [hC, List.getElem?_map, hq]; rfl
    rw [List.getElem?_map] at h1
    cases hi : isC[k0]? with
    | none => rw [hi] at h1; cases h1
    | some i => rw [hi] at h1; exact hP i q (Option.some.inj h1)
  have hDc : va_D A pre := hD.sub isC hn0 hC
  have hFc := va_free (wc := pre) hD hS hF.2.2 isC hC
  refine va_calll (va_runV (As := As) (rest := rest) hF.1 (hM H.size) (cwV n0 hF.1.2.2.2.2 hG hw hrc hrs hd hR) ⟨vr_blind, va_recv hF.2.1 hPc hc he, fun U hU hW => ⟨rfl, by rw [hU], by rw [hU]; exact hPc, va_K.moved hW.alike hF.2.1, hDc.weaken (fun _ _ _ _ => trivial)⟩⟩ rfl hlen hl.1 rfl (lv_room hroom) hdg ⟨Nat.le_trans (Nat.le_of_eq (Nat.add_zero _)) hcl.1, Nat.le_trans (Nat.le_of_eq (Nat.add_zero _)) hcl.2⟩) hS (fun q _ h => hFc q h) hFc (fun r u t H1 locs1 ht hvm hw hB hz hk hS1 => ?_)
  obtain ⟨hP1, hK1, hD1⟩ := hB
  rw [ht] at hP1
  obtain ⟨hP2, hD2⟩ := va_join (wr := wr) (w1 := post) hP hD isC isR hC hR0 hn1 hdis hk hFc hP1 hD1
  subst hw; exact k H1 locs1 ls hP2 hD2 hS1 hl
theorem vr_callS_Cl (hF : vr_F p s m c cc nL args Ts own D tys A) {ans : Int64} (hM : vr_Cl l y wy rm D tys As pre post ans) (hG : GoodIn Ts (wsS own index y wy)) (hw : wy = Cond.code y bytes maxL ret :: wy') (hd : y.cls = own ∧ y.cls ≠ "java/lang/invoke/MethodHandle" ∧ y.cls ≠ "java/lang/invoke/VarHandle" ∧ (parseMethodDescriptor y.desc).map (fun d => d.parameters.length) = some n0) (hlen : As.length = n0) (hrc : rm.cells = 0) (hrs : rm.slots = 0) (hR : rm.frames + 1 ≤ R.frames ∧ 8 + (maxL + 11) + rm.locals ≤ R.locals) (hcl : cells ≤ R.cells ∧ slots ≤ R.slots)  (hst : st = As.reverse ++ rest) (hroom : (rest.map fun v => v.category).sum ≤ 8) (hdg : decode cc pc = .ok (.invokestatic index, 3)) (hp : pc + 3 = pc') (k : vr_W p l e R s m args below meth c D A nL cells slots Q post pc' lv (.long ans :: rest)) : vr_W p l e R s m args below meth c D A nL cells slots Q pre pc lv st := by
  subst hp; subst hst
  intro H locs ls hPc hDc hS hl
  have hFc : ∀ q : Nat, va_A pre H.size q → A q := fun q h => by
    rcases h with ⟨k0, e0, h⟩ | h
    · exact hDc.2 k0 (q, e0) h
    · exact hF.2.2 q (Nat.le_trans hS.1 h)
  refine va_calll (va_runS (As := As) (rest := rest) hF.1 (hM H.size) (cwS n0 hF.1.2.2.2.2 hG hw hrc hrs hd hR) ⟨vr_blind, fun U hU hW => ⟨rfl, by rw [hU], by rw [hU]; exact hPc, va_K.moved hW.alike hF.2.1, hDc.weaken (fun _ _ _ _ => trivial)⟩⟩ rfl hlen hl.1 rfl (lv_room hroom) hdg ⟨Nat.le_trans (Nat.le_of_eq (Nat.add_zero _)) hcl.1, Nat.le_trans (Nat.le_of_eq (Nat.add_zero _)) hcl.2⟩) hS (fun q _ h => hFc q h) hFc (fun r u t H1 locs1 ht hvm hw hB hz hk hS1 => ?_)
  obtain ⟨hP1, hK1, hD1⟩ := hB
  rw [ht] at hP1
  subst hw; exact k H1 locs1 ls hP1 (hD1.weaken (fun _ q _ h => hFc q.1 h)) hS1 hl
theorem vr_partS_Cl (hF : vr_F p s m c cc nL args Ts own D tys A) {ans : Int64} (hM : vr_Cl l y wy rm D tys As pre post ans) (hG : GoodIn Ts (wsS own index y wy)) (hw : wy = Cond.code y bytes maxL ret :: wy') (hd : y.cls = own ∧ y.cls ≠ "java/lang/invoke/MethodHandle" ∧ y.cls ≠ "java/lang/invoke/VarHandle" ∧ (parseMethodDescriptor y.desc).map (fun d => d.parameters.length) = some n0) (hlen : As.length = n0) (hrc : rm.cells = 0) (hrs : rm.slots = 0) (hR : rm.frames + 1 ≤ R.frames ∧ 8 + (maxL + 11) + rm.locals ≤ R.locals) (hcl : cells ≤ R.cells ∧ slots ≤ R.slots)  (hst : st = As.reverse ++ rest) (hroom : (rest.map fun v => v.category).sum ≤ 8) (hdg : decode cc pc = .ok (.invokestatic index, 3)) (hp : pc + 3 = pc') (isC isR : List Nat) (hC : isC.map (fun i => ws[i]?) = pre.map some) (hR0 : isR.map (fun i => ws[i]?) = wr.map some) (hn0 : va_nd isC = true) (hn1 : va_nd isR = true) (hdis : ∀ i ∈ isR, i ∉ isC) (k : vr_W p l e R s m args below meth c D A nL cells slots Q (wr ++ post) pc' lv (.long ans :: rest)) : vr_W p l e R s m args below meth c D A nL cells slots Q ws pc lv st := by
  subst hp; subst hst
  intro H locs ls hP hD hS hl
  have hPc : va_P D vwCl pre H := fun k0 q hq => by
    have h1 : (isC.map (fun i => ws[i]?))[k0]? = some (some q) := by rw [hC, List.getElem?_map, hq]; rfl
    rw [List.getElem?_map] at h1
    cases hi : isC[k0]? with
    | none => rw [hi] at h1; cases h1
    | some i => rw [hi] at h1; exact hP i q (Option.some.inj h1)
  have hDc : va_D A pre := hD.sub isC hn0 hC
  have hFc := va_free (wc := pre) hD hS hF.2.2 isC hC
  refine va_calll (va_runS (As := As) (rest := rest) hF.1 (hM H.size) (cwS n0 hF.1.2.2.2.2 hG hw hrc hrs hd hR) ⟨vr_blind, fun U hU hW => ⟨rfl, by rw [hU], by rw [hU]; exact hPc, va_K.moved hW.alike hF.2.1, hDc.weaken (fun _ _ _ _ => trivial)⟩⟩ rfl hlen hl.1 rfl (lv_room hroom) hdg ⟨Nat.le_trans (Nat.le_of_eq (Nat.add_zero _)) hcl.1, Nat.le_trans (Nat.le_of_eq (Nat.add_zero _)) hcl.2⟩) hS (fun q _ h => hFc q h) hFc (fun r u t H1 locs1 ht hvm hw hB hz hk hS1 => ?_)
  obtain ⟨hP1, hK1, hD1⟩ := hB
  rw [ht] at hP1
  obtain ⟨hP2, hD2⟩ := va_join (wr := wr) (w1 := post) hP hD isC isR hC hR0 hn1 hdis hk hFc hP1 hD1
  subst hw; exact k H1 locs1 ls hP2 hD2 hS1 hl
theorem vr_callV_Cv (hF : vr_F p s m c cc nL args Ts own D tys A)  (hM : vr_Cv l y wy rm D tys (.ref b :: As) pre post ) (hG : GoodIn Ts (wsV own index C y wy)) (hw : wy = Cond.code y bytes maxL ret :: wy') (hd : y.cls = C ∧ y.cls ≠ "java/lang/invoke/MethodHandle" ∧ y.cls ≠ "java/lang/invoke/VarHandle" ∧ (parseMethodDescriptor y.desc).map (fun d => d.parameters.length) = some n0) (hlen : As.length = n0) (hrc : rm.cells = 0) (hrs : rm.slots = 0) (hR : rm.frames + 1 ≤ R.frames ∧ 8 + (maxL + 11) + rm.locals ≤ R.locals) (hcl : cells ≤ R.cells ∧ slots ≤ R.slots) (q0 : Nat) (he : pre[q0]? = some (b, .inr (ci, fs))) (hc : vwCl[ci]? = some (C, T, N)) (hst : st = As.reverse ++ .ref b :: rest) (hroom : (rest.map fun v => v.category).sum ≤ 8) (hdg : decode cc pc = .ok (.invokevirtual index, 3)) (hp : pc + 3 = pc') (k : vr_W p l e R s m args below meth c D A nL cells slots Q post pc' lv (rest)) : vr_W p l e R s m args below meth c D A nL cells slots Q pre pc lv st := by
  subst hp; subst hst
  intro H locs ls hPc hDc hS hl
  have hFc : ∀ q : Nat, va_A pre H.size q → A q := fun q h => by
    rcases h with ⟨k0, e0, h⟩ | h
    · exact hDc.2 k0 (q, e0) h
    · exact hF.2.2 q (Nat.le_trans hS.1 h)
  refine va_callv (va_runV (As := As) (rest := rest) hF.1 (hM H.size) (cwV n0 hF.1.2.2.2.2 hG hw hrc hrs hd hR) ⟨vr_blind, va_recv hF.2.1 hPc hc he, fun U hU hW => ⟨rfl, by rw [hU], by rw [hU]; exact hPc, va_K.moved hW.alike hF.2.1, hDc.weaken (fun _ _ _ _ => trivial)⟩⟩ rfl hlen hl.1 rfl (lv_room hroom) hdg ⟨Nat.le_trans (Nat.le_of_eq (Nat.add_zero _)) hcl.1, Nat.le_trans (Nat.le_of_eq (Nat.add_zero _)) hcl.2⟩) hS (fun q _ h => hFc q h) hFc (fun u t H1 locs1 ht hvm hw hB hz hk hS1 => ?_)
  obtain ⟨hP1, hK1, hD1⟩ := hB
  rw [ht] at hP1
  exact k H1 locs1 ls hP1 (hD1.weaken (fun _ q _ h => hFc q.1 h)) hS1 hl
theorem vr_partV_Cv (hF : vr_F p s m c cc nL args Ts own D tys A)  (hM : vr_Cv l y wy rm D tys (.ref b :: As) pre post ) (hG : GoodIn Ts (wsV own index C y wy)) (hw : wy = Cond.code y bytes maxL ret :: wy') (hd : y.cls = C ∧ y.cls ≠ "java/lang/invoke/MethodHandle" ∧ y.cls ≠ "java/lang/invoke/VarHandle" ∧ (parseMethodDescriptor y.desc).map (fun d => d.parameters.length) = some n0) (hlen : As.length = n0) (hrc : rm.cells = 0) (hrs : rm.slots = 0) (hR : rm.frames + 1 ≤ R.frames ∧ 8 + (maxL + 11) + rm.locals ≤ R.locals) (hcl : cells ≤ R.cells ∧ slots ≤ R.slots) (q0 : Nat) (he : pre[q0]? = some (b, .inr (ci, fs))) (hc : vwCl[ci]? = some (C, T, N)) (hst : st = As.reverse ++ .ref b :: rest) (hroom : (rest.map fun v => v.category).sum ≤ 8) (hdg : decode cc pc = .ok (.invokevirtual index, 3)) (hp : pc + 3 = pc') (isC isR : List Nat) (hC : isC.map (fun i => ws[i]?) = pre.map some) (hR0 : isR.map (fun i => ws[i]?) = wr.map some) (hn0 : va_nd isC = true) (hn1 : va_nd isR = true) (hdis : ∀ i ∈ isR, i ∉ isC) (k : vr_W p l e R s m args below meth c D A nL cells slots Q (wr ++ post) pc' lv (rest)) : vr_W p l e R s m args below meth c D A nL cells slots Q ws pc lv st := by
  subst hp; subst hst
  intro H locs ls hP hD hS hl
  have hPc : va_P D vwCl pre H := fun k0 q hq => by
    have h1 : (isC.map (fun i => ws[i]?))[k0]? = some (some q) := by rw [hC, List.getElem?_map, hq]; rfl
    rw [List.getElem?_map] at h1
    cases hi : isC[k0]? with
    | none => rw [hi] at h1; cases h1
    | some i => rw [hi] at h1; exact hP i q (Option.some.inj h1)
  have hDc : va_D A pre := hD.sub isC hn0 hC
  have hFc := va_free (wc := pre) hD hS hF.2.2 isC hC
  refine va_callv (va_runV (As := As) (rest := rest) hF.1 (hM H.size) (cwV n0 hF.1.2.2.2.2 hG hw hrc hrs hd hR) ⟨vr_blind, va_recv hF.2.1 hPc hc he, fun U hU hW => ⟨rfl, by rw [hU], by rw [hU]; exact hPc, va_K.moved hW.alike hF.2.1, hDc.weaken (fun _ _ _ _ => trivial)⟩⟩ rfl hlen hl.1 rfl (lv_room hroom) hdg ⟨Nat.le_trans (Nat.le_of_eq (Nat.add_zero _)) hcl.1, Nat.le_trans (Nat.le_of_eq (Nat.add_zero _)) hcl.2⟩) hS (fun q _ h => hFc q h) hFc (fun u t H1 locs1 ht hvm hw hB hz hk hS1 => ?_)
  obtain ⟨hP1, hK1, hD1⟩ := hB
  rw [ht] at hP1
  obtain ⟨hP2, hD2⟩ := va_join (wr := wr) (w1 := post) hP hD isC isR hC hR0 hn1 hdis hk hFc hP1 hD1
  exact k H1 locs1 ls hP2 hD2 hS1 hl
theorem vr_callS_Cv (hF : vr_F p s m c cc nL args Ts own D tys A)  (hM : vr_Cv l y wy rm D tys As pre post ) (hG : GoodIn Ts (wsS own index y wy)) (hw : wy = Cond.code y bytes maxL ret :: wy') (hd : y.cls = own ∧ y.cls ≠ "java/lang/invoke/MethodHandle" ∧ y.cls ≠ "java/lang/invoke/VarHandle" ∧ (parseMethodDescriptor y.desc).map (fun d => d.parameters.length) = some n0) (hlen : As.length = n0) (hrc : rm.cells = 0) (hrs : rm.slots = 0) (hR : rm.frames + 1 ≤ R.frames ∧ 8 + (maxL + 11) + rm.locals ≤ R.locals) (hcl : cells ≤ R.cells ∧ slots ≤ R.slots)  (hst : st = As.reverse ++ rest) (hroom : (rest.map fun v => v.category).sum ≤ 8) (hdg : decode cc pc = .ok (.invokestatic index, 3)) (hp : pc + 3 = pc') (k : vr_W p l e R s m args below meth c D A nL cells slots Q post pc' lv (rest)) : vr_W p l e R s m args below meth c D A nL cells slots Q pre pc lv st := by
  subst hp; subst hst
  intro H locs ls hPc hDc hS hl
  have hFc : ∀ q : Nat, va_A pre H.size q → A q := fun q h => by
    rcases h with ⟨k0, e0, h⟩ | h
    · exact hDc.2 k0 (q, e0) h
    · exact hF.2.2 q (Nat.le_trans hS.1 h)
  refine va_callv (va_runS (As := As) (rest := rest) hF.1 (hM H.size) (cwS n0 hF.1.2.2.2.2 hG hw hrc hrs hd hR) ⟨vr_blind, fun U hU hW => ⟨rfl, by rw [hU], by rw [hU]; exact hPc, va_K.moved hW.alike hF.2.1, hDc.weaken (fun _ _ _ _ => trivial)⟩⟩ rfl hlen hl.1 rfl (lv_room hroom) hdg ⟨Nat.le_trans (Nat.le_of_eq (Nat.add_zero _)) hcl.1, Nat.le_trans (Nat.le_of_eq (Nat.add_zero _)) hcl.2⟩) hS (fun q _ h => hFc q h) hFc (fun u t H1 locs1 ht hvm hw hB hz hk hS1 => ?_)
  obtain ⟨hP1, hK1, hD1⟩ := hB
  rw [ht] at hP1
  exact k H1 locs1 ls hP1 (hD1.weaken (fun _ q _ h => hFc q.1 h)) hS1 hl
theorem vr_partS_Cv (hF : vr_F p s m c cc nL args Ts own D tys A)  (hM : vr_Cv l y wy rm D tys As pre post ) (hG : GoodIn Ts (wsS own index y wy)) (hw : wy = Cond.code y bytes maxL ret :: wy') (hd : y.cls = own ∧ y.cls ≠ "java/lang/invoke/MethodHandle" ∧ y.cls ≠ "java/lang/invoke/VarHandle" ∧ (parseMethodDescriptor y.desc).map (fun d => d.parameters.length) = some n0) (hlen : As.length = n0) (hrc : rm.cells = 0) (hrs : rm.slots = 0) (hR : rm.frames + 1 ≤ R.frames ∧ 8 + (maxL + 11) + rm.locals ≤ R.locals) (hcl : cells ≤ R.cells ∧ slots ≤ R.slots)  (hst : st = As.reverse ++ rest) (hroom : (rest.map fun v => v.category).sum ≤ 8) (hdg : decode cc pc = .ok (.invokestatic index, 3)) (hp : pc + 3 = pc') (isC isR : List Nat) (hC : isC.map (fun i => ws[i]?) = pre.map some) (hR0 : isR.map (fun i => ws[i]?) = wr.map some) (hn0 : va_nd isC = true) (hn1 : va_nd isR = true) (hdis : ∀ i ∈ isR, i ∉ isC) (k : vr_W p l e R s m args below meth c D A nL cells slots Q (wr ++ post) pc' lv (rest)) : vr_W p l e R s m args below meth c D A nL cells slots Q ws pc lv st := by
  subst hp; subst hst
  intro H locs ls hP hD hS hl
  have hPc : va_P D vwCl pre H := fun k0 q hq => by
    have h1 : (isC.map (fun i => ws[i]?))[k0]? = some (some q) := by rw [hC, List.getElem?_map, hq]; rfl
    rw [List.getElem?_map] at h1
    cases hi : isC[k0]? with
    | none => rw [hi] at h1; cases h1
    | some i => rw [hi] at h1; exact hP i q (Option.some.inj h1)
  have hDc : va_D A pre := hD.sub isC hn0 hC
  have hFc := va_free (wc := pre) hD hS hF.2.2 isC hC
  refine va_callv (va_runS (As := As) (rest := rest) hF.1 (hM H.size) (cwS n0 hF.1.2.2.2.2 hG hw hrc hrs hd hR) ⟨vr_blind, fun U hU hW => ⟨rfl, by rw [hU], by rw [hU]; exact hPc, va_K.moved hW.alike hF.2.1, hDc.weaken (fun _ _ _ _ => trivial)⟩⟩ rfl hlen hl.1 rfl (lv_room hroom) hdg ⟨Nat.le_trans (Nat.le_of_eq (Nat.add_zero _)) hcl.1, Nat.le_trans (Nat.le_of_eq (Nat.add_zero _)) hcl.2⟩) hS (fun q _ h => hFc q h) hFc (fun u t H1 locs1 ht hvm hw hB hz hk hS1 => ?_)
  obtain ⟨hP1, hK1, hD1⟩ := hB
  rw [ht] at hP1
  obtain ⟨hP2, hD2⟩ := va_join (wr := wr) (w1 := post) hP hD isC isR hC hR0 hn1 hdis hk hFc hP1 hD1
  exact k H1 locs1 ls hP2 hD2 hS1 hl
end CALLS
