/-! VersionRows: its state as a mathematical value, and what its methods answer, as functions of it -/
abbrev vr_G : Type := va_G × ClassId × ClassId × ClassId
abbrev vr_tys (g : vr_G) : List (ClassId × FieldType) := [(g.2.1, .int), (g.2.2.1, .long), (g.2.2.2, .boolean)]
abbrev vr_min : Int64 := -9223372036854775808
theorem vr_n0 : nI 0 = 0 := rfl
theorem vr_n1 : nI 1 = 1 := rfl
-- records: kinds, lockers, untils, count
abbrev vx_R : Type := (Nat → Int32) × (Nat → Int32) × (Nat → Int64) × Nat
abbrev rr_k (r : vx_R) : Nat → Int32 := r.1
abbrev rr_l (r : vx_R) : Nat → Int32 := r.2.1
abbrev rr_u (r : vx_R) : Nat → Int64 := r.2.2.1
abbrev rr_n (r : vx_R) : Nat := r.2.2.2
-- acts: records, fields, values, valids, knowns, counting, ordered, count
abbrev vx_A : Type := (Nat → Int32) × (Nat → Int32) × (Nat → Int32) × (Nat → Int64) × (Nat → Int64) × (Nat → Bool) × (Nat → Nat) × Nat
abbrev ta_r (t : vx_A) : Nat → Int32 := t.1
abbrev ta_f (t : vx_A) : Nat → Int32 := t.2.1
abbrev ta_v (t : vx_A) : Nat → Int32 := t.2.2.1
abbrev ta_d (t : vx_A) : Nat → Int64 := t.2.2.2.1
abbrev ta_k (t : vx_A) : Nat → Int64 := t.2.2.2.2.1
abbrev ta_c (t : vx_A) : Nat → Bool := t.2.2.2.2.2.1
abbrev ta_o (t : vx_A) : Nat → Nat := t.2.2.2.2.2.2.1
abbrev ta_n (t : vx_A) : Nat := t.2.2.2.2.2.2.2
-- batches: of, count
abbrev vx_B : Type := (Nat → Int32) × Nat
abbrev tb_o (b : vx_B) : Nat → Int32 := b.1
abbrev tb_n (b : vx_B) : Nat := b.2
/-- the cells of a VersionRows -/
def vx_w (g : vr_G) (a : Nat → Nat) (r : vx_R) (t : vx_A) (w : Nat → Int64) (b : vx_B) : va_W :=
  [(a 0, .inr (4, [.ref (a 1), .ref (a 2), .ref (a 3), .ref (a 4)])),
   (a 1, .inr (3, [.ref (a 5), .ref (a 6), .ref (a 7), .int (nI (rr_n r))])),
   (a 2, .inr (0, [.ref (a 8), .ref (a 9), .ref (a 10), .ref (a 11), .ref (a 12), .ref (a 13), .ref (a 14), .int (nI (ta_n t))])),
   (a 3, .inr (2, [.ref (a 15)])),
   (a 4, .inr (1, [.ref (a 16), .int (nI (tb_n b))])),
   (a 5, .inl (g.2.1, 21, .inl (rr_k r))),
   (a 6, .inl (g.2.1, 21, .inl (rr_l r))),
   (a 7, .inl (g.2.2.1, 21, .inr (.inl (rr_u r)))),
   (a 8, .inl (g.2.1, 201, .inl (ta_r t))),
   (a 9, .inl (g.2.1, 201, .inl (ta_f t))),
   (a 10, .inl (g.2.1, 201, .inl (ta_v t))),
   (a 11, .inl (g.2.2.1, 201, .inr (.inl (ta_d t)))),
   (a 12, .inl (g.2.2.1, 201, .inr (.inl (ta_k t)))),
   (a 13, .inl (g.2.2.2, 201, .inl (fun j => vr_b (ta_c t j)))),
   (a 14, .inl (g.2.1, 201, .inl (fun j => nI (ta_o t j)))),
   (a 15, .inl (g.2.2.1, 804, .inr (.inl w))),
   (a 16, .inl (g.2.1, 201, .inl (tb_o b)))]
/-- within the limits -/
def vx_ok (r : vx_R) (t : vx_A) (b : vx_B) : Prop := rr_n r ≤ 20 ∧ ta_n t ≤ 200 ∧ (∀ j, ta_o t j ≤ 200) ∧ tb_n b ≤ 30
def vx_has (n : Nat) (i : Int32) : Bool := if i < nI 1 then false else if nI n < i then false else true
theorem vx_has_of {n : Nat} {i : Int32} (hn : n < 2 ^ 31) (h : vx_has n i = true) : ∃ k : Nat, 1 ≤ k ∧ k ≤ n ∧ i = nI k := by
  unfold vx_has at h
  split at h
  · cases h
  · rename_i h1
    split at h
    · cases h
    · rename_i h2
      have h3 : ¬ i < 0 := fun q => h1 (Int32.lt_trans q (by decide))
      obtain ⟨k, hk, rfl⟩ := nI_of h3
      have e1 : ¬ k < 1 := fun q => h1 ((nI_ltI hk (by decide)).mpr q)
      have e2 : ¬ n < k := fun q => h2 ((nI_ltI hn hk).mpr q)
      exact ⟨k, by omega, by omega, rfl⟩
theorem vx_has_nI {n k : Nat} (hn : n < 2 ^ 31) (h1 : 1 ≤ k) (h2 : k ≤ n) : vx_has n (nI k) = true := by
  have e1 : ¬ nI k < nI 1 := fun q => absurd ((nI_ltI (by omega) (by decide)).mp q) (by omega)
  have e2 : ¬ nI n < nI k := fun q => absurd ((nI_ltI hn (by omega)).mp q) (by omega)
  simp [vx_has, e1, e2]
def xa_now (t : vx_A) : Int64 := if ta_n t = 0 then vr_min else ta_k t (ta_o t (ta_n t))
def xa_behind (t : vx_A) (i j : Nat) : Bool := if ta_k t i = ta_k t j then (if ta_d t i ≤ ta_d t j then false else true) else (if ta_k t i ≤ ta_k t j then false else true)
def xa_isOf (t : vx_A) (k : Nat) (rc fd : Int32) : Bool := if ta_r t k = rc then (if ta_f t k = fd then true else false) else false
def xa_same (t : vx_A) (k : Nat) (rc fd v : Int32) (vd kn : Int64) : Bool :=
  if ta_c t k = true then (if xa_isOf t k rc fd = true then (if ta_v t k = v then (if ta_d t k = vd then (if ta_k t k = kn then true else false) else false) else false) else false) else false
def xa_find (t : vx_A) (rc fd v : Int32) (vd kn : Int64) : Nat → Nat → Nat
  | 0, _ => 0
  | n + 1, k => if ta_n t < k then 0 else if xa_same t k rc fd v vd kn = true then k else xa_find t rc fd v vd kn n (k + 1)
def xa_lcond (t : vx_A) (rc fd : Int32) (mo : Int64) (k : Nat) : Bool :=
  if ta_c t k = true then (if mo < ta_k t k then false else (if xa_isOf t k rc fd = true then true else false)) else false
def xa_last (t : vx_A) (rc fd : Int32) (mo : Int64) : Nat → Nat
  | 0 => 0
  | q + 1 => if xa_lcond t rc fd mo (ta_o t (q + 1)) = true then ta_o t (q + 1) else xa_last t rc fd mo q
def xa_ith (t : vx_A) (rc fd : Int32) : Nat → Nat → Nat → Nat
  | 0, _, _ => 0
  | n + 1, k, ah => if ta_n t < k then 0 else if xa_isOf t (ta_o t k) rc fd = true then (if ah = 0 then ta_o t k else xa_ith t rc fd n (k + 1) (ah - 1)) else xa_ith t rc fd n (k + 1) ah
def xa_conf (t : vx_A) (i j : Nat) : Bool :=
  if ta_k t i = ta_k t j then (if ta_c t i = true then (if ta_c t j = true then (if xa_isOf t i (ta_r t j) (ta_f t j) = true then (if ta_v t i = ta_v t j then false else true) else false) else false) else false) else false
def xa_put (t : vx_A) : Nat → (Nat → Nat) → (Nat → Nat)
  | 0, o => o
  | q + 1, o => if q + 1 ≤ 1 then vr_un o (q + 1) (ta_n t) else if xa_behind t (o q) (ta_n t) = true then xa_put t q (vr_un o (q + 1) (o q)) else vr_un o (q + 1) (ta_n t)
abbrev ta_setO (t : vx_A) (o : Nat → Nat) : vx_A := (ta_r t, ta_f t, ta_v t, ta_d t, ta_k t, ta_c t, o, ta_n t)
abbrev ta_setC (t : vx_A) (c : Nat → Bool) : vx_A := (ta_r t, ta_f t, ta_v t, ta_d t, ta_k t, c, ta_o t, ta_n t)
def xa_new (t : vx_A) (rc fd v : Int32) (vd kn : Int64) : vx_A :=
  (upd (ta_r t) (ta_n t + 1) rc, upd (ta_f t) (ta_n t + 1) fd, upd (ta_v t) (ta_n t + 1) v, vp_updL (ta_d t) (ta_n t + 1) vd, vp_updL (ta_k t) (ta_n t + 1) kn, vr_ub (ta_c t) (ta_n t + 1) true, ta_o t, ta_n t + 1)
def xa_add (t : vx_A) (rc fd v : Int32) (vd kn : Int64) : vx_A :=
  ta_setO (xa_new t rc fd v vd kn) (xa_put (xa_new t rc fd v vd kn) (ta_n t + 1) (ta_o t))
def xl_bit (o : Nat) : Int64 := (1 : Int64) <<< ((nI (o % 64)).toInt64 &&& 63)
def xl_has (w : Nat → Int64) (k o : Nat) : Bool := if w (k * 4 + o / 64) &&& xl_bit o = 0 then false else true
def xl_add (w : Nat → Int64) (k o : Nat) : Nat → Int64 := vp_updL w (k * 4 + o / 64) (w (k * 4 + o / 64) ||| xl_bit o)
def xb_taken (b : vx_B) (to : Nat) : Nat → Nat → Bool
  | 0, _ => false
  | n + 1, k => if to < k then false else if tb_o b k = 0 then xb_taken b to n (k + 1) else true
def xb_fill (v : Int32) (to : Nat) : Nat → Nat → (Nat → Int32) → (Nat → Int32)
  | 0, _, o => o
  | n + 1, k, o => if to < k then o else xb_fill v to n (k + 1) (upd o k v)
def xv_hasF (r : vx_R) (rc fd : Int32) : Bool := if vx_has (rr_n r) rc = true then (if fd < 0 then false else if nI 8 ≤ fd then false else true) else false
def xv_locked (r : vx_R) (t : vx_A) (k : Nat) : Bool := if rr_u r k ≤ xa_now t then false else true
def xv_refuse (r : vx_R) (k : Nat) (fd : Int32) (v : Int64) : Bool := if fd = 0 then (if v = 1 then (if rr_k r k = nI 1 then true else false) else false) else false
def xv_lean1 (t : vx_A) (w : Nat → Int64) (k : Nat) : Nat → Nat → Bool
  | 0, _ => false
  | n + 1, j => if ta_n t < j then false else if ta_c t j = true then (if xl_has w j k = true then true else xv_lean1 t w k n (j + 1)) else xv_lean1 t w k n (j + 1)
def xv_leanO (t : vx_A) (w : Nat → Int64) (b : vx_B) (k : Nat) (bt : Int32) : Nat → Nat → Bool
  | 0, _ => false
  | n + 1, j => if ta_n t < j then false else if ta_c t j = true then (if tb_o b j = bt then xv_leanO t w b k bt n (j + 1) else if xl_has w j k = true then true else xv_leanO t w b k bt n (j + 1)) else xv_leanO t w b k bt n (j + 1)
def xv_inC (b : vx_B) (bt : Int32) (c : Nat → Bool) (k : Nat) : Bool := if tb_o b k = bt then (if c k = true then true else false) else false
def xv_leanF (t : vx_A) (w : Nat → Int64) (b : vx_B) (bt : Int32) : Nat → Nat → Bool
  | 0, _ => false
  | n + 1, j => if ta_n t < j then false else if xv_inC b bt (ta_c t) j = true then (if xv_leanO t w b j bt (ta_n t + 1) (j + 1) = true then true else xv_leanF t w b bt n (j + 1)) else xv_leanF t w b bt n (j + 1)
def xv_dropC (b : vx_B) (bt : Int32) : Nat → (Nat → Bool) → (Nat → Bool)
  | 0, c => c
  | q + 1, c => if xv_inC b bt c (q + 1) = true then xv_dropC b bt q (vr_ub c (q + 1) false) else xv_dropC b bt q c
def xv_dropN (b : vx_B) (bt : Int32) : Nat → (Nat → Bool) → Nat → Nat
  | 0, _, d => d
  | q + 1, c, d => if xv_inC b bt c (q + 1) = true then xv_dropN b bt q (vr_ub c (q + 1) false) (d + 1) else xv_dropN b bt q c d
/-- the walk over pairs: at the pair (lo, hi), with ah pairs to pass -/
def xv_pair (t : vx_A) (what : Int32) : Nat → Nat → Nat → Nat → Int32
  | 0, _, _, _ => -1
  | n + 1, lo, hi, ah =>
    if ta_n t < hi then (if ta_n t ≤ lo + 1 then -1 else xv_pair t what n (lo + 1) (lo + 1 + 1) ah)
    else if xa_conf t lo hi = true then (if ah = 0 then (if what = 0 then nI lo else nI hi) else xv_pair t what n lo (hi + 1) (ah - 1)) else xv_pair t what n lo (hi + 1) ah
theorem vr_n2 : nI 2 = 2 := rfl
theorem vr_un_le {f : Nat → Nat} {k v : Nat} (h : ∀ j, f j ≤ 200) (hv : v ≤ 200) : ∀ j, vr_un f k v j ≤ 200 := fun j => by
  unfold vr_un; split
  · exact hv
  · exact h j
def xr_add (r : vx_R) (kd : Int32) : vx_R := (upd (rr_k r) (rr_n r + 1) kd, rr_l r, vp_updL (rr_u r) (rr_n r + 1) vr_min, rr_n r + 1)
def xr_lock (r : vx_R) (k : Nat) (who : Int32) (un : Int64) : vx_R := (rr_k r, upd (rr_l r) k who, vp_updL (rr_u r) k un, rr_n r)
def xb_can (b : vx_B) (f to : Nat) : Bool := if 30 ≤ tb_n b then false else if xb_taken b to (to + 2) f = true then false else true
def xb_add (b : vx_B) (f to : Nat) : vx_B := (xb_fill (nI (tb_n b + 1)) to (to + 2) f (tb_o b), tb_n b + 1)
theorem xv_hasF_has {r : vx_R} {rc fd : Int32} (h : xv_hasF r rc fd = true) : vx_has (rr_n r) rc = true := by
  unfold xv_hasF at h; split at h
  · assumption
  · cases h
theorem xa_find_le (t : vx_A) (rc fd v : Int32) (vd kn : Int64) : ∀ n k, xa_find t rc fd v vd kn n k ≤ ta_n t := by
  intro n
  induction n with
  | zero => intro k; simp [xa_find]
  | succ n ih =>
    intro k
    rw [xa_find]
    split
    · omega
    · split
      · omega
      · exact ih _
theorem xa_last_le {t : vx_A} (h : ∀ j, ta_o t j ≤ 200) (rc fd : Int32) (mo : Int64) : ∀ q, xa_last t rc fd mo q ≤ 200 := by
  intro q
  induction q with
  | zero => simp [xa_last]
  | succ q ih =>
    rw [xa_last]
    split
    · exact h _
    · exact ih
def xv_rec (r : vx_R) (kd : Int32) : Bool := if kd < 0 then false else if kd < nI 4 then (if rr_n r < 20 then true else false) else false
def xv_actOk (r : vx_R) (t : vx_A) (rc fd : Int32) (v : Int64) : Bool :=
  if xv_hasF r rc fd = true then (if v < 0 then false else if v ≤ 2147483647 then (if xv_locked r t rc.toNatClampNeg = true then false else if xv_refuse r rc.toNatClampNeg fd v = true then false else true) else false) else false
def xv_fnd (t : vx_A) (rc fd : Int32) (v vd kn : Int64) : Nat := xa_find t rc fd v.toInt32 vd kn (ta_n t + 2) 1
def xv_actN (r : vx_R) (t : vx_A) (rc fd : Int32) (v vd kn : Int64) : Nat := if xv_actOk r t rc fd v = true then (if xv_fnd t rc fd v vd kn = 0 then (if ta_n t < 200 then ta_n t + 1 else 0) else xv_fnd t rc fd v vd kn) else 0
def xv_actT (r : vx_R) (t : vx_A) (rc fd : Int32) (v vd kn : Int64) : vx_A := if xv_actOk r t rc fd v = true then (if xv_fnd t rc fd v vd kn = 0 then (if ta_n t < 200 then xa_add t rc fd v.toInt32 vd kn else t) else t) else t
def xv_at (r : vx_R) (t : vx_A) (rc fd : Int32) (mo : Int64) : Int32 := if xv_hasF r rc fd = true then (if xa_last t rc fd mo (ta_n t) = 0 then -1 else ta_v t (xa_last t rc fd mo (ta_n t))) else -1
def xv_stale (r : vx_R) (t : vx_A) (rc : Int32) (mo : Int64) (fd : Int32) : Int32 :=
  if xv_hasF r rc fd = true then
    (if xa_last t rc fd (xa_now t) (ta_n t) = 0 then 1 else if mo < ta_k t (xa_last t rc fd (xa_now t) (ta_n t)) then
      (if xa_last t rc fd mo (ta_n t) = 0 then 0 else if ta_v t (xa_last t rc fd mo (ta_n t)) = ta_v t (xa_last t rc fd (xa_now t) (ta_n t)) then 2 else 0) else 1)
  else -1
def xv_undo (t : vx_A) (w : Nat → Int64) (i : Int32) : Bool := if vx_has (ta_n t) i = true then (if ta_c t i.toNatClampNeg = true then (if xv_lean1 t w i.toNatClampNeg (ta_n t + 1) (i.toNatClampNeg + 1) = true then false else true) else false) else false
def xv_lean (t : vx_A) (w : Nat → Int64) (i o : Int32) : Bool := if vx_has (ta_n t) i = true then (if vx_has (ta_n t) o = true then (if i.toNatClampNeg ≤ o.toNatClampNeg then false else if xl_has w i.toNatClampNeg o.toNatClampNeg = true then false else true) else false) else false
def xv_lock (r : vx_R) (t : vx_A) (rc who : Int32) : Bool := if vx_has (rr_n r) rc = true then (if xv_locked r t rc.toNatClampNeg = true then (if rr_l r rc.toNatClampNeg = who then true else false) else true) else false
def xv_bat (t : vx_A) (b : vx_B) (f to : Int32) : Bool := if vx_has (ta_n t) f = true then (if vx_has (ta_n t) to = true then (if f.toNatClampNeg ≤ to.toNatClampNeg then xb_can b f.toNatClampNeg to.toNatClampNeg else false) else false) else false
def xv_can (t : vx_A) (w : Nat → Int64) (b : vx_B) (bt : Int32) : Bool := if vx_has (tb_n b) bt = true then (if xv_leanF t w b bt (ta_n t + 2) 1 = true then false else true) else false
def xv_cf (t : vx_A) (i what : Int32) : Int32 := if i < 0 then -1 else if what < 0 then -1 else if what ≤ nI 1 then (if ta_n t ≤ 1 then -1 else xv_pair t what 40804 1 2 i.toNatClampNeg) else -1
def xv_hist (r : vx_R) (t : vx_A) (rc fd i : Int32) : Nat := if xv_hasF r rc fd = true then (if 0 ≤ i then xa_ith t rc fd (ta_n t + 2) 1 i.toNatClampNeg else 0) else 0
/-- a new object -/
abbrev vx_r0 : vx_R := (fun _ => 0, fun _ => 0, fun _ => 0, 0)
abbrev vx_t0 : vx_A := (fun _ => 0, fun _ => 0, fun _ => 0, fun _ => 0, fun _ => 0, fun _ => false, fun _ => 0, 0)
abbrev vx_b0 : vx_B := (fun _ => 0, 0)
def vr_at0 (h : Nat) (u : Nat → Nat) : Nat → Nat
  | 0 => h
  | n + 1 => u n
