/-! the reference's state as a mathematical value, and what its methods answer -/
-- acts: record, field, value, valid, known, undone, acts
abbrev vm_A : Type := (Nat → Int32) × (Nat → Int32) × (Nat → Int32) × (Nat → Int64) × (Nat → Int64) × (Nat → Bool) × Nat
abbrev tm_r (t : vm_A) : Nat → Int32 := t.1
abbrev tm_f (t : vm_A) : Nat → Int32 := t.2.1
abbrev tm_v (t : vm_A) : Nat → Int32 := t.2.2.1
abbrev tm_d (t : vm_A) : Nat → Int64 := t.2.2.2.1
abbrev tm_k (t : vm_A) : Nat → Int64 := t.2.2.2.2.1
abbrev tm_u (t : vm_A) : Nat → Bool := t.2.2.2.2.2.1
abbrev tm_n (t : vm_A) : Nat := t.2.2.2.2.2.2
abbrev tm_setU (t : vm_A) (u : Nat → Bool) : vm_A := (tm_r t, tm_f t, tm_v t, tm_d t, tm_k t, u, tm_n t)
abbrev vm_t0 : vm_A := (fun _ => 0, fun _ => 0, fun _ => 0, fun _ => 0, fun _ => 0, fun _ => false, 0)
/-- the cells of a VersionRowsModel -/
def vm_w (g : vr_G) (a : Nat → Nat) (r : vx_R) (t : vm_A) (w : Nat → Bool) (b : vx_B) : va_W :=
  [(a 0, .inr (5, [.int (nI 0), .int (nI (rr_n r)), .ref (a 1), .ref (a 2), .ref (a 3), .int (nI (tm_n t)), .ref (a 4), .ref (a 5), .ref (a 6), .ref (a 7), .ref (a 8), .ref (a 9), .ref (a 10), .ref (a 11), .int (nI (tb_n b))])),
   (a 1, .inl (g.2.1, 21, .inl (rr_k r))),
   (a 2, .inl (g.2.1, 21, .inl (rr_l r))),
   (a 3, .inl (g.2.2.1, 21, .inr (.inl (rr_u r)))),
   (a 4, .inl (g.2.1, 201, .inl (tm_r t))),
   (a 5, .inl (g.2.1, 201, .inl (tm_f t))),
   (a 6, .inl (g.2.1, 201, .inl (tm_v t))),
   (a 7, .inl (g.2.2.1, 201, .inr (.inl (tm_d t)))),
   (a 8, .inl (g.2.2.1, 201, .inr (.inl (tm_k t)))),
   (a 9, .inl (g.2.2.2, 201, .inl (fun j => vr_b (tm_u t j)))),
   (a 10, .inl (g.2.1, 201, .inl (tb_o b))),
   (a 11, .inl (g.2.2.2, 40401, .inl (fun j => vr_b (w j))))]
def vm_ok (r : vx_R) (t : vm_A) (b : vx_B) : Prop := rr_n r ≤ 20 ∧ tm_n t ≤ 200 ∧ tb_n b ≤ 30
def mm_is (n : Nat) (i : Int32) : Bool := if i ≤ 0 then false else if nI n < i then false else true
theorem mm_is_has (n : Nat) (i : Int32) : mm_is n i = vx_has n i := by
  have e : (i ≤ 0) ↔ (i < nI 1) := by
    rw [Int32.le_iff_toInt_le, Int32.lt_iff_toInt_lt]
    have h1 : (nI 1).toInt = 1 := by decide
    have h2 : (0 : Int32).toInt = 0 := by decide
    rw [h1, h2]; omega
  unfold mm_is vx_has
  by_cases h : i ≤ 0
  · rw [if_pos h, if_pos (e.mp h)]
  · rw [if_neg h, if_neg (fun q => h (e.mpr q))]
def mm_isF (r : vx_R) (rc fd : Int32) : Bool := if mm_is (rr_n r) rc = true then (if fd < 0 then false else if nI 8 ≤ fd then false else true) else false
theorem mm_isF_eq (r : vx_R) (rc fd : Int32) : mm_isF r rc fd = xv_hasF r rc fd := by unfold mm_isF xv_hasF; rw [mm_is_has]
theorem mm_isF_has {r : vx_R} {rc fd : Int32} (h : mm_isF r rc fd = true) : vx_has (rr_n r) rc = true := xv_hasF_has (by rw [← mm_isF_eq r rc fd]; exact h)
def mm_rec (r : vx_R) (kd : Int32) : Bool := if kd < 0 then false else if nI 3 < kd then false else if rr_n r = 20 then false else true
def mm_now (t : vm_A) : Nat → Nat → Int64 → Int64
  | 0, _, x => x
  | n + 1, k, x => if tm_n t < k then x else mm_now t n (k + 1) (if tm_k t k ≤ x then x else tm_k t k)
def mm_nowT (t : vm_A) : Int64 := mm_now t (tm_n t + 2) 1 vr_min
def mm_locked (r : vx_R) (t : vm_A) (k : Nat) : Bool := if rr_u r k ≤ mm_nowT t then false else true
def mm_same (t : vm_A) (k : Nat) (rc fd : Int32) (v vd kn : Int64) : Bool :=
  if tm_u t k = true then false else if tm_r t k = rc then (if tm_f t k = fd then (if (tm_v t k).toInt64 = v then (if tm_d t k = vd then (if tm_k t k = kn then true else false) else false) else false) else false) else false
def mm_find (t : vm_A) (rc fd : Int32) (v vd kn : Int64) : Nat → Nat → Nat
  | 0, _ => 0
  | n + 1, k => if tm_n t < k then 0 else if mm_same t k rc fd v vd kn = true then k else mm_find t rc fd v vd kn n (k + 1)
def mm_stop (r : vx_R) (t : vm_A) (k : Nat) (fd : Int32) (v : Int64) : Bool :=
  if fd = 0 then (if v = 1 then (if rr_k r k = nI 1 then true else if tm_n t = 200 then true else false) else if tm_n t = 200 then true else false) else if tm_n t = 200 then true else false
def mm_new (t : vm_A) (rc fd : Int32) (v vd kn : Int64) : vm_A :=
  (upd (tm_r t) (tm_n t + 1) rc, upd (tm_f t) (tm_n t + 1) fd, upd (tm_v t) (tm_n t + 1) v.toInt32, vp_updL (tm_d t) (tm_n t + 1) vd, vp_updL (tm_k t) (tm_n t + 1) kn, tm_u t, tm_n t + 1)
def mm_finN (r : vx_R) (t : vm_A) (k : Nat) (fd : Int32) (v : Int64) (f : Nat) : Nat := if f = 0 then (if mm_stop r t k fd v = true then 0 else tm_n t + 1) else f
def mm_finT (r : vx_R) (t : vm_A) (k : Nat) (fd : Int32) (v vd kn : Int64) (f : Nat) : vm_A := if f = 0 then (if mm_stop r t k fd v = true then t else mm_new t (nI k) fd v vd kn) else t
def mm_actOk (r : vx_R) (t : vm_A) (rc fd : Int32) (v : Int64) : Bool :=
  if mm_isF r rc fd = true then (if v < 0 then false else if 2147483647 < v then false else if mm_locked r t rc.toNatClampNeg = true then false else true) else false
def mm_actN (r : vx_R) (t : vm_A) (rc fd : Int32) (v vd kn : Int64) : Nat := if mm_actOk r t rc fd v = true then mm_finN r t rc.toNatClampNeg fd v (mm_find t rc fd v vd kn (tm_n t + 2) 1) else 0
def mm_actT (r : vx_R) (t : vm_A) (rc fd : Int32) (v vd kn : Int64) : vm_A := if mm_actOk r t rc fd v = true then mm_finT r t rc.toNatClampNeg fd v vd kn (mm_find t rc fd v vd kn (tm_n t + 2) 1) else t
def mm_isOf (t : vm_A) (k : Nat) (rc fd : Int32) : Bool := if tm_r t k = rc then (if tm_f t k = fd then true else false) else false
def mm_before (t : vm_A) (i j : Nat) : Bool := if tm_k t i = tm_k t j then (if tm_d t i = tm_d t j then (if j ≤ i then false else true) else (if tm_d t j ≤ tm_d t i then false else true)) else (if tm_k t j ≤ tm_k t i then false else true)
def mm_lc (t : vm_A) (rc fd : Int32) (mo : Int64) (k bst : Nat) : Bool :=
  if mm_isOf t k rc fd = true then (if tm_u t k = true then false else if mo < tm_k t k then false else if bst = 0 then true else if mm_before t bst k = true then true else false) else false
def mm_last (t : vm_A) (rc fd : Int32) (mo : Int64) : Nat → Nat → Nat → Nat
  | 0, _, bst => bst
  | n + 1, k, bst => if tm_n t < k then bst else mm_last t rc fd mo n (k + 1) (if mm_lc t rc fd mo k bst = true then k else bst)
def mm_lastT (t : vm_A) (rc fd : Int32) (mo : Int64) : Nat := mm_last t rc fd mo (tm_n t + 2) 1 0
theorem mm_last_le (t : vm_A) (rc fd : Int32) (mo : Int64) : ∀ n k bst, bst ≤ tm_n t → mm_last t rc fd mo n k bst ≤ tm_n t := by
  intro n
  induction n with
  | zero => intro k bst h; exact h
  | succ n ih =>
    intro k bst h
    rw [mm_last]
    split
    · exact h
    · apply ih
      split
      · omega
      · exact h
def mm_at (r : vx_R) (t : vm_A) (rc fd : Int32) (mo : Int64) : Int32 := if mm_isF r rc fd = true then (if mm_lastT t rc fd mo = 0 then -1 else tm_v t (mm_lastT t rc fd mo)) else -1
abbrev vr_max : Int64 := 9223372036854775807
def mm_stale (r : vx_R) (t : vm_A) (rc : Int32) (mo : Int64) (fd : Int32) : Int32 :=
  if mm_isF r rc fd = true then
    (if mm_lastT t rc fd vr_max = 0 then 1 else if mo < tm_k t (mm_lastT t rc fd vr_max) then
      (if mm_lastT t rc fd mo = 0 then 0 else if tm_v t (mm_lastT t rc fd mo) = tm_v t (mm_lastT t rc fd vr_max) then 2 else 0) else 1)
  else -1
def mm_l1 (t : vm_A) (w : Nat → Bool) (b : vx_B) (k : Nat) (but : Int32) (j : Nat) : Bool :=
  if w (201 * j + k) = true then (if tm_u t j = true then false else if but = 0 then true else if tb_o b j = but then false else true) else false
def mm_lo (t : vm_A) (w : Nat → Bool) (b : vx_B) (k : Nat) (but : Int32) : Nat → Nat → Bool → Bool
  | 0, _, is => is
  | n + 1, j, is => if tm_n t < j then is else mm_lo t w b k but n (j + 1) (if is = true then true else mm_l1 t w b k but j)
def mm_loT (t : vm_A) (w : Nat → Bool) (b : vx_B) (k : Nat) (but : Int32) : Bool := mm_lo t w b k but (tm_n t + 2) 1 false
def mm_undo (t : vm_A) (w : Nat → Bool) (b : vx_B) (i : Int32) : Bool := if mm_is (tm_n t) i = true then (if tm_u t i.toNatClampNeg = true then false else if mm_loT t w b i.toNatClampNeg (nI 0) = true then false else true) else false
def mm_lean (t : vm_A) (w : Nat → Bool) (i o : Int32) : Bool := if mm_is (tm_n t) i = true then (if mm_is (tm_n t) o = true then (if i.toNatClampNeg ≤ o.toNatClampNeg then false else if w (201 * i.toNatClampNeg + o.toNatClampNeg) = true then false else true) else false) else false
def mm_lock (r : vx_R) (t : vm_A) (rc who : Int32) : Bool := if mm_is (rr_n r) rc = true then (if mm_locked r t rc.toNatClampNeg = true then (if rr_l r rc.toNatClampNeg = who then true else false) else true) else false
def mm_batN (b : vx_B) (f to n k : Nat) : Nat := if xb_taken b to n k = true then 0 else tb_n b + 1
def mm_batB (b : vx_B) (f to n k : Nat) : vx_B := if xb_taken b to n k = true then b else xb_add b f to
def mm_batOk (t : vm_A) (b : vx_B) (f to : Int32) : Bool := if mm_is (tm_n t) f = true then (if mm_is (tm_n t) to = true then (if to.toNatClampNeg < f.toNatClampNeg then false else if tb_n b = 30 then false else true) else false) else false
def mm_dn (t : vm_A) (b : vx_B) (bt : Int32) : Nat → Nat → Nat → Nat
  | 0, _, d => d
  | n + 1, k, d => if tm_n t < k then d else if tb_o b k = bt then (if tm_u t k = true then mm_dn t b bt n (k + 1) d else mm_dn t b bt n (k + 1) (d + 1)) else mm_dn t b bt n (k + 1) d
def mm_dh (t : vm_A) (w : Nat → Bool) (b : vx_B) (bt : Int32) : Nat → Nat → Bool → Bool
  | 0, _, h => h
  | n + 1, k, h => if tm_n t < k then h else if tb_o b k = bt then (if tm_u t k = true then mm_dh t w b bt n (k + 1) h else mm_dh t w b bt n (k + 1) (if h = true then true else if mm_loT t w b k bt = true then true else false)) else mm_dh t w b bt n (k + 1) h
def mm_du (t : vm_A) (b : vx_B) (bt : Int32) : Nat → Nat → (Nat → Bool) → (Nat → Bool)
  | 0, _, u => u
  | n + 1, k, u => if tm_n t < k then u else mm_du t b bt n (k + 1) (vr_ub u k (if u k = true then true else if tb_o b k = bt then true else false))
def mm_dropOk (b : vx_B) (bt : Int32) : Bool := if bt < nI 1 then false else if bt ≤ nI (tb_n b) then true else false
def mm_dropN (t : vm_A) (w : Nat → Bool) (b : vx_B) (bt : Int32) (n k d : Nat) (h : Bool) : Nat := if mm_dh t w b bt n k h = true then 0 else mm_dn t b bt n k d
def mm_dropU (t : vm_A) (w : Nat → Bool) (b : vx_B) (bt : Int32) (n k : Nat) (h : Bool) : Nat → Bool := if mm_dh t w b bt n k h = true then tm_u t else mm_du t b bt (tm_n t + 2) 1 (tm_u t)
def mm_conf (t : vm_A) (i j : Nat) : Bool :=
  if tm_u t i = true then false else if tm_u t j = true then false else if mm_isOf t i (tm_r t j) (tm_f t j) = true then (if tm_k t i = tm_k t j then (if tm_v t i = tm_v t j then false else true) else false) else false
def mm_pair (t : vm_A) (what : Int32) (i : Nat) : Nat → Nat → Nat → Nat → Int32
  | 0, _, _, _ => -1
  | n + 1, lo, hi, sn =>
    if tm_n t < hi then (if tm_n t < lo + 1 then -1 else mm_pair t what i n (lo + 1) (lo + 1 + 1) sn)
    else if mm_conf t lo hi = true then (if sn = i then (if what = 0 then nI lo else if what = nI 1 then nI hi else -1) else mm_pair t what i n lo (hi + 1) (sn + 1)) else mm_pair t what i n lo (hi + 1) sn
def mm_cf (t : vm_A) (i what : Int32) : Int32 := if tm_n t < 1 then -1 else if i < 0 then -1 else mm_pair t what i.toNatClampNeg 40804 1 2 0
def mm_bf (t : vm_A) (rc fd : Int32) (k : Nat) : Nat → Nat → Nat → Nat
  | 0, _, c => c
  | n + 1, j, c => if tm_n t < j then c else mm_bf t rc fd k n (j + 1) (c + (if mm_isOf t j rc fd = true then (if mm_before t j k = true then 1 else 0) else 0))
def mm_bfT (t : vm_A) (rc fd : Int32) (k : Nat) : Nat := mm_bf t rc fd k (tm_n t + 2) 1 0
theorem mm_bf_le (t : vm_A) (rc fd : Int32) (k : Nat) : ∀ n j c, mm_bf t rc fd k n j c ≤ c + n := by
  intro n
  induction n with
  | zero => intro j c; simp [mm_bf]
  | succ n ih =>
    intro j c
    rw [mm_bf]
    split
    · omega
    · refine Nat.le_trans (ih _ _) ?_
      split
      · split <;> omega
      · omega
def mm_h (r : vx_R) (t : vm_A) (rc fd : Int32) (i : Nat) : Nat → Nat → Nat
  | 0, _ => 0
  | n + 1, k => if tm_n t < k then 0 else if mm_isF r rc fd = true then (if mm_isOf t k rc fd = true then (if mm_bfT t rc fd k = i then k else mm_h r t rc fd i n (k + 1)) else mm_h r t rc fd i n (k + 1)) else 0
def mm_hist (r : vx_R) (t : vm_A) (rc fd i : Int32) : Nat := if i < 0 then 0 else mm_h r t rc fd i.toNatClampNeg (tm_n t + 2) 1
theorem vr_n10 : ¬ nI 1 = 0 := by decide
