/-! VersionRows and the reference, call by call -/
def sr (r : vx_R) (t : vx_A) (w : Nat → Int64) (b : vx_B) (r' : vx_R) (t' : vm_A) (w' : Nat → Bool) (b' : vx_B) : Prop :=
  r' = r ∧ b' = b ∧ sm_t t t' ∧ sm_w w w' ∧ vx_ok r t b ∧ xo_inv t ∧ (∀ j, 1 ≤ j → j ≤ ta_n t → (ta_r t j).toNatClampNeg ≤ rr_n r ∧ ¬ (ta_f t j = 0 ∧ ta_v t j = 1 ∧ rr_k r (ta_r t j).toNatClampNeg = nI 1))
section REL
variable {r r' : vx_R} {t : vx_A} {t' : vm_A} {w : Nat → Int64} {w' : Nat → Bool} {b b' : vx_B}
theorem sr_ok (h : sr r t w b r' t' w' b') : vx_ok r t b := h.2.2.2.2.1
theorem sr_mok (h : sr r t w b r' t' w' b') : vm_ok r' t' b' := by
  obtain ⟨rfl, rfl, h3, -, ⟨k1, k2, k3, k4⟩, -⟩ := h
  exact ⟨k1, by rw [h3.2.2.2.2.2.1]; exact k2, k4⟩
theorem sr_new : sr vx_r0 vx_t0 (fun _ => 0) vx_b0 vx_r0 vm_t0 (fun _ => false) vx_b0 := by
  refine ⟨rfl, rfl, ⟨rfl, rfl, rfl, rfl, rfl, rfl, fun j h1 h2 => ?_, fun j h => rfl⟩, fun a o _ _ => ⟨?_, fun q => ?_⟩, ⟨Nat.zero_le _, Nat.zero_le _, fun j => Nat.zero_le _, Nat.zero_le _⟩, ⟨fun p h1 h2 => ?_, fun p q h1 h2 h3 => ?_, fun j h1 h2 => ?_⟩, fun j h1 h2 => ?_⟩
  · have : j ≤ 0 := h2
    omega
  · rw [xl_has_get]; simp
  · rw [xl_has_get] at q; simp at q
  · have : p ≤ 0 := h2
    omega
  · have : q ≤ 0 := h3
    omega
  · have : j ≤ 0 := h2
    omega
  · have : j ≤ 0 := h2
    omega
theorem sr_rec (h : sr r t w b r' t' w' b') (kd : Int32) : mm_rec r' kd = xv_rec r kd ∧ sr (if xv_rec r kd = true then xr_add r kd else r) t w b (if mm_rec r' kd = true then xr_add r' kd else r') t' w' b' := by
  obtain ⟨rfl, rfl, h3, h4, ⟨k1, k2, k3, k4⟩, h6, h7⟩ := h
  have e : mm_rec r' kd = xv_rec r' kd := by
    unfold mm_rec xv_rec
    by_cases h0 : kd < 0
    · rw [if_pos h0, if_pos h0]
    · rw [if_neg h0, if_neg h0]
      have e1 : (nI 3 < kd) ↔ ¬ (kd < nI 4) := by
        rw [Int32.lt_iff_toInt_lt, Int32.lt_iff_toInt_lt, show (nI 3).toInt = 3 by decide, show (nI 4).toInt = 4 by decide]; omega
      by_cases h1 : kd < nI 4
      · rw [if_pos h1, if_neg (fun q => e1.mp q h1)]
        by_cases h2 : rr_n r' = 20
        · rw [if_pos h2, if_neg (by omega)]
        · rw [if_neg h2, if_pos (by omega)]
      · rw [if_neg h1, if_pos (e1.mpr h1)]
  refine ⟨e, ?_⟩
  rw [e]
  by_cases hc : xv_rec r' kd = true
  · rw [if_pos hc]
    have hn : rr_n r' < 20 := by
      unfold xv_rec at hc
      split at hc
      · cases hc
      · split at hc
        · split at hc
          · assumption
          · cases hc
        · cases hc
    refine ⟨rfl, rfl, h3, h4, ⟨by show rr_n r' + 1 ≤ 20; omega, k2, k3, k4⟩, h6, fun j g1 g2 => ?_⟩
    obtain ⟨q1, q2⟩ := h7 j g1 g2
    refine ⟨by show _ ≤ rr_n r' + 1; omega, ?_⟩
    have e2 : rr_k (xr_add r' kd) (ta_r t j).toNatClampNeg = rr_k r' (ta_r t j).toNatClampNeg := pk_un (by omega)
    rw [e2]; exact q2
  · rw [if_neg hc]
    exact ⟨rfl, rfl, h3, h4, ⟨k1, k2, k3, k4⟩, h6, h7⟩
theorem sr_locked (h : sr r t w b r' t' w' b') (k : Nat) : mm_locked r' t' k = xv_locked r t k := by
  obtain ⟨rfl, rfl, h3, h4, -, h6, h7⟩ := h
  unfold mm_locked xv_locked
  rw [sm_now h3 h6]
theorem sr_at (h : sr r t w b r' t' w' b') (rc fd : Int32) (mo : Int64) : mm_at r' t' rc fd mo = xv_at r t rc fd mo := by
  obtain ⟨rfl, rfl, h3, h4, -, h6, h7⟩ := h
  unfold mm_at xv_at
  rw [mm_isF_eq, sm_last h3 h6, h3.2.2.1]
theorem sr_stale (h : sr r t w b r' t' w' b') (rc : Int32) (mo : Int64) (fd : Int32) : mm_stale r' t' rc mo fd = xv_stale r t rc mo fd := by
  obtain ⟨rfl, rfl, h3, h4, -, h6, h7⟩ := h
  unfold mm_stale xv_stale
  rw [mm_isF_eq, sm_last h3 h6, sm_last h3 h6, sm_max h6, h3.2.2.1, h3.2.2.2.2.1]
theorem sr_hist (h : sr r t w b r' t' w' b') (rc fd i : Int32) : mm_hist r' t' rc fd i = xv_hist r t rc fd i := by
  obtain ⟨rfl, rfl, h3, h4, -, h6, h7⟩ := h
  unfold mm_hist xv_hist
  by_cases hi : i < 0
  · rw [if_pos hi]
    have : ¬ 0 ≤ i := fun q => Int32.not_le.mpr hi q
    rw [if_neg this]; split <;> rfl
  · rw [if_neg hi, if_pos (Int32.not_lt.mp hi)]
    by_cases hf : xv_hasF r' rc fd = true
    · rw [if_pos hf, sm_h h3 h6 r' rc fd _ (by rw [mm_isF_eq]; exact hf)]
    · rw [if_neg hf]
      have hf' : ¬ mm_isF r' rc fd = true := by rw [mm_isF_eq]; exact hf
      rw [mm_h]
      split
      · rfl
      · first | rfl | rw [if_neg hf']
theorem sr_cf (h : sr r t w b r' t' w' b') (i what : Int32) : mm_cf t' i what = xv_cf t i what := sm_cf h.2.2.1 h.2.2.2.2.1.2.1 i what
theorem sr_lock (h : sr r t w b r' t' w' b') (rc who : Int32) (un : Int64) : mm_lock r' t' rc who = xv_lock r t rc who ∧ sr (if xv_lock r t rc who = true then xr_lock r rc.toNatClampNeg who un else r) t w b (if mm_lock r' t' rc who = true then xr_lock r' rc.toNatClampNeg who un else r') t' w' b' := by
  have e : mm_lock r' t' rc who = xv_lock r t rc who := by
    have hl := sr_locked h rc.toNatClampNeg
    obtain ⟨rfl, -⟩ := h
    unfold mm_lock xv_lock
    rw [mm_is_has, hl]
  refine ⟨e, ?_⟩
  rw [e]
  obtain ⟨rfl, rfl, h3, h4, h5, h6, h7⟩ := h
  by_cases hc : xv_lock r' t rc who = true
  · rw [if_pos hc]; exact ⟨rfl, rfl, h3, h4, h5, h6, h7⟩
  · rw [if_neg hc]; exact ⟨rfl, rfl, h3, h4, h5, h6, h7⟩
theorem sm_setU (h : sm_t t t') {c : Nat → Bool} {u : Nat → Bool} (h1 : ∀ j, 1 ≤ j → j ≤ ta_n t → u j = !(c j)) (h2 : ∀ j, ta_n t < j → u j = false) : sm_t (ta_setC t c) (tm_setU t' u) := ⟨h.1, h.2.1, h.2.2.1, h.2.2.2.1, h.2.2.2.2.1, h.2.2.2.2.2.1, h1, h2⟩
theorem sr_undo (h : sr r t w b r' t' w' b') (i : Int32) : mm_undo t' w' b' i = xv_undo t w i ∧ sr r (if xv_undo t w i = true then ta_setC t (vr_ub (ta_c t) i.toNatClampNeg false) else t) w b r' (if mm_undo t' w' b' i = true then tm_setU t' (vr_ub (tm_u t') i.toNatClampNeg true) else t') w' b' := by
  obtain ⟨rfl, rfl, h3, h4, ⟨k1, k2, k3, k4⟩, h6, h7⟩ := h
  have hN := h3.2.2.2.2.2.1
  have e : mm_undo t' w' b' i = xv_undo t w i := by
    unfold mm_undo xv_undo
    rw [mm_is_has, hN]
    by_cases hh : vx_has (ta_n t) i = true
    · rw [if_pos hh, if_pos hh]
      obtain ⟨k, g1, g2, rfl⟩ := vx_has_of (by omega) hh
      have hcl : (nI k).toNatClampNeg = k := nI_clamp (by omega)
      rw [hcl, h3.2.2.2.2.2.2.1 k g1 g2, sm_undo h3 h4 k2 b' g1 g2]
      cases ta_c t k <;> simp
    · rw [if_neg hh, if_neg hh]
  refine ⟨e, ?_⟩
  rw [e]
  by_cases hc : xv_undo t w i = true
  · rw [if_pos hc, if_pos hc]
    have hh : vx_has (ta_n t) i = true := by
      unfold xv_undo at hc; split at hc
      · assumption
      · cases hc
    obtain ⟨k, g1, g2, rfl⟩ := vx_has_of (by omega) hh
    have hcl : (nI k).toNatClampNeg = k := nI_clamp (by omega)
    rw [hcl]
    refine ⟨rfl, rfl, sm_setU h3 (fun j q1 q2 => ?_) (fun j q => ?_), h4, ⟨k1, k2, k3, k4⟩, h6, h7⟩
    · by_cases hj : j = k
      · subst hj; rw [vr_ub_s, vr_ub_s]; rfl
      · rw [vr_ub_n hj, vr_ub_n hj]; exact h3.2.2.2.2.2.2.1 j q1 q2
    · rw [vr_ub_n (by omega)]; exact h3.2.2.2.2.2.2.2 j q
  · rw [if_neg hc, if_neg hc]; exact ⟨rfl, rfl, h3, h4, ⟨k1, k2, k3, k4⟩, h6, h7⟩
theorem sr_lean (h : sr r t w b r' t' w' b') (i o : Int32) : mm_lean t' w' i o = xv_lean t w i o ∧ sr r t (if xv_lean t w i o = true then xl_add w i.toNatClampNeg o.toNatClampNeg else w) b r' t' (if mm_lean t' w' i o = true then vr_ub w' (201 * i.toNatClampNeg + o.toNatClampNeg) true else w') b' := by
  obtain ⟨rfl, rfl, h3, h4, ⟨k1, k2, k3, k4⟩, h6, h7⟩ := h
  have hN := h3.2.2.2.2.2.1
  have key : ∀ k j, 1 ≤ k → k ≤ ta_n t → 1 ≤ j → j ≤ ta_n t → w' (201 * k + j) = xl_has w k j := fun k j _ g2 _ g4 => (h4 k j (by omega) (by omega)).1
  have e : mm_lean t' w' i o = xv_lean t w i o := by
    unfold mm_lean xv_lean
    rw [mm_is_has, mm_is_has, hN]
    by_cases hh : vx_has (ta_n t) i = true
    · rw [if_pos hh, if_pos hh]
      by_cases ho : vx_has (ta_n t) o = true
      · rw [if_pos ho, if_pos ho]
        obtain ⟨k, g1, g2, rfl⟩ := vx_has_of (by omega) hh
        obtain ⟨j, f1, f2, rfl⟩ := vx_has_of (by omega) ho
        rw [nI_clamp (by omega), nI_clamp (by omega), key k j g1 g2 f1 f2]
      · rw [if_neg ho, if_neg ho]
    · rw [if_neg hh, if_neg hh]
  refine ⟨e, ?_⟩
  rw [e]
  by_cases hc : xv_lean t w i o = true
  · rw [if_pos hc, if_pos hc]
    unfold xv_lean at hc
    split at hc
    · rename_i hh
      split at hc
      · rename_i ho
        obtain ⟨k, g1, g2, rfl⟩ := vx_has_of (by omega) hh
        obtain ⟨j, f1, f2, rfl⟩ := vx_has_of (by omega) ho
        rw [nI_clamp (show k < 2 ^ 31 by omega), nI_clamp (show j < 2 ^ 31 by omega)] at hc ⊢
        split at hc
        · cases hc
        · rename_i hlt
          refine ⟨rfl, rfl, h3, fun a o' ha ho' => ?_, ⟨k1, k2, k3, k4⟩, h6, h7⟩
          have hadd := xl_has_add w (k := k) (o := j) (k' := a) (o' := o') (by omega) ho'
          refine ⟨?_, fun q => ?_⟩
          · rw [hadd]
            by_cases hi : 201 * a + o' = 201 * k + j
            · have ea : k = a := by omega
              have eo : j = o' := by omega
              subst ea; subst eo
              rw [vr_ub_s]; simp
            · rw [vr_ub_n hi, (h4 a o' ha ho').1]
              by_cases ea : k = a
              · have eo : ¬ j = o' := fun z => hi (by rw [ea, z])
                simp [eo]
              · simp [ea]
          · rw [hadd] at q
            cases hx : xl_has w a o' with
            | true => exact (h4 a o' ha ho').2 hx
            | false =>
              rw [hx] at q
              simp at q
              omega
      · cases hc
    · cases hc
  · rw [if_neg hc, if_neg hc]; exact ⟨rfl, rfl, h3, h4, ⟨k1, k2, k3, k4⟩, h6, h7⟩
theorem sr_bat (h : sr r t w b r' t' w' b') (f to : Int32) : (if mm_batOk t' b' f to = true then mm_batN b' f.toNatClampNeg to.toNatClampNeg (to.toNatClampNeg + 2) f.toNatClampNeg else 0) = (if xv_bat t b f to = true then tb_n b + 1 else 0) ∧ sr r t w (if xv_bat t b f to = true then xb_add b f.toNatClampNeg to.toNatClampNeg else b) r' t' w' (if mm_batOk t' b' f to = true then mm_batB b' f.toNatClampNeg to.toNatClampNeg (to.toNatClampNeg + 2) f.toNatClampNeg else b') := by
  obtain ⟨rfl, rfl, h3, h4, ⟨k1, k2, k3, k4⟩, h6, h7⟩ := h
  have hN := h3.2.2.2.2.2.1
  have base : sr r' t w b' r' t' w' b' := ⟨rfl, rfl, h3, h4, ⟨k1, k2, k3, k4⟩, h6, h7⟩
  unfold mm_batOk xv_bat
  rw [mm_is_has, mm_is_has, hN]
  by_cases hh : vx_has (ta_n t) f = true
  · rw [if_pos hh, if_pos hh]
    by_cases ho : vx_has (ta_n t) to = true
    · rw [if_pos ho, if_pos ho]
      by_cases hft : to.toNatClampNeg < f.toNatClampNeg
      · rw [if_pos hft, if_neg (show ¬ f.toNatClampNeg ≤ to.toNatClampNeg by omega)]
        simp; exact base
      · rw [if_neg hft, if_pos (show f.toNatClampNeg ≤ to.toNatClampNeg by omega)]
        unfold xb_can mm_batN mm_batB
        by_cases h30 : tb_n b' = 30
        · rw [if_pos h30, if_pos (show 30 ≤ tb_n b' by omega)]; simp; exact base
        · rw [if_neg h30, if_neg (show ¬ 30 ≤ tb_n b' by omega)]
          by_cases ht : xb_taken b' to.toNatClampNeg (to.toNatClampNeg + 2) f.toNatClampNeg = true
          · rw [if_pos ht, if_pos ht]; simp; rw [if_pos ht]; exact base
          · rw [if_neg ht, if_neg ht]; simp
            rw [if_neg ht]
            exact ⟨rfl, rfl, h3, h4, ⟨k1, k2, k3, by show tb_n b' + 1 ≤ 30; omega⟩, h6, h7⟩
    · rw [if_neg ho, if_neg ho]; simp; exact base
  · rw [if_neg hh, if_neg hh]; simp; exact base
theorem sr_drop (h : sr r t w b r' t' w' b') (bt : Int32) : (if mm_dropOk b' bt = true then mm_dropN t' w' b' bt (tm_n t' + 2) 1 0 false else 0) = (if xv_can t w b bt = true then xv_dropN b bt (ta_n t) (ta_c t) 0 else 0) ∧ sr r (if xv_can t w b bt = true then ta_setC t (xv_dropC b bt (ta_n t) (ta_c t)) else t) w b r' (if mm_dropOk b' bt = true then tm_setU t' (mm_dropU t' w' b' bt (tm_n t' + 2) 1 false) else t') w' b' := by
  obtain ⟨rfl, rfl, h3, h4, ⟨k1, k2, k3, k4⟩, h6, h7⟩ := h
  have hN := h3.2.2.2.2.2.1
  have base : sr r' t w b' r' t' w' b' := ⟨rfl, rfl, h3, h4, ⟨k1, k2, k3, k4⟩, h6, h7⟩
  have e : mm_dropOk b' bt = vx_has (tb_n b') bt := by
    unfold mm_dropOk vx_has
    by_cases h1 : bt < nI 1
    · rw [if_pos h1, if_pos h1]
    · rw [if_neg h1, if_neg h1]
      by_cases h2 : nI (tb_n b') < bt
      · rw [if_pos h2, if_neg (fun q => Int32.not_le.mpr h2 q)]
      · rw [if_neg h2, if_pos (Int32.not_lt.mp h2)]
  rw [e]
  unfold xv_can mm_dropN mm_dropU
  by_cases hh : vx_has (tb_n b') bt = true
  · rw [if_pos hh, if_pos hh, if_pos hh]
    have hb : ¬ bt = 0 := by
      obtain ⟨k, g1, g2, rfl⟩ := vx_has_of (by omega) hh
      exact nI_ne0 (by omega) (by omega)
    rw [sm_held h3 h4 k2 b' hb, sm_many h3 b' bt]
    by_cases hl : xv_leanF t w b' bt (ta_n t + 2) 1 = true
    · rw [if_pos hl, if_pos hl, if_pos hl]; simp; exact base
    · rw [if_neg hl, if_neg hl, if_neg hl]; simp
      refine ⟨rfl, rfl, sm_setU h3 (fun j q1 q2 => ?_) (fun j q => ?_), h4, ⟨k1, k2, k3, k4⟩, h6, h7⟩
      · rw [sm_du0 t' b' bt (tm_n t' + 2) 1 (tm_u t') j (by omega), if_pos ⟨q1, by rw [hN]; exact q2⟩, sm_dropC, h3.2.2.2.2.2.2.1 j q1 q2]
        by_cases hx : xv_inC b' bt (ta_c t) j = true
        · rw [if_pos ⟨q1, q2, hx⟩]
          obtain ⟨x1, x2⟩ := (xv_inC_iff b' bt _ j).mp hx
          simp [x1]
        · rw [if_neg (fun z => hx z.2.2)]
          have hx' : ¬ (tb_o b' j = bt ∧ ta_c t j = true) := fun z => hx ((xv_inC_iff b' bt _ j).mpr z)
          cases hcj : ta_c t j with
          | false => simp
          | true =>
            have : ¬ tb_o b' j = bt := fun z => hx' ⟨z, hcj⟩
            simp [this]
      · rw [sm_du0 t' b' bt (tm_n t' + 2) 1 (tm_u t') j (by omega), if_neg (by rw [hN]; omega)]
        exact h3.2.2.2.2.2.2.2 j q
  · rw [if_neg hh, if_neg hh, if_neg hh]; simp; exact base
theorem sr_act (h : sr r t w b r' t' w' b') (rc fd : Int32) (v vd kn : Int64) : mm_actN r' t' rc fd v vd kn = xv_actN r t rc fd v vd kn ∧ sr r (xv_actT r t rc fd v vd kn) w b r' (mm_actT r' t' rc fd v vd kn) w' b' := by
  have hlk := fun k => sr_locked h k
  obtain ⟨rfl, rfl, h3, h4, ⟨k1, k2, k3, k4⟩, h6, h7⟩ := h
  have hN := h3.2.2.2.2.2.1
  have base : sr r' t w b' r' t' w' b' := ⟨rfl, rfl, h3, h4, ⟨k1, k2, k3, k4⟩, h6, h7⟩
  unfold mm_actN mm_actT xv_actN xv_actT mm_actOk xv_actOk
  rw [mm_isF_eq]
  by_cases hf : xv_hasF r' rc fd = true
  · rw [if_pos hf, if_pos hf]
    by_cases hv1 : v < 0
    · rw [if_pos hv1, if_pos hv1]; simp; exact base
    · rw [if_neg hv1, if_neg hv1]
      by_cases hv2 : v ≤ 2147483647
      · rw [if_pos hv2, if_neg (Int64.not_lt.mpr hv2), hlk]
        by_cases hl : xv_locked r' t rc.toNatClampNeg = true
        · rw [if_pos hl, if_pos hl]; simp; exact base
        · rw [if_neg hl, if_neg hl]
          obtain ⟨k, g1, g2, rfl⟩ := vx_has_of (n := rr_n r') (by omega) (xv_hasF_has hf)
          have hcl : (nI k).toNatClampNeg = k := nI_clamp (by omega)
          rw [hcl, sm_find h3 (nI k) fd vd kn hv1 hv2 (tm_n t' + 2) 1 (Nat.le_refl _), hN]
          have ef : xv_fnd t (nI k) fd v vd kn = xa_find t (nI k) fd v.toInt32 vd kn (ta_n t + 2) 1 := rfl
          rw [← ef]
          have h11 : (1 : Int32).toInt64 = v ↔ (1 : Int32) = v.toInt32 := sm_val hv1 hv2
          have h1v : v = 1 ↔ v.toInt32 = 1 := by
            constructor
            · intro q; exact (h11.mp (by rw [q]; decide)).symm
            · intro q; rw [← h11.mpr q.symm]; decide
          have hfs := xa_find_spec t (nI k) fd v.toInt32 vd kn (ta_n t + 2) 1 (Nat.le_refl _)
          rw [← ef] at hfs
          by_cases hr : xv_refuse r' k fd v = true
          · rw [if_pos hr]
            have hr2 : fd = 0 ∧ v = 1 ∧ rr_k r' k = nI 1 := by
              unfold xv_refuse at hr
              split at hr
              · split at hr
                · split at hr
                  · exact ⟨by assumption, by assumption, by assumption⟩
                  · cases hr
                · cases hr
              · cases hr
            have hf0 : xv_fnd t (nI k) fd v vd kn = 0 := by
              rcases hfs with q | ⟨q1, q2, q3⟩
              · exact q
              · exfalso
                have hs : ta_r t (xv_fnd t (nI k) fd v vd kn) = nI k ∧ ta_f t (xv_fnd t (nI k) fd v vd kn) = fd ∧ ta_v t (xv_fnd t (nI k) fd v vd kn) = v.toInt32 := by
                  have q4 : ta_c t (xv_fnd t (nI k) fd v vd kn) = true ∧ (ta_r t (xv_fnd t (nI k) fd v vd kn) = nI k ∧ ta_f t (xv_fnd t (nI k) fd v vd kn) = fd) ∧ ta_v t (xv_fnd t (nI k) fd v vd kn) = v.toInt32 ∧ ta_d t (xv_fnd t (nI k) fd v vd kn) = vd ∧ ta_k t (xv_fnd t (nI k) fd v vd kn) = kn := by simpa [xa_same, xa_isOf] using q3
                  exact ⟨q4.2.1.1, q4.2.1.2, q4.2.2.1⟩
                refine (h7 _ q1 q2).2 ⟨by rw [hs.2.1]; exact hr2.1, by rw [hs.2.2]; exact h1v.mp hr2.2.1, ?_⟩
                rw [hs.1, hcl]; exact hr2.2.2
            have hst : mm_stop r' t' k fd v = true := by simp [mm_stop, hr2.1, hr2.2.1, hr2.2.2]
            unfold mm_finN mm_finT
            rw [hf0, hst]
            simp; exact base
          · rw [if_neg hr]
            have hr2 : ¬ (fd = 0 ∧ v = 1 ∧ rr_k r' k = nI 1) := fun q => hr (by simp [xv_refuse, q.1, q.2.1, q.2.2])
            have hst : mm_stop r' t' k fd v = decide (ta_n t = 200) := by
              unfold mm_stop
              rw [hN]
              by_cases a1 : fd = 0
              · by_cases a2 : v = 1
                · have a3 : ¬ rr_k r' k = nI 1 := fun q => hr2 ⟨a1, a2, q⟩
                  by_cases a4 : ta_n t = 200 <;> simp [a1, a2, a3, a4]
                · by_cases a4 : ta_n t = 200 <;> simp [a1, a2, a4]
              · by_cases a4 : ta_n t = 200 <;> simp [a1, a4]
            unfold mm_finN mm_finT
            rw [hst, hN]
            by_cases hf0 : xv_fnd t (nI k) fd v vd kn = 0
            · simp only [hf0, if_true]
              by_cases hn : ta_n t < 200
              · have hn2 : ¬ ta_n t = 200 := by omega
                simp only [hn, hn2, decide_false, if_true]
                refine ⟨rfl, rfl, rfl, ⟨?_, ?_, ?_, ?_, ?_, ?_, fun j q1 q2 => ?_, fun j q => ?_⟩, h4, ⟨k1, by show ta_n t + 1 ≤ 200; omega, xo_le k3 hn, k4⟩, xo_add h6 _ _ _ _ _, fun j q1 q2 => ?_⟩
                · show upd (tm_r t') (tm_n t' + 1) (nI k) = upd (ta_r t) (ta_n t + 1) (nI k)
                  rw [h3.1, hN]
                · show upd (tm_f t') (tm_n t' + 1) fd = upd (ta_f t) (ta_n t + 1) fd
                  rw [h3.2.1, hN]
                · show upd (tm_v t') (tm_n t' + 1) v.toInt32 = upd (ta_v t) (ta_n t + 1) v.toInt32
                  rw [h3.2.2.1, hN]
                · show vp_updL (tm_d t') (tm_n t' + 1) vd = vp_updL (ta_d t) (ta_n t + 1) vd
                  rw [h3.2.2.2.1, hN]
                · show vp_updL (tm_k t') (tm_n t' + 1) kn = vp_updL (ta_k t) (ta_n t + 1) kn
                  rw [h3.2.2.2.2.1, hN]
                · show tm_n t' + 1 = ta_n t + 1
                  rw [hN]
                · have q2' : j ≤ ta_n t + 1 := q2
                  show tm_u t' j = !(vr_ub (ta_c t) (ta_n t + 1) true j)
                  by_cases hj : j = ta_n t + 1
                  · rw [hj, vr_ub_s]; exact h3.2.2.2.2.2.2.2 _ (by omega)
                  · rw [vr_ub_n hj]; exact h3.2.2.2.2.2.2.1 j q1 (by omega)
                · have q' : ta_n t + 1 < j := q
                  exact h3.2.2.2.2.2.2.2 j (by omega)
                · have q2' : j ≤ ta_n t + 1 := q2
                  show (upd (ta_r t) (ta_n t + 1) (nI k) j).toNatClampNeg ≤ rr_n r' ∧ ¬ (upd (ta_f t) (ta_n t + 1) fd j = 0 ∧ upd (ta_v t) (ta_n t + 1) v.toInt32 j = 1 ∧ rr_k r' (upd (ta_r t) (ta_n t + 1) (nI k) j).toNatClampNeg = nI 1)
                  by_cases hj : j = ta_n t + 1
                  · rw [hj, pk_us, pk_us, pk_us, hcl]
                    exact ⟨g2, fun z => hr2 ⟨z.1, h1v.mpr z.2.1, z.2.2⟩⟩
                  · rw [pk_un hj, pk_un hj, pk_un hj]
                    exact h7 j q1 (by omega)
              · have hn2 : ta_n t = 200 := by omega
                simp [hn2]; exact base
            · simp only [hf0, if_false]
              simp; exact base
      · rw [if_neg hv2, if_pos (Int64.not_le.mp hv2)]; simp; exact base
  · rw [if_neg hf, if_neg hf]; simp; exact base
end REL
