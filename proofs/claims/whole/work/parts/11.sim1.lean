/-! VersionRows and the reference hold the same acts -/
def sm_t (t : vx_A) (t' : vm_A) : Prop := tm_r t' = ta_r t ∧ tm_f t' = ta_f t ∧ tm_v t' = ta_v t ∧ tm_d t' = ta_d t ∧ tm_k t' = ta_k t ∧ tm_n t' = ta_n t ∧ (∀ j, 1 ≤ j → j ≤ ta_n t → tm_u t' j = !(ta_c t j)) ∧ (∀ j, ta_n t < j → tm_u t' j = false)
theorem sm_now0 (t' : vm_A) : ∀ n k (x : Int64), tm_n t' + 1 < k + n → x.toInt ≤ (mm_now t' n k x).toInt ∧ (∀ j, k ≤ j → j ≤ tm_n t' → (tm_k t' j).toInt ≤ (mm_now t' n k x).toInt) ∧ (mm_now t' n k x = x ∨ ∃ j, k ≤ j ∧ j ≤ tm_n t' ∧ mm_now t' n k x = tm_k t' j) := by
  intro n
  induction n with
  | zero => intro k x h; exact ⟨Int.le_refl _, fun j h1 h2 => by omega, Or.inl rfl⟩
  | succ n ih =>
    intro k x h
    rw [mm_now]
    by_cases hk : tm_n t' < k
    · rw [if_pos hk]
      exact ⟨Int.le_refl _, fun j h1 h2 => by omega, Or.inl rfl⟩
    · rw [if_neg hk]
      by_cases hx : tm_k t' k ≤ x
      · rw [if_pos hx]
        obtain ⟨a1, a2, a3⟩ := ih (k + 1) x (by omega)
        have hx' := Int64.le_iff_toInt_le.mp hx
        refine ⟨a1, fun j h1 h2 => ?_, ?_⟩
        · by_cases hj : j = k
          · subst hj; omega
          · exact a2 j (by omega) h2
        · rcases a3 with a3 | ⟨j, b1, b2, b3⟩
          · exact Or.inl a3
          · exact Or.inr ⟨j, by omega, b2, b3⟩
      · rw [if_neg hx]
        obtain ⟨a1, a2, a3⟩ := ih (k + 1) (tm_k t' k) (by omega)
        have hx' : ¬ (tm_k t' k).toInt ≤ x.toInt := fun q => hx (Int64.le_iff_toInt_le.mpr q)
        refine ⟨by omega, fun j h1 h2 => ?_, ?_⟩
        · by_cases hj : j = k
          · subst hj; exact a1
          · exact a2 j (by omega) h2
        · rcases a3 with a3 | ⟨j, b1, b2, b3⟩
          · exact Or.inr ⟨k, Nat.le_refl _, by omega, a3⟩
          · exact Or.inr ⟨j, by omega, b2, b3⟩
theorem vr_min_le (x : Int64) : vr_min.toInt ≤ x.toInt := by
  have h : vr_min.toInt = -2 ^ 63 := by decide +kernel
  rw [h]; exact x.le_toInt
theorem vr_le_max (x : Int64) : x.toInt ≤ vr_max.toInt := by
  have h : vr_max.toInt = 2 ^ 63 - 1 := by decide +kernel
  have := x.toInt_lt
  rw [h]; omega
theorem sm_now {t : vx_A} {t' : vm_A} (h : sm_t t t') (hi : xo_inv t) : mm_nowT t' = xa_now t := by
  obtain ⟨h1, h2, h3, h4, h5, h6, h7, h8⟩ := h
  obtain ⟨a1, a2, a3⟩ := sm_now0 t' (tm_n t' + 2) 1 vr_min (by omega)
  have e : mm_nowT t' = mm_now t' (tm_n t' + 2) 1 vr_min := rfl
  rw [e]
  by_cases hn : ta_n t = 0
  · have e2 : xa_now t = vr_min := by unfold xa_now; rw [if_pos hn]
    rw [e2]
    rcases a3 with a3 | ⟨j, b1, b2, -⟩
    · exact a3
    · omega
  · obtain ⟨⟨j0, c1, c2, c3⟩, c4⟩ := xo_now hi (by omega)
    apply Int64.toInt_inj.mp
    have l1 : (xa_now t).toInt ≤ (mm_now t' (tm_n t' + 2) 1 vr_min).toInt := by
      rw [c3, ← h5]; exact a2 j0 c1 (by rw [h6]; exact c2)
    have l2 : (mm_now t' (tm_n t' + 2) 1 vr_min).toInt ≤ (xa_now t).toInt := by
      rcases a3 with a3 | ⟨j, b1, b2, b3⟩
      · rw [a3]; exact vr_min_le _
      · rw [b3, h5]; exact c4 j b1 (by rw [← h6]; exact b2)
    omega
theorem sm_isOf {t : vx_A} {t' : vm_A} (h : sm_t t t') (k : Nat) (rc fd : Int32) : mm_isOf t' k rc fd = xa_isOf t k rc fd := by
  unfold mm_isOf xa_isOf; rw [h.1, h.2.1]
theorem sm_before {t : vx_A} {t' : vm_A} (h : sm_t t t') (i j : Nat) : mm_before t' i j = true ↔ xo_lt t i j := by
  obtain ⟨-, -, -, h4, h5, -⟩ := h
  unfold mm_before xo_lt
  rw [h4, h5]
  by_cases hk : ta_k t i = ta_k t j
  · rw [if_pos hk]
    have ek : (ta_k t i).toInt = (ta_k t j).toInt := by rw [hk]
    by_cases hd : ta_d t i = ta_d t j
    · rw [if_pos hd]
      have ed : (ta_d t i).toInt = (ta_d t j).toInt := by rw [hd]
      by_cases hij : j ≤ i
      · rw [if_pos hij]; constructor
        · intro q; cases q
        · intro q; omega
      · rw [if_neg hij]; constructor
        · intro _; omega
        · intro _; rfl
    · rw [if_neg hd]
      have ed : ¬ (ta_d t i).toInt = (ta_d t j).toInt := fun q => hd (Int64.toInt_inj.mp q)
      by_cases hij : ta_d t j ≤ ta_d t i
      · rw [if_pos hij]; have := Int64.le_iff_toInt_le.mp hij; constructor
        · intro q; cases q
        · intro q; omega
      · rw [if_neg hij]; have : ¬ (ta_d t j).toInt ≤ (ta_d t i).toInt := fun q => hij (Int64.le_iff_toInt_le.mpr q)
        constructor
        · intro _; omega
        · intro _; rfl
  · rw [if_neg hk]
    have ek : ¬ (ta_k t i).toInt = (ta_k t j).toInt := fun q => hk (Int64.toInt_inj.mp q)
    by_cases hij : ta_k t j ≤ ta_k t i
    · rw [if_pos hij]; have := Int64.le_iff_toInt_le.mp hij; constructor
      · intro q; cases q
      · intro q; omega
    · rw [if_neg hij]; have : ¬ (ta_k t j).toInt ≤ (ta_k t i).toInt := fun q => hij (Int64.le_iff_toInt_le.mpr q)
      constructor
      · intro _; omega
      · intro _; rfl
/-- what an act is to be taken: the reference's test, over that of VersionRows -/
theorem sm_lc {t : vx_A} {t' : vm_A} (h : sm_t t t') (rc fd : Int32) (mo : Int64) {k : Nat} (bst : Nat) (h1 : 1 ≤ k) (h2 : k ≤ ta_n t) : mm_lc t' rc fd mo k bst = true ↔ (xa_lcond t rc fd mo k = true ∧ (bst = 0 ∨ xo_lt t bst k)) := by
  have hu := h.2.2.2.2.2.2.1 k h1 h2
  have hb := sm_before h bst k
  unfold mm_lc xa_lcond
  rw [sm_isOf h, h.2.2.2.2.1, hu]
  cases ha : xa_isOf t k rc fd <;> cases hc : ta_c t k <;> by_cases hm : mo < ta_k t k <;> by_cases hz : bst = 0 <;> cases hq : mm_before t' bst k <;> simp [hm, hz, hq] at hb ⊢ <;> try exact hb
/-- the best so far, of the acts below k -/
def sm_bst (t : vx_A) (P : Nat → Bool) (k r : Nat) : Prop := (r = 0 ∧ ∀ j, 1 ≤ j → j < k → P j = false) ∨ (1 ≤ r ∧ r < k ∧ P r = true ∧ ∀ j, 1 ≤ j → j < k → P j = true → j = r ∨ xo_lt t j r)
theorem sm_last0 {t : vx_A} {t' : vm_A} (h : sm_t t t') (rc fd : Int32) (mo : Int64) : ∀ n k bst, ta_n t + 1 < k + n → 1 ≤ k → k ≤ ta_n t + 1 → sm_bst t (xa_lcond t rc fd mo) k bst → xo_top t (xa_lcond t rc fd mo) (mm_last t' rc fd mo n k bst) := by
  intro n
  induction n with
  | zero => intro k bst h1 h2 h3 hb; omega
  | succ n ih =>
    intro k bst h1 h2 h3 hb
    rw [mm_last, h.2.2.2.2.2.1]
    by_cases hk : ta_n t < k
    · rw [if_pos hk]
      have ek : k = ta_n t + 1 := by omega
      subst ek
      rcases hb with ⟨b1, b2⟩ | ⟨b1, b2, b3, b4⟩
      · exact Or.inl ⟨b1, fun j g1 g2 => b2 j g1 (by omega)⟩
      · exact Or.inr ⟨b1, by omega, b3, fun j g1 g2 g3 => b4 j g1 (by omega) g3⟩
    · rw [if_neg hk]
      apply ih (k + 1) _ (by omega) (by omega) (by omega)
      by_cases hc : mm_lc t' rc fd mo k bst = true
      · rw [if_pos hc]
        obtain ⟨c1, c2⟩ := (sm_lc h rc fd mo bst h2 (by omega)).mp hc
        refine Or.inr ⟨h2, by omega, c1, fun j g1 g2 g3 => ?_⟩
        by_cases hj : j = k
        · exact Or.inl hj
        · right
          rcases hb with ⟨b1, b2⟩ | ⟨b1, b2, b3, b4⟩
          · rw [b2 j g1 (by omega)] at g3; cases g3
          · have hlt : xo_lt t bst k := by
              rcases c2 with c2 | c2
              · omega
              · exact c2
            rcases b4 j g1 (by omega) g3 with e | e
            · rw [e]; exact hlt
            · exact xo_tr e hlt
      · rw [if_neg hc]
        have hn : ¬ (xa_lcond t rc fd mo k = true ∧ (bst = 0 ∨ xo_lt t bst k)) := fun q => hc ((sm_lc h rc fd mo bst h2 (by omega)).mpr q)
        rcases hb with ⟨b1, b2⟩ | ⟨b1, b2, b3, b4⟩
        · refine Or.inl ⟨b1, fun j g1 g2 => ?_⟩
          by_cases hj : j = k
          · subst hj
            cases hq : xa_lcond t rc fd mo j with
            | false => rfl
            | true => exact absurd ⟨hq, Or.inl b1⟩ hn
          · exact b2 j g1 (by omega)
        · refine Or.inr ⟨b1, by omega, b3, fun j g1 g2 g3 => ?_⟩
          by_cases hj : j = k
          · subst hj
            right
            rcases xo_tot t (show j ≠ bst by omega) with e | e
            · exact e
            · exact absurd ⟨g3, Or.inr e⟩ hn
          · exact b4 j g1 (by omega) g3
theorem sm_last {t : vx_A} {t' : vm_A} (h : sm_t t t') (hi : xo_inv t) (rc fd : Int32) (mo : Int64) : mm_lastT t' rc fd mo = xa_last t rc fd mo (ta_n t) := by
  have hn := h.2.2.2.2.2.1
  have h1 : xo_top t (xa_lcond t rc fd mo) (mm_lastT t' rc fd mo) := by
    unfold mm_lastT
    exact sm_last0 h rc fd mo (tm_n t' + 2) 1 0 (by omega) (by omega) (by omega) (Or.inl ⟨rfl, fun j g1 g2 => by omega⟩)
  exact xo_top_one h1 (xo_last hi rc fd mo)
/-- as known NOW, and at the greatest moment -/
theorem sm_max {t : vx_A} (hi : xo_inv t) (rc fd : Int32) : xa_last t rc fd vr_max (ta_n t) = xa_last t rc fd (xa_now t) (ta_n t) := by
  have key : ∀ j, 1 ≤ j → j ≤ ta_n t → xa_lcond t rc fd vr_max j = xa_lcond t rc fd (xa_now t) j := by
    intro j g1 g2
    have e1 : ¬ vr_max < ta_k t j := fun q => by have := Int64.lt_iff_toInt_lt.mp q; have := vr_le_max (ta_k t j); omega
    have e2 : ¬ xa_now t < ta_k t j := fun q => by have := Int64.lt_iff_toInt_lt.mp q; have := (xo_now hi (by omega)).2 j g1 g2; omega
    unfold xa_lcond; simp only [e1, e2, if_false]
  have h1 := xo_last hi rc fd vr_max
  have h2 := xo_last hi rc fd (xa_now t)
  refine xo_top_one (P := xa_lcond t rc fd (xa_now t)) ?_ h2
  rcases h1 with ⟨a1, a2⟩ | ⟨a1, a2, a3, a4⟩
  · exact Or.inl ⟨a1, fun j g1 g2 => by rw [← key j g1 g2]; exact a2 j g1 g2⟩
  · exact Or.inr ⟨a1, a2, by rw [← key _ a1 a2]; exact a3, fun j g1 g2 g3 => a4 j g1 g2 (by rw [key j g1 g2]; exact g3)⟩
/-- a value in range, as a long and as an int -/
theorem sm_val {x : Int32} {v : Int64} (h1 : ¬ v < 0) (h2 : v ≤ 2147483647) : x.toInt64 = v ↔ x = v.toInt32 := by
  have g1 : ¬ v.toInt < 0 := fun q => h1 (Int64.lt_iff_toInt_lt.mpr q)
  have g2 : v.toInt ≤ 2147483647 := Int64.le_iff_toInt_le.mp h2
  have e : v.toInt32.toInt = v.toInt := by
    rw [Int64.toInt_toInt32]
    exact Int.bmod_eq_of_le (by omega) (by omega)
  rw [← Int64.toInt_inj, ← Int32.toInt_inj, Int32.toInt_toInt64, e]
theorem sm_same {t : vx_A} {t' : vm_A} (h : sm_t t t') {k : Nat} (rc fd : Int32) {v : Int64} (vd kn : Int64) (h1 : 1 ≤ k) (h2 : k ≤ ta_n t) (hv1 : ¬ v < 0) (hv2 : v ≤ 2147483647) : mm_same t' k rc fd v vd kn = xa_same t k rc fd v.toInt32 vd kn := by
  have hu := h.2.2.2.2.2.2.1 k h1 h2
  have hv := sm_val (x := ta_v t k) hv1 hv2
  unfold mm_same xa_same xa_isOf
  rw [hu, h.1, h.2.1, h.2.2.1, h.2.2.2.1, h.2.2.2.2.1]
  simp only [hv]
  cases ta_c t k <;> simp [Bool.and_assoc]
theorem sm_find {t : vx_A} {t' : vm_A} (h : sm_t t t') (rc fd : Int32) {v : Int64} (vd kn : Int64) (hv1 : ¬ v < 0) (hv2 : v ≤ 2147483647) : ∀ n k, 1 ≤ k → mm_find t' rc fd v vd kn n k = xa_find t rc fd v.toInt32 vd kn n k := by
  intro n
  induction n with
  | zero => intro k _; rfl
  | succ n ih =>
    intro k hk
    rw [mm_find, xa_find, h.2.2.2.2.2.1]
    by_cases hn : ta_n t < k
    · rw [if_pos hn, if_pos hn]
    · rw [if_neg hn, if_neg hn, sm_same h rc fd vd kn hk (by omega) hv1 hv2, ih (k + 1) (by omega)]
theorem xa_find_spec (t : vx_A) (rc fd v : Int32) (vd kn : Int64) : ∀ n k, 1 ≤ k → xa_find t rc fd v vd kn n k = 0 ∨ (1 ≤ xa_find t rc fd v vd kn n k ∧ xa_find t rc fd v vd kn n k ≤ ta_n t ∧ xa_same t (xa_find t rc fd v vd kn n k) rc fd v vd kn = true) := by
  intro n
  induction n with
  | zero => intro k _; exact Or.inl rfl
  | succ n ih =>
    intro k hk
    rw [xa_find]
    by_cases hn : ta_n t < k
    · rw [if_pos hn]; exact Or.inl rfl
    · rw [if_neg hn]
      by_cases hs : xa_same t k rc fd v vd kn = true
      · rw [if_pos hs]; exact Or.inr ⟨hk, by omega, hs⟩
      · rw [if_neg hs]; exact ih (k + 1) (by omega)
