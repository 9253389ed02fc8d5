/-! the row 'ordered' is the acts in ORDER -/
def xo_lt (t : vx_A) (i j : Nat) : Prop := (ta_k t i).toInt < (ta_k t j).toInt ∨ ((ta_k t i).toInt = (ta_k t j).toInt ∧ ((ta_d t i).toInt < (ta_d t j).toInt ∨ ((ta_d t i).toInt = (ta_d t j).toInt ∧ i < j)))
theorem xo_irr (t : vx_A) (i : Nat) : ¬ xo_lt t i i := by unfold xo_lt; omega
theorem xo_tr {t : vx_A} {i j k : Nat} (h1 : xo_lt t i j) (h2 : xo_lt t j k) : xo_lt t i k := by unfold xo_lt at *; omega
theorem xo_tot (t : vx_A) {i j : Nat} (h : i ≠ j) : xo_lt t i j ∨ xo_lt t j i := by unfold xo_lt; omega
def xo_inv (t : vx_A) : Prop := (∀ p, 1 ≤ p → p ≤ ta_n t → 1 ≤ ta_o t p ∧ ta_o t p ≤ ta_n t) ∧ (∀ p q, 1 ≤ p → p < q → q ≤ ta_n t → xo_lt t (ta_o t p) (ta_o t q)) ∧ (∀ j, 1 ≤ j → j ≤ ta_n t → ∃ p, 1 ≤ p ∧ p ≤ ta_n t ∧ ta_o t p = j)
theorem xo_behind_t {t : vx_A} {i j : Nat} (hij : i < j) (h : xa_behind t i j = true) : xo_lt t j i := by
  unfold xa_behind at h
  unfold xo_lt
  split at h
  · rename_i h1
    split at h
    · cases h
    · rename_i h2
      have e1 : (ta_k t i).toInt = (ta_k t j).toInt := by rw [h1]
      have e2 : ¬ (ta_d t i).toInt ≤ (ta_d t j).toInt := fun q => h2 (Int64.le_iff_toInt_le.mpr q)
      omega
  · split at h
    · cases h
    · rename_i h2
      have e2 : ¬ (ta_k t i).toInt ≤ (ta_k t j).toInt := fun q => h2 (Int64.le_iff_toInt_le.mpr q)
      omega
theorem xo_behind_f {t : vx_A} {i j : Nat} (hij : i < j) (h : xa_behind t i j = false) : xo_lt t i j := by
  unfold xa_behind at h
  unfold xo_lt
  split at h
  · rename_i h1
    split at h
    · rename_i h2
      have e1 : (ta_k t i).toInt = (ta_k t j).toInt := by rw [h1]
      have e2 : (ta_d t i).toInt ≤ (ta_d t j).toInt := Int64.le_iff_toInt_le.mp h2
      omega
    · cases h
  · rename_i h1
    split at h
    · rename_i h2
      have e2 : (ta_k t i).toInt ≤ (ta_k t j).toInt := Int64.le_iff_toInt_le.mp h2
      have e3 : ¬ (ta_k t i).toInt = (ta_k t j).toInt := fun q => h1 (Int64.toInt_inj.mp q)
      omega
    · cases h
theorem vr_un_s (f : Nat → Nat) (k v : Nat) : vr_un f k v k = v := by simp [vr_un]
theorem vr_un_n {f : Nat → Nat} {k v j : Nat} (h : j ≠ k) : vr_un f k v j = f j := by simp [vr_un, h]
/-- what putNewestInOrder does to the row -/
theorem xo_put (t : vx_A) : ∀ (m : Nat) (o : Nat → Nat), 1 ≤ m → ∃ q, 1 ≤ q ∧ q ≤ m ∧ (∀ j, j < q → xa_put t m o j = o j) ∧ (∀ j, m < j → xa_put t m o j = o j) ∧ xa_put t m o q = ta_n t ∧ (∀ j, q ≤ j → j < m → xa_put t m o (j + 1) = o j) ∧ (1 < q → xa_behind t (o (q - 1)) (ta_n t) = false) ∧ (∀ j, q ≤ j → j < m → xa_behind t (o j) (ta_n t) = true) := by
  intro m
  induction m with
  | zero => intro o h; omega
  | succ z ih =>
    intro o _
    by_cases hz : z + 1 ≤ 1
    · have e : xa_put t (z + 1) o = vr_un o (z + 1) (ta_n t) := by rw [xa_put, if_pos hz]
      rw [e]
      refine ⟨z + 1, by omega, by omega, fun j hj => vr_un_n (by omega), fun j hj => vr_un_n (by omega), vr_un_s _ _ _, fun j h1 h2 => by omega, fun h => by omega, fun j h1 h2 => by omega⟩
    · by_cases hb : xa_behind t (o z) (ta_n t) = true
      · have e : xa_put t (z + 1) o = xa_put t z (vr_un o (z + 1) (o z)) := by rw [xa_put, if_neg hz, if_pos hb]
        rw [e]
        obtain ⟨q, h1, h2, h3, h4, h5, h6, h7, h8⟩ := ih (vr_un o (z + 1) (o z)) (by omega)
        refine ⟨q, h1, by omega, fun j hj => ?_, fun j hj => ?_, h5, fun j g1 g2 => ?_, fun g => ?_, fun j g1 g2 => ?_⟩
        · rw [h3 j hj]; exact vr_un_n (by omega)
        · rw [h4 j (by omega)]; exact vr_un_n (by omega)
        · by_cases hj : j = z
          · subst hj
            rw [h4 (j + 1) (by omega)]; exact vr_un_s _ _ _
          · rw [h6 j g1 (by omega)]; exact vr_un_n (by omega)
        · have := h7 g
          rwa [vr_un_n (by omega)] at this
        · by_cases hj : j = z
          · subst hj; exact hb
          · have := h8 j g1 (by omega)
            rwa [vr_un_n (by omega)] at this
      · have hb' : xa_behind t (o z) (ta_n t) = false := by simpa using hb
        have e : xa_put t (z + 1) o = vr_un o (z + 1) (ta_n t) := by rw [xa_put, if_neg hz, if_neg hb]
        rw [e]
        exact ⟨z + 1, by omega, by omega, fun j hj => vr_un_n (by omega), fun j hj => vr_un_n (by omega), vr_un_s _ _ _, fun j h1 h2 => by omega, fun h => hb', fun j h1 h2 => by omega⟩
theorem xo_new_lt {t : vx_A} {rc fd v : Int32} {vd kn : Int64} {i j : Nat} (hi : i ≤ ta_n t) (hj : j ≤ ta_n t) : xo_lt (xa_new t rc fd v vd kn) i j ↔ xo_lt t i j := by
  have e1 : ta_k (xa_new t rc fd v vd kn) i = ta_k t i := pk_uLn (by omega)
  have e2 : ta_k (xa_new t rc fd v vd kn) j = ta_k t j := pk_uLn (by omega)
  have e3 : ta_d (xa_new t rc fd v vd kn) i = ta_d t i := pk_uLn (by omega)
  have e4 : ta_d (xa_new t rc fd v vd kn) j = ta_d t j := pk_uLn (by omega)
  unfold xo_lt
  rw [e1, e2, e3, e4]
/-- an act more keeps the row in ORDER -/
theorem xo_add {t : vx_A} (h : xo_inv t) (rc fd v : Int32) (vd kn : Int64) : xo_inv (xa_add t rc fd v vd kn) := by
  obtain ⟨q, h1, h2, h3, h4, h5, h6, h7, h8⟩ := xo_put (xa_new t rc fd v vd kn) (ta_n t + 1) (ta_o t) (by omega)
  obtain ⟨i1, i2, i3⟩ := h
  have eo : ta_o (xa_add t rc fd v vd kn) = xa_put (xa_new t rc fd v vd kn) (ta_n t + 1) (ta_o t) := rfl
  have en : ta_n (xa_add t rc fd v vd kn) = ta_n t + 1 := rfl
  have eN : ta_n (xa_new t rc fd v vd kn) = ta_n t + 1 := rfl
  have el : ∀ i j, xo_lt (xa_add t rc fd v vd kn) i j ↔ xo_lt (xa_new t rc fd v vd kn) i j := fun i j => Iff.rfl
  have hO : ∀ p, 1 ≤ p → p ≤ ta_n t → 1 ≤ ta_o t p ∧ ta_o t p ≤ ta_n t := i1
  rw [eN] at h5 h7 h8
  generalize hP : xa_put (xa_new t rc fd v vd kn) (ta_n t + 1) (ta_o t) = P at *
  -- what stands at a place
  have hat : ∀ p, 1 ≤ p → p ≤ ta_n t + 1 → (p < q ∧ P p = ta_o t p) ∨ (p = q ∧ P p = ta_n t + 1) ∨ (q < p ∧ P p = ta_o t (p - 1)) := by
    intro p g1 g2
    rcases Nat.lt_trichotomy p q with g | g | g
    · exact Or.inl ⟨g, h3 p g⟩
    · subst g; exact Or.inr (Or.inl ⟨rfl, h5⟩)
    · refine Or.inr (Or.inr ⟨g, ?_⟩)
      have := h6 (p - 1) (by omega) (by omega)
      rwa [show p - 1 + 1 = p by omega] at this
  -- those ahead of q are below the new one, those behind it above
  have hlo : ∀ p, 1 ≤ p → p < q → xo_lt (xa_new t rc fd v vd kn) (ta_o t p) (ta_n t + 1) := by
    intro p g1 g2
    have hb := xo_behind_f (t := xa_new t rc fd v vd kn) (by have := hO (q - 1) (by omega) (by omega); omega) (h7 (by omega))
    by_cases hp : p = q - 1
    · subst hp; exact hb
    · exact xo_tr ((xo_new_lt (hO p g1 (by omega)).2 (hO (q - 1) (by omega) (by omega)).2).mpr (i2 p (q - 1) g1 (by omega) (by omega))) hb
  have hhi : ∀ p, q ≤ p → p ≤ ta_n t → xo_lt (xa_new t rc fd v vd kn) (ta_n t + 1) (ta_o t p) := by
    intro p g1 g2
    exact xo_behind_t (by have := hO p (by omega) (by omega); omega) (h8 p g1 (by omega))
  refine ⟨fun p g1 g2 => ?_, fun p r g1 g2 g3 => ?_, fun j g1 g2 => ?_⟩
  · rw [eo, en]
    rw [en] at g2
    rcases hat p g1 g2 with ⟨a1, a2⟩ | ⟨a1, a2⟩ | ⟨a1, a2⟩
    · have := hO p g1 (by omega); omega
    · omega
    · have := hO (p - 1) (by omega) (by omega); omega
  · rw [eo, el]
    rw [en] at g3
    rcases hat p g1 (by omega) with ⟨a1, a2⟩ | ⟨a1, a2⟩ | ⟨a1, a2⟩ <;> rcases hat r (by omega) g3 with ⟨b1, b2⟩ | ⟨b1, b2⟩ | ⟨b1, b2⟩ <;> rw [a2, b2]
    · exact (xo_new_lt (hO p g1 (by omega)).2 (hO r (by omega) (by omega)).2).mpr (i2 p r g1 g2 (by omega))
    · exact hlo p g1 a1
    · exact (xo_new_lt (hO p g1 (by omega)).2 (hO (r - 1) (by omega) (by omega)).2).mpr (i2 p (r - 1) g1 (by omega) (by omega))
    · omega
    · omega
    · exact hhi (r - 1) (by omega) (by omega)
    · omega
    · omega
    · exact (xo_new_lt (hO (p - 1) (by omega) (by omega)).2 (hO (r - 1) (by omega) (by omega)).2).mpr (i2 (p - 1) (r - 1) (by omega) (by omega) (by omega))
  · rw [en] at g2 ⊢
    rw [eo]
    by_cases hj : j = ta_n t + 1
    · exact ⟨q, h1, h2, by rw [h5, hj]⟩
    · obtain ⟨p, f1, f2, f3⟩ := i3 j g1 (by omega)
      by_cases hp : p < q
      · exact ⟨p, f1, by omega, by rw [h3 p hp, f3]⟩
      · exact ⟨p + 1, by omega, by omega, by rw [h6 p (by omega) (by omega), f3]⟩
/-- the bound of the row's numbers -/
theorem xo_le {t : vx_A} {rc fd v : Int32} {vd kn : Int64} (h : ∀ j, ta_o t j ≤ 200) (hn : ta_n t < 200) : ∀ j, ta_o (xa_add t rc fd v vd kn) j ≤ 200 := by
  intro j
  obtain ⟨q, h1, h2, h3, h4, h5, h6, -, -⟩ := xo_put (xa_new t rc fd v vd kn) (ta_n t + 1) (ta_o t) (by omega)
  have eN : ta_n (xa_new t rc fd v vd kn) = ta_n t + 1 := rfl
  show xa_put (xa_new t rc fd v vd kn) (ta_n t + 1) (ta_o t) j ≤ 200
  rw [eN] at h5
  rcases Nat.lt_trichotomy j q with g | g | g
  · rw [h3 j g]; exact h j
  · rw [g, h5]; omega
  · by_cases hj : ta_n t + 1 < j
    · rw [h4 j hj]; exact h j
    · have := h6 (j - 1) (by omega) (by omega)
      rw [show j - 1 + 1 = j by omega] at this
      rw [this]; exact h _
/-- r is the last in ORDER of those acts that P holds of; 0 where there is none -/
def xo_top (t : vx_A) (P : Nat → Bool) (r : Nat) : Prop := (r = 0 ∧ ∀ j, 1 ≤ j → j ≤ ta_n t → P j = false) ∨ (1 ≤ r ∧ r ≤ ta_n t ∧ P r = true ∧ ∀ j, 1 ≤ j → j ≤ ta_n t → P j = true → j = r ∨ xo_lt t j r)
theorem xo_top_one {t : vx_A} {P : Nat → Bool} {r r' : Nat} (h : xo_top t P r) (h' : xo_top t P r') : r = r' := by
  rcases h with ⟨h1, h2⟩ | ⟨h1, h2, h3, h4⟩ <;> rcases h' with ⟨g1, g2⟩ | ⟨g1, g2, g3, g4⟩
  · omega
  · rw [h2 r' g1 g2] at g3; cases g3
  · rw [g2 r h1 h2] at h3; cases h3
  · rcases h4 r' g1 g2 g3 with e | e
    · exact e.symm
    · rcases g4 r h1 h2 h3 with f | f
      · exact f
      · exact absurd (xo_tr e f) (xo_irr t _)
theorem xo_last0 (t : vx_A) (rc fd : Int32) (mo : Int64) : ∀ q, (xa_last t rc fd mo q = 0 ∧ ∀ p, 1 ≤ p → p ≤ q → xa_lcond t rc fd mo (ta_o t p) = false) ∨ (∃ p, 1 ≤ p ∧ p ≤ q ∧ xa_last t rc fd mo q = ta_o t p ∧ xa_lcond t rc fd mo (ta_o t p) = true ∧ ∀ p', p < p' → p' ≤ q → xa_lcond t rc fd mo (ta_o t p') = false) := by
  intro q
  induction q with
  | zero => exact Or.inl ⟨rfl, fun p h1 h2 => by omega⟩
  | succ q ih =>
    by_cases hc : xa_lcond t rc fd mo (ta_o t (q + 1)) = true
    · exact Or.inr ⟨q + 1, by omega, by omega, by rw [xa_last, if_pos hc], hc, fun p' h1 h2 => by omega⟩
    · have hf : xa_lcond t rc fd mo (ta_o t (q + 1)) = false := by simpa using hc
      rw [xa_last, if_neg hc]
      rcases ih with ⟨h1, h2⟩ | ⟨p, h1, h2, h3, h4, h5⟩
      · refine Or.inl ⟨h1, fun p g1 g2 => ?_⟩
        by_cases hp : p = q + 1
        · rw [hp]; exact hf
        · exact h2 p g1 (by omega)
      · refine Or.inr ⟨p, h1, by omega, h3, h4, fun p' g1 g2 => ?_⟩
        by_cases hp : p' = q + 1
        · rw [hp]; exact hf
        · exact h5 p' g1 (by omega)
/-- what lastCounting answers -/
theorem xo_last {t : vx_A} (h : xo_inv t) (rc fd : Int32) (mo : Int64) : xo_top t (xa_lcond t rc fd mo) (xa_last t rc fd mo (ta_n t)) := by
  obtain ⟨i1, i2, i3⟩ := h
  rcases xo_last0 t rc fd mo (ta_n t) with ⟨h1, h2⟩ | ⟨p, h1, h2, h3, h4, h5⟩
  · refine Or.inl ⟨h1, fun j g1 g2 => ?_⟩
    obtain ⟨p, f1, f2, f3⟩ := i3 j g1 g2
    rw [← f3]; exact h2 p f1 f2
  · rw [h3]
    refine Or.inr ⟨(i1 p h1 h2).1, (i1 p h1 h2).2, h4, fun j g1 g2 g3 => ?_⟩
    obtain ⟨p', f1, f2, f3⟩ := i3 j g1 g2
    rcases Nat.lt_trichotomy p' p with e | e | e
    · rw [← f3]; exact Or.inr (i2 p' p f1 e h2)
    · left; rw [← f3, e]
    · have := h5 p' e f2
      rw [f3, g3] at this; cases this
/-- what now answers: the greatest KNOWN -/
theorem xo_now {t : vx_A} (h : xo_inv t) (hn : 1 ≤ ta_n t) : (∃ j, 1 ≤ j ∧ j ≤ ta_n t ∧ xa_now t = ta_k t j) ∧ ∀ j, 1 ≤ j → j ≤ ta_n t → (ta_k t j).toInt ≤ (xa_now t).toInt := by
  obtain ⟨i1, i2, i3⟩ := h
  have e : xa_now t = ta_k t (ta_o t (ta_n t)) := by unfold xa_now; rw [if_neg (by omega)]
  rw [e]
  refine ⟨⟨_, (i1 _ hn (Nat.le_refl _)).1, (i1 _ hn (Nat.le_refl _)).2, rfl⟩, fun j g1 g2 => ?_⟩
  obtain ⟨p, f1, f2, f3⟩ := i3 j g1 g2
  by_cases hp : p = ta_n t
  · rw [← f3, hp]; exact Int.le_refl _
  · have := i2 p (ta_n t) f1 (by omega) (Nat.le_refl _)
    rw [f3] at this
    unfold xo_lt at this
    omega
