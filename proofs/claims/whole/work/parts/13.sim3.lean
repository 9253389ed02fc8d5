/-! conflicts, and the history in ORDER -/
theorem sm_conf {t : vx_A} {t' : vm_A} (h : sm_t t t') {i j : Nat} (hi1 : 1 ≤ i) (hi2 : i ≤ ta_n t) (hj1 : 1 ≤ j) (hj2 : j ≤ ta_n t) : mm_conf t' i j = xa_conf t i j := by
  unfold mm_conf xa_conf
  rw [sm_isOf h, h.2.2.2.2.2.2.1 i hi1 hi2, h.2.2.2.2.2.2.1 j hj1 hj2, h.1, h.2.1, h.2.2.1, h.2.2.2.2.1]
  cases ta_c t i <;> cases ta_c t j <;> by_cases hk : ta_k t i = ta_k t j <;> cases xa_isOf t i (ta_r t j) (ta_f t j) <;> simp [hk]
theorem sm_pair {t : vx_A} {t' : vm_A} (h : sm_t t t') (hN : ta_n t ≤ 200) {what : Int32} (hw : what = 0 ∨ what = nI 1) (i : Nat) : ∀ n lo hi ah sn, 202 * (201 - lo) + (202 - hi) < n → 1 ≤ lo → lo < hi → lo ≤ ta_n t → hi ≤ ta_n t + 1 → ah + sn = i → mm_pair t' what i n lo hi sn = xv_pair t what n lo hi ah := by
  have hn' := h.2.2.2.2.2.1
  intro n
  induction n with
  | zero => intro lo hi ah sn h1; omega
  | succ n ih =>
    intro lo hi ah sn h1 h2 h3 h4 h5 h6
    rw [mm_pair, xv_pair, hn']
    by_cases hx : ta_n t < hi
    · rw [if_pos hx, if_pos hx]
      by_cases h7 : ta_n t ≤ lo + 1
      · rw [if_pos h7]
        by_cases h8 : ta_n t < lo + 1
        · rw [if_pos h8]
        · rw [if_neg h8]
          obtain ⟨z, rfl⟩ : ∃ z, n = z + 1 := ⟨n - 1, by omega⟩
          rw [mm_pair, hn', if_pos (by omega), if_pos (by omega)]
      · rw [if_neg h7, if_neg (by omega)]
        exact ih (lo + 1) (lo + 1 + 1) ah sn (by omega) (by omega) (by omega) (by omega) (by omega) h6
    · rw [if_neg hx, if_neg hx, sm_conf h h2 h4 (by omega) (by omega)]
      by_cases hc : xa_conf t lo hi = true
      · rw [if_pos hc, if_pos hc]
        by_cases ha : ah = 0
        · rw [if_pos (show sn = i by omega), if_pos ha]
          by_cases hz : what = 0
          · rw [if_pos hz, if_pos hz]
          · rw [if_neg hz, if_neg hz, if_pos (hw.resolve_left hz)]
        · rw [if_neg (show ¬ sn = i by omega), if_neg ha]
          exact ih lo (hi + 1) (ah - 1) (sn + 1) (by omega) (by omega) (by omega) (by omega) (by omega) (by omega)
      · rw [if_neg hc, if_neg hc]
        exact ih lo (hi + 1) ah sn (by omega) (by omega) (by omega) (by omega) (by omega) h6
theorem sm_pair_no (t' : vm_A) {what : Int32} (h0 : ¬ what = 0) (h1 : ¬ what = nI 1) (i : Nat) : ∀ n lo hi sn, mm_pair t' what i n lo hi sn = -1 := by
  intro n
  induction n with
  | zero => intro lo hi sn; rfl
  | succ n ih =>
    intro lo hi sn
    rw [mm_pair]
    split
    · split
      · rfl
      · exact ih _ _ _
    · split
      · split
        · first | rfl | rw [if_neg h0, if_neg h1]
        · exact ih _ _ _
      · exact ih _ _ _
theorem sm_cf {t : vx_A} {t' : vm_A} (h : sm_t t t') (hN : ta_n t ≤ 200) (i what : Int32) : mm_cf t' i what = xv_cf t i what := by
  have hn' := h.2.2.2.2.2.1
  unfold mm_cf xv_cf
  rw [hn']
  by_cases hi : i < 0
  · rw [if_pos hi, if_pos hi]; split <;> rfl
  · rw [if_neg hi, if_neg hi]
    by_cases hw : what = 0 ∨ what = nI 1
    · have e1 : ¬ what < 0 := by rcases hw with rfl | rfl <;> decide
      have e2 : what ≤ nI 1 := by rcases hw with rfl | rfl <;> decide
      rw [if_neg e1, if_pos e2]
      by_cases h0 : ta_n t < 1
      · rw [if_pos h0, if_pos (by omega)]
      · rw [if_neg h0]
        by_cases h1 : ta_n t ≤ 1
        · rw [if_pos h1, show (40804 : Nat) = 40803 + 1 from rfl, mm_pair, hn', if_pos (by omega), if_pos (by omega)]
        · rw [if_neg h1]
          exact sm_pair h hN hw _ 40804 1 2 _ 0 (by omega) (by omega) (by omega) (by omega) (by omega) (by omega)
    · have e0 : ¬ what = 0 := fun q => hw (Or.inl q)
      have e1 : ¬ what = nI 1 := fun q => hw (Or.inr q)
      have e2 : what < 0 ∨ (¬ what < 0 ∧ ¬ what ≤ nI 1) := by
        by_cases hz : what < 0
        · exact Or.inl hz
        · refine Or.inr ⟨hz, fun q => ?_⟩
          obtain ⟨k, hk, rfl⟩ := nI_of hz
          have := (nI_leI hk (by decide)).mp q
          have hk2 : k = 0 ∨ k = 1 := by omega
          rcases hk2 with rfl | rfl
          · exact e0 rfl
          · exact e1 rfl
      have e3 : (if ta_n t < 1 then (-1 : Int32) else mm_pair t' what i.toNatClampNeg 40804 1 2 0) = -1 := by
        rw [sm_pair_no t' e0 e1]; split <;> rfl
      rw [e3]
      rcases e2 with e2 | ⟨e2, e4⟩
      · rw [if_pos e2]
      · rw [if_neg e2, if_neg e4]
/-- one place of a row changed -/
theorem sm_cnt_un (P : Nat → Bool) (o : Nat → Nat) (p0 v : Nat) : ∀ N, 1 ≤ p0 → p0 ≤ N → sm_cnt (fun p => P (vr_un o p0 v p)) N + (if P (o p0) = true then 1 else 0) = sm_cnt (fun p => P (o p)) N + (if P v = true then 1 else 0) := by
  intro N
  induction N with
  | zero => intro h1 h2; omega
  | succ N ih =>
    intro h1 h2
    rw [sm_cnt, sm_cnt]
    by_cases hp : p0 = N + 1
    · subst hp
      rw [sm_cnt_eq (P := fun p => P (vr_un o (N + 1) v p)) (R := fun p => P (o p)) N (fun j g1 g2 => by show P (vr_un o (N + 1) v j) = P (o j); rw [vr_un_n (by omega)])]
      simp only [vr_un_s]
      omega
    · have := ih h1 (by omega)
      simp only [vr_un_n (show N + 1 ≠ p0 by omega)]
      omega
/-- to count over a row that holds each of 1 .. N once is to count over 1 .. N -/
theorem sm_cnt_bij (P : Nat → Bool) : ∀ (N : Nat) (o : Nat → Nat), (∀ p, 1 ≤ p → p ≤ N → 1 ≤ o p ∧ o p ≤ N) → (∀ p q, 1 ≤ p → p ≤ N → 1 ≤ q → q ≤ N → o p = o q → p = q) → (∀ j, 1 ≤ j → j ≤ N → ∃ p, 1 ≤ p ∧ p ≤ N ∧ o p = j) → sm_cnt (fun p => P (o p)) N = sm_cnt P N := by
  intro N
  induction N with
  | zero => intro o _ _ _; rfl
  | succ N ih =>
    intro o h1 h2 h3
    rw [sm_cnt, sm_cnt]
    by_cases hv : o (N + 1) = N + 1
    · have e := ih o (fun p g1 g2 => ?_) (fun p q g1 g2 g3 g4 => h2 p q g1 (by omega) g3 (by omega)) (fun j g1 g2 => ?_)
      · simp only [hv]; omega
      · have := h1 p g1 (by omega)
        have hne : o p ≠ N + 1 := fun q => by
          have := h2 p (N + 1) g1 (by omega) (by omega) (by omega) (by rw [q, hv])
          omega
        omega
      · obtain ⟨p, f1, f2, f3⟩ := h3 j g1 (by omega)
        have hne : p ≠ N + 1 := fun q => by rw [q, hv] at f3; omega
        exact ⟨p, f1, by omega, f3⟩
    · obtain ⟨p0, f1, f2, f3⟩ := h3 (N + 1) (by omega) (by omega)
      have hp0 : p0 ≤ N := by
        have : p0 ≠ N + 1 := fun q => by rw [q] at f3; exact hv f3
        omega
      have hvb := h1 (N + 1) (by omega) (by omega)
      have e := ih (vr_un o p0 (o (N + 1))) (fun p g1 g2 => ?_) (fun p q g1 g2 g3 g4 g5 => ?_) (fun j g1 g2 => ?_)
      · have e2 := sm_cnt_un P o p0 (o (N + 1)) N f1 hp0
        rw [f3] at e2
        omega
      · by_cases hp : p = p0
        · rw [hp, vr_un_s]; omega
        · rw [vr_un_n hp]
          have := h1 p g1 (by omega)
          have hne : o p ≠ N + 1 := fun q => hp (h2 p p0 g1 (by omega) f1 (by omega) (by rw [q, f3]))
          omega
      · by_cases hp : p = p0
        · by_cases hq : q = p0
          · rw [hp, hq]
          · rw [hp, vr_un_s, vr_un_n hq] at g5
            have := h2 (N + 1) q (by omega) (by omega) g3 (by omega) g5
            omega
        · by_cases hq : q = p0
          · rw [hq, vr_un_s, vr_un_n hp] at g5
            have := h2 p (N + 1) g1 (by omega) (by omega) (by omega) g5
            omega
          · rw [vr_un_n hp, vr_un_n hq] at g5
            exact h2 p q g1 (by omega) g3 (by omega) g5
      · obtain ⟨p, k1, k2, k3⟩ := h3 j g1 (by omega)
        by_cases hp : p = N + 1
        · exact ⟨p0, f1, hp0, by rw [vr_un_s, ← hp, k3]⟩
        · have hne : p ≠ p0 := fun q => by rw [q, f3] at k3; omega
          exact ⟨p, k1, by omega, by rw [vr_un_n hne, k3]⟩
theorem sm_bf0 (t' : vm_A) (rc fd : Int32) (k : Nat) : ∀ n j c, tm_n t' + 1 < j + n → 1 ≤ j → j ≤ tm_n t' + 1 → mm_bf t' rc fd k n j c + sm_cnt (fun x => mm_isOf t' x rc fd && mm_before t' x k) (j - 1) = c + sm_cnt (fun x => mm_isOf t' x rc fd && mm_before t' x k) (tm_n t') := by
  intro n
  induction n with
  | zero => intro j c h1 h2 h3; omega
  | succ n ih =>
    intro j c h1 h2 h3
    rw [mm_bf]
    by_cases hj : tm_n t' < j
    · rw [if_pos hj, show j - 1 = tm_n t' by omega]
    · rw [if_neg hj]
      have e : sm_cnt (fun x => mm_isOf t' x rc fd && mm_before t' x k) j = sm_cnt (fun x => mm_isOf t' x rc fd && mm_before t' x k) (j - 1) + (if (mm_isOf t' j rc fd && mm_before t' j k) = true then 1 else 0) := by
        obtain ⟨z, rfl⟩ : ∃ z, j = z + 1 := ⟨j - 1, by omega⟩
        rw [sm_cnt]; rfl
      have := ih (j + 1) (c + (if mm_isOf t' j rc fd = true then (if mm_before t' j k = true then 1 else 0) else 0)) (by omega) (by omega) (by omega)
      rw [show j + 1 - 1 = j by omega, e] at this
      have e2 : (if (mm_isOf t' j rc fd && mm_before t' j k) = true then 1 else 0) = (if mm_isOf t' j rc fd = true then (if mm_before t' j k = true then 1 else 0) else 0) := by
        cases mm_isOf t' j rc fd <;> cases mm_before t' j k <;> rfl
      rw [e2] at this
      omega
/-- the places below p that hold acts of the field -/
abbrev sm_cp (t : vx_A) (rc fd : Int32) (q : Nat) : Nat := sm_cnt (fun p => xa_isOf t (ta_o t p) rc fd) q
theorem sm_cp_mono (t : vx_A) (rc fd : Int32) {a b : Nat} (h : a ≤ b) : sm_cp t rc fd a ≤ sm_cp t rc fd b := by
  induction b with
  | zero => rw [show a = 0 by omega]; exact Nat.le_refl _
  | succ b ih =>
    by_cases hab : a = b + 1
    · rw [hab]; exact Nat.le_refl _
    · have := ih (by omega)
      show sm_cp t rc fd a ≤ sm_cnt _ b + _
      exact Nat.le_trans this (Nat.le_add_right _ _)
theorem sm_cp_s (t : vx_A) (rc fd : Int32) {p : Nat} (h : 1 ≤ p) : sm_cp t rc fd p = sm_cp t rc fd (p - 1) + (if xa_isOf t (ta_o t p) rc fd = true then 1 else 0) := by
  obtain ⟨z, rfl⟩ : ∃ z, p = z + 1 := ⟨p - 1, by omega⟩
  rfl
theorem sm_cut (P : Nat → Bool) (p : Nat) : ∀ N, 1 ≤ p → p ≤ N + 1 → sm_cnt (fun q => P q && decide (q < p)) N = sm_cnt P (p - 1) := by
  intro N
  induction N with
  | zero => intro h1 h2; rw [show p - 1 = 0 by omega]; rfl
  | succ N ih =>
    intro h1 h2
    rw [sm_cnt]
    by_cases hp : p = N + 2
    · subst hp
      rw [show N + 2 - 1 = N + 1 by omega, sm_cnt]
      rw [sm_cnt_eq (P := fun q => P q && decide (q < N + 2)) (R := P) N (fun j g1 g2 => by simp [show j < N + 2 by omega])]
      simp
    · rw [ih h1 (by omega)]
      simp [show ¬ N + 1 < p by omega]
/-- the reference's number of acts before one, by its place in the row of VersionRows -/
theorem sm_rank {t : vx_A} {t' : vm_A} (h : sm_t t t') (hi : xo_inv t) (rc fd : Int32) {p : Nat} (h1 : 1 ≤ p) (h2 : p ≤ ta_n t) : mm_bfT t' rc fd (ta_o t p) = sm_cp t rc fd (p - 1) := by
  have hN := h.2.2.2.2.2.1
  obtain ⟨i1, i2, i3⟩ := hi
  have inj : ∀ p q, 1 ≤ p → p ≤ ta_n t → 1 ≤ q → q ≤ ta_n t → ta_o t p = ta_o t q → p = q := by
    intro p q g1 g2 g3 g4 g5
    rcases Nat.lt_trichotomy p q with e | e | e
    · have := i2 p q g1 e g4; rw [g5] at this; exact absurd this (xo_irr t _)
    · exact e
    · have := i2 q p g3 e g2; rw [g5] at this; exact absurd this (xo_irr t _)
  have e0 := sm_bf0 t' rc fd (ta_o t p) (tm_n t' + 2) 1 0 (by omega) (by omega) (by omega)
  have e1 : sm_cnt (fun x => mm_isOf t' x rc fd && mm_before t' x (ta_o t p)) (1 - 1) = 0 := rfl
  rw [e1] at e0
  have e2 := sm_cnt_bij (fun x => mm_isOf t' x rc fd && mm_before t' x (ta_o t p)) (ta_n t) (ta_o t) i1 inj i3
  have e3 : sm_cnt (fun q => mm_isOf t' (ta_o t q) rc fd && mm_before t' (ta_o t q) (ta_o t p)) (ta_n t) = sm_cnt (fun q => xa_isOf t (ta_o t q) rc fd && decide (q < p)) (ta_n t) := by
    apply sm_cnt_eq
    intro q g1 g2
    rw [sm_isOf h]
    congr 1
    rw [Bool.eq_iff_iff, sm_before h, decide_eq_true_iff]
    constructor
    · intro hl
      rcases Nat.lt_trichotomy q p with e | e | e
      · exact e
      · rw [e] at hl; exact absurd hl (xo_irr t _)
      · exact absurd (xo_tr hl (i2 p q h1 e g2)) (xo_irr t _)
    · intro hl; exact i2 q p g1 hl h2
  have e4 := sm_cut (fun q => xa_isOf t (ta_o t q) rc fd) p (ta_n t) h1 (by omega)
  show mm_bf t' rc fd (ta_o t p) (tm_n t' + 2) 1 0 = _
  rw [hN] at e0 ⊢
  have e5 : sm_cnt (fun p_1 => (fun x => mm_isOf t' x rc fd && mm_before t' x (ta_o t p)) (ta_o t p_1)) (ta_n t) = sm_cnt (fun q => mm_isOf t' (ta_o t q) rc fd && mm_before t' (ta_o t q) (ta_o t p)) (ta_n t) := rfl
  rw [e5, e3, e4] at e2
  show _ = sm_cnt (fun p => xa_isOf t (ta_o t p) rc fd) (p - 1)
  omega
theorem sm_ith (t : vx_A) (rc fd : Int32) : ∀ n k ah, ta_n t + 1 < k + n → 1 ≤ k → k ≤ ta_n t + 1 → (∃ p, k ≤ p ∧ p ≤ ta_n t ∧ xa_isOf t (ta_o t p) rc fd = true ∧ sm_cp t rc fd (p - 1) = sm_cp t rc fd (k - 1) + ah ∧ xa_ith t rc fd n k ah = ta_o t p) ∨ (sm_cp t rc fd (ta_n t) ≤ sm_cp t rc fd (k - 1) + ah ∧ xa_ith t rc fd n k ah = 0) := by
  intro n
  induction n with
  | zero => intro k ah h1 h2 h3; omega
  | succ n ih =>
    intro k ah h1 h2 h3
    rw [xa_ith]
    by_cases hk : ta_n t < k
    · rw [if_pos hk]
      refine Or.inr ⟨?_, rfl⟩
      rw [show k - 1 = ta_n t by omega]; omega
    · rw [if_neg hk]
      have e := sm_cp_s t rc fd h2
      by_cases hc : xa_isOf t (ta_o t k) rc fd = true
      · rw [if_pos hc]
        rw [if_pos hc] at e
        by_cases ha : ah = 0
        · rw [if_pos ha]
          exact Or.inl ⟨k, Nat.le_refl _, by omega, hc, by omega, rfl⟩
        · rw [if_neg ha]
          rcases ih (k + 1) (ah - 1) (by omega) (by omega) (by omega) with ⟨p, g1, g2, g3, g4, g5⟩ | ⟨g1, g2⟩
          · rw [show k + 1 - 1 = k by omega] at g4
            exact Or.inl ⟨p, by omega, g2, g3, by omega, g5⟩
          · rw [show k + 1 - 1 = k by omega] at g1
            exact Or.inr ⟨by omega, g2⟩
      · rw [if_neg hc]
        rw [if_neg hc] at e
        rcases ih (k + 1) ah (by omega) (by omega) (by omega) with ⟨p, g1, g2, g3, g4, g5⟩ | ⟨g1, g2⟩
        · rw [show k + 1 - 1 = k by omega] at g4
          exact Or.inl ⟨p, by omega, g2, g3, by omega, g5⟩
        · rw [show k + 1 - 1 = k by omega] at g1
          exact Or.inr ⟨by omega, g2⟩
theorem sm_h0 (r : vx_R) (t' : vm_A) (rc fd : Int32) (i : Nat) (hf : mm_isF r rc fd = true) : ∀ n k, tm_n t' + 1 < k + n → 1 ≤ k → (∃ a, k ≤ a ∧ a ≤ tm_n t' ∧ mm_isOf t' a rc fd = true ∧ mm_bfT t' rc fd a = i ∧ mm_h r t' rc fd i n k = a) ∨ ((∀ a, k ≤ a → a ≤ tm_n t' → mm_isOf t' a rc fd = true → ¬ mm_bfT t' rc fd a = i) ∧ mm_h r t' rc fd i n k = 0) := by
  intro n
  induction n with
  | zero => intro k h1 h2; exact Or.inr ⟨fun a g1 g2 => by omega, rfl⟩
  | succ n ih =>
    intro k h1 h2
    rw [mm_h]
    by_cases hk : tm_n t' < k
    · rw [if_pos hk]; exact Or.inr ⟨fun a g1 g2 => by omega, rfl⟩
    · rw [if_neg hk, if_pos hf]
      by_cases hc : mm_isOf t' k rc fd = true
      · rw [if_pos hc]
        by_cases hb : mm_bfT t' rc fd k = i
        · rw [if_pos hb]; exact Or.inl ⟨k, Nat.le_refl _, by omega, hc, hb, rfl⟩
        · rw [if_neg hb]
          rcases ih (k + 1) (by omega) (by omega) with ⟨a, g1, g2, g3⟩ | ⟨g1, g2⟩
          · exact Or.inl ⟨a, by omega, g2, g3⟩
          · refine Or.inr ⟨fun a f1 f2 f3 => ?_, g2⟩
            by_cases ha : a = k
            · rw [ha]; exact hb
            · exact g1 a (by omega) f2 f3
      · rw [if_neg hc]
        rcases ih (k + 1) (by omega) (by omega) with ⟨a, g1, g2, g3⟩ | ⟨g1, g2⟩
        · exact Or.inl ⟨a, by omega, g2, g3⟩
        · refine Or.inr ⟨fun a f1 f2 f3 => ?_, g2⟩
          by_cases ha : a = k
          · rw [ha] at f3; exact absurd f3 hc
          · exact g1 a (by omega) f2 f3
theorem sm_h {t : vx_A} {t' : vm_A} (h : sm_t t t') (hi : xo_inv t) (r : vx_R) (rc fd : Int32) (i : Nat) (hf : mm_isF r rc fd = true) : mm_h r t' rc fd i (tm_n t' + 2) 1 = xa_ith t rc fd (ta_n t + 2) 1 i := by
  have hN := h.2.2.2.2.2.1
  have hc0 : sm_cp t rc fd (1 - 1) = 0 := rfl
  have hrk : ∀ p, 1 ≤ p → p ≤ ta_n t → mm_bfT t' rc fd (ta_o t p) = sm_cp t rc fd (p - 1) := fun p g1 g2 => sm_rank h hi rc fd g1 g2
  obtain ⟨i1, i2, i3⟩ := hi
  rcases sm_ith t rc fd (ta_n t + 2) 1 i (by omega) (by omega) (by omega) with ⟨p, g1, g2, g3, g4, g5⟩ | ⟨g1, g2⟩ <;> rcases sm_h0 r t' rc fd i hf (tm_n t' + 2) 1 (by omega) (by omega) with ⟨a, f1, f2, f3, f4, f5⟩ | ⟨f1, f2⟩
  · rw [f5, g5]
    obtain ⟨p2, k1, k2, k3⟩ := i3 a f1 (by omega)
    have e := hrk p2 k1 k2
    rw [k3, f4] at e
    rw [sm_isOf h, ← k3] at f3
    have e1 := sm_cp_s t rc fd (p := p) g1
    have e2 := sm_cp_s t rc fd (p := p2) k1
    rw [if_pos g3] at e1
    rw [if_pos f3] at e2
    rcases Nat.lt_trichotomy p p2 with q | q | q
    · have := sm_cp_mono t rc fd (show p ≤ p2 - 1 by omega); omega
    · rw [← k3, q]
    · have := sm_cp_mono t rc fd (show p2 ≤ p - 1 by omega); omega
  · exfalso
    have hb := i1 p g1 g2
    refine f1 (ta_o t p) hb.1 (by omega) (by rw [sm_isOf h]; exact g3) ?_
    rw [hrk p g1 g2, g4, hc0]; omega
  · exfalso
    obtain ⟨p2, k1, k2, k3⟩ := i3 a f1 (by omega)
    have e := hrk p2 k1 k2
    rw [k3, f4] at e
    rw [sm_isOf h, ← k3] at f3
    have e2 := sm_cp_s t rc fd (p := p2) k1
    rw [if_pos f3] at e2
    have := sm_cp_mono t rc fd (show p2 ≤ ta_n t from k2)
    omega
  · rw [f2, g2]
