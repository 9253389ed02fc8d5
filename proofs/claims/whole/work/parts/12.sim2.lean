/-! leans and batches: the loops of VersionRows and of the reference -/
def sm_w (w : Nat → Int64) (w' : Nat → Bool) : Prop := ∀ a o, a ≤ 200 → o ≤ 200 → w' (201 * a + o) = xl_has w a o ∧ (xl_has w a o = true → o < a)
theorem sm_lean1 (t : vx_A) (w : Nat → Int64) (k : Nat) : ∀ n j, ta_n t + 1 < j + n → (xv_lean1 t w k n j = true ↔ ∃ i, j ≤ i ∧ i ≤ ta_n t ∧ ta_c t i = true ∧ xl_has w i k = true) := by
  intro n
  induction n with
  | zero => intro j h; constructor
            · intro q; cases q
            · rintro ⟨i, h1, h2, -⟩; omega
  | succ n ih =>
    intro j h
    rw [xv_lean1]
    by_cases hj : ta_n t < j
    · rw [if_pos hj]; constructor
      · intro q; cases q
      · rintro ⟨i, h1, h2, -⟩; omega
    · rw [if_neg hj]
      have ih' := ih (j + 1) (by omega)
      by_cases hc : ta_c t j = true
      · rw [if_pos hc]
        by_cases hl : xl_has w j k = true
        · rw [if_pos hl]
          exact ⟨fun _ => ⟨j, Nat.le_refl _, by omega, hc, hl⟩, fun _ => rfl⟩
        · rw [if_neg hl, ih']; constructor
          · rintro ⟨i, h1, h2, h3⟩; exact ⟨i, by omega, h2, h3⟩
          · rintro ⟨i, h1, h2, h3, h4⟩
            by_cases hij : i = j
            · subst hij; exact absurd h4 hl
            · exact ⟨i, by omega, h2, h3, h4⟩
      · rw [if_neg hc, ih']; constructor
        · rintro ⟨i, h1, h2, h3⟩; exact ⟨i, by omega, h2, h3⟩
        · rintro ⟨i, h1, h2, h3, h4⟩
          by_cases hij : i = j
          · subst hij; exact absurd h3 hc
          · exact ⟨i, by omega, h2, h3, h4⟩
theorem sm_leanO (t : vx_A) (w : Nat → Int64) (b : vx_B) (k : Nat) (bt : Int32) : ∀ n j, ta_n t + 1 < j + n → (xv_leanO t w b k bt n j = true ↔ ∃ i, j ≤ i ∧ i ≤ ta_n t ∧ ta_c t i = true ∧ ¬ tb_o b i = bt ∧ xl_has w i k = true) := by
  intro n
  induction n with
  | zero => intro j h; constructor
            · intro q; cases q
            · rintro ⟨i, h1, h2, -⟩; omega
  | succ n ih =>
    intro j h
    rw [xv_leanO]
    have skip : (¬ (ta_c t j = true ∧ ¬ tb_o b j = bt ∧ xl_has w j k = true)) → ((∃ i, j + 1 ≤ i ∧ i ≤ ta_n t ∧ ta_c t i = true ∧ ¬ tb_o b i = bt ∧ xl_has w i k = true) ↔ ∃ i, j ≤ i ∧ i ≤ ta_n t ∧ ta_c t i = true ∧ ¬ tb_o b i = bt ∧ xl_has w i k = true) := by
      intro hn
      constructor
      · rintro ⟨i, h1, h2, h3⟩; exact ⟨i, by omega, h2, h3⟩
      · rintro ⟨i, h1, h2, h3⟩
        by_cases hij : i = j
        · subst hij; exact absurd h3 hn
        · exact ⟨i, by omega, h2, h3⟩
    by_cases hj : ta_n t < j
    · rw [if_pos hj]; constructor
      · intro q; cases q
      · rintro ⟨i, h1, h2, -⟩; omega
    · rw [if_neg hj]
      have ih' := ih (j + 1) (by omega)
      by_cases hc : ta_c t j = true
      · rw [if_pos hc]
        by_cases hb : tb_o b j = bt
        · rw [if_pos hb, ih']; exact skip (fun q => q.2.1 hb)
        · rw [if_neg hb]
          by_cases hl : xl_has w j k = true
          · rw [if_pos hl]
            exact ⟨fun _ => ⟨j, Nat.le_refl _, by omega, hc, hb, hl⟩, fun _ => rfl⟩
          · rw [if_neg hl, ih']; exact skip (fun q => hl q.2.2)
      · rw [if_neg hc, ih']; exact skip (fun q => hc q.1)
theorem sm_lo0 (t' : vm_A) (w' : Nat → Bool) (b : vx_B) (k : Nat) (but : Int32) : ∀ n j is, tm_n t' + 1 < j + n → (mm_lo t' w' b k but n j is = true ↔ is = true ∨ ∃ i, j ≤ i ∧ i ≤ tm_n t' ∧ mm_l1 t' w' b k but i = true) := by
  intro n
  induction n with
  | zero => intro j is h; constructor
            · intro q; exact Or.inl q
            · rintro (q | ⟨i, h1, h2, -⟩)
              · exact q
              · omega
  | succ n ih =>
    intro j is h
    rw [mm_lo]
    by_cases hj : tm_n t' < j
    · rw [if_pos hj]; constructor
      · intro q; exact Or.inl q
      · rintro (q | ⟨i, h1, h2, -⟩)
        · exact q
        · omega
    · rw [if_neg hj, ih (j + 1) _ (by omega)]
      by_cases hs : is = true
      · rw [if_pos hs]; exact ⟨fun _ => Or.inl hs, fun _ => Or.inl rfl⟩
      · rw [if_neg hs]; constructor
        · rintro (q | ⟨i, h1, h2, h3⟩)
          · exact Or.inr ⟨j, Nat.le_refl _, by omega, q⟩
          · exact Or.inr ⟨i, by omega, h2, h3⟩
        · rintro (q | ⟨i, h1, h2, h3⟩)
          · exact absurd q hs
          · by_cases hij : i = j
            · subst hij; exact Or.inl h3
            · exact Or.inr ⟨i, by omega, h2, h3⟩
theorem sm_l1 {t : vx_A} {t' : vm_A} {w : Nat → Int64} {w' : Nat → Bool} (h : sm_t t t') (hw : sm_w w w') (hn : ta_n t ≤ 200) (b : vx_B) {k : Nat} (but : Int32) {i : Nat} (hk : k ≤ 200) (h1 : 1 ≤ i) (h2 : i ≤ ta_n t) : mm_l1 t' w' b k but i = true ↔ (xl_has w i k = true ∧ ta_c t i = true ∧ (but = 0 ∨ ¬ tb_o b i = but)) := by
  unfold mm_l1
  rw [(hw i k (by omega) hk).1, h.2.2.2.2.2.2.1 i h1 h2]
  cases xl_has w i k <;> cases ta_c t i <;> by_cases hb : but = 0 <;> by_cases ho : tb_o b i = but <;> simp [hb, ho]
/-- undo: is it leant on -/
theorem sm_undo {t : vx_A} {t' : vm_A} {w : Nat → Int64} {w' : Nat → Bool} (h : sm_t t t') (hw : sm_w w w') (hn : ta_n t ≤ 200) (b : vx_B) {k : Nat} (h1 : 1 ≤ k) (h2 : k ≤ ta_n t) : mm_loT t' w' b k (nI 0) = xv_lean1 t w k (ta_n t + 1) (k + 1) := by
  have hN := h.2.2.2.2.2.1
  rw [Bool.eq_iff_iff, sm_lean1 t w k (ta_n t + 1) (k + 1) (by omega), mm_loT, sm_lo0 t' w' b k (nI 0) (tm_n t' + 2) 1 false (by omega), hN]
  constructor
  · rintro (q | ⟨i, g1, g2, g3⟩)
    · cases q
    · obtain ⟨e1, e2, -⟩ := (sm_l1 h hw hn b (nI 0) (by omega) g1 g2).mp g3
      exact ⟨i, (hw i k (by omega) (by omega)).2 e1, g2, e2, e1⟩
  · rintro ⟨i, g1, g2, g3, g4⟩
    exact Or.inr ⟨i, by omega, g2, (sm_l1 h hw hn b (nI 0) (by omega) (by omega) g2).mpr ⟨g4, g3, Or.inl rfl⟩⟩
/-- drop: is it leant on from outside -/
theorem sm_out {t : vx_A} {t' : vm_A} {w : Nat → Int64} {w' : Nat → Bool} (h : sm_t t t') (hw : sm_w w w') (hn : ta_n t ≤ 200) (b : vx_B) {k : Nat} {bt : Int32} (hb : ¬ bt = 0) (h1 : 1 ≤ k) (h2 : k ≤ ta_n t) : mm_loT t' w' b k bt = xv_leanO t w b k bt (ta_n t + 1) (k + 1) := by
  have hN := h.2.2.2.2.2.1
  rw [Bool.eq_iff_iff, sm_leanO t w b k bt (ta_n t + 1) (k + 1) (by omega), mm_loT, sm_lo0 t' w' b k bt (tm_n t' + 2) 1 false (by omega), hN]
  constructor
  · rintro (q | ⟨i, g1, g2, g3⟩)
    · cases q
    · obtain ⟨e1, e2, e3⟩ := (sm_l1 h hw hn b bt (by omega) g1 g2).mp g3
      exact ⟨i, (hw i k (by omega) (by omega)).2 e1, g2, e2, e3.elim (fun q => absurd q hb) id, e1⟩
  · rintro ⟨i, g1, g2, g3, g4, g5⟩
    exact Or.inr ⟨i, by omega, g2, (sm_l1 h hw hn b bt (by omega) (by omega) g2).mpr ⟨g5, g3, Or.inr g4⟩⟩
theorem sm_leanF (t : vx_A) (w : Nat → Int64) (b : vx_B) (bt : Int32) : ∀ n j, ta_n t + 1 < j + n → (xv_leanF t w b bt n j = true ↔ ∃ i, j ≤ i ∧ i ≤ ta_n t ∧ xv_inC b bt (ta_c t) i = true ∧ xv_leanO t w b i bt (ta_n t + 1) (i + 1) = true) := by
  intro n
  induction n with
  | zero => intro j h; constructor
            · intro q; cases q
            · rintro ⟨i, h1, h2, -⟩; omega
  | succ n ih =>
    intro j h
    rw [xv_leanF]
    have skip : (¬ (xv_inC b bt (ta_c t) j = true ∧ xv_leanO t w b j bt (ta_n t + 1) (j + 1) = true)) → ((∃ i, j + 1 ≤ i ∧ i ≤ ta_n t ∧ xv_inC b bt (ta_c t) i = true ∧ xv_leanO t w b i bt (ta_n t + 1) (i + 1) = true) ↔ ∃ i, j ≤ i ∧ i ≤ ta_n t ∧ xv_inC b bt (ta_c t) i = true ∧ xv_leanO t w b i bt (ta_n t + 1) (i + 1) = true) := by
      intro hn
      constructor
      · rintro ⟨i, h1, h2, h3⟩; exact ⟨i, by omega, h2, h3⟩
      · rintro ⟨i, h1, h2, h3⟩
        by_cases hij : i = j
        · subst hij; exact absurd h3 hn
        · exact ⟨i, by omega, h2, h3⟩
    by_cases hj : ta_n t < j
    · rw [if_pos hj]; constructor
      · intro q; cases q
      · rintro ⟨i, h1, h2, -⟩; omega
    · rw [if_neg hj]
      have ih' := ih (j + 1) (by omega)
      by_cases hc : xv_inC b bt (ta_c t) j = true
      · rw [if_pos hc]
        by_cases hl : xv_leanO t w b j bt (ta_n t + 1) (j + 1) = true
        · rw [if_pos hl]
          exact ⟨fun _ => ⟨j, Nat.le_refl _, by omega, hc, hl⟩, fun _ => rfl⟩
        · rw [if_neg hl, ih']; exact skip (fun q => hl q.2)
      · rw [if_neg hc, ih']; exact skip (fun q => hc q.1)
theorem sm_dh0 (t' : vm_A) (w' : Nat → Bool) (b : vx_B) (bt : Int32) : ∀ n k hd, tm_n t' + 1 < k + n → (mm_dh t' w' b bt n k hd = true ↔ hd = true ∨ ∃ i, k ≤ i ∧ i ≤ tm_n t' ∧ tb_o b i = bt ∧ tm_u t' i = false ∧ mm_loT t' w' b i bt = true) := by
  intro n
  induction n with
  | zero => intro k hd h; constructor
            · intro q; exact Or.inl q
            · rintro (q | ⟨i, h1, h2, -⟩)
              · exact q
              · omega
  | succ n ih =>
    intro k hd h
    rw [mm_dh]
    have skip : (¬ (tb_o b k = bt ∧ tm_u t' k = false ∧ mm_loT t' w' b k bt = true)) → ((hd = true ∨ ∃ i, k + 1 ≤ i ∧ i ≤ tm_n t' ∧ tb_o b i = bt ∧ tm_u t' i = false ∧ mm_loT t' w' b i bt = true) ↔ (hd = true ∨ ∃ i, k ≤ i ∧ i ≤ tm_n t' ∧ tb_o b i = bt ∧ tm_u t' i = false ∧ mm_loT t' w' b i bt = true)) := by
      intro hn
      constructor
      · rintro (q | ⟨i, h1, h2, h3⟩)
        · exact Or.inl q
        · exact Or.inr ⟨i, by omega, h2, h3⟩
      · rintro (q | ⟨i, h1, h2, h3⟩)
        · exact Or.inl q
        · by_cases hij : i = k
          · subst hij; exact absurd h3 hn
          · exact Or.inr ⟨i, by omega, h2, h3⟩
    by_cases hj : tm_n t' < k
    · rw [if_pos hj]; constructor
      · intro q; exact Or.inl q
      · rintro (q | ⟨i, h1, h2, -⟩)
        · exact q
        · omega
    · rw [if_neg hj]
      by_cases hb : tb_o b k = bt
      · rw [if_pos hb]
        by_cases hu : tm_u t' k = true
        · rw [if_pos hu, ih (k + 1) hd (by omega)]
          exact skip (fun q => by rw [hu] at q; cases q.2.1)
        · have hu' : tm_u t' k = false := by simpa using hu
          rw [if_neg hu, ih (k + 1) _ (by omega)]
          by_cases hs : hd = true
          · rw [if_pos hs]; exact ⟨fun _ => Or.inl hs, fun _ => Or.inl rfl⟩
          · rw [if_neg hs]
            by_cases hl : mm_loT t' w' b k bt = true
            · rw [if_pos hl]; exact ⟨fun _ => Or.inr ⟨k, Nat.le_refl _, by omega, hb, hu', hl⟩, fun _ => Or.inl rfl⟩
            · rw [if_neg hl]
              have := skip (fun q => hl q.2.2)
              rw [← this]
              constructor
              · rintro (q | q)
                · cases q
                · exact Or.inr q
              · rintro (q | q)
                · exact absurd q hs
                · exact Or.inr q
      · rw [if_neg hb, ih (k + 1) hd (by omega)]
        exact skip (fun q => hb q.1)
theorem xv_inC_iff (b : vx_B) (bt : Int32) (c : Nat → Bool) (k : Nat) : xv_inC b bt c k = true ↔ (tb_o b k = bt ∧ c k = true) := by
  unfold xv_inC
  by_cases h1 : tb_o b k = bt <;> cases h2 : c k <;> simp [h1]
/-- drop: is the batch held -/
theorem sm_held {t : vx_A} {t' : vm_A} {w : Nat → Int64} {w' : Nat → Bool} (h : sm_t t t') (hw : sm_w w w') (hn : ta_n t ≤ 200) (b : vx_B) {bt : Int32} (hb : ¬ bt = 0) : mm_dh t' w' b bt (tm_n t' + 2) 1 false = xv_leanF t w b bt (ta_n t + 2) 1 := by
  have hN := h.2.2.2.2.2.1
  rw [Bool.eq_iff_iff, sm_leanF t w b bt (ta_n t + 2) 1 (by omega), sm_dh0 t' w' b bt (tm_n t' + 2) 1 false (by omega), hN]
  constructor
  · rintro (q | ⟨i, g1, g2, g3, g4, g5⟩)
    · cases q
    · refine ⟨i, g1, g2, (xv_inC_iff b bt _ i).mpr ⟨g3, ?_⟩, ?_⟩
      · have := h.2.2.2.2.2.2.1 i g1 g2
        rw [g4] at this
        simpa using this.symm
      · rw [← sm_out h hw hn b hb g1 g2]; exact g5
  · rintro ⟨i, g1, g2, g3, g4⟩
    obtain ⟨e1, e2⟩ := (xv_inC_iff b bt _ i).mp g3
    refine Or.inr ⟨i, g1, g2, e1, ?_, ?_⟩
    · rw [h.2.2.2.2.2.2.1 i g1 g2, e2]; rfl
    · rw [sm_out h hw hn b hb g1 g2]; exact g4
/-- how many of 1 .. q -/
def sm_cnt (P : Nat → Bool) : Nat → Nat
  | 0 => 0
  | q + 1 => sm_cnt P q + (if P (q + 1) = true then 1 else 0)
theorem sm_cnt_eq {P R : Nat → Bool} : ∀ q, (∀ j, 1 ≤ j → j ≤ q → P j = R j) → sm_cnt P q = sm_cnt R q := by
  intro q
  induction q with
  | zero => intro _; rfl
  | succ q ih => intro h; rw [sm_cnt, sm_cnt, ih (fun j h1 h2 => h j h1 (by omega)), h (q + 1) (by omega) (by omega)]
theorem vr_ub_n {f : Nat → Bool} {k j : Nat} {v : Bool} (h : j ≠ k) : vr_ub f k v j = f j := by simp [vr_ub, h]
theorem vr_ub_s (f : Nat → Bool) (k : Nat) (v : Bool) : vr_ub f k v k = v := by simp [vr_ub]
theorem sm_dropN (b : vx_B) (bt : Int32) : ∀ q c d, xv_dropN b bt q c d = d + sm_cnt (xv_inC b bt c) q := by
  intro q
  induction q with
  | zero => intro c d; rfl
  | succ q ih =>
    intro c d
    rw [xv_dropN, sm_cnt]
    by_cases hc : xv_inC b bt c (q + 1) = true
    · rw [if_pos hc, if_pos hc, ih, sm_cnt_eq (P := xv_inC b bt (vr_ub c (q + 1) false)) (R := xv_inC b bt c) q]
      · omega
      · intro j h1 h2; unfold xv_inC; rw [vr_ub_n (by omega)]
    · rw [if_neg hc, if_neg hc, ih]; omega
theorem sm_dropC (b : vx_B) (bt : Int32) : ∀ q c j, xv_dropC b bt q c j = (if 1 ≤ j ∧ j ≤ q ∧ xv_inC b bt c j = true then false else c j) := by
  intro q
  induction q with
  | zero => intro c j; rw [if_neg (by omega)]; rfl
  | succ q ih =>
    intro c j
    rw [xv_dropC]
    by_cases hc : xv_inC b bt c (q + 1) = true
    · rw [if_pos hc, ih]
      by_cases hj : j = q + 1
      · subst hj
        rw [if_neg (by omega), vr_ub_s, if_pos ⟨by omega, by omega, hc⟩]
      · have e : xv_inC b bt (vr_ub c (q + 1) false) j = xv_inC b bt c j := by unfold xv_inC; rw [vr_ub_n hj]
        rw [e, vr_ub_n hj]
        by_cases h1 : 1 ≤ j ∧ j ≤ q ∧ xv_inC b bt c j = true
        · rw [if_pos h1, if_pos ⟨h1.1, by omega, h1.2.2⟩]
        · rw [if_neg h1, if_neg (fun z => h1 ⟨z.1, by omega, z.2.2⟩)]
    · rw [if_neg hc, ih]
      by_cases h1 : 1 ≤ j ∧ j ≤ q ∧ xv_inC b bt c j = true
      · rw [if_pos h1, if_pos ⟨h1.1, by omega, h1.2.2⟩]
      · rw [if_neg h1, if_neg (fun z => by
          by_cases hj : j = q + 1
          · subst hj; exact hc z.2.2
          · exact h1 ⟨z.1, by omega, z.2.2⟩)]
theorem sm_dn0 (t' : vm_A) (b : vx_B) (bt : Int32) : ∀ n k d, tm_n t' + 1 < k + n → 1 ≤ k → k ≤ tm_n t' + 1 → mm_dn t' b bt n k d + sm_cnt (fun j => decide (tb_o b j = bt) && !tm_u t' j) (k - 1) = d + sm_cnt (fun j => decide (tb_o b j = bt) && !tm_u t' j) (tm_n t') := by
  intro n
  induction n with
  | zero => intro k d h1 h2 h3; omega
  | succ n ih =>
    intro k d h1 h2 h3
    rw [mm_dn]
    by_cases hk : tm_n t' < k
    · rw [if_pos hk, show k - 1 = tm_n t' by omega]
    · rw [if_neg hk]
      have e : sm_cnt (fun j => decide (tb_o b j = bt) && !tm_u t' j) k = sm_cnt (fun j => decide (tb_o b j = bt) && !tm_u t' j) (k - 1) + (if (decide (tb_o b k = bt) && !tm_u t' k) = true then 1 else 0) := by
        obtain ⟨z, rfl⟩ : ∃ z, k = z + 1 := ⟨k - 1, by omega⟩
        rw [sm_cnt]; rfl
      by_cases hb : tb_o b k = bt
      · rw [if_pos hb]
        by_cases hu : tm_u t' k = true
        · rw [if_pos hu]
          have := ih (k + 1) d (by omega) (by omega) (by omega)
          rw [show k + 1 - 1 = k by omega, e] at this
          simp [hu] at this ⊢
          omega
        · have hu' : tm_u t' k = false := by simpa using hu
          rw [if_neg hu]
          have := ih (k + 1) (d + 1) (by omega) (by omega) (by omega)
          rw [show k + 1 - 1 = k by omega, e] at this
          simp [hu', hb] at this ⊢
          omega
      · rw [if_neg hb]
        have := ih (k + 1) d (by omega) (by omega) (by omega)
        rw [show k + 1 - 1 = k by omega, e] at this
        simp [hb] at this ⊢
        omega
/-- drop: how many -/
theorem sm_many {t : vx_A} {t' : vm_A} (h : sm_t t t') (b : vx_B) (bt : Int32) : mm_dn t' b bt (tm_n t' + 2) 1 0 = xv_dropN b bt (ta_n t) (ta_c t) 0 := by
  have hN := h.2.2.2.2.2.1
  have h1 := sm_dn0 t' b bt (tm_n t' + 2) 1 0 (by omega) (by omega) (by omega)
  rw [sm_dropN]
  have h2 : sm_cnt (fun j => decide (tb_o b j = bt) && !tm_u t' j) (tm_n t') = sm_cnt (xv_inC b bt (ta_c t)) (ta_n t) := by
    rw [hN]
    apply sm_cnt_eq
    intro j g1 g2
    rw [h.2.2.2.2.2.2.1 j g1 g2]
    unfold xv_inC
    by_cases hb : tb_o b j = bt <;> cases ta_c t j <;> simp [hb]
  have h3 : sm_cnt (fun j => decide (tb_o b j = bt) && !tm_u t' j) (1 - 1) = 0 := rfl
  rw [h2, h3] at h1
  omega
theorem sm_du0 (t' : vm_A) (b : vx_B) (bt : Int32) : ∀ n k u j, tm_n t' + 1 < k + n → mm_du t' b bt n k u j = (if k ≤ j ∧ j ≤ tm_n t' then (u j || decide (tb_o b j = bt)) else u j) := by
  intro n
  induction n with
  | zero => intro k u j h; rw [if_neg (by omega)]; rfl
  | succ n ih =>
    intro k u j h
    rw [mm_du]
    by_cases hk : tm_n t' < k
    · rw [if_pos hk, if_neg (by omega)]
    · rw [if_neg hk, ih (k + 1) _ j (by omega)]
      by_cases hj : j = k
      · subst hj
        rw [if_neg (by omega), vr_ub_s, if_pos (show j ≤ j ∧ j ≤ tm_n t' from ⟨Nat.le_refl _, by omega⟩)]
        cases u j <;> by_cases hb : tb_o b j = bt <;> simp [hb]
      · rw [vr_ub_n hj]
        by_cases h1 : k + 1 ≤ j ∧ j ≤ tm_n t'
        · rw [if_pos h1, if_pos ⟨by omega, h1.2⟩]
        · rw [if_neg h1, if_neg (fun z => h1 ⟨by omega, z.2⟩)]
