/-! the words of Leans: a bit for each pair -/
theorem xl_bitv : ∀ i, i < 64 → ((1 : Int64) <<< ((nI i).toInt64 &&& 63)).toBitVec = BitVec.twoPow 64 i := by decide +kernel
theorem xl_tp0 : ∀ i, i < 64 → ¬ BitVec.twoPow 64 i = 0#64 := by decide +kernel
theorem xl_bit_v (o : Nat) : (xl_bit o).toBitVec = BitVec.twoPow 64 (o % 64) := xl_bitv _ (Nat.mod_lt _ (by decide))
theorem xl_bit_iff (x : Int64) (o : Nat) : x &&& xl_bit o = 0 ↔ x.toBitVec.getLsbD (o % 64) = false := by
  constructor
  · intro h
    have h2 := congrArg Int64.toBitVec h
    rw [Int64.toBitVec_and, xl_bit_v, BitVec.and_twoPow] at h2
    cases hx : x.toBitVec.getLsbD (o % 64) with
    | false => rfl
    | true =>
      rw [hx, if_pos rfl] at h2
      exact absurd h2 (xl_tp0 _ (Nat.mod_lt _ (by decide)))
  · intro h
    apply Int64.toBitVec_inj.mp
    rw [Int64.toBitVec_and, xl_bit_v, BitVec.and_twoPow, h]
    rfl
theorem xl_has_get (w : Nat → Int64) (k o : Nat) : xl_has w k o = (w (k * 4 + o / 64)).toBitVec.getLsbD (o % 64) := by
  unfold xl_has
  cases hx : (w (k * 4 + o / 64)).toBitVec.getLsbD (o % 64) with
  | false => rw [if_pos ((xl_bit_iff _ _).mpr hx)]
  | true => rw [if_neg (fun q => by have := (xl_bit_iff _ _).mp q; rw [hx] at this; cases this)]
/-- lean adds one pair, and no other -/
theorem xl_has_add (w : Nat → Int64) {k o k' o' : Nat} (ho : o ≤ 200) (ho' : o' ≤ 200) : xl_has (xl_add w k o) k' o' = (xl_has w k' o' || (decide (k = k') && decide (o = o'))) := by
  rw [xl_has_get, xl_has_get]
  unfold xl_add
  by_cases hi : k' * 4 + o' / 64 = k * 4 + o / 64
  · have hk : k = k' := by omega
    subst hk
    rw [hi, pk_uLs, Int64.toBitVec_or, BitVec.getLsbD_or, xl_bit_v, BitVec.getLsbD_twoPow]
    have e : (decide (o % 64 < 64) && decide (o % 64 = o' % 64)) = decide (o = o') := by
      have h1 : o % 64 < 64 := Nat.mod_lt _ (by decide)
      by_cases h2 : o = o'
      · subst h2; simp [h1]
      · have h3 : ¬ o % 64 = o' % 64 := by omega
        simp [h2, h3]
    rw [e]
    simp
  · rw [pk_uLn hi]
    have hn : ¬ (k = k' ∧ o = o') := fun q => hi (by rw [q.1, q.2])
    by_cases h1 : k = k'
    · have h2 : ¬ o = o' := fun q => hn ⟨h1, q⟩
      simp [h2]
    · simp [h1]
