set_option maxHeartbeats 4000000 in
set_option maxRecDepth 100000 in
/-- the law's loop: at its head, i ints read, VersionRows and the reference stand in the relation -/
theorem law_loop {p : Program} {l : Launch} {e : Env} {s : State} {m : MethodId} {below : List Frame} {meth : Method} {c : Code} {b L : Nat} {xs : Nat → Int32} {g : vr_G} {a a' : Nat → Nat} (hF : vr_F p s m c code 4 #[Value.ref b] vr_T RL g.1 (vr_tys g) (fun q : Nat => s.heap.size ≤ q)) (hr : meth.sig.returnType = ret) (hlocks : meth.locks = false) (hX : va_X b L xs s s.heap) (hbl : b < s.heap.size) (hL : L ≤ 4608) : ∀ (n i : Nat), L + 9 < i + n → i ≤ L → ∀ (r : vx_R) (t : vx_A) (w : Nat → Int64) (bb : vx_B) (r' : vx_R) (t' : vm_A) (w' : Nat → Bool) (bb' : vx_B), sr r t w bb r' t' w' bb' → vr_W p l e room_1 s m #[Value.ref b] below meth c g.1 (fun q : Nat => s.heap.size ≤ q) 4 29 44380 (lw_Z below #[Value.ref b] s) (vx_w g a r t w bb ++ vm_w g a' r' t' w' bb') 18 [(0, .ref b), (1, .ref (a 0)), (2, .ref (a' 0)), (3, .int (nI i))] [] := by
  have hbA : ¬ (fun q : Nat => s.heap.size ≤ q) b := Nat.not_le.mpr hbl
  intro n
  induction n with
  | zero => intro i h1 h2; omega
  | succ n ih =>
    intro i h1 h2 r t w bb r' t' w' bb' hs
    refine vr_iload_n hF 3 rfl dL_law_18 rfl rfl ?_
    refine vr_aload_n hF 0 rfl dL_law_19 rfl rfl ?_
    refine vr_slen hF hX hbl hbA dL_law_20 rfl ?_
    refine vr_bipush (v := nI 9) hF dL_law_21 (by decide +kernel) rfl ?_
    refine vr_isub (v := nI L - nI 9) hF dL_law_23 rfl rfl ?_
    have e9 : (nI L - nI 9).toInt = (L : Int) - 9 := pk_sub_toInt (by omega) (by decide)
    have ei : (nI i).toInt = (i : Int) := nI_toInt (by omega)
    refine vr_icmp_gt (tgt := 687) hF dL_law_24 (by decide) rfl (fun c_24 => ?_) (fun c_24 => ?_)
    · refine vr_iconst (v := nI 1) hF dL_law_687 (by decide +kernel) rfl ?_
      intro H locs ls hP hD hS hl
      refine va_forget (fun q hq => hS.2.2 q hq) ?_
      refine W.widen (k := 600000) (n := 7302250) (Nat.le_of_ble_eq_true rfl) (Nat.le_of_ble_eq_true rfl) ?_
      exact lw_ret hF.1.1 hF.1.2.1 hr hlocks dL_law_688
    · have hi : i + 9 ≤ L := by
        have : ¬ (nI L - nI 9).toInt < (nI i).toInt := fun q => c_24 (Int32.lt_iff_toInt_lt.mpr q)
        rw [e9, ei] at this; omega
      have hk : ∀ (r : vx_R) (t : vx_A) (w : Nat → Int64) (bb : vx_B) (r' : vx_R) (t' : vm_A) (w' : Nat → Bool) (bb' : vx_B), sr r t w bb r' t' w' bb' → vr_W p l e room_1 s m #[Value.ref b] below meth c g.1 (fun q : Nat => s.heap.size ≤ q) 4 29 44380 (lw_Z below #[Value.ref b] s) (vx_w g a r t w bb ++ vm_w g a' r' t' w' bb') 681 [(0, .ref b), (1, .ref (a 0)), (2, .ref (a' 0)), (3, .int (nI i))] [] := by
        intro r t w bb r' t' w' bb' hs
        refine vr_iinc (lv' := [(3, .int (nI (i + 9))), (0, .ref b), (1, .ref (a 0)), (2, .ref (a' 0))]) hF (nI (i + 9)) 3 rfl dL_law_681 (by rw [show Int32.ofInt 9 = nI 9 by decide +kernel]; exact nI_add i 9) (by decide) rfl rfl ?_
        refine vr_goto (tgt := 18) hF dL_law_684 (by decide) ?_
        refine vr_sub [1, 2, 3, 0] rfl ?_
        exact ih (i + 9) (by omega) hi r t w bb r' t' w' bb' hs
      refine vr_aload_n hF 0 rfl dL_law_27 rfl rfl ?_
      refine vr_iload_n hF 3 rfl dL_law_28 rfl rfl ?_
      refine vr_sld (i := i) hF hX hbl hbA (by omega) (by omega) dL_law_29 rfl ?_
      refine vr_bipush (v := nI 15) hF dL_law_30 (by decide +kernel) rfl ?_
      obtain ⟨j, hj, ej⟩ := pk_andE (xs i) (m := nI 15) 4 (by decide +kernel)
      refine vr_iand (v := nI j) hF dL_law_32 ej rfl ?_
      match j, hj with
      | 0, _ => exact vr_tabIn (tgt := 92) hF dL_law_33 (by decide +kernel) (by decide +kernel) (off := 59) (by decide +kernel) (by decide) (law_c0 hF hX hbl hbA hL i hi r t w bb r' t' w' bb' hs hk)
      | 1, _ => exact vr_tabIn (tgt := 115) hF dL_law_33 (by decide +kernel) (by decide +kernel) (off := 82) (by decide +kernel) (by decide) (law_c1 hF hX hbl hbA hL i hi r t w bb r' t' w' bb' hs hk)
      | 2, _ => exact vr_tabIn (tgt := 274) hF dL_law_33 (by decide +kernel) (by decide +kernel) (off := 241) (by decide +kernel) (by decide) (law_c2 hF hX hbl hbA hL i hi r t w bb r' t' w' bb' hs hk)
      | 3, _ => exact vr_tabIn (tgt := 347) hF dL_law_33 (by decide +kernel) (by decide +kernel) (off := 314) (by decide +kernel) (by decide) (law_c3 hF hX hbl hbA hL i hi r t w bb r' t' w' bb' hs hk)
      | 4, _ => exact vr_tabIn (tgt := 420) hF dL_law_33 (by decide +kernel) (by decide +kernel) (off := 387) (by decide +kernel) (by decide) (law_c4 hF hX hbl hbA hL i hi r t w bb r' t' w' bb' hs hk)
      | 5, _ => exact vr_tabIn (tgt := 443) hF dL_law_33 (by decide +kernel) (by decide +kernel) (off := 410) (by decide +kernel) (by decide) (law_c5 hF hX hbl hbA hL i hi r t w bb r' t' w' bb' hs hk)
      | 6, _ => exact vr_tabIn (tgt := 476) hF dL_law_33 (by decide +kernel) (by decide +kernel) (off := 443) (by decide +kernel) (by decide) (law_c6 hF hX hbl hbA hL i hi r t w bb r' t' w' bb' hs hk)
      | 7, _ => exact vr_tabIn (tgt := 549) hF dL_law_33 (by decide +kernel) (by decide +kernel) (off := 516) (by decide +kernel) (by decide) (law_c7 hF hX hbl hbA hL i hi r t w bb r' t' w' bb' hs hk)
      | 8, _ => exact vr_tabIn (tgt := 582) hF dL_law_33 (by decide +kernel) (by decide +kernel) (off := 549) (by decide +kernel) (by decide) (law_c8 hF hX hbl hbA hL i hi r t w bb r' t' w' bb' hs hk)
      | 9, _ => exact vr_tabIn (tgt := 605) hF dL_law_33 (by decide +kernel) (by decide +kernel) (off := 572) (by decide +kernel) (by decide) (law_c9 hF hX hbl hbA hL i hi r t w bb r' t' w' bb' hs hk)
      | 10, _ => exact vr_tabIn (tgt := 638) hF dL_law_33 (by decide +kernel) (by decide +kernel) (off := 605) (by decide +kernel) (by decide) (law_c10 hF hX hbl hbA hL i hi r t w bb r' t' w' bb' hs hk)
      | 11, _ => exact vr_tabOut (tgt := 681) hF dL_law_33 (by decide +kernel) (by decide) (hk r t w bb r' t' w' bb' hs)
      | 12, _ => exact vr_tabOut (tgt := 681) hF dL_law_33 (by decide +kernel) (by decide) (hk r t w bb r' t' w' bb' hs)
      | 13, _ => exact vr_tabOut (tgt := 681) hF dL_law_33 (by decide +kernel) (by decide) (hk r t w bb r' t' w' bb' hs)
      | 14, _ => exact vr_tabOut (tgt := 681) hF dL_law_33 (by decide +kernel) (by decide) (hk r t w bb r' t' w' bb' hs)
      | 15, _ => exact vr_tabOut (tgt := 681) hF dL_law_33 (by decide +kernel) (by decide) (hk r t w bb r' t' w' bb' hs)
      | j + 16, hj => exact absurd hj (by omega)
set_option maxHeartbeats 4000000 in
set_option maxRecDepth 100000 in
/-- THE LAW, from its entry -/
theorem whole_start {p : Program} {e : Env} {s : State} {m : MethodId} {below : List Frame} {meth : Method} {c : Code} (l : Launch) {b L : Nat} {xs : Nat → Int32} (hL : L ≤ 4608) (C0 : lw_At p s m meth c b L xs) : W p l e room_1 s m #[Value.ref b] below meth c s.heap [] 0 0 (lw_Z below #[Value.ref b] s) (entryFrame m ([Value.ref b] : List Value).toArray 4) := by
  obtain ⟨hx, hb, hr, hml, hown, hts, hX, hbl, hlocks, hgv⟩ := id C0
  have hT : ∀ w ∈ vr_T, w.before #[Value.ref b] s = true := fun w h => hts w (List.mem_filter.mp h).1
  obtain ⟨c0, iS0, hKn0⟩ := u_known (C := RX0) (T := TX0) (N := 8) (n := 8) hT inX0 (hT _ insX0)
  obtain ⟨c1, iS1, hKn1⟩ := u_known (C := RX1) (T := TX1) (N := 2) (n := 2) hT inX1 (hT _ insX1)
  obtain ⟨c2, iS2, hKn2⟩ := u_known (C := RX2) (T := TX2) (N := 1) (n := 1) hT inX2 (hT _ insX2)
  obtain ⟨c3, iS3, hKn3⟩ := u_known (C := RX3) (T := TX3) (N := 4) (n := 4) hT inX3 (hT _ insX3)
  obtain ⟨c4, iS4, hKn4⟩ := u_known (C := RX4) (T := TX4) (N := 4) (n := 4) hT inX4 (hT _ insX4)
  obtain ⟨c5, iS5, hKn5⟩ := u_known (C := RX5) (T := TX5) (N := 15) (n := 15) hT inX5 (hT _ insX5)
  obtain ⟨dC, dI, hKc⟩ : ∃ (dC : Nat → ClassId) (dI : Nat → Nat → Nat), ∀ (k : Nat) (q : vw_C), vwCl[k]? = some q → u_Kn s q.1 q.2.1 q.2.2 (dC k) (dI k) := by
    refine ⟨fun k => match k with | 0 => c0 | 1 => c1 | 2 => c2 | 3 => c3 | 4 => c4 | _ => c5, fun k => match k with | 0 => iS0 | 1 => iS1 | 2 => iS2 | 3 => iS3 | 4 => iS4 | _ => iS5, ?_⟩
    intro k q hq
    match k, hq with
    | 0, hq => cases hq; exact hKn0
    | 1, hq => cases hq; exact hKn1
    | 2, hq => cases hq; exact hKn2
    | 3, hq => cases hq; exact hKn3
    | 4, hq => cases hq; exact hKn4
    | 5, hq => cases hq; exact hKn5
    | k + 6, hq => simp [vwCl] at hq
  obtain ⟨cI, aI1, aI2⟩ := vr_arr (hT _ ar_int) (fun _ h => h)
  obtain ⟨cL, aL1, aL2⟩ := vr_arr (hT _ ar_long) (fun _ h => h)
  obtain ⟨cZ, aZ1, aZ2⟩ := vr_arr (hT _ ar_boolean) (fun _ h => h)
  obtain ⟨g, hg⟩ : ∃ g : vr_G, g = ((dC, dI), cI, cL, cZ) := ⟨_, rfl⟩
  have hK : va_K g.1 vwCl (vr_tys g) s := by
    subst hg
    refine ⟨hKc, fun k q hq => ?_⟩
    match k, hq with
    | 0, hq => cases hq; exact ⟨aI1, aI2⟩
    | 1, hq => cases hq; exact ⟨aL1, aL2⟩
    | 2, hq => cases hq; exact ⟨aZ1, aZ2⟩
    | k + 3, hq => simp [vr_tys] at hq
  have hA : ∀ q : Nat, s.heap.size ≤ q → (fun q : Nat => s.heap.size ≤ q) q := fun _ h => h
  have hF : vr_F p s m c code 4 #[Value.ref b] vr_T RL g.1 (vr_tys g) (fun q : Nat => s.heap.size ≤ q) := ⟨⟨hx, hb, hml, hown, hT⟩, hK, hA⟩
  have hl := lv_entry ([.ref b]) (n := 4) (Nat.le_of_ble_eq_true rfl)
  rw [lg_entry_eq]
  generalize (lg_sl ([.ref b]) ++ List.replicate (4 - (lg_sl ([.ref b])).length) Slot.unset).toArray = ls at hl ⊢
  have hl : lv_has ls 4 [(0, .ref b)] := hl
  have hP : va_P g.1 vwCl [] s.heap := fun k q h => by simp at h
  have hD : va_D (fun q : Nat => s.heap.size ≤ q) [] := ⟨fun i j p q h => by simp at h, fun k q h => by simp at h⟩
  have goal : vr_W p l e room_1 s m #[Value.ref b] below meth c g.1 (fun q : Nat => s.heap.size ≤ q) 4 0 0 (lw_Z below #[Value.ref b] s) [] 0 [(0, .ref b)] [] := by
    refine vr_new (ci := 4) (fs := [.null, .null, .null, .null]) hF inX4 tyX4 tyX4_ok clL_7 insX4 iniX4 rfl (fun j hj => by rcases (show j = 0 ∨ j = 1 ∨ j = 2 ∨ j = 3 by omega) with rfl | rfl | rfl | rfl <;> rfl) (Nat.le_of_ble_eq_true rfl) (Nat.le_of_ble_eq_true rfl) dL_law_0 rfl (fun q0 => ?_)
    refine vr_to (ws' := [(q0, .inr (4, [.null, .null, .null, .null]))]) (lv' := [(0, .ref b)]) (st' := [.ref q0]) rfl rfl rfl ?_
    refine vr_dup hF dL_law_3 rfl rfl ?_
    refine vr_partI (wr := []) (rest := [.ref q0]) hF (xc_V_init l g q0) (fun w h => by rcases List.mem_cons.mp h with rfl | h; rfl; rcases List.mem_cons.mp h with rfl | h; rfl; rcases List.mem_cons.mp h with rfl | h; rfl; rcases List.mem_cons.mp h with rfl | h; rfl; cases h) (fun w h U hW => by rcases List.mem_cons.mp h with rfl | h; exact va_Nw.warmM hW (va_Nw.of rfl (hts _ mlX4_9)); rcases List.mem_cons.mp h with rfl | h; exact va_Nw.warmM hW (va_Nw.of rfl (hts _ mlX4_18)); rcases List.mem_cons.mp h with rfl | h; exact va_Nw.warmM hW (va_Nw.of rfl (hts _ mlX4_25)); rcases List.mem_cons.mp h with rfl | h; exact va_Nw.warmM hW (va_Nw.of rfl (hts _ mlX4_32)); cases h) (vr_goodc vr_hb0 cdX4_init) rfl rfl rfl iniX4 mlL_9 imX4_init rfl (by decide +kernel) ⟨Nat.le_of_ble_eq_true rfl, Nat.le_of_ble_eq_true rfl⟩ ⟨Nat.le_of_ble_eq_true rfl, Nat.le_of_ble_eq_true rfl⟩ (Nat.le_of_ble_eq_true rfl) dL_law_4 rfl [0] [] rfl rfl rfl rfl (by decide) (fun u => ?_)
    refine vr_to (ws' := vx_w g (vr_at0 q0 u) vx_r0 vx_t0 (fun _ => 0) vx_b0) (lv' := [(0, .ref b)]) (st' := [.ref q0]) rfl rfl rfl ?_
    refine vr_astore_n (lv' := [(1, .ref q0), (0, .ref b)]) hF dL_law_7 rfl (by decide) rfl rfl ?_
    refine vr_new (ci := 5) (fs := [.int 0, .int 0, .null, .null, .null, .int 0, .null, .null, .null, .null, .null, .null, .null, .null, .int 0]) hF inX5 tyX5 tyX5_ok clL_10 insX5 iniX5 rfl (fun j hj => by rcases (show j = 0 ∨ j = 1 ∨ j = 2 ∨ j = 3 ∨ j = 4 ∨ j = 5 ∨ j = 6 ∨ j = 7 ∨ j = 8 ∨ j = 9 ∨ j = 10 ∨ j = 11 ∨ j = 12 ∨ j = 13 ∨ j = 14 by omega) with rfl | rfl | rfl | rfl | rfl | rfl | rfl | rfl | rfl | rfl | rfl | rfl | rfl | rfl | rfl <;> rfl) (Nat.le_of_ble_eq_true rfl) (Nat.le_of_ble_eq_true rfl) dL_law_8 rfl (fun q1 => ?_)
    refine vr_dup hF dL_law_11 rfl rfl ?_
    refine vr_partI (wr := vx_w g (vr_at0 q0 u) vx_r0 vx_t0 (fun _ => 0) vx_b0) (rest := [.ref q1]) hF (xc_VModel_init l g q1) (fun _ h => by cases h) (fun _ h => by cases h) (vr_goodc vr_hb0 cdX5_init) rfl rfl rfl iniX5 mlL_12 imX5_init rfl (by decide +kernel) ⟨Nat.le_of_ble_eq_true rfl, Nat.le_of_ble_eq_true rfl⟩ ⟨Nat.le_of_ble_eq_true rfl, Nat.le_of_ble_eq_true rfl⟩ (Nat.le_of_ble_eq_true rfl) dL_law_12 rfl [17] [0, 1, 2, 3, 4, 5, 6, 7, 8, 9, 10, 11, 12, 13, 14, 15, 16] rfl rfl rfl rfl (by decide) (fun u' => ?_)
    refine vr_to (ws' := vx_w g (vr_at0 q0 u) vx_r0 vx_t0 (fun _ => 0) vx_b0 ++ vm_w g (vr_at0 q1 u') vx_r0 vm_t0 (fun _ => false) vx_b0) (lv' := [(1, .ref q0), (0, .ref b)]) (st' := [.ref q1]) rfl rfl rfl ?_
    refine vr_widen (k := 29) (n := 44380) (Nat.le_of_ble_eq_true rfl) (Nat.le_of_ble_eq_true rfl) ?_
    refine vr_astore_n (lv' := [(2, .ref q1), (1, .ref q0), (0, .ref b)]) hF dL_law_15 rfl (by decide) rfl rfl ?_
    refine vr_iconst (v := nI 0) hF dL_law_16 (by decide +kernel) rfl ?_
    refine vr_istore_n (lv' := [(3, .int (nI 0)), (2, .ref q1), (1, .ref q0), (0, .ref b)]) hF dL_law_17 rfl (by decide) rfl rfl ?_
    refine vr_sub [3, 2, 1, 0] rfl ?_
    exact law_loop (a := vr_at0 q0 u) (a' := vr_at0 q1 u') hF hr hlocks hX hbl hL (L + 10) 0 (by omega) (Nat.zero_le _) _ _ _ _ _ _ _ _ sr_new
  exact goal s.heap [] ls hP hD va_S.rf hl
