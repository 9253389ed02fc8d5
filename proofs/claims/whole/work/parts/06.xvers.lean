def rm_xw_V_hasField : Room := { frames := 1, cells := 0, slots := 0, locals := 21 }
set_option maxHeartbeats 4000000 in
set_option maxRecDepth 100000 in
theorem xc_V_hasField (l : Launch) (g : vr_G) (a : Nat → Nat) (r : vx_R) (t : vx_A) (w : Nat → Int64) (b : vx_B) (rc : Int32) (fd : Int32) : vr_Ci l yX4_hasField wsX4_hasField rm_xw_V_hasField g.1 (vr_tys g) [.ref (a 0), .int rc, .int fd] (vx_w g a r t w b) (vx_w g a r t w b) (vr_b (xv_hasF r rc fd)) := by
  refine vr_Ci_mk (cc := cX4_hasField) (nL := 3) (ty := .boolean) (vr_nz _) (by decide) rfl (Nat.le_of_ble_eq_true rfl) ?_
  intro p e s m args below meth c A Q hF hret
  refine vr_to (ws' := (vx_w g a r t w b)) (lv' := [(0, .ref (a 0)), (1, .int rc), (2, .int fd)]) (st' := []) rfl rfl rfl ?_
  refine vr_aload_n hF 0 rfl dX4_hasField_0 rfl rfl ?_
  refine vr_get (v := .ref (a 1)) hF 0 0 (vr_in inX4) (vr_m flX4_10) rfl (by decide) rfl rfl rfl dX4_hasField_1 rfl ?_
  refine vr_iload_n hF 1 rfl dX4_hasField_4 rfl rfl ?_
  refine vr_callV_Ci (rest := []) (n0 := 1) hF (xc_Records_has l g a r t w b rc) (vr_gV vr_hbc mlX4_94 imX3_has seX3_has iniX3 cdX3_has) rfl (by decide +kernel) rfl rfl rfl ⟨Nat.le_of_ble_eq_true rfl, Nat.le_of_ble_eq_true rfl⟩ ⟨Nat.zero_le _, Nat.zero_le _⟩ 1 rfl rfl rfl (Nat.le_of_ble_eq_true rfl) dX4_hasField_5 rfl ?_
  refine vr_if_eqB (tgt := 25) hF dX4_hasField_8 (by decide) rfl (fun c_8 => ?_) (fun c_8 => ?_)
  · skip
    refine vr_iconst (v := nI 0) hF dX4_hasField_25 (by decide +kernel) rfl ?_
    exact vr_reti hret dX4_hasField_26 (by simp [xv_hasF, vr_bt, vr_bf, c_8])
  · skip
    refine vr_iload_n hF 2 rfl dX4_hasField_11 rfl rfl ?_
    refine vr_if_lt (tgt := 25) hF dX4_hasField_12 (by decide) rfl (fun c_12 => ?_) (fun c_12 => ?_)
    · skip
      refine vr_iconst (v := nI 0) hF dX4_hasField_25 (by decide +kernel) rfl ?_
      exact vr_reti hret dX4_hasField_26 (by simp [xv_hasF, vr_bt, vr_bf, c_8, c_12])
    · skip
      refine vr_iload_n hF 2 rfl dX4_hasField_15 rfl rfl ?_
      refine vr_bipush (v := nI 8) hF dX4_hasField_16 (by decide +kernel) rfl ?_
      refine vr_icmp_ge (tgt := 25) hF dX4_hasField_18 (by decide) rfl (fun c_18 => ?_) (fun c_18 => ?_)
      · skip
        refine vr_iconst (v := nI 0) hF dX4_hasField_25 (by decide +kernel) rfl ?_
        exact vr_reti hret dX4_hasField_26 (by simp [xv_hasF, vr_bt, vr_bf, c_8, c_12, c_18])
      · skip
        refine vr_iconst (v := nI 1) hF dX4_hasField_21 (by decide +kernel) rfl ?_
        refine vr_goto (tgt := 26) hF dX4_hasField_22 (by decide) ?_
        exact vr_reti hret dX4_hasField_26 (by simp [xv_hasF, vr_bt, vr_bf, c_8, c_12, c_18])
def rm_xw_V_isLocked : Room := { frames := 1, cells := 0, slots := 0, locals := 21 }
set_option maxHeartbeats 4000000 in
set_option maxRecDepth 100000 in
theorem xc_V_isLocked (l : Launch) (g : vr_G) (a : Nat → Nat) (r : vx_R) (t : vx_A) (w : Nat → Int64) (b : vx_B) (k : Nat) (h : vx_ok r t b) (hk : k ≤ 20) : vr_Ci l yX4_isLocked wsX4_isLocked rm_xw_V_isLocked g.1 (vr_tys g) [.ref (a 0), .int (nI k)] (vx_w g a r t w b) (vx_w g a r t w b) (vr_b (xv_locked r t k)) := by
  refine vr_Ci_mk (cc := cX4_isLocked) (nL := 2) (ty := .boolean) (vr_nz _) (by decide) rfl (Nat.le_of_ble_eq_true rfl) ?_
  intro p e s m args below meth c A Q hF hret
  refine vr_to (ws' := (vx_w g a r t w b)) (lv' := [(0, .ref (a 0)), (1, .int (nI k))]) (st' := []) rfl rfl rfl ?_
  refine vr_aload_n hF 0 rfl dX4_isLocked_0 rfl rfl ?_
  refine vr_get (v := .ref (a 2)) hF 0 1 (vr_in inX4) (vr_m flX4_19) rfl (by decide) rfl rfl rfl dX4_isLocked_1 rfl ?_
  refine vr_callV_Cl (rest := []) (n0 := 0) hF (xc_Acts_now l g a r t w b h) (vr_gV vr_hbc mlX4_68 imX0_now seX0_now iniX0 cdX0_now) rfl (by decide +kernel) rfl rfl rfl ⟨Nat.le_of_ble_eq_true rfl, Nat.le_of_ble_eq_true rfl⟩ ⟨Nat.zero_le _, Nat.zero_le _⟩ 2 rfl rfl rfl (Nat.le_of_ble_eq_true rfl) dX4_isLocked_4 rfl ?_
  refine vr_aload_n hF 0 rfl dX4_isLocked_7 rfl rfl ?_
  refine vr_get (v := .ref (a 1)) hF 0 0 (vr_in inX4) (vr_m flX4_10) rfl (by decide) rfl rfl rfl dX4_isLocked_8 rfl ?_
  refine vr_iload_n hF 1 rfl dX4_isLocked_11 rfl rfl ?_
  refine vr_callV_Cl (rest := [.long (xa_now t)]) (n0 := 1) hF (xc_Records_until l g a r t w b k (by omega)) (vr_gV vr_hbc mlX4_123 imX3_until seX3_until iniX3 cdX3_until) rfl (by decide +kernel) rfl rfl rfl ⟨Nat.le_of_ble_eq_true rfl, Nat.le_of_ble_eq_true rfl⟩ ⟨Nat.zero_le _, Nat.zero_le _⟩ 1 rfl rfl rfl (Nat.le_of_ble_eq_true rfl) dX4_isLocked_12 rfl ?_
  refine vr_lcmp_ge (tgt := 23) hF dX4_isLocked_15 dX4_isLocked_16 (by decide) rfl (fun c_16 => ?_) (fun c_16 => ?_)
  · skip
    refine vr_iconst (v := nI 0) hF dX4_isLocked_23 (by decide +kernel) rfl ?_
    exact vr_reti hret dX4_isLocked_24 (by simp [xv_locked, vr_bt, vr_bf, c_16])
  · skip
    refine vr_iconst (v := nI 1) hF dX4_isLocked_19 (by decide +kernel) rfl ?_
    refine vr_goto (tgt := 24) hF dX4_isLocked_20 (by decide) ?_
    exact vr_reti hret dX4_isLocked_24 (by simp [xv_locked, vr_bt, vr_bf, c_16])
def rm_xw_V_isRefusedDeletion : Room := { frames := 1, cells := 0, slots := 0, locals := 21 }
set_option maxHeartbeats 4000000 in
set_option maxRecDepth 100000 in
theorem xc_V_isRefusedDeletion (l : Launch) (g : vr_G) (a : Nat → Nat) (r : vx_R) (t : vx_A) (w : Nat → Int64) (b : vx_B) (k : Nat) (fd : Int32) (v : Int64) (hk : k ≤ 20) : vr_Ci l yX4_isRefusedDeletion wsX4_isRefusedDeletion rm_xw_V_isRefusedDeletion g.1 (vr_tys g) [.ref (a 0), .int (nI k), .int fd, .long v] (vx_w g a r t w b) (vx_w g a r t w b) (vr_b (xv_refuse r k fd v)) := by
  refine vr_Ci_mk (cc := cX4_isRefusedDeletion) (nL := 5) (ty := .boolean) (vr_nz _) (by decide) rfl (Nat.le_of_ble_eq_true rfl) ?_
  intro p e s m args below meth c A Q hF hret
  refine vr_to (ws' := (vx_w g a r t w b)) (lv' := [(0, .ref (a 0)), (1, .int (nI k)), (2, .int fd), (3, .long v)]) (st' := []) rfl rfl rfl ?_
  refine vr_iload_n hF 2 rfl dX4_isRefusedDeletion_0 rfl rfl ?_
  refine vr_if_ne (tgt := 26) hF dX4_isRefusedDeletion_1 (by decide) rfl (fun c_1 => ?_) (fun c_1 => ?_)
  · skip
    refine vr_iconst (v := nI 0) hF dX4_isRefusedDeletion_26 (by decide +kernel) rfl ?_
    exact vr_reti hret dX4_isRefusedDeletion_27 (by simp [xv_refuse, vr_bt, vr_bf, c_1])
  · skip
    refine vr_lload_n hF 3 rfl dX4_isRefusedDeletion_4 rfl rfl ?_
    refine vr_lconst (v := 1) hF dX4_isRefusedDeletion_5 rfl rfl ?_
    refine vr_lcmp_ne (tgt := 26) hF dX4_isRefusedDeletion_6 dX4_isRefusedDeletion_7 (by decide) rfl (fun c_7 => ?_) (fun c_7 => ?_)
    · skip
      refine vr_iconst (v := nI 0) hF dX4_isRefusedDeletion_26 (by decide +kernel) rfl ?_
      exact vr_reti hret dX4_isRefusedDeletion_27 (by simp [xv_refuse, vr_bt, vr_bf, c_1, c_7])
    · skip
      refine vr_aload_n hF 0 rfl dX4_isRefusedDeletion_10 rfl rfl ?_
      refine vr_get (v := .ref (a 1)) hF 0 0 (vr_in inX4) (vr_m flX4_10) rfl (by decide) rfl rfl rfl dX4_isRefusedDeletion_11 rfl ?_
      refine vr_iload_n hF 1 rfl dX4_isRefusedDeletion_14 rfl rfl ?_
      refine vr_callV_Ci (rest := []) (n0 := 1) hF (xc_Records_kind l g a r t w b k (by omega)) (vr_gV vr_hbc mlX4_126 imX3_kind seX3_kind iniX3 cdX3_kind) rfl (by decide +kernel) rfl rfl rfl ⟨Nat.le_of_ble_eq_true rfl, Nat.le_of_ble_eq_true rfl⟩ ⟨Nat.zero_le _, Nat.zero_le _⟩ 1 rfl rfl rfl (Nat.le_of_ble_eq_true rfl) dX4_isRefusedDeletion_15 rfl ?_
      refine vr_iconst (v := nI 1) hF dX4_isRefusedDeletion_18 (by decide +kernel) rfl ?_
      refine vr_icmp_ne (tgt := 26) hF dX4_isRefusedDeletion_19 (by decide) rfl (fun c_19 => ?_) (fun c_19 => ?_)
      · skip
        refine vr_iconst (v := nI 0) hF dX4_isRefusedDeletion_26 (by decide +kernel) rfl ?_
        exact vr_reti hret dX4_isRefusedDeletion_27 (by simp [xv_refuse, vr_bt, vr_bf, c_1, c_7, c_19])
      · skip
        refine vr_iconst (v := nI 1) hF dX4_isRefusedDeletion_22 (by decide +kernel) rfl ?_
        refine vr_goto (tgt := 27) hF dX4_isRefusedDeletion_23 (by decide) ?_
        exact vr_reti hret dX4_isRefusedDeletion_27 (by simp [xv_refuse, vr_bt, vr_bf, c_1, c_7, c_19])
def rm_xw_V_isLeanedOn : Room := { frames := 2, cells := 0, slots := 0, locals := 43 }
set_option maxHeartbeats 4000000 in
set_option maxRecDepth 100000 in
theorem xw_V_isLeanedOn_lp4 {p : Program} {l : Launch} {e : Env} {s : State} {m : MethodId} {args : Array Value} {below : List Frame} {meth : Method} {c : Code} {A : Nat → Prop} {Q : State → Prop} {g : vr_G} {a : Nat → Nat} (r : vx_R) (t : vx_A) (w : Nat → Int64) (b : vx_B) (k : Nat) (h : vx_ok r t b) (hk : k ≤ ta_n t)  (ans : Int32) (hF : vr_F p s m c cX4_isLeanedOn 3 args wsX4_isLeanedOn yX4_isLeanedOn.cls g.1 (vr_tys g) A) (hret : vr_RtI p l e rm_xw_V_isLeanedOn s m args below meth c cX4_isLeanedOn g.1 A 3 0 0 Q (vx_w g a r t w b) ans) : ∀ (n : Nat) (j : Nat), (ta_n t + 1 < j + n) → (j ≤ ta_n t + 1) → (ans = vr_b (xv_lean1 t w k n j)) → vr_W p l e rm_xw_V_isLeanedOn s m args below meth c g.1 A 3 0 0 Q (vx_w g a r t w b) 4 [(0, .ref (a 0)), (1, .int (nI k)), (2, .int (nI j))] [] := by
  obtain ⟨hrn, htn, hto, hbn⟩ := id h
  intro n
  induction n with
  | zero => intro j hj1 hj2 hans; exact absurd hj1 (by omega)
  | succ n ih =>
    intro j hj1 hj2 hans
    refine vr_iload_n hF 2 rfl dX4_isLeanedOn_4 rfl rfl ?_
    refine vr_aload_n hF 0 rfl dX4_isLeanedOn_5 rfl rfl ?_
    refine vr_get (v := .ref (a 2)) hF 0 1 (vr_in inX4) (vr_m flX4_19) rfl (by decide) rfl rfl rfl dX4_isLeanedOn_6 rfl ?_
    refine vr_callV_Ci (rest := [.int (nI j)]) (n0 := 0) hF (xc_Acts_count l g a r t w b) (vr_gV vr_hbc mlX4_109 imX0_count seX0_count iniX0 cdX0_count) rfl (by decide +kernel) rfl rfl rfl ⟨Nat.le_of_ble_eq_true rfl, Nat.le_of_ble_eq_true rfl⟩ ⟨Nat.zero_le _, Nat.zero_le _⟩ 2 rfl rfl rfl (Nat.le_of_ble_eq_true rfl) dX4_isLeanedOn_9 rfl ?_
    refine vr_icmp_gtN (tgt := 46) (x := j) (y := (ta_n t)) hF (by omega) (by omega) dX4_isLeanedOn_12 (by decide) rfl (fun c_12 => ?_) (fun c_12 => ?_)
    · skip
      refine vr_iconst (v := nI 0) hF dX4_isLeanedOn_46 (by decide +kernel) rfl ?_
      exact vr_reti hret dX4_isLeanedOn_47 (by rw [hans, xv_lean1]; simp [vr_bt, vr_bf, c_12])
    · skip
      refine vr_aload_n hF 0 rfl dX4_isLeanedOn_15 rfl rfl ?_
      refine vr_get (v := .ref (a 2)) hF 0 1 (vr_in inX4) (vr_m flX4_19) rfl (by decide) rfl rfl rfl dX4_isLeanedOn_16 rfl ?_
      refine vr_iload_n hF 2 rfl dX4_isLeanedOn_19 rfl rfl ?_
      refine vr_callV_Ci (rest := []) (n0 := 1) hF (xc_Acts_counts l g a r t w b j (by omega)) (vr_gV vr_hbc mlX4_79 imX0_counts seX0_counts iniX0 cdX0_counts) rfl (by decide +kernel) rfl rfl rfl ⟨Nat.le_of_ble_eq_true rfl, Nat.le_of_ble_eq_true rfl⟩ ⟨Nat.zero_le _, Nat.zero_le _⟩ 2 rfl rfl rfl (Nat.le_of_ble_eq_true rfl) dX4_isLeanedOn_20 rfl ?_
      refine vr_if_eqB (tgt := 40) hF dX4_isLeanedOn_23 (by decide) rfl (fun c_23 => ?_) (fun c_23 => ?_)
      · skip
        refine vr_iinc (lv' := [(2, .int (nI (j + 1))), (0, .ref (a 0)), (1, .int (nI k))]) hF (nI (j + 1)) 2 rfl dX4_isLeanedOn_40 (nI_1 j) (by decide) rfl rfl ?_
        refine vr_goto (tgt := 4) hF dX4_isLeanedOn_43 (by decide) ?_
        refine vr_sub [1, 2, 0] rfl ?_
        exact ih (j + 1) (by omega) (by omega) (by rw [hans, xv_lean1]; simp [c_12, c_23])
      · skip
        refine vr_aload_n hF 0 rfl dX4_isLeanedOn_26 rfl rfl ?_
        refine vr_get (v := .ref (a 3)) hF 0 2 (vr_in inX4) (vr_m flX4_26) rfl (by decide) rfl rfl rfl dX4_isLeanedOn_27 rfl ?_
        refine vr_iload_n hF 2 rfl dX4_isLeanedOn_30 rfl rfl ?_
        refine vr_iload_n hF 1 rfl dX4_isLeanedOn_31 rfl rfl ?_
        refine vr_callV_Ci (rest := []) (n0 := 2) hF (xc_Leans_has l g a r t w b j k (by omega) (by omega)) (vr_gV vr_hbc mlX4_89 imX2_has seX2_has iniX2 cdX2_has) rfl (by decide +kernel) rfl rfl rfl ⟨Nat.le_of_ble_eq_true rfl, Nat.le_of_ble_eq_true rfl⟩ ⟨Nat.zero_le _, Nat.zero_le _⟩ 3 rfl rfl rfl (Nat.le_of_ble_eq_true rfl) dX4_isLeanedOn_32 rfl ?_
        refine vr_if_eqB (tgt := 40) hF dX4_isLeanedOn_35 (by decide) rfl (fun c_35 => ?_) (fun c_35 => ?_)
        · skip
          refine vr_iinc (lv' := [(2, .int (nI (j + 1))), (0, .ref (a 0)), (1, .int (nI k))]) hF (nI (j + 1)) 2 rfl dX4_isLeanedOn_40 (nI_1 j) (by decide) rfl rfl ?_
          refine vr_goto (tgt := 4) hF dX4_isLeanedOn_43 (by decide) ?_
          refine vr_sub [1, 2, 0] rfl ?_
          exact ih (j + 1) (by omega) (by omega) (by rw [hans, xv_lean1]; simp [c_12, c_23, c_35])
        · skip
          refine vr_iconst (v := nI 1) hF dX4_isLeanedOn_38 (by decide +kernel) rfl ?_
          exact vr_reti hret dX4_isLeanedOn_39 (by rw [hans, xv_lean1]; simp [vr_bt, vr_bf, c_12, c_23, c_35])
set_option maxHeartbeats 4000000 in
set_option maxRecDepth 100000 in
theorem xc_V_isLeanedOn (l : Launch) (g : vr_G) (a : Nat → Nat) (r : vx_R) (t : vx_A) (w : Nat → Int64) (b : vx_B) (k : Nat) (h : vx_ok r t b) (hk : k ≤ ta_n t) : vr_Ci l yX4_isLeanedOn wsX4_isLeanedOn rm_xw_V_isLeanedOn g.1 (vr_tys g) [.ref (a 0), .int (nI k)] (vx_w g a r t w b) (vx_w g a r t w b) (vr_b (xv_lean1 t w k (ta_n t + 1) (k + 1))) := by
  obtain ⟨hrn, htn, hto, hbn⟩ := id h
  refine vr_Ci_mk (cc := cX4_isLeanedOn) (nL := 3) (ty := .boolean) (vr_nz _) (by decide) rfl (Nat.le_of_ble_eq_true rfl) ?_
  intro p e s m args below meth c A Q hF hret
  refine vr_to (ws' := (vx_w g a r t w b)) (lv' := [(0, .ref (a 0)), (1, .int (nI k))]) (st' := []) rfl rfl rfl ?_
  refine vr_iload_n hF 1 rfl dX4_isLeanedOn_0 rfl rfl ?_
  refine vr_iconst (v := nI 1) hF dX4_isLeanedOn_1 (by decide +kernel) rfl ?_
  refine vr_iadd (v := nI (k + 1)) hF dX4_isLeanedOn_2 (nI_add k 1) rfl ?_
  refine vr_istore_n (lv' := [(2, .int (nI (k + 1))), (0, .ref (a 0)), (1, .int (nI k))]) hF dX4_isLeanedOn_3 rfl (by decide) rfl rfl ?_
  refine vr_sub [1, 2, 0] rfl ?_
  exact xw_V_isLeanedOn_lp4 r t w b k h hk  _ hF hret (ta_n t + 1) (k + 1) (by omega) (by omega) rfl
def rm_xw_V_isLeanedOnOutside : Room := { frames := 2, cells := 0, slots := 0, locals := 43 }
set_option maxHeartbeats 4000000 in
set_option maxRecDepth 100000 in
theorem xw_V_isLeanedOnOutside_lp4 {p : Program} {l : Launch} {e : Env} {s : State} {m : MethodId} {args : Array Value} {below : List Frame} {meth : Method} {c : Code} {A : Nat → Prop} {Q : State → Prop} {g : vr_G} {a : Nat → Nat} (r : vx_R) (t : vx_A) (w : Nat → Int64) (b : vx_B) (k : Nat) (bt : Int32) (h : vx_ok r t b) (hk : k ≤ ta_n t)  (ans : Int32) (hF : vr_F p s m c cX4_isLeanedOnOutside 4 args wsX4_isLeanedOnOutside yX4_isLeanedOnOutside.cls g.1 (vr_tys g) A) (hret : vr_RtI p l e rm_xw_V_isLeanedOnOutside s m args below meth c cX4_isLeanedOnOutside g.1 A 4 0 0 Q (vx_w g a r t w b) ans) : ∀ (n : Nat) (j : Nat), (ta_n t + 1 < j + n) → (j ≤ ta_n t + 1) → (ans = vr_b (xv_leanO t w b k bt n j)) → vr_W p l e rm_xw_V_isLeanedOnOutside s m args below meth c g.1 A 4 0 0 Q (vx_w g a r t w b) 4 [(0, .ref (a 0)), (1, .int (nI k)), (2, .int bt), (3, .int (nI j))] [] := by
  obtain ⟨hrn, htn, hto, hbn⟩ := id h
  intro n
  induction n with
  | zero => intro j hj1 hj2 hans; exact absurd hj1 (by omega)
  | succ n ih =>
    intro j hj1 hj2 hans
    refine vr_iload_n hF 3 rfl dX4_isLeanedOnOutside_4 rfl rfl ?_
    refine vr_aload_n hF 0 rfl dX4_isLeanedOnOutside_5 rfl rfl ?_
    refine vr_get (v := .ref (a 2)) hF 0 1 (vr_in inX4) (vr_m flX4_19) rfl (by decide) rfl rfl rfl dX4_isLeanedOnOutside_6 rfl ?_
    refine vr_callV_Ci (rest := [.int (nI j)]) (n0 := 0) hF (xc_Acts_count l g a r t w b) (vr_gV vr_hbc mlX4_109 imX0_count seX0_count iniX0 cdX0_count) rfl (by decide +kernel) rfl rfl rfl ⟨Nat.le_of_ble_eq_true rfl, Nat.le_of_ble_eq_true rfl⟩ ⟨Nat.zero_le _, Nat.zero_le _⟩ 2 rfl rfl rfl (Nat.le_of_ble_eq_true rfl) dX4_isLeanedOnOutside_9 rfl ?_
    refine vr_icmp_gtN (tgt := 58) (x := j) (y := (ta_n t)) hF (by omega) (by omega) dX4_isLeanedOnOutside_12 (by decide) rfl (fun c_12 => ?_) (fun c_12 => ?_)
    · skip
      refine vr_iconst (v := nI 0) hF dX4_isLeanedOnOutside_58 (by decide +kernel) rfl ?_
      exact vr_reti hret dX4_isLeanedOnOutside_59 (by rw [hans, xv_leanO]; simp [vr_bt, vr_bf, c_12])
    · skip
      refine vr_aload_n hF 0 rfl dX4_isLeanedOnOutside_15 rfl rfl ?_
      refine vr_get (v := .ref (a 2)) hF 0 1 (vr_in inX4) (vr_m flX4_19) rfl (by decide) rfl rfl rfl dX4_isLeanedOnOutside_16 rfl ?_
      refine vr_iload_n hF 3 rfl dX4_isLeanedOnOutside_19 rfl rfl ?_
      refine vr_callV_Ci (rest := []) (n0 := 1) hF (xc_Acts_counts l g a r t w b j (by omega)) (vr_gV vr_hbc mlX4_79 imX0_counts seX0_counts iniX0 cdX0_counts) rfl (by decide +kernel) rfl rfl rfl ⟨Nat.le_of_ble_eq_true rfl, Nat.le_of_ble_eq_true rfl⟩ ⟨Nat.zero_le _, Nat.zero_le _⟩ 2 rfl rfl rfl (Nat.le_of_ble_eq_true rfl) dX4_isLeanedOnOutside_20 rfl ?_
      refine vr_if_eqB (tgt := 52) hF dX4_isLeanedOnOutside_23 (by decide) rfl (fun c_23 => ?_) (fun c_23 => ?_)
      · skip
        refine vr_iinc (lv' := [(3, .int (nI (j + 1))), (0, .ref (a 0)), (1, .int (nI k)), (2, .int bt)]) hF (nI (j + 1)) 3 rfl dX4_isLeanedOnOutside_52 (nI_1 j) (by decide) rfl rfl ?_
        refine vr_goto (tgt := 4) hF dX4_isLeanedOnOutside_55 (by decide) ?_
        refine vr_sub [1, 2, 3, 0] rfl ?_
        exact ih (j + 1) (by omega) (by omega) (by rw [hans, xv_leanO]; simp [c_12, c_23])
      · skip
        refine vr_aload_n hF 0 rfl dX4_isLeanedOnOutside_26 rfl rfl ?_
        refine vr_get (v := .ref (a 4)) hF 0 3 (vr_in inX4) (vr_m flX4_33) rfl (by decide) rfl rfl rfl dX4_isLeanedOnOutside_27 rfl ?_
        refine vr_iload_n hF 3 rfl dX4_isLeanedOnOutside_30 rfl rfl ?_
        refine vr_callV_Ci (rest := []) (n0 := 1) hF (xc_Batches_of l g a r t w b j (by omega)) (vr_gV vr_hbc mlX4_132 imX1_of seX1_of iniX1 cdX1_of) rfl (by decide +kernel) rfl rfl rfl ⟨Nat.le_of_ble_eq_true rfl, Nat.le_of_ble_eq_true rfl⟩ ⟨Nat.zero_le _, Nat.zero_le _⟩ 4 rfl rfl rfl (Nat.le_of_ble_eq_true rfl) dX4_isLeanedOnOutside_31 rfl ?_
        refine vr_iload_n hF 2 rfl dX4_isLeanedOnOutside_34 rfl rfl ?_
        refine vr_icmp_eq (tgt := 52) hF dX4_isLeanedOnOutside_35 (by decide) rfl (fun c_35 => ?_) (fun c_35 => ?_)
        · skip
          refine vr_iinc (lv' := [(3, .int (nI (j + 1))), (0, .ref (a 0)), (1, .int (nI k)), (2, .int bt)]) hF (nI (j + 1)) 3 rfl dX4_isLeanedOnOutside_52 (nI_1 j) (by decide) rfl rfl ?_
          refine vr_goto (tgt := 4) hF dX4_isLeanedOnOutside_55 (by decide) ?_
          refine vr_sub [1, 2, 3, 0] rfl ?_
          exact ih (j + 1) (by omega) (by omega) (by rw [hans, xv_leanO]; simp [c_12, c_23, c_35])
        · skip
          refine vr_aload_n hF 0 rfl dX4_isLeanedOnOutside_38 rfl rfl ?_
          refine vr_get (v := .ref (a 3)) hF 0 2 (vr_in inX4) (vr_m flX4_26) rfl (by decide) rfl rfl rfl dX4_isLeanedOnOutside_39 rfl ?_
          refine vr_iload_n hF 3 rfl dX4_isLeanedOnOutside_42 rfl rfl ?_
          refine vr_iload_n hF 1 rfl dX4_isLeanedOnOutside_43 rfl rfl ?_
          refine vr_callV_Ci (rest := []) (n0 := 2) hF (xc_Leans_has l g a r t w b j k (by omega) (by omega)) (vr_gV vr_hbc mlX4_89 imX2_has seX2_has iniX2 cdX2_has) rfl (by decide +kernel) rfl rfl rfl ⟨Nat.le_of_ble_eq_true rfl, Nat.le_of_ble_eq_true rfl⟩ ⟨Nat.zero_le _, Nat.zero_le _⟩ 3 rfl rfl rfl (Nat.le_of_ble_eq_true rfl) dX4_isLeanedOnOutside_44 rfl ?_
          refine vr_if_eqB (tgt := 52) hF dX4_isLeanedOnOutside_47 (by decide) rfl (fun c_47 => ?_) (fun c_47 => ?_)
          · skip
            refine vr_iinc (lv' := [(3, .int (nI (j + 1))), (0, .ref (a 0)), (1, .int (nI k)), (2, .int bt)]) hF (nI (j + 1)) 3 rfl dX4_isLeanedOnOutside_52 (nI_1 j) (by decide) rfl rfl ?_
            refine vr_goto (tgt := 4) hF dX4_isLeanedOnOutside_55 (by decide) ?_
            refine vr_sub [1, 2, 3, 0] rfl ?_
            exact ih (j + 1) (by omega) (by omega) (by rw [hans, xv_leanO]; simp [c_12, c_23, c_35, c_47])
          · skip
            refine vr_iconst (v := nI 1) hF dX4_isLeanedOnOutside_50 (by decide +kernel) rfl ?_
            exact vr_reti hret dX4_isLeanedOnOutside_51 (by rw [hans, xv_leanO]; simp [vr_bt, vr_bf, c_12, c_23, c_35, c_47])
set_option maxHeartbeats 4000000 in
set_option maxRecDepth 100000 in
theorem xc_V_isLeanedOnOutside (l : Launch) (g : vr_G) (a : Nat → Nat) (r : vx_R) (t : vx_A) (w : Nat → Int64) (b : vx_B) (k : Nat) (bt : Int32) (h : vx_ok r t b) (hk : k ≤ ta_n t) : vr_Ci l yX4_isLeanedOnOutside wsX4_isLeanedOnOutside rm_xw_V_isLeanedOnOutside g.1 (vr_tys g) [.ref (a 0), .int (nI k), .int bt] (vx_w g a r t w b) (vx_w g a r t w b) (vr_b (xv_leanO t w b k bt (ta_n t + 1) (k + 1))) := by
  obtain ⟨hrn, htn, hto, hbn⟩ := id h
  refine vr_Ci_mk (cc := cX4_isLeanedOnOutside) (nL := 4) (ty := .boolean) (vr_nz _) (by decide) rfl (Nat.le_of_ble_eq_true rfl) ?_
  intro p e s m args below meth c A Q hF hret
  refine vr_to (ws' := (vx_w g a r t w b)) (lv' := [(0, .ref (a 0)), (1, .int (nI k)), (2, .int bt)]) (st' := []) rfl rfl rfl ?_
  refine vr_iload_n hF 1 rfl dX4_isLeanedOnOutside_0 rfl rfl ?_
  refine vr_iconst (v := nI 1) hF dX4_isLeanedOnOutside_1 (by decide +kernel) rfl ?_
  refine vr_iadd (v := nI (k + 1)) hF dX4_isLeanedOnOutside_2 (nI_add k 1) rfl ?_
  refine vr_istore_n (lv' := [(3, .int (nI (k + 1))), (0, .ref (a 0)), (1, .int (nI k)), (2, .int bt)]) hF dX4_isLeanedOnOutside_3 rfl (by decide) rfl rfl ?_
  refine vr_sub [1, 2, 3, 0] rfl ?_
  exact xw_V_isLeanedOnOutside_lp4 r t w b k bt h hk  _ hF hret (ta_n t + 1) (k + 1) (by omega) (by omega) rfl
def rm_xw_V_countsInBatch : Room := { frames := 1, cells := 0, slots := 0, locals := 21 }
set_option maxHeartbeats 4000000 in
set_option maxRecDepth 100000 in
theorem xc_V_countsInBatch (l : Launch) (g : vr_G) (a : Nat → Nat) (r : vx_R) (t : vx_A) (w : Nat → Int64) (b : vx_B) (k : Nat) (bt : Int32) (hk : k ≤ 200) : vr_Ci l yX4_countsInBatch wsX4_countsInBatch rm_xw_V_countsInBatch g.1 (vr_tys g) [.ref (a 0), .int (nI k), .int bt] (vx_w g a r t w b) (vx_w g a r t w b) (vr_b (xv_inC b bt (ta_c t) k)) := by
  refine vr_Ci_mk (cc := cX4_countsInBatch) (nL := 3) (ty := .boolean) (vr_nz _) (by decide) rfl (Nat.le_of_ble_eq_true rfl) ?_
  intro p e s m args below meth c A Q hF hret
  refine vr_to (ws' := (vx_w g a r t w b)) (lv' := [(0, .ref (a 0)), (1, .int (nI k)), (2, .int bt)]) (st' := []) rfl rfl rfl ?_
  refine vr_aload_n hF 0 rfl dX4_countsInBatch_0 rfl rfl ?_
  refine vr_get (v := .ref (a 4)) hF 0 3 (vr_in inX4) (vr_m flX4_33) rfl (by decide) rfl rfl rfl dX4_countsInBatch_1 rfl ?_
  refine vr_iload_n hF 1 rfl dX4_countsInBatch_4 rfl rfl ?_
  refine vr_callV_Ci (rest := []) (n0 := 1) hF (xc_Batches_of l g a r t w b k (by omega)) (vr_gV vr_hbc mlX4_132 imX1_of seX1_of iniX1 cdX1_of) rfl (by decide +kernel) rfl rfl rfl ⟨Nat.le_of_ble_eq_true rfl, Nat.le_of_ble_eq_true rfl⟩ ⟨Nat.zero_le _, Nat.zero_le _⟩ 4 rfl rfl rfl (Nat.le_of_ble_eq_true rfl) dX4_countsInBatch_5 rfl ?_
  refine vr_iload_n hF 2 rfl dX4_countsInBatch_8 rfl rfl ?_
  refine vr_icmp_ne (tgt := 27) hF dX4_countsInBatch_9 (by decide) rfl (fun c_9 => ?_) (fun c_9 => ?_)
  · skip
    refine vr_iconst (v := nI 0) hF dX4_countsInBatch_27 (by decide +kernel) rfl ?_
    exact vr_reti hret dX4_countsInBatch_28 (by simp [xv_inC, vr_bt, vr_bf, c_9])
  · skip
    refine vr_aload_n hF 0 rfl dX4_countsInBatch_12 rfl rfl ?_
    refine vr_get (v := .ref (a 2)) hF 0 1 (vr_in inX4) (vr_m flX4_19) rfl (by decide) rfl rfl rfl dX4_countsInBatch_13 rfl ?_
    refine vr_iload_n hF 1 rfl dX4_countsInBatch_16 rfl rfl ?_
    refine vr_callV_Ci (rest := []) (n0 := 1) hF (xc_Acts_counts l g a r t w b k (by omega)) (vr_gV vr_hbc mlX4_79 imX0_counts seX0_counts iniX0 cdX0_counts) rfl (by decide +kernel) rfl rfl rfl ⟨Nat.le_of_ble_eq_true rfl, Nat.le_of_ble_eq_true rfl⟩ ⟨Nat.zero_le _, Nat.zero_le _⟩ 2 rfl rfl rfl (Nat.le_of_ble_eq_true rfl) dX4_countsInBatch_17 rfl ?_
    refine vr_if_eqB (tgt := 27) hF dX4_countsInBatch_20 (by decide) rfl (fun c_20 => ?_) (fun c_20 => ?_)
    · skip
      refine vr_iconst (v := nI 0) hF dX4_countsInBatch_27 (by decide +kernel) rfl ?_
      exact vr_reti hret dX4_countsInBatch_28 (by simp [xv_inC, vr_bt, vr_bf, c_9, c_20])
    · skip
      refine vr_iconst (v := nI 1) hF dX4_countsInBatch_23 (by decide +kernel) rfl ?_
      refine vr_goto (tgt := 28) hF dX4_countsInBatch_24 (by decide) ?_
      exact vr_reti hret dX4_countsInBatch_28 (by simp [xv_inC, vr_bt, vr_bf, c_9, c_20])
def rm_xw_V_isLeanedOnFromOutside : Room := { frames := 3, cells := 0, slots := 0, locals := 66 }
set_option maxHeartbeats 4000000 in
set_option maxRecDepth 100000 in
theorem xw_V_isLeanedOnFromOutside_lp2 {p : Program} {l : Launch} {e : Env} {s : State} {m : MethodId} {args : Array Value} {below : List Frame} {meth : Method} {c : Code} {A : Nat → Prop} {Q : State → Prop} {g : vr_G} {a : Nat → Nat} (r : vx_R) (t : vx_A) (w : Nat → Int64) (b : vx_B) (bt : Int32) (h : vx_ok r t b)  (ans : Int32) (hF : vr_F p s m c cX4_isLeanedOnFromOutside 3 args wsX4_isLeanedOnFromOutside yX4_isLeanedOnFromOutside.cls g.1 (vr_tys g) A) (hret : vr_RtI p l e rm_xw_V_isLeanedOnFromOutside s m args below meth c cX4_isLeanedOnFromOutside g.1 A 3 0 0 Q (vx_w g a r t w b) ans) : ∀ (n : Nat) (j : Nat), (ta_n t + 1 < j + n) → (j ≤ ta_n t + 1) → (ans = vr_b (xv_leanF t w b bt n j)) → vr_W p l e rm_xw_V_isLeanedOnFromOutside s m args below meth c g.1 A 3 0 0 Q (vx_w g a r t w b) 2 [(0, .ref (a 0)), (1, .int bt), (2, .int (nI j))] [] := by
  obtain ⟨hrn, htn, hto, hbn⟩ := id h
  intro n
  induction n with
  | zero => intro j hj1 hj2 hans; exact absurd hj1 (by omega)
  | succ n ih =>
    intro j hj1 hj2 hans
    refine vr_iload_n hF 2 rfl dX4_isLeanedOnFromOutside_2 rfl rfl ?_
    refine vr_aload_n hF 0 rfl dX4_isLeanedOnFromOutside_3 rfl rfl ?_
    refine vr_get (v := .ref (a 2)) hF 0 1 (vr_in inX4) (vr_m flX4_19) rfl (by decide) rfl rfl rfl dX4_isLeanedOnFromOutside_4 rfl ?_
    refine vr_callV_Ci (rest := [.int (nI j)]) (n0 := 0) hF (xc_Acts_count l g a r t w b) (vr_gV vr_hbc mlX4_109 imX0_count seX0_count iniX0 cdX0_count) rfl (by decide +kernel) rfl rfl rfl ⟨Nat.le_of_ble_eq_true rfl, Nat.le_of_ble_eq_true rfl⟩ ⟨Nat.zero_le _, Nat.zero_le _⟩ 2 rfl rfl rfl (Nat.le_of_ble_eq_true rfl) dX4_isLeanedOnFromOutside_7 rfl ?_
    refine vr_icmp_gtN (tgt := 39) (x := j) (y := (ta_n t)) hF (by omega) (by omega) dX4_isLeanedOnFromOutside_10 (by decide) rfl (fun c_10 => ?_) (fun c_10 => ?_)
    · skip
      refine vr_iconst (v := nI 0) hF dX4_isLeanedOnFromOutside_39 (by decide +kernel) rfl ?_
      exact vr_reti hret dX4_isLeanedOnFromOutside_40 (by rw [hans, xv_leanF]; simp [vr_bt, vr_bf, c_10])
    · skip
      refine vr_aload_n hF 0 rfl dX4_isLeanedOnFromOutside_13 rfl rfl ?_
      refine vr_iload_n hF 2 rfl dX4_isLeanedOnFromOutside_14 rfl rfl ?_
      refine vr_iload_n hF 1 rfl dX4_isLeanedOnFromOutside_15 rfl rfl ?_
      refine vr_callV_Ci (rest := []) (n0 := 2) hF (xc_V_countsInBatch l g a r t w b j bt (by omega)) (vr_gV vr_hbc mlX4_113 imX4_countsInBatch seX4_countsInBatch iniX4 cdX4_countsInBatch) rfl (by decide +kernel) rfl rfl rfl ⟨Nat.le_of_ble_eq_true rfl, Nat.le_of_ble_eq_true rfl⟩ ⟨Nat.zero_le _, Nat.zero_le _⟩ 0 rfl rfl rfl (Nat.le_of_ble_eq_true rfl) dX4_isLeanedOnFromOutside_16 rfl ?_
      refine vr_if_eqB (tgt := 33) hF dX4_isLeanedOnFromOutside_19 (by decide) rfl (fun c_19 => ?_) (fun c_19 => ?_)
      · skip
        refine vr_iinc (lv' := [(2, .int (nI (j + 1))), (0, .ref (a 0)), (1, .int bt)]) hF (nI (j + 1)) 2 rfl dX4_isLeanedOnFromOutside_33 (nI_1 j) (by decide) rfl rfl ?_
        refine vr_goto (tgt := 2) hF dX4_isLeanedOnFromOutside_36 (by decide) ?_
        refine vr_sub [1, 2, 0] rfl ?_
        exact ih (j + 1) (by omega) (by omega) (by rw [hans, xv_leanF]; simp [c_10, c_19])
      · skip
        refine vr_aload_n hF 0 rfl dX4_isLeanedOnFromOutside_22 rfl rfl ?_
        refine vr_iload_n hF 2 rfl dX4_isLeanedOnFromOutside_23 rfl rfl ?_
        refine vr_iload_n hF 1 rfl dX4_isLeanedOnFromOutside_24 rfl rfl ?_
        refine vr_callV_Ci (rest := []) (n0 := 2) hF (xc_V_isLeanedOnOutside l g a r t w b j bt h (by omega)) (vr_gV vr_hbc mlX4_129 imX4_isLeanedOnOutside seX4_isLeanedOnOutside iniX4 cdX4_isLeanedOnOutside) rfl (by decide +kernel) rfl rfl rfl ⟨Nat.le_of_ble_eq_true rfl, Nat.le_of_ble_eq_true rfl⟩ ⟨Nat.zero_le _, Nat.zero_le _⟩ 0 rfl rfl rfl (Nat.le_of_ble_eq_true rfl) dX4_isLeanedOnFromOutside_25 rfl ?_
        refine vr_if_eqB (tgt := 33) hF dX4_isLeanedOnFromOutside_28 (by decide) rfl (fun c_28 => ?_) (fun c_28 => ?_)
        · skip
          refine vr_iinc (lv' := [(2, .int (nI (j + 1))), (0, .ref (a 0)), (1, .int bt)]) hF (nI (j + 1)) 2 rfl dX4_isLeanedOnFromOutside_33 (nI_1 j) (by decide) rfl rfl ?_
          refine vr_goto (tgt := 2) hF dX4_isLeanedOnFromOutside_36 (by decide) ?_
          refine vr_sub [1, 2, 0] rfl ?_
          exact ih (j + 1) (by omega) (by omega) (by rw [hans, xv_leanF]; simp [c_10, c_19, c_28])
        · skip
          refine vr_iconst (v := nI 1) hF dX4_isLeanedOnFromOutside_31 (by decide +kernel) rfl ?_
          exact vr_reti hret dX4_isLeanedOnFromOutside_32 (by rw [hans, xv_leanF]; simp [vr_bt, vr_bf, c_10, c_19, c_28])
set_option maxHeartbeats 4000000 in
set_option maxRecDepth 100000 in
theorem xc_V_isLeanedOnFromOutside (l : Launch) (g : vr_G) (a : Nat → Nat) (r : vx_R) (t : vx_A) (w : Nat → Int64) (b : vx_B) (bt : Int32) (h : vx_ok r t b) : vr_Ci l yX4_isLeanedOnFromOutside wsX4_isLeanedOnFromOutside rm_xw_V_isLeanedOnFromOutside g.1 (vr_tys g) [.ref (a 0), .int bt] (vx_w g a r t w b) (vx_w g a r t w b) (vr_b (xv_leanF t w b bt (ta_n t + 2) 1)) := by
  obtain ⟨hrn, htn, hto, hbn⟩ := id h
  refine vr_Ci_mk (cc := cX4_isLeanedOnFromOutside) (nL := 3) (ty := .boolean) (vr_nz _) (by decide) rfl (Nat.le_of_ble_eq_true rfl) ?_
  intro p e s m args below meth c A Q hF hret
  refine vr_to (ws' := (vx_w g a r t w b)) (lv' := [(0, .ref (a 0)), (1, .int bt)]) (st' := []) rfl rfl rfl ?_
  refine vr_iconst (v := nI 1) hF dX4_isLeanedOnFromOutside_0 (by decide +kernel) rfl ?_
  refine vr_istore_n (lv' := [(2, .int (nI 1)), (0, .ref (a 0)), (1, .int bt)]) hF dX4_isLeanedOnFromOutside_1 rfl (by decide) rfl rfl ?_
  refine vr_sub [1, 2, 0] rfl ?_
  exact xw_V_isLeanedOnFromOutside_lp2 r t w b bt h  _ hF hret (ta_n t + 2) 1 (by omega) (by omega) rfl
def rm_xw_V_record : Room := { frames := 1, cells := 0, slots := 0, locals := 21 }
set_option maxHeartbeats 4000000 in
set_option maxRecDepth 100000 in
theorem xc_V_record (l : Launch) (g : vr_G) (a : Nat → Nat) (r : vx_R) (t : vx_A) (w : Nat → Int64) (b : vx_B) (kd : Int32) (h : vx_ok r t b) : vr_Ci l yX4_record wsX4_record rm_xw_V_record g.1 (vr_tys g) [.ref (a 0), .int kd] (vx_w g a r t w b) (vx_w g a (if xv_rec r kd = true then xr_add r kd else r) t w b) (nI (if xv_rec r kd = true then rr_n r + 1 else 0)) := by
  refine vr_Ci_mk (cc := cX4_record) (nL := 2) (ty := .int) rfl (by decide) rfl (Nat.le_of_ble_eq_true rfl) ?_
  intro p e s m args below meth c A Q hF hret
  refine vr_to (ws' := (vx_w g a r t w b)) (lv' := [(0, .ref (a 0)), (1, .int kd)]) (st' := []) rfl rfl rfl ?_
  refine vr_iload_n hF 1 rfl dX4_record_0 rfl rfl ?_
  refine vr_if_lt (tgt := 9) hF dX4_record_1 (by decide) rfl (fun c_1 => ?_) (fun c_1 => ?_)
  · skip
    refine vr_iconst (v := nI 0) hF dX4_record_9 (by decide +kernel) rfl ?_
    exact vr_retiw hret dX4_record_10 (by simp [xv_rec, vr_bt, vr_bf, c_1]) (by simp [xv_rec, vr_bt, vr_bf, c_1])
  · skip
    refine vr_iload_n hF 1 rfl dX4_record_4 rfl rfl ?_
    refine vr_iconst (v := nI 4) hF dX4_record_5 (by decide +kernel) rfl ?_
    refine vr_icmp_lt (tgt := 11) hF dX4_record_6 (by decide) rfl (fun c_6 => ?_) (fun c_6 => ?_)
    · skip
      refine vr_aload_n hF 0 rfl dX4_record_11 rfl rfl ?_
      refine vr_get (v := .ref (a 1)) hF 0 0 (vr_in inX4) (vr_m flX4_10) rfl (by decide) rfl rfl rfl dX4_record_12 rfl ?_
      refine vr_iload_n hF 1 rfl dX4_record_15 rfl rfl ?_
      refine vr_callV_Ci (rest := []) (n0 := 1) hF (xc_Records_add l g a r t w b kd h) (vr_gV vr_hbc mlX4_37 imX3_add seX3_add iniX3 cdX3_add) rfl (by decide +kernel) rfl rfl rfl ⟨Nat.le_of_ble_eq_true rfl, Nat.le_of_ble_eq_true rfl⟩ ⟨Nat.zero_le _, Nat.zero_le _⟩ 1 rfl rfl rfl (Nat.le_of_ble_eq_true rfl) dX4_record_16 rfl ?_
      exact vr_retiw hret dX4_record_19 (by simp [xv_rec, vr_bt, vr_bf, c_1, c_6]) (by simp [xv_rec, vr_bt, vr_bf, c_1, c_6])
    · skip
      refine vr_iconst (v := nI 0) hF dX4_record_9 (by decide +kernel) rfl ?_
      exact vr_retiw hret dX4_record_10 (by simp [xv_rec, vr_bt, vr_bf, c_1, c_6]) (by simp [xv_rec, vr_bt, vr_bf, c_1, c_6])
def rm_xw_V_act : Room := { frames := 3, cells := 0, slots := 0, locals := 70 }
set_option maxHeartbeats 4000000 in
set_option maxRecDepth 100000 in
theorem xc_V_act (l : Launch) (g : vr_G) (a : Nat → Nat) (r : vx_R) (t : vx_A) (w : Nat → Int64) (b : vx_B) (rc : Int32) (fd : Int32) (v : Int64) (vd : Int64) (kn : Int64) (h : vx_ok r t b) : vr_Ci l yX4_act wsX4_act rm_xw_V_act g.1 (vr_tys g) [.ref (a 0), .int rc, .int fd, .long v, .long vd, .long kn] (vx_w g a r t w b) (vx_w g a r (xv_actT r t rc fd v vd kn) w b) (nI (xv_actN r t rc fd v vd kn)) := by
  obtain ⟨hrn, htn, hto, hbn⟩ := id h
  refine vr_Ci_mk (cc := cX4_act) (nL := 11) (ty := .int) rfl (by decide) rfl (Nat.le_of_ble_eq_true rfl) ?_
  intro p e s m args below meth c A Q hF hret
  refine vr_to (ws' := (vx_w g a r t w b)) (lv' := [(0, .ref (a 0)), (1, .int rc), (2, .int fd), (3, .long v), (5, .long vd), (7, .long kn)]) (st' := []) rfl rfl rfl ?_
  refine vr_aload_n hF 0 rfl dX4_act_0 rfl rfl ?_
  refine vr_iload_n hF 1 rfl dX4_act_1 rfl rfl ?_
  refine vr_iload_n hF 2 rfl dX4_act_2 rfl rfl ?_
  refine vr_callV_Ci (rest := []) (n0 := 2) hF (xc_V_hasField l g a r t w b rc fd) (vr_gV vr_hbc mlX4_41 imX4_hasField seX4_hasField iniX4 cdX4_hasField) rfl (by decide +kernel) rfl rfl rfl ⟨Nat.le_of_ble_eq_true rfl, Nat.le_of_ble_eq_true rfl⟩ ⟨Nat.zero_le _, Nat.zero_le _⟩ 0 rfl rfl rfl (Nat.le_of_ble_eq_true rfl) dX4_act_3 rfl ?_
  refine vr_if_eqB (tgt := 23) hF dX4_act_6 (by decide) rfl (fun c_6 => ?_) (fun c_6 => ?_)
  · skip
    refine vr_iconst (v := nI 0) hF dX4_act_23 (by decide +kernel) rfl ?_
    exact vr_retiw hret dX4_act_24 (by simp [xv_actN, xv_actT, xv_actOk, xv_fnd, vr_bt, vr_bf, c_6]) (by simp [xv_actN, xv_actT, xv_actOk, xv_fnd, vr_bt, vr_bf, c_6])
  · skip
    obtain ⟨k, hk1, hk2, rfl⟩ := vx_has_of (n := rr_n r) (by omega) (xv_hasF_has c_6)
    have hcl : (nI k).toNatClampNeg = k := nI_clamp (by omega)
    refine vr_lload_n hF 3 rfl dX4_act_9 rfl rfl ?_
    refine vr_lconst (v := 0) hF dX4_act_10 rfl rfl ?_
    refine vr_lcmp_lt (tgt := 23) hF dX4_act_11 dX4_act_12 (by decide) rfl (fun c_12 => ?_) (fun c_12 => ?_)
    · skip
      refine vr_iconst (v := nI 0) hF dX4_act_23 (by decide +kernel) rfl ?_
      exact vr_retiw hret dX4_act_24 (by simp [xv_actN, xv_actT, xv_actOk, xv_fnd, vr_bt, vr_bf, c_6, c_12, hcl]) (by simp [xv_actN, xv_actT, xv_actOk, xv_fnd, vr_bt, vr_bf, c_6, c_12, hcl])
    · skip
      refine vr_lload_n hF 3 rfl dX4_act_15 rfl rfl ?_
      refine vr_ldc2 (v := 2147483647) hF (vr_m kX4_45) dX4_act_16 rfl ?_
      refine vr_lcmp_le (tgt := 25) hF dX4_act_19 dX4_act_20 (by decide) rfl (fun c_20 => ?_) (fun c_20 => ?_)
      · skip
        refine vr_aload_n hF 0 rfl dX4_act_25 rfl rfl ?_
        refine vr_iload_n hF 1 rfl dX4_act_26 rfl rfl ?_
        refine vr_callV_Ci (rest := []) (n0 := 1) hF (xc_V_isLocked l g a r t w b k h (by omega)) (vr_gV vr_hbc mlX4_47 imX4_isLocked seX4_isLocked iniX4 cdX4_isLocked) rfl (by decide +kernel) rfl rfl rfl ⟨Nat.le_of_ble_eq_true rfl, Nat.le_of_ble_eq_true rfl⟩ ⟨Nat.zero_le _, Nat.zero_le _⟩ 0 rfl rfl rfl (Nat.le_of_ble_eq_true rfl) dX4_act_27 rfl ?_
        refine vr_if_neB (tgt := 43) hF dX4_act_30 (by decide) rfl (fun c_30 => ?_) (fun c_30 => ?_)
        · skip
          refine vr_iconst (v := nI 0) hF dX4_act_43 (by decide +kernel) rfl ?_
          exact vr_retiw hret dX4_act_44 (by simp [xv_actN, xv_actT, xv_actOk, xv_fnd, vr_bt, vr_bf, c_6, c_12, c_20, c_30, hcl]) (by simp [xv_actN, xv_actT, xv_actOk, xv_fnd, vr_bt, vr_bf, c_6, c_12, c_20, c_30, hcl])
        · skip
          refine vr_aload_n hF 0 rfl dX4_act_33 rfl rfl ?_
          refine vr_iload_n hF 1 rfl dX4_act_34 rfl rfl ?_
          refine vr_iload_n hF 2 rfl dX4_act_35 rfl rfl ?_
          refine vr_lload_n hF 3 rfl dX4_act_36 rfl rfl ?_
          refine vr_callV_Ci (rest := []) (n0 := 3) hF (xc_V_isRefusedDeletion l g a r t w b k fd v (by omega)) (vr_gV vr_hbc mlX4_51 imX4_isRefusedDeletion seX4_isRefusedDeletion iniX4 cdX4_isRefusedDeletion) rfl (by decide +kernel) rfl rfl rfl ⟨Nat.le_of_ble_eq_true rfl, Nat.le_of_ble_eq_true rfl⟩ ⟨Nat.zero_le _, Nat.zero_le _⟩ 0 rfl rfl rfl (Nat.le_of_ble_eq_true rfl) dX4_act_37 rfl ?_
          refine vr_if_eqB (tgt := 45) hF dX4_act_40 (by decide) rfl (fun c_40 => ?_) (fun c_40 => ?_)
          · skip
            refine vr_lload_n hF 3 rfl dX4_act_45 rfl rfl ?_
            refine vr_l2i (v := (v).toInt32) hF dX4_act_46 rfl rfl ?_
            refine vr_istore (lv' := [(9, .int ((v).toInt32)), (0, .ref (a 0)), (1, .int (nI k)), (2, .int fd), (3, .long v), (5, .long vd), (7, .long kn)]) hF dX4_act_47 (by decide) rfl rfl ?_
            refine vr_aload_n hF 1 rfl dX4_act_49 rfl rfl ?_
            refine vr_get (v := .ref (a 2)) hF 0 1 (vr_in inX4) (vr_m flX4_19) rfl (by decide) rfl rfl rfl dX4_act_50 rfl ?_
            refine vr_iload_n hF 2 rfl dX4_act_53 rfl rfl ?_
            refine vr_iload_n hF 3 rfl dX4_act_54 rfl rfl ?_
            refine vr_iload hF 0 rfl dX4_act_55 rfl ?_
            refine vr_lload hF 5 rfl dX4_act_57 rfl ?_
            refine vr_lload hF 6 rfl dX4_act_59 rfl ?_
            refine vr_callV_Ci (rest := []) (n0 := 5) hF (xc_Acts_findCounting l g a r t w b (nI k) fd ((v).toInt32) vd kn h) (vr_gV vr_hbc mlX4_55 imX0_findCounting seX0_findCounting iniX0 cdX0_findCounting) rfl (by decide +kernel) rfl rfl rfl ⟨Nat.le_of_ble_eq_true rfl, Nat.le_of_ble_eq_true rfl⟩ ⟨Nat.zero_le _, Nat.zero_le _⟩ 2 rfl rfl rfl (Nat.le_of_ble_eq_true rfl) dX4_act_61 rfl ?_
            refine vr_istore (lv' := [(10, .int (nI (xa_find t (nI k) fd ((v).toInt32) vd kn (ta_n t + 2) 1))), (9, .int ((v).toInt32)), (0, .ref (a 0)), (1, .int (nI k)), (2, .int fd), (3, .long v), (5, .long vd), (7, .long kn)]) hF dX4_act_64 (by decide) rfl rfl ?_
            refine vr_iload hF 0 rfl dX4_act_66 rfl ?_
            have hfl := xa_find_le t (nI k) fd v.toInt32 vd kn (ta_n t + 2) 1
            refine vr_if_eqN (tgt := 74) (x := (xa_find t (nI k) fd ((v).toInt32) vd kn (ta_n t + 2) 1)) hF (by omega) dX4_act_68 (by decide) rfl (fun c_68 => ?_) (fun c_68 => ?_)
            · skip
              refine vr_aload_n hF 2 rfl dX4_act_74 rfl rfl ?_
              refine vr_get (v := .ref (a 2)) hF 0 1 (vr_in inX4) (vr_m flX4_19) rfl (by decide) rfl rfl rfl dX4_act_75 rfl ?_
              refine vr_iload_n hF 3 rfl dX4_act_78 rfl rfl ?_
              refine vr_iload_n hF 4 rfl dX4_act_79 rfl rfl ?_
              refine vr_iload hF 1 rfl dX4_act_80 rfl ?_
              refine vr_lload hF 6 rfl dX4_act_82 rfl ?_
              refine vr_lload hF 7 rfl dX4_act_84 rfl ?_
              refine vr_callV_Ci (rest := []) (n0 := 5) hF (xc_Acts_add l g a r t w b (nI k) fd ((v).toInt32) vd kn h) (vr_gV vr_hbc mlX4_59 imX0_add seX0_add iniX0 cdX0_add) rfl (by decide +kernel) rfl rfl rfl ⟨Nat.le_of_ble_eq_true rfl, Nat.le_of_ble_eq_true rfl⟩ ⟨Nat.zero_le _, Nat.zero_le _⟩ 2 rfl rfl rfl (Nat.le_of_ble_eq_true rfl) dX4_act_86 rfl ?_
              exact vr_retiw hret dX4_act_89 (by simp [xv_actN, xv_actT, xv_actOk, xv_fnd, vr_bt, vr_bf, c_6, c_12, c_20, c_30, c_40, c_68, hcl]) (by simp [xv_actN, xv_actT, xv_actOk, xv_fnd, vr_bt, vr_bf, c_6, c_12, c_20, c_30, c_40, c_68, hcl])
            · skip
              refine vr_iload hF 0 rfl dX4_act_71 rfl ?_
              exact vr_retiw hret dX4_act_73 (by simp [xv_actN, xv_actT, xv_actOk, xv_fnd, vr_bt, vr_bf, c_6, c_12, c_20, c_30, c_40, c_68, hcl]) (by simp [xv_actN, xv_actT, xv_actOk, xv_fnd, vr_bt, vr_bf, c_6, c_12, c_20, c_30, c_40, c_68, hcl])
          · skip
            refine vr_iconst (v := nI 0) hF dX4_act_43 (by decide +kernel) rfl ?_
            exact vr_retiw hret dX4_act_44 (by simp [xv_actN, xv_actT, xv_actOk, xv_fnd, vr_bt, vr_bf, c_6, c_12, c_20, c_30, c_40, hcl]) (by simp [xv_actN, xv_actT, xv_actOk, xv_fnd, vr_bt, vr_bf, c_6, c_12, c_20, c_30, c_40, hcl])
      · skip
        refine vr_iconst (v := nI 0) hF dX4_act_23 (by decide +kernel) rfl ?_
        exact vr_retiw hret dX4_act_24 (by simp [xv_actN, xv_actT, xv_actOk, xv_fnd, vr_bt, vr_bf, c_6, c_12, c_20, hcl]) (by simp [xv_actN, xv_actT, xv_actOk, xv_fnd, vr_bt, vr_bf, c_6, c_12, c_20, hcl])
def rm_xw_V_at : Room := { frames := 2, cells := 0, slots := 0, locals := 49 }
set_option maxHeartbeats 4000000 in
set_option maxRecDepth 100000 in
theorem xc_V_at (l : Launch) (g : vr_G) (a : Nat → Nat) (r : vx_R) (t : vx_A) (w : Nat → Int64) (b : vx_B) (rc : Int32) (fd : Int32) (mo : Int64) (h : vx_ok r t b) : vr_Ci l yX4_at wsX4_at rm_xw_V_at g.1 (vr_tys g) [.ref (a 0), .int rc, .int fd, .long mo] (vx_w g a r t w b) (vx_w g a r t w b) (xv_at r t rc fd mo) := by
  obtain ⟨hrn, htn, hto, hbn⟩ := id h
  refine vr_Ci_mk (cc := cX4_at) (nL := 6) (ty := .int) rfl (by decide) rfl (Nat.le_of_ble_eq_true rfl) ?_
  intro p e s m args below meth c A Q hF hret
  refine vr_to (ws' := (vx_w g a r t w b)) (lv' := [(0, .ref (a 0)), (1, .int rc), (2, .int fd), (3, .long mo)]) (st' := []) rfl rfl rfl ?_
  refine vr_aload_n hF 0 rfl dX4_at_0 rfl rfl ?_
  refine vr_iload_n hF 1 rfl dX4_at_1 rfl rfl ?_
  refine vr_iload_n hF 2 rfl dX4_at_2 rfl rfl ?_
  refine vr_callV_Ci (rest := []) (n0 := 2) hF (xc_V_hasField l g a r t w b rc fd) (vr_gV vr_hbc mlX4_41 imX4_hasField seX4_hasField iniX4 cdX4_hasField) rfl (by decide +kernel) rfl rfl rfl ⟨Nat.le_of_ble_eq_true rfl, Nat.le_of_ble_eq_true rfl⟩ ⟨Nat.zero_le _, Nat.zero_le _⟩ 0 rfl rfl rfl (Nat.le_of_ble_eq_true rfl) dX4_at_3 rfl ?_
  refine vr_if_neB (tgt := 11) hF dX4_at_6 (by decide) rfl (fun c_6 => ?_) (fun c_6 => ?_)
  · skip
    refine vr_aload_n hF 0 rfl dX4_at_11 rfl rfl ?_
    refine vr_get (v := .ref (a 2)) hF 0 1 (vr_in inX4) (vr_m flX4_19) rfl (by decide) rfl rfl rfl dX4_at_12 rfl ?_
    refine vr_iload_n hF 1 rfl dX4_at_15 rfl rfl ?_
    refine vr_iload_n hF 2 rfl dX4_at_16 rfl rfl ?_
    refine vr_lload_n hF 3 rfl dX4_at_17 rfl rfl ?_
    refine vr_callV_Ci (rest := []) (n0 := 3) hF (xc_Acts_lastCounting l g a r t w b rc fd mo h) (vr_gV vr_hbc mlX4_61 imX0_lastCounting seX0_lastCounting iniX0 cdX0_lastCounting) rfl (by decide +kernel) rfl rfl rfl ⟨Nat.le_of_ble_eq_true rfl, Nat.le_of_ble_eq_true rfl⟩ ⟨Nat.zero_le _, Nat.zero_le _⟩ 2 rfl rfl rfl (Nat.le_of_ble_eq_true rfl) dX4_at_18 rfl ?_
    refine vr_istore (lv' := [(5, .int (nI (xa_last t rc fd mo (ta_n t)))), (0, .ref (a 0)), (1, .int rc), (2, .int fd), (3, .long mo)]) hF dX4_at_21 (by decide) rfl rfl ?_
    refine vr_iload hF 0 rfl dX4_at_23 rfl ?_
    have hfl := xa_last_le hto rc fd mo (ta_n t)
    refine vr_if_neN (tgt := 32) (x := (xa_last t rc fd mo (ta_n t))) hF (by omega) dX4_at_25 (by decide) rfl (fun c_25 => ?_) (fun c_25 => ?_)
    · skip
      refine vr_aload_n hF 1 rfl dX4_at_32 rfl rfl ?_
      refine vr_get (v := .ref (a 2)) hF 0 1 (vr_in inX4) (vr_m flX4_19) rfl (by decide) rfl rfl rfl dX4_at_33 rfl ?_
      refine vr_iload hF 0 rfl dX4_at_36 rfl ?_
      refine vr_callV_Ci (rest := []) (n0 := 1) hF (xc_Acts_value l g a r t w b (xa_last t rc fd mo (ta_n t)) (by omega)) (vr_gV vr_hbc mlX4_65 imX0_value seX0_value iniX0 cdX0_value) rfl (by decide +kernel) rfl rfl rfl ⟨Nat.le_of_ble_eq_true rfl, Nat.le_of_ble_eq_true rfl⟩ ⟨Nat.zero_le _, Nat.zero_le _⟩ 2 rfl rfl rfl (Nat.le_of_ble_eq_true rfl) dX4_at_38 rfl ?_
      exact vr_reti hret dX4_at_41 (by simp [xv_at, vr_bt, vr_bf, c_6, c_25])
    · skip
      refine vr_iconst (v := (-1)) hF dX4_at_28 (by decide +kernel) rfl ?_
      refine vr_goto (tgt := 41) hF dX4_at_29 (by decide) ?_
      exact vr_reti hret dX4_at_41 (by simp [xv_at, vr_bt, vr_bf, c_6, c_25])
  · skip
    refine vr_iconst (v := (-1)) hF dX4_at_9 (by decide +kernel) rfl ?_
    exact vr_reti hret dX4_at_10 (by simp [xv_at, vr_bt, vr_bf, c_6])
def rm_xw_V_stale : Room := { frames := 2, cells := 0, slots := 0, locals := 49 }
set_option maxHeartbeats 4000000 in
set_option maxRecDepth 100000 in
theorem xc_V_stale (l : Launch) (g : vr_G) (a : Nat → Nat) (r : vx_R) (t : vx_A) (w : Nat → Int64) (b : vx_B) (rc : Int32) (mo : Int64) (fd : Int32) (h : vx_ok r t b) : vr_Ci l yX4_stale wsX4_stale rm_xw_V_stale g.1 (vr_tys g) [.ref (a 0), .int rc, .long mo, .int fd] (vx_w g a r t w b) (vx_w g a r t w b) (xv_stale r t rc mo fd) := by
  obtain ⟨hrn, htn, hto, hbn⟩ := id h
  refine vr_Ci_mk (cc := cX4_stale) (nL := 7) (ty := .int) rfl (by decide) rfl (Nat.le_of_ble_eq_true rfl) ?_
  intro p e s m args below meth c A Q hF hret
  refine vr_to (ws' := (vx_w g a r t w b)) (lv' := [(0, .ref (a 0)), (1, .int rc), (2, .long mo), (4, .int fd)]) (st' := []) rfl rfl rfl ?_
  refine vr_aload_n hF 0 rfl dX4_stale_0 rfl rfl ?_
  refine vr_iload_n hF 1 rfl dX4_stale_1 rfl rfl ?_
  refine vr_iload hF 3 rfl dX4_stale_2 rfl ?_
  refine vr_callV_Ci (rest := []) (n0 := 2) hF (xc_V_hasField l g a r t w b rc fd) (vr_gV vr_hbc mlX4_41 imX4_hasField seX4_hasField iniX4 cdX4_hasField) rfl (by decide +kernel) rfl rfl rfl ⟨Nat.le_of_ble_eq_true rfl, Nat.le_of_ble_eq_true rfl⟩ ⟨Nat.zero_le _, Nat.zero_le _⟩ 0 rfl rfl rfl (Nat.le_of_ble_eq_true rfl) dX4_stale_4 rfl ?_
  refine vr_if_neB (tgt := 12) hF dX4_stale_7 (by decide) rfl (fun c_7 => ?_) (fun c_7 => ?_)
  · skip
    refine vr_aload_n hF 0 rfl dX4_stale_12 rfl rfl ?_
    refine vr_get (v := .ref (a 2)) hF 0 1 (vr_in inX4) (vr_m flX4_19) rfl (by decide) rfl rfl rfl dX4_stale_13 rfl ?_
    refine vr_iload_n hF 1 rfl dX4_stale_16 rfl rfl ?_
    refine vr_iload hF 3 rfl dX4_stale_17 rfl ?_
    refine vr_aload_n hF 0 rfl dX4_stale_19 rfl rfl ?_
    refine vr_get (v := .ref (a 2)) hF 0 1 (vr_in inX4) (vr_m flX4_19) rfl (by decide) rfl rfl rfl dX4_stale_20 rfl ?_
    refine vr_callV_Cl (rest := [.int fd, .int rc, .ref (a 2)]) (n0 := 0) hF (xc_Acts_now l g a r t w b h) (vr_gV vr_hbc mlX4_68 imX0_now seX0_now iniX0 cdX0_now) rfl (by decide +kernel) rfl rfl rfl ⟨Nat.le_of_ble_eq_true rfl, Nat.le_of_ble_eq_true rfl⟩ ⟨Nat.zero_le _, Nat.zero_le _⟩ 2 rfl rfl rfl (Nat.le_of_ble_eq_true rfl) dX4_stale_23 rfl ?_
    refine vr_callV_Ci (rest := []) (n0 := 3) hF (xc_Acts_lastCounting l g a r t w b rc fd (xa_now t) h) (vr_gV vr_hbc mlX4_61 imX0_lastCounting seX0_lastCounting iniX0 cdX0_lastCounting) rfl (by decide +kernel) rfl rfl rfl ⟨Nat.le_of_ble_eq_true rfl, Nat.le_of_ble_eq_true rfl⟩ ⟨Nat.zero_le _, Nat.zero_le _⟩ 2 rfl rfl rfl (Nat.le_of_ble_eq_true rfl) dX4_stale_26 rfl ?_
    refine vr_istore (lv' := [(5, .int (nI (xa_last t rc fd (xa_now t) (ta_n t)))), (0, .ref (a 0)), (1, .int rc), (2, .long mo), (4, .int fd)]) hF dX4_stale_29 (by decide) rfl rfl ?_
    refine vr_iload hF 0 rfl dX4_stale_31 rfl ?_
    have hfl := xa_last_le hto rc fd (xa_now t) (ta_n t)
    refine vr_if_eqN (tgt := 50) (x := (xa_last t rc fd (xa_now t) (ta_n t))) hF (by omega) dX4_stale_33 (by decide) rfl (fun c_33 => ?_) (fun c_33 => ?_)
    · skip
      refine vr_iconst (v := nI 1) hF dX4_stale_50 (by decide +kernel) rfl ?_
      exact vr_reti hret dX4_stale_51 (by simp [xv_stale, vr_n0, vr_n1, vr_n2, vr_bt, vr_bf, c_7, c_33])
    · skip
      refine vr_aload_n hF 1 rfl dX4_stale_36 rfl rfl ?_
      refine vr_get (v := .ref (a 2)) hF 0 1 (vr_in inX4) (vr_m flX4_19) rfl (by decide) rfl rfl rfl dX4_stale_37 rfl ?_
      refine vr_iload hF 0 rfl dX4_stale_40 rfl ?_
      refine vr_callV_Cl (rest := []) (n0 := 1) hF (xc_Acts_known l g a r t w b (xa_last t rc fd (xa_now t) (ta_n t)) (by omega)) (vr_gV vr_hbc mlX4_72 imX0_known seX0_known iniX0 cdX0_known) rfl (by decide +kernel) rfl rfl rfl ⟨Nat.le_of_ble_eq_true rfl, Nat.le_of_ble_eq_true rfl⟩ ⟨Nat.zero_le _, Nat.zero_le _⟩ 2 rfl rfl rfl (Nat.le_of_ble_eq_true rfl) dX4_stale_42 rfl ?_
      refine vr_lload_n hF 3 rfl dX4_stale_45 rfl rfl ?_
      refine vr_lcmp_gt (tgt := 52) hF dX4_stale_46 dX4_stale_47 (by decide) rfl (fun c_47 => ?_) (fun c_47 => ?_)
      · skip
        refine vr_aload_n hF 1 rfl dX4_stale_52 rfl rfl ?_
        refine vr_get (v := .ref (a 2)) hF 0 1 (vr_in inX4) (vr_m flX4_19) rfl (by decide) rfl rfl rfl dX4_stale_53 rfl ?_
        refine vr_iload_n hF 2 rfl dX4_stale_56 rfl rfl ?_
        refine vr_iload hF 4 rfl dX4_stale_57 rfl ?_
        refine vr_lload_n hF 3 rfl dX4_stale_59 rfl rfl ?_
        refine vr_callV_Ci (rest := []) (n0 := 3) hF (xc_Acts_lastCounting l g a r t w b rc fd mo h) (vr_gV vr_hbc mlX4_61 imX0_lastCounting seX0_lastCounting iniX0 cdX0_lastCounting) rfl (by decide +kernel) rfl rfl rfl ⟨Nat.le_of_ble_eq_true rfl, Nat.le_of_ble_eq_true rfl⟩ ⟨Nat.zero_le _, Nat.zero_le _⟩ 2 rfl rfl rfl (Nat.le_of_ble_eq_true rfl) dX4_stale_60 rfl ?_
        refine vr_istore (lv' := [(6, .int (nI (xa_last t rc fd mo (ta_n t)))), (5, .int (nI (xa_last t rc fd (xa_now t) (ta_n t)))), (0, .ref (a 0)), (1, .int rc), (2, .long mo), (4, .int fd)]) hF dX4_stale_63 (by decide) rfl rfl ?_
        refine vr_iload hF 0 rfl dX4_stale_65 rfl ?_
        have hfm := xa_last_le hto rc fd mo (ta_n t)
        refine vr_if_eqN (tgt := 95) (x := (xa_last t rc fd mo (ta_n t))) hF (by omega) dX4_stale_67 (by decide) rfl (fun c_67 => ?_) (fun c_67 => ?_)
        · skip
          refine vr_iconst (v := nI 0) hF dX4_stale_95 (by decide +kernel) rfl ?_
          exact vr_reti hret dX4_stale_96 (by simp [xv_stale, vr_n0, vr_n1, vr_n2, vr_bt, vr_bf, c_7, c_33, c_47, c_67])
        · skip
          refine vr_aload_n hF 2 rfl dX4_stale_70 rfl rfl ?_
          refine vr_get (v := .ref (a 2)) hF 0 1 (vr_in inX4) (vr_m flX4_19) rfl (by decide) rfl rfl rfl dX4_stale_71 rfl ?_
          refine vr_iload hF 0 rfl dX4_stale_74 rfl ?_
          refine vr_callV_Ci (rest := []) (n0 := 1) hF (xc_Acts_value l g a r t w b (xa_last t rc fd mo (ta_n t)) (by omega)) (vr_gV vr_hbc mlX4_65 imX0_value seX0_value iniX0 cdX0_value) rfl (by decide +kernel) rfl rfl rfl ⟨Nat.le_of_ble_eq_true rfl, Nat.le_of_ble_eq_true rfl⟩ ⟨Nat.zero_le _, Nat.zero_le _⟩ 2 rfl rfl rfl (Nat.le_of_ble_eq_true rfl) dX4_stale_76 rfl ?_
          refine vr_aload_n hF 2 rfl dX4_stale_79 rfl rfl ?_
          refine vr_get (v := .ref (a 2)) hF 0 1 (vr_in inX4) (vr_m flX4_19) rfl (by decide) rfl rfl rfl dX4_stale_80 rfl ?_
          refine vr_iload hF 1 rfl dX4_stale_83 rfl ?_
          refine vr_callV_Ci (rest := [.int (ta_v t (xa_last t rc fd mo (ta_n t)))]) (n0 := 1) hF (xc_Acts_value l g a r t w b (xa_last t rc fd (xa_now t) (ta_n t)) (by omega)) (vr_gV vr_hbc mlX4_65 imX0_value seX0_value iniX0 cdX0_value) rfl (by decide +kernel) rfl rfl rfl ⟨Nat.le_of_ble_eq_true rfl, Nat.le_of_ble_eq_true rfl⟩ ⟨Nat.zero_le _, Nat.zero_le _⟩ 2 rfl rfl rfl (Nat.le_of_ble_eq_true rfl) dX4_stale_85 rfl ?_
          refine vr_icmp_ne (tgt := 95) hF dX4_stale_88 (by decide) rfl (fun c_88 => ?_) (fun c_88 => ?_)
          · skip
            refine vr_iconst (v := nI 0) hF dX4_stale_95 (by decide +kernel) rfl ?_
            exact vr_reti hret dX4_stale_96 (by simp [xv_stale, vr_n0, vr_n1, vr_n2, vr_bt, vr_bf, c_7, c_33, c_47, c_67, c_88])
          · skip
            refine vr_iconst (v := nI 2) hF dX4_stale_91 (by decide +kernel) rfl ?_
            refine vr_goto (tgt := 96) hF dX4_stale_92 (by decide) ?_
            exact vr_reti hret dX4_stale_96 (by simp [xv_stale, vr_n0, vr_n1, vr_n2, vr_bt, vr_bf, c_7, c_33, c_47, c_67, c_88])
      · skip
        refine vr_iconst (v := nI 1) hF dX4_stale_50 (by decide +kernel) rfl ?_
        exact vr_reti hret dX4_stale_51 (by simp [xv_stale, vr_n0, vr_n1, vr_n2, vr_bt, vr_bf, c_7, c_33, c_47])
  · skip
    refine vr_iconst (v := (-1)) hF dX4_stale_10 (by decide +kernel) rfl ?_
    exact vr_reti hret dX4_stale_11 (by simp [xv_stale, vr_n0, vr_n1, vr_n2, vr_bt, vr_bf, c_7])
def rm_xw_V_undo : Room := { frames := 3, cells := 0, slots := 0, locals := 65 }
set_option maxHeartbeats 4000000 in
set_option maxRecDepth 100000 in
theorem xc_V_undo (l : Launch) (g : vr_G) (a : Nat → Nat) (r : vx_R) (t : vx_A) (w : Nat → Int64) (b : vx_B) (i : Int32) (h : vx_ok r t b) : vr_Ci l yX4_undo wsX4_undo rm_xw_V_undo g.1 (vr_tys g) [.ref (a 0), .int i] (vx_w g a r t w b) (vx_w g a r (if xv_undo t w i = true then ta_setC t (vr_ub (ta_c t) i.toNatClampNeg false) else t) w b) (vr_b (xv_undo t w i)) := by
  obtain ⟨hrn, htn, hto, hbn⟩ := id h
  refine vr_Ci_mk (cc := cX4_undo) (nL := 2) (ty := .int) rfl (by decide) rfl (Nat.le_of_ble_eq_true rfl) ?_
  intro p e s m args below meth c A Q hF hret
  refine vr_to (ws' := (vx_w g a r t w b)) (lv' := [(0, .ref (a 0)), (1, .int i)]) (st' := []) rfl rfl rfl ?_
  refine vr_aload_n hF 0 rfl dX4_undo_0 rfl rfl ?_
  refine vr_get (v := .ref (a 2)) hF 0 1 (vr_in inX4) (vr_m flX4_19) rfl (by decide) rfl rfl rfl dX4_undo_1 rfl ?_
  refine vr_iload_n hF 1 rfl dX4_undo_4 rfl rfl ?_
  refine vr_callV_Ci (rest := []) (n0 := 1) hF (xc_Acts_has l g a r t w b i) (vr_gV vr_hbc mlX4_76 imX0_has seX0_has iniX0 cdX0_has) rfl (by decide +kernel) rfl rfl rfl ⟨Nat.le_of_ble_eq_true rfl, Nat.le_of_ble_eq_true rfl⟩ ⟨Nat.zero_le _, Nat.zero_le _⟩ 2 rfl rfl rfl (Nat.le_of_ble_eq_true rfl) dX4_undo_5 rfl ?_
  refine vr_if_eqB (tgt := 30) hF dX4_undo_8 (by decide) rfl (fun c_8 => ?_) (fun c_8 => ?_)
  · skip
    refine vr_iconst (v := nI 0) hF dX4_undo_30 (by decide +kernel) rfl ?_
    exact vr_retiw hret dX4_undo_31 (by simp [xv_undo, vr_bt, vr_bf, c_8]) (by simp [xv_undo, vr_bt, vr_bf, c_8])
  · skip
    obtain ⟨k, hk1, hk2, rfl⟩ := vx_has_of (n := ta_n t) (by omega) c_8
    have hclk : (nI k).toNatClampNeg = k := nI_clamp (by omega)
    refine vr_aload_n hF 0 rfl dX4_undo_11 rfl rfl ?_
    refine vr_get (v := .ref (a 2)) hF 0 1 (vr_in inX4) (vr_m flX4_19) rfl (by decide) rfl rfl rfl dX4_undo_12 rfl ?_
    refine vr_iload_n hF 1 rfl dX4_undo_15 rfl rfl ?_
    refine vr_callV_Ci (rest := []) (n0 := 1) hF (xc_Acts_counts l g a r t w b k (by omega)) (vr_gV vr_hbc mlX4_79 imX0_counts seX0_counts iniX0 cdX0_counts) rfl (by decide +kernel) rfl rfl rfl ⟨Nat.le_of_ble_eq_true rfl, Nat.le_of_ble_eq_true rfl⟩ ⟨Nat.zero_le _, Nat.zero_le _⟩ 2 rfl rfl rfl (Nat.le_of_ble_eq_true rfl) dX4_undo_16 rfl ?_
    refine vr_if_eqB (tgt := 30) hF dX4_undo_19 (by decide) rfl (fun c_19 => ?_) (fun c_19 => ?_)
    · skip
      refine vr_iconst (v := nI 0) hF dX4_undo_30 (by decide +kernel) rfl ?_
      exact vr_retiw hret dX4_undo_31 (by simp [xv_undo, vr_bt, vr_bf, c_8, c_19, hclk]) (by simp [xv_undo, vr_bt, vr_bf, c_8, c_19, hclk])
    · skip
      refine vr_aload_n hF 0 rfl dX4_undo_22 rfl rfl ?_
      refine vr_iload_n hF 1 rfl dX4_undo_23 rfl rfl ?_
      refine vr_callV_Ci (rest := []) (n0 := 1) hF (xc_V_isLeanedOn l g a r t w b k h (by omega)) (vr_gV vr_hbc mlX4_82 imX4_isLeanedOn seX4_isLeanedOn iniX4 cdX4_isLeanedOn) rfl (by decide +kernel) rfl rfl rfl ⟨Nat.le_of_ble_eq_true rfl, Nat.le_of_ble_eq_true rfl⟩ ⟨Nat.zero_le _, Nat.zero_le _⟩ 0 rfl rfl rfl (Nat.le_of_ble_eq_true rfl) dX4_undo_24 rfl ?_
      refine vr_if_eqB (tgt := 32) hF dX4_undo_27 (by decide) rfl (fun c_27 => ?_) (fun c_27 => ?_)
      · skip
        refine vr_aload_n hF 0 rfl dX4_undo_32 rfl rfl ?_
        refine vr_get (v := .ref (a 2)) hF 0 1 (vr_in inX4) (vr_m flX4_19) rfl (by decide) rfl rfl rfl dX4_undo_33 rfl ?_
        refine vr_iload_n hF 1 rfl dX4_undo_36 rfl rfl ?_
        refine vr_callV_Cv (rest := []) (n0 := 1) hF (xc_Acts_setUndone l g a r t w b k (by omega)) (vr_gV vr_hbc mlX4_85 imX0_setUndone seX0_setUndone iniX0 cdX0_setUndone) rfl (by decide +kernel) rfl rfl rfl ⟨Nat.le_of_ble_eq_true rfl, Nat.le_of_ble_eq_true rfl⟩ ⟨Nat.zero_le _, Nat.zero_le _⟩ 2 rfl rfl rfl (Nat.le_of_ble_eq_true rfl) dX4_undo_37 rfl ?_
        refine vr_iconst (v := nI 1) hF dX4_undo_40 (by decide +kernel) rfl ?_
        exact vr_retiw hret dX4_undo_41 (by simp [xv_undo, vr_bt, vr_bf, c_8, c_19, c_27, hclk]) (by simp [xv_undo, vr_bt, vr_bf, c_8, c_19, c_27, hclk])
      · skip
        refine vr_iconst (v := nI 0) hF dX4_undo_30 (by decide +kernel) rfl ?_
        exact vr_retiw hret dX4_undo_31 (by simp [xv_undo, vr_bt, vr_bf, c_8, c_19, c_27, hclk]) (by simp [xv_undo, vr_bt, vr_bf, c_8, c_19, c_27, hclk])
def rm_xw_V_lean : Room := { frames := 2, cells := 0, slots := 0, locals := 43 }
set_option maxHeartbeats 4000000 in
set_option maxRecDepth 100000 in
theorem xc_V_lean (l : Launch) (g : vr_G) (a : Nat → Nat) (r : vx_R) (t : vx_A) (w : Nat → Int64) (b : vx_B) (i : Int32) (o : Int32) (h : vx_ok r t b) : vr_Ci l yX4_lean wsX4_lean rm_xw_V_lean g.1 (vr_tys g) [.ref (a 0), .int i, .int o] (vx_w g a r t w b) (vx_w g a r t (if xv_lean t w i o = true then xl_add w i.toNatClampNeg o.toNatClampNeg else w) b) (vr_b (xv_lean t w i o)) := by
  obtain ⟨hrn, htn, hto, hbn⟩ := id h
  refine vr_Ci_mk (cc := cX4_lean) (nL := 3) (ty := .int) rfl (by decide) rfl (Nat.le_of_ble_eq_true rfl) ?_
  intro p e s m args below meth c A Q hF hret
  refine vr_to (ws' := (vx_w g a r t w b)) (lv' := [(0, .ref (a 0)), (1, .int i), (2, .int o)]) (st' := []) rfl rfl rfl ?_
  refine vr_aload_n hF 0 rfl dX4_lean_0 rfl rfl ?_
  refine vr_get (v := .ref (a 2)) hF 0 1 (vr_in inX4) (vr_m flX4_19) rfl (by decide) rfl rfl rfl dX4_lean_1 rfl ?_
  refine vr_iload_n hF 1 rfl dX4_lean_4 rfl rfl ?_
  refine vr_callV_Ci (rest := []) (n0 := 1) hF (xc_Acts_has l g a r t w b i) (vr_gV vr_hbc mlX4_76 imX0_has seX0_has iniX0 cdX0_has) rfl (by decide +kernel) rfl rfl rfl ⟨Nat.le_of_ble_eq_true rfl, Nat.le_of_ble_eq_true rfl⟩ ⟨Nat.zero_le _, Nat.zero_le _⟩ 2 rfl rfl rfl (Nat.le_of_ble_eq_true rfl) dX4_lean_5 rfl ?_
  refine vr_if_eqB (tgt := 39) hF dX4_lean_8 (by decide) rfl (fun c_8 => ?_) (fun c_8 => ?_)
  · skip
    refine vr_iconst (v := nI 0) hF dX4_lean_39 (by decide +kernel) rfl ?_
    exact vr_retiw hret dX4_lean_40 (by simp [xv_lean, vr_bt, vr_bf, c_8]) (by simp [xv_lean, vr_bt, vr_bf, c_8])
  · skip
    obtain ⟨k, hk1, hk2, rfl⟩ := vx_has_of (n := ta_n t) (by omega) c_8
    have hclk : (nI k).toNatClampNeg = k := nI_clamp (by omega)
    refine vr_aload_n hF 0 rfl dX4_lean_11 rfl rfl ?_
    refine vr_get (v := .ref (a 2)) hF 0 1 (vr_in inX4) (vr_m flX4_19) rfl (by decide) rfl rfl rfl dX4_lean_12 rfl ?_
    refine vr_iload_n hF 2 rfl dX4_lean_15 rfl rfl ?_
    refine vr_callV_Ci (rest := []) (n0 := 1) hF (xc_Acts_has l g a r t w b o) (vr_gV vr_hbc mlX4_76 imX0_has seX0_has iniX0 cdX0_has) rfl (by decide +kernel) rfl rfl rfl ⟨Nat.le_of_ble_eq_true rfl, Nat.le_of_ble_eq_true rfl⟩ ⟨Nat.zero_le _, Nat.zero_le _⟩ 2 rfl rfl rfl (Nat.le_of_ble_eq_true rfl) dX4_lean_16 rfl ?_
    refine vr_if_eqB (tgt := 39) hF dX4_lean_19 (by decide) rfl (fun c_19 => ?_) (fun c_19 => ?_)
    · skip
      refine vr_iconst (v := nI 0) hF dX4_lean_39 (by decide +kernel) rfl ?_
      exact vr_retiw hret dX4_lean_40 (by simp [xv_lean, vr_bt, vr_bf, c_8, c_19, hclk]) (by simp [xv_lean, vr_bt, vr_bf, c_8, c_19, hclk])
    · skip
      obtain ⟨j, hj1, hj2, rfl⟩ := vx_has_of (n := ta_n t) (by omega) c_19
      have hclj : (nI j).toNatClampNeg = j := nI_clamp (by omega)
      refine vr_iload_n hF 2 rfl dX4_lean_22 rfl rfl ?_
      refine vr_iload_n hF 1 rfl dX4_lean_23 rfl rfl ?_
      refine vr_icmp_geN (tgt := 39) (x := j) (y := k) hF (by omega) (by omega) dX4_lean_24 (by decide) rfl (fun c_24 => ?_) (fun c_24 => ?_)
      · skip
        refine vr_iconst (v := nI 0) hF dX4_lean_39 (by decide +kernel) rfl ?_
        exact vr_retiw hret dX4_lean_40 (by simp [xv_lean, vr_bt, vr_bf, c_8, c_19, c_24, hclk, hclj]) (by simp [xv_lean, vr_bt, vr_bf, c_8, c_19, c_24, hclk, hclj])
      · skip
        refine vr_aload_n hF 0 rfl dX4_lean_27 rfl rfl ?_
        refine vr_get (v := .ref (a 3)) hF 0 2 (vr_in inX4) (vr_m flX4_26) rfl (by decide) rfl rfl rfl dX4_lean_28 rfl ?_
        refine vr_iload_n hF 1 rfl dX4_lean_31 rfl rfl ?_
        refine vr_iload_n hF 2 rfl dX4_lean_32 rfl rfl ?_
        refine vr_callV_Ci (rest := []) (n0 := 2) hF (xc_Leans_has l g a r t w b k j (by omega) (by omega)) (vr_gV vr_hbc mlX4_89 imX2_has seX2_has iniX2 cdX2_has) rfl (by decide +kernel) rfl rfl rfl ⟨Nat.le_of_ble_eq_true rfl, Nat.le_of_ble_eq_true rfl⟩ ⟨Nat.zero_le _, Nat.zero_le _⟩ 3 rfl rfl rfl (Nat.le_of_ble_eq_true rfl) dX4_lean_33 rfl ?_
        refine vr_if_eqB (tgt := 41) hF dX4_lean_36 (by decide) rfl (fun c_36 => ?_) (fun c_36 => ?_)
        · skip
          refine vr_aload_n hF 0 rfl dX4_lean_41 rfl rfl ?_
          refine vr_get (v := .ref (a 3)) hF 0 2 (vr_in inX4) (vr_m flX4_26) rfl (by decide) rfl rfl rfl dX4_lean_42 rfl ?_
          refine vr_iload_n hF 1 rfl dX4_lean_45 rfl rfl ?_
          refine vr_iload_n hF 2 rfl dX4_lean_46 rfl rfl ?_
          refine vr_callV_Cv (rest := []) (n0 := 2) hF (xc_Leans_add l g a r t w b k j (by omega) (by omega)) (vr_gV vr_hbc mlX4_91 imX2_add seX2_add iniX2 cdX2_add) rfl (by decide +kernel) rfl rfl rfl ⟨Nat.le_of_ble_eq_true rfl, Nat.le_of_ble_eq_true rfl⟩ ⟨Nat.zero_le _, Nat.zero_le _⟩ 3 rfl rfl rfl (Nat.le_of_ble_eq_true rfl) dX4_lean_47 rfl ?_
          refine vr_iconst (v := nI 1) hF dX4_lean_50 (by decide +kernel) rfl ?_
          exact vr_retiw hret dX4_lean_51 (by simp [xv_lean, vr_bt, vr_bf, c_8, c_19, c_24, c_36, hclk, hclj]) (by simp [xv_lean, vr_bt, vr_bf, c_8, c_19, c_24, c_36, hclk, hclj])
        · skip
          refine vr_iconst (v := nI 0) hF dX4_lean_39 (by decide +kernel) rfl ?_
          exact vr_retiw hret dX4_lean_40 (by simp [xv_lean, vr_bt, vr_bf, c_8, c_19, c_24, c_36, hclk, hclj]) (by simp [xv_lean, vr_bt, vr_bf, c_8, c_19, c_24, c_36, hclk, hclj])
def rm_xw_V_lock : Room := { frames := 2, cells := 0, slots := 0, locals := 42 }
set_option maxHeartbeats 4000000 in
set_option maxRecDepth 100000 in
theorem xc_V_lock (l : Launch) (g : vr_G) (a : Nat → Nat) (r : vx_R) (t : vx_A) (w : Nat → Int64) (b : vx_B) (rc : Int32) (who : Int32) (un : Int64) (h : vx_ok r t b) : vr_Ci l yX4_lock wsX4_lock rm_xw_V_lock g.1 (vr_tys g) [.ref (a 0), .int rc, .int who, .long un] (vx_w g a r t w b) (vx_w g a (if xv_lock r t rc who = true then xr_lock r rc.toNatClampNeg who un else r) t w b) (vr_b (xv_lock r t rc who)) := by
  obtain ⟨hrn, htn, hto, hbn⟩ := id h
  refine vr_Ci_mk (cc := cX4_lock) (nL := 5) (ty := .int) rfl (by decide) rfl (Nat.le_of_ble_eq_true rfl) ?_
  intro p e s m args below meth c A Q hF hret
  refine vr_to (ws' := (vx_w g a r t w b)) (lv' := [(0, .ref (a 0)), (1, .int rc), (2, .int who), (3, .long un)]) (st' := []) rfl rfl rfl ?_
  refine vr_aload_n hF 0 rfl dX4_lock_0 rfl rfl ?_
  refine vr_get (v := .ref (a 1)) hF 0 0 (vr_in inX4) (vr_m flX4_10) rfl (by decide) rfl rfl rfl dX4_lock_1 rfl ?_
  refine vr_iload_n hF 1 rfl dX4_lock_4 rfl rfl ?_
  refine vr_callV_Ci (rest := []) (n0 := 1) hF (xc_Records_has l g a r t w b rc) (vr_gV vr_hbc mlX4_94 imX3_has seX3_has iniX3 cdX3_has) rfl (by decide +kernel) rfl rfl rfl ⟨Nat.le_of_ble_eq_true rfl, Nat.le_of_ble_eq_true rfl⟩ ⟨Nat.zero_le _, Nat.zero_le _⟩ 1 rfl rfl rfl (Nat.le_of_ble_eq_true rfl) dX4_lock_5 rfl ?_
  refine vr_if_eqB (tgt := 31) hF dX4_lock_8 (by decide) rfl (fun c_8 => ?_) (fun c_8 => ?_)
  · skip
    refine vr_iconst (v := nI 0) hF dX4_lock_31 (by decide +kernel) rfl ?_
    exact vr_retiw hret dX4_lock_32 (by simp [xv_lock, vr_bt, vr_bf, c_8]) (by simp [xv_lock, vr_bt, vr_bf, c_8])
  · skip
    obtain ⟨k, hk1, hk2, rfl⟩ := vx_has_of (n := rr_n r) (by omega) c_8
    have hclk : (nI k).toNatClampNeg = k := nI_clamp (by omega)
    refine vr_aload_n hF 0 rfl dX4_lock_11 rfl rfl ?_
    refine vr_iload_n hF 1 rfl dX4_lock_12 rfl rfl ?_
    refine vr_callV_Ci (rest := []) (n0 := 1) hF (xc_V_isLocked l g a r t w b k h (by omega)) (vr_gV vr_hbc mlX4_47 imX4_isLocked seX4_isLocked iniX4 cdX4_isLocked) rfl (by decide +kernel) rfl rfl rfl ⟨Nat.le_of_ble_eq_true rfl, Nat.le_of_ble_eq_true rfl⟩ ⟨Nat.zero_le _, Nat.zero_le _⟩ 0 rfl rfl rfl (Nat.le_of_ble_eq_true rfl) dX4_lock_13 rfl ?_
    refine vr_if_eqB (tgt := 33) hF dX4_lock_16 (by decide) rfl (fun c_16 => ?_) (fun c_16 => ?_)
    · skip
      refine vr_aload_n hF 0 rfl dX4_lock_33 rfl rfl ?_
      refine vr_get (v := .ref (a 1)) hF 0 0 (vr_in inX4) (vr_m flX4_10) rfl (by decide) rfl rfl rfl dX4_lock_34 rfl ?_
      refine vr_iload_n hF 1 rfl dX4_lock_37 rfl rfl ?_
      refine vr_iload_n hF 2 rfl dX4_lock_38 rfl rfl ?_
      refine vr_lload_n hF 3 rfl dX4_lock_39 rfl rfl ?_
      refine vr_callV_Cv (rest := []) (n0 := 3) hF (xc_Records_setLock l g a r t w b k who un (by omega)) (vr_gV vr_hbc mlX4_98 imX3_setLock seX3_setLock iniX3 cdX3_setLock) rfl (by decide +kernel) rfl rfl rfl ⟨Nat.le_of_ble_eq_true rfl, Nat.le_of_ble_eq_true rfl⟩ ⟨Nat.zero_le _, Nat.zero_le _⟩ 1 rfl rfl rfl (Nat.le_of_ble_eq_true rfl) dX4_lock_40 rfl ?_
      refine vr_iconst (v := nI 1) hF dX4_lock_43 (by decide +kernel) rfl ?_
      exact vr_retiw hret dX4_lock_44 (by simp [xv_lock, vr_bt, vr_bf, c_8, c_16, hclk]) (by simp [xv_lock, vr_bt, vr_bf, c_8, c_16, hclk])
    · skip
      refine vr_aload_n hF 0 rfl dX4_lock_19 rfl rfl ?_
      refine vr_get (v := .ref (a 1)) hF 0 0 (vr_in inX4) (vr_m flX4_10) rfl (by decide) rfl rfl rfl dX4_lock_20 rfl ?_
      refine vr_iload_n hF 1 rfl dX4_lock_23 rfl rfl ?_
      refine vr_callV_Ci (rest := []) (n0 := 1) hF (xc_Records_locker l g a r t w b k (by omega)) (vr_gV vr_hbc mlX4_95 imX3_locker seX3_locker iniX3 cdX3_locker) rfl (by decide +kernel) rfl rfl rfl ⟨Nat.le_of_ble_eq_true rfl, Nat.le_of_ble_eq_true rfl⟩ ⟨Nat.zero_le _, Nat.zero_le _⟩ 1 rfl rfl rfl (Nat.le_of_ble_eq_true rfl) dX4_lock_24 rfl ?_
      refine vr_iload_n hF 2 rfl dX4_lock_27 rfl rfl ?_
      refine vr_icmp_eq (tgt := 33) hF dX4_lock_28 (by decide) rfl (fun c_28 => ?_) (fun c_28 => ?_)
      · skip
        refine vr_aload_n hF 0 rfl dX4_lock_33 rfl rfl ?_
        refine vr_get (v := .ref (a 1)) hF 0 0 (vr_in inX4) (vr_m flX4_10) rfl (by decide) rfl rfl rfl dX4_lock_34 rfl ?_
        refine vr_iload_n hF 1 rfl dX4_lock_37 rfl rfl ?_
        refine vr_iload_n hF 2 rfl dX4_lock_38 rfl rfl ?_
        refine vr_lload_n hF 3 rfl dX4_lock_39 rfl rfl ?_
        refine vr_callV_Cv (rest := []) (n0 := 3) hF (xc_Records_setLock l g a r t w b k who un (by omega)) (vr_gV vr_hbc mlX4_98 imX3_setLock seX3_setLock iniX3 cdX3_setLock) rfl (by decide +kernel) rfl rfl rfl ⟨Nat.le_of_ble_eq_true rfl, Nat.le_of_ble_eq_true rfl⟩ ⟨Nat.zero_le _, Nat.zero_le _⟩ 1 rfl rfl rfl (Nat.le_of_ble_eq_true rfl) dX4_lock_40 rfl ?_
        refine vr_iconst (v := nI 1) hF dX4_lock_43 (by decide +kernel) rfl ?_
        exact vr_retiw hret dX4_lock_44 (by simp [xv_lock, vr_bt, vr_bf, c_8, c_16, c_28, hclk]) (by simp [xv_lock, vr_bt, vr_bf, c_8, c_16, c_28, hclk])
      · skip
        refine vr_iconst (v := nI 0) hF dX4_lock_31 (by decide +kernel) rfl ?_
        exact vr_retiw hret dX4_lock_32 (by simp [xv_lock, vr_bt, vr_bf, c_8, c_16, c_28, hclk]) (by simp [xv_lock, vr_bt, vr_bf, c_8, c_16, c_28, hclk])
def rm_xw_V_batch : Room := { frames := 2, cells := 0, slots := 0, locals := 46 }
set_option maxHeartbeats 4000000 in
set_option maxRecDepth 100000 in
theorem xc_V_batch (l : Launch) (g : vr_G) (a : Nat → Nat) (r : vx_R) (t : vx_A) (w : Nat → Int64) (b : vx_B) (f : Int32) (to : Int32) (h : vx_ok r t b) : vr_Ci l yX4_batch wsX4_batch rm_xw_V_batch g.1 (vr_tys g) [.ref (a 0), .int f, .int to] (vx_w g a r t w b) (vx_w g a r t w (if xv_bat t b f to = true then xb_add b f.toNatClampNeg to.toNatClampNeg else b)) (nI (if xv_bat t b f to = true then tb_n b + 1 else 0)) := by
  obtain ⟨hrn, htn, hto, hbn⟩ := id h
  refine vr_Ci_mk (cc := cX4_batch) (nL := 3) (ty := .int) rfl (by decide) rfl (Nat.le_of_ble_eq_true rfl) ?_
  intro p e s m args below meth c A Q hF hret
  refine vr_to (ws' := (vx_w g a r t w b)) (lv' := [(0, .ref (a 0)), (1, .int f), (2, .int to)]) (st' := []) rfl rfl rfl ?_
  refine vr_aload_n hF 0 rfl dX4_batch_0 rfl rfl ?_
  refine vr_get (v := .ref (a 2)) hF 0 1 (vr_in inX4) (vr_m flX4_19) rfl (by decide) rfl rfl rfl dX4_batch_1 rfl ?_
  refine vr_iload_n hF 1 rfl dX4_batch_4 rfl rfl ?_
  refine vr_callV_Ci (rest := []) (n0 := 1) hF (xc_Acts_has l g a r t w b f) (vr_gV vr_hbc mlX4_76 imX0_has seX0_has iniX0 cdX0_has) rfl (by decide +kernel) rfl rfl rfl ⟨Nat.le_of_ble_eq_true rfl, Nat.le_of_ble_eq_true rfl⟩ ⟨Nat.zero_le _, Nat.zero_le _⟩ 2 rfl rfl rfl (Nat.le_of_ble_eq_true rfl) dX4_batch_5 rfl ?_
  refine vr_if_eqB (tgt := 27) hF dX4_batch_8 (by decide) rfl (fun c_8 => ?_) (fun c_8 => ?_)
  · skip
    refine vr_iconst (v := nI 0) hF dX4_batch_27 (by decide +kernel) rfl ?_
    exact vr_retiw hret dX4_batch_28 (by simp [xv_bat, vr_bt, vr_bf, c_8]) (by simp [xv_bat, vr_bt, vr_bf, c_8])
  · skip
    obtain ⟨k, hk1, hk2, rfl⟩ := vx_has_of (n := ta_n t) (by omega) c_8
    have hclk : (nI k).toNatClampNeg = k := nI_clamp (by omega)
    refine vr_aload_n hF 0 rfl dX4_batch_11 rfl rfl ?_
    refine vr_get (v := .ref (a 2)) hF 0 1 (vr_in inX4) (vr_m flX4_19) rfl (by decide) rfl rfl rfl dX4_batch_12 rfl ?_
    refine vr_iload_n hF 2 rfl dX4_batch_15 rfl rfl ?_
    refine vr_callV_Ci (rest := []) (n0 := 1) hF (xc_Acts_has l g a r t w b to) (vr_gV vr_hbc mlX4_76 imX0_has seX0_has iniX0 cdX0_has) rfl (by decide +kernel) rfl rfl rfl ⟨Nat.le_of_ble_eq_true rfl, Nat.le_of_ble_eq_true rfl⟩ ⟨Nat.zero_le _, Nat.zero_le _⟩ 2 rfl rfl rfl (Nat.le_of_ble_eq_true rfl) dX4_batch_16 rfl ?_
    refine vr_if_eqB (tgt := 27) hF dX4_batch_19 (by decide) rfl (fun c_19 => ?_) (fun c_19 => ?_)
    · skip
      refine vr_iconst (v := nI 0) hF dX4_batch_27 (by decide +kernel) rfl ?_
      exact vr_retiw hret dX4_batch_28 (by simp [xv_bat, vr_bt, vr_bf, c_8, c_19, hclk]) (by simp [xv_bat, vr_bt, vr_bf, c_8, c_19, hclk])
    · skip
      obtain ⟨j, hj1, hj2, rfl⟩ := vx_has_of (n := ta_n t) (by omega) c_19
      have hclj : (nI j).toNatClampNeg = j := nI_clamp (by omega)
      refine vr_iload_n hF 1 rfl dX4_batch_22 rfl rfl ?_
      refine vr_iload_n hF 2 rfl dX4_batch_23 rfl rfl ?_
      refine vr_icmp_leN (tgt := 29) (x := k) (y := j) hF (by omega) (by omega) dX4_batch_24 (by decide) rfl (fun c_24 => ?_) (fun c_24 => ?_)
      · skip
        refine vr_aload_n hF 0 rfl dX4_batch_29 rfl rfl ?_
        refine vr_get (v := .ref (a 4)) hF 0 3 (vr_in inX4) (vr_m flX4_33) rfl (by decide) rfl rfl rfl dX4_batch_30 rfl ?_
        refine vr_iload_n hF 1 rfl dX4_batch_33 rfl rfl ?_
        refine vr_iload_n hF 2 rfl dX4_batch_34 rfl rfl ?_
        refine vr_callV_Ci (rest := []) (n0 := 2) hF (xc_Batches_add l g a r t w b k j h (by omega) (by omega)) (vr_gV vr_hbc mlX4_102 imX1_add seX1_add iniX1 cdX1_add) rfl (by decide +kernel) rfl rfl rfl ⟨Nat.le_of_ble_eq_true rfl, Nat.le_of_ble_eq_true rfl⟩ ⟨Nat.zero_le _, Nat.zero_le _⟩ 4 rfl rfl rfl (Nat.le_of_ble_eq_true rfl) dX4_batch_35 rfl ?_
        exact vr_retiw hret dX4_batch_38 (by simp [xv_bat, vr_bt, vr_bf, c_8, c_19, c_24, hclk, hclj]) (by simp [xv_bat, vr_bt, vr_bf, c_8, c_19, c_24, hclk, hclj])
      · skip
        refine vr_iconst (v := nI 0) hF dX4_batch_27 (by decide +kernel) rfl ?_
        exact vr_retiw hret dX4_batch_28 (by simp [xv_bat, vr_bt, vr_bf, c_8, c_19, c_24, hclk, hclj]) (by simp [xv_bat, vr_bt, vr_bf, c_8, c_19, c_24, hclk, hclj])
def rm_xw_V_drop : Room := { frames := 4, cells := 0, slots := 0, locals := 88 }
set_option maxHeartbeats 4000000 in
set_option maxRecDepth 100000 in
theorem xw_V_drop_lp31 {p : Program} {l : Launch} {e : Env} {s : State} {m : MethodId} {args : Array Value} {below : List Frame} {meth : Method} {c : Code} {A : Nat → Prop} {Q : State → Prop} {g : vr_G} {a : Nat → Nat} (r : vx_R) (t : vx_A) (w : Nat → Int64) (b : vx_B) (bt : Int32) (h : vx_ok r t b)  (ans : Int32) (P : Nat → Bool) (hF : vr_F p s m c cX4_drop 4 args wsX4_drop yX4_drop.cls g.1 (vr_tys g) A) (hret : vr_RtI p l e rm_xw_V_drop s m args below meth c cX4_drop g.1 A 4 0 0 Q (vx_w g a r (ta_setC t P) w b) ans) : ∀ (n : Nat) (q d : Nat) (cf : Nat → Bool), (q < n) → (q ≤ ta_n t) → (ans = nI (xv_dropN b bt q cf d)) → (P = xv_dropC b bt q cf) → vr_W p l e rm_xw_V_drop s m args below meth c g.1 A 4 0 0 Q (vx_w g a r (ta_r t, ta_f t, ta_v t, ta_d t, ta_k t, cf, ta_o t, ta_n t) w b) 31 [(0, .ref (a 0)), (1, .int bt), (2, .int (nI d)), (3, .int (nI q))] [] := by
  obtain ⟨hrn, htn, hto, hbn⟩ := id h
  intro n
  induction n with
  | zero => intro q d cf hq1 hq2 hans hans2; exact absurd hq1 (by omega)
  | succ n ih =>
    intro q d cf hq1 hq2 hans hans2
    refine vr_iload_n hF 3 rfl dX4_drop_31 rfl rfl ?_
    refine vr_iconst (v := nI 1) hF dX4_drop_32 (by decide +kernel) rfl ?_
    refine vr_icmp_ltN (tgt := 62) (x := q) (y := 1) hF (by omega) (by omega) dX4_drop_33 (by decide) rfl (fun c_33 => ?_) (fun c_33 => ?_)
    · skip
      obtain rfl : q = 0 := by omega
      refine vr_iload_n hF 2 rfl dX4_drop_62 rfl rfl ?_
      exact vr_retiw hret dX4_drop_63 (by rw [hans2]; simp [xv_dropC]) (by rw [hans]; simp [xv_dropN])
    · skip
      obtain ⟨z, rfl⟩ : ∃ z, q = z + 1 := ⟨q - 1, by omega⟩
      refine vr_aload_n hF 0 rfl dX4_drop_36 rfl rfl ?_
      refine vr_iload_n hF 3 rfl dX4_drop_37 rfl rfl ?_
      refine vr_iload_n hF 1 rfl dX4_drop_38 rfl rfl ?_
      refine vr_callV_Ci (rest := []) (n0 := 2) hF (xc_V_countsInBatch l g a r (ta_r t, ta_f t, ta_v t, ta_d t, ta_k t, cf, ta_o t, ta_n t) w b (z + 1) bt (by omega)) (vr_gV vr_hbc mlX4_113 imX4_countsInBatch seX4_countsInBatch iniX4 cdX4_countsInBatch) rfl (by decide +kernel) rfl rfl rfl ⟨Nat.le_of_ble_eq_true rfl, Nat.le_of_ble_eq_true rfl⟩ ⟨Nat.zero_le _, Nat.zero_le _⟩ 0 rfl rfl rfl (Nat.le_of_ble_eq_true rfl) dX4_drop_39 rfl ?_
      refine vr_if_eqB (tgt := 56) hF dX4_drop_42 (by decide) rfl (fun c_42 => ?_) (fun c_42 => ?_)
      · skip
        have c_42 : xv_inC b bt cf (z + 1) = false := c_42
        refine vr_iinc (lv' := [(3, .int (nI z)), (0, .ref (a 0)), (1, .int bt), (2, .int (nI d))]) hF (nI z) 3 rfl dX4_drop_56 (pk_m1 z) (by decide) rfl rfl ?_
        refine vr_goto (tgt := 31) hF dX4_drop_59 (by decide) ?_
        refine vr_sub [1, 2, 3, 0] rfl ?_
        exact ih z d cf (by omega) (by omega) (by rw [hans, xv_dropN]; simp [c_42]) (by rw [hans2, xv_dropC]; simp [c_42])
      · skip
        have c_42 : xv_inC b bt cf (z + 1) = true := c_42
        refine vr_aload_n hF 0 rfl dX4_drop_45 rfl rfl ?_
        refine vr_get (v := .ref (a 2)) hF 0 1 (vr_in inX4) (vr_m flX4_19) rfl (by decide) rfl rfl rfl dX4_drop_46 rfl ?_
        refine vr_iload_n hF 3 rfl dX4_drop_49 rfl rfl ?_
        refine vr_callV_Cv (rest := []) (n0 := 1) hF (xc_Acts_setUndone l g a r (ta_r t, ta_f t, ta_v t, ta_d t, ta_k t, cf, ta_o t, ta_n t) w b (z + 1) (by omega)) (vr_gV vr_hbc mlX4_85 imX0_setUndone seX0_setUndone iniX0 cdX0_setUndone) rfl (by decide +kernel) rfl rfl rfl ⟨Nat.le_of_ble_eq_true rfl, Nat.le_of_ble_eq_true rfl⟩ ⟨Nat.zero_le _, Nat.zero_le _⟩ 2 rfl rfl rfl (Nat.le_of_ble_eq_true rfl) dX4_drop_50 rfl ?_
        refine vr_to (ws' := (vx_w g a r (ta_r t, ta_f t, ta_v t, ta_d t, ta_k t, vr_ub cf (z + 1) false, ta_o t, ta_n t) w b)) (lv' := [(0, .ref (a 0)), (1, .int bt), (2, .int (nI d)), (3, .int (nI (z + 1)))]) (st' := []) rfl rfl rfl ?_
        refine vr_iinc (lv' := [(2, .int (nI (d + 1))), (0, .ref (a 0)), (1, .int bt), (3, .int (nI (z + 1)))]) hF (nI (d + 1)) 2 rfl dX4_drop_53 (nI_1 d) (by decide) rfl rfl ?_
        refine vr_iinc (lv' := [(3, .int (nI z)), (2, .int (nI (d + 1))), (0, .ref (a 0)), (1, .int bt)]) hF (nI z) 3 rfl dX4_drop_56 (pk_m1 z) (by decide) rfl rfl ?_
        refine vr_goto (tgt := 31) hF dX4_drop_59 (by decide) ?_
        refine vr_sub [2, 3, 1, 0] rfl ?_
        exact ih z (d + 1) (vr_ub cf (z + 1) false) (by omega) (by omega) (by rw [hans, xv_dropN]; simp [c_42]) (by rw [hans2, xv_dropC]; simp [c_42])
set_option maxHeartbeats 4000000 in
set_option maxRecDepth 100000 in
theorem xc_V_drop (l : Launch) (g : vr_G) (a : Nat → Nat) (r : vx_R) (t : vx_A) (w : Nat → Int64) (b : vx_B) (bt : Int32) (h : vx_ok r t b) : vr_Ci l yX4_drop wsX4_drop rm_xw_V_drop g.1 (vr_tys g) [.ref (a 0), .int bt] (vx_w g a r t w b) (vx_w g a r (if xv_can t w b bt = true then ta_setC t (xv_dropC b bt (ta_n t) (ta_c t)) else t) w b) (nI (if xv_can t w b bt = true then xv_dropN b bt (ta_n t) (ta_c t) 0 else 0)) := by
  obtain ⟨hrn, htn, hto, hbn⟩ := id h
  refine vr_Ci_mk (cc := cX4_drop) (nL := 4) (ty := .int) rfl (by decide) rfl (Nat.le_of_ble_eq_true rfl) ?_
  intro p e s m args below meth c A Q hF hret
  refine vr_to (ws' := (vx_w g a r t w b)) (lv' := [(0, .ref (a 0)), (1, .int bt)]) (st' := []) rfl rfl rfl ?_
  refine vr_aload_n hF 0 rfl dX4_drop_0 rfl rfl ?_
  refine vr_get (v := .ref (a 4)) hF 0 3 (vr_in inX4) (vr_m flX4_33) rfl (by decide) rfl rfl rfl dX4_drop_1 rfl ?_
  refine vr_iload_n hF 1 rfl dX4_drop_4 rfl rfl ?_
  refine vr_callV_Ci (rest := []) (n0 := 1) hF (xc_Batches_has l g a r t w b bt) (vr_gV vr_hbc mlX4_105 imX1_has seX1_has iniX1 cdX1_has) rfl (by decide +kernel) rfl rfl rfl ⟨Nat.le_of_ble_eq_true rfl, Nat.le_of_ble_eq_true rfl⟩ ⟨Nat.zero_le _, Nat.zero_le _⟩ 4 rfl rfl rfl (Nat.le_of_ble_eq_true rfl) dX4_drop_5 rfl ?_
  refine vr_if_eqB (tgt := 19) hF dX4_drop_8 (by decide) rfl (fun c_8 => ?_) (fun c_8 => ?_)
  · skip
    have hc : ¬ xv_can t w b bt = true := by simp [xv_can, c_8]
    refine vr_iconst (v := nI 0) hF dX4_drop_19 (by decide +kernel) rfl ?_
    exact vr_retiw hret dX4_drop_20 (by rw [if_neg hc]) (by rw [if_neg hc])
  · skip
    refine vr_aload_n hF 0 rfl dX4_drop_11 rfl rfl ?_
    refine vr_iload_n hF 1 rfl dX4_drop_12 rfl rfl ?_
    refine vr_callV_Ci (rest := []) (n0 := 1) hF (xc_V_isLeanedOnFromOutside l g a r t w b bt h) (vr_gV vr_hbc mlX4_106 imX4_isLeanedOnFromOutside seX4_isLeanedOnFromOutside iniX4 cdX4_isLeanedOnFromOutside) rfl (by decide +kernel) rfl rfl rfl ⟨Nat.le_of_ble_eq_true rfl, Nat.le_of_ble_eq_true rfl⟩ ⟨Nat.zero_le _, Nat.zero_le _⟩ 0 rfl rfl rfl (Nat.le_of_ble_eq_true rfl) dX4_drop_13 rfl ?_
    refine vr_if_eqB (tgt := 21) hF dX4_drop_16 (by decide) rfl (fun c_16 => ?_) (fun c_16 => ?_)
    · skip
      have hc : xv_can t w b bt = true := by simp [xv_can, c_8, c_16]
      rw [if_pos hc, if_pos hc] at hret
      refine vr_iconst (v := nI 0) hF dX4_drop_21 (by decide +kernel) rfl ?_
      refine vr_istore_n (lv' := [(2, .int (nI 0)), (0, .ref (a 0)), (1, .int bt)]) hF dX4_drop_22 rfl (by decide) rfl rfl ?_
      refine vr_aload_n hF 1 rfl dX4_drop_23 rfl rfl ?_
      refine vr_get (v := .ref (a 2)) hF 0 1 (vr_in inX4) (vr_m flX4_19) rfl (by decide) rfl rfl rfl dX4_drop_24 rfl ?_
      refine vr_callV_Ci (rest := []) (n0 := 0) hF (xc_Acts_count l g a r t w b) (vr_gV vr_hbc mlX4_109 imX0_count seX0_count iniX0 cdX0_count) rfl (by decide +kernel) rfl rfl rfl ⟨Nat.le_of_ble_eq_true rfl, Nat.le_of_ble_eq_true rfl⟩ ⟨Nat.zero_le _, Nat.zero_le _⟩ 2 rfl rfl rfl (Nat.le_of_ble_eq_true rfl) dX4_drop_27 rfl ?_
      refine vr_istore_n (lv' := [(3, .int (nI (ta_n t))), (2, .int (nI 0)), (0, .ref (a 0)), (1, .int bt)]) hF dX4_drop_30 rfl (by decide) rfl rfl ?_
      refine vr_sub [2, 3, 1, 0] rfl ?_
      exact xw_V_drop_lp31 r t w b bt h  _ _ hF hret (ta_n t + 1) (ta_n t) 0 (ta_c t) (by omega) (by omega) rfl rfl
    · skip
      have hc : ¬ xv_can t w b bt = true := by simp [xv_can, c_8, c_16]
      refine vr_iconst (v := nI 0) hF dX4_drop_19 (by decide +kernel) rfl ?_
      exact vr_retiw hret dX4_drop_20 (by rw [if_neg hc]) (by rw [if_neg hc])
def rm_xw_V_conflict : Room := { frames := 2, cells := 0, slots := 0, locals := 45 }
set_option maxHeartbeats 4000000 in
set_option maxRecDepth 100000 in
theorem xw_V_conflict_lp42 {p : Program} {l : Launch} {e : Env} {s : State} {m : MethodId} {args : Array Value} {below : List Frame} {meth : Method} {c : Code} {A : Nat → Prop} {Q : State → Prop} {g : vr_G} {a : Nat → Nat} (r : vx_R) (t : vx_A) (w : Nat → Int64) (b : vx_B) (i : Int32) (what : Int32) (h : vx_ok r t b)  (ans : Int32) (hF : vr_F p s m c cX4_conflict 7 args wsX4_conflict yX4_conflict.cls g.1 (vr_tys g) A) (hret : vr_RtI p l e rm_xw_V_conflict s m args below meth c cX4_conflict g.1 A 7 0 0 Q (vx_w g a r t w b) ans) : ∀ (n : Nat) (lo hi ah : Nat), (202 * (201 - lo) + (202 - hi) < n) → (1 ≤ lo) → (lo < hi) → (lo ≤ ta_n t) → (hi ≤ ta_n t + 1) → (ah < 2 ^ 31) → (ans = xv_pair t what n lo hi ah) → vr_W p l e rm_xw_V_conflict s m args below meth c g.1 A 7 0 0 Q (vx_w g a r t w b) 42 [(0, .ref (a 0)), (2, .int what), (3, .int (nI ah)), (4, .int (nI (ta_n t))), (5, .int (nI lo)), (6, .int (nI hi))] [] := by
  obtain ⟨hrn, htn, hto, hbn⟩ := id h
  intro n
  induction n with
  | zero => intro lo hi ah hm h1 h2 hlo hhi ha hans; exact absurd hm (by omega)
  | succ n ih =>
    intro lo hi ah hm h1 h2 hlo hhi ha hans
    refine vr_iload hF 5 rfl dX4_conflict_42 rfl ?_
    refine vr_iload hF 3 rfl dX4_conflict_44 rfl ?_
    refine vr_icmp_gtN (tgt := 88) (x := hi) (y := (ta_n t)) hF (by omega) (by omega) dX4_conflict_46 (by decide) rfl (fun c_46 => ?_) (fun c_46 => ?_)
    · skip
      refine vr_iinc (lv' := [(5, .int (nI (lo + 1))), (0, .ref (a 0)), (2, .int what), (3, .int (nI ah)), (4, .int (nI (ta_n t))), (6, .int (nI hi))]) hF (nI (lo + 1)) 4 rfl dX4_conflict_88 (nI_1 lo) (by decide) rfl rfl ?_
      refine vr_goto (tgt := 29) hF dX4_conflict_91 (by decide) ?_
      refine vr_iload hF 0 rfl dX4_conflict_29 rfl ?_
      refine vr_iload hF 4 rfl dX4_conflict_31 rfl ?_
      refine vr_icmp_geN (tgt := 94) (x := (lo + 1)) (y := (ta_n t)) hF (by omega) (by omega) dX4_conflict_33 (by decide) rfl (fun c_33 => ?_) (fun c_33 => ?_)
      · skip
        refine vr_iconst (v := (-1)) hF dX4_conflict_94 (by decide +kernel) rfl ?_
        exact vr_reti hret dX4_conflict_95 (by rw [hans, xv_pair]; simp [xv_cf, vr_bt, vr_bf, c_46, c_33])
      · skip
        refine vr_iload hF 0 rfl dX4_conflict_36 rfl ?_
        refine vr_iconst (v := nI 1) hF dX4_conflict_38 (by decide +kernel) rfl ?_
        refine vr_iadd (v := nI ((lo + 1) + 1)) hF dX4_conflict_39 (nI_add (lo + 1) 1) rfl ?_
        refine vr_istore (lv' := [(6, .int (nI ((lo + 1) + 1))), (5, .int (nI (lo + 1))), (0, .ref (a 0)), (2, .int what), (3, .int (nI ah)), (4, .int (nI (ta_n t)))]) hF dX4_conflict_40 (by decide) rfl rfl ?_
        refine vr_sub [2, 3, 4, 5, 1, 0] rfl ?_
        exact ih (lo + 1) ((lo + 1) + 1) ah (by omega) (by omega) (by omega) (by omega) (by omega) (by omega) (by rw [hans, xv_pair]; simp [c_46, c_33])
    · skip
      refine vr_aload_n hF 0 rfl dX4_conflict_49 rfl rfl ?_
      refine vr_get (v := .ref (a 2)) hF 0 1 (vr_in inX4) (vr_m flX4_19) rfl (by decide) rfl rfl rfl dX4_conflict_50 rfl ?_
      refine vr_iload hF 4 rfl dX4_conflict_53 rfl ?_
      refine vr_iload hF 5 rfl dX4_conflict_55 rfl ?_
      refine vr_callV_Ci (rest := []) (n0 := 2) hF (xc_Acts_areInConflict l g a r t w b lo hi (by omega) (by omega)) (vr_gV vr_hbc mlX4_116 imX0_areInConflict seX0_areInConflict iniX0 cdX0_areInConflict) rfl (by decide +kernel) rfl rfl rfl ⟨Nat.le_of_ble_eq_true rfl, Nat.le_of_ble_eq_true rfl⟩ ⟨Nat.zero_le _, Nat.zero_le _⟩ 2 rfl rfl rfl (Nat.le_of_ble_eq_true rfl) dX4_conflict_57 rfl ?_
      refine vr_if_eqB (tgt := 82) hF dX4_conflict_60 (by decide) rfl (fun c_60 => ?_) (fun c_60 => ?_)
      · skip
        refine vr_iinc (lv' := [(6, .int (nI (hi + 1))), (0, .ref (a 0)), (2, .int what), (3, .int (nI ah)), (4, .int (nI (ta_n t))), (5, .int (nI lo))]) hF (nI (hi + 1)) 5 rfl dX4_conflict_82 (nI_1 hi) (by decide) rfl rfl ?_
        refine vr_goto (tgt := 42) hF dX4_conflict_85 (by decide) ?_
        refine vr_sub [1, 2, 3, 4, 5, 0] rfl ?_
        exact ih lo (hi + 1) ah (by omega) (by omega) (by omega) (by omega) (by omega) (by omega) (by rw [hans, xv_pair]; simp [c_46, c_60])
      · skip
        refine vr_iload_n hF 2 rfl dX4_conflict_63 rfl rfl ?_
        refine vr_if_neN (tgt := 79) (x := ah) hF (by omega) dX4_conflict_64 (by decide) rfl (fun c_64 => ?_) (fun c_64 => ?_)
        · skip
          refine vr_iinc (lv' := [(3, .int (nI (ah - 1))), (0, .ref (a 0)), (2, .int what), (4, .int (nI (ta_n t))), (5, .int (nI lo)), (6, .int (nI hi))]) hF (nI (ah - 1)) 2 rfl dX4_conflict_79 (sb_m1 (by omega)) (by decide) rfl rfl ?_
          refine vr_iinc (lv' := [(6, .int (nI (hi + 1))), (3, .int (nI (ah - 1))), (0, .ref (a 0)), (2, .int what), (4, .int (nI (ta_n t))), (5, .int (nI lo))]) hF (nI (hi + 1)) 5 rfl dX4_conflict_82 (nI_1 hi) (by decide) rfl rfl ?_
          refine vr_goto (tgt := 42) hF dX4_conflict_85 (by decide) ?_
          refine vr_sub [2, 3, 1, 4, 5, 0] rfl ?_
          exact ih lo (hi + 1) (ah - 1) (by omega) (by omega) (by omega) (by omega) (by omega) (by omega) (by rw [hans, xv_pair]; simp [c_46, c_60, c_64])
        · skip
          refine vr_iload_n hF 1 rfl dX4_conflict_67 rfl rfl ?_
          refine vr_if_ne (tgt := 76) hF dX4_conflict_68 (by decide) rfl (fun c_68 => ?_) (fun c_68 => ?_)
          · skip
            refine vr_iload hF 5 rfl dX4_conflict_76 rfl ?_
            exact vr_reti hret dX4_conflict_78 (by rw [hans, xv_pair]; simp [xv_cf, vr_bt, vr_bf, c_46, c_60, c_64, c_68])
          · skip
            refine vr_iload hF 4 rfl dX4_conflict_71 rfl ?_
            refine vr_goto (tgt := 78) hF dX4_conflict_73 (by decide) ?_
            exact vr_reti hret dX4_conflict_78 (by rw [hans, xv_pair]; simp [xv_cf, vr_bt, vr_bf, c_46, c_60, c_64, c_68])
set_option maxHeartbeats 4000000 in
set_option maxRecDepth 100000 in
theorem xc_V_conflict (l : Launch) (g : vr_G) (a : Nat → Nat) (r : vx_R) (t : vx_A) (w : Nat → Int64) (b : vx_B) (i : Int32) (what : Int32) (h : vx_ok r t b) : vr_Ci l yX4_conflict wsX4_conflict rm_xw_V_conflict g.1 (vr_tys g) [.ref (a 0), .int i, .int what] (vx_w g a r t w b) (vx_w g a r t w b) (xv_cf t i what) := by
  obtain ⟨hrn, htn, hto, hbn⟩ := id h
  refine vr_Ci_mk (cc := cX4_conflict) (nL := 7) (ty := .int) rfl (by decide) rfl (Nat.le_of_ble_eq_true rfl) ?_
  intro p e s m args below meth c A Q hF hret
  refine vr_to (ws' := (vx_w g a r t w b)) (lv' := [(0, .ref (a 0)), (1, .int i), (2, .int what)]) (st' := []) rfl rfl rfl ?_
  refine vr_iload_n hF 1 rfl dX4_conflict_0 rfl rfl ?_
  refine vr_if_lt (tgt := 13) hF dX4_conflict_1 (by decide) rfl (fun c_1 => ?_) (fun c_1 => ?_)
  · skip
    refine vr_iconst (v := (-1)) hF dX4_conflict_13 (by decide +kernel) rfl ?_
    exact vr_reti hret dX4_conflict_14 (by simp [xv_cf, vr_bt, vr_bf, c_1])
  · skip
    obtain ⟨j, hj, rfl⟩ := nI_of c_1
    have hcl : (nI j).toNatClampNeg = j := nI_clamp hj
    refine vr_iload_n hF 2 rfl dX4_conflict_4 rfl rfl ?_
    refine vr_if_lt (tgt := 13) hF dX4_conflict_5 (by decide) rfl (fun c_5 => ?_) (fun c_5 => ?_)
    · skip
      refine vr_iconst (v := (-1)) hF dX4_conflict_13 (by decide +kernel) rfl ?_
      exact vr_reti hret dX4_conflict_14 (by simp [xv_cf, vr_bt, vr_bf, c_1, c_5, hcl])
    · skip
      refine vr_iload_n hF 2 rfl dX4_conflict_8 rfl rfl ?_
      refine vr_iconst (v := nI 1) hF dX4_conflict_9 (by decide +kernel) rfl ?_
      refine vr_icmp_le (tgt := 15) hF dX4_conflict_10 (by decide) rfl (fun c_10 => ?_) (fun c_10 => ?_)
      · skip
        refine vr_iload_n hF 1 rfl dX4_conflict_15 rfl rfl ?_
        refine vr_istore_n (lv' := [(3, .int (nI j)), (0, .ref (a 0)), (1, .int (nI j)), (2, .int what)]) hF dX4_conflict_16 rfl (by decide) rfl rfl ?_
        refine vr_aload_n hF 1 rfl dX4_conflict_17 rfl rfl ?_
        refine vr_get (v := .ref (a 2)) hF 0 1 (vr_in inX4) (vr_m flX4_19) rfl (by decide) rfl rfl rfl dX4_conflict_18 rfl ?_
        refine vr_callV_Ci (rest := []) (n0 := 0) hF (xc_Acts_count l g a r t w b) (vr_gV vr_hbc mlX4_109 imX0_count seX0_count iniX0 cdX0_count) rfl (by decide +kernel) rfl rfl rfl ⟨Nat.le_of_ble_eq_true rfl, Nat.le_of_ble_eq_true rfl⟩ ⟨Nat.zero_le _, Nat.zero_le _⟩ 2 rfl rfl rfl (Nat.le_of_ble_eq_true rfl) dX4_conflict_21 rfl ?_
        refine vr_istore (lv' := [(4, .int (nI (ta_n t))), (3, .int (nI j)), (0, .ref (a 0)), (1, .int (nI j)), (2, .int what)]) hF dX4_conflict_24 (by decide) rfl rfl ?_
        refine vr_iconst (v := nI 1) hF dX4_conflict_26 (by decide +kernel) rfl ?_
        refine vr_istore (lv' := [(5, .int (nI 1)), (4, .int (nI (ta_n t))), (3, .int (nI j)), (0, .ref (a 0)), (1, .int (nI j)), (2, .int what)]) hF dX4_conflict_27 (by decide) rfl rfl ?_
        refine vr_iload hF 0 rfl dX4_conflict_29 rfl ?_
        refine vr_iload hF 1 rfl dX4_conflict_31 rfl ?_
        refine vr_icmp_geN (tgt := 94) (x := 1) (y := (ta_n t)) hF (by omega) (by omega) dX4_conflict_33 (by decide) rfl (fun c_33 => ?_) (fun c_33 => ?_)
        · skip
          refine vr_iconst (v := (-1)) hF dX4_conflict_94 (by decide +kernel) rfl ?_
          exact vr_reti hret dX4_conflict_95 (by simp [xv_cf, vr_bt, vr_bf, c_1, c_5, c_10, c_33, hcl])
        · skip
          refine vr_iload hF 0 rfl dX4_conflict_36 rfl ?_
          refine vr_iconst (v := nI 1) hF dX4_conflict_38 (by decide +kernel) rfl ?_
          refine vr_iadd (v := nI (1 + 1)) hF dX4_conflict_39 (nI_add 1 1) rfl ?_
          refine vr_istore (lv' := [(6, .int (nI (1 + 1))), (5, .int (nI 1)), (4, .int (nI (ta_n t))), (3, .int (nI j)), (0, .ref (a 0)), (1, .int (nI j)), (2, .int what)]) hF dX4_conflict_40 (by decide) rfl rfl ?_
          refine vr_sub [4, 6, 3, 2, 1, 0] rfl ?_
          exact xw_V_conflict_lp42 r t w b (nI j) what h  _ hF hret 40804 1 2 j (by omega) (by omega) (by omega) (by omega) (by omega) hj (by simp [xv_cf, hcl, c_1, c_5, c_10, c_33])
      · skip
        refine vr_iconst (v := (-1)) hF dX4_conflict_13 (by decide +kernel) rfl ?_
        exact vr_reti hret dX4_conflict_14 (by simp [xv_cf, vr_bt, vr_bf, c_1, c_5, c_10, hcl])
def rm_xw_V_history : Room := { frames := 2, cells := 0, slots := 0, locals := 49 }
set_option maxHeartbeats 4000000 in
set_option maxRecDepth 100000 in
theorem xc_V_history (l : Launch) (g : vr_G) (a : Nat → Nat) (r : vx_R) (t : vx_A) (w : Nat → Int64) (b : vx_B) (rc : Int32) (fd : Int32) (i : Int32) (h : vx_ok r t b) : vr_Ci l yX4_history wsX4_history rm_xw_V_history g.1 (vr_tys g) [.ref (a 0), .int rc, .int fd, .int i] (vx_w g a r t w b) (vx_w g a r t w b) (nI (xv_hist r t rc fd i)) := by
  obtain ⟨hrn, htn, hto, hbn⟩ := id h
  refine vr_Ci_mk (cc := cX4_history) (nL := 4) (ty := .int) rfl (by decide) rfl (Nat.le_of_ble_eq_true rfl) ?_
  intro p e s m args below meth c A Q hF hret
  refine vr_to (ws' := (vx_w g a r t w b)) (lv' := [(0, .ref (a 0)), (1, .int rc), (2, .int fd), (3, .int i)]) (st' := []) rfl rfl rfl ?_
  refine vr_aload_n hF 0 rfl dX4_history_0 rfl rfl ?_
  refine vr_iload_n hF 1 rfl dX4_history_1 rfl rfl ?_
  refine vr_iload_n hF 2 rfl dX4_history_2 rfl rfl ?_
  refine vr_callV_Ci (rest := []) (n0 := 2) hF (xc_V_hasField l g a r t w b rc fd) (vr_gV vr_hbc mlX4_41 imX4_hasField seX4_hasField iniX4 cdX4_hasField) rfl (by decide +kernel) rfl rfl rfl ⟨Nat.le_of_ble_eq_true rfl, Nat.le_of_ble_eq_true rfl⟩ ⟨Nat.zero_le _, Nat.zero_le _⟩ 0 rfl rfl rfl (Nat.le_of_ble_eq_true rfl) dX4_history_3 rfl ?_
  refine vr_if_eqB (tgt := 13) hF dX4_history_6 (by decide) rfl (fun c_6 => ?_) (fun c_6 => ?_)
  · skip
    refine vr_iconst (v := nI 0) hF dX4_history_13 (by decide +kernel) rfl ?_
    exact vr_reti hret dX4_history_14 (by simp [xv_hist, vr_bt, vr_bf, c_6])
  · skip
    refine vr_iload_n hF 3 rfl dX4_history_9 rfl rfl ?_
    refine vr_if_ge (tgt := 15) hF dX4_history_10 (by decide) rfl (fun c_10 => ?_) (fun c_10 => ?_)
    · skip
      obtain ⟨j, hj, rfl⟩ := nI_of (Int32.not_lt.mpr c_10)
      have hcl : (nI j).toNatClampNeg = j := nI_clamp hj
      refine vr_aload_n hF 0 rfl dX4_history_15 rfl rfl ?_
      refine vr_get (v := .ref (a 2)) hF 0 1 (vr_in inX4) (vr_m flX4_19) rfl (by decide) rfl rfl rfl dX4_history_16 rfl ?_
      refine vr_iload_n hF 1 rfl dX4_history_19 rfl rfl ?_
      refine vr_iload_n hF 2 rfl dX4_history_20 rfl rfl ?_
      refine vr_iload_n hF 3 rfl dX4_history_21 rfl rfl ?_
      refine vr_callV_Ci (rest := []) (n0 := 3) hF (xc_Acts_inOrder l g a r t w b rc fd j h hj) (vr_gV vr_hbc mlX4_119 imX0_inOrder seX0_inOrder iniX0 cdX0_inOrder) rfl (by decide +kernel) rfl rfl rfl ⟨Nat.le_of_ble_eq_true rfl, Nat.le_of_ble_eq_true rfl⟩ ⟨Nat.zero_le _, Nat.zero_le _⟩ 2 rfl rfl rfl (Nat.le_of_ble_eq_true rfl) dX4_history_22 rfl ?_
      exact vr_reti hret dX4_history_25 (by simp [xv_hist, vr_bt, vr_bf, c_6, c_10, hcl])
    · skip
      refine vr_iconst (v := nI 0) hF dX4_history_13 (by decide +kernel) rfl ?_
      exact vr_reti hret dX4_history_14 (by simp [xv_hist, vr_bt, vr_bf, c_6, c_10])
