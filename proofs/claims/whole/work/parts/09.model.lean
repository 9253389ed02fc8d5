def rm_xw_VModel_isRecord : Room := { frames := 0, cells := 0, slots := 0, locals := 0 }
set_option maxHeartbeats 4000000 in
set_option maxRecDepth 100000 in
theorem xc_VModel_isRecord (l : Launch) (g : vr_G) (a : Nat → Nat) (r : vx_R) (t : vm_A) (w : Nat → Bool) (b : vx_B) (i : Int32) : vr_Ci l yX5_isRecord wsX5_isRecord rm_xw_VModel_isRecord g.1 (vr_tys g) [.ref (a 0), .int i] (vm_w g a r t w b) (vm_w g a r t w b) (vr_b (mm_is (rr_n r) i)) := by
  refine vr_Ci_mk (cc := cX5_isRecord) (nL := 2) (ty := .boolean) (vr_nz _) (by decide) rfl (Nat.le_of_ble_eq_true rfl) ?_
  intro p e s m args below meth c A Q hF hret
  refine vr_to (ws' := (vm_w g a r t w b)) (lv' := [(0, .ref (a 0)), (1, .int i)]) (st' := []) rfl rfl rfl ?_
  refine vr_iload_n hF 1 rfl dX5_isRecord_0 rfl rfl ?_
  refine vr_if_le (tgt := 16) hF dX5_isRecord_1 (by decide) rfl (fun c_1 => ?_) (fun c_1 => ?_)
  · skip
    refine vr_iconst (v := nI 0) hF dX5_isRecord_16 (by decide +kernel) rfl ?_
    exact vr_reti hret dX5_isRecord_17 (by simp [mm_is, vr_bt, vr_bf, c_1])
  · skip
    refine vr_iload_n hF 1 rfl dX5_isRecord_4 rfl rfl ?_
    refine vr_aload_n hF 0 rfl dX5_isRecord_5 rfl rfl ?_
    refine vr_get (v := .int (nI (rr_n r))) hF 0 1 (vr_in inX5) (vr_m flX5_50) rfl (by decide) rfl rfl rfl dX5_isRecord_6 rfl ?_
    refine vr_icmp_gt (tgt := 16) hF dX5_isRecord_9 (by decide) rfl (fun c_9 => ?_) (fun c_9 => ?_)
    · skip
      refine vr_iconst (v := nI 0) hF dX5_isRecord_16 (by decide +kernel) rfl ?_
      exact vr_reti hret dX5_isRecord_17 (by simp [mm_is, vr_bt, vr_bf, c_1, c_9])
    · skip
      refine vr_iconst (v := nI 1) hF dX5_isRecord_12 (by decide +kernel) rfl ?_
      refine vr_goto (tgt := 17) hF dX5_isRecord_13 (by decide) ?_
      exact vr_reti hret dX5_isRecord_17 (by simp [mm_is, vr_bt, vr_bf, c_1, c_9])
def rm_xw_VModel_isAct : Room := { frames := 0, cells := 0, slots := 0, locals := 0 }
set_option maxHeartbeats 4000000 in
set_option maxRecDepth 100000 in
theorem xc_VModel_isAct (l : Launch) (g : vr_G) (a : Nat → Nat) (r : vx_R) (t : vm_A) (w : Nat → Bool) (b : vx_B) (i : Int32) : vr_Ci l yX5_isAct wsX5_isAct rm_xw_VModel_isAct g.1 (vr_tys g) [.ref (a 0), .int i] (vm_w g a r t w b) (vm_w g a r t w b) (vr_b (mm_is (tm_n t) i)) := by
  refine vr_Ci_mk (cc := cX5_isAct) (nL := 2) (ty := .boolean) (vr_nz _) (by decide) rfl (Nat.le_of_ble_eq_true rfl) ?_
  intro p e s m args below meth c A Q hF hret
  refine vr_to (ws' := (vm_w g a r t w b)) (lv' := [(0, .ref (a 0)), (1, .int i)]) (st' := []) rfl rfl rfl ?_
  refine vr_iload_n hF 1 rfl dX5_isAct_0 rfl rfl ?_
  refine vr_if_le (tgt := 16) hF dX5_isAct_1 (by decide) rfl (fun c_1 => ?_) (fun c_1 => ?_)
  · skip
    refine vr_iconst (v := nI 0) hF dX5_isAct_16 (by decide +kernel) rfl ?_
    exact vr_reti hret dX5_isAct_17 (by simp [mm_is, vr_bt, vr_bf, c_1])
  · skip
    refine vr_iload_n hF 1 rfl dX5_isAct_4 rfl rfl ?_
    refine vr_aload_n hF 0 rfl dX5_isAct_5 rfl rfl ?_
    refine vr_get (v := .int (nI (tm_n t))) hF 0 5 (vr_in inX5) (vr_m flX5_53) rfl (by decide) rfl rfl rfl dX5_isAct_6 rfl ?_
    refine vr_icmp_gt (tgt := 16) hF dX5_isAct_9 (by decide) rfl (fun c_9 => ?_) (fun c_9 => ?_)
    · skip
      refine vr_iconst (v := nI 0) hF dX5_isAct_16 (by decide +kernel) rfl ?_
      exact vr_reti hret dX5_isAct_17 (by simp [mm_is, vr_bt, vr_bf, c_1, c_9])
    · skip
      refine vr_iconst (v := nI 1) hF dX5_isAct_12 (by decide +kernel) rfl ?_
      refine vr_goto (tgt := 17) hF dX5_isAct_13 (by decide) ?_
      exact vr_reti hret dX5_isAct_17 (by simp [mm_is, vr_bt, vr_bf, c_1, c_9])
def rm_xw_VModel_isField : Room := { frames := 1, cells := 0, slots := 0, locals := 21 }
set_option maxHeartbeats 4000000 in
set_option maxRecDepth 100000 in
theorem xc_VModel_isField (l : Launch) (g : vr_G) (a : Nat → Nat) (r : vx_R) (t : vm_A) (w : Nat → Bool) (b : vx_B) (rc : Int32) (fd : Int32) : vr_Ci l yX5_isField wsX5_isField rm_xw_VModel_isField g.1 (vr_tys g) [.ref (a 0), .int rc, .int fd] (vm_w g a r t w b) (vm_w g a r t w b) (vr_b (mm_isF r rc fd)) := by
  refine vr_Ci_mk (cc := cX5_isField) (nL := 3) (ty := .boolean) (vr_nz _) (by decide) rfl (Nat.le_of_ble_eq_true rfl) ?_
  intro p e s m args below meth c A Q hF hret
  refine vr_to (ws' := (vm_w g a r t w b)) (lv' := [(0, .ref (a 0)), (1, .int rc), (2, .int fd)]) (st' := []) rfl rfl rfl ?_
  refine vr_aload_n hF 0 rfl dX5_isField_0 rfl rfl ?_
  refine vr_iload_n hF 1 rfl dX5_isField_1 rfl rfl ?_
  refine vr_callV_Ci (rest := []) (n0 := 1) hF (xc_VModel_isRecord l g a r t w b rc) (vr_gV vr_hbc mlX5_56 imX5_isRecord seX5_isRecord iniX5 cdX5_isRecord) rfl (by decide +kernel) rfl rfl rfl ⟨Nat.le_of_ble_eq_true rfl, Nat.le_of_ble_eq_true rfl⟩ ⟨Nat.zero_le _, Nat.zero_le _⟩ 0 rfl rfl rfl (Nat.le_of_ble_eq_true rfl) dX5_isField_2 rfl ?_
  refine vr_if_eqB (tgt := 22) hF dX5_isField_5 (by decide) rfl (fun c_5 => ?_) (fun c_5 => ?_)
  · skip
    refine vr_iconst (v := nI 0) hF dX5_isField_22 (by decide +kernel) rfl ?_
    exact vr_reti hret dX5_isField_23 (by simp [mm_isF, vr_bt, vr_bf, c_5])
  · skip
    refine vr_iload_n hF 2 rfl dX5_isField_8 rfl rfl ?_
    refine vr_if_lt (tgt := 22) hF dX5_isField_9 (by decide) rfl (fun c_9 => ?_) (fun c_9 => ?_)
    · skip
      refine vr_iconst (v := nI 0) hF dX5_isField_22 (by decide +kernel) rfl ?_
      exact vr_reti hret dX5_isField_23 (by simp [mm_isF, vr_bt, vr_bf, c_5, c_9])
    · skip
      refine vr_iload_n hF 2 rfl dX5_isField_12 rfl rfl ?_
      refine vr_bipush (v := nI 8) hF dX5_isField_13 (by decide +kernel) rfl ?_
      refine vr_icmp_ge (tgt := 22) hF dX5_isField_15 (by decide) rfl (fun c_15 => ?_) (fun c_15 => ?_)
      · skip
        refine vr_iconst (v := nI 0) hF dX5_isField_22 (by decide +kernel) rfl ?_
        exact vr_reti hret dX5_isField_23 (by simp [mm_isF, vr_bt, vr_bf, c_5, c_9, c_15])
      · skip
        refine vr_iconst (v := nI 1) hF dX5_isField_18 (by decide +kernel) rfl ?_
        refine vr_goto (tgt := 23) hF dX5_isField_19 (by decide) ?_
        exact vr_reti hret dX5_isField_23 (by simp [mm_isF, vr_bt, vr_bf, c_5, c_9, c_15])
def rm_xw_VModel_record : Room := { frames := 0, cells := 0, slots := 0, locals := 0 }
set_option maxHeartbeats 4000000 in
set_option maxRecDepth 100000 in
theorem xc_VModel_record (l : Launch) (g : vr_G) (a : Nat → Nat) (r : vx_R) (t : vm_A) (w : Nat → Bool) (b : vx_B) (kd : Int32) (h : vm_ok r t b) : vr_Ci l yX5_record wsX5_record rm_xw_VModel_record g.1 (vr_tys g) [.ref (a 0), .int kd] (vm_w g a r t w b) (vm_w g a (if mm_rec r kd = true then xr_add r kd else r) t w b) (nI (if mm_rec r kd = true then rr_n r + 1 else 0)) := by
  obtain ⟨hrn, htn, hbn⟩ := id h
  refine vr_Ci_mk (cc := cX5_record) (nL := 2) (ty := .int) rfl (by decide) rfl (Nat.le_of_ble_eq_true rfl) ?_
  intro p e s m args below meth c A Q hF hret
  refine vr_to (ws' := (vm_w g a r t w b)) (lv' := [(0, .ref (a 0)), (1, .int kd)]) (st' := []) rfl rfl rfl ?_
  refine vr_aload_n hF 0 rfl dX5_record_0 rfl rfl ?_
  refine vr_iconst (v := nI 0) hF dX5_record_1 (by decide +kernel) rfl ?_
  refine vr_put (ws' := (vm_w g a r t w b)) hF 0 0 (vr_in inX5) (vr_m flX5_46) rfl (by decide) rfl rfl tyX5 tyX5_ok nmX5 rfl rfl rfl (Nat.le_of_ble_eq_true rfl) rfl dX5_record_2 rfl ?_
  refine vr_iload_n hF 1 rfl dX5_record_5 rfl rfl ?_
  refine vr_if_lt (tgt := 23) hF dX5_record_6 (by decide) rfl (fun c_6 => ?_) (fun c_6 => ?_)
  · skip
    have hc : ¬ mm_rec r kd = true := by simp [mm_rec, c_6]
    refine vr_iconst (v := nI 0) hF dX5_record_23 (by decide +kernel) rfl ?_
    exact vr_retiw hret dX5_record_24 (by rw [if_neg hc]) (by rw [if_neg hc])
  · skip
    refine vr_iload_n hF 1 rfl dX5_record_9 rfl rfl ?_
    refine vr_iconst (v := nI 3) hF dX5_record_10 (by decide +kernel) rfl ?_
    refine vr_icmp_gt (tgt := 23) hF dX5_record_11 (by decide) rfl (fun c_11 => ?_) (fun c_11 => ?_)
    · skip
      have hc : ¬ mm_rec r kd = true := by simp [mm_rec, c_6, c_11]
      refine vr_iconst (v := nI 0) hF dX5_record_23 (by decide +kernel) rfl ?_
      exact vr_retiw hret dX5_record_24 (by rw [if_neg hc]) (by rw [if_neg hc])
    · skip
      refine vr_aload_n hF 0 rfl dX5_record_14 rfl rfl ?_
      refine vr_get (v := .int (nI (rr_n r))) hF 0 1 (vr_in inX5) (vr_m flX5_50) rfl (by decide) rfl rfl rfl dX5_record_15 rfl ?_
      refine vr_bipush (v := nI 20) hF dX5_record_18 (by decide +kernel) rfl ?_
      refine vr_icmp_neN (tgt := 25) (x := (rr_n r)) (y := 20) hF (by omega) (by omega) dX5_record_20 (by decide) rfl (fun c_20 => ?_) (fun c_20 => ?_)
      · skip
        have hc : mm_rec r kd = true := by simp [mm_rec, c_6, c_11, c_20]
        refine vr_aload_n hF 0 rfl dX5_record_25 rfl rfl ?_
        refine vr_dup hF dX5_record_26 rfl rfl ?_
        refine vr_get (v := .int (nI (rr_n r))) hF 0 1 (vr_in inX5) (vr_m flX5_50) rfl (by decide) rfl rfl rfl dX5_record_27 rfl ?_
        refine vr_iconst (v := nI 1) hF dX5_record_30 (by decide +kernel) rfl ?_
        refine vr_iadd (v := nI ((rr_n r) + 1)) hF dX5_record_31 (nI_add (rr_n r) 1) rfl ?_
        refine vr_put (ws' := (vm_w g a (rr_k r, rr_l r, rr_u r, (rr_n r) + 1) t w b)) hF 0 1 (vr_in inX5) (vr_m flX5_50) rfl (by decide) rfl rfl tyX5 tyX5_ok nmX5 rfl rfl rfl (Nat.le_of_ble_eq_true rfl) rfl dX5_record_32 rfl ?_
        refine vr_aload_n hF 0 rfl dX5_record_35 rfl rfl ?_
        refine vr_get (v := .ref (a 1)) hF 0 2 (vr_in inX5) (vr_m flX5_7) rfl (by decide) rfl rfl rfl dX5_record_36 rfl ?_
        refine vr_aload_n hF 0 rfl dX5_record_39 rfl rfl ?_
        refine vr_get (v := .int (nI ((rr_n r) + 1))) hF 0 1 (vr_in inX5) (vr_m flX5_50) rfl (by decide) rfl rfl rfl dX5_record_40 rfl ?_
        refine vr_iload_n hF 1 rfl dX5_record_43 rfl rfl ?_
        refine vr_iast (ws' := (vm_w g a (upd (rr_k r) ((rr_n r) + 1) kd, rr_l r, rr_u r, (rr_n r) + 1) t w b)) (i := (rr_n r) + 1) (x := kd) (n := 21) (f := (rr_k r)) hF 1 0 rfl rfl (by omega) (by decide) rfl dX5_record_44 rfl ?_
        refine vr_aload_n hF 0 rfl dX5_record_45 rfl rfl ?_
        refine vr_get (v := .ref (a 3)) hF 0 4 (vr_in inX5) (vr_m flX5_16) rfl (by decide) rfl rfl rfl dX5_record_46 rfl ?_
        refine vr_aload_n hF 0 rfl dX5_record_49 rfl rfl ?_
        refine vr_get (v := .int (nI ((rr_n r) + 1))) hF 0 1 (vr_in inX5) (vr_m flX5_50) rfl (by decide) rfl rfl rfl dX5_record_50 rfl ?_
        refine vr_ldc2 (v := vr_min) hF (vr_m kX5_60) dX5_record_53 rfl ?_
        refine vr_last (ws' := (vm_w g a (upd (rr_k r) ((rr_n r) + 1) kd, rr_l r, vp_updL (rr_u r) ((rr_n r) + 1) vr_min, (rr_n r) + 1) t w b)) (i := (rr_n r) + 1) (x := vr_min) (n := 21) (f := (rr_u r)) hF 3 1 rfl rfl (by omega) (by decide) rfl dX5_record_56 rfl ?_
        refine vr_aload_n hF 0 rfl dX5_record_57 rfl rfl ?_
        refine vr_get (v := .int (nI ((rr_n r) + 1))) hF 0 1 (vr_in inX5) (vr_m flX5_50) rfl (by decide) rfl rfl rfl dX5_record_58 rfl ?_
        exact vr_retiw hret dX5_record_61 (by rw [if_pos hc]; rfl) (by rw [if_pos hc])
      · skip
        have hc : ¬ mm_rec r kd = true := by simp [mm_rec, c_6, c_11, c_20]
        refine vr_iconst (v := nI 0) hF dX5_record_23 (by decide +kernel) rfl ?_
        exact vr_retiw hret dX5_record_24 (by rw [if_neg hc]) (by rw [if_neg hc])
def rm_xw_VModel_now : Room := { frames := 0, cells := 0, slots := 0, locals := 0 }
set_option maxHeartbeats 4000000 in
set_option maxRecDepth 100000 in
theorem xw_VModel_now_lp6 {p : Program} {l : Launch} {e : Env} {s : State} {m : MethodId} {args : Array Value} {below : List Frame} {meth : Method} {c : Code} {A : Nat → Prop} {Q : State → Prop} {g : vr_G} {a : Nat → Nat} (r : vx_R) (t : vm_A) (w : Nat → Bool) (b : vx_B) (h : vm_ok r t b)  (ans : Int64) (hF : vr_F p s m c cX5_now 4 args wsX5_now yX5_now.cls g.1 (vr_tys g) A) (hret : vr_RtL p l e rm_xw_VModel_now s m args below meth c cX5_now g.1 A 4 0 0 Q (vm_w g a r t w b) ans) : ∀ (n : Nat) (k : Nat) (x : Int64), (tm_n t + 1 < k + n) → (k ≤ tm_n t + 1) → (ans = mm_now t n k x) → vr_W p l e rm_xw_VModel_now s m args below meth c g.1 A 4 0 0 Q (vm_w g a r t w b) 6 [(0, .ref (a 0)), (1, .long x), (3, .int (nI k))] [] := by
  obtain ⟨hrn, htn, hbn⟩ := id h
  intro n
  induction n with
  | zero => intro k x hk1 hk2 hans; exact absurd hk1 (by omega)
  | succ n ih =>
    intro k x hk1 hk2 hans
    refine vr_iload_n hF 2 rfl dX5_now_6 rfl rfl ?_
    refine vr_aload_n hF 0 rfl dX5_now_7 rfl rfl ?_
    refine vr_get (v := .int (nI (tm_n t))) hF 0 5 (vr_in inX5) (vr_m flX5_53) rfl (by decide) rfl rfl rfl dX5_now_8 rfl ?_
    refine vr_icmp_gtN (tgt := 42) (x := k) (y := (tm_n t)) hF (by omega) (by omega) dX5_now_11 (by decide) rfl (fun c_11 => ?_) (fun c_11 => ?_)
    · skip
      refine vr_lload_n hF 1 rfl dX5_now_42 rfl rfl ?_
      exact vr_retl hret dX5_now_43 (by rw [hans, mm_now]; simp [vr_bt, vr_bf, c_11])
    · skip
      refine vr_aload_n hF 0 rfl dX5_now_14 rfl rfl ?_
      refine vr_get (v := .ref (a 8)) hF 0 10 (vr_in inX5) (vr_m flX5_32) rfl (by decide) rfl rfl rfl dX5_now_15 rfl ?_
      refine vr_iload_n hF 2 rfl dX5_now_18 rfl rfl ?_
      refine vr_lald (i := k) (n := 201) (f := (tm_k t)) hF 8 1 rfl rfl (by omega) (by decide) dX5_now_19 rfl ?_
      refine vr_lload_n hF 1 rfl dX5_now_20 rfl rfl ?_
      refine vr_lcmp_le (tgt := 34) hF dX5_now_21 dX5_now_22 (by decide) rfl (fun c_22 => ?_) (fun c_22 => ?_)
      · skip
        refine vr_lload_n hF 1 rfl dX5_now_34 rfl rfl ?_
        refine vr_lstore_n (lv' := [(1, .long x), (0, .ref (a 0)), (3, .int (nI k))]) hF dX5_now_35 rfl (by decide) rfl rfl ?_
        refine vr_iinc (lv' := [(3, .int (nI (k + 1))), (1, .long x), (0, .ref (a 0))]) hF (nI (k + 1)) 2 rfl dX5_now_36 (nI_1 k) (by decide) rfl rfl ?_
        refine vr_goto (tgt := 6) hF dX5_now_39 (by decide) ?_
        refine vr_sub [2, 1, 0] rfl ?_
        exact ih (k + 1) x (by omega) (by omega) (by rw [hans, mm_now]; simp [c_11, c_22])
      · skip
        refine vr_aload_n hF 0 rfl dX5_now_25 rfl rfl ?_
        refine vr_get (v := .ref (a 8)) hF 0 10 (vr_in inX5) (vr_m flX5_32) rfl (by decide) rfl rfl rfl dX5_now_26 rfl ?_
        refine vr_iload_n hF 2 rfl dX5_now_29 rfl rfl ?_
        refine vr_lald (i := k) (n := 201) (f := (tm_k t)) hF 8 1 rfl rfl (by omega) (by decide) dX5_now_30 rfl ?_
        refine vr_goto (tgt := 35) hF dX5_now_31 (by decide) ?_
        refine vr_lstore_n (lv' := [(1, .long ((tm_k t) k)), (0, .ref (a 0)), (3, .int (nI k))]) hF dX5_now_35 rfl (by decide) rfl rfl ?_
        refine vr_iinc (lv' := [(3, .int (nI (k + 1))), (1, .long ((tm_k t) k)), (0, .ref (a 0))]) hF (nI (k + 1)) 2 rfl dX5_now_36 (nI_1 k) (by decide) rfl rfl ?_
        refine vr_goto (tgt := 6) hF dX5_now_39 (by decide) ?_
        refine vr_sub [2, 1, 0] rfl ?_
        exact ih (k + 1) ((tm_k t) k) (by omega) (by omega) (by rw [hans, mm_now]; simp [c_11, c_22])
set_option maxHeartbeats 4000000 in
set_option maxRecDepth 100000 in
theorem xc_VModel_now (l : Launch) (g : vr_G) (a : Nat → Nat) (r : vx_R) (t : vm_A) (w : Nat → Bool) (b : vx_B) (h : vm_ok r t b) : vr_Cl l yX5_now wsX5_now rm_xw_VModel_now g.1 (vr_tys g) [.ref (a 0)] (vm_w g a r t w b) (vm_w g a r t w b) (mm_nowT t) := by
  obtain ⟨hrn, htn, hbn⟩ := id h
  refine vr_Cl_mk (cc := cX5_now) (nL := 4) (by decide) rfl (Nat.le_of_ble_eq_true rfl) ?_
  intro p e s m args below meth c A Q hF hret
  refine vr_to (ws' := (vm_w g a r t w b)) (lv' := [(0, .ref (a 0))]) (st' := []) rfl rfl rfl ?_
  refine vr_ldc2 (v := vr_min) hF (vr_m kX5_60) dX5_now_0 rfl ?_
  refine vr_lstore_n (lv' := [(1, .long vr_min), (0, .ref (a 0))]) hF dX5_now_3 rfl (by decide) rfl rfl ?_
  refine vr_iconst (v := nI 1) hF dX5_now_4 (by decide +kernel) rfl ?_
  refine vr_istore_n (lv' := [(3, .int (nI 1)), (1, .long vr_min), (0, .ref (a 0))]) hF dX5_now_5 rfl (by decide) rfl rfl ?_
  refine vr_sub [2, 1, 0] rfl ?_
  exact xw_VModel_now_lp6 r t w b  h  _ hF hret (tm_n t + 2) 1 vr_min (by omega) (by omega) rfl
def rm_xw_VModel_isLocked : Room := { frames := 1, cells := 0, slots := 0, locals := 23 }
set_option maxHeartbeats 4000000 in
set_option maxRecDepth 100000 in
theorem xc_VModel_isLocked (l : Launch) (g : vr_G) (a : Nat → Nat) (r : vx_R) (t : vm_A) (w : Nat → Bool) (b : vx_B) (k : Nat) (h : vm_ok r t b) (hk : k ≤ 20) : vr_Ci l yX5_isLocked wsX5_isLocked rm_xw_VModel_isLocked g.1 (vr_tys g) [.ref (a 0), .int (nI k)] (vm_w g a r t w b) (vm_w g a r t w b) (vr_b (mm_locked r t k)) := by
  refine vr_Ci_mk (cc := cX5_isLocked) (nL := 2) (ty := .boolean) (vr_nz _) (by decide) rfl (Nat.le_of_ble_eq_true rfl) ?_
  intro p e s m args below meth c A Q hF hret
  refine vr_to (ws' := (vm_w g a r t w b)) (lv' := [(0, .ref (a 0)), (1, .int (nI k))]) (st' := []) rfl rfl rfl ?_
  refine vr_aload_n hF 0 rfl dX5_isLocked_0 rfl rfl ?_
  refine vr_callV_Cl (rest := []) (n0 := 0) hF (xc_VModel_now l g a r t w b h) (vr_gV vr_hbc mlX5_62 imX5_now seX5_now iniX5 cdX5_now) rfl (by decide +kernel) rfl rfl rfl ⟨Nat.le_of_ble_eq_true rfl, Nat.le_of_ble_eq_true rfl⟩ ⟨Nat.zero_le _, Nat.zero_le _⟩ 0 rfl rfl rfl (Nat.le_of_ble_eq_true rfl) dX5_isLocked_1 rfl ?_
  refine vr_aload_n hF 0 rfl dX5_isLocked_4 rfl rfl ?_
  refine vr_get (v := .ref (a 3)) hF 0 4 (vr_in inX5) (vr_m flX5_16) rfl (by decide) rfl rfl rfl dX5_isLocked_5 rfl ?_
  refine vr_iload_n hF 1 rfl dX5_isLocked_8 rfl rfl ?_
  refine vr_lald (i := k) (n := 21) (f := (rr_u r)) hF 3 1 rfl rfl (by omega) (by decide) dX5_isLocked_9 rfl ?_
  refine vr_lcmp_ge (tgt := 18) hF dX5_isLocked_10 dX5_isLocked_11 (by decide) rfl (fun c_11 => ?_) (fun c_11 => ?_)
  · skip
    refine vr_iconst (v := nI 0) hF dX5_isLocked_18 (by decide +kernel) rfl ?_
    exact vr_reti hret dX5_isLocked_19 (by simp [mm_locked, vr_bt, vr_bf, c_11])
  · skip
    refine vr_iconst (v := nI 1) hF dX5_isLocked_14 (by decide +kernel) rfl ?_
    refine vr_goto (tgt := 19) hF dX5_isLocked_15 (by decide) ?_
    exact vr_reti hret dX5_isLocked_19 (by simp [mm_locked, vr_bt, vr_bf, c_11])
def rm_xw_VModel_isOf : Room := { frames := 0, cells := 0, slots := 0, locals := 0 }
set_option maxHeartbeats 4000000 in
set_option maxRecDepth 100000 in
theorem xc_VModel_isOf (l : Launch) (g : vr_G) (a : Nat → Nat) (r : vx_R) (t : vm_A) (w : Nat → Bool) (b : vx_B) (k : Nat) (rc : Int32) (fd : Int32) (hk : k ≤ 200) : vr_Ci l yX5_isOf wsX5_isOf rm_xw_VModel_isOf g.1 (vr_tys g) [.ref (a 0), .int (nI k), .int rc, .int fd] (vm_w g a r t w b) (vm_w g a r t w b) (vr_b (mm_isOf t k rc fd)) := by
  refine vr_Ci_mk (cc := cX5_isOf) (nL := 4) (ty := .boolean) (vr_nz _) (by decide) rfl (Nat.le_of_ble_eq_true rfl) ?_
  intro p e s m args below meth c A Q hF hret
  refine vr_to (ws' := (vm_w g a r t w b)) (lv' := [(0, .ref (a 0)), (1, .int (nI k)), (2, .int rc), (3, .int fd)]) (st' := []) rfl rfl rfl ?_
  refine vr_aload_n hF 0 rfl dX5_isOf_0 rfl rfl ?_
  refine vr_get (v := .ref (a 4)) hF 0 6 (vr_in inX5) (vr_m flX5_20) rfl (by decide) rfl rfl rfl dX5_isOf_1 rfl ?_
  refine vr_iload_n hF 1 rfl dX5_isOf_4 rfl rfl ?_
  refine vr_iald (i := k) (n := 201) (f := (tm_r t)) hF 4 0 rfl rfl (by omega) (by decide) dX5_isOf_5 rfl ?_
  refine vr_iload_n hF 2 rfl dX5_isOf_6 rfl rfl ?_
  refine vr_icmp_ne (tgt := 24) hF dX5_isOf_7 (by decide) rfl (fun c_7 => ?_) (fun c_7 => ?_)
  · skip
    refine vr_iconst (v := nI 0) hF dX5_isOf_24 (by decide +kernel) rfl ?_
    exact vr_reti hret dX5_isOf_25 (by simp [mm_isOf, vr_bt, vr_bf, c_7])
  · skip
    refine vr_aload_n hF 0 rfl dX5_isOf_10 rfl rfl ?_
    refine vr_get (v := .ref (a 5)) hF 0 7 (vr_in inX5) (vr_m flX5_23) rfl (by decide) rfl rfl rfl dX5_isOf_11 rfl ?_
    refine vr_iload_n hF 1 rfl dX5_isOf_14 rfl rfl ?_
    refine vr_iald (i := k) (n := 201) (f := (tm_f t)) hF 5 0 rfl rfl (by omega) (by decide) dX5_isOf_15 rfl ?_
    refine vr_iload_n hF 3 rfl dX5_isOf_16 rfl rfl ?_
    refine vr_icmp_ne (tgt := 24) hF dX5_isOf_17 (by decide) rfl (fun c_17 => ?_) (fun c_17 => ?_)
    · skip
      refine vr_iconst (v := nI 0) hF dX5_isOf_24 (by decide +kernel) rfl ?_
      exact vr_reti hret dX5_isOf_25 (by simp [mm_isOf, vr_bt, vr_bf, c_7, c_17])
    · skip
      refine vr_iconst (v := nI 1) hF dX5_isOf_20 (by decide +kernel) rfl ?_
      refine vr_goto (tgt := 25) hF dX5_isOf_21 (by decide) ?_
      exact vr_reti hret dX5_isOf_25 (by simp [mm_isOf, vr_bt, vr_bf, c_7, c_17])
def rm_xw_VModel_isBefore : Room := { frames := 0, cells := 0, slots := 0, locals := 0 }
set_option maxHeartbeats 4000000 in
set_option maxRecDepth 100000 in
theorem xc_VModel_isBefore (l : Launch) (g : vr_G) (a : Nat → Nat) (r : vx_R) (t : vm_A) (w : Nat → Bool) (b : vx_B) (i : Nat) (j : Nat) (hi : i ≤ 200) (hj : j ≤ 200) : vr_Ci l yX5_isBefore wsX5_isBefore rm_xw_VModel_isBefore g.1 (vr_tys g) [.ref (a 0), .int (nI i), .int (nI j)] (vm_w g a r t w b) (vm_w g a r t w b) (vr_b (mm_before t i j)) := by
  refine vr_Ci_mk (cc := cX5_isBefore) (nL := 3) (ty := .boolean) (vr_nz _) (by decide) rfl (Nat.le_of_ble_eq_true rfl) ?_
  intro p e s m args below meth c A Q hF hret
  refine vr_to (ws' := (vm_w g a r t w b)) (lv' := [(0, .ref (a 0)), (1, .int (nI i)), (2, .int (nI j))]) (st' := []) rfl rfl rfl ?_
  refine vr_aload_n hF 0 rfl dX5_isBefore_0 rfl rfl ?_
  refine vr_get (v := .ref (a 8)) hF 0 10 (vr_in inX5) (vr_m flX5_32) rfl (by decide) rfl rfl rfl dX5_isBefore_1 rfl ?_
  refine vr_iload_n hF 1 rfl dX5_isBefore_4 rfl rfl ?_
  refine vr_lald (i := i) (n := 201) (f := (tm_k t)) hF 8 1 rfl rfl (by omega) (by decide) dX5_isBefore_5 rfl ?_
  refine vr_aload_n hF 0 rfl dX5_isBefore_6 rfl rfl ?_
  refine vr_get (v := .ref (a 8)) hF 0 10 (vr_in inX5) (vr_m flX5_32) rfl (by decide) rfl rfl rfl dX5_isBefore_7 rfl ?_
  refine vr_iload_n hF 2 rfl dX5_isBefore_10 rfl rfl ?_
  refine vr_lald (i := j) (n := 201) (f := (tm_k t)) hF 8 1 rfl rfl (by omega) (by decide) dX5_isBefore_11 rfl ?_
  refine vr_lcmp_eq (tgt := 38) hF dX5_isBefore_12 dX5_isBefore_13 (by decide) rfl (fun c_13 => ?_) (fun c_13 => ?_)
  · skip
    refine vr_aload_n hF 0 rfl dX5_isBefore_38 rfl rfl ?_
    refine vr_get (v := .ref (a 7)) hF 0 9 (vr_in inX5) (vr_m flX5_29) rfl (by decide) rfl rfl rfl dX5_isBefore_39 rfl ?_
    refine vr_iload_n hF 1 rfl dX5_isBefore_42 rfl rfl ?_
    refine vr_lald (i := i) (n := 201) (f := (tm_d t)) hF 7 1 rfl rfl (by omega) (by decide) dX5_isBefore_43 rfl ?_
    refine vr_aload_n hF 0 rfl dX5_isBefore_44 rfl rfl ?_
    refine vr_get (v := .ref (a 7)) hF 0 9 (vr_in inX5) (vr_m flX5_29) rfl (by decide) rfl rfl rfl dX5_isBefore_45 rfl ?_
    refine vr_iload_n hF 2 rfl dX5_isBefore_48 rfl rfl ?_
    refine vr_lald (i := j) (n := 201) (f := (tm_d t)) hF 7 1 rfl rfl (by omega) (by decide) dX5_isBefore_49 rfl ?_
    refine vr_lcmp_eq (tgt := 78) hF dX5_isBefore_50 dX5_isBefore_51 (by decide) rfl (fun c_51 => ?_) (fun c_51 => ?_)
    · skip
      refine vr_iload_n hF 1 rfl dX5_isBefore_78 rfl rfl ?_
      refine vr_iload_n hF 2 rfl dX5_isBefore_79 rfl rfl ?_
      refine vr_icmp_geN (tgt := 87) (x := i) (y := j) hF (by omega) (by omega) dX5_isBefore_80 (by decide) rfl (fun c_80 => ?_) (fun c_80 => ?_)
      · skip
        refine vr_iconst (v := nI 0) hF dX5_isBefore_87 (by decide +kernel) rfl ?_
        exact vr_reti hret dX5_isBefore_88 (by simp [mm_before, vr_bt, vr_bf, c_13, c_51, c_80])
      · skip
        refine vr_iconst (v := nI 1) hF dX5_isBefore_83 (by decide +kernel) rfl ?_
        refine vr_goto (tgt := 88) hF dX5_isBefore_84 (by decide) ?_
        exact vr_reti hret dX5_isBefore_88 (by simp [mm_before, vr_bt, vr_bf, c_13, c_51, c_80])
    · skip
      refine vr_aload_n hF 0 rfl dX5_isBefore_54 rfl rfl ?_
      refine vr_get (v := .ref (a 7)) hF 0 9 (vr_in inX5) (vr_m flX5_29) rfl (by decide) rfl rfl rfl dX5_isBefore_55 rfl ?_
      refine vr_iload_n hF 1 rfl dX5_isBefore_58 rfl rfl ?_
      refine vr_lald (i := i) (n := 201) (f := (tm_d t)) hF 7 1 rfl rfl (by omega) (by decide) dX5_isBefore_59 rfl ?_
      refine vr_aload_n hF 0 rfl dX5_isBefore_60 rfl rfl ?_
      refine vr_get (v := .ref (a 7)) hF 0 9 (vr_in inX5) (vr_m flX5_29) rfl (by decide) rfl rfl rfl dX5_isBefore_61 rfl ?_
      refine vr_iload_n hF 2 rfl dX5_isBefore_64 rfl rfl ?_
      refine vr_lald (i := j) (n := 201) (f := (tm_d t)) hF 7 1 rfl rfl (by omega) (by decide) dX5_isBefore_65 rfl ?_
      refine vr_lcmp_ge (tgt := 74) hF dX5_isBefore_66 dX5_isBefore_67 (by decide) rfl (fun c_67 => ?_) (fun c_67 => ?_)
      · skip
        refine vr_iconst (v := nI 0) hF dX5_isBefore_74 (by decide +kernel) rfl ?_
        refine vr_goto (tgt := 88) hF dX5_isBefore_75 (by decide) ?_
        exact vr_reti hret dX5_isBefore_88 (by simp [mm_before, vr_bt, vr_bf, c_13, c_51, c_67])
      · skip
        refine vr_iconst (v := nI 1) hF dX5_isBefore_70 (by decide +kernel) rfl ?_
        refine vr_goto (tgt := 88) hF dX5_isBefore_71 (by decide) ?_
        exact vr_reti hret dX5_isBefore_88 (by simp [mm_before, vr_bt, vr_bf, c_13, c_51, c_67])
  · skip
    refine vr_aload_n hF 0 rfl dX5_isBefore_16 rfl rfl ?_
    refine vr_get (v := .ref (a 8)) hF 0 10 (vr_in inX5) (vr_m flX5_32) rfl (by decide) rfl rfl rfl dX5_isBefore_17 rfl ?_
    refine vr_iload_n hF 1 rfl dX5_isBefore_20 rfl rfl ?_
    refine vr_lald (i := i) (n := 201) (f := (tm_k t)) hF 8 1 rfl rfl (by omega) (by decide) dX5_isBefore_21 rfl ?_
    refine vr_aload_n hF 0 rfl dX5_isBefore_22 rfl rfl ?_
    refine vr_get (v := .ref (a 8)) hF 0 10 (vr_in inX5) (vr_m flX5_32) rfl (by decide) rfl rfl rfl dX5_isBefore_23 rfl ?_
    refine vr_iload_n hF 2 rfl dX5_isBefore_26 rfl rfl ?_
    refine vr_lald (i := j) (n := 201) (f := (tm_k t)) hF 8 1 rfl rfl (by omega) (by decide) dX5_isBefore_27 rfl ?_
    refine vr_lcmp_ge (tgt := 36) hF dX5_isBefore_28 dX5_isBefore_29 (by decide) rfl (fun c_29 => ?_) (fun c_29 => ?_)
    · skip
      refine vr_iconst (v := nI 0) hF dX5_isBefore_36 (by decide +kernel) rfl ?_
      exact vr_reti hret dX5_isBefore_37 (by simp [mm_before, vr_bt, vr_bf, c_13, c_29])
    · skip
      refine vr_iconst (v := nI 1) hF dX5_isBefore_32 (by decide +kernel) rfl ?_
      refine vr_goto (tgt := 37) hF dX5_isBefore_33 (by decide) ?_
      exact vr_reti hret dX5_isBefore_37 (by simp [mm_before, vr_bt, vr_bf, c_13, c_29])
def rm_xw_VModel_last : Room := { frames := 1, cells := 0, slots := 0, locals := 23 }
set_option maxHeartbeats 4000000 in
set_option maxRecDepth 100000 in
theorem xw_VModel_last_lp6 {p : Program} {l : Launch} {e : Env} {s : State} {m : MethodId} {args : Array Value} {below : List Frame} {meth : Method} {c : Code} {A : Nat → Prop} {Q : State → Prop} {g : vr_G} {a : Nat → Nat} (r : vx_R) (t : vm_A) (w : Nat → Bool) (b : vx_B) (rc : Int32) (fd : Int32) (mo : Int64) (h : vm_ok r t b)  (ans : Int32) (hF : vr_F p s m c cX5_last 7 args wsX5_last yX5_last.cls g.1 (vr_tys g) A) (hret : vr_RtI p l e rm_xw_VModel_last s m args below meth c cX5_last g.1 A 7 0 0 Q (vm_w g a r t w b) ans) : ∀ (n : Nat) (k bst : Nat), (tm_n t + 1 < k + n) → (k ≤ tm_n t + 1) → (bst ≤ 200) → (ans = nI (mm_last t rc fd mo n k bst)) → vr_W p l e rm_xw_VModel_last s m args below meth c g.1 A 7 0 0 Q (vm_w g a r t w b) 6 [(0, .ref (a 0)), (1, .int rc), (2, .int fd), (3, .long mo), (5, .int (nI bst)), (6, .int (nI k))] [] := by
  obtain ⟨hrn, htn, hbn⟩ := id h
  intro n
  induction n with
  | zero => intro k bst hk1 hk2 hb hans; exact absurd hk1 (by omega)
  | succ n ih =>
    intro k bst hk1 hk2 hb hans
    refine vr_iload hF 5 rfl dX5_last_6 rfl ?_
    refine vr_aload_n hF 0 rfl dX5_last_8 rfl rfl ?_
    refine vr_get (v := .int (nI (tm_n t))) hF 0 5 (vr_in inX5) (vr_m flX5_53) rfl (by decide) rfl rfl rfl dX5_last_9 rfl ?_
    refine vr_icmp_gtN (tgt := 74) (x := k) (y := (tm_n t)) hF (by omega) (by omega) dX5_last_12 (by decide) rfl (fun c_12 => ?_) (fun c_12 => ?_)
    · skip
      refine vr_iload hF 4 rfl dX5_last_74 rfl ?_
      exact vr_reti hret dX5_last_76 (by rw [hans, mm_last]; simp [vr_bt, vr_bf, c_12])
    · skip
      refine vr_aload_n hF 0 rfl dX5_last_15 rfl rfl ?_
      refine vr_iload hF 5 rfl dX5_last_16 rfl ?_
      refine vr_iload_n hF 1 rfl dX5_last_18 rfl rfl ?_
      refine vr_iload_n hF 2 rfl dX5_last_19 rfl rfl ?_
      refine vr_callV_Ci (rest := []) (n0 := 3) hF (xc_VModel_isOf l g a r t w b k rc fd (by omega)) (vr_gV vr_hbc mlX5_75 imX5_isOf seX5_isOf iniX5 cdX5_isOf) rfl (by decide +kernel) rfl rfl rfl ⟨Nat.le_of_ble_eq_true rfl, Nat.le_of_ble_eq_true rfl⟩ ⟨Nat.zero_le _, Nat.zero_le _⟩ 0 rfl rfl rfl (Nat.le_of_ble_eq_true rfl) dX5_last_20 rfl ?_
      refine vr_if_eqB (tgt := 68) hF dX5_last_23 (by decide) rfl (fun c_23 => ?_) (fun c_23 => ?_)
      · skip
        refine vr_iinc (lv' := [(6, .int (nI (k + 1))), (0, .ref (a 0)), (1, .int rc), (2, .int fd), (3, .long mo), (5, .int (nI bst))]) hF (nI (k + 1)) 5 rfl dX5_last_68 (nI_1 k) (by decide) rfl rfl ?_
        refine vr_goto (tgt := 6) hF dX5_last_71 (by decide) ?_
        refine vr_sub [1, 2, 3, 4, 5, 0] rfl ?_
        exact ih (k + 1) bst (by omega) (by omega) (by omega) (by rw [hans, mm_last]; simp [mm_lc, c_12, c_23])
      · skip
        refine vr_aload_n hF 0 rfl dX5_last_26 rfl rfl ?_
        refine vr_get (v := .ref (a 9)) hF 0 11 (vr_in inX5) (vr_m flX5_35) rfl (by decide) rfl rfl rfl dX5_last_27 rfl ?_
        refine vr_iload hF 5 rfl dX5_last_30 rfl ?_
        refine vr_zald (i := k) (n := 201) (f := (fun j => vr_b ((tm_u t) j))) hF 9 2 rfl rfl (by omega) (by decide) dX5_last_32 rfl ?_
        refine vr_to (ws' := (vm_w g a r t w b)) (lv' := [(0, .ref (a 0)), (1, .int rc), (2, .int fd), (3, .long mo), (5, .int (nI bst)), (6, .int (nI k))]) (st' := [.int (vr_b ((tm_u t) k))]) rfl rfl rfl ?_
        refine vr_if_neB (tgt := 68) hF dX5_last_33 (by decide) rfl (fun c_33 => ?_) (fun c_33 => ?_)
        · skip
          refine vr_iinc (lv' := [(6, .int (nI (k + 1))), (0, .ref (a 0)), (1, .int rc), (2, .int fd), (3, .long mo), (5, .int (nI bst))]) hF (nI (k + 1)) 5 rfl dX5_last_68 (nI_1 k) (by decide) rfl rfl ?_
          refine vr_goto (tgt := 6) hF dX5_last_71 (by decide) ?_
          refine vr_sub [1, 2, 3, 4, 5, 0] rfl ?_
          exact ih (k + 1) bst (by omega) (by omega) (by omega) (by rw [hans, mm_last]; simp [mm_lc, c_12, c_23, c_33])
        · skip
          refine vr_aload_n hF 0 rfl dX5_last_36 rfl rfl ?_
          refine vr_get (v := .ref (a 8)) hF 0 10 (vr_in inX5) (vr_m flX5_32) rfl (by decide) rfl rfl rfl dX5_last_37 rfl ?_
          refine vr_iload hF 5 rfl dX5_last_40 rfl ?_
          refine vr_lald (i := k) (n := 201) (f := (tm_k t)) hF 8 1 rfl rfl (by omega) (by decide) dX5_last_42 rfl ?_
          refine vr_lload_n hF 3 rfl dX5_last_43 rfl rfl ?_
          refine vr_lcmp_gt (tgt := 68) hF dX5_last_44 dX5_last_45 (by decide) rfl (fun c_45 => ?_) (fun c_45 => ?_)
          · skip
            refine vr_iinc (lv' := [(6, .int (nI (k + 1))), (0, .ref (a 0)), (1, .int rc), (2, .int fd), (3, .long mo), (5, .int (nI bst))]) hF (nI (k + 1)) 5 rfl dX5_last_68 (nI_1 k) (by decide) rfl rfl ?_
            refine vr_goto (tgt := 6) hF dX5_last_71 (by decide) ?_
            refine vr_sub [1, 2, 3, 4, 5, 0] rfl ?_
            exact ih (k + 1) bst (by omega) (by omega) (by omega) (by rw [hans, mm_last]; simp [mm_lc, c_12, c_23, c_33, c_45])
          · skip
            refine vr_iload hF 4 rfl dX5_last_48 rfl ?_
            refine vr_if_eqN (tgt := 64) (x := bst) hF (by omega) dX5_last_50 (by decide) rfl (fun c_50 => ?_) (fun c_50 => ?_)
            · skip
              refine vr_iload hF 5 rfl dX5_last_64 rfl ?_
              refine vr_istore (lv' := [(5, .int (nI k)), (0, .ref (a 0)), (1, .int rc), (2, .int fd), (3, .long mo), (6, .int (nI k))]) hF dX5_last_66 (by decide) rfl rfl ?_
              refine vr_iinc (lv' := [(6, .int (nI (k + 1))), (5, .int (nI k)), (0, .ref (a 0)), (1, .int rc), (2, .int fd), (3, .long mo)]) hF (nI (k + 1)) 5 rfl dX5_last_68 (nI_1 k) (by decide) rfl rfl ?_
              refine vr_goto (tgt := 6) hF dX5_last_71 (by decide) ?_
              refine vr_sub [2, 3, 4, 5, 1, 0] rfl ?_
              exact ih (k + 1) k (by omega) (by omega) (by omega) (by rw [hans, mm_last]; simp [mm_lc, c_12, c_23, c_33, c_45, c_50])
            · skip
              refine vr_aload_n hF 0 rfl dX5_last_53 rfl rfl ?_
              refine vr_iload hF 4 rfl dX5_last_54 rfl ?_
              refine vr_iload hF 5 rfl dX5_last_56 rfl ?_
              refine vr_callV_Ci (rest := []) (n0 := 2) hF (xc_VModel_isBefore l g a r t w b bst k (by omega) (by omega)) (vr_gV vr_hbc mlX5_79 imX5_isBefore seX5_isBefore iniX5 cdX5_isBefore) rfl (by decide +kernel) rfl rfl rfl ⟨Nat.le_of_ble_eq_true rfl, Nat.le_of_ble_eq_true rfl⟩ ⟨Nat.zero_le _, Nat.zero_le _⟩ 0 rfl rfl rfl (Nat.le_of_ble_eq_true rfl) dX5_last_58 rfl ?_
              refine vr_if_eqB (tgt := 68) hF dX5_last_61 (by decide) rfl (fun c_61 => ?_) (fun c_61 => ?_)
              · skip
                refine vr_iinc (lv' := [(6, .int (nI (k + 1))), (0, .ref (a 0)), (1, .int rc), (2, .int fd), (3, .long mo), (5, .int (nI bst))]) hF (nI (k + 1)) 5 rfl dX5_last_68 (nI_1 k) (by decide) rfl rfl ?_
                refine vr_goto (tgt := 6) hF dX5_last_71 (by decide) ?_
                refine vr_sub [1, 2, 3, 4, 5, 0] rfl ?_
                exact ih (k + 1) bst (by omega) (by omega) (by omega) (by rw [hans, mm_last]; simp [mm_lc, c_12, c_23, c_33, c_45, c_50, c_61])
              · skip
                refine vr_iload hF 5 rfl dX5_last_64 rfl ?_
                refine vr_istore (lv' := [(5, .int (nI k)), (0, .ref (a 0)), (1, .int rc), (2, .int fd), (3, .long mo), (6, .int (nI k))]) hF dX5_last_66 (by decide) rfl rfl ?_
                refine vr_iinc (lv' := [(6, .int (nI (k + 1))), (5, .int (nI k)), (0, .ref (a 0)), (1, .int rc), (2, .int fd), (3, .long mo)]) hF (nI (k + 1)) 5 rfl dX5_last_68 (nI_1 k) (by decide) rfl rfl ?_
                refine vr_goto (tgt := 6) hF dX5_last_71 (by decide) ?_
                refine vr_sub [2, 3, 4, 5, 1, 0] rfl ?_
                exact ih (k + 1) k (by omega) (by omega) (by omega) (by rw [hans, mm_last]; simp [mm_lc, c_12, c_23, c_33, c_45, c_50, c_61])
set_option maxHeartbeats 4000000 in
set_option maxRecDepth 100000 in
theorem xc_VModel_last (l : Launch) (g : vr_G) (a : Nat → Nat) (r : vx_R) (t : vm_A) (w : Nat → Bool) (b : vx_B) (rc : Int32) (fd : Int32) (mo : Int64) (h : vm_ok r t b) : vr_Ci l yX5_last wsX5_last rm_xw_VModel_last g.1 (vr_tys g) [.ref (a 0), .int rc, .int fd, .long mo] (vm_w g a r t w b) (vm_w g a r t w b) (nI (mm_lastT t rc fd mo)) := by
  obtain ⟨hrn, htn, hbn⟩ := id h
  refine vr_Ci_mk (cc := cX5_last) (nL := 7) (ty := .int) rfl (by decide) rfl (Nat.le_of_ble_eq_true rfl) ?_
  intro p e s m args below meth c A Q hF hret
  refine vr_to (ws' := (vm_w g a r t w b)) (lv' := [(0, .ref (a 0)), (1, .int rc), (2, .int fd), (3, .long mo)]) (st' := []) rfl rfl rfl ?_
  refine vr_iconst (v := nI 0) hF dX5_last_0 (by decide +kernel) rfl ?_
  refine vr_istore (lv' := [(5, .int (nI 0)), (0, .ref (a 0)), (1, .int rc), (2, .int fd), (3, .long mo)]) hF dX5_last_1 (by decide) rfl rfl ?_
  refine vr_iconst (v := nI 1) hF dX5_last_3 (by decide +kernel) rfl ?_
  refine vr_istore (lv' := [(6, .int (nI 1)), (5, .int (nI 0)), (0, .ref (a 0)), (1, .int rc), (2, .int fd), (3, .long mo)]) hF dX5_last_4 (by decide) rfl rfl ?_
  refine vr_sub [2, 3, 4, 5, 1, 0] rfl ?_
  exact xw_VModel_last_lp6 r t w b rc fd mo h  _ hF hret (tm_n t + 2) 1 0 (by omega) (by omega) (by omega) rfl
def rm_xw_VModel_act : Room := { frames := 2, cells := 0, slots := 0, locals := 44 }
set_option maxHeartbeats 4000000 in
set_option maxRecDepth 100000 in
theorem xw_VModel_act_lp41 {p : Program} {l : Launch} {e : Env} {s : State} {m : MethodId} {args : Array Value} {below : List Frame} {meth : Method} {c : Code} {A : Nat → Prop} {Q : State → Prop} {g : vr_G} {a : Nat → Nat} (r : vx_R) (t : vm_A) (w : Nat → Bool) (b : vx_B) (rc : Int32) (fd : Int32) (v : Int64) (vd : Int64) (kn : Int64) (h : vm_ok r t b) (k0 : Nat) (hk00 : k0 ≤ 20) (ans : Int32) (P : vm_A) (hF : vr_F p s m c cX5_act 10 args wsX5_act yX5_act.cls g.1 (vr_tys g) A) (hret : vr_RtI p l e rm_xw_VModel_act s m args below meth c cX5_act g.1 A 10 0 0 Q (vm_w g a r P w b) ans) : ∀ (n : Nat) (k : Nat), (tm_n t + 1 < k + n) → (k ≤ tm_n t + 1) → (1 ≤ k) → (ans = nI (mm_finN r t k0 fd v (mm_find t (nI k0) fd v vd kn n k))) → (P = mm_finT r t k0 fd v vd kn (mm_find t (nI k0) fd v vd kn n k)) → vr_W p l e rm_xw_VModel_act s m args below meth c g.1 A 10 0 0 Q (vm_w g a r t w b) 41 [(0, .ref (a 0)), (1, .int (nI k0)), (2, .int fd), (3, .long v), (5, .long vd), (7, .long kn), (9, .int (nI k))] [] := by
  obtain ⟨hrn, htn, hbn⟩ := id h
  intro n
  induction n with
  | zero => intro k hk1 hk2 hk0 hans hans2; exact absurd hk1 (by omega)
  | succ n ih =>
    intro k hk1 hk2 hk0 hans hans2
    refine vr_iload hF 6 rfl dX5_act_41 rfl ?_
    refine vr_aload_n hF 0 rfl dX5_act_43 rfl rfl ?_
    refine vr_get (v := .int (nI (tm_n t))) hF 0 5 (vr_in inX5) (vr_m flX5_53) rfl (by decide) rfl rfl rfl dX5_act_44 rfl ?_
    refine vr_icmp_gtN (tgt := 130) (x := k) (y := (tm_n t)) hF (by omega) (by omega) dX5_act_47 (by decide) rfl (fun c_47 => ?_) (fun c_47 => ?_)
    · skip
      rw [mm_find, if_pos c_47] at hans hans2
      refine vr_iload_n hF 2 rfl dX5_act_130 rfl rfl ?_
      refine vr_if_ne (tgt := 150) hF dX5_act_131 (by decide) rfl (fun c_131 => ?_) (fun c_131 => ?_)
      · skip
        refine vr_aload_n hF 0 rfl dX5_act_150 rfl rfl ?_
        refine vr_get (v := .int (nI (tm_n t))) hF 0 5 (vr_in inX5) (vr_m flX5_53) rfl (by decide) rfl rfl rfl dX5_act_151 rfl ?_
        refine vr_sipush (v := nI 200) hF dX5_act_154 (by decide +kernel) rfl ?_
        refine vr_icmp_neN (tgt := 162) (x := (tm_n t)) (y := 200) hF (by omega) (by omega) dX5_act_157 (by decide) rfl (fun c_157 => ?_) (fun c_157 => ?_)
        · skip
          refine vr_aload_n hF 0 rfl dX5_act_162 rfl rfl ?_
          refine vr_dup hF dX5_act_163 rfl rfl ?_
          refine vr_get (v := .int (nI (tm_n t))) hF 0 5 (vr_in inX5) (vr_m flX5_53) rfl (by decide) rfl rfl rfl dX5_act_164 rfl ?_
          refine vr_iconst (v := nI 1) hF dX5_act_167 (by decide +kernel) rfl ?_
          refine vr_iadd (v := nI ((tm_n t) + 1)) hF dX5_act_168 (nI_add (tm_n t) 1) rfl ?_
          refine vr_put (ws' := (vm_w g a r (tm_r t, tm_f t, tm_v t, tm_d t, tm_k t, tm_u t, (tm_n t) + 1) w b)) hF 0 5 (vr_in inX5) (vr_m flX5_53) rfl (by decide) rfl rfl tyX5 tyX5_ok nmX5 rfl rfl rfl (Nat.le_of_ble_eq_true rfl) rfl dX5_act_169 rfl ?_
          refine vr_aload_n hF 0 rfl dX5_act_172 rfl rfl ?_
          refine vr_get (v := .ref (a 4)) hF 0 6 (vr_in inX5) (vr_m flX5_20) rfl (by decide) rfl rfl rfl dX5_act_173 rfl ?_
          refine vr_aload_n hF 0 rfl dX5_act_176 rfl rfl ?_
          refine vr_get (v := .int (nI ((tm_n t) + 1))) hF 0 5 (vr_in inX5) (vr_m flX5_53) rfl (by decide) rfl rfl rfl dX5_act_177 rfl ?_
          refine vr_iload_n hF 1 rfl dX5_act_180 rfl rfl ?_
          refine vr_iast (ws' := (vm_w g a r (upd (tm_r t) ((tm_n t) + 1) (nI k0), tm_f t, tm_v t, tm_d t, tm_k t, tm_u t, (tm_n t) + 1) w b)) (i := (tm_n t) + 1) (x := (nI k0)) (n := 201) (f := (tm_r t)) hF 4 0 rfl rfl (by omega) (by decide) rfl dX5_act_181 rfl ?_
          refine vr_aload_n hF 0 rfl dX5_act_182 rfl rfl ?_
          refine vr_get (v := .ref (a 5)) hF 0 7 (vr_in inX5) (vr_m flX5_23) rfl (by decide) rfl rfl rfl dX5_act_183 rfl ?_
          refine vr_aload_n hF 0 rfl dX5_act_186 rfl rfl ?_
          refine vr_get (v := .int (nI ((tm_n t) + 1))) hF 0 5 (vr_in inX5) (vr_m flX5_53) rfl (by decide) rfl rfl rfl dX5_act_187 rfl ?_
          refine vr_iload_n hF 2 rfl dX5_act_190 rfl rfl ?_
          refine vr_iast (ws' := (vm_w g a r (upd (tm_r t) ((tm_n t) + 1) (nI k0), upd (tm_f t) ((tm_n t) + 1) fd, tm_v t, tm_d t, tm_k t, tm_u t, (tm_n t) + 1) w b)) (i := (tm_n t) + 1) (x := fd) (n := 201) (f := (tm_f t)) hF 5 0 rfl rfl (by omega) (by decide) rfl dX5_act_191 rfl ?_
          refine vr_aload_n hF 0 rfl dX5_act_192 rfl rfl ?_
          refine vr_get (v := .ref (a 6)) hF 0 8 (vr_in inX5) (vr_m flX5_26) rfl (by decide) rfl rfl rfl dX5_act_193 rfl ?_
          refine vr_aload_n hF 0 rfl dX5_act_196 rfl rfl ?_
          refine vr_get (v := .int (nI ((tm_n t) + 1))) hF 0 5 (vr_in inX5) (vr_m flX5_53) rfl (by decide) rfl rfl rfl dX5_act_197 rfl ?_
          refine vr_lload_n hF 3 rfl dX5_act_200 rfl rfl ?_
          refine vr_l2i (v := (v).toInt32) hF dX5_act_201 rfl rfl ?_
          refine vr_iast (ws' := (vm_w g a r (upd (tm_r t) ((tm_n t) + 1) (nI k0), upd (tm_f t) ((tm_n t) + 1) fd, upd (tm_v t) ((tm_n t) + 1) ((v).toInt32), tm_d t, tm_k t, tm_u t, (tm_n t) + 1) w b)) (i := (tm_n t) + 1) (x := ((v).toInt32)) (n := 201) (f := (tm_v t)) hF 6 0 rfl rfl (by omega) (by decide) rfl dX5_act_202 rfl ?_
          refine vr_aload_n hF 0 rfl dX5_act_203 rfl rfl ?_
          refine vr_get (v := .ref (a 7)) hF 0 9 (vr_in inX5) (vr_m flX5_29) rfl (by decide) rfl rfl rfl dX5_act_204 rfl ?_
          refine vr_aload_n hF 0 rfl dX5_act_207 rfl rfl ?_
          refine vr_get (v := .int (nI ((tm_n t) + 1))) hF 0 5 (vr_in inX5) (vr_m flX5_53) rfl (by decide) rfl rfl rfl dX5_act_208 rfl ?_
          refine vr_lload hF 4 rfl dX5_act_211 rfl ?_
          refine vr_last (ws' := (vm_w g a r (upd (tm_r t) ((tm_n t) + 1) (nI k0), upd (tm_f t) ((tm_n t) + 1) fd, upd (tm_v t) ((tm_n t) + 1) ((v).toInt32), vp_updL (tm_d t) ((tm_n t) + 1) vd, tm_k t, tm_u t, (tm_n t) + 1) w b)) (i := (tm_n t) + 1) (x := vd) (n := 201) (f := (tm_d t)) hF 7 1 rfl rfl (by omega) (by decide) rfl dX5_act_213 rfl ?_
          refine vr_aload_n hF 0 rfl dX5_act_214 rfl rfl ?_
          refine vr_get (v := .ref (a 8)) hF 0 10 (vr_in inX5) (vr_m flX5_32) rfl (by decide) rfl rfl rfl dX5_act_215 rfl ?_
          refine vr_aload_n hF 0 rfl dX5_act_218 rfl rfl ?_
          refine vr_get (v := .int (nI ((tm_n t) + 1))) hF 0 5 (vr_in inX5) (vr_m flX5_53) rfl (by decide) rfl rfl rfl dX5_act_219 rfl ?_
          refine vr_lload hF 5 rfl dX5_act_222 rfl ?_
          refine vr_last (ws' := (vm_w g a r (upd (tm_r t) ((tm_n t) + 1) (nI k0), upd (tm_f t) ((tm_n t) + 1) fd, upd (tm_v t) ((tm_n t) + 1) ((v).toInt32), vp_updL (tm_d t) ((tm_n t) + 1) vd, vp_updL (tm_k t) ((tm_n t) + 1) kn, tm_u t, (tm_n t) + 1) w b)) (i := (tm_n t) + 1) (x := kn) (n := 201) (f := (tm_k t)) hF 8 1 rfl rfl (by omega) (by decide) rfl dX5_act_224 rfl ?_
          refine vr_aload_n hF 0 rfl dX5_act_225 rfl rfl ?_
          refine vr_get (v := .int (nI ((tm_n t) + 1))) hF 0 5 (vr_in inX5) (vr_m flX5_53) rfl (by decide) rfl rfl rfl dX5_act_226 rfl ?_
          exact vr_retiw hret dX5_act_229 (by rw [hans2]; simp [mm_finT, mm_stop, mm_new, c_131, c_157]) (by rw [hans]; simp [mm_finN, mm_stop, c_131, c_157])
        · skip
          refine vr_iconst (v := nI 0) hF dX5_act_160 (by decide +kernel) rfl ?_
          exact vr_retiw hret dX5_act_161 (by rw [hans2]; simp [mm_finT, mm_stop, c_131, c_157]) (by rw [hans]; simp [mm_finN, mm_stop, c_131, c_157])
      · skip
        refine vr_lload_n hF 3 rfl dX5_act_134 rfl rfl ?_
        refine vr_lconst (v := 1) hF dX5_act_135 rfl rfl ?_
        refine vr_lcmp_ne (tgt := 150) hF dX5_act_136 dX5_act_137 (by decide) rfl (fun c_137 => ?_) (fun c_137 => ?_)
        · skip
          refine vr_aload_n hF 0 rfl dX5_act_150 rfl rfl ?_
          refine vr_get (v := .int (nI (tm_n t))) hF 0 5 (vr_in inX5) (vr_m flX5_53) rfl (by decide) rfl rfl rfl dX5_act_151 rfl ?_
          refine vr_sipush (v := nI 200) hF dX5_act_154 (by decide +kernel) rfl ?_
          refine vr_icmp_neN (tgt := 162) (x := (tm_n t)) (y := 200) hF (by omega) (by omega) dX5_act_157 (by decide) rfl (fun c_157 => ?_) (fun c_157 => ?_)
          · skip
            refine vr_aload_n hF 0 rfl dX5_act_162 rfl rfl ?_
            refine vr_dup hF dX5_act_163 rfl rfl ?_
            refine vr_get (v := .int (nI (tm_n t))) hF 0 5 (vr_in inX5) (vr_m flX5_53) rfl (by decide) rfl rfl rfl dX5_act_164 rfl ?_
            refine vr_iconst (v := nI 1) hF dX5_act_167 (by decide +kernel) rfl ?_
            refine vr_iadd (v := nI ((tm_n t) + 1)) hF dX5_act_168 (nI_add (tm_n t) 1) rfl ?_
            refine vr_put (ws' := (vm_w g a r (tm_r t, tm_f t, tm_v t, tm_d t, tm_k t, tm_u t, (tm_n t) + 1) w b)) hF 0 5 (vr_in inX5) (vr_m flX5_53) rfl (by decide) rfl rfl tyX5 tyX5_ok nmX5 rfl rfl rfl (Nat.le_of_ble_eq_true rfl) rfl dX5_act_169 rfl ?_
            refine vr_aload_n hF 0 rfl dX5_act_172 rfl rfl ?_
            refine vr_get (v := .ref (a 4)) hF 0 6 (vr_in inX5) (vr_m flX5_20) rfl (by decide) rfl rfl rfl dX5_act_173 rfl ?_
            refine vr_aload_n hF 0 rfl dX5_act_176 rfl rfl ?_
            refine vr_get (v := .int (nI ((tm_n t) + 1))) hF 0 5 (vr_in inX5) (vr_m flX5_53) rfl (by decide) rfl rfl rfl dX5_act_177 rfl ?_
            refine vr_iload_n hF 1 rfl dX5_act_180 rfl rfl ?_
            refine vr_iast (ws' := (vm_w g a r (upd (tm_r t) ((tm_n t) + 1) (nI k0), tm_f t, tm_v t, tm_d t, tm_k t, tm_u t, (tm_n t) + 1) w b)) (i := (tm_n t) + 1) (x := (nI k0)) (n := 201) (f := (tm_r t)) hF 4 0 rfl rfl (by omega) (by decide) rfl dX5_act_181 rfl ?_
            refine vr_aload_n hF 0 rfl dX5_act_182 rfl rfl ?_
            refine vr_get (v := .ref (a 5)) hF 0 7 (vr_in inX5) (vr_m flX5_23) rfl (by decide) rfl rfl rfl dX5_act_183 rfl ?_
            refine vr_aload_n hF 0 rfl dX5_act_186 rfl rfl ?_
            refine vr_get (v := .int (nI ((tm_n t) + 1))) hF 0 5 (vr_in inX5) (vr_m flX5_53) rfl (by decide) rfl rfl rfl dX5_act_187 rfl ?_
            refine vr_iload_n hF 2 rfl dX5_act_190 rfl rfl ?_
            refine vr_iast (ws' := (vm_w g a r (upd (tm_r t) ((tm_n t) + 1) (nI k0), upd (tm_f t) ((tm_n t) + 1) fd, tm_v t, tm_d t, tm_k t, tm_u t, (tm_n t) + 1) w b)) (i := (tm_n t) + 1) (x := fd) (n := 201) (f := (tm_f t)) hF 5 0 rfl rfl (by omega) (by decide) rfl dX5_act_191 rfl ?_
            refine vr_aload_n hF 0 rfl dX5_act_192 rfl rfl ?_
            refine vr_get (v := .ref (a 6)) hF 0 8 (vr_in inX5) (vr_m flX5_26) rfl (by decide) rfl rfl rfl dX5_act_193 rfl ?_
            refine vr_aload_n hF 0 rfl dX5_act_196 rfl rfl ?_
            refine vr_get (v := .int (nI ((tm_n t) + 1))) hF 0 5 (vr_in inX5) (vr_m flX5_53) rfl (by decide) rfl rfl rfl dX5_act_197 rfl ?_
            refine vr_lload_n hF 3 rfl dX5_act_200 rfl rfl ?_
            refine vr_l2i (v := (v).toInt32) hF dX5_act_201 rfl rfl ?_
            refine vr_iast (ws' := (vm_w g a r (upd (tm_r t) ((tm_n t) + 1) (nI k0), upd (tm_f t) ((tm_n t) + 1) fd, upd (tm_v t) ((tm_n t) + 1) ((v).toInt32), tm_d t, tm_k t, tm_u t, (tm_n t) + 1) w b)) (i := (tm_n t) + 1) (x := ((v).toInt32)) (n := 201) (f := (tm_v t)) hF 6 0 rfl rfl (by omega) (by decide) rfl dX5_act_202 rfl ?_
            refine vr_aload_n hF 0 rfl dX5_act_203 rfl rfl ?_
            refine vr_get (v := .ref (a 7)) hF 0 9 (vr_in inX5) (vr_m flX5_29) rfl (by decide) rfl rfl rfl dX5_act_204 rfl ?_
            refine vr_aload_n hF 0 rfl dX5_act_207 rfl rfl ?_
            refine vr_get (v := .int (nI ((tm_n t) + 1))) hF 0 5 (vr_in inX5) (vr_m flX5_53) rfl (by decide) rfl rfl rfl dX5_act_208 rfl ?_
            refine vr_lload hF 4 rfl dX5_act_211 rfl ?_
            refine vr_last (ws' := (vm_w g a r (upd (tm_r t) ((tm_n t) + 1) (nI k0), upd (tm_f t) ((tm_n t) + 1) fd, upd (tm_v t) ((tm_n t) + 1) ((v).toInt32), vp_updL (tm_d t) ((tm_n t) + 1) vd, tm_k t, tm_u t, (tm_n t) + 1) w b)) (i := (tm_n t) + 1) (x := vd) (n := 201) (f := (tm_d t)) hF 7 1 rfl rfl (by omega) (by decide) rfl dX5_act_213 rfl ?_
            refine vr_aload_n hF 0 rfl dX5_act_214 rfl rfl ?_
            refine vr_get (v := .ref (a 8)) hF 0 10 (vr_in inX5) (vr_m flX5_32) rfl (by decide) rfl rfl rfl dX5_act_215 rfl ?_
            refine vr_aload_n hF 0 rfl dX5_act_218 rfl rfl ?_
            refine vr_get (v := .int (nI ((tm_n t) + 1))) hF 0 5 (vr_in inX5) (vr_m flX5_53) rfl (by decide) rfl rfl rfl dX5_act_219 rfl ?_
            refine vr_lload hF 5 rfl dX5_act_222 rfl ?_
            refine vr_last (ws' := (vm_w g a r (upd (tm_r t) ((tm_n t) + 1) (nI k0), upd (tm_f t) ((tm_n t) + 1) fd, upd (tm_v t) ((tm_n t) + 1) ((v).toInt32), vp_updL (tm_d t) ((tm_n t) + 1) vd, vp_updL (tm_k t) ((tm_n t) + 1) kn, tm_u t, (tm_n t) + 1) w b)) (i := (tm_n t) + 1) (x := kn) (n := 201) (f := (tm_k t)) hF 8 1 rfl rfl (by omega) (by decide) rfl dX5_act_224 rfl ?_
            refine vr_aload_n hF 0 rfl dX5_act_225 rfl rfl ?_
            refine vr_get (v := .int (nI ((tm_n t) + 1))) hF 0 5 (vr_in inX5) (vr_m flX5_53) rfl (by decide) rfl rfl rfl dX5_act_226 rfl ?_
            exact vr_retiw hret dX5_act_229 (by rw [hans2]; simp [mm_finT, mm_stop, mm_new, c_131, c_137, c_157]) (by rw [hans]; simp [mm_finN, mm_stop, c_131, c_137, c_157])
          · skip
            refine vr_iconst (v := nI 0) hF dX5_act_160 (by decide +kernel) rfl ?_
            exact vr_retiw hret dX5_act_161 (by rw [hans2]; simp [mm_finT, mm_stop, c_131, c_137, c_157]) (by rw [hans]; simp [mm_finN, mm_stop, c_131, c_137, c_157])
        · skip
          refine vr_aload_n hF 0 rfl dX5_act_140 rfl rfl ?_
          refine vr_get (v := .ref (a 1)) hF 0 2 (vr_in inX5) (vr_m flX5_7) rfl (by decide) rfl rfl rfl dX5_act_141 rfl ?_
          refine vr_iload_n hF 1 rfl dX5_act_144 rfl rfl ?_
          refine vr_iald (i := k0) (n := 21) (f := (rr_k r)) hF 1 0 rfl rfl (by omega) (by decide) dX5_act_145 rfl ?_
          refine vr_iconst (v := nI 1) hF dX5_act_146 (by decide +kernel) rfl ?_
          refine vr_icmp_eq (tgt := 160) hF dX5_act_147 (by decide) rfl (fun c_147 => ?_) (fun c_147 => ?_)
          · skip
            refine vr_iconst (v := nI 0) hF dX5_act_160 (by decide +kernel) rfl ?_
            exact vr_retiw hret dX5_act_161 (by rw [hans2]; simp [mm_finT, mm_stop, c_131, c_137, c_147]) (by rw [hans]; simp [mm_finN, mm_stop, c_131, c_137, c_147])
          · skip
            refine vr_aload_n hF 0 rfl dX5_act_150 rfl rfl ?_
            refine vr_get (v := .int (nI (tm_n t))) hF 0 5 (vr_in inX5) (vr_m flX5_53) rfl (by decide) rfl rfl rfl dX5_act_151 rfl ?_
            refine vr_sipush (v := nI 200) hF dX5_act_154 (by decide +kernel) rfl ?_
            refine vr_icmp_neN (tgt := 162) (x := (tm_n t)) (y := 200) hF (by omega) (by omega) dX5_act_157 (by decide) rfl (fun c_157 => ?_) (fun c_157 => ?_)
            · skip
              refine vr_aload_n hF 0 rfl dX5_act_162 rfl rfl ?_
              refine vr_dup hF dX5_act_163 rfl rfl ?_
              refine vr_get (v := .int (nI (tm_n t))) hF 0 5 (vr_in inX5) (vr_m flX5_53) rfl (by decide) rfl rfl rfl dX5_act_164 rfl ?_
              refine vr_iconst (v := nI 1) hF dX5_act_167 (by decide +kernel) rfl ?_
              refine vr_iadd (v := nI ((tm_n t) + 1)) hF dX5_act_168 (nI_add (tm_n t) 1) rfl ?_
              refine vr_put (ws' := (vm_w g a r (tm_r t, tm_f t, tm_v t, tm_d t, tm_k t, tm_u t, (tm_n t) + 1) w b)) hF 0 5 (vr_in inX5) (vr_m flX5_53) rfl (by decide) rfl rfl tyX5 tyX5_ok nmX5 rfl rfl rfl (Nat.le_of_ble_eq_true rfl) rfl dX5_act_169 rfl ?_
              refine vr_aload_n hF 0 rfl dX5_act_172 rfl rfl ?_
              refine vr_get (v := .ref (a 4)) hF 0 6 (vr_in inX5) (vr_m flX5_20) rfl (by decide) rfl rfl rfl dX5_act_173 rfl ?_
              refine vr_aload_n hF 0 rfl dX5_act_176 rfl rfl ?_
              refine vr_get (v := .int (nI ((tm_n t) + 1))) hF 0 5 (vr_in inX5) (vr_m flX5_53) rfl (by decide) rfl rfl rfl dX5_act_177 rfl ?_
              refine vr_iload_n hF 1 rfl dX5_act_180 rfl rfl ?_
              refine vr_iast (ws' := (vm_w g a r (upd (tm_r t) ((tm_n t) + 1) (nI k0), tm_f t, tm_v t, tm_d t, tm_k t, tm_u t, (tm_n t) + 1) w b)) (i := (tm_n t) + 1) (x := (nI k0)) (n := 201) (f := (tm_r t)) hF 4 0 rfl rfl (by omega) (by decide) rfl dX5_act_181 rfl ?_
              refine vr_aload_n hF 0 rfl dX5_act_182 rfl rfl ?_
              refine vr_get (v := .ref (a 5)) hF 0 7 (vr_in inX5) (vr_m flX5_23) rfl (by decide) rfl rfl rfl dX5_act_183 rfl ?_
              refine vr_aload_n hF 0 rfl dX5_act_186 rfl rfl ?_
              refine vr_get (v := .int (nI ((tm_n t) + 1))) hF 0 5 (vr_in inX5) (vr_m flX5_53) rfl (by decide) rfl rfl rfl dX5_act_187 rfl ?_
              refine vr_iload_n hF 2 rfl dX5_act_190 rfl rfl ?_
              refine vr_iast (ws' := (vm_w g a r (upd (tm_r t) ((tm_n t) + 1) (nI k0), upd (tm_f t) ((tm_n t) + 1) fd, tm_v t, tm_d t, tm_k t, tm_u t, (tm_n t) + 1) w b)) (i := (tm_n t) + 1) (x := fd) (n := 201) (f := (tm_f t)) hF 5 0 rfl rfl (by omega) (by decide) rfl dX5_act_191 rfl ?_
              refine vr_aload_n hF 0 rfl dX5_act_192 rfl rfl ?_
              refine vr_get (v := .ref (a 6)) hF 0 8 (vr_in inX5) (vr_m flX5_26) rfl (by decide) rfl rfl rfl dX5_act_193 rfl ?_
              refine vr_aload_n hF 0 rfl dX5_act_196 rfl rfl ?_
              refine vr_get (v := .int (nI ((tm_n t) + 1))) hF 0 5 (vr_in inX5) (vr_m flX5_53) rfl (by decide) rfl rfl rfl dX5_act_197 rfl ?_
              refine vr_lload_n hF 3 rfl dX5_act_200 rfl rfl ?_
              refine vr_l2i (v := (v).toInt32) hF dX5_act_201 rfl rfl ?_
              refine vr_iast (ws' := (vm_w g a r (upd (tm_r t) ((tm_n t) + 1) (nI k0), upd (tm_f t) ((tm_n t) + 1) fd, upd (tm_v t) ((tm_n t) + 1) ((v).toInt32), tm_d t, tm_k t, tm_u t, (tm_n t) + 1) w b)) (i := (tm_n t) + 1) (x := ((v).toInt32)) (n := 201) (f := (tm_v t)) hF 6 0 rfl rfl (by omega) (by decide) rfl dX5_act_202 rfl ?_
              refine vr_aload_n hF 0 rfl dX5_act_203 rfl rfl ?_
              refine vr_get (v := .ref (a 7)) hF 0 9 (vr_in inX5) (vr_m flX5_29) rfl (by decide) rfl rfl rfl dX5_act_204 rfl ?_
              refine vr_aload_n hF 0 rfl dX5_act_207 rfl rfl ?_
              refine vr_get (v := .int (nI ((tm_n t) + 1))) hF 0 5 (vr_in inX5) (vr_m flX5_53) rfl (by decide) rfl rfl rfl dX5_act_208 rfl ?_
              refine vr_lload hF 4 rfl dX5_act_211 rfl ?_
              refine vr_last (ws' := (vm_w g a r (upd (tm_r t) ((tm_n t) + 1) (nI k0), upd (tm_f t) ((tm_n t) + 1) fd, upd (tm_v t) ((tm_n t) + 1) ((v).toInt32), vp_updL (tm_d t) ((tm_n t) + 1) vd, tm_k t, tm_u t, (tm_n t) + 1) w b)) (i := (tm_n t) + 1) (x := vd) (n := 201) (f := (tm_d t)) hF 7 1 rfl rfl (by omega) (by decide) rfl dX5_act_213 rfl ?_
              refine vr_aload_n hF 0 rfl dX5_act_214 rfl rfl ?_
              refine vr_get (v := .ref (a 8)) hF 0 10 (vr_in inX5) (vr_m flX5_32) rfl (by decide) rfl rfl rfl dX5_act_215 rfl ?_
              refine vr_aload_n hF 0 rfl dX5_act_218 rfl rfl ?_
              refine vr_get (v := .int (nI ((tm_n t) + 1))) hF 0 5 (vr_in inX5) (vr_m flX5_53) rfl (by decide) rfl rfl rfl dX5_act_219 rfl ?_
              refine vr_lload hF 5 rfl dX5_act_222 rfl ?_
              refine vr_last (ws' := (vm_w g a r (upd (tm_r t) ((tm_n t) + 1) (nI k0), upd (tm_f t) ((tm_n t) + 1) fd, upd (tm_v t) ((tm_n t) + 1) ((v).toInt32), vp_updL (tm_d t) ((tm_n t) + 1) vd, vp_updL (tm_k t) ((tm_n t) + 1) kn, tm_u t, (tm_n t) + 1) w b)) (i := (tm_n t) + 1) (x := kn) (n := 201) (f := (tm_k t)) hF 8 1 rfl rfl (by omega) (by decide) rfl dX5_act_224 rfl ?_
              refine vr_aload_n hF 0 rfl dX5_act_225 rfl rfl ?_
              refine vr_get (v := .int (nI ((tm_n t) + 1))) hF 0 5 (vr_in inX5) (vr_m flX5_53) rfl (by decide) rfl rfl rfl dX5_act_226 rfl ?_
              exact vr_retiw hret dX5_act_229 (by rw [hans2]; simp [mm_finT, mm_stop, mm_new, c_131, c_137, c_147, c_157]) (by rw [hans]; simp [mm_finN, mm_stop, c_131, c_137, c_147, c_157])
            · skip
              refine vr_iconst (v := nI 0) hF dX5_act_160 (by decide +kernel) rfl ?_
              exact vr_retiw hret dX5_act_161 (by rw [hans2]; simp [mm_finT, mm_stop, c_131, c_137, c_147, c_157]) (by rw [hans]; simp [mm_finN, mm_stop, c_131, c_137, c_147, c_157])
    · skip
      refine vr_aload_n hF 0 rfl dX5_act_50 rfl rfl ?_
      refine vr_get (v := .ref (a 9)) hF 0 11 (vr_in inX5) (vr_m flX5_35) rfl (by decide) rfl rfl rfl dX5_act_51 rfl ?_
      refine vr_iload hF 6 rfl dX5_act_54 rfl ?_
      refine vr_zald (i := k) (n := 201) (f := (fun j => vr_b ((tm_u t) j))) hF 9 2 rfl rfl (by omega) (by decide) dX5_act_56 rfl ?_
      refine vr_to (ws' := (vm_w g a r t w b)) (lv' := [(0, .ref (a 0)), (1, .int (nI k0)), (2, .int fd), (3, .long v), (5, .long vd), (7, .long kn), (9, .int (nI k))]) (st' := [.int (vr_b ((tm_u t) k))]) rfl rfl rfl ?_
      refine vr_if_neB (tgt := 124) hF dX5_act_57 (by decide) rfl (fun c_57 => ?_) (fun c_57 => ?_)
      · skip
        refine vr_iinc (lv' := [(9, .int (nI (k + 1))), (0, .ref (a 0)), (1, .int (nI k0)), (2, .int fd), (3, .long v), (5, .long vd), (7, .long kn)]) hF (nI (k + 1)) 6 rfl dX5_act_124 (nI_1 k) (by decide) rfl rfl ?_
        refine vr_goto (tgt := 41) hF dX5_act_127 (by decide) ?_
        refine vr_sub [1, 2, 3, 4, 5, 6, 0] rfl ?_
        exact ih (k + 1) (by omega) (by omega) (by omega) (by rw [hans, mm_find]; simp [mm_same, c_47, c_57]) (by rw [hans2, mm_find]; simp [mm_same, c_47, c_57])
      · skip
        refine vr_aload_n hF 0 rfl dX5_act_60 rfl rfl ?_
        refine vr_get (v := .ref (a 4)) hF 0 6 (vr_in inX5) (vr_m flX5_20) rfl (by decide) rfl rfl rfl dX5_act_61 rfl ?_
        refine vr_iload hF 6 rfl dX5_act_64 rfl ?_
        refine vr_iald (i := k) (n := 201) (f := (tm_r t)) hF 4 0 rfl rfl (by omega) (by decide) dX5_act_66 rfl ?_
        refine vr_iload_n hF 1 rfl dX5_act_67 rfl rfl ?_
        refine vr_icmp_ne (tgt := 124) hF dX5_act_68 (by decide) rfl (fun c_68 => ?_) (fun c_68 => ?_)
        · skip
          refine vr_iinc (lv' := [(9, .int (nI (k + 1))), (0, .ref (a 0)), (1, .int (nI k0)), (2, .int fd), (3, .long v), (5, .long vd), (7, .long kn)]) hF (nI (k + 1)) 6 rfl dX5_act_124 (nI_1 k) (by decide) rfl rfl ?_
          refine vr_goto (tgt := 41) hF dX5_act_127 (by decide) ?_
          refine vr_sub [1, 2, 3, 4, 5, 6, 0] rfl ?_
          exact ih (k + 1) (by omega) (by omega) (by omega) (by rw [hans, mm_find]; simp [mm_same, c_47, c_57, c_68]) (by rw [hans2, mm_find]; simp [mm_same, c_47, c_57, c_68])
        · skip
          refine vr_aload_n hF 0 rfl dX5_act_71 rfl rfl ?_
          refine vr_get (v := .ref (a 5)) hF 0 7 (vr_in inX5) (vr_m flX5_23) rfl (by decide) rfl rfl rfl dX5_act_72 rfl ?_
          refine vr_iload hF 6 rfl dX5_act_75 rfl ?_
          refine vr_iald (i := k) (n := 201) (f := (tm_f t)) hF 5 0 rfl rfl (by omega) (by decide) dX5_act_77 rfl ?_
          refine vr_iload_n hF 2 rfl dX5_act_78 rfl rfl ?_
          refine vr_icmp_ne (tgt := 124) hF dX5_act_79 (by decide) rfl (fun c_79 => ?_) (fun c_79 => ?_)
          · skip
            refine vr_iinc (lv' := [(9, .int (nI (k + 1))), (0, .ref (a 0)), (1, .int (nI k0)), (2, .int fd), (3, .long v), (5, .long vd), (7, .long kn)]) hF (nI (k + 1)) 6 rfl dX5_act_124 (nI_1 k) (by decide) rfl rfl ?_
            refine vr_goto (tgt := 41) hF dX5_act_127 (by decide) ?_
            refine vr_sub [1, 2, 3, 4, 5, 6, 0] rfl ?_
            exact ih (k + 1) (by omega) (by omega) (by omega) (by rw [hans, mm_find]; simp [mm_same, c_47, c_57, c_68, c_79]) (by rw [hans2, mm_find]; simp [mm_same, c_47, c_57, c_68, c_79])
          · skip
            refine vr_aload_n hF 0 rfl dX5_act_82 rfl rfl ?_
            refine vr_get (v := .ref (a 6)) hF 0 8 (vr_in inX5) (vr_m flX5_26) rfl (by decide) rfl rfl rfl dX5_act_83 rfl ?_
            refine vr_iload hF 6 rfl dX5_act_86 rfl ?_
            refine vr_iald (i := k) (n := 201) (f := (tm_v t)) hF 6 0 rfl rfl (by omega) (by decide) dX5_act_88 rfl ?_
            refine vr_i2l (v := ((tm_v t) k).toInt64) hF dX5_act_89 rfl rfl ?_
            refine vr_lload_n hF 3 rfl dX5_act_90 rfl rfl ?_
            refine vr_lcmp_ne (tgt := 124) hF dX5_act_91 dX5_act_92 (by decide) rfl (fun c_92 => ?_) (fun c_92 => ?_)
            · skip
              refine vr_iinc (lv' := [(9, .int (nI (k + 1))), (0, .ref (a 0)), (1, .int (nI k0)), (2, .int fd), (3, .long v), (5, .long vd), (7, .long kn)]) hF (nI (k + 1)) 6 rfl dX5_act_124 (nI_1 k) (by decide) rfl rfl ?_
              refine vr_goto (tgt := 41) hF dX5_act_127 (by decide) ?_
              refine vr_sub [1, 2, 3, 4, 5, 6, 0] rfl ?_
              exact ih (k + 1) (by omega) (by omega) (by omega) (by rw [hans, mm_find]; simp [mm_same, c_47, c_57, c_68, c_79, c_92]) (by rw [hans2, mm_find]; simp [mm_same, c_47, c_57, c_68, c_79, c_92])
            · skip
              refine vr_aload_n hF 0 rfl dX5_act_95 rfl rfl ?_
              refine vr_get (v := .ref (a 7)) hF 0 9 (vr_in inX5) (vr_m flX5_29) rfl (by decide) rfl rfl rfl dX5_act_96 rfl ?_
              refine vr_iload hF 6 rfl dX5_act_99 rfl ?_
              refine vr_lald (i := k) (n := 201) (f := (tm_d t)) hF 7 1 rfl rfl (by omega) (by decide) dX5_act_101 rfl ?_
              refine vr_lload hF 4 rfl dX5_act_102 rfl ?_
              refine vr_lcmp_ne (tgt := 124) hF dX5_act_104 dX5_act_105 (by decide) rfl (fun c_105 => ?_) (fun c_105 => ?_)
              · skip
                refine vr_iinc (lv' := [(9, .int (nI (k + 1))), (0, .ref (a 0)), (1, .int (nI k0)), (2, .int fd), (3, .long v), (5, .long vd), (7, .long kn)]) hF (nI (k + 1)) 6 rfl dX5_act_124 (nI_1 k) (by decide) rfl rfl ?_
                refine vr_goto (tgt := 41) hF dX5_act_127 (by decide) ?_
                refine vr_sub [1, 2, 3, 4, 5, 6, 0] rfl ?_
                exact ih (k + 1) (by omega) (by omega) (by omega) (by rw [hans, mm_find]; simp [mm_same, c_47, c_57, c_68, c_79, c_92, c_105]) (by rw [hans2, mm_find]; simp [mm_same, c_47, c_57, c_68, c_79, c_92, c_105])
              · skip
                refine vr_aload_n hF 0 rfl dX5_act_108 rfl rfl ?_
                refine vr_get (v := .ref (a 8)) hF 0 10 (vr_in inX5) (vr_m flX5_32) rfl (by decide) rfl rfl rfl dX5_act_109 rfl ?_
                refine vr_iload hF 6 rfl dX5_act_112 rfl ?_
                refine vr_lald (i := k) (n := 201) (f := (tm_k t)) hF 8 1 rfl rfl (by omega) (by decide) dX5_act_114 rfl ?_
                refine vr_lload hF 5 rfl dX5_act_115 rfl ?_
                refine vr_lcmp_ne (tgt := 124) hF dX5_act_117 dX5_act_118 (by decide) rfl (fun c_118 => ?_) (fun c_118 => ?_)
                · skip
                  refine vr_iinc (lv' := [(9, .int (nI (k + 1))), (0, .ref (a 0)), (1, .int (nI k0)), (2, .int fd), (3, .long v), (5, .long vd), (7, .long kn)]) hF (nI (k + 1)) 6 rfl dX5_act_124 (nI_1 k) (by decide) rfl rfl ?_
                  refine vr_goto (tgt := 41) hF dX5_act_127 (by decide) ?_
                  refine vr_sub [1, 2, 3, 4, 5, 6, 0] rfl ?_
                  exact ih (k + 1) (by omega) (by omega) (by omega) (by rw [hans, mm_find]; simp [mm_same, c_47, c_57, c_68, c_79, c_92, c_105, c_118]) (by rw [hans2, mm_find]; simp [mm_same, c_47, c_57, c_68, c_79, c_92, c_105, c_118])
                · skip
                  refine vr_iload hF 6 rfl dX5_act_121 rfl ?_
                  exact vr_retiw hret dX5_act_123 (by rw [hans2, mm_find]; simp [mm_same, mm_finT, c_47, c_57, c_68, c_79, c_92, c_105, c_118, show ¬ k = 0 by omega]) (by rw [hans, mm_find]; simp [mm_same, mm_finN, c_47, c_57, c_68, c_79, c_92, c_105, c_118, show ¬ k = 0 by omega])
set_option maxHeartbeats 4000000 in
set_option maxRecDepth 100000 in
theorem xc_VModel_act (l : Launch) (g : vr_G) (a : Nat → Nat) (r : vx_R) (t : vm_A) (w : Nat → Bool) (b : vx_B) (rc : Int32) (fd : Int32) (v : Int64) (vd : Int64) (kn : Int64) (h : vm_ok r t b) : vr_Ci l yX5_act wsX5_act rm_xw_VModel_act g.1 (vr_tys g) [.ref (a 0), .int rc, .int fd, .long v, .long vd, .long kn] (vm_w g a r t w b) (vm_w g a r (mm_actT r t rc fd v vd kn) w b) (nI (mm_actN r t rc fd v vd kn)) := by
  obtain ⟨hrn, htn, hbn⟩ := id h
  refine vr_Ci_mk (cc := cX5_act) (nL := 10) (ty := .int) rfl (by decide) rfl (Nat.le_of_ble_eq_true rfl) ?_
  intro p e s m args below meth c A Q hF hret
  refine vr_to (ws' := (vm_w g a r t w b)) (lv' := [(0, .ref (a 0)), (1, .int rc), (2, .int fd), (3, .long v), (5, .long vd), (7, .long kn)]) (st' := []) rfl rfl rfl ?_
  refine vr_aload_n hF 0 rfl dX5_act_0 rfl rfl ?_
  refine vr_iconst (v := nI 0) hF dX5_act_1 (by decide +kernel) rfl ?_
  refine vr_put (ws' := (vm_w g a r t w b)) hF 0 0 (vr_in inX5) (vr_m flX5_46) rfl (by decide) rfl rfl tyX5 tyX5_ok nmX5 rfl rfl rfl (Nat.le_of_ble_eq_true rfl) rfl dX5_act_2 rfl ?_
  refine vr_aload_n hF 0 rfl dX5_act_5 rfl rfl ?_
  refine vr_iload_n hF 1 rfl dX5_act_6 rfl rfl ?_
  refine vr_iload_n hF 2 rfl dX5_act_7 rfl rfl ?_
  refine vr_callV_Ci (rest := []) (n0 := 2) hF (xc_VModel_isField l g a r t w b rc fd) (vr_gV vr_hbc mlX5_66 imX5_isField seX5_isField iniX5 cdX5_isField) rfl (by decide +kernel) rfl rfl rfl ⟨Nat.le_of_ble_eq_true rfl, Nat.le_of_ble_eq_true rfl⟩ ⟨Nat.zero_le _, Nat.zero_le _⟩ 0 rfl rfl rfl (Nat.le_of_ble_eq_true rfl) dX5_act_8 rfl ?_
  refine vr_if_eqB (tgt := 36) hF dX5_act_11 (by decide) rfl (fun c_11 => ?_) (fun c_11 => ?_)
  · skip
    refine vr_iconst (v := nI 0) hF dX5_act_36 (by decide +kernel) rfl ?_
    exact vr_retiw hret dX5_act_37 (by simp [mm_actN, mm_actT, mm_actOk, vr_bt, vr_bf, c_11]) (by simp [mm_actN, mm_actT, mm_actOk, vr_bt, vr_bf, c_11])
  · skip
    obtain ⟨k, hk1, hk2, rfl⟩ := vx_has_of (n := rr_n r) (by omega) (mm_isF_has c_11)
    have hcl : (nI k).toNatClampNeg = k := nI_clamp (by omega)
    refine vr_lload_n hF 3 rfl dX5_act_14 rfl rfl ?_
    refine vr_lconst (v := 0) hF dX5_act_15 rfl rfl ?_
    refine vr_lcmp_lt (tgt := 36) hF dX5_act_16 dX5_act_17 (by decide) rfl (fun c_17 => ?_) (fun c_17 => ?_)
    · skip
      refine vr_iconst (v := nI 0) hF dX5_act_36 (by decide +kernel) rfl ?_
      exact vr_retiw hret dX5_act_37 (by simp [mm_actN, mm_actT, mm_actOk, vr_bt, vr_bf, c_11, c_17, hcl]) (by simp [mm_actN, mm_actT, mm_actOk, vr_bt, vr_bf, c_11, c_17, hcl])
    · skip
      refine vr_lload_n hF 3 rfl dX5_act_20 rfl rfl ?_
      refine vr_ldc2 (v := 2147483647) hF (vr_m kX5_70) dX5_act_21 rfl ?_
      refine vr_lcmp_gt (tgt := 36) hF dX5_act_24 dX5_act_25 (by decide) rfl (fun c_25 => ?_) (fun c_25 => ?_)
      · skip
        refine vr_iconst (v := nI 0) hF dX5_act_36 (by decide +kernel) rfl ?_
        exact vr_retiw hret dX5_act_37 (by simp [mm_actN, mm_actT, mm_actOk, vr_bt, vr_bf, c_11, c_17, c_25, hcl]) (by simp [mm_actN, mm_actT, mm_actOk, vr_bt, vr_bf, c_11, c_17, c_25, hcl])
      · skip
        refine vr_aload_n hF 0 rfl dX5_act_28 rfl rfl ?_
        refine vr_iload_n hF 1 rfl dX5_act_29 rfl rfl ?_
        refine vr_callV_Ci (rest := []) (n0 := 1) hF (xc_VModel_isLocked l g a r t w b k h (by omega)) (vr_gV vr_hbc mlX5_72 imX5_isLocked seX5_isLocked iniX5 cdX5_isLocked) rfl (by decide +kernel) rfl rfl rfl ⟨Nat.le_of_ble_eq_true rfl, Nat.le_of_ble_eq_true rfl⟩ ⟨Nat.zero_le _, Nat.zero_le _⟩ 0 rfl rfl rfl (Nat.le_of_ble_eq_true rfl) dX5_act_30 rfl ?_
        refine vr_if_eqB (tgt := 38) hF dX5_act_33 (by decide) rfl (fun c_33 => ?_) (fun c_33 => ?_)
        · skip
          refine vr_iconst (v := nI 1) hF dX5_act_38 (by decide +kernel) rfl ?_
          refine vr_istore (lv' := [(9, .int (nI 1)), (0, .ref (a 0)), (1, .int (nI k)), (2, .int fd), (3, .long v), (5, .long vd), (7, .long kn)]) hF dX5_act_39 (by decide) rfl rfl ?_
          have hk20 : k ≤ 20 := by omega
          refine vr_sub [1, 2, 3, 4, 5, 6, 0] rfl ?_
          exact xw_VModel_act_lp41 r t w b (nI k) fd v vd kn h k hk20 _ _ hF hret (tm_n t + 2) 1 (by omega) (by omega) (by omega) (by simp [mm_actN, mm_actOk, hcl, c_11, c_17, c_25, c_33]) (by simp [mm_actT, mm_actOk, hcl, c_11, c_17, c_25, c_33])
        · skip
          refine vr_iconst (v := nI 0) hF dX5_act_36 (by decide +kernel) rfl ?_
          exact vr_retiw hret dX5_act_37 (by simp [mm_actN, mm_actT, mm_actOk, vr_bt, vr_bf, c_11, c_17, c_25, c_33, hcl]) (by simp [mm_actN, mm_actT, mm_actOk, vr_bt, vr_bf, c_11, c_17, c_25, c_33, hcl])
def rm_xw_VModel_at : Room := { frames := 2, cells := 0, slots := 0, locals := 49 }
set_option maxHeartbeats 4000000 in
set_option maxRecDepth 100000 in
theorem xc_VModel_at (l : Launch) (g : vr_G) (a : Nat → Nat) (r : vx_R) (t : vm_A) (w : Nat → Bool) (b : vx_B) (rc : Int32) (fd : Int32) (mo : Int64) (h : vm_ok r t b) : vr_Ci l yX5_at wsX5_at rm_xw_VModel_at g.1 (vr_tys g) [.ref (a 0), .int rc, .int fd, .long mo] (vm_w g a r t w b) (vm_w g a r t w b) (mm_at r t rc fd mo) := by
  obtain ⟨hrn, htn, hbn⟩ := id h
  refine vr_Ci_mk (cc := cX5_at) (nL := 6) (ty := .int) rfl (by decide) rfl (Nat.le_of_ble_eq_true rfl) ?_
  intro p e s m args below meth c A Q hF hret
  refine vr_to (ws' := (vm_w g a r t w b)) (lv' := [(0, .ref (a 0)), (1, .int rc), (2, .int fd), (3, .long mo)]) (st' := []) rfl rfl rfl ?_
  refine vr_aload_n hF 0 rfl dX5_at_0 rfl rfl ?_
  refine vr_iconst (v := nI 0) hF dX5_at_1 (by decide +kernel) rfl ?_
  refine vr_put (ws' := (vm_w g a r t w b)) hF 0 0 (vr_in inX5) (vr_m flX5_46) rfl (by decide) rfl rfl tyX5 tyX5_ok nmX5 rfl rfl rfl (Nat.le_of_ble_eq_true rfl) rfl dX5_at_2 rfl ?_
  refine vr_aload_n hF 0 rfl dX5_at_5 rfl rfl ?_
  refine vr_iload_n hF 1 rfl dX5_at_6 rfl rfl ?_
  refine vr_iload_n hF 2 rfl dX5_at_7 rfl rfl ?_
  refine vr_callV_Ci (rest := []) (n0 := 2) hF (xc_VModel_isField l g a r t w b rc fd) (vr_gV vr_hbc mlX5_66 imX5_isField seX5_isField iniX5 cdX5_isField) rfl (by decide +kernel) rfl rfl rfl ⟨Nat.le_of_ble_eq_true rfl, Nat.le_of_ble_eq_true rfl⟩ ⟨Nat.zero_le _, Nat.zero_le _⟩ 0 rfl rfl rfl (Nat.le_of_ble_eq_true rfl) dX5_at_8 rfl ?_
  refine vr_if_eqB (tgt := 24) hF dX5_at_11 (by decide) rfl (fun c_11 => ?_) (fun c_11 => ?_)
  · skip
    refine vr_iconst (v := nI 0) hF dX5_at_24 (by decide +kernel) rfl ?_
    refine vr_istore (lv' := [(5, .int (nI 0)), (0, .ref (a 0)), (1, .int rc), (2, .int fd), (3, .long mo)]) hF dX5_at_25 (by decide) rfl rfl ?_
    refine vr_iload hF 0 rfl dX5_at_27 rfl ?_
    refine vr_if_neN (tgt := 36) (x := 0) hF (by omega) dX5_at_29 (by decide) rfl (fun c_29 => ?_) (fun c_29 => ?_)
    · skip
      exact absurd rfl c_29
    · skip
      refine vr_iconst (v := (-1)) hF dX5_at_32 (by decide +kernel) rfl ?_
      refine vr_goto (tgt := 43) hF dX5_at_33 (by decide) ?_
      exact vr_reti hret dX5_at_43 (by simp [mm_at, vr_bt, vr_bf, c_11, c_29])
  · skip
    refine vr_aload_n hF 0 rfl dX5_at_14 rfl rfl ?_
    refine vr_iload_n hF 1 rfl dX5_at_15 rfl rfl ?_
    refine vr_iload_n hF 2 rfl dX5_at_16 rfl rfl ?_
    refine vr_lload_n hF 3 rfl dX5_at_17 rfl rfl ?_
    refine vr_callV_Ci (rest := []) (n0 := 3) hF (xc_VModel_last l g a r t w b rc fd mo h) (vr_gV vr_hbc mlX5_82 imX5_last seX5_last iniX5 cdX5_last) rfl (by decide +kernel) rfl rfl rfl ⟨Nat.le_of_ble_eq_true rfl, Nat.le_of_ble_eq_true rfl⟩ ⟨Nat.zero_le _, Nat.zero_le _⟩ 0 rfl rfl rfl (Nat.le_of_ble_eq_true rfl) dX5_at_18 rfl ?_
    have hfl := mm_last_le t rc fd mo (tm_n t + 2) 1 0 (Nat.zero_le _)
    have hfl : mm_lastT t rc fd mo ≤ tm_n t := hfl
    refine vr_goto (tgt := 25) hF dX5_at_21 (by decide) ?_
    refine vr_istore (lv' := [(5, .int (nI (mm_lastT t rc fd mo))), (0, .ref (a 0)), (1, .int rc), (2, .int fd), (3, .long mo)]) hF dX5_at_25 (by decide) rfl rfl ?_
    refine vr_iload hF 0 rfl dX5_at_27 rfl ?_
    refine vr_if_neN (tgt := 36) (x := (mm_lastT t rc fd mo)) hF (by omega) dX5_at_29 (by decide) rfl (fun c_29 => ?_) (fun c_29 => ?_)
    · skip
      refine vr_aload_n hF 1 rfl dX5_at_36 rfl rfl ?_
      refine vr_get (v := .ref (a 6)) hF 0 8 (vr_in inX5) (vr_m flX5_26) rfl (by decide) rfl rfl rfl dX5_at_37 rfl ?_
      refine vr_iload hF 0 rfl dX5_at_40 rfl ?_
      refine vr_iald (i := mm_lastT t rc fd mo) (n := 201) (f := (tm_v t)) hF 6 0 rfl rfl (by omega) (by decide) dX5_at_42 rfl ?_
      exact vr_reti hret dX5_at_43 (by simp [mm_at, vr_bt, vr_bf, c_11, c_29])
    · skip
      refine vr_iconst (v := (-1)) hF dX5_at_32 (by decide +kernel) rfl ?_
      refine vr_goto (tgt := 43) hF dX5_at_33 (by decide) ?_
      exact vr_reti hret dX5_at_43 (by simp [mm_at, vr_bt, vr_bf, c_11, c_29])
def rm_xw_VModel_stale : Room := { frames := 2, cells := 0, slots := 0, locals := 49 }
set_option maxHeartbeats 4000000 in
set_option maxRecDepth 100000 in
theorem xc_VModel_stale (l : Launch) (g : vr_G) (a : Nat → Nat) (r : vx_R) (t : vm_A) (w : Nat → Bool) (b : vx_B) (rc : Int32) (mo : Int64) (fd : Int32) (h : vm_ok r t b) : vr_Ci l yX5_stale wsX5_stale rm_xw_VModel_stale g.1 (vr_tys g) [.ref (a 0), .int rc, .long mo, .int fd] (vm_w g a r t w b) (vm_w g a r t w b) (mm_stale r t rc mo fd) := by
  obtain ⟨hrn, htn, hbn⟩ := id h
  refine vr_Ci_mk (cc := cX5_stale) (nL := 7) (ty := .int) rfl (by decide) rfl (Nat.le_of_ble_eq_true rfl) ?_
  intro p e s m args below meth c A Q hF hret
  refine vr_to (ws' := (vm_w g a r t w b)) (lv' := [(0, .ref (a 0)), (1, .int rc), (2, .long mo), (4, .int fd)]) (st' := []) rfl rfl rfl ?_
  refine vr_aload_n hF 0 rfl dX5_stale_0 rfl rfl ?_
  refine vr_iconst (v := nI 0) hF dX5_stale_1 (by decide +kernel) rfl ?_
  refine vr_put (ws' := (vm_w g a r t w b)) hF 0 0 (vr_in inX5) (vr_m flX5_46) rfl (by decide) rfl rfl tyX5 tyX5_ok nmX5 rfl rfl rfl (Nat.le_of_ble_eq_true rfl) rfl dX5_stale_2 rfl ?_
  refine vr_aload_n hF 0 rfl dX5_stale_5 rfl rfl ?_
  refine vr_iload_n hF 1 rfl dX5_stale_6 rfl rfl ?_
  refine vr_iload hF 3 rfl dX5_stale_7 rfl ?_
  refine vr_callV_Ci (rest := []) (n0 := 2) hF (xc_VModel_isField l g a r t w b rc fd) (vr_gV vr_hbc mlX5_66 imX5_isField seX5_isField iniX5 cdX5_isField) rfl (by decide +kernel) rfl rfl rfl ⟨Nat.le_of_ble_eq_true rfl, Nat.le_of_ble_eq_true rfl⟩ ⟨Nat.zero_le _, Nat.zero_le _⟩ 0 rfl rfl rfl (Nat.le_of_ble_eq_true rfl) dX5_stale_9 rfl ?_
  refine vr_if_neB (tgt := 17) hF dX5_stale_12 (by decide) rfl (fun c_12 => ?_) (fun c_12 => ?_)
  · skip
    refine vr_aload_n hF 0 rfl dX5_stale_17 rfl rfl ?_
    refine vr_iload_n hF 1 rfl dX5_stale_18 rfl rfl ?_
    refine vr_iload hF 3 rfl dX5_stale_19 rfl ?_
    refine vr_lload_n hF 2 rfl dX5_stale_21 rfl rfl ?_
    refine vr_callV_Ci (rest := []) (n0 := 3) hF (xc_VModel_last l g a r t w b rc fd mo h) (vr_gV vr_hbc mlX5_82 imX5_last seX5_last iniX5 cdX5_last) rfl (by decide +kernel) rfl rfl rfl ⟨Nat.le_of_ble_eq_true rfl, Nat.le_of_ble_eq_true rfl⟩ ⟨Nat.zero_le _, Nat.zero_le _⟩ 0 rfl rfl rfl (Nat.le_of_ble_eq_true rfl) dX5_stale_22 rfl ?_
    refine vr_istore (lv' := [(5, .int (nI (mm_lastT t rc fd mo))), (0, .ref (a 0)), (1, .int rc), (2, .long mo), (4, .int fd)]) hF dX5_stale_25 (by decide) rfl rfl ?_
    refine vr_aload_n hF 1 rfl dX5_stale_27 rfl rfl ?_
    refine vr_iload_n hF 2 rfl dX5_stale_28 rfl rfl ?_
    refine vr_iload hF 4 rfl dX5_stale_29 rfl ?_
    refine vr_ldc2 (v := vr_max) hF (vr_m kX5_86) dX5_stale_31 rfl ?_
    refine vr_callV_Ci (rest := []) (n0 := 3) hF (xc_VModel_last l g a r t w b rc fd vr_max h) (vr_gV vr_hbc mlX5_82 imX5_last seX5_last iniX5 cdX5_last) rfl (by decide +kernel) rfl rfl rfl ⟨Nat.le_of_ble_eq_true rfl, Nat.le_of_ble_eq_true rfl⟩ ⟨Nat.zero_le _, Nat.zero_le _⟩ 0 rfl rfl rfl (Nat.le_of_ble_eq_true rfl) dX5_stale_34 rfl ?_
    refine vr_istore (lv' := [(6, .int (nI (mm_lastT t rc fd vr_max))), (5, .int (nI (mm_lastT t rc fd mo))), (0, .ref (a 0)), (1, .int rc), (2, .long mo), (4, .int fd)]) hF dX5_stale_37 (by decide) rfl rfl ?_
    have hf1 : mm_lastT t rc fd vr_max ≤ tm_n t := mm_last_le t rc fd vr_max (tm_n t + 2) 1 0 (Nat.zero_le _)
    have hf2 : mm_lastT t rc fd mo ≤ tm_n t := mm_last_le t rc fd mo (tm_n t + 2) 1 0 (Nat.zero_le _)
    refine vr_iload hF 0 rfl dX5_stale_39 rfl ?_
    refine vr_if_eqN (tgt := 56) (x := (mm_lastT t rc fd vr_max)) hF (by omega) dX5_stale_41 (by decide) rfl (fun c_41 => ?_) (fun c_41 => ?_)
    · skip
      refine vr_iconst (v := nI 1) hF dX5_stale_56 (by decide +kernel) rfl ?_
      exact vr_reti hret dX5_stale_57 (by simp [mm_stale, vr_n0, vr_n1, vr_n2, vr_bt, vr_bf, c_12, c_41])
    · skip
      refine vr_aload_n hF 2 rfl dX5_stale_44 rfl rfl ?_
      refine vr_get (v := .ref (a 8)) hF 0 10 (vr_in inX5) (vr_m flX5_32) rfl (by decide) rfl rfl rfl dX5_stale_45 rfl ?_
      refine vr_iload hF 0 rfl dX5_stale_48 rfl ?_
      refine vr_lald (i := mm_lastT t rc fd vr_max) (n := 201) (f := (tm_k t)) hF 8 1 rfl rfl (by omega) (by decide) dX5_stale_50 rfl ?_
      refine vr_lload_n hF 4 rfl dX5_stale_51 rfl rfl ?_
      refine vr_lcmp_gt (tgt := 58) hF dX5_stale_52 dX5_stale_53 (by decide) rfl (fun c_53 => ?_) (fun c_53 => ?_)
      · skip
        refine vr_iload hF 1 rfl dX5_stale_58 rfl ?_
        refine vr_if_eqN (tgt := 84) (x := (mm_lastT t rc fd mo)) hF (by omega) dX5_stale_60 (by decide) rfl (fun c_60 => ?_) (fun c_60 => ?_)
        · skip
          refine vr_iconst (v := nI 0) hF dX5_stale_84 (by decide +kernel) rfl ?_
          exact vr_reti hret dX5_stale_85 (by simp [mm_stale, vr_n0, vr_n1, vr_n2, vr_bt, vr_bf, c_12, c_41, c_53, c_60])
        · skip
          refine vr_aload_n hF 2 rfl dX5_stale_63 rfl rfl ?_
          refine vr_get (v := .ref (a 6)) hF 0 8 (vr_in inX5) (vr_m flX5_26) rfl (by decide) rfl rfl rfl dX5_stale_64 rfl ?_
          refine vr_iload hF 1 rfl dX5_stale_67 rfl ?_
          refine vr_iald (i := mm_lastT t rc fd mo) (n := 201) (f := (tm_v t)) hF 6 0 rfl rfl (by omega) (by decide) dX5_stale_69 rfl ?_
          refine vr_aload_n hF 2 rfl dX5_stale_70 rfl rfl ?_
          refine vr_get (v := .ref (a 6)) hF 0 8 (vr_in inX5) (vr_m flX5_26) rfl (by decide) rfl rfl rfl dX5_stale_71 rfl ?_
          refine vr_iload hF 0 rfl dX5_stale_74 rfl ?_
          refine vr_iald (i := mm_lastT t rc fd vr_max) (n := 201) (f := (tm_v t)) hF 6 0 rfl rfl (by omega) (by decide) dX5_stale_76 rfl ?_
          refine vr_icmp_ne (tgt := 84) hF dX5_stale_77 (by decide) rfl (fun c_77 => ?_) (fun c_77 => ?_)
          · skip
            refine vr_iconst (v := nI 0) hF dX5_stale_84 (by decide +kernel) rfl ?_
            exact vr_reti hret dX5_stale_85 (by simp [mm_stale, vr_n0, vr_n1, vr_n2, vr_bt, vr_bf, c_12, c_41, c_53, c_60, c_77])
          · skip
            refine vr_iconst (v := nI 2) hF dX5_stale_80 (by decide +kernel) rfl ?_
            refine vr_goto (tgt := 85) hF dX5_stale_81 (by decide) ?_
            exact vr_reti hret dX5_stale_85 (by simp [mm_stale, vr_n0, vr_n1, vr_n2, vr_bt, vr_bf, c_12, c_41, c_53, c_60, c_77])
      · skip
        refine vr_iconst (v := nI 1) hF dX5_stale_56 (by decide +kernel) rfl ?_
        exact vr_reti hret dX5_stale_57 (by simp [mm_stale, vr_n0, vr_n1, vr_n2, vr_bt, vr_bf, c_12, c_41, c_53])
  · skip
    refine vr_iconst (v := (-1)) hF dX5_stale_15 (by decide +kernel) rfl ?_
    exact vr_reti hret dX5_stale_16 (by simp [mm_stale, vr_n0, vr_n1, vr_n2, vr_bt, vr_bf, c_12])
def rm_xw_VModel_isLeantOn : Room := { frames := 0, cells := 0, slots := 0, locals := 0 }
set_option maxHeartbeats 4000000 in
set_option maxRecDepth 100000 in
theorem xw_VModel_isLeantOn_lp5 {p : Program} {l : Launch} {e : Env} {s : State} {m : MethodId} {args : Array Value} {below : List Frame} {meth : Method} {c : Code} {A : Nat → Prop} {Q : State → Prop} {g : vr_G} {a : Nat → Nat} (r : vx_R) (t : vm_A) (w : Nat → Bool) (b : vx_B) (k : Nat) (but : Int32) (h : vm_ok r t b) (hk : k ≤ 200)  (ans : Int32) (hF : vr_F p s m c cX5_isLeantOn 5 args wsX5_isLeantOn yX5_isLeantOn.cls g.1 (vr_tys g) A) (hret : vr_RtI p l e rm_xw_VModel_isLeantOn s m args below meth c cX5_isLeantOn g.1 A 5 0 0 Q (vm_w g a r t w b) ans) : ∀ (n : Nat) (j : Nat) (is : Bool), (tm_n t + 1 < j + n) → (j ≤ tm_n t + 1) → (ans = vr_b (mm_lo t w b k but n j is)) → vr_W p l e rm_xw_VModel_isLeantOn s m args below meth c g.1 A 5 0 0 Q (vm_w g a r t w b) 5 [(0, .ref (a 0)), (1, .int (nI k)), (2, .int but), (3, .int (vr_b is)), (4, .int (nI j))] [] := by
  obtain ⟨hrn, htn, hbn⟩ := id h
  intro n
  induction n with
  | zero => intro j is hj1 hj2 hans; exact absurd hj1 (by omega)
  | succ n ih =>
    intro j is hj1 hj2 hans
    refine vr_iload hF 4 rfl dX5_isLeantOn_5 rfl ?_
    refine vr_aload_n hF 0 rfl dX5_isLeantOn_7 rfl rfl ?_
    refine vr_get (v := .int (nI (tm_n t))) hF 0 5 (vr_in inX5) (vr_m flX5_53) rfl (by decide) rfl rfl rfl dX5_isLeantOn_8 rfl ?_
    refine vr_icmp_gtN (tgt := 71) (x := j) (y := (tm_n t)) hF (by omega) (by omega) dX5_isLeantOn_11 (by decide) rfl (fun c_11 => ?_) (fun c_11 => ?_)
    · skip
      refine vr_iload_n hF 3 rfl dX5_isLeantOn_71 rfl rfl ?_
      exact vr_reti hret dX5_isLeantOn_72 (by rw [hans, mm_lo]; simp [vr_bt, vr_bf, c_11])
    · skip
      refine vr_iload_n hF 3 rfl dX5_isLeantOn_14 rfl rfl ?_
      refine vr_if_neB (tgt := 59) hF dX5_isLeantOn_15 (by decide) rfl (fun c_15 => ?_) (fun c_15 => ?_)
      · skip
        refine vr_iconst (v := nI 1) hF dX5_isLeantOn_59 (by decide +kernel) rfl ?_
        refine vr_goto (tgt := 64) hF dX5_isLeantOn_60 (by decide) ?_
        refine vr_istore_n (lv' := [(3, .int (nI 1)), (0, .ref (a 0)), (1, .int (nI k)), (2, .int but), (4, .int (nI j))]) hF dX5_isLeantOn_64 rfl (by decide) rfl rfl ?_
        refine vr_iinc (lv' := [(4, .int (nI (j + 1))), (3, .int (nI 1)), (0, .ref (a 0)), (1, .int (nI k)), (2, .int but)]) hF (nI (j + 1)) 4 rfl dX5_isLeantOn_65 (nI_1 j) (by decide) rfl rfl ?_
        refine vr_goto (tgt := 5) hF dX5_isLeantOn_68 (by decide) ?_
        refine vr_sub [2, 3, 4, 1, 0] rfl ?_
        exact ih (j + 1) true (by omega) (by omega) (by rw [hans, mm_lo]; simp [mm_l1, c_11, c_15])
      · skip
        refine vr_aload_n hF 0 rfl dX5_isLeantOn_18 rfl rfl ?_
        refine vr_get (v := .ref (a 11)) hF 0 13 (vr_in inX5) (vr_m flX5_43) rfl (by decide) rfl rfl rfl dX5_isLeantOn_19 rfl ?_
        refine vr_sipush (v := nI 201) hF dX5_isLeantOn_22 (by decide +kernel) rfl ?_
        refine vr_iload hF 4 rfl dX5_isLeantOn_25 rfl ?_
        refine vr_imul (v := nI (201 * j)) hF dX5_isLeantOn_27 (pk_mul 201 j) rfl ?_
        refine vr_iload_n hF 1 rfl dX5_isLeantOn_28 rfl rfl ?_
        refine vr_iadd (v := nI ((201 * j) + k)) hF dX5_isLeantOn_29 (nI_add (201 * j) k) rfl ?_
        refine vr_zald (i := (201 * j) + k) (n := 40401) (f := (fun j => vr_b (w j))) hF 11 2 rfl rfl (by omega) (by decide) dX5_isLeantOn_30 rfl ?_
        refine vr_to (ws' := (vm_w g a r t w b)) (lv' := [(0, .ref (a 0)), (1, .int (nI k)), (2, .int but), (3, .int (vr_b is)), (4, .int (nI j))]) (st' := [.int (vr_b (w ((201 * j) + k)))]) rfl rfl rfl ?_
        refine vr_if_eqB (tgt := 63) hF dX5_isLeantOn_31 (by decide) rfl (fun c_31 => ?_) (fun c_31 => ?_)
        · skip
          refine vr_iconst (v := nI 0) hF dX5_isLeantOn_63 (by decide +kernel) rfl ?_
          refine vr_istore_n (lv' := [(3, .int (nI 0)), (0, .ref (a 0)), (1, .int (nI k)), (2, .int but), (4, .int (nI j))]) hF dX5_isLeantOn_64 rfl (by decide) rfl rfl ?_
          refine vr_iinc (lv' := [(4, .int (nI (j + 1))), (3, .int (nI 0)), (0, .ref (a 0)), (1, .int (nI k)), (2, .int but)]) hF (nI (j + 1)) 4 rfl dX5_isLeantOn_65 (nI_1 j) (by decide) rfl rfl ?_
          refine vr_goto (tgt := 5) hF dX5_isLeantOn_68 (by decide) ?_
          refine vr_sub [2, 3, 4, 1, 0] rfl ?_
          exact ih (j + 1) false (by omega) (by omega) (by rw [hans, mm_lo]; simp [mm_l1, c_11, c_15, c_31])
        · skip
          refine vr_aload_n hF 0 rfl dX5_isLeantOn_34 rfl rfl ?_
          refine vr_get (v := .ref (a 9)) hF 0 11 (vr_in inX5) (vr_m flX5_35) rfl (by decide) rfl rfl rfl dX5_isLeantOn_35 rfl ?_
          refine vr_iload hF 4 rfl dX5_isLeantOn_38 rfl ?_
          refine vr_zald (i := j) (n := 201) (f := (fun j => vr_b ((tm_u t) j))) hF 9 2 rfl rfl (by omega) (by decide) dX5_isLeantOn_40 rfl ?_
          refine vr_to (ws' := (vm_w g a r t w b)) (lv' := [(0, .ref (a 0)), (1, .int (nI k)), (2, .int but), (3, .int (vr_b is)), (4, .int (nI j))]) (st' := [.int (vr_b ((tm_u t) j))]) rfl rfl rfl ?_
          refine vr_if_neB (tgt := 63) hF dX5_isLeantOn_41 (by decide) rfl (fun c_41 => ?_) (fun c_41 => ?_)
          · skip
            refine vr_iconst (v := nI 0) hF dX5_isLeantOn_63 (by decide +kernel) rfl ?_
            refine vr_istore_n (lv' := [(3, .int (nI 0)), (0, .ref (a 0)), (1, .int (nI k)), (2, .int but), (4, .int (nI j))]) hF dX5_isLeantOn_64 rfl (by decide) rfl rfl ?_
            refine vr_iinc (lv' := [(4, .int (nI (j + 1))), (3, .int (nI 0)), (0, .ref (a 0)), (1, .int (nI k)), (2, .int but)]) hF (nI (j + 1)) 4 rfl dX5_isLeantOn_65 (nI_1 j) (by decide) rfl rfl ?_
            refine vr_goto (tgt := 5) hF dX5_isLeantOn_68 (by decide) ?_
            refine vr_sub [2, 3, 4, 1, 0] rfl ?_
            exact ih (j + 1) false (by omega) (by omega) (by rw [hans, mm_lo]; simp [mm_l1, c_11, c_15, c_31, c_41])
          · skip
            refine vr_iload_n hF 2 rfl dX5_isLeantOn_44 rfl rfl ?_
            refine vr_if_eq (tgt := 59) hF dX5_isLeantOn_45 (by decide) rfl (fun c_45 => ?_) (fun c_45 => ?_)
            · skip
              refine vr_iconst (v := nI 1) hF dX5_isLeantOn_59 (by decide +kernel) rfl ?_
              refine vr_goto (tgt := 64) hF dX5_isLeantOn_60 (by decide) ?_
              refine vr_istore_n (lv' := [(3, .int (nI 1)), (0, .ref (a 0)), (1, .int (nI k)), (2, .int but), (4, .int (nI j))]) hF dX5_isLeantOn_64 rfl (by decide) rfl rfl ?_
              refine vr_iinc (lv' := [(4, .int (nI (j + 1))), (3, .int (nI 1)), (0, .ref (a 0)), (1, .int (nI k)), (2, .int but)]) hF (nI (j + 1)) 4 rfl dX5_isLeantOn_65 (nI_1 j) (by decide) rfl rfl ?_
              refine vr_goto (tgt := 5) hF dX5_isLeantOn_68 (by decide) ?_
              refine vr_sub [2, 3, 4, 1, 0] rfl ?_
              exact ih (j + 1) true (by omega) (by omega) (by rw [hans, mm_lo]; simp [mm_l1, c_11, c_15, c_31, c_41, c_45])
            · skip
              refine vr_aload_n hF 0 rfl dX5_isLeantOn_48 rfl rfl ?_
              refine vr_get (v := .ref (a 10)) hF 0 12 (vr_in inX5) (vr_m flX5_39) rfl (by decide) rfl rfl rfl dX5_isLeantOn_49 rfl ?_
              refine vr_iload hF 4 rfl dX5_isLeantOn_52 rfl ?_
              refine vr_iald (i := j) (n := 201) (f := (tb_o b)) hF 10 0 rfl rfl (by omega) (by decide) dX5_isLeantOn_54 rfl ?_
              refine vr_iload_n hF 2 rfl dX5_isLeantOn_55 rfl rfl ?_
              refine vr_icmp_eq (tgt := 63) hF dX5_isLeantOn_56 (by decide) rfl (fun c_56 => ?_) (fun c_56 => ?_)
              · skip
                refine vr_iconst (v := nI 0) hF dX5_isLeantOn_63 (by decide +kernel) rfl ?_
                refine vr_istore_n (lv' := [(3, .int (nI 0)), (0, .ref (a 0)), (1, .int (nI k)), (2, .int but), (4, .int (nI j))]) hF dX5_isLeantOn_64 rfl (by decide) rfl rfl ?_
                refine vr_iinc (lv' := [(4, .int (nI (j + 1))), (3, .int (nI 0)), (0, .ref (a 0)), (1, .int (nI k)), (2, .int but)]) hF (nI (j + 1)) 4 rfl dX5_isLeantOn_65 (nI_1 j) (by decide) rfl rfl ?_
                refine vr_goto (tgt := 5) hF dX5_isLeantOn_68 (by decide) ?_
                refine vr_sub [2, 3, 4, 1, 0] rfl ?_
                exact ih (j + 1) false (by omega) (by omega) (by rw [hans, mm_lo]; simp [mm_l1, c_11, c_15, c_31, c_41, c_45, c_56])
              · skip
                refine vr_iconst (v := nI 1) hF dX5_isLeantOn_59 (by decide +kernel) rfl ?_
                refine vr_goto (tgt := 64) hF dX5_isLeantOn_60 (by decide) ?_
                refine vr_istore_n (lv' := [(3, .int (nI 1)), (0, .ref (a 0)), (1, .int (nI k)), (2, .int but), (4, .int (nI j))]) hF dX5_isLeantOn_64 rfl (by decide) rfl rfl ?_
                refine vr_iinc (lv' := [(4, .int (nI (j + 1))), (3, .int (nI 1)), (0, .ref (a 0)), (1, .int (nI k)), (2, .int but)]) hF (nI (j + 1)) 4 rfl dX5_isLeantOn_65 (nI_1 j) (by decide) rfl rfl ?_
                refine vr_goto (tgt := 5) hF dX5_isLeantOn_68 (by decide) ?_
                refine vr_sub [2, 3, 4, 1, 0] rfl ?_
                exact ih (j + 1) true (by omega) (by omega) (by rw [hans, mm_lo]; simp [mm_l1, c_11, c_15, c_31, c_41, c_45, c_56])
set_option maxHeartbeats 4000000 in
set_option maxRecDepth 100000 in
theorem xc_VModel_isLeantOn (l : Launch) (g : vr_G) (a : Nat → Nat) (r : vx_R) (t : vm_A) (w : Nat → Bool) (b : vx_B) (k : Nat) (but : Int32) (h : vm_ok r t b) (hk : k ≤ 200) : vr_Ci l yX5_isLeantOn wsX5_isLeantOn rm_xw_VModel_isLeantOn g.1 (vr_tys g) [.ref (a 0), .int (nI k), .int but] (vm_w g a r t w b) (vm_w g a r t w b) (vr_b (mm_loT t w b k but)) := by
  obtain ⟨hrn, htn, hbn⟩ := id h
  refine vr_Ci_mk (cc := cX5_isLeantOn) (nL := 5) (ty := .boolean) (vr_nz _) (by decide) rfl (Nat.le_of_ble_eq_true rfl) ?_
  intro p e s m args below meth c A Q hF hret
  refine vr_to (ws' := (vm_w g a r t w b)) (lv' := [(0, .ref (a 0)), (1, .int (nI k)), (2, .int but)]) (st' := []) rfl rfl rfl ?_
  refine vr_iconst (v := nI 0) hF dX5_isLeantOn_0 (by decide +kernel) rfl ?_
  refine vr_istore_n (lv' := [(3, .int (nI 0)), (0, .ref (a 0)), (1, .int (nI k)), (2, .int but)]) hF dX5_isLeantOn_1 rfl (by decide) rfl rfl ?_
  refine vr_iconst (v := nI 1) hF dX5_isLeantOn_2 (by decide +kernel) rfl ?_
  refine vr_istore (lv' := [(4, .int (nI 1)), (3, .int (nI 0)), (0, .ref (a 0)), (1, .int (nI k)), (2, .int but)]) hF dX5_isLeantOn_3 (by decide) rfl rfl ?_
  refine vr_sub [2, 3, 4, 1, 0] rfl ?_
  exact xw_VModel_isLeantOn_lp5 r t w b k but h hk  _ hF hret (tm_n t + 2) 1 false (by omega) (by omega) rfl
def rm_xw_VModel_undo : Room := { frames := 1, cells := 0, slots := 0, locals := 24 }
set_option maxHeartbeats 4000000 in
set_option maxRecDepth 100000 in
theorem xc_VModel_undo (l : Launch) (g : vr_G) (a : Nat → Nat) (r : vx_R) (t : vm_A) (w : Nat → Bool) (b : vx_B) (i : Int32) (h : vm_ok r t b) : vr_Ci l yX5_undo wsX5_undo rm_xw_VModel_undo g.1 (vr_tys g) [.ref (a 0), .int i] (vm_w g a r t w b) (vm_w g a r (if mm_undo t w b i = true then tm_setU t (vr_ub (tm_u t) i.toNatClampNeg true) else t) w b) (vr_b (mm_undo t w b i)) := by
  obtain ⟨hrn, htn, hbn⟩ := id h
  refine vr_Ci_mk (cc := cX5_undo) (nL := 2) (ty := .int) rfl (by decide) rfl (Nat.le_of_ble_eq_true rfl) ?_
  intro p e s m args below meth c A Q hF hret
  refine vr_to (ws' := (vm_w g a r t w b)) (lv' := [(0, .ref (a 0)), (1, .int i)]) (st' := []) rfl rfl rfl ?_
  refine vr_aload_n hF 0 rfl dX5_undo_0 rfl rfl ?_
  refine vr_iconst (v := nI 0) hF dX5_undo_1 (by decide +kernel) rfl ?_
  refine vr_put (ws' := (vm_w g a r t w b)) hF 0 0 (vr_in inX5) (vr_m flX5_46) rfl (by decide) rfl rfl tyX5 tyX5_ok nmX5 rfl rfl rfl (Nat.le_of_ble_eq_true rfl) rfl dX5_undo_2 rfl ?_
  refine vr_aload_n hF 0 rfl dX5_undo_5 rfl rfl ?_
  refine vr_iload_n hF 1 rfl dX5_undo_6 rfl rfl ?_
  refine vr_callV_Ci (rest := []) (n0 := 1) hF (xc_VModel_isAct l g a r t w b i) (vr_gV vr_hbc mlX5_88 imX5_isAct seX5_isAct iniX5 cdX5_isAct) rfl (by decide +kernel) rfl rfl rfl ⟨Nat.le_of_ble_eq_true rfl, Nat.le_of_ble_eq_true rfl⟩ ⟨Nat.zero_le _, Nat.zero_le _⟩ 0 rfl rfl rfl (Nat.le_of_ble_eq_true rfl) dX5_undo_7 rfl ?_
  refine vr_if_eqB (tgt := 31) hF dX5_undo_10 (by decide) rfl (fun c_10 => ?_) (fun c_10 => ?_)
  · skip
    refine vr_iconst (v := nI 0) hF dX5_undo_31 (by decide +kernel) rfl ?_
    exact vr_retiw hret dX5_undo_32 (by simp [mm_undo, vr_bt, vr_bf, c_10]) (by simp [mm_undo, vr_bt, vr_bf, c_10])
  · skip
    obtain ⟨k, hk1, hk2, rfl⟩ := vx_has_of (n := tm_n t) (by omega) ((mm_is_has _ _).symm.trans c_10)
    have hclk : (nI k).toNatClampNeg = k := nI_clamp (by omega)
    refine vr_aload_n hF 0 rfl dX5_undo_13 rfl rfl ?_
    refine vr_get (v := .ref (a 9)) hF 0 11 (vr_in inX5) (vr_m flX5_35) rfl (by decide) rfl rfl rfl dX5_undo_14 rfl ?_
    refine vr_iload_n hF 1 rfl dX5_undo_17 rfl rfl ?_
    refine vr_zald (i := k) (n := 201) (f := (fun j => vr_b ((tm_u t) j))) hF 9 2 rfl rfl (by omega) (by decide) dX5_undo_18 rfl ?_
    refine vr_to (ws' := (vm_w g a r t w b)) (lv' := [(0, .ref (a 0)), (1, .int (nI k))]) (st' := [.int (vr_b ((tm_u t) k))]) rfl rfl rfl ?_
    refine vr_if_neB (tgt := 31) hF dX5_undo_19 (by decide) rfl (fun c_19 => ?_) (fun c_19 => ?_)
    · skip
      refine vr_iconst (v := nI 0) hF dX5_undo_31 (by decide +kernel) rfl ?_
      exact vr_retiw hret dX5_undo_32 (by simp [mm_undo, vr_bt, vr_bf, c_10, c_19, hclk]) (by simp [mm_undo, vr_bt, vr_bf, c_10, c_19, hclk])
    · skip
      refine vr_aload_n hF 0 rfl dX5_undo_22 rfl rfl ?_
      refine vr_iload_n hF 1 rfl dX5_undo_23 rfl rfl ?_
      refine vr_iconst (v := nI 0) hF dX5_undo_24 (by decide +kernel) rfl ?_
      refine vr_callV_Ci (rest := []) (n0 := 2) hF (xc_VModel_isLeantOn l g a r t w b k (nI 0) h (by omega)) (vr_gV vr_hbc mlX5_91 imX5_isLeantOn seX5_isLeantOn iniX5 cdX5_isLeantOn) rfl (by decide +kernel) rfl rfl rfl ⟨Nat.le_of_ble_eq_true rfl, Nat.le_of_ble_eq_true rfl⟩ ⟨Nat.zero_le _, Nat.zero_le _⟩ 0 rfl rfl rfl (Nat.le_of_ble_eq_true rfl) dX5_undo_25 rfl ?_
      refine vr_if_eqB (tgt := 33) hF dX5_undo_28 (by decide) rfl (fun c_28 => ?_) (fun c_28 => ?_)
      · skip
        refine vr_aload_n hF 0 rfl dX5_undo_33 rfl rfl ?_
        refine vr_get (v := .ref (a 9)) hF 0 11 (vr_in inX5) (vr_m flX5_35) rfl (by decide) rfl rfl rfl dX5_undo_34 rfl ?_
        refine vr_iload_n hF 1 rfl dX5_undo_37 rfl rfl ?_
        refine vr_iconst (v := nI 1) hF dX5_undo_38 (by decide +kernel) rfl ?_
        refine vr_zastB (ws' := (vm_w g a r (tm_r t, tm_f t, tm_v t, tm_d t, tm_k t, vr_ub (tm_u t) k true, tm_n t) w b)) (i := k) (x := true) (n := 201) (f := (tm_u t)) hF 9 2 rfl rfl (by omega) (by decide) rfl dX5_undo_39 rfl ?_
        refine vr_iconst (v := nI 1) hF dX5_undo_40 (by decide +kernel) rfl ?_
        exact vr_retiw hret dX5_undo_41 (by simp [mm_undo, vr_bt, vr_bf, c_10, c_19, c_28, hclk]) (by simp [mm_undo, vr_bt, vr_bf, c_10, c_19, c_28, hclk])
      · skip
        refine vr_iconst (v := nI 0) hF dX5_undo_31 (by decide +kernel) rfl ?_
        exact vr_retiw hret dX5_undo_32 (by simp [mm_undo, vr_bt, vr_bf, c_10, c_19, c_28, hclk]) (by simp [mm_undo, vr_bt, vr_bf, c_10, c_19, c_28, hclk])
def rm_xw_VModel_lean : Room := { frames := 1, cells := 0, slots := 0, locals := 21 }
set_option maxHeartbeats 4000000 in
set_option maxRecDepth 100000 in
theorem xc_VModel_lean (l : Launch) (g : vr_G) (a : Nat → Nat) (r : vx_R) (t : vm_A) (w : Nat → Bool) (b : vx_B) (i : Int32) (o : Int32) (h : vm_ok r t b) : vr_Ci l yX5_lean wsX5_lean rm_xw_VModel_lean g.1 (vr_tys g) [.ref (a 0), .int i, .int o] (vm_w g a r t w b) (vm_w g a r t (if mm_lean t w i o = true then vr_ub w (201 * i.toNatClampNeg + o.toNatClampNeg) true else w) b) (vr_b (mm_lean t w i o)) := by
  obtain ⟨hrn, htn, hbn⟩ := id h
  refine vr_Ci_mk (cc := cX5_lean) (nL := 3) (ty := .int) rfl (by decide) rfl (Nat.le_of_ble_eq_true rfl) ?_
  intro p e s m args below meth c A Q hF hret
  refine vr_to (ws' := (vm_w g a r t w b)) (lv' := [(0, .ref (a 0)), (1, .int i), (2, .int o)]) (st' := []) rfl rfl rfl ?_
  refine vr_aload_n hF 0 rfl dX5_lean_0 rfl rfl ?_
  refine vr_iconst (v := nI 0) hF dX5_lean_1 (by decide +kernel) rfl ?_
  refine vr_put (ws' := (vm_w g a r t w b)) hF 0 0 (vr_in inX5) (vr_m flX5_46) rfl (by decide) rfl rfl tyX5 tyX5_ok nmX5 rfl rfl rfl (Nat.le_of_ble_eq_true rfl) rfl dX5_lean_2 rfl ?_
  refine vr_aload_n hF 0 rfl dX5_lean_5 rfl rfl ?_
  refine vr_iload_n hF 1 rfl dX5_lean_6 rfl rfl ?_
  refine vr_callV_Ci (rest := []) (n0 := 1) hF (xc_VModel_isAct l g a r t w b i) (vr_gV vr_hbc mlX5_88 imX5_isAct seX5_isAct iniX5 cdX5_isAct) rfl (by decide +kernel) rfl rfl rfl ⟨Nat.le_of_ble_eq_true rfl, Nat.le_of_ble_eq_true rfl⟩ ⟨Nat.zero_le _, Nat.zero_le _⟩ 0 rfl rfl rfl (Nat.le_of_ble_eq_true rfl) dX5_lean_7 rfl ?_
  refine vr_if_eqB (tgt := 41) hF dX5_lean_10 (by decide) rfl (fun c_10 => ?_) (fun c_10 => ?_)
  · skip
    refine vr_iconst (v := nI 0) hF dX5_lean_41 (by decide +kernel) rfl ?_
    exact vr_retiw hret dX5_lean_42 (by simp [mm_lean, vr_bt, vr_bf, c_10]) (by simp [mm_lean, vr_bt, vr_bf, c_10])
  · skip
    obtain ⟨k, hk1, hk2, rfl⟩ := vx_has_of (n := tm_n t) (by omega) ((mm_is_has _ _).symm.trans c_10)
    have hclk : (nI k).toNatClampNeg = k := nI_clamp (by omega)
    refine vr_aload_n hF 0 rfl dX5_lean_13 rfl rfl ?_
    refine vr_iload_n hF 2 rfl dX5_lean_14 rfl rfl ?_
    refine vr_callV_Ci (rest := []) (n0 := 1) hF (xc_VModel_isAct l g a r t w b o) (vr_gV vr_hbc mlX5_88 imX5_isAct seX5_isAct iniX5 cdX5_isAct) rfl (by decide +kernel) rfl rfl rfl ⟨Nat.le_of_ble_eq_true rfl, Nat.le_of_ble_eq_true rfl⟩ ⟨Nat.zero_le _, Nat.zero_le _⟩ 0 rfl rfl rfl (Nat.le_of_ble_eq_true rfl) dX5_lean_15 rfl ?_
    refine vr_if_eqB (tgt := 41) hF dX5_lean_18 (by decide) rfl (fun c_18 => ?_) (fun c_18 => ?_)
    · skip
      refine vr_iconst (v := nI 0) hF dX5_lean_41 (by decide +kernel) rfl ?_
      exact vr_retiw hret dX5_lean_42 (by simp [mm_lean, vr_bt, vr_bf, c_10, c_18, hclk]) (by simp [mm_lean, vr_bt, vr_bf, c_10, c_18, hclk])
    · skip
      obtain ⟨j, hj1, hj2, rfl⟩ := vx_has_of (n := tm_n t) (by omega) ((mm_is_has _ _).symm.trans c_18)
      have hclj : (nI j).toNatClampNeg = j := nI_clamp (by omega)
      refine vr_iload_n hF 2 rfl dX5_lean_21 rfl rfl ?_
      refine vr_iload_n hF 1 rfl dX5_lean_22 rfl rfl ?_
      refine vr_icmp_geN (tgt := 41) (x := j) (y := k) hF (by omega) (by omega) dX5_lean_23 (by decide) rfl (fun c_23 => ?_) (fun c_23 => ?_)
      · skip
        refine vr_iconst (v := nI 0) hF dX5_lean_41 (by decide +kernel) rfl ?_
        exact vr_retiw hret dX5_lean_42 (by simp [mm_lean, vr_bt, vr_bf, c_10, c_18, c_23, hclk, hclj]) (by simp [mm_lean, vr_bt, vr_bf, c_10, c_18, c_23, hclk, hclj])
      · skip
        refine vr_aload_n hF 0 rfl dX5_lean_26 rfl rfl ?_
        refine vr_get (v := .ref (a 11)) hF 0 13 (vr_in inX5) (vr_m flX5_43) rfl (by decide) rfl rfl rfl dX5_lean_27 rfl ?_
        refine vr_sipush (v := nI 201) hF dX5_lean_30 (by decide +kernel) rfl ?_
        refine vr_iload_n hF 1 rfl dX5_lean_33 rfl rfl ?_
        refine vr_imul (v := nI (201 * k)) hF dX5_lean_34 (pk_mul 201 k) rfl ?_
        refine vr_iload_n hF 2 rfl dX5_lean_35 rfl rfl ?_
        refine vr_iadd (v := nI ((201 * k) + j)) hF dX5_lean_36 (nI_add (201 * k) j) rfl ?_
        refine vr_zald (i := (201 * k) + j) (n := 40401) (f := (fun j => vr_b (w j))) hF 11 2 rfl rfl (by omega) (by decide) dX5_lean_37 rfl ?_
        refine vr_to (ws' := (vm_w g a r t w b)) (lv' := [(0, .ref (a 0)), (1, .int (nI k)), (2, .int (nI j))]) (st' := [.int (vr_b (w ((201 * k) + j)))]) rfl rfl rfl ?_
        refine vr_if_eqB (tgt := 43) hF dX5_lean_38 (by decide) rfl (fun c_38 => ?_) (fun c_38 => ?_)
        · skip
          refine vr_aload_n hF 0 rfl dX5_lean_43 rfl rfl ?_
          refine vr_get (v := .ref (a 11)) hF 0 13 (vr_in inX5) (vr_m flX5_43) rfl (by decide) rfl rfl rfl dX5_lean_44 rfl ?_
          refine vr_sipush (v := nI 201) hF dX5_lean_47 (by decide +kernel) rfl ?_
          refine vr_iload_n hF 1 rfl dX5_lean_50 rfl rfl ?_
          refine vr_imul (v := nI (201 * k)) hF dX5_lean_51 (pk_mul 201 k) rfl ?_
          refine vr_iload_n hF 2 rfl dX5_lean_52 rfl rfl ?_
          refine vr_iadd (v := nI ((201 * k) + j)) hF dX5_lean_53 (nI_add (201 * k) j) rfl ?_
          refine vr_iconst (v := nI 1) hF dX5_lean_54 (by decide +kernel) rfl ?_
          refine vr_zastB (ws' := (vm_w g a r t (vr_ub w ((201 * k) + j) true) b)) (i := (201 * k) + j) (x := true) (n := 40401) (f := w) hF 11 2 rfl rfl (by omega) (by decide) rfl dX5_lean_55 rfl ?_
          refine vr_iconst (v := nI 1) hF dX5_lean_56 (by decide +kernel) rfl ?_
          exact vr_retiw hret dX5_lean_57 (by simp [mm_lean, vr_bt, vr_bf, c_10, c_18, c_23, c_38, hclk, hclj]) (by simp [mm_lean, vr_bt, vr_bf, c_10, c_18, c_23, c_38, hclk, hclj])
        · skip
          refine vr_iconst (v := nI 0) hF dX5_lean_41 (by decide +kernel) rfl ?_
          exact vr_retiw hret dX5_lean_42 (by simp [mm_lean, vr_bt, vr_bf, c_10, c_18, c_23, c_38, hclk, hclj]) (by simp [mm_lean, vr_bt, vr_bf, c_10, c_18, c_23, c_38, hclk, hclj])
def rm_xw_VModel_lock : Room := { frames := 2, cells := 0, slots := 0, locals := 44 }
set_option maxHeartbeats 4000000 in
set_option maxRecDepth 100000 in
theorem xc_VModel_lock (l : Launch) (g : vr_G) (a : Nat → Nat) (r : vx_R) (t : vm_A) (w : Nat → Bool) (b : vx_B) (rc : Int32) (who : Int32) (un : Int64) (h : vm_ok r t b) : vr_Ci l yX5_lock wsX5_lock rm_xw_VModel_lock g.1 (vr_tys g) [.ref (a 0), .int rc, .int who, .long un] (vm_w g a r t w b) (vm_w g a (if mm_lock r t rc who = true then xr_lock r rc.toNatClampNeg who un else r) t w b) (vr_b (mm_lock r t rc who)) := by
  obtain ⟨hrn, htn, hbn⟩ := id h
  refine vr_Ci_mk (cc := cX5_lock) (nL := 5) (ty := .int) rfl (by decide) rfl (Nat.le_of_ble_eq_true rfl) ?_
  intro p e s m args below meth c A Q hF hret
  refine vr_to (ws' := (vm_w g a r t w b)) (lv' := [(0, .ref (a 0)), (1, .int rc), (2, .int who), (3, .long un)]) (st' := []) rfl rfl rfl ?_
  refine vr_aload_n hF 0 rfl dX5_lock_0 rfl rfl ?_
  refine vr_iconst (v := nI 0) hF dX5_lock_1 (by decide +kernel) rfl ?_
  refine vr_put (ws' := (vm_w g a r t w b)) hF 0 0 (vr_in inX5) (vr_m flX5_46) rfl (by decide) rfl rfl tyX5 tyX5_ok nmX5 rfl rfl rfl (Nat.le_of_ble_eq_true rfl) rfl dX5_lock_2 rfl ?_
  refine vr_aload_n hF 0 rfl dX5_lock_5 rfl rfl ?_
  refine vr_iload_n hF 1 rfl dX5_lock_6 rfl rfl ?_
  refine vr_callV_Ci (rest := []) (n0 := 1) hF (xc_VModel_isRecord l g a r t w b rc) (vr_gV vr_hbc mlX5_56 imX5_isRecord seX5_isRecord iniX5 cdX5_isRecord) rfl (by decide +kernel) rfl rfl rfl ⟨Nat.le_of_ble_eq_true rfl, Nat.le_of_ble_eq_true rfl⟩ ⟨Nat.zero_le _, Nat.zero_le _⟩ 0 rfl rfl rfl (Nat.le_of_ble_eq_true rfl) dX5_lock_7 rfl ?_
  refine vr_if_eqB (tgt := 31) hF dX5_lock_10 (by decide) rfl (fun c_10 => ?_) (fun c_10 => ?_)
  · skip
    refine vr_iconst (v := nI 0) hF dX5_lock_31 (by decide +kernel) rfl ?_
    exact vr_retiw hret dX5_lock_32 (by simp [mm_lock, xr_lock, vr_bt, vr_bf, c_10]) (by simp [mm_lock, xr_lock, vr_bt, vr_bf, c_10])
  · skip
    obtain ⟨k, hk1, hk2, rfl⟩ := vx_has_of (n := rr_n r) (by omega) ((mm_is_has _ _).symm.trans c_10)
    have hclk : (nI k).toNatClampNeg = k := nI_clamp (by omega)
    refine vr_aload_n hF 0 rfl dX5_lock_13 rfl rfl ?_
    refine vr_iload_n hF 1 rfl dX5_lock_14 rfl rfl ?_
    refine vr_callV_Ci (rest := []) (n0 := 1) hF (xc_VModel_isLocked l g a r t w b k h (by omega)) (vr_gV vr_hbc mlX5_72 imX5_isLocked seX5_isLocked iniX5 cdX5_isLocked) rfl (by decide +kernel) rfl rfl rfl ⟨Nat.le_of_ble_eq_true rfl, Nat.le_of_ble_eq_true rfl⟩ ⟨Nat.zero_le _, Nat.zero_le _⟩ 0 rfl rfl rfl (Nat.le_of_ble_eq_true rfl) dX5_lock_15 rfl ?_
    refine vr_if_eqB (tgt := 33) hF dX5_lock_18 (by decide) rfl (fun c_18 => ?_) (fun c_18 => ?_)
    · skip
      refine vr_aload_n hF 0 rfl dX5_lock_33 rfl rfl ?_
      refine vr_get (v := .ref (a 2)) hF 0 3 (vr_in inX5) (vr_m flX5_13) rfl (by decide) rfl rfl rfl dX5_lock_34 rfl ?_
      refine vr_iload_n hF 1 rfl dX5_lock_37 rfl rfl ?_
      refine vr_iload_n hF 2 rfl dX5_lock_38 rfl rfl ?_
      refine vr_iast (ws' := (vm_w g a (rr_k r, upd (rr_l r) k who, rr_u r, rr_n r) t w b)) (i := k) (x := who) (n := 21) (f := (rr_l r)) hF 2 0 rfl rfl (by omega) (by decide) rfl dX5_lock_39 rfl ?_
      refine vr_aload_n hF 0 rfl dX5_lock_40 rfl rfl ?_
      refine vr_get (v := .ref (a 3)) hF 0 4 (vr_in inX5) (vr_m flX5_16) rfl (by decide) rfl rfl rfl dX5_lock_41 rfl ?_
      refine vr_iload_n hF 1 rfl dX5_lock_44 rfl rfl ?_
      refine vr_lload_n hF 3 rfl dX5_lock_45 rfl rfl ?_
      refine vr_last (ws' := (vm_w g a (rr_k r, upd (rr_l r) k who, vp_updL (rr_u r) k un, rr_n r) t w b)) (i := k) (x := un) (n := 21) (f := (rr_u r)) hF 3 1 rfl rfl (by omega) (by decide) rfl dX5_lock_46 rfl ?_
      refine vr_iconst (v := nI 1) hF dX5_lock_47 (by decide +kernel) rfl ?_
      exact vr_retiw hret dX5_lock_48 (by simp [mm_lock, xr_lock, vr_bt, vr_bf, c_10, c_18, hclk]) (by simp [mm_lock, xr_lock, vr_bt, vr_bf, c_10, c_18, hclk])
    · skip
      refine vr_aload_n hF 0 rfl dX5_lock_21 rfl rfl ?_
      refine vr_get (v := .ref (a 2)) hF 0 3 (vr_in inX5) (vr_m flX5_13) rfl (by decide) rfl rfl rfl dX5_lock_22 rfl ?_
      refine vr_iload_n hF 1 rfl dX5_lock_25 rfl rfl ?_
      refine vr_iald (i := k) (n := 21) (f := (rr_l r)) hF 2 0 rfl rfl (by omega) (by decide) dX5_lock_26 rfl ?_
      refine vr_iload_n hF 2 rfl dX5_lock_27 rfl rfl ?_
      refine vr_icmp_eq (tgt := 33) hF dX5_lock_28 (by decide) rfl (fun c_28 => ?_) (fun c_28 => ?_)
      · skip
        refine vr_aload_n hF 0 rfl dX5_lock_33 rfl rfl ?_
        refine vr_get (v := .ref (a 2)) hF 0 3 (vr_in inX5) (vr_m flX5_13) rfl (by decide) rfl rfl rfl dX5_lock_34 rfl ?_
        refine vr_iload_n hF 1 rfl dX5_lock_37 rfl rfl ?_
        refine vr_iload_n hF 2 rfl dX5_lock_38 rfl rfl ?_
        refine vr_iast (ws' := (vm_w g a (rr_k r, upd (rr_l r) k who, rr_u r, rr_n r) t w b)) (i := k) (x := who) (n := 21) (f := (rr_l r)) hF 2 0 rfl rfl (by omega) (by decide) rfl dX5_lock_39 rfl ?_
        refine vr_aload_n hF 0 rfl dX5_lock_40 rfl rfl ?_
        refine vr_get (v := .ref (a 3)) hF 0 4 (vr_in inX5) (vr_m flX5_16) rfl (by decide) rfl rfl rfl dX5_lock_41 rfl ?_
        refine vr_iload_n hF 1 rfl dX5_lock_44 rfl rfl ?_
        refine vr_lload_n hF 3 rfl dX5_lock_45 rfl rfl ?_
        refine vr_last (ws' := (vm_w g a (rr_k r, upd (rr_l r) k who, vp_updL (rr_u r) k un, rr_n r) t w b)) (i := k) (x := un) (n := 21) (f := (rr_u r)) hF 3 1 rfl rfl (by omega) (by decide) rfl dX5_lock_46 rfl ?_
        refine vr_iconst (v := nI 1) hF dX5_lock_47 (by decide +kernel) rfl ?_
        exact vr_retiw hret dX5_lock_48 (by simp [mm_lock, xr_lock, vr_bt, vr_bf, c_10, c_18, c_28, hclk]) (by simp [mm_lock, xr_lock, vr_bt, vr_bf, c_10, c_18, c_28, hclk])
      · skip
        refine vr_iconst (v := nI 0) hF dX5_lock_31 (by decide +kernel) rfl ?_
        exact vr_retiw hret dX5_lock_32 (by simp [mm_lock, xr_lock, vr_bt, vr_bf, c_10, c_18, c_28, hclk]) (by simp [mm_lock, xr_lock, vr_bt, vr_bf, c_10, c_18, c_28, hclk])
def rm_xw_VModel_batch : Room := { frames := 1, cells := 0, slots := 0, locals := 21 }
set_option maxHeartbeats 4000000 in
set_option maxRecDepth 100000 in
theorem xw_VModel_batch_lp73 {p : Program} {l : Launch} {e : Env} {s : State} {m : MethodId} {args : Array Value} {below : List Frame} {meth : Method} {c : Code} {A : Nat → Prop} {Q : State → Prop} {g : vr_G} {a : Nat → Nat} (r : vx_R) (t : vm_A) (w : Nat → Bool) (b : vx_B) (f : Int32) (to : Int32) (h : vm_ok r t b) (f0 t0 : Nat) (hft : f0 ≤ t0) (ht : t0 ≤ 200) (ans : Int32) (P : Nat → Int32) (hF : vr_F p s m c cX5_batch 4 args wsX5_batch yX5_batch.cls g.1 (vr_tys g) A) (hret : vr_RtI p l e rm_xw_VModel_batch s m args below meth c cX5_batch g.1 A 4 0 0 Q (vm_w g a r t w (P, tb_n b + 1)) ans) : ∀ (n : Nat) (k : Nat) (o : Nat → Int32), (t0 + 1 < k + n) → (k ≤ t0 + 1) → (P = xb_fill (nI (tb_n b + 1)) t0 n k o) → (ans = nI (tb_n b + 1)) → vr_W p l e rm_xw_VModel_batch s m args below meth c g.1 A 4 0 0 Q (vm_w g a r t w (o, tb_n b + 1)) 73 [(0, .ref (a 0)), (1, .int (nI f0)), (2, .int (nI t0)), (3, .int (nI k))] [] := by
  obtain ⟨hrn, htn, hbn⟩ := id h
  intro n
  induction n with
  | zero => intro k o hk1 hk2 hans hans2; exact absurd hk1 (by omega)
  | succ n ih =>
    intro k o hk1 hk2 hans hans2
    refine vr_iload_n hF 3 rfl dX5_batch_73 rfl rfl ?_
    refine vr_iload_n hF 2 rfl dX5_batch_74 rfl rfl ?_
    refine vr_icmp_gtN (tgt := 94) (x := k) (y := t0) hF (by omega) (by omega) dX5_batch_75 (by decide) rfl (fun c_75 => ?_) (fun c_75 => ?_)
    · skip
      refine vr_aload_n hF 0 rfl dX5_batch_94 rfl rfl ?_
      refine vr_get (v := .int (nI (tb_n b + 1))) hF 0 14 (vr_in inX5) (vr_m flX5_94) rfl (by decide) rfl rfl rfl dX5_batch_95 rfl ?_
      exact vr_retiw hret dX5_batch_98 (by rw [hans, xb_fill]; simp [c_75]) hans2.symm
    · skip
      refine vr_aload_n hF 0 rfl dX5_batch_78 rfl rfl ?_
      refine vr_get (v := .ref (a 10)) hF 0 12 (vr_in inX5) (vr_m flX5_39) rfl (by decide) rfl rfl rfl dX5_batch_79 rfl ?_
      refine vr_iload_n hF 3 rfl dX5_batch_82 rfl rfl ?_
      refine vr_aload_n hF 0 rfl dX5_batch_83 rfl rfl ?_
      refine vr_get (v := .int (nI (tb_n b + 1))) hF 0 14 (vr_in inX5) (vr_m flX5_94) rfl (by decide) rfl rfl rfl dX5_batch_84 rfl ?_
      refine vr_iast (ws' := (vm_w g a r t w (upd o k (nI (tb_n b + 1)), tb_n b + 1))) (i := k) (x := (nI (tb_n b + 1))) (n := 201) (f := o) hF 10 0 rfl rfl (by omega) (by decide) rfl dX5_batch_87 rfl ?_
      refine vr_iinc (lv' := [(3, .int (nI (k + 1))), (0, .ref (a 0)), (1, .int (nI f0)), (2, .int (nI t0))]) hF (nI (k + 1)) 3 rfl dX5_batch_88 (nI_1 k) (by decide) rfl rfl ?_
      refine vr_goto (tgt := 73) hF dX5_batch_91 (by decide) ?_
      refine vr_sub [1, 2, 3, 0] rfl ?_
      exact ih (k + 1) (upd o k (nI (tb_n b + 1))) (by omega) (by omega) (by rw [hans, xb_fill]; simp [c_75]) hans2
set_option maxHeartbeats 4000000 in
set_option maxRecDepth 100000 in
theorem xw_VModel_batch_lp39 {p : Program} {l : Launch} {e : Env} {s : State} {m : MethodId} {args : Array Value} {below : List Frame} {meth : Method} {c : Code} {A : Nat → Prop} {Q : State → Prop} {g : vr_G} {a : Nat → Nat} (r : vx_R) (t : vm_A) (w : Nat → Bool) (b : vx_B) (f : Int32) (to : Int32) (h : vm_ok r t b) (f0 t0 : Nat) (hft : f0 ≤ t0) (ht : t0 ≤ 200) (ans : Int32) (P : vx_B) (hF : vr_F p s m c cX5_batch 4 args wsX5_batch yX5_batch.cls g.1 (vr_tys g) A) (hret : vr_RtI p l e rm_xw_VModel_batch s m args below meth c cX5_batch g.1 A 4 0 0 Q (vm_w g a r t w P) ans) : ∀ (n : Nat) (k : Nat), (t0 + 1 < k + n) → (k ≤ t0 + 1) → (ans = nI (mm_batN b f0 t0 n k)) → (P = mm_batB b f0 t0 n k) → vr_W p l e rm_xw_VModel_batch s m args below meth c g.1 A 4 0 0 Q (vm_w g a r t w b) 39 [(0, .ref (a 0)), (1, .int (nI f0)), (2, .int (nI t0)), (3, .int (nI k))] [] := by
  obtain ⟨hrn, htn, hbn⟩ := id h
  intro n
  induction n with
  | zero => intro k hk1 hk2 hans hans2; exact absurd hk1 (by omega)
  | succ n ih =>
    intro k hk1 hk2 hans hans2
    refine vr_iload_n hF 3 rfl dX5_batch_39 rfl rfl ?_
    refine vr_iload_n hF 2 rfl dX5_batch_40 rfl rfl ?_
    refine vr_icmp_gtN (tgt := 61) (x := k) (y := t0) hF (by omega) (by omega) dX5_batch_41 (by decide) rfl (fun c_41 => ?_) (fun c_41 => ?_)
    · skip
      have hz : xb_taken b t0 (n + 1) k = false := by rw [xb_taken]; simp [c_41]
      rw [mm_batN, hz] at hans
      rw [mm_batB, hz] at hans2
      have hans : ans = nI (tb_n b + 1) := hans
      have hans2 : P = (xb_fill (nI (tb_n b + 1)) t0 (t0 + 2) f0 (tb_o b), tb_n b + 1) := hans2
      subst hans; subst hans2
      refine vr_aload_n hF 0 rfl dX5_batch_61 rfl rfl ?_
      refine vr_dup hF dX5_batch_62 rfl rfl ?_
      refine vr_get (v := .int (nI (tb_n b))) hF 0 14 (vr_in inX5) (vr_m flX5_94) rfl (by decide) rfl rfl rfl dX5_batch_63 rfl ?_
      refine vr_iconst (v := nI 1) hF dX5_batch_66 (by decide +kernel) rfl ?_
      refine vr_iadd (v := nI ((tb_n b) + 1)) hF dX5_batch_67 (nI_add (tb_n b) 1) rfl ?_
      refine vr_put (ws' := (vm_w g a r t w (tb_o b, (tb_n b) + 1))) hF 0 14 (vr_in inX5) (vr_m flX5_94) rfl (by decide) rfl rfl tyX5 tyX5_ok nmX5 rfl rfl rfl (Nat.le_of_ble_eq_true rfl) rfl dX5_batch_68 rfl ?_
      refine vr_iload_n hF 1 rfl dX5_batch_71 rfl rfl ?_
      refine vr_istore_n (lv' := [(3, .int (nI f0)), (0, .ref (a 0)), (1, .int (nI f0)), (2, .int (nI t0))]) hF dX5_batch_72 rfl (by decide) rfl rfl ?_
      refine vr_sub [1, 2, 3, 0] rfl ?_
      exact xw_VModel_batch_lp73 r t w b f to h f0 t0 hft ht _ _ hF hret (t0 + 2) f0 (tb_o b) (by omega) (by omega) rfl rfl
    · skip
      refine vr_aload_n hF 0 rfl dX5_batch_44 rfl rfl ?_
      refine vr_get (v := .ref (a 10)) hF 0 12 (vr_in inX5) (vr_m flX5_39) rfl (by decide) rfl rfl rfl dX5_batch_45 rfl ?_
      refine vr_iload_n hF 3 rfl dX5_batch_48 rfl rfl ?_
      refine vr_iald (i := k) (n := 201) (f := (tb_o b)) hF 10 0 rfl rfl (by omega) (by decide) dX5_batch_49 rfl ?_
      refine vr_if_eq (tgt := 55) hF dX5_batch_50 (by decide) rfl (fun c_50 => ?_) (fun c_50 => ?_)
      · skip
        refine vr_iinc (lv' := [(3, .int (nI (k + 1))), (0, .ref (a 0)), (1, .int (nI f0)), (2, .int (nI t0))]) hF (nI (k + 1)) 3 rfl dX5_batch_55 (nI_1 k) (by decide) rfl rfl ?_
        refine vr_goto (tgt := 39) hF dX5_batch_58 (by decide) ?_
        refine vr_sub [1, 2, 3, 0] rfl ?_
        exact ih (k + 1) (by omega) (by omega) (by rw [hans, mm_batN, mm_batN, xb_taken]; simp [c_41, c_50]) (by rw [hans2, mm_batB, mm_batB, xb_taken]; simp [c_41, c_50])
      · skip
        refine vr_iconst (v := nI 0) hF dX5_batch_53 (by decide +kernel) rfl ?_
        exact vr_retiw hret dX5_batch_54 (by rw [hans2, mm_batB, xb_taken]; simp [c_41, c_50]) (by rw [hans, mm_batN, xb_taken]; simp [c_41, c_50])
set_option maxHeartbeats 4000000 in
set_option maxRecDepth 100000 in
theorem xc_VModel_batch (l : Launch) (g : vr_G) (a : Nat → Nat) (r : vx_R) (t : vm_A) (w : Nat → Bool) (b : vx_B) (f : Int32) (to : Int32) (h : vm_ok r t b) : vr_Ci l yX5_batch wsX5_batch rm_xw_VModel_batch g.1 (vr_tys g) [.ref (a 0), .int f, .int to] (vm_w g a r t w b) (vm_w g a r t w (if mm_batOk t b f to = true then mm_batB b f.toNatClampNeg to.toNatClampNeg (to.toNatClampNeg + 2) f.toNatClampNeg else b)) (nI (if mm_batOk t b f to = true then mm_batN b f.toNatClampNeg to.toNatClampNeg (to.toNatClampNeg + 2) f.toNatClampNeg else 0)) := by
  obtain ⟨hrn, htn, hbn⟩ := id h
  refine vr_Ci_mk (cc := cX5_batch) (nL := 4) (ty := .int) rfl (by decide) rfl (Nat.le_of_ble_eq_true rfl) ?_
  intro p e s m args below meth c A Q hF hret
  refine vr_to (ws' := (vm_w g a r t w b)) (lv' := [(0, .ref (a 0)), (1, .int f), (2, .int to)]) (st' := []) rfl rfl rfl ?_
  refine vr_aload_n hF 0 rfl dX5_batch_0 rfl rfl ?_
  refine vr_iconst (v := nI 0) hF dX5_batch_1 (by decide +kernel) rfl ?_
  refine vr_put (ws' := (vm_w g a r t w b)) hF 0 0 (vr_in inX5) (vr_m flX5_46) rfl (by decide) rfl rfl tyX5 tyX5_ok nmX5 rfl rfl rfl (Nat.le_of_ble_eq_true rfl) rfl dX5_batch_2 rfl ?_
  refine vr_aload_n hF 0 rfl dX5_batch_5 rfl rfl ?_
  refine vr_iload_n hF 1 rfl dX5_batch_6 rfl rfl ?_
  refine vr_callV_Ci (rest := []) (n0 := 1) hF (xc_VModel_isAct l g a r t w b f) (vr_gV vr_hbc mlX5_88 imX5_isAct seX5_isAct iniX5 cdX5_isAct) rfl (by decide +kernel) rfl rfl rfl ⟨Nat.le_of_ble_eq_true rfl, Nat.le_of_ble_eq_true rfl⟩ ⟨Nat.zero_le _, Nat.zero_le _⟩ 0 rfl rfl rfl (Nat.le_of_ble_eq_true rfl) dX5_batch_7 rfl ?_
  refine vr_if_eqB (tgt := 35) hF dX5_batch_10 (by decide) rfl (fun c_10 => ?_) (fun c_10 => ?_)
  · skip
    refine vr_iconst (v := nI 0) hF dX5_batch_35 (by decide +kernel) rfl ?_
    exact vr_retiw hret dX5_batch_36 (by simp [mm_batOk, vr_bt, vr_bf, c_10]) (by simp [mm_batOk, vr_bt, vr_bf, c_10])
  · skip
    obtain ⟨k, hk1, hk2, rfl⟩ := vx_has_of (n := tm_n t) (by omega) ((mm_is_has _ _).symm.trans c_10)
    have hclk : (nI k).toNatClampNeg = k := nI_clamp (by omega)
    refine vr_aload_n hF 0 rfl dX5_batch_13 rfl rfl ?_
    refine vr_iload_n hF 2 rfl dX5_batch_14 rfl rfl ?_
    refine vr_callV_Ci (rest := []) (n0 := 1) hF (xc_VModel_isAct l g a r t w b to) (vr_gV vr_hbc mlX5_88 imX5_isAct seX5_isAct iniX5 cdX5_isAct) rfl (by decide +kernel) rfl rfl rfl ⟨Nat.le_of_ble_eq_true rfl, Nat.le_of_ble_eq_true rfl⟩ ⟨Nat.zero_le _, Nat.zero_le _⟩ 0 rfl rfl rfl (Nat.le_of_ble_eq_true rfl) dX5_batch_15 rfl ?_
    refine vr_if_eqB (tgt := 35) hF dX5_batch_18 (by decide) rfl (fun c_18 => ?_) (fun c_18 => ?_)
    · skip
      refine vr_iconst (v := nI 0) hF dX5_batch_35 (by decide +kernel) rfl ?_
      exact vr_retiw hret dX5_batch_36 (by simp [mm_batOk, vr_bt, vr_bf, c_10, c_18, hclk]) (by simp [mm_batOk, vr_bt, vr_bf, c_10, c_18, hclk])
    · skip
      obtain ⟨j, hj1, hj2, rfl⟩ := vx_has_of (n := tm_n t) (by omega) ((mm_is_has _ _).symm.trans c_18)
      have hclj : (nI j).toNatClampNeg = j := nI_clamp (by omega)
      refine vr_iload_n hF 1 rfl dX5_batch_21 rfl rfl ?_
      refine vr_iload_n hF 2 rfl dX5_batch_22 rfl rfl ?_
      refine vr_icmp_gtN (tgt := 35) (x := k) (y := j) hF (by omega) (by omega) dX5_batch_23 (by decide) rfl (fun c_23 => ?_) (fun c_23 => ?_)
      · skip
        refine vr_iconst (v := nI 0) hF dX5_batch_35 (by decide +kernel) rfl ?_
        exact vr_retiw hret dX5_batch_36 (by simp [mm_batOk, vr_bt, vr_bf, c_10, c_18, c_23, hclk, hclj]) (by simp [mm_batOk, vr_bt, vr_bf, c_10, c_18, c_23, hclk, hclj])
      · skip
        refine vr_aload_n hF 0 rfl dX5_batch_26 rfl rfl ?_
        refine vr_get (v := .int (nI (tb_n b))) hF 0 14 (vr_in inX5) (vr_m flX5_94) rfl (by decide) rfl rfl rfl dX5_batch_27 rfl ?_
        refine vr_bipush (v := nI 30) hF dX5_batch_30 (by decide +kernel) rfl ?_
        refine vr_icmp_neN (tgt := 37) (x := (tb_n b)) (y := 30) hF (by omega) (by omega) dX5_batch_32 (by decide) rfl (fun c_32 => ?_) (fun c_32 => ?_)
        · skip
          have hc : mm_batOk t b (nI k) (nI j) = true := by simp [mm_batOk, hclk, hclj, c_10, c_18, c_23, c_32]
          rw [if_pos hc, if_pos hc, hclk, hclj] at hret
          refine vr_iload_n hF 1 rfl dX5_batch_37 rfl rfl ?_
          refine vr_istore_n (lv' := [(3, .int (nI k)), (0, .ref (a 0)), (1, .int (nI k)), (2, .int (nI j))]) hF dX5_batch_38 rfl (by decide) rfl rfl ?_
          have hft : k ≤ j := by omega
          have ht : j ≤ 200 := by omega
          refine vr_sub [1, 2, 3, 0] rfl ?_
          exact xw_VModel_batch_lp39 r t w b (nI k) (nI j) h k j hft ht _ _ hF hret (j + 2) k (by omega) (by omega) rfl rfl
        · skip
          refine vr_iconst (v := nI 0) hF dX5_batch_35 (by decide +kernel) rfl ?_
          exact vr_retiw hret dX5_batch_36 (by simp [mm_batOk, vr_bt, vr_bf, c_10, c_18, c_23, c_32, hclk, hclj]) (by simp [mm_batOk, vr_bt, vr_bf, c_10, c_18, c_23, c_32, hclk, hclj])
def rm_xw_VModel_drop : Room := { frames := 1, cells := 0, slots := 0, locals := 24 }
set_option maxHeartbeats 4000000 in
set_option maxRecDepth 100000 in
theorem xw_VModel_drop_lp95 {p : Program} {l : Launch} {e : Env} {s : State} {m : MethodId} {args : Array Value} {below : List Frame} {meth : Method} {c : Code} {A : Nat → Prop} {Q : State → Prop} {g : vr_G} {a : Nat → Nat} (r : vx_R) (t : vm_A) (w : Nat → Bool) (b : vx_B) (bt : Int32) (h : vm_ok r t b) (d0 : Nat) (ans : Int32) (P : Nat → Bool) (hF : vr_F p s m c cX5_drop 5 args wsX5_drop yX5_drop.cls g.1 (vr_tys g) A) (hret : vr_RtI p l e rm_xw_VModel_drop s m args below meth c cX5_drop g.1 A 5 0 0 Q (vm_w g a r (tm_setU t P) w b) ans) : ∀ (n : Nat) (k : Nat) (u : Nat → Bool), (tm_n t + 1 < k + n) → (k ≤ tm_n t + 1) → (ans = nI d0) → (P = mm_du t b bt n k u) → vr_W p l e rm_xw_VModel_drop s m args below meth c g.1 A 5 0 0 Q (vm_w g a r (tm_r t, tm_f t, tm_v t, tm_d t, tm_k t, u, tm_n t) w b) 95 [(0, .ref (a 0)), (1, .int bt), (2, .int (nI d0)), (4, .int (nI k))] [] := by
  obtain ⟨hrn, htn, hbn⟩ := id h
  intro n
  induction n with
  | zero => intro k u hk1 hk2 hans hans2; exact absurd hk1 (by omega)
  | succ n ih =>
    intro k u hk1 hk2 hans hans2
    refine vr_iload hF 3 rfl dX5_drop_95 rfl ?_
    refine vr_aload_n hF 0 rfl dX5_drop_97 rfl rfl ?_
    refine vr_get (v := .int (nI (tm_n t))) hF 0 5 (vr_in inX5) (vr_m flX5_53) rfl (by decide) rfl rfl rfl dX5_drop_98 rfl ?_
    refine vr_icmp_gtN (tgt := 143) (x := k) (y := (tm_n t)) hF (by omega) (by omega) dX5_drop_101 (by decide) rfl (fun c_101 => ?_) (fun c_101 => ?_)
    · skip
      refine vr_iload_n hF 2 rfl dX5_drop_143 rfl rfl ?_
      exact vr_retiw hret dX5_drop_144 (by rw [hans2, mm_du]; simp [c_101]) hans.symm
    · skip
      refine vr_aload_n hF 0 rfl dX5_drop_104 rfl rfl ?_
      refine vr_get (v := .ref (a 9)) hF 0 11 (vr_in inX5) (vr_m flX5_35) rfl (by decide) rfl rfl rfl dX5_drop_105 rfl ?_
      refine vr_iload hF 3 rfl dX5_drop_108 rfl ?_
      refine vr_aload_n hF 0 rfl dX5_drop_110 rfl rfl ?_
      refine vr_get (v := .ref (a 9)) hF 0 11 (vr_in inX5) (vr_m flX5_35) rfl (by decide) rfl rfl rfl dX5_drop_111 rfl ?_
      refine vr_iload hF 3 rfl dX5_drop_114 rfl ?_
      refine vr_zald (i := k) (n := 201) (f := (fun j => vr_b (u j))) hF 9 2 rfl rfl (by omega) (by decide) dX5_drop_116 rfl ?_
      refine vr_to (ws' := (vm_w g a r (tm_r t, tm_f t, tm_v t, tm_d t, tm_k t, u, tm_n t) w b)) (lv' := [(0, .ref (a 0)), (1, .int bt), (2, .int (nI d0)), (4, .int (nI k))]) (st' := [.int (vr_b (u k)), .int (nI k), .ref (a 9)]) rfl rfl rfl ?_
      refine vr_if_neB (tgt := 131) hF dX5_drop_117 (by decide) rfl (fun c_117 => ?_) (fun c_117 => ?_)
      · skip
        refine vr_iconst (v := nI 1) hF dX5_drop_131 (by decide +kernel) rfl ?_
        refine vr_goto (tgt := 136) hF dX5_drop_132 (by decide) ?_
        refine vr_zastB (ws' := (vm_w g a r (tm_r t, tm_f t, tm_v t, tm_d t, tm_k t, vr_ub u k true, tm_n t) w b)) (i := k) (x := true) (n := 201) (f := u) hF 9 2 rfl rfl (by omega) (by decide) rfl dX5_drop_136 rfl ?_
        refine vr_iinc (lv' := [(4, .int (nI (k + 1))), (0, .ref (a 0)), (1, .int bt), (2, .int (nI d0))]) hF (nI (k + 1)) 3 rfl dX5_drop_137 (nI_1 k) (by decide) rfl rfl ?_
        refine vr_goto (tgt := 95) hF dX5_drop_140 (by decide) ?_
        refine vr_sub [1, 2, 3, 0] rfl ?_
        exact ih (k + 1) (vr_ub u k true) (by omega) (by omega) hans (by rw [hans2, mm_du]; simp [c_101, c_117])
      · skip
        refine vr_aload_n hF 0 rfl dX5_drop_120 rfl rfl ?_
        refine vr_get (v := .ref (a 10)) hF 0 12 (vr_in inX5) (vr_m flX5_39) rfl (by decide) rfl rfl rfl dX5_drop_121 rfl ?_
        refine vr_iload hF 3 rfl dX5_drop_124 rfl ?_
        refine vr_iald (i := k) (n := 201) (f := (tb_o b)) hF 10 0 rfl rfl (by omega) (by decide) dX5_drop_126 rfl ?_
        refine vr_iload_n hF 1 rfl dX5_drop_127 rfl rfl ?_
        refine vr_icmp_ne (tgt := 135) hF dX5_drop_128 (by decide) rfl (fun c_128 => ?_) (fun c_128 => ?_)
        · skip
          refine vr_iconst (v := nI 0) hF dX5_drop_135 (by decide +kernel) rfl ?_
          refine vr_zastB (ws' := (vm_w g a r (tm_r t, tm_f t, tm_v t, tm_d t, tm_k t, vr_ub u k false, tm_n t) w b)) (i := k) (x := false) (n := 201) (f := u) hF 9 2 rfl rfl (by omega) (by decide) rfl dX5_drop_136 rfl ?_
          refine vr_iinc (lv' := [(4, .int (nI (k + 1))), (0, .ref (a 0)), (1, .int bt), (2, .int (nI d0))]) hF (nI (k + 1)) 3 rfl dX5_drop_137 (nI_1 k) (by decide) rfl rfl ?_
          refine vr_goto (tgt := 95) hF dX5_drop_140 (by decide) ?_
          refine vr_sub [1, 2, 3, 0] rfl ?_
          exact ih (k + 1) (vr_ub u k false) (by omega) (by omega) hans (by rw [hans2, mm_du]; simp [c_101, c_117, c_128])
        · skip
          refine vr_iconst (v := nI 1) hF dX5_drop_131 (by decide +kernel) rfl ?_
          refine vr_goto (tgt := 136) hF dX5_drop_132 (by decide) ?_
          refine vr_zastB (ws' := (vm_w g a r (tm_r t, tm_f t, tm_v t, tm_d t, tm_k t, vr_ub u k true, tm_n t) w b)) (i := k) (x := true) (n := 201) (f := u) hF 9 2 rfl rfl (by omega) (by decide) rfl dX5_drop_136 rfl ?_
          refine vr_iinc (lv' := [(4, .int (nI (k + 1))), (0, .ref (a 0)), (1, .int bt), (2, .int (nI d0))]) hF (nI (k + 1)) 3 rfl dX5_drop_137 (nI_1 k) (by decide) rfl rfl ?_
          refine vr_goto (tgt := 95) hF dX5_drop_140 (by decide) ?_
          refine vr_sub [1, 2, 3, 0] rfl ?_
          exact ih (k + 1) (vr_ub u k true) (by omega) (by omega) hans (by rw [hans2, mm_du]; simp [c_101, c_117, c_128])
set_option maxHeartbeats 4000000 in
set_option maxRecDepth 100000 in
theorem xw_VModel_drop_lp27 {p : Program} {l : Launch} {e : Env} {s : State} {m : MethodId} {args : Array Value} {below : List Frame} {meth : Method} {c : Code} {A : Nat → Prop} {Q : State → Prop} {g : vr_G} {a : Nat → Nat} (r : vx_R) (t : vm_A) (w : Nat → Bool) (b : vx_B) (bt : Int32) (h : vm_ok r t b)  (ans : Int32) (P : Nat → Bool) (hF : vr_F p s m c cX5_drop 5 args wsX5_drop yX5_drop.cls g.1 (vr_tys g) A) (hret : vr_RtI p l e rm_xw_VModel_drop s m args below meth c cX5_drop g.1 A 5 0 0 Q (vm_w g a r (tm_setU t P) w b) ans) : ∀ (n : Nat) (k d : Nat) (hd : Bool), (tm_n t + 1 < k + n) → (k ≤ tm_n t + 1) → (ans = nI (mm_dropN t w b bt n k d hd)) → (P = mm_dropU t w b bt n k hd) → vr_W p l e rm_xw_VModel_drop s m args below meth c g.1 A 5 0 0 Q (vm_w g a r t w b) 27 [(0, .ref (a 0)), (1, .int bt), (2, .int (nI d)), (3, .int (vr_b hd)), (4, .int (nI k))] [] := by
  obtain ⟨hrn, htn, hbn⟩ := id h
  intro n
  induction n with
  | zero => intro k d hd hk1 hk2 hans hans2; exact absurd hk1 (by omega)
  | succ n ih =>
    intro k d hd hk1 hk2 hans hans2
    refine vr_iload hF 4 rfl dX5_drop_27 rfl ?_
    refine vr_aload_n hF 0 rfl dX5_drop_29 rfl rfl ?_
    refine vr_get (v := .int (nI (tm_n t))) hF 0 5 (vr_in inX5) (vr_m flX5_53) rfl (by decide) rfl rfl rfl dX5_drop_30 rfl ?_
    refine vr_icmp_gtN (tgt := 86) (x := k) (y := (tm_n t)) hF (by omega) (by omega) dX5_drop_33 (by decide) rfl (fun c_33 => ?_) (fun c_33 => ?_)
    · skip
      rw [mm_dropN, mm_dh, mm_dn, if_pos c_33, if_pos c_33] at hans
      rw [mm_dropU, mm_dh, if_pos c_33] at hans2
      refine vr_iload_n hF 3 rfl dX5_drop_86 rfl rfl ?_
      refine vr_if_eqB (tgt := 92) hF dX5_drop_87 (by decide) rfl (fun c_87 => ?_) (fun c_87 => ?_)
      · skip
        rw [c_87] at hans hans2
        have hans : ans = nI d := by rw [hans]; simp
        have hans2 : P = mm_du t b bt (tm_n t + 2) 1 (tm_u t) := by rw [hans2]; simp
        subst hans; subst hans2
        refine vr_iconst (v := nI 1) hF dX5_drop_92 (by decide +kernel) rfl ?_
        refine vr_istore (lv' := [(4, .int (nI 1)), (0, .ref (a 0)), (1, .int bt), (2, .int (nI d)), (3, .int (vr_b hd))]) hF dX5_drop_93 (by decide) rfl rfl ?_
        refine vr_sub [1, 2, 3, 0] rfl ?_
        exact xw_VModel_drop_lp95 r t w b bt h d _ _ hF hret (tm_n t + 2) 1 (tm_u t) (by omega) (by omega) rfl rfl
      · skip
        rw [c_87] at hans hans2
        refine vr_iconst (v := nI 0) hF dX5_drop_90 (by decide +kernel) rfl ?_
        exact vr_retiw hret dX5_drop_91 (by rw [hans2]; rfl) (by rw [hans]; simp)
    · skip
      refine vr_aload_n hF 0 rfl dX5_drop_36 rfl rfl ?_
      refine vr_get (v := .ref (a 10)) hF 0 12 (vr_in inX5) (vr_m flX5_39) rfl (by decide) rfl rfl rfl dX5_drop_37 rfl ?_
      refine vr_iload hF 4 rfl dX5_drop_40 rfl ?_
      refine vr_iald (i := k) (n := 201) (f := (tb_o b)) hF 10 0 rfl rfl (by omega) (by decide) dX5_drop_42 rfl ?_
      refine vr_iload_n hF 1 rfl dX5_drop_43 rfl rfl ?_
      refine vr_icmp_ne (tgt := 80) hF dX5_drop_44 (by decide) rfl (fun c_44 => ?_) (fun c_44 => ?_)
      · skip
        refine vr_iinc (lv' := [(4, .int (nI (k + 1))), (0, .ref (a 0)), (1, .int bt), (2, .int (nI d)), (3, .int (vr_b hd))]) hF (nI (k + 1)) 4 rfl dX5_drop_80 (nI_1 k) (by decide) rfl rfl ?_
        refine vr_goto (tgt := 27) hF dX5_drop_83 (by decide) ?_
        refine vr_sub [1, 2, 3, 4, 0] rfl ?_
        exact ih (k + 1) d hd (by omega) (by omega) (by rw [hans, mm_dropN, mm_dropN, mm_dh, mm_dn]; simp [c_33, c_44]) (by rw [hans2, mm_dropU, mm_dropU, mm_dh]; simp [c_33, c_44])
      · skip
        refine vr_aload_n hF 0 rfl dX5_drop_47 rfl rfl ?_
        refine vr_get (v := .ref (a 9)) hF 0 11 (vr_in inX5) (vr_m flX5_35) rfl (by decide) rfl rfl rfl dX5_drop_48 rfl ?_
        refine vr_iload hF 4 rfl dX5_drop_51 rfl ?_
        refine vr_zald (i := k) (n := 201) (f := (fun j => vr_b ((tm_u t) j))) hF 9 2 rfl rfl (by omega) (by decide) dX5_drop_53 rfl ?_
        refine vr_to (ws' := (vm_w g a r t w b)) (lv' := [(0, .ref (a 0)), (1, .int bt), (2, .int (nI d)), (3, .int (vr_b hd)), (4, .int (nI k))]) (st' := [.int (vr_b ((tm_u t) k))]) rfl rfl rfl ?_
        refine vr_if_neB (tgt := 80) hF dX5_drop_54 (by decide) rfl (fun c_54 => ?_) (fun c_54 => ?_)
        · skip
          refine vr_iinc (lv' := [(4, .int (nI (k + 1))), (0, .ref (a 0)), (1, .int bt), (2, .int (nI d)), (3, .int (vr_b hd))]) hF (nI (k + 1)) 4 rfl dX5_drop_80 (nI_1 k) (by decide) rfl rfl ?_
          refine vr_goto (tgt := 27) hF dX5_drop_83 (by decide) ?_
          refine vr_sub [1, 2, 3, 4, 0] rfl ?_
          exact ih (k + 1) d hd (by omega) (by omega) (by rw [hans, mm_dropN, mm_dropN, mm_dh, mm_dn]; simp [c_33, c_44, c_54]) (by rw [hans2, mm_dropU, mm_dropU, mm_dh]; simp [c_33, c_44, c_54])
        · skip
          refine vr_iinc (lv' := [(2, .int (nI (d + 1))), (0, .ref (a 0)), (1, .int bt), (3, .int (vr_b hd)), (4, .int (nI k))]) hF (nI (d + 1)) 2 rfl dX5_drop_57 (nI_1 d) (by decide) rfl rfl ?_
          refine vr_iload_n hF 3 rfl dX5_drop_60 rfl rfl ?_
          refine vr_if_neB (tgt := 74) hF dX5_drop_61 (by decide) rfl (fun c_61 => ?_) (fun c_61 => ?_)
          · skip
            refine vr_iconst (v := nI 1) hF dX5_drop_74 (by decide +kernel) rfl ?_
            refine vr_goto (tgt := 79) hF dX5_drop_75 (by decide) ?_
            refine vr_istore_n (lv' := [(3, .int (nI 1)), (2, .int (nI (d + 1))), (0, .ref (a 0)), (1, .int bt), (4, .int (nI k))]) hF dX5_drop_79 rfl (by decide) rfl rfl ?_
            refine vr_iinc (lv' := [(4, .int (nI (k + 1))), (3, .int (nI 1)), (2, .int (nI (d + 1))), (0, .ref (a 0)), (1, .int bt)]) hF (nI (k + 1)) 4 rfl dX5_drop_80 (nI_1 k) (by decide) rfl rfl ?_
            refine vr_goto (tgt := 27) hF dX5_drop_83 (by decide) ?_
            refine vr_sub [3, 4, 2, 1, 0] rfl ?_
            exact ih (k + 1) (d + 1) true (by omega) (by omega) (by rw [hans, mm_dropN, mm_dropN, mm_dh, mm_dn]; simp [c_33, c_44, c_54, c_61]) (by rw [hans2, mm_dropU, mm_dropU, mm_dh]; simp [c_33, c_44, c_54, c_61])
          · skip
            refine vr_aload_n hF 1 rfl dX5_drop_64 rfl rfl ?_
            refine vr_iload hF 4 rfl dX5_drop_65 rfl ?_
            refine vr_iload_n hF 2 rfl dX5_drop_67 rfl rfl ?_
            refine vr_callV_Ci (rest := []) (n0 := 2) hF (xc_VModel_isLeantOn l g a r t w b k bt h (by omega)) (vr_gV vr_hbc mlX5_91 imX5_isLeantOn seX5_isLeantOn iniX5 cdX5_isLeantOn) rfl (by decide +kernel) rfl rfl rfl ⟨Nat.le_of_ble_eq_true rfl, Nat.le_of_ble_eq_true rfl⟩ ⟨Nat.zero_le _, Nat.zero_le _⟩ 0 rfl rfl rfl (Nat.le_of_ble_eq_true rfl) dX5_drop_68 rfl ?_
            refine vr_if_eqB (tgt := 78) hF dX5_drop_71 (by decide) rfl (fun c_71 => ?_) (fun c_71 => ?_)
            · skip
              refine vr_iconst (v := nI 0) hF dX5_drop_78 (by decide +kernel) rfl ?_
              refine vr_istore_n (lv' := [(3, .int (nI 0)), (2, .int (nI (d + 1))), (0, .ref (a 0)), (1, .int bt), (4, .int (nI k))]) hF dX5_drop_79 rfl (by decide) rfl rfl ?_
              refine vr_iinc (lv' := [(4, .int (nI (k + 1))), (3, .int (nI 0)), (2, .int (nI (d + 1))), (0, .ref (a 0)), (1, .int bt)]) hF (nI (k + 1)) 4 rfl dX5_drop_80 (nI_1 k) (by decide) rfl rfl ?_
              refine vr_goto (tgt := 27) hF dX5_drop_83 (by decide) ?_
              refine vr_sub [3, 4, 2, 1, 0] rfl ?_
              exact ih (k + 1) (d + 1) false (by omega) (by omega) (by rw [hans, mm_dropN, mm_dropN, mm_dh, mm_dn]; simp [c_33, c_44, c_54, c_61, c_71]) (by rw [hans2, mm_dropU, mm_dropU, mm_dh]; simp [c_33, c_44, c_54, c_61, c_71])
            · skip
              refine vr_iconst (v := nI 1) hF dX5_drop_74 (by decide +kernel) rfl ?_
              refine vr_goto (tgt := 79) hF dX5_drop_75 (by decide) ?_
              refine vr_istore_n (lv' := [(3, .int (nI 1)), (2, .int (nI (d + 1))), (0, .ref (a 0)), (1, .int bt), (4, .int (nI k))]) hF dX5_drop_79 rfl (by decide) rfl rfl ?_
              refine vr_iinc (lv' := [(4, .int (nI (k + 1))), (3, .int (nI 1)), (2, .int (nI (d + 1))), (0, .ref (a 0)), (1, .int bt)]) hF (nI (k + 1)) 4 rfl dX5_drop_80 (nI_1 k) (by decide) rfl rfl ?_
              refine vr_goto (tgt := 27) hF dX5_drop_83 (by decide) ?_
              refine vr_sub [3, 4, 2, 1, 0] rfl ?_
              exact ih (k + 1) (d + 1) true (by omega) (by omega) (by rw [hans, mm_dropN, mm_dropN, mm_dh, mm_dn]; simp [c_33, c_44, c_54, c_61, c_71]) (by rw [hans2, mm_dropU, mm_dropU, mm_dh]; simp [c_33, c_44, c_54, c_61, c_71])
set_option maxHeartbeats 4000000 in
set_option maxRecDepth 100000 in
theorem xc_VModel_drop (l : Launch) (g : vr_G) (a : Nat → Nat) (r : vx_R) (t : vm_A) (w : Nat → Bool) (b : vx_B) (bt : Int32) (h : vm_ok r t b) : vr_Ci l yX5_drop wsX5_drop rm_xw_VModel_drop g.1 (vr_tys g) [.ref (a 0), .int bt] (vm_w g a r t w b) (vm_w g a r (if mm_dropOk b bt = true then tm_setU t (mm_dropU t w b bt (tm_n t + 2) 1 false) else t) w b) (nI (if mm_dropOk b bt = true then mm_dropN t w b bt (tm_n t + 2) 1 0 false else 0)) := by
  obtain ⟨hrn, htn, hbn⟩ := id h
  refine vr_Ci_mk (cc := cX5_drop) (nL := 5) (ty := .int) rfl (by decide) rfl (Nat.le_of_ble_eq_true rfl) ?_
  intro p e s m args below meth c A Q hF hret
  refine vr_to (ws' := (vm_w g a r t w b)) (lv' := [(0, .ref (a 0)), (1, .int bt)]) (st' := []) rfl rfl rfl ?_
  refine vr_aload_n hF 0 rfl dX5_drop_0 rfl rfl ?_
  refine vr_iconst (v := nI 0) hF dX5_drop_1 (by decide +kernel) rfl ?_
  refine vr_put (ws' := (vm_w g a r t w b)) hF 0 0 (vr_in inX5) (vr_m flX5_46) rfl (by decide) rfl rfl tyX5 tyX5_ok nmX5 rfl rfl rfl (Nat.le_of_ble_eq_true rfl) rfl dX5_drop_2 rfl ?_
  refine vr_iload_n hF 1 rfl dX5_drop_5 rfl rfl ?_
  refine vr_iconst (v := nI 1) hF dX5_drop_6 (by decide +kernel) rfl ?_
  refine vr_icmp_lt (tgt := 18) hF dX5_drop_7 (by decide) rfl (fun c_7 => ?_) (fun c_7 => ?_)
  · skip
    have hc : ¬ mm_dropOk b bt = true := by simp [mm_dropOk, c_7]
    refine vr_iconst (v := nI 0) hF dX5_drop_18 (by decide +kernel) rfl ?_
    exact vr_retiw hret dX5_drop_19 (by rw [if_neg hc]) (by rw [if_neg hc])
  · skip
    refine vr_iload_n hF 1 rfl dX5_drop_10 rfl rfl ?_
    refine vr_aload_n hF 0 rfl dX5_drop_11 rfl rfl ?_
    refine vr_get (v := .int (nI (tb_n b))) hF 0 14 (vr_in inX5) (vr_m flX5_94) rfl (by decide) rfl rfl rfl dX5_drop_12 rfl ?_
    refine vr_icmp_le (tgt := 20) hF dX5_drop_15 (by decide) rfl (fun c_15 => ?_) (fun c_15 => ?_)
    · skip
      have hc : mm_dropOk b bt = true := by simp [mm_dropOk, c_7, c_15]
      rw [if_pos hc, if_pos hc] at hret
      refine vr_iconst (v := nI 0) hF dX5_drop_20 (by decide +kernel) rfl ?_
      refine vr_istore_n (lv' := [(2, .int (nI 0)), (0, .ref (a 0)), (1, .int bt)]) hF dX5_drop_21 rfl (by decide) rfl rfl ?_
      refine vr_iconst (v := nI 0) hF dX5_drop_22 (by decide +kernel) rfl ?_
      refine vr_istore_n (lv' := [(3, .int (nI 0)), (2, .int (nI 0)), (0, .ref (a 0)), (1, .int bt)]) hF dX5_drop_23 rfl (by decide) rfl rfl ?_
      refine vr_iconst (v := nI 1) hF dX5_drop_24 (by decide +kernel) rfl ?_
      refine vr_istore (lv' := [(4, .int (nI 1)), (3, .int (nI 0)), (2, .int (nI 0)), (0, .ref (a 0)), (1, .int bt)]) hF dX5_drop_25 (by decide) rfl rfl ?_
      refine vr_sub [3, 4, 2, 1, 0] rfl ?_
      exact xw_VModel_drop_lp27 r t w b bt h  _ _ hF hret (tm_n t + 2) 1 0 false (by omega) (by omega) rfl rfl
    · skip
      have hc : ¬ mm_dropOk b bt = true := by simp [mm_dropOk, c_7, c_15]
      refine vr_iconst (v := nI 0) hF dX5_drop_18 (by decide +kernel) rfl ?_
      exact vr_retiw hret dX5_drop_19 (by rw [if_neg hc]) (by rw [if_neg hc])
def rm_xw_VModel_conflict : Room := { frames := 1, cells := 0, slots := 0, locals := 23 }
set_option maxHeartbeats 4000000 in
set_option maxRecDepth 100000 in
theorem xw_VModel_conflict_lp29 {p : Program} {l : Launch} {e : Env} {s : State} {m : MethodId} {args : Array Value} {below : List Frame} {meth : Method} {c : Code} {A : Nat → Prop} {Q : State → Prop} {g : vr_G} {a : Nat → Nat} (r : vx_R) (t : vm_A) (w : Nat → Bool) (b : vx_B) (i : Int32) (what : Int32) (h : vm_ok r t b) (i0 : Nat) (hi0 : i0 < 2 ^ 31) (ans : Int32) (hF : vr_F p s m c cX5_conflict 6 args wsX5_conflict yX5_conflict.cls g.1 (vr_tys g) A) (hret : vr_RtI p l e rm_xw_VModel_conflict s m args below meth c cX5_conflict g.1 A 6 0 0 Q (vm_w g a r t w b) ans) : ∀ (n : Nat) (lo hi sn : Nat), (202 * (201 - lo) + (202 - hi) < n) → (1 ≤ lo) → (lo < hi) → (lo ≤ tm_n t) → (hi ≤ tm_n t + 1) → (sn + n ≤ 50000) → (ans = mm_pair t what i0 n lo hi sn) → vr_W p l e rm_xw_VModel_conflict s m args below meth c g.1 A 6 0 0 Q (vm_w g a r t w b) 29 [(0, .ref (a 0)), (1, .int (nI i0)), (2, .int what), (3, .int (nI sn)), (4, .int (nI lo)), (5, .int (nI hi))] [] := by
  obtain ⟨hrn, htn, hbn⟩ := id h
  intro n
  induction n with
  | zero => intro lo hi sn hm h1 h2 hlo hhi hs hans; exact absurd hm (by omega)
  | succ n ih =>
    intro lo hi sn hm h1 h2 hlo hhi hs hans
    refine vr_iload hF 5 rfl dX5_conflict_29 rfl ?_
    refine vr_aload_n hF 0 rfl dX5_conflict_31 rfl rfl ?_
    refine vr_get (v := .int (nI (tm_n t))) hF 0 5 (vr_in inX5) (vr_m flX5_53) rfl (by decide) rfl rfl rfl dX5_conflict_32 rfl ?_
    refine vr_icmp_gtN (tgt := 151) (x := hi) (y := (tm_n t)) hF (by omega) (by omega) dX5_conflict_35 (by decide) rfl (fun c_35 => ?_) (fun c_35 => ?_)
    · skip
      refine vr_iinc (lv' := [(4, .int (nI (lo + 1))), (0, .ref (a 0)), (1, .int (nI i0)), (2, .int what), (3, .int (nI sn)), (5, .int (nI hi))]) hF (nI (lo + 1)) 4 rfl dX5_conflict_151 (nI_1 lo) (by decide) rfl rfl ?_
      refine vr_goto (tgt := 10) hF dX5_conflict_154 (by decide) ?_
      refine vr_iload hF 0 rfl dX5_conflict_10 rfl ?_
      refine vr_aload_n hF 1 rfl dX5_conflict_12 rfl rfl ?_
      refine vr_get (v := .int (nI (tm_n t))) hF 0 5 (vr_in inX5) (vr_m flX5_53) rfl (by decide) rfl rfl rfl dX5_conflict_13 rfl ?_
      refine vr_icmp_gtN (tgt := 157) (x := (lo + 1)) (y := (tm_n t)) hF (by omega) (by omega) dX5_conflict_16 (by decide) rfl (fun c_16 => ?_) (fun c_16 => ?_)
      · skip
        refine vr_iconst (v := (-1)) hF dX5_conflict_157 (by decide +kernel) rfl ?_
        exact vr_reti hret dX5_conflict_158 (by rw [hans, mm_pair]; simp [mm_cf, vr_bt, vr_bf, mm_conf, vr_n10, c_35, c_16])
      · skip
        refine vr_iload_n hF 2 rfl dX5_conflict_19 rfl rfl ?_
        refine vr_if_ltN (tgt := 157) (x := i0) hF (by omega) dX5_conflict_20 (by decide) rfl ?_
        refine vr_iload hF 0 rfl dX5_conflict_23 rfl ?_
        refine vr_iconst (v := nI 1) hF dX5_conflict_25 (by decide +kernel) rfl ?_
        refine vr_iadd (v := nI ((lo + 1) + 1)) hF dX5_conflict_26 (nI_add (lo + 1) 1) rfl ?_
        refine vr_istore (lv' := [(5, .int (nI ((lo + 1) + 1))), (4, .int (nI (lo + 1))), (0, .ref (a 0)), (1, .int (nI i0)), (2, .int what), (3, .int (nI sn))]) hF dX5_conflict_27 (by decide) rfl rfl ?_
        refine vr_sub [2, 3, 4, 5, 1, 0] rfl ?_
        exact ih (lo + 1) ((lo + 1) + 1) sn (by omega) (by omega) (by omega) (by omega) (by omega) (by omega) (by rw [hans, mm_pair]; simp [mm_conf, c_35, c_16])
    · skip
      refine vr_aload_n hF 0 rfl dX5_conflict_38 rfl rfl ?_
      refine vr_get (v := .ref (a 9)) hF 0 11 (vr_in inX5) (vr_m flX5_35) rfl (by decide) rfl rfl rfl dX5_conflict_39 rfl ?_
      refine vr_iload hF 4 rfl dX5_conflict_42 rfl ?_
      refine vr_zald (i := lo) (n := 201) (f := (fun j => vr_b ((tm_u t) j))) hF 9 2 rfl rfl (by omega) (by decide) dX5_conflict_44 rfl ?_
      refine vr_to (ws' := (vm_w g a r t w b)) (lv' := [(0, .ref (a 0)), (1, .int (nI i0)), (2, .int what), (3, .int (nI sn)), (4, .int (nI lo)), (5, .int (nI hi))]) (st' := [.int (vr_b ((tm_u t) lo))]) rfl rfl rfl ?_
      refine vr_if_neB (tgt := 145) hF dX5_conflict_45 (by decide) rfl (fun c_45 => ?_) (fun c_45 => ?_)
      · skip
        refine vr_iinc (lv' := [(5, .int (nI (hi + 1))), (0, .ref (a 0)), (1, .int (nI i0)), (2, .int what), (3, .int (nI sn)), (4, .int (nI lo))]) hF (nI (hi + 1)) 5 rfl dX5_conflict_145 (nI_1 hi) (by decide) rfl rfl ?_
        refine vr_goto (tgt := 29) hF dX5_conflict_148 (by decide) ?_
        refine vr_sub [1, 2, 3, 4, 5, 0] rfl ?_
        exact ih lo (hi + 1) sn (by omega) (by omega) (by omega) (by omega) (by omega) (by omega) (by rw [hans, mm_pair]; simp [mm_conf, c_35, c_45])
      · skip
        refine vr_aload_n hF 0 rfl dX5_conflict_48 rfl rfl ?_
        refine vr_get (v := .ref (a 9)) hF 0 11 (vr_in inX5) (vr_m flX5_35) rfl (by decide) rfl rfl rfl dX5_conflict_49 rfl ?_
        refine vr_iload hF 5 rfl dX5_conflict_52 rfl ?_
        refine vr_zald (i := hi) (n := 201) (f := (fun j => vr_b ((tm_u t) j))) hF 9 2 rfl rfl (by omega) (by decide) dX5_conflict_54 rfl ?_
        refine vr_to (ws' := (vm_w g a r t w b)) (lv' := [(0, .ref (a 0)), (1, .int (nI i0)), (2, .int what), (3, .int (nI sn)), (4, .int (nI lo)), (5, .int (nI hi))]) (st' := [.int (vr_b ((tm_u t) hi))]) rfl rfl rfl ?_
        refine vr_if_neB (tgt := 145) hF dX5_conflict_55 (by decide) rfl (fun c_55 => ?_) (fun c_55 => ?_)
        · skip
          refine vr_iinc (lv' := [(5, .int (nI (hi + 1))), (0, .ref (a 0)), (1, .int (nI i0)), (2, .int what), (3, .int (nI sn)), (4, .int (nI lo))]) hF (nI (hi + 1)) 5 rfl dX5_conflict_145 (nI_1 hi) (by decide) rfl rfl ?_
          refine vr_goto (tgt := 29) hF dX5_conflict_148 (by decide) ?_
          refine vr_sub [1, 2, 3, 4, 5, 0] rfl ?_
          exact ih lo (hi + 1) sn (by omega) (by omega) (by omega) (by omega) (by omega) (by omega) (by rw [hans, mm_pair]; simp [mm_conf, c_35, c_45, c_55])
        · skip
          refine vr_aload_n hF 0 rfl dX5_conflict_58 rfl rfl ?_
          refine vr_iload hF 4 rfl dX5_conflict_59 rfl ?_
          refine vr_aload_n hF 0 rfl dX5_conflict_61 rfl rfl ?_
          refine vr_get (v := .ref (a 4)) hF 0 6 (vr_in inX5) (vr_m flX5_20) rfl (by decide) rfl rfl rfl dX5_conflict_62 rfl ?_
          refine vr_iload hF 5 rfl dX5_conflict_65 rfl ?_
          refine vr_iald (i := hi) (n := 201) (f := (tm_r t)) hF 4 0 rfl rfl (by omega) (by decide) dX5_conflict_67 rfl ?_
          refine vr_aload_n hF 0 rfl dX5_conflict_68 rfl rfl ?_
          refine vr_get (v := .ref (a 5)) hF 0 7 (vr_in inX5) (vr_m flX5_23) rfl (by decide) rfl rfl rfl dX5_conflict_69 rfl ?_
          refine vr_iload hF 5 rfl dX5_conflict_72 rfl ?_
          refine vr_iald (i := hi) (n := 201) (f := (tm_f t)) hF 5 0 rfl rfl (by omega) (by decide) dX5_conflict_74 rfl ?_
          refine vr_callV_Ci (rest := []) (n0 := 3) hF (xc_VModel_isOf l g a r t w b lo ((tm_r t) hi) ((tm_f t) hi) (by omega)) (vr_gV vr_hbc mlX5_75 imX5_isOf seX5_isOf iniX5 cdX5_isOf) rfl (by decide +kernel) rfl rfl rfl ⟨Nat.le_of_ble_eq_true rfl, Nat.le_of_ble_eq_true rfl⟩ ⟨Nat.zero_le _, Nat.zero_le _⟩ 0 rfl rfl rfl (Nat.le_of_ble_eq_true rfl) dX5_conflict_75 rfl ?_
          refine vr_if_eqB (tgt := 145) hF dX5_conflict_78 (by decide) rfl (fun c_78 => ?_) (fun c_78 => ?_)
          · skip
            refine vr_iinc (lv' := [(5, .int (nI (hi + 1))), (0, .ref (a 0)), (1, .int (nI i0)), (2, .int what), (3, .int (nI sn)), (4, .int (nI lo))]) hF (nI (hi + 1)) 5 rfl dX5_conflict_145 (nI_1 hi) (by decide) rfl rfl ?_
            refine vr_goto (tgt := 29) hF dX5_conflict_148 (by decide) ?_
            refine vr_sub [1, 2, 3, 4, 5, 0] rfl ?_
            exact ih lo (hi + 1) sn (by omega) (by omega) (by omega) (by omega) (by omega) (by omega) (by rw [hans, mm_pair]; simp [mm_conf, c_35, c_45, c_55, c_78])
          · skip
            refine vr_aload_n hF 0 rfl dX5_conflict_81 rfl rfl ?_
            refine vr_get (v := .ref (a 8)) hF 0 10 (vr_in inX5) (vr_m flX5_32) rfl (by decide) rfl rfl rfl dX5_conflict_82 rfl ?_
            refine vr_iload hF 4 rfl dX5_conflict_85 rfl ?_
            refine vr_lald (i := lo) (n := 201) (f := (tm_k t)) hF 8 1 rfl rfl (by omega) (by decide) dX5_conflict_87 rfl ?_
            refine vr_aload_n hF 0 rfl dX5_conflict_88 rfl rfl ?_
            refine vr_get (v := .ref (a 8)) hF 0 10 (vr_in inX5) (vr_m flX5_32) rfl (by decide) rfl rfl rfl dX5_conflict_89 rfl ?_
            refine vr_iload hF 5 rfl dX5_conflict_92 rfl ?_
            refine vr_lald (i := hi) (n := 201) (f := (tm_k t)) hF 8 1 rfl rfl (by omega) (by decide) dX5_conflict_94 rfl ?_
            refine vr_lcmp_ne (tgt := 145) hF dX5_conflict_95 dX5_conflict_96 (by decide) rfl (fun c_96 => ?_) (fun c_96 => ?_)
            · skip
              refine vr_iinc (lv' := [(5, .int (nI (hi + 1))), (0, .ref (a 0)), (1, .int (nI i0)), (2, .int what), (3, .int (nI sn)), (4, .int (nI lo))]) hF (nI (hi + 1)) 5 rfl dX5_conflict_145 (nI_1 hi) (by decide) rfl rfl ?_
              refine vr_goto (tgt := 29) hF dX5_conflict_148 (by decide) ?_
              refine vr_sub [1, 2, 3, 4, 5, 0] rfl ?_
              exact ih lo (hi + 1) sn (by omega) (by omega) (by omega) (by omega) (by omega) (by omega) (by rw [hans, mm_pair]; simp [mm_conf, c_35, c_45, c_55, c_78, c_96])
            · skip
              refine vr_aload_n hF 0 rfl dX5_conflict_99 rfl rfl ?_
              refine vr_get (v := .ref (a 6)) hF 0 8 (vr_in inX5) (vr_m flX5_26) rfl (by decide) rfl rfl rfl dX5_conflict_100 rfl ?_
              refine vr_iload hF 4 rfl dX5_conflict_103 rfl ?_
              refine vr_iald (i := lo) (n := 201) (f := (tm_v t)) hF 6 0 rfl rfl (by omega) (by decide) dX5_conflict_105 rfl ?_
              refine vr_aload_n hF 0 rfl dX5_conflict_106 rfl rfl ?_
              refine vr_get (v := .ref (a 6)) hF 0 8 (vr_in inX5) (vr_m flX5_26) rfl (by decide) rfl rfl rfl dX5_conflict_107 rfl ?_
              refine vr_iload hF 5 rfl dX5_conflict_110 rfl ?_
              refine vr_iald (i := hi) (n := 201) (f := (tm_v t)) hF 6 0 rfl rfl (by omega) (by decide) dX5_conflict_112 rfl ?_
              refine vr_icmp_eq (tgt := 145) hF dX5_conflict_113 (by decide) rfl (fun c_113 => ?_) (fun c_113 => ?_)
              · skip
                refine vr_iinc (lv' := [(5, .int (nI (hi + 1))), (0, .ref (a 0)), (1, .int (nI i0)), (2, .int what), (3, .int (nI sn)), (4, .int (nI lo))]) hF (nI (hi + 1)) 5 rfl dX5_conflict_145 (nI_1 hi) (by decide) rfl rfl ?_
                refine vr_goto (tgt := 29) hF dX5_conflict_148 (by decide) ?_
                refine vr_sub [1, 2, 3, 4, 5, 0] rfl ?_
                exact ih lo (hi + 1) sn (by omega) (by omega) (by omega) (by omega) (by omega) (by omega) (by rw [hans, mm_pair]; simp [mm_conf, c_35, c_45, c_55, c_78, c_96, c_113])
              · skip
                refine vr_iload_n hF 3 rfl dX5_conflict_116 rfl rfl ?_
                refine vr_iload_n hF 1 rfl dX5_conflict_117 rfl rfl ?_
                refine vr_icmp_neN (tgt := 142) (x := sn) (y := i0) hF (by omega) (by omega) dX5_conflict_118 (by decide) rfl (fun c_118 => ?_) (fun c_118 => ?_)
                · skip
                  refine vr_iinc (lv' := [(3, .int (nI (sn + 1))), (0, .ref (a 0)), (1, .int (nI i0)), (2, .int what), (4, .int (nI lo)), (5, .int (nI hi))]) hF (nI (sn + 1)) 3 rfl dX5_conflict_142 (nI_1 sn) (by decide) rfl rfl ?_
                  refine vr_iinc (lv' := [(5, .int (nI (hi + 1))), (3, .int (nI (sn + 1))), (0, .ref (a 0)), (1, .int (nI i0)), (2, .int what), (4, .int (nI lo))]) hF (nI (hi + 1)) 5 rfl dX5_conflict_145 (nI_1 hi) (by decide) rfl rfl ?_
                  refine vr_goto (tgt := 29) hF dX5_conflict_148 (by decide) ?_
                  refine vr_sub [2, 3, 4, 1, 5, 0] rfl ?_
                  exact ih lo (hi + 1) (sn + 1) (by omega) (by omega) (by omega) (by omega) (by omega) (by omega) (by rw [hans, mm_pair]; simp [mm_conf, c_35, c_45, c_55, c_78, c_96, c_113, c_118])
                · skip
                  refine vr_iload_n hF 2 rfl dX5_conflict_121 rfl rfl ?_
                  refine vr_if_ne (tgt := 130) hF dX5_conflict_122 (by decide) rfl (fun c_122 => ?_) (fun c_122 => ?_)
                  · skip
                    refine vr_iload_n hF 2 rfl dX5_conflict_130 rfl rfl ?_
                    refine vr_iconst (v := nI 1) hF dX5_conflict_131 (by decide +kernel) rfl ?_
                    refine vr_icmp_ne (tgt := 140) hF dX5_conflict_132 (by decide) rfl (fun c_132 => ?_) (fun c_132 => ?_)
                    · skip
                      refine vr_iconst (v := (-1)) hF dX5_conflict_140 (by decide +kernel) rfl ?_
                      exact vr_reti hret dX5_conflict_141 (by rw [hans, mm_pair]; simp [mm_cf, vr_bt, vr_bf, mm_conf, vr_n10, c_35, c_45, c_55, c_78, c_96, c_113, c_118, c_122, c_132])
                    · skip
                      refine vr_iload hF 5 rfl dX5_conflict_135 rfl ?_
                      refine vr_goto (tgt := 141) hF dX5_conflict_137 (by decide) ?_
                      exact vr_reti hret dX5_conflict_141 (by rw [hans, mm_pair]; simp [mm_cf, vr_bt, vr_bf, mm_conf, vr_n10, c_35, c_45, c_55, c_78, c_96, c_113, c_118, c_122, c_132])
                  · skip
                    refine vr_iload hF 4 rfl dX5_conflict_125 rfl ?_
                    refine vr_goto (tgt := 141) hF dX5_conflict_127 (by decide) ?_
                    exact vr_reti hret dX5_conflict_141 (by rw [hans, mm_pair]; simp [mm_cf, vr_bt, vr_bf, mm_conf, vr_n10, c_35, c_45, c_55, c_78, c_96, c_113, c_118, c_122])
set_option maxHeartbeats 4000000 in
set_option maxRecDepth 100000 in
theorem xc_VModel_conflict (l : Launch) (g : vr_G) (a : Nat → Nat) (r : vx_R) (t : vm_A) (w : Nat → Bool) (b : vx_B) (i : Int32) (what : Int32) (h : vm_ok r t b) : vr_Ci l yX5_conflict wsX5_conflict rm_xw_VModel_conflict g.1 (vr_tys g) [.ref (a 0), .int i, .int what] (vm_w g a r t w b) (vm_w g a r t w b) (mm_cf t i what) := by
  obtain ⟨hrn, htn, hbn⟩ := id h
  refine vr_Ci_mk (cc := cX5_conflict) (nL := 6) (ty := .int) rfl (by decide) rfl (Nat.le_of_ble_eq_true rfl) ?_
  intro p e s m args below meth c A Q hF hret
  refine vr_to (ws' := (vm_w g a r t w b)) (lv' := [(0, .ref (a 0)), (1, .int i), (2, .int what)]) (st' := []) rfl rfl rfl ?_
  refine vr_aload_n hF 0 rfl dX5_conflict_0 rfl rfl ?_
  refine vr_iconst (v := nI 0) hF dX5_conflict_1 (by decide +kernel) rfl ?_
  refine vr_put (ws' := (vm_w g a r t w b)) hF 0 0 (vr_in inX5) (vr_m flX5_46) rfl (by decide) rfl rfl tyX5 tyX5_ok nmX5 rfl rfl rfl (Nat.le_of_ble_eq_true rfl) rfl dX5_conflict_2 rfl ?_
  refine vr_iconst (v := nI 0) hF dX5_conflict_5 (by decide +kernel) rfl ?_
  refine vr_istore_n (lv' := [(3, .int (nI 0)), (0, .ref (a 0)), (1, .int i), (2, .int what)]) hF dX5_conflict_6 rfl (by decide) rfl rfl ?_
  refine vr_iconst (v := nI 1) hF dX5_conflict_7 (by decide +kernel) rfl ?_
  refine vr_istore (lv' := [(4, .int (nI 1)), (3, .int (nI 0)), (0, .ref (a 0)), (1, .int i), (2, .int what)]) hF dX5_conflict_8 (by decide) rfl rfl ?_
  refine vr_iload hF 0 rfl dX5_conflict_10 rfl ?_
  refine vr_aload_n hF 2 rfl dX5_conflict_12 rfl rfl ?_
  refine vr_get (v := .int (nI (tm_n t))) hF 0 5 (vr_in inX5) (vr_m flX5_53) rfl (by decide) rfl rfl rfl dX5_conflict_13 rfl ?_
  refine vr_icmp_gtN (tgt := 157) (x := 1) (y := (tm_n t)) hF (by omega) (by omega) dX5_conflict_16 (by decide) rfl (fun c_16 => ?_) (fun c_16 => ?_)
  · skip
    refine vr_iconst (v := (-1)) hF dX5_conflict_157 (by decide +kernel) rfl ?_
    exact vr_reti hret dX5_conflict_158 (by simp [mm_cf, vr_bt, vr_bf, mm_conf, vr_n10, c_16])
  · skip
    refine vr_iload_n hF 3 rfl dX5_conflict_19 rfl rfl ?_
    refine vr_if_lt (tgt := 157) hF dX5_conflict_20 (by decide) rfl (fun c_20 => ?_) (fun c_20 => ?_)
    · skip
      refine vr_iconst (v := (-1)) hF dX5_conflict_157 (by decide +kernel) rfl ?_
      exact vr_reti hret dX5_conflict_158 (by simp [mm_cf, vr_bt, vr_bf, mm_conf, vr_n10, c_16, c_20])
    · skip
      obtain ⟨j, hj, rfl⟩ := nI_of c_20
      have hcl : (nI j).toNatClampNeg = j := nI_clamp hj
      refine vr_iload hF 0 rfl dX5_conflict_23 rfl ?_
      refine vr_iconst (v := nI 1) hF dX5_conflict_25 (by decide +kernel) rfl ?_
      refine vr_iadd (v := nI (1 + 1)) hF dX5_conflict_26 (nI_add 1 1) rfl ?_
      refine vr_istore (lv' := [(5, .int (nI (1 + 1))), (4, .int (nI 1)), (3, .int (nI 0)), (0, .ref (a 0)), (1, .int (nI j)), (2, .int what)]) hF dX5_conflict_27 (by decide) rfl rfl ?_
      refine vr_sub [3, 4, 5, 2, 1, 0] rfl ?_
      exact xw_VModel_conflict_lp29 r t w b (nI j) what h j hj _ hF hret 40804 1 2 0 (by omega) (by omega) (by omega) (by omega) (by omega) (by omega) (by simp [mm_cf, hcl, c_16, c_20])
def rm_xw_VModel_history : Room := { frames := 2, cells := 0, slots := 0, locals := 43 }
set_option maxHeartbeats 4000000 in
set_option maxRecDepth 100000 in
theorem xw_VModel_history_lp47 {p : Program} {l : Launch} {e : Env} {s : State} {m : MethodId} {args : Array Value} {below : List Frame} {meth : Method} {c : Code} {A : Nat → Prop} {Q : State → Prop} {g : vr_G} {a : Nat → Nat} (r : vx_R) (t : vm_A) (w : Nat → Bool) (b : vx_B) (rc : Int32) (fd : Int32) (i : Int32) (h : vm_ok r t b) (i0 k : Nat) (hk : k ≤ 200) (F : Nat)  (hF : vr_F p s m c cX5_history 7 args wsX5_history yX5_history.cls g.1 (vr_tys g) A) (hx : vr_W p l e rm_xw_VModel_history s m args below meth c g.1 A 7 0 0 Q (vm_w g a r t w b) 94 [(0, .ref (a 0)), (1, .int rc), (2, .int fd), (3, .int (nI i0)), (4, .int (nI k)), (5, .int (nI F))] []) : ∀ (n : Nat) (j cn : Nat), (tm_n t + 1 < j + n) → (j ≤ tm_n t + 1) → (F = mm_bf t rc fd k n j cn) → vr_W p l e rm_xw_VModel_history s m args below meth c g.1 A 7 0 0 Q (vm_w g a r t w b) 47 [(0, .ref (a 0)), (1, .int rc), (2, .int fd), (3, .int (nI i0)), (4, .int (nI k)), (5, .int (nI cn)), (6, .int (nI j))] [] := by
  obtain ⟨hrn, htn, hbn⟩ := id h
  intro n
  induction n with
  | zero => intro j cn hj1 hj2 hans; exact absurd hj1 (by omega)
  | succ n ih =>
    intro j cn hj1 hj2 hans
    refine vr_iload hF 6 rfl dX5_history_47 rfl ?_
    refine vr_aload_n hF 0 rfl dX5_history_49 rfl rfl ?_
    refine vr_get (v := .int (nI (tm_n t))) hF 0 5 (vr_in inX5) (vr_m flX5_53) rfl (by decide) rfl rfl rfl dX5_history_50 rfl ?_
    refine vr_icmp_gtN (tgt := 94) (x := j) (y := (tm_n t)) hF (by omega) (by omega) dX5_history_53 (by decide) rfl (fun c_53 => ?_) (fun c_53 => ?_)
    · skip
      refine vr_sub [0, 1, 2, 3, 4, 5] rfl ?_
      exact (show F = cn by rw [hans, mm_bf]; simp [c_53]) ▸ hx
    · skip
      refine vr_iload hF 5 rfl dX5_history_56 rfl ?_
      refine vr_aload_n hF 0 rfl dX5_history_58 rfl rfl ?_
      refine vr_iload hF 6 rfl dX5_history_59 rfl ?_
      refine vr_iload_n hF 1 rfl dX5_history_61 rfl rfl ?_
      refine vr_iload_n hF 2 rfl dX5_history_62 rfl rfl ?_
      refine vr_callV_Ci (rest := [.int (nI cn)]) (n0 := 3) hF (xc_VModel_isOf l g a r t w b j rc fd (by omega)) (vr_gV vr_hbc mlX5_75 imX5_isOf seX5_isOf iniX5 cdX5_isOf) rfl (by decide +kernel) rfl rfl rfl ⟨Nat.le_of_ble_eq_true rfl, Nat.le_of_ble_eq_true rfl⟩ ⟨Nat.zero_le _, Nat.zero_le _⟩ 0 rfl rfl rfl (Nat.le_of_ble_eq_true rfl) dX5_history_63 rfl ?_
      refine vr_if_eqB (tgt := 84) hF dX5_history_66 (by decide) rfl (fun c_66 => ?_) (fun c_66 => ?_)
      · skip
        refine vr_iconst (v := nI 0) hF dX5_history_84 (by decide +kernel) rfl ?_
        refine vr_iadd (v := nI (cn + 0)) hF dX5_history_85 (nI_add cn 0) rfl ?_
        refine vr_istore (lv' := [(5, .int (nI (cn + 0))), (0, .ref (a 0)), (1, .int rc), (2, .int fd), (3, .int (nI i0)), (4, .int (nI k)), (6, .int (nI j))]) hF dX5_history_86 (by decide) rfl rfl ?_
        refine vr_iinc (lv' := [(6, .int (nI (j + 1))), (5, .int (nI (cn + 0))), (0, .ref (a 0)), (1, .int rc), (2, .int fd), (3, .int (nI i0)), (4, .int (nI k))]) hF (nI (j + 1)) 6 rfl dX5_history_88 (nI_1 j) (by decide) rfl rfl ?_
        refine vr_goto (tgt := 47) hF dX5_history_91 (by decide) ?_
        refine vr_sub [2, 3, 4, 5, 6, 1, 0] rfl ?_
        exact ih (j + 1) (cn + 0) (by omega) (by omega) (by rw [hans, mm_bf]; simp [c_53, c_66])
      · skip
        refine vr_aload_n hF 0 rfl dX5_history_69 rfl rfl ?_
        refine vr_iload hF 6 rfl dX5_history_70 rfl ?_
        refine vr_iload hF 4 rfl dX5_history_72 rfl ?_
        refine vr_callV_Ci (rest := [.int (nI cn)]) (n0 := 2) hF (xc_VModel_isBefore l g a r t w b j k (by omega) (by omega)) (vr_gV vr_hbc mlX5_79 imX5_isBefore seX5_isBefore iniX5 cdX5_isBefore) rfl (by decide +kernel) rfl rfl rfl ⟨Nat.le_of_ble_eq_true rfl, Nat.le_of_ble_eq_true rfl⟩ ⟨Nat.zero_le _, Nat.zero_le _⟩ 0 rfl rfl rfl (Nat.le_of_ble_eq_true rfl) dX5_history_74 rfl ?_
        refine vr_if_eqB (tgt := 84) hF dX5_history_77 (by decide) rfl (fun c_77 => ?_) (fun c_77 => ?_)
        · skip
          refine vr_iconst (v := nI 0) hF dX5_history_84 (by decide +kernel) rfl ?_
          refine vr_iadd (v := nI (cn + 0)) hF dX5_history_85 (nI_add cn 0) rfl ?_
          refine vr_istore (lv' := [(5, .int (nI (cn + 0))), (0, .ref (a 0)), (1, .int rc), (2, .int fd), (3, .int (nI i0)), (4, .int (nI k)), (6, .int (nI j))]) hF dX5_history_86 (by decide) rfl rfl ?_
          refine vr_iinc (lv' := [(6, .int (nI (j + 1))), (5, .int (nI (cn + 0))), (0, .ref (a 0)), (1, .int rc), (2, .int fd), (3, .int (nI i0)), (4, .int (nI k))]) hF (nI (j + 1)) 6 rfl dX5_history_88 (nI_1 j) (by decide) rfl rfl ?_
          refine vr_goto (tgt := 47) hF dX5_history_91 (by decide) ?_
          refine vr_sub [2, 3, 4, 5, 6, 1, 0] rfl ?_
          exact ih (j + 1) (cn + 0) (by omega) (by omega) (by rw [hans, mm_bf]; simp [c_53, c_66, c_77])
        · skip
          refine vr_iconst (v := nI 1) hF dX5_history_80 (by decide +kernel) rfl ?_
          refine vr_goto (tgt := 85) hF dX5_history_81 (by decide) ?_
          refine vr_iadd (v := nI (cn + 1)) hF dX5_history_85 (nI_add cn 1) rfl ?_
          refine vr_istore (lv' := [(5, .int (nI (cn + 1))), (0, .ref (a 0)), (1, .int rc), (2, .int fd), (3, .int (nI i0)), (4, .int (nI k)), (6, .int (nI j))]) hF dX5_history_86 (by decide) rfl rfl ?_
          refine vr_iinc (lv' := [(6, .int (nI (j + 1))), (5, .int (nI (cn + 1))), (0, .ref (a 0)), (1, .int rc), (2, .int fd), (3, .int (nI i0)), (4, .int (nI k))]) hF (nI (j + 1)) 6 rfl dX5_history_88 (nI_1 j) (by decide) rfl rfl ?_
          refine vr_goto (tgt := 47) hF dX5_history_91 (by decide) ?_
          refine vr_sub [2, 3, 4, 5, 6, 1, 0] rfl ?_
          exact ih (j + 1) (cn + 1) (by omega) (by omega) (by rw [hans, mm_bf]; simp [c_53, c_66, c_77])
set_option maxHeartbeats 4000000 in
set_option maxRecDepth 100000 in
theorem xw_VModel_history_lp8 {p : Program} {l : Launch} {e : Env} {s : State} {m : MethodId} {args : Array Value} {below : List Frame} {meth : Method} {c : Code} {A : Nat → Prop} {Q : State → Prop} {g : vr_G} {a : Nat → Nat} (r : vx_R) (t : vm_A) (w : Nat → Bool) (b : vx_B) (rc : Int32) (fd : Int32) (i : Int32) (h : vm_ok r t b) (i0 : Nat) (hi0 : i0 < 2 ^ 31) (ans : Int32) (hF : vr_F p s m c cX5_history 7 args wsX5_history yX5_history.cls g.1 (vr_tys g) A) (hret : vr_RtI p l e rm_xw_VModel_history s m args below meth c cX5_history g.1 A 7 0 0 Q (vm_w g a r t w b) ans) : ∀ (n : Nat) (k : Nat), (tm_n t + 1 < k + n) → (k ≤ tm_n t + 1) → (ans = nI (mm_h r t rc fd i0 n k)) → vr_W p l e rm_xw_VModel_history s m args below meth c g.1 A 7 0 0 Q (vm_w g a r t w b) 8 [(0, .ref (a 0)), (1, .int rc), (2, .int fd), (3, .int (nI i0)), (4, .int (nI k))] [] := by
  obtain ⟨hrn, htn, hbn⟩ := id h
  intro n
  induction n with
  | zero => intro k hk1 hk2 hans; exact absurd hk1 (by omega)
  | succ n ih =>
    intro k hk1 hk2 hans
    refine vr_iload hF 4 rfl dX5_history_8 rfl ?_
    refine vr_aload_n hF 0 rfl dX5_history_10 rfl rfl ?_
    refine vr_get (v := .int (nI (tm_n t))) hF 0 5 (vr_in inX5) (vr_m flX5_53) rfl (by decide) rfl rfl rfl dX5_history_11 rfl ?_
    refine vr_icmp_gtN (tgt := 109) (x := k) (y := (tm_n t)) hF (by omega) (by omega) dX5_history_14 (by decide) rfl (fun c_14 => ?_) (fun c_14 => ?_)
    · skip
      refine vr_iconst (v := nI 0) hF dX5_history_109 (by decide +kernel) rfl ?_
      exact vr_reti hret dX5_history_110 (by rw [hans, mm_h]; simp [mm_hist, vr_bt, vr_bf, c_14])
    · skip
      have hk200 : k ≤ 200 := by omega
      refine vr_aload_n hF 0 rfl dX5_history_17 rfl rfl ?_
      refine vr_iload_n hF 1 rfl dX5_history_18 rfl rfl ?_
      refine vr_iload_n hF 2 rfl dX5_history_19 rfl rfl ?_
      refine vr_callV_Ci (rest := []) (n0 := 2) hF (xc_VModel_isField l g a r t w b rc fd) (vr_gV vr_hbc mlX5_66 imX5_isField seX5_isField iniX5 cdX5_isField) rfl (by decide +kernel) rfl rfl rfl ⟨Nat.le_of_ble_eq_true rfl, Nat.le_of_ble_eq_true rfl⟩ ⟨Nat.zero_le _, Nat.zero_le _⟩ 0 rfl rfl rfl (Nat.le_of_ble_eq_true rfl) dX5_history_20 rfl ?_
      refine vr_if_eqB (tgt := 109) hF dX5_history_23 (by decide) rfl (fun c_23 => ?_) (fun c_23 => ?_)
      · skip
        refine vr_iconst (v := nI 0) hF dX5_history_109 (by decide +kernel) rfl ?_
        exact vr_reti hret dX5_history_110 (by rw [hans, mm_h]; simp [mm_hist, vr_bt, vr_bf, c_14, c_23])
      · skip
        refine vr_iload_n hF 3 rfl dX5_history_26 rfl rfl ?_
        refine vr_if_ltN (tgt := 109) (x := i0) hF (by omega) dX5_history_27 (by decide) rfl ?_
        refine vr_aload_n hF 0 rfl dX5_history_30 rfl rfl ?_
        refine vr_iload hF 4 rfl dX5_history_31 rfl ?_
        refine vr_iload_n hF 1 rfl dX5_history_33 rfl rfl ?_
        refine vr_iload_n hF 2 rfl dX5_history_34 rfl rfl ?_
        refine vr_callV_Ci (rest := []) (n0 := 3) hF (xc_VModel_isOf l g a r t w b k rc fd (by omega)) (vr_gV vr_hbc mlX5_75 imX5_isOf seX5_isOf iniX5 cdX5_isOf) rfl (by decide +kernel) rfl rfl rfl ⟨Nat.le_of_ble_eq_true rfl, Nat.le_of_ble_eq_true rfl⟩ ⟨Nat.zero_le _, Nat.zero_le _⟩ 0 rfl rfl rfl (Nat.le_of_ble_eq_true rfl) dX5_history_35 rfl ?_
        refine vr_if_eqB (tgt := 103) hF dX5_history_38 (by decide) rfl (fun c_38 => ?_) (fun c_38 => ?_)
        · skip
          refine vr_iinc (lv' := [(4, .int (nI (k + 1))), (0, .ref (a 0)), (1, .int rc), (2, .int fd), (3, .int (nI i0))]) hF (nI (k + 1)) 4 rfl dX5_history_103 (nI_1 k) (by decide) rfl rfl ?_
          refine vr_goto (tgt := 8) hF dX5_history_106 (by decide) ?_
          refine vr_sub [1, 2, 3, 4, 0] rfl ?_
          exact ih (k + 1) (by omega) (by omega) (by rw [hans, mm_h]; simp [c_14, c_23, c_38])
        · skip
          refine vr_iconst (v := nI 0) hF dX5_history_41 (by decide +kernel) rfl ?_
          refine vr_istore (lv' := [(5, .int (nI 0)), (0, .ref (a 0)), (1, .int rc), (2, .int fd), (3, .int (nI i0)), (4, .int (nI k))]) hF dX5_history_42 (by decide) rfl rfl ?_
          refine vr_iconst (v := nI 1) hF dX5_history_44 (by decide +kernel) rfl ?_
          refine vr_istore (lv' := [(6, .int (nI 1)), (5, .int (nI 0)), (0, .ref (a 0)), (1, .int rc), (2, .int fd), (3, .int (nI i0)), (4, .int (nI k))]) hF dX5_history_45 (by decide) rfl rfl ?_
          have hbf : mm_bfT t rc fd k ≤ 0 + (tm_n t + 2) := mm_bf_le t rc fd k (tm_n t + 2) 1 0
          refine vr_sub [2, 3, 4, 5, 6, 1, 0] rfl ?_
          refine xw_VModel_history_lp47 r t w b rc fd i h i0 k hk200 (mm_bfT t rc fd k) hF ?_ (tm_n t + 2) 1 0 (by omega) (by omega) rfl
          refine vr_iload hF 5 rfl dX5_history_94 rfl ?_
          refine vr_iload_n hF 3 rfl dX5_history_96 rfl rfl ?_
          refine vr_icmp_neN (tgt := 103) (x := (mm_bfT t rc fd k)) (y := i0) hF (by omega) (by omega) dX5_history_97 (by decide) rfl (fun c_97 => ?_) (fun c_97 => ?_)
          · skip
            refine vr_iinc (lv' := [(4, .int (nI (k + 1))), (0, .ref (a 0)), (1, .int rc), (2, .int fd), (3, .int (nI i0)), (5, .int (nI (mm_bfT t rc fd k)))]) hF (nI (k + 1)) 4 rfl dX5_history_103 (nI_1 k) (by decide) rfl rfl ?_
            refine vr_goto (tgt := 8) hF dX5_history_106 (by decide) ?_
            refine vr_sub [1, 2, 3, 4, 0] rfl ?_
            exact ih (k + 1) (by omega) (by omega) (by rw [hans, mm_h]; simp [c_14, c_23, c_38, c_97])
          · skip
            refine vr_iload hF 4 rfl dX5_history_100 rfl ?_
            exact vr_reti hret dX5_history_102 (by rw [hans, mm_h]; simp [mm_hist, vr_bt, vr_bf, c_14, c_23, c_38, c_97])
set_option maxHeartbeats 4000000 in
set_option maxRecDepth 100000 in
theorem xc_VModel_history (l : Launch) (g : vr_G) (a : Nat → Nat) (r : vx_R) (t : vm_A) (w : Nat → Bool) (b : vx_B) (rc : Int32) (fd : Int32) (i : Int32) (h : vm_ok r t b) : vr_Ci l yX5_history wsX5_history rm_xw_VModel_history g.1 (vr_tys g) [.ref (a 0), .int rc, .int fd, .int i] (vm_w g a r t w b) (vm_w g a r t w b) (nI (mm_hist r t rc fd i)) := by
  obtain ⟨hrn, htn, hbn⟩ := id h
  refine vr_Ci_mk (cc := cX5_history) (nL := 7) (ty := .int) rfl (by decide) rfl (Nat.le_of_ble_eq_true rfl) ?_
  intro p e s m args below meth c A Q hF hret
  refine vr_to (ws' := (vm_w g a r t w b)) (lv' := [(0, .ref (a 0)), (1, .int rc), (2, .int fd), (3, .int i)]) (st' := []) rfl rfl rfl ?_
  by_cases hi0 : i < 0
  · skip
    refine vr_aload_n hF 0 rfl dX5_history_0 rfl rfl ?_
    refine vr_iconst (v := nI 0) hF dX5_history_1 (by decide +kernel) rfl ?_
    refine vr_put (ws' := (vm_w g a r t w b)) hF 0 0 (vr_in inX5) (vr_m flX5_46) rfl (by decide) rfl rfl tyX5 tyX5_ok nmX5 rfl rfl rfl (Nat.le_of_ble_eq_true rfl) rfl dX5_history_2 rfl ?_
    refine vr_iconst (v := nI 1) hF dX5_history_5 (by decide +kernel) rfl ?_
    refine vr_istore (lv' := [(4, .int (nI 1)), (0, .ref (a 0)), (1, .int rc), (2, .int fd), (3, .int i)]) hF dX5_history_6 (by decide) rfl rfl ?_
    refine vr_iload hF 0 rfl dX5_history_8 rfl ?_
    refine vr_aload_n hF 1 rfl dX5_history_10 rfl rfl ?_
    refine vr_get (v := .int (nI (tm_n t))) hF 0 5 (vr_in inX5) (vr_m flX5_53) rfl (by decide) rfl rfl rfl dX5_history_11 rfl ?_
    refine vr_icmp_gtN (tgt := 109) (x := 1) (y := (tm_n t)) hF (by omega) (by omega) dX5_history_14 (by decide) rfl (fun c_14 => ?_) (fun c_14 => ?_)
    · skip
      refine vr_iconst (v := nI 0) hF dX5_history_109 (by decide +kernel) rfl ?_
      exact vr_reti hret dX5_history_110 (by simp [mm_hist, vr_bt, vr_bf, c_14, hi0])
    · skip
      refine vr_aload_n hF 1 rfl dX5_history_17 rfl rfl ?_
      refine vr_iload_n hF 2 rfl dX5_history_18 rfl rfl ?_
      refine vr_iload_n hF 3 rfl dX5_history_19 rfl rfl ?_
      refine vr_callV_Ci (rest := []) (n0 := 2) hF (xc_VModel_isField l g a r t w b rc fd) (vr_gV vr_hbc mlX5_66 imX5_isField seX5_isField iniX5 cdX5_isField) rfl (by decide +kernel) rfl rfl rfl ⟨Nat.le_of_ble_eq_true rfl, Nat.le_of_ble_eq_true rfl⟩ ⟨Nat.zero_le _, Nat.zero_le _⟩ 0 rfl rfl rfl (Nat.le_of_ble_eq_true rfl) dX5_history_20 rfl ?_
      refine vr_if_eqB (tgt := 109) hF dX5_history_23 (by decide) rfl (fun c_23 => ?_) (fun c_23 => ?_)
      · skip
        refine vr_iconst (v := nI 0) hF dX5_history_109 (by decide +kernel) rfl ?_
        exact vr_reti hret dX5_history_110 (by simp [mm_hist, vr_bt, vr_bf, c_14, c_23, hi0])
      · skip
        refine vr_iload_n hF 4 rfl dX5_history_26 rfl rfl ?_
        refine vr_if_lt (tgt := 109) hF dX5_history_27 (by decide) rfl (fun c_27 => ?_) (fun c_27 => ?_)
        · skip
          refine vr_iconst (v := nI 0) hF dX5_history_109 (by decide +kernel) rfl ?_
          exact vr_reti hret dX5_history_110 (by simp [mm_hist, vr_bt, vr_bf, c_14, c_23, c_27, hi0])
        · skip
          exact absurd hi0 c_27
  · skip
    obtain ⟨j, hj, rfl⟩ := nI_of hi0
    have hcl : (nI j).toNatClampNeg = j := nI_clamp hj
    refine vr_aload_n hF 0 rfl dX5_history_0 rfl rfl ?_
    refine vr_iconst (v := nI 0) hF dX5_history_1 (by decide +kernel) rfl ?_
    refine vr_put (ws' := (vm_w g a r t w b)) hF 0 0 (vr_in inX5) (vr_m flX5_46) rfl (by decide) rfl rfl tyX5 tyX5_ok nmX5 rfl rfl rfl (Nat.le_of_ble_eq_true rfl) rfl dX5_history_2 rfl ?_
    refine vr_iconst (v := nI 1) hF dX5_history_5 (by decide +kernel) rfl ?_
    refine vr_istore (lv' := [(4, .int (nI 1)), (0, .ref (a 0)), (1, .int rc), (2, .int fd), (3, .int (nI j))]) hF dX5_history_6 (by decide) rfl rfl ?_
    refine vr_sub [1, 2, 3, 4, 0] rfl ?_
    exact xw_VModel_history_lp8 r t w b rc fd (nI j) h j hj _ hF hret (tm_n t + 2) 1 (by omega) (by omega) (by simp [mm_hist, hcl, hi0])
