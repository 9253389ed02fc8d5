def rm_xw_Acts_has : Room := { frames := 0, cells := 0, slots := 0, locals := 0 }
set_option maxHeartbeats 4000000 in
set_option maxRecDepth 100000 in
theorem xc_Acts_has (l : Launch) (g : vr_G) (a : Nat → Nat) (r : vx_R) (t : vx_A) (w : Nat → Int64) (b : vx_B) (i : Int32) : vr_Ci l yX0_has wsX0_has rm_xw_Acts_has g.1 (vr_tys g) [.ref (a 2), .int i] (vx_w g a r t w b) (vx_w g a r t w b) (vr_b (vx_has (ta_n t) i)) := by
  refine vr_Ci_mk (cc := cX0_has) (nL := 2) (ty := .boolean) (vr_nz _) (by decide) rfl (Nat.le_of_ble_eq_true rfl) ?_
  intro p e s m args below meth c A Q hF hret
  refine vr_to (ws' := (vx_w g a r t w b)) (lv' := [(0, .ref (a 2)), (1, .int i)]) (st' := []) rfl rfl rfl ?_
  refine vr_iload_n hF 1 rfl dX0_has_0 rfl rfl ?_
  refine vr_iconst (v := nI 1) hF dX0_has_1 (by decide +kernel) rfl ?_
  refine vr_icmp_lt (tgt := 17) hF dX0_has_2 (by decide) rfl (fun c_2 => ?_) (fun c_2 => ?_)
  · skip
    refine vr_iconst (v := nI 0) hF dX0_has_17 (by decide +kernel) rfl ?_
    exact vr_reti hret dX0_has_18 (by simp [vx_has, vr_bt, vr_bf, c_2])
  · skip
    refine vr_iload_n hF 1 rfl dX0_has_5 rfl rfl ?_
    refine vr_aload_n hF 0 rfl dX0_has_6 rfl rfl ?_
    refine vr_get (v := .int (nI (ta_n t))) hF 2 7 (vr_in inX0) (vr_m flX0_35) rfl (by decide) rfl rfl rfl dX0_has_7 rfl ?_
    refine vr_icmp_gt (tgt := 17) hF dX0_has_10 (by decide) rfl (fun c_10 => ?_) (fun c_10 => ?_)
    · skip
      refine vr_iconst (v := nI 0) hF dX0_has_17 (by decide +kernel) rfl ?_
      exact vr_reti hret dX0_has_18 (by simp [vx_has, vr_bt, vr_bf, c_2, c_10])
    · skip
      refine vr_iconst (v := nI 1) hF dX0_has_13 (by decide +kernel) rfl ?_
      refine vr_goto (tgt := 18) hF dX0_has_14 (by decide) ?_
      exact vr_reti hret dX0_has_18 (by simp [vx_has, vr_bt, vr_bf, c_2, c_10])
def rm_xw_Acts_count : Room := { frames := 0, cells := 0, slots := 0, locals := 0 }
set_option maxHeartbeats 4000000 in
set_option maxRecDepth 100000 in
theorem xc_Acts_count (l : Launch) (g : vr_G) (a : Nat → Nat) (r : vx_R) (t : vx_A) (w : Nat → Int64) (b : vx_B) : vr_Ci l yX0_count wsX0_count rm_xw_Acts_count g.1 (vr_tys g) [.ref (a 2)] (vx_w g a r t w b) (vx_w g a r t w b) (nI (ta_n t)) := by
  refine vr_Ci_mk (cc := cX0_count) (nL := 1) (ty := .int) rfl (by decide) rfl (Nat.le_of_ble_eq_true rfl) ?_
  intro p e s m args below meth c A Q hF hret
  refine vr_to (ws' := (vx_w g a r t w b)) (lv' := [(0, .ref (a 2))]) (st' := []) rfl rfl rfl ?_
  refine vr_aload_n hF 0 rfl dX0_count_0 rfl rfl ?_
  refine vr_get (v := .int (nI (ta_n t))) hF 2 7 (vr_in inX0) (vr_m flX0_35) rfl (by decide) rfl rfl rfl dX0_count_1 rfl ?_
  exact vr_reti hret dX0_count_4 (by simp [vr_bt, vr_bf])
def rm_xw_Acts_counts : Room := { frames := 0, cells := 0, slots := 0, locals := 0 }
set_option maxHeartbeats 4000000 in
set_option maxRecDepth 100000 in
theorem xc_Acts_counts (l : Launch) (g : vr_G) (a : Nat → Nat) (r : vx_R) (t : vx_A) (w : Nat → Int64) (b : vx_B) (k : Nat) (hk : k ≤ 200) : vr_Ci l yX0_counts wsX0_counts rm_xw_Acts_counts g.1 (vr_tys g) [.ref (a 2), .int (nI k)] (vx_w g a r t w b) (vx_w g a r t w b) (vr_b (ta_c t k)) := by
  refine vr_Ci_mk (cc := cX0_counts) (nL := 2) (ty := .boolean) (vr_nz _) (by decide) rfl (Nat.le_of_ble_eq_true rfl) ?_
  intro p e s m args below meth c A Q hF hret
  refine vr_to (ws' := (vx_w g a r t w b)) (lv' := [(0, .ref (a 2)), (1, .int (nI k))]) (st' := []) rfl rfl rfl ?_
  refine vr_aload_n hF 0 rfl dX0_counts_0 rfl rfl ?_
  refine vr_get (v := .ref (a 13)) hF 2 5 (vr_in inX0) (vr_m flX0_28) rfl (by decide) rfl rfl rfl dX0_counts_1 rfl ?_
  refine vr_iload_n hF 1 rfl dX0_counts_4 rfl rfl ?_
  refine vr_zald (i := k) (n := 201) (f := (fun j => vr_b ((ta_c t) j))) hF 13 2 rfl rfl (by omega) (by decide) dX0_counts_5 rfl ?_
  refine vr_to (ws' := (vx_w g a r t w b)) (lv' := [(0, .ref (a 2)), (1, .int (nI k))]) (st' := [.int (vr_b ((ta_c t) k))]) rfl rfl rfl ?_
  exact vr_reti hret dX0_counts_6 (by simp [vr_bt, vr_bf])
def rm_xw_Acts_value : Room := { frames := 0, cells := 0, slots := 0, locals := 0 }
set_option maxHeartbeats 4000000 in
set_option maxRecDepth 100000 in
theorem xc_Acts_value (l : Launch) (g : vr_G) (a : Nat → Nat) (r : vx_R) (t : vx_A) (w : Nat → Int64) (b : vx_B) (k : Nat) (hk : k ≤ 200) : vr_Ci l yX0_value wsX0_value rm_xw_Acts_value g.1 (vr_tys g) [.ref (a 2), .int (nI k)] (vx_w g a r t w b) (vx_w g a r t w b) (ta_v t k) := by
  refine vr_Ci_mk (cc := cX0_value) (nL := 2) (ty := .int) rfl (by decide) rfl (Nat.le_of_ble_eq_true rfl) ?_
  intro p e s m args below meth c A Q hF hret
  refine vr_to (ws' := (vx_w g a r t w b)) (lv' := [(0, .ref (a 2)), (1, .int (nI k))]) (st' := []) rfl rfl rfl ?_
  refine vr_aload_n hF 0 rfl dX0_value_0 rfl rfl ?_
  refine vr_get (v := .ref (a 10)) hF 2 2 (vr_in inX0) (vr_m flX0_18) rfl (by decide) rfl rfl rfl dX0_value_1 rfl ?_
  refine vr_iload_n hF 1 rfl dX0_value_4 rfl rfl ?_
  refine vr_iald (i := k) (n := 201) (f := (ta_v t)) hF 10 0 rfl rfl (by omega) (by decide) dX0_value_5 rfl ?_
  exact vr_reti hret dX0_value_6 (by simp [vr_bt, vr_bf])
def rm_xw_Acts_known : Room := { frames := 0, cells := 0, slots := 0, locals := 0 }
set_option maxHeartbeats 4000000 in
set_option maxRecDepth 100000 in
theorem xc_Acts_known (l : Launch) (g : vr_G) (a : Nat → Nat) (r : vx_R) (t : vx_A) (w : Nat → Int64) (b : vx_B) (k : Nat) (hk : k ≤ 200) : vr_Cl l yX0_known wsX0_known rm_xw_Acts_known g.1 (vr_tys g) [.ref (a 2), .int (nI k)] (vx_w g a r t w b) (vx_w g a r t w b) (ta_k t k) := by
  refine vr_Cl_mk (cc := cX0_known) (nL := 2) (by decide) rfl (Nat.le_of_ble_eq_true rfl) ?_
  intro p e s m args below meth c A Q hF hret
  refine vr_to (ws' := (vx_w g a r t w b)) (lv' := [(0, .ref (a 2)), (1, .int (nI k))]) (st' := []) rfl rfl rfl ?_
  refine vr_aload_n hF 0 rfl dX0_known_0 rfl rfl ?_
  refine vr_get (v := .ref (a 12)) hF 2 4 (vr_in inX0) (vr_m flX0_25) rfl (by decide) rfl rfl rfl dX0_known_1 rfl ?_
  refine vr_iload_n hF 1 rfl dX0_known_4 rfl rfl ?_
  refine vr_lald (i := k) (n := 201) (f := (ta_k t)) hF 12 1 rfl rfl (by omega) (by decide) dX0_known_5 rfl ?_
  exact vr_retl hret dX0_known_6 (by simp [vr_bt, vr_bf])
def rm_xw_Acts_now : Room := { frames := 0, cells := 0, slots := 0, locals := 0 }
set_option maxHeartbeats 4000000 in
set_option maxRecDepth 100000 in
theorem xc_Acts_now (l : Launch) (g : vr_G) (a : Nat → Nat) (r : vx_R) (t : vx_A) (w : Nat → Int64) (b : vx_B) (h : vx_ok r t b) : vr_Cl l yX0_now wsX0_now rm_xw_Acts_now g.1 (vr_tys g) [.ref (a 2)] (vx_w g a r t w b) (vx_w g a r t w b) (xa_now t) := by
  obtain ⟨hrn, htn, hto, hbn⟩ := id h
  refine vr_Cl_mk (cc := cX0_now) (nL := 1) (by decide) rfl (Nat.le_of_ble_eq_true rfl) ?_
  intro p e s m args below meth c A Q hF hret
  refine vr_to (ws' := (vx_w g a r t w b)) (lv' := [(0, .ref (a 2))]) (st' := []) rfl rfl rfl ?_
  refine vr_aload_n hF 0 rfl dX0_now_0 rfl rfl ?_
  refine vr_get (v := .int (nI (ta_n t))) hF 2 7 (vr_in inX0) (vr_m flX0_35) rfl (by decide) rfl rfl rfl dX0_now_1 rfl ?_
  refine vr_if_neN (tgt := 13) (x := (ta_n t)) hF (by omega) dX0_now_4 (by decide) rfl (fun c_4 => ?_) (fun c_4 => ?_)
  · skip
    refine vr_aload_n hF 0 rfl dX0_now_13 rfl rfl ?_
    refine vr_get (v := .ref (a 12)) hF 2 4 (vr_in inX0) (vr_m flX0_25) rfl (by decide) rfl rfl rfl dX0_now_14 rfl ?_
    refine vr_aload_n hF 0 rfl dX0_now_17 rfl rfl ?_
    refine vr_get (v := .ref (a 14)) hF 2 6 (vr_in inX0) (vr_m flX0_32) rfl (by decide) rfl rfl rfl dX0_now_18 rfl ?_
    refine vr_aload_n hF 0 rfl dX0_now_21 rfl rfl ?_
    refine vr_get (v := .int (nI (ta_n t))) hF 2 7 (vr_in inX0) (vr_m flX0_35) rfl (by decide) rfl rfl rfl dX0_now_22 rfl ?_
    refine vr_iald (i := ta_n t) (n := 201) (f := (fun j => nI ((ta_o t) j))) hF 14 0 rfl rfl (by omega) (by decide) dX0_now_25 rfl ?_
    refine vr_to (ws' := (vx_w g a r t w b)) (lv' := [(0, .ref (a 2))]) (st' := [.int (nI ((ta_o t) (ta_n t))), .ref (a 12)]) rfl rfl rfl ?_
    have ho1 := hto (ta_n t)
    refine vr_lald (i := (ta_o t) (ta_n t)) (n := 201) (f := (ta_k t)) hF 12 1 rfl rfl (by omega) (by decide) dX0_now_26 rfl ?_
    exact vr_retl hret dX0_now_27 (by simp [xa_now, vr_bt, vr_bf, c_4])
  · skip
    refine vr_ldc2 (v := vr_min) hF (vr_m kX0_39) dX0_now_7 rfl ?_
    refine vr_goto (tgt := 27) hF dX0_now_10 (by decide) ?_
    exact vr_retl hret dX0_now_27 (by simp [xa_now, vr_bt, vr_bf, c_4])
def rm_xw_Acts_setUndone : Room := { frames := 0, cells := 0, slots := 0, locals := 0 }
set_option maxHeartbeats 4000000 in
set_option maxRecDepth 100000 in
theorem xc_Acts_setUndone (l : Launch) (g : vr_G) (a : Nat → Nat) (r : vx_R) (t : vx_A) (w : Nat → Int64) (b : vx_B) (k : Nat) (hk : k ≤ 200) : vr_Cv l yX0_setUndone wsX0_setUndone rm_xw_Acts_setUndone g.1 (vr_tys g) [.ref (a 2), .int (nI k)] (vx_w g a r t w b) (vx_w g a r (ta_setC t (vr_ub (ta_c t) k false)) w b)  := by
  refine vr_Cv_mk (cc := cX0_setUndone) (nL := 2) (by decide) rfl (Nat.le_of_ble_eq_true rfl) ?_
  intro p e s m args below meth c A Q hF hret
  refine vr_to (ws' := (vx_w g a r t w b)) (lv' := [(0, .ref (a 2)), (1, .int (nI k))]) (st' := []) rfl rfl rfl ?_
  refine vr_aload_n hF 0 rfl dX0_setUndone_0 rfl rfl ?_
  refine vr_get (v := .ref (a 13)) hF 2 5 (vr_in inX0) (vr_m flX0_28) rfl (by decide) rfl rfl rfl dX0_setUndone_1 rfl ?_
  refine vr_iload_n hF 1 rfl dX0_setUndone_4 rfl rfl ?_
  refine vr_iconst (v := nI 0) hF dX0_setUndone_5 (by decide +kernel) rfl ?_
  refine vr_zastB (ws' := (vx_w g a r (ta_r t, ta_f t, ta_v t, ta_d t, ta_k t, vr_ub (ta_c t) k false, ta_o t, ta_n t) w b)) (i := k) (x := false) (n := 201) (f := (ta_c t)) hF 13 2 rfl rfl (by omega) (by decide) rfl dX0_setUndone_6 rfl ?_
  exact vr_retv hret dX0_setUndone_7 rfl
def rm_xw_Acts_isOf : Room := { frames := 0, cells := 0, slots := 0, locals := 0 }
set_option maxHeartbeats 4000000 in
set_option maxRecDepth 100000 in
theorem xc_Acts_isOf (l : Launch) (g : vr_G) (a : Nat → Nat) (r : vx_R) (t : vx_A) (w : Nat → Int64) (b : vx_B) (k : Nat) (rc : Int32) (fd : Int32) (hk : k ≤ 200) : vr_Ci l yX0_isOf wsX0_isOf rm_xw_Acts_isOf g.1 (vr_tys g) [.ref (a 2), .int (nI k), .int rc, .int fd] (vx_w g a r t w b) (vx_w g a r t w b) (vr_b (xa_isOf t k rc fd)) := by
  refine vr_Ci_mk (cc := cX0_isOf) (nL := 4) (ty := .boolean) (vr_nz _) (by decide) rfl (Nat.le_of_ble_eq_true rfl) ?_
  intro p e s m args below meth c A Q hF hret
  refine vr_to (ws' := (vx_w g a r t w b)) (lv' := [(0, .ref (a 2)), (1, .int (nI k)), (2, .int rc), (3, .int fd)]) (st' := []) rfl rfl rfl ?_
  refine vr_aload_n hF 0 rfl dX0_isOf_0 rfl rfl ?_
  refine vr_get (v := .ref (a 8)) hF 2 0 (vr_in inX0) (vr_m flX0_9) rfl (by decide) rfl rfl rfl dX0_isOf_1 rfl ?_
  refine vr_iload_n hF 1 rfl dX0_isOf_4 rfl rfl ?_
  refine vr_iald (i := k) (n := 201) (f := (ta_r t)) hF 8 0 rfl rfl (by omega) (by decide) dX0_isOf_5 rfl ?_
  refine vr_iload_n hF 2 rfl dX0_isOf_6 rfl rfl ?_
  refine vr_icmp_ne (tgt := 24) hF dX0_isOf_7 (by decide) rfl (fun c_7 => ?_) (fun c_7 => ?_)
  · skip
    refine vr_iconst (v := nI 0) hF dX0_isOf_24 (by decide +kernel) rfl ?_
    exact vr_reti hret dX0_isOf_25 (by simp [xa_isOf, vr_bt, vr_bf, c_7])
  · skip
    refine vr_aload_n hF 0 rfl dX0_isOf_10 rfl rfl ?_
    refine vr_get (v := .ref (a 9)) hF 2 1 (vr_in inX0) (vr_m flX0_15) rfl (by decide) rfl rfl rfl dX0_isOf_11 rfl ?_
    refine vr_iload_n hF 1 rfl dX0_isOf_14 rfl rfl ?_
    refine vr_iald (i := k) (n := 201) (f := (ta_f t)) hF 9 0 rfl rfl (by omega) (by decide) dX0_isOf_15 rfl ?_
    refine vr_iload_n hF 3 rfl dX0_isOf_16 rfl rfl ?_
    refine vr_icmp_ne (tgt := 24) hF dX0_isOf_17 (by decide) rfl (fun c_17 => ?_) (fun c_17 => ?_)
    · skip
      refine vr_iconst (v := nI 0) hF dX0_isOf_24 (by decide +kernel) rfl ?_
      exact vr_reti hret dX0_isOf_25 (by simp [xa_isOf, vr_bt, vr_bf, c_7, c_17])
    · skip
      refine vr_iconst (v := nI 1) hF dX0_isOf_20 (by decide +kernel) rfl ?_
      refine vr_goto (tgt := 25) hF dX0_isOf_21 (by decide) ?_
      exact vr_reti hret dX0_isOf_25 (by simp [xa_isOf, vr_bt, vr_bf, c_7, c_17])
def rm_xw_Acts_isBehind : Room := { frames := 0, cells := 0, slots := 0, locals := 0 }
set_option maxHeartbeats 4000000 in
set_option maxRecDepth 100000 in
theorem xc_Acts_isBehind (l : Launch) (g : vr_G) (a : Nat → Nat) (r : vx_R) (t : vx_A) (w : Nat → Int64) (b : vx_B) (i : Nat) (j : Nat) (hi : i ≤ 200) (hj : j ≤ 200) : vr_Ci l yX0_isBehind wsX0_isBehind rm_xw_Acts_isBehind g.1 (vr_tys g) [.ref (a 2), .int (nI i), .int (nI j)] (vx_w g a r t w b) (vx_w g a r t w b) (vr_b (xa_behind t i j)) := by
  refine vr_Ci_mk (cc := cX0_isBehind) (nL := 3) (ty := .boolean) (vr_nz _) (by decide) rfl (Nat.le_of_ble_eq_true rfl) ?_
  intro p e s m args below meth c A Q hF hret
  refine vr_to (ws' := (vx_w g a r t w b)) (lv' := [(0, .ref (a 2)), (1, .int (nI i)), (2, .int (nI j))]) (st' := []) rfl rfl rfl ?_
  refine vr_aload_n hF 0 rfl dX0_isBehind_0 rfl rfl ?_
  refine vr_get (v := .ref (a 12)) hF 2 4 (vr_in inX0) (vr_m flX0_25) rfl (by decide) rfl rfl rfl dX0_isBehind_1 rfl ?_
  refine vr_iload_n hF 1 rfl dX0_isBehind_4 rfl rfl ?_
  refine vr_lald (i := i) (n := 201) (f := (ta_k t)) hF 12 1 rfl rfl (by omega) (by decide) dX0_isBehind_5 rfl ?_
  refine vr_aload_n hF 0 rfl dX0_isBehind_6 rfl rfl ?_
  refine vr_get (v := .ref (a 12)) hF 2 4 (vr_in inX0) (vr_m flX0_25) rfl (by decide) rfl rfl rfl dX0_isBehind_7 rfl ?_
  refine vr_iload_n hF 2 rfl dX0_isBehind_10 rfl rfl ?_
  refine vr_lald (i := j) (n := 201) (f := (ta_k t)) hF 12 1 rfl rfl (by omega) (by decide) dX0_isBehind_11 rfl ?_
  refine vr_lcmp_eq (tgt := 38) hF dX0_isBehind_12 dX0_isBehind_13 (by decide) rfl (fun c_13 => ?_) (fun c_13 => ?_)
  · skip
    refine vr_aload_n hF 0 rfl dX0_isBehind_38 rfl rfl ?_
    refine vr_get (v := .ref (a 11)) hF 2 3 (vr_in inX0) (vr_m flX0_21) rfl (by decide) rfl rfl rfl dX0_isBehind_39 rfl ?_
    refine vr_iload_n hF 1 rfl dX0_isBehind_42 rfl rfl ?_
    refine vr_lald (i := i) (n := 201) (f := (ta_d t)) hF 11 1 rfl rfl (by omega) (by decide) dX0_isBehind_43 rfl ?_
    refine vr_aload_n hF 0 rfl dX0_isBehind_44 rfl rfl ?_
    refine vr_get (v := .ref (a 11)) hF 2 3 (vr_in inX0) (vr_m flX0_21) rfl (by decide) rfl rfl rfl dX0_isBehind_45 rfl ?_
    refine vr_iload_n hF 2 rfl dX0_isBehind_48 rfl rfl ?_
    refine vr_lald (i := j) (n := 201) (f := (ta_d t)) hF 11 1 rfl rfl (by omega) (by decide) dX0_isBehind_49 rfl ?_
    refine vr_lcmp_le (tgt := 58) hF dX0_isBehind_50 dX0_isBehind_51 (by decide) rfl (fun c_51 => ?_) (fun c_51 => ?_)
    · skip
      refine vr_iconst (v := nI 0) hF dX0_isBehind_58 (by decide +kernel) rfl ?_
      exact vr_reti hret dX0_isBehind_59 (by simp [xa_behind, vr_bt, vr_bf, c_13, c_51])
    · skip
      refine vr_iconst (v := nI 1) hF dX0_isBehind_54 (by decide +kernel) rfl ?_
      refine vr_goto (tgt := 59) hF dX0_isBehind_55 (by decide) ?_
      exact vr_reti hret dX0_isBehind_59 (by simp [xa_behind, vr_bt, vr_bf, c_13, c_51])
  · skip
    refine vr_aload_n hF 0 rfl dX0_isBehind_16 rfl rfl ?_
    refine vr_get (v := .ref (a 12)) hF 2 4 (vr_in inX0) (vr_m flX0_25) rfl (by decide) rfl rfl rfl dX0_isBehind_17 rfl ?_
    refine vr_iload_n hF 1 rfl dX0_isBehind_20 rfl rfl ?_
    refine vr_lald (i := i) (n := 201) (f := (ta_k t)) hF 12 1 rfl rfl (by omega) (by decide) dX0_isBehind_21 rfl ?_
    refine vr_aload_n hF 0 rfl dX0_isBehind_22 rfl rfl ?_
    refine vr_get (v := .ref (a 12)) hF 2 4 (vr_in inX0) (vr_m flX0_25) rfl (by decide) rfl rfl rfl dX0_isBehind_23 rfl ?_
    refine vr_iload_n hF 2 rfl dX0_isBehind_26 rfl rfl ?_
    refine vr_lald (i := j) (n := 201) (f := (ta_k t)) hF 12 1 rfl rfl (by omega) (by decide) dX0_isBehind_27 rfl ?_
    refine vr_lcmp_le (tgt := 36) hF dX0_isBehind_28 dX0_isBehind_29 (by decide) rfl (fun c_29 => ?_) (fun c_29 => ?_)
    · skip
      refine vr_iconst (v := nI 0) hF dX0_isBehind_36 (by decide +kernel) rfl ?_
      exact vr_reti hret dX0_isBehind_37 (by simp [xa_behind, vr_bt, vr_bf, c_13, c_29])
    · skip
      refine vr_iconst (v := nI 1) hF dX0_isBehind_32 (by decide +kernel) rfl ?_
      refine vr_goto (tgt := 37) hF dX0_isBehind_33 (by decide) ?_
      exact vr_reti hret dX0_isBehind_37 (by simp [xa_behind, vr_bt, vr_bf, c_13, c_29])
def rm_xw_Acts_areInConflict : Room := { frames := 1, cells := 0, slots := 0, locals := 23 }
set_option maxHeartbeats 4000000 in
set_option maxRecDepth 100000 in
theorem xc_Acts_areInConflict (l : Launch) (g : vr_G) (a : Nat → Nat) (r : vx_R) (t : vx_A) (w : Nat → Int64) (b : vx_B) (i : Nat) (j : Nat) (hi : i ≤ 200) (hj : j ≤ 200) : vr_Ci l yX0_areInConflict wsX0_areInConflict rm_xw_Acts_areInConflict g.1 (vr_tys g) [.ref (a 2), .int (nI i), .int (nI j)] (vx_w g a r t w b) (vx_w g a r t w b) (vr_b (xa_conf t i j)) := by
  refine vr_Ci_mk (cc := cX0_areInConflict) (nL := 3) (ty := .boolean) (vr_nz _) (by decide) rfl (Nat.le_of_ble_eq_true rfl) ?_
  intro p e s m args below meth c A Q hF hret
  refine vr_to (ws' := (vx_w g a r t w b)) (lv' := [(0, .ref (a 2)), (1, .int (nI i)), (2, .int (nI j))]) (st' := []) rfl rfl rfl ?_
  refine vr_aload_n hF 0 rfl dX0_areInConflict_0 rfl rfl ?_
  refine vr_get (v := .ref (a 12)) hF 2 4 (vr_in inX0) (vr_m flX0_25) rfl (by decide) rfl rfl rfl dX0_areInConflict_1 rfl ?_
  refine vr_iload_n hF 1 rfl dX0_areInConflict_4 rfl rfl ?_
  refine vr_lald (i := i) (n := 201) (f := (ta_k t)) hF 12 1 rfl rfl (by omega) (by decide) dX0_areInConflict_5 rfl ?_
  refine vr_aload_n hF 0 rfl dX0_areInConflict_6 rfl rfl ?_
  refine vr_get (v := .ref (a 12)) hF 2 4 (vr_in inX0) (vr_m flX0_25) rfl (by decide) rfl rfl rfl dX0_areInConflict_7 rfl ?_
  refine vr_iload_n hF 2 rfl dX0_areInConflict_10 rfl rfl ?_
  refine vr_lald (i := j) (n := 201) (f := (ta_k t)) hF 12 1 rfl rfl (by omega) (by decide) dX0_areInConflict_11 rfl ?_
  refine vr_lcmp_ne (tgt := 73) hF dX0_areInConflict_12 dX0_areInConflict_13 (by decide) rfl (fun c_13 => ?_) (fun c_13 => ?_)
  · skip
    refine vr_iconst (v := nI 0) hF dX0_areInConflict_73 (by decide +kernel) rfl ?_
    exact vr_reti hret dX0_areInConflict_74 (by simp [xa_conf, vr_bt, vr_bf, c_13])
  · skip
    refine vr_aload_n hF 0 rfl dX0_areInConflict_16 rfl rfl ?_
    refine vr_get (v := .ref (a 13)) hF 2 5 (vr_in inX0) (vr_m flX0_28) rfl (by decide) rfl rfl rfl dX0_areInConflict_17 rfl ?_
    refine vr_iload_n hF 1 rfl dX0_areInConflict_20 rfl rfl ?_
    refine vr_zald (i := i) (n := 201) (f := (fun j => vr_b ((ta_c t) j))) hF 13 2 rfl rfl (by omega) (by decide) dX0_areInConflict_21 rfl ?_
    refine vr_to (ws' := (vx_w g a r t w b)) (lv' := [(0, .ref (a 2)), (1, .int (nI i)), (2, .int (nI j))]) (st' := [.int (vr_b ((ta_c t) i))]) rfl rfl rfl ?_
    refine vr_if_eqB (tgt := 73) hF dX0_areInConflict_22 (by decide) rfl (fun c_22 => ?_) (fun c_22 => ?_)
    · skip
      refine vr_iconst (v := nI 0) hF dX0_areInConflict_73 (by decide +kernel) rfl ?_
      exact vr_reti hret dX0_areInConflict_74 (by simp [xa_conf, vr_bt, vr_bf, c_13, c_22])
    · skip
      refine vr_aload_n hF 0 rfl dX0_areInConflict_25 rfl rfl ?_
      refine vr_get (v := .ref (a 13)) hF 2 5 (vr_in inX0) (vr_m flX0_28) rfl (by decide) rfl rfl rfl dX0_areInConflict_26 rfl ?_
      refine vr_iload_n hF 2 rfl dX0_areInConflict_29 rfl rfl ?_
      refine vr_zald (i := j) (n := 201) (f := (fun j => vr_b ((ta_c t) j))) hF 13 2 rfl rfl (by omega) (by decide) dX0_areInConflict_30 rfl ?_
      refine vr_to (ws' := (vx_w g a r t w b)) (lv' := [(0, .ref (a 2)), (1, .int (nI i)), (2, .int (nI j))]) (st' := [.int (vr_b ((ta_c t) j))]) rfl rfl rfl ?_
      refine vr_if_eqB (tgt := 73) hF dX0_areInConflict_31 (by decide) rfl (fun c_31 => ?_) (fun c_31 => ?_)
      · skip
        refine vr_iconst (v := nI 0) hF dX0_areInConflict_73 (by decide +kernel) rfl ?_
        exact vr_reti hret dX0_areInConflict_74 (by simp [xa_conf, vr_bt, vr_bf, c_13, c_22, c_31])
      · skip
        refine vr_aload_n hF 0 rfl dX0_areInConflict_34 rfl rfl ?_
        refine vr_iload_n hF 1 rfl dX0_areInConflict_35 rfl rfl ?_
        refine vr_aload_n hF 0 rfl dX0_areInConflict_36 rfl rfl ?_
        refine vr_get (v := .ref (a 8)) hF 2 0 (vr_in inX0) (vr_m flX0_9) rfl (by decide) rfl rfl rfl dX0_areInConflict_37 rfl ?_
        refine vr_iload_n hF 2 rfl dX0_areInConflict_40 rfl rfl ?_
        refine vr_iald (i := j) (n := 201) (f := (ta_r t)) hF 8 0 rfl rfl (by omega) (by decide) dX0_areInConflict_41 rfl ?_
        refine vr_aload_n hF 0 rfl dX0_areInConflict_42 rfl rfl ?_
        refine vr_get (v := .ref (a 9)) hF 2 1 (vr_in inX0) (vr_m flX0_15) rfl (by decide) rfl rfl rfl dX0_areInConflict_43 rfl ?_
        refine vr_iload_n hF 2 rfl dX0_areInConflict_46 rfl rfl ?_
        refine vr_iald (i := j) (n := 201) (f := (ta_f t)) hF 9 0 rfl rfl (by omega) (by decide) dX0_areInConflict_47 rfl ?_
        refine vr_callV_Ci (rest := []) (n0 := 3) hF (xc_Acts_isOf l g a r t w b i ((ta_r t) j) ((ta_f t) j) (by omega)) (vr_gV vr_hbc mlX0_48 imX0_isOf seX0_isOf iniX0 cdX0_isOf) rfl (by decide +kernel) rfl rfl rfl ⟨Nat.le_of_ble_eq_true rfl, Nat.le_of_ble_eq_true rfl⟩ ⟨Nat.zero_le _, Nat.zero_le _⟩ 2 rfl rfl rfl (Nat.le_of_ble_eq_true rfl) dX0_areInConflict_48 rfl ?_
        refine vr_if_eqB (tgt := 73) hF dX0_areInConflict_51 (by decide) rfl (fun c_51 => ?_) (fun c_51 => ?_)
        · skip
          refine vr_iconst (v := nI 0) hF dX0_areInConflict_73 (by decide +kernel) rfl ?_
          exact vr_reti hret dX0_areInConflict_74 (by simp [xa_conf, vr_bt, vr_bf, c_13, c_22, c_31, c_51])
        · skip
          refine vr_aload_n hF 0 rfl dX0_areInConflict_54 rfl rfl ?_
          refine vr_get (v := .ref (a 10)) hF 2 2 (vr_in inX0) (vr_m flX0_18) rfl (by decide) rfl rfl rfl dX0_areInConflict_55 rfl ?_
          refine vr_iload_n hF 1 rfl dX0_areInConflict_58 rfl rfl ?_
          refine vr_iald (i := i) (n := 201) (f := (ta_v t)) hF 10 0 rfl rfl (by omega) (by decide) dX0_areInConflict_59 rfl ?_
          refine vr_aload_n hF 0 rfl dX0_areInConflict_60 rfl rfl ?_
          refine vr_get (v := .ref (a 10)) hF 2 2 (vr_in inX0) (vr_m flX0_18) rfl (by decide) rfl rfl rfl dX0_areInConflict_61 rfl ?_
          refine vr_iload_n hF 2 rfl dX0_areInConflict_64 rfl rfl ?_
          refine vr_iald (i := j) (n := 201) (f := (ta_v t)) hF 10 0 rfl rfl (by omega) (by decide) dX0_areInConflict_65 rfl ?_
          refine vr_icmp_eq (tgt := 73) hF dX0_areInConflict_66 (by decide) rfl (fun c_66 => ?_) (fun c_66 => ?_)
          · skip
            refine vr_iconst (v := nI 0) hF dX0_areInConflict_73 (by decide +kernel) rfl ?_
            exact vr_reti hret dX0_areInConflict_74 (by simp [xa_conf, vr_bt, vr_bf, c_13, c_22, c_31, c_51, c_66])
          · skip
            refine vr_iconst (v := nI 1) hF dX0_areInConflict_69 (by decide +kernel) rfl ?_
            refine vr_goto (tgt := 74) hF dX0_areInConflict_70 (by decide) ?_
            exact vr_reti hret dX0_areInConflict_74 (by simp [xa_conf, vr_bt, vr_bf, c_13, c_22, c_31, c_51, c_66])
def rm_xw_Acts_findCounting : Room := { frames := 1, cells := 0, slots := 0, locals := 23 }
set_option maxHeartbeats 4000000 in
set_option maxRecDepth 100000 in
theorem xw_Acts_findCounting_lp3 {p : Program} {l : Launch} {e : Env} {s : State} {m : MethodId} {args : Array Value} {below : List Frame} {meth : Method} {c : Code} {A : Nat → Prop} {Q : State → Prop} {g : vr_G} {a : Nat → Nat} (r : vx_R) (t : vx_A) (w : Nat → Int64) (b : vx_B) (rc : Int32) (fd : Int32) (v : Int32) (vd : Int64) (kn : Int64) (h : vx_ok r t b)  (ans : Int32) (hF : vr_F p s m c cX0_findCounting 9 args wsX0_findCounting yX0_findCounting.cls g.1 (vr_tys g) A) (hret : vr_RtI p l e rm_xw_Acts_findCounting s m args below meth c cX0_findCounting g.1 A 9 0 0 Q (vx_w g a r t w b) ans) : ∀ (n : Nat) (k : Nat), (ta_n t + 1 < k + n) → (k ≤ ta_n t + 1) → (ans = nI (xa_find t rc fd v vd kn n k)) → vr_W p l e rm_xw_Acts_findCounting s m args below meth c g.1 A 9 0 0 Q (vx_w g a r t w b) 3 [(0, .ref (a 2)), (1, .int rc), (2, .int fd), (3, .int v), (4, .long vd), (6, .long kn), (8, .int (nI k))] [] := by
  obtain ⟨hrn, htn, hto, hbn⟩ := id h
  intro n
  induction n with
  | zero => intro k hk1 hk2 hans; exact absurd hk1 (by omega)
  | succ n ih =>
    intro k hk1 hk2 hans
    refine vr_iload hF 6 rfl dX0_findCounting_3 rfl ?_
    refine vr_aload_n hF 0 rfl dX0_findCounting_5 rfl rfl ?_
    refine vr_get (v := .int (nI (ta_n t))) hF 2 7 (vr_in inX0) (vr_m flX0_35) rfl (by decide) rfl rfl rfl dX0_findCounting_6 rfl ?_
    refine vr_icmp_gtN (tgt := 79) (x := k) (y := (ta_n t)) hF (by omega) (by omega) dX0_findCounting_9 (by decide) rfl (fun c_9 => ?_) (fun c_9 => ?_)
    · skip
      refine vr_iconst (v := nI 0) hF dX0_findCounting_79 (by decide +kernel) rfl ?_
      exact vr_reti hret dX0_findCounting_80 (by rw [hans, xa_find]; simp [vr_bt, vr_bf, xa_same, c_9])
    · skip
      refine vr_aload_n hF 0 rfl dX0_findCounting_12 rfl rfl ?_
      refine vr_get (v := .ref (a 13)) hF 2 5 (vr_in inX0) (vr_m flX0_28) rfl (by decide) rfl rfl rfl dX0_findCounting_13 rfl ?_
      refine vr_iload hF 6 rfl dX0_findCounting_16 rfl ?_
      refine vr_zald (i := k) (n := 201) (f := (fun j => vr_b ((ta_c t) j))) hF 13 2 rfl rfl (by omega) (by decide) dX0_findCounting_18 rfl ?_
      refine vr_to (ws' := (vx_w g a r t w b)) (lv' := [(0, .ref (a 2)), (1, .int rc), (2, .int fd), (3, .int v), (4, .long vd), (6, .long kn), (8, .int (nI k))]) (st' := [.int (vr_b ((ta_c t) k))]) rfl rfl rfl ?_
      refine vr_if_eqB (tgt := 73) hF dX0_findCounting_19 (by decide) rfl (fun c_19 => ?_) (fun c_19 => ?_)
      · skip
        refine vr_iinc (lv' := [(8, .int (nI (k + 1))), (0, .ref (a 2)), (1, .int rc), (2, .int fd), (3, .int v), (4, .long vd), (6, .long kn)]) hF (nI (k + 1)) 6 rfl dX0_findCounting_73 (nI_1 k) (by decide) rfl rfl ?_
        refine vr_goto (tgt := 3) hF dX0_findCounting_76 (by decide) ?_
        refine vr_sub [1, 2, 3, 4, 5, 6, 0] rfl ?_
        exact ih (k + 1) (by omega) (by omega) (by rw [hans, xa_find]; simp [xa_same, c_9, c_19])
      · skip
        refine vr_aload_n hF 0 rfl dX0_findCounting_22 rfl rfl ?_
        refine vr_iload hF 6 rfl dX0_findCounting_23 rfl ?_
        refine vr_iload_n hF 1 rfl dX0_findCounting_25 rfl rfl ?_
        refine vr_iload_n hF 2 rfl dX0_findCounting_26 rfl rfl ?_
        refine vr_callV_Ci (rest := []) (n0 := 3) hF (xc_Acts_isOf l g a r t w b k rc fd (by omega)) (vr_gV vr_hbc mlX0_48 imX0_isOf seX0_isOf iniX0 cdX0_isOf) rfl (by decide +kernel) rfl rfl rfl ⟨Nat.le_of_ble_eq_true rfl, Nat.le_of_ble_eq_true rfl⟩ ⟨Nat.zero_le _, Nat.zero_le _⟩ 2 rfl rfl rfl (Nat.le_of_ble_eq_true rfl) dX0_findCounting_27 rfl ?_
        refine vr_if_eqB (tgt := 73) hF dX0_findCounting_30 (by decide) rfl (fun c_30 => ?_) (fun c_30 => ?_)
        · skip
          refine vr_iinc (lv' := [(8, .int (nI (k + 1))), (0, .ref (a 2)), (1, .int rc), (2, .int fd), (3, .int v), (4, .long vd), (6, .long kn)]) hF (nI (k + 1)) 6 rfl dX0_findCounting_73 (nI_1 k) (by decide) rfl rfl ?_
          refine vr_goto (tgt := 3) hF dX0_findCounting_76 (by decide) ?_
          refine vr_sub [1, 2, 3, 4, 5, 6, 0] rfl ?_
          exact ih (k + 1) (by omega) (by omega) (by rw [hans, xa_find]; simp [xa_same, c_9, c_19, c_30])
        · skip
          refine vr_aload_n hF 0 rfl dX0_findCounting_33 rfl rfl ?_
          refine vr_get (v := .ref (a 10)) hF 2 2 (vr_in inX0) (vr_m flX0_18) rfl (by decide) rfl rfl rfl dX0_findCounting_34 rfl ?_
          refine vr_iload hF 6 rfl dX0_findCounting_37 rfl ?_
          refine vr_iald (i := k) (n := 201) (f := (ta_v t)) hF 10 0 rfl rfl (by omega) (by decide) dX0_findCounting_39 rfl ?_
          refine vr_iload_n hF 3 rfl dX0_findCounting_40 rfl rfl ?_
          refine vr_icmp_ne (tgt := 73) hF dX0_findCounting_41 (by decide) rfl (fun c_41 => ?_) (fun c_41 => ?_)
          · skip
            refine vr_iinc (lv' := [(8, .int (nI (k + 1))), (0, .ref (a 2)), (1, .int rc), (2, .int fd), (3, .int v), (4, .long vd), (6, .long kn)]) hF (nI (k + 1)) 6 rfl dX0_findCounting_73 (nI_1 k) (by decide) rfl rfl ?_
            refine vr_goto (tgt := 3) hF dX0_findCounting_76 (by decide) ?_
            refine vr_sub [1, 2, 3, 4, 5, 6, 0] rfl ?_
            exact ih (k + 1) (by omega) (by omega) (by rw [hans, xa_find]; simp [xa_same, c_9, c_19, c_30, c_41])
          · skip
            refine vr_aload_n hF 0 rfl dX0_findCounting_44 rfl rfl ?_
            refine vr_get (v := .ref (a 11)) hF 2 3 (vr_in inX0) (vr_m flX0_21) rfl (by decide) rfl rfl rfl dX0_findCounting_45 rfl ?_
            refine vr_iload hF 6 rfl dX0_findCounting_48 rfl ?_
            refine vr_lald (i := k) (n := 201) (f := (ta_d t)) hF 11 1 rfl rfl (by omega) (by decide) dX0_findCounting_50 rfl ?_
            refine vr_lload hF 4 rfl dX0_findCounting_51 rfl ?_
            refine vr_lcmp_ne (tgt := 73) hF dX0_findCounting_53 dX0_findCounting_54 (by decide) rfl (fun c_54 => ?_) (fun c_54 => ?_)
            · skip
              refine vr_iinc (lv' := [(8, .int (nI (k + 1))), (0, .ref (a 2)), (1, .int rc), (2, .int fd), (3, .int v), (4, .long vd), (6, .long kn)]) hF (nI (k + 1)) 6 rfl dX0_findCounting_73 (nI_1 k) (by decide) rfl rfl ?_
              refine vr_goto (tgt := 3) hF dX0_findCounting_76 (by decide) ?_
              refine vr_sub [1, 2, 3, 4, 5, 6, 0] rfl ?_
              exact ih (k + 1) (by omega) (by omega) (by rw [hans, xa_find]; simp [xa_same, c_9, c_19, c_30, c_41, c_54])
            · skip
              refine vr_aload_n hF 0 rfl dX0_findCounting_57 rfl rfl ?_
              refine vr_get (v := .ref (a 12)) hF 2 4 (vr_in inX0) (vr_m flX0_25) rfl (by decide) rfl rfl rfl dX0_findCounting_58 rfl ?_
              refine vr_iload hF 6 rfl dX0_findCounting_61 rfl ?_
              refine vr_lald (i := k) (n := 201) (f := (ta_k t)) hF 12 1 rfl rfl (by omega) (by decide) dX0_findCounting_63 rfl ?_
              refine vr_lload hF 5 rfl dX0_findCounting_64 rfl ?_
              refine vr_lcmp_ne (tgt := 73) hF dX0_findCounting_66 dX0_findCounting_67 (by decide) rfl (fun c_67 => ?_) (fun c_67 => ?_)
              · skip
                refine vr_iinc (lv' := [(8, .int (nI (k + 1))), (0, .ref (a 2)), (1, .int rc), (2, .int fd), (3, .int v), (4, .long vd), (6, .long kn)]) hF (nI (k + 1)) 6 rfl dX0_findCounting_73 (nI_1 k) (by decide) rfl rfl ?_
                refine vr_goto (tgt := 3) hF dX0_findCounting_76 (by decide) ?_
                refine vr_sub [1, 2, 3, 4, 5, 6, 0] rfl ?_
                exact ih (k + 1) (by omega) (by omega) (by rw [hans, xa_find]; simp [xa_same, c_9, c_19, c_30, c_41, c_54, c_67])
              · skip
                refine vr_iload hF 6 rfl dX0_findCounting_70 rfl ?_
                exact vr_reti hret dX0_findCounting_72 (by rw [hans, xa_find]; simp [vr_bt, vr_bf, xa_same, c_9, c_19, c_30, c_41, c_54, c_67])
set_option maxHeartbeats 4000000 in
set_option maxRecDepth 100000 in
theorem xc_Acts_findCounting (l : Launch) (g : vr_G) (a : Nat → Nat) (r : vx_R) (t : vx_A) (w : Nat → Int64) (b : vx_B) (rc : Int32) (fd : Int32) (v : Int32) (vd : Int64) (kn : Int64) (h : vx_ok r t b) : vr_Ci l yX0_findCounting wsX0_findCounting rm_xw_Acts_findCounting g.1 (vr_tys g) [.ref (a 2), .int rc, .int fd, .int v, .long vd, .long kn] (vx_w g a r t w b) (vx_w g a r t w b) (nI (xa_find t rc fd v vd kn (ta_n t + 2) 1)) := by
  obtain ⟨hrn, htn, hto, hbn⟩ := id h
  refine vr_Ci_mk (cc := cX0_findCounting) (nL := 9) (ty := .int) rfl (by decide) rfl (Nat.le_of_ble_eq_true rfl) ?_
  intro p e s m args below meth c A Q hF hret
  refine vr_to (ws' := (vx_w g a r t w b)) (lv' := [(0, .ref (a 2)), (1, .int rc), (2, .int fd), (3, .int v), (4, .long vd), (6, .long kn)]) (st' := []) rfl rfl rfl ?_
  refine vr_iconst (v := nI 1) hF dX0_findCounting_0 (by decide +kernel) rfl ?_
  refine vr_istore (lv' := [(8, .int (nI 1)), (0, .ref (a 2)), (1, .int rc), (2, .int fd), (3, .int v), (4, .long vd), (6, .long kn)]) hF dX0_findCounting_1 (by decide) rfl rfl ?_
  refine vr_sub [1, 2, 3, 4, 5, 6, 0] rfl ?_
  exact xw_Acts_findCounting_lp3 r t w b rc fd v vd kn h  _ hF hret (ta_n t + 2) 1 (by omega) (by omega) rfl
def rm_xw_Acts_lastCounting : Room := { frames := 1, cells := 0, slots := 0, locals := 23 }
set_option maxHeartbeats 4000000 in
set_option maxRecDepth 100000 in
theorem xw_Acts_lastCounting_lp6 {p : Program} {l : Launch} {e : Env} {s : State} {m : MethodId} {args : Array Value} {below : List Frame} {meth : Method} {c : Code} {A : Nat → Prop} {Q : State → Prop} {g : vr_G} {a : Nat → Nat} (r : vx_R) (t : vx_A) (w : Nat → Int64) (b : vx_B) (rc : Int32) (fd : Int32) (mo : Int64) (h : vx_ok r t b)  (ans : Int32) (hF : vr_F p s m c cX0_lastCounting 7 args wsX0_lastCounting yX0_lastCounting.cls g.1 (vr_tys g) A) (hret : vr_RtI p l e rm_xw_Acts_lastCounting s m args below meth c cX0_lastCounting g.1 A 7 0 0 Q (vx_w g a r t w b) ans) : ∀ (n : Nat) (q : Nat), (q < n) → (q ≤ ta_n t) → (ans = nI (xa_last t rc fd mo q)) → vr_W p l e rm_xw_Acts_lastCounting s m args below meth c g.1 A 7 0 0 Q (vx_w g a r t w b) 6 [(0, .ref (a 2)), (1, .int rc), (2, .int fd), (3, .long mo), (5, .int (nI q))] [] := by
  obtain ⟨hrn, htn, hto, hbn⟩ := id h
  intro n
  induction n with
  | zero => intro q hq1 hq2 hans; exact absurd hq1 (by omega)
  | succ n ih =>
    intro q hq1 hq2 hans
    refine vr_iload hF 4 rfl dX0_lastCounting_6 rfl ?_
    refine vr_iconst (v := nI 1) hF dX0_lastCounting_8 (by decide +kernel) rfl ?_
    refine vr_icmp_ltN (tgt := 63) (x := q) (y := 1) hF (by omega) (by omega) dX0_lastCounting_9 (by decide) rfl (fun c_9 => ?_) (fun c_9 => ?_)
    · skip
      obtain rfl : q = 0 := by omega
      refine vr_iconst (v := nI 0) hF dX0_lastCounting_63 (by decide +kernel) rfl ?_
      exact vr_reti hret dX0_lastCounting_64 (by rw [hans]; simp [xa_last])
    · skip
      obtain ⟨z, rfl⟩ : ∃ z, q = z + 1 := ⟨q - 1, by omega⟩
      refine vr_aload_n hF 0 rfl dX0_lastCounting_12 rfl rfl ?_
      refine vr_get (v := .ref (a 14)) hF 2 6 (vr_in inX0) (vr_m flX0_32) rfl (by decide) rfl rfl rfl dX0_lastCounting_13 rfl ?_
      refine vr_iload hF 4 rfl dX0_lastCounting_16 rfl ?_
      refine vr_iald (i := (z + 1)) (n := 201) (f := (fun j => nI ((ta_o t) j))) hF 14 0 rfl rfl (by omega) (by decide) dX0_lastCounting_18 rfl ?_
      refine vr_to (ws' := (vx_w g a r t w b)) (lv' := [(0, .ref (a 2)), (1, .int rc), (2, .int fd), (3, .long mo), (5, .int (nI (z + 1)))]) (st' := [.int (nI ((ta_o t) (z + 1)))]) rfl rfl rfl ?_
      refine vr_istore (lv' := [(6, .int (nI ((ta_o t) (z + 1)))), (0, .ref (a 2)), (1, .int rc), (2, .int fd), (3, .long mo), (5, .int (nI (z + 1)))]) hF dX0_lastCounting_19 (by decide) rfl rfl ?_
      have ho1 := hto (z + 1)
      refine vr_aload_n hF 1 rfl dX0_lastCounting_21 rfl rfl ?_
      refine vr_get (v := .ref (a 13)) hF 2 5 (vr_in inX0) (vr_m flX0_28) rfl (by decide) rfl rfl rfl dX0_lastCounting_22 rfl ?_
      refine vr_iload hF 0 rfl dX0_lastCounting_25 rfl ?_
      refine vr_zald (i := (ta_o t) (z + 1)) (n := 201) (f := (fun j => vr_b ((ta_c t) j))) hF 13 2 rfl rfl (by omega) (by decide) dX0_lastCounting_27 rfl ?_
      refine vr_to (ws' := (vx_w g a r t w b)) (lv' := [(6, .int (nI ((ta_o t) (z + 1)))), (0, .ref (a 2)), (1, .int rc), (2, .int fd), (3, .long mo), (5, .int (nI (z + 1)))]) (st' := [.int (vr_b ((ta_c t) ((ta_o t) (z + 1))))]) rfl rfl rfl ?_
      refine vr_if_eqB (tgt := 57) hF dX0_lastCounting_28 (by decide) rfl (fun c_28 => ?_) (fun c_28 => ?_)
      · skip
        refine vr_iinc (lv' := [(5, .int (nI z)), (6, .int (nI ((ta_o t) (z + 1)))), (0, .ref (a 2)), (1, .int rc), (2, .int fd), (3, .long mo)]) hF (nI z) 5 rfl dX0_lastCounting_57 (pk_m1 z) (by decide) rfl rfl ?_
        refine vr_goto (tgt := 6) hF dX0_lastCounting_60 (by decide) ?_
        refine vr_sub [2, 3, 4, 5, 0] rfl ?_
        exact ih z (by omega) (by omega) (by rw [hans, xa_last]; simp [xa_lcond, c_9, c_28])
      · skip
        refine vr_aload_n hF 1 rfl dX0_lastCounting_31 rfl rfl ?_
        refine vr_get (v := .ref (a 12)) hF 2 4 (vr_in inX0) (vr_m flX0_25) rfl (by decide) rfl rfl rfl dX0_lastCounting_32 rfl ?_
        refine vr_iload hF 0 rfl dX0_lastCounting_35 rfl ?_
        refine vr_lald (i := (ta_o t) (z + 1)) (n := 201) (f := (ta_k t)) hF 12 1 rfl rfl (by omega) (by decide) dX0_lastCounting_37 rfl ?_
        refine vr_lload_n hF 4 rfl dX0_lastCounting_38 rfl rfl ?_
        refine vr_lcmp_gt (tgt := 57) hF dX0_lastCounting_39 dX0_lastCounting_40 (by decide) rfl (fun c_40 => ?_) (fun c_40 => ?_)
        · skip
          refine vr_iinc (lv' := [(5, .int (nI z)), (6, .int (nI ((ta_o t) (z + 1)))), (0, .ref (a 2)), (1, .int rc), (2, .int fd), (3, .long mo)]) hF (nI z) 5 rfl dX0_lastCounting_57 (pk_m1 z) (by decide) rfl rfl ?_
          refine vr_goto (tgt := 6) hF dX0_lastCounting_60 (by decide) ?_
          refine vr_sub [2, 3, 4, 5, 0] rfl ?_
          exact ih z (by omega) (by omega) (by rw [hans, xa_last]; simp [xa_lcond, c_9, c_28, c_40])
        · skip
          refine vr_aload_n hF 1 rfl dX0_lastCounting_43 rfl rfl ?_
          refine vr_iload hF 0 rfl dX0_lastCounting_44 rfl ?_
          refine vr_iload_n hF 2 rfl dX0_lastCounting_46 rfl rfl ?_
          refine vr_iload_n hF 3 rfl dX0_lastCounting_47 rfl rfl ?_
          refine vr_callV_Ci (rest := []) (n0 := 3) hF (xc_Acts_isOf l g a r t w b ((ta_o t) (z + 1)) rc fd (by omega)) (vr_gV vr_hbc mlX0_48 imX0_isOf seX0_isOf iniX0 cdX0_isOf) rfl (by decide +kernel) rfl rfl rfl ⟨Nat.le_of_ble_eq_true rfl, Nat.le_of_ble_eq_true rfl⟩ ⟨Nat.zero_le _, Nat.zero_le _⟩ 2 rfl rfl rfl (Nat.le_of_ble_eq_true rfl) dX0_lastCounting_48 rfl ?_
          refine vr_if_eqB (tgt := 57) hF dX0_lastCounting_51 (by decide) rfl (fun c_51 => ?_) (fun c_51 => ?_)
          · skip
            refine vr_iinc (lv' := [(5, .int (nI z)), (6, .int (nI ((ta_o t) (z + 1)))), (0, .ref (a 2)), (1, .int rc), (2, .int fd), (3, .long mo)]) hF (nI z) 5 rfl dX0_lastCounting_57 (pk_m1 z) (by decide) rfl rfl ?_
            refine vr_goto (tgt := 6) hF dX0_lastCounting_60 (by decide) ?_
            refine vr_sub [2, 3, 4, 5, 0] rfl ?_
            exact ih z (by omega) (by omega) (by rw [hans, xa_last]; simp [xa_lcond, c_9, c_28, c_40, c_51])
          · skip
            refine vr_iload hF 0 rfl dX0_lastCounting_54 rfl ?_
            exact vr_reti hret dX0_lastCounting_56 (by rw [hans, xa_last]; simp [vr_bt, vr_bf, xa_lcond, c_9, c_28, c_40, c_51])
set_option maxHeartbeats 4000000 in
set_option maxRecDepth 100000 in
theorem xc_Acts_lastCounting (l : Launch) (g : vr_G) (a : Nat → Nat) (r : vx_R) (t : vx_A) (w : Nat → Int64) (b : vx_B) (rc : Int32) (fd : Int32) (mo : Int64) (h : vx_ok r t b) : vr_Ci l yX0_lastCounting wsX0_lastCounting rm_xw_Acts_lastCounting g.1 (vr_tys g) [.ref (a 2), .int rc, .int fd, .long mo] (vx_w g a r t w b) (vx_w g a r t w b) (nI (xa_last t rc fd mo (ta_n t))) := by
  obtain ⟨hrn, htn, hto, hbn⟩ := id h
  refine vr_Ci_mk (cc := cX0_lastCounting) (nL := 7) (ty := .int) rfl (by decide) rfl (Nat.le_of_ble_eq_true rfl) ?_
  intro p e s m args below meth c A Q hF hret
  refine vr_to (ws' := (vx_w g a r t w b)) (lv' := [(0, .ref (a 2)), (1, .int rc), (2, .int fd), (3, .long mo)]) (st' := []) rfl rfl rfl ?_
  refine vr_aload_n hF 0 rfl dX0_lastCounting_0 rfl rfl ?_
  refine vr_get (v := .int (nI (ta_n t))) hF 2 7 (vr_in inX0) (vr_m flX0_35) rfl (by decide) rfl rfl rfl dX0_lastCounting_1 rfl ?_
  refine vr_istore (lv' := [(5, .int (nI (ta_n t))), (0, .ref (a 2)), (1, .int rc), (2, .int fd), (3, .long mo)]) hF dX0_lastCounting_4 (by decide) rfl rfl ?_
  refine vr_sub [1, 2, 3, 4, 0] rfl ?_
  exact xw_Acts_lastCounting_lp6 r t w b rc fd mo h  _ hF hret (ta_n t + 1) (ta_n t) (by omega) (by omega) rfl
def rm_xw_Acts_inOrder : Room := { frames := 1, cells := 0, slots := 0, locals := 23 }
set_option maxHeartbeats 4000000 in
set_option maxRecDepth 100000 in
theorem xw_Acts_inOrder_lp6 {p : Program} {l : Launch} {e : Env} {s : State} {m : MethodId} {args : Array Value} {below : List Frame} {meth : Method} {c : Code} {A : Nat → Prop} {Q : State → Prop} {g : vr_G} {a : Nat → Nat} (r : vx_R) (t : vx_A) (w : Nat → Int64) (b : vx_B) (rc : Int32) (fd : Int32) (i : Nat) (h : vx_ok r t b) (hi : i < 2 ^ 31)  (ans : Int32) (hF : vr_F p s m c cX0_inOrder 7 args wsX0_inOrder yX0_inOrder.cls g.1 (vr_tys g) A) (hret : vr_RtI p l e rm_xw_Acts_inOrder s m args below meth c cX0_inOrder g.1 A 7 0 0 Q (vx_w g a r t w b) ans) : ∀ (n : Nat) (k ah : Nat), (ta_n t + 1 < k + n) → (k ≤ ta_n t + 1) → (ah < 2 ^ 31) → (ans = nI (xa_ith t rc fd n k ah)) → vr_W p l e rm_xw_Acts_inOrder s m args below meth c g.1 A 7 0 0 Q (vx_w g a r t w b) 6 [(0, .ref (a 2)), (1, .int rc), (2, .int fd), (3, .int (nI i)), (4, .int (nI ah)), (5, .int (nI k))] [] := by
  obtain ⟨hrn, htn, hto, hbn⟩ := id h
  intro n
  induction n with
  | zero => intro k ah hk1 hk2 ha hans; exact absurd hk1 (by omega)
  | succ n ih =>
    intro k ah hk1 hk2 ha hans
    refine vr_iload hF 5 rfl dX0_inOrder_6 rfl ?_
    refine vr_aload_n hF 0 rfl dX0_inOrder_8 rfl rfl ?_
    refine vr_get (v := .int (nI (ta_n t))) hF 2 7 (vr_in inX0) (vr_m flX0_35) rfl (by decide) rfl rfl rfl dX0_inOrder_9 rfl ?_
    refine vr_icmp_gtN (tgt := 52) (x := k) (y := (ta_n t)) hF (by omega) (by omega) dX0_inOrder_12 (by decide) rfl (fun c_12 => ?_) (fun c_12 => ?_)
    · skip
      refine vr_iconst (v := nI 0) hF dX0_inOrder_52 (by decide +kernel) rfl ?_
      exact vr_reti hret dX0_inOrder_53 (by rw [hans, xa_ith]; simp [vr_bt, vr_bf, c_12])
    · skip
      refine vr_aload_n hF 0 rfl dX0_inOrder_15 rfl rfl ?_
      refine vr_get (v := .ref (a 14)) hF 2 6 (vr_in inX0) (vr_m flX0_32) rfl (by decide) rfl rfl rfl dX0_inOrder_16 rfl ?_
      refine vr_iload hF 5 rfl dX0_inOrder_19 rfl ?_
      refine vr_iald (i := k) (n := 201) (f := (fun j => nI ((ta_o t) j))) hF 14 0 rfl rfl (by omega) (by decide) dX0_inOrder_21 rfl ?_
      refine vr_to (ws' := (vx_w g a r t w b)) (lv' := [(0, .ref (a 2)), (1, .int rc), (2, .int fd), (3, .int (nI i)), (4, .int (nI ah)), (5, .int (nI k))]) (st' := [.int (nI ((ta_o t) k))]) rfl rfl rfl ?_
      refine vr_istore (lv' := [(6, .int (nI ((ta_o t) k))), (0, .ref (a 2)), (1, .int rc), (2, .int fd), (3, .int (nI i)), (4, .int (nI ah)), (5, .int (nI k))]) hF dX0_inOrder_22 (by decide) rfl rfl ?_
      have ho1 := hto k
      refine vr_aload_n hF 1 rfl dX0_inOrder_24 rfl rfl ?_
      refine vr_iload hF 0 rfl dX0_inOrder_25 rfl ?_
      refine vr_iload_n hF 2 rfl dX0_inOrder_27 rfl rfl ?_
      refine vr_iload_n hF 3 rfl dX0_inOrder_28 rfl rfl ?_
      refine vr_callV_Ci (rest := []) (n0 := 3) hF (xc_Acts_isOf l g a r t w b ((ta_o t) k) rc fd (by omega)) (vr_gV vr_hbc mlX0_48 imX0_isOf seX0_isOf iniX0 cdX0_isOf) rfl (by decide +kernel) rfl rfl rfl ⟨Nat.le_of_ble_eq_true rfl, Nat.le_of_ble_eq_true rfl⟩ ⟨Nat.zero_le _, Nat.zero_le _⟩ 2 rfl rfl rfl (Nat.le_of_ble_eq_true rfl) dX0_inOrder_29 rfl ?_
      refine vr_if_eqB (tgt := 46) hF dX0_inOrder_32 (by decide) rfl (fun c_32 => ?_) (fun c_32 => ?_)
      · skip
        refine vr_iinc (lv' := [(5, .int (nI (k + 1))), (6, .int (nI ((ta_o t) k))), (0, .ref (a 2)), (1, .int rc), (2, .int fd), (3, .int (nI i)), (4, .int (nI ah))]) hF (nI (k + 1)) 6 rfl dX0_inOrder_46 (nI_1 k) (by decide) rfl rfl ?_
        refine vr_goto (tgt := 6) hF dX0_inOrder_49 (by decide) ?_
        refine vr_sub [2, 3, 4, 5, 6, 0] rfl ?_
        exact ih (k + 1) ah (by omega) (by omega) (by omega) (by rw [hans, xa_ith]; simp [c_12, c_32])
      · skip
        refine vr_iload hF 5 rfl dX0_inOrder_35 rfl ?_
        refine vr_if_neN (tgt := 43) (x := ah) hF (by omega) dX0_inOrder_37 (by decide) rfl (fun c_37 => ?_) (fun c_37 => ?_)
        · skip
          refine vr_iinc (lv' := [(4, .int (nI (ah - 1))), (6, .int (nI ((ta_o t) k))), (0, .ref (a 2)), (1, .int rc), (2, .int fd), (3, .int (nI i)), (5, .int (nI k))]) hF (nI (ah - 1)) 5 rfl dX0_inOrder_43 (sb_m1 (by omega)) (by decide) rfl rfl ?_
          refine vr_iinc (lv' := [(5, .int (nI (k + 1))), (4, .int (nI (ah - 1))), (6, .int (nI ((ta_o t) k))), (0, .ref (a 2)), (1, .int rc), (2, .int fd), (3, .int (nI i))]) hF (nI (k + 1)) 6 rfl dX0_inOrder_46 (nI_1 k) (by decide) rfl rfl ?_
          refine vr_goto (tgt := 6) hF dX0_inOrder_49 (by decide) ?_
          refine vr_sub [3, 4, 5, 6, 1, 0] rfl ?_
          exact ih (k + 1) (ah - 1) (by omega) (by omega) (by omega) (by rw [hans, xa_ith]; simp [c_12, c_32, c_37])
        · skip
          refine vr_iload hF 0 rfl dX0_inOrder_40 rfl ?_
          exact vr_reti hret dX0_inOrder_42 (by rw [hans, xa_ith]; simp [vr_bt, vr_bf, c_12, c_32, c_37])
set_option maxHeartbeats 4000000 in
set_option maxRecDepth 100000 in
theorem xc_Acts_inOrder (l : Launch) (g : vr_G) (a : Nat → Nat) (r : vx_R) (t : vx_A) (w : Nat → Int64) (b : vx_B) (rc : Int32) (fd : Int32) (i : Nat) (h : vx_ok r t b) (hi : i < 2 ^ 31) : vr_Ci l yX0_inOrder wsX0_inOrder rm_xw_Acts_inOrder g.1 (vr_tys g) [.ref (a 2), .int rc, .int fd, .int (nI i)] (vx_w g a r t w b) (vx_w g a r t w b) (nI (xa_ith t rc fd (ta_n t + 2) 1 i)) := by
  obtain ⟨hrn, htn, hto, hbn⟩ := id h
  refine vr_Ci_mk (cc := cX0_inOrder) (nL := 7) (ty := .int) rfl (by decide) rfl (Nat.le_of_ble_eq_true rfl) ?_
  intro p e s m args below meth c A Q hF hret
  refine vr_to (ws' := (vx_w g a r t w b)) (lv' := [(0, .ref (a 2)), (1, .int rc), (2, .int fd), (3, .int (nI i))]) (st' := []) rfl rfl rfl ?_
  refine vr_iload_n hF 3 rfl dX0_inOrder_0 rfl rfl ?_
  refine vr_istore (lv' := [(4, .int (nI i)), (0, .ref (a 2)), (1, .int rc), (2, .int fd), (3, .int (nI i))]) hF dX0_inOrder_1 (by decide) rfl rfl ?_
  refine vr_iconst (v := nI 1) hF dX0_inOrder_3 (by decide +kernel) rfl ?_
  refine vr_istore (lv' := [(5, .int (nI 1)), (4, .int (nI i)), (0, .ref (a 2)), (1, .int rc), (2, .int fd), (3, .int (nI i))]) hF dX0_inOrder_4 (by decide) rfl rfl ?_
  refine vr_sub [2, 3, 4, 5, 1, 0] rfl ?_
  exact xw_Acts_inOrder_lp6 r t w b rc fd i h hi  _ hF hret (ta_n t + 2) 1 i (by omega) (by omega) hi rfl
def rm_xw_Acts_putNewestInOrder : Room := { frames := 1, cells := 0, slots := 0, locals := 22 }
set_option maxHeartbeats 4000000 in
set_option maxRecDepth 100000 in
theorem xw_Acts_putNewestInOrder_lp5 {p : Program} {l : Launch} {e : Env} {s : State} {m : MethodId} {args : Array Value} {below : List Frame} {meth : Method} {c : Code} {A : Nat → Prop} {Q : State → Prop} {g : vr_G} {a : Nat → Nat} (r : vx_R) (t : vx_A) (w : Nat → Int64) (b : vx_B) (h : vx_ok r t b) (h1 : 1 ≤ ta_n t)   (P : Nat → Nat) (hF : vr_F p s m c cX0_putNewestInOrder 2 args wsX0_putNewestInOrder yX0_putNewestInOrder.cls g.1 (vr_tys g) A) (hret : vr_RtV p l e rm_xw_Acts_putNewestInOrder s m args below meth c cX0_putNewestInOrder g.1 A 2 0 0 Q (vx_w g a r (ta_setO t P) w b) ) : ∀ (n : Nat) (q : Nat) (o : Nat → Nat), (q < n) → (q + 1 ≤ ta_n t) → (∀ j, o j ≤ 200) → (P = xa_put t (q + 1) o) → vr_W p l e rm_xw_Acts_putNewestInOrder s m args below meth c g.1 A 2 0 0 Q (vx_w g a r (ta_r t, ta_f t, ta_v t, ta_d t, ta_k t, ta_c t, o, ta_n t) w b) 5 [(0, .ref (a 2)), (1, .int (nI (q + 1)))] [] := by
  obtain ⟨hrn, htn, hto, hbn⟩ := id h
  intro n
  induction n with
  | zero => intro q o hq1 hq2 ho hans; exact absurd hq1 (by omega)
  | succ n ih =>
    intro q o hq1 hq2 ho hans
    refine vr_iload_n hF 1 rfl dX0_putNewestInOrder_5 rfl rfl ?_
    refine vr_iconst (v := nI 1) hF dX0_putNewestInOrder_6 (by decide +kernel) rfl ?_
    refine vr_icmp_leN (tgt := 49) (x := (q + 1)) (y := 1) hF (by omega) (by omega) dX0_putNewestInOrder_7 (by decide) rfl (fun c_7 => ?_) (fun c_7 => ?_)
    · skip
      refine vr_aload_n hF 0 rfl dX0_putNewestInOrder_49 rfl rfl ?_
      refine vr_get (v := .ref (a 14)) hF 2 6 (vr_in inX0) (vr_m flX0_32) rfl (by decide) rfl rfl rfl dX0_putNewestInOrder_50 rfl ?_
      refine vr_iload_n hF 1 rfl dX0_putNewestInOrder_53 rfl rfl ?_
      refine vr_aload_n hF 0 rfl dX0_putNewestInOrder_54 rfl rfl ?_
      refine vr_get (v := .int (nI (ta_n t))) hF 2 7 (vr_in inX0) (vr_m flX0_35) rfl (by decide) rfl rfl rfl dX0_putNewestInOrder_55 rfl ?_
      refine vr_iastN (ws' := (vx_w g a r (ta_r t, ta_f t, ta_v t, ta_d t, ta_k t, ta_c t, vr_un o (q + 1) (ta_n t), ta_n t) w b)) (i := q + 1) (x := (ta_n t)) (n := 201) (f := o) hF 14 0 rfl rfl (by omega) (by decide) rfl dX0_putNewestInOrder_58 rfl ?_
      exact vr_retv hret dX0_putNewestInOrder_59 (by rw [hans, xa_put]; simp [c_7])
    · skip
      obtain ⟨z, rfl⟩ : ∃ z, q = z + 1 := ⟨q - 1, by omega⟩
      have ho1 := ho (z + 1)
      refine vr_aload_n hF 0 rfl dX0_putNewestInOrder_10 rfl rfl ?_
      refine vr_aload_n hF 0 rfl dX0_putNewestInOrder_11 rfl rfl ?_
      refine vr_get (v := .ref (a 14)) hF 2 6 (vr_in inX0) (vr_m flX0_32) rfl (by decide) rfl rfl rfl dX0_putNewestInOrder_12 rfl ?_
      refine vr_iload_n hF 1 rfl dX0_putNewestInOrder_15 rfl rfl ?_
      refine vr_iconst (v := nI 1) hF dX0_putNewestInOrder_16 (by decide +kernel) rfl ?_
      refine vr_isub (v := nI (z + 1)) hF dX0_putNewestInOrder_17 (nI_pred (z + 1)) rfl ?_
      refine vr_iald (i := z + 1) (n := 201) (f := (fun j => nI (o j))) hF 14 0 rfl rfl (by omega) (by decide) dX0_putNewestInOrder_18 rfl ?_
      refine vr_to (ws' := (vx_w g a r (ta_r t, ta_f t, ta_v t, ta_d t, ta_k t, ta_c t, o, ta_n t) w b)) (lv' := [(0, .ref (a 2)), (1, .int (nI ((z + 1) + 1)))]) (st' := [.int (nI (o (z + 1))), .ref (a 2)]) rfl rfl rfl ?_
      refine vr_aload_n hF 0 rfl dX0_putNewestInOrder_19 rfl rfl ?_
      refine vr_get (v := .int (nI (ta_n t))) hF 2 7 (vr_in inX0) (vr_m flX0_35) rfl (by decide) rfl rfl rfl dX0_putNewestInOrder_20 rfl ?_
      refine vr_callV_Ci (rest := []) (n0 := 2) hF (xc_Acts_isBehind l g a r (ta_r t, ta_f t, ta_v t, ta_d t, ta_k t, ta_c t, o, ta_n t) w b (o (z + 1)) (ta_n t) ho1 (by omega)) (vr_gV vr_hbc mlX0_44 imX0_isBehind seX0_isBehind iniX0 cdX0_isBehind) rfl (by decide +kernel) rfl rfl rfl ⟨Nat.le_of_ble_eq_true rfl, Nat.le_of_ble_eq_true rfl⟩ ⟨Nat.zero_le _, Nat.zero_le _⟩ 2 rfl rfl rfl (Nat.le_of_ble_eq_true rfl) dX0_putNewestInOrder_23 rfl ?_
      refine vr_if_eqB (tgt := 49) hF dX0_putNewestInOrder_26 (by decide) rfl (fun c_26 => ?_) (fun c_26 => ?_)
      · skip
        have c_26 : xa_behind t (o (z + 1)) (ta_n t) = false := c_26
        refine vr_aload_n hF 0 rfl dX0_putNewestInOrder_49 rfl rfl ?_
        refine vr_get (v := .ref (a 14)) hF 2 6 (vr_in inX0) (vr_m flX0_32) rfl (by decide) rfl rfl rfl dX0_putNewestInOrder_50 rfl ?_
        refine vr_iload_n hF 1 rfl dX0_putNewestInOrder_53 rfl rfl ?_
        refine vr_aload_n hF 0 rfl dX0_putNewestInOrder_54 rfl rfl ?_
        refine vr_get (v := .int (nI (ta_n t))) hF 2 7 (vr_in inX0) (vr_m flX0_35) rfl (by decide) rfl rfl rfl dX0_putNewestInOrder_55 rfl ?_
        refine vr_iastN (ws' := (vx_w g a r (ta_r t, ta_f t, ta_v t, ta_d t, ta_k t, ta_c t, vr_un o ((z + 1) + 1) (ta_n t), ta_n t) w b)) (i := (z + 1) + 1) (x := (ta_n t)) (n := 201) (f := o) hF 14 0 rfl rfl (by omega) (by decide) rfl dX0_putNewestInOrder_58 rfl ?_
        exact vr_retv hret dX0_putNewestInOrder_59 (by rw [hans, xa_put]; simp [c_7, c_26])
      · skip
        have c_26 : xa_behind t (o (z + 1)) (ta_n t) = true := c_26
        refine vr_aload_n hF 0 rfl dX0_putNewestInOrder_29 rfl rfl ?_
        refine vr_get (v := .ref (a 14)) hF 2 6 (vr_in inX0) (vr_m flX0_32) rfl (by decide) rfl rfl rfl dX0_putNewestInOrder_30 rfl ?_
        refine vr_iload_n hF 1 rfl dX0_putNewestInOrder_33 rfl rfl ?_
        refine vr_aload_n hF 0 rfl dX0_putNewestInOrder_34 rfl rfl ?_
        refine vr_get (v := .ref (a 14)) hF 2 6 (vr_in inX0) (vr_m flX0_32) rfl (by decide) rfl rfl rfl dX0_putNewestInOrder_35 rfl ?_
        refine vr_iload_n hF 1 rfl dX0_putNewestInOrder_38 rfl rfl ?_
        refine vr_iconst (v := nI 1) hF dX0_putNewestInOrder_39 (by decide +kernel) rfl ?_
        refine vr_isub (v := nI (z + 1)) hF dX0_putNewestInOrder_40 (nI_pred (z + 1)) rfl ?_
        refine vr_iald (i := z + 1) (n := 201) (f := (fun j => nI (o j))) hF 14 0 rfl rfl (by omega) (by decide) dX0_putNewestInOrder_41 rfl ?_
        refine vr_to (ws' := (vx_w g a r (ta_r t, ta_f t, ta_v t, ta_d t, ta_k t, ta_c t, o, ta_n t) w b)) (lv' := [(0, .ref (a 2)), (1, .int (nI ((z + 1) + 1)))]) (st' := [.int (nI (o (z + 1))), .int (nI ((z + 1) + 1)), .ref (a 14)]) rfl rfl rfl ?_
        refine vr_iastN (ws' := (vx_w g a r (ta_r t, ta_f t, ta_v t, ta_d t, ta_k t, ta_c t, vr_un o ((z + 1) + 1) (o (z + 1)), ta_n t) w b)) (i := (z + 1) + 1) (x := (o (z + 1))) (n := 201) (f := o) hF 14 0 rfl rfl (by omega) (by decide) rfl dX0_putNewestInOrder_42 rfl ?_
        refine vr_iinc (lv' := [(1, .int (nI (z + 1))), (0, .ref (a 2))]) hF (nI (z + 1)) 1 rfl dX0_putNewestInOrder_43 (pk_m1 (z + 1)) (by decide) rfl rfl ?_
        refine vr_goto (tgt := 5) hF dX0_putNewestInOrder_46 (by decide) ?_
        refine vr_sub [1, 0] rfl ?_
        exact ih z (vr_un o (z + 1 + 1) (o (z + 1))) (by omega) (by omega) (vr_un_le ho ho1) (by rw [hans, xa_put]; simp [c_7, c_26])
set_option maxHeartbeats 4000000 in
set_option maxRecDepth 100000 in
theorem xc_Acts_putNewestInOrder (l : Launch) (g : vr_G) (a : Nat → Nat) (r : vx_R) (t : vx_A) (w : Nat → Int64) (b : vx_B) (h : vx_ok r t b) (h1 : 1 ≤ ta_n t) : vr_Cv l yX0_putNewestInOrder wsX0_putNewestInOrder rm_xw_Acts_putNewestInOrder g.1 (vr_tys g) [.ref (a 2)] (vx_w g a r t w b) (vx_w g a r (ta_setO t (xa_put t (ta_n t) (ta_o t))) w b)  := by
  obtain ⟨hrn, htn, hto, hbn⟩ := id h
  refine vr_Cv_mk (cc := cX0_putNewestInOrder) (nL := 2) (by decide) rfl (Nat.le_of_ble_eq_true rfl) ?_
  intro p e s m args below meth c A Q hF hret
  refine vr_to (ws' := (vx_w g a r t w b)) (lv' := [(0, .ref (a 2))]) (st' := []) rfl rfl rfl ?_
  refine vr_aload_n hF 0 rfl dX0_putNewestInOrder_0 rfl rfl ?_
  refine vr_get (v := .int (nI (ta_n t))) hF 2 7 (vr_in inX0) (vr_m flX0_35) rfl (by decide) rfl rfl rfl dX0_putNewestInOrder_1 rfl ?_
  refine vr_istore_n (lv' := [(1, .int (nI (ta_n t))), (0, .ref (a 2))]) hF dX0_putNewestInOrder_4 rfl (by decide) rfl rfl ?_
  have e1 : ta_n t - 1 + 1 = ta_n t := by omega
  refine vr_to (ws' := vx_w g a r (ta_r t, ta_f t, ta_v t, ta_d t, ta_k t, ta_c t, ta_o t, ta_n t) w b) (lv' := [(1, .int (nI (ta_n t - 1 + 1))), (0, .ref (a 2))]) (st' := []) rfl (by rw [e1]) rfl ?_
  refine vr_sub [1, 0] rfl ?_
  exact xw_Acts_putNewestInOrder_lp5 r t w b  h h1  _ hF hret (ta_n t + 1) (ta_n t - 1) (ta_o t) (by omega) (by omega) hto (by rw [show ta_n t - 1 + 1 = ta_n t by omega])
def rm_xw_Acts_add : Room := { frames := 2, cells := 0, slots := 0, locals := 43 }
set_option maxHeartbeats 4000000 in
set_option maxRecDepth 100000 in
theorem xc_Acts_add (l : Launch) (g : vr_G) (a : Nat → Nat) (r : vx_R) (t : vx_A) (w : Nat → Int64) (b : vx_B) (rc : Int32) (fd : Int32) (v : Int32) (vd : Int64) (kn : Int64) (h : vx_ok r t b) : vr_Ci l yX0_add wsX0_add rm_xw_Acts_add g.1 (vr_tys g) [.ref (a 2), .int rc, .int fd, .int v, .long vd, .long kn] (vx_w g a r t w b) (vx_w g a r (if ta_n t < 200 then xa_add t rc fd v vd kn else t) w b) (nI (if ta_n t < 200 then ta_n t + 1 else 0)) := by
  obtain ⟨hrn, htn, hto, hbn⟩ := id h
  refine vr_Ci_mk (cc := cX0_add) (nL := 8) (ty := .int) rfl (by decide) rfl (Nat.le_of_ble_eq_true rfl) ?_
  intro p e s m args below meth c A Q hF hret
  refine vr_to (ws' := (vx_w g a r t w b)) (lv' := [(0, .ref (a 2)), (1, .int rc), (2, .int fd), (3, .int v), (4, .long vd), (6, .long kn)]) (st' := []) rfl rfl rfl ?_
  refine vr_aload_n hF 0 rfl dX0_add_0 rfl rfl ?_
  refine vr_get (v := .int (nI (ta_n t))) hF 2 7 (vr_in inX0) (vr_m flX0_35) rfl (by decide) rfl rfl rfl dX0_add_1 rfl ?_
  refine vr_sipush (v := nI 200) hF dX0_add_4 (by decide +kernel) rfl ?_
  refine vr_icmp_ltN (tgt := 12) (x := (ta_n t)) (y := 200) hF (by omega) (by omega) dX0_add_7 (by decide) rfl (fun c_7 => ?_) (fun c_7 => ?_)
  · skip
    have h2 : vx_ok r (xa_new t rc fd v vd kn) b := ⟨hrn, by show ta_n t + 1 ≤ 200; omega, hto, hbn⟩
    have h3 : 1 ≤ ta_n (xa_new t rc fd v vd kn) := by show 1 ≤ ta_n t + 1; omega
    refine vr_aload_n hF 0 rfl dX0_add_12 rfl rfl ?_
    refine vr_dup hF dX0_add_13 rfl rfl ?_
    refine vr_get (v := .int (nI (ta_n t))) hF 2 7 (vr_in inX0) (vr_m flX0_35) rfl (by decide) rfl rfl rfl dX0_add_14 rfl ?_
    refine vr_iconst (v := nI 1) hF dX0_add_17 (by decide +kernel) rfl ?_
    refine vr_iadd (v := nI ((ta_n t) + 1)) hF dX0_add_18 (nI_add (ta_n t) 1) rfl ?_
    refine vr_put (ws' := (vx_w g a r (ta_r t, ta_f t, ta_v t, ta_d t, ta_k t, ta_c t, ta_o t, (ta_n t) + 1) w b)) hF 2 7 (vr_in inX0) (vr_m flX0_35) rfl (by decide) rfl rfl tyX0 tyX0_ok nmX0 rfl rfl rfl (Nat.le_of_ble_eq_true rfl) rfl dX0_add_19 rfl ?_
    refine vr_aload_n hF 0 rfl dX0_add_22 rfl rfl ?_
    refine vr_get (v := .ref (a 8)) hF 2 0 (vr_in inX0) (vr_m flX0_9) rfl (by decide) rfl rfl rfl dX0_add_23 rfl ?_
    refine vr_aload_n hF 0 rfl dX0_add_26 rfl rfl ?_
    refine vr_get (v := .int (nI ((ta_n t) + 1))) hF 2 7 (vr_in inX0) (vr_m flX0_35) rfl (by decide) rfl rfl rfl dX0_add_27 rfl ?_
    refine vr_iload_n hF 1 rfl dX0_add_30 rfl rfl ?_
    refine vr_iast (ws' := (vx_w g a r (upd (ta_r t) ((ta_n t) + 1) rc, ta_f t, ta_v t, ta_d t, ta_k t, ta_c t, ta_o t, (ta_n t) + 1) w b)) (i := (ta_n t) + 1) (x := rc) (n := 201) (f := (ta_r t)) hF 8 0 rfl rfl (by omega) (by decide) rfl dX0_add_31 rfl ?_
    refine vr_aload_n hF 0 rfl dX0_add_32 rfl rfl ?_
    refine vr_get (v := .ref (a 9)) hF 2 1 (vr_in inX0) (vr_m flX0_15) rfl (by decide) rfl rfl rfl dX0_add_33 rfl ?_
    refine vr_aload_n hF 0 rfl dX0_add_36 rfl rfl ?_
    refine vr_get (v := .int (nI ((ta_n t) + 1))) hF 2 7 (vr_in inX0) (vr_m flX0_35) rfl (by decide) rfl rfl rfl dX0_add_37 rfl ?_
    refine vr_iload_n hF 2 rfl dX0_add_40 rfl rfl ?_
    refine vr_iast (ws' := (vx_w g a r (upd (ta_r t) ((ta_n t) + 1) rc, upd (ta_f t) ((ta_n t) + 1) fd, ta_v t, ta_d t, ta_k t, ta_c t, ta_o t, (ta_n t) + 1) w b)) (i := (ta_n t) + 1) (x := fd) (n := 201) (f := (ta_f t)) hF 9 0 rfl rfl (by omega) (by decide) rfl dX0_add_41 rfl ?_
    refine vr_aload_n hF 0 rfl dX0_add_42 rfl rfl ?_
    refine vr_get (v := .ref (a 10)) hF 2 2 (vr_in inX0) (vr_m flX0_18) rfl (by decide) rfl rfl rfl dX0_add_43 rfl ?_
    refine vr_aload_n hF 0 rfl dX0_add_46 rfl rfl ?_
    refine vr_get (v := .int (nI ((ta_n t) + 1))) hF 2 7 (vr_in inX0) (vr_m flX0_35) rfl (by decide) rfl rfl rfl dX0_add_47 rfl ?_
    refine vr_iload_n hF 3 rfl dX0_add_50 rfl rfl ?_
    refine vr_iast (ws' := (vx_w g a r (upd (ta_r t) ((ta_n t) + 1) rc, upd (ta_f t) ((ta_n t) + 1) fd, upd (ta_v t) ((ta_n t) + 1) v, ta_d t, ta_k t, ta_c t, ta_o t, (ta_n t) + 1) w b)) (i := (ta_n t) + 1) (x := v) (n := 201) (f := (ta_v t)) hF 10 0 rfl rfl (by omega) (by decide) rfl dX0_add_51 rfl ?_
    refine vr_aload_n hF 0 rfl dX0_add_52 rfl rfl ?_
    refine vr_get (v := .ref (a 11)) hF 2 3 (vr_in inX0) (vr_m flX0_21) rfl (by decide) rfl rfl rfl dX0_add_53 rfl ?_
    refine vr_aload_n hF 0 rfl dX0_add_56 rfl rfl ?_
    refine vr_get (v := .int (nI ((ta_n t) + 1))) hF 2 7 (vr_in inX0) (vr_m flX0_35) rfl (by decide) rfl rfl rfl dX0_add_57 rfl ?_
    refine vr_lload hF 4 rfl dX0_add_60 rfl ?_
    refine vr_last (ws' := (vx_w g a r (upd (ta_r t) ((ta_n t) + 1) rc, upd (ta_f t) ((ta_n t) + 1) fd, upd (ta_v t) ((ta_n t) + 1) v, vp_updL (ta_d t) ((ta_n t) + 1) vd, ta_k t, ta_c t, ta_o t, (ta_n t) + 1) w b)) (i := (ta_n t) + 1) (x := vd) (n := 201) (f := (ta_d t)) hF 11 1 rfl rfl (by omega) (by decide) rfl dX0_add_62 rfl ?_
    refine vr_aload_n hF 0 rfl dX0_add_63 rfl rfl ?_
    refine vr_get (v := .ref (a 12)) hF 2 4 (vr_in inX0) (vr_m flX0_25) rfl (by decide) rfl rfl rfl dX0_add_64 rfl ?_
    refine vr_aload_n hF 0 rfl dX0_add_67 rfl rfl ?_
    refine vr_get (v := .int (nI ((ta_n t) + 1))) hF 2 7 (vr_in inX0) (vr_m flX0_35) rfl (by decide) rfl rfl rfl dX0_add_68 rfl ?_
    refine vr_lload hF 5 rfl dX0_add_71 rfl ?_
    refine vr_last (ws' := (vx_w g a r (upd (ta_r t) ((ta_n t) + 1) rc, upd (ta_f t) ((ta_n t) + 1) fd, upd (ta_v t) ((ta_n t) + 1) v, vp_updL (ta_d t) ((ta_n t) + 1) vd, vp_updL (ta_k t) ((ta_n t) + 1) kn, ta_c t, ta_o t, (ta_n t) + 1) w b)) (i := (ta_n t) + 1) (x := kn) (n := 201) (f := (ta_k t)) hF 12 1 rfl rfl (by omega) (by decide) rfl dX0_add_73 rfl ?_
    refine vr_aload_n hF 0 rfl dX0_add_74 rfl rfl ?_
    refine vr_get (v := .ref (a 13)) hF 2 5 (vr_in inX0) (vr_m flX0_28) rfl (by decide) rfl rfl rfl dX0_add_75 rfl ?_
    refine vr_aload_n hF 0 rfl dX0_add_78 rfl rfl ?_
    refine vr_get (v := .int (nI ((ta_n t) + 1))) hF 2 7 (vr_in inX0) (vr_m flX0_35) rfl (by decide) rfl rfl rfl dX0_add_79 rfl ?_
    refine vr_iconst (v := nI 1) hF dX0_add_82 (by decide +kernel) rfl ?_
    refine vr_zastB (ws' := (vx_w g a r (upd (ta_r t) ((ta_n t) + 1) rc, upd (ta_f t) ((ta_n t) + 1) fd, upd (ta_v t) ((ta_n t) + 1) v, vp_updL (ta_d t) ((ta_n t) + 1) vd, vp_updL (ta_k t) ((ta_n t) + 1) kn, vr_ub (ta_c t) ((ta_n t) + 1) true, ta_o t, (ta_n t) + 1) w b)) (i := (ta_n t) + 1) (x := true) (n := 201) (f := (ta_c t)) hF 13 2 rfl rfl (by omega) (by decide) rfl dX0_add_83 rfl ?_
    refine vr_aload_n hF 0 rfl dX0_add_84 rfl rfl ?_
    refine vr_callV_Cv (rest := []) (n0 := 0) hF (xc_Acts_putNewestInOrder l g a r (upd (ta_r t) ((ta_n t) + 1) rc, upd (ta_f t) ((ta_n t) + 1) fd, upd (ta_v t) ((ta_n t) + 1) v, vp_updL (ta_d t) ((ta_n t) + 1) vd, vp_updL (ta_k t) ((ta_n t) + 1) kn, vr_ub (ta_c t) ((ta_n t) + 1) true, ta_o t, (ta_n t) + 1) w b h2 h3) (vr_gV vr_hbc mlX0_41 imX0_putNewestInOrder seX0_putNewestInOrder iniX0 cdX0_putNewestInOrder) rfl (by decide +kernel) rfl rfl rfl ⟨Nat.le_of_ble_eq_true rfl, Nat.le_of_ble_eq_true rfl⟩ ⟨Nat.zero_le _, Nat.zero_le _⟩ 2 rfl rfl rfl (Nat.le_of_ble_eq_true rfl) dX0_add_85 rfl ?_
    refine vr_to (ws' := vx_w g a r (xa_add t rc fd v vd kn) w b) (lv' := [(0, .ref (a 2)), (1, .int rc), (2, .int fd), (3, .int v), (4, .long vd), (6, .long kn)]) (st' := []) rfl rfl rfl ?_
    refine vr_aload_n hF 0 rfl dX0_add_88 rfl rfl ?_
    refine vr_get (v := .int (nI (ta_n (xa_add t rc fd v vd kn)))) hF 2 7 (vr_in inX0) (vr_m flX0_35) rfl (by decide) rfl rfl rfl dX0_add_89 rfl ?_
    refine vr_to (ws' := vx_w g a r (xa_add t rc fd v vd kn) w b) (lv' := [(0, .ref (a 2)), (1, .int rc), (2, .int fd), (3, .int v), (4, .long vd), (6, .long kn)]) (st' := [.int (nI (ta_n t + 1))]) rfl rfl rfl ?_
    exact vr_retiw hret dX0_add_92 (by rw [if_pos c_7]) (by rw [if_pos c_7])
  · skip
    refine vr_iconst (v := nI 0) hF dX0_add_10 (by decide +kernel) rfl ?_
    exact vr_retiw hret dX0_add_11 (by rw [if_neg c_7]) (by rw [if_neg c_7])
