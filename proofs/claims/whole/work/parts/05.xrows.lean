def rm_xw_Records_has : Room := { frames := 0, cells := 0, slots := 0, locals := 0 }
set_option maxHeartbeats 4000000 in
set_option maxRecDepth 100000 in
theorem xc_Records_has (l : Launch) (g : vr_G) (a : Nat → Nat) (r : vx_R) (t : vx_A) (w : Nat → Int64) (b : vx_B) (i : Int32) : vr_Ci l yX3_has wsX3_has rm_xw_Records_has g.1 (vr_tys g) [.ref (a 1), .int i] (vx_w g a r t w b) (vx_w g a r t w b) (vr_b (vx_has (rr_n r) i)) := by
  refine vr_Ci_mk (cc := cX3_has) (nL := 2) (ty := .boolean) (vr_nz _) (by decide) rfl (Nat.le_of_ble_eq_true rfl) ?_
  intro p e s m args below meth c A Q hF hret
  refine vr_to (ws' := (vx_w g a r t w b)) (lv' := [(0, .ref (a 1)), (1, .int i)]) (st' := []) rfl rfl rfl ?_
  refine vr_iload_n hF 1 rfl dX3_has_0 rfl rfl ?_
  refine vr_iconst (v := nI 1) hF dX3_has_1 (by decide +kernel) rfl ?_
  refine vr_icmp_lt (tgt := 17) hF dX3_has_2 (by decide) rfl (fun c_2 => ?_) (fun c_2 => ?_)
  · skip
    refine vr_iconst (v := nI 0) hF dX3_has_17 (by decide +kernel) rfl ?_
    exact vr_reti hret dX3_has_18 (by simp [vx_has, vr_bt, vr_bf, c_2])
  · skip
    refine vr_iload_n hF 1 rfl dX3_has_5 rfl rfl ?_
    refine vr_aload_n hF 0 rfl dX3_has_6 rfl rfl ?_
    refine vr_get (v := .int (nI (rr_n r))) hF 1 3 (vr_in inX3) (vr_m flX3_22) rfl (by decide) rfl rfl rfl dX3_has_7 rfl ?_
    refine vr_icmp_gt (tgt := 17) hF dX3_has_10 (by decide) rfl (fun c_10 => ?_) (fun c_10 => ?_)
    · skip
      refine vr_iconst (v := nI 0) hF dX3_has_17 (by decide +kernel) rfl ?_
      exact vr_reti hret dX3_has_18 (by simp [vx_has, vr_bt, vr_bf, c_2, c_10])
    · skip
      refine vr_iconst (v := nI 1) hF dX3_has_13 (by decide +kernel) rfl ?_
      refine vr_goto (tgt := 18) hF dX3_has_14 (by decide) ?_
      exact vr_reti hret dX3_has_18 (by simp [vx_has, vr_bt, vr_bf, c_2, c_10])
def rm_xw_Records_kind : Room := { frames := 0, cells := 0, slots := 0, locals := 0 }
set_option maxHeartbeats 4000000 in
set_option maxRecDepth 100000 in
theorem xc_Records_kind (l : Launch) (g : vr_G) (a : Nat → Nat) (r : vx_R) (t : vx_A) (w : Nat → Int64) (b : vx_B) (k : Nat) (hk : k ≤ 20) : vr_Ci l yX3_kind wsX3_kind rm_xw_Records_kind g.1 (vr_tys g) [.ref (a 1), .int (nI k)] (vx_w g a r t w b) (vx_w g a r t w b) (rr_k r k) := by
  refine vr_Ci_mk (cc := cX3_kind) (nL := 2) (ty := .int) rfl (by decide) rfl (Nat.le_of_ble_eq_true rfl) ?_
  intro p e s m args below meth c A Q hF hret
  refine vr_to (ws' := (vx_w g a r t w b)) (lv' := [(0, .ref (a 1)), (1, .int (nI k))]) (st' := []) rfl rfl rfl ?_
  refine vr_aload_n hF 0 rfl dX3_kind_0 rfl rfl ?_
  refine vr_get (v := .ref (a 5)) hF 1 0 (vr_in inX3) (vr_m flX3_9) rfl (by decide) rfl rfl rfl dX3_kind_1 rfl ?_
  refine vr_iload_n hF 1 rfl dX3_kind_4 rfl rfl ?_
  refine vr_iald (i := k) (n := 21) (f := (rr_k r)) hF 5 0 rfl rfl (by omega) (by decide) dX3_kind_5 rfl ?_
  exact vr_reti hret dX3_kind_6 (by simp [vr_bt, vr_bf])
def rm_xw_Records_locker : Room := { frames := 0, cells := 0, slots := 0, locals := 0 }
set_option maxHeartbeats 4000000 in
set_option maxRecDepth 100000 in
theorem xc_Records_locker (l : Launch) (g : vr_G) (a : Nat → Nat) (r : vx_R) (t : vx_A) (w : Nat → Int64) (b : vx_B) (k : Nat) (hk : k ≤ 20) : vr_Ci l yX3_locker wsX3_locker rm_xw_Records_locker g.1 (vr_tys g) [.ref (a 1), .int (nI k)] (vx_w g a r t w b) (vx_w g a r t w b) (rr_l r k) := by
  refine vr_Ci_mk (cc := cX3_locker) (nL := 2) (ty := .int) rfl (by decide) rfl (Nat.le_of_ble_eq_true rfl) ?_
  intro p e s m args below meth c A Q hF hret
  refine vr_to (ws' := (vx_w g a r t w b)) (lv' := [(0, .ref (a 1)), (1, .int (nI k))]) (st' := []) rfl rfl rfl ?_
  refine vr_aload_n hF 0 rfl dX3_locker_0 rfl rfl ?_
  refine vr_get (v := .ref (a 6)) hF 1 1 (vr_in inX3) (vr_m flX3_15) rfl (by decide) rfl rfl rfl dX3_locker_1 rfl ?_
  refine vr_iload_n hF 1 rfl dX3_locker_4 rfl rfl ?_
  refine vr_iald (i := k) (n := 21) (f := (rr_l r)) hF 6 0 rfl rfl (by omega) (by decide) dX3_locker_5 rfl ?_
  exact vr_reti hret dX3_locker_6 (by simp [vr_bt, vr_bf])
def rm_xw_Records_until : Room := { frames := 0, cells := 0, slots := 0, locals := 0 }
set_option maxHeartbeats 4000000 in
set_option maxRecDepth 100000 in
theorem xc_Records_until (l : Launch) (g : vr_G) (a : Nat → Nat) (r : vx_R) (t : vx_A) (w : Nat → Int64) (b : vx_B) (k : Nat) (hk : k ≤ 20) : vr_Cl l yX3_until wsX3_until rm_xw_Records_until g.1 (vr_tys g) [.ref (a 1), .int (nI k)] (vx_w g a r t w b) (vx_w g a r t w b) (rr_u r k) := by
  refine vr_Cl_mk (cc := cX3_until) (nL := 2) (by decide) rfl (Nat.le_of_ble_eq_true rfl) ?_
  intro p e s m args below meth c A Q hF hret
  refine vr_to (ws' := (vx_w g a r t w b)) (lv' := [(0, .ref (a 1)), (1, .int (nI k))]) (st' := []) rfl rfl rfl ?_
  refine vr_aload_n hF 0 rfl dX3_until_0 rfl rfl ?_
  refine vr_get (v := .ref (a 7)) hF 1 2 (vr_in inX3) (vr_m flX3_18) rfl (by decide) rfl rfl rfl dX3_until_1 rfl ?_
  refine vr_iload_n hF 1 rfl dX3_until_4 rfl rfl ?_
  refine vr_lald (i := k) (n := 21) (f := (rr_u r)) hF 7 1 rfl rfl (by omega) (by decide) dX3_until_5 rfl ?_
  exact vr_retl hret dX3_until_6 (by simp [vr_bt, vr_bf])
def rm_xw_Records_setLock : Room := { frames := 0, cells := 0, slots := 0, locals := 0 }
set_option maxHeartbeats 4000000 in
set_option maxRecDepth 100000 in
theorem xc_Records_setLock (l : Launch) (g : vr_G) (a : Nat → Nat) (r : vx_R) (t : vx_A) (w : Nat → Int64) (b : vx_B) (k : Nat) (who : Int32) (un : Int64) (hk : k ≤ 20) : vr_Cv l yX3_setLock wsX3_setLock rm_xw_Records_setLock g.1 (vr_tys g) [.ref (a 1), .int (nI k), .int who, .long un] (vx_w g a r t w b) (vx_w g a (xr_lock r k who un) t w b)  := by
  refine vr_Cv_mk (cc := cX3_setLock) (nL := 5) (by decide) rfl (Nat.le_of_ble_eq_true rfl) ?_
  intro p e s m args below meth c A Q hF hret
  refine vr_to (ws' := (vx_w g a r t w b)) (lv' := [(0, .ref (a 1)), (1, .int (nI k)), (2, .int who), (3, .long un)]) (st' := []) rfl rfl rfl ?_
  refine vr_aload_n hF 0 rfl dX3_setLock_0 rfl rfl ?_
  refine vr_get (v := .ref (a 6)) hF 1 1 (vr_in inX3) (vr_m flX3_15) rfl (by decide) rfl rfl rfl dX3_setLock_1 rfl ?_
  refine vr_iload_n hF 1 rfl dX3_setLock_4 rfl rfl ?_
  refine vr_iload_n hF 2 rfl dX3_setLock_5 rfl rfl ?_
  refine vr_iast (ws' := (vx_w g a (rr_k r, upd (rr_l r) k who, rr_u r, rr_n r) t w b)) (i := k) (x := who) (n := 21) (f := (rr_l r)) hF 6 0 rfl rfl (by omega) (by decide) rfl dX3_setLock_6 rfl ?_
  refine vr_aload_n hF 0 rfl dX3_setLock_7 rfl rfl ?_
  refine vr_get (v := .ref (a 7)) hF 1 2 (vr_in inX3) (vr_m flX3_18) rfl (by decide) rfl rfl rfl dX3_setLock_8 rfl ?_
  refine vr_iload_n hF 1 rfl dX3_setLock_11 rfl rfl ?_
  refine vr_lload_n hF 3 rfl dX3_setLock_12 rfl rfl ?_
  refine vr_last (ws' := (vx_w g a (rr_k r, upd (rr_l r) k who, vp_updL (rr_u r) k un, rr_n r) t w b)) (i := k) (x := un) (n := 21) (f := (rr_u r)) hF 7 1 rfl rfl (by omega) (by decide) rfl dX3_setLock_13 rfl ?_
  exact vr_retv hret dX3_setLock_14 rfl
def rm_xw_Records_add : Room := { frames := 0, cells := 0, slots := 0, locals := 0 }
set_option maxHeartbeats 4000000 in
set_option maxRecDepth 100000 in
theorem xc_Records_add (l : Launch) (g : vr_G) (a : Nat → Nat) (r : vx_R) (t : vx_A) (w : Nat → Int64) (b : vx_B) (kd : Int32) (h : vx_ok r t b) : vr_Ci l yX3_add wsX3_add rm_xw_Records_add g.1 (vr_tys g) [.ref (a 1), .int kd] (vx_w g a r t w b) (vx_w g a (if rr_n r < 20 then xr_add r kd else r) t w b) (nI (if rr_n r < 20 then rr_n r + 1 else 0)) := by
  obtain ⟨hrn, htn, hto, hbn⟩ := id h
  refine vr_Ci_mk (cc := cX3_add) (nL := 2) (ty := .int) rfl (by decide) rfl (Nat.le_of_ble_eq_true rfl) ?_
  intro p e s m args below meth c A Q hF hret
  refine vr_to (ws' := (vx_w g a r t w b)) (lv' := [(0, .ref (a 1)), (1, .int kd)]) (st' := []) rfl rfl rfl ?_
  refine vr_aload_n hF 0 rfl dX3_add_0 rfl rfl ?_
  refine vr_get (v := .int (nI (rr_n r))) hF 1 3 (vr_in inX3) (vr_m flX3_22) rfl (by decide) rfl rfl rfl dX3_add_1 rfl ?_
  refine vr_bipush (v := nI 20) hF dX3_add_4 (by decide +kernel) rfl ?_
  refine vr_icmp_ltN (tgt := 11) (x := (rr_n r)) (y := 20) hF (by omega) (by omega) dX3_add_6 (by decide) rfl (fun c_6 => ?_) (fun c_6 => ?_)
  · skip
    refine vr_aload_n hF 0 rfl dX3_add_11 rfl rfl ?_
    refine vr_dup hF dX3_add_12 rfl rfl ?_
    refine vr_get (v := .int (nI (rr_n r))) hF 1 3 (vr_in inX3) (vr_m flX3_22) rfl (by decide) rfl rfl rfl dX3_add_13 rfl ?_
    refine vr_iconst (v := nI 1) hF dX3_add_16 (by decide +kernel) rfl ?_
    refine vr_iadd (v := nI ((rr_n r) + 1)) hF dX3_add_17 (nI_add (rr_n r) 1) rfl ?_
    refine vr_put (ws' := (vx_w g a (rr_k r, rr_l r, rr_u r, (rr_n r) + 1) t w b)) hF 1 3 (vr_in inX3) (vr_m flX3_22) rfl (by decide) rfl rfl tyX3 tyX3_ok nmX3 rfl rfl rfl (Nat.le_of_ble_eq_true rfl) rfl dX3_add_18 rfl ?_
    refine vr_aload_n hF 0 rfl dX3_add_21 rfl rfl ?_
    refine vr_get (v := .ref (a 5)) hF 1 0 (vr_in inX3) (vr_m flX3_9) rfl (by decide) rfl rfl rfl dX3_add_22 rfl ?_
    refine vr_aload_n hF 0 rfl dX3_add_25 rfl rfl ?_
    refine vr_get (v := .int (nI ((rr_n r) + 1))) hF 1 3 (vr_in inX3) (vr_m flX3_22) rfl (by decide) rfl rfl rfl dX3_add_26 rfl ?_
    refine vr_iload_n hF 1 rfl dX3_add_29 rfl rfl ?_
    refine vr_iast (ws' := (vx_w g a (upd (rr_k r) ((rr_n r) + 1) kd, rr_l r, rr_u r, (rr_n r) + 1) t w b)) (i := (rr_n r) + 1) (x := kd) (n := 21) (f := (rr_k r)) hF 5 0 rfl rfl (by omega) (by decide) rfl dX3_add_30 rfl ?_
    refine vr_aload_n hF 0 rfl dX3_add_31 rfl rfl ?_
    refine vr_get (v := .ref (a 7)) hF 1 2 (vr_in inX3) (vr_m flX3_18) rfl (by decide) rfl rfl rfl dX3_add_32 rfl ?_
    refine vr_aload_n hF 0 rfl dX3_add_35 rfl rfl ?_
    refine vr_get (v := .int (nI ((rr_n r) + 1))) hF 1 3 (vr_in inX3) (vr_m flX3_22) rfl (by decide) rfl rfl rfl dX3_add_36 rfl ?_
    refine vr_ldc2 (v := vr_min) hF (vr_m kX3_26) dX3_add_39 rfl ?_
    refine vr_last (ws' := (vx_w g a (upd (rr_k r) ((rr_n r) + 1) kd, rr_l r, vp_updL (rr_u r) ((rr_n r) + 1) vr_min, (rr_n r) + 1) t w b)) (i := (rr_n r) + 1) (x := vr_min) (n := 21) (f := (rr_u r)) hF 7 1 rfl rfl (by omega) (by decide) rfl dX3_add_42 rfl ?_
    refine vr_aload_n hF 0 rfl dX3_add_43 rfl rfl ?_
    refine vr_get (v := .int (nI ((rr_n r) + 1))) hF 1 3 (vr_in inX3) (vr_m flX3_22) rfl (by decide) rfl rfl rfl dX3_add_44 rfl ?_
    exact vr_retiw hret dX3_add_47 (by rw [if_pos c_6]; rfl) (by rw [if_pos c_6])
  · skip
    refine vr_iconst (v := nI 0) hF dX3_add_9 (by decide +kernel) rfl ?_
    exact vr_retiw hret dX3_add_10 (by rw [if_neg c_6]) (by rw [if_neg c_6])
def rm_xw_Leans_wordOf : Room := { frames := 0, cells := 0, slots := 0, locals := 0 }
set_option maxHeartbeats 4000000 in
set_option maxRecDepth 100000 in
theorem xc_Leans_wordOf (l : Launch) (g : vr_G) (a : Nat → Nat) (r : vx_R) (t : vx_A) (w : Nat → Int64) (b : vx_B) (k : Nat) (o : Nat) (hk : k ≤ 200) (ho : o ≤ 200) : vr_Ci l yX2_wordOf wsX2_wordOf rm_xw_Leans_wordOf g.1 (vr_tys g) [.int (nI k), .int (nI o)] (vx_w g a r t w b) (vx_w g a r t w b) (nI (k * 4 + o / 64)) := by
  refine vr_Ci_mk (cc := cX2_wordOf) (nL := 2) (ty := .int) rfl (by decide) rfl (Nat.le_of_ble_eq_true rfl) ?_
  intro p e s m args below meth c A Q hF hret
  refine vr_to (ws' := (vx_w g a r t w b)) (lv' := [(0, .int (nI k)), (1, .int (nI o))]) (st' := []) rfl rfl rfl ?_
  refine vr_iload_n hF 0 rfl dX2_wordOf_0 rfl rfl ?_
  refine vr_iconst (v := nI 4) hF dX2_wordOf_1 (by decide +kernel) rfl ?_
  refine vr_imul (v := nI (k * 4)) hF dX2_wordOf_2 (pk_mul k 4) rfl ?_
  refine vr_iload_n hF 1 rfl dX2_wordOf_3 rfl rfl ?_
  refine vr_bipush (v := nI 64) hF dX2_wordOf_4 (by decide +kernel) rfl ?_
  refine vr_idiv (v := nI (o / 64)) hF dX2_wordOf_6 (by decide) (pk_div (by omega) (by decide) (by decide)) rfl ?_
  refine vr_iadd (v := nI ((k * 4) + (o / 64))) hF dX2_wordOf_7 (nI_add (k * 4) (o / 64)) rfl ?_
  exact vr_reti hret dX2_wordOf_8 (by simp [vr_bt, vr_bf])
def rm_xw_Leans_bitOf : Room := { frames := 0, cells := 0, slots := 0, locals := 0 }
set_option maxHeartbeats 4000000 in
set_option maxRecDepth 100000 in
theorem xc_Leans_bitOf (l : Launch) (g : vr_G) (a : Nat → Nat) (r : vx_R) (t : vx_A) (w : Nat → Int64) (b : vx_B) (o : Nat) (ho : o ≤ 200) : vr_Cl l yX2_bitOf wsX2_bitOf rm_xw_Leans_bitOf g.1 (vr_tys g) [.int (nI o)] (vx_w g a r t w b) (vx_w g a r t w b) (xl_bit o) := by
  refine vr_Cl_mk (cc := cX2_bitOf) (nL := 1) (by decide) rfl (Nat.le_of_ble_eq_true rfl) ?_
  intro p e s m args below meth c A Q hF hret
  refine vr_to (ws' := (vx_w g a r t w b)) (lv' := [(0, .int (nI o))]) (st' := []) rfl rfl rfl ?_
  refine vr_lconst (v := 1) hF dX2_bitOf_0 rfl rfl ?_
  refine vr_iload_n hF 0 rfl dX2_bitOf_1 rfl rfl ?_
  refine vr_bipush (v := nI 64) hF dX2_bitOf_2 (by decide +kernel) rfl ?_
  refine vr_irem (v := nI (o % 64)) hF dX2_bitOf_4 (by decide) (pk_rem (by omega) (by decide) (by decide)) rfl ?_
  refine vr_lshl (v := 1 <<< ((nI (o % 64)).toInt64 &&& 63)) hF dX2_bitOf_5 rfl rfl ?_
  exact vr_retl hret dX2_bitOf_6 (by simp [xl_bit, vr_bt, vr_bf])
def rm_xw_Leans_has : Room := { frames := 1, cells := 0, slots := 0, locals := 21 }
set_option maxHeartbeats 4000000 in
set_option maxRecDepth 100000 in
theorem xc_Leans_has (l : Launch) (g : vr_G) (a : Nat → Nat) (r : vx_R) (t : vx_A) (w : Nat → Int64) (b : vx_B) (k : Nat) (o : Nat) (hk : k ≤ 200) (ho : o ≤ 200) : vr_Ci l yX2_has wsX2_has rm_xw_Leans_has g.1 (vr_tys g) [.ref (a 3), .int (nI k), .int (nI o)] (vx_w g a r t w b) (vx_w g a r t w b) (vr_b (xl_has w k o)) := by
  refine vr_Ci_mk (cc := cX2_has) (nL := 3) (ty := .boolean) (vr_nz _) (by decide) rfl (Nat.le_of_ble_eq_true rfl) ?_
  intro p e s m args below meth c A Q hF hret
  refine vr_to (ws' := (vx_w g a r t w b)) (lv' := [(0, .ref (a 3)), (1, .int (nI k)), (2, .int (nI o))]) (st' := []) rfl rfl rfl ?_
  refine vr_aload_n hF 0 rfl dX2_has_0 rfl rfl ?_
  refine vr_get (v := .ref (a 15)) hF 3 0 (vr_in inX2) (vr_m flX2_11) rfl (by decide) rfl rfl rfl dX2_has_1 rfl ?_
  refine vr_iload_n hF 1 rfl dX2_has_4 rfl rfl ?_
  refine vr_iload_n hF 2 rfl dX2_has_5 rfl rfl ?_
  refine vr_callS_Ci (rest := [.ref (a 15)]) (n0 := 2) hF (xc_Leans_wordOf l g a r t w b k o (by omega) (by omega)) (vr_gS vr_hbc mlX2_15 stX2_wordOf iniX2 cdX2_wordOf) rfl (by decide +kernel) rfl rfl rfl ⟨Nat.le_of_ble_eq_true rfl, Nat.le_of_ble_eq_true rfl⟩ ⟨Nat.zero_le _, Nat.zero_le _⟩ rfl (Nat.le_of_ble_eq_true rfl) dX2_has_6 rfl ?_
  refine vr_lald (i := k * 4 + o / 64) (n := 804) (f := w) hF 15 1 rfl rfl (by omega) (by decide) dX2_has_9 rfl ?_
  refine vr_iload_n hF 2 rfl dX2_has_10 rfl rfl ?_
  refine vr_callS_Cl (rest := [.long (w (k * 4 + o / 64))]) (n0 := 1) hF (xc_Leans_bitOf l g a r t w b o (by omega)) (vr_gS vr_hbc mlX2_19 stX2_bitOf iniX2 cdX2_bitOf) rfl (by decide +kernel) rfl rfl rfl ⟨Nat.le_of_ble_eq_true rfl, Nat.le_of_ble_eq_true rfl⟩ ⟨Nat.zero_le _, Nat.zero_le _⟩ rfl (Nat.le_of_ble_eq_true rfl) dX2_has_11 rfl ?_
  refine vr_land (v := (w (k * 4 + o / 64)) &&& (xl_bit o)) hF dX2_has_14 rfl rfl ?_
  refine vr_lconst (v := 0) hF dX2_has_15 rfl rfl ?_
  refine vr_lcmp_eq (tgt := 24) hF dX2_has_16 dX2_has_17 (by decide) rfl (fun c_17 => ?_) (fun c_17 => ?_)
  · skip
    refine vr_iconst (v := nI 0) hF dX2_has_24 (by decide +kernel) rfl ?_
    exact vr_reti hret dX2_has_25 (by simp [xl_has, vr_bt, vr_bf, c_17])
  · skip
    refine vr_iconst (v := nI 1) hF dX2_has_20 (by decide +kernel) rfl ?_
    refine vr_goto (tgt := 25) hF dX2_has_21 (by decide) ?_
    exact vr_reti hret dX2_has_25 (by simp [xl_has, vr_bt, vr_bf, c_17])
def rm_xw_Leans_add : Room := { frames := 1, cells := 0, slots := 0, locals := 21 }
set_option maxHeartbeats 4000000 in
set_option maxRecDepth 100000 in
theorem xc_Leans_add (l : Launch) (g : vr_G) (a : Nat → Nat) (r : vx_R) (t : vx_A) (w : Nat → Int64) (b : vx_B) (k : Nat) (o : Nat) (hk : k ≤ 200) (ho : o ≤ 200) : vr_Cv l yX2_add wsX2_add rm_xw_Leans_add g.1 (vr_tys g) [.ref (a 3), .int (nI k), .int (nI o)] (vx_w g a r t w b) (vx_w g a r t (xl_add w k o) b)  := by
  refine vr_Cv_mk (cc := cX2_add) (nL := 3) (by decide) rfl (Nat.le_of_ble_eq_true rfl) ?_
  intro p e s m args below meth c A Q hF hret
  refine vr_to (ws' := (vx_w g a r t w b)) (lv' := [(0, .ref (a 3)), (1, .int (nI k)), (2, .int (nI o))]) (st' := []) rfl rfl rfl ?_
  refine vr_aload_n hF 0 rfl dX2_add_0 rfl rfl ?_
  refine vr_get (v := .ref (a 15)) hF 3 0 (vr_in inX2) (vr_m flX2_11) rfl (by decide) rfl rfl rfl dX2_add_1 rfl ?_
  refine vr_iload_n hF 1 rfl dX2_add_4 rfl rfl ?_
  refine vr_iload_n hF 2 rfl dX2_add_5 rfl rfl ?_
  refine vr_callS_Ci (rest := [.ref (a 15)]) (n0 := 2) hF (xc_Leans_wordOf l g a r t w b k o (by omega) (by omega)) (vr_gS vr_hbc mlX2_15 stX2_wordOf iniX2 cdX2_wordOf) rfl (by decide +kernel) rfl rfl rfl ⟨Nat.le_of_ble_eq_true rfl, Nat.le_of_ble_eq_true rfl⟩ ⟨Nat.zero_le _, Nat.zero_le _⟩ rfl (Nat.le_of_ble_eq_true rfl) dX2_add_6 rfl ?_
  refine vr_dup2_11 hF dX2_add_9 rfl rfl rfl ?_
  refine vr_lald (i := k * 4 + o / 64) (n := 804) (f := w) hF 15 1 rfl rfl (by omega) (by decide) dX2_add_10 rfl ?_
  refine vr_iload_n hF 2 rfl dX2_add_11 rfl rfl ?_
  refine vr_callS_Cl (rest := [.long (w (k * 4 + o / 64)), .int (nI (k * 4 + o / 64)), .ref (a 15)]) (n0 := 1) hF (xc_Leans_bitOf l g a r t w b o (by omega)) (vr_gS vr_hbc mlX2_19 stX2_bitOf iniX2 cdX2_bitOf) rfl (by decide +kernel) rfl rfl rfl ⟨Nat.le_of_ble_eq_true rfl, Nat.le_of_ble_eq_true rfl⟩ ⟨Nat.zero_le _, Nat.zero_le _⟩ rfl (Nat.le_of_ble_eq_true rfl) dX2_add_12 rfl ?_
  refine vr_lor (v := (w (k * 4 + o / 64)) ||| (xl_bit o)) hF dX2_add_15 rfl rfl ?_
  refine vr_last (ws' := (vx_w g a r t (vp_updL w (k * 4 + o / 64) ((w (k * 4 + o / 64)) ||| (xl_bit o))) b)) (i := k * 4 + o / 64) (x := ((w (k * 4 + o / 64)) ||| (xl_bit o))) (n := 804) (f := w) hF 15 1 rfl rfl (by omega) (by decide) rfl dX2_add_16 rfl ?_
  exact vr_retv hret dX2_add_17 rfl
def rm_xw_Batches_has : Room := { frames := 0, cells := 0, slots := 0, locals := 0 }
set_option maxHeartbeats 4000000 in
set_option maxRecDepth 100000 in
theorem xc_Batches_has (l : Launch) (g : vr_G) (a : Nat → Nat) (r : vx_R) (t : vx_A) (w : Nat → Int64) (b : vx_B) (i : Int32) : vr_Ci l yX1_has wsX1_has rm_xw_Batches_has g.1 (vr_tys g) [.ref (a 4), .int i] (vx_w g a r t w b) (vx_w g a r t w b) (vr_b (vx_has (tb_n b) i)) := by
  refine vr_Ci_mk (cc := cX1_has) (nL := 2) (ty := .boolean) (vr_nz _) (by decide) rfl (Nat.le_of_ble_eq_true rfl) ?_
  intro p e s m args below meth c A Q hF hret
  refine vr_to (ws' := (vx_w g a r t w b)) (lv' := [(0, .ref (a 4)), (1, .int i)]) (st' := []) rfl rfl rfl ?_
  refine vr_iload_n hF 1 rfl dX1_has_0 rfl rfl ?_
  refine vr_iconst (v := nI 1) hF dX1_has_1 (by decide +kernel) rfl ?_
  refine vr_icmp_lt (tgt := 17) hF dX1_has_2 (by decide) rfl (fun c_2 => ?_) (fun c_2 => ?_)
  · skip
    refine vr_iconst (v := nI 0) hF dX1_has_17 (by decide +kernel) rfl ?_
    exact vr_reti hret dX1_has_18 (by simp [vx_has, vr_bt, vr_bf, c_2])
  · skip
    refine vr_iload_n hF 1 rfl dX1_has_5 rfl rfl ?_
    refine vr_aload_n hF 0 rfl dX1_has_6 rfl rfl ?_
    refine vr_get (v := .int (nI (tb_n b))) hF 4 1 (vr_in inX1) (vr_m flX1_15) rfl (by decide) rfl rfl rfl dX1_has_7 rfl ?_
    refine vr_icmp_gt (tgt := 17) hF dX1_has_10 (by decide) rfl (fun c_10 => ?_) (fun c_10 => ?_)
    · skip
      refine vr_iconst (v := nI 0) hF dX1_has_17 (by decide +kernel) rfl ?_
      exact vr_reti hret dX1_has_18 (by simp [vx_has, vr_bt, vr_bf, c_2, c_10])
    · skip
      refine vr_iconst (v := nI 1) hF dX1_has_13 (by decide +kernel) rfl ?_
      refine vr_goto (tgt := 18) hF dX1_has_14 (by decide) ?_
      exact vr_reti hret dX1_has_18 (by simp [vx_has, vr_bt, vr_bf, c_2, c_10])
def rm_xw_Batches_of : Room := { frames := 0, cells := 0, slots := 0, locals := 0 }
set_option maxHeartbeats 4000000 in
set_option maxRecDepth 100000 in
theorem xc_Batches_of (l : Launch) (g : vr_G) (a : Nat → Nat) (r : vx_R) (t : vx_A) (w : Nat → Int64) (b : vx_B) (k : Nat) (hk : k ≤ 200) : vr_Ci l yX1_of wsX1_of rm_xw_Batches_of g.1 (vr_tys g) [.ref (a 4), .int (nI k)] (vx_w g a r t w b) (vx_w g a r t w b) (tb_o b k) := by
  refine vr_Ci_mk (cc := cX1_of) (nL := 2) (ty := .int) rfl (by decide) rfl (Nat.le_of_ble_eq_true rfl) ?_
  intro p e s m args below meth c A Q hF hret
  refine vr_to (ws' := (vx_w g a r t w b)) (lv' := [(0, .ref (a 4)), (1, .int (nI k))]) (st' := []) rfl rfl rfl ?_
  refine vr_aload_n hF 0 rfl dX1_of_0 rfl rfl ?_
  refine vr_get (v := .ref (a 16)) hF 4 0 (vr_in inX1) (vr_m flX1_9) rfl (by decide) rfl rfl rfl dX1_of_1 rfl ?_
  refine vr_iload_n hF 1 rfl dX1_of_4 rfl rfl ?_
  refine vr_iald (i := k) (n := 201) (f := (tb_o b)) hF 16 0 rfl rfl (by omega) (by decide) dX1_of_5 rfl ?_
  exact vr_reti hret dX1_of_6 (by simp [vr_bt, vr_bf])
def rm_xw_Batches_isAnyTaken : Room := { frames := 0, cells := 0, slots := 0, locals := 0 }
set_option maxHeartbeats 4000000 in
set_option maxRecDepth 100000 in
theorem xw_Batches_isAnyTaken_lp2 {p : Program} {l : Launch} {e : Env} {s : State} {m : MethodId} {args : Array Value} {below : List Frame} {meth : Method} {c : Code} {A : Nat → Prop} {Q : State → Prop} {g : vr_G} {a : Nat → Nat} (r : vx_R) (t : vx_A) (w : Nat → Int64) (b : vx_B) (f : Nat) (to : Nat) (h : vx_ok r t b) (hf : f ≤ to) (ht : to ≤ 200)  (ans : Int32) (hF : vr_F p s m c cX1_isAnyTaken 4 args wsX1_isAnyTaken yX1_isAnyTaken.cls g.1 (vr_tys g) A) (hret : vr_RtI p l e rm_xw_Batches_isAnyTaken s m args below meth c cX1_isAnyTaken g.1 A 4 0 0 Q (vx_w g a r t w b) ans) : ∀ (n : Nat) (k : Nat), (to + 1 < k + n) → (k ≤ to + 1) → (ans = vr_b (xb_taken b to n k)) → vr_W p l e rm_xw_Batches_isAnyTaken s m args below meth c g.1 A 4 0 0 Q (vx_w g a r t w b) 2 [(0, .ref (a 4)), (1, .int (nI f)), (2, .int (nI to)), (3, .int (nI k))] [] := by
  obtain ⟨hrn, htn, hto, hbn⟩ := id h
  intro n
  induction n with
  | zero => intro k hk1 hk2 hans; exact absurd hk1 (by omega)
  | succ n ih =>
    intro k hk1 hk2 hans
    refine vr_iload_n hF 3 rfl dX1_isAnyTaken_2 rfl rfl ?_
    refine vr_iload_n hF 2 rfl dX1_isAnyTaken_3 rfl rfl ?_
    refine vr_icmp_gtN (tgt := 24) (x := k) (y := to) hF (by omega) (by omega) dX1_isAnyTaken_4 (by decide) rfl (fun c_4 => ?_) (fun c_4 => ?_)
    · skip
      refine vr_iconst (v := nI 0) hF dX1_isAnyTaken_24 (by decide +kernel) rfl ?_
      exact vr_reti hret dX1_isAnyTaken_25 (by rw [hans, xb_taken]; simp [vr_bt, vr_bf, c_4])
    · skip
      refine vr_aload_n hF 0 rfl dX1_isAnyTaken_7 rfl rfl ?_
      refine vr_get (v := .ref (a 16)) hF 4 0 (vr_in inX1) (vr_m flX1_9) rfl (by decide) rfl rfl rfl dX1_isAnyTaken_8 rfl ?_
      refine vr_iload_n hF 3 rfl dX1_isAnyTaken_11 rfl rfl ?_
      refine vr_iald (i := k) (n := 201) (f := (tb_o b)) hF 16 0 rfl rfl (by omega) (by decide) dX1_isAnyTaken_12 rfl ?_
      refine vr_if_eq (tgt := 18) hF dX1_isAnyTaken_13 (by decide) rfl (fun c_13 => ?_) (fun c_13 => ?_)
      · skip
        refine vr_iinc (lv' := [(3, .int (nI (k + 1))), (0, .ref (a 4)), (1, .int (nI f)), (2, .int (nI to))]) hF (nI (k + 1)) 3 rfl dX1_isAnyTaken_18 (nI_1 k) (by decide) rfl rfl ?_
        refine vr_goto (tgt := 2) hF dX1_isAnyTaken_21 (by decide) ?_
        refine vr_sub [1, 2, 3, 0] rfl ?_
        exact ih (k + 1) (by omega) (by omega) (by rw [hans, xb_taken]; simp [c_4, c_13])
      · skip
        refine vr_iconst (v := nI 1) hF dX1_isAnyTaken_16 (by decide +kernel) rfl ?_
        exact vr_reti hret dX1_isAnyTaken_17 (by rw [hans, xb_taken]; simp [vr_bt, vr_bf, c_4, c_13])
set_option maxHeartbeats 4000000 in
set_option maxRecDepth 100000 in
theorem xc_Batches_isAnyTaken (l : Launch) (g : vr_G) (a : Nat → Nat) (r : vx_R) (t : vx_A) (w : Nat → Int64) (b : vx_B) (f : Nat) (to : Nat) (h : vx_ok r t b) (hf : f ≤ to) (ht : to ≤ 200) : vr_Ci l yX1_isAnyTaken wsX1_isAnyTaken rm_xw_Batches_isAnyTaken g.1 (vr_tys g) [.ref (a 4), .int (nI f), .int (nI to)] (vx_w g a r t w b) (vx_w g a r t w b) (vr_b (xb_taken b to (to + 2) f)) := by
  obtain ⟨hrn, htn, hto, hbn⟩ := id h
  refine vr_Ci_mk (cc := cX1_isAnyTaken) (nL := 4) (ty := .boolean) (vr_nz _) (by decide) rfl (Nat.le_of_ble_eq_true rfl) ?_
  intro p e s m args below meth c A Q hF hret
  refine vr_to (ws' := (vx_w g a r t w b)) (lv' := [(0, .ref (a 4)), (1, .int (nI f)), (2, .int (nI to))]) (st' := []) rfl rfl rfl ?_
  refine vr_iload_n hF 1 rfl dX1_isAnyTaken_0 rfl rfl ?_
  refine vr_istore_n (lv' := [(3, .int (nI f)), (0, .ref (a 4)), (1, .int (nI f)), (2, .int (nI to))]) hF dX1_isAnyTaken_1 rfl (by decide) rfl rfl ?_
  refine vr_sub [1, 2, 3, 0] rfl ?_
  exact xw_Batches_isAnyTaken_lp2 r t w b f to h hf ht  _ hF hret (to + 2) f (by omega) (by omega) rfl
def rm_xw_Batches_add : Room := { frames := 1, cells := 0, slots := 0, locals := 23 }
set_option maxHeartbeats 4000000 in
set_option maxRecDepth 100000 in
theorem xw_Batches_add_lp32 {p : Program} {l : Launch} {e : Env} {s : State} {m : MethodId} {args : Array Value} {below : List Frame} {meth : Method} {c : Code} {A : Nat → Prop} {Q : State → Prop} {g : vr_G} {a : Nat → Nat} (r : vx_R) (t : vx_A) (w : Nat → Int64) (b : vx_B) (f : Nat) (to : Nat) (h : vx_ok r t b) (hf : f ≤ to) (ht : to ≤ 200)  (ans : Int32) (P : Nat → Int32) (hF : vr_F p s m c cX1_add 4 args wsX1_add yX1_add.cls g.1 (vr_tys g) A) (hret : vr_RtI p l e rm_xw_Batches_add s m args below meth c cX1_add g.1 A 4 0 0 Q (vx_w g a r t w (P, tb_n b + 1)) ans) : ∀ (n : Nat) (k : Nat) (o : Nat → Int32), (to + 1 < k + n) → (k ≤ to + 1) → (P = xb_fill (nI (tb_n b + 1)) to n k o) → (ans = nI (tb_n b + 1)) → vr_W p l e rm_xw_Batches_add s m args below meth c g.1 A 4 0 0 Q (vx_w g a r t w (o, tb_n b + 1)) 32 [(0, .ref (a 4)), (1, .int (nI f)), (2, .int (nI to)), (3, .int (nI k))] [] := by
  obtain ⟨hrn, htn, hto, hbn⟩ := id h
  intro n
  induction n with
  | zero => intro k o hk1 hk2 hans hans2; exact absurd hk1 (by omega)
  | succ n ih =>
    intro k o hk1 hk2 hans hans2
    refine vr_iload_n hF 3 rfl dX1_add_32 rfl rfl ?_
    refine vr_iload_n hF 2 rfl dX1_add_33 rfl rfl ?_
    refine vr_icmp_gtN (tgt := 53) (x := k) (y := to) hF (by omega) (by omega) dX1_add_34 (by decide) rfl (fun c_34 => ?_) (fun c_34 => ?_)
    · skip
      refine vr_aload_n hF 0 rfl dX1_add_53 rfl rfl ?_
      refine vr_get (v := .int (nI (tb_n b + 1))) hF 4 1 (vr_in inX1) (vr_m flX1_15) rfl (by decide) rfl rfl rfl dX1_add_54 rfl ?_
      exact vr_retiw hret dX1_add_57 (by rw [hans, xb_fill]; simp [c_34]) hans2.symm
    · skip
      refine vr_aload_n hF 0 rfl dX1_add_37 rfl rfl ?_
      refine vr_get (v := .ref (a 16)) hF 4 0 (vr_in inX1) (vr_m flX1_9) rfl (by decide) rfl rfl rfl dX1_add_38 rfl ?_
      refine vr_iload_n hF 3 rfl dX1_add_41 rfl rfl ?_
      refine vr_aload_n hF 0 rfl dX1_add_42 rfl rfl ?_
      refine vr_get (v := .int (nI (tb_n b + 1))) hF 4 1 (vr_in inX1) (vr_m flX1_15) rfl (by decide) rfl rfl rfl dX1_add_43 rfl ?_
      refine vr_iast (ws' := (vx_w g a r t w (upd o k (nI (tb_n b + 1)), tb_n b + 1))) (i := k) (x := (nI (tb_n b + 1))) (n := 201) (f := o) hF 16 0 rfl rfl (by omega) (by decide) rfl dX1_add_46 rfl ?_
      refine vr_iinc (lv' := [(3, .int (nI (k + 1))), (0, .ref (a 4)), (1, .int (nI f)), (2, .int (nI to))]) hF (nI (k + 1)) 3 rfl dX1_add_47 (nI_1 k) (by decide) rfl rfl ?_
      refine vr_goto (tgt := 32) hF dX1_add_50 (by decide) ?_
      refine vr_sub [1, 2, 3, 0] rfl ?_
      exact ih (k + 1) (upd o k (nI (tb_n b + 1))) (by omega) (by omega) (by rw [hans, xb_fill]; simp [c_34]) hans2
set_option maxHeartbeats 4000000 in
set_option maxRecDepth 100000 in
theorem xc_Batches_add (l : Launch) (g : vr_G) (a : Nat → Nat) (r : vx_R) (t : vx_A) (w : Nat → Int64) (b : vx_B) (f : Nat) (to : Nat) (h : vx_ok r t b) (hf : f ≤ to) (ht : to ≤ 200) : vr_Ci l yX1_add wsX1_add rm_xw_Batches_add g.1 (vr_tys g) [.ref (a 4), .int (nI f), .int (nI to)] (vx_w g a r t w b) (vx_w g a r t w (if xb_can b f to = true then xb_add b f to else b)) (nI (if xb_can b f to = true then tb_n b + 1 else 0)) := by
  obtain ⟨hrn, htn, hto, hbn⟩ := id h
  refine vr_Ci_mk (cc := cX1_add) (nL := 4) (ty := .int) rfl (by decide) rfl (Nat.le_of_ble_eq_true rfl) ?_
  intro p e s m args below meth c A Q hF hret
  refine vr_to (ws' := (vx_w g a r t w b)) (lv' := [(0, .ref (a 4)), (1, .int (nI f)), (2, .int (nI to))]) (st' := []) rfl rfl rfl ?_
  refine vr_aload_n hF 0 rfl dX1_add_0 rfl rfl ?_
  refine vr_get (v := .int (nI (tb_n b))) hF 4 1 (vr_in inX1) (vr_m flX1_15) rfl (by decide) rfl rfl rfl dX1_add_1 rfl ?_
  refine vr_bipush (v := nI 30) hF dX1_add_4 (by decide +kernel) rfl ?_
  refine vr_icmp_geN (tgt := 18) (x := (tb_n b)) (y := 30) hF (by omega) (by omega) dX1_add_6 (by decide) rfl (fun c_6 => ?_) (fun c_6 => ?_)
  · skip
    have hc : ¬ xb_can b f to = true := by simp [xb_can, c_6]
    refine vr_iconst (v := nI 0) hF dX1_add_18 (by decide +kernel) rfl ?_
    exact vr_retiw hret dX1_add_19 (by rw [if_neg hc]) (by rw [if_neg hc])
  · skip
    refine vr_aload_n hF 0 rfl dX1_add_9 rfl rfl ?_
    refine vr_iload_n hF 1 rfl dX1_add_10 rfl rfl ?_
    refine vr_iload_n hF 2 rfl dX1_add_11 rfl rfl ?_
    refine vr_callV_Ci (rest := []) (n0 := 2) hF (xc_Batches_isAnyTaken l g a r t w b f to h (by omega) (by omega)) (vr_gV vr_hbc mlX1_19 imX1_isAnyTaken seX1_isAnyTaken iniX1 cdX1_isAnyTaken) rfl (by decide +kernel) rfl rfl rfl ⟨Nat.le_of_ble_eq_true rfl, Nat.le_of_ble_eq_true rfl⟩ ⟨Nat.zero_le _, Nat.zero_le _⟩ 4 rfl rfl rfl (Nat.le_of_ble_eq_true rfl) dX1_add_12 rfl ?_
    refine vr_if_eqB (tgt := 20) hF dX1_add_15 (by decide) rfl (fun c_15 => ?_) (fun c_15 => ?_)
    · skip
      have hc : xb_can b f to = true := by simp [xb_can, c_6, c_15]
      rw [if_pos hc, if_pos hc] at hret
      refine vr_aload_n hF 0 rfl dX1_add_20 rfl rfl ?_
      refine vr_dup hF dX1_add_21 rfl rfl ?_
      refine vr_get (v := .int (nI (tb_n b))) hF 4 1 (vr_in inX1) (vr_m flX1_15) rfl (by decide) rfl rfl rfl dX1_add_22 rfl ?_
      refine vr_iconst (v := nI 1) hF dX1_add_25 (by decide +kernel) rfl ?_
      refine vr_iadd (v := nI ((tb_n b) + 1)) hF dX1_add_26 (nI_add (tb_n b) 1) rfl ?_
      refine vr_put (ws' := (vx_w g a r t w (tb_o b, (tb_n b) + 1))) hF 4 1 (vr_in inX1) (vr_m flX1_15) rfl (by decide) rfl rfl tyX1 tyX1_ok nmX1 rfl rfl rfl (Nat.le_of_ble_eq_true rfl) rfl dX1_add_27 rfl ?_
      refine vr_iload_n hF 1 rfl dX1_add_30 rfl rfl ?_
      refine vr_istore_n (lv' := [(3, .int (nI f)), (0, .ref (a 4)), (1, .int (nI f)), (2, .int (nI to))]) hF dX1_add_31 rfl (by decide) rfl rfl ?_
      refine vr_sub [1, 2, 3, 0] rfl ?_
      exact xw_Batches_add_lp32 r t w b f to h hf ht  _ _ hF hret (to + 2) f (tb_o b) (by omega) (by omega) rfl rfl
    · skip
      have hc : ¬ xb_can b f to = true := by simp [xb_can, c_6, c_15]
      refine vr_iconst (v := nI 0) hF dX1_add_18 (by decide +kernel) rfl ?_
      exact vr_retiw hret dX1_add_19 (by rw [if_neg hc]) (by rw [if_neg hc])
