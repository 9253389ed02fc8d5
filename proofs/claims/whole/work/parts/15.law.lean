-- ===== end of PART A; then your names; then what follows =====
/-! THE CLAIM OUT OF ONE WALK OF THE LAW'S BODY. Your part is whole_start (and what it stands on); all else here is the same for every law, but numbers. -/
def R_law : String := "VersionRowsLaw"
def lw_P (b : Addr) (xs : List Int32) (args : Array Value) (s : State) : Prop := args = #[.ref b] ∧ s.IntsAt b xs ∧ xs.length ≤ 4608 ∧ (Jvm.Cond.and given_1 narrow_1).before args s = true
def lw_Q (_ : Array Value) (s : State) (o : Outcome) (t : State) : Prop := o = .returned (some (.int 1)) ∧ Framed s o t [] 600000 7302250
def lw_Z (below : List Frame) (a : Array Value) (s : State) : State → Prop := fun t => ∃ o, t.status = .running ∧ Ended t below o ∧ lw_Q a s o t
/-- the law's own end, with 1 on the stack, nothing written that was there before, its room as the claim has it -/
theorem lw_ret {p : Program} {l : Launch} {e : Env} {s : State} {m : MethodId} {below : List Frame} {meth : Method} {c : Code} {b : Nat} (hx : p.tables.exec = Jvm.exec) (hb : c.code = code) (hr : meth.sig.returnType = ret) (hlocks : meth.locks = false) {pc : Nat} {H : Heap} {ls : Array Slot} (hdg : decode code pc = .ok (.ireturn, 1)) : W p l e room_1 s m #[Value.ref b] below meth c H [] 600000 7302250 (lw_Z below #[Value.ref b] s) (F0 m pc ls [.int 1]) := by
  intro T hT X
  obtain ⟨fs, hret, hrun, hended, hW, hframe⟩ := X.leave (v := some (.int 1)) (hlocks := hlocks) (fun h => by rw [hr] at h; cases h)
  have hmeth' : T.vm.method? m = some meth := X.method'
  refine ⟨T.setFrames fs, ?_, .returned (some (.int 1)), hrun, hended, rfl, ⟨_, rfl⟩, hW, hframe⟩
  jvm_step X.here [X.here.top, hx, hb, hdg, hmeth', hr, ret, narrow_b1]
  (try refine ⟨rfl, ?_⟩); (try refine ⟨rfl, ?_⟩)
  first | (intro acts; rw [hret _ acts rfl rfl rfl]) | rw [hret _ _ rfl rfl rfl]
  exact Steps.refl _
/-- what holds at the law's entry: the machine, the code, the tables' words (any of lw_tbl by 'hts w (by decide +kernel)'), the script of L ints xs at the cell b, what the Statement gives of the start (any of its parts by flat_of_before) -/
def lw_At (p : Program) (s : State) (m : MethodId) (meth : Method) (c : Code) (b L : Nat) (xs : Nat → Int32) : Prop :=
  p.tables.exec = Jvm.exec ∧ c.code = code ∧ meth.sig.returnType = ret ∧ c.maxLocals = 4 ∧ s.vm.findClass R_law = some m.cls ∧ (∀ w ∈ lw_tbl, w.before #[Value.ref b] s = true) ∧ va_X b L xs s s.heap ∧ b < s.heap.size ∧ meth.locks = false ∧ (Jvm.Cond.and given_1 narrow_1).before #[Value.ref b] s = true

section SCR
variable {p : Program} {l : Launch} {e : Env} {R : Room} {s : State} {m : MethodId} {args : Array Value} {below : List Frame} {meth : Method} {c : Code} {cells slots : Nat} {Q : State → Prop}
variable {cc : ByteArray} {nL : Nat} {Ts : List Cond} {own : String} {D : va_G} {tys : List (ClassId × FieldType)} {A : Nat → Prop}
variable {ws : va_W} {pc pc' : Nat} {lv : List (Nat × Value)} {rest : List Value}
theorem vr_sld (hF : vr_F p s m c cc nL args Ts own D tys A) {b L : Nat} {xs : Nat → Int32} (hX : va_X b L xs s s.heap) (hbl : b < s.heap.size) (hbA : ¬ A b) {i : Nat} (hi : i < L) (hN : L ≤ 65536) (hdg : decode cc pc = .ok (.iaload, 1)) (hp : pc + 1 = pc') (k : vr_W p l e R s m args below meth c D A nL cells slots Q ws pc' lv (.int (xs i) :: rest)) : vr_W p l e R s m args below meth c D A nL cells slots Q ws pc lv (.int (nI i) :: .ref b :: rest) := by
  subst hp
  exact fun H locs ls hP hD hS hl => va_sld hF.1.1 hF.1.2.1 hX hbl hbA hS (vp_in_nI hi (Nat.lt_of_le_of_lt hN (by decide))) hdg (by rw [nI_clamp (Nat.lt_trans hi (Nat.lt_of_le_of_lt hN (by decide)))]; exact k H locs ls hP hD hS hl)
theorem vr_slen (hF : vr_F p s m c cc nL args Ts own D tys A) {b L : Nat} {xs : Nat → Int32} (hX : va_X b L xs s s.heap) (hbl : b < s.heap.size) (hbA : ¬ A b) (hdg : decode cc pc = .ok (.arraylength, 1)) (hp : pc + 1 = pc') (k : vr_W p l e R s m args below meth c D A nL cells slots Q ws pc' lv (.int (nI L) :: rest)) : vr_W p l e R s m args below meth c D A nL cells slots Q ws pc lv (.ref b :: rest) := by
  subst hp
  exact fun H locs ls hP hD hS hl => va_slen hF.1.1 hF.1.2.1 hX hbl hbA hS hdg (k H locs ls hP hD hS hl)
end SCR
set_option maxHeartbeats 4000000 in
set_option maxRecDepth 100000 in
theorem law_c0 {p : Program} {l : Launch} {e : Env} {s : State} {m : MethodId} {below : List Frame} {meth : Method} {c : Code} {b L : Nat} {xs : Nat → Int32} {g : vr_G} {a a' : Nat → Nat} (hF : vr_F p s m c code 4 #[Value.ref b] vr_T RL g.1 (vr_tys g) (fun q : Nat => s.heap.size ≤ q)) (hX : va_X b L xs s s.heap) (hbl : b < s.heap.size) (hbA : ¬ (fun q : Nat => s.heap.size ≤ q) b) (hL : L ≤ 4608) (i : Nat) (hi : i + 9 ≤ L) (r : vx_R) (t : vx_A) (w : Nat → Int64) (bb : vx_B) (r' : vx_R) (t' : vm_A) (w' : Nat → Bool) (bb' : vx_B) (hs : sr r t w bb r' t' w' bb')
    (hk : ∀ (r : vx_R) (t : vx_A) (w : Nat → Int64) (bb : vx_B) (r' : vx_R) (t' : vm_A) (w' : Nat → Bool) (bb' : vx_B), sr r t w bb r' t' w' bb' → vr_W p l e room_1 s m #[Value.ref b] below meth c g.1 (fun q : Nat => s.heap.size ≤ q) 4 29 44380 (lw_Z below #[Value.ref b] s) (vx_w g a r t w bb ++ vm_w g a' r' t' w' bb') 681 [(0, .ref b), (1, .ref (a 0)), (2, .ref (a' 0)), (3, .int (nI i))] []) : vr_W p l e room_1 s m #[Value.ref b] below meth c g.1 (fun q : Nat => s.heap.size ≤ q) 4 29 44380 (lw_Z below #[Value.ref b] s) (vx_w g a r t w bb ++ vm_w g a' r' t' w' bb') 92 [(0, .ref b), (1, .ref (a 0)), (2, .ref (a' 0)), (3, .int (nI i))] [] := by
  refine vr_aload_n hF 1 rfl dL_law_92 rfl rfl ?_
  refine vr_aload_n hF 0 rfl dL_law_93 rfl rfl ?_
  refine vr_iload_n hF 3 rfl dL_law_94 rfl rfl ?_
  refine vr_iconst (v := nI 1) hF dL_law_95 (by decide +kernel) rfl ?_
  refine vr_iadd (v := nI (i + 1)) hF dL_law_96 (nI_add i 1) rfl ?_
  refine vr_sld (i := i + 1) hF hX hbl hbA (by omega) (by omega) dL_law_97 rfl ?_
  refine vr_partV_Ci (pre := vx_w g a r t w bb) (wr := vm_w g a' r' t' w' bb') (rest := []) (n0 := 1) hF (xc_V_record l g a r t w bb (xs (i + 1)) (sr_ok hs)) (vr_gV vr_hb0 mlL_13 imX4_record seX4_record iniX4 cdX4_record) rfl (by decide +kernel) rfl rfl rfl ⟨Nat.le_of_ble_eq_true rfl, Nat.le_of_ble_eq_true rfl⟩ ⟨Nat.le_of_ble_eq_true rfl, Nat.le_of_ble_eq_true rfl⟩ 0 rfl rfl rfl (Nat.le_of_ble_eq_true rfl) dL_law_98 rfl [0, 1, 2, 3, 4, 5, 6, 7, 8, 9, 10, 11, 12, 13, 14, 15, 16] [17, 18, 19, 20, 21, 22, 23, 24, 25, 26, 27, 28] rfl rfl rfl rfl (by decide) ?_
  refine vr_aload_n hF 2 rfl dL_law_101 rfl rfl ?_
  refine vr_aload_n hF 0 rfl dL_law_102 rfl rfl ?_
  refine vr_iload_n hF 3 rfl dL_law_103 rfl rfl ?_
  refine vr_iconst (v := nI 1) hF dL_law_104 (by decide +kernel) rfl ?_
  refine vr_iadd (v := nI (i + 1)) hF dL_law_105 (nI_add i 1) rfl ?_
  refine vr_sld (i := i + 1) hF hX hbl hbA (by omega) (by omega) dL_law_106 rfl ?_
  refine vr_partV_Ci (pre := vm_w g a' r' t' w' bb') (wr := vx_w g a (if xv_rec r (xs (i + 1)) = true then xr_add r (xs (i + 1)) else r) t w bb) (rest := [.int (nI (if xv_rec r (xs (i + 1)) = true then rr_n r + 1 else 0))]) (n0 := 1) hF (xc_VModel_record l g a' r' t' w' bb' (xs (i + 1)) (sr_mok hs)) (vr_gV vr_hb0 mlL_17 imX5_record seX5_record iniX5 cdX5_record) rfl (by decide +kernel) rfl rfl rfl ⟨Nat.le_of_ble_eq_true rfl, Nat.le_of_ble_eq_true rfl⟩ ⟨Nat.le_of_ble_eq_true rfl, Nat.le_of_ble_eq_true rfl⟩ 0 rfl rfl rfl (Nat.le_of_ble_eq_true rfl) dL_law_107 rfl [0, 1, 2, 3, 4, 5, 6, 7, 8, 9, 10, 11] [12, 13, 14, 15, 16, 17, 18, 19, 20, 21, 22, 23, 24, 25, 26, 27, 28] rfl rfl rfl rfl (by decide) ?_
  refine vr_icmp_eq (tgt := 681) hF dL_law_110 (by decide) rfl (fun c_0 => ?_) (fun c_0 => ?_)
  · exact hk _ _ _ _ _ _ _ _ ((sr_rec hs (xs (i + 1))).2)
  · exact absurd (by rw [(sr_rec hs (xs (i + 1))).1, hs.1]) c_0
set_option maxHeartbeats 4000000 in
set_option maxRecDepth 100000 in
theorem law_c1 {p : Program} {l : Launch} {e : Env} {s : State} {m : MethodId} {below : List Frame} {meth : Method} {c : Code} {b L : Nat} {xs : Nat → Int32} {g : vr_G} {a a' : Nat → Nat} (hF : vr_F p s m c code 4 #[Value.ref b] vr_T RL g.1 (vr_tys g) (fun q : Nat => s.heap.size ≤ q)) (hX : va_X b L xs s s.heap) (hbl : b < s.heap.size) (hbA : ¬ (fun q : Nat => s.heap.size ≤ q) b) (hL : L ≤ 4608) (i : Nat) (hi : i + 9 ≤ L) (r : vx_R) (t : vx_A) (w : Nat → Int64) (bb : vx_B) (r' : vx_R) (t' : vm_A) (w' : Nat → Bool) (bb' : vx_B) (hs : sr r t w bb r' t' w' bb')
    (hk : ∀ (r : vx_R) (t : vx_A) (w : Nat → Int64) (bb : vx_B) (r' : vx_R) (t' : vm_A) (w' : Nat → Bool) (bb' : vx_B), sr r t w bb r' t' w' bb' → vr_W p l e room_1 s m #[Value.ref b] below meth c g.1 (fun q : Nat => s.heap.size ≤ q) 4 29 44380 (lw_Z below #[Value.ref b] s) (vx_w g a r t w bb ++ vm_w g a' r' t' w' bb') 681 [(0, .ref b), (1, .ref (a 0)), (2, .ref (a' 0)), (3, .int (nI i))] []) : vr_W p l e room_1 s m #[Value.ref b] below meth c g.1 (fun q : Nat => s.heap.size ≤ q) 4 29 44380 (lw_Z below #[Value.ref b] s) (vx_w g a r t w bb ++ vm_w g a' r' t' w' bb') 115 [(0, .ref b), (1, .ref (a 0)), (2, .ref (a' 0)), (3, .int (nI i))] [] := by
  refine vr_aload_n hF 1 rfl dL_law_115 rfl rfl ?_
  refine vr_aload_n hF 0 rfl dL_law_116 rfl rfl ?_
  refine vr_iload_n hF 3 rfl dL_law_117 rfl rfl ?_
  refine vr_iconst (v := nI 1) hF dL_law_118 (by decide +kernel) rfl ?_
  refine vr_iadd (v := nI (i + 1)) hF dL_law_119 (nI_add i 1) rfl ?_
  refine vr_sld (i := i + 1) hF hX hbl hbA (by omega) (by omega) dL_law_120 rfl ?_
  refine vr_aload_n hF 0 rfl dL_law_121 rfl rfl ?_
  refine vr_iload_n hF 3 rfl dL_law_122 rfl rfl ?_
  refine vr_iconst (v := nI 2) hF dL_law_123 (by decide +kernel) rfl ?_
  refine vr_iadd (v := nI (i + 2)) hF dL_law_124 (nI_add i 2) rfl ?_
  refine vr_sld (i := i + 2) hF hX hbl hbA (by omega) (by omega) dL_law_125 rfl ?_
  refine vr_aload_n hF 0 rfl dL_law_126 rfl rfl ?_
  refine vr_iload_n hF 3 rfl dL_law_127 rfl rfl ?_
  refine vr_iconst (v := nI 3) hF dL_law_128 (by decide +kernel) rfl ?_
  refine vr_iadd (v := nI (i + 3)) hF dL_law_129 (nI_add i 3) rfl ?_
  refine vr_sld (i := i + 3) hF hX hbl hbA (by omega) (by omega) dL_law_130 rfl ?_
  refine vr_i2l (v := (xs (i + 3)).toInt64) hF dL_law_131 rfl rfl ?_
  refine vr_bipush (v := nI 32) hF dL_law_132 (by decide +kernel) rfl ?_
  refine vr_lshl (v := ((xs (i + 3)).toInt64) <<< ((nI 32).toInt64 &&& 63)) hF dL_law_134 rfl rfl ?_
  refine vr_aload_n hF 0 rfl dL_law_135 rfl rfl ?_
  refine vr_iload_n hF 3 rfl dL_law_136 rfl rfl ?_
  refine vr_iconst (v := nI 4) hF dL_law_137 (by decide +kernel) rfl ?_
  refine vr_iadd (v := nI (i + 4)) hF dL_law_138 (nI_add i 4) rfl ?_
  refine vr_sld (i := i + 4) hF hX hbl hbA (by omega) (by omega) dL_law_139 rfl ?_
  refine vr_i2l (v := (xs (i + 4)).toInt64) hF dL_law_140 rfl rfl ?_
  refine vr_ldc2 (v := 4294967295) hF kL_18 dL_law_141 rfl ?_
  refine vr_land (v := ((xs (i + 4)).toInt64) &&& 4294967295) hF dL_law_144 rfl rfl ?_
  refine vr_lor (v := (((xs (i + 3)).toInt64) <<< ((nI 32).toInt64 &&& 63)) ||| (((xs (i + 4)).toInt64) &&& 4294967295)) hF dL_law_145 rfl rfl ?_
  refine vr_aload_n hF 0 rfl dL_law_146 rfl rfl ?_
  refine vr_iload_n hF 3 rfl dL_law_147 rfl rfl ?_
  refine vr_iconst (v := nI 5) hF dL_law_148 (by decide +kernel) rfl ?_
  refine vr_iadd (v := nI (i + 5)) hF dL_law_149 (nI_add i 5) rfl ?_
  refine vr_sld (i := i + 5) hF hX hbl hbA (by omega) (by omega) dL_law_150 rfl ?_
  refine vr_i2l (v := (xs (i + 5)).toInt64) hF dL_law_151 rfl rfl ?_
  refine vr_bipush (v := nI 32) hF dL_law_152 (by decide +kernel) rfl ?_
  refine vr_lshl (v := ((xs (i + 5)).toInt64) <<< ((nI 32).toInt64 &&& 63)) hF dL_law_154 rfl rfl ?_
  refine vr_aload_n hF 0 rfl dL_law_155 rfl rfl ?_
  refine vr_iload_n hF 3 rfl dL_law_156 rfl rfl ?_
  refine vr_bipush (v := nI 6) hF dL_law_157 (by decide +kernel) rfl ?_
  refine vr_iadd (v := nI (i + 6)) hF dL_law_159 (nI_add i 6) rfl ?_
  refine vr_sld (i := i + 6) hF hX hbl hbA (by omega) (by omega) dL_law_160 rfl ?_
  refine vr_i2l (v := (xs (i + 6)).toInt64) hF dL_law_161 rfl rfl ?_
  refine vr_ldc2 (v := 4294967295) hF kL_18 dL_law_162 rfl ?_
  refine vr_land (v := ((xs (i + 6)).toInt64) &&& 4294967295) hF dL_law_165 rfl rfl ?_
  refine vr_lor (v := (((xs (i + 5)).toInt64) <<< ((nI 32).toInt64 &&& 63)) ||| (((xs (i + 6)).toInt64) &&& 4294967295)) hF dL_law_166 rfl rfl ?_
  refine vr_aload_n hF 0 rfl dL_law_167 rfl rfl ?_
  refine vr_iload_n hF 3 rfl dL_law_168 rfl rfl ?_
  refine vr_bipush (v := nI 7) hF dL_law_169 (by decide +kernel) rfl ?_
  refine vr_iadd (v := nI (i + 7)) hF dL_law_171 (nI_add i 7) rfl ?_
  refine vr_sld (i := i + 7) hF hX hbl hbA (by omega) (by omega) dL_law_172 rfl ?_
  refine vr_i2l (v := (xs (i + 7)).toInt64) hF dL_law_173 rfl rfl ?_
  refine vr_bipush (v := nI 32) hF dL_law_174 (by decide +kernel) rfl ?_
  refine vr_lshl (v := ((xs (i + 7)).toInt64) <<< ((nI 32).toInt64 &&& 63)) hF dL_law_176 rfl rfl ?_
  refine vr_aload_n hF 0 rfl dL_law_177 rfl rfl ?_
  refine vr_iload_n hF 3 rfl dL_law_178 rfl rfl ?_
  refine vr_bipush (v := nI 8) hF dL_law_179 (by decide +kernel) rfl ?_
  refine vr_iadd (v := nI (i + 8)) hF dL_law_181 (nI_add i 8) rfl ?_
  refine vr_sld (i := i + 8) hF hX hbl hbA (by omega) (by omega) dL_law_182 rfl ?_
  refine vr_i2l (v := (xs (i + 8)).toInt64) hF dL_law_183 rfl rfl ?_
  refine vr_ldc2 (v := 4294967295) hF kL_18 dL_law_184 rfl ?_
  refine vr_land (v := ((xs (i + 8)).toInt64) &&& 4294967295) hF dL_law_187 rfl rfl ?_
  refine vr_lor (v := (((xs (i + 7)).toInt64) <<< ((nI 32).toInt64 &&& 63)) ||| (((xs (i + 8)).toInt64) &&& 4294967295)) hF dL_law_188 rfl rfl ?_
  refine vr_partV_Ci (pre := vx_w g a r t w bb) (wr := vm_w g a' r' t' w' bb') (rest := []) (n0 := 5) hF (xc_V_act l g a r t w bb (xs (i + 1)) (xs (i + 2)) ((((xs (i + 3)).toInt64) <<< ((nI 32).toInt64 &&& 63)) ||| (((xs (i + 4)).toInt64) &&& 4294967295)) ((((xs (i + 5)).toInt64) <<< ((nI 32).toInt64 &&& 63)) ||| (((xs (i + 6)).toInt64) &&& 4294967295)) ((((xs (i + 7)).toInt64) <<< ((nI 32).toInt64 &&& 63)) ||| (((xs (i + 8)).toInt64) &&& 4294967295)) (sr_ok hs)) (vr_gV vr_hb0 mlL_20 imX4_act seX4_act iniX4 cdX4_act) rfl (by decide +kernel) rfl rfl rfl ⟨Nat.le_of_ble_eq_true rfl, Nat.le_of_ble_eq_true rfl⟩ ⟨Nat.le_of_ble_eq_true rfl, Nat.le_of_ble_eq_true rfl⟩ 0 rfl rfl rfl (Nat.le_of_ble_eq_true rfl) dL_law_189 rfl [0, 1, 2, 3, 4, 5, 6, 7, 8, 9, 10, 11, 12, 13, 14, 15, 16] [17, 18, 19, 20, 21, 22, 23, 24, 25, 26, 27, 28] rfl rfl rfl rfl (by decide) ?_
  refine vr_aload_n hF 2 rfl dL_law_192 rfl rfl ?_
  refine vr_aload_n hF 0 rfl dL_law_193 rfl rfl ?_
  refine vr_iload_n hF 3 rfl dL_law_194 rfl rfl ?_
  refine vr_iconst (v := nI 1) hF dL_law_195 (by decide +kernel) rfl ?_
  refine vr_iadd (v := nI (i + 1)) hF dL_law_196 (nI_add i 1) rfl ?_
  refine vr_sld (i := i + 1) hF hX hbl hbA (by omega) (by omega) dL_law_197 rfl ?_
  refine vr_aload_n hF 0 rfl dL_law_198 rfl rfl ?_
  refine vr_iload_n hF 3 rfl dL_law_199 rfl rfl ?_
  refine vr_iconst (v := nI 2) hF dL_law_200 (by decide +kernel) rfl ?_
  refine vr_iadd (v := nI (i + 2)) hF dL_law_201 (nI_add i 2) rfl ?_
  refine vr_sld (i := i + 2) hF hX hbl hbA (by omega) (by omega) dL_law_202 rfl ?_
  refine vr_aload_n hF 0 rfl dL_law_203 rfl rfl ?_
  refine vr_iload_n hF 3 rfl dL_law_204 rfl rfl ?_
  refine vr_iconst (v := nI 3) hF dL_law_205 (by decide +kernel) rfl ?_
  refine vr_iadd (v := nI (i + 3)) hF dL_law_206 (nI_add i 3) rfl ?_
  refine vr_sld (i := i + 3) hF hX hbl hbA (by omega) (by omega) dL_law_207 rfl ?_
  refine vr_i2l (v := (xs (i + 3)).toInt64) hF dL_law_208 rfl rfl ?_
  refine vr_bipush (v := nI 32) hF dL_law_209 (by decide +kernel) rfl ?_
  refine vr_lshl (v := ((xs (i + 3)).toInt64) <<< ((nI 32).toInt64 &&& 63)) hF dL_law_211 rfl rfl ?_
  refine vr_aload_n hF 0 rfl dL_law_212 rfl rfl ?_
  refine vr_iload_n hF 3 rfl dL_law_213 rfl rfl ?_
  refine vr_iconst (v := nI 4) hF dL_law_214 (by decide +kernel) rfl ?_
  refine vr_iadd (v := nI (i + 4)) hF dL_law_215 (nI_add i 4) rfl ?_
  refine vr_sld (i := i + 4) hF hX hbl hbA (by omega) (by omega) dL_law_216 rfl ?_
  refine vr_i2l (v := (xs (i + 4)).toInt64) hF dL_law_217 rfl rfl ?_
  refine vr_ldc2 (v := 4294967295) hF kL_18 dL_law_218 rfl ?_
  refine vr_land (v := ((xs (i + 4)).toInt64) &&& 4294967295) hF dL_law_221 rfl rfl ?_
  refine vr_lor (v := (((xs (i + 3)).toInt64) <<< ((nI 32).toInt64 &&& 63)) ||| (((xs (i + 4)).toInt64) &&& 4294967295)) hF dL_law_222 rfl rfl ?_
  refine vr_aload_n hF 0 rfl dL_law_223 rfl rfl ?_
  refine vr_iload_n hF 3 rfl dL_law_224 rfl rfl ?_
  refine vr_iconst (v := nI 5) hF dL_law_225 (by decide +kernel) rfl ?_
  refine vr_iadd (v := nI (i + 5)) hF dL_law_226 (nI_add i 5) rfl ?_
  refine vr_sld (i := i + 5) hF hX hbl hbA (by omega) (by omega) dL_law_227 rfl ?_
  refine vr_i2l (v := (xs (i + 5)).toInt64) hF dL_law_228 rfl rfl ?_
  refine vr_bipush (v := nI 32) hF dL_law_229 (by decide +kernel) rfl ?_
  refine vr_lshl (v := ((xs (i + 5)).toInt64) <<< ((nI 32).toInt64 &&& 63)) hF dL_law_231 rfl rfl ?_
  refine vr_aload_n hF 0 rfl dL_law_232 rfl rfl ?_
  refine vr_iload_n hF 3 rfl dL_law_233 rfl rfl ?_
  refine vr_bipush (v := nI 6) hF dL_law_234 (by decide +kernel) rfl ?_
  refine vr_iadd (v := nI (i + 6)) hF dL_law_236 (nI_add i 6) rfl ?_
  refine vr_sld (i := i + 6) hF hX hbl hbA (by omega) (by omega) dL_law_237 rfl ?_
  refine vr_i2l (v := (xs (i + 6)).toInt64) hF dL_law_238 rfl rfl ?_
  refine vr_ldc2 (v := 4294967295) hF kL_18 dL_law_239 rfl ?_
  refine vr_land (v := ((xs (i + 6)).toInt64) &&& 4294967295) hF dL_law_242 rfl rfl ?_
  refine vr_lor (v := (((xs (i + 5)).toInt64) <<< ((nI 32).toInt64 &&& 63)) ||| (((xs (i + 6)).toInt64) &&& 4294967295)) hF dL_law_243 rfl rfl ?_
  refine vr_aload_n hF 0 rfl dL_law_244 rfl rfl ?_
  refine vr_iload_n hF 3 rfl dL_law_245 rfl rfl ?_
  refine vr_bipush (v := nI 7) hF dL_law_246 (by decide +kernel) rfl ?_
  refine vr_iadd (v := nI (i + 7)) hF dL_law_248 (nI_add i 7) rfl ?_
  refine vr_sld (i := i + 7) hF hX hbl hbA (by omega) (by omega) dL_law_249 rfl ?_
  refine vr_i2l (v := (xs (i + 7)).toInt64) hF dL_law_250 rfl rfl ?_
  refine vr_bipush (v := nI 32) hF dL_law_251 (by decide +kernel) rfl ?_
  refine vr_lshl (v := ((xs (i + 7)).toInt64) <<< ((nI 32).toInt64 &&& 63)) hF dL_law_253 rfl rfl ?_
  refine vr_aload_n hF 0 rfl dL_law_254 rfl rfl ?_
  refine vr_iload_n hF 3 rfl dL_law_255 rfl rfl ?_
  refine vr_bipush (v := nI 8) hF dL_law_256 (by decide +kernel) rfl ?_
  refine vr_iadd (v := nI (i + 8)) hF dL_law_258 (nI_add i 8) rfl ?_
  refine vr_sld (i := i + 8) hF hX hbl hbA (by omega) (by omega) dL_law_259 rfl ?_
  refine vr_i2l (v := (xs (i + 8)).toInt64) hF dL_law_260 rfl rfl ?_
  refine vr_ldc2 (v := 4294967295) hF kL_18 dL_law_261 rfl ?_
  refine vr_land (v := ((xs (i + 8)).toInt64) &&& 4294967295) hF dL_law_264 rfl rfl ?_
  refine vr_lor (v := (((xs (i + 7)).toInt64) <<< ((nI 32).toInt64 &&& 63)) ||| (((xs (i + 8)).toInt64) &&& 4294967295)) hF dL_law_265 rfl rfl ?_
  refine vr_partV_Ci (pre := vm_w g a' r' t' w' bb') (wr := vx_w g a r (xv_actT r t (xs (i + 1)) (xs (i + 2)) ((((xs (i + 3)).toInt64) <<< ((nI 32).toInt64 &&& 63)) ||| (((xs (i + 4)).toInt64) &&& 4294967295)) ((((xs (i + 5)).toInt64) <<< ((nI 32).toInt64 &&& 63)) ||| (((xs (i + 6)).toInt64) &&& 4294967295)) ((((xs (i + 7)).toInt64) <<< ((nI 32).toInt64 &&& 63)) ||| (((xs (i + 8)).toInt64) &&& 4294967295))) w bb) (rest := [.int (nI (xv_actN r t (xs (i + 1)) (xs (i + 2)) ((((xs (i + 3)).toInt64) <<< ((nI 32).toInt64 &&& 63)) ||| (((xs (i + 4)).toInt64) &&& 4294967295)) ((((xs (i + 5)).toInt64) <<< ((nI 32).toInt64 &&& 63)) ||| (((xs (i + 6)).toInt64) &&& 4294967295)) ((((xs (i + 7)).toInt64) <<< ((nI 32).toInt64 &&& 63)) ||| (((xs (i + 8)).toInt64) &&& 4294967295))))]) (n0 := 5) hF (xc_VModel_act l g a' r' t' w' bb' (xs (i + 1)) (xs (i + 2)) ((((xs (i + 3)).toInt64) <<< ((nI 32).toInt64 &&& 63)) ||| (((xs (i + 4)).toInt64) &&& 4294967295)) ((((xs (i + 5)).toInt64) <<< ((nI 32).toInt64 &&& 63)) ||| (((xs (i + 6)).toInt64) &&& 4294967295)) ((((xs (i + 7)).toInt64) <<< ((nI 32).toInt64 &&& 63)) ||| (((xs (i + 8)).toInt64) &&& 4294967295)) (sr_mok hs)) (vr_gV vr_hb0 mlL_24 imX5_act seX5_act iniX5 cdX5_act) rfl (by decide +kernel) rfl rfl rfl ⟨Nat.le_of_ble_eq_true rfl, Nat.le_of_ble_eq_true rfl⟩ ⟨Nat.le_of_ble_eq_true rfl, Nat.le_of_ble_eq_true rfl⟩ 0 rfl rfl rfl (Nat.le_of_ble_eq_true rfl) dL_law_266 rfl [0, 1, 2, 3, 4, 5, 6, 7, 8, 9, 10, 11] [12, 13, 14, 15, 16, 17, 18, 19, 20, 21, 22, 23, 24, 25, 26, 27, 28] rfl rfl rfl rfl (by decide) ?_
  refine vr_icmp_eq (tgt := 681) hF dL_law_269 (by decide) rfl (fun c_0 => ?_) (fun c_0 => ?_)
  · exact hk _ _ _ _ _ _ _ _ ((sr_act hs (xs (i + 1)) (xs (i + 2)) ((((xs (i + 3)).toInt64) <<< ((nI 32).toInt64 &&& 63)) ||| (((xs (i + 4)).toInt64) &&& 4294967295)) ((((xs (i + 5)).toInt64) <<< ((nI 32).toInt64 &&& 63)) ||| (((xs (i + 6)).toInt64) &&& 4294967295)) ((((xs (i + 7)).toInt64) <<< ((nI 32).toInt64 &&& 63)) ||| (((xs (i + 8)).toInt64) &&& 4294967295))).2)
  · exact absurd (by rw [(sr_act hs (xs (i + 1)) (xs (i + 2)) ((((xs (i + 3)).toInt64) <<< ((nI 32).toInt64 &&& 63)) ||| (((xs (i + 4)).toInt64) &&& 4294967295)) ((((xs (i + 5)).toInt64) <<< ((nI 32).toInt64 &&& 63)) ||| (((xs (i + 6)).toInt64) &&& 4294967295)) ((((xs (i + 7)).toInt64) <<< ((nI 32).toInt64 &&& 63)) ||| (((xs (i + 8)).toInt64) &&& 4294967295))).1]) c_0
set_option maxHeartbeats 4000000 in
set_option maxRecDepth 100000 in
theorem law_c2 {p : Program} {l : Launch} {e : Env} {s : State} {m : MethodId} {below : List Frame} {meth : Method} {c : Code} {b L : Nat} {xs : Nat → Int32} {g : vr_G} {a a' : Nat → Nat} (hF : vr_F p s m c code 4 #[Value.ref b] vr_T RL g.1 (vr_tys g) (fun q : Nat => s.heap.size ≤ q)) (hX : va_X b L xs s s.heap) (hbl : b < s.heap.size) (hbA : ¬ (fun q : Nat => s.heap.size ≤ q) b) (hL : L ≤ 4608) (i : Nat) (hi : i + 9 ≤ L) (r : vx_R) (t : vx_A) (w : Nat → Int64) (bb : vx_B) (r' : vx_R) (t' : vm_A) (w' : Nat → Bool) (bb' : vx_B) (hs : sr r t w bb r' t' w' bb')
    (hk : ∀ (r : vx_R) (t : vx_A) (w : Nat → Int64) (bb : vx_B) (r' : vx_R) (t' : vm_A) (w' : Nat → Bool) (bb' : vx_B), sr r t w bb r' t' w' bb' → vr_W p l e room_1 s m #[Value.ref b] below meth c g.1 (fun q : Nat => s.heap.size ≤ q) 4 29 44380 (lw_Z below #[Value.ref b] s) (vx_w g a r t w bb ++ vm_w g a' r' t' w' bb') 681 [(0, .ref b), (1, .ref (a 0)), (2, .ref (a' 0)), (3, .int (nI i))] []) : vr_W p l e room_1 s m #[Value.ref b] below meth c g.1 (fun q : Nat => s.heap.size ≤ q) 4 29 44380 (lw_Z below #[Value.ref b] s) (vx_w g a r t w bb ++ vm_w g a' r' t' w' bb') 274 [(0, .ref b), (1, .ref (a 0)), (2, .ref (a' 0)), (3, .int (nI i))] [] := by
  refine vr_aload_n hF 1 rfl dL_law_274 rfl rfl ?_
  refine vr_aload_n hF 0 rfl dL_law_275 rfl rfl ?_
  refine vr_iload_n hF 3 rfl dL_law_276 rfl rfl ?_
  refine vr_iconst (v := nI 1) hF dL_law_277 (by decide +kernel) rfl ?_
  refine vr_iadd (v := nI (i + 1)) hF dL_law_278 (nI_add i 1) rfl ?_
  refine vr_sld (i := i + 1) hF hX hbl hbA (by omega) (by omega) dL_law_279 rfl ?_
  refine vr_aload_n hF 0 rfl dL_law_280 rfl rfl ?_
  refine vr_iload_n hF 3 rfl dL_law_281 rfl rfl ?_
  refine vr_iconst (v := nI 2) hF dL_law_282 (by decide +kernel) rfl ?_
  refine vr_iadd (v := nI (i + 2)) hF dL_law_283 (nI_add i 2) rfl ?_
  refine vr_sld (i := i + 2) hF hX hbl hbA (by omega) (by omega) dL_law_284 rfl ?_
  refine vr_aload_n hF 0 rfl dL_law_285 rfl rfl ?_
  refine vr_iload_n hF 3 rfl dL_law_286 rfl rfl ?_
  refine vr_iconst (v := nI 3) hF dL_law_287 (by decide +kernel) rfl ?_
  refine vr_iadd (v := nI (i + 3)) hF dL_law_288 (nI_add i 3) rfl ?_
  refine vr_sld (i := i + 3) hF hX hbl hbA (by omega) (by omega) dL_law_289 rfl ?_
  refine vr_i2l (v := (xs (i + 3)).toInt64) hF dL_law_290 rfl rfl ?_
  refine vr_bipush (v := nI 32) hF dL_law_291 (by decide +kernel) rfl ?_
  refine vr_lshl (v := ((xs (i + 3)).toInt64) <<< ((nI 32).toInt64 &&& 63)) hF dL_law_293 rfl rfl ?_
  refine vr_aload_n hF 0 rfl dL_law_294 rfl rfl ?_
  refine vr_iload_n hF 3 rfl dL_law_295 rfl rfl ?_
  refine vr_iconst (v := nI 4) hF dL_law_296 (by decide +kernel) rfl ?_
  refine vr_iadd (v := nI (i + 4)) hF dL_law_297 (nI_add i 4) rfl ?_
  refine vr_sld (i := i + 4) hF hX hbl hbA (by omega) (by omega) dL_law_298 rfl ?_
  refine vr_i2l (v := (xs (i + 4)).toInt64) hF dL_law_299 rfl rfl ?_
  refine vr_ldc2 (v := 4294967295) hF kL_18 dL_law_300 rfl ?_
  refine vr_land (v := ((xs (i + 4)).toInt64) &&& 4294967295) hF dL_law_303 rfl rfl ?_
  refine vr_lor (v := (((xs (i + 3)).toInt64) <<< ((nI 32).toInt64 &&& 63)) ||| (((xs (i + 4)).toInt64) &&& 4294967295)) hF dL_law_304 rfl rfl ?_
  refine vr_partV_Ci (pre := vx_w g a r t w bb) (wr := vm_w g a' r' t' w' bb') (rest := []) (n0 := 3) hF (xc_V_at l g a r t w bb (xs (i + 1)) (xs (i + 2)) ((((xs (i + 3)).toInt64) <<< ((nI 32).toInt64 &&& 63)) ||| (((xs (i + 4)).toInt64) &&& 4294967295)) (sr_ok hs)) (vr_gV vr_hb0 mlL_25 imX4_at seX4_at iniX4 cdX4_at) rfl (by decide +kernel) rfl rfl rfl ⟨Nat.le_of_ble_eq_true rfl, Nat.le_of_ble_eq_true rfl⟩ ⟨Nat.le_of_ble_eq_true rfl, Nat.le_of_ble_eq_true rfl⟩ 0 rfl rfl rfl (Nat.le_of_ble_eq_true rfl) dL_law_305 rfl [0, 1, 2, 3, 4, 5, 6, 7, 8, 9, 10, 11, 12, 13, 14, 15, 16] [17, 18, 19, 20, 21, 22, 23, 24, 25, 26, 27, 28] rfl rfl rfl rfl (by decide) ?_
  refine vr_aload_n hF 2 rfl dL_law_308 rfl rfl ?_
  refine vr_aload_n hF 0 rfl dL_law_309 rfl rfl ?_
  refine vr_iload_n hF 3 rfl dL_law_310 rfl rfl ?_
  refine vr_iconst (v := nI 1) hF dL_law_311 (by decide +kernel) rfl ?_
  refine vr_iadd (v := nI (i + 1)) hF dL_law_312 (nI_add i 1) rfl ?_
  refine vr_sld (i := i + 1) hF hX hbl hbA (by omega) (by omega) dL_law_313 rfl ?_
  refine vr_aload_n hF 0 rfl dL_law_314 rfl rfl ?_
  refine vr_iload_n hF 3 rfl dL_law_315 rfl rfl ?_
  refine vr_iconst (v := nI 2) hF dL_law_316 (by decide +kernel) rfl ?_
  refine vr_iadd (v := nI (i + 2)) hF dL_law_317 (nI_add i 2) rfl ?_
  refine vr_sld (i := i + 2) hF hX hbl hbA (by omega) (by omega) dL_law_318 rfl ?_
  refine vr_aload_n hF 0 rfl dL_law_319 rfl rfl ?_
  refine vr_iload_n hF 3 rfl dL_law_320 rfl rfl ?_
  refine vr_iconst (v := nI 3) hF dL_law_321 (by decide +kernel) rfl ?_
  refine vr_iadd (v := nI (i + 3)) hF dL_law_322 (nI_add i 3) rfl ?_
  refine vr_sld (i := i + 3) hF hX hbl hbA (by omega) (by omega) dL_law_323 rfl ?_
  refine vr_i2l (v := (xs (i + 3)).toInt64) hF dL_law_324 rfl rfl ?_
  refine vr_bipush (v := nI 32) hF dL_law_325 (by decide +kernel) rfl ?_
  refine vr_lshl (v := ((xs (i + 3)).toInt64) <<< ((nI 32).toInt64 &&& 63)) hF dL_law_327 rfl rfl ?_
  refine vr_aload_n hF 0 rfl dL_law_328 rfl rfl ?_
  refine vr_iload_n hF 3 rfl dL_law_329 rfl rfl ?_
  refine vr_iconst (v := nI 4) hF dL_law_330 (by decide +kernel) rfl ?_
  refine vr_iadd (v := nI (i + 4)) hF dL_law_331 (nI_add i 4) rfl ?_
  refine vr_sld (i := i + 4) hF hX hbl hbA (by omega) (by omega) dL_law_332 rfl ?_
  refine vr_i2l (v := (xs (i + 4)).toInt64) hF dL_law_333 rfl rfl ?_
  refine vr_ldc2 (v := 4294967295) hF kL_18 dL_law_334 rfl ?_
  refine vr_land (v := ((xs (i + 4)).toInt64) &&& 4294967295) hF dL_law_337 rfl rfl ?_
  refine vr_lor (v := (((xs (i + 3)).toInt64) <<< ((nI 32).toInt64 &&& 63)) ||| (((xs (i + 4)).toInt64) &&& 4294967295)) hF dL_law_338 rfl rfl ?_
  refine vr_partV_Ci (pre := vm_w g a' r' t' w' bb') (wr := vx_w g a r t w bb) (rest := [.int (xv_at r t (xs (i + 1)) (xs (i + 2)) ((((xs (i + 3)).toInt64) <<< ((nI 32).toInt64 &&& 63)) ||| (((xs (i + 4)).toInt64) &&& 4294967295)))]) (n0 := 3) hF (xc_VModel_at l g a' r' t' w' bb' (xs (i + 1)) (xs (i + 2)) ((((xs (i + 3)).toInt64) <<< ((nI 32).toInt64 &&& 63)) ||| (((xs (i + 4)).toInt64) &&& 4294967295)) (sr_mok hs)) (vr_gV vr_hb0 mlL_29 imX5_at seX5_at iniX5 cdX5_at) rfl (by decide +kernel) rfl rfl rfl ⟨Nat.le_of_ble_eq_true rfl, Nat.le_of_ble_eq_true rfl⟩ ⟨Nat.le_of_ble_eq_true rfl, Nat.le_of_ble_eq_true rfl⟩ 0 rfl rfl rfl (Nat.le_of_ble_eq_true rfl) dL_law_339 rfl [0, 1, 2, 3, 4, 5, 6, 7, 8, 9, 10, 11] [12, 13, 14, 15, 16, 17, 18, 19, 20, 21, 22, 23, 24, 25, 26, 27, 28] rfl rfl rfl rfl (by decide) ?_
  refine vr_icmp_eq (tgt := 681) hF dL_law_342 (by decide) rfl (fun c_0 => ?_) (fun c_0 => ?_)
  · exact hk _ _ _ _ _ _ _ _ (hs)
  · exact absurd ((sr_at hs (xs (i + 1)) (xs (i + 2)) ((((xs (i + 3)).toInt64) <<< ((nI 32).toInt64 &&& 63)) ||| (((xs (i + 4)).toInt64) &&& 4294967295))).symm) c_0
set_option maxHeartbeats 4000000 in
set_option maxRecDepth 100000 in
theorem law_c3 {p : Program} {l : Launch} {e : Env} {s : State} {m : MethodId} {below : List Frame} {meth : Method} {c : Code} {b L : Nat} {xs : Nat → Int32} {g : vr_G} {a a' : Nat → Nat} (hF : vr_F p s m c code 4 #[Value.ref b] vr_T RL g.1 (vr_tys g) (fun q : Nat => s.heap.size ≤ q)) (hX : va_X b L xs s s.heap) (hbl : b < s.heap.size) (hbA : ¬ (fun q : Nat => s.heap.size ≤ q) b) (hL : L ≤ 4608) (i : Nat) (hi : i + 9 ≤ L) (r : vx_R) (t : vx_A) (w : Nat → Int64) (bb : vx_B) (r' : vx_R) (t' : vm_A) (w' : Nat → Bool) (bb' : vx_B) (hs : sr r t w bb r' t' w' bb')
    (hk : ∀ (r : vx_R) (t : vx_A) (w : Nat → Int64) (bb : vx_B) (r' : vx_R) (t' : vm_A) (w' : Nat → Bool) (bb' : vx_B), sr r t w bb r' t' w' bb' → vr_W p l e room_1 s m #[Value.ref b] below meth c g.1 (fun q : Nat => s.heap.size ≤ q) 4 29 44380 (lw_Z below #[Value.ref b] s) (vx_w g a r t w bb ++ vm_w g a' r' t' w' bb') 681 [(0, .ref b), (1, .ref (a 0)), (2, .ref (a' 0)), (3, .int (nI i))] []) : vr_W p l e room_1 s m #[Value.ref b] below meth c g.1 (fun q : Nat => s.heap.size ≤ q) 4 29 44380 (lw_Z below #[Value.ref b] s) (vx_w g a r t w bb ++ vm_w g a' r' t' w' bb') 347 [(0, .ref b), (1, .ref (a 0)), (2, .ref (a' 0)), (3, .int (nI i))] [] := by
  refine vr_aload_n hF 1 rfl dL_law_347 rfl rfl ?_
  refine vr_aload_n hF 0 rfl dL_law_348 rfl rfl ?_
  refine vr_iload_n hF 3 rfl dL_law_349 rfl rfl ?_
  refine vr_iconst (v := nI 1) hF dL_law_350 (by decide +kernel) rfl ?_
  refine vr_iadd (v := nI (i + 1)) hF dL_law_351 (nI_add i 1) rfl ?_
  refine vr_sld (i := i + 1) hF hX hbl hbA (by omega) (by omega) dL_law_352 rfl ?_
  refine vr_aload_n hF 0 rfl dL_law_353 rfl rfl ?_
  refine vr_iload_n hF 3 rfl dL_law_354 rfl rfl ?_
  refine vr_iconst (v := nI 2) hF dL_law_355 (by decide +kernel) rfl ?_
  refine vr_iadd (v := nI (i + 2)) hF dL_law_356 (nI_add i 2) rfl ?_
  refine vr_sld (i := i + 2) hF hX hbl hbA (by omega) (by omega) dL_law_357 rfl ?_
  refine vr_i2l (v := (xs (i + 2)).toInt64) hF dL_law_358 rfl rfl ?_
  refine vr_bipush (v := nI 32) hF dL_law_359 (by decide +kernel) rfl ?_
  refine vr_lshl (v := ((xs (i + 2)).toInt64) <<< ((nI 32).toInt64 &&& 63)) hF dL_law_361 rfl rfl ?_
  refine vr_aload_n hF 0 rfl dL_law_362 rfl rfl ?_
  refine vr_iload_n hF 3 rfl dL_law_363 rfl rfl ?_
  refine vr_iconst (v := nI 3) hF dL_law_364 (by decide +kernel) rfl ?_
  refine vr_iadd (v := nI (i + 3)) hF dL_law_365 (nI_add i 3) rfl ?_
  refine vr_sld (i := i + 3) hF hX hbl hbA (by omega) (by omega) dL_law_366 rfl ?_
  refine vr_i2l (v := (xs (i + 3)).toInt64) hF dL_law_367 rfl rfl ?_
  refine vr_ldc2 (v := 4294967295) hF kL_18 dL_law_368 rfl ?_
  refine vr_land (v := ((xs (i + 3)).toInt64) &&& 4294967295) hF dL_law_371 rfl rfl ?_
  refine vr_lor (v := (((xs (i + 2)).toInt64) <<< ((nI 32).toInt64 &&& 63)) ||| (((xs (i + 3)).toInt64) &&& 4294967295)) hF dL_law_372 rfl rfl ?_
  refine vr_aload_n hF 0 rfl dL_law_373 rfl rfl ?_
  refine vr_iload_n hF 3 rfl dL_law_374 rfl rfl ?_
  refine vr_iconst (v := nI 4) hF dL_law_375 (by decide +kernel) rfl ?_
  refine vr_iadd (v := nI (i + 4)) hF dL_law_376 (nI_add i 4) rfl ?_
  refine vr_sld (i := i + 4) hF hX hbl hbA (by omega) (by omega) dL_law_377 rfl ?_
  refine vr_partV_Ci (pre := vx_w g a r t w bb) (wr := vm_w g a' r' t' w' bb') (rest := []) (n0 := 3) hF (xc_V_stale l g a r t w bb (xs (i + 1)) ((((xs (i + 2)).toInt64) <<< ((nI 32).toInt64 &&& 63)) ||| (((xs (i + 3)).toInt64) &&& 4294967295)) (xs (i + 4)) (sr_ok hs)) (vr_gV vr_hb0 mlL_30 imX4_stale seX4_stale iniX4 cdX4_stale) rfl (by decide +kernel) rfl rfl rfl ⟨Nat.le_of_ble_eq_true rfl, Nat.le_of_ble_eq_true rfl⟩ ⟨Nat.le_of_ble_eq_true rfl, Nat.le_of_ble_eq_true rfl⟩ 0 rfl rfl rfl (Nat.le_of_ble_eq_true rfl) dL_law_378 rfl [0, 1, 2, 3, 4, 5, 6, 7, 8, 9, 10, 11, 12, 13, 14, 15, 16] [17, 18, 19, 20, 21, 22, 23, 24, 25, 26, 27, 28] rfl rfl rfl rfl (by decide) ?_
  refine vr_aload_n hF 2 rfl dL_law_381 rfl rfl ?_
  refine vr_aload_n hF 0 rfl dL_law_382 rfl rfl ?_
  refine vr_iload_n hF 3 rfl dL_law_383 rfl rfl ?_
  refine vr_iconst (v := nI 1) hF dL_law_384 (by decide +kernel) rfl ?_
  refine vr_iadd (v := nI (i + 1)) hF dL_law_385 (nI_add i 1) rfl ?_
  refine vr_sld (i := i + 1) hF hX hbl hbA (by omega) (by omega) dL_law_386 rfl ?_
  refine vr_aload_n hF 0 rfl dL_law_387 rfl rfl ?_
  refine vr_iload_n hF 3 rfl dL_law_388 rfl rfl ?_
  refine vr_iconst (v := nI 2) hF dL_law_389 (by decide +kernel) rfl ?_
  refine vr_iadd (v := nI (i + 2)) hF dL_law_390 (nI_add i 2) rfl ?_
  refine vr_sld (i := i + 2) hF hX hbl hbA (by omega) (by omega) dL_law_391 rfl ?_
  refine vr_i2l (v := (xs (i + 2)).toInt64) hF dL_law_392 rfl rfl ?_
  refine vr_bipush (v := nI 32) hF dL_law_393 (by decide +kernel) rfl ?_
  refine vr_lshl (v := ((xs (i + 2)).toInt64) <<< ((nI 32).toInt64 &&& 63)) hF dL_law_395 rfl rfl ?_
  refine vr_aload_n hF 0 rfl dL_law_396 rfl rfl ?_
  refine vr_iload_n hF 3 rfl dL_law_397 rfl rfl ?_
  refine vr_iconst (v := nI 3) hF dL_law_398 (by decide +kernel) rfl ?_
  refine vr_iadd (v := nI (i + 3)) hF dL_law_399 (nI_add i 3) rfl ?_
  refine vr_sld (i := i + 3) hF hX hbl hbA (by omega) (by omega) dL_law_400 rfl ?_
  refine vr_i2l (v := (xs (i + 3)).toInt64) hF dL_law_401 rfl rfl ?_
  refine vr_ldc2 (v := 4294967295) hF kL_18 dL_law_402 rfl ?_
  refine vr_land (v := ((xs (i + 3)).toInt64) &&& 4294967295) hF dL_law_405 rfl rfl ?_
  refine vr_lor (v := (((xs (i + 2)).toInt64) <<< ((nI 32).toInt64 &&& 63)) ||| (((xs (i + 3)).toInt64) &&& 4294967295)) hF dL_law_406 rfl rfl ?_
  refine vr_aload_n hF 0 rfl dL_law_407 rfl rfl ?_
  refine vr_iload_n hF 3 rfl dL_law_408 rfl rfl ?_
  refine vr_iconst (v := nI 4) hF dL_law_409 (by decide +kernel) rfl ?_
  refine vr_iadd (v := nI (i + 4)) hF dL_law_410 (nI_add i 4) rfl ?_
  refine vr_sld (i := i + 4) hF hX hbl hbA (by omega) (by omega) dL_law_411 rfl ?_
  refine vr_partV_Ci (pre := vm_w g a' r' t' w' bb') (wr := vx_w g a r t w bb) (rest := [.int (xv_stale r t (xs (i + 1)) ((((xs (i + 2)).toInt64) <<< ((nI 32).toInt64 &&& 63)) ||| (((xs (i + 3)).toInt64) &&& 4294967295)) (xs (i + 4)))]) (n0 := 3) hF (xc_VModel_stale l g a' r' t' w' bb' (xs (i + 1)) ((((xs (i + 2)).toInt64) <<< ((nI 32).toInt64 &&& 63)) ||| (((xs (i + 3)).toInt64) &&& 4294967295)) (xs (i + 4)) (sr_mok hs)) (vr_gV vr_hb0 mlL_34 imX5_stale seX5_stale iniX5 cdX5_stale) rfl (by decide +kernel) rfl rfl rfl ⟨Nat.le_of_ble_eq_true rfl, Nat.le_of_ble_eq_true rfl⟩ ⟨Nat.le_of_ble_eq_true rfl, Nat.le_of_ble_eq_true rfl⟩ 0 rfl rfl rfl (Nat.le_of_ble_eq_true rfl) dL_law_412 rfl [0, 1, 2, 3, 4, 5, 6, 7, 8, 9, 10, 11] [12, 13, 14, 15, 16, 17, 18, 19, 20, 21, 22, 23, 24, 25, 26, 27, 28] rfl rfl rfl rfl (by decide) ?_
  refine vr_icmp_eq (tgt := 681) hF dL_law_415 (by decide) rfl (fun c_0 => ?_) (fun c_0 => ?_)
  · exact hk _ _ _ _ _ _ _ _ (hs)
  · exact absurd ((sr_stale hs (xs (i + 1)) ((((xs (i + 2)).toInt64) <<< ((nI 32).toInt64 &&& 63)) ||| (((xs (i + 3)).toInt64) &&& 4294967295)) (xs (i + 4))).symm) c_0
set_option maxHeartbeats 4000000 in
set_option maxRecDepth 100000 in
theorem law_c4 {p : Program} {l : Launch} {e : Env} {s : State} {m : MethodId} {below : List Frame} {meth : Method} {c : Code} {b L : Nat} {xs : Nat → Int32} {g : vr_G} {a a' : Nat → Nat} (hF : vr_F p s m c code 4 #[Value.ref b] vr_T RL g.1 (vr_tys g) (fun q : Nat => s.heap.size ≤ q)) (hX : va_X b L xs s s.heap) (hbl : b < s.heap.size) (hbA : ¬ (fun q : Nat => s.heap.size ≤ q) b) (hL : L ≤ 4608) (i : Nat) (hi : i + 9 ≤ L) (r : vx_R) (t : vx_A) (w : Nat → Int64) (bb : vx_B) (r' : vx_R) (t' : vm_A) (w' : Nat → Bool) (bb' : vx_B) (hs : sr r t w bb r' t' w' bb')
    (hk : ∀ (r : vx_R) (t : vx_A) (w : Nat → Int64) (bb : vx_B) (r' : vx_R) (t' : vm_A) (w' : Nat → Bool) (bb' : vx_B), sr r t w bb r' t' w' bb' → vr_W p l e room_1 s m #[Value.ref b] below meth c g.1 (fun q : Nat => s.heap.size ≤ q) 4 29 44380 (lw_Z below #[Value.ref b] s) (vx_w g a r t w bb ++ vm_w g a' r' t' w' bb') 681 [(0, .ref b), (1, .ref (a 0)), (2, .ref (a' 0)), (3, .int (nI i))] []) : vr_W p l e room_1 s m #[Value.ref b] below meth c g.1 (fun q : Nat => s.heap.size ≤ q) 4 29 44380 (lw_Z below #[Value.ref b] s) (vx_w g a r t w bb ++ vm_w g a' r' t' w' bb') 420 [(0, .ref b), (1, .ref (a 0)), (2, .ref (a' 0)), (3, .int (nI i))] [] := by
  refine vr_aload_n hF 1 rfl dL_law_420 rfl rfl ?_
  refine vr_aload_n hF 0 rfl dL_law_421 rfl rfl ?_
  refine vr_iload_n hF 3 rfl dL_law_422 rfl rfl ?_
  refine vr_iconst (v := nI 1) hF dL_law_423 (by decide +kernel) rfl ?_
  refine vr_iadd (v := nI (i + 1)) hF dL_law_424 (nI_add i 1) rfl ?_
  refine vr_sld (i := i + 1) hF hX hbl hbA (by omega) (by omega) dL_law_425 rfl ?_
  refine vr_partV_Ci (pre := vx_w g a r t w bb) (wr := vm_w g a' r' t' w' bb') (rest := []) (n0 := 1) hF (xc_V_undo l g a r t w bb (xs (i + 1)) (sr_ok hs)) (vr_gV vr_hb0 mlL_35 imX4_undo seX4_undo iniX4 cdX4_undo) rfl (by decide +kernel) rfl rfl rfl ⟨Nat.le_of_ble_eq_true rfl, Nat.le_of_ble_eq_true rfl⟩ ⟨Nat.le_of_ble_eq_true rfl, Nat.le_of_ble_eq_true rfl⟩ 0 rfl rfl rfl (Nat.le_of_ble_eq_true rfl) dL_law_426 rfl [0, 1, 2, 3, 4, 5, 6, 7, 8, 9, 10, 11, 12, 13, 14, 15, 16] [17, 18, 19, 20, 21, 22, 23, 24, 25, 26, 27, 28] rfl rfl rfl rfl (by decide) ?_
  refine vr_aload_n hF 2 rfl dL_law_429 rfl rfl ?_
  refine vr_aload_n hF 0 rfl dL_law_430 rfl rfl ?_
  refine vr_iload_n hF 3 rfl dL_law_431 rfl rfl ?_
  refine vr_iconst (v := nI 1) hF dL_law_432 (by decide +kernel) rfl ?_
  refine vr_iadd (v := nI (i + 1)) hF dL_law_433 (nI_add i 1) rfl ?_
  refine vr_sld (i := i + 1) hF hX hbl hbA (by omega) (by omega) dL_law_434 rfl ?_
  refine vr_partV_Ci (pre := vm_w g a' r' t' w' bb') (wr := vx_w g a r (if xv_undo t w (xs (i + 1)) = true then ta_setC t (vr_ub (ta_c t) (xs (i + 1)).toNatClampNeg false) else t) w bb) (rest := [.int (vr_b (xv_undo t w (xs (i + 1))))]) (n0 := 1) hF (xc_VModel_undo l g a' r' t' w' bb' (xs (i + 1)) (sr_mok hs)) (vr_gV vr_hb0 mlL_38 imX5_undo seX5_undo iniX5 cdX5_undo) rfl (by decide +kernel) rfl rfl rfl ⟨Nat.le_of_ble_eq_true rfl, Nat.le_of_ble_eq_true rfl⟩ ⟨Nat.le_of_ble_eq_true rfl, Nat.le_of_ble_eq_true rfl⟩ 0 rfl rfl rfl (Nat.le_of_ble_eq_true rfl) dL_law_435 rfl [0, 1, 2, 3, 4, 5, 6, 7, 8, 9, 10, 11] [12, 13, 14, 15, 16, 17, 18, 19, 20, 21, 22, 23, 24, 25, 26, 27, 28] rfl rfl rfl rfl (by decide) ?_
  refine vr_icmp_eq (tgt := 681) hF dL_law_438 (by decide) rfl (fun c_0 => ?_) (fun c_0 => ?_)
  · exact hk _ _ _ _ _ _ _ _ ((sr_undo hs (xs (i + 1))).2)
  · exact absurd (by rw [(sr_undo hs (xs (i + 1))).1]) c_0
set_option maxHeartbeats 4000000 in
set_option maxRecDepth 100000 in
theorem law_c5 {p : Program} {l : Launch} {e : Env} {s : State} {m : MethodId} {below : List Frame} {meth : Method} {c : Code} {b L : Nat} {xs : Nat → Int32} {g : vr_G} {a a' : Nat → Nat} (hF : vr_F p s m c code 4 #[Value.ref b] vr_T RL g.1 (vr_tys g) (fun q : Nat => s.heap.size ≤ q)) (hX : va_X b L xs s s.heap) (hbl : b < s.heap.size) (hbA : ¬ (fun q : Nat => s.heap.size ≤ q) b) (hL : L ≤ 4608) (i : Nat) (hi : i + 9 ≤ L) (r : vx_R) (t : vx_A) (w : Nat → Int64) (bb : vx_B) (r' : vx_R) (t' : vm_A) (w' : Nat → Bool) (bb' : vx_B) (hs : sr r t w bb r' t' w' bb')
    (hk : ∀ (r : vx_R) (t : vx_A) (w : Nat → Int64) (bb : vx_B) (r' : vx_R) (t' : vm_A) (w' : Nat → Bool) (bb' : vx_B), sr r t w bb r' t' w' bb' → vr_W p l e room_1 s m #[Value.ref b] below meth c g.1 (fun q : Nat => s.heap.size ≤ q) 4 29 44380 (lw_Z below #[Value.ref b] s) (vx_w g a r t w bb ++ vm_w g a' r' t' w' bb') 681 [(0, .ref b), (1, .ref (a 0)), (2, .ref (a' 0)), (3, .int (nI i))] []) : vr_W p l e room_1 s m #[Value.ref b] below meth c g.1 (fun q : Nat => s.heap.size ≤ q) 4 29 44380 (lw_Z below #[Value.ref b] s) (vx_w g a r t w bb ++ vm_w g a' r' t' w' bb') 443 [(0, .ref b), (1, .ref (a 0)), (2, .ref (a' 0)), (3, .int (nI i))] [] := by
  refine vr_aload_n hF 1 rfl dL_law_443 rfl rfl ?_
  refine vr_aload_n hF 0 rfl dL_law_444 rfl rfl ?_
  refine vr_iload_n hF 3 rfl dL_law_445 rfl rfl ?_
  refine vr_iconst (v := nI 1) hF dL_law_446 (by decide +kernel) rfl ?_
  refine vr_iadd (v := nI (i + 1)) hF dL_law_447 (nI_add i 1) rfl ?_
  refine vr_sld (i := i + 1) hF hX hbl hbA (by omega) (by omega) dL_law_448 rfl ?_
  refine vr_aload_n hF 0 rfl dL_law_449 rfl rfl ?_
  refine vr_iload_n hF 3 rfl dL_law_450 rfl rfl ?_
  refine vr_iconst (v := nI 2) hF dL_law_451 (by decide +kernel) rfl ?_
  refine vr_iadd (v := nI (i + 2)) hF dL_law_452 (nI_add i 2) rfl ?_
  refine vr_sld (i := i + 2) hF hX hbl hbA (by omega) (by omega) dL_law_453 rfl ?_
  refine vr_partV_Ci (pre := vx_w g a r t w bb) (wr := vm_w g a' r' t' w' bb') (rest := []) (n0 := 2) hF (xc_V_lean l g a r t w bb (xs (i + 1)) (xs (i + 2)) (sr_ok hs)) (vr_gV vr_hb0 mlL_39 imX4_lean seX4_lean iniX4 cdX4_lean) rfl (by decide +kernel) rfl rfl rfl ⟨Nat.le_of_ble_eq_true rfl, Nat.le_of_ble_eq_true rfl⟩ ⟨Nat.le_of_ble_eq_true rfl, Nat.le_of_ble_eq_true rfl⟩ 0 rfl rfl rfl (Nat.le_of_ble_eq_true rfl) dL_law_454 rfl [0, 1, 2, 3, 4, 5, 6, 7, 8, 9, 10, 11, 12, 13, 14, 15, 16] [17, 18, 19, 20, 21, 22, 23, 24, 25, 26, 27, 28] rfl rfl rfl rfl (by decide) ?_
  refine vr_aload_n hF 2 rfl dL_law_457 rfl rfl ?_
  refine vr_aload_n hF 0 rfl dL_law_458 rfl rfl ?_
  refine vr_iload_n hF 3 rfl dL_law_459 rfl rfl ?_
  refine vr_iconst (v := nI 1) hF dL_law_460 (by decide +kernel) rfl ?_
  refine vr_iadd (v := nI (i + 1)) hF dL_law_461 (nI_add i 1) rfl ?_
  refine vr_sld (i := i + 1) hF hX hbl hbA (by omega) (by omega) dL_law_462 rfl ?_
  refine vr_aload_n hF 0 rfl dL_law_463 rfl rfl ?_
  refine vr_iload_n hF 3 rfl dL_law_464 rfl rfl ?_
  refine vr_iconst (v := nI 2) hF dL_law_465 (by decide +kernel) rfl ?_
  refine vr_iadd (v := nI (i + 2)) hF dL_law_466 (nI_add i 2) rfl ?_
  refine vr_sld (i := i + 2) hF hX hbl hbA (by omega) (by omega) dL_law_467 rfl ?_
  refine vr_partV_Ci (pre := vm_w g a' r' t' w' bb') (wr := vx_w g a r t (if xv_lean t w (xs (i + 1)) (xs (i + 2)) = true then xl_add w (xs (i + 1)).toNatClampNeg (xs (i + 2)).toNatClampNeg else w) bb) (rest := [.int (vr_b (xv_lean t w (xs (i + 1)) (xs (i + 2))))]) (n0 := 2) hF (xc_VModel_lean l g a' r' t' w' bb' (xs (i + 1)) (xs (i + 2)) (sr_mok hs)) (vr_gV vr_hb0 mlL_43 imX5_lean seX5_lean iniX5 cdX5_lean) rfl (by decide +kernel) rfl rfl rfl ⟨Nat.le_of_ble_eq_true rfl, Nat.le_of_ble_eq_true rfl⟩ ⟨Nat.le_of_ble_eq_true rfl, Nat.le_of_ble_eq_true rfl⟩ 0 rfl rfl rfl (Nat.le_of_ble_eq_true rfl) dL_law_468 rfl [0, 1, 2, 3, 4, 5, 6, 7, 8, 9, 10, 11] [12, 13, 14, 15, 16, 17, 18, 19, 20, 21, 22, 23, 24, 25, 26, 27, 28] rfl rfl rfl rfl (by decide) ?_
  refine vr_icmp_eq (tgt := 681) hF dL_law_471 (by decide) rfl (fun c_0 => ?_) (fun c_0 => ?_)
  · exact hk _ _ _ _ _ _ _ _ ((sr_lean hs (xs (i + 1)) (xs (i + 2))).2)
  · exact absurd (by rw [(sr_lean hs (xs (i + 1)) (xs (i + 2))).1]) c_0
set_option maxHeartbeats 4000000 in
set_option maxRecDepth 100000 in
theorem law_c6 {p : Program} {l : Launch} {e : Env} {s : State} {m : MethodId} {below : List Frame} {meth : Method} {c : Code} {b L : Nat} {xs : Nat → Int32} {g : vr_G} {a a' : Nat → Nat} (hF : vr_F p s m c code 4 #[Value.ref b] vr_T RL g.1 (vr_tys g) (fun q : Nat => s.heap.size ≤ q)) (hX : va_X b L xs s s.heap) (hbl : b < s.heap.size) (hbA : ¬ (fun q : Nat => s.heap.size ≤ q) b) (hL : L ≤ 4608) (i : Nat) (hi : i + 9 ≤ L) (r : vx_R) (t : vx_A) (w : Nat → Int64) (bb : vx_B) (r' : vx_R) (t' : vm_A) (w' : Nat → Bool) (bb' : vx_B) (hs : sr r t w bb r' t' w' bb')
    (hk : ∀ (r : vx_R) (t : vx_A) (w : Nat → Int64) (bb : vx_B) (r' : vx_R) (t' : vm_A) (w' : Nat → Bool) (bb' : vx_B), sr r t w bb r' t' w' bb' → vr_W p l e room_1 s m #[Value.ref b] below meth c g.1 (fun q : Nat => s.heap.size ≤ q) 4 29 44380 (lw_Z below #[Value.ref b] s) (vx_w g a r t w bb ++ vm_w g a' r' t' w' bb') 681 [(0, .ref b), (1, .ref (a 0)), (2, .ref (a' 0)), (3, .int (nI i))] []) : vr_W p l e room_1 s m #[Value.ref b] below meth c g.1 (fun q : Nat => s.heap.size ≤ q) 4 29 44380 (lw_Z below #[Value.ref b] s) (vx_w g a r t w bb ++ vm_w g a' r' t' w' bb') 476 [(0, .ref b), (1, .ref (a 0)), (2, .ref (a' 0)), (3, .int (nI i))] [] := by
  refine vr_aload_n hF 1 rfl dL_law_476 rfl rfl ?_
  refine vr_aload_n hF 0 rfl dL_law_477 rfl rfl ?_
  refine vr_iload_n hF 3 rfl dL_law_478 rfl rfl ?_
  refine vr_iconst (v := nI 1) hF dL_law_479 (by decide +kernel) rfl ?_
  refine vr_iadd (v := nI (i + 1)) hF dL_law_480 (nI_add i 1) rfl ?_
  refine vr_sld (i := i + 1) hF hX hbl hbA (by omega) (by omega) dL_law_481 rfl ?_
  refine vr_aload_n hF 0 rfl dL_law_482 rfl rfl ?_
  refine vr_iload_n hF 3 rfl dL_law_483 rfl rfl ?_
  refine vr_iconst (v := nI 2) hF dL_law_484 (by decide +kernel) rfl ?_
  refine vr_iadd (v := nI (i + 2)) hF dL_law_485 (nI_add i 2) rfl ?_
  refine vr_sld (i := i + 2) hF hX hbl hbA (by omega) (by omega) dL_law_486 rfl ?_
  refine vr_aload_n hF 0 rfl dL_law_487 rfl rfl ?_
  refine vr_iload_n hF 3 rfl dL_law_488 rfl rfl ?_
  refine vr_iconst (v := nI 3) hF dL_law_489 (by decide +kernel) rfl ?_
  refine vr_iadd (v := nI (i + 3)) hF dL_law_490 (nI_add i 3) rfl ?_
  refine vr_sld (i := i + 3) hF hX hbl hbA (by omega) (by omega) dL_law_491 rfl ?_
  refine vr_i2l (v := (xs (i + 3)).toInt64) hF dL_law_492 rfl rfl ?_
  refine vr_bipush (v := nI 32) hF dL_law_493 (by decide +kernel) rfl ?_
  refine vr_lshl (v := ((xs (i + 3)).toInt64) <<< ((nI 32).toInt64 &&& 63)) hF dL_law_495 rfl rfl ?_
  refine vr_aload_n hF 0 rfl dL_law_496 rfl rfl ?_
  refine vr_iload_n hF 3 rfl dL_law_497 rfl rfl ?_
  refine vr_iconst (v := nI 4) hF dL_law_498 (by decide +kernel) rfl ?_
  refine vr_iadd (v := nI (i + 4)) hF dL_law_499 (nI_add i 4) rfl ?_
  refine vr_sld (i := i + 4) hF hX hbl hbA (by omega) (by omega) dL_law_500 rfl ?_
  refine vr_i2l (v := (xs (i + 4)).toInt64) hF dL_law_501 rfl rfl ?_
  refine vr_ldc2 (v := 4294967295) hF kL_18 dL_law_502 rfl ?_
  refine vr_land (v := ((xs (i + 4)).toInt64) &&& 4294967295) hF dL_law_505 rfl rfl ?_
  refine vr_lor (v := (((xs (i + 3)).toInt64) <<< ((nI 32).toInt64 &&& 63)) ||| (((xs (i + 4)).toInt64) &&& 4294967295)) hF dL_law_506 rfl rfl ?_
  refine vr_partV_Ci (pre := vx_w g a r t w bb) (wr := vm_w g a' r' t' w' bb') (rest := []) (n0 := 3) hF (xc_V_lock l g a r t w bb (xs (i + 1)) (xs (i + 2)) ((((xs (i + 3)).toInt64) <<< ((nI 32).toInt64 &&& 63)) ||| (((xs (i + 4)).toInt64) &&& 4294967295)) (sr_ok hs)) (vr_gV vr_hb0 mlL_44 imX4_lock seX4_lock iniX4 cdX4_lock) rfl (by decide +kernel) rfl rfl rfl ⟨Nat.le_of_ble_eq_true rfl, Nat.le_of_ble_eq_true rfl⟩ ⟨Nat.le_of_ble_eq_true rfl, Nat.le_of_ble_eq_true rfl⟩ 0 rfl rfl rfl (Nat.le_of_ble_eq_true rfl) dL_law_507 rfl [0, 1, 2, 3, 4, 5, 6, 7, 8, 9, 10, 11, 12, 13, 14, 15, 16] [17, 18, 19, 20, 21, 22, 23, 24, 25, 26, 27, 28] rfl rfl rfl rfl (by decide) ?_
  refine vr_aload_n hF 2 rfl dL_law_510 rfl rfl ?_
  refine vr_aload_n hF 0 rfl dL_law_511 rfl rfl ?_
  refine vr_iload_n hF 3 rfl dL_law_512 rfl rfl ?_
  refine vr_iconst (v := nI 1) hF dL_law_513 (by decide +kernel) rfl ?_
  refine vr_iadd (v := nI (i + 1)) hF dL_law_514 (nI_add i 1) rfl ?_
  refine vr_sld (i := i + 1) hF hX hbl hbA (by omega) (by omega) dL_law_515 rfl ?_
  refine vr_aload_n hF 0 rfl dL_law_516 rfl rfl ?_
  refine vr_iload_n hF 3 rfl dL_law_517 rfl rfl ?_
  refine vr_iconst (v := nI 2) hF dL_law_518 (by decide +kernel) rfl ?_
  refine vr_iadd (v := nI (i + 2)) hF dL_law_519 (nI_add i 2) rfl ?_
  refine vr_sld (i := i + 2) hF hX hbl hbA (by omega) (by omega) dL_law_520 rfl ?_
  refine vr_aload_n hF 0 rfl dL_law_521 rfl rfl ?_
  refine vr_iload_n hF 3 rfl dL_law_522 rfl rfl ?_
  refine vr_iconst (v := nI 3) hF dL_law_523 (by decide +kernel) rfl ?_
  refine vr_iadd (v := nI (i + 3)) hF dL_law_524 (nI_add i 3) rfl ?_
  refine vr_sld (i := i + 3) hF hX hbl hbA (by omega) (by omega) dL_law_525 rfl ?_
  refine vr_i2l (v := (xs (i + 3)).toInt64) hF dL_law_526 rfl rfl ?_
  refine vr_bipush (v := nI 32) hF dL_law_527 (by decide +kernel) rfl ?_
  refine vr_lshl (v := ((xs (i + 3)).toInt64) <<< ((nI 32).toInt64 &&& 63)) hF dL_law_529 rfl rfl ?_
  refine vr_aload_n hF 0 rfl dL_law_530 rfl rfl ?_
  refine vr_iload_n hF 3 rfl dL_law_531 rfl rfl ?_
  refine vr_iconst (v := nI 4) hF dL_law_532 (by decide +kernel) rfl ?_
  refine vr_iadd (v := nI (i + 4)) hF dL_law_533 (nI_add i 4) rfl ?_
  refine vr_sld (i := i + 4) hF hX hbl hbA (by omega) (by omega) dL_law_534 rfl ?_
  refine vr_i2l (v := (xs (i + 4)).toInt64) hF dL_law_535 rfl rfl ?_
  refine vr_ldc2 (v := 4294967295) hF kL_18 dL_law_536 rfl ?_
  refine vr_land (v := ((xs (i + 4)).toInt64) &&& 4294967295) hF dL_law_539 rfl rfl ?_
  refine vr_lor (v := (((xs (i + 3)).toInt64) <<< ((nI 32).toInt64 &&& 63)) ||| (((xs (i + 4)).toInt64) &&& 4294967295)) hF dL_law_540 rfl rfl ?_
  refine vr_partV_Ci (pre := vm_w g a' r' t' w' bb') (wr := vx_w g a (if xv_lock r t (xs (i + 1)) (xs (i + 2)) = true then xr_lock r (xs (i + 1)).toNatClampNeg (xs (i + 2)) ((((xs (i + 3)).toInt64) <<< ((nI 32).toInt64 &&& 63)) ||| (((xs (i + 4)).toInt64) &&& 4294967295)) else r) t w bb) (rest := [.int (vr_b (xv_lock r t (xs (i + 1)) (xs (i + 2))))]) (n0 := 3) hF (xc_VModel_lock l g a' r' t' w' bb' (xs (i + 1)) (xs (i + 2)) ((((xs (i + 3)).toInt64) <<< ((nI 32).toInt64 &&& 63)) ||| (((xs (i + 4)).toInt64) &&& 4294967295)) (sr_mok hs)) (vr_gV vr_hb0 mlL_47 imX5_lock seX5_lock iniX5 cdX5_lock) rfl (by decide +kernel) rfl rfl rfl ⟨Nat.le_of_ble_eq_true rfl, Nat.le_of_ble_eq_true rfl⟩ ⟨Nat.le_of_ble_eq_true rfl, Nat.le_of_ble_eq_true rfl⟩ 0 rfl rfl rfl (Nat.le_of_ble_eq_true rfl) dL_law_541 rfl [0, 1, 2, 3, 4, 5, 6, 7, 8, 9, 10, 11] [12, 13, 14, 15, 16, 17, 18, 19, 20, 21, 22, 23, 24, 25, 26, 27, 28] rfl rfl rfl rfl (by decide) ?_
  refine vr_icmp_eq (tgt := 681) hF dL_law_544 (by decide) rfl (fun c_0 => ?_) (fun c_0 => ?_)
  · exact hk _ _ _ _ _ _ _ _ ((sr_lock hs (xs (i + 1)) (xs (i + 2)) ((((xs (i + 3)).toInt64) <<< ((nI 32).toInt64 &&& 63)) ||| (((xs (i + 4)).toInt64) &&& 4294967295))).2)
  · exact absurd (by rw [(sr_lock hs (xs (i + 1)) (xs (i + 2)) ((((xs (i + 3)).toInt64) <<< ((nI 32).toInt64 &&& 63)) ||| (((xs (i + 4)).toInt64) &&& 4294967295))).1]) c_0
set_option maxHeartbeats 4000000 in
set_option maxRecDepth 100000 in
theorem law_c7 {p : Program} {l : Launch} {e : Env} {s : State} {m : MethodId} {below : List Frame} {meth : Method} {c : Code} {b L : Nat} {xs : Nat → Int32} {g : vr_G} {a a' : Nat → Nat} (hF : vr_F p s m c code 4 #[Value.ref b] vr_T RL g.1 (vr_tys g) (fun q : Nat => s.heap.size ≤ q)) (hX : va_X b L xs s s.heap) (hbl : b < s.heap.size) (hbA : ¬ (fun q : Nat => s.heap.size ≤ q) b) (hL : L ≤ 4608) (i : Nat) (hi : i + 9 ≤ L) (r : vx_R) (t : vx_A) (w : Nat → Int64) (bb : vx_B) (r' : vx_R) (t' : vm_A) (w' : Nat → Bool) (bb' : vx_B) (hs : sr r t w bb r' t' w' bb')
    (hk : ∀ (r : vx_R) (t : vx_A) (w : Nat → Int64) (bb : vx_B) (r' : vx_R) (t' : vm_A) (w' : Nat → Bool) (bb' : vx_B), sr r t w bb r' t' w' bb' → vr_W p l e room_1 s m #[Value.ref b] below meth c g.1 (fun q : Nat => s.heap.size ≤ q) 4 29 44380 (lw_Z below #[Value.ref b] s) (vx_w g a r t w bb ++ vm_w g a' r' t' w' bb') 681 [(0, .ref b), (1, .ref (a 0)), (2, .ref (a' 0)), (3, .int (nI i))] []) : vr_W p l e room_1 s m #[Value.ref b] below meth c g.1 (fun q : Nat => s.heap.size ≤ q) 4 29 44380 (lw_Z below #[Value.ref b] s) (vx_w g a r t w bb ++ vm_w g a' r' t' w' bb') 549 [(0, .ref b), (1, .ref (a 0)), (2, .ref (a' 0)), (3, .int (nI i))] [] := by
  refine vr_aload_n hF 1 rfl dL_law_549 rfl rfl ?_
  refine vr_aload_n hF 0 rfl dL_law_550 rfl rfl ?_
  refine vr_iload_n hF 3 rfl dL_law_551 rfl rfl ?_
  refine vr_iconst (v := nI 1) hF dL_law_552 (by decide +kernel) rfl ?_
  refine vr_iadd (v := nI (i + 1)) hF dL_law_553 (nI_add i 1) rfl ?_
  refine vr_sld (i := i + 1) hF hX hbl hbA (by omega) (by omega) dL_law_554 rfl ?_
  refine vr_aload_n hF 0 rfl dL_law_555 rfl rfl ?_
  refine vr_iload_n hF 3 rfl dL_law_556 rfl rfl ?_
  refine vr_iconst (v := nI 2) hF dL_law_557 (by decide +kernel) rfl ?_
  refine vr_iadd (v := nI (i + 2)) hF dL_law_558 (nI_add i 2) rfl ?_
  refine vr_sld (i := i + 2) hF hX hbl hbA (by omega) (by omega) dL_law_559 rfl ?_
  refine vr_partV_Ci (pre := vx_w g a r t w bb) (wr := vm_w g a' r' t' w' bb') (rest := []) (n0 := 2) hF (xc_V_batch l g a r t w bb (xs (i + 1)) (xs (i + 2)) (sr_ok hs)) (vr_gV vr_hb0 mlL_48 imX4_batch seX4_batch iniX4 cdX4_batch) rfl (by decide +kernel) rfl rfl rfl ⟨Nat.le_of_ble_eq_true rfl, Nat.le_of_ble_eq_true rfl⟩ ⟨Nat.le_of_ble_eq_true rfl, Nat.le_of_ble_eq_true rfl⟩ 0 rfl rfl rfl (Nat.le_of_ble_eq_true rfl) dL_law_560 rfl [0, 1, 2, 3, 4, 5, 6, 7, 8, 9, 10, 11, 12, 13, 14, 15, 16] [17, 18, 19, 20, 21, 22, 23, 24, 25, 26, 27, 28] rfl rfl rfl rfl (by decide) ?_
  refine vr_aload_n hF 2 rfl dL_law_563 rfl rfl ?_
  refine vr_aload_n hF 0 rfl dL_law_564 rfl rfl ?_
  refine vr_iload_n hF 3 rfl dL_law_565 rfl rfl ?_
  refine vr_iconst (v := nI 1) hF dL_law_566 (by decide +kernel) rfl ?_
  refine vr_iadd (v := nI (i + 1)) hF dL_law_567 (nI_add i 1) rfl ?_
  refine vr_sld (i := i + 1) hF hX hbl hbA (by omega) (by omega) dL_law_568 rfl ?_
  refine vr_aload_n hF 0 rfl dL_law_569 rfl rfl ?_
  refine vr_iload_n hF 3 rfl dL_law_570 rfl rfl ?_
  refine vr_iconst (v := nI 2) hF dL_law_571 (by decide +kernel) rfl ?_
  refine vr_iadd (v := nI (i + 2)) hF dL_law_572 (nI_add i 2) rfl ?_
  refine vr_sld (i := i + 2) hF hX hbl hbA (by omega) (by omega) dL_law_573 rfl ?_
  refine vr_partV_Ci (pre := vm_w g a' r' t' w' bb') (wr := vx_w g a r t w (if xv_bat t bb (xs (i + 1)) (xs (i + 2)) = true then xb_add bb (xs (i + 1)).toNatClampNeg (xs (i + 2)).toNatClampNeg else bb)) (rest := [.int (nI (if xv_bat t bb (xs (i + 1)) (xs (i + 2)) = true then tb_n bb + 1 else 0))]) (n0 := 2) hF (xc_VModel_batch l g a' r' t' w' bb' (xs (i + 1)) (xs (i + 2)) (sr_mok hs)) (vr_gV vr_hb0 mlL_51 imX5_batch seX5_batch iniX5 cdX5_batch) rfl (by decide +kernel) rfl rfl rfl ⟨Nat.le_of_ble_eq_true rfl, Nat.le_of_ble_eq_true rfl⟩ ⟨Nat.le_of_ble_eq_true rfl, Nat.le_of_ble_eq_true rfl⟩ 0 rfl rfl rfl (Nat.le_of_ble_eq_true rfl) dL_law_574 rfl [0, 1, 2, 3, 4, 5, 6, 7, 8, 9, 10, 11] [12, 13, 14, 15, 16, 17, 18, 19, 20, 21, 22, 23, 24, 25, 26, 27, 28] rfl rfl rfl rfl (by decide) ?_
  refine vr_icmp_eq (tgt := 681) hF dL_law_577 (by decide) rfl (fun c_0 => ?_) (fun c_0 => ?_)
  · exact hk _ _ _ _ _ _ _ _ ((sr_bat hs (xs (i + 1)) (xs (i + 2))).2)
  · exact absurd (by rw [(sr_bat hs (xs (i + 1)) (xs (i + 2))).1]) c_0
set_option maxHeartbeats 4000000 in
set_option maxRecDepth 100000 in
theorem law_c8 {p : Program} {l : Launch} {e : Env} {s : State} {m : MethodId} {below : List Frame} {meth : Method} {c : Code} {b L : Nat} {xs : Nat → Int32} {g : vr_G} {a a' : Nat → Nat} (hF : vr_F p s m c code 4 #[Value.ref b] vr_T RL g.1 (vr_tys g) (fun q : Nat => s.heap.size ≤ q)) (hX : va_X b L xs s s.heap) (hbl : b < s.heap.size) (hbA : ¬ (fun q : Nat => s.heap.size ≤ q) b) (hL : L ≤ 4608) (i : Nat) (hi : i + 9 ≤ L) (r : vx_R) (t : vx_A) (w : Nat → Int64) (bb : vx_B) (r' : vx_R) (t' : vm_A) (w' : Nat → Bool) (bb' : vx_B) (hs : sr r t w bb r' t' w' bb')
    (hk : ∀ (r : vx_R) (t : vx_A) (w : Nat → Int64) (bb : vx_B) (r' : vx_R) (t' : vm_A) (w' : Nat → Bool) (bb' : vx_B), sr r t w bb r' t' w' bb' → vr_W p l e room_1 s m #[Value.ref b] below meth c g.1 (fun q : Nat => s.heap.size ≤ q) 4 29 44380 (lw_Z below #[Value.ref b] s) (vx_w g a r t w bb ++ vm_w g a' r' t' w' bb') 681 [(0, .ref b), (1, .ref (a 0)), (2, .ref (a' 0)), (3, .int (nI i))] []) : vr_W p l e room_1 s m #[Value.ref b] below meth c g.1 (fun q : Nat => s.heap.size ≤ q) 4 29 44380 (lw_Z below #[Value.ref b] s) (vx_w g a r t w bb ++ vm_w g a' r' t' w' bb') 582 [(0, .ref b), (1, .ref (a 0)), (2, .ref (a' 0)), (3, .int (nI i))] [] := by
  refine vr_aload_n hF 1 rfl dL_law_582 rfl rfl ?_
  refine vr_aload_n hF 0 rfl dL_law_583 rfl rfl ?_
  refine vr_iload_n hF 3 rfl dL_law_584 rfl rfl ?_
  refine vr_iconst (v := nI 1) hF dL_law_585 (by decide +kernel) rfl ?_
  refine vr_iadd (v := nI (i + 1)) hF dL_law_586 (nI_add i 1) rfl ?_
  refine vr_sld (i := i + 1) hF hX hbl hbA (by omega) (by omega) dL_law_587 rfl ?_
  refine vr_partV_Ci (pre := vx_w g a r t w bb) (wr := vm_w g a' r' t' w' bb') (rest := []) (n0 := 1) hF (xc_V_drop l g a r t w bb (xs (i + 1)) (sr_ok hs)) (vr_gV vr_hb0 mlL_52 imX4_drop seX4_drop iniX4 cdX4_drop) rfl (by decide +kernel) rfl rfl rfl ⟨Nat.le_of_ble_eq_true rfl, Nat.le_of_ble_eq_true rfl⟩ ⟨Nat.le_of_ble_eq_true rfl, Nat.le_of_ble_eq_true rfl⟩ 0 rfl rfl rfl (Nat.le_of_ble_eq_true rfl) dL_law_588 rfl [0, 1, 2, 3, 4, 5, 6, 7, 8, 9, 10, 11, 12, 13, 14, 15, 16] [17, 18, 19, 20, 21, 22, 23, 24, 25, 26, 27, 28] rfl rfl rfl rfl (by decide) ?_
  refine vr_aload_n hF 2 rfl dL_law_591 rfl rfl ?_
  refine vr_aload_n hF 0 rfl dL_law_592 rfl rfl ?_
  refine vr_iload_n hF 3 rfl dL_law_593 rfl rfl ?_
  refine vr_iconst (v := nI 1) hF dL_law_594 (by decide +kernel) rfl ?_
  refine vr_iadd (v := nI (i + 1)) hF dL_law_595 (nI_add i 1) rfl ?_
  refine vr_sld (i := i + 1) hF hX hbl hbA (by omega) (by omega) dL_law_596 rfl ?_
  refine vr_partV_Ci (pre := vm_w g a' r' t' w' bb') (wr := vx_w g a r (if xv_can t w bb (xs (i + 1)) = true then ta_setC t (xv_dropC bb (xs (i + 1)) (ta_n t) (ta_c t)) else t) w bb) (rest := [.int (nI (if xv_can t w bb (xs (i + 1)) = true then xv_dropN bb (xs (i + 1)) (ta_n t) (ta_c t) 0 else 0))]) (n0 := 1) hF (xc_VModel_drop l g a' r' t' w' bb' (xs (i + 1)) (sr_mok hs)) (vr_gV vr_hb0 mlL_55 imX5_drop seX5_drop iniX5 cdX5_drop) rfl (by decide +kernel) rfl rfl rfl ⟨Nat.le_of_ble_eq_true rfl, Nat.le_of_ble_eq_true rfl⟩ ⟨Nat.le_of_ble_eq_true rfl, Nat.le_of_ble_eq_true rfl⟩ 0 rfl rfl rfl (Nat.le_of_ble_eq_true rfl) dL_law_597 rfl [0, 1, 2, 3, 4, 5, 6, 7, 8, 9, 10, 11] [12, 13, 14, 15, 16, 17, 18, 19, 20, 21, 22, 23, 24, 25, 26, 27, 28] rfl rfl rfl rfl (by decide) ?_
  refine vr_icmp_eq (tgt := 681) hF dL_law_600 (by decide) rfl (fun c_0 => ?_) (fun c_0 => ?_)
  · exact hk _ _ _ _ _ _ _ _ ((sr_drop hs (xs (i + 1))).2)
  · exact absurd (by rw [(sr_drop hs (xs (i + 1))).1]) c_0
set_option maxHeartbeats 4000000 in
set_option maxRecDepth 100000 in
theorem law_c9 {p : Program} {l : Launch} {e : Env} {s : State} {m : MethodId} {below : List Frame} {meth : Method} {c : Code} {b L : Nat} {xs : Nat → Int32} {g : vr_G} {a a' : Nat → Nat} (hF : vr_F p s m c code 4 #[Value.ref b] vr_T RL g.1 (vr_tys g) (fun q : Nat => s.heap.size ≤ q)) (hX : va_X b L xs s s.heap) (hbl : b < s.heap.size) (hbA : ¬ (fun q : Nat => s.heap.size ≤ q) b) (hL : L ≤ 4608) (i : Nat) (hi : i + 9 ≤ L) (r : vx_R) (t : vx_A) (w : Nat → Int64) (bb : vx_B) (r' : vx_R) (t' : vm_A) (w' : Nat → Bool) (bb' : vx_B) (hs : sr r t w bb r' t' w' bb')
    (hk : ∀ (r : vx_R) (t : vx_A) (w : Nat → Int64) (bb : vx_B) (r' : vx_R) (t' : vm_A) (w' : Nat → Bool) (bb' : vx_B), sr r t w bb r' t' w' bb' → vr_W p l e room_1 s m #[Value.ref b] below meth c g.1 (fun q : Nat => s.heap.size ≤ q) 4 29 44380 (lw_Z below #[Value.ref b] s) (vx_w g a r t w bb ++ vm_w g a' r' t' w' bb') 681 [(0, .ref b), (1, .ref (a 0)), (2, .ref (a' 0)), (3, .int (nI i))] []) : vr_W p l e room_1 s m #[Value.ref b] below meth c g.1 (fun q : Nat => s.heap.size ≤ q) 4 29 44380 (lw_Z below #[Value.ref b] s) (vx_w g a r t w bb ++ vm_w g a' r' t' w' bb') 605 [(0, .ref b), (1, .ref (a 0)), (2, .ref (a' 0)), (3, .int (nI i))] [] := by
  refine vr_aload_n hF 1 rfl dL_law_605 rfl rfl ?_
  refine vr_aload_n hF 0 rfl dL_law_606 rfl rfl ?_
  refine vr_iload_n hF 3 rfl dL_law_607 rfl rfl ?_
  refine vr_iconst (v := nI 1) hF dL_law_608 (by decide +kernel) rfl ?_
  refine vr_iadd (v := nI (i + 1)) hF dL_law_609 (nI_add i 1) rfl ?_
  refine vr_sld (i := i + 1) hF hX hbl hbA (by omega) (by omega) dL_law_610 rfl ?_
  refine vr_aload_n hF 0 rfl dL_law_611 rfl rfl ?_
  refine vr_iload_n hF 3 rfl dL_law_612 rfl rfl ?_
  refine vr_iconst (v := nI 2) hF dL_law_613 (by decide +kernel) rfl ?_
  refine vr_iadd (v := nI (i + 2)) hF dL_law_614 (nI_add i 2) rfl ?_
  refine vr_sld (i := i + 2) hF hX hbl hbA (by omega) (by omega) dL_law_615 rfl ?_
  refine vr_partV_Ci (pre := vx_w g a r t w bb) (wr := vm_w g a' r' t' w' bb') (rest := []) (n0 := 2) hF (xc_V_conflict l g a r t w bb (xs (i + 1)) (xs (i + 2)) (sr_ok hs)) (vr_gV vr_hb0 mlL_56 imX4_conflict seX4_conflict iniX4 cdX4_conflict) rfl (by decide +kernel) rfl rfl rfl ⟨Nat.le_of_ble_eq_true rfl, Nat.le_of_ble_eq_true rfl⟩ ⟨Nat.le_of_ble_eq_true rfl, Nat.le_of_ble_eq_true rfl⟩ 0 rfl rfl rfl (Nat.le_of_ble_eq_true rfl) dL_law_616 rfl [0, 1, 2, 3, 4, 5, 6, 7, 8, 9, 10, 11, 12, 13, 14, 15, 16] [17, 18, 19, 20, 21, 22, 23, 24, 25, 26, 27, 28] rfl rfl rfl rfl (by decide) ?_
  refine vr_aload_n hF 2 rfl dL_law_619 rfl rfl ?_
  refine vr_aload_n hF 0 rfl dL_law_620 rfl rfl ?_
  refine vr_iload_n hF 3 rfl dL_law_621 rfl rfl ?_
  refine vr_iconst (v := nI 1) hF dL_law_622 (by decide +kernel) rfl ?_
  refine vr_iadd (v := nI (i + 1)) hF dL_law_623 (nI_add i 1) rfl ?_
  refine vr_sld (i := i + 1) hF hX hbl hbA (by omega) (by omega) dL_law_624 rfl ?_
  refine vr_aload_n hF 0 rfl dL_law_625 rfl rfl ?_
  refine vr_iload_n hF 3 rfl dL_law_626 rfl rfl ?_
  refine vr_iconst (v := nI 2) hF dL_law_627 (by decide +kernel) rfl ?_
  refine vr_iadd (v := nI (i + 2)) hF dL_law_628 (nI_add i 2) rfl ?_
  refine vr_sld (i := i + 2) hF hX hbl hbA (by omega) (by omega) dL_law_629 rfl ?_
  refine vr_partV_Ci (pre := vm_w g a' r' t' w' bb') (wr := vx_w g a r t w bb) (rest := [.int (xv_cf t (xs (i + 1)) (xs (i + 2)))]) (n0 := 2) hF (xc_VModel_conflict l g a' r' t' w' bb' (xs (i + 1)) (xs (i + 2)) (sr_mok hs)) (vr_gV vr_hb0 mlL_59 imX5_conflict seX5_conflict iniX5 cdX5_conflict) rfl (by decide +kernel) rfl rfl rfl ⟨Nat.le_of_ble_eq_true rfl, Nat.le_of_ble_eq_true rfl⟩ ⟨Nat.le_of_ble_eq_true rfl, Nat.le_of_ble_eq_true rfl⟩ 0 rfl rfl rfl (Nat.le_of_ble_eq_true rfl) dL_law_630 rfl [0, 1, 2, 3, 4, 5, 6, 7, 8, 9, 10, 11] [12, 13, 14, 15, 16, 17, 18, 19, 20, 21, 22, 23, 24, 25, 26, 27, 28] rfl rfl rfl rfl (by decide) ?_
  refine vr_icmp_eq (tgt := 681) hF dL_law_633 (by decide) rfl (fun c_0 => ?_) (fun c_0 => ?_)
  · exact hk _ _ _ _ _ _ _ _ (hs)
  · exact absurd ((sr_cf hs (xs (i + 1)) (xs (i + 2))).symm) c_0
set_option maxHeartbeats 4000000 in
set_option maxRecDepth 100000 in
theorem law_c10 {p : Program} {l : Launch} {e : Env} {s : State} {m : MethodId} {below : List Frame} {meth : Method} {c : Code} {b L : Nat} {xs : Nat → Int32} {g : vr_G} {a a' : Nat → Nat} (hF : vr_F p s m c code 4 #[Value.ref b] vr_T RL g.1 (vr_tys g) (fun q : Nat => s.heap.size ≤ q)) (hX : va_X b L xs s s.heap) (hbl : b < s.heap.size) (hbA : ¬ (fun q : Nat => s.heap.size ≤ q) b) (hL : L ≤ 4608) (i : Nat) (hi : i + 9 ≤ L) (r : vx_R) (t : vx_A) (w : Nat → Int64) (bb : vx_B) (r' : vx_R) (t' : vm_A) (w' : Nat → Bool) (bb' : vx_B) (hs : sr r t w bb r' t' w' bb')
    (hk : ∀ (r : vx_R) (t : vx_A) (w : Nat → Int64) (bb : vx_B) (r' : vx_R) (t' : vm_A) (w' : Nat → Bool) (bb' : vx_B), sr r t w bb r' t' w' bb' → vr_W p l e room_1 s m #[Value.ref b] below meth c g.1 (fun q : Nat => s.heap.size ≤ q) 4 29 44380 (lw_Z below #[Value.ref b] s) (vx_w g a r t w bb ++ vm_w g a' r' t' w' bb') 681 [(0, .ref b), (1, .ref (a 0)), (2, .ref (a' 0)), (3, .int (nI i))] []) : vr_W p l e room_1 s m #[Value.ref b] below meth c g.1 (fun q : Nat => s.heap.size ≤ q) 4 29 44380 (lw_Z below #[Value.ref b] s) (vx_w g a r t w bb ++ vm_w g a' r' t' w' bb') 638 [(0, .ref b), (1, .ref (a 0)), (2, .ref (a' 0)), (3, .int (nI i))] [] := by
  refine vr_aload_n hF 1 rfl dL_law_638 rfl rfl ?_
  refine vr_aload_n hF 0 rfl dL_law_639 rfl rfl ?_
  refine vr_iload_n hF 3 rfl dL_law_640 rfl rfl ?_
  refine vr_iconst (v := nI 1) hF dL_law_641 (by decide +kernel) rfl ?_
  refine vr_iadd (v := nI (i + 1)) hF dL_law_642 (nI_add i 1) rfl ?_
  refine vr_sld (i := i + 1) hF hX hbl hbA (by omega) (by omega) dL_law_643 rfl ?_
  refine vr_aload_n hF 0 rfl dL_law_644 rfl rfl ?_
  refine vr_iload_n hF 3 rfl dL_law_645 rfl rfl ?_
  refine vr_iconst (v := nI 2) hF dL_law_646 (by decide +kernel) rfl ?_
  refine vr_iadd (v := nI (i + 2)) hF dL_law_647 (nI_add i 2) rfl ?_
  refine vr_sld (i := i + 2) hF hX hbl hbA (by omega) (by omega) dL_law_648 rfl ?_
  refine vr_aload_n hF 0 rfl dL_law_649 rfl rfl ?_
  refine vr_iload_n hF 3 rfl dL_law_650 rfl rfl ?_
  refine vr_iconst (v := nI 3) hF dL_law_651 (by decide +kernel) rfl ?_
  refine vr_iadd (v := nI (i + 3)) hF dL_law_652 (nI_add i 3) rfl ?_
  refine vr_sld (i := i + 3) hF hX hbl hbA (by omega) (by omega) dL_law_653 rfl ?_
  refine vr_partV_Ci (pre := vx_w g a r t w bb) (wr := vm_w g a' r' t' w' bb') (rest := []) (n0 := 3) hF (xc_V_history l g a r t w bb (xs (i + 1)) (xs (i + 2)) (xs (i + 3)) (sr_ok hs)) (vr_gV vr_hb0 mlL_60 imX4_history seX4_history iniX4 cdX4_history) rfl (by decide +kernel) rfl rfl rfl ⟨Nat.le_of_ble_eq_true rfl, Nat.le_of_ble_eq_true rfl⟩ ⟨Nat.le_of_ble_eq_true rfl, Nat.le_of_ble_eq_true rfl⟩ 0 rfl rfl rfl (Nat.le_of_ble_eq_true rfl) dL_law_654 rfl [0, 1, 2, 3, 4, 5, 6, 7, 8, 9, 10, 11, 12, 13, 14, 15, 16] [17, 18, 19, 20, 21, 22, 23, 24, 25, 26, 27, 28] rfl rfl rfl rfl (by decide) ?_
  refine vr_aload_n hF 2 rfl dL_law_657 rfl rfl ?_
  refine vr_aload_n hF 0 rfl dL_law_658 rfl rfl ?_
  refine vr_iload_n hF 3 rfl dL_law_659 rfl rfl ?_
  refine vr_iconst (v := nI 1) hF dL_law_660 (by decide +kernel) rfl ?_
  refine vr_iadd (v := nI (i + 1)) hF dL_law_661 (nI_add i 1) rfl ?_
  refine vr_sld (i := i + 1) hF hX hbl hbA (by omega) (by omega) dL_law_662 rfl ?_
  refine vr_aload_n hF 0 rfl dL_law_663 rfl rfl ?_
  refine vr_iload_n hF 3 rfl dL_law_664 rfl rfl ?_
  refine vr_iconst (v := nI 2) hF dL_law_665 (by decide +kernel) rfl ?_
  refine vr_iadd (v := nI (i + 2)) hF dL_law_666 (nI_add i 2) rfl ?_
  refine vr_sld (i := i + 2) hF hX hbl hbA (by omega) (by omega) dL_law_667 rfl ?_
  refine vr_aload_n hF 0 rfl dL_law_668 rfl rfl ?_
  refine vr_iload_n hF 3 rfl dL_law_669 rfl rfl ?_
  refine vr_iconst (v := nI 3) hF dL_law_670 (by decide +kernel) rfl ?_
  refine vr_iadd (v := nI (i + 3)) hF dL_law_671 (nI_add i 3) rfl ?_
  refine vr_sld (i := i + 3) hF hX hbl hbA (by omega) (by omega) dL_law_672 rfl ?_
  refine vr_partV_Ci (pre := vm_w g a' r' t' w' bb') (wr := vx_w g a r t w bb) (rest := [.int (nI (xv_hist r t (xs (i + 1)) (xs (i + 2)) (xs (i + 3))))]) (n0 := 3) hF (xc_VModel_history l g a' r' t' w' bb' (xs (i + 1)) (xs (i + 2)) (xs (i + 3)) (sr_mok hs)) (vr_gV vr_hb0 mlL_64 imX5_history seX5_history iniX5 cdX5_history) rfl (by decide +kernel) rfl rfl rfl ⟨Nat.le_of_ble_eq_true rfl, Nat.le_of_ble_eq_true rfl⟩ ⟨Nat.le_of_ble_eq_true rfl, Nat.le_of_ble_eq_true rfl⟩ 0 rfl rfl rfl (Nat.le_of_ble_eq_true rfl) dL_law_673 rfl [0, 1, 2, 3, 4, 5, 6, 7, 8, 9, 10, 11] [12, 13, 14, 15, 16, 17, 18, 19, 20, 21, 22, 23, 24, 25, 26, 27, 28] rfl rfl rfl rfl (by decide) ?_
  refine vr_icmp_eq (tgt := 681) hF dL_law_676 (by decide) rfl (fun c_0 => ?_) (fun c_0 => ?_)
  · exact hk _ _ _ _ _ _ _ _ (hs)
  · exact absurd (by rw [sr_hist hs (xs (i + 1)) (xs (i + 2)) (xs (i + 3))]) c_0
