section MARC
variable {l : Launch} {d n : Nat} {ws : xW} {S : St} {bw bs : Int}
theorem WF_node (hw : WF S) (h : S.nn < 10) : WF (putNode S) := by
  obtain ⟨h1, h2, h3, h4, h5⟩ := hw
  refine ⟨?_, h2, h3, fun i hi => ?_, fun g hg => ?_⟩
  · show S.nn + 1 ≤ 10; omega
  · obtain ⟨q1, q2, q3, q4, q5, q6, q7, q8, q9⟩ := h4 i hi
    refine ⟨q1, ?_, q3, ?_, q5, q6, q7, q8, q9⟩
    · show S.2 0 i < ((S.nn + 1 : Nat) : Int); omega
    · show S.2 1 i < ((S.nn + 1 : Nat) : Int); omega
  · obtain ⟨q1, q2, q3, q4, q5, q6, q7, q8, q9⟩ := h5 g hg
    refine ⟨q1, ?_, q3, ?_, q5, q6, q7, q8, q9⟩
    · show S.2 4 g < ((S.nn + 1 : Nat) : Int); omega
    · show S.2 5 g < ((S.nn + 1 : Nat) : Int); omega
theorem WF_arc (hw : WF S) {a b c k : Int} (ho : okArc S a b c k) (h : S.na < 24) : WF (putArc S a b c k) := by
  obtain ⟨h1, h2, h3, h4, h5⟩ := hw
  obtain ⟨⟨o1, o2, o3⟩, o4, o5⟩ := ho
  refine ⟨h1, ?_, h3, fun i hi => ?_, h5⟩
  · show S.na + 1 ≤ 24; omega
  · have hi' : i < S.na + 1 := hi
    show 0 ≤ fu (S.2 0) S.na a i ∧ fu (S.2 0) S.na a i < S.nn ∧ 0 ≤ fu (S.2 1) S.na b i ∧ fu (S.2 1) S.na b i < S.nn ∧ fu (S.2 0) S.na a i ≠ fu (S.2 1) S.na b i ∧ 0 ≤ fu (S.2 2) S.na c i ∧ fu (S.2 2) S.na c i ≤ 1000 ∧ 0 ≤ fu (S.2 3) S.na k i ∧ fu (S.2 3) S.na k i ≤ 100
    by_cases e : i = S.na
    · subst e
      simp only [fu_s]
      exact ⟨o2.1, o2.2, o3.1, o3.2, o1, o4.1, o4.2, o5.1, o5.2⟩
    · simp only [fu_n _ _ e]
      exact h4 i (by omega)
theorem WF_good (hw : WF S) {a b c k : Int} (ho : okGood S a b c k) (h : S.ng < 6) : WF (putGood S a b c k) := by
  obtain ⟨h1, h2, h3, h4, h5⟩ := hw
  obtain ⟨⟨o1, o2, o3⟩, o4, o5⟩ := ho
  refine ⟨h1, h2, ?_, h4, fun i hi => ?_⟩
  · show S.ng + 1 ≤ 6; omega
  · have hi' : i < S.ng + 1 := hi
    show 0 ≤ fu (S.2 4) S.ng a i ∧ fu (S.2 4) S.ng a i < S.nn ∧ 0 ≤ fu (S.2 5) S.ng b i ∧ fu (S.2 5) S.ng b i < S.nn ∧ fu (S.2 4) S.ng a i ≠ fu (S.2 5) S.ng b i ∧ 1 ≤ fu (S.2 6) S.ng c i ∧ fu (S.2 6) S.ng c i ≤ 1000 ∧ 0 ≤ fu (S.2 7) S.ng k i ∧ fu (S.2 7) S.ng k i ≤ 1000
    by_cases e : i = S.ng
    · subst e
      simp only [fu_s]
      exact ⟨o2.1, o2.2, o3.1, o3.2, o1, o4.1, o4.2, o5.1, o5.2⟩
    · simp only [fu_n _ _ e]
      exact h5 i (by omega)
theorem WF_cap (hw : WF S) {i : Nat} {v : Int} (h1 : 0 ≤ v) (h2 : v ≤ 1000) : WF (putF S 2 i v) := by
  obtain ⟨a1, a2, a3, a4, a5⟩ := hw
  refine ⟨a1, a2, a3, fun j hj => ?_, a5⟩
  obtain ⟨q1, q2, q3, q4, q5, q6, q7, q8, q9⟩ := a4 j hj
  refine ⟨q1, q2, q3, q4, q5, ?_, ?_, q8, q9⟩
  · show 0 ≤ fu (S.2 2) i v j; unfold fu; split <;> omega
  · show fu (S.2 2) i v j ≤ 1000; unfold fu; split <;> omega
theorem WF_cost (hw : WF S) {i : Nat} {v : Int} (h1 : 0 ≤ v) (h2 : v ≤ 100) : WF (putF S 3 i v) := by
  obtain ⟨a1, a2, a3, a4, a5⟩ := hw
  refine ⟨a1, a2, a3, fun j hj => ?_, a5⟩
  obtain ⟨q1, q2, q3, q4, q5, q6, q7, q8, q9⟩ := a4 j hj
  refine ⟨q1, q2, q3, q4, q5, q6, q7, ?_, ?_⟩
  · show 0 ≤ fu (S.2 3) i v j; unfold fu; split <;> omega
  · show fu (S.2 3) i v j ≤ 100; unfold fu; split <;> omega
theorem WF_dem (hw : WF S) {i : Nat} {v : Int} (h1 : 1 ≤ v) (h2 : v ≤ 1000) : WF (putF S 6 i v) := by
  obtain ⟨a1, a2, a3, a4, a5⟩ := hw
  refine ⟨a1, a2, a3, a4, fun j hj => ?_⟩
  obtain ⟨q1, q2, q3, q4, q5, q6, q7, q8, q9⟩ := a5 j hj
  refine ⟨q1, q2, q3, q4, q5, ?_, ?_, q8, q9⟩
  · show 1 ≤ fu (S.2 6) i v j; unfold fu; split <;> omega
  · show fu (S.2 6) i v j ≤ 1000; unfold fu; split <;> omega
theorem WF_wor (hw : WF S) {i : Nat} {v : Int} (h1 : 0 ≤ v) (h2 : v ≤ 1000) : WF (putF S 7 i v) := by
  obtain ⟨a1, a2, a3, a4, a5⟩ := hw
  refine ⟨a1, a2, a3, a4, fun j hj => ?_⟩
  obtain ⟨q1, q2, q3, q4, q5, q6, q7, q8, q9⟩ := a5 j hj
  refine ⟨q1, q2, q3, q4, q5, q6, q7, ?_, ?_⟩
  · show 0 ≤ fu (S.2 7) i v j; unfold fu; split <;> omega
  · show fu (S.2 7) i v j ≤ 1000; unfold fu; split <;> omega
/-- the ways ask for tails, heads, costs and the goods' ends alone -/
theorem pth_congr {S' : St} (h1 : S'.na = S.na) (h2 : S'.2 0 = S.2 0) (h3 : S'.2 1 = S.2 1) (go : Int) : ∀ (k : Nat) (v : Int) (seen : Nat), pth S' go k v seen = pth S go k v seen
  | 0, v, seen => rfl
  | k + 1, v, seen => by
    unfold pth
    rw [h1, h2, h3]
    simp only [pth_congr h1 h2 h3 go k]
theorem WS_congr {S' : St} (h1 : S'.na = S.na) (h2 : S'.2 0 = S.2 0) (h3 : S'.2 1 = S.2 1) (h4 : S'.2 3 = S.2 3) (h5 : S'.2 4 = S.2 4) (h6 : S'.2 5 = S.2 5) (g : Nat) : WS S' g = WS S g := by
  unfold WS wys pcost
  rw [pth_congr h1 h2 h3, h4, h5, h6]
theorem v_cost (hM : ModAt ws S bw bs) (hw : WF S) (hI : MInv ws S) (hd : 13 ≤ d) {a b : Int} (h1 : -2147483648 ≤ a) (h2 : a < 2147483648) (h3 : -2147483648 ≤ b) (h4 : b < 2147483648) : xM l tX10_cost d 0 0 [.ref 121, .int (I a), .int (I b)] n ws (fun r n' ws' => n' = n ∧ ((¬ ((0 ≤ a ∧ a < S.na) ∧ (0 ≤ b ∧ b ≤ 100)) ∧ r = some (.int (I (-2))) ∧ ws' = ws) ∨ (((0 ≤ a ∧ a < S.na) ∧ (0 ≤ b ∧ b ≤ 100)) ∧ r = some (.int (I (S.2 3 a.toNat))) ∧ ModAt ws' (putF S 3 a.toNat b) bw bs ∧ MInv ws' (putF S 3 a.toNat b) ∧ ∀ q, q ≤ 120 ∨ 136 ≤ q ∨ q = 130 → ws' q = ws q))) := by
  have hM0 := hM
  obtain ⟨m1, m2, m3, m4, m5, m6, m7, m8, m9⟩ := hM
  have hb2 : S.na ≤ 24 := hw.2.1
  refine xM.of (by decide) (Nat.le_of_ble_eq_true rfl) ?_
  simp only [lv_args, cat_int, cat_ref, cat_long, reduceIte, Nat.reduceEqDiff, Nat.reduceAdd, Nat.one_ne_zero, Nat.reduceLeDiff]
  refine xN_ok (t := tX10_cost) rfl (T := AX10_cost) aX10_cost 1 _ _ _ _ _ _ _ ?_
  simp (disch := omega) only [AX10_cost, oX10_cost_0, oX10_cost_10, oX10_cost_20, oX10_cost_23, oX10_cost_26, oX10_cost_44, rX10_cost, x_iconst, x_bipush, x_sipush, x_lconst, x_iload, x_lload, x_aload, x_istore, x_lstore, x_astore, x_iinc, x_iadd, x_isub, x_imul, x_iand, x_ior, x_ixor, x_ishl, x_ishr, x_ineg, x_ladd, x_lsub, x_lmul, x_ldiv, x_lrem, x_lcmp, x_i2l, x_l2i, x_dup, x_dup_x1, x_dup2, x_if_eq, x_if_ne, x_if_lt, x_if_ge, x_if_gt, x_if_le, x_ic_eq, x_ic_ne, x_ic_lt, x_ic_ge, x_ic_gt, x_ic_le, x_goto, x_ireturn, x_lreturn, x_return, x_getfield, x_putfield, x_iaload, x_baload, x_laload, x_aaload, x_iastore, x_bastore, x_lastore, x_aastore, x_arraylength, x_newarray, x_anewarray, x_new, x_iload_0, x_iload_1, x_iload_2, x_iload_3, x_lload_0, x_lload_1, x_lload_2, x_lload_3, x_aload_0, x_aload_1, x_aload_2, x_aload_3, x_istore_0, x_istore_1, x_istore_2, x_istore_3, x_lstore_0, x_lstore_1, x_lstore_2, x_lstore_3, x_astore_0, x_astore_1, x_astore_2, x_astore_3, q_bipush_m3, q_bipush_m2, q_bipush_6, q_bipush_7, q_bipush_9, q_bipush_10, q_bipush_24, q_bipush_30, q_bipush_48, q_bipush_100, q_sipush_300, q_sipush_1000, q_sipush_24001, q_l0, q_l1, xtc_0_0, xtc_0_1, xtc_0_2, xtc_0_3, xtc_0_4, xtc_0_5, xtc_1_0, xtc_1_1, xtc_1_2, xtc_2_0, xtc_2_1, xtc_3_0, xtc_4_0, xtc_4_1, xtc_4_2, xtc_4_3, xtc_4_4, xtc_4_5, xtc_4_6, xtc_4_7, xtc_4_8, xtc_4_9, xtc_4_10, xtc_4_11, xtc_4_12, xtc_5_0, xtc_5_1, xtc_5_2, xtc_5_3, xtc_5_4, xtc_5_5, xtc_5_6, xtc_6_0, xtc_6_1, xtc_6_2, xtc_7_0, xtc_7_1, xtc_8_0, xtc_8_1, xtc_8_2, xtc_8_3, xtc_9_0, xtc_9_1, xtc_9_2, xtc_9_3, xtc_9_4, xtc_9_5, xtc_9_6, xtc_9_7, xtc_9_8, xtc_9_9, xtc_10_0, xtc_10_1, xtc_10_2, xtc_10_3, xtc_10_4, xtc_10_5, xtc_10_6, xtc_10_7, xtc_10_8, xtc_10_9, xtc_10_10, xtc_10_11, xtc_10_12, xtc_10_13, xtc_10_14, xtc_10_15, xtc_10_16, xtc_10_17, xtc_10_18, xtc_10_19, xtc_10_20, xtc_10_21, xtc_10_22, xtc_10_23, xtc_10_24, xtc_10_25, eq_self, reduceIte, Nat.reduceEqDiff, Nat.reduceAdd, Nat.reduceSub, Nat.zero_ne_one, Nat.one_ne_zero, Nat.succ_ne_zero, Nat.reduceLeDiff, reduceCtorEq, and_true, true_and, and_false, false_and, true_implies, false_implies, implies_true, not_true_eq_false, not_false_eq_true, xN_0, xN_s, xlook_c, xlook_n, xb_nil, xb_cons, xlen, xl_cons, xst_def, xst2_def, xdl_nil, xdl_int, xdl_ref, xdl_long, xrv_some, xfit_int, xfit_long, xfit_ref, cat_int, cat_ref, cat_long, xret_int, xret_bool, or_true, true_or, Option.some.injEq, Value.int.injEq, Value.ref.injEq, Value.long.injEq, List.getElem?_cons_zero, List.getElem?_cons_succ, List.set_cons_zero, List.set_cons_succ, List.length_cons, List.length_nil, xup_xup, Classical.not_not, Nat.reduceLT, Nat.zero_lt_succ, xup_self, xup_ne, ne_eq, ra_len, ro_len, ra_get, ro_get, ra_set, ro_set, I_add, I_sub, I_lt, I_le, I_eq, I_in, I_b0, I_b01, b_eq0, b_eq1, Int.toNat_natCast, m1, xup_id m1]
  refine cX10_cost_7 m1 (dc := 1) (cc := 0) (cs := 0) (by omega) (by omega) (by omega) (Nat.le_of_ble_eq_true rfl) (v_noArc hM0 (by omega) hw h1 h2) (pureQ ?_)
  simp only [Option.toList_some, Option.toList_none, List.cons_append, List.nil_append, Nat.sub_zero, Nat.reduceSub, Nat.sub_self]
  refine xN_ok (t := tX10_cost) rfl (T := AX10_cost) aX10_cost 2 _ _ _ _ _ _ _ ?_
  simp (disch := omega) only [AX10_cost, oX10_cost_0, oX10_cost_10, oX10_cost_20, oX10_cost_23, oX10_cost_26, oX10_cost_44, rX10_cost, x_iconst, x_bipush, x_sipush, x_lconst, x_iload, x_lload, x_aload, x_istore, x_lstore, x_astore, x_iinc, x_iadd, x_isub, x_imul, x_iand, x_ior, x_ixor, x_ishl, x_ishr, x_ineg, x_ladd, x_lsub, x_lmul, x_ldiv, x_lrem, x_lcmp, x_i2l, x_l2i, x_dup, x_dup_x1, x_dup2, x_if_eq, x_if_ne, x_if_lt, x_if_ge, x_if_gt, x_if_le, x_ic_eq, x_ic_ne, x_ic_lt, x_ic_ge, x_ic_gt, x_ic_le, x_goto, x_ireturn, x_lreturn, x_return, x_getfield, x_putfield, x_iaload, x_baload, x_laload, x_aaload, x_iastore, x_bastore, x_lastore, x_aastore, x_arraylength, x_newarray, x_anewarray, x_new, x_iload_0, x_iload_1, x_iload_2, x_iload_3, x_lload_0, x_lload_1, x_lload_2, x_lload_3, x_aload_0, x_aload_1, x_aload_2, x_aload_3, x_istore_0, x_istore_1, x_istore_2, x_istore_3, x_lstore_0, x_lstore_1, x_lstore_2, x_lstore_3, x_astore_0, x_astore_1, x_astore_2, x_astore_3, q_bipush_m3, q_bipush_m2, q_bipush_6, q_bipush_7, q_bipush_9, q_bipush_10, q_bipush_24, q_bipush_30, q_bipush_48, q_bipush_100, q_sipush_300, q_sipush_1000, q_sipush_24001, q_l0, q_l1, xtc_0_0, xtc_0_1, xtc_0_2, xtc_0_3, xtc_0_4, xtc_0_5, xtc_1_0, xtc_1_1, xtc_1_2, xtc_2_0, xtc_2_1, xtc_3_0, xtc_4_0, xtc_4_1, xtc_4_2, xtc_4_3, xtc_4_4, xtc_4_5, xtc_4_6, xtc_4_7, xtc_4_8, xtc_4_9, xtc_4_10, xtc_4_11, xtc_4_12, xtc_5_0, xtc_5_1, xtc_5_2, xtc_5_3, xtc_5_4, xtc_5_5, xtc_5_6, xtc_6_0, xtc_6_1, xtc_6_2, xtc_7_0, xtc_7_1, xtc_8_0, xtc_8_1, xtc_8_2, xtc_8_3, xtc_9_0, xtc_9_1, xtc_9_2, xtc_9_3, xtc_9_4, xtc_9_5, xtc_9_6, xtc_9_7, xtc_9_8, xtc_9_9, xtc_10_0, xtc_10_1, xtc_10_2, xtc_10_3, xtc_10_4, xtc_10_5, xtc_10_6, xtc_10_7, xtc_10_8, xtc_10_9, xtc_10_10, xtc_10_11, xtc_10_12, xtc_10_13, xtc_10_14, xtc_10_15, xtc_10_16, xtc_10_17, xtc_10_18, xtc_10_19, xtc_10_20, xtc_10_21, xtc_10_22, xtc_10_23, xtc_10_24, xtc_10_25, eq_self, reduceIte, Nat.reduceEqDiff, Nat.reduceAdd, Nat.reduceSub, Nat.zero_ne_one, Nat.one_ne_zero, Nat.succ_ne_zero, Nat.reduceLeDiff, reduceCtorEq, and_true, true_and, and_false, false_and, true_implies, false_implies, implies_true, not_true_eq_false, not_false_eq_true, xN_0, xN_s, xlook_c, xlook_n, xb_nil, xb_cons, xlen, xl_cons, xst_def, xst2_def, xdl_nil, xdl_int, xdl_ref, xdl_long, xrv_some, xfit_int, xfit_long, xfit_ref, cat_int, cat_ref, cat_long, xret_int, xret_bool, or_true, true_or, Option.some.injEq, Value.int.injEq, Value.ref.injEq, Value.long.injEq, List.getElem?_cons_zero, List.getElem?_cons_succ, List.set_cons_zero, List.set_cons_succ, List.length_cons, List.length_nil, xup_xup, Classical.not_not, Nat.reduceLT, Nat.zero_lt_succ, xup_self, xup_ne, ne_eq, ra_len, ro_len, ra_get, ro_get, ra_set, ro_set, I_add, I_sub, I_lt, I_le, I_eq, I_in, I_b0, I_b01, b_eq0, b_eq1, Int.toNat_natCast]
  refine ⟨fun e => Or.inl (fun q => e q.1), fun e => ?_⟩
  refine cX10_cost_17 (dc := 0) (cc := 0) (cs := 0) (by omega) (by omega) (by omega) (Nat.le_of_ble_eq_true rfl) (w_in l 0 _ _ (by omega) (by omega) (by omega) (by omega) (by omega) (by omega)) (pureQ ?_)
  simp only [Option.toList_some, Option.toList_none, List.cons_append, List.nil_append, Nat.sub_zero, Nat.reduceSub, Nat.sub_self]
  refine xN_ok (t := tX10_cost) rfl (T := AX10_cost) aX10_cost 2 _ _ _ _ _ _ _ ?_
  simp (disch := omega) only [AX10_cost, oX10_cost_0, oX10_cost_10, oX10_cost_20, oX10_cost_23, oX10_cost_26, oX10_cost_44, rX10_cost, x_iconst, x_bipush, x_sipush, x_lconst, x_iload, x_lload, x_aload, x_istore, x_lstore, x_astore, x_iinc, x_iadd, x_isub, x_imul, x_iand, x_ior, x_ixor, x_ishl, x_ishr, x_ineg, x_ladd, x_lsub, x_lmul, x_ldiv, x_lrem, x_lcmp, x_i2l, x_l2i, x_dup, x_dup_x1, x_dup2, x_if_eq, x_if_ne, x_if_lt, x_if_ge, x_if_gt, x_if_le, x_ic_eq, x_ic_ne, x_ic_lt, x_ic_ge, x_ic_gt, x_ic_le, x_goto, x_ireturn, x_lreturn, x_return, x_getfield, x_putfield, x_iaload, x_baload, x_laload, x_aaload, x_iastore, x_bastore, x_lastore, x_aastore, x_arraylength, x_newarray, x_anewarray, x_new, x_iload_0, x_iload_1, x_iload_2, x_iload_3, x_lload_0, x_lload_1, x_lload_2, x_lload_3, x_aload_0, x_aload_1, x_aload_2, x_aload_3, x_istore_0, x_istore_1, x_istore_2, x_istore_3, x_lstore_0, x_lstore_1, x_lstore_2, x_lstore_3, x_astore_0, x_astore_1, x_astore_2, x_astore_3, q_bipush_m3, q_bipush_m2, q_bipush_6, q_bipush_7, q_bipush_9, q_bipush_10, q_bipush_24, q_bipush_30, q_bipush_48, q_bipush_100, q_sipush_300, q_sipush_1000, q_sipush_24001, q_l0, q_l1, xtc_0_0, xtc_0_1, xtc_0_2, xtc_0_3, xtc_0_4, xtc_0_5, xtc_1_0, xtc_1_1, xtc_1_2, xtc_2_0, xtc_2_1, xtc_3_0, xtc_4_0, xtc_4_1, xtc_4_2, xtc_4_3, xtc_4_4, xtc_4_5, xtc_4_6, xtc_4_7, xtc_4_8, xtc_4_9, xtc_4_10, xtc_4_11, xtc_4_12, xtc_5_0, xtc_5_1, xtc_5_2, xtc_5_3, xtc_5_4, xtc_5_5, xtc_5_6, xtc_6_0, xtc_6_1, xtc_6_2, xtc_7_0, xtc_7_1, xtc_8_0, xtc_8_1, xtc_8_2, xtc_8_3, xtc_9_0, xtc_9_1, xtc_9_2, xtc_9_3, xtc_9_4, xtc_9_5, xtc_9_6, xtc_9_7, xtc_9_8, xtc_9_9, xtc_10_0, xtc_10_1, xtc_10_2, xtc_10_3, xtc_10_4, xtc_10_5, xtc_10_6, xtc_10_7, xtc_10_8, xtc_10_9, xtc_10_10, xtc_10_11, xtc_10_12, xtc_10_13, xtc_10_14, xtc_10_15, xtc_10_16, xtc_10_17, xtc_10_18, xtc_10_19, xtc_10_20, xtc_10_21, xtc_10_22, xtc_10_23, xtc_10_24, xtc_10_25, eq_self, reduceIte, Nat.reduceEqDiff, Nat.reduceAdd, Nat.reduceSub, Nat.zero_ne_one, Nat.one_ne_zero, Nat.succ_ne_zero, Nat.reduceLeDiff, reduceCtorEq, and_true, true_and, and_false, false_and, true_implies, false_implies, implies_true, not_true_eq_false, not_false_eq_true, xN_0, xN_s, xlook_c, xlook_n, xb_nil, xb_cons, xlen, xl_cons, xst_def, xst2_def, xdl_nil, xdl_int, xdl_ref, xdl_long, xrv_some, xfit_int, xfit_long, xfit_ref, cat_int, cat_ref, cat_long, xret_int, xret_bool, or_true, true_or, Option.some.injEq, Value.int.injEq, Value.ref.injEq, Value.long.injEq, List.getElem?_cons_zero, List.getElem?_cons_succ, List.set_cons_zero, List.set_cons_succ, List.length_cons, List.length_nil, xup_xup, Classical.not_not, Nat.reduceLT, Nat.zero_lt_succ, xup_self, xup_ne, ne_eq, ra_len, ro_len, ra_get, ro_get, ra_set, ro_set, I_add, I_sub, I_lt, I_le, I_eq, I_in, I_b0, I_b01, b_eq0, b_eq1, Int.toNat_natCast, m1, m5]
  refine ⟨fun e2 => ⟨by omega, by omega, ?_⟩, fun e2 => Or.inl (fun q => e2 q.2)⟩
  have hM1 : ModAt (xup ws 125 (0, .inl (ra 24 (fu (S.2 3) a.toNat b)))) (putF S 3 a.toNat b) bw bs := by
    simp only [ModAt, putF, xup_self, xup_ne, ne_eq, Nat.reduceEqDiff, not_false_eq_true, m1, m2, m3, m4, m5, m6, m7, m8, m9, sF]
    simp
  obtain ⟨F, hX, hD⟩ := hI.keep (ws' := xup ws 125 (0, .inl (ra 24 (fu (S.2 3) a.toNat b)))) (fun q a b => xup_ne _ _ (by omega))
  refine cX10_cost_41 hM1.1 (dc := 12) (cc := 0) (cs := 0) (by omega) (by omega) (by omega) (Nat.le_of_ble_eq_true rfl) (v_layWays (WF_cost hw e2.1 e2.2) (by omega) hM1 hX) ?_
  rintro r n1 ws1 ⟨rfl, rfl, F', c1, c2, c3⟩
  simp only [Option.toList_some, Option.toList_none, List.cons_append, List.nil_append, Nat.sub_zero, Nat.reduceSub, Nat.sub_self]
  refine xN_ok (t := tX10_cost) rfl (T := AX10_cost) aX10_cost 1 _ _ _ _ _ _ _ ?_
  simp (disch := omega) only [AX10_cost, oX10_cost_0, oX10_cost_10, oX10_cost_20, oX10_cost_23, oX10_cost_26, oX10_cost_44, rX10_cost, x_iconst, x_bipush, x_sipush, x_lconst, x_iload, x_lload, x_aload, x_istore, x_lstore, x_astore, x_iinc, x_iadd, x_isub, x_imul, x_iand, x_ior, x_ixor, x_ishl, x_ishr, x_ineg, x_ladd, x_lsub, x_lmul, x_ldiv, x_lrem, x_lcmp, x_i2l, x_l2i, x_dup, x_dup_x1, x_dup2, x_if_eq, x_if_ne, x_if_lt, x_if_ge, x_if_gt, x_if_le, x_ic_eq, x_ic_ne, x_ic_lt, x_ic_ge, x_ic_gt, x_ic_le, x_goto, x_ireturn, x_lreturn, x_return, x_getfield, x_putfield, x_iaload, x_baload, x_laload, x_aaload, x_iastore, x_bastore, x_lastore, x_aastore, x_arraylength, x_newarray, x_anewarray, x_new, x_iload_0, x_iload_1, x_iload_2, x_iload_3, x_lload_0, x_lload_1, x_lload_2, x_lload_3, x_aload_0, x_aload_1, x_aload_2, x_aload_3, x_istore_0, x_istore_1, x_istore_2, x_istore_3, x_lstore_0, x_lstore_1, x_lstore_2, x_lstore_3, x_astore_0, x_astore_1, x_astore_2, x_astore_3, q_bipush_m3, q_bipush_m2, q_bipush_6, q_bipush_7, q_bipush_9, q_bipush_10, q_bipush_24, q_bipush_30, q_bipush_48, q_bipush_100, q_sipush_300, q_sipush_1000, q_sipush_24001, q_l0, q_l1, xtc_0_0, xtc_0_1, xtc_0_2, xtc_0_3, xtc_0_4, xtc_0_5, xtc_1_0, xtc_1_1, xtc_1_2, xtc_2_0, xtc_2_1, xtc_3_0, xtc_4_0, xtc_4_1, xtc_4_2, xtc_4_3, xtc_4_4, xtc_4_5, xtc_4_6, xtc_4_7, xtc_4_8, xtc_4_9, xtc_4_10, xtc_4_11, xtc_4_12, xtc_5_0, xtc_5_1, xtc_5_2, xtc_5_3, xtc_5_4, xtc_5_5, xtc_5_6, xtc_6_0, xtc_6_1, xtc_6_2, xtc_7_0, xtc_7_1, xtc_8_0, xtc_8_1, xtc_8_2, xtc_8_3, xtc_9_0, xtc_9_1, xtc_9_2, xtc_9_3, xtc_9_4, xtc_9_5, xtc_9_6, xtc_9_7, xtc_9_8, xtc_9_9, xtc_10_0, xtc_10_1, xtc_10_2, xtc_10_3, xtc_10_4, xtc_10_5, xtc_10_6, xtc_10_7, xtc_10_8, xtc_10_9, xtc_10_10, xtc_10_11, xtc_10_12, xtc_10_13, xtc_10_14, xtc_10_15, xtc_10_16, xtc_10_17, xtc_10_18, xtc_10_19, xtc_10_20, xtc_10_21, xtc_10_22, xtc_10_23, xtc_10_24, xtc_10_25, eq_self, reduceIte, Nat.reduceEqDiff, Nat.reduceAdd, Nat.reduceSub, Nat.zero_ne_one, Nat.one_ne_zero, Nat.succ_ne_zero, Nat.reduceLeDiff, reduceCtorEq, and_true, true_and, and_false, false_and, true_implies, false_implies, implies_true, not_true_eq_false, not_false_eq_true, xN_0, xN_s, xlook_c, xlook_n, xb_nil, xb_cons, xlen, xl_cons, xst_def, xst2_def, xdl_nil, xdl_int, xdl_ref, xdl_long, xrv_some, xfit_int, xfit_long, xfit_ref, cat_int, cat_ref, cat_long, xret_int, xret_bool, or_true, true_or, Option.some.injEq, Value.int.injEq, Value.ref.injEq, Value.long.injEq, List.getElem?_cons_zero, List.getElem?_cons_succ, List.set_cons_zero, List.set_cons_succ, List.length_cons, List.length_nil, xup_xup, Classical.not_not, Nat.reduceLT, Nat.zero_lt_succ, xup_self, xup_ne, ne_eq, ra_len, ro_len, ra_get, ro_get, ra_set, ro_set, I_add, I_sub, I_lt, I_le, I_eq, I_in, I_b0, I_b01, b_eq0, b_eq1, Int.toNat_natCast]
  exact Or.inr ⟨⟨e, e2⟩, hM1.keep (fun q a b => c3 q (by omega)), ⟨F', c1, c2⟩, fun q hq => (c3 q (by omega)).trans (xup_ne _ _ (by omega))⟩
end MARC
