section INS
/-- where the k-th of the new list stood -/
def sg (c p0 k : Nat) : Nat := if k < c then k else if k = c then p0 else if k ≤ p0 then k - 1 else k
theorem sg_lt {c p0 k : Nat} (h : p0 ≤ 4) (hk : k < 5) : sg c p0 k < 5 := by unfold sg; repeat (first | omega | split)
theorem sg_inj {c p0 k j : Nat} (hc : c ≤ p0) (h : p0 ≤ 4) (e : sg c p0 k = sg c p0 j) : k = j := by
  unfold sg at e
  repeat (first | omega | split at e)
variable {l : Launch} {d n : Nat} {ws : xW}
def shf (p : Nat → Nat) (B c p0 : Nat) : Nat → Option Nat := fun k => if c < k ∧ k ≤ p0 then some (B + 2 + 2 * p (k - 1)) else some (B + 2 + 2 * p k)
theorem w_insert {B steps : Nat} {L : List Wy} {c : Int} {ft : Nat → Int} {pre : List Nat} (hd : 1 ≤ d) (hW : WLAt ws B L) (hs : srt L) (hB : 14 ≤ B) (h12 : ws 12 = some (0, .inl (ra 9 ft))) (hst : pre.length = steps) (hs9 : steps ≤ 9) (hpre : ∀ (i a : Nat), pre[i]? = some a → ft i = a) (hc0 : 0 ≤ c) (hc9 : c ≤ 900) (hpl : L.length < 5 ∨ ∀ z, L[4]? = some z → c < z.1) : xM l tX7_insert d 0 0 [.ref B, .ref 12, .int (I steps), .int (I c)] n ws (fun r n' ws' => r = none ∧ n' = n ∧ WLAt ws' B (ins5 L (c, pre)) ∧ ∀ q, q < B ∨ B + 12 ≤ q → ws' q = ws q) := by
  obtain ⟨p, ln, co, fa, ⟨c1, c2, c3, c4⟩, d1, d2, d3, d4⟩ := hW
  generalize hQ : (fun (r : Option Value) (n' : Nat) (ws' : xW) => r = none ∧ n' = n ∧ WLAt ws' B (ins5 L (c, pre)) ∧ ∀ q, q < B ∨ B + 12 ≤ q → ws' q = ws q) = Q
  have hcl := cnt_le L c
  have hc4 : cnt L c ≤ 4 := by
    rcases hpl with h | h
    · omega
    · by_cases h5 : L.length < 5
      · omega
      · have h6 : L[4]? = some L[4] := List.getElem?_eq_getElem (by omega)
        have h7 := h _ h6
        by_cases h8 : cnt L c ≤ 4
        · exact h8
        · have := cnt_lt (c := c) h6 (by omega)
          omega
  obtain ⟨p0, hp0⟩ : ∃ p0 : Nat, p0 = min L.length 4 := ⟨_, rfl⟩
  have hpp : p p0 < 5 := d1 p0 (by omega)
  have g0 : (ro 5 (fun k => some (B + 2 + 2 * p k))).getD (I p0).toNatClampNeg none = some (B + 2 + 2 * p p0) := by
    have := ro_get (n := 5) (f := fun k => some (B + 2 + 2 * p k)) (j := p0) (by omega) (by omega) (by omega)
    rw [this, Int.toNat_natCast]
  have hmin : (if I 4 < I (L.length : Nat) then I 4 else I (L.length : Nat)) = I p0 := by
    simp (disch := omega) only [I_lt, I_le, I_eq, I_in, I_add, I_sub, I_mul, I_b0, I_b01, b_eq0, b_eq1, Classical.not_not, ra_get, ra_set, ra_len, Int.toNat_natCast, eq_self, true_and, and_true, ne_eq, not_false_eq_true, not_true_eq_false]
    by_cases h : (4 : Int) < (L.length : Int)
    · rw [if_pos h]; congr 1; omega
    · rw [if_neg h]; congr 1; omega
  refine xM.of (by decide) (Nat.le_of_ble_eq_true rfl) ?_
  simp only [lv_args, cat_int, cat_ref, cat_long, reduceIte, Nat.reduceEqDiff, Nat.reduceAdd, Nat.one_ne_zero, Nat.reduceLeDiff]
  refine xN_ok (t := tX7_insert) rfl (T := AX7_insert) aX7_insert 1 _ _ _ _ _ _ _ ?_
  simp only [AX7_insert, oX7_insert_0, oX7_insert_8, oX7_insert_19, oX7_insert_62, oX7_insert_70, oX7_insert_90, rX7_insert, x_iconst, x_bipush, x_sipush, x_lconst, x_iload, x_lload, x_aload, x_istore, x_lstore, x_astore, x_iinc, x_iadd, x_isub, x_imul, x_iand, x_ior, x_ixor, x_ishl, x_ishr, x_ineg, x_ladd, x_lsub, x_lmul, x_ldiv, x_lrem, x_lcmp, x_i2l, x_l2i, x_dup, x_dup_x1, x_dup2, x_if_eq, x_if_ne, x_if_lt, x_if_ge, x_if_gt, x_if_le, x_ic_eq, x_ic_ne, x_ic_lt, x_ic_ge, x_ic_gt, x_ic_le, x_goto, x_ireturn, x_lreturn, x_return, x_getfield, x_putfield, x_iaload, x_baload, x_laload, x_aaload, x_iastore, x_bastore, x_lastore, x_aastore, x_arraylength, x_newarray, x_anewarray, x_new, x_iload_0, x_iload_1, x_iload_2, x_iload_3, x_lload_0, x_lload_1, x_lload_2, x_lload_3, x_aload_0, x_aload_1, x_aload_2, x_aload_3, x_istore_0, x_istore_1, x_istore_2, x_istore_3, x_lstore_0, x_lstore_1, x_lstore_2, x_lstore_3, x_astore_0, x_astore_1, x_astore_2, x_astore_3, q_bipush_m3, q_bipush_m2, q_bipush_6, q_bipush_7, q_bipush_9, q_bipush_10, q_bipush_24, q_bipush_30, q_bipush_48, q_bipush_100, q_sipush_300, q_sipush_1000, q_sipush_24001, q_l0, q_l1, xtc_0_0, xtc_0_1, xtc_0_2, xtc_0_3, xtc_0_4, xtc_0_5, xtc_1_0, xtc_1_1, xtc_1_2, xtc_2_0, xtc_2_1, xtc_3_0, xtc_4_0, xtc_4_1, xtc_4_2, xtc_4_3, xtc_4_4, xtc_4_5, xtc_4_6, xtc_4_7, xtc_4_8, xtc_4_9, xtc_4_10, xtc_4_11, xtc_4_12, xtc_5_0, xtc_5_1, xtc_5_2, xtc_5_3, xtc_5_4, xtc_5_5, xtc_5_6, xtc_6_0, xtc_6_1, xtc_6_2, xtc_7_0, xtc_7_1, xtc_8_0, xtc_8_1, xtc_8_2, xtc_8_3, xtc_9_0, xtc_9_1, xtc_9_2, xtc_9_3, xtc_9_4, xtc_9_5, xtc_9_6, xtc_9_7, xtc_9_8, xtc_9_9, xtc_10_0, xtc_10_1, xtc_10_2, xtc_10_3, xtc_10_4, xtc_10_5, xtc_10_6, xtc_10_7, xtc_10_8, xtc_10_9, xtc_10_10, xtc_10_11, xtc_10_12, xtc_10_13, xtc_10_14, xtc_10_15, xtc_10_16, xtc_10_17, xtc_10_18, xtc_10_19, xtc_10_20, xtc_10_21, xtc_10_22, xtc_10_23, xtc_10_24, xtc_10_25, eq_self, reduceIte, Nat.reduceEqDiff, Nat.reduceAdd, Nat.reduceSub, Nat.zero_ne_one, Nat.one_ne_zero, Nat.succ_ne_zero, Nat.reduceLeDiff, reduceCtorEq, and_true, true_and, and_false, false_and, true_implies, false_implies, implies_true, not_true_eq_false, not_false_eq_true, xN_0, xN_s, xlook_c, xlook_n, xb_nil, xb_cons, xlen, xl_cons, xst_def, xst2_def, xdl_nil, xdl_int, xdl_ref, xdl_long, xrv_some, xfit_int, xfit_long, xfit_ref, cat_int, cat_ref, cat_long, xret_int, xret_bool, or_true, true_or, Option.some.injEq, Value.int.injEq, Value.ref.injEq, Value.long.injEq, List.getElem?_cons_zero, List.getElem?_cons_succ, List.set_cons_zero, List.set_cons_succ, List.length_cons, List.length_nil, xup_xup, Classical.not_not, Nat.reduceLT, Nat.zero_lt_succ, c1]
  refine cX7_insert_5 (by omega) (Nat.le_of_ble_eq_true rfl) ?_
  rw [hmin]
  -- the walk to the left
  have fin : xX l tX7_insert d 0 0 Q 0 0 62 [(0, .ref B), (1, .ref 12), (2, .int (I steps)), (3, .int (I c)), (4, .int (I (cnt L c))), (5, .ref (B + 2 + 2 * p p0))] [] n (xup ws (B + 1) (3, .inr (.inr (.inl (ro 5 (shf p B (cnt L c) p0)))))) := by
    have a1 : ¬ B + 2 + 2 * p p0 = B + 1 := by omega
    have a2 : ¬ B + 2 + 2 * p p0 + 1 = B + 1 := by omega
    have a3 : ¬ 12 = B + 1 := by omega
    have a4 : ¬ B = B + 1 := by omega
    have a5 : ¬ B = B + 2 + 2 * p p0 := by omega
    have a6 : ¬ B = B + 2 + 2 * p p0 + 1 := by omega
    have a7 : ¬ B + 1 = B + 2 + 2 * p p0 := by omega
    have a8 : ¬ B + 1 = B + 2 + 2 * p p0 + 1 := by omega
    have a9 : ¬ B + 1 = B := by omega
    have a10 : ¬ B + 2 + 2 * p p0 = B := by omega
    refine xN_ok (t := tX7_insert) rfl (T := AX7_insert) aX7_insert 1 _ _ _ _ _ _ _ ?_
    simp only [AX7_insert, oX7_insert_0, oX7_insert_8, oX7_insert_19, oX7_insert_62, oX7_insert_70, oX7_insert_90, rX7_insert, x_iconst, x_bipush, x_sipush, x_lconst, x_iload, x_lload, x_aload, x_istore, x_lstore, x_astore, x_iinc, x_iadd, x_isub, x_imul, x_iand, x_ior, x_ixor, x_ishl, x_ishr, x_ineg, x_ladd, x_lsub, x_lmul, x_ldiv, x_lrem, x_lcmp, x_i2l, x_l2i, x_dup, x_dup_x1, x_dup2, x_if_eq, x_if_ne, x_if_lt, x_if_ge, x_if_gt, x_if_le, x_ic_eq, x_ic_ne, x_ic_lt, x_ic_ge, x_ic_gt, x_ic_le, x_goto, x_ireturn, x_lreturn, x_return, x_getfield, x_putfield, x_iaload, x_baload, x_laload, x_aaload, x_iastore, x_bastore, x_lastore, x_aastore, x_arraylength, x_newarray, x_anewarray, x_new, x_iload_0, x_iload_1, x_iload_2, x_iload_3, x_lload_0, x_lload_1, x_lload_2, x_lload_3, x_aload_0, x_aload_1, x_aload_2, x_aload_3, x_istore_0, x_istore_1, x_istore_2, x_istore_3, x_lstore_0, x_lstore_1, x_lstore_2, x_lstore_3, x_astore_0, x_astore_1, x_astore_2, x_astore_3, q_bipush_m3, q_bipush_m2, q_bipush_6, q_bipush_7, q_bipush_9, q_bipush_10, q_bipush_24, q_bipush_30, q_bipush_48, q_bipush_100, q_sipush_300, q_sipush_1000, q_sipush_24001, q_l0, q_l1, xtc_0_0, xtc_0_1, xtc_0_2, xtc_0_3, xtc_0_4, xtc_0_5, xtc_1_0, xtc_1_1, xtc_1_2, xtc_2_0, xtc_2_1, xtc_3_0, xtc_4_0, xtc_4_1, xtc_4_2, xtc_4_3, xtc_4_4, xtc_4_5, xtc_4_6, xtc_4_7, xtc_4_8, xtc_4_9, xtc_4_10, xtc_4_11, xtc_4_12, xtc_5_0, xtc_5_1, xtc_5_2, xtc_5_3, xtc_5_4, xtc_5_5, xtc_5_6, xtc_6_0, xtc_6_1, xtc_6_2, xtc_7_0, xtc_7_1, xtc_8_0, xtc_8_1, xtc_8_2, xtc_8_3, xtc_9_0, xtc_9_1, xtc_9_2, xtc_9_3, xtc_9_4, xtc_9_5, xtc_9_6, xtc_9_7, xtc_9_8, xtc_9_9, xtc_10_0, xtc_10_1, xtc_10_2, xtc_10_3, xtc_10_4, xtc_10_5, xtc_10_6, xtc_10_7, xtc_10_8, xtc_10_9, xtc_10_10, xtc_10_11, xtc_10_12, xtc_10_13, xtc_10_14, xtc_10_15, xtc_10_16, xtc_10_17, xtc_10_18, xtc_10_19, xtc_10_20, xtc_10_21, xtc_10_22, xtc_10_23, xtc_10_24, xtc_10_25, eq_self, reduceIte, Nat.reduceEqDiff, Nat.reduceAdd, Nat.reduceSub, Nat.zero_ne_one, Nat.one_ne_zero, Nat.succ_ne_zero, Nat.reduceLeDiff, reduceCtorEq, and_true, true_and, and_false, false_and, true_implies, false_implies, implies_true, not_true_eq_false, not_false_eq_true, xN_0, xN_s, xlook_c, xlook_n, xb_nil, xb_cons, xlen, xl_cons, xst_def, xst2_def, xdl_nil, xdl_int, xdl_ref, xdl_long, xrv_some, xfit_int, xfit_long, xfit_ref, cat_int, cat_ref, cat_long, xret_int, xret_bool, or_true, true_or, Option.some.injEq, Value.int.injEq, Value.ref.injEq, Value.long.injEq, List.getElem?_cons_zero, List.getElem?_cons_succ, List.set_cons_zero, List.set_cons_succ, List.length_cons, List.length_nil, xup_xup, Classical.not_not, Nat.reduceLT, Nat.zero_lt_succ]
    refine cX7_insert_67 (dc := 0) (cc := 0) (cs := 0) ((xup_ne _ _ a1).trans (c3 _ hpp)) (by omega) (by omega) (by omega) (Nat.le_of_ble_eq_true rfl) (w_copyFrom (by omega) ((xup_ne _ _ a1).trans (c3 _ hpp)) ((xup_ne _ _ a2).trans (c4 _ hpp)) ((xup_ne _ _ a3).trans h12) hs9) ?_
    rintro r n1 ws1 ⟨rfl, rfl, f', hf', rfl⟩
    simp only [Option.toList_some, Option.toList_none, List.cons_append, List.nil_append, Nat.sub_zero, Nat.reduceSub, Nat.sub_self]
    have e6 : (ro 5 (shf p B (cnt L c) p0)).set (I (cnt L c)).toNatClampNeg (some (B + 2 + 2 * p p0)) = ro 5 (fo (shf p B (cnt L c) p0) (cnt L c) (some (B + 2 + 2 * p p0))) := by
      rw [ro_set (by omega) (by omega), Int.toNat_natCast]
    refine xN_ok (t := tX7_insert) rfl (T := AX7_insert) aX7_insert 1 _ _ _ _ _ _ _ ?_
    simp only [AX7_insert, oX7_insert_0, oX7_insert_8, oX7_insert_19, oX7_insert_62, oX7_insert_70, oX7_insert_90, rX7_insert, x_iconst, x_bipush, x_sipush, x_lconst, x_iload, x_lload, x_aload, x_istore, x_lstore, x_astore, x_iinc, x_iadd, x_isub, x_imul, x_iand, x_ior, x_ixor, x_ishl, x_ishr, x_ineg, x_ladd, x_lsub, x_lmul, x_ldiv, x_lrem, x_lcmp, x_i2l, x_l2i, x_dup, x_dup_x1, x_dup2, x_if_eq, x_if_ne, x_if_lt, x_if_ge, x_if_gt, x_if_le, x_ic_eq, x_ic_ne, x_ic_lt, x_ic_ge, x_ic_gt, x_ic_le, x_goto, x_ireturn, x_lreturn, x_return, x_getfield, x_putfield, x_iaload, x_baload, x_laload, x_aaload, x_iastore, x_bastore, x_lastore, x_aastore, x_arraylength, x_newarray, x_anewarray, x_new, x_iload_0, x_iload_1, x_iload_2, x_iload_3, x_lload_0, x_lload_1, x_lload_2, x_lload_3, x_aload_0, x_aload_1, x_aload_2, x_aload_3, x_istore_0, x_istore_1, x_istore_2, x_istore_3, x_lstore_0, x_lstore_1, x_lstore_2, x_lstore_3, x_astore_0, x_astore_1, x_astore_2, x_astore_3, q_bipush_m3, q_bipush_m2, q_bipush_6, q_bipush_7, q_bipush_9, q_bipush_10, q_bipush_24, q_bipush_30, q_bipush_48, q_bipush_100, q_sipush_300, q_sipush_1000, q_sipush_24001, q_l0, q_l1, xtc_0_0, xtc_0_1, xtc_0_2, xtc_0_3, xtc_0_4, xtc_0_5, xtc_1_0, xtc_1_1, xtc_1_2, xtc_2_0, xtc_2_1, xtc_3_0, xtc_4_0, xtc_4_1, xtc_4_2, xtc_4_3, xtc_4_4, xtc_4_5, xtc_4_6, xtc_4_7, xtc_4_8, xtc_4_9, xtc_4_10, xtc_4_11, xtc_4_12, xtc_5_0, xtc_5_1, xtc_5_2, xtc_5_3, xtc_5_4, xtc_5_5, xtc_5_6, xtc_6_0, xtc_6_1, xtc_6_2, xtc_7_0, xtc_7_1, xtc_8_0, xtc_8_1, xtc_8_2, xtc_8_3, xtc_9_0, xtc_9_1, xtc_9_2, xtc_9_3, xtc_9_4, xtc_9_5, xtc_9_6, xtc_9_7, xtc_9_8, xtc_9_9, xtc_10_0, xtc_10_1, xtc_10_2, xtc_10_3, xtc_10_4, xtc_10_5, xtc_10_6, xtc_10_7, xtc_10_8, xtc_10_9, xtc_10_10, xtc_10_11, xtc_10_12, xtc_10_13, xtc_10_14, xtc_10_15, xtc_10_16, xtc_10_17, xtc_10_18, xtc_10_19, xtc_10_20, xtc_10_21, xtc_10_22, xtc_10_23, xtc_10_24, xtc_10_25, eq_self, reduceIte, Nat.reduceEqDiff, Nat.reduceAdd, Nat.reduceSub, Nat.zero_ne_one, Nat.one_ne_zero, Nat.succ_ne_zero, Nat.reduceLeDiff, reduceCtorEq, and_true, true_and, and_false, false_and, true_implies, false_implies, implies_true, not_true_eq_false, not_false_eq_true, xN_0, xN_s, xlook_c, xlook_n, xb_nil, xb_cons, xlen, xl_cons, xst_def, xst2_def, xdl_nil, xdl_int, xdl_ref, xdl_long, xrv_some, xfit_int, xfit_long, xfit_ref, cat_int, cat_ref, cat_long, xret_int, xret_bool, or_true, true_or, Option.some.injEq, Value.int.injEq, Value.ref.injEq, Value.long.injEq, List.getElem?_cons_zero, List.getElem?_cons_succ, List.set_cons_zero, List.set_cons_succ, List.length_cons, List.length_nil, xup_xup, Classical.not_not, Nat.reduceLT, Nat.zero_lt_succ, c1, xup_self, xup_ne, ne_eq, a4, a5, a6, a7, a8, a9, a10, ro_len, e6, xelt, I_add]
    simp (disch := omega) only [I_lt, I_le, I_eq, I_in, I_add, I_sub, I_mul, I_b0, I_b01, b_eq0, b_eq1, Classical.not_not, ra_get, ra_set, ra_len, Int.toNat_natCast, eq_self, true_and, and_true, ne_eq, not_false_eq_true, not_true_eq_false]
    refine ⟨by omega, ⟨_, rfl⟩, ?_⟩
    refine cX7_insert_87 (by omega) (Nat.le_of_ble_eq_true rfl) ?_
    refine xN_ok (t := tX7_insert) rfl (T := AX7_insert) aX7_insert 1 _ _ _ _ _ _ _ ?_
    simp only [AX7_insert, oX7_insert_0, oX7_insert_8, oX7_insert_19, oX7_insert_62, oX7_insert_70, oX7_insert_90, rX7_insert, x_iconst, x_bipush, x_sipush, x_lconst, x_iload, x_lload, x_aload, x_istore, x_lstore, x_astore, x_iinc, x_iadd, x_isub, x_imul, x_iand, x_ior, x_ixor, x_ishl, x_ishr, x_ineg, x_ladd, x_lsub, x_lmul, x_ldiv, x_lrem, x_lcmp, x_i2l, x_l2i, x_dup, x_dup_x1, x_dup2, x_if_eq, x_if_ne, x_if_lt, x_if_ge, x_if_gt, x_if_le, x_ic_eq, x_ic_ne, x_ic_lt, x_ic_ge, x_ic_gt, x_ic_le, x_goto, x_ireturn, x_lreturn, x_return, x_getfield, x_putfield, x_iaload, x_baload, x_laload, x_aaload, x_iastore, x_bastore, x_lastore, x_aastore, x_arraylength, x_newarray, x_anewarray, x_new, x_iload_0, x_iload_1, x_iload_2, x_iload_3, x_lload_0, x_lload_1, x_lload_2, x_lload_3, x_aload_0, x_aload_1, x_aload_2, x_aload_3, x_istore_0, x_istore_1, x_istore_2, x_istore_3, x_lstore_0, x_lstore_1, x_lstore_2, x_lstore_3, x_astore_0, x_astore_1, x_astore_2, x_astore_3, q_bipush_m3, q_bipush_m2, q_bipush_6, q_bipush_7, q_bipush_9, q_bipush_10, q_bipush_24, q_bipush_30, q_bipush_48, q_bipush_100, q_sipush_300, q_sipush_1000, q_sipush_24001, q_l0, q_l1, xtc_0_0, xtc_0_1, xtc_0_2, xtc_0_3, xtc_0_4, xtc_0_5, xtc_1_0, xtc_1_1, xtc_1_2, xtc_2_0, xtc_2_1, xtc_3_0, xtc_4_0, xtc_4_1, xtc_4_2, xtc_4_3, xtc_4_4, xtc_4_5, xtc_4_6, xtc_4_7, xtc_4_8, xtc_4_9, xtc_4_10, xtc_4_11, xtc_4_12, xtc_5_0, xtc_5_1, xtc_5_2, xtc_5_3, xtc_5_4, xtc_5_5, xtc_5_6, xtc_6_0, xtc_6_1, xtc_6_2, xtc_7_0, xtc_7_1, xtc_8_0, xtc_8_1, xtc_8_2, xtc_8_3, xtc_9_0, xtc_9_1, xtc_9_2, xtc_9_3, xtc_9_4, xtc_9_5, xtc_9_6, xtc_9_7, xtc_9_8, xtc_9_9, xtc_10_0, xtc_10_1, xtc_10_2, xtc_10_3, xtc_10_4, xtc_10_5, xtc_10_6, xtc_10_7, xtc_10_8, xtc_10_9, xtc_10_10, xtc_10_11, xtc_10_12, xtc_10_13, xtc_10_14, xtc_10_15, xtc_10_16, xtc_10_17, xtc_10_18, xtc_10_19, xtc_10_20, xtc_10_21, xtc_10_22, xtc_10_23, xtc_10_24, xtc_10_25, eq_self, reduceIte, Nat.reduceEqDiff, Nat.reduceAdd, Nat.reduceSub, Nat.zero_ne_one, Nat.one_ne_zero, Nat.succ_ne_zero, Nat.reduceLeDiff, reduceCtorEq, and_true, true_and, and_false, false_and, true_implies, false_implies, implies_true, not_true_eq_false, not_false_eq_true, xN_0, xN_s, xlook_c, xlook_n, xb_nil, xb_cons, xlen, xl_cons, xst_def, xst2_def, xdl_nil, xdl_int, xdl_ref, xdl_long, xrv_some, xfit_int, xfit_long, xfit_ref, cat_int, cat_ref, cat_long, xret_int, xret_bool, or_true, true_or, Option.some.injEq, Value.int.injEq, Value.ref.injEq, Value.long.injEq, List.getElem?_cons_zero, List.getElem?_cons_succ, List.set_cons_zero, List.set_cons_succ, List.length_cons, List.length_nil, xup_xup, Classical.not_not, Nat.reduceLT, Nat.zero_lt_succ, c1, xup_self, xup_ne, ne_eq, a4, a5, a6, a7, a8, a9, a10]
    rw [← hQ]
    have hlen := ins5_len (l := L) (x := (c, pre))
    refine ⟨rfl, rfl, ⟨fun k => p (sg (cnt L c) p0 k), fun j => if j = p p0 then (steps : Int) else ln j, fun j => if j = p p0 then c else co j, fun j => if j = p p0 then f' else fa j, ⟨?_, ?_, fun j hj => ?_, fun j hj => ?_⟩, fun k hk => d1 _ (sg_lt (by omega) hk), fun k j hk hj e => sg_inj (by omega) (by omega) (d2 _ _ (sg_lt (by omega) hk) (sg_lt (by omega) hj) e), by rw [hlen]; omega, fun k x hx => ?_⟩, fun q hq => ?_⟩
    · rw [xup_self, hlen]
      have : (if I 5 < I ((L.length : Int) + 1) then I 5 else I ((L.length : Int) + 1)) = I (min 5 (L.length + 1) : Nat) := by
        simp (disch := omega) only [I_lt, I_le, I_eq, I_in, I_add, I_sub, I_mul, I_b0, I_b01, b_eq0, b_eq1, Classical.not_not, ra_get, ra_set, ra_len, Int.toNat_natCast, eq_self, true_and, and_true, ne_eq, not_false_eq_true, not_true_eq_false]
        by_cases h : (5 : Int) < (L.length : Int) + 1
        · rw [if_pos h]; congr 1; omega
        · rw [if_neg h]; congr 1; omega
      rw [this]
    · rw [xup_ne _ _ a9, xup_self]
      congr 5
      apply ro_ext
      intro k hk
      unfold fo shf sg
      dsimp only
      by_cases h1 : k = cnt L c
      · rw [if_pos h1, if_neg (by omega), if_pos h1]
      · rw [if_neg h1]
        by_cases h2 : k < cnt L c
        · rw [if_neg (by omega), if_pos h2]
        · rw [if_neg h2, if_neg h1]
          by_cases h3 : k ≤ p0
          · rw [if_pos (by omega), if_pos h3]
          · rw [if_neg (by omega), if_neg h3]
    · rw [xup_ne _ _ (by omega), xup_ne _ _ (by omega)]
      by_cases e : j = p p0
      · subst e; rw [xup_self]; simp
      · rw [xup_ne _ _ (by omega), xup_ne _ _ (by omega), xup_ne _ _ (by omega), c3 j hj]; simp [e]
    · rw [xup_ne _ _ (by omega), xup_ne _ _ (by omega), xup_ne _ _ (by omega)]
      by_cases e : j = p p0
      · subst e; rw [xup_self]; simp
      · rw [xup_ne _ _ (by omega), xup_ne _ _ (by omega), c4 j hj]; simp [e]
    · have hk5 : k < 5 := by
        have := (List.getElem?_eq_some_iff.mp hx).1
        rw [hlen] at this
        omega
      rw [ins5_get hk5] at hx
      have other : ∀ (i : Nat), i < p0 → L[i]? = some x → sg (cnt L c) p0 k = i → (if p (sg (cnt L c) p0 k) = p p0 then c else co (p (sg (cnt L c) p0 k))) = x.1 ∧ (if p (sg (cnt L c) p0 k) = p p0 then (steps : Int) else ln (p (sg (cnt L c) p0 k))) = x.2.length ∧ x.2.length ≤ 9 ∧ 0 ≤ x.1 ∧ x.1 ≤ 900 ∧ ∀ (i a : Nat), x.2[i]? = some a → (if p (sg (cnt L c) p0 k) = p p0 then f' else fa (p (sg (cnt L c) p0 k))) i = a := by
        intro i hi hxi hsi
        rw [hsi]
        have hne : ¬ p i = p p0 := fun e => by have := d2 i p0 (by omega) (by omega) e; omega
        simp only [if_neg hne]
        exact d4 i x hxi
      by_cases h1 : k < cnt L c
      · rw [if_pos h1] at hx
        exact other k (by omega) hx (by unfold sg; rw [if_pos h1])
      · rw [if_neg h1] at hx
        by_cases h2 : k = cnt L c
        · rw [if_pos h2] at hx
          cases hx
          have hsg : sg (cnt L c) p0 k = p0 := by unfold sg; rw [if_neg h1, if_pos h2]
          dsimp only
          rw [hsg]
          simp only [if_true]
          refine ⟨trivial, by rw [hst], by omega, hc0, hc9, fun i a ha => ?_⟩
          have hi := (List.getElem?_eq_some_iff.mp ha).1
          rw [hf' i (by omega)]
          exact hpre i a ha
        · rw [if_neg h2] at hx
          have hkl := (List.getElem?_eq_some_iff.mp hx).1
          exact other (k - 1) (by omega) hx (by unfold sg; rw [if_neg h1, if_neg h2, if_pos (by omega)])
    · simp only [xup]
      repeat rw [if_neg (by omega)]
  have loop : ∀ j q : Nat, q = cnt L c + j → q ≤ p0 → xX l tX7_insert d 0 0 Q 0 0 19 [(0, .ref B), (1, .ref 12), (2, .int (I steps)), (3, .int (I c)), (4, .int (I q)), (5, .ref (B + 2 + 2 * p p0))] [] n (xup ws (B + 1) (3, .inr (.inr (.inl (ro 5 (shf p B q p0)))))) := by
    have n1 : ¬ B = B + 1 := by omega
    intro j
    induction j with
    | zero =>
      intro q hq hqp
      have e : q = cnt L c := by omega
      subst e
      by_cases hz : cnt L c = 0
      · refine xL_ok (t := tX7_insert) rfl (ops := oX7_insert_19) (by decide +kernel) (T := [(0, oX7_insert_0), (8, oX7_insert_8), (62, oX7_insert_62), (70, oX7_insert_70), (90, oX7_insert_90)]) (by decide +kernel) 0 ?_
        simp only [oX7_insert_0, oX7_insert_8, oX7_insert_62, oX7_insert_70, oX7_insert_90, oX7_insert_19, rX7_insert, x_iconst, x_bipush, x_sipush, x_lconst, x_iload, x_lload, x_aload, x_istore, x_lstore, x_astore, x_iinc, x_iadd, x_isub, x_imul, x_iand, x_ior, x_ixor, x_ishl, x_ishr, x_ineg, x_ladd, x_lsub, x_lmul, x_ldiv, x_lrem, x_lcmp, x_i2l, x_l2i, x_dup, x_dup_x1, x_dup2, x_if_eq, x_if_ne, x_if_lt, x_if_ge, x_if_gt, x_if_le, x_ic_eq, x_ic_ne, x_ic_lt, x_ic_ge, x_ic_gt, x_ic_le, x_goto, x_ireturn, x_lreturn, x_return, x_getfield, x_putfield, x_iaload, x_baload, x_laload, x_aaload, x_iastore, x_bastore, x_lastore, x_aastore, x_arraylength, x_newarray, x_anewarray, x_new, x_iload_0, x_iload_1, x_iload_2, x_iload_3, x_lload_0, x_lload_1, x_lload_2, x_lload_3, x_aload_0, x_aload_1, x_aload_2, x_aload_3, x_istore_0, x_istore_1, x_istore_2, x_istore_3, x_lstore_0, x_lstore_1, x_lstore_2, x_lstore_3, x_astore_0, x_astore_1, x_astore_2, x_astore_3, q_bipush_m3, q_bipush_m2, q_bipush_6, q_bipush_7, q_bipush_9, q_bipush_10, q_bipush_24, q_bipush_30, q_bipush_48, q_bipush_100, q_sipush_300, q_sipush_1000, q_sipush_24001, q_l0, q_l1, xtc_0_0, xtc_0_1, xtc_0_2, xtc_0_3, xtc_0_4, xtc_0_5, xtc_1_0, xtc_1_1, xtc_1_2, xtc_2_0, xtc_2_1, xtc_3_0, xtc_4_0, xtc_4_1, xtc_4_2, xtc_4_3, xtc_4_4, xtc_4_5, xtc_4_6, xtc_4_7, xtc_4_8, xtc_4_9, xtc_4_10, xtc_4_11, xtc_4_12, xtc_5_0, xtc_5_1, xtc_5_2, xtc_5_3, xtc_5_4, xtc_5_5, xtc_5_6, xtc_6_0, xtc_6_1, xtc_6_2, xtc_7_0, xtc_7_1, xtc_8_0, xtc_8_1, xtc_8_2, xtc_8_3, xtc_9_0, xtc_9_1, xtc_9_2, xtc_9_3, xtc_9_4, xtc_9_5, xtc_9_6, xtc_9_7, xtc_9_8, xtc_9_9, xtc_10_0, xtc_10_1, xtc_10_2, xtc_10_3, xtc_10_4, xtc_10_5, xtc_10_6, xtc_10_7, xtc_10_8, xtc_10_9, xtc_10_10, xtc_10_11, xtc_10_12, xtc_10_13, xtc_10_14, xtc_10_15, xtc_10_16, xtc_10_17, xtc_10_18, xtc_10_19, xtc_10_20, xtc_10_21, xtc_10_22, xtc_10_23, xtc_10_24, xtc_10_25, eq_self, reduceIte, Nat.reduceEqDiff, Nat.reduceAdd, Nat.reduceSub, Nat.zero_ne_one, Nat.one_ne_zero, Nat.succ_ne_zero, Nat.reduceLeDiff, reduceCtorEq, and_true, true_and, and_false, false_and, true_implies, false_implies, implies_true, not_true_eq_false, not_false_eq_true, xN_0, xN_s, xlook_c, xlook_n, xb_nil, xb_cons, xlen, xl_cons, xst_def, xst2_def, xdl_nil, xdl_int, xdl_ref, xdl_long, xrv_some, xfit_int, xfit_long, xfit_ref, cat_int, cat_ref, cat_long, xret_int, xret_bool, or_true, true_or, Option.some.injEq, Value.int.injEq, Value.ref.injEq, Value.long.injEq, List.getElem?_cons_zero, List.getElem?_cons_succ, List.set_cons_zero, List.set_cons_succ, List.length_cons, List.length_nil, xup_xup, Classical.not_not, Nat.reduceLT, Nat.zero_lt_succ, c1, xup_self, xup_ne, ne_eq, n1, ro_len]
        simp (disch := omega) only [I_lt, I_le, I_eq, I_in, I_add, I_sub, I_mul, I_b0, I_b01, b_eq0, b_eq1, Classical.not_not, ra_get, ra_set, ra_len, Int.toNat_natCast, eq_self, true_and, and_true, ne_eq, not_false_eq_true, not_true_eq_false]
        exact ⟨fun _ => fin, fun h => absurd h (by omega)⟩
      · obtain ⟨k, hk⟩ : ∃ k, cnt L c = k + 1 := ⟨cnt L c - 1, by omega⟩
        have hl : L[k]? = some L[k] := List.getElem?_eq_getElem (by omega)
        obtain ⟨q1, q2, q3, q4, q5, q6⟩ := d4 k _ hl
        have hle := cnt_lt (c := c) hl (by omega)
        have hk5 := d1 k (by omega)
        have e1 : I (cnt L c) - I 1 = I k := by rw [I_sub, hk]; congr 1; omega
        have e2 : (ro 5 (shf p B (cnt L c) p0)).getD (I k).toNatClampNeg none = some (B + 2 + 2 * p k) := by
          rw [ro_get (by omega) (by omega) (by omega), Int.toNat_natCast, shf, if_neg (by omega)]
        have e3 := c3 (p k) hk5
        have e4 : ¬ B + 2 + 2 * p k = B + 1 := by omega
        refine xL_ok (t := tX7_insert) rfl (ops := oX7_insert_19) (by decide +kernel) (T := [(0, oX7_insert_0), (8, oX7_insert_8), (62, oX7_insert_62), (70, oX7_insert_70), (90, oX7_insert_90)]) (by decide +kernel) 0 ?_
        simp only [oX7_insert_0, oX7_insert_8, oX7_insert_62, oX7_insert_70, oX7_insert_90, oX7_insert_19, rX7_insert, x_iconst, x_bipush, x_sipush, x_lconst, x_iload, x_lload, x_aload, x_istore, x_lstore, x_astore, x_iinc, x_iadd, x_isub, x_imul, x_iand, x_ior, x_ixor, x_ishl, x_ishr, x_ineg, x_ladd, x_lsub, x_lmul, x_ldiv, x_lrem, x_lcmp, x_i2l, x_l2i, x_dup, x_dup_x1, x_dup2, x_if_eq, x_if_ne, x_if_lt, x_if_ge, x_if_gt, x_if_le, x_ic_eq, x_ic_ne, x_ic_lt, x_ic_ge, x_ic_gt, x_ic_le, x_goto, x_ireturn, x_lreturn, x_return, x_getfield, x_putfield, x_iaload, x_baload, x_laload, x_aaload, x_iastore, x_bastore, x_lastore, x_aastore, x_arraylength, x_newarray, x_anewarray, x_new, x_iload_0, x_iload_1, x_iload_2, x_iload_3, x_lload_0, x_lload_1, x_lload_2, x_lload_3, x_aload_0, x_aload_1, x_aload_2, x_aload_3, x_istore_0, x_istore_1, x_istore_2, x_istore_3, x_lstore_0, x_lstore_1, x_lstore_2, x_lstore_3, x_astore_0, x_astore_1, x_astore_2, x_astore_3, q_bipush_m3, q_bipush_m2, q_bipush_6, q_bipush_7, q_bipush_9, q_bipush_10, q_bipush_24, q_bipush_30, q_bipush_48, q_bipush_100, q_sipush_300, q_sipush_1000, q_sipush_24001, q_l0, q_l1, xtc_0_0, xtc_0_1, xtc_0_2, xtc_0_3, xtc_0_4, xtc_0_5, xtc_1_0, xtc_1_1, xtc_1_2, xtc_2_0, xtc_2_1, xtc_3_0, xtc_4_0, xtc_4_1, xtc_4_2, xtc_4_3, xtc_4_4, xtc_4_5, xtc_4_6, xtc_4_7, xtc_4_8, xtc_4_9, xtc_4_10, xtc_4_11, xtc_4_12, xtc_5_0, xtc_5_1, xtc_5_2, xtc_5_3, xtc_5_4, xtc_5_5, xtc_5_6, xtc_6_0, xtc_6_1, xtc_6_2, xtc_7_0, xtc_7_1, xtc_8_0, xtc_8_1, xtc_8_2, xtc_8_3, xtc_9_0, xtc_9_1, xtc_9_2, xtc_9_3, xtc_9_4, xtc_9_5, xtc_9_6, xtc_9_7, xtc_9_8, xtc_9_9, xtc_10_0, xtc_10_1, xtc_10_2, xtc_10_3, xtc_10_4, xtc_10_5, xtc_10_6, xtc_10_7, xtc_10_8, xtc_10_9, xtc_10_10, xtc_10_11, xtc_10_12, xtc_10_13, xtc_10_14, xtc_10_15, xtc_10_16, xtc_10_17, xtc_10_18, xtc_10_19, xtc_10_20, xtc_10_21, xtc_10_22, xtc_10_23, xtc_10_24, xtc_10_25, eq_self, reduceIte, Nat.reduceEqDiff, Nat.reduceAdd, Nat.reduceSub, Nat.zero_ne_one, Nat.one_ne_zero, Nat.succ_ne_zero, Nat.reduceLeDiff, reduceCtorEq, and_true, true_and, and_false, false_and, true_implies, false_implies, implies_true, not_true_eq_false, not_false_eq_true, xN_0, xN_s, xlook_c, xlook_n, xb_nil, xb_cons, xlen, xl_cons, xst_def, xst2_def, xdl_nil, xdl_int, xdl_ref, xdl_long, xrv_some, xfit_int, xfit_long, xfit_ref, cat_int, cat_ref, cat_long, xret_int, xret_bool, or_true, true_or, Option.some.injEq, Value.int.injEq, Value.ref.injEq, Value.long.injEq, List.getElem?_cons_zero, List.getElem?_cons_succ, List.set_cons_zero, List.set_cons_succ, List.length_cons, List.length_nil, xup_xup, Classical.not_not, Nat.reduceLT, Nat.zero_lt_succ, c1, xup_self, xup_ne, ne_eq, n1, ro_len, e1, e2, e3, e4]
        rw [q1]
        simp (disch := omega) only [I_lt, I_le, I_eq, I_in, I_add, I_sub, I_mul, I_b0, I_b01, b_eq0, b_eq1, Classical.not_not, ra_get, ra_set, ra_len, Int.toNat_natCast, eq_self, true_and, and_true, ne_eq, not_false_eq_true, not_true_eq_false]
        exact ⟨fun h => absurd h (by omega), fun _ => ⟨by omega, fun _ => fin, fun h => absurd hle h⟩⟩
    | succ j ih =>
      intro q hq hqp
      obtain ⟨k, hk⟩ : ∃ k, q = k + 1 := ⟨q - 1, by omega⟩
      have hl : L[k]? = some L[k] := List.getElem?_eq_getElem (by omega)
      obtain ⟨q1, q2, q3, q4, q5, q6⟩ := d4 k _ hl
      have hge := cnt_ge (c := c) hs hl (by omega)
      have hk5 := d1 k (by omega)
      have e1 : I q - I 1 = I k := by rw [I_sub, hk]; congr 1; omega
      have e2 : (ro 5 (shf p B q p0)).getD (I k).toNatClampNeg none = some (B + 2 + 2 * p k) := by
        rw [ro_get (by omega) (by omega) (by omega), Int.toNat_natCast, shf, if_neg (by omega)]
      have e3 := c3 (p k) hk5
      have e4 : ¬ B + 2 + 2 * p k = B + 1 := by omega
      have e5 : I q + I (-1) = I k := by rw [I_add, hk]; congr 1; omega
      have e6 : (ro 5 (shf p B q p0)).set (I q).toNatClampNeg (some (B + 2 + 2 * p k)) = ro 5 (shf p B k p0) := by
        rw [ro_set (by omega) (by omega), Int.toNat_natCast]
        apply ro_ext
        intro i hi
        unfold fo shf
        by_cases h1 : i = q
        · rw [if_pos h1, if_pos (by omega), h1, hk]; rfl
        · rw [if_neg h1]
          by_cases h2 : q < i ∧ i ≤ p0
          · rw [if_pos h2, if_pos (by omega)]
          · rw [if_neg h2, if_neg (by omega)]
      refine xL_ok (t := tX7_insert) rfl (ops := oX7_insert_19) (by decide +kernel) (T := [(0, oX7_insert_0), (8, oX7_insert_8), (62, oX7_insert_62), (70, oX7_insert_70), (90, oX7_insert_90)]) (by decide +kernel) 0 ?_
      simp only [oX7_insert_0, oX7_insert_8, oX7_insert_62, oX7_insert_70, oX7_insert_90, oX7_insert_19, rX7_insert, x_iconst, x_bipush, x_sipush, x_lconst, x_iload, x_lload, x_aload, x_istore, x_lstore, x_astore, x_iinc, x_iadd, x_isub, x_imul, x_iand, x_ior, x_ixor, x_ishl, x_ishr, x_ineg, x_ladd, x_lsub, x_lmul, x_ldiv, x_lrem, x_lcmp, x_i2l, x_l2i, x_dup, x_dup_x1, x_dup2, x_if_eq, x_if_ne, x_if_lt, x_if_ge, x_if_gt, x_if_le, x_ic_eq, x_ic_ne, x_ic_lt, x_ic_ge, x_ic_gt, x_ic_le, x_goto, x_ireturn, x_lreturn, x_return, x_getfield, x_putfield, x_iaload, x_baload, x_laload, x_aaload, x_iastore, x_bastore, x_lastore, x_aastore, x_arraylength, x_newarray, x_anewarray, x_new, x_iload_0, x_iload_1, x_iload_2, x_iload_3, x_lload_0, x_lload_1, x_lload_2, x_lload_3, x_aload_0, x_aload_1, x_aload_2, x_aload_3, x_istore_0, x_istore_1, x_istore_2, x_istore_3, x_lstore_0, x_lstore_1, x_lstore_2, x_lstore_3, x_astore_0, x_astore_1, x_astore_2, x_astore_3, q_bipush_m3, q_bipush_m2, q_bipush_6, q_bipush_7, q_bipush_9, q_bipush_10, q_bipush_24, q_bipush_30, q_bipush_48, q_bipush_100, q_sipush_300, q_sipush_1000, q_sipush_24001, q_l0, q_l1, xtc_0_0, xtc_0_1, xtc_0_2, xtc_0_3, xtc_0_4, xtc_0_5, xtc_1_0, xtc_1_1, xtc_1_2, xtc_2_0, xtc_2_1, xtc_3_0, xtc_4_0, xtc_4_1, xtc_4_2, xtc_4_3, xtc_4_4, xtc_4_5, xtc_4_6, xtc_4_7, xtc_4_8, xtc_4_9, xtc_4_10, xtc_4_11, xtc_4_12, xtc_5_0, xtc_5_1, xtc_5_2, xtc_5_3, xtc_5_4, xtc_5_5, xtc_5_6, xtc_6_0, xtc_6_1, xtc_6_2, xtc_7_0, xtc_7_1, xtc_8_0, xtc_8_1, xtc_8_2, xtc_8_3, xtc_9_0, xtc_9_1, xtc_9_2, xtc_9_3, xtc_9_4, xtc_9_5, xtc_9_6, xtc_9_7, xtc_9_8, xtc_9_9, xtc_10_0, xtc_10_1, xtc_10_2, xtc_10_3, xtc_10_4, xtc_10_5, xtc_10_6, xtc_10_7, xtc_10_8, xtc_10_9, xtc_10_10, xtc_10_11, xtc_10_12, xtc_10_13, xtc_10_14, xtc_10_15, xtc_10_16, xtc_10_17, xtc_10_18, xtc_10_19, xtc_10_20, xtc_10_21, xtc_10_22, xtc_10_23, xtc_10_24, xtc_10_25, eq_self, reduceIte, Nat.reduceEqDiff, Nat.reduceAdd, Nat.reduceSub, Nat.zero_ne_one, Nat.one_ne_zero, Nat.succ_ne_zero, Nat.reduceLeDiff, reduceCtorEq, and_true, true_and, and_false, false_and, true_implies, false_implies, implies_true, not_true_eq_false, not_false_eq_true, xN_0, xN_s, xlook_c, xlook_n, xb_nil, xb_cons, xlen, xl_cons, xst_def, xst2_def, xdl_nil, xdl_int, xdl_ref, xdl_long, xrv_some, xfit_int, xfit_long, xfit_ref, cat_int, cat_ref, cat_long, xret_int, xret_bool, or_true, true_or, Option.some.injEq, Value.int.injEq, Value.ref.injEq, Value.long.injEq, List.getElem?_cons_zero, List.getElem?_cons_succ, List.set_cons_zero, List.set_cons_succ, List.length_cons, List.length_nil, xup_xup, Classical.not_not, Nat.reduceLT, Nat.zero_lt_succ, c1, xup_self, xup_ne, ne_eq, n1, ro_len, e1, e2, e3, e4, e5, e6, xelt]
      rw [q1]
      simp (disch := omega) only [I_lt, I_le, I_eq, I_in, I_add, I_sub, I_mul, I_b0, I_b01, b_eq0, b_eq1, Classical.not_not, ra_get, ra_set, ra_len, Int.toNat_natCast, eq_self, true_and, and_true, ne_eq, not_false_eq_true, not_true_eq_false]
      refine ⟨fun h => absurd h (by omega), fun _ => ⟨by omega, fun h => absurd h (by omega), fun _ => ⟨by omega, by omega, ?_, ?_⟩⟩⟩
      · exact ⟨_, rfl⟩
      · exact xX.loc _ (by simp) (ih k (by omega) (by omega))
  refine xN_ok (t := tX7_insert) rfl (T := [(0, oX7_insert_0), (8, oX7_insert_8), (62, oX7_insert_62), (70, oX7_insert_70), (90, oX7_insert_90)]) (by decide +kernel) 1 _ _ _ _ _ _ _ ?_
  simp only [oX7_insert_0, oX7_insert_8, oX7_insert_62, oX7_insert_70, oX7_insert_90, rX7_insert, x_iconst, x_bipush, x_sipush, x_lconst, x_iload, x_lload, x_aload, x_istore, x_lstore, x_astore, x_iinc, x_iadd, x_isub, x_imul, x_iand, x_ior, x_ixor, x_ishl, x_ishr, x_ineg, x_ladd, x_lsub, x_lmul, x_ldiv, x_lrem, x_lcmp, x_i2l, x_l2i, x_dup, x_dup_x1, x_dup2, x_if_eq, x_if_ne, x_if_lt, x_if_ge, x_if_gt, x_if_le, x_ic_eq, x_ic_ne, x_ic_lt, x_ic_ge, x_ic_gt, x_ic_le, x_goto, x_ireturn, x_lreturn, x_return, x_getfield, x_putfield, x_iaload, x_baload, x_laload, x_aaload, x_iastore, x_bastore, x_lastore, x_aastore, x_arraylength, x_newarray, x_anewarray, x_new, x_iload_0, x_iload_1, x_iload_2, x_iload_3, x_lload_0, x_lload_1, x_lload_2, x_lload_3, x_aload_0, x_aload_1, x_aload_2, x_aload_3, x_istore_0, x_istore_1, x_istore_2, x_istore_3, x_lstore_0, x_lstore_1, x_lstore_2, x_lstore_3, x_astore_0, x_astore_1, x_astore_2, x_astore_3, q_bipush_m3, q_bipush_m2, q_bipush_6, q_bipush_7, q_bipush_9, q_bipush_10, q_bipush_24, q_bipush_30, q_bipush_48, q_bipush_100, q_sipush_300, q_sipush_1000, q_sipush_24001, q_l0, q_l1, xtc_0_0, xtc_0_1, xtc_0_2, xtc_0_3, xtc_0_4, xtc_0_5, xtc_1_0, xtc_1_1, xtc_1_2, xtc_2_0, xtc_2_1, xtc_3_0, xtc_4_0, xtc_4_1, xtc_4_2, xtc_4_3, xtc_4_4, xtc_4_5, xtc_4_6, xtc_4_7, xtc_4_8, xtc_4_9, xtc_4_10, xtc_4_11, xtc_4_12, xtc_5_0, xtc_5_1, xtc_5_2, xtc_5_3, xtc_5_4, xtc_5_5, xtc_5_6, xtc_6_0, xtc_6_1, xtc_6_2, xtc_7_0, xtc_7_1, xtc_8_0, xtc_8_1, xtc_8_2, xtc_8_3, xtc_9_0, xtc_9_1, xtc_9_2, xtc_9_3, xtc_9_4, xtc_9_5, xtc_9_6, xtc_9_7, xtc_9_8, xtc_9_9, xtc_10_0, xtc_10_1, xtc_10_2, xtc_10_3, xtc_10_4, xtc_10_5, xtc_10_6, xtc_10_7, xtc_10_8, xtc_10_9, xtc_10_10, xtc_10_11, xtc_10_12, xtc_10_13, xtc_10_14, xtc_10_15, xtc_10_16, xtc_10_17, xtc_10_18, xtc_10_19, xtc_10_20, xtc_10_21, xtc_10_22, xtc_10_23, xtc_10_24, xtc_10_25, eq_self, reduceIte, Nat.reduceEqDiff, Nat.reduceAdd, Nat.reduceSub, Nat.zero_ne_one, Nat.one_ne_zero, Nat.succ_ne_zero, Nat.reduceLeDiff, reduceCtorEq, and_true, true_and, and_false, false_and, true_implies, false_implies, implies_true, not_true_eq_false, not_false_eq_true, xN_0, xN_s, xlook_c, xlook_n, xb_nil, xb_cons, xlen, xl_cons, xst_def, xst2_def, xdl_nil, xdl_int, xdl_ref, xdl_long, xrv_some, xfit_int, xfit_long, xfit_ref, cat_int, cat_ref, cat_long, xret_int, xret_bool, or_true, true_or, Option.some.injEq, Value.int.injEq, Value.ref.injEq, Value.long.injEq, List.getElem?_cons_zero, List.getElem?_cons_succ, List.set_cons_zero, List.set_cons_succ, List.length_cons, List.length_nil, xup_xup, Classical.not_not, Nat.reduceLT, Nat.zero_lt_succ, c1, c2, g0, ro_len]
  simp (disch := omega) only [I_lt, I_le, I_eq, I_in, I_add, I_sub, I_mul, I_b0, I_b01, b_eq0, b_eq1, Classical.not_not, ra_get, ra_set, ra_len, Int.toNat_natCast, eq_self, true_and, and_true, ne_eq, not_false_eq_true, not_true_eq_false]
  refine ⟨by omega, ?_⟩
  have := loop (p0 - cnt L c) p0 (by omega) (by omega)
  have es : ro 5 (shf p B p0 p0) = ro 5 (fun k => some (B + 2 + 2 * p k)) := ro_ext (fun i hi => by unfold shf; rw [if_neg (by omega)])
  rw [es, xup_id c2] at this
  exact xX.loc _ (by simp) this
end INS
