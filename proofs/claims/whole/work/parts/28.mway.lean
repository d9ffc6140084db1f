/-! the reference's ways -/
section MW
variable {l : Launch} {d n : Nat} {ws : xW} {S : St} {bw bs : Int}
/-- many, wayArcs, wayLength, wayCost, path: places 131 .. 135 -/
def MWx (ws : xW) (F : Nat → Nat → Int) : Prop := ws 131 = some (0, .inl (ra 6 (F 0))) ∧ ws 132 = some (0, .inl (ra 300 (F 1))) ∧ ws 133 = some (0, .inl (ra 30 (F 2))) ∧ ws 134 = some (0, .inl (ra 30 (F 3))) ∧ ws 135 = some (0, .inl (ra 10 (F 4)))
def MWd (g : Nat) (L : List Wy) (F : Nat → Nat → Int) : Prop := F 0 g = L.length ∧ L.length ≤ 5 ∧ ∀ (k : Nat) (x : Wy), L[k]? = some x → F 3 (5 * g + k) = x.1 ∧ F 2 (5 * g + k) = x.2.length ∧ x.2.length ≤ 9 ∧ 0 ≤ x.1 ∧ x.1 ≤ 900 ∧ ∀ (i a : Nat), x.2[i]? = some a → F 1 (10 * (5 * g + k) + i) = a
/-- one row of numbers ahead of another, at a place of the other -/
def lexb (y p : List Nat) : Prop := ∃ (k a b : Nat), y[k]? = some a ∧ p[k]? = some b ∧ a < b ∧ ∀ j, j < k → y[j]? = p[j]?
theorem lexb.app {y p : List Nat} (h : lexb y p) (q : List Nat) : lexb y (p ++ q) := by
  obtain ⟨k, a, b, h1, h2, h3, h4⟩ := h
  have hk := (List.getElem?_eq_some_iff.mp h2).1
  exact ⟨k, a, b, h1, by rw [List.getElem?_append_left hk]; exact h2, h3, fun j hj => by rw [List.getElem?_append_left (by omega)]; exact h4 j hj⟩
theorem lexb.arc {pre q : List Nat} {i0 i : Nat} (h : i0 < i) : lexb ((pre ++ [i0]) ++ q) (pre ++ [i]) := by
  refine ⟨pre.length, i0, i, ?_, ?_, h, fun j hj => ?_⟩
  · rw [List.getElem?_append_left (by simp)]; simp
  · simp
  · rw [List.getElem?_append_left (by simp; omega), List.getElem?_append_left (by omega), List.getElem?_append_left (by omega)]
theorem fold_mem : ∀ (xs : List Wy) {L : List Wy} {y : Wy}, y ∈ xs.foldl ins5 L → y ∈ L ∨ y ∈ xs
  | [], _, _, h => Or.inl h
  | x :: xs, L, y, h => by
    rcases fold_mem xs h with h1 | h1
    · rcases insS_mem.mp (List.mem_of_mem_take h1) with h2 | h2
      · exact Or.inr (by rw [h2]; exact List.mem_cons_self)
      · exact Or.inl h2
    · exact Or.inr (List.mem_cons_of_mem _ h1)
theorem wyi_lex {go v : Int} {k seen : Nat} {cost : Int} {pre : List Nat} {i : Nat} {y : Wy} (h : y ∈ wyi S go k v seen cost pre i) : lexb y.2 (pre ++ [i]) := by
  obtain ⟨i0, hi0, hy⟩ := List.mem_flatMap.mp h
  split at hy
  · obtain ⟨p, -, rfl⟩ := List.mem_map.mp hy
    exact lexb.arc (List.mem_range.mp hi0)
  · simp at hy
theorem v_isAhead {F : Nat → Nat → Int} {g k : Nat} {L : List Wy} {x : Wy} {sum : Int} {pre : List Nat} {nn : Int} (hM : ModAt ws S bw bs) (hx : MWx ws F) (hD : MWd g L F) (hg : g < 6) (hk : L[k]? = some x) (hpre : ∀ (i a : Nat), pre[i]? = some a → F 4 i = a) (hp9 : pre.length ≤ 9) (ha : ∀ (i a : Nat), pre[i]? = some a → a < 24) (hxa : ∀ (i a : Nat), x.2[i]? = some a → a < 24) (h0 : 0 ≤ sum) (h9 : sum ≤ 900) (hlex : lexb x.2 pre) : xM l tX10_isAhead d 0 0 [.ref 121, .int (I nn), .int (I sum), .int (I (5 * g + k : Nat))] n ws (fun r n' ws' => r = some (.int (I (if sum < x.1 then 1 else 0))) ∧ n' = n ∧ ws' = ws) := by
  generalize hQ : (fun (r : Option Value) (n' : Nat) (ws' : xW) => r = some (.int (I (if sum < x.1 then 1 else 0))) ∧ n' = n ∧ ws' = ws) = Q
  obtain ⟨m1, -⟩ := hM
  obtain ⟨x1, x2, x3, x4, x5⟩ := hx
  obtain ⟨d1, d2, d3⟩ := hD
  obtain ⟨q1, q2, q3, q4, q5, q6⟩ := d3 k x hk
  have hkl := (List.getElem?_eq_some_iff.mp hk).1
  have hkc : F 3 ((5 * (g : Int) + k)).toNat = x.1 := by rw [show ((5 * (g : Int) + k)).toNat = 5 * g + k by omega]; exact q1
  obtain ⟨k0, a, b, l1, l2, l3, l4⟩ := hlex
  have hk0 := (List.getElem?_eq_some_iff.mp l1).1
  have hk1 := (List.getElem?_eq_some_iff.mp l2).1
  have hcast : ((5 * g + k : Nat) : Int) = 5 * (g : Int) + k := by omega
  have ix : ∀ i : Nat, (10 * (5 * (g : Int) + k) + i).toNat = 10 * (5 * g + k) + i := fun i => by omega
  have loop : ∀ j i : Nat, i + j = k0 → sum = x.1 → xX l tX10_isAhead d 0 0 Q 0 0 29 [(0, .ref 121), (2, .int (I sum)), (3, .int (I (5 * (g : Int) + k))), (4, .int (I i))] [] n ws := by
    intro j
    induction j with
    | zero =>
      intro i hi hs
      have e : i = k0 := by omega
      subst e
      have e1 := hpre i b l2
      have e2 := q6 i a l1
      have hb := ha i b l2
      refine xL_ok (t := tX10_isAhead) rfl (ops := oX10_isAhead_29) (by decide +kernel) (T := [(0, oX10_isAhead_0), (24, oX10_isAhead_24), (25, oX10_isAhead_25), (26, oX10_isAhead_26), (57, oX10_isAhead_57), (83, oX10_isAhead_83), (84, oX10_isAhead_84)]) (by decide +kernel) 3 ?_
      simp (disch := omega) only [oX10_isAhead_0, oX10_isAhead_24, oX10_isAhead_25, oX10_isAhead_26, oX10_isAhead_57, oX10_isAhead_83, oX10_isAhead_84, oX10_isAhead_29, rX10_isAhead, x_iconst, x_bipush, x_sipush, x_lconst, x_iload, x_lload, x_aload, x_istore, x_lstore, x_astore, x_iinc, x_iadd, x_isub, x_imul, x_iand, x_ior, x_ixor, x_ishl, x_ishr, x_ineg, x_ladd, x_lsub, x_lmul, x_ldiv, x_lrem, x_lcmp, x_i2l, x_l2i, x_dup, x_dup_x1, x_dup2, x_if_eq, x_if_ne, x_if_lt, x_if_ge, x_if_gt, x_if_le, x_ic_eq, x_ic_ne, x_ic_lt, x_ic_ge, x_ic_gt, x_ic_le, x_goto, x_ireturn, x_lreturn, x_return, x_getfield, x_putfield, x_iaload, x_baload, x_laload, x_aaload, x_iastore, x_bastore, x_lastore, x_aastore, x_arraylength, x_newarray, x_anewarray, x_new, x_iload_0, x_iload_1, x_iload_2, x_iload_3, x_lload_0, x_lload_1, x_lload_2, x_lload_3, x_aload_0, x_aload_1, x_aload_2, x_aload_3, x_istore_0, x_istore_1, x_istore_2, x_istore_3, x_lstore_0, x_lstore_1, x_lstore_2, x_lstore_3, x_astore_0, x_astore_1, x_astore_2, x_astore_3, q_bipush_m3, q_bipush_m2, q_bipush_6, q_bipush_7, q_bipush_9, q_bipush_10, q_bipush_24, q_bipush_30, q_bipush_48, q_bipush_100, q_sipush_300, q_sipush_1000, q_sipush_24001, q_l0, q_l1, xtc_0_0, xtc_0_1, xtc_0_2, xtc_0_3, xtc_0_4, xtc_0_5, xtc_1_0, xtc_1_1, xtc_1_2, xtc_2_0, xtc_2_1, xtc_3_0, xtc_4_0, xtc_4_1, xtc_4_2, xtc_4_3, xtc_4_4, xtc_4_5, xtc_4_6, xtc_4_7, xtc_4_8, xtc_4_9, xtc_4_10, xtc_4_11, xtc_4_12, xtc_5_0, xtc_5_1, xtc_5_2, xtc_5_3, xtc_5_4, xtc_5_5, xtc_5_6, xtc_6_0, xtc_6_1, xtc_6_2, xtc_7_0, xtc_7_1, xtc_8_0, xtc_8_1, xtc_8_2, xtc_8_3, xtc_9_0, xtc_9_1, xtc_9_2, xtc_9_3, xtc_9_4, xtc_9_5, xtc_9_6, xtc_9_7, xtc_9_8, xtc_9_9, xtc_10_0, xtc_10_1, xtc_10_2, xtc_10_3, xtc_10_4, xtc_10_5, xtc_10_6, xtc_10_7, xtc_10_8, xtc_10_9, xtc_10_10, xtc_10_11, xtc_10_12, xtc_10_13, xtc_10_14, xtc_10_15, xtc_10_16, xtc_10_17, xtc_10_18, xtc_10_19, xtc_10_20, xtc_10_21, xtc_10_22, xtc_10_23, xtc_10_24, xtc_10_25, eq_self, reduceIte, Nat.reduceEqDiff, Nat.reduceAdd, Nat.reduceSub, Nat.zero_ne_one, Nat.one_ne_zero, Nat.succ_ne_zero, Nat.reduceLeDiff, reduceCtorEq, and_true, true_and, and_false, false_and, true_implies, false_implies, implies_true, not_true_eq_false, not_false_eq_true, xN_0, xN_s, xlook_c, xlook_n, xb_nil, xb_cons, xlen, xl_cons, xst_def, xst2_def, xdl_nil, xdl_int, xdl_ref, xdl_long, xrv_some, xfit_int, xfit_long, xfit_ref, cat_int, cat_ref, cat_long, xret_int, xret_bool, or_true, true_or, Option.some.injEq, Value.int.injEq, Value.ref.injEq, Value.long.injEq, List.getElem?_cons_zero, List.getElem?_cons_succ, List.set_cons_zero, List.set_cons_succ, List.length_cons, List.length_nil, xup_xup, Classical.not_not, Nat.reduceLT, Nat.zero_lt_succ, xup_self, xup_ne, ne_eq, ra_len, ro_len, ra_get, ro_get, ra_set, ro_set, I_add, I_sub, I_lt, I_le, I_eq, I_in, I_b0, I_b01, b_eq0, b_eq1, Int.toNat_natCast, m1, x2, x5, I_mul, ix, e1, e2]
      refine ⟨by omega, by omega, fun _ => ⟨by omega, by omega, fun _ => ?_, fun h => absurd h (by omega)⟩, fun h => absurd h (by omega)⟩
      rw [← hQ, if_neg (by omega)]
      exact ⟨rfl, rfl, rfl⟩
    | succ j ih =>
      intro i hi hs
      have h5 : x.2[i]? = some x.2[i] := List.getElem?_eq_getElem (by omega)
      have h6 := l4 i (by omega)
      rw [h5] at h6
      have e1 := hpre i _ h6.symm
      have e2 := q6 i _ h5
      have hb := hxa i _ h5
      refine xL_ok (t := tX10_isAhead) rfl (ops := oX10_isAhead_29) (by decide +kernel) (T := [(0, oX10_isAhead_0), (24, oX10_isAhead_24), (25, oX10_isAhead_25), (26, oX10_isAhead_26), (57, oX10_isAhead_57), (83, oX10_isAhead_83), (84, oX10_isAhead_84)]) (by decide +kernel) 0 ?_
      simp (disch := omega) only [oX10_isAhead_0, oX10_isAhead_24, oX10_isAhead_25, oX10_isAhead_26, oX10_isAhead_57, oX10_isAhead_83, oX10_isAhead_84, oX10_isAhead_29, rX10_isAhead, x_iconst, x_bipush, x_sipush, x_lconst, x_iload, x_lload, x_aload, x_istore, x_lstore, x_astore, x_iinc, x_iadd, x_isub, x_imul, x_iand, x_ior, x_ixor, x_ishl, x_ishr, x_ineg, x_ladd, x_lsub, x_lmul, x_ldiv, x_lrem, x_lcmp, x_i2l, x_l2i, x_dup, x_dup_x1, x_dup2, x_if_eq, x_if_ne, x_if_lt, x_if_ge, x_if_gt, x_if_le, x_ic_eq, x_ic_ne, x_ic_lt, x_ic_ge, x_ic_gt, x_ic_le, x_goto, x_ireturn, x_lreturn, x_return, x_getfield, x_putfield, x_iaload, x_baload, x_laload, x_aaload, x_iastore, x_bastore, x_lastore, x_aastore, x_arraylength, x_newarray, x_anewarray, x_new, x_iload_0, x_iload_1, x_iload_2, x_iload_3, x_lload_0, x_lload_1, x_lload_2, x_lload_3, x_aload_0, x_aload_1, x_aload_2, x_aload_3, x_istore_0, x_istore_1, x_istore_2, x_istore_3, x_lstore_0, x_lstore_1, x_lstore_2, x_lstore_3, x_astore_0, x_astore_1, x_astore_2, x_astore_3, q_bipush_m3, q_bipush_m2, q_bipush_6, q_bipush_7, q_bipush_9, q_bipush_10, q_bipush_24, q_bipush_30, q_bipush_48, q_bipush_100, q_sipush_300, q_sipush_1000, q_sipush_24001, q_l0, q_l1, xtc_0_0, xtc_0_1, xtc_0_2, xtc_0_3, xtc_0_4, xtc_0_5, xtc_1_0, xtc_1_1, xtc_1_2, xtc_2_0, xtc_2_1, xtc_3_0, xtc_4_0, xtc_4_1, xtc_4_2, xtc_4_3, xtc_4_4, xtc_4_5, xtc_4_6, xtc_4_7, xtc_4_8, xtc_4_9, xtc_4_10, xtc_4_11, xtc_4_12, xtc_5_0, xtc_5_1, xtc_5_2, xtc_5_3, xtc_5_4, xtc_5_5, xtc_5_6, xtc_6_0, xtc_6_1, xtc_6_2, xtc_7_0, xtc_7_1, xtc_8_0, xtc_8_1, xtc_8_2, xtc_8_3, xtc_9_0, xtc_9_1, xtc_9_2, xtc_9_3, xtc_9_4, xtc_9_5, xtc_9_6, xtc_9_7, xtc_9_8, xtc_9_9, xtc_10_0, xtc_10_1, xtc_10_2, xtc_10_3, xtc_10_4, xtc_10_5, xtc_10_6, xtc_10_7, xtc_10_8, xtc_10_9, xtc_10_10, xtc_10_11, xtc_10_12, xtc_10_13, xtc_10_14, xtc_10_15, xtc_10_16, xtc_10_17, xtc_10_18, xtc_10_19, xtc_10_20, xtc_10_21, xtc_10_22, xtc_10_23, xtc_10_24, xtc_10_25, eq_self, reduceIte, Nat.reduceEqDiff, Nat.reduceAdd, Nat.reduceSub, Nat.zero_ne_one, Nat.one_ne_zero, Nat.succ_ne_zero, Nat.reduceLeDiff, reduceCtorEq, and_true, true_and, and_false, false_and, true_implies, false_implies, implies_true, not_true_eq_false, not_false_eq_true, xN_0, xN_s, xlook_c, xlook_n, xb_nil, xb_cons, xlen, xl_cons, xst_def, xst2_def, xdl_nil, xdl_int, xdl_ref, xdl_long, xrv_some, xfit_int, xfit_long, xfit_ref, cat_int, cat_ref, cat_long, xret_int, xret_bool, or_true, true_or, Option.some.injEq, Value.int.injEq, Value.ref.injEq, Value.long.injEq, List.getElem?_cons_zero, List.getElem?_cons_succ, List.set_cons_zero, List.set_cons_succ, List.length_cons, List.length_nil, xup_xup, Classical.not_not, Nat.reduceLT, Nat.zero_lt_succ, xup_self, xup_ne, ne_eq, ra_len, ro_len, ra_get, ro_get, ra_set, ro_set, I_add, I_sub, I_lt, I_le, I_eq, I_in, I_b0, I_b01, b_eq0, b_eq1, Int.toNat_natCast, m1, x2, x5, I_mul, ix, e1, e2]
      refine ⟨by omega, by omega, ?_⟩
      exact xX.loc _ (by simp) (ih (i + 1) (by omega) hs)
  rw [hcast]
  refine xM.of (by decide) (Nat.le_of_ble_eq_true rfl) ?_
  simp only [lv_args, cat_int, cat_ref, cat_long, reduceIte, Nat.reduceEqDiff, Nat.reduceAdd, Nat.one_ne_zero, Nat.reduceLeDiff]
  refine xN_ok (t := tX10_isAhead) rfl (T := [(0, oX10_isAhead_0), (24, oX10_isAhead_24), (25, oX10_isAhead_25), (26, oX10_isAhead_26), (57, oX10_isAhead_57), (83, oX10_isAhead_83), (84, oX10_isAhead_84)]) (by decide +kernel) 4 _ _ _ _ _ _ _ ?_
  simp (disch := omega) only [oX10_isAhead_0, oX10_isAhead_24, oX10_isAhead_25, oX10_isAhead_26, oX10_isAhead_57, oX10_isAhead_83, oX10_isAhead_84, rX10_isAhead, x_iconst, x_bipush, x_sipush, x_lconst, x_iload, x_lload, x_aload, x_istore, x_lstore, x_astore, x_iinc, x_iadd, x_isub, x_imul, x_iand, x_ior, x_ixor, x_ishl, x_ishr, x_ineg, x_ladd, x_lsub, x_lmul, x_ldiv, x_lrem, x_lcmp, x_i2l, x_l2i, x_dup, x_dup_x1, x_dup2, x_if_eq, x_if_ne, x_if_lt, x_if_ge, x_if_gt, x_if_le, x_ic_eq, x_ic_ne, x_ic_lt, x_ic_ge, x_ic_gt, x_ic_le, x_goto, x_ireturn, x_lreturn, x_return, x_getfield, x_putfield, x_iaload, x_baload, x_laload, x_aaload, x_iastore, x_bastore, x_lastore, x_aastore, x_arraylength, x_newarray, x_anewarray, x_new, x_iload_0, x_iload_1, x_iload_2, x_iload_3, x_lload_0, x_lload_1, x_lload_2, x_lload_3, x_aload_0, x_aload_1, x_aload_2, x_aload_3, x_istore_0, x_istore_1, x_istore_2, x_istore_3, x_lstore_0, x_lstore_1, x_lstore_2, x_lstore_3, x_astore_0, x_astore_1, x_astore_2, x_astore_3, q_bipush_m3, q_bipush_m2, q_bipush_6, q_bipush_7, q_bipush_9, q_bipush_10, q_bipush_24, q_bipush_30, q_bipush_48, q_bipush_100, q_sipush_300, q_sipush_1000, q_sipush_24001, q_l0, q_l1, xtc_0_0, xtc_0_1, xtc_0_2, xtc_0_3, xtc_0_4, xtc_0_5, xtc_1_0, xtc_1_1, xtc_1_2, xtc_2_0, xtc_2_1, xtc_3_0, xtc_4_0, xtc_4_1, xtc_4_2, xtc_4_3, xtc_4_4, xtc_4_5, xtc_4_6, xtc_4_7, xtc_4_8, xtc_4_9, xtc_4_10, xtc_4_11, xtc_4_12, xtc_5_0, xtc_5_1, xtc_5_2, xtc_5_3, xtc_5_4, xtc_5_5, xtc_5_6, xtc_6_0, xtc_6_1, xtc_6_2, xtc_7_0, xtc_7_1, xtc_8_0, xtc_8_1, xtc_8_2, xtc_8_3, xtc_9_0, xtc_9_1, xtc_9_2, xtc_9_3, xtc_9_4, xtc_9_5, xtc_9_6, xtc_9_7, xtc_9_8, xtc_9_9, xtc_10_0, xtc_10_1, xtc_10_2, xtc_10_3, xtc_10_4, xtc_10_5, xtc_10_6, xtc_10_7, xtc_10_8, xtc_10_9, xtc_10_10, xtc_10_11, xtc_10_12, xtc_10_13, xtc_10_14, xtc_10_15, xtc_10_16, xtc_10_17, xtc_10_18, xtc_10_19, xtc_10_20, xtc_10_21, xtc_10_22, xtc_10_23, xtc_10_24, xtc_10_25, eq_self, reduceIte, Nat.reduceEqDiff, Nat.reduceAdd, Nat.reduceSub, Nat.zero_ne_one, Nat.one_ne_zero, Nat.succ_ne_zero, Nat.reduceLeDiff, reduceCtorEq, and_true, true_and, and_false, false_and, true_implies, false_implies, implies_true, not_true_eq_false, not_false_eq_true, xN_0, xN_s, xlook_c, xlook_n, xb_nil, xb_cons, xlen, xl_cons, xst_def, xst2_def, xdl_nil, xdl_int, xdl_ref, xdl_long, xrv_some, xfit_int, xfit_long, xfit_ref, cat_int, cat_ref, cat_long, xret_int, xret_bool, or_true, true_or, Option.some.injEq, Value.int.injEq, Value.ref.injEq, Value.long.injEq, List.getElem?_cons_zero, List.getElem?_cons_succ, List.set_cons_zero, List.set_cons_succ, List.length_cons, List.length_nil, xup_xup, Classical.not_not, Nat.reduceLT, Nat.zero_lt_succ, xup_self, xup_ne, ne_eq, ra_len, ro_len, ra_get, ro_get, ra_set, ro_set, I_add, I_sub, I_lt, I_le, I_eq, I_in, I_b0, I_b01, b_eq0, b_eq1, Int.toNat_natCast, m1, x4, hkc]
  refine ⟨by omega, fun h => ?_, fun h => ⟨by omega, fun h2 => ?_, fun h2 => ?_⟩⟩
  · exact xX.loc _ (by simp) (loop k0 0 (by omega) h)
  · rw [← hQ, if_neg (by omega)]; exact ⟨rfl, rfl, rfl⟩
  · rw [← hQ, if_pos (by omega)]; exact ⟨rfl, rfl, rfl⟩
end MW
