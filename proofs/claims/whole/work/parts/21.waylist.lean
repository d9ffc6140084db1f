/-- an array of references of n places -/
def ro (n : Nat) (f : Nat → Option Nat) : List (Option Nat) := (List.range n).map f
theorem ro_len (n : Nat) (f : Nat → Option Nat) : (ro n f).length = n := by simp [ro]
theorem ro_get {n : Nat} {f : Nat → Option Nat} {j : Int} (h1 : 0 ≤ j) (h2 : j < n) (h3 : j < 2147483648) : (ro n f).getD (I j).toNatClampNeg none = f j.toNat := by
  rw [I_cl h1 h3]
  have : j.toNat < n := by omega
  simp [ro, List.getD_eq_getElem?_getD, this]
def fo (f : Nat → Option Nat) (k : Nat) (v : Option Nat) : Nat → Option Nat := fun j => if j = k then v else f j
theorem ro_set {n : Nat} {f : Nat → Option Nat} {j : Int} (h1 : 0 ≤ j) (h3 : j < 2147483648) (v : Option Nat) : (ro n f).set (I j).toNatClampNeg v = ro n (fo f j.toNat v) := by
  rw [I_cl h1 h3]
  apply List.ext_getElem?
  intro i
  by_cases hi : i < n
  · by_cases e : i = j.toNat
    · subst e; simp [ro, hi, fo]
    · rw [List.getElem?_set_ne (Ne.symm e)]; simp [ro, hi, fo, e]
  · simp [ro, hi, List.getElem?_set]
theorem ro_ext {n : Nat} {f g : Nat → Option Nat} (h : ∀ i, i < n → f i = g i) : ro n f = ro n g := by
  unfold ro
  apply List.map_congr_left
  intro i hi
  rw [h i (List.mem_range.mp hi)]
section WL
variable {l : Launch} {d n : Nat} {ws : xW}
theorem w_copyFrom {q steps : Nat} {a b cost : Int} {f ft : Nat → Int} (hq : q ≠ 12 ∧ q + 1 ≠ 12) (h1 : ws q = some (6, .inr (.inr (.inr [.int (I a), .int (I b), .ref (q + 1)])))) (h2 : ws (q + 1) = some (0, .inl (ra 9 f))) (h3 : ws 12 = some (0, .inl (ra 9 ft))) (hs : steps ≤ 9) : xM l tX6_copyFrom d 0 0 [.ref q, .ref 12, .int (I steps), .int (I cost)] n ws (fun r n' ws' => r = none ∧ n' = n ∧ ∃ f', (∀ j, j < steps → f' j = ft j) ∧ ws' = xup (xup ws (q + 1) (0, .inl (ra 9 f'))) q (6, .inr (.inr (.inr [.int (I steps), .int (I cost), .ref (q + 1)])))) := by
  generalize hQ : (fun (r : Option Value) (n' : Nat) (ws' : xW) => r = none ∧ n' = n ∧ ∃ f' : Nat → Int, (∀ j, j < steps → f' j = ft j) ∧ ws' = xup (xup ws (q + 1) (0, .inl (ra 9 f'))) q (6, .inr (.inr (.inr [.int (I steps), .int (I cost), .ref (q + 1)])))) = Q
  have hqq : ¬ q = q + 1 := by omega
  have h12 : ¬ 12 = q + 1 := fun e => hq.2 e.symm
  refine xM.of (by decide) (Nat.le_of_ble_eq_true rfl) ?_
  simp only [lv_args, cat_int, cat_ref, cat_long, reduceIte, Nat.reduceEqDiff, Nat.reduceAdd, Nat.one_ne_zero, Nat.reduceLeDiff]
  have loop : ∀ j i : Nat, i + j = steps → ∀ g : Nat → Int, (∀ k, k < i → g k = ft k) → xX l tX6_copyFrom d 0 0 Q 0 0 3 [(0, .ref q), (1, .ref 12), (2, .int (I steps)), (3, .int (I cost)), (4, .int (I i))] [] n (xup ws (q + 1) (0, .inl (ra 9 g))) := by
    intro j
    induction j with
    | zero =>
      intro i hi g hg
      refine xL_ok (t := tX6_copyFrom) rfl (ops := oX6_copyFrom_3) (by decide +kernel) (T := [(0, oX6_copyFrom_0), (26, oX6_copyFrom_26)]) (by decide +kernel) 1 ?_
      simp only [oX6_copyFrom_0, oX6_copyFrom_26, oX6_copyFrom_3, rX6_copyFrom, x_iconst, x_bipush, x_sipush, x_lconst, x_iload, x_lload, x_aload, x_istore, x_lstore, x_astore, x_iinc, x_iadd, x_isub, x_imul, x_iand, x_ior, x_ixor, x_ishl, x_ishr, x_ineg, x_ladd, x_lsub, x_lmul, x_ldiv, x_lrem, x_lcmp, x_i2l, x_l2i, x_dup, x_dup_x1, x_dup2, x_if_eq, x_if_ne, x_if_lt, x_if_ge, x_if_gt, x_if_le, x_ic_eq, x_ic_ne, x_ic_lt, x_ic_ge, x_ic_gt, x_ic_le, x_goto, x_ireturn, x_lreturn, x_return, x_getfield, x_putfield, x_iaload, x_baload, x_laload, x_aaload, x_iastore, x_bastore, x_lastore, x_aastore, x_arraylength, x_newarray, x_anewarray, x_new, x_iload_0, x_iload_1, x_iload_2, x_iload_3, x_lload_0, x_lload_1, x_lload_2, x_lload_3, x_aload_0, x_aload_1, x_aload_2, x_aload_3, x_istore_0, x_istore_1, x_istore_2, x_istore_3, x_lstore_0, x_lstore_1, x_lstore_2, x_lstore_3, x_astore_0, x_astore_1, x_astore_2, x_astore_3, q_bipush_m3, q_bipush_m2, q_bipush_6, q_bipush_7, q_bipush_9, q_bipush_10, q_bipush_24, q_bipush_30, q_bipush_48, q_bipush_100, q_sipush_300, q_sipush_1000, q_sipush_24001, q_l0, q_l1, xtc_0_0, xtc_0_1, xtc_0_2, xtc_0_3, xtc_0_4, xtc_0_5, xtc_1_0, xtc_1_1, xtc_1_2, xtc_2_0, xtc_2_1, xtc_3_0, xtc_4_0, xtc_4_1, xtc_4_2, xtc_4_3, xtc_4_4, xtc_4_5, xtc_4_6, xtc_4_7, xtc_4_8, xtc_4_9, xtc_4_10, xtc_4_11, xtc_4_12, xtc_5_0, xtc_5_1, xtc_5_2, xtc_5_3, xtc_5_4, xtc_5_5, xtc_5_6, xtc_6_0, xtc_6_1, xtc_6_2, xtc_7_0, xtc_7_1, xtc_8_0, xtc_8_1, xtc_8_2, xtc_8_3, xtc_9_0, xtc_9_1, xtc_9_2, xtc_9_3, xtc_9_4, xtc_9_5, xtc_9_6, xtc_9_7, xtc_9_8, xtc_9_9, xtc_10_0, xtc_10_1, xtc_10_2, xtc_10_3, xtc_10_4, xtc_10_5, xtc_10_6, xtc_10_7, xtc_10_8, xtc_10_9, xtc_10_10, xtc_10_11, xtc_10_12, xtc_10_13, xtc_10_14, xtc_10_15, xtc_10_16, xtc_10_17, xtc_10_18, xtc_10_19, xtc_10_20, xtc_10_21, xtc_10_22, xtc_10_23, xtc_10_24, xtc_10_25, eq_self, reduceIte, Nat.reduceEqDiff, Nat.reduceAdd, Nat.reduceSub, Nat.zero_ne_one, Nat.one_ne_zero, Nat.succ_ne_zero, Nat.reduceLeDiff, reduceCtorEq, and_true, true_and, and_false, false_and, true_implies, false_implies, implies_true, not_true_eq_false, not_false_eq_true, xN_0, xN_s, xlook_c, xlook_n, xb_nil, xb_cons, xlen, xl_cons, xst_def, xst2_def, xdl_nil, xdl_int, xdl_ref, xdl_long, xrv_some, xfit_int, xfit_long, xfit_ref, cat_int, cat_ref, cat_long, xret_int, xret_bool, or_true, true_or, Option.some.injEq, Value.int.injEq, Value.ref.injEq, Value.long.injEq, List.getElem?_cons_zero, List.getElem?_cons_succ, List.set_cons_zero, List.set_cons_succ, List.length_cons, List.length_nil, xup_xup, Classical.not_not, Nat.reduceLT, Nat.zero_lt_succ, h1, h2, h3, xup_self, xup_ne, ne_eq, hqq, h12, ra_len]
      simp (disch := omega) only [I_lt, I_le, I_eq, I_in, I_add, I_sub, I_mul, I_b0, I_b01, b_eq0, b_eq1, Classical.not_not, ra_get, ra_set, ra_len, Int.toNat_natCast, eq_self, true_and, and_true, ne_eq, not_false_eq_true, not_true_eq_false]
      refine ⟨fun _ => ?_, fun h => absurd h (by omega)⟩
      rw [← hQ]
      exact ⟨rfl, rfl, g, fun k hk => hg k (by omega), rfl⟩
    | succ j ih =>
      intro i hi g hg
      refine xL_ok (t := tX6_copyFrom) rfl (ops := oX6_copyFrom_3) (by decide +kernel) (T := [(0, oX6_copyFrom_0), (26, oX6_copyFrom_26)]) (by decide +kernel) 1 ?_
      simp only [oX6_copyFrom_0, oX6_copyFrom_26, oX6_copyFrom_3, rX6_copyFrom, x_iconst, x_bipush, x_sipush, x_lconst, x_iload, x_lload, x_aload, x_istore, x_lstore, x_astore, x_iinc, x_iadd, x_isub, x_imul, x_iand, x_ior, x_ixor, x_ishl, x_ishr, x_ineg, x_ladd, x_lsub, x_lmul, x_ldiv, x_lrem, x_lcmp, x_i2l, x_l2i, x_dup, x_dup_x1, x_dup2, x_if_eq, x_if_ne, x_if_lt, x_if_ge, x_if_gt, x_if_le, x_ic_eq, x_ic_ne, x_ic_lt, x_ic_ge, x_ic_gt, x_ic_le, x_goto, x_ireturn, x_lreturn, x_return, x_getfield, x_putfield, x_iaload, x_baload, x_laload, x_aaload, x_iastore, x_bastore, x_lastore, x_aastore, x_arraylength, x_newarray, x_anewarray, x_new, x_iload_0, x_iload_1, x_iload_2, x_iload_3, x_lload_0, x_lload_1, x_lload_2, x_lload_3, x_aload_0, x_aload_1, x_aload_2, x_aload_3, x_istore_0, x_istore_1, x_istore_2, x_istore_3, x_lstore_0, x_lstore_1, x_lstore_2, x_lstore_3, x_astore_0, x_astore_1, x_astore_2, x_astore_3, q_bipush_m3, q_bipush_m2, q_bipush_6, q_bipush_7, q_bipush_9, q_bipush_10, q_bipush_24, q_bipush_30, q_bipush_48, q_bipush_100, q_sipush_300, q_sipush_1000, q_sipush_24001, q_l0, q_l1, xtc_0_0, xtc_0_1, xtc_0_2, xtc_0_3, xtc_0_4, xtc_0_5, xtc_1_0, xtc_1_1, xtc_1_2, xtc_2_0, xtc_2_1, xtc_3_0, xtc_4_0, xtc_4_1, xtc_4_2, xtc_4_3, xtc_4_4, xtc_4_5, xtc_4_6, xtc_4_7, xtc_4_8, xtc_4_9, xtc_4_10, xtc_4_11, xtc_4_12, xtc_5_0, xtc_5_1, xtc_5_2, xtc_5_3, xtc_5_4, xtc_5_5, xtc_5_6, xtc_6_0, xtc_6_1, xtc_6_2, xtc_7_0, xtc_7_1, xtc_8_0, xtc_8_1, xtc_8_2, xtc_8_3, xtc_9_0, xtc_9_1, xtc_9_2, xtc_9_3, xtc_9_4, xtc_9_5, xtc_9_6, xtc_9_7, xtc_9_8, xtc_9_9, xtc_10_0, xtc_10_1, xtc_10_2, xtc_10_3, xtc_10_4, xtc_10_5, xtc_10_6, xtc_10_7, xtc_10_8, xtc_10_9, xtc_10_10, xtc_10_11, xtc_10_12, xtc_10_13, xtc_10_14, xtc_10_15, xtc_10_16, xtc_10_17, xtc_10_18, xtc_10_19, xtc_10_20, xtc_10_21, xtc_10_22, xtc_10_23, xtc_10_24, xtc_10_25, eq_self, reduceIte, Nat.reduceEqDiff, Nat.reduceAdd, Nat.reduceSub, Nat.zero_ne_one, Nat.one_ne_zero, Nat.succ_ne_zero, Nat.reduceLeDiff, reduceCtorEq, and_true, true_and, and_false, false_and, true_implies, false_implies, implies_true, not_true_eq_false, not_false_eq_true, xN_0, xN_s, xlook_c, xlook_n, xb_nil, xb_cons, xlen, xl_cons, xst_def, xst2_def, xdl_nil, xdl_int, xdl_ref, xdl_long, xrv_some, xfit_int, xfit_long, xfit_ref, cat_int, cat_ref, cat_long, xret_int, xret_bool, or_true, true_or, Option.some.injEq, Value.int.injEq, Value.ref.injEq, Value.long.injEq, List.getElem?_cons_zero, List.getElem?_cons_succ, List.set_cons_zero, List.set_cons_succ, List.length_cons, List.length_nil, xup_xup, Classical.not_not, Nat.reduceLT, Nat.zero_lt_succ, h1, h2, h3, xup_self, xup_ne, ne_eq, hqq, h12, ra_len]
      simp (disch := omega) only [I_lt, I_le, I_eq, I_in, I_add, I_sub, I_mul, I_b0, I_b01, b_eq0, b_eq1, Classical.not_not, ra_get, ra_set, ra_len, Int.toNat_natCast, eq_self, true_and, and_true, ne_eq, not_false_eq_true, not_true_eq_false]
      refine ⟨fun h => absurd h (by omega), fun _ => ⟨by omega, by omega, ?_⟩⟩
      refine xX.loc _ (by simp) (ih (i + 1) (by omega) (fu g i (ft i)) (fun k hk => ?_))
      by_cases e : k = i
      · subst e; exact fu_s _ _ _
      · rw [fu_n _ _ e]; exact hg k (by omega)
  refine xN_ok (t := tX6_copyFrom) rfl (T := AX6_copyFrom) aX6_copyFrom 1 _ _ _ _ _ _ _ ?_
  simp only [AX6_copyFrom, oX6_copyFrom_0, oX6_copyFrom_3, oX6_copyFrom_26, rX6_copyFrom, x_iconst, x_bipush, x_sipush, x_lconst, x_iload, x_lload, x_aload, x_istore, x_lstore, x_astore, x_iinc, x_iadd, x_isub, x_imul, x_iand, x_ior, x_ixor, x_ishl, x_ishr, x_ineg, x_ladd, x_lsub, x_lmul, x_ldiv, x_lrem, x_lcmp, x_i2l, x_l2i, x_dup, x_dup_x1, x_dup2, x_if_eq, x_if_ne, x_if_lt, x_if_ge, x_if_gt, x_if_le, x_ic_eq, x_ic_ne, x_ic_lt, x_ic_ge, x_ic_gt, x_ic_le, x_goto, x_ireturn, x_lreturn, x_return, x_getfield, x_putfield, x_iaload, x_baload, x_laload, x_aaload, x_iastore, x_bastore, x_lastore, x_aastore, x_arraylength, x_newarray, x_anewarray, x_new, x_iload_0, x_iload_1, x_iload_2, x_iload_3, x_lload_0, x_lload_1, x_lload_2, x_lload_3, x_aload_0, x_aload_1, x_aload_2, x_aload_3, x_istore_0, x_istore_1, x_istore_2, x_istore_3, x_lstore_0, x_lstore_1, x_lstore_2, x_lstore_3, x_astore_0, x_astore_1, x_astore_2, x_astore_3, q_bipush_m3, q_bipush_m2, q_bipush_6, q_bipush_7, q_bipush_9, q_bipush_10, q_bipush_24, q_bipush_30, q_bipush_48, q_bipush_100, q_sipush_300, q_sipush_1000, q_sipush_24001, q_l0, q_l1, xtc_0_0, xtc_0_1, xtc_0_2, xtc_0_3, xtc_0_4, xtc_0_5, xtc_1_0, xtc_1_1, xtc_1_2, xtc_2_0, xtc_2_1, xtc_3_0, xtc_4_0, xtc_4_1, xtc_4_2, xtc_4_3, xtc_4_4, xtc_4_5, xtc_4_6, xtc_4_7, xtc_4_8, xtc_4_9, xtc_4_10, xtc_4_11, xtc_4_12, xtc_5_0, xtc_5_1, xtc_5_2, xtc_5_3, xtc_5_4, xtc_5_5, xtc_5_6, xtc_6_0, xtc_6_1, xtc_6_2, xtc_7_0, xtc_7_1, xtc_8_0, xtc_8_1, xtc_8_2, xtc_8_3, xtc_9_0, xtc_9_1, xtc_9_2, xtc_9_3, xtc_9_4, xtc_9_5, xtc_9_6, xtc_9_7, xtc_9_8, xtc_9_9, xtc_10_0, xtc_10_1, xtc_10_2, xtc_10_3, xtc_10_4, xtc_10_5, xtc_10_6, xtc_10_7, xtc_10_8, xtc_10_9, xtc_10_10, xtc_10_11, xtc_10_12, xtc_10_13, xtc_10_14, xtc_10_15, xtc_10_16, xtc_10_17, xtc_10_18, xtc_10_19, xtc_10_20, xtc_10_21, xtc_10_22, xtc_10_23, xtc_10_24, xtc_10_25, eq_self, reduceIte, Nat.reduceEqDiff, Nat.reduceAdd, Nat.reduceSub, Nat.zero_ne_one, Nat.one_ne_zero, Nat.succ_ne_zero, Nat.reduceLeDiff, reduceCtorEq, and_true, true_and, and_false, false_and, true_implies, false_implies, implies_true, not_true_eq_false, not_false_eq_true, xN_0, xN_s, xlook_c, xlook_n, xb_nil, xb_cons, xlen, xl_cons, xst_def, xst2_def, xdl_nil, xdl_int, xdl_ref, xdl_long, xrv_some, xfit_int, xfit_long, xfit_ref, cat_int, cat_ref, cat_long, xret_int, xret_bool, or_true, true_or, Option.some.injEq, Value.int.injEq, Value.ref.injEq, Value.long.injEq, List.getElem?_cons_zero, List.getElem?_cons_succ, List.set_cons_zero, List.set_cons_succ, List.length_cons, List.length_nil, xup_xup, Classical.not_not, Nat.reduceLT, Nat.zero_lt_succ]
  have := loop steps 0 (by omega) f (fun k hk => absurd hk (by omega))
  rw [xup_id h2] at this
  exact xX.loc _ (by simp) this
/-- the list of a good's ways: at B the list, at B + 1 its items, from B + 2 on the ways, each with its arcs behind it -/
def WLx (ws : xW) (B m : Nat) (p : Nat → Nat) (ln co : Nat → Int) (fa : Nat → Nat → Int) : Prop :=
  ws B = some (7, .inr (.inr (.inr [.int (I m), .ref (B + 1)]))) ∧ ws (B + 1) = some (3, .inr (.inr (.inl (ro 5 (fun k => some (B + 2 + 2 * p k)))))) ∧ (∀ j, j < 5 → ws (B + 2 + 2 * j) = some (6, .inr (.inr (.inr [.int (I (ln j)), .int (I (co j)), .ref (B + 2 + 2 * j + 1)])))) ∧ (∀ j, j < 5 → ws (B + 2 + 2 * j + 1) = some (0, .inl (ra 9 (fa j))))
def WLd (l : List Wy) (p : Nat → Nat) (ln co : Nat → Int) (fa : Nat → Nat → Int) : Prop :=
  (∀ k, k < 5 → p k < 5) ∧ (∀ k j, k < 5 → j < 5 → p k = p j → k = j) ∧ l.length ≤ 5 ∧ ∀ (k : Nat) (x : Wy), l[k]? = some x → co (p k) = x.1 ∧ ln (p k) = x.2.length ∧ x.2.length ≤ 9 ∧ 0 ≤ x.1 ∧ x.1 ≤ 900 ∧ ∀ (i a : Nat), x.2[i]? = some a → fa (p k) i = a
def WLAt (ws : xW) (B : Nat) (l : List Wy) : Prop := ∃ p ln co fa, WLx ws B l.length p ln co fa ∧ WLd l p ln co fa
theorem WLAt.keep {ws ws' : xW} {B : Nat} {l : List Wy} (h : WLAt ws B l) (hq : ∀ q, B ≤ q → q < B + 12 → ws' q = ws q) : WLAt ws' B l := by
  obtain ⟨p, ln, co, fa, ⟨h1, h2, h3, h4⟩, h5⟩ := h
  exact ⟨p, ln, co, fa, ⟨(hq _ (by omega) (by omega)).trans h1, (hq _ (by omega) (by omega)).trans h2, fun j hj => (hq _ (by omega) (by omega)).trans (h3 j hj), fun j hj => (hq _ (by omega) (by omega)).trans (h4 j hj)⟩, h5⟩
theorem w_has {B : Nat} {L : List Wy} (hW : WLAt ws B L) {v : Int} (h1 : -2147483648 ≤ v) (h2 : v < 2147483648) : xM l tX7_has d 0 0 [.ref B, .int (I v)] n ws (fun r n' ws' => r = some (.int (I (if 0 ≤ v ∧ v < L.length then 1 else 0))) ∧ n' = n ∧ ws' = ws) := by
  obtain ⟨p, ln, co, fa, ⟨c1, c2, c3, c4⟩, d1, d2, d3, d4⟩ := hW
  refine xM.of (by decide) (Nat.le_of_ble_eq_true rfl) ?_
  simp only [lv_args, cat_int, cat_ref, cat_long, reduceIte, Nat.reduceEqDiff, Nat.reduceAdd, Nat.one_ne_zero, Nat.reduceLeDiff]
  refine xN_ok (t := tX7_has) rfl (T := AX7_has) aX7_has 4 _ _ _ _ _ _ _ ?_
  simp only [AX7_has, oX7_has_0, oX7_has_16, oX7_has_17, rX7_has, x_iconst, x_bipush, x_sipush, x_lconst, x_iload, x_lload, x_aload, x_istore, x_lstore, x_astore, x_iinc, x_iadd, x_isub, x_imul, x_iand, x_ior, x_ixor, x_ishl, x_ishr, x_ineg, x_ladd, x_lsub, x_lmul, x_ldiv, x_lrem, x_lcmp, x_i2l, x_l2i, x_dup, x_dup_x1, x_dup2, x_if_eq, x_if_ne, x_if_lt, x_if_ge, x_if_gt, x_if_le, x_ic_eq, x_ic_ne, x_ic_lt, x_ic_ge, x_ic_gt, x_ic_le, x_goto, x_ireturn, x_lreturn, x_return, x_getfield, x_putfield, x_iaload, x_baload, x_laload, x_aaload, x_iastore, x_bastore, x_lastore, x_aastore, x_arraylength, x_newarray, x_anewarray, x_new, x_iload_0, x_iload_1, x_iload_2, x_iload_3, x_lload_0, x_lload_1, x_lload_2, x_lload_3, x_aload_0, x_aload_1, x_aload_2, x_aload_3, x_istore_0, x_istore_1, x_istore_2, x_istore_3, x_lstore_0, x_lstore_1, x_lstore_2, x_lstore_3, x_astore_0, x_astore_1, x_astore_2, x_astore_3, q_bipush_m3, q_bipush_m2, q_bipush_6, q_bipush_7, q_bipush_9, q_bipush_10, q_bipush_24, q_bipush_30, q_bipush_48, q_bipush_100, q_sipush_300, q_sipush_1000, q_sipush_24001, q_l0, q_l1, xtc_0_0, xtc_0_1, xtc_0_2, xtc_0_3, xtc_0_4, xtc_0_5, xtc_1_0, xtc_1_1, xtc_1_2, xtc_2_0, xtc_2_1, xtc_3_0, xtc_4_0, xtc_4_1, xtc_4_2, xtc_4_3, xtc_4_4, xtc_4_5, xtc_4_6, xtc_4_7, xtc_4_8, xtc_4_9, xtc_4_10, xtc_4_11, xtc_4_12, xtc_5_0, xtc_5_1, xtc_5_2, xtc_5_3, xtc_5_4, xtc_5_5, xtc_5_6, xtc_6_0, xtc_6_1, xtc_6_2, xtc_7_0, xtc_7_1, xtc_8_0, xtc_8_1, xtc_8_2, xtc_8_3, xtc_9_0, xtc_9_1, xtc_9_2, xtc_9_3, xtc_9_4, xtc_9_5, xtc_9_6, xtc_9_7, xtc_9_8, xtc_9_9, xtc_10_0, xtc_10_1, xtc_10_2, xtc_10_3, xtc_10_4, xtc_10_5, xtc_10_6, xtc_10_7, xtc_10_8, xtc_10_9, xtc_10_10, xtc_10_11, xtc_10_12, xtc_10_13, xtc_10_14, xtc_10_15, xtc_10_16, xtc_10_17, xtc_10_18, xtc_10_19, xtc_10_20, xtc_10_21, xtc_10_22, xtc_10_23, xtc_10_24, xtc_10_25, eq_self, reduceIte, Nat.reduceEqDiff, Nat.reduceAdd, Nat.reduceSub, Nat.zero_ne_one, Nat.one_ne_zero, Nat.succ_ne_zero, Nat.reduceLeDiff, reduceCtorEq, and_true, true_and, and_false, false_and, true_implies, false_implies, implies_true, not_true_eq_false, not_false_eq_true, xN_0, xN_s, xlook_c, xlook_n, xb_nil, xb_cons, xlen, xl_cons, xst_def, xst2_def, xdl_nil, xdl_int, xdl_ref, xdl_long, xrv_some, xfit_int, xfit_long, xfit_ref, cat_int, cat_ref, cat_long, xret_int, xret_bool, or_true, true_or, Option.some.injEq, Value.int.injEq, Value.ref.injEq, Value.long.injEq, List.getElem?_cons_zero, List.getElem?_cons_succ, List.set_cons_zero, List.set_cons_succ, List.length_cons, List.length_nil, xup_xup, Classical.not_not, Nat.reduceLT, Nat.zero_lt_succ, c1]
  simp (disch := omega) only [I_lt, I_le, I_eq, I_in, I_add, I_sub, I_mul, I_b0, I_b01, b_eq0, b_eq1, Classical.not_not, ra_get, ra_set, ra_len, Int.toNat_natCast, eq_self, true_and, and_true, ne_eq, not_false_eq_true, not_true_eq_false]
  refine ⟨fun h => ?_, fun h => ⟨fun h3 => ?_, fun h3 => ?_⟩⟩
  · rw [if_neg (by omega)]
  · rw [if_neg (by omega)]
  · rw [if_pos (by omega)]
theorem w_hasPlaceFor {B : Nat} {L : List Wy} (hW : WLAt ws B L) {v : Int} (h1 : -2147483648 ≤ v) (h2 : v < 2147483648) : xM l tX7_hasPlaceFor d 0 0 [.ref B, .int (I v)] n ws (fun r n' ws' => r = some (.int (I (if L.length < 5 ∨ (∀ z, L[4]? = some z → v < z.1) then 1 else 0))) ∧ n' = n ∧ ws' = ws) := by
  obtain ⟨p, ln, co, fa, ⟨c1, c2, c3, c4⟩, d1, d2, d3, d4⟩ := hW
  have e4 := c3 (p 4) (d1 4 (by omega))
  have g4 : (ro 5 (fun k => some (B + 2 + 2 * p k))).getD (I 4).toNatClampNeg none = some (B + 2 + 2 * p 4) := ro_get (by omega) (by omega) (by omega)
  refine xM.of (by decide) (Nat.le_of_ble_eq_true rfl) ?_
  simp only [lv_args, cat_int, cat_ref, cat_long, reduceIte, Nat.reduceEqDiff, Nat.reduceAdd, Nat.one_ne_zero, Nat.reduceLeDiff]
  by_cases h5 : L.length < 5
  · refine xN_ok (t := tX7_hasPlaceFor) rfl (T := AX7_hasPlaceFor) aX7_hasPlaceFor 4 _ _ _ _ _ _ _ ?_
    simp only [AX7_hasPlaceFor, oX7_hasPlaceFor_0, oX7_hasPlaceFor_21, oX7_hasPlaceFor_25, oX7_hasPlaceFor_26, rX7_hasPlaceFor, x_iconst, x_bipush, x_sipush, x_lconst, x_iload, x_lload, x_aload, x_istore, x_lstore, x_astore, x_iinc, x_iadd, x_isub, x_imul, x_iand, x_ior, x_ixor, x_ishl, x_ishr, x_ineg, x_ladd, x_lsub, x_lmul, x_ldiv, x_lrem, x_lcmp, x_i2l, x_l2i, x_dup, x_dup_x1, x_dup2, x_if_eq, x_if_ne, x_if_lt, x_if_ge, x_if_gt, x_if_le, x_ic_eq, x_ic_ne, x_ic_lt, x_ic_ge, x_ic_gt, x_ic_le, x_goto, x_ireturn, x_lreturn, x_return, x_getfield, x_putfield, x_iaload, x_baload, x_laload, x_aaload, x_iastore, x_bastore, x_lastore, x_aastore, x_arraylength, x_newarray, x_anewarray, x_new, x_iload_0, x_iload_1, x_iload_2, x_iload_3, x_lload_0, x_lload_1, x_lload_2, x_lload_3, x_aload_0, x_aload_1, x_aload_2, x_aload_3, x_istore_0, x_istore_1, x_istore_2, x_istore_3, x_lstore_0, x_lstore_1, x_lstore_2, x_lstore_3, x_astore_0, x_astore_1, x_astore_2, x_astore_3, q_bipush_m3, q_bipush_m2, q_bipush_6, q_bipush_7, q_bipush_9, q_bipush_10, q_bipush_24, q_bipush_30, q_bipush_48, q_bipush_100, q_sipush_300, q_sipush_1000, q_sipush_24001, q_l0, q_l1, xtc_0_0, xtc_0_1, xtc_0_2, xtc_0_3, xtc_0_4, xtc_0_5, xtc_1_0, xtc_1_1, xtc_1_2, xtc_2_0, xtc_2_1, xtc_3_0, xtc_4_0, xtc_4_1, xtc_4_2, xtc_4_3, xtc_4_4, xtc_4_5, xtc_4_6, xtc_4_7, xtc_4_8, xtc_4_9, xtc_4_10, xtc_4_11, xtc_4_12, xtc_5_0, xtc_5_1, xtc_5_2, xtc_5_3, xtc_5_4, xtc_5_5, xtc_5_6, xtc_6_0, xtc_6_1, xtc_6_2, xtc_7_0, xtc_7_1, xtc_8_0, xtc_8_1, xtc_8_2, xtc_8_3, xtc_9_0, xtc_9_1, xtc_9_2, xtc_9_3, xtc_9_4, xtc_9_5, xtc_9_6, xtc_9_7, xtc_9_8, xtc_9_9, xtc_10_0, xtc_10_1, xtc_10_2, xtc_10_3, xtc_10_4, xtc_10_5, xtc_10_6, xtc_10_7, xtc_10_8, xtc_10_9, xtc_10_10, xtc_10_11, xtc_10_12, xtc_10_13, xtc_10_14, xtc_10_15, xtc_10_16, xtc_10_17, xtc_10_18, xtc_10_19, xtc_10_20, xtc_10_21, xtc_10_22, xtc_10_23, xtc_10_24, xtc_10_25, eq_self, reduceIte, Nat.reduceEqDiff, Nat.reduceAdd, Nat.reduceSub, Nat.zero_ne_one, Nat.one_ne_zero, Nat.succ_ne_zero, Nat.reduceLeDiff, reduceCtorEq, and_true, true_and, and_false, false_and, true_implies, false_implies, implies_true, not_true_eq_false, not_false_eq_true, xN_0, xN_s, xlook_c, xlook_n, xb_nil, xb_cons, xlen, xl_cons, xst_def, xst2_def, xdl_nil, xdl_int, xdl_ref, xdl_long, xrv_some, xfit_int, xfit_long, xfit_ref, cat_int, cat_ref, cat_long, xret_int, xret_bool, or_true, true_or, Option.some.injEq, Value.int.injEq, Value.ref.injEq, Value.long.injEq, List.getElem?_cons_zero, List.getElem?_cons_succ, List.set_cons_zero, List.set_cons_succ, List.length_cons, List.length_nil, xup_xup, Classical.not_not, Nat.reduceLT, Nat.zero_lt_succ, c1, c2, e4, ro_len, g4]
    simp (disch := omega) only [I_lt, I_le, I_eq, I_in, I_add, I_sub, I_mul, I_b0, I_b01, b_eq0, b_eq1, Classical.not_not, ra_get, ra_set, ra_len, Int.toNat_natCast, eq_self, true_and, and_true, ne_eq, not_false_eq_true, not_true_eq_false]
    exact ⟨fun _ => by simp [h5], fun h => absurd h (by omega)⟩
  · obtain ⟨z, hz⟩ : ∃ z, L[4]? = some z := ⟨L[4], List.getElem?_eq_getElem (by omega)⟩
    obtain ⟨q1, q2, q3, q4, q5, q6⟩ := d4 4 z hz
    refine xN_ok (t := tX7_hasPlaceFor) rfl (T := AX7_hasPlaceFor) aX7_hasPlaceFor 4 _ _ _ _ _ _ _ ?_
    simp only [AX7_hasPlaceFor, oX7_hasPlaceFor_0, oX7_hasPlaceFor_21, oX7_hasPlaceFor_25, oX7_hasPlaceFor_26, rX7_hasPlaceFor, x_iconst, x_bipush, x_sipush, x_lconst, x_iload, x_lload, x_aload, x_istore, x_lstore, x_astore, x_iinc, x_iadd, x_isub, x_imul, x_iand, x_ior, x_ixor, x_ishl, x_ishr, x_ineg, x_ladd, x_lsub, x_lmul, x_ldiv, x_lrem, x_lcmp, x_i2l, x_l2i, x_dup, x_dup_x1, x_dup2, x_if_eq, x_if_ne, x_if_lt, x_if_ge, x_if_gt, x_if_le, x_ic_eq, x_ic_ne, x_ic_lt, x_ic_ge, x_ic_gt, x_ic_le, x_goto, x_ireturn, x_lreturn, x_return, x_getfield, x_putfield, x_iaload, x_baload, x_laload, x_aaload, x_iastore, x_bastore, x_lastore, x_aastore, x_arraylength, x_newarray, x_anewarray, x_new, x_iload_0, x_iload_1, x_iload_2, x_iload_3, x_lload_0, x_lload_1, x_lload_2, x_lload_3, x_aload_0, x_aload_1, x_aload_2, x_aload_3, x_istore_0, x_istore_1, x_istore_2, x_istore_3, x_lstore_0, x_lstore_1, x_lstore_2, x_lstore_3, x_astore_0, x_astore_1, x_astore_2, x_astore_3, q_bipush_m3, q_bipush_m2, q_bipush_6, q_bipush_7, q_bipush_9, q_bipush_10, q_bipush_24, q_bipush_30, q_bipush_48, q_bipush_100, q_sipush_300, q_sipush_1000, q_sipush_24001, q_l0, q_l1, xtc_0_0, xtc_0_1, xtc_0_2, xtc_0_3, xtc_0_4, xtc_0_5, xtc_1_0, xtc_1_1, xtc_1_2, xtc_2_0, xtc_2_1, xtc_3_0, xtc_4_0, xtc_4_1, xtc_4_2, xtc_4_3, xtc_4_4, xtc_4_5, xtc_4_6, xtc_4_7, xtc_4_8, xtc_4_9, xtc_4_10, xtc_4_11, xtc_4_12, xtc_5_0, xtc_5_1, xtc_5_2, xtc_5_3, xtc_5_4, xtc_5_5, xtc_5_6, xtc_6_0, xtc_6_1, xtc_6_2, xtc_7_0, xtc_7_1, xtc_8_0, xtc_8_1, xtc_8_2, xtc_8_3, xtc_9_0, xtc_9_1, xtc_9_2, xtc_9_3, xtc_9_4, xtc_9_5, xtc_9_6, xtc_9_7, xtc_9_8, xtc_9_9, xtc_10_0, xtc_10_1, xtc_10_2, xtc_10_3, xtc_10_4, xtc_10_5, xtc_10_6, xtc_10_7, xtc_10_8, xtc_10_9, xtc_10_10, xtc_10_11, xtc_10_12, xtc_10_13, xtc_10_14, xtc_10_15, xtc_10_16, xtc_10_17, xtc_10_18, xtc_10_19, xtc_10_20, xtc_10_21, xtc_10_22, xtc_10_23, xtc_10_24, xtc_10_25, eq_self, reduceIte, Nat.reduceEqDiff, Nat.reduceAdd, Nat.reduceSub, Nat.zero_ne_one, Nat.one_ne_zero, Nat.succ_ne_zero, Nat.reduceLeDiff, reduceCtorEq, and_true, true_and, and_false, false_and, true_implies, false_implies, implies_true, not_true_eq_false, not_false_eq_true, xN_0, xN_s, xlook_c, xlook_n, xb_nil, xb_cons, xlen, xl_cons, xst_def, xst2_def, xdl_nil, xdl_int, xdl_ref, xdl_long, xrv_some, xfit_int, xfit_long, xfit_ref, cat_int, cat_ref, cat_long, xret_int, xret_bool, or_true, true_or, Option.some.injEq, Value.int.injEq, Value.ref.injEq, Value.long.injEq, List.getElem?_cons_zero, List.getElem?_cons_succ, List.set_cons_zero, List.set_cons_succ, List.length_cons, List.length_nil, xup_xup, Classical.not_not, Nat.reduceLT, Nat.zero_lt_succ, c1, c2, e4, ro_len, g4]
    rw [q1]
    simp (disch := omega) only [I_lt, I_le, I_eq, I_in, I_add, I_sub, I_mul, I_b0, I_b01, b_eq0, b_eq1, Classical.not_not, ra_get, ra_set, ra_len, Int.toNat_natCast, eq_self, true_and, and_true, ne_eq, not_false_eq_true, not_true_eq_false]
    refine ⟨fun h => absurd h (by omega), fun _ => ⟨by omega, fun h => ?_, fun h => ?_⟩⟩
    · rw [if_neg]
      rintro (h6 | h6)
      · exact h5 h6
      · have := h6 z hz; omega
    · rw [if_pos]
      exact Or.inr (fun z' hz' => by rw [hz] at hz'; cases hz'; omega)
/-- where a way of a cost goes in a sorted list -/
def cnt (l : List Wy) (c : Int) : Nat := match l with
  | [] => 0
  | y :: l => if y.1 ≤ c then cnt l c + 1 else 0
theorem cnt_le (l : List Wy) (c : Int) : cnt l c ≤ l.length := by
  induction l with
  | nil => simp [cnt]
  | cons y l ih => unfold cnt; split <;> simp; omega
theorem insS_cnt (l : List Wy) (x : Wy) : insS l x = l.take (cnt l x.1) ++ x :: l.drop (cnt l x.1) := by
  induction l with
  | nil => simp [insS, cnt]
  | cons y l ih =>
    unfold insS cnt
    split
    · simp [ih]
    · simp
theorem cnt_lt {l : List Wy} {c : Int} : ∀ {k : Nat} {z : Wy}, l[k]? = some z → k < cnt l c → z.1 ≤ c := by
  induction l with
  | nil => intro k z h; simp at h
  | cons y l ih =>
    intro k z h hk
    unfold cnt at hk
    split at hk
    · next hy =>
      cases k with
      | zero => simp at h; subst h; exact hy
      | succ k => exact ih (by simpa using h) (by omega)
    · omega
theorem cnt_ge {l : List Wy} {c : Int} (hs : srt l) : ∀ {k : Nat} {z : Wy}, l[k]? = some z → cnt l c ≤ k → c < z.1 := by
  induction l with
  | nil => intro k z h; simp at h
  | cons y l ih =>
    intro k z h hk
    have hp := List.pairwise_cons.mp hs
    unfold cnt at hk
    split at hk
    · cases k with
      | zero => omega
      | succ k => exact ih hp.2 (by simpa using h) (by omega)
    · next hy =>
      cases k with
      | zero => simp at h; subst h; omega
      | succ k =>
        have hm : z ∈ l := List.mem_of_getElem? (by simpa using h)
        have := hp.1 z hm
        omega
/-- the first five, place by place -/
theorem ins5_get {l : List Wy} {x : Wy} {k : Nat} (hk : k < 5) : (ins5 l x)[k]? = if k < cnt l x.1 then l[k]? else if k = cnt l x.1 then some x else l[k - 1]? := by
  have hc := cnt_le l x.1
  unfold ins5
  rw [List.getElem?_take_of_lt hk, insS_cnt]
  by_cases h1 : k < cnt l x.1
  · rw [if_pos h1, List.getElem?_append_left (by rw [List.length_take]; omega), List.getElem?_take_of_lt h1]
  · rw [if_neg h1, List.getElem?_append_right (by rw [List.length_take]; omega), List.length_take, Nat.min_eq_left hc]
    by_cases h2 : k = cnt l x.1
    · rw [if_pos h2, h2]; simp
    · rw [if_neg h2]
      obtain ⟨j, hj⟩ : ∃ j, k - cnt l x.1 = j + 1 := ⟨k - cnt l x.1 - 1, by omega⟩
      rw [hj, List.getElem?_cons_succ, List.getElem?_drop]
      congr 1
      omega
end WL
